theorem dX0_init_0 : decode cX0_init 0 = .ok (.aload_n 0, 1) := by decide +kernel
theorem dX0_init_1 : decode cX0_init 1 = .ok (.invokespecial 3, 3) := by decide +kernel
theorem dX0_init_4 : decode cX0_init 4 = .ok (.aload_n 0, 1) := by decide +kernel
theorem dX0_init_5 : decode cX0_init 5 = .ok (.sipush 242, 3) := by decide +kernel
theorem dX0_init_8 : decode cX0_init 8 = .ok (.newarray .long, 2) := by decide +kernel
theorem dX0_init_10 : decode cX0_init 10 = .ok (.putfield 11, 3) := by decide +kernel
theorem dX0_init_13 : decode cX0_init 13 = .ok (.return_, 1) := by decide +kernel
theorem dX0_placeOf_0 : decode cX0_placeOf 0 = .ok (.iload_n 0, 1) := by decide +kernel
theorem dX0_placeOf_1 : decode cX0_placeOf 1 = .ok (.ifCond .lt 28, 3) := by decide +kernel
theorem dX0_placeOf_4 : decode cX0_placeOf 4 = .ok (.iload_n 0, 1) := by decide +kernel
theorem dX0_placeOf_5 : decode cX0_placeOf 5 = .ok (.iconst 1, 1) := by decide +kernel
theorem dX0_placeOf_6 : decode cX0_placeOf 6 = .ok (.if_icmp .gt 23, 3) := by decide +kernel
theorem dX0_placeOf_9 : decode cX0_placeOf 9 = .ok (.iload_n 1, 1) := by decide +kernel
theorem dX0_placeOf_10 : decode cX0_placeOf 10 = .ok (.ifCond .lt 19, 3) := by decide +kernel
theorem dX0_placeOf_13 : decode cX0_placeOf 13 = .ok (.iload_n 1, 1) := by decide +kernel
theorem dX0_placeOf_14 : decode cX0_placeOf 14 = .ok (.bipush 11, 2) := by decide +kernel
theorem dX0_placeOf_16 : decode cX0_placeOf 16 = .ok (.if_icmp .ge 13, 3) := by decide +kernel
theorem dX0_placeOf_19 : decode cX0_placeOf 19 = .ok (.iload_n 2, 1) := by decide +kernel
theorem dX0_placeOf_20 : decode cX0_placeOf 20 = .ok (.ifCond .lt 9, 3) := by decide +kernel
theorem dX0_placeOf_23 : decode cX0_placeOf 23 = .ok (.iload_n 2, 1) := by decide +kernel
theorem dX0_placeOf_24 : decode cX0_placeOf 24 = .ok (.bipush 11, 2) := by decide +kernel
theorem dX0_placeOf_26 : decode cX0_placeOf 26 = .ok (.if_icmp .lt 5, 3) := by decide +kernel
theorem dX0_placeOf_29 : decode cX0_placeOf 29 = .ok (.iconst (-1), 1) := by decide +kernel
theorem dX0_placeOf_30 : decode cX0_placeOf 30 = .ok (.ireturn, 1) := by decide +kernel
theorem dX0_placeOf_31 : decode cX0_placeOf 31 = .ok (.iload_n 0, 1) := by decide +kernel
theorem dX0_placeOf_32 : decode cX0_placeOf 32 = .ok (.bipush 11, 2) := by decide +kernel
theorem dX0_placeOf_34 : decode cX0_placeOf 34 = .ok (.imul, 1) := by decide +kernel
theorem dX0_placeOf_35 : decode cX0_placeOf 35 = .ok (.iload_n 1, 1) := by decide +kernel
theorem dX0_placeOf_36 : decode cX0_placeOf 36 = .ok (.iadd, 1) := by decide +kernel
theorem dX0_placeOf_37 : decode cX0_placeOf 37 = .ok (.bipush 11, 2) := by decide +kernel
theorem dX0_placeOf_39 : decode cX0_placeOf 39 = .ok (.imul, 1) := by decide +kernel
theorem dX0_placeOf_40 : decode cX0_placeOf 40 = .ok (.iload_n 2, 1) := by decide +kernel
theorem dX0_placeOf_41 : decode cX0_placeOf 41 = .ok (.iadd, 1) := by decide +kernel
theorem dX0_placeOf_42 : decode cX0_placeOf 42 = .ok (.ireturn, 1) := by decide +kernel
set_option maxRecDepth 20000 in
theorem ggX0_at_X0_placeOf : GoodIn wsX0_at wsX0_placeOf := goodIn_r _ [5] (by decide +kernel) (by decide +kernel)
set_option maxRecDepth 20000 in
theorem gX0_at_X0_placeOf : GoodIn wsX0_at (va_wsS RX0 15 yX0_placeOf wsX0_placeOf) := goodIn_app (goodIn_of _ (by decide +kernel)) ggX0_at_X0_placeOf
theorem dX0_at_0 : decode cX0_at 0 = .ok (.iload_n 1, 1) := by decide +kernel
theorem dX0_at_1 : decode cX0_at 1 = .ok (.iload_n 2, 1) := by decide +kernel
theorem dX0_at_2 : decode cX0_at 2 = .ok (.iload_n 3, 1) := by decide +kernel
theorem dX0_at_3 : decode cX0_at 3 = .ok (.invokestatic 15, 3) := by decide +kernel
theorem dX0_at_6 : decode cX0_at 6 = .ok (.istore 4, 2) := by decide +kernel
theorem dX0_at_8 : decode cX0_at 8 = .ok (.iload 4, 2) := by decide +kernel
theorem dX0_at_10 : decode cX0_at 10 = .ok (.ifCond .lt 23, 3) := by decide +kernel
theorem dX0_at_13 : decode cX0_at 13 = .ok (.iload 4, 2) := by decide +kernel
theorem dX0_at_15 : decode cX0_at 15 = .ok (.aload_n 0, 1) := by decide +kernel
theorem dX0_at_16 : decode cX0_at 16 = .ok (.getfield 11, 3) := by decide +kernel
theorem dX0_at_19 : decode cX0_at 19 = .ok (.arraylength, 1) := by decide +kernel
theorem dX0_at_20 : decode cX0_at 20 = .ok (.if_icmp .ge 13, 3) := by decide +kernel
theorem dX0_at_23 : decode cX0_at 23 = .ok (.aload_n 0, 1) := by decide +kernel
theorem dX0_at_24 : decode cX0_at 24 = .ok (.getfield 11, 3) := by decide +kernel
theorem dX0_at_27 : decode cX0_at 27 = .ok (.iload 4, 2) := by decide +kernel
theorem dX0_at_29 : decode cX0_at 29 = .ok (.laload, 1) := by decide +kernel
theorem dX0_at_30 : decode cX0_at 30 = .ok (.goto 4, 3) := by decide +kernel
theorem dX0_at_33 : decode cX0_at 33 = .ok (.lconst 0, 1) := by decide +kernel
theorem dX0_at_34 : decode cX0_at 34 = .ok (.lreturn, 1) := by decide +kernel
set_option maxRecDepth 20000 in
theorem ggX0_add_X0_placeOf : GoodIn wsX0_add wsX0_placeOf := goodIn_r _ [5] (by decide +kernel) (by decide +kernel)
set_option maxRecDepth 20000 in
theorem gX0_add_X0_placeOf : GoodIn wsX0_add (va_wsS RX0 15 yX0_placeOf wsX0_placeOf) := goodIn_app (goodIn_of _ (by decide +kernel)) ggX0_add_X0_placeOf
theorem dX0_add_0 : decode cX0_add 0 = .ok (.iload_n 1, 1) := by decide +kernel
theorem dX0_add_1 : decode cX0_add 1 = .ok (.iload_n 2, 1) := by decide +kernel
theorem dX0_add_2 : decode cX0_add 2 = .ok (.iload_n 3, 1) := by decide +kernel
theorem dX0_add_3 : decode cX0_add 3 = .ok (.invokestatic 15, 3) := by decide +kernel
theorem dX0_add_6 : decode cX0_add 6 = .ok (.istore 6, 2) := by decide +kernel
theorem dX0_add_8 : decode cX0_add 8 = .ok (.iload 6, 2) := by decide +kernel
theorem dX0_add_10 : decode cX0_add 10 = .ok (.ifCond .lt 25, 3) := by decide +kernel
theorem dX0_add_13 : decode cX0_add 13 = .ok (.iload 6, 2) := by decide +kernel
theorem dX0_add_15 : decode cX0_add 15 = .ok (.aload_n 0, 1) := by decide +kernel
theorem dX0_add_16 : decode cX0_add 16 = .ok (.getfield 11, 3) := by decide +kernel
theorem dX0_add_19 : decode cX0_add 19 = .ok (.arraylength, 1) := by decide +kernel
theorem dX0_add_20 : decode cX0_add 20 = .ok (.if_icmp .ge 15, 3) := by decide +kernel
theorem dX0_add_23 : decode cX0_add 23 = .ok (.aload_n 0, 1) := by decide +kernel
theorem dX0_add_24 : decode cX0_add 24 = .ok (.getfield 11, 3) := by decide +kernel
theorem dX0_add_27 : decode cX0_add 27 = .ok (.iload 6, 2) := by decide +kernel
theorem dX0_add_29 : decode cX0_add 29 = .ok (.dup2, 1) := by decide +kernel
theorem dX0_add_30 : decode cX0_add 30 = .ok (.laload, 1) := by decide +kernel
theorem dX0_add_31 : decode cX0_add 31 = .ok (.lload 4, 2) := by decide +kernel
theorem dX0_add_33 : decode cX0_add 33 = .ok (.ladd, 1) := by decide +kernel
theorem dX0_add_34 : decode cX0_add 34 = .ok (.lastore, 1) := by decide +kernel
theorem dX0_add_35 : decode cX0_add 35 = .ok (.return_, 1) := by decide +kernel
set_option maxRecDepth 20000 in
theorem ggX0_clear_J7_fill_d0a16 : GoodIn wsX0_clear wsJ7_fill_d0a16 := goodIn_r _ [5] (by decide +kernel) (by decide +kernel)
set_option maxRecDepth 20000 in
theorem gX0_clear_J7_fill_d0a16 : GoodIn wsX0_clear (va_wsS RX0 19 yJ7_fill_d0a16 wsJ7_fill_d0a16) := goodIn_app (goodIn_of _ (by decide +kernel)) ggX0_clear_J7_fill_d0a16
theorem dX0_clear_0 : decode cX0_clear 0 = .ok (.aload_n 0, 1) := by decide +kernel
theorem dX0_clear_1 : decode cX0_clear 1 = .ok (.getfield 11, 3) := by decide +kernel
theorem dX0_clear_4 : decode cX0_clear 4 = .ok (.lconst 0, 1) := by decide +kernel
theorem dX0_clear_5 : decode cX0_clear 5 = .ok (.invokestatic 19, 3) := by decide +kernel
theorem dX0_clear_8 : decode cX0_clear 8 = .ok (.return_, 1) := by decide +kernel
set_option maxRecDepth 20000 in
theorem ggX1_init_X0_init : GoodIn wsX1_init wsX0_init := goodIn_r _ [11, 12, 2, 3, 13, 14, 15] (by decide +kernel) (by decide +kernel)
set_option maxRecDepth 20000 in
theorem gX1_init_X0_init_n11 : GoodIn wsX1_init (wsX0_init) := ggX1_init_X0_init
theorem dX1_init_0 : decode cX1_init 0 = .ok (.aload_n 0, 1) := by decide +kernel
theorem dX1_init_1 : decode cX1_init 1 = .ok (.invokespecial 3, 3) := by decide +kernel
theorem dX1_init_4 : decode cX1_init 4 = .ok (.aload_n 0, 1) := by decide +kernel
theorem dX1_init_5 : decode cX1_init 5 = .ok (.new 9, 3) := by decide +kernel
theorem dX1_init_8 : decode cX1_init 8 = .ok (.dup, 1) := by decide +kernel
theorem dX1_init_9 : decode cX1_init 9 = .ok (.invokespecial 11, 3) := by decide +kernel
theorem dX1_init_12 : decode cX1_init 12 = .ok (.putfield 12, 3) := by decide +kernel
theorem dX1_init_15 : decode cX1_init 15 = .ok (.aload_n 0, 1) := by decide +kernel
theorem dX1_init_16 : decode cX1_init 16 = .ok (.iconst (-1), 1) := by decide +kernel
theorem dX1_init_17 : decode cX1_init 17 = .ok (.putfield 18, 3) := by decide +kernel
theorem dX1_init_20 : decode cX1_init 20 = .ok (.aload_n 0, 1) := by decide +kernel
theorem dX1_init_21 : decode cX1_init 21 = .ok (.aload_n 1, 1) := by decide +kernel
theorem dX1_init_22 : decode cX1_init 22 = .ok (.putfield 22, 3) := by decide +kernel
theorem dX1_init_25 : decode cX1_init 25 = .ok (.return_, 1) := by decide +kernel
set_option maxRecDepth 20000 in
theorem ggX1_retell_X0_clear : GoodIn wsX1_retell wsX0_clear := goodIn_r _ [12, 13, 14, 15, 16, 17, 66] (by decide +kernel) (by decide +kernel)
set_option maxRecDepth 20000 in
theorem gX1_retell_X0_clear : GoodIn wsX1_retell (wsV RX1 38 RX0 yX0_clear wsX0_clear) := goodIn_app (goodIn_of _ (by decide +kernel)) ggX1_retell_X0_clear
set_option maxRecDepth 20000 in
theorem ggX1_retell_X4_begin : GoodIn wsX1_retell wsX4_begin := goodIn_r _ [22, 23, 24, 25, 9, 10, 11, 12, 13, 14, 15, 16, 17, 26, 27, 28, 29, 30, 31, 32, 67, 68, 66] (by decide +kernel) (by decide +kernel)
set_option maxRecDepth 20000 in
theorem gX1_retell_X4_begin : GoodIn wsX1_retell (wsV RX1 41 RX4 yX4_begin wsX4_begin) := goodIn_app (goodIn_of _ (by decide +kernel)) ggX1_retell_X4_begin
set_option maxRecDepth 20000 in
theorem ggX1_retell_X1_goOn : GoodIn wsX1_retell wsX1_goOn := goodIn_r _ [37, 7, 3, 1, 2, 6, 4, 5, 38, 39, 40, 11, 41, 13, 30, 31, 32, 42, 43, 44, 45, 27, 28, 29, 46, 47, 48, 49, 50, 51, 52, 53, 54, 59, 60, 61, 62, 63, 64, 65, 67, 68, 66] (by decide +kernel) (by decide +kernel)
set_option maxRecDepth 20000 in
theorem gX1_retell_X1_goOn : GoodIn wsX1_retell (wsV RX1 47 RX1 yX1_goOn wsX1_goOn) := goodIn_app (goodIn_of _ (by decide +kernel)) ggX1_retell_X1_goOn
set_option maxRecDepth 20000 in
theorem ggX1_retell_X4_stepOn : GoodIn wsX1_retell wsX4_stepOn := goodIn_r _ [58, 23, 24, 25, 9, 10, 11, 12, 13, 14, 15, 16, 17, 67, 68, 66] (by decide +kernel) (by decide +kernel)
set_option maxRecDepth 20000 in
theorem gX1_retell_X4_stepOn : GoodIn wsX1_retell (wsV RX1 51 RX4 yX4_stepOn wsX4_stepOn) := goodIn_app (goodIn_of _ (by decide +kernel)) ggX1_retell_X4_stepOn
theorem dX1_retell_0 : decode cX1_retell 0 = .ok (.aload_n 0, 1) := by decide +kernel
theorem dX1_retell_1 : decode cX1_retell 1 = .ok (.getfield 18, 3) := by decide +kernel
theorem dX1_retell_4 : decode cX1_retell 4 = .ok (.iload_n 1, 1) := by decide +kernel
theorem dX1_retell_5 : decode cX1_retell 5 = .ok (.if_icmp .ne 38, 3) := by decide +kernel
theorem dX1_retell_8 : decode cX1_retell 8 = .ok (.aload_n 0, 1) := by decide +kernel
theorem dX1_retell_9 : decode cX1_retell 9 = .ok (.getfield 26, 3) := by decide +kernel
theorem dX1_retell_12 : decode cX1_retell 12 = .ok (.iload_n 2, 1) := by decide +kernel
theorem dX1_retell_13 : decode cX1_retell 13 = .ok (.if_icmp .ne 30, 3) := by decide +kernel
theorem dX1_retell_16 : decode cX1_retell 16 = .ok (.aload_n 0, 1) := by decide +kernel
theorem dX1_retell_17 : decode cX1_retell 17 = .ok (.getfield 29, 3) := by decide +kernel
theorem dX1_retell_20 : decode cX1_retell 20 = .ok (.iload_n 3, 1) := by decide +kernel
theorem dX1_retell_21 : decode cX1_retell 21 = .ok (.if_icmp .ne 22, 3) := by decide +kernel
theorem dX1_retell_24 : decode cX1_retell 24 = .ok (.aload_n 0, 1) := by decide +kernel
theorem dX1_retell_25 : decode cX1_retell 25 = .ok (.getfield 32, 3) := by decide +kernel
theorem dX1_retell_28 : decode cX1_retell 28 = .ok (.iload 4, 2) := by decide +kernel
theorem dX1_retell_30 : decode cX1_retell 30 = .ok (.if_icmp .ne 13, 3) := by decide +kernel
theorem dX1_retell_33 : decode cX1_retell 33 = .ok (.aload_n 0, 1) := by decide +kernel
theorem dX1_retell_34 : decode cX1_retell 34 = .ok (.getfield 35, 3) := by decide +kernel
theorem dX1_retell_37 : decode cX1_retell 37 = .ok (.iload 5, 2) := by decide +kernel
theorem dX1_retell_39 : decode cX1_retell 39 = .ok (.if_icmp .ne 4, 3) := by decide +kernel
theorem dX1_retell_42 : decode cX1_retell 42 = .ok (.return_, 1) := by decide +kernel
theorem dX1_retell_43 : decode cX1_retell 43 = .ok (.aload_n 0, 1) := by decide +kernel
theorem dX1_retell_44 : decode cX1_retell 44 = .ok (.iload_n 1, 1) := by decide +kernel
theorem dX1_retell_45 : decode cX1_retell 45 = .ok (.putfield 18, 3) := by decide +kernel
theorem dX1_retell_48 : decode cX1_retell 48 = .ok (.aload_n 0, 1) := by decide +kernel
theorem dX1_retell_49 : decode cX1_retell 49 = .ok (.iload_n 2, 1) := by decide +kernel
theorem dX1_retell_50 : decode cX1_retell 50 = .ok (.putfield 26, 3) := by decide +kernel
theorem dX1_retell_53 : decode cX1_retell 53 = .ok (.aload_n 0, 1) := by decide +kernel
theorem dX1_retell_54 : decode cX1_retell 54 = .ok (.iload_n 3, 1) := by decide +kernel
theorem dX1_retell_55 : decode cX1_retell 55 = .ok (.putfield 29, 3) := by decide +kernel
theorem dX1_retell_58 : decode cX1_retell 58 = .ok (.aload_n 0, 1) := by decide +kernel
theorem dX1_retell_59 : decode cX1_retell 59 = .ok (.iload 4, 2) := by decide +kernel
theorem dX1_retell_61 : decode cX1_retell 61 = .ok (.putfield 32, 3) := by decide +kernel
theorem dX1_retell_64 : decode cX1_retell 64 = .ok (.aload_n 0, 1) := by decide +kernel
theorem dX1_retell_65 : decode cX1_retell 65 = .ok (.iload 5, 2) := by decide +kernel
theorem dX1_retell_67 : decode cX1_retell 67 = .ok (.putfield 35, 3) := by decide +kernel
theorem dX1_retell_70 : decode cX1_retell 70 = .ok (.aload_n 0, 1) := by decide +kernel
theorem dX1_retell_71 : decode cX1_retell 71 = .ok (.getfield 12, 3) := by decide +kernel
theorem dX1_retell_74 : decode cX1_retell 74 = .ok (.invokevirtual 38, 3) := by decide +kernel
theorem dX1_retell_77 : decode cX1_retell 77 = .ok (.aload_n 0, 1) := by decide +kernel
theorem dX1_retell_78 : decode cX1_retell 78 = .ok (.getfield 22, 3) := by decide +kernel
theorem dX1_retell_81 : decode cX1_retell 81 = .ok (.aload_n 0, 1) := by decide +kernel
theorem dX1_retell_82 : decode cX1_retell 82 = .ok (.getfield 32, 3) := by decide +kernel
theorem dX1_retell_85 : decode cX1_retell 85 = .ok (.invokevirtual 41, 3) := by decide +kernel
theorem dX1_retell_88 : decode cX1_retell 88 = .ok (.iconst 1, 1) := by decide +kernel
theorem dX1_retell_89 : decode cX1_retell 89 = .ok (.istore 6, 2) := by decide +kernel
theorem dX1_retell_91 : decode cX1_retell 91 = .ok (.iload 6, 2) := by decide +kernel
theorem dX1_retell_93 : decode cX1_retell 93 = .ok (.aload_n 0, 1) := by decide +kernel
theorem dX1_retell_94 : decode cX1_retell 94 = .ok (.getfield 29, 3) := by decide +kernel
theorem dX1_retell_97 : decode cX1_retell 97 = .ok (.if_icmp .gt 70, 3) := by decide +kernel
theorem dX1_retell_100 : decode cX1_retell 100 = .ok (.iconst 0, 1) := by decide +kernel
theorem dX1_retell_101 : decode cX1_retell 101 = .ok (.istore 7, 2) := by decide +kernel
theorem dX1_retell_103 : decode cX1_retell 103 = .ok (.iload 7, 2) := by decide +kernel
theorem dX1_retell_105 : decode cX1_retell 105 = .ok (.iload 6, 2) := by decide +kernel
theorem dX1_retell_107 : decode cX1_retell 107 = .ok (.if_icmp .gt 47, 3) := by decide +kernel
theorem dX1_retell_110 : decode cX1_retell 110 = .ok (.iconst 0, 1) := by decide +kernel
theorem dX1_retell_111 : decode cX1_retell 111 = .ok (.istore 8, 2) := by decide +kernel
theorem dX1_retell_113 : decode cX1_retell 113 = .ok (.iload 8, 2) := by decide +kernel
theorem dX1_retell_115 : decode cX1_retell 115 = .ok (.iload 7, 2) := by decide +kernel
theorem dX1_retell_117 : decode cX1_retell 117 = .ok (.if_icmp .gt 31, 3) := by decide +kernel
theorem dX1_retell_120 : decode cX1_retell 120 = .ok (.aload_n 0, 1) := by decide +kernel
theorem dX1_retell_121 : decode cX1_retell 121 = .ok (.iconst 0, 1) := by decide +kernel
theorem dX1_retell_122 : decode cX1_retell 122 = .ok (.iload 6, 2) := by decide +kernel
theorem dX1_retell_124 : decode cX1_retell 124 = .ok (.iload 7, 2) := by decide +kernel
theorem dX1_retell_126 : decode cX1_retell 126 = .ok (.iload 8, 2) := by decide +kernel
theorem dX1_retell_128 : decode cX1_retell 128 = .ok (.invokevirtual 47, 3) := by decide +kernel
theorem dX1_retell_131 : decode cX1_retell 131 = .ok (.aload_n 0, 1) := by decide +kernel
theorem dX1_retell_132 : decode cX1_retell 132 = .ok (.iconst 1, 1) := by decide +kernel
theorem dX1_retell_133 : decode cX1_retell 133 = .ok (.iload 6, 2) := by decide +kernel
theorem dX1_retell_135 : decode cX1_retell 135 = .ok (.iload 7, 2) := by decide +kernel
theorem dX1_retell_137 : decode cX1_retell 137 = .ok (.iload 8, 2) := by decide +kernel
theorem dX1_retell_139 : decode cX1_retell 139 = .ok (.invokevirtual 47, 3) := by decide +kernel
theorem dX1_retell_142 : decode cX1_retell 142 = .ok (.iinc 8 1, 3) := by decide +kernel
theorem dX1_retell_145 : decode cX1_retell 145 = .ok (.goto (-32), 3) := by decide +kernel
theorem dX1_retell_148 : decode cX1_retell 148 = .ok (.iinc 7 1, 3) := by decide +kernel
theorem dX1_retell_151 : decode cX1_retell 151 = .ok (.goto (-48), 3) := by decide +kernel
theorem dX1_retell_154 : decode cX1_retell 154 = .ok (.aload_n 0, 1) := by decide +kernel
theorem dX1_retell_155 : decode cX1_retell 155 = .ok (.getfield 22, 3) := by decide +kernel
theorem dX1_retell_158 : decode cX1_retell 158 = .ok (.invokevirtual 51, 3) := by decide +kernel
theorem dX1_retell_161 : decode cX1_retell 161 = .ok (.iinc 6 1, 3) := by decide +kernel
theorem dX1_retell_164 : decode cX1_retell 164 = .ok (.goto (-73), 3) := by decide +kernel
theorem dX1_retell_167 : decode cX1_retell 167 = .ok (.return_, 1) := by decide +kernel
set_option maxRecDepth 20000 in
theorem ggX1_goOn_X0_at : GoodIn wsX1_goOn wsX0_at := goodIn_r _ [12, 13, 14, 15, 11, 16, 42] (by decide +kernel) (by decide +kernel)
set_option maxRecDepth 20000 in
theorem gX1_goOn_X0_at : GoodIn wsX1_goOn (wsV RX1 57 RX0 yX0_at wsX0_at) := goodIn_app (goodIn_of _ (by decide +kernel)) ggX1_goOn_X0_at
set_option maxRecDepth 20000 in
theorem ggX1_goOn_X5_lawStops : GoodIn wsX1_goOn wsX5_lawStops := goodIn_r _ [19] (by decide +kernel) (by decide +kernel)
set_option maxRecDepth 20000 in
theorem gX1_goOn_X5_lawStops_n61 : GoodIn wsX1_goOn (wsX5_lawStops) := ggX1_goOn_X5_lawStops
set_option maxRecDepth 20000 in
theorem ggX1_goOn_X0_add : GoodIn wsX1_goOn wsX0_add := goodIn_r _ [23, 13, 14, 15, 11, 16, 42] (by decide +kernel) (by decide +kernel)
set_option maxRecDepth 20000 in
theorem gX1_goOn_X0_add : GoodIn wsX1_goOn (wsV RX1 69 RX0 yX0_add wsX0_add) := goodIn_app (goodIn_of _ (by decide +kernel)) ggX1_goOn_X0_add
set_option maxRecDepth 20000 in
theorem ggX1_goOn_X5_chanceOfOne : GoodIn wsX1_goOn wsX5_chanceOfOne := goodIn_r _ [25, 26, 27, 28, 29, 30, 31, 32] (by decide +kernel) (by decide +kernel)
set_option maxRecDepth 20000 in
theorem gX1_goOn_X5_chanceOfOne_n73 : GoodIn wsX1_goOn (wsX5_chanceOfOne) := ggX1_goOn_X5_chanceOfOne
theorem dX1_goOn_0 : decode cX1_goOn 0 = .ok (.aload_n 0, 1) := by decide +kernel
theorem dX1_goOn_1 : decode cX1_goOn 1 = .ok (.getfield 22, 3) := by decide +kernel
theorem dX1_goOn_4 : decode cX1_goOn 4 = .ok (.getfield 54, 3) := by decide +kernel
theorem dX1_goOn_7 : decode cX1_goOn 7 = .ok (.iload_n 1, 1) := by decide +kernel
theorem dX1_goOn_8 : decode cX1_goOn 8 = .ok (.iload_n 3, 1) := by decide +kernel
theorem dX1_goOn_9 : decode cX1_goOn 9 = .ok (.iload 4, 2) := by decide +kernel
theorem dX1_goOn_11 : decode cX1_goOn 11 = .ok (.invokevirtual 57, 3) := by decide +kernel
theorem dX1_goOn_14 : decode cX1_goOn 14 = .ok (.lstore 5, 2) := by decide +kernel
theorem dX1_goOn_16 : decode cX1_goOn 16 = .ok (.lload 5, 2) := by decide +kernel
theorem dX1_goOn_18 : decode cX1_goOn 18 = .ok (.lconst 0, 1) := by decide +kernel
theorem dX1_goOn_19 : decode cX1_goOn 19 = .ok (.lcmp, 1) := by decide +kernel
theorem dX1_goOn_20 : decode cX1_goOn 20 = .ok (.ifCond .ne 4, 3) := by decide +kernel
theorem dX1_goOn_23 : decode cX1_goOn 23 = .ok (.return_, 1) := by decide +kernel
theorem dX1_goOn_24 : decode cX1_goOn 24 = .ok (.iload_n 2, 1) := by decide +kernel
theorem dX1_goOn_25 : decode cX1_goOn 25 = .ok (.iload_n 3, 1) := by decide +kernel
theorem dX1_goOn_26 : decode cX1_goOn 26 = .ok (.isub, 1) := by decide +kernel
theorem dX1_goOn_27 : decode cX1_goOn 27 = .ok (.istore 7, 2) := by decide +kernel
theorem dX1_goOn_29 : decode cX1_goOn 29 = .ok (.iload_n 2, 1) := by decide +kernel
theorem dX1_goOn_30 : decode cX1_goOn 30 = .ok (.aload_n 0, 1) := by decide +kernel
theorem dX1_goOn_31 : decode cX1_goOn 31 = .ok (.getfield 29, 3) := by decide +kernel
theorem dX1_goOn_34 : decode cX1_goOn 34 = .ok (.if_icmp .ge 22, 3) := by decide +kernel
theorem dX1_goOn_37 : decode cX1_goOn 37 = .ok (.aload_n 0, 1) := by decide +kernel
theorem dX1_goOn_38 : decode cX1_goOn 38 = .ok (.getfield 18, 3) := by decide +kernel
theorem dX1_goOn_41 : decode cX1_goOn 41 = .ok (.aload_n 0, 1) := by decide +kernel
theorem dX1_goOn_42 : decode cX1_goOn 42 = .ok (.getfield 26, 3) := by decide +kernel
theorem dX1_goOn_45 : decode cX1_goOn 45 = .ok (.iload_n 3, 1) := by decide +kernel
theorem dX1_goOn_46 : decode cX1_goOn 46 = .ok (.iload 7, 2) := by decide +kernel
theorem dX1_goOn_48 : decode cX1_goOn 48 = .ok (.iload 4, 2) := by decide +kernel
theorem dX1_goOn_50 : decode cX1_goOn 50 = .ok (.invokestatic 61, 3) := by decide +kernel
theorem dX1_goOn_53 : decode cX1_goOn 53 = .ok (.ifCond .eq 43, 3) := by decide +kernel
theorem dX1_goOn_56 : decode cX1_goOn 56 = .ok (.iload_n 2, 1) := by decide +kernel
theorem dX1_goOn_57 : decode cX1_goOn 57 = .ok (.ifCond .lt 19, 3) := by decide +kernel
theorem dX1_goOn_60 : decode cX1_goOn 60 = .ok (.iload_n 2, 1) := by decide +kernel
theorem dX1_goOn_61 : decode cX1_goOn 61 = .ok (.getstatic 65, 3) := by decide +kernel
theorem dX1_goOn_64 : decode cX1_goOn 64 = .ok (.arraylength, 1) := by decide +kernel
theorem dX1_goOn_65 : decode cX1_goOn 65 = .ok (.if_icmp .ge 11, 3) := by decide +kernel
theorem dX1_goOn_68 : decode cX1_goOn 68 = .ok (.getstatic 65, 3) := by decide +kernel
theorem dX1_goOn_71 : decode cX1_goOn 71 = .ok (.iload_n 2, 1) := by decide +kernel
theorem dX1_goOn_72 : decode cX1_goOn 72 = .ok (.laload, 1) := by decide +kernel
theorem dX1_goOn_73 : decode cX1_goOn 73 = .ok (.goto 4, 3) := by decide +kernel
theorem dX1_goOn_76 : decode cX1_goOn 76 = .ok (.lconst 0, 1) := by decide +kernel
theorem dX1_goOn_77 : decode cX1_goOn 77 = .ok (.lstore 8, 2) := by decide +kernel
theorem dX1_goOn_79 : decode cX1_goOn 79 = .ok (.aload_n 0, 1) := by decide +kernel
theorem dX1_goOn_80 : decode cX1_goOn 80 = .ok (.getfield 12, 3) := by decide +kernel
theorem dX1_goOn_83 : decode cX1_goOn 83 = .ok (.iload_n 1, 1) := by decide +kernel
theorem dX1_goOn_84 : decode cX1_goOn 84 = .ok (.iload_n 3, 1) := by decide +kernel
theorem dX1_goOn_85 : decode cX1_goOn 85 = .ok (.iload 7, 2) := by decide +kernel
theorem dX1_goOn_87 : decode cX1_goOn 87 = .ok (.lload 5, 2) := by decide +kernel
theorem dX1_goOn_89 : decode cX1_goOn 89 = .ok (.lload 8, 2) := by decide +kernel
theorem dX1_goOn_91 : decode cX1_goOn 91 = .ok (.lmul, 1) := by decide +kernel
theorem dX1_goOn_92 : decode cX1_goOn 92 = .ok (.invokevirtual 69, 3) := by decide +kernel
theorem dX1_goOn_95 : decode cX1_goOn 95 = .ok (.return_, 1) := by decide +kernel
theorem dX1_goOn_96 : decode cX1_goOn 96 = .ok (.aload_n 0, 1) := by decide +kernel
theorem dX1_goOn_97 : decode cX1_goOn 97 = .ok (.getfield 32, 3) := by decide +kernel
theorem dX1_goOn_100 : decode cX1_goOn 100 = .ok (.aload_n 0, 1) := by decide +kernel
theorem dX1_goOn_101 : decode cX1_goOn 101 = .ok (.getfield 35, 3) := by decide +kernel
theorem dX1_goOn_104 : decode cX1_goOn 104 = .ok (.iload_n 2, 1) := by decide +kernel
theorem dX1_goOn_105 : decode cX1_goOn 105 = .ok (.iload 4, 2) := by decide +kernel
theorem dX1_goOn_107 : decode cX1_goOn 107 = .ok (.invokestatic 73, 3) := by decide +kernel
theorem dX1_goOn_110 : decode cX1_goOn 110 = .ok (.istore 8, 2) := by decide +kernel
theorem dX1_goOn_112 : decode cX1_goOn 112 = .ok (.aload_n 0, 1) := by decide +kernel
theorem dX1_goOn_113 : decode cX1_goOn 113 = .ok (.getfield 22, 3) := by decide +kernel
theorem dX1_goOn_116 : decode cX1_goOn 116 = .ok (.getfield 77, 3) := by decide +kernel
theorem dX1_goOn_119 : decode cX1_goOn 119 = .ok (.iload_n 1, 1) := by decide +kernel
theorem dX1_goOn_120 : decode cX1_goOn 120 = .ok (.iload_n 3, 1) := by decide +kernel
theorem dX1_goOn_121 : decode cX1_goOn 121 = .ok (.iconst 1, 1) := by decide +kernel
theorem dX1_goOn_122 : decode cX1_goOn 122 = .ok (.iadd, 1) := by decide +kernel
theorem dX1_goOn_123 : decode cX1_goOn 123 = .ok (.iload 4, 2) := by decide +kernel
theorem dX1_goOn_125 : decode cX1_goOn 125 = .ok (.iconst 1, 1) := by decide +kernel
theorem dX1_goOn_126 : decode cX1_goOn 126 = .ok (.iadd, 1) := by decide +kernel
theorem dX1_goOn_127 : decode cX1_goOn 127 = .ok (.lload 5, 2) := by decide +kernel
theorem dX1_goOn_129 : decode cX1_goOn 129 = .ok (.iload 8, 2) := by decide +kernel
theorem dX1_goOn_131 : decode cX1_goOn 131 = .ok (.i2l, 1) := by decide +kernel
theorem dX1_goOn_132 : decode cX1_goOn 132 = .ok (.lmul, 1) := by decide +kernel
theorem dX1_goOn_133 : decode cX1_goOn 133 = .ok (.invokevirtual 69, 3) := by decide +kernel
theorem dX1_goOn_136 : decode cX1_goOn 136 = .ok (.aload_n 0, 1) := by decide +kernel
theorem dX1_goOn_137 : decode cX1_goOn 137 = .ok (.getfield 22, 3) := by decide +kernel
theorem dX1_goOn_140 : decode cX1_goOn 140 = .ok (.getfield 77, 3) := by decide +kernel
theorem dX1_goOn_143 : decode cX1_goOn 143 = .ok (.iload_n 1, 1) := by decide +kernel
theorem dX1_goOn_144 : decode cX1_goOn 144 = .ok (.iload_n 3, 1) := by decide +kernel
theorem dX1_goOn_145 : decode cX1_goOn 145 = .ok (.iconst 0, 1) := by decide +kernel
theorem dX1_goOn_146 : decode cX1_goOn 146 = .ok (.lload 5, 2) := by decide +kernel
theorem dX1_goOn_148 : decode cX1_goOn 148 = .ok (.bipush 12, 2) := by decide +kernel
theorem dX1_goOn_150 : decode cX1_goOn 150 = .ok (.iload 8, 2) := by decide +kernel
theorem dX1_goOn_152 : decode cX1_goOn 152 = .ok (.isub, 1) := by decide +kernel
theorem dX1_goOn_153 : decode cX1_goOn 153 = .ok (.i2l, 1) := by decide +kernel
theorem dX1_goOn_154 : decode cX1_goOn 154 = .ok (.lmul, 1) := by decide +kernel
theorem dX1_goOn_155 : decode cX1_goOn 155 = .ok (.invokevirtual 69, 3) := by decide +kernel
theorem dX1_goOn_158 : decode cX1_goOn 158 = .ok (.return_, 1) := by decide +kernel
set_option maxRecDepth 20000 in
theorem ggX1_families_X0_at : GoodIn wsX1_families wsX0_at := goodIn_r _ [6, 7, 8, 9, 5, 10, 18] (by decide +kernel) (by decide +kernel)
set_option maxRecDepth 20000 in
theorem gX1_families_X0_at : GoodIn wsX1_families (wsV RX1 57 RX0 yX0_at wsX0_at) := goodIn_app (goodIn_of _ (by decide +kernel)) ggX1_families_X0_at
theorem dX1_families_0 : decode cX1_families 0 = .ok (.aload_n 0, 1) := by decide +kernel
theorem dX1_families_1 : decode cX1_families 1 = .ok (.getfield 12, 3) := by decide +kernel
theorem dX1_families_4 : decode cX1_families 4 = .ok (.iconst 0, 1) := by decide +kernel
theorem dX1_families_5 : decode cX1_families 5 = .ok (.iload_n 1, 1) := by decide +kernel
theorem dX1_families_6 : decode cX1_families 6 = .ok (.iload_n 2, 1) := by decide +kernel
theorem dX1_families_7 : decode cX1_families 7 = .ok (.invokevirtual 57, 3) := by decide +kernel
theorem dX1_families_10 : decode cX1_families 10 = .ok (.aload_n 0, 1) := by decide +kernel
theorem dX1_families_11 : decode cX1_families 11 = .ok (.getfield 12, 3) := by decide +kernel
theorem dX1_families_14 : decode cX1_families 14 = .ok (.iconst 1, 1) := by decide +kernel
theorem dX1_families_15 : decode cX1_families 15 = .ok (.iload_n 1, 1) := by decide +kernel
theorem dX1_families_16 : decode cX1_families 16 = .ok (.iload_n 2, 1) := by decide +kernel
theorem dX1_families_17 : decode cX1_families 17 = .ok (.invokevirtual 57, 3) := by decide +kernel
theorem dX1_families_20 : decode cX1_families 20 = .ok (.ladd, 1) := by decide +kernel
theorem dX1_families_21 : decode cX1_families 21 = .ok (.lreturn, 1) := by decide +kernel
set_option maxRecDepth 20000 in
theorem ggX1_familiesFrom_X0_at : GoodIn wsX1_familiesFrom wsX0_at := goodIn_r _ [6, 7, 8, 9, 5, 10, 18] (by decide +kernel) (by decide +kernel)
set_option maxRecDepth 20000 in
theorem gX1_familiesFrom_X0_at : GoodIn wsX1_familiesFrom (wsV RX1 57 RX0 yX0_at wsX0_at) := goodIn_app (goodIn_of _ (by decide +kernel)) ggX1_familiesFrom_X0_at
theorem dX1_familiesFrom_0 : decode cX1_familiesFrom 0 = .ok (.aload_n 0, 1) := by decide +kernel
theorem dX1_familiesFrom_1 : decode cX1_familiesFrom 1 = .ok (.getfield 12, 3) := by decide +kernel
theorem dX1_familiesFrom_4 : decode cX1_familiesFrom 4 = .ok (.iload_n 1, 1) := by decide +kernel
theorem dX1_familiesFrom_5 : decode cX1_familiesFrom 5 = .ok (.iload_n 2, 1) := by decide +kernel
theorem dX1_familiesFrom_6 : decode cX1_familiesFrom 6 = .ok (.iload_n 3, 1) := by decide +kernel
theorem dX1_familiesFrom_7 : decode cX1_familiesFrom 7 = .ok (.invokevirtual 57, 3) := by decide +kernel
theorem dX1_familiesFrom_10 : decode cX1_familiesFrom 10 = .ok (.lreturn, 1) := by decide +kernel
set_option maxRecDepth 20000 in
theorem ggX1_sum_X1_families : GoodIn wsX1_sum wsX1_families := goodIn_r _ [6, 7, 8, 9, 10, 11, 12, 13, 14, 15, 16, 20, 21, 22, 23, 24, 25, 26, 27] (by decide +kernel) (by decide +kernel)
set_option maxRecDepth 20000 in
theorem gX1_sum_X1_families : GoodIn wsX1_sum (wsV RX1 80 RX1 yX1_families wsX1_families) := goodIn_app (goodIn_of _ (by decide +kernel)) ggX1_sum_X1_families
set_option maxRecDepth 20000 in
theorem ggX1_sum_X1_measured : GoodIn wsX1_sum wsX1_measured := goodIn_r _ [19] (by decide +kernel) (by decide +kernel)
set_option maxRecDepth 20000 in
theorem gX1_sum_X1_measured : GoodIn wsX1_sum (va_wsS RX1 84 yX1_measured wsX1_measured) := goodIn_app (goodIn_of _ (by decide +kernel)) ggX1_sum_X1_measured
theorem dX1_sum_0 : decode cX1_sum 0 = .ok (.lconst 0, 1) := by decide +kernel
theorem dX1_sum_1 : decode cX1_sum 1 = .ok (.lstore_n 3, 1) := by decide +kernel
theorem dX1_sum_2 : decode cX1_sum 2 = .ok (.iconst 0, 1) := by decide +kernel
theorem dX1_sum_3 : decode cX1_sum 3 = .ok (.istore 5, 2) := by decide +kernel
theorem dX1_sum_5 : decode cX1_sum 5 = .ok (.iload 5, 2) := by decide +kernel
theorem dX1_sum_7 : decode cX1_sum 7 = .ok (.aload_n 0, 1) := by decide +kernel
theorem dX1_sum_8 : decode cX1_sum 8 = .ok (.getfield 29, 3) := by decide +kernel
theorem dX1_sum_11 : decode cX1_sum 11 = .ok (.if_icmp .gt 62, 3) := by decide +kernel
theorem dX1_sum_14 : decode cX1_sum 14 = .ok (.iconst 0, 1) := by decide +kernel
theorem dX1_sum_15 : decode cX1_sum 15 = .ok (.istore 6, 2) := by decide +kernel
theorem dX1_sum_17 : decode cX1_sum 17 = .ok (.iload 6, 2) := by decide +kernel
theorem dX1_sum_19 : decode cX1_sum 19 = .ok (.aload_n 0, 1) := by decide +kernel
theorem dX1_sum_20 : decode cX1_sum 20 = .ok (.getfield 29, 3) := by decide +kernel
theorem dX1_sum_23 : decode cX1_sum 23 = .ok (.iload 5, 2) := by decide +kernel
theorem dX1_sum_25 : decode cX1_sum 25 = .ok (.isub, 1) := by decide +kernel
theorem dX1_sum_26 : decode cX1_sum 26 = .ok (.if_icmp .gt 41, 3) := by decide +kernel
theorem dX1_sum_29 : decode cX1_sum 29 = .ok (.aload_n 0, 1) := by decide +kernel
theorem dX1_sum_30 : decode cX1_sum 30 = .ok (.iload 5, 2) := by decide +kernel
theorem dX1_sum_32 : decode cX1_sum 32 = .ok (.iload 6, 2) := by decide +kernel
theorem dX1_sum_34 : decode cX1_sum 34 = .ok (.invokevirtual 80, 3) := by decide +kernel
theorem dX1_sum_37 : decode cX1_sum 37 = .ok (.lstore 7, 2) := by decide +kernel
theorem dX1_sum_39 : decode cX1_sum 39 = .ok (.lload 7, 2) := by decide +kernel
theorem dX1_sum_41 : decode cX1_sum 41 = .ok (.lconst 0, 1) := by decide +kernel
theorem dX1_sum_42 : decode cX1_sum 42 = .ok (.lcmp, 1) := by decide +kernel
theorem dX1_sum_43 : decode cX1_sum 43 = .ok (.ifCond .eq 18, 3) := by decide +kernel
theorem dX1_sum_46 : decode cX1_sum 46 = .ok (.lload_n 3, 1) := by decide +kernel
theorem dX1_sum_47 : decode cX1_sum 47 = .ok (.lload 7, 2) := by decide +kernel
theorem dX1_sum_49 : decode cX1_sum 49 = .ok (.iload_n 1, 1) := by decide +kernel
theorem dX1_sum_50 : decode cX1_sum 50 = .ok (.iload_n 2, 1) := by decide +kernel
theorem dX1_sum_51 : decode cX1_sum 51 = .ok (.iload 5, 2) := by decide +kernel
theorem dX1_sum_53 : decode cX1_sum 53 = .ok (.iload 6, 2) := by decide +kernel
theorem dX1_sum_55 : decode cX1_sum 55 = .ok (.invokestatic 84, 3) := by decide +kernel
theorem dX1_sum_58 : decode cX1_sum 58 = .ok (.lmul, 1) := by decide +kernel
theorem dX1_sum_59 : decode cX1_sum 59 = .ok (.ladd, 1) := by decide +kernel
theorem dX1_sum_60 : decode cX1_sum 60 = .ok (.lstore_n 3, 1) := by decide +kernel
theorem dX1_sum_61 : decode cX1_sum 61 = .ok (.iinc 6 1, 3) := by decide +kernel
theorem dX1_sum_64 : decode cX1_sum 64 = .ok (.goto (-47), 3) := by decide +kernel
theorem dX1_sum_67 : decode cX1_sum 67 = .ok (.iinc 5 1, 3) := by decide +kernel
theorem dX1_sum_70 : decode cX1_sum 70 = .ok (.goto (-65), 3) := by decide +kernel
theorem dX1_sum_73 : decode cX1_sum 73 = .ok (.lload_n 3, 1) := by decide +kernel
theorem dX1_sum_74 : decode cX1_sum 74 = .ok (.lreturn, 1) := by decide +kernel
theorem dX1_measured_0 : decode cX1_measured 0 = .ok (.iload_n 2, 1) := by decide +kernel
theorem dX1_measured_1 : decode cX1_measured 1 = .ok (.iload_n 3, 1) := by decide +kernel
theorem dX1_measured_2 : decode cX1_measured 2 = .ok (.iadd, 1) := by decide +kernel
theorem dX1_measured_3 : decode cX1_measured 3 = .ok (.istore 4, 2) := by decide +kernel
theorem dX1_measured_5 : decode cX1_measured 5 = .ok (.iload_n 0, 1) := by decide +kernel
theorem dX1_measured_6 : decode cX1_measured 6 = .ok (.tableswitch 170 0 10 #[58, 62, 65, 68, 79, 90, 101, 120, 132, 145, 157], 58) := by decide +kernel
theorem dX1_measured_64 : decode cX1_measured 64 = .ok (.iload 4, 2) := by decide +kernel
theorem dX1_measured_66 : decode cX1_measured 66 = .ok (.i2l, 1) := by decide +kernel
theorem dX1_measured_67 : decode cX1_measured 67 = .ok (.lreturn, 1) := by decide +kernel
theorem dX1_measured_68 : decode cX1_measured 68 = .ok (.iload_n 2, 1) := by decide +kernel
theorem dX1_measured_69 : decode cX1_measured 69 = .ok (.i2l, 1) := by decide +kernel
theorem dX1_measured_70 : decode cX1_measured 70 = .ok (.lreturn, 1) := by decide +kernel
theorem dX1_measured_71 : decode cX1_measured 71 = .ok (.iload_n 3, 1) := by decide +kernel
theorem dX1_measured_72 : decode cX1_measured 72 = .ok (.i2l, 1) := by decide +kernel
theorem dX1_measured_73 : decode cX1_measured 73 = .ok (.lreturn, 1) := by decide +kernel
theorem dX1_measured_74 : decode cX1_measured 74 = .ok (.iload_n 2, 1) := by decide +kernel
theorem dX1_measured_75 : decode cX1_measured 75 = .ok (.iload_n 3, 1) := by decide +kernel
theorem dX1_measured_76 : decode cX1_measured 76 = .ok (.if_icmp .le 7, 3) := by decide +kernel
theorem dX1_measured_79 : decode cX1_measured 79 = .ok (.lconst 1, 1) := by decide +kernel
theorem dX1_measured_80 : decode cX1_measured 80 = .ok (.goto 4, 3) := by decide +kernel
theorem dX1_measured_83 : decode cX1_measured 83 = .ok (.lconst 0, 1) := by decide +kernel
theorem dX1_measured_84 : decode cX1_measured 84 = .ok (.lreturn, 1) := by decide +kernel
theorem dX1_measured_85 : decode cX1_measured 85 = .ok (.iload_n 2, 1) := by decide +kernel
theorem dX1_measured_86 : decode cX1_measured 86 = .ok (.iload_n 3, 1) := by decide +kernel
theorem dX1_measured_87 : decode cX1_measured 87 = .ok (.if_icmp .ne 7, 3) := by decide +kernel
theorem dX1_measured_90 : decode cX1_measured 90 = .ok (.lconst 1, 1) := by decide +kernel
theorem dX1_measured_91 : decode cX1_measured 91 = .ok (.goto 4, 3) := by decide +kernel
theorem dX1_measured_94 : decode cX1_measured 94 = .ok (.lconst 0, 1) := by decide +kernel
theorem dX1_measured_95 : decode cX1_measured 95 = .ok (.lreturn, 1) := by decide +kernel
theorem dX1_measured_96 : decode cX1_measured 96 = .ok (.iload_n 2, 1) := by decide +kernel
theorem dX1_measured_97 : decode cX1_measured 97 = .ok (.iload_n 3, 1) := by decide +kernel
theorem dX1_measured_98 : decode cX1_measured 98 = .ok (.if_icmp .ge 7, 3) := by decide +kernel
theorem dX1_measured_101 : decode cX1_measured 101 = .ok (.lconst 1, 1) := by decide +kernel
theorem dX1_measured_102 : decode cX1_measured 102 = .ok (.goto 4, 3) := by decide +kernel
theorem dX1_measured_105 : decode cX1_measured 105 = .ok (.lconst 0, 1) := by decide +kernel
theorem dX1_measured_106 : decode cX1_measured 106 = .ok (.lreturn, 1) := by decide +kernel
theorem dX1_measured_107 : decode cX1_measured 107 = .ok (.iload 4, 2) := by decide +kernel
theorem dX1_measured_109 : decode cX1_measured 109 = .ok (.ifCond .ne 7, 3) := by decide +kernel
theorem dX1_measured_112 : decode cX1_measured 112 = .ok (.lconst 0, 1) := by decide +kernel
theorem dX1_measured_113 : decode cX1_measured 113 = .ok (.goto 12, 3) := by decide +kernel
theorem dX1_measured_116 : decode cX1_measured 116 = .ok (.iload_n 2, 1) := by decide +kernel
theorem dX1_measured_117 : decode cX1_measured 117 = .ok (.sipush 2520, 3) := by decide +kernel
theorem dX1_measured_120 : decode cX1_measured 120 = .ok (.iload 4, 2) := by decide +kernel
theorem dX1_measured_122 : decode cX1_measured 122 = .ok (.idiv, 1) := by decide +kernel
theorem dX1_measured_123 : decode cX1_measured 123 = .ok (.imul, 1) := by decide +kernel
theorem dX1_measured_124 : decode cX1_measured 124 = .ok (.i2l, 1) := by decide +kernel
theorem dX1_measured_125 : decode cX1_measured 125 = .ok (.lreturn, 1) := by decide +kernel
theorem dX1_measured_126 : decode cX1_measured 126 = .ok (.iload 4, 2) := by decide +kernel
theorem dX1_measured_128 : decode cX1_measured 128 = .ok (.iload_n 1, 1) := by decide +kernel
theorem dX1_measured_129 : decode cX1_measured 129 = .ok (.if_icmp .ne 7, 3) := by decide +kernel
theorem dX1_measured_132 : decode cX1_measured 132 = .ok (.lconst 1, 1) := by decide +kernel
theorem dX1_measured_133 : decode cX1_measured 133 = .ok (.goto 4, 3) := by decide +kernel
theorem dX1_measured_136 : decode cX1_measured 136 = .ok (.lconst 0, 1) := by decide +kernel
theorem dX1_measured_137 : decode cX1_measured 137 = .ok (.lreturn, 1) := by decide +kernel
theorem dX1_measured_138 : decode cX1_measured 138 = .ok (.iload_n 2, 1) := by decide +kernel
theorem dX1_measured_139 : decode cX1_measured 139 = .ok (.iload_n 3, 1) := by decide +kernel
theorem dX1_measured_140 : decode cX1_measured 140 = .ok (.if_icmp .le 9, 3) := by decide +kernel
theorem dX1_measured_143 : decode cX1_measured 143 = .ok (.iload 4, 2) := by decide +kernel
theorem dX1_measured_145 : decode cX1_measured 145 = .ok (.i2l, 1) := by decide +kernel
theorem dX1_measured_146 : decode cX1_measured 146 = .ok (.goto 4, 3) := by decide +kernel
theorem dX1_measured_149 : decode cX1_measured 149 = .ok (.lconst 0, 1) := by decide +kernel
theorem dX1_measured_150 : decode cX1_measured 150 = .ok (.lreturn, 1) := by decide +kernel
theorem dX1_measured_151 : decode cX1_measured 151 = .ok (.iload_n 2, 1) := by decide +kernel
theorem dX1_measured_152 : decode cX1_measured 152 = .ok (.iconst 1, 1) := by decide +kernel
theorem dX1_measured_153 : decode cX1_measured 153 = .ok (.if_icmp .le 8, 3) := by decide +kernel
theorem dX1_measured_156 : decode cX1_measured 156 = .ok (.iload_n 2, 1) := by decide +kernel
theorem dX1_measured_157 : decode cX1_measured 157 = .ok (.i2l, 1) := by decide +kernel
theorem dX1_measured_158 : decode cX1_measured 158 = .ok (.goto 4, 3) := by decide +kernel
theorem dX1_measured_161 : decode cX1_measured 161 = .ok (.lconst 0, 1) := by decide +kernel
theorem dX1_measured_162 : decode cX1_measured 162 = .ok (.lreturn, 1) := by decide +kernel
theorem dX1_measured_163 : decode cX1_measured 163 = .ok (.iload_n 2, 1) := by decide +kernel
theorem dX1_measured_164 : decode cX1_measured 164 = .ok (.iload_n 3, 1) := by decide +kernel
theorem dX1_measured_165 : decode cX1_measured 165 = .ok (.isub, 1) := by decide +kernel
theorem dX1_measured_166 : decode cX1_measured 166 = .ok (.iload_n 1, 1) := by decide +kernel
theorem dX1_measured_167 : decode cX1_measured 167 = .ok (.if_icmp .ne 7, 3) := by decide +kernel
theorem dX1_measured_170 : decode cX1_measured 170 = .ok (.lconst 1, 1) := by decide +kernel
theorem dX1_measured_171 : decode cX1_measured 171 = .ok (.goto 4, 3) := by decide +kernel
theorem dX1_measured_174 : decode cX1_measured 174 = .ok (.lconst 0, 1) := by decide +kernel
theorem dX1_measured_175 : decode cX1_measured 175 = .ok (.lreturn, 1) := by decide +kernel
theorem dX1_measured_176 : decode cX1_measured 176 = .ok (.lconst 0, 1) := by decide +kernel
theorem dX1_measured_177 : decode cX1_measured 177 = .ok (.lreturn, 1) := by decide +kernel
theorem dX2_init_0 : decode cX2_init 0 = .ok (.aload_n 0, 1) := by decide +kernel
theorem dX2_init_1 : decode cX2_init 1 = .ok (.invokespecial 3, 3) := by decide +kernel
theorem dX2_init_4 : decode cX2_init 4 = .ok (.aload_n 0, 1) := by decide +kernel
theorem dX2_init_5 : decode cX2_init 5 = .ok (.bipush 64, 2) := by decide +kernel
theorem dX2_init_7 : decode cX2_init 7 = .ok (.newarray .int, 2) := by decide +kernel
theorem dX2_init_9 : decode cX2_init 9 = .ok (.putfield 9, 3) := by decide +kernel
theorem dX2_init_12 : decode cX2_init 12 = .ok (.return_, 1) := by decide +kernel
theorem dX2_append_0 : decode cX2_append 0 = .ok (.aload_n 0, 1) := by decide +kernel
theorem dX2_append_1 : decode cX2_append 1 = .ok (.getfield 15, 3) := by decide +kernel
theorem dX2_append_4 : decode cX2_append 4 = .ok (.ifCond .lt 35, 3) := by decide +kernel
theorem dX2_append_7 : decode cX2_append 7 = .ok (.aload_n 0, 1) := by decide +kernel
theorem dX2_append_8 : decode cX2_append 8 = .ok (.getfield 15, 3) := by decide +kernel
theorem dX2_append_11 : decode cX2_append 11 = .ok (.aload_n 0, 1) := by decide +kernel
theorem dX2_append_12 : decode cX2_append 12 = .ok (.getfield 9, 3) := by decide +kernel
theorem dX2_append_15 : decode cX2_append 15 = .ok (.arraylength, 1) := by decide +kernel
theorem dX2_append_16 : decode cX2_append 16 = .ok (.if_icmp .ge 23, 3) := by decide +kernel
theorem dX2_append_19 : decode cX2_append 19 = .ok (.aload_n 0, 1) := by decide +kernel
theorem dX2_append_20 : decode cX2_append 20 = .ok (.getfield 9, 3) := by decide +kernel
theorem dX2_append_23 : decode cX2_append 23 = .ok (.aload_n 0, 1) := by decide +kernel
theorem dX2_append_24 : decode cX2_append 24 = .ok (.getfield 15, 3) := by decide +kernel
theorem dX2_append_27 : decode cX2_append 27 = .ok (.iload_n 1, 1) := by decide +kernel
theorem dX2_append_28 : decode cX2_append 28 = .ok (.iastore, 1) := by decide +kernel
theorem dX2_append_29 : decode cX2_append 29 = .ok (.aload_n 0, 1) := by decide +kernel
theorem dX2_append_30 : decode cX2_append 30 = .ok (.dup, 1) := by decide +kernel
theorem dX2_append_31 : decode cX2_append 31 = .ok (.getfield 15, 3) := by decide +kernel
theorem dX2_append_34 : decode cX2_append 34 = .ok (.iconst 1, 1) := by decide +kernel
theorem dX2_append_35 : decode cX2_append 35 = .ok (.iadd, 1) := by decide +kernel
theorem dX2_append_36 : decode cX2_append 36 = .ok (.putfield 15, 3) := by decide +kernel
theorem dX2_append_39 : decode cX2_append 39 = .ok (.return_, 1) := by decide +kernel
theorem dX2_at_0 : decode cX2_at 0 = .ok (.iload_n 1, 1) := by decide +kernel
theorem dX2_at_1 : decode cX2_at 1 = .ok (.ifCond .lt 29, 3) := by decide +kernel
theorem dX2_at_4 : decode cX2_at 4 = .ok (.iload_n 1, 1) := by decide +kernel
theorem dX2_at_5 : decode cX2_at 5 = .ok (.aload_n 0, 1) := by decide +kernel
theorem dX2_at_6 : decode cX2_at 6 = .ok (.getfield 15, 3) := by decide +kernel
theorem dX2_at_9 : decode cX2_at 9 = .ok (.if_icmp .ge 21, 3) := by decide +kernel
theorem dX2_at_12 : decode cX2_at 12 = .ok (.iload_n 1, 1) := by decide +kernel
theorem dX2_at_13 : decode cX2_at 13 = .ok (.aload_n 0, 1) := by decide +kernel
theorem dX2_at_14 : decode cX2_at 14 = .ok (.getfield 9, 3) := by decide +kernel
theorem dX2_at_17 : decode cX2_at 17 = .ok (.arraylength, 1) := by decide +kernel
theorem dX2_at_18 : decode cX2_at 18 = .ok (.if_icmp .ge 12, 3) := by decide +kernel
theorem dX2_at_21 : decode cX2_at 21 = .ok (.aload_n 0, 1) := by decide +kernel
theorem dX2_at_22 : decode cX2_at 22 = .ok (.getfield 9, 3) := by decide +kernel
theorem dX2_at_25 : decode cX2_at 25 = .ok (.iload_n 1, 1) := by decide +kernel
theorem dX2_at_26 : decode cX2_at 26 = .ok (.iaload, 1) := by decide +kernel
theorem dX2_at_27 : decode cX2_at 27 = .ok (.goto 4, 3) := by decide +kernel
theorem dX2_at_30 : decode cX2_at 30 = .ok (.iconst (-1), 1) := by decide +kernel
theorem dX2_at_31 : decode cX2_at 31 = .ok (.ireturn, 1) := by decide +kernel
set_option maxRecDepth 20000 in
theorem ggX2_firstFault_X2_endOfStatement : GoodIn wsX2_firstFault wsX2_endOfStatement := goodIn_r _ [6, 7, 8, 9, 5, 10, 1, 11, 12, 13, 14, 15, 16, 17, 18, 19, 20, 21, 22, 23, 24] (by decide +kernel) (by decide +kernel)
set_option maxRecDepth 20000 in
theorem gX2_firstFault_X2_endOfStatement : GoodIn wsX2_firstFault (wsV RX2 19 RX2 yX2_endOfStatement wsX2_endOfStatement) := goodIn_app (goodIn_of _ (by decide +kernel)) ggX2_firstFault_X2_endOfStatement
theorem dX2_firstFault_0 : decode cX2_firstFault 0 = .ok (.iconst 0, 1) := by decide +kernel
theorem dX2_firstFault_1 : decode cX2_firstFault 1 = .ok (.istore_n 1, 1) := by decide +kernel
theorem dX2_firstFault_2 : decode cX2_firstFault 2 = .ok (.iconst 0, 1) := by decide +kernel
theorem dX2_firstFault_3 : decode cX2_firstFault 3 = .ok (.istore_n 2, 1) := by decide +kernel
theorem dX2_firstFault_4 : decode cX2_firstFault 4 = .ok (.aload_n 0, 1) := by decide +kernel
theorem dX2_firstFault_5 : decode cX2_firstFault 5 = .ok (.iload_n 1, 1) := by decide +kernel
theorem dX2_firstFault_6 : decode cX2_firstFault 6 = .ok (.invokevirtual 19, 3) := by decide +kernel
theorem dX2_firstFault_9 : decode cX2_firstFault 9 = .ok (.istore_n 3, 1) := by decide +kernel
theorem dX2_firstFault_10 : decode cX2_firstFault 10 = .ok (.iload_n 3, 1) := by decide +kernel
theorem dX2_firstFault_11 : decode cX2_firstFault 11 = .ok (.ifCond .ge 7, 3) := by decide +kernel
theorem dX2_firstFault_14 : decode cX2_firstFault 14 = .ok (.iconst (-1), 1) := by decide +kernel
theorem dX2_firstFault_15 : decode cX2_firstFault 15 = .ok (.iload_n 3, 1) := by decide +kernel
theorem dX2_firstFault_16 : decode cX2_firstFault 16 = .ok (.isub, 1) := by decide +kernel
theorem dX2_firstFault_17 : decode cX2_firstFault 17 = .ok (.ireturn, 1) := by decide +kernel
theorem dX2_firstFault_18 : decode cX2_firstFault 18 = .ok (.iload_n 3, 1) := by decide +kernel
theorem dX2_firstFault_19 : decode cX2_firstFault 19 = .ok (.istore_n 1, 1) := by decide +kernel
theorem dX2_firstFault_20 : decode cX2_firstFault 20 = .ok (.iinc 2 1, 3) := by decide +kernel
theorem dX2_firstFault_23 : decode cX2_firstFault 23 = .ok (.iload_n 1, 1) := by decide +kernel
theorem dX2_firstFault_24 : decode cX2_firstFault 24 = .ok (.aload_n 0, 1) := by decide +kernel
theorem dX2_firstFault_25 : decode cX2_firstFault 25 = .ok (.getfield 15, 3) := by decide +kernel
theorem dX2_firstFault_28 : decode cX2_firstFault 28 = .ok (.if_icmp .ge 9, 3) := by decide +kernel
theorem dX2_firstFault_31 : decode cX2_firstFault 31 = .ok (.iload_n 2, 1) := by decide +kernel
theorem dX2_firstFault_32 : decode cX2_firstFault 32 = .ok (.bipush 64, 2) := by decide +kernel
theorem dX2_firstFault_34 : decode cX2_firstFault 34 = .ok (.if_icmp .lt (-30), 3) := by decide +kernel
theorem dX2_firstFault_37 : decode cX2_firstFault 37 = .ok (.iconst (-1), 1) := by decide +kernel
theorem dX2_firstFault_38 : decode cX2_firstFault 38 = .ok (.ireturn, 1) := by decide +kernel
set_option maxRecDepth 20000 in
theorem ggX2_endOfStatement_X2_at : GoodIn wsX2_endOfStatement wsX2_at := goodIn_r _ [5, 6, 7, 19, 20] (by decide +kernel) (by decide +kernel)
set_option maxRecDepth 20000 in
theorem gX2_endOfStatement_X2_at : GoodIn wsX2_endOfStatement (wsV RX2 23 RX2 yX2_at wsX2_at) := goodIn_app (goodIn_of _ (by decide +kernel)) ggX2_endOfStatement_X2_at
set_option maxRecDepth 20000 in
theorem ggX2_endOfStatement_X2_kindAt : GoodIn wsX2_endOfStatement wsX2_kindAt := goodIn_r _ [11, 1, 2, 3, 4, 5, 6, 7, 19, 20] (by decide +kernel) (by decide +kernel)
set_option maxRecDepth 20000 in
theorem gX2_endOfStatement_X2_kindAt : GoodIn wsX2_endOfStatement (wsV RX2 26 RX2 yX2_kindAt wsX2_kindAt) := goodIn_app (goodIn_of _ (by decide +kernel)) ggX2_endOfStatement_X2_kindAt
set_option maxRecDepth 20000 in
theorem ggX2_endOfStatement_X2_endOfDigits : GoodIn wsX2_endOfStatement wsX2_endOfDigits := goodIn_r _ [15, 1, 2, 3, 4, 5, 6, 7, 19, 20] (by decide +kernel) (by decide +kernel)
set_option maxRecDepth 20000 in
theorem gX2_endOfStatement_X2_endOfDigits : GoodIn wsX2_endOfStatement (wsV RX2 29 RX2 yX2_endOfDigits wsX2_endOfDigits) := goodIn_app (goodIn_of _ (by decide +kernel)) ggX2_endOfStatement_X2_endOfDigits
set_option maxRecDepth 20000 in
theorem ggX2_endOfStatement_X2_isSign : GoodIn wsX2_endOfStatement wsX2_isSign := goodIn_r _ [18] (by decide +kernel) (by decide +kernel)
set_option maxRecDepth 20000 in
theorem gX2_endOfStatement_X2_isSign : GoodIn wsX2_endOfStatement (va_wsS RX2 33 yX2_isSign wsX2_isSign) := goodIn_app (goodIn_of _ (by decide +kernel)) ggX2_endOfStatement_X2_isSign
theorem dX2_endOfStatement_0 : decode cX2_endOfStatement 0 = .ok (.aload_n 0, 1) := by decide +kernel
theorem dX2_endOfStatement_1 : decode cX2_endOfStatement 1 = .ok (.iload_n 1, 1) := by decide +kernel
theorem dX2_endOfStatement_2 : decode cX2_endOfStatement 2 = .ok (.invokevirtual 23, 3) := by decide +kernel
theorem dX2_endOfStatement_5 : decode cX2_endOfStatement 5 = .ok (.tableswitch 159 99 110 #[95, 159, 159, 144, 159, 159, 159, 159, 159, 63, 95, 109], 63) := by decide +kernel
theorem dX2_endOfStatement_68 : decode cX2_endOfStatement 68 = .ok (.aload_n 0, 1) := by decide +kernel
theorem dX2_endOfStatement_69 : decode cX2_endOfStatement 69 = .ok (.iload_n 1, 1) := by decide +kernel
theorem dX2_endOfStatement_70 : decode cX2_endOfStatement 70 = .ok (.iconst 1, 1) := by decide +kernel
theorem dX2_endOfStatement_71 : decode cX2_endOfStatement 71 = .ok (.iadd, 1) := by decide +kernel
theorem dX2_endOfStatement_72 : decode cX2_endOfStatement 72 = .ok (.invokevirtual 26, 3) := by decide +kernel
theorem dX2_endOfStatement_75 : decode cX2_endOfStatement 75 = .ok (.ifCond .ge 11, 3) := by decide +kernel
theorem dX2_endOfStatement_78 : decode cX2_endOfStatement 78 = .ok (.iconst (-1), 1) := by decide +kernel
theorem dX2_endOfStatement_79 : decode cX2_endOfStatement 79 = .ok (.iload_n 1, 1) := by decide +kernel
theorem dX2_endOfStatement_80 : decode cX2_endOfStatement 80 = .ok (.iconst 1, 1) := by decide +kernel
theorem dX2_endOfStatement_81 : decode cX2_endOfStatement 81 = .ok (.iadd, 1) := by decide +kernel
theorem dX2_endOfStatement_82 : decode cX2_endOfStatement 82 = .ok (.isub, 1) := by decide +kernel
theorem dX2_endOfStatement_83 : decode cX2_endOfStatement 83 = .ok (.goto 13, 3) := by decide +kernel
theorem dX2_endOfStatement_86 : decode cX2_endOfStatement 86 = .ok (.aload_n 0, 1) := by decide +kernel
theorem dX2_endOfStatement_87 : decode cX2_endOfStatement 87 = .ok (.iload_n 1, 1) := by decide +kernel
theorem dX2_endOfStatement_88 : decode cX2_endOfStatement 88 = .ok (.iconst 2, 1) := by decide +kernel
theorem dX2_endOfStatement_89 : decode cX2_endOfStatement 89 = .ok (.iadd, 1) := by decide +kernel
theorem dX2_endOfStatement_90 : decode cX2_endOfStatement 90 = .ok (.bipush 57, 2) := by decide +kernel
theorem dX2_endOfStatement_92 : decode cX2_endOfStatement 92 = .ok (.iconst 1, 1) := by decide +kernel
theorem dX2_endOfStatement_93 : decode cX2_endOfStatement 93 = .ok (.invokevirtual 29, 3) := by decide +kernel
theorem dX2_endOfStatement_96 : decode cX2_endOfStatement 96 = .ok (.istore_n 2, 1) := by decide +kernel
theorem dX2_endOfStatement_97 : decode cX2_endOfStatement 97 = .ok (.goto 71, 3) := by decide +kernel
theorem dX2_endOfStatement_100 : decode cX2_endOfStatement 100 = .ok (.aload_n 0, 1) := by decide +kernel
theorem dX2_endOfStatement_101 : decode cX2_endOfStatement 101 = .ok (.iload_n 1, 1) := by decide +kernel
theorem dX2_endOfStatement_102 : decode cX2_endOfStatement 102 = .ok (.iconst 1, 1) := by decide +kernel
theorem dX2_endOfStatement_103 : decode cX2_endOfStatement 103 = .ok (.iadd, 1) := by decide +kernel
theorem dX2_endOfStatement_104 : decode cX2_endOfStatement 104 = .ok (.bipush 57, 2) := by decide +kernel
theorem dX2_endOfStatement_106 : decode cX2_endOfStatement 106 = .ok (.iconst 2, 1) := by decide +kernel
theorem dX2_endOfStatement_107 : decode cX2_endOfStatement 107 = .ok (.invokevirtual 29, 3) := by decide +kernel
theorem dX2_endOfStatement_110 : decode cX2_endOfStatement 110 = .ok (.istore_n 2, 1) := by decide +kernel
theorem dX2_endOfStatement_111 : decode cX2_endOfStatement 111 = .ok (.goto 57, 3) := by decide +kernel
theorem dX2_endOfStatement_114 : decode cX2_endOfStatement 114 = .ok (.aload_n 0, 1) := by decide +kernel
theorem dX2_endOfStatement_115 : decode cX2_endOfStatement 115 = .ok (.iload_n 1, 1) := by decide +kernel
theorem dX2_endOfStatement_116 : decode cX2_endOfStatement 116 = .ok (.iconst 1, 1) := by decide +kernel
theorem dX2_endOfStatement_117 : decode cX2_endOfStatement 117 = .ok (.iadd, 1) := by decide +kernel
theorem dX2_endOfStatement_118 : decode cX2_endOfStatement 118 = .ok (.invokevirtual 23, 3) := by decide +kernel
theorem dX2_endOfStatement_121 : decode cX2_endOfStatement 121 = .ok (.invokestatic 33, 3) := by decide +kernel
theorem dX2_endOfStatement_124 : decode cX2_endOfStatement 124 = .ok (.ifCond .eq 16, 3) := by decide +kernel
theorem dX2_endOfStatement_127 : decode cX2_endOfStatement 127 = .ok (.aload_n 0, 1) := by decide +kernel
theorem dX2_endOfStatement_128 : decode cX2_endOfStatement 128 = .ok (.iload_n 1, 1) := by decide +kernel
theorem dX2_endOfStatement_129 : decode cX2_endOfStatement 129 = .ok (.iconst 2, 1) := by decide +kernel
theorem dX2_endOfStatement_130 : decode cX2_endOfStatement 130 = .ok (.iadd, 1) := by decide +kernel
theorem dX2_endOfStatement_131 : decode cX2_endOfStatement 131 = .ok (.bipush 57, 2) := by decide +kernel
theorem dX2_endOfStatement_133 : decode cX2_endOfStatement 133 = .ok (.iconst 1, 1) := by decide +kernel
theorem dX2_endOfStatement_134 : decode cX2_endOfStatement 134 = .ok (.invokevirtual 29, 3) := by decide +kernel
theorem dX2_endOfStatement_137 : decode cX2_endOfStatement 137 = .ok (.goto 8, 3) := by decide +kernel
theorem dX2_endOfStatement_140 : decode cX2_endOfStatement 140 = .ok (.iconst (-1), 1) := by decide +kernel
theorem dX2_endOfStatement_141 : decode cX2_endOfStatement 141 = .ok (.iload_n 1, 1) := by decide +kernel
theorem dX2_endOfStatement_142 : decode cX2_endOfStatement 142 = .ok (.iconst 1, 1) := by decide +kernel
theorem dX2_endOfStatement_143 : decode cX2_endOfStatement 143 = .ok (.iadd, 1) := by decide +kernel
theorem dX2_endOfStatement_144 : decode cX2_endOfStatement 144 = .ok (.isub, 1) := by decide +kernel
theorem dX2_endOfStatement_145 : decode cX2_endOfStatement 145 = .ok (.istore_n 2, 1) := by decide +kernel
theorem dX2_endOfStatement_146 : decode cX2_endOfStatement 146 = .ok (.goto 22, 3) := by decide +kernel
theorem dX2_endOfStatement_149 : decode cX2_endOfStatement 149 = .ok (.aload_n 0, 1) := by decide +kernel
theorem dX2_endOfStatement_150 : decode cX2_endOfStatement 150 = .ok (.iload_n 1, 1) := by decide +kernel
theorem dX2_endOfStatement_151 : decode cX2_endOfStatement 151 = .ok (.iconst 1, 1) := by decide +kernel
theorem dX2_endOfStatement_152 : decode cX2_endOfStatement 152 = .ok (.iadd, 1) := by decide +kernel
theorem dX2_endOfStatement_153 : decode cX2_endOfStatement 153 = .ok (.bipush 49, 2) := by decide +kernel
theorem dX2_endOfStatement_155 : decode cX2_endOfStatement 155 = .ok (.bipush 10, 2) := by decide +kernel
theorem dX2_endOfStatement_157 : decode cX2_endOfStatement 157 = .ok (.invokevirtual 29, 3) := by decide +kernel
theorem dX2_endOfStatement_160 : decode cX2_endOfStatement 160 = .ok (.istore_n 2, 1) := by decide +kernel
theorem dX2_endOfStatement_161 : decode cX2_endOfStatement 161 = .ok (.goto 7, 3) := by decide +kernel
theorem dX2_endOfStatement_164 : decode cX2_endOfStatement 164 = .ok (.iconst (-1), 1) := by decide +kernel
theorem dX2_endOfStatement_165 : decode cX2_endOfStatement 165 = .ok (.iload_n 1, 1) := by decide +kernel
theorem dX2_endOfStatement_166 : decode cX2_endOfStatement 166 = .ok (.isub, 1) := by decide +kernel
theorem dX2_endOfStatement_167 : decode cX2_endOfStatement 167 = .ok (.istore_n 2, 1) := by decide +kernel
theorem dX2_endOfStatement_168 : decode cX2_endOfStatement 168 = .ok (.iload_n 2, 1) := by decide +kernel
theorem dX2_endOfStatement_169 : decode cX2_endOfStatement 169 = .ok (.ifCond .ge 5, 3) := by decide +kernel
theorem dX2_endOfStatement_172 : decode cX2_endOfStatement 172 = .ok (.iload_n 2, 1) := by decide +kernel
theorem dX2_endOfStatement_173 : decode cX2_endOfStatement 173 = .ok (.ireturn, 1) := by decide +kernel
theorem dX2_endOfStatement_174 : decode cX2_endOfStatement 174 = .ok (.aload_n 0, 1) := by decide +kernel
theorem dX2_endOfStatement_175 : decode cX2_endOfStatement 175 = .ok (.iload_n 2, 1) := by decide +kernel
theorem dX2_endOfStatement_176 : decode cX2_endOfStatement 176 = .ok (.invokevirtual 23, 3) := by decide +kernel
theorem dX2_endOfStatement_179 : decode cX2_endOfStatement 179 = .ok (.bipush 59, 2) := by decide +kernel
theorem dX2_endOfStatement_181 : decode cX2_endOfStatement 181 = .ok (.if_icmp .ne 9, 3) := by decide +kernel
theorem dX2_endOfStatement_184 : decode cX2_endOfStatement 184 = .ok (.iload_n 2, 1) := by decide +kernel
theorem dX2_endOfStatement_185 : decode cX2_endOfStatement 185 = .ok (.iconst 1, 1) := by decide +kernel
theorem dX2_endOfStatement_186 : decode cX2_endOfStatement 186 = .ok (.iadd, 1) := by decide +kernel
theorem dX2_endOfStatement_187 : decode cX2_endOfStatement 187 = .ok (.goto 6, 3) := by decide +kernel
theorem dX2_endOfStatement_190 : decode cX2_endOfStatement 190 = .ok (.iconst (-1), 1) := by decide +kernel
theorem dX2_endOfStatement_191 : decode cX2_endOfStatement 191 = .ok (.iload_n 2, 1) := by decide +kernel
theorem dX2_endOfStatement_192 : decode cX2_endOfStatement 192 = .ok (.isub, 1) := by decide +kernel
theorem dX2_endOfStatement_193 : decode cX2_endOfStatement 193 = .ok (.ireturn, 1) := by decide +kernel
theorem dX2_isSign_0 : decode cX2_isSign 0 = .ok (.iload_n 0, 1) := by decide +kernel
theorem dX2_isSign_1 : decode cX2_isSign 1 = .ok (.bipush 43, 2) := by decide +kernel
theorem dX2_isSign_3 : decode cX2_isSign 3 = .ok (.if_icmp .eq 9, 3) := by decide +kernel
theorem dX2_isSign_6 : decode cX2_isSign 6 = .ok (.iload_n 0, 1) := by decide +kernel
theorem dX2_isSign_7 : decode cX2_isSign 7 = .ok (.bipush 45, 2) := by decide +kernel
theorem dX2_isSign_9 : decode cX2_isSign 9 = .ok (.if_icmp .ne 7, 3) := by decide +kernel
theorem dX2_isSign_12 : decode cX2_isSign 12 = .ok (.iconst 1, 1) := by decide +kernel
theorem dX2_isSign_13 : decode cX2_isSign 13 = .ok (.goto 4, 3) := by decide +kernel
theorem dX2_isSign_16 : decode cX2_isSign 16 = .ok (.iconst 0, 1) := by decide +kernel
theorem dX2_isSign_17 : decode cX2_isSign 17 = .ok (.ireturn, 1) := by decide +kernel
set_option maxRecDepth 20000 in
theorem ggX2_endOfDigits_X2_at : GoodIn wsX2_endOfDigits wsX2_at := goodIn_r _ [5, 6, 7, 8, 9] (by decide +kernel) (by decide +kernel)
set_option maxRecDepth 20000 in
theorem gX2_endOfDigits_X2_at : GoodIn wsX2_endOfDigits (wsV RX2 23 RX2 yX2_at wsX2_at) := goodIn_app (goodIn_of _ (by decide +kernel)) ggX2_endOfDigits_X2_at
theorem dX2_endOfDigits_0 : decode cX2_endOfDigits 0 = .ok (.iload_n 1, 1) := by decide +kernel
theorem dX2_endOfDigits_1 : decode cX2_endOfDigits 1 = .ok (.istore 4, 2) := by decide +kernel
theorem dX2_endOfDigits_3 : decode cX2_endOfDigits 3 = .ok (.iload 4, 2) := by decide +kernel
theorem dX2_endOfDigits_5 : decode cX2_endOfDigits 5 = .ok (.iload_n 1, 1) := by decide +kernel
theorem dX2_endOfDigits_6 : decode cX2_endOfDigits 6 = .ok (.isub, 1) := by decide +kernel
theorem dX2_endOfDigits_7 : decode cX2_endOfDigits 7 = .ok (.iload_n 3, 1) := by decide +kernel
theorem dX2_endOfDigits_8 : decode cX2_endOfDigits 8 = .ok (.if_icmp .ge 30, 3) := by decide +kernel
theorem dX2_endOfDigits_11 : decode cX2_endOfDigits 11 = .ok (.aload_n 0, 1) := by decide +kernel
theorem dX2_endOfDigits_12 : decode cX2_endOfDigits 12 = .ok (.iload 4, 2) := by decide +kernel
theorem dX2_endOfDigits_14 : decode cX2_endOfDigits 14 = .ok (.invokevirtual 23, 3) := by decide +kernel
theorem dX2_endOfDigits_17 : decode cX2_endOfDigits 17 = .ok (.bipush 48, 2) := by decide +kernel
theorem dX2_endOfDigits_19 : decode cX2_endOfDigits 19 = .ok (.if_icmp .lt 19, 3) := by decide +kernel
theorem dX2_endOfDigits_22 : decode cX2_endOfDigits 22 = .ok (.aload_n 0, 1) := by decide +kernel
theorem dX2_endOfDigits_23 : decode cX2_endOfDigits 23 = .ok (.iload 4, 2) := by decide +kernel
theorem dX2_endOfDigits_25 : decode cX2_endOfDigits 25 = .ok (.invokevirtual 23, 3) := by decide +kernel
theorem dX2_endOfDigits_28 : decode cX2_endOfDigits 28 = .ok (.iload_n 2, 1) := by decide +kernel
theorem dX2_endOfDigits_29 : decode cX2_endOfDigits 29 = .ok (.if_icmp .gt 9, 3) := by decide +kernel
theorem dX2_endOfDigits_32 : decode cX2_endOfDigits 32 = .ok (.iinc 4 1, 3) := by decide +kernel
theorem dX2_endOfDigits_35 : decode cX2_endOfDigits 35 = .ok (.goto (-32), 3) := by decide +kernel
theorem dX2_endOfDigits_38 : decode cX2_endOfDigits 38 = .ok (.iload 4, 2) := by decide +kernel
theorem dX2_endOfDigits_40 : decode cX2_endOfDigits 40 = .ok (.iload_n 1, 1) := by decide +kernel
theorem dX2_endOfDigits_41 : decode cX2_endOfDigits 41 = .ok (.if_icmp .ne 9, 3) := by decide +kernel
theorem dX2_endOfDigits_44 : decode cX2_endOfDigits 44 = .ok (.iconst (-1), 1) := by decide +kernel
theorem dX2_endOfDigits_45 : decode cX2_endOfDigits 45 = .ok (.iload_n 1, 1) := by decide +kernel
theorem dX2_endOfDigits_46 : decode cX2_endOfDigits 46 = .ok (.isub, 1) := by decide +kernel
theorem dX2_endOfDigits_47 : decode cX2_endOfDigits 47 = .ok (.goto 5, 3) := by decide +kernel
theorem dX2_endOfDigits_50 : decode cX2_endOfDigits 50 = .ok (.iload 4, 2) := by decide +kernel
theorem dX2_endOfDigits_52 : decode cX2_endOfDigits 52 = .ok (.ireturn, 1) := by decide +kernel
set_option maxRecDepth 20000 in
theorem ggX2_kindAt_X2_at : GoodIn wsX2_kindAt wsX2_at := goodIn_r _ [5, 6, 7, 8, 9] (by decide +kernel) (by decide +kernel)
set_option maxRecDepth 20000 in
theorem gX2_kindAt_X2_at : GoodIn wsX2_kindAt (wsV RX2 23 RX2 yX2_at wsX2_at) := goodIn_app (goodIn_of _ (by decide +kernel)) ggX2_kindAt_X2_at
theorem dX2_kindAt_0 : decode cX2_kindAt 0 = .ok (.aload_n 0, 1) := by decide +kernel
theorem dX2_kindAt_1 : decode cX2_kindAt 1 = .ok (.iload_n 1, 1) := by decide +kernel
theorem dX2_kindAt_2 : decode cX2_kindAt 2 = .ok (.invokevirtual 23, 3) := by decide +kernel
theorem dX2_kindAt_5 : decode cX2_kindAt 5 = .ok (.tableswitch 107 97 116 #[99, 105, 97, 107, 101, 107, 107, 107, 107, 107, 107, 107, 107, 107, 107, 107, 107, 103, 107, 95], 95) := by decide +kernel
theorem dX2_kindAt_100 : decode cX2_kindAt 100 = .ok (.iconst 0, 1) := by decide +kernel
theorem dX2_kindAt_101 : decode cX2_kindAt 101 = .ok (.ireturn, 1) := by decide +kernel
theorem dX2_kindAt_102 : decode cX2_kindAt 102 = .ok (.iconst 1, 1) := by decide +kernel
theorem dX2_kindAt_103 : decode cX2_kindAt 103 = .ok (.ireturn, 1) := by decide +kernel
theorem dX2_kindAt_104 : decode cX2_kindAt 104 = .ok (.iconst 2, 1) := by decide +kernel
theorem dX2_kindAt_105 : decode cX2_kindAt 105 = .ok (.ireturn, 1) := by decide +kernel
theorem dX2_kindAt_106 : decode cX2_kindAt 106 = .ok (.iconst 3, 1) := by decide +kernel
theorem dX2_kindAt_107 : decode cX2_kindAt 107 = .ok (.ireturn, 1) := by decide +kernel
theorem dX2_kindAt_108 : decode cX2_kindAt 108 = .ok (.iconst 4, 1) := by decide +kernel
theorem dX2_kindAt_109 : decode cX2_kindAt 109 = .ok (.ireturn, 1) := by decide +kernel
theorem dX2_kindAt_110 : decode cX2_kindAt 110 = .ok (.iconst 5, 1) := by decide +kernel
theorem dX2_kindAt_111 : decode cX2_kindAt 111 = .ok (.ireturn, 1) := by decide +kernel
theorem dX2_kindAt_112 : decode cX2_kindAt 112 = .ok (.iconst (-1), 1) := by decide +kernel
theorem dX2_kindAt_113 : decode cX2_kindAt 113 = .ok (.ireturn, 1) := by decide +kernel
set_option maxRecDepth 20000 in
theorem ggX2_numberAt_X2_at : GoodIn wsX2_numberAt wsX2_at := goodIn_r _ [5, 6, 7, 8, 9] (by decide +kernel) (by decide +kernel)
set_option maxRecDepth 20000 in
theorem gX2_numberAt_X2_at : GoodIn wsX2_numberAt (wsV RX2 23 RX2 yX2_at wsX2_at) := goodIn_app (goodIn_of _ (by decide +kernel)) ggX2_numberAt_X2_at
theorem dX2_numberAt_0 : decode cX2_numberAt 0 = .ok (.iconst 0, 1) := by decide +kernel
theorem dX2_numberAt_1 : decode cX2_numberAt 1 = .ok (.istore_n 3, 1) := by decide +kernel
theorem dX2_numberAt_2 : decode cX2_numberAt 2 = .ok (.iload_n 1, 1) := by decide +kernel
theorem dX2_numberAt_3 : decode cX2_numberAt 3 = .ok (.istore 4, 2) := by decide +kernel
theorem dX2_numberAt_5 : decode cX2_numberAt 5 = .ok (.iload 4, 2) := by decide +kernel
theorem dX2_numberAt_7 : decode cX2_numberAt 7 = .ok (.iload_n 2, 1) := by decide +kernel
theorem dX2_numberAt_8 : decode cX2_numberAt 8 = .ok (.if_icmp .ge 24, 3) := by decide +kernel
theorem dX2_numberAt_11 : decode cX2_numberAt 11 = .ok (.bipush 10, 2) := by decide +kernel
theorem dX2_numberAt_13 : decode cX2_numberAt 13 = .ok (.iload_n 3, 1) := by decide +kernel
theorem dX2_numberAt_14 : decode cX2_numberAt 14 = .ok (.imul, 1) := by decide +kernel
theorem dX2_numberAt_15 : decode cX2_numberAt 15 = .ok (.aload_n 0, 1) := by decide +kernel
theorem dX2_numberAt_16 : decode cX2_numberAt 16 = .ok (.iload 4, 2) := by decide +kernel
theorem dX2_numberAt_18 : decode cX2_numberAt 18 = .ok (.invokevirtual 23, 3) := by decide +kernel
theorem dX2_numberAt_21 : decode cX2_numberAt 21 = .ok (.iadd, 1) := by decide +kernel
theorem dX2_numberAt_22 : decode cX2_numberAt 22 = .ok (.bipush 48, 2) := by decide +kernel
theorem dX2_numberAt_24 : decode cX2_numberAt 24 = .ok (.isub, 1) := by decide +kernel
theorem dX2_numberAt_25 : decode cX2_numberAt 25 = .ok (.istore_n 3, 1) := by decide +kernel
theorem dX2_numberAt_26 : decode cX2_numberAt 26 = .ok (.iinc 4 1, 3) := by decide +kernel
theorem dX2_numberAt_29 : decode cX2_numberAt 29 = .ok (.goto (-24), 3) := by decide +kernel
theorem dX2_numberAt_32 : decode cX2_numberAt 32 = .ok (.iload_n 3, 1) := by decide +kernel
theorem dX2_numberAt_33 : decode cX2_numberAt 33 = .ok (.ireturn, 1) := by decide +kernel
