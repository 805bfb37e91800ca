theorem dX6_gone_19 : decode cX6_gone 19 = .ok (.iconst 3, 1) := by decide +kernel
theorem dX6_gone_20 : decode cX6_gone 20 = .ok (.iaload, 1) := by decide +kernel
theorem dX6_gone_21 : decode cX6_gone 21 = .ok (.aload_n 0, 1) := by decide +kernel
theorem dX6_gone_22 : decode cX6_gone 22 = .ok (.getfield 185, 3) := by decide +kernel
theorem dX6_gone_25 : decode cX6_gone 25 = .ok (.aload_n 0, 1) := by decide +kernel
theorem dX6_gone_26 : decode cX6_gone 26 = .ok (.getfield 188, 3) := by decide +kernel
theorem dX6_gone_29 : decode cX6_gone 29 = .ok (.invokevirtual 191, 3) := by decide +kernel
theorem dX6_gone_32 : decode cX6_gone 32 = .ok (.ifCond .le 10, 3) := by decide +kernel
theorem dX6_gone_35 : decode cX6_gone 35 = .ok (.lconst 0, 1) := by decide +kernel
theorem dX6_gone_36 : decode cX6_gone 36 = .ok (.lconst 1, 1) := by decide +kernel
theorem dX6_gone_37 : decode cX6_gone 37 = .ok (.iload_n 1, 1) := by decide +kernel
theorem dX6_gone_38 : decode cX6_gone 38 = .ok (.invokestatic 166, 3) := by decide +kernel
theorem dX6_gone_41 : decode cX6_gone 41 = .ok (.lreturn, 1) := by decide +kernel
theorem dX6_gone_42 : decode cX6_gone 42 = .ok (.aload_n 0, 1) := by decide +kernel
theorem dX6_gone_43 : decode cX6_gone 43 = .ok (.aload_n 0, 1) := by decide +kernel
theorem dX6_gone_44 : decode cX6_gone 44 = .ok (.getfield 185, 3) := by decide +kernel
theorem dX6_gone_47 : decode cX6_gone 47 = .ok (.ifCond .ne 8, 3) := by decide +kernel
theorem dX6_gone_50 : decode cX6_gone 50 = .ok (.bipush (-9), 2) := by decide +kernel
theorem dX6_gone_52 : decode cX6_gone 52 = .ok (.goto 16, 3) := by decide +kernel
theorem dX6_gone_55 : decode cX6_gone 55 = .ok (.aload_n 0, 1) := by decide +kernel
theorem dX6_gone_56 : decode cX6_gone 56 = .ok (.getfield 188, 3) := by decide +kernel
theorem dX6_gone_59 : decode cX6_gone 59 = .ok (.aload_n 0, 1) := by decide +kernel
theorem dX6_gone_60 : decode cX6_gone 60 = .ok (.getfield 185, 3) := by decide +kernel
theorem dX6_gone_63 : decode cX6_gone 63 = .ok (.iconst 1, 1) := by decide +kernel
theorem dX6_gone_64 : decode cX6_gone 64 = .ok (.isub, 1) := by decide +kernel
theorem dX6_gone_65 : decode cX6_gone 65 = .ok (.ishr, 1) := by decide +kernel
theorem dX6_gone_66 : decode cX6_gone 66 = .ok (.iconst 1, 1) := by decide +kernel
theorem dX6_gone_67 : decode cX6_gone 67 = .ok (.iand, 1) := by decide +kernel
theorem dX6_gone_68 : decode cX6_gone 68 = .ok (.invokevirtual 139, 3) := by decide +kernel
theorem dX6_gone_71 : decode cX6_gone 71 = .ok (.istore_n 2, 1) := by decide +kernel
theorem dX6_gone_72 : decode cX6_gone 72 = .ok (.aload_n 0, 1) := by decide +kernel
theorem dX6_gone_73 : decode cX6_gone 73 = .ok (.aload_n 0, 1) := by decide +kernel
theorem dX6_gone_74 : decode cX6_gone 74 = .ok (.getfield 13, 3) := by decide +kernel
theorem dX6_gone_77 : decode cX6_gone 77 = .ok (.iconst 3, 1) := by decide +kernel
theorem dX6_gone_78 : decode cX6_gone 78 = .ok (.iaload, 1) := by decide +kernel
theorem dX6_gone_79 : decode cX6_gone 79 = .ok (.aload_n 0, 1) := by decide +kernel
theorem dX6_gone_80 : decode cX6_gone 80 = .ok (.getfield 176, 3) := by decide +kernel
theorem dX6_gone_83 : decode cX6_gone 83 = .ok (.iconst 1, 1) := by decide +kernel
theorem dX6_gone_84 : decode cX6_gone 84 = .ok (.iadd, 1) := by decide +kernel
theorem dX6_gone_85 : decode cX6_gone 85 = .ok (.aload_n 0, 1) := by decide +kernel
theorem dX6_gone_86 : decode cX6_gone 86 = .ok (.getfield 179, 3) := by decide +kernel
theorem dX6_gone_89 : decode cX6_gone 89 = .ok (.aload_n 0, 1) := by decide +kernel
theorem dX6_gone_90 : decode cX6_gone 90 = .ok (.getfield 182, 3) := by decide +kernel
theorem dX6_gone_93 : decode cX6_gone 93 = .ok (.iconst 1, 1) := by decide +kernel
theorem dX6_gone_94 : decode cX6_gone 94 = .ok (.iadd, 1) := by decide +kernel
theorem dX6_gone_95 : decode cX6_gone 95 = .ok (.invokevirtual 131, 3) := by decide +kernel
theorem dX6_gone_98 : decode cX6_gone 98 = .ok (.ifCond .eq 8, 3) := by decide +kernel
theorem dX6_gone_101 : decode cX6_gone 101 = .ok (.iload_n 2, 1) := by decide +kernel
theorem dX6_gone_102 : decode cX6_gone 102 = .ok (.i2l, 1) := by decide +kernel
theorem dX6_gone_103 : decode cX6_gone 103 = .ok (.goto 4, 3) := by decide +kernel
theorem dX6_gone_106 : decode cX6_gone 106 = .ok (.lconst 0, 1) := by decide +kernel
theorem dX6_gone_107 : decode cX6_gone 107 = .ok (.lstore_n 3, 1) := by decide +kernel
theorem dX6_gone_108 : decode cX6_gone 108 = .ok (.lload_n 3, 1) := by decide +kernel
theorem dX6_gone_109 : decode cX6_gone 109 = .ok (.aload_n 0, 1) := by decide +kernel
theorem dX6_gone_110 : decode cX6_gone 110 = .ok (.aload_n 0, 1) := by decide +kernel
theorem dX6_gone_111 : decode cX6_gone 111 = .ok (.getfield 13, 3) := by decide +kernel
theorem dX6_gone_114 : decode cX6_gone 114 = .ok (.iconst 3, 1) := by decide +kernel
theorem dX6_gone_115 : decode cX6_gone 115 = .ok (.iaload, 1) := by decide +kernel
theorem dX6_gone_116 : decode cX6_gone 116 = .ok (.aload_n 0, 1) := by decide +kernel
theorem dX6_gone_117 : decode cX6_gone 117 = .ok (.getfield 176, 3) := by decide +kernel
theorem dX6_gone_120 : decode cX6_gone 120 = .ok (.aload_n 0, 1) := by decide +kernel
theorem dX6_gone_121 : decode cX6_gone 121 = .ok (.getfield 179, 3) := by decide +kernel
theorem dX6_gone_124 : decode cX6_gone 124 = .ok (.iconst 1, 1) := by decide +kernel
theorem dX6_gone_125 : decode cX6_gone 125 = .ok (.iadd, 1) := by decide +kernel
theorem dX6_gone_126 : decode cX6_gone 126 = .ok (.iconst 0, 1) := by decide +kernel
theorem dX6_gone_127 : decode cX6_gone 127 = .ok (.invokevirtual 131, 3) := by decide +kernel
theorem dX6_gone_130 : decode cX6_gone 130 = .ok (.ifCond .eq 11, 3) := by decide +kernel
theorem dX6_gone_133 : decode cX6_gone 133 = .ok (.bipush 12, 2) := by decide +kernel
theorem dX6_gone_135 : decode cX6_gone 135 = .ok (.iload_n 2, 1) := by decide +kernel
theorem dX6_gone_136 : decode cX6_gone 136 = .ok (.isub, 1) := by decide +kernel
theorem dX6_gone_137 : decode cX6_gone 137 = .ok (.i2l, 1) := by decide +kernel
theorem dX6_gone_138 : decode cX6_gone 138 = .ok (.goto 4, 3) := by decide +kernel
theorem dX6_gone_141 : decode cX6_gone 141 = .ok (.lconst 0, 1) := by decide +kernel
theorem dX6_gone_142 : decode cX6_gone 142 = .ok (.ladd, 1) := by decide +kernel
theorem dX6_gone_143 : decode cX6_gone 143 = .ok (.lstore_n 3, 1) := by decide +kernel
theorem dX6_gone_144 : decode cX6_gone 144 = .ok (.lload_n 3, 1) := by decide +kernel
theorem dX6_gone_145 : decode cX6_gone 145 = .ok (.ldc2_w 142, 3) := by decide +kernel
theorem dX6_gone_148 : decode cX6_gone 148 = .ok (.iload_n 1, 1) := by decide +kernel
theorem dX6_gone_149 : decode cX6_gone 149 = .ok (.invokestatic 166, 3) := by decide +kernel
theorem dX6_gone_152 : decode cX6_gone 152 = .ok (.lreturn, 1) := by decide +kernel
set_option maxRecDepth 20000 in
theorem ggX6_shift_X6_isIn : GoodIn wsX6_shift wsX6_isIn := goodIn_r _ [6] (by decide +kernel) (by decide +kernel)
set_option maxRecDepth 20000 in
theorem gX6_shift_X6_isIn : GoodIn wsX6_shift (va_wsS RX6 53 yX6_isIn wsX6_isIn) := goodIn_app (goodIn_of _ (by decide +kernel)) ggX6_shift_X6_isIn
set_option maxRecDepth 20000 in
theorem ggX6_shift_X6_refuse : GoodIn wsX6_shift wsX6_refuse := goodIn_r _ [10, 11, 58, 59, 60, 61, 62, 63, 64, 65, 66, 67, 68, 69, 70, 71, 72, 73, 74, 75, 76, 77, 78, 79, 80, 81, 82, 83, 84, 85, 86] (by decide +kernel) (by decide +kernel)
set_option maxRecDepth 20000 in
theorem gX6_shift_X6_refuse : GoodIn wsX6_shift (wsV RX6 34 RX6 yX6_refuse wsX6_refuse) := goodIn_app (goodIn_of _ (by decide +kernel)) ggX6_shift_X6_refuse
set_option maxRecDepth 20000 in
theorem ggX6_shift_X6_finds : GoodIn wsX6_shift wsX6_finds := goodIn_r _ [15, 16, 17, 18, 2, 1, 19, 20, 21, 22, 23, 24, 25, 26, 27, 28, 29, 5, 30, 31, 32, 33, 34, 35, 36, 37, 38, 39, 40, 41, 42, 43, 44, 45, 46, 47, 48, 58, 59, 60, 61, 62, 63, 64, 65, 66, 67, 68, 69, 70, 71, 72, 73, 74, 75, 76, 77, 78, 79, 80, 81, 82, 83, 84, 85, 86] (by decide +kernel) (by decide +kernel)
set_option maxRecDepth 20000 in
theorem gX6_shift_X6_finds : GoodIn wsX6_shift (wsV RX6 162 RX6 yX6_finds wsX6_finds) := goodIn_app (goodIn_of _ (by decide +kernel)) ggX6_shift_X6_finds
set_option maxRecDepth 20000 in
theorem ggX6_shift_X6_part : GoodIn wsX6_shift wsX6_part := goodIn_r _ [51, 52, 53, 5, 54] (by decide +kernel) (by decide +kernel)
set_option maxRecDepth 20000 in
theorem gX6_shift_X6_part : GoodIn wsX6_shift (va_wsS RX6 166 yX6_part wsX6_part) := goodIn_app (goodIn_of _ (by decide +kernel)) ggX6_shift_X6_part
set_option maxRecDepth 20000 in
theorem ggX6_shift_X6_isMore : GoodIn wsX6_shift wsX6_isMore := goodIn_r _ [57, 55, 56, 5] (by decide +kernel) (by decide +kernel)
set_option maxRecDepth 20000 in
theorem gX6_shift_X6_isMore : GoodIn wsX6_shift (va_wsS RX6 194 yX6_isMore wsX6_isMore) := goodIn_app (goodIn_of _ (by decide +kernel)) ggX6_shift_X6_isMore
theorem dX6_shift_0 : decode cX6_shift 0 = .ok (.iload_n 1, 1) := by decide +kernel
theorem dX6_shift_1 : decode cX6_shift 1 = .ok (.iconst 2, 1) := by decide +kernel
theorem dX6_shift_2 : decode cX6_shift 2 = .ok (.invokestatic 53, 3) := by decide +kernel
theorem dX6_shift_5 : decode cX6_shift 5 = .ok (.ifCond .ne 10, 3) := by decide +kernel
theorem dX6_shift_8 : decode cX6_shift 8 = .ok (.aload_n 0, 1) := by decide +kernel
theorem dX6_shift_9 : decode cX6_shift 9 = .ok (.bipush (-2), 2) := by decide +kernel
theorem dX6_shift_11 : decode cX6_shift 11 = .ok (.invokevirtual 34, 3) := by decide +kernel
theorem dX6_shift_14 : decode cX6_shift 14 = .ok (.ireturn, 1) := by decide +kernel
theorem dX6_shift_15 : decode cX6_shift 15 = .ok (.bipush (-9), 2) := by decide +kernel
theorem dX6_shift_17 : decode cX6_shift 17 = .ok (.istore_n 2, 1) := by decide +kernel
theorem dX6_shift_18 : decode cX6_shift 18 = .ok (.lconst 0, 1) := by decide +kernel
theorem dX6_shift_19 : decode cX6_shift 19 = .ok (.lstore_n 3, 1) := by decide +kernel
theorem dX6_shift_20 : decode cX6_shift 20 = .ok (.lconst 1, 1) := by decide +kernel
theorem dX6_shift_21 : decode cX6_shift 21 = .ok (.lstore 5, 2) := by decide +kernel
theorem dX6_shift_23 : decode cX6_shift 23 = .ok (.iconst 0, 1) := by decide +kernel
theorem dX6_shift_24 : decode cX6_shift 24 = .ok (.istore 7, 2) := by decide +kernel
theorem dX6_shift_26 : decode cX6_shift 26 = .ok (.iload 7, 2) := by decide +kernel
theorem dX6_shift_28 : decode cX6_shift 28 = .ok (.bipush 6, 2) := by decide +kernel
theorem dX6_shift_30 : decode cX6_shift 30 = .ok (.if_icmp .ge 94, 3) := by decide +kernel
theorem dX6_shift_33 : decode cX6_shift 33 = .ok (.aload_n 0, 1) := by decide +kernel
theorem dX6_shift_34 : decode cX6_shift 34 = .ok (.iload 7, 2) := by decide +kernel
theorem dX6_shift_36 : decode cX6_shift 36 = .ok (.invokevirtual 162, 3) := by decide +kernel
theorem dX6_shift_39 : decode cX6_shift 39 = .ok (.aload_n 0, 1) := by decide +kernel
theorem dX6_shift_40 : decode cX6_shift 40 = .ok (.getfield 98, 3) := by decide +kernel
theorem dX6_shift_43 : decode cX6_shift 43 = .ok (.aload_n 0, 1) := by decide +kernel
theorem dX6_shift_44 : decode cX6_shift 44 = .ok (.getfield 94, 3) := by decide +kernel
theorem dX6_shift_47 : decode cX6_shift 47 = .ok (.iconst 0, 1) := by decide +kernel
theorem dX6_shift_48 : decode cX6_shift 48 = .ok (.invokestatic 166, 3) := by decide +kernel
theorem dX6_shift_51 : decode cX6_shift 51 = .ok (.lstore 8, 2) := by decide +kernel
theorem dX6_shift_53 : decode cX6_shift 53 = .ok (.aload_n 0, 1) := by decide +kernel
theorem dX6_shift_54 : decode cX6_shift 54 = .ok (.getfield 98, 3) := by decide +kernel
theorem dX6_shift_57 : decode cX6_shift 57 = .ok (.aload_n 0, 1) := by decide +kernel
theorem dX6_shift_58 : decode cX6_shift 58 = .ok (.getfield 94, 3) := by decide +kernel
theorem dX6_shift_61 : decode cX6_shift 61 = .ok (.iconst 1, 1) := by decide +kernel
theorem dX6_shift_62 : decode cX6_shift 62 = .ok (.invokestatic 166, 3) := by decide +kernel
theorem dX6_shift_65 : decode cX6_shift 65 = .ok (.lstore 10, 2) := by decide +kernel
theorem dX6_shift_67 : decode cX6_shift 67 = .ok (.iload_n 1, 1) := by decide +kernel
theorem dX6_shift_68 : decode cX6_shift 68 = .ok (.ifCond .ne 16, 3) := by decide +kernel
theorem dX6_shift_71 : decode cX6_shift 71 = .ok (.lload 8, 2) := by decide +kernel
theorem dX6_shift_73 : decode cX6_shift 73 = .ok (.lload 10, 2) := by decide +kernel
theorem dX6_shift_75 : decode cX6_shift 75 = .ok (.lload_n 3, 1) := by decide +kernel
theorem dX6_shift_76 : decode cX6_shift 76 = .ok (.lload 5, 2) := by decide +kernel
theorem dX6_shift_78 : decode cX6_shift 78 = .ok (.invokestatic 194, 3) := by decide +kernel
theorem dX6_shift_81 : decode cX6_shift 81 = .ok (.goto 13, 3) := by decide +kernel
theorem dX6_shift_84 : decode cX6_shift 84 = .ok (.lload_n 3, 1) := by decide +kernel
theorem dX6_shift_85 : decode cX6_shift 85 = .ok (.lload 5, 2) := by decide +kernel
theorem dX6_shift_87 : decode cX6_shift 87 = .ok (.lload 8, 2) := by decide +kernel
theorem dX6_shift_89 : decode cX6_shift 89 = .ok (.lload 10, 2) := by decide +kernel
theorem dX6_shift_91 : decode cX6_shift 91 = .ok (.invokestatic 194, 3) := by decide +kernel
theorem dX6_shift_94 : decode cX6_shift 94 = .ok (.istore 12, 2) := by decide +kernel
theorem dX6_shift_96 : decode cX6_shift 96 = .ok (.iload_n 2, 1) := by decide +kernel
theorem dX6_shift_97 : decode cX6_shift 97 = .ok (.ifCond .lt 11, 3) := by decide +kernel
theorem dX6_shift_100 : decode cX6_shift 100 = .ok (.iload 12, 2) := by decide +kernel
theorem dX6_shift_102 : decode cX6_shift 102 = .ok (.ifCond .ne 6, 3) := by decide +kernel
theorem dX6_shift_105 : decode cX6_shift 105 = .ok (.goto 13, 3) := by decide +kernel
theorem dX6_shift_108 : decode cX6_shift 108 = .ok (.iload 7, 2) := by decide +kernel
theorem dX6_shift_110 : decode cX6_shift 110 = .ok (.istore_n 2, 1) := by decide +kernel
theorem dX6_shift_111 : decode cX6_shift 111 = .ok (.lload 8, 2) := by decide +kernel
theorem dX6_shift_113 : decode cX6_shift 113 = .ok (.lstore_n 3, 1) := by decide +kernel
theorem dX6_shift_114 : decode cX6_shift 114 = .ok (.lload 10, 2) := by decide +kernel
theorem dX6_shift_116 : decode cX6_shift 116 = .ok (.lstore 5, 2) := by decide +kernel
theorem dX6_shift_118 : decode cX6_shift 118 = .ok (.iinc 7 1, 3) := by decide +kernel
theorem dX6_shift_121 : decode cX6_shift 121 = .ok (.goto (-95), 3) := by decide +kernel
theorem dX6_shift_124 : decode cX6_shift 124 = .ok (.iload_n 2, 1) := by decide +kernel
theorem dX6_shift_125 : decode cX6_shift 125 = .ok (.ireturn, 1) := by decide +kernel
set_option maxRecDepth 20000 in
theorem ggX6_isMore_X6_isMore : GoodIn wsX6_isMore wsX6_isMore := goodIn_r _ [0, 1, 2, 3] (by decide +kernel) (by decide +kernel)
set_option maxRecDepth 20000 in
theorem gX6_isMore_X6_isMore : GoodIn wsX6_isMore (va_wsS RX6 194 yX6_isMore wsX6_isMore) := goodIn_app (goodIn_of _ (by decide +kernel)) ggX6_isMore_X6_isMore
theorem dX6_isMore_0 : decode cX6_isMore 0 = .ok (.lload_n 0, 1) := by decide +kernel
theorem dX6_isMore_1 : decode cX6_isMore 1 = .ok (.lload_n 2, 1) := by decide +kernel
theorem dX6_isMore_2 : decode cX6_isMore 2 = .ok (.ldiv, 1) := by decide +kernel
theorem dX6_isMore_3 : decode cX6_isMore 3 = .ok (.lstore 8, 2) := by decide +kernel
theorem dX6_isMore_5 : decode cX6_isMore 5 = .ok (.lload 4, 2) := by decide +kernel
theorem dX6_isMore_7 : decode cX6_isMore 7 = .ok (.lload 6, 2) := by decide +kernel
theorem dX6_isMore_9 : decode cX6_isMore 9 = .ok (.ldiv, 1) := by decide +kernel
theorem dX6_isMore_10 : decode cX6_isMore 10 = .ok (.lstore 10, 2) := by decide +kernel
theorem dX6_isMore_12 : decode cX6_isMore 12 = .ok (.lload 8, 2) := by decide +kernel
theorem dX6_isMore_14 : decode cX6_isMore 14 = .ok (.lload 10, 2) := by decide +kernel
theorem dX6_isMore_16 : decode cX6_isMore 16 = .ok (.lcmp, 1) := by decide +kernel
theorem dX6_isMore_17 : decode cX6_isMore 17 = .ok (.ifCond .eq 17, 3) := by decide +kernel
theorem dX6_isMore_20 : decode cX6_isMore 20 = .ok (.lload 8, 2) := by decide +kernel
theorem dX6_isMore_22 : decode cX6_isMore 22 = .ok (.lload 10, 2) := by decide +kernel
theorem dX6_isMore_24 : decode cX6_isMore 24 = .ok (.lcmp, 1) := by decide +kernel
theorem dX6_isMore_25 : decode cX6_isMore 25 = .ok (.ifCond .le 7, 3) := by decide +kernel
theorem dX6_isMore_28 : decode cX6_isMore 28 = .ok (.iconst 1, 1) := by decide +kernel
theorem dX6_isMore_29 : decode cX6_isMore 29 = .ok (.goto 4, 3) := by decide +kernel
theorem dX6_isMore_32 : decode cX6_isMore 32 = .ok (.iconst 0, 1) := by decide +kernel
theorem dX6_isMore_33 : decode cX6_isMore 33 = .ok (.ireturn, 1) := by decide +kernel
theorem dX6_isMore_34 : decode cX6_isMore 34 = .ok (.lload_n 0, 1) := by decide +kernel
theorem dX6_isMore_35 : decode cX6_isMore 35 = .ok (.lload_n 2, 1) := by decide +kernel
theorem dX6_isMore_36 : decode cX6_isMore 36 = .ok (.lrem, 1) := by decide +kernel
theorem dX6_isMore_37 : decode cX6_isMore 37 = .ok (.lstore 12, 2) := by decide +kernel
theorem dX6_isMore_39 : decode cX6_isMore 39 = .ok (.lload 4, 2) := by decide +kernel
theorem dX6_isMore_41 : decode cX6_isMore 41 = .ok (.lload 6, 2) := by decide +kernel
theorem dX6_isMore_43 : decode cX6_isMore 43 = .ok (.lrem, 1) := by decide +kernel
theorem dX6_isMore_44 : decode cX6_isMore 44 = .ok (.lstore 14, 2) := by decide +kernel
theorem dX6_isMore_46 : decode cX6_isMore 46 = .ok (.lload 12, 2) := by decide +kernel
theorem dX6_isMore_48 : decode cX6_isMore 48 = .ok (.lconst 0, 1) := by decide +kernel
theorem dX6_isMore_49 : decode cX6_isMore 49 = .ok (.lcmp, 1) := by decide +kernel
theorem dX6_isMore_50 : decode cX6_isMore 50 = .ok (.ifCond .eq 10, 3) := by decide +kernel
theorem dX6_isMore_53 : decode cX6_isMore 53 = .ok (.lload 14, 2) := by decide +kernel
theorem dX6_isMore_55 : decode cX6_isMore 55 = .ok (.lconst 0, 1) := by decide +kernel
theorem dX6_isMore_56 : decode cX6_isMore 56 = .ok (.lcmp, 1) := by decide +kernel
theorem dX6_isMore_57 : decode cX6_isMore 57 = .ok (.ifCond .ne 16, 3) := by decide +kernel
theorem dX6_isMore_60 : decode cX6_isMore 60 = .ok (.lload 12, 2) := by decide +kernel
theorem dX6_isMore_62 : decode cX6_isMore 62 = .ok (.lconst 0, 1) := by decide +kernel
theorem dX6_isMore_63 : decode cX6_isMore 63 = .ok (.lcmp, 1) := by decide +kernel
theorem dX6_isMore_64 : decode cX6_isMore 64 = .ok (.ifCond .le 7, 3) := by decide +kernel
theorem dX6_isMore_67 : decode cX6_isMore 67 = .ok (.iconst 1, 1) := by decide +kernel
theorem dX6_isMore_68 : decode cX6_isMore 68 = .ok (.goto 4, 3) := by decide +kernel
theorem dX6_isMore_71 : decode cX6_isMore 71 = .ok (.iconst 0, 1) := by decide +kernel
theorem dX6_isMore_72 : decode cX6_isMore 72 = .ok (.ireturn, 1) := by decide +kernel
theorem dX6_isMore_73 : decode cX6_isMore 73 = .ok (.lload 6, 2) := by decide +kernel
theorem dX6_isMore_75 : decode cX6_isMore 75 = .ok (.lload 14, 2) := by decide +kernel
theorem dX6_isMore_77 : decode cX6_isMore 77 = .ok (.lload_n 2, 1) := by decide +kernel
theorem dX6_isMore_78 : decode cX6_isMore 78 = .ok (.lload 12, 2) := by decide +kernel
theorem dX6_isMore_80 : decode cX6_isMore 80 = .ok (.invokestatic 194, 3) := by decide +kernel
theorem dX6_isMore_83 : decode cX6_isMore 83 = .ok (.ireturn, 1) := by decide +kernel
theorem dX6_manyOf_0 : decode cX6_manyOf 0 = .ok (.aload_n 0, 1) := by decide +kernel
theorem dX6_manyOf_1 : decode cX6_manyOf 1 = .ok (.getfield 13, 3) := by decide +kernel
theorem dX6_manyOf_4 : decode cX6_manyOf 4 = .ok (.bipush 6, 2) := by decide +kernel
theorem dX6_manyOf_6 : decode cX6_manyOf 6 = .ok (.iconst 2, 1) := by decide +kernel
theorem dX6_manyOf_7 : decode cX6_manyOf 7 = .ok (.iload_n 1, 1) := by decide +kernel
theorem dX6_manyOf_8 : decode cX6_manyOf 8 = .ok (.imul, 1) := by decide +kernel
theorem dX6_manyOf_9 : decode cX6_manyOf 9 = .ok (.iadd, 1) := by decide +kernel
theorem dX6_manyOf_10 : decode cX6_manyOf 10 = .ok (.iaload, 1) := by decide +kernel
theorem dX6_manyOf_11 : decode cX6_manyOf 11 = .ok (.ireturn, 1) := by decide +kernel
theorem dX6_sortsOf_0 : decode cX6_sortsOf 0 = .ok (.aload_n 0, 1) := by decide +kernel
theorem dX6_sortsOf_1 : decode cX6_sortsOf 1 = .ok (.getfield 13, 3) := by decide +kernel
theorem dX6_sortsOf_4 : decode cX6_sortsOf 4 = .ok (.bipush 6, 2) := by decide +kernel
theorem dX6_sortsOf_6 : decode cX6_sortsOf 6 = .ok (.iconst 2, 1) := by decide +kernel
theorem dX6_sortsOf_7 : decode cX6_sortsOf 7 = .ok (.iload_n 1, 1) := by decide +kernel
theorem dX6_sortsOf_8 : decode cX6_sortsOf 8 = .ok (.imul, 1) := by decide +kernel
theorem dX6_sortsOf_9 : decode cX6_sortsOf 9 = .ok (.iadd, 1) := by decide +kernel
theorem dX6_sortsOf_10 : decode cX6_sortsOf 10 = .ok (.iconst 1, 1) := by decide +kernel
theorem dX6_sortsOf_11 : decode cX6_sortsOf 11 = .ok (.iadd, 1) := by decide +kernel
theorem dX6_sortsOf_12 : decode cX6_sortsOf 12 = .ok (.iaload, 1) := by decide +kernel
theorem dX6_sortsOf_13 : decode cX6_sortsOf 13 = .ok (.ireturn, 1) := by decide +kernel
set_option maxRecDepth 20000 in
theorem ggX6_fits_X6_isIn : GoodIn wsX6_fits wsX6_isIn := goodIn_r _ [5] (by decide +kernel) (by decide +kernel)
set_option maxRecDepth 20000 in
theorem gX6_fits_X6_isIn : GoodIn wsX6_fits (va_wsS RX6 53 yX6_isIn wsX6_isIn) := goodIn_app (goodIn_of _ (by decide +kernel)) ggX6_fits_X6_isIn
set_option maxRecDepth 20000 in
theorem ggX6_fits_X6_refuse : GoodIn wsX6_fits wsX6_refuse := goodIn_r _ [9, 10, 33, 34, 35, 36, 37, 38, 39, 40, 41, 42, 43, 44, 45, 46, 47, 48, 49, 50, 51, 52, 53, 54, 55, 56, 57, 58, 59, 60, 61] (by decide +kernel) (by decide +kernel)
set_option maxRecDepth 20000 in
theorem gX6_fits_X6_refuse : GoodIn wsX6_fits (wsV RX6 34 RX6 yX6_refuse wsX6_refuse) := goodIn_app (goodIn_of _ (by decide +kernel)) ggX6_fits_X6_refuse
set_option maxRecDepth 20000 in
theorem ggX6_fits_X6_manyOf : GoodIn wsX6_fits wsX6_manyOf := goodIn_r _ [14, 1, 33, 34, 35, 36, 37, 38, 39, 40, 41, 42, 43, 44, 45, 46, 47, 48, 49, 50, 51, 52, 53, 54, 55, 56, 57, 58, 59, 60, 61] (by decide +kernel) (by decide +kernel)
set_option maxRecDepth 20000 in
theorem gX6_fits_X6_manyOf : GoodIn wsX6_fits (wsV RX6 198 RX6 yX6_manyOf wsX6_manyOf) := goodIn_app (goodIn_of _ (by decide +kernel)) ggX6_fits_X6_manyOf
set_option maxRecDepth 20000 in
theorem ggX6_fits_X6_sortsOf : GoodIn wsX6_fits wsX6_sortsOf := goodIn_r _ [18, 1, 33, 34, 35, 36, 37, 38, 39, 40, 41, 42, 43, 44, 45, 46, 47, 48, 49, 50, 51, 52, 53, 54, 55, 56, 57, 58, 59, 60, 61] (by decide +kernel) (by decide +kernel)
set_option maxRecDepth 20000 in
theorem gX6_fits_X6_sortsOf : GoodIn wsX6_fits (wsV RX6 201 RX6 yX6_sortsOf wsX6_sortsOf) := goodIn_app (goodIn_of _ (by decide +kernel)) ggX6_fits_X6_sortsOf
set_option maxRecDepth 20000 in
theorem ggX6_fits_X6_stopOf : GoodIn wsX6_fits wsX6_stopOf := goodIn_r _ [22, 23, 24, 25, 26, 27, 28, 4, 29, 1, 30, 31, 32, 33, 34, 35, 36, 37, 38, 39, 40, 41, 42, 43, 44, 45, 46, 47, 48, 49, 50, 51, 52, 53, 54, 55, 56, 57, 58, 59, 60, 61] (by decide +kernel) (by decide +kernel)
set_option maxRecDepth 20000 in
theorem gX6_fits_X6_stopOf : GoodIn wsX6_fits (wsV RX6 191 RX6 yX6_stopOf wsX6_stopOf) := goodIn_app (goodIn_of _ (by decide +kernel)) ggX6_fits_X6_stopOf
theorem dX6_fits_0 : decode cX6_fits 0 = .ok (.iload_n 1, 1) := by decide +kernel
theorem dX6_fits_1 : decode cX6_fits 1 = .ok (.iconst 2, 1) := by decide +kernel
theorem dX6_fits_2 : decode cX6_fits 2 = .ok (.invokestatic 53, 3) := by decide +kernel
theorem dX6_fits_5 : decode cX6_fits 5 = .ok (.ifCond .ne 10, 3) := by decide +kernel
theorem dX6_fits_8 : decode cX6_fits 8 = .ok (.aload_n 0, 1) := by decide +kernel
theorem dX6_fits_9 : decode cX6_fits 9 = .ok (.bipush (-2), 2) := by decide +kernel
theorem dX6_fits_11 : decode cX6_fits 11 = .ok (.invokevirtual 34, 3) := by decide +kernel
theorem dX6_fits_14 : decode cX6_fits 14 = .ok (.ireturn, 1) := by decide +kernel
theorem dX6_fits_15 : decode cX6_fits 15 = .ok (.iconst 0, 1) := by decide +kernel
theorem dX6_fits_16 : decode cX6_fits 16 = .ok (.istore_n 2, 1) := by decide +kernel
theorem dX6_fits_17 : decode cX6_fits 17 = .ok (.iconst 0, 1) := by decide +kernel
theorem dX6_fits_18 : decode cX6_fits 18 = .ok (.istore_n 3, 1) := by decide +kernel
theorem dX6_fits_19 : decode cX6_fits 19 = .ok (.iload_n 3, 1) := by decide +kernel
theorem dX6_fits_20 : decode cX6_fits 20 = .ok (.bipush 6, 2) := by decide +kernel
theorem dX6_fits_22 : decode cX6_fits 22 = .ok (.if_icmp .ge 99, 3) := by decide +kernel
theorem dX6_fits_25 : decode cX6_fits 25 = .ok (.iconst 1, 1) := by decide +kernel
theorem dX6_fits_26 : decode cX6_fits 26 = .ok (.istore 4, 2) := by decide +kernel
theorem dX6_fits_28 : decode cX6_fits 28 = .ok (.iconst 0, 1) := by decide +kernel
theorem dX6_fits_29 : decode cX6_fits 29 = .ok (.istore 5, 2) := by decide +kernel
theorem dX6_fits_31 : decode cX6_fits 31 = .ok (.iload 5, 2) := by decide +kernel
theorem dX6_fits_33 : decode cX6_fits 33 = .ok (.aload_n 0, 1) := by decide +kernel
theorem dX6_fits_34 : decode cX6_fits 34 = .ok (.getfield 13, 3) := by decide +kernel
theorem dX6_fits_37 : decode cX6_fits 37 = .ok (.iconst 5, 1) := by decide +kernel
theorem dX6_fits_38 : decode cX6_fits 38 = .ok (.iaload, 1) := by decide +kernel
theorem dX6_fits_39 : decode cX6_fits 39 = .ok (.if_icmp .ge 61, 3) := by decide +kernel
theorem dX6_fits_42 : decode cX6_fits 42 = .ok (.aload_n 0, 1) := by decide +kernel
theorem dX6_fits_43 : decode cX6_fits 43 = .ok (.iload_n 3, 1) := by decide +kernel
theorem dX6_fits_44 : decode cX6_fits 44 = .ok (.aload_n 0, 1) := by decide +kernel
theorem dX6_fits_45 : decode cX6_fits 45 = .ok (.iload 5, 2) := by decide +kernel
theorem dX6_fits_47 : decode cX6_fits 47 = .ok (.invokevirtual 198, 3) := by decide +kernel
theorem dX6_fits_50 : decode cX6_fits 50 = .ok (.aload_n 0, 1) := by decide +kernel
theorem dX6_fits_51 : decode cX6_fits 51 = .ok (.iload 5, 2) := by decide +kernel
theorem dX6_fits_53 : decode cX6_fits 53 = .ok (.invokevirtual 201, 3) := by decide +kernel
theorem dX6_fits_56 : decode cX6_fits 56 = .ok (.invokevirtual 191, 3) := by decide +kernel
theorem dX6_fits_59 : decode cX6_fits 59 = .ok (.istore 6, 2) := by decide +kernel
theorem dX6_fits_61 : decode cX6_fits 61 = .ok (.iload 4, 2) := by decide +kernel
theorem dX6_fits_63 : decode cX6_fits 63 = .ok (.ifCond .eq 28, 3) := by decide +kernel
theorem dX6_fits_66 : decode cX6_fits 66 = .ok (.iload 6, 2) := by decide +kernel
theorem dX6_fits_68 : decode cX6_fits 68 = .ok (.aload_n 0, 1) := by decide +kernel
theorem dX6_fits_69 : decode cX6_fits 69 = .ok (.iload 5, 2) := by decide +kernel
theorem dX6_fits_71 : decode cX6_fits 71 = .ok (.invokevirtual 198, 3) := by decide +kernel
theorem dX6_fits_74 : decode cX6_fits 74 = .ok (.if_icmp .eq 13, 3) := by decide +kernel
theorem dX6_fits_77 : decode cX6_fits 77 = .ok (.iload_n 1, 1) := by decide +kernel
theorem dX6_fits_78 : decode cX6_fits 78 = .ok (.iconst 1, 1) := by decide +kernel
theorem dX6_fits_79 : decode cX6_fits 79 = .ok (.if_icmp .ne 12, 3) := by decide +kernel
theorem dX6_fits_82 : decode cX6_fits 82 = .ok (.iload 6, 2) := by decide +kernel
theorem dX6_fits_84 : decode cX6_fits 84 = .ok (.ifCond .ne 7, 3) := by decide +kernel
theorem dX6_fits_87 : decode cX6_fits 87 = .ok (.iconst 1, 1) := by decide +kernel
theorem dX6_fits_88 : decode cX6_fits 88 = .ok (.goto 4, 3) := by decide +kernel
theorem dX6_fits_91 : decode cX6_fits 91 = .ok (.iconst 0, 1) := by decide +kernel
theorem dX6_fits_92 : decode cX6_fits 92 = .ok (.istore 4, 2) := by decide +kernel
theorem dX6_fits_94 : decode cX6_fits 94 = .ok (.iinc 5 1, 3) := by decide +kernel
theorem dX6_fits_97 : decode cX6_fits 97 = .ok (.goto (-66), 3) := by decide +kernel
theorem dX6_fits_100 : decode cX6_fits 100 = .ok (.iload_n 2, 1) := by decide +kernel
theorem dX6_fits_101 : decode cX6_fits 101 = .ok (.iload 4, 2) := by decide +kernel
theorem dX6_fits_103 : decode cX6_fits 103 = .ok (.ifCond .eq 9, 3) := by decide +kernel
theorem dX6_fits_106 : decode cX6_fits 106 = .ok (.iconst 1, 1) := by decide +kernel
theorem dX6_fits_107 : decode cX6_fits 107 = .ok (.iload_n 3, 1) := by decide +kernel
theorem dX6_fits_108 : decode cX6_fits 108 = .ok (.ishl, 1) := by decide +kernel
theorem dX6_fits_109 : decode cX6_fits 109 = .ok (.goto 4, 3) := by decide +kernel
theorem dX6_fits_112 : decode cX6_fits 112 = .ok (.iconst 0, 1) := by decide +kernel
theorem dX6_fits_113 : decode cX6_fits 113 = .ok (.ior, 1) := by decide +kernel
theorem dX6_fits_114 : decode cX6_fits 114 = .ok (.istore_n 2, 1) := by decide +kernel
theorem dX6_fits_115 : decode cX6_fits 115 = .ok (.iinc 3 1, 3) := by decide +kernel
theorem dX6_fits_118 : decode cX6_fits 118 = .ok (.goto (-99), 3) := by decide +kernel
theorem dX6_fits_121 : decode cX6_fits 121 = .ok (.iload_n 2, 1) := by decide +kernel
theorem dX6_fits_122 : decode cX6_fits 122 = .ok (.ireturn, 1) := by decide +kernel
set_option maxRecDepth 20000 in
theorem ggX6_judge_X6_stopOf : GoodIn wsX6_judge wsX6_stopOf := goodIn_r _ [8, 9, 10, 11, 12, 13, 14, 7, 15, 2, 16, 17, 18, 19, 20, 21, 22, 23, 24, 25, 26, 27, 28, 29, 30, 31, 32, 33, 34, 35, 36, 37, 38, 39, 40, 41, 42, 43, 44, 45, 46, 47] (by decide +kernel) (by decide +kernel)
set_option maxRecDepth 20000 in
theorem gX6_judge_X6_stopOf : GoodIn wsX6_judge (wsV RX6 191 RX6 yX6_stopOf wsX6_stopOf) := goodIn_app (goodIn_of _ (by decide +kernel)) ggX6_judge_X6_stopOf
theorem dX6_judge_0 : decode cX6_judge 0 = .ok (.aload_n 0, 1) := by decide +kernel
theorem dX6_judge_1 : decode cX6_judge 1 = .ok (.getfield 185, 3) := by decide +kernel
theorem dX6_judge_4 : decode cX6_judge 4 = .ok (.istore_n 1, 1) := by decide +kernel
theorem dX6_judge_5 : decode cX6_judge 5 = .ok (.aload_n 0, 1) := by decide +kernel
theorem dX6_judge_6 : decode cX6_judge 6 = .ok (.iconst 0, 1) := by decide +kernel
theorem dX6_judge_7 : decode cX6_judge 7 = .ok (.putfield 185, 3) := by decide +kernel
theorem dX6_judge_10 : decode cX6_judge 10 = .ok (.aload_n 0, 1) := by decide +kernel
theorem dX6_judge_11 : decode cX6_judge 11 = .ok (.aload_n 0, 1) := by decide +kernel
theorem dX6_judge_12 : decode cX6_judge 12 = .ok (.getfield 13, 3) := by decide +kernel
theorem dX6_judge_15 : decode cX6_judge 15 = .ok (.iconst 3, 1) := by decide +kernel
theorem dX6_judge_16 : decode cX6_judge 16 = .ok (.iaload, 1) := by decide +kernel
theorem dX6_judge_17 : decode cX6_judge 17 = .ok (.iload_n 1, 1) := by decide +kernel
theorem dX6_judge_18 : decode cX6_judge 18 = .ok (.aload_n 0, 1) := by decide +kernel
theorem dX6_judge_19 : decode cX6_judge 19 = .ok (.getfield 188, 3) := by decide +kernel
theorem dX6_judge_22 : decode cX6_judge 22 = .ok (.invokevirtual 191, 3) := by decide +kernel
theorem dX6_judge_25 : decode cX6_judge 25 = .ok (.istore_n 2, 1) := by decide +kernel
theorem dX6_judge_26 : decode cX6_judge 26 = .ok (.iload_n 2, 1) := by decide +kernel
theorem dX6_judge_27 : decode cX6_judge 27 = .ok (.ifCond .ne 8, 3) := by decide +kernel
theorem dX6_judge_30 : decode cX6_judge 30 = .ok (.bipush (-9), 2) := by decide +kernel
theorem dX6_judge_32 : decode cX6_judge 32 = .ok (.goto 16, 3) := by decide +kernel
theorem dX6_judge_35 : decode cX6_judge 35 = .ok (.iload_n 2, 1) := by decide +kernel
theorem dX6_judge_36 : decode cX6_judge 36 = .ok (.iload_n 1, 1) := by decide +kernel
theorem dX6_judge_37 : decode cX6_judge 37 = .ok (.if_icmp .ne 8, 3) := by decide +kernel
theorem dX6_judge_40 : decode cX6_judge 40 = .ok (.bipush 20, 2) := by decide +kernel
theorem dX6_judge_42 : decode cX6_judge 42 = .ok (.goto 6, 3) := by decide +kernel
theorem dX6_judge_45 : decode cX6_judge 45 = .ok (.iload_n 2, 1) := by decide +kernel
theorem dX6_judge_46 : decode cX6_judge 46 = .ok (.iconst 1, 1) := by decide +kernel
theorem dX6_judge_47 : decode cX6_judge 47 = .ok (.isub, 1) := by decide +kernel
theorem dX6_judge_48 : decode cX6_judge 48 = .ok (.ireturn, 1) := by decide +kernel
set_option maxRecDepth 20000 in
theorem ggX6_seen_X6_isIn : GoodIn wsX6_seen wsX6_isIn := goodIn_r _ [5] (by decide +kernel) (by decide +kernel)
set_option maxRecDepth 20000 in
theorem gX6_seen_X6_isIn : GoodIn wsX6_seen (va_wsS RX6 53 yX6_isIn wsX6_isIn) := goodIn_app (goodIn_of _ (by decide +kernel)) ggX6_seen_X6_isIn
set_option maxRecDepth 20000 in
theorem ggX6_seen_X6_refuse : GoodIn wsX6_seen wsX6_refuse := goodIn_r _ [9, 10, 19, 20, 21, 22, 23, 24, 25, 26, 27, 28, 29, 30, 31, 32, 33, 34, 35, 36, 37, 38, 39, 40, 41, 42, 43, 44, 45, 46, 47] (by decide +kernel) (by decide +kernel)
set_option maxRecDepth 20000 in
theorem gX6_seen_X6_refuse : GoodIn wsX6_seen (wsV RX6 34 RX6 yX6_refuse wsX6_refuse) := goodIn_app (goodIn_of _ (by decide +kernel)) ggX6_seen_X6_refuse
set_option maxRecDepth 20000 in
theorem ggX6_seen_X6_manyOf : GoodIn wsX6_seen wsX6_manyOf := goodIn_r _ [14, 1, 19, 20, 21, 22, 23, 24, 25, 26, 27, 28, 29, 30, 31, 32, 33, 34, 35, 36, 37, 38, 39, 40, 41, 42, 43, 44, 45, 46, 47] (by decide +kernel) (by decide +kernel)
set_option maxRecDepth 20000 in
theorem gX6_seen_X6_manyOf : GoodIn wsX6_seen (wsV RX6 198 RX6 yX6_manyOf wsX6_manyOf) := goodIn_app (goodIn_of _ (by decide +kernel)) ggX6_seen_X6_manyOf
set_option maxRecDepth 20000 in
theorem ggX6_seen_X6_sortsOf : GoodIn wsX6_seen wsX6_sortsOf := goodIn_r _ [18, 1, 19, 20, 21, 22, 23, 24, 25, 26, 27, 28, 29, 30, 31, 32, 33, 34, 35, 36, 37, 38, 39, 40, 41, 42, 43, 44, 45, 46, 47] (by decide +kernel) (by decide +kernel)
set_option maxRecDepth 20000 in
theorem gX6_seen_X6_sortsOf : GoodIn wsX6_seen (wsV RX6 201 RX6 yX6_sortsOf wsX6_sortsOf) := goodIn_app (goodIn_of _ (by decide +kernel)) ggX6_seen_X6_sortsOf
theorem dX6_seen_0 : decode cX6_seen 0 = .ok (.iload_n 1, 1) := by decide +kernel
theorem dX6_seen_1 : decode cX6_seen 1 = .ok (.ifCond .ge 8, 3) := by decide +kernel
theorem dX6_seen_4 : decode cX6_seen 4 = .ok (.bipush (-4), 2) := by decide +kernel
theorem dX6_seen_6 : decode cX6_seen 6 = .ok (.goto 17, 3) := by decide +kernel
theorem dX6_seen_9 : decode cX6_seen 9 = .ok (.iload_n 2, 1) := by decide +kernel
theorem dX6_seen_10 : decode cX6_seen 10 = .ok (.iconst 2, 1) := by decide +kernel
theorem dX6_seen_11 : decode cX6_seen 11 = .ok (.invokestatic 53, 3) := by decide +kernel
theorem dX6_seen_14 : decode cX6_seen 14 = .ok (.ifCond .eq 7, 3) := by decide +kernel
theorem dX6_seen_17 : decode cX6_seen 17 = .ok (.iconst 0, 1) := by decide +kernel
theorem dX6_seen_18 : decode cX6_seen 18 = .ok (.goto 5, 3) := by decide +kernel
theorem dX6_seen_21 : decode cX6_seen 21 = .ok (.bipush (-2), 2) := by decide +kernel
theorem dX6_seen_23 : decode cX6_seen 23 = .ok (.istore_n 3, 1) := by decide +kernel
theorem dX6_seen_24 : decode cX6_seen 24 = .ok (.iload_n 3, 1) := by decide +kernel
theorem dX6_seen_25 : decode cX6_seen 25 = .ok (.ifCond .eq 9, 3) := by decide +kernel
theorem dX6_seen_28 : decode cX6_seen 28 = .ok (.aload_n 0, 1) := by decide +kernel
theorem dX6_seen_29 : decode cX6_seen 29 = .ok (.iload_n 3, 1) := by decide +kernel
theorem dX6_seen_30 : decode cX6_seen 30 = .ok (.invokevirtual 34, 3) := by decide +kernel
theorem dX6_seen_33 : decode cX6_seen 33 = .ok (.ireturn, 1) := by decide +kernel
theorem dX6_seen_34 : decode cX6_seen 34 = .ok (.iload_n 1, 1) := by decide +kernel
theorem dX6_seen_35 : decode cX6_seen 35 = .ok (.aload_n 0, 1) := by decide +kernel
theorem dX6_seen_36 : decode cX6_seen 36 = .ok (.getfield 13, 3) := by decide +kernel
theorem dX6_seen_39 : decode cX6_seen 39 = .ok (.iconst 5, 1) := by decide +kernel
theorem dX6_seen_40 : decode cX6_seen 40 = .ok (.iaload, 1) := by decide +kernel
theorem dX6_seen_41 : decode cX6_seen 41 = .ok (.if_icmp .lt 8, 3) := by decide +kernel
theorem dX6_seen_44 : decode cX6_seen 44 = .ok (.bipush (-9), 2) := by decide +kernel
theorem dX6_seen_46 : decode cX6_seen 46 = .ok (.goto 20, 3) := by decide +kernel
theorem dX6_seen_49 : decode cX6_seen 49 = .ok (.iload_n 2, 1) := by decide +kernel
theorem dX6_seen_50 : decode cX6_seen 50 = .ok (.ifCond .ne 11, 3) := by decide +kernel
theorem dX6_seen_53 : decode cX6_seen 53 = .ok (.aload_n 0, 1) := by decide +kernel
theorem dX6_seen_54 : decode cX6_seen 54 = .ok (.iload_n 1, 1) := by decide +kernel
theorem dX6_seen_55 : decode cX6_seen 55 = .ok (.invokevirtual 198, 3) := by decide +kernel
theorem dX6_seen_58 : decode cX6_seen 58 = .ok (.goto 8, 3) := by decide +kernel
theorem dX6_seen_61 : decode cX6_seen 61 = .ok (.aload_n 0, 1) := by decide +kernel
theorem dX6_seen_62 : decode cX6_seen 62 = .ok (.iload_n 1, 1) := by decide +kernel
theorem dX6_seen_63 : decode cX6_seen 63 = .ok (.invokevirtual 201, 3) := by decide +kernel
theorem dX6_seen_66 : decode cX6_seen 66 = .ok (.ireturn, 1) := by decide +kernel
set_option maxRecDepth 20000 in
theorem ggX6_cheats_X6_manyOf : GoodIn wsX6_cheats wsX6_manyOf := goodIn_r _ [6, 1, 25, 26, 27, 28, 29, 30, 31, 32, 33, 34, 35, 36, 37, 38, 39, 40, 41, 42, 43, 44, 45, 46, 47, 48, 49, 50, 51, 52, 53] (by decide +kernel) (by decide +kernel)
set_option maxRecDepth 20000 in
theorem gX6_cheats_X6_manyOf : GoodIn wsX6_cheats (wsV RX6 198 RX6 yX6_manyOf wsX6_manyOf) := goodIn_app (goodIn_of _ (by decide +kernel)) ggX6_cheats_X6_manyOf
set_option maxRecDepth 20000 in
theorem ggX6_cheats_X6_sortsOf : GoodIn wsX6_cheats wsX6_sortsOf := goodIn_r _ [10, 1, 25, 26, 27, 28, 29, 30, 31, 32, 33, 34, 35, 36, 37, 38, 39, 40, 41, 42, 43, 44, 45, 46, 47, 48, 49, 50, 51, 52, 53] (by decide +kernel) (by decide +kernel)
set_option maxRecDepth 20000 in
theorem gX6_cheats_X6_sortsOf : GoodIn wsX6_cheats (wsV RX6 201 RX6 yX6_sortsOf wsX6_sortsOf) := goodIn_app (goodIn_of _ (by decide +kernel)) ggX6_cheats_X6_sortsOf
set_option maxRecDepth 20000 in
theorem ggX6_cheats_X6_stopOf : GoodIn wsX6_cheats wsX6_stopOf := goodIn_r _ [14, 15, 16, 17, 18, 19, 20, 5, 21, 1, 22, 23, 24, 25, 26, 27, 28, 29, 30, 31, 32, 33, 34, 35, 36, 37, 38, 39, 40, 41, 42, 43, 44, 45, 46, 47, 48, 49, 50, 51, 52, 53] (by decide +kernel) (by decide +kernel)
set_option maxRecDepth 20000 in
theorem gX6_cheats_X6_stopOf : GoodIn wsX6_cheats (wsV RX6 191 RX6 yX6_stopOf wsX6_stopOf) := goodIn_app (goodIn_of _ (by decide +kernel)) ggX6_cheats_X6_stopOf
theorem dX6_cheats_0 : decode cX6_cheats 0 = .ok (.iconst 0, 1) := by decide +kernel
theorem dX6_cheats_1 : decode cX6_cheats 1 = .ok (.istore_n 1, 1) := by decide +kernel
theorem dX6_cheats_2 : decode cX6_cheats 2 = .ok (.iconst 0, 1) := by decide +kernel
theorem dX6_cheats_3 : decode cX6_cheats 3 = .ok (.istore_n 2, 1) := by decide +kernel
theorem dX6_cheats_4 : decode cX6_cheats 4 = .ok (.iload_n 2, 1) := by decide +kernel
theorem dX6_cheats_5 : decode cX6_cheats 5 = .ok (.aload_n 0, 1) := by decide +kernel
theorem dX6_cheats_6 : decode cX6_cheats 6 = .ok (.getfield 13, 3) := by decide +kernel
theorem dX6_cheats_9 : decode cX6_cheats 9 = .ok (.iconst 5, 1) := by decide +kernel
theorem dX6_cheats_10 : decode cX6_cheats 10 = .ok (.iaload, 1) := by decide +kernel
theorem dX6_cheats_11 : decode cX6_cheats 11 = .ok (.if_icmp .ge 51, 3) := by decide +kernel
theorem dX6_cheats_14 : decode cX6_cheats 14 = .ok (.aload_n 0, 1) := by decide +kernel
theorem dX6_cheats_15 : decode cX6_cheats 15 = .ok (.aload_n 0, 1) := by decide +kernel
theorem dX6_cheats_16 : decode cX6_cheats 16 = .ok (.getfield 13, 3) := by decide +kernel
theorem dX6_cheats_19 : decode cX6_cheats 19 = .ok (.iconst 3, 1) := by decide +kernel
theorem dX6_cheats_20 : decode cX6_cheats 20 = .ok (.iaload, 1) := by decide +kernel
theorem dX6_cheats_21 : decode cX6_cheats 21 = .ok (.aload_n 0, 1) := by decide +kernel
theorem dX6_cheats_22 : decode cX6_cheats 22 = .ok (.iload_n 2, 1) := by decide +kernel
theorem dX6_cheats_23 : decode cX6_cheats 23 = .ok (.invokevirtual 198, 3) := by decide +kernel
theorem dX6_cheats_26 : decode cX6_cheats 26 = .ok (.aload_n 0, 1) := by decide +kernel
theorem dX6_cheats_27 : decode cX6_cheats 27 = .ok (.iload_n 2, 1) := by decide +kernel
theorem dX6_cheats_28 : decode cX6_cheats 28 = .ok (.invokevirtual 201, 3) := by decide +kernel
theorem dX6_cheats_31 : decode cX6_cheats 31 = .ok (.invokevirtual 191, 3) := by decide +kernel
theorem dX6_cheats_34 : decode cX6_cheats 34 = .ok (.istore_n 3, 1) := by decide +kernel
theorem dX6_cheats_35 : decode cX6_cheats 35 = .ok (.iload_n 1, 1) := by decide +kernel
theorem dX6_cheats_36 : decode cX6_cheats 36 = .ok (.iload_n 3, 1) := by decide +kernel
theorem dX6_cheats_37 : decode cX6_cheats 37 = .ok (.ifCond .le 16, 3) := by decide +kernel
theorem dX6_cheats_40 : decode cX6_cheats 40 = .ok (.iload_n 3, 1) := by decide +kernel
theorem dX6_cheats_41 : decode cX6_cheats 41 = .ok (.aload_n 0, 1) := by decide +kernel
theorem dX6_cheats_42 : decode cX6_cheats 42 = .ok (.iload_n 2, 1) := by decide +kernel
theorem dX6_cheats_43 : decode cX6_cheats 43 = .ok (.invokevirtual 198, 3) := by decide +kernel
theorem dX6_cheats_46 : decode cX6_cheats 46 = .ok (.if_icmp .ge 7, 3) := by decide +kernel
theorem dX6_cheats_49 : decode cX6_cheats 49 = .ok (.iconst 1, 1) := by decide +kernel
theorem dX6_cheats_50 : decode cX6_cheats 50 = .ok (.goto 4, 3) := by decide +kernel
theorem dX6_cheats_53 : decode cX6_cheats 53 = .ok (.iconst 0, 1) := by decide +kernel
theorem dX6_cheats_54 : decode cX6_cheats 54 = .ok (.iadd, 1) := by decide +kernel
theorem dX6_cheats_55 : decode cX6_cheats 55 = .ok (.istore_n 1, 1) := by decide +kernel
theorem dX6_cheats_56 : decode cX6_cheats 56 = .ok (.iinc 2 1, 3) := by decide +kernel
theorem dX6_cheats_59 : decode cX6_cheats 59 = .ok (.goto (-55), 3) := by decide +kernel
theorem dX6_cheats_62 : decode cX6_cheats 62 = .ok (.iload_n 1, 1) := by decide +kernel
theorem dX6_cheats_63 : decode cX6_cheats 63 = .ok (.ireturn, 1) := by decide +kernel
theorem dX6_drawn_0 : decode cX6_drawn 0 = .ok (.aload_n 0, 1) := by decide +kernel
theorem dX6_drawn_1 : decode cX6_drawn 1 = .ok (.aload_n 0, 1) := by decide +kernel
theorem dX6_drawn_2 : decode cX6_drawn 2 = .ok (.getfield 204, 3) := by decide +kernel
theorem dX6_drawn_5 : decode cX6_drawn 5 = .ok (.ldc 207, 2) := by decide +kernel
theorem dX6_drawn_7 : decode cX6_drawn 7 = .ok (.imul, 1) := by decide +kernel
theorem dX6_drawn_8 : decode cX6_drawn 8 = .ok (.ldc 208, 2) := by decide +kernel
theorem dX6_drawn_10 : decode cX6_drawn 10 = .ok (.iadd, 1) := by decide +kernel
theorem dX6_drawn_11 : decode cX6_drawn 11 = .ok (.putfield 204, 3) := by decide +kernel
theorem dX6_drawn_14 : decode cX6_drawn 14 = .ok (.aload_n 0, 1) := by decide +kernel
theorem dX6_drawn_15 : decode cX6_drawn 15 = .ok (.getfield 204, 3) := by decide +kernel
theorem dX6_drawn_18 : decode cX6_drawn 18 = .ok (.ldc 209, 2) := by decide +kernel
theorem dX6_drawn_20 : decode cX6_drawn 20 = .ok (.iand, 1) := by decide +kernel
theorem dX6_drawn_21 : decode cX6_drawn 21 = .ok (.sipush 256, 3) := by decide +kernel
theorem dX6_drawn_24 : decode cX6_drawn 24 = .ok (.idiv, 1) := by decide +kernel
theorem dX6_drawn_25 : decode cX6_drawn 25 = .ok (.iload_n 1, 1) := by decide +kernel
theorem dX6_drawn_26 : decode cX6_drawn 26 = .ok (.irem, 1) := by decide +kernel
theorem dX6_drawn_27 : decode cX6_drawn 27 = .ok (.ireturn, 1) := by decide +kernel
set_option maxRecDepth 20000 in
theorem ggX6_lots_X6_within : GoodIn wsX6_lots wsX6_within := goodIn_r _ [6] (by decide +kernel) (by decide +kernel)
set_option maxRecDepth 20000 in
theorem gX6_lots_X6_within : GoodIn wsX6_lots (va_wsS RX6 38 yX6_within wsX6_within) := goodIn_app (goodIn_of _ (by decide +kernel)) ggX6_lots_X6_within
set_option maxRecDepth 20000 in
theorem ggX6_lots_X6_isIn : GoodIn wsX6_lots wsX6_isIn := goodIn_r _ [9] (by decide +kernel) (by decide +kernel)
set_option maxRecDepth 20000 in
theorem gX6_lots_X6_isIn : GoodIn wsX6_lots (va_wsS RX6 53 yX6_isIn wsX6_isIn) := goodIn_app (goodIn_of _ (by decide +kernel)) ggX6_lots_X6_isIn
set_option maxRecDepth 20000 in
theorem ggX6_lots_X6_refuse : GoodIn wsX6_lots wsX6_refuse := goodIn_r _ [13, 14, 33, 34, 35, 36, 37, 38, 39, 40, 41, 42, 43, 44, 45, 46, 47, 48, 49, 50, 51, 52, 53, 54, 55, 56, 57, 58, 59, 60, 61] (by decide +kernel) (by decide +kernel)
set_option maxRecDepth 20000 in
theorem gX6_lots_X6_refuse : GoodIn wsX6_lots (wsV RX6 34 RX6 yX6_refuse wsX6_refuse) := goodIn_app (goodIn_of _ (by decide +kernel)) ggX6_lots_X6_refuse
set_option maxRecDepth 20000 in
theorem ggX6_lots_X6_drawn : GoodIn wsX6_lots wsX6_drawn := goodIn_r _ [18, 1, 19, 20, 21, 33, 34, 35, 36, 37, 38, 39, 40, 41, 42, 43, 44, 45, 46, 47, 48, 49, 50, 51, 52, 53, 54, 55, 56, 57, 58, 59, 60, 61] (by decide +kernel) (by decide +kernel)
set_option maxRecDepth 20000 in
theorem gX6_lots_X6_drawn : GoodIn wsX6_lots (wsV RX6 210 RX6 yX6_drawn wsX6_drawn) := goodIn_app (goodIn_of _ (by decide +kernel)) ggX6_lots_X6_drawn
set_option maxRecDepth 20000 in
theorem ggX6_lots_X6_twelfths : GoodIn wsX6_lots wsX6_twelfths := goodIn_r _ [25, 2, 33, 34, 35, 36, 37, 38, 39, 40, 41, 42, 43, 44, 45, 46, 47, 48, 49, 50, 51, 52, 53, 54, 55, 56, 57, 58, 59, 60, 61] (by decide +kernel) (by decide +kernel)
set_option maxRecDepth 20000 in
theorem gX6_lots_X6_twelfths : GoodIn wsX6_lots (wsV RX6 139 RX6 yX6_twelfths wsX6_twelfths) := goodIn_app (goodIn_of _ (by decide +kernel)) ggX6_lots_X6_twelfths
set_option maxRecDepth 20000 in
theorem ggX6_lots_X6_endsBy : GoodIn wsX6_lots wsX6_endsBy := goodIn_r _ [29, 2, 30, 31, 5, 32, 33, 34, 35, 36, 37, 38, 39, 40, 41, 42, 43, 44, 45, 46, 47, 48, 49, 50, 51, 52, 53, 54, 55, 56, 57, 58, 59, 60, 61] (by decide +kernel) (by decide +kernel)
set_option maxRecDepth 20000 in
theorem gX6_lots_X6_endsBy : GoodIn wsX6_lots (wsV RX6 131 RX6 yX6_endsBy wsX6_endsBy) := goodIn_app (goodIn_of _ (by decide +kernel)) ggX6_lots_X6_endsBy
theorem dX6_lots_0 : decode cX6_lots 0 = .ok (.iload_n 1, 1) := by decide +kernel
theorem dX6_lots_1 : decode cX6_lots 1 = .ok (.iconst 1, 1) := by decide +kernel
theorem dX6_lots_2 : decode cX6_lots 2 = .ok (.bipush 40, 2) := by decide +kernel
theorem dX6_lots_4 : decode cX6_lots 4 = .ok (.invokestatic 38, 3) := by decide +kernel
theorem dX6_lots_7 : decode cX6_lots 7 = .ok (.istore 4, 2) := by decide +kernel
theorem dX6_lots_9 : decode cX6_lots 9 = .ok (.iload 4, 2) := by decide +kernel
theorem dX6_lots_11 : decode cX6_lots 11 = .ok (.ifCond .ne 15, 3) := by decide +kernel
theorem dX6_lots_14 : decode cX6_lots 14 = .ok (.iload_n 3, 1) := by decide +kernel
theorem dX6_lots_15 : decode cX6_lots 15 = .ok (.iconst 2, 1) := by decide +kernel
theorem dX6_lots_16 : decode cX6_lots 16 = .ok (.invokestatic 53, 3) := by decide +kernel
theorem dX6_lots_19 : decode cX6_lots 19 = .ok (.ifCond .ne 7, 3) := by decide +kernel
theorem dX6_lots_22 : decode cX6_lots 22 = .ok (.bipush (-2), 2) := by decide +kernel
theorem dX6_lots_24 : decode cX6_lots 24 = .ok (.istore 4, 2) := by decide +kernel
theorem dX6_lots_26 : decode cX6_lots 26 = .ok (.iload 4, 2) := by decide +kernel
theorem dX6_lots_28 : decode cX6_lots 28 = .ok (.ifCond .eq 10, 3) := by decide +kernel
theorem dX6_lots_31 : decode cX6_lots 31 = .ok (.aload_n 0, 1) := by decide +kernel
theorem dX6_lots_32 : decode cX6_lots 32 = .ok (.iload 4, 2) := by decide +kernel
theorem dX6_lots_34 : decode cX6_lots 34 = .ok (.invokevirtual 34, 3) := by decide +kernel
theorem dX6_lots_37 : decode cX6_lots 37 = .ok (.ireturn, 1) := by decide +kernel
theorem dX6_lots_38 : decode cX6_lots 38 = .ok (.aload_n 0, 1) := by decide +kernel
theorem dX6_lots_39 : decode cX6_lots 39 = .ok (.iload_n 2, 1) := by decide +kernel
theorem dX6_lots_40 : decode cX6_lots 40 = .ok (.putfield 204, 3) := by decide +kernel
theorem dX6_lots_43 : decode cX6_lots 43 = .ok (.iconst 0, 1) := by decide +kernel
theorem dX6_lots_44 : decode cX6_lots 44 = .ok (.istore 5, 2) := by decide +kernel
theorem dX6_lots_46 : decode cX6_lots 46 = .ok (.iconst 0, 1) := by decide +kernel
theorem dX6_lots_47 : decode cX6_lots 47 = .ok (.istore 6, 2) := by decide +kernel
theorem dX6_lots_49 : decode cX6_lots 49 = .ok (.iload 6, 2) := by decide +kernel
theorem dX6_lots_51 : decode cX6_lots 51 = .ok (.iload_n 1, 1) := by decide +kernel
theorem dX6_lots_52 : decode cX6_lots 52 = .ok (.if_icmp .ge 112, 3) := by decide +kernel
theorem dX6_lots_55 : decode cX6_lots 55 = .ok (.iconst 0, 1) := by decide +kernel
theorem dX6_lots_56 : decode cX6_lots 56 = .ok (.istore 7, 2) := by decide +kernel
theorem dX6_lots_58 : decode cX6_lots 58 = .ok (.iconst 0, 1) := by decide +kernel
theorem dX6_lots_59 : decode cX6_lots 59 = .ok (.istore 8, 2) := by decide +kernel
theorem dX6_lots_61 : decode cX6_lots 61 = .ok (.iconst 0, 1) := by decide +kernel
theorem dX6_lots_62 : decode cX6_lots 62 = .ok (.istore 9, 2) := by decide +kernel
theorem dX6_lots_64 : decode cX6_lots 64 = .ok (.bipush (-9), 2) := by decide +kernel
theorem dX6_lots_66 : decode cX6_lots 66 = .ok (.istore 10, 2) := by decide +kernel
theorem dX6_lots_68 : decode cX6_lots 68 = .ok (.aload_n 0, 1) := by decide +kernel
theorem dX6_lots_69 : decode cX6_lots 69 = .ok (.bipush 12, 2) := by decide +kernel
theorem dX6_lots_71 : decode cX6_lots 71 = .ok (.invokevirtual 210, 3) := by decide +kernel
theorem dX6_lots_74 : decode cX6_lots 74 = .ok (.aload_n 0, 1) := by decide +kernel
theorem dX6_lots_75 : decode cX6_lots 75 = .ok (.iload 10, 2) := by decide +kernel
theorem dX6_lots_77 : decode cX6_lots 77 = .ok (.invokevirtual 139, 3) := by decide +kernel
theorem dX6_lots_80 : decode cX6_lots 80 = .ok (.if_icmp .ge 7, 3) := by decide +kernel
theorem dX6_lots_83 : decode cX6_lots 83 = .ok (.iconst 1, 1) := by decide +kernel
theorem dX6_lots_84 : decode cX6_lots 84 = .ok (.goto 4, 3) := by decide +kernel
theorem dX6_lots_87 : decode cX6_lots 87 = .ok (.iconst 0, 1) := by decide +kernel
theorem dX6_lots_88 : decode cX6_lots 88 = .ok (.istore 10, 2) := by decide +kernel
theorem dX6_lots_90 : decode cX6_lots 90 = .ok (.iload 7, 2) := by decide +kernel
theorem dX6_lots_92 : decode cX6_lots 92 = .ok (.iload 10, 2) := by decide +kernel
theorem dX6_lots_94 : decode cX6_lots 94 = .ok (.iadd, 1) := by decide +kernel
theorem dX6_lots_95 : decode cX6_lots 95 = .ok (.istore 7, 2) := by decide +kernel
theorem dX6_lots_97 : decode cX6_lots 97 = .ok (.iload 8, 2) := by decide +kernel
theorem dX6_lots_99 : decode cX6_lots 99 = .ok (.iconst 1, 1) := by decide +kernel
theorem dX6_lots_100 : decode cX6_lots 100 = .ok (.iload 10, 2) := by decide +kernel
theorem dX6_lots_102 : decode cX6_lots 102 = .ok (.isub, 1) := by decide +kernel
theorem dX6_lots_103 : decode cX6_lots 103 = .ok (.iadd, 1) := by decide +kernel
theorem dX6_lots_104 : decode cX6_lots 104 = .ok (.istore 8, 2) := by decide +kernel
theorem dX6_lots_106 : decode cX6_lots 106 = .ok (.iload 10, 2) := by decide +kernel
theorem dX6_lots_108 : decode cX6_lots 108 = .ok (.iconst 1, 1) := by decide +kernel
theorem dX6_lots_109 : decode cX6_lots 109 = .ok (.if_icmp .ne 10, 3) := by decide +kernel
theorem dX6_lots_112 : decode cX6_lots 112 = .ok (.iload 9, 2) := by decide +kernel
theorem dX6_lots_114 : decode cX6_lots 114 = .ok (.iconst 1, 1) := by decide +kernel
theorem dX6_lots_115 : decode cX6_lots 115 = .ok (.iadd, 1) := by decide +kernel
theorem dX6_lots_116 : decode cX6_lots 116 = .ok (.goto 4, 3) := by decide +kernel
theorem dX6_lots_119 : decode cX6_lots 119 = .ok (.iconst 0, 1) := by decide +kernel
theorem dX6_lots_120 : decode cX6_lots 120 = .ok (.istore 9, 2) := by decide +kernel
theorem dX6_lots_122 : decode cX6_lots 122 = .ok (.aload_n 0, 1) := by decide +kernel
theorem dX6_lots_123 : decode cX6_lots 123 = .ok (.aload_n 0, 1) := by decide +kernel
theorem dX6_lots_124 : decode cX6_lots 124 = .ok (.getfield 13, 3) := by decide +kernel
theorem dX6_lots_127 : decode cX6_lots 127 = .ok (.iconst 3, 1) := by decide +kernel
theorem dX6_lots_128 : decode cX6_lots 128 = .ok (.iaload, 1) := by decide +kernel
theorem dX6_lots_129 : decode cX6_lots 129 = .ok (.iload 7, 2) := by decide +kernel
theorem dX6_lots_131 : decode cX6_lots 131 = .ok (.iload 8, 2) := by decide +kernel
theorem dX6_lots_133 : decode cX6_lots 133 = .ok (.iload 9, 2) := by decide +kernel
theorem dX6_lots_135 : decode cX6_lots 135 = .ok (.invokevirtual 131, 3) := by decide +kernel
theorem dX6_lots_138 : decode cX6_lots 138 = .ok (.ifCond .eq (-70), 3) := by decide +kernel
theorem dX6_lots_141 : decode cX6_lots 141 = .ok (.iload 5, 2) := by decide +kernel
theorem dX6_lots_143 : decode cX6_lots 143 = .ok (.iload_n 3, 1) := by decide +kernel
theorem dX6_lots_144 : decode cX6_lots 144 = .ok (.iconst 1, 1) := by decide +kernel
theorem dX6_lots_145 : decode cX6_lots 145 = .ok (.if_icmp .ne 8, 3) := by decide +kernel
theorem dX6_lots_148 : decode cX6_lots 148 = .ok (.iload 7, 2) := by decide +kernel
theorem dX6_lots_150 : decode cX6_lots 150 = .ok (.goto 5, 3) := by decide +kernel
theorem dX6_lots_153 : decode cX6_lots 153 = .ok (.iload 8, 2) := by decide +kernel
theorem dX6_lots_155 : decode cX6_lots 155 = .ok (.iadd, 1) := by decide +kernel
theorem dX6_lots_156 : decode cX6_lots 156 = .ok (.istore 5, 2) := by decide +kernel
theorem dX6_lots_158 : decode cX6_lots 158 = .ok (.iinc 6 1, 3) := by decide +kernel
theorem dX6_lots_161 : decode cX6_lots 161 = .ok (.goto (-112), 3) := by decide +kernel
theorem dX6_lots_164 : decode cX6_lots 164 = .ok (.iload 5, 2) := by decide +kernel
theorem dX6_lots_166 : decode cX6_lots 166 = .ok (.ireturn, 1) := by decide +kernel
set_option maxRecDepth 20000 in
theorem ggX6_image_X6_lays : GoodIn wsX6_image wsX6_lays := goodIn_r _ [7] (by decide +kernel) (by decide +kernel)
set_option maxRecDepth 20000 in
theorem gX6_image_X6_lays : GoodIn wsX6_image (va_wsS RX6 80 yX6_lays wsX6_lays) := goodIn_app (goodIn_of _ (by decide +kernel)) ggX6_image_X6_lays
theorem dX6_image_0 : decode cX6_image 0 = .ok (.aload_n 0, 1) := by decide +kernel
theorem dX6_image_1 : decode cX6_image 1 = .ok (.getfield 13, 3) := by decide +kernel
theorem dX6_image_4 : decode cX6_image 4 = .ok (.aload_n 0, 1) := by decide +kernel
theorem dX6_image_5 : decode cX6_image 5 = .ok (.getfield 16, 3) := by decide +kernel
theorem dX6_image_8 : decode cX6_image 8 = .ok (.invokestatic 80, 3) := by decide +kernel
theorem dX6_image_11 : decode cX6_image 11 = .ok (.aload_n 0, 1) := by decide +kernel
theorem dX6_image_12 : decode cX6_image 12 = .ok (.iconst 1, 1) := by decide +kernel
theorem dX6_image_13 : decode cX6_image 13 = .ok (.putfield 213, 3) := by decide +kernel
theorem dX6_image_16 : decode cX6_image 16 = .ok (.aload_n 0, 1) := by decide +kernel
theorem dX6_image_17 : decode cX6_image 17 = .ok (.getfield 13, 3) := by decide +kernel
theorem dX6_image_20 : decode cX6_image 20 = .ok (.iconst 5, 1) := by decide +kernel
theorem dX6_image_21 : decode cX6_image 21 = .ok (.iaload, 1) := by decide +kernel
theorem dX6_image_22 : decode cX6_image 22 = .ok (.ireturn, 1) := by decide +kernel
set_option maxRecDepth 20000 in
theorem ggX6_on_X6_refuse : GoodIn wsX6_on wsX6_refuse := goodIn_r _ [8, 9, 13, 14, 15, 16, 17, 18, 19, 20, 21, 22, 23, 24, 25, 26, 27, 28, 29, 30, 31, 32, 33, 34, 35, 36, 37, 38, 39, 40, 41] (by decide +kernel) (by decide +kernel)
set_option maxRecDepth 20000 in
theorem gX6_on_X6_refuse : GoodIn wsX6_on (wsV RX6 34 RX6 yX6_refuse wsX6_refuse) := goodIn_app (goodIn_of _ (by decide +kernel)) ggX6_on_X6_refuse
set_option maxRecDepth 20000 in
theorem ggX6_on_X6_lays : GoodIn wsX6_on wsX6_lays := goodIn_r _ [12] (by decide +kernel) (by decide +kernel)
set_option maxRecDepth 20000 in
theorem gX6_on_X6_lays : GoodIn wsX6_on (va_wsS RX6 80 yX6_lays wsX6_lays) := goodIn_app (goodIn_of _ (by decide +kernel)) ggX6_on_X6_lays
theorem dX6_on_0 : decode cX6_on 0 = .ok (.aload_n 0, 1) := by decide +kernel
theorem dX6_on_1 : decode cX6_on 1 = .ok (.getfield 213, 3) := by decide +kernel
theorem dX6_on_4 : decode cX6_on 4 = .ok (.ifCond .ne 10, 3) := by decide +kernel
theorem dX6_on_7 : decode cX6_on 7 = .ok (.aload_n 0, 1) := by decide +kernel
theorem dX6_on_8 : decode cX6_on 8 = .ok (.bipush (-3), 2) := by decide +kernel
theorem dX6_on_10 : decode cX6_on 10 = .ok (.invokevirtual 34, 3) := by decide +kernel
theorem dX6_on_13 : decode cX6_on 13 = .ok (.ireturn, 1) := by decide +kernel
theorem dX6_on_14 : decode cX6_on 14 = .ok (.aload_n 0, 1) := by decide +kernel
theorem dX6_on_15 : decode cX6_on 15 = .ok (.getfield 16, 3) := by decide +kernel
theorem dX6_on_18 : decode cX6_on 18 = .ok (.aload_n 0, 1) := by decide +kernel
theorem dX6_on_19 : decode cX6_on 19 = .ok (.getfield 13, 3) := by decide +kernel
theorem dX6_on_22 : decode cX6_on 22 = .ok (.invokestatic 80, 3) := by decide +kernel
theorem dX6_on_25 : decode cX6_on 25 = .ok (.aload_n 0, 1) := by decide +kernel
theorem dX6_on_26 : decode cX6_on 26 = .ok (.getfield 13, 3) := by decide +kernel
theorem dX6_on_29 : decode cX6_on 29 = .ok (.iconst 5, 1) := by decide +kernel
theorem dX6_on_30 : decode cX6_on 30 = .ok (.iaload, 1) := by decide +kernel
theorem dX6_on_31 : decode cX6_on 31 = .ok (.ireturn, 1) := by decide +kernel
set_option maxRecDepth 20000 in
theorem ggX6_count_X6_isIn : GoodIn wsX6_count wsX6_isIn := goodIn_r _ [8] (by decide +kernel) (by decide +kernel)
set_option maxRecDepth 20000 in
theorem gX6_count_X6_isIn : GoodIn wsX6_count (va_wsS RX6 53 yX6_isIn wsX6_isIn) := goodIn_app (goodIn_of _ (by decide +kernel)) ggX6_count_X6_isIn
theorem dX6_count_0 : decode cX6_count 0 = .ok (.iload_n 1, 1) := by decide +kernel
theorem dX6_count_1 : decode cX6_count 1 = .ok (.bipush 10, 2) := by decide +kernel
theorem dX6_count_3 : decode cX6_count 3 = .ok (.if_icmp .le 19, 3) := by decide +kernel
theorem dX6_count_6 : decode cX6_count 6 = .ok (.iload_n 1, 1) := by decide +kernel
theorem dX6_count_7 : decode cX6_count 7 = .ok (.bipush 17, 2) := by decide +kernel
theorem dX6_count_9 : decode cX6_count 9 = .ok (.if_icmp .ge 13, 3) := by decide +kernel
theorem dX6_count_12 : decode cX6_count 12 = .ok (.aload_n 0, 1) := by decide +kernel
theorem dX6_count_13 : decode cX6_count 13 = .ok (.getfield 7, 3) := by decide +kernel
theorem dX6_count_16 : decode cX6_count 16 = .ok (.iload_n 1, 1) := by decide +kernel
theorem dX6_count_17 : decode cX6_count 17 = .ok (.bipush 10, 2) := by decide +kernel
theorem dX6_count_19 : decode cX6_count 19 = .ok (.isub, 1) := by decide +kernel
theorem dX6_count_20 : decode cX6_count 20 = .ok (.iaload, 1) := by decide +kernel
theorem dX6_count_21 : decode cX6_count 21 = .ok (.ireturn, 1) := by decide +kernel
theorem dX6_count_22 : decode cX6_count 22 = .ok (.iload_n 1, 1) := by decide +kernel
theorem dX6_count_23 : decode cX6_count 23 = .ok (.bipush 6, 2) := by decide +kernel
theorem dX6_count_25 : decode cX6_count 25 = .ok (.invokestatic 53, 3) := by decide +kernel
theorem dX6_count_28 : decode cX6_count 28 = .ok (.ifCond .eq 12, 3) := by decide +kernel
theorem dX6_count_31 : decode cX6_count 31 = .ok (.aload_n 0, 1) := by decide +kernel
theorem dX6_count_32 : decode cX6_count 32 = .ok (.getfield 13, 3) := by decide +kernel
theorem dX6_count_35 : decode cX6_count 35 = .ok (.iload_n 1, 1) := by decide +kernel
theorem dX6_count_36 : decode cX6_count 36 = .ok (.iaload, 1) := by decide +kernel
theorem dX6_count_37 : decode cX6_count 37 = .ok (.goto 31, 3) := by decide +kernel
theorem dX6_count_40 : decode cX6_count 40 = .ok (.iload_n 1, 1) := by decide +kernel
theorem dX6_count_41 : decode cX6_count 41 = .ok (.bipush 6, 2) := by decide +kernel
theorem dX6_count_43 : decode cX6_count 43 = .ok (.if_icmp .ne 10, 3) := by decide +kernel
theorem dX6_count_46 : decode cX6_count 46 = .ok (.aload_n 0, 1) := by decide +kernel
theorem dX6_count_47 : decode cX6_count 47 = .ok (.getfield 185, 3) := by decide +kernel
theorem dX6_count_50 : decode cX6_count 50 = .ok (.goto 18, 3) := by decide +kernel
theorem dX6_count_53 : decode cX6_count 53 = .ok (.iload_n 1, 1) := by decide +kernel
theorem dX6_count_54 : decode cX6_count 54 = .ok (.bipush 7, 2) := by decide +kernel
theorem dX6_count_56 : decode cX6_count 56 = .ok (.if_icmp .ne 10, 3) := by decide +kernel
theorem dX6_count_59 : decode cX6_count 59 = .ok (.aload_n 0, 1) := by decide +kernel
theorem dX6_count_60 : decode cX6_count 60 = .ok (.getfield 42, 3) := by decide +kernel
theorem dX6_count_63 : decode cX6_count 63 = .ok (.goto 5, 3) := by decide +kernel
theorem dX6_count_66 : decode cX6_count 66 = .ok (.bipush (-9), 2) := by decide +kernel
theorem dX6_count_68 : decode cX6_count 68 = .ok (.ireturn, 1) := by decide +kernel
