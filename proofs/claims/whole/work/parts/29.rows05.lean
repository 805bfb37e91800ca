theorem dX6_isFamily_1 : decode cX6_isFamily 1 = .ok (.iload_n 2, 1) := by decide +kernel
theorem dX6_isFamily_2 : decode cX6_isFamily 2 = .ok (.iadd, 1) := by decide +kernel
theorem dX6_isFamily_3 : decode cX6_isFamily 3 = .ok (.istore 6, 2) := by decide +kernel
theorem dX6_isFamily_5 : decode cX6_isFamily 5 = .ok (.aload_n 0, 1) := by decide +kernel
theorem dX6_isFamily_6 : decode cX6_isFamily 6 = .ok (.dup, 1) := by decide +kernel
theorem dX6_isFamily_7 : decode cX6_isFamily 7 = .ok (.getfield 94, 3) := by decide +kernel
theorem dX6_isFamily_10 : decode cX6_isFamily 10 = .ok (.lload_n 3, 1) := by decide +kernel
theorem dX6_isFamily_11 : decode cX6_isFamily 11 = .ok (.iload 6, 2) := by decide +kernel
theorem dX6_isFamily_13 : decode cX6_isFamily 13 = .ok (.i2l, 1) := by decide +kernel
theorem dX6_isFamily_14 : decode cX6_isFamily 14 = .ok (.lmul, 1) := by decide +kernel
theorem dX6_isFamily_15 : decode cX6_isFamily 15 = .ok (.ladd, 1) := by decide +kernel
theorem dX6_isFamily_16 : decode cX6_isFamily 16 = .ok (.putfield 94, 3) := by decide +kernel
theorem dX6_isFamily_19 : decode cX6_isFamily 19 = .ok (.aload_n 0, 1) := by decide +kernel
theorem dX6_isFamily_20 : decode cX6_isFamily 20 = .ok (.dup, 1) := by decide +kernel
theorem dX6_isFamily_21 : decode cX6_isFamily 21 = .ok (.getfield 98, 3) := by decide +kernel
theorem dX6_isFamily_24 : decode cX6_isFamily 24 = .ok (.lload_n 3, 1) := by decide +kernel
theorem dX6_isFamily_25 : decode cX6_isFamily 25 = .ok (.iload_n 1, 1) := by decide +kernel
theorem dX6_isFamily_26 : decode cX6_isFamily 26 = .ok (.i2l, 1) := by decide +kernel
theorem dX6_isFamily_27 : decode cX6_isFamily 27 = .ok (.lmul, 1) := by decide +kernel
theorem dX6_isFamily_28 : decode cX6_isFamily 28 = .ok (.ladd, 1) := by decide +kernel
theorem dX6_isFamily_29 : decode cX6_isFamily 29 = .ok (.putfield 98, 3) := by decide +kernel
theorem dX6_isFamily_32 : decode cX6_isFamily 32 = .ok (.aload_n 0, 1) := by decide +kernel
theorem dX6_isFamily_33 : decode cX6_isFamily 33 = .ok (.dup, 1) := by decide +kernel
theorem dX6_isFamily_34 : decode cX6_isFamily 34 = .ok (.getfield 101, 3) := by decide +kernel
theorem dX6_isFamily_37 : decode cX6_isFamily 37 = .ok (.lload_n 3, 1) := by decide +kernel
theorem dX6_isFamily_38 : decode cX6_isFamily 38 = .ok (.sipush 2520, 3) := by decide +kernel
theorem dX6_isFamily_41 : decode cX6_isFamily 41 = .ok (.iload 6, 2) := by decide +kernel
theorem dX6_isFamily_43 : decode cX6_isFamily 43 = .ok (.idiv, 1) := by decide +kernel
theorem dX6_isFamily_44 : decode cX6_isFamily 44 = .ok (.iload_n 1, 1) := by decide +kernel
theorem dX6_isFamily_45 : decode cX6_isFamily 45 = .ok (.imul, 1) := by decide +kernel
theorem dX6_isFamily_46 : decode cX6_isFamily 46 = .ok (.i2l, 1) := by decide +kernel
theorem dX6_isFamily_47 : decode cX6_isFamily 47 = .ok (.lmul, 1) := by decide +kernel
theorem dX6_isFamily_48 : decode cX6_isFamily 48 = .ok (.ladd, 1) := by decide +kernel
theorem dX6_isFamily_49 : decode cX6_isFamily 49 = .ok (.putfield 101, 3) := by decide +kernel
theorem dX6_isFamily_52 : decode cX6_isFamily 52 = .ok (.aload_n 0, 1) := by decide +kernel
theorem dX6_isFamily_53 : decode cX6_isFamily 53 = .ok (.dup, 1) := by decide +kernel
theorem dX6_isFamily_54 : decode cX6_isFamily 54 = .ok (.getfield 104, 3) := by decide +kernel
theorem dX6_isFamily_57 : decode cX6_isFamily 57 = .ok (.iload_n 1, 1) := by decide +kernel
theorem dX6_isFamily_58 : decode cX6_isFamily 58 = .ok (.iload_n 2, 1) := by decide +kernel
theorem dX6_isFamily_59 : decode cX6_isFamily 59 = .ok (.if_icmp .le 7, 3) := by decide +kernel
theorem dX6_isFamily_62 : decode cX6_isFamily 62 = .ok (.lload_n 3, 1) := by decide +kernel
theorem dX6_isFamily_63 : decode cX6_isFamily 63 = .ok (.goto 4, 3) := by decide +kernel
theorem dX6_isFamily_66 : decode cX6_isFamily 66 = .ok (.lconst 0, 1) := by decide +kernel
theorem dX6_isFamily_67 : decode cX6_isFamily 67 = .ok (.ladd, 1) := by decide +kernel
theorem dX6_isFamily_68 : decode cX6_isFamily 68 = .ok (.putfield 104, 3) := by decide +kernel
theorem dX6_isFamily_71 : decode cX6_isFamily 71 = .ok (.aload_n 0, 1) := by decide +kernel
theorem dX6_isFamily_72 : decode cX6_isFamily 72 = .ok (.dup, 1) := by decide +kernel
theorem dX6_isFamily_73 : decode cX6_isFamily 73 = .ok (.getfield 107, 3) := by decide +kernel
theorem dX6_isFamily_76 : decode cX6_isFamily 76 = .ok (.iload_n 1, 1) := by decide +kernel
theorem dX6_isFamily_77 : decode cX6_isFamily 77 = .ok (.iload_n 2, 1) := by decide +kernel
theorem dX6_isFamily_78 : decode cX6_isFamily 78 = .ok (.if_icmp .ne 7, 3) := by decide +kernel
theorem dX6_isFamily_81 : decode cX6_isFamily 81 = .ok (.lload_n 3, 1) := by decide +kernel
theorem dX6_isFamily_82 : decode cX6_isFamily 82 = .ok (.goto 4, 3) := by decide +kernel
theorem dX6_isFamily_85 : decode cX6_isFamily 85 = .ok (.lconst 0, 1) := by decide +kernel
theorem dX6_isFamily_86 : decode cX6_isFamily 86 = .ok (.ladd, 1) := by decide +kernel
theorem dX6_isFamily_87 : decode cX6_isFamily 87 = .ok (.putfield 107, 3) := by decide +kernel
theorem dX6_isFamily_90 : decode cX6_isFamily 90 = .ok (.aload_n 0, 1) := by decide +kernel
theorem dX6_isFamily_91 : decode cX6_isFamily 91 = .ok (.dup, 1) := by decide +kernel
theorem dX6_isFamily_92 : decode cX6_isFamily 92 = .ok (.getfield 110, 3) := by decide +kernel
theorem dX6_isFamily_95 : decode cX6_isFamily 95 = .ok (.iload_n 1, 1) := by decide +kernel
theorem dX6_isFamily_96 : decode cX6_isFamily 96 = .ok (.iload_n 2, 1) := by decide +kernel
theorem dX6_isFamily_97 : decode cX6_isFamily 97 = .ok (.if_icmp .le 11, 3) := by decide +kernel
theorem dX6_isFamily_100 : decode cX6_isFamily 100 = .ok (.lload_n 3, 1) := by decide +kernel
theorem dX6_isFamily_101 : decode cX6_isFamily 101 = .ok (.iload 6, 2) := by decide +kernel
theorem dX6_isFamily_103 : decode cX6_isFamily 103 = .ok (.i2l, 1) := by decide +kernel
theorem dX6_isFamily_104 : decode cX6_isFamily 104 = .ok (.lmul, 1) := by decide +kernel
theorem dX6_isFamily_105 : decode cX6_isFamily 105 = .ok (.goto 4, 3) := by decide +kernel
theorem dX6_isFamily_108 : decode cX6_isFamily 108 = .ok (.lconst 0, 1) := by decide +kernel
theorem dX6_isFamily_109 : decode cX6_isFamily 109 = .ok (.ladd, 1) := by decide +kernel
theorem dX6_isFamily_110 : decode cX6_isFamily 110 = .ok (.putfield 110, 3) := by decide +kernel
theorem dX6_isFamily_113 : decode cX6_isFamily 113 = .ok (.aload_n 0, 1) := by decide +kernel
theorem dX6_isFamily_114 : decode cX6_isFamily 114 = .ok (.dup, 1) := by decide +kernel
theorem dX6_isFamily_115 : decode cX6_isFamily 115 = .ok (.getfield 113, 3) := by decide +kernel
theorem dX6_isFamily_118 : decode cX6_isFamily 118 = .ok (.iload_n 1, 1) := by decide +kernel
theorem dX6_isFamily_119 : decode cX6_isFamily 119 = .ok (.iconst 1, 1) := by decide +kernel
theorem dX6_isFamily_120 : decode cX6_isFamily 120 = .ok (.if_icmp .le 10, 3) := by decide +kernel
theorem dX6_isFamily_123 : decode cX6_isFamily 123 = .ok (.lload_n 3, 1) := by decide +kernel
theorem dX6_isFamily_124 : decode cX6_isFamily 124 = .ok (.iload_n 1, 1) := by decide +kernel
theorem dX6_isFamily_125 : decode cX6_isFamily 125 = .ok (.i2l, 1) := by decide +kernel
theorem dX6_isFamily_126 : decode cX6_isFamily 126 = .ok (.lmul, 1) := by decide +kernel
theorem dX6_isFamily_127 : decode cX6_isFamily 127 = .ok (.goto 4, 3) := by decide +kernel
theorem dX6_isFamily_130 : decode cX6_isFamily 130 = .ok (.lconst 0, 1) := by decide +kernel
theorem dX6_isFamily_131 : decode cX6_isFamily 131 = .ok (.ladd, 1) := by decide +kernel
theorem dX6_isFamily_132 : decode cX6_isFamily 132 = .ok (.putfield 113, 3) := by decide +kernel
theorem dX6_isFamily_135 : decode cX6_isFamily 135 = .ok (.aload_n 0, 1) := by decide +kernel
theorem dX6_isFamily_136 : decode cX6_isFamily 136 = .ok (.getfield 28, 3) := by decide +kernel
theorem dX6_isFamily_139 : decode cX6_isFamily 139 = .ok (.iload 6, 2) := by decide +kernel
theorem dX6_isFamily_141 : decode cX6_isFamily 141 = .ok (.dup2, 1) := by decide +kernel
theorem dX6_isFamily_142 : decode cX6_isFamily 142 = .ok (.laload, 1) := by decide +kernel
theorem dX6_isFamily_143 : decode cX6_isFamily 143 = .ok (.lload_n 3, 1) := by decide +kernel
theorem dX6_isFamily_144 : decode cX6_isFamily 144 = .ok (.ladd, 1) := by decide +kernel
theorem dX6_isFamily_145 : decode cX6_isFamily 145 = .ok (.lastore, 1) := by decide +kernel
theorem dX6_isFamily_146 : decode cX6_isFamily 146 = .ok (.iload_n 1, 1) := by decide +kernel
theorem dX6_isFamily_147 : decode cX6_isFamily 147 = .ok (.aload_n 0, 1) := by decide +kernel
theorem dX6_isFamily_148 : decode cX6_isFamily 148 = .ok (.getfield 116, 3) := by decide +kernel
theorem dX6_isFamily_151 : decode cX6_isFamily 151 = .ok (.aload_n 0, 1) := by decide +kernel
theorem dX6_isFamily_152 : decode cX6_isFamily 152 = .ok (.getfield 119, 3) := by decide +kernel
theorem dX6_isFamily_155 : decode cX6_isFamily 155 = .ok (.iadd, 1) := by decide +kernel
theorem dX6_isFamily_156 : decode cX6_isFamily 156 = .ok (.if_icmp .ne 18, 3) := by decide +kernel
theorem dX6_isFamily_159 : decode cX6_isFamily 159 = .ok (.iload_n 2, 1) := by decide +kernel
theorem dX6_isFamily_160 : decode cX6_isFamily 160 = .ok (.aload_n 0, 1) := by decide +kernel
theorem dX6_isFamily_161 : decode cX6_isFamily 161 = .ok (.getfield 122, 3) := by decide +kernel
theorem dX6_isFamily_164 : decode cX6_isFamily 164 = .ok (.iconst 1, 1) := by decide +kernel
theorem dX6_isFamily_165 : decode cX6_isFamily 165 = .ok (.iadd, 1) := by decide +kernel
theorem dX6_isFamily_166 : decode cX6_isFamily 166 = .ok (.aload_n 0, 1) := by decide +kernel
theorem dX6_isFamily_167 : decode cX6_isFamily 167 = .ok (.getfield 119, 3) := by decide +kernel
theorem dX6_isFamily_170 : decode cX6_isFamily 170 = .ok (.isub, 1) := by decide +kernel
theorem dX6_isFamily_171 : decode cX6_isFamily 171 = .ok (.if_icmp .eq 4, 3) := by decide +kernel
theorem dX6_isFamily_174 : decode cX6_isFamily 174 = .ok (.return_, 1) := by decide +kernel
theorem dX6_isFamily_175 : decode cX6_isFamily 175 = .ok (.aload_n 0, 1) := by decide +kernel
theorem dX6_isFamily_176 : decode cX6_isFamily 176 = .ok (.dup, 1) := by decide +kernel
theorem dX6_isFamily_177 : decode cX6_isFamily 177 = .ok (.getfield 125, 3) := by decide +kernel
theorem dX6_isFamily_180 : decode cX6_isFamily 180 = .ok (.lload_n 3, 1) := by decide +kernel
theorem dX6_isFamily_181 : decode cX6_isFamily 181 = .ok (.aload_n 0, 1) := by decide +kernel
theorem dX6_isFamily_182 : decode cX6_isFamily 182 = .ok (.getfield 119, 3) := by decide +kernel
theorem dX6_isFamily_185 : decode cX6_isFamily 185 = .ok (.iconst 1, 1) := by decide +kernel
theorem dX6_isFamily_186 : decode cX6_isFamily 186 = .ok (.if_icmp .ne 7, 3) := by decide +kernel
theorem dX6_isFamily_189 : decode cX6_isFamily 189 = .ok (.iload_n 1, 1) := by decide +kernel
theorem dX6_isFamily_190 : decode cX6_isFamily 190 = .ok (.goto 4, 3) := by decide +kernel
theorem dX6_isFamily_193 : decode cX6_isFamily 193 = .ok (.iload_n 2, 1) := by decide +kernel
theorem dX6_isFamily_194 : decode cX6_isFamily 194 = .ok (.i2l, 1) := by decide +kernel
theorem dX6_isFamily_195 : decode cX6_isFamily 195 = .ok (.lmul, 1) := by decide +kernel
theorem dX6_isFamily_196 : decode cX6_isFamily 196 = .ok (.ladd, 1) := by decide +kernel
theorem dX6_isFamily_197 : decode cX6_isFamily 197 = .ok (.putfield 125, 3) := by decide +kernel
theorem dX6_isFamily_200 : decode cX6_isFamily 200 = .ok (.aload_n 0, 1) := by decide +kernel
theorem dX6_isFamily_201 : decode cX6_isFamily 201 = .ok (.dup, 1) := by decide +kernel
theorem dX6_isFamily_202 : decode cX6_isFamily 202 = .ok (.getfield 128, 3) := by decide +kernel
theorem dX6_isFamily_205 : decode cX6_isFamily 205 = .ok (.iload 5, 2) := by decide +kernel
theorem dX6_isFamily_207 : decode cX6_isFamily 207 = .ok (.aload_n 0, 1) := by decide +kernel
theorem dX6_isFamily_208 : decode cX6_isFamily 208 = .ok (.getfield 119, 3) := by decide +kernel
theorem dX6_isFamily_211 : decode cX6_isFamily 211 = .ok (.if_icmp .ne 7, 3) := by decide +kernel
theorem dX6_isFamily_214 : decode cX6_isFamily 214 = .ok (.lload_n 3, 1) := by decide +kernel
theorem dX6_isFamily_215 : decode cX6_isFamily 215 = .ok (.goto 4, 3) := by decide +kernel
theorem dX6_isFamily_218 : decode cX6_isFamily 218 = .ok (.lconst 0, 1) := by decide +kernel
theorem dX6_isFamily_219 : decode cX6_isFamily 219 = .ok (.ladd, 1) := by decide +kernel
theorem dX6_isFamily_220 : decode cX6_isFamily 220 = .ok (.putfield 128, 3) := by decide +kernel
theorem dX6_isFamily_223 : decode cX6_isFamily 223 = .ok (.return_, 1) := by decide +kernel
set_option maxRecDepth 20000 in
theorem ggX6_goesOn_X6_endsBy : GoodIn wsX6_goesOn wsX6_endsBy := goodIn_r _ [6, 7, 8, 9, 5, 10, 35, 36, 37, 38, 39, 40, 41, 42, 43, 44, 45, 46, 47, 48, 49, 50, 51, 52, 53, 54, 55, 56, 57, 58, 59, 60, 61, 62, 63] (by decide +kernel) (by decide +kernel)
set_option maxRecDepth 20000 in
theorem gX6_goesOn_X6_endsBy : GoodIn wsX6_goesOn (wsV RX6 131 RX6 yX6_endsBy wsX6_endsBy) := goodIn_app (goodIn_of _ (by decide +kernel)) ggX6_goesOn_X6_endsBy
set_option maxRecDepth 20000 in
theorem ggX6_goesOn_X6_isFamily : GoodIn wsX6_goesOn wsX6_isFamily := goodIn_r _ [14, 15, 16, 17, 18, 19, 20, 21, 22, 23, 24, 25, 26, 27, 35, 36, 37, 38, 39, 40, 41, 42, 43, 44, 45, 46, 47, 48, 49, 50, 51, 52, 53, 54, 55, 56, 57, 58, 59, 60, 61, 62, 63] (by decide +kernel) (by decide +kernel)
set_option maxRecDepth 20000 in
theorem gX6_goesOn_X6_isFamily : GoodIn wsX6_goesOn (wsV RX6 135 RX6 yX6_isFamily wsX6_isFamily) := goodIn_app (goodIn_of _ (by decide +kernel)) ggX6_goesOn_X6_isFamily
set_option maxRecDepth 20000 in
theorem ggX6_goesOn_X6_twelfths : GoodIn wsX6_goesOn wsX6_twelfths := goodIn_r _ [31, 7, 35, 36, 37, 38, 39, 40, 41, 42, 43, 44, 45, 46, 47, 48, 49, 50, 51, 52, 53, 54, 55, 56, 57, 58, 59, 60, 61, 62, 63] (by decide +kernel) (by decide +kernel)
set_option maxRecDepth 20000 in
theorem gX6_goesOn_X6_twelfths : GoodIn wsX6_goesOn (wsV RX6 139 RX6 yX6_twelfths wsX6_twelfths) := goodIn_app (goodIn_of _ (by decide +kernel)) ggX6_goesOn_X6_twelfths
set_option maxRecDepth 20000 in
theorem ggX6_goesOn_X6_goesOn : GoodIn wsX6_goesOn wsX6_goesOn := goodIn_r _ [0, 1, 2, 3, 4, 5, 6, 7, 8, 9, 10, 11, 12, 13, 14, 15, 16, 17, 18, 19, 20, 21, 22, 23, 24, 25, 26, 27, 28, 29, 30, 31, 32, 33, 34, 35, 36, 37, 38, 39, 40, 41, 42, 43, 44, 45, 46, 47, 48, 49, 50, 51, 52, 53, 54, 55, 56, 57, 58, 59, 60, 61, 62, 63] (by decide +kernel) (by decide +kernel)
set_option maxRecDepth 20000 in
theorem gX6_goesOn_X6_goesOn : GoodIn wsX6_goesOn (wsV RX6 144 RX6 yX6_goesOn wsX6_goesOn) := goodIn_app (goodIn_of _ (by decide +kernel)) ggX6_goesOn_X6_goesOn
theorem dX6_goesOn_0 : decode cX6_goesOn 0 = .ok (.lload 7, 2) := by decide +kernel
theorem dX6_goesOn_2 : decode cX6_goesOn 2 = .ok (.lconst 0, 1) := by decide +kernel
theorem dX6_goesOn_3 : decode cX6_goesOn 3 = .ok (.lcmp, 1) := by decide +kernel
theorem dX6_goesOn_4 : decode cX6_goesOn 4 = .ok (.ifCond .ne 4, 3) := by decide +kernel
theorem dX6_goesOn_7 : decode cX6_goesOn 7 = .ok (.return_, 1) := by decide +kernel
theorem dX6_goesOn_8 : decode cX6_goesOn 8 = .ok (.iload_n 2, 1) := by decide +kernel
theorem dX6_goesOn_9 : decode cX6_goesOn 9 = .ok (.iload_n 3, 1) := by decide +kernel
theorem dX6_goesOn_10 : decode cX6_goesOn 10 = .ok (.iadd, 1) := by decide +kernel
theorem dX6_goesOn_11 : decode cX6_goesOn 11 = .ok (.ifCond .le 26, 3) := by decide +kernel
theorem dX6_goesOn_14 : decode cX6_goesOn 14 = .ok (.aload_n 0, 1) := by decide +kernel
theorem dX6_goesOn_15 : decode cX6_goesOn 15 = .ok (.iload_n 1, 1) := by decide +kernel
theorem dX6_goesOn_16 : decode cX6_goesOn 16 = .ok (.iload_n 2, 1) := by decide +kernel
theorem dX6_goesOn_17 : decode cX6_goesOn 17 = .ok (.iload_n 3, 1) := by decide +kernel
theorem dX6_goesOn_18 : decode cX6_goesOn 18 = .ok (.iload 4, 2) := by decide +kernel
theorem dX6_goesOn_20 : decode cX6_goesOn 20 = .ok (.invokevirtual 131, 3) := by decide +kernel
theorem dX6_goesOn_23 : decode cX6_goesOn 23 = .ok (.ifCond .eq 14, 3) := by decide +kernel
theorem dX6_goesOn_26 : decode cX6_goesOn 26 = .ok (.aload_n 0, 1) := by decide +kernel
theorem dX6_goesOn_27 : decode cX6_goesOn 27 = .ok (.iload_n 2, 1) := by decide +kernel
theorem dX6_goesOn_28 : decode cX6_goesOn 28 = .ok (.iload_n 3, 1) := by decide +kernel
theorem dX6_goesOn_29 : decode cX6_goesOn 29 = .ok (.lload 7, 2) := by decide +kernel
theorem dX6_goesOn_31 : decode cX6_goesOn 31 = .ok (.iload 6, 2) := by decide +kernel
theorem dX6_goesOn_33 : decode cX6_goesOn 33 = .ok (.invokevirtual 135, 3) := by decide +kernel
theorem dX6_goesOn_36 : decode cX6_goesOn 36 = .ok (.return_, 1) := by decide +kernel
theorem dX6_goesOn_37 : decode cX6_goesOn 37 = .ok (.aload_n 0, 1) := by decide +kernel
theorem dX6_goesOn_38 : decode cX6_goesOn 38 = .ok (.iload 5, 2) := by decide +kernel
theorem dX6_goesOn_40 : decode cX6_goesOn 40 = .ok (.invokevirtual 139, 3) := by decide +kernel
theorem dX6_goesOn_43 : decode cX6_goesOn 43 = .ok (.istore 9, 2) := by decide +kernel
theorem dX6_goesOn_45 : decode cX6_goesOn 45 = .ok (.aload_n 0, 1) := by decide +kernel
theorem dX6_goesOn_46 : decode cX6_goesOn 46 = .ok (.iload_n 1, 1) := by decide +kernel
theorem dX6_goesOn_47 : decode cX6_goesOn 47 = .ok (.iload_n 2, 1) := by decide +kernel
theorem dX6_goesOn_48 : decode cX6_goesOn 48 = .ok (.iconst 1, 1) := by decide +kernel
theorem dX6_goesOn_49 : decode cX6_goesOn 49 = .ok (.iadd, 1) := by decide +kernel
theorem dX6_goesOn_50 : decode cX6_goesOn 50 = .ok (.iload_n 3, 1) := by decide +kernel
theorem dX6_goesOn_51 : decode cX6_goesOn 51 = .ok (.iload 4, 2) := by decide +kernel
theorem dX6_goesOn_53 : decode cX6_goesOn 53 = .ok (.iconst 1, 1) := by decide +kernel
theorem dX6_goesOn_54 : decode cX6_goesOn 54 = .ok (.iadd, 1) := by decide +kernel
theorem dX6_goesOn_55 : decode cX6_goesOn 55 = .ok (.iconst 1, 1) := by decide +kernel
theorem dX6_goesOn_56 : decode cX6_goesOn 56 = .ok (.iload 6, 2) := by decide +kernel
theorem dX6_goesOn_58 : decode cX6_goesOn 58 = .ok (.ifCond .ge 7, 3) := by decide +kernel
theorem dX6_goesOn_61 : decode cX6_goesOn 61 = .ok (.iconst 1, 1) := by decide +kernel
theorem dX6_goesOn_62 : decode cX6_goesOn 62 = .ok (.goto 5, 3) := by decide +kernel
theorem dX6_goesOn_65 : decode cX6_goesOn 65 = .ok (.iload 6, 2) := by decide +kernel
theorem dX6_goesOn_67 : decode cX6_goesOn 67 = .ok (.lload 7, 2) := by decide +kernel
theorem dX6_goesOn_69 : decode cX6_goesOn 69 = .ok (.ldc2_w 142, 3) := by decide +kernel
theorem dX6_goesOn_72 : decode cX6_goesOn 72 = .ok (.ldiv, 1) := by decide +kernel
theorem dX6_goesOn_73 : decode cX6_goesOn 73 = .ok (.iload 9, 2) := by decide +kernel
theorem dX6_goesOn_75 : decode cX6_goesOn 75 = .ok (.i2l, 1) := by decide +kernel
theorem dX6_goesOn_76 : decode cX6_goesOn 76 = .ok (.lmul, 1) := by decide +kernel
theorem dX6_goesOn_77 : decode cX6_goesOn 77 = .ok (.invokevirtual 144, 3) := by decide +kernel
theorem dX6_goesOn_80 : decode cX6_goesOn 80 = .ok (.aload_n 0, 1) := by decide +kernel
theorem dX6_goesOn_81 : decode cX6_goesOn 81 = .ok (.iload_n 1, 1) := by decide +kernel
theorem dX6_goesOn_82 : decode cX6_goesOn 82 = .ok (.iload_n 2, 1) := by decide +kernel
theorem dX6_goesOn_83 : decode cX6_goesOn 83 = .ok (.iload_n 3, 1) := by decide +kernel
theorem dX6_goesOn_84 : decode cX6_goesOn 84 = .ok (.iconst 1, 1) := by decide +kernel
theorem dX6_goesOn_85 : decode cX6_goesOn 85 = .ok (.iadd, 1) := by decide +kernel
theorem dX6_goesOn_86 : decode cX6_goesOn 86 = .ok (.iconst 0, 1) := by decide +kernel
theorem dX6_goesOn_87 : decode cX6_goesOn 87 = .ok (.iconst 0, 1) := by decide +kernel
theorem dX6_goesOn_88 : decode cX6_goesOn 88 = .ok (.iload 6, 2) := by decide +kernel
theorem dX6_goesOn_90 : decode cX6_goesOn 90 = .ok (.ifCond .ge 7, 3) := by decide +kernel
theorem dX6_goesOn_93 : decode cX6_goesOn 93 = .ok (.iconst 0, 1) := by decide +kernel
theorem dX6_goesOn_94 : decode cX6_goesOn 94 = .ok (.goto 5, 3) := by decide +kernel
theorem dX6_goesOn_97 : decode cX6_goesOn 97 = .ok (.iload 6, 2) := by decide +kernel
theorem dX6_goesOn_99 : decode cX6_goesOn 99 = .ok (.lload 7, 2) := by decide +kernel
theorem dX6_goesOn_101 : decode cX6_goesOn 101 = .ok (.ldc2_w 142, 3) := by decide +kernel
theorem dX6_goesOn_104 : decode cX6_goesOn 104 = .ok (.ldiv, 1) := by decide +kernel
theorem dX6_goesOn_105 : decode cX6_goesOn 105 = .ok (.bipush 12, 2) := by decide +kernel
theorem dX6_goesOn_107 : decode cX6_goesOn 107 = .ok (.iload 9, 2) := by decide +kernel
theorem dX6_goesOn_109 : decode cX6_goesOn 109 = .ok (.isub, 1) := by decide +kernel
theorem dX6_goesOn_110 : decode cX6_goesOn 110 = .ok (.i2l, 1) := by decide +kernel
theorem dX6_goesOn_111 : decode cX6_goesOn 111 = .ok (.lmul, 1) := by decide +kernel
theorem dX6_goesOn_112 : decode cX6_goesOn 112 = .ok (.invokevirtual 144, 3) := by decide +kernel
theorem dX6_goesOn_115 : decode cX6_goesOn 115 = .ok (.return_, 1) := by decide +kernel
set_option maxRecDepth 20000 in
theorem ggX6_finds_X6_goesOn : GoodIn wsX6_finds wsX6_goesOn := goodIn_r _ [18, 3, 19, 20, 21, 17, 22, 2, 23, 24, 25, 26, 27, 28, 29, 4, 5, 6, 7, 8, 9, 10, 13, 30, 31, 32, 11, 12, 33, 34, 35, 36, 14, 15, 16, 37, 38, 39, 40, 41, 42, 43, 44, 45, 46, 47, 48, 49, 50, 51, 52, 53, 54, 55, 56, 57, 58, 59, 60, 61, 62, 63, 64, 65] (by decide +kernel) (by decide +kernel)
set_option maxRecDepth 20000 in
theorem gX6_finds_X6_goesOn : GoodIn wsX6_finds (wsV RX6 144 RX6 yX6_goesOn wsX6_goesOn) := goodIn_app (goodIn_of _ (by decide +kernel)) ggX6_finds_X6_goesOn
theorem dX6_finds_0 : decode cX6_finds 0 = .ok (.aload_n 0, 1) := by decide +kernel
theorem dX6_finds_1 : decode cX6_finds 1 = .ok (.lconst 1, 1) := by decide +kernel
theorem dX6_finds_2 : decode cX6_finds 2 = .ok (.putfield 148, 3) := by decide +kernel
theorem dX6_finds_5 : decode cX6_finds 5 = .ok (.iconst 0, 1) := by decide +kernel
theorem dX6_finds_6 : decode cX6_finds 6 = .ok (.istore_n 2, 1) := by decide +kernel
theorem dX6_finds_7 : decode cX6_finds 7 = .ok (.iload_n 2, 1) := by decide +kernel
theorem dX6_finds_8 : decode cX6_finds 8 = .ok (.aload_n 0, 1) := by decide +kernel
theorem dX6_finds_9 : decode cX6_finds 9 = .ok (.getfield 13, 3) := by decide +kernel
theorem dX6_finds_12 : decode cX6_finds 12 = .ok (.iconst 0, 1) := by decide +kernel
theorem dX6_finds_13 : decode cX6_finds 13 = .ok (.iaload, 1) := by decide +kernel
theorem dX6_finds_14 : decode cX6_finds 14 = .ok (.if_icmp .ge 21, 3) := by decide +kernel
theorem dX6_finds_17 : decode cX6_finds 17 = .ok (.aload_n 0, 1) := by decide +kernel
theorem dX6_finds_18 : decode cX6_finds 18 = .ok (.dup, 1) := by decide +kernel
theorem dX6_finds_19 : decode cX6_finds 19 = .ok (.getfield 148, 3) := by decide +kernel
theorem dX6_finds_22 : decode cX6_finds 22 = .ok (.ldc2_w 142, 3) := by decide +kernel
theorem dX6_finds_25 : decode cX6_finds 25 = .ok (.lmul, 1) := by decide +kernel
theorem dX6_finds_26 : decode cX6_finds 26 = .ok (.putfield 148, 3) := by decide +kernel
theorem dX6_finds_29 : decode cX6_finds 29 = .ok (.iinc 2 1, 3) := by decide +kernel
theorem dX6_finds_32 : decode cX6_finds 32 = .ok (.goto (-25), 3) := by decide +kernel
theorem dX6_finds_35 : decode cX6_finds 35 = .ok (.aload_n 0, 1) := by decide +kernel
theorem dX6_finds_36 : decode cX6_finds 36 = .ok (.lconst 0, 1) := by decide +kernel
theorem dX6_finds_37 : decode cX6_finds 37 = .ok (.putfield 94, 3) := by decide +kernel
theorem dX6_finds_40 : decode cX6_finds 40 = .ok (.aload_n 0, 1) := by decide +kernel
theorem dX6_finds_41 : decode cX6_finds 41 = .ok (.lconst 0, 1) := by decide +kernel
theorem dX6_finds_42 : decode cX6_finds 42 = .ok (.putfield 98, 3) := by decide +kernel
theorem dX6_finds_45 : decode cX6_finds 45 = .ok (.aload_n 0, 1) := by decide +kernel
theorem dX6_finds_46 : decode cX6_finds 46 = .ok (.lconst 0, 1) := by decide +kernel
theorem dX6_finds_47 : decode cX6_finds 47 = .ok (.putfield 101, 3) := by decide +kernel
theorem dX6_finds_50 : decode cX6_finds 50 = .ok (.aload_n 0, 1) := by decide +kernel
theorem dX6_finds_51 : decode cX6_finds 51 = .ok (.lconst 0, 1) := by decide +kernel
theorem dX6_finds_52 : decode cX6_finds 52 = .ok (.putfield 104, 3) := by decide +kernel
theorem dX6_finds_55 : decode cX6_finds 55 = .ok (.aload_n 0, 1) := by decide +kernel
theorem dX6_finds_56 : decode cX6_finds 56 = .ok (.lconst 0, 1) := by decide +kernel
theorem dX6_finds_57 : decode cX6_finds 57 = .ok (.putfield 107, 3) := by decide +kernel
theorem dX6_finds_60 : decode cX6_finds 60 = .ok (.aload_n 0, 1) := by decide +kernel
theorem dX6_finds_61 : decode cX6_finds 61 = .ok (.lconst 0, 1) := by decide +kernel
theorem dX6_finds_62 : decode cX6_finds 62 = .ok (.putfield 110, 3) := by decide +kernel
theorem dX6_finds_65 : decode cX6_finds 65 = .ok (.aload_n 0, 1) := by decide +kernel
theorem dX6_finds_66 : decode cX6_finds 66 = .ok (.lconst 0, 1) := by decide +kernel
theorem dX6_finds_67 : decode cX6_finds 67 = .ok (.putfield 113, 3) := by decide +kernel
theorem dX6_finds_70 : decode cX6_finds 70 = .ok (.aload_n 0, 1) := by decide +kernel
theorem dX6_finds_71 : decode cX6_finds 71 = .ok (.lconst 0, 1) := by decide +kernel
theorem dX6_finds_72 : decode cX6_finds 72 = .ok (.putfield 125, 3) := by decide +kernel
theorem dX6_finds_75 : decode cX6_finds 75 = .ok (.aload_n 0, 1) := by decide +kernel
theorem dX6_finds_76 : decode cX6_finds 76 = .ok (.lconst 0, 1) := by decide +kernel
theorem dX6_finds_77 : decode cX6_finds 77 = .ok (.putfield 128, 3) := by decide +kernel
theorem dX6_finds_80 : decode cX6_finds 80 = .ok (.iconst 0, 1) := by decide +kernel
theorem dX6_finds_81 : decode cX6_finds 81 = .ok (.istore_n 2, 1) := by decide +kernel
theorem dX6_finds_82 : decode cX6_finds 82 = .ok (.iload_n 2, 1) := by decide +kernel
theorem dX6_finds_83 : decode cX6_finds 83 = .ok (.bipush 10, 2) := by decide +kernel
theorem dX6_finds_85 : decode cX6_finds 85 = .ok (.if_icmp .gt 16, 3) := by decide +kernel
theorem dX6_finds_88 : decode cX6_finds 88 = .ok (.aload_n 0, 1) := by decide +kernel
theorem dX6_finds_89 : decode cX6_finds 89 = .ok (.getfield 28, 3) := by decide +kernel
theorem dX6_finds_92 : decode cX6_finds 92 = .ok (.iload_n 2, 1) := by decide +kernel
theorem dX6_finds_93 : decode cX6_finds 93 = .ok (.lconst 0, 1) := by decide +kernel
theorem dX6_finds_94 : decode cX6_finds 94 = .ok (.lastore, 1) := by decide +kernel
theorem dX6_finds_95 : decode cX6_finds 95 = .ok (.iinc 2 1, 3) := by decide +kernel
theorem dX6_finds_98 : decode cX6_finds 98 = .ok (.goto (-16), 3) := by decide +kernel
theorem dX6_finds_101 : decode cX6_finds 101 = .ok (.aload_n 0, 1) := by decide +kernel
theorem dX6_finds_102 : decode cX6_finds 102 = .ok (.iload_n 1, 1) := by decide +kernel
theorem dX6_finds_103 : decode cX6_finds 103 = .ok (.iconst 0, 1) := by decide +kernel
theorem dX6_finds_104 : decode cX6_finds 104 = .ok (.iconst 0, 1) := by decide +kernel
theorem dX6_finds_105 : decode cX6_finds 105 = .ok (.iconst 0, 1) := by decide +kernel
theorem dX6_finds_106 : decode cX6_finds 106 = .ok (.bipush (-9), 2) := by decide +kernel
theorem dX6_finds_108 : decode cX6_finds 108 = .ok (.bipush (-9), 2) := by decide +kernel
theorem dX6_finds_110 : decode cX6_finds 110 = .ok (.aload_n 0, 1) := by decide +kernel
theorem dX6_finds_111 : decode cX6_finds 111 = .ok (.getfield 148, 3) := by decide +kernel
theorem dX6_finds_114 : decode cX6_finds 114 = .ok (.invokevirtual 144, 3) := by decide +kernel
theorem dX6_finds_117 : decode cX6_finds 117 = .ok (.return_, 1) := by decide +kernel
set_option maxRecDepth 20000 in
theorem ggX6_common_X6_common : GoodIn wsX6_common wsX6_common := goodIn_r _ [0, 1, 2, 3] (by decide +kernel) (by decide +kernel)
set_option maxRecDepth 20000 in
theorem gX6_common_X6_common : GoodIn wsX6_common (va_wsS RX6 151 yX6_common wsX6_common) := goodIn_app (goodIn_of _ (by decide +kernel)) ggX6_common_X6_common
theorem dX6_common_0 : decode cX6_common 0 = .ok (.lload_n 2, 1) := by decide +kernel
theorem dX6_common_1 : decode cX6_common 1 = .ok (.lconst 0, 1) := by decide +kernel
theorem dX6_common_2 : decode cX6_common 2 = .ok (.lcmp, 1) := by decide +kernel
theorem dX6_common_3 : decode cX6_common 3 = .ok (.ifCond .ne 7, 3) := by decide +kernel
theorem dX6_common_6 : decode cX6_common 6 = .ok (.lload_n 0, 1) := by decide +kernel
theorem dX6_common_7 : decode cX6_common 7 = .ok (.goto 10, 3) := by decide +kernel
theorem dX6_common_10 : decode cX6_common 10 = .ok (.lload_n 2, 1) := by decide +kernel
theorem dX6_common_11 : decode cX6_common 11 = .ok (.lload_n 0, 1) := by decide +kernel
theorem dX6_common_12 : decode cX6_common 12 = .ok (.lload_n 2, 1) := by decide +kernel
theorem dX6_common_13 : decode cX6_common 13 = .ok (.lrem, 1) := by decide +kernel
theorem dX6_common_14 : decode cX6_common 14 = .ok (.invokestatic 151, 3) := by decide +kernel
theorem dX6_common_17 : decode cX6_common 17 = .ok (.lreturn, 1) := by decide +kernel
set_option maxRecDepth 20000 in
theorem ggX6_part_X6_common : GoodIn wsX6_part wsX6_common := goodIn_r _ [4, 1, 2, 3] (by decide +kernel) (by decide +kernel)
set_option maxRecDepth 20000 in
theorem gX6_part_X6_common : GoodIn wsX6_part (va_wsS RX6 151 yX6_common wsX6_common) := goodIn_app (goodIn_of _ (by decide +kernel)) ggX6_part_X6_common
theorem dX6_part_0 : decode cX6_part 0 = .ok (.lload_n 0, 1) := by decide +kernel
theorem dX6_part_1 : decode cX6_part 1 = .ok (.lconst 0, 1) := by decide +kernel
theorem dX6_part_2 : decode cX6_part 2 = .ok (.lcmp, 1) := by decide +kernel
theorem dX6_part_3 : decode cX6_part 3 = .ok (.ifCond .ne 7, 3) := by decide +kernel
theorem dX6_part_6 : decode cX6_part 6 = .ok (.iload 4, 2) := by decide +kernel
theorem dX6_part_8 : decode cX6_part 8 = .ok (.i2l, 1) := by decide +kernel
theorem dX6_part_9 : decode cX6_part 9 = .ok (.lreturn, 1) := by decide +kernel
theorem dX6_part_10 : decode cX6_part 10 = .ok (.lload_n 2, 1) := by decide +kernel
theorem dX6_part_11 : decode cX6_part 11 = .ok (.lload_n 0, 1) := by decide +kernel
theorem dX6_part_12 : decode cX6_part 12 = .ok (.invokestatic 151, 3) := by decide +kernel
theorem dX6_part_15 : decode cX6_part 15 = .ok (.lstore 5, 2) := by decide +kernel
theorem dX6_part_17 : decode cX6_part 17 = .ok (.iload 4, 2) := by decide +kernel
theorem dX6_part_19 : decode cX6_part 19 = .ok (.ifCond .ne 10, 3) := by decide +kernel
theorem dX6_part_22 : decode cX6_part 22 = .ok (.lload_n 0, 1) := by decide +kernel
theorem dX6_part_23 : decode cX6_part 23 = .ok (.lload 5, 2) := by decide +kernel
theorem dX6_part_25 : decode cX6_part 25 = .ok (.ldiv, 1) := by decide +kernel
theorem dX6_part_26 : decode cX6_part 26 = .ok (.goto 7, 3) := by decide +kernel
theorem dX6_part_29 : decode cX6_part 29 = .ok (.lload_n 2, 1) := by decide +kernel
theorem dX6_part_30 : decode cX6_part 30 = .ok (.lload 5, 2) := by decide +kernel
theorem dX6_part_32 : decode cX6_part 32 = .ok (.ldiv, 1) := by decide +kernel
theorem dX6_part_33 : decode cX6_part 33 = .ok (.lreturn, 1) := by decide +kernel
set_option maxRecDepth 20000 in
theorem ggX6_isPart_X6_isIn : GoodIn wsX6_isPart wsX6_isIn := goodIn_r _ [4] (by decide +kernel) (by decide +kernel)
set_option maxRecDepth 20000 in
theorem gX6_isPart_X6_isIn : GoodIn wsX6_isPart (va_wsS RX6 53 yX6_isIn wsX6_isIn) := goodIn_app (goodIn_of _ (by decide +kernel)) ggX6_isPart_X6_isIn
theorem dX6_isPart_0 : decode cX6_isPart 0 = .ok (.iload_n 0, 1) := by decide +kernel
theorem dX6_isPart_1 : decode cX6_isPart 1 = .ok (.iconst 2, 1) := by decide +kernel
theorem dX6_isPart_2 : decode cX6_isPart 2 = .ok (.invokestatic 53, 3) := by decide +kernel
theorem dX6_isPart_5 : decode cX6_isPart 5 = .ok (.ireturn, 1) := by decide +kernel
set_option maxRecDepth 20000 in
theorem ggX6_mean_X6_isIn : GoodIn wsX6_mean wsX6_isIn := goodIn_r _ [8] (by decide +kernel) (by decide +kernel)
set_option maxRecDepth 20000 in
theorem gX6_mean_X6_isIn : GoodIn wsX6_mean (va_wsS RX6 53 yX6_isIn wsX6_isIn) := goodIn_app (goodIn_of _ (by decide +kernel)) ggX6_mean_X6_isIn
set_option maxRecDepth 20000 in
theorem ggX6_mean_X6_isPart : GoodIn wsX6_mean wsX6_isPart := goodIn_r _ [11, 5, 6, 7, 8] (by decide +kernel) (by decide +kernel)
set_option maxRecDepth 20000 in
theorem gX6_mean_X6_isPart : GoodIn wsX6_mean (va_wsS RX6 155 yX6_isPart wsX6_isPart) := goodIn_app (goodIn_of _ (by decide +kernel)) ggX6_mean_X6_isPart
set_option maxRecDepth 20000 in
theorem ggX6_mean_X6_refuseWide : GoodIn wsX6_mean wsX6_refuseWide := goodIn_r _ [15, 16, 17, 18, 19, 7, 20, 21, 63, 64, 65, 66, 67, 68, 69, 70, 71, 72, 73, 74, 75, 76, 77, 78, 79, 80, 81, 82, 83, 84, 85, 86, 87, 88, 89, 90, 91] (by decide +kernel) (by decide +kernel)
set_option maxRecDepth 20000 in
theorem gX6_mean_X6_refuseWide : GoodIn wsX6_mean (wsV RX6 158 RX6 yX6_refuseWide wsX6_refuseWide) := goodIn_app (goodIn_of _ (by decide +kernel)) ggX6_mean_X6_refuseWide
set_option maxRecDepth 20000 in
theorem ggX6_mean_X6_finds : GoodIn wsX6_mean wsX6_finds := goodIn_r _ [25, 4, 1, 26, 2, 3, 27, 28, 29, 30, 31, 32, 33, 34, 35, 36, 37, 7, 38, 39, 40, 41, 42, 43, 44, 45, 46, 47, 48, 49, 50, 51, 52, 53, 54, 55, 56, 63, 64, 65, 66, 67, 68, 69, 70, 71, 72, 73, 74, 75, 76, 77, 78, 79, 80, 81, 82, 83, 84, 85, 86, 87, 88, 89, 90, 91] (by decide +kernel) (by decide +kernel)
set_option maxRecDepth 20000 in
theorem gX6_mean_X6_finds : GoodIn wsX6_mean (wsV RX6 162 RX6 yX6_finds wsX6_finds) := goodIn_app (goodIn_of _ (by decide +kernel)) ggX6_mean_X6_finds
set_option maxRecDepth 20000 in
theorem ggX6_mean_X6_part : GoodIn wsX6_mean wsX6_part := goodIn_r _ [59, 60, 61, 7, 62] (by decide +kernel) (by decide +kernel)
set_option maxRecDepth 20000 in
theorem gX6_mean_X6_part : GoodIn wsX6_mean (va_wsS RX6 166 yX6_part wsX6_part) := goodIn_app (goodIn_of _ (by decide +kernel)) ggX6_mean_X6_part
theorem dX6_mean_0 : decode cX6_mean 0 = .ok (.iload_n 1, 1) := by decide +kernel
theorem dX6_mean_1 : decode cX6_mean 1 = .ok (.iconst 3, 1) := by decide +kernel
theorem dX6_mean_2 : decode cX6_mean 2 = .ok (.invokestatic 53, 3) := by decide +kernel
theorem dX6_mean_5 : decode cX6_mean 5 = .ok (.ifCond .eq 10, 3) := by decide +kernel
theorem dX6_mean_8 : decode cX6_mean 8 = .ok (.iload_n 2, 1) := by decide +kernel
theorem dX6_mean_9 : decode cX6_mean 9 = .ok (.invokestatic 155, 3) := by decide +kernel
theorem dX6_mean_12 : decode cX6_mean 12 = .ok (.ifCond .ne 10, 3) := by decide +kernel
theorem dX6_mean_15 : decode cX6_mean 15 = .ok (.aload_n 0, 1) := by decide +kernel
theorem dX6_mean_16 : decode cX6_mean 16 = .ok (.bipush (-2), 2) := by decide +kernel
theorem dX6_mean_18 : decode cX6_mean 18 = .ok (.invokevirtual 158, 3) := by decide +kernel
theorem dX6_mean_21 : decode cX6_mean 21 = .ok (.lreturn, 1) := by decide +kernel
theorem dX6_mean_22 : decode cX6_mean 22 = .ok (.aload_n 0, 1) := by decide +kernel
theorem dX6_mean_23 : decode cX6_mean 23 = .ok (.aload_n 0, 1) := by decide +kernel
theorem dX6_mean_24 : decode cX6_mean 24 = .ok (.getfield 13, 3) := by decide +kernel
theorem dX6_mean_27 : decode cX6_mean 27 = .ok (.iconst 3, 1) := by decide +kernel
theorem dX6_mean_28 : decode cX6_mean 28 = .ok (.iaload, 1) := by decide +kernel
theorem dX6_mean_29 : decode cX6_mean 29 = .ok (.invokevirtual 162, 3) := by decide +kernel
theorem dX6_mean_32 : decode cX6_mean 32 = .ok (.iload_n 1, 1) := by decide +kernel
theorem dX6_mean_33 : decode cX6_mean 33 = .ok (.ifCond .ne 10, 3) := by decide +kernel
theorem dX6_mean_36 : decode cX6_mean 36 = .ok (.aload_n 0, 1) := by decide +kernel
theorem dX6_mean_37 : decode cX6_mean 37 = .ok (.getfield 94, 3) := by decide +kernel
theorem dX6_mean_40 : decode cX6_mean 40 = .ok (.goto 24, 3) := by decide +kernel
theorem dX6_mean_43 : decode cX6_mean 43 = .ok (.iload_n 1, 1) := by decide +kernel
theorem dX6_mean_44 : decode cX6_mean 44 = .ok (.iconst 1, 1) := by decide +kernel
theorem dX6_mean_45 : decode cX6_mean 45 = .ok (.if_icmp .ne 10, 3) := by decide +kernel
theorem dX6_mean_48 : decode cX6_mean 48 = .ok (.aload_n 0, 1) := by decide +kernel
theorem dX6_mean_49 : decode cX6_mean 49 = .ok (.getfield 98, 3) := by decide +kernel
theorem dX6_mean_52 : decode cX6_mean 52 = .ok (.goto 12, 3) := by decide +kernel
theorem dX6_mean_55 : decode cX6_mean 55 = .ok (.aload_n 0, 1) := by decide +kernel
theorem dX6_mean_56 : decode cX6_mean 56 = .ok (.getfield 94, 3) := by decide +kernel
theorem dX6_mean_59 : decode cX6_mean 59 = .ok (.aload_n 0, 1) := by decide +kernel
theorem dX6_mean_60 : decode cX6_mean 60 = .ok (.getfield 98, 3) := by decide +kernel
theorem dX6_mean_63 : decode cX6_mean 63 = .ok (.lsub, 1) := by decide +kernel
theorem dX6_mean_64 : decode cX6_mean 64 = .ok (.aload_n 0, 1) := by decide +kernel
theorem dX6_mean_65 : decode cX6_mean 65 = .ok (.getfield 148, 3) := by decide +kernel
theorem dX6_mean_68 : decode cX6_mean 68 = .ok (.iload_n 2, 1) := by decide +kernel
theorem dX6_mean_69 : decode cX6_mean 69 = .ok (.invokestatic 166, 3) := by decide +kernel
theorem dX6_mean_72 : decode cX6_mean 72 = .ok (.lreturn, 1) := by decide +kernel
set_option maxRecDepth 20000 in
theorem ggX6_share_X6_isPart : GoodIn wsX6_share wsX6_isPart := goodIn_r _ [8, 9, 10, 7, 11] (by decide +kernel) (by decide +kernel)
set_option maxRecDepth 20000 in
theorem gX6_share_X6_isPart : GoodIn wsX6_share (va_wsS RX6 155 yX6_isPart wsX6_isPart) := goodIn_app (goodIn_of _ (by decide +kernel)) ggX6_share_X6_isPart
set_option maxRecDepth 20000 in
theorem ggX6_share_X6_refuseWide : GoodIn wsX6_share wsX6_refuseWide := goodIn_r _ [15, 16, 17, 18, 19, 7, 20, 21, 64, 65, 66, 67, 68, 69, 70, 71, 72, 73, 74, 75, 76, 77, 78, 79, 80, 81, 82, 83, 84, 85, 86, 87, 88, 89, 90, 91, 92] (by decide +kernel) (by decide +kernel)
set_option maxRecDepth 20000 in
theorem gX6_share_X6_refuseWide : GoodIn wsX6_share (wsV RX6 158 RX6 yX6_refuseWide wsX6_refuseWide) := goodIn_app (goodIn_of _ (by decide +kernel)) ggX6_share_X6_refuseWide
set_option maxRecDepth 20000 in
theorem ggX6_share_X6_finds : GoodIn wsX6_share wsX6_finds := goodIn_r _ [25, 3, 1, 26, 27, 28, 2, 29, 30, 31, 32, 33, 34, 35, 36, 37, 38, 7, 39, 40, 41, 42, 43, 44, 45, 46, 47, 48, 49, 50, 51, 52, 53, 54, 55, 56, 57, 64, 65, 66, 67, 68, 69, 70, 71, 72, 73, 74, 75, 76, 77, 78, 79, 80, 81, 82, 83, 84, 85, 86, 87, 88, 89, 90, 91, 92] (by decide +kernel) (by decide +kernel)
set_option maxRecDepth 20000 in
theorem gX6_share_X6_finds : GoodIn wsX6_share (wsV RX6 162 RX6 yX6_finds wsX6_finds) := goodIn_app (goodIn_of _ (by decide +kernel)) ggX6_share_X6_finds
set_option maxRecDepth 20000 in
theorem ggX6_share_X6_part : GoodIn wsX6_share wsX6_part := goodIn_r _ [60, 61, 62, 7, 63] (by decide +kernel) (by decide +kernel)
set_option maxRecDepth 20000 in
theorem gX6_share_X6_part : GoodIn wsX6_share (va_wsS RX6 166 yX6_part wsX6_part) := goodIn_app (goodIn_of _ (by decide +kernel)) ggX6_share_X6_part
theorem dX6_share_0 : decode cX6_share 0 = .ok (.iload_n 1, 1) := by decide +kernel
theorem dX6_share_1 : decode cX6_share 1 = .ok (.invokestatic 155, 3) := by decide +kernel
theorem dX6_share_4 : decode cX6_share 4 = .ok (.ifCond .ne 10, 3) := by decide +kernel
theorem dX6_share_7 : decode cX6_share 7 = .ok (.aload_n 0, 1) := by decide +kernel
theorem dX6_share_8 : decode cX6_share 8 = .ok (.bipush (-2), 2) := by decide +kernel
theorem dX6_share_10 : decode cX6_share 10 = .ok (.invokevirtual 158, 3) := by decide +kernel
theorem dX6_share_13 : decode cX6_share 13 = .ok (.lreturn, 1) := by decide +kernel
theorem dX6_share_14 : decode cX6_share 14 = .ok (.aload_n 0, 1) := by decide +kernel
theorem dX6_share_15 : decode cX6_share 15 = .ok (.aload_n 0, 1) := by decide +kernel
theorem dX6_share_16 : decode cX6_share 16 = .ok (.getfield 13, 3) := by decide +kernel
theorem dX6_share_19 : decode cX6_share 19 = .ok (.iconst 3, 1) := by decide +kernel
theorem dX6_share_20 : decode cX6_share 20 = .ok (.iaload, 1) := by decide +kernel
theorem dX6_share_21 : decode cX6_share 21 = .ok (.invokevirtual 162, 3) := by decide +kernel
theorem dX6_share_24 : decode cX6_share 24 = .ok (.aload_n 0, 1) := by decide +kernel
theorem dX6_share_25 : decode cX6_share 25 = .ok (.getfield 101, 3) := by decide +kernel
theorem dX6_share_28 : decode cX6_share 28 = .ok (.aload_n 0, 1) := by decide +kernel
theorem dX6_share_29 : decode cX6_share 29 = .ok (.getfield 148, 3) := by decide +kernel
theorem dX6_share_32 : decode cX6_share 32 = .ok (.ldc2_w 170, 3) := by decide +kernel
theorem dX6_share_35 : decode cX6_share 35 = .ok (.lmul, 1) := by decide +kernel
theorem dX6_share_36 : decode cX6_share 36 = .ok (.iload_n 1, 1) := by decide +kernel
theorem dX6_share_37 : decode cX6_share 37 = .ok (.invokestatic 166, 3) := by decide +kernel
theorem dX6_share_40 : decode cX6_share 40 = .ok (.lreturn, 1) := by decide +kernel
set_option maxRecDepth 20000 in
theorem ggX6_all_X6_isPart : GoodIn wsX6_all wsX6_isPart := goodIn_r _ [7, 8, 9, 6, 10] (by decide +kernel) (by decide +kernel)
set_option maxRecDepth 20000 in
theorem gX6_all_X6_isPart : GoodIn wsX6_all (va_wsS RX6 155 yX6_isPart wsX6_isPart) := goodIn_app (goodIn_of _ (by decide +kernel)) ggX6_all_X6_isPart
set_option maxRecDepth 20000 in
theorem ggX6_all_X6_refuseWide : GoodIn wsX6_all wsX6_refuseWide := goodIn_r _ [14, 15, 16, 17, 18, 6, 19, 20, 63, 64, 65, 66, 67, 68, 69, 70, 71, 72, 73, 74, 75, 76, 77, 78, 79, 80, 81, 82, 83, 84, 85, 86, 87, 88, 89, 90, 91] (by decide +kernel) (by decide +kernel)
set_option maxRecDepth 20000 in
theorem gX6_all_X6_refuseWide : GoodIn wsX6_all (wsV RX6 158 RX6 yX6_refuseWide wsX6_refuseWide) := goodIn_app (goodIn_of _ (by decide +kernel)) ggX6_all_X6_refuseWide
set_option maxRecDepth 20000 in
theorem ggX6_all_X6_finds : GoodIn wsX6_all wsX6_finds := goodIn_r _ [24, 25, 1, 26, 3, 2, 27, 28, 29, 30, 31, 32, 33, 34, 35, 36, 37, 6, 38, 39, 40, 41, 42, 43, 44, 45, 46, 47, 48, 49, 50, 51, 52, 53, 54, 55, 56, 63, 64, 65, 66, 67, 68, 69, 70, 71, 72, 73, 74, 75, 76, 77, 78, 79, 80, 81, 82, 83, 84, 85, 86, 87, 88, 89, 90, 91] (by decide +kernel) (by decide +kernel)
set_option maxRecDepth 20000 in
theorem gX6_all_X6_finds : GoodIn wsX6_all (wsV RX6 162 RX6 yX6_finds wsX6_finds) := goodIn_app (goodIn_of _ (by decide +kernel)) ggX6_all_X6_finds
set_option maxRecDepth 20000 in
theorem ggX6_all_X6_part : GoodIn wsX6_all wsX6_part := goodIn_r _ [59, 60, 61, 6, 62] (by decide +kernel) (by decide +kernel)
set_option maxRecDepth 20000 in
theorem gX6_all_X6_part : GoodIn wsX6_all (va_wsS RX6 166 yX6_part wsX6_part) := goodIn_app (goodIn_of _ (by decide +kernel)) ggX6_all_X6_part
theorem dX6_all_0 : decode cX6_all 0 = .ok (.iload_n 1, 1) := by decide +kernel
theorem dX6_all_1 : decode cX6_all 1 = .ok (.invokestatic 155, 3) := by decide +kernel
theorem dX6_all_4 : decode cX6_all 4 = .ok (.ifCond .ne 10, 3) := by decide +kernel
theorem dX6_all_7 : decode cX6_all 7 = .ok (.aload_n 0, 1) := by decide +kernel
theorem dX6_all_8 : decode cX6_all 8 = .ok (.bipush (-2), 2) := by decide +kernel
theorem dX6_all_10 : decode cX6_all 10 = .ok (.invokevirtual 158, 3) := by decide +kernel
theorem dX6_all_13 : decode cX6_all 13 = .ok (.lreturn, 1) := by decide +kernel
theorem dX6_all_14 : decode cX6_all 14 = .ok (.aload_n 0, 1) := by decide +kernel
theorem dX6_all_15 : decode cX6_all 15 = .ok (.aload_n 0, 1) := by decide +kernel
theorem dX6_all_16 : decode cX6_all 16 = .ok (.getfield 13, 3) := by decide +kernel
theorem dX6_all_19 : decode cX6_all 19 = .ok (.iconst 3, 1) := by decide +kernel
theorem dX6_all_20 : decode cX6_all 20 = .ok (.iaload, 1) := by decide +kernel
theorem dX6_all_21 : decode cX6_all 21 = .ok (.invokevirtual 162, 3) := by decide +kernel
theorem dX6_all_24 : decode cX6_all 24 = .ok (.aload_n 0, 1) := by decide +kernel
theorem dX6_all_25 : decode cX6_all 25 = .ok (.getfield 98, 3) := by decide +kernel
theorem dX6_all_28 : decode cX6_all 28 = .ok (.aload_n 0, 1) := by decide +kernel
theorem dX6_all_29 : decode cX6_all 29 = .ok (.getfield 94, 3) := by decide +kernel
theorem dX6_all_32 : decode cX6_all 32 = .ok (.iload_n 1, 1) := by decide +kernel
theorem dX6_all_33 : decode cX6_all 33 = .ok (.invokestatic 166, 3) := by decide +kernel
theorem dX6_all_36 : decode cX6_all 36 = .ok (.lreturn, 1) := by decide +kernel
set_option maxRecDepth 20000 in
theorem ggX6_more_X6_isIn : GoodIn wsX6_more wsX6_isIn := goodIn_r _ [8] (by decide +kernel) (by decide +kernel)
set_option maxRecDepth 20000 in
theorem gX6_more_X6_isIn : GoodIn wsX6_more (va_wsS RX6 53 yX6_isIn wsX6_isIn) := goodIn_app (goodIn_of _ (by decide +kernel)) ggX6_more_X6_isIn
set_option maxRecDepth 20000 in
theorem ggX6_more_X6_isPart : GoodIn wsX6_more wsX6_isPart := goodIn_r _ [11, 5, 6, 7, 8] (by decide +kernel) (by decide +kernel)
set_option maxRecDepth 20000 in
theorem gX6_more_X6_isPart : GoodIn wsX6_more (va_wsS RX6 155 yX6_isPart wsX6_isPart) := goodIn_app (goodIn_of _ (by decide +kernel)) ggX6_more_X6_isPart
set_option maxRecDepth 20000 in
theorem ggX6_more_X6_refuseWide : GoodIn wsX6_more wsX6_refuseWide := goodIn_r _ [15, 16, 17, 18, 19, 7, 20, 21, 63, 64, 65, 66, 67, 68, 69, 70, 71, 72, 73, 74, 75, 76, 77, 78, 79, 80, 81, 82, 83, 84, 85, 86, 87, 88, 89, 90, 91] (by decide +kernel) (by decide +kernel)
set_option maxRecDepth 20000 in
theorem gX6_more_X6_refuseWide : GoodIn wsX6_more (wsV RX6 158 RX6 yX6_refuseWide wsX6_refuseWide) := goodIn_app (goodIn_of _ (by decide +kernel)) ggX6_more_X6_refuseWide
set_option maxRecDepth 20000 in
theorem ggX6_more_X6_finds : GoodIn wsX6_more wsX6_finds := goodIn_r _ [25, 4, 1, 26, 27, 28, 29, 2, 3, 30, 31, 32, 33, 34, 35, 36, 37, 7, 38, 39, 40, 41, 42, 43, 44, 45, 46, 47, 48, 49, 50, 51, 52, 53, 54, 55, 56, 63, 64, 65, 66, 67, 68, 69, 70, 71, 72, 73, 74, 75, 76, 77, 78, 79, 80, 81, 82, 83, 84, 85, 86, 87, 88, 89, 90, 91] (by decide +kernel) (by decide +kernel)
set_option maxRecDepth 20000 in
theorem gX6_more_X6_finds : GoodIn wsX6_more (wsV RX6 162 RX6 yX6_finds wsX6_finds) := goodIn_app (goodIn_of _ (by decide +kernel)) ggX6_more_X6_finds
set_option maxRecDepth 20000 in
theorem ggX6_more_X6_part : GoodIn wsX6_more wsX6_part := goodIn_r _ [59, 60, 61, 7, 62] (by decide +kernel) (by decide +kernel)
set_option maxRecDepth 20000 in
theorem gX6_more_X6_part : GoodIn wsX6_more (va_wsS RX6 166 yX6_part wsX6_part) := goodIn_app (goodIn_of _ (by decide +kernel)) ggX6_more_X6_part
theorem dX6_more_0 : decode cX6_more 0 = .ok (.iload_n 1, 1) := by decide +kernel
theorem dX6_more_1 : decode cX6_more 1 = .ok (.iconst 3, 1) := by decide +kernel
theorem dX6_more_2 : decode cX6_more 2 = .ok (.invokestatic 53, 3) := by decide +kernel
theorem dX6_more_5 : decode cX6_more 5 = .ok (.ifCond .eq 10, 3) := by decide +kernel
theorem dX6_more_8 : decode cX6_more 8 = .ok (.iload_n 2, 1) := by decide +kernel
theorem dX6_more_9 : decode cX6_more 9 = .ok (.invokestatic 155, 3) := by decide +kernel
theorem dX6_more_12 : decode cX6_more 12 = .ok (.ifCond .ne 10, 3) := by decide +kernel
theorem dX6_more_15 : decode cX6_more 15 = .ok (.aload_n 0, 1) := by decide +kernel
theorem dX6_more_16 : decode cX6_more 16 = .ok (.bipush (-2), 2) := by decide +kernel
theorem dX6_more_18 : decode cX6_more 18 = .ok (.invokevirtual 158, 3) := by decide +kernel
theorem dX6_more_21 : decode cX6_more 21 = .ok (.lreturn, 1) := by decide +kernel
theorem dX6_more_22 : decode cX6_more 22 = .ok (.aload_n 0, 1) := by decide +kernel
theorem dX6_more_23 : decode cX6_more 23 = .ok (.aload_n 0, 1) := by decide +kernel
theorem dX6_more_24 : decode cX6_more 24 = .ok (.getfield 13, 3) := by decide +kernel
theorem dX6_more_27 : decode cX6_more 27 = .ok (.iconst 3, 1) := by decide +kernel
theorem dX6_more_28 : decode cX6_more 28 = .ok (.iaload, 1) := by decide +kernel
theorem dX6_more_29 : decode cX6_more 29 = .ok (.invokevirtual 162, 3) := by decide +kernel
theorem dX6_more_32 : decode cX6_more 32 = .ok (.iload_n 1, 1) := by decide +kernel
theorem dX6_more_33 : decode cX6_more 33 = .ok (.ifCond .ne 10, 3) := by decide +kernel
theorem dX6_more_36 : decode cX6_more 36 = .ok (.aload_n 0, 1) := by decide +kernel
theorem dX6_more_37 : decode cX6_more 37 = .ok (.getfield 104, 3) := by decide +kernel
theorem dX6_more_40 : decode cX6_more 40 = .ok (.goto 29, 3) := by decide +kernel
theorem dX6_more_43 : decode cX6_more 43 = .ok (.iload_n 1, 1) := by decide +kernel
theorem dX6_more_44 : decode cX6_more 44 = .ok (.iconst 1, 1) := by decide +kernel
theorem dX6_more_45 : decode cX6_more 45 = .ok (.if_icmp .ne 10, 3) := by decide +kernel
theorem dX6_more_48 : decode cX6_more 48 = .ok (.aload_n 0, 1) := by decide +kernel
theorem dX6_more_49 : decode cX6_more 49 = .ok (.getfield 107, 3) := by decide +kernel
theorem dX6_more_52 : decode cX6_more 52 = .ok (.goto 17, 3) := by decide +kernel
theorem dX6_more_55 : decode cX6_more 55 = .ok (.aload_n 0, 1) := by decide +kernel
theorem dX6_more_56 : decode cX6_more 56 = .ok (.getfield 148, 3) := by decide +kernel
theorem dX6_more_59 : decode cX6_more 59 = .ok (.aload_n 0, 1) := by decide +kernel
theorem dX6_more_60 : decode cX6_more 60 = .ok (.getfield 104, 3) := by decide +kernel
theorem dX6_more_63 : decode cX6_more 63 = .ok (.lsub, 1) := by decide +kernel
theorem dX6_more_64 : decode cX6_more 64 = .ok (.aload_n 0, 1) := by decide +kernel
theorem dX6_more_65 : decode cX6_more 65 = .ok (.getfield 107, 3) := by decide +kernel
theorem dX6_more_68 : decode cX6_more 68 = .ok (.lsub, 1) := by decide +kernel
theorem dX6_more_69 : decode cX6_more 69 = .ok (.aload_n 0, 1) := by decide +kernel
theorem dX6_more_70 : decode cX6_more 70 = .ok (.getfield 148, 3) := by decide +kernel
theorem dX6_more_73 : decode cX6_more 73 = .ok (.iload_n 2, 1) := by decide +kernel
theorem dX6_more_74 : decode cX6_more 74 = .ok (.invokestatic 166, 3) := by decide +kernel
theorem dX6_more_77 : decode cX6_more 77 = .ok (.lreturn, 1) := by decide +kernel
set_option maxRecDepth 20000 in
theorem ggX6_size_X6_within : GoodIn wsX6_size wsX6_within := goodIn_r _ [7] (by decide +kernel) (by decide +kernel)
set_option maxRecDepth 20000 in
theorem gX6_size_X6_within : GoodIn wsX6_size (va_wsS RX6 38 yX6_within wsX6_within) := goodIn_app (goodIn_of _ (by decide +kernel)) ggX6_size_X6_within
set_option maxRecDepth 20000 in
theorem ggX6_size_X6_isPart : GoodIn wsX6_size wsX6_isPart := goodIn_r _ [10, 11, 12, 6, 13] (by decide +kernel) (by decide +kernel)
set_option maxRecDepth 20000 in
theorem gX6_size_X6_isPart : GoodIn wsX6_size (va_wsS RX6 155 yX6_isPart wsX6_isPart) := goodIn_app (goodIn_of _ (by decide +kernel)) ggX6_size_X6_isPart
set_option maxRecDepth 20000 in
theorem ggX6_size_X6_refuseWide : GoodIn wsX6_size wsX6_refuseWide := goodIn_r _ [17, 18, 19, 20, 21, 6, 22, 23, 66, 67, 68, 69, 70, 71, 72, 73, 74, 75, 76, 77, 78, 79, 80, 81, 82, 83, 84, 85, 86, 87, 88, 89, 90, 91, 92, 93, 94] (by decide +kernel) (by decide +kernel)
set_option maxRecDepth 20000 in
theorem gX6_size_X6_refuseWide : GoodIn wsX6_size (wsV RX6 158 RX6 yX6_refuseWide wsX6_refuseWide) := goodIn_app (goodIn_of _ (by decide +kernel)) ggX6_size_X6_refuseWide
set_option maxRecDepth 20000 in
theorem ggX6_size_X6_finds : GoodIn wsX6_size wsX6_finds := goodIn_r _ [27, 3, 1, 28, 29, 30, 31, 32, 33, 34, 35, 36, 37, 2, 38, 39, 40, 6, 41, 42, 43, 44, 45, 46, 47, 48, 49, 50, 51, 52, 53, 54, 55, 56, 57, 58, 59, 66, 67, 68, 69, 70, 71, 72, 73, 74, 75, 76, 77, 78, 79, 80, 81, 82, 83, 84, 85, 86, 87, 88, 89, 90, 91, 92, 93, 94] (by decide +kernel) (by decide +kernel)
set_option maxRecDepth 20000 in
theorem gX6_size_X6_finds : GoodIn wsX6_size (wsV RX6 162 RX6 yX6_finds wsX6_finds) := goodIn_app (goodIn_of _ (by decide +kernel)) ggX6_size_X6_finds
set_option maxRecDepth 20000 in
theorem ggX6_size_X6_part : GoodIn wsX6_size wsX6_part := goodIn_r _ [62, 63, 64, 6, 65] (by decide +kernel) (by decide +kernel)
set_option maxRecDepth 20000 in
theorem gX6_size_X6_part : GoodIn wsX6_size (va_wsS RX6 166 yX6_part wsX6_part) := goodIn_app (goodIn_of _ (by decide +kernel)) ggX6_size_X6_part
theorem dX6_size_0 : decode cX6_size 0 = .ok (.iload_n 1, 1) := by decide +kernel
theorem dX6_size_1 : decode cX6_size 1 = .ok (.iconst 1, 1) := by decide +kernel
theorem dX6_size_2 : decode cX6_size 2 = .ok (.bipush 10, 2) := by decide +kernel
theorem dX6_size_4 : decode cX6_size 4 = .ok (.invokestatic 38, 3) := by decide +kernel
theorem dX6_size_7 : decode cX6_size 7 = .ok (.istore_n 3, 1) := by decide +kernel
theorem dX6_size_8 : decode cX6_size 8 = .ok (.iload_n 3, 1) := by decide +kernel
theorem dX6_size_9 : decode cX6_size 9 = .ok (.ifCond .ne 13, 3) := by decide +kernel
theorem dX6_size_12 : decode cX6_size 12 = .ok (.iload_n 2, 1) := by decide +kernel
theorem dX6_size_13 : decode cX6_size 13 = .ok (.invokestatic 155, 3) := by decide +kernel
theorem dX6_size_16 : decode cX6_size 16 = .ok (.ifCond .ne 6, 3) := by decide +kernel
theorem dX6_size_19 : decode cX6_size 19 = .ok (.bipush (-2), 2) := by decide +kernel
theorem dX6_size_21 : decode cX6_size 21 = .ok (.istore_n 3, 1) := by decide +kernel
theorem dX6_size_22 : decode cX6_size 22 = .ok (.iload_n 3, 1) := by decide +kernel
theorem dX6_size_23 : decode cX6_size 23 = .ok (.ifCond .eq 9, 3) := by decide +kernel
theorem dX6_size_26 : decode cX6_size 26 = .ok (.aload_n 0, 1) := by decide +kernel
theorem dX6_size_27 : decode cX6_size 27 = .ok (.iload_n 3, 1) := by decide +kernel
theorem dX6_size_28 : decode cX6_size 28 = .ok (.invokevirtual 158, 3) := by decide +kernel
theorem dX6_size_31 : decode cX6_size 31 = .ok (.lreturn, 1) := by decide +kernel
theorem dX6_size_32 : decode cX6_size 32 = .ok (.aload_n 0, 1) := by decide +kernel
theorem dX6_size_33 : decode cX6_size 33 = .ok (.aload_n 0, 1) := by decide +kernel
theorem dX6_size_34 : decode cX6_size 34 = .ok (.getfield 13, 3) := by decide +kernel
theorem dX6_size_37 : decode cX6_size 37 = .ok (.iconst 3, 1) := by decide +kernel
theorem dX6_size_38 : decode cX6_size 38 = .ok (.iaload, 1) := by decide +kernel
theorem dX6_size_39 : decode cX6_size 39 = .ok (.invokevirtual 162, 3) := by decide +kernel
theorem dX6_size_42 : decode cX6_size 42 = .ok (.aload_n 0, 1) := by decide +kernel
theorem dX6_size_43 : decode cX6_size 43 = .ok (.getfield 28, 3) := by decide +kernel
theorem dX6_size_46 : decode cX6_size 46 = .ok (.iload_n 1, 1) := by decide +kernel
theorem dX6_size_47 : decode cX6_size 47 = .ok (.laload, 1) := by decide +kernel
theorem dX6_size_48 : decode cX6_size 48 = .ok (.aload_n 0, 1) := by decide +kernel
theorem dX6_size_49 : decode cX6_size 49 = .ok (.getfield 148, 3) := by decide +kernel
theorem dX6_size_52 : decode cX6_size 52 = .ok (.iload_n 2, 1) := by decide +kernel
theorem dX6_size_53 : decode cX6_size 53 = .ok (.invokestatic 166, 3) := by decide +kernel
theorem dX6_size_56 : decode cX6_size 56 = .ok (.lreturn, 1) := by decide +kernel
set_option maxRecDepth 20000 in
theorem ggX6_met_X6_isIn : GoodIn wsX6_met wsX6_isIn := goodIn_r _ [8] (by decide +kernel) (by decide +kernel)
set_option maxRecDepth 20000 in
theorem gX6_met_X6_isIn : GoodIn wsX6_met (va_wsS RX6 53 yX6_isIn wsX6_isIn) := goodIn_app (goodIn_of _ (by decide +kernel)) ggX6_met_X6_isIn
set_option maxRecDepth 20000 in
theorem ggX6_met_X6_isPart : GoodIn wsX6_met wsX6_isPart := goodIn_r _ [11, 5, 6, 7, 8] (by decide +kernel) (by decide +kernel)
set_option maxRecDepth 20000 in
theorem gX6_met_X6_isPart : GoodIn wsX6_met (va_wsS RX6 155 yX6_isPart wsX6_isPart) := goodIn_app (goodIn_of _ (by decide +kernel)) ggX6_met_X6_isPart
set_option maxRecDepth 20000 in
theorem ggX6_met_X6_refuseWide : GoodIn wsX6_met wsX6_refuseWide := goodIn_r _ [15, 16, 17, 18, 19, 7, 20, 21, 63, 64, 65, 66, 67, 68, 69, 70, 71, 72, 73, 74, 75, 76, 77, 78, 79, 80, 81, 82, 83, 84, 85, 86, 87, 88, 89, 90, 91] (by decide +kernel) (by decide +kernel)
set_option maxRecDepth 20000 in
theorem gX6_met_X6_refuseWide : GoodIn wsX6_met (wsV RX6 158 RX6 yX6_refuseWide wsX6_refuseWide) := goodIn_app (goodIn_of _ (by decide +kernel)) ggX6_met_X6_refuseWide
set_option maxRecDepth 20000 in
theorem ggX6_met_X6_finds : GoodIn wsX6_met wsX6_finds := goodIn_r _ [25, 26, 1, 27, 4, 28, 29, 30, 31, 2, 3, 32, 33, 34, 35, 36, 37, 7, 38, 39, 40, 41, 42, 43, 44, 45, 46, 47, 48, 49, 50, 51, 52, 53, 54, 55, 56, 63, 64, 65, 66, 67, 68, 69, 70, 71, 72, 73, 74, 75, 76, 77, 78, 79, 80, 81, 82, 83, 84, 85, 86, 87, 88, 89, 90, 91] (by decide +kernel) (by decide +kernel)
set_option maxRecDepth 20000 in
theorem gX6_met_X6_finds : GoodIn wsX6_met (wsV RX6 162 RX6 yX6_finds wsX6_finds) := goodIn_app (goodIn_of _ (by decide +kernel)) ggX6_met_X6_finds
set_option maxRecDepth 20000 in
theorem ggX6_met_X6_part : GoodIn wsX6_met wsX6_part := goodIn_r _ [59, 60, 61, 7, 62] (by decide +kernel) (by decide +kernel)
set_option maxRecDepth 20000 in
theorem gX6_met_X6_part : GoodIn wsX6_met (va_wsS RX6 166 yX6_part wsX6_part) := goodIn_app (goodIn_of _ (by decide +kernel)) ggX6_met_X6_part
theorem dX6_met_0 : decode cX6_met 0 = .ok (.iload_n 1, 1) := by decide +kernel
theorem dX6_met_1 : decode cX6_met 1 = .ok (.iconst 2, 1) := by decide +kernel
theorem dX6_met_2 : decode cX6_met 2 = .ok (.invokestatic 53, 3) := by decide +kernel
theorem dX6_met_5 : decode cX6_met 5 = .ok (.ifCond .eq 10, 3) := by decide +kernel
theorem dX6_met_8 : decode cX6_met 8 = .ok (.iload_n 2, 1) := by decide +kernel
theorem dX6_met_9 : decode cX6_met 9 = .ok (.invokestatic 155, 3) := by decide +kernel
theorem dX6_met_12 : decode cX6_met 12 = .ok (.ifCond .ne 10, 3) := by decide +kernel
theorem dX6_met_15 : decode cX6_met 15 = .ok (.aload_n 0, 1) := by decide +kernel
theorem dX6_met_16 : decode cX6_met 16 = .ok (.bipush (-2), 2) := by decide +kernel
theorem dX6_met_18 : decode cX6_met 18 = .ok (.invokevirtual 158, 3) := by decide +kernel
theorem dX6_met_21 : decode cX6_met 21 = .ok (.lreturn, 1) := by decide +kernel
theorem dX6_met_22 : decode cX6_met 22 = .ok (.aload_n 0, 1) := by decide +kernel
theorem dX6_met_23 : decode cX6_met 23 = .ok (.aload_n 0, 1) := by decide +kernel
theorem dX6_met_24 : decode cX6_met 24 = .ok (.getfield 13, 3) := by decide +kernel
theorem dX6_met_27 : decode cX6_met 27 = .ok (.iconst 3, 1) := by decide +kernel
theorem dX6_met_28 : decode cX6_met 28 = .ok (.iaload, 1) := by decide +kernel
theorem dX6_met_29 : decode cX6_met 29 = .ok (.invokevirtual 162, 3) := by decide +kernel
theorem dX6_met_32 : decode cX6_met 32 = .ok (.iload_n 1, 1) := by decide +kernel
theorem dX6_met_33 : decode cX6_met 33 = .ok (.ifCond .ne 10, 3) := by decide +kernel
theorem dX6_met_36 : decode cX6_met 36 = .ok (.aload_n 0, 1) := by decide +kernel
theorem dX6_met_37 : decode cX6_met 37 = .ok (.getfield 110, 3) := by decide +kernel
theorem dX6_met_40 : decode cX6_met 40 = .ok (.goto 7, 3) := by decide +kernel
theorem dX6_met_43 : decode cX6_met 43 = .ok (.aload_n 0, 1) := by decide +kernel
theorem dX6_met_44 : decode cX6_met 44 = .ok (.getfield 113, 3) := by decide +kernel
theorem dX6_met_47 : decode cX6_met 47 = .ok (.aload_n 0, 1) := by decide +kernel
theorem dX6_met_48 : decode cX6_met 48 = .ok (.getfield 94, 3) := by decide +kernel
theorem dX6_met_51 : decode cX6_met 51 = .ok (.iload_n 2, 1) := by decide +kernel
theorem dX6_met_52 : decode cX6_met 52 = .ok (.invokestatic 166, 3) := by decide +kernel
theorem dX6_met_55 : decode cX6_met 55 = .ok (.lreturn, 1) := by decide +kernel
set_option maxRecDepth 20000 in
theorem ggX6_says_X6_isIn : GoodIn wsX6_says wsX6_isIn := goodIn_r _ [11] (by decide +kernel) (by decide +kernel)
set_option maxRecDepth 20000 in
theorem gX6_says_X6_isIn : GoodIn wsX6_says (va_wsS RX6 53 yX6_isIn wsX6_isIn) := goodIn_app (goodIn_of _ (by decide +kernel)) ggX6_says_X6_isIn
set_option maxRecDepth 20000 in
theorem ggX6_says_X6_isPart : GoodIn wsX6_says wsX6_isPart := goodIn_r _ [14, 8, 9, 10, 11] (by decide +kernel) (by decide +kernel)
set_option maxRecDepth 20000 in
theorem gX6_says_X6_isPart : GoodIn wsX6_says (va_wsS RX6 155 yX6_isPart wsX6_isPart) := goodIn_app (goodIn_of _ (by decide +kernel)) ggX6_says_X6_isPart
set_option maxRecDepth 20000 in
theorem ggX6_says_X6_refuseWide : GoodIn wsX6_says wsX6_refuseWide := goodIn_r _ [18, 19, 20, 21, 22, 10, 23, 24, 63, 64, 65, 66, 67, 68, 69, 70, 71, 72, 73, 74, 75, 76, 77, 78, 79, 80, 81, 82, 83, 84, 85, 86, 87, 88, 89, 90, 91] (by decide +kernel) (by decide +kernel)
set_option maxRecDepth 20000 in
theorem gX6_says_X6_refuseWide : GoodIn wsX6_says (wsV RX6 158 RX6 yX6_refuseWide wsX6_refuseWide) := goodIn_app (goodIn_of _ (by decide +kernel)) ggX6_says_X6_refuseWide
set_option maxRecDepth 20000 in
theorem ggX6_says_X6_finds : GoodIn wsX6_says wsX6_finds := goodIn_r _ [28, 29, 4, 30, 6, 31, 32, 33, 34, 35, 36, 5, 7, 37, 38, 39, 40, 10, 41, 42, 43, 44, 45, 46, 47, 48, 49, 50, 51, 52, 2, 1, 3, 53, 54, 55, 56, 63, 64, 65, 66, 67, 68, 69, 70, 71, 72, 73, 74, 75, 76, 77, 78, 79, 80, 81, 82, 83, 84, 85, 86, 87, 88, 89, 90, 91] (by decide +kernel) (by decide +kernel)
set_option maxRecDepth 20000 in
theorem gX6_says_X6_finds : GoodIn wsX6_says (wsV RX6 162 RX6 yX6_finds wsX6_finds) := goodIn_app (goodIn_of _ (by decide +kernel)) ggX6_says_X6_finds
set_option maxRecDepth 20000 in
theorem ggX6_says_X6_part : GoodIn wsX6_says wsX6_part := goodIn_r _ [59, 60, 61, 10, 62] (by decide +kernel) (by decide +kernel)
set_option maxRecDepth 20000 in
theorem gX6_says_X6_part : GoodIn wsX6_says (va_wsS RX6 166 yX6_part wsX6_part) := goodIn_app (goodIn_of _ (by decide +kernel)) ggX6_says_X6_part
theorem dX6_says_0 : decode cX6_says 0 = .ok (.iload_n 2, 1) := by decide +kernel
theorem dX6_says_1 : decode cX6_says 1 = .ok (.ifCond .lt 7, 3) := by decide +kernel
theorem dX6_says_4 : decode cX6_says 4 = .ok (.iload_n 3, 1) := by decide +kernel
theorem dX6_says_5 : decode cX6_says 5 = .ok (.ifCond .ge 8, 3) := by decide +kernel
theorem dX6_says_8 : decode cX6_says 8 = .ok (.bipush (-4), 2) := by decide +kernel
theorem dX6_says_10 : decode cX6_says 10 = .ok (.goto 51, 3) := by decide +kernel
theorem dX6_says_13 : decode cX6_says 13 = .ok (.iload_n 2, 1) := by decide +kernel
theorem dX6_says_14 : decode cX6_says 14 = .ok (.bipush 9, 2) := by decide +kernel
theorem dX6_says_16 : decode cX6_says 16 = .ok (.if_icmp .gt 9, 3) := by decide +kernel
theorem dX6_says_19 : decode cX6_says 19 = .ok (.iload_n 3, 1) := by decide +kernel
theorem dX6_says_20 : decode cX6_says 20 = .ok (.bipush 9, 2) := by decide +kernel
theorem dX6_says_22 : decode cX6_says 22 = .ok (.if_icmp .le 8, 3) := by decide +kernel
theorem dX6_says_25 : decode cX6_says 25 = .ok (.bipush (-6), 2) := by decide +kernel
theorem dX6_says_27 : decode cX6_says 27 = .ok (.goto 34, 3) := by decide +kernel
theorem dX6_says_30 : decode cX6_says 30 = .ok (.iload_n 1, 1) := by decide +kernel
theorem dX6_says_31 : decode cX6_says 31 = .ok (.iconst 2, 1) := by decide +kernel
theorem dX6_says_32 : decode cX6_says 32 = .ok (.invokestatic 53, 3) := by decide +kernel
theorem dX6_says_35 : decode cX6_says 35 = .ok (.ifCond .eq 24, 3) := by decide +kernel
theorem dX6_says_38 : decode cX6_says 38 = .ok (.iload 4, 2) := by decide +kernel
theorem dX6_says_40 : decode cX6_says 40 = .ok (.iconst 2, 1) := by decide +kernel
theorem dX6_says_41 : decode cX6_says 41 = .ok (.invokestatic 53, 3) := by decide +kernel
theorem dX6_says_44 : decode cX6_says 44 = .ok (.ifCond .eq 15, 3) := by decide +kernel
theorem dX6_says_47 : decode cX6_says 47 = .ok (.iload 5, 2) := by decide +kernel
theorem dX6_says_49 : decode cX6_says 49 = .ok (.invokestatic 155, 3) := by decide +kernel
theorem dX6_says_52 : decode cX6_says 52 = .ok (.ifCond .eq 7, 3) := by decide +kernel
theorem dX6_says_55 : decode cX6_says 55 = .ok (.iconst 0, 1) := by decide +kernel
theorem dX6_says_56 : decode cX6_says 56 = .ok (.goto 5, 3) := by decide +kernel
theorem dX6_says_59 : decode cX6_says 59 = .ok (.bipush (-2), 2) := by decide +kernel
theorem dX6_says_61 : decode cX6_says 61 = .ok (.istore 6, 2) := by decide +kernel
theorem dX6_says_63 : decode cX6_says 63 = .ok (.iload 6, 2) := by decide +kernel
theorem dX6_says_65 : decode cX6_says 65 = .ok (.ifCond .eq 10, 3) := by decide +kernel
theorem dX6_says_68 : decode cX6_says 68 = .ok (.aload_n 0, 1) := by decide +kernel
theorem dX6_says_69 : decode cX6_says 69 = .ok (.iload 6, 2) := by decide +kernel
theorem dX6_says_71 : decode cX6_says 71 = .ok (.invokevirtual 158, 3) := by decide +kernel
theorem dX6_says_74 : decode cX6_says 74 = .ok (.lreturn, 1) := by decide +kernel
theorem dX6_says_75 : decode cX6_says 75 = .ok (.aload_n 0, 1) := by decide +kernel
theorem dX6_says_76 : decode cX6_says 76 = .ok (.iload_n 1, 1) := by decide +kernel
theorem dX6_says_77 : decode cX6_says 77 = .ok (.putfield 119, 3) := by decide +kernel
theorem dX6_says_80 : decode cX6_says 80 = .ok (.aload_n 0, 1) := by decide +kernel
theorem dX6_says_81 : decode cX6_says 81 = .ok (.iload_n 2, 1) := by decide +kernel
theorem dX6_says_82 : decode cX6_says 82 = .ok (.putfield 116, 3) := by decide +kernel
theorem dX6_says_85 : decode cX6_says 85 = .ok (.aload_n 0, 1) := by decide +kernel
theorem dX6_says_86 : decode cX6_says 86 = .ok (.iload_n 3, 1) := by decide +kernel
theorem dX6_says_87 : decode cX6_says 87 = .ok (.putfield 122, 3) := by decide +kernel
theorem dX6_says_90 : decode cX6_says 90 = .ok (.aload_n 0, 1) := by decide +kernel
theorem dX6_says_91 : decode cX6_says 91 = .ok (.aload_n 0, 1) := by decide +kernel
theorem dX6_says_92 : decode cX6_says 92 = .ok (.getfield 13, 3) := by decide +kernel
theorem dX6_says_95 : decode cX6_says 95 = .ok (.iconst 3, 1) := by decide +kernel
theorem dX6_says_96 : decode cX6_says 96 = .ok (.iaload, 1) := by decide +kernel
theorem dX6_says_97 : decode cX6_says 97 = .ok (.invokevirtual 162, 3) := by decide +kernel
theorem dX6_says_100 : decode cX6_says 100 = .ok (.iload 4, 2) := by decide +kernel
theorem dX6_says_102 : decode cX6_says 102 = .ok (.ifCond .ne 19, 3) := by decide +kernel
theorem dX6_says_105 : decode cX6_says 105 = .ok (.aload_n 0, 1) := by decide +kernel
theorem dX6_says_106 : decode cX6_says 106 = .ok (.getfield 125, 3) := by decide +kernel
theorem dX6_says_109 : decode cX6_says 109 = .ok (.aload_n 0, 1) := by decide +kernel
theorem dX6_says_110 : decode cX6_says 110 = .ok (.getfield 94, 3) := by decide +kernel
theorem dX6_says_113 : decode cX6_says 113 = .ok (.iload 5, 2) := by decide +kernel
theorem dX6_says_115 : decode cX6_says 115 = .ok (.invokestatic 166, 3) := by decide +kernel
theorem dX6_says_118 : decode cX6_says 118 = .ok (.goto 16, 3) := by decide +kernel
theorem dX6_says_121 : decode cX6_says 121 = .ok (.aload_n 0, 1) := by decide +kernel
theorem dX6_says_122 : decode cX6_says 122 = .ok (.getfield 128, 3) := by decide +kernel
theorem dX6_says_125 : decode cX6_says 125 = .ok (.aload_n 0, 1) := by decide +kernel
theorem dX6_says_126 : decode cX6_says 126 = .ok (.getfield 125, 3) := by decide +kernel
theorem dX6_says_129 : decode cX6_says 129 = .ok (.iload 5, 2) := by decide +kernel
theorem dX6_says_131 : decode cX6_says 131 = .ok (.invokestatic 166, 3) := by decide +kernel
theorem dX6_says_134 : decode cX6_says 134 = .ok (.lreturn, 1) := by decide +kernel
set_option maxRecDepth 20000 in
theorem ggX6_triedBy_X6_twelfths : GoodIn wsX6_triedBy wsX6_twelfths := goodIn_r _ [6, 7, 11, 12, 13, 14, 15, 16, 17, 18, 19, 20, 21, 22, 23, 24, 25, 26, 27, 28, 29, 30, 31, 32, 33, 34, 35, 36, 37, 38, 39] (by decide +kernel) (by decide +kernel)
set_option maxRecDepth 20000 in
theorem gX6_triedBy_X6_twelfths : GoodIn wsX6_triedBy (wsV RX6 139 RX6 yX6_twelfths wsX6_twelfths) := goodIn_app (goodIn_of _ (by decide +kernel)) ggX6_triedBy_X6_twelfths
set_option maxRecDepth 20000 in
theorem ggX6_triedBy_X6_triedBy : GoodIn wsX6_triedBy wsX6_triedBy := goodIn_r _ [0, 1, 2, 3, 4, 5, 6, 7, 8, 9, 10, 11, 12, 13, 14, 15, 16, 17, 18, 19, 20, 21, 22, 23, 24, 25, 26, 27, 28, 29, 30, 31, 32, 33, 34, 35, 36, 37, 38, 39] (by decide +kernel) (by decide +kernel)
set_option maxRecDepth 20000 in
theorem gX6_triedBy_X6_triedBy : GoodIn wsX6_triedBy (wsV RX6 172 RX6 yX6_triedBy wsX6_triedBy) := goodIn_app (goodIn_of _ (by decide +kernel)) ggX6_triedBy_X6_triedBy
theorem dX6_triedBy_0 : decode cX6_triedBy 0 = .ok (.iload_n 2, 1) := by decide +kernel
theorem dX6_triedBy_1 : decode cX6_triedBy 1 = .ok (.iload_n 3, 1) := by decide +kernel
theorem dX6_triedBy_2 : decode cX6_triedBy 2 = .ok (.if_icmp .ne 6, 3) := by decide +kernel
theorem dX6_triedBy_5 : decode cX6_triedBy 5 = .ok (.lload 5, 2) := by decide +kernel
theorem dX6_triedBy_7 : decode cX6_triedBy 7 = .ok (.lreturn, 1) := by decide +kernel
theorem dX6_triedBy_8 : decode cX6_triedBy 8 = .ok (.iload_n 1, 1) := by decide +kernel
theorem dX6_triedBy_9 : decode cX6_triedBy 9 = .ok (.ifCond .eq 10, 3) := by decide +kernel
theorem dX6_triedBy_12 : decode cX6_triedBy 12 = .ok (.lload 5, 2) := by decide +kernel
theorem dX6_triedBy_14 : decode cX6_triedBy 14 = .ok (.lconst 0, 1) := by decide +kernel
theorem dX6_triedBy_15 : decode cX6_triedBy 15 = .ok (.lcmp, 1) := by decide +kernel
theorem dX6_triedBy_16 : decode cX6_triedBy 16 = .ok (.ifCond .ne 5, 3) := by decide +kernel
theorem dX6_triedBy_19 : decode cX6_triedBy 19 = .ok (.lconst 0, 1) := by decide +kernel
theorem dX6_triedBy_20 : decode cX6_triedBy 20 = .ok (.lreturn, 1) := by decide +kernel
theorem dX6_triedBy_21 : decode cX6_triedBy 21 = .ok (.aload_n 0, 1) := by decide +kernel
theorem dX6_triedBy_22 : decode cX6_triedBy 22 = .ok (.iload 4, 2) := by decide +kernel
theorem dX6_triedBy_24 : decode cX6_triedBy 24 = .ok (.invokevirtual 139, 3) := by decide +kernel
theorem dX6_triedBy_27 : decode cX6_triedBy 27 = .ok (.istore 7, 2) := by decide +kernel
theorem dX6_triedBy_29 : decode cX6_triedBy 29 = .ok (.aload_n 0, 1) := by decide +kernel
theorem dX6_triedBy_30 : decode cX6_triedBy 30 = .ok (.iload_n 1, 1) := by decide +kernel
theorem dX6_triedBy_31 : decode cX6_triedBy 31 = .ok (.iconst 1, 1) := by decide +kernel
theorem dX6_triedBy_32 : decode cX6_triedBy 32 = .ok (.isub, 1) := by decide +kernel
theorem dX6_triedBy_33 : decode cX6_triedBy 33 = .ok (.iload_n 2, 1) := by decide +kernel
theorem dX6_triedBy_34 : decode cX6_triedBy 34 = .ok (.iconst 1, 1) := by decide +kernel
theorem dX6_triedBy_35 : decode cX6_triedBy 35 = .ok (.iadd, 1) := by decide +kernel
theorem dX6_triedBy_36 : decode cX6_triedBy 36 = .ok (.iload_n 3, 1) := by decide +kernel
theorem dX6_triedBy_37 : decode cX6_triedBy 37 = .ok (.iconst 1, 1) := by decide +kernel
theorem dX6_triedBy_38 : decode cX6_triedBy 38 = .ok (.lload 5, 2) := by decide +kernel
theorem dX6_triedBy_40 : decode cX6_triedBy 40 = .ok (.ldc2_w 142, 3) := by decide +kernel
theorem dX6_triedBy_43 : decode cX6_triedBy 43 = .ok (.ldiv, 1) := by decide +kernel
theorem dX6_triedBy_44 : decode cX6_triedBy 44 = .ok (.iload 7, 2) := by decide +kernel
theorem dX6_triedBy_46 : decode cX6_triedBy 46 = .ok (.i2l, 1) := by decide +kernel
theorem dX6_triedBy_47 : decode cX6_triedBy 47 = .ok (.lmul, 1) := by decide +kernel
theorem dX6_triedBy_48 : decode cX6_triedBy 48 = .ok (.invokevirtual 172, 3) := by decide +kernel
theorem dX6_triedBy_51 : decode cX6_triedBy 51 = .ok (.aload_n 0, 1) := by decide +kernel
theorem dX6_triedBy_52 : decode cX6_triedBy 52 = .ok (.iload_n 1, 1) := by decide +kernel
theorem dX6_triedBy_53 : decode cX6_triedBy 53 = .ok (.iconst 1, 1) := by decide +kernel
theorem dX6_triedBy_54 : decode cX6_triedBy 54 = .ok (.isub, 1) := by decide +kernel
theorem dX6_triedBy_55 : decode cX6_triedBy 55 = .ok (.iload_n 2, 1) := by decide +kernel
theorem dX6_triedBy_56 : decode cX6_triedBy 56 = .ok (.iconst 1, 1) := by decide +kernel
theorem dX6_triedBy_57 : decode cX6_triedBy 57 = .ok (.isub, 1) := by decide +kernel
theorem dX6_triedBy_58 : decode cX6_triedBy 58 = .ok (.iload_n 3, 1) := by decide +kernel
theorem dX6_triedBy_59 : decode cX6_triedBy 59 = .ok (.iconst 0, 1) := by decide +kernel
theorem dX6_triedBy_60 : decode cX6_triedBy 60 = .ok (.lload 5, 2) := by decide +kernel
theorem dX6_triedBy_62 : decode cX6_triedBy 62 = .ok (.ldc2_w 142, 3) := by decide +kernel
theorem dX6_triedBy_65 : decode cX6_triedBy 65 = .ok (.ldiv, 1) := by decide +kernel
theorem dX6_triedBy_66 : decode cX6_triedBy 66 = .ok (.bipush 12, 2) := by decide +kernel
theorem dX6_triedBy_68 : decode cX6_triedBy 68 = .ok (.iload 7, 2) := by decide +kernel
theorem dX6_triedBy_70 : decode cX6_triedBy 70 = .ok (.isub, 1) := by decide +kernel
theorem dX6_triedBy_71 : decode cX6_triedBy 71 = .ok (.i2l, 1) := by decide +kernel
theorem dX6_triedBy_72 : decode cX6_triedBy 72 = .ok (.lmul, 1) := by decide +kernel
theorem dX6_triedBy_73 : decode cX6_triedBy 73 = .ok (.invokevirtual 172, 3) := by decide +kernel
theorem dX6_triedBy_76 : decode cX6_triedBy 76 = .ok (.ladd, 1) := by decide +kernel
theorem dX6_triedBy_77 : decode cX6_triedBy 77 = .ok (.lreturn, 1) := by decide +kernel
set_option maxRecDepth 20000 in
theorem ggX6_trial_X6_isPart : GoodIn wsX6_trial wsX6_isPart := goodIn_r _ [5, 6, 7, 4, 8] (by decide +kernel) (by decide +kernel)
set_option maxRecDepth 20000 in
theorem gX6_trial_X6_isPart : GoodIn wsX6_trial (va_wsS RX6 155 yX6_isPart wsX6_isPart) := goodIn_app (goodIn_of _ (by decide +kernel)) ggX6_trial_X6_isPart
set_option maxRecDepth 20000 in
theorem ggX6_trial_X6_refuseWide : GoodIn wsX6_trial wsX6_refuseWide := goodIn_r _ [12, 13, 14, 15, 16, 4, 17, 18, 34, 35, 36, 37, 38, 39, 40, 41, 42, 43, 44, 45, 46, 47, 48, 49, 50, 51, 52, 53, 54, 55, 56, 57, 58, 59, 60, 61, 62] (by decide +kernel) (by decide +kernel)
set_option maxRecDepth 20000 in
theorem gX6_trial_X6_refuseWide : GoodIn wsX6_trial (wsV RX6 158 RX6 yX6_refuseWide wsX6_refuseWide) := goodIn_app (goodIn_of _ (by decide +kernel)) ggX6_trial_X6_refuseWide
set_option maxRecDepth 20000 in
theorem ggX6_trial_X6_triedBy : GoodIn wsX6_trial wsX6_triedBy := goodIn_r _ [22, 1, 23, 24, 25, 4, 26, 27, 19, 20, 21, 34, 35, 36, 37, 38, 39, 40, 41, 42, 43, 44, 45, 46, 47, 48, 49, 50, 51, 52, 53, 54, 55, 56, 57, 58, 59, 60, 61, 62] (by decide +kernel) (by decide +kernel)
set_option maxRecDepth 20000 in
theorem gX6_trial_X6_triedBy : GoodIn wsX6_trial (wsV RX6 172 RX6 yX6_triedBy wsX6_triedBy) := goodIn_app (goodIn_of _ (by decide +kernel)) ggX6_trial_X6_triedBy
set_option maxRecDepth 20000 in
theorem ggX6_trial_X6_part : GoodIn wsX6_trial wsX6_part := goodIn_r _ [30, 31, 32, 4, 33] (by decide +kernel) (by decide +kernel)
set_option maxRecDepth 20000 in
theorem gX6_trial_X6_part : GoodIn wsX6_trial (va_wsS RX6 166 yX6_part wsX6_part) := goodIn_app (goodIn_of _ (by decide +kernel)) ggX6_trial_X6_part
theorem dX6_trial_0 : decode cX6_trial 0 = .ok (.iload_n 1, 1) := by decide +kernel
theorem dX6_trial_1 : decode cX6_trial 1 = .ok (.iconst 1, 1) := by decide +kernel
theorem dX6_trial_2 : decode cX6_trial 2 = .ok (.if_icmp .lt 8, 3) := by decide +kernel
theorem dX6_trial_5 : decode cX6_trial 5 = .ok (.iload_n 2, 1) := by decide +kernel
theorem dX6_trial_6 : decode cX6_trial 6 = .ok (.iconst 1, 1) := by decide +kernel
theorem dX6_trial_7 : decode cX6_trial 7 = .ok (.if_icmp .ge 8, 3) := by decide +kernel
theorem dX6_trial_10 : decode cX6_trial 10 = .ok (.bipush (-4), 2) := by decide +kernel
theorem dX6_trial_12 : decode cX6_trial 12 = .ok (.goto 33, 3) := by decide +kernel
theorem dX6_trial_15 : decode cX6_trial 15 = .ok (.iload_n 1, 1) := by decide +kernel
theorem dX6_trial_16 : decode cX6_trial 16 = .ok (.bipush 10, 2) := by decide +kernel
theorem dX6_trial_18 : decode cX6_trial 18 = .ok (.if_icmp .gt 9, 3) := by decide +kernel
theorem dX6_trial_21 : decode cX6_trial 21 = .ok (.iload_n 2, 1) := by decide +kernel
theorem dX6_trial_22 : decode cX6_trial 22 = .ok (.bipush 9, 2) := by decide +kernel
theorem dX6_trial_24 : decode cX6_trial 24 = .ok (.if_icmp .le 8, 3) := by decide +kernel
theorem dX6_trial_27 : decode cX6_trial 27 = .ok (.bipush (-6), 2) := by decide +kernel
theorem dX6_trial_29 : decode cX6_trial 29 = .ok (.goto 16, 3) := by decide +kernel
theorem dX6_trial_32 : decode cX6_trial 32 = .ok (.iload_n 3, 1) := by decide +kernel
theorem dX6_trial_33 : decode cX6_trial 33 = .ok (.invokestatic 155, 3) := by decide +kernel
theorem dX6_trial_36 : decode cX6_trial 36 = .ok (.ifCond .eq 7, 3) := by decide +kernel
theorem dX6_trial_39 : decode cX6_trial 39 = .ok (.iconst 0, 1) := by decide +kernel
theorem dX6_trial_40 : decode cX6_trial 40 = .ok (.goto 5, 3) := by decide +kernel
theorem dX6_trial_43 : decode cX6_trial 43 = .ok (.bipush (-2), 2) := by decide +kernel
theorem dX6_trial_45 : decode cX6_trial 45 = .ok (.istore 4, 2) := by decide +kernel
theorem dX6_trial_47 : decode cX6_trial 47 = .ok (.iload 4, 2) := by decide +kernel
theorem dX6_trial_49 : decode cX6_trial 49 = .ok (.ifCond .eq 10, 3) := by decide +kernel
theorem dX6_trial_52 : decode cX6_trial 52 = .ok (.aload_n 0, 1) := by decide +kernel
theorem dX6_trial_53 : decode cX6_trial 53 = .ok (.iload 4, 2) := by decide +kernel
theorem dX6_trial_55 : decode cX6_trial 55 = .ok (.invokevirtual 158, 3) := by decide +kernel
theorem dX6_trial_58 : decode cX6_trial 58 = .ok (.lreturn, 1) := by decide +kernel
theorem dX6_trial_59 : decode cX6_trial 59 = .ok (.lconst 1, 1) := by decide +kernel
theorem dX6_trial_60 : decode cX6_trial 60 = .ok (.lstore 5, 2) := by decide +kernel
theorem dX6_trial_62 : decode cX6_trial 62 = .ok (.iconst 0, 1) := by decide +kernel
theorem dX6_trial_63 : decode cX6_trial 63 = .ok (.istore 7, 2) := by decide +kernel
theorem dX6_trial_65 : decode cX6_trial 65 = .ok (.iload 7, 2) := by decide +kernel
theorem dX6_trial_67 : decode cX6_trial 67 = .ok (.iload_n 1, 1) := by decide +kernel
theorem dX6_trial_68 : decode cX6_trial 68 = .ok (.if_icmp .ge 17, 3) := by decide +kernel
theorem dX6_trial_71 : decode cX6_trial 71 = .ok (.lload 5, 2) := by decide +kernel
theorem dX6_trial_73 : decode cX6_trial 73 = .ok (.ldc2_w 142, 3) := by decide +kernel
theorem dX6_trial_76 : decode cX6_trial 76 = .ok (.lmul, 1) := by decide +kernel
theorem dX6_trial_77 : decode cX6_trial 77 = .ok (.lstore 5, 2) := by decide +kernel
theorem dX6_trial_79 : decode cX6_trial 79 = .ok (.iinc 7 1, 3) := by decide +kernel
theorem dX6_trial_82 : decode cX6_trial 82 = .ok (.goto (-17), 3) := by decide +kernel
theorem dX6_trial_85 : decode cX6_trial 85 = .ok (.aload_n 0, 1) := by decide +kernel
theorem dX6_trial_86 : decode cX6_trial 86 = .ok (.iload_n 1, 1) := by decide +kernel
theorem dX6_trial_87 : decode cX6_trial 87 = .ok (.iconst 0, 1) := by decide +kernel
theorem dX6_trial_88 : decode cX6_trial 88 = .ok (.iload_n 2, 1) := by decide +kernel
theorem dX6_trial_89 : decode cX6_trial 89 = .ok (.bipush (-9), 2) := by decide +kernel
theorem dX6_trial_91 : decode cX6_trial 91 = .ok (.lload 5, 2) := by decide +kernel
theorem dX6_trial_93 : decode cX6_trial 93 = .ok (.invokevirtual 172, 3) := by decide +kernel
theorem dX6_trial_96 : decode cX6_trial 96 = .ok (.lload 5, 2) := by decide +kernel
theorem dX6_trial_98 : decode cX6_trial 98 = .ok (.iload_n 3, 1) := by decide +kernel
theorem dX6_trial_99 : decode cX6_trial 99 = .ok (.invokestatic 166, 3) := by decide +kernel
theorem dX6_trial_102 : decode cX6_trial 102 = .ok (.lreturn, 1) := by decide +kernel
set_option maxRecDepth 20000 in
theorem ggX6_stopOf_X6_endsBy : GoodIn wsX6_stopOf wsX6_endsBy := goodIn_r _ [8, 9, 10, 11, 7, 12, 13, 14, 15, 16, 17, 18, 19, 20, 21, 22, 23, 24, 25, 26, 27, 28, 29, 30, 31, 32, 33, 34, 35, 36, 37, 38, 39, 40, 41] (by decide +kernel) (by decide +kernel)
set_option maxRecDepth 20000 in
theorem gX6_stopOf_X6_endsBy : GoodIn wsX6_stopOf (wsV RX6 131 RX6 yX6_endsBy wsX6_endsBy) := goodIn_app (goodIn_of _ (by decide +kernel)) ggX6_stopOf_X6_endsBy
theorem dX6_stopOf_0 : decode cX6_stopOf 0 = .ok (.aload_n 0, 1) := by decide +kernel
theorem dX6_stopOf_1 : decode cX6_stopOf 1 = .ok (.iconst 0, 1) := by decide +kernel
theorem dX6_stopOf_2 : decode cX6_stopOf 2 = .ok (.putfield 176, 3) := by decide +kernel
theorem dX6_stopOf_5 : decode cX6_stopOf 5 = .ok (.aload_n 0, 1) := by decide +kernel
theorem dX6_stopOf_6 : decode cX6_stopOf 6 = .ok (.iconst 0, 1) := by decide +kernel
theorem dX6_stopOf_7 : decode cX6_stopOf 7 = .ok (.putfield 179, 3) := by decide +kernel
theorem dX6_stopOf_10 : decode cX6_stopOf 10 = .ok (.aload_n 0, 1) := by decide +kernel
theorem dX6_stopOf_11 : decode cX6_stopOf 11 = .ok (.iconst 0, 1) := by decide +kernel
theorem dX6_stopOf_12 : decode cX6_stopOf 12 = .ok (.putfield 182, 3) := by decide +kernel
theorem dX6_stopOf_15 : decode cX6_stopOf 15 = .ok (.iconst 0, 1) := by decide +kernel
theorem dX6_stopOf_16 : decode cX6_stopOf 16 = .ok (.istore 4, 2) := by decide +kernel
theorem dX6_stopOf_18 : decode cX6_stopOf 18 = .ok (.iload 4, 2) := by decide +kernel
theorem dX6_stopOf_20 : decode cX6_stopOf 20 = .ok (.iload_n 2, 1) := by decide +kernel
theorem dX6_stopOf_21 : decode cX6_stopOf 21 = .ok (.if_icmp .ge 86, 3) := by decide +kernel
theorem dX6_stopOf_24 : decode cX6_stopOf 24 = .ok (.iload_n 3, 1) := by decide +kernel
theorem dX6_stopOf_25 : decode cX6_stopOf 25 = .ok (.iload 4, 2) := by decide +kernel
theorem dX6_stopOf_27 : decode cX6_stopOf 27 = .ok (.ishr, 1) := by decide +kernel
theorem dX6_stopOf_28 : decode cX6_stopOf 28 = .ok (.iconst 1, 1) := by decide +kernel
theorem dX6_stopOf_29 : decode cX6_stopOf 29 = .ok (.iand, 1) := by decide +kernel
theorem dX6_stopOf_30 : decode cX6_stopOf 30 = .ok (.istore 5, 2) := by decide +kernel
theorem dX6_stopOf_32 : decode cX6_stopOf 32 = .ok (.aload_n 0, 1) := by decide +kernel
theorem dX6_stopOf_33 : decode cX6_stopOf 33 = .ok (.dup, 1) := by decide +kernel
theorem dX6_stopOf_34 : decode cX6_stopOf 34 = .ok (.getfield 176, 3) := by decide +kernel
theorem dX6_stopOf_37 : decode cX6_stopOf 37 = .ok (.iload 5, 2) := by decide +kernel
theorem dX6_stopOf_39 : decode cX6_stopOf 39 = .ok (.iadd, 1) := by decide +kernel
theorem dX6_stopOf_40 : decode cX6_stopOf 40 = .ok (.putfield 176, 3) := by decide +kernel
theorem dX6_stopOf_43 : decode cX6_stopOf 43 = .ok (.aload_n 0, 1) := by decide +kernel
theorem dX6_stopOf_44 : decode cX6_stopOf 44 = .ok (.dup, 1) := by decide +kernel
theorem dX6_stopOf_45 : decode cX6_stopOf 45 = .ok (.getfield 179, 3) := by decide +kernel
theorem dX6_stopOf_48 : decode cX6_stopOf 48 = .ok (.iconst 1, 1) := by decide +kernel
theorem dX6_stopOf_49 : decode cX6_stopOf 49 = .ok (.iload 5, 2) := by decide +kernel
theorem dX6_stopOf_51 : decode cX6_stopOf 51 = .ok (.isub, 1) := by decide +kernel
theorem dX6_stopOf_52 : decode cX6_stopOf 52 = .ok (.iadd, 1) := by decide +kernel
theorem dX6_stopOf_53 : decode cX6_stopOf 53 = .ok (.putfield 179, 3) := by decide +kernel
theorem dX6_stopOf_56 : decode cX6_stopOf 56 = .ok (.aload_n 0, 1) := by decide +kernel
theorem dX6_stopOf_57 : decode cX6_stopOf 57 = .ok (.iload 5, 2) := by decide +kernel
theorem dX6_stopOf_59 : decode cX6_stopOf 59 = .ok (.iconst 1, 1) := by decide +kernel
theorem dX6_stopOf_60 : decode cX6_stopOf 60 = .ok (.if_icmp .ne 12, 3) := by decide +kernel
theorem dX6_stopOf_63 : decode cX6_stopOf 63 = .ok (.aload_n 0, 1) := by decide +kernel
theorem dX6_stopOf_64 : decode cX6_stopOf 64 = .ok (.getfield 182, 3) := by decide +kernel
theorem dX6_stopOf_67 : decode cX6_stopOf 67 = .ok (.iconst 1, 1) := by decide +kernel
theorem dX6_stopOf_68 : decode cX6_stopOf 68 = .ok (.iadd, 1) := by decide +kernel
theorem dX6_stopOf_69 : decode cX6_stopOf 69 = .ok (.goto 4, 3) := by decide +kernel
theorem dX6_stopOf_72 : decode cX6_stopOf 72 = .ok (.iconst 0, 1) := by decide +kernel
theorem dX6_stopOf_73 : decode cX6_stopOf 73 = .ok (.putfield 182, 3) := by decide +kernel
theorem dX6_stopOf_76 : decode cX6_stopOf 76 = .ok (.aload_n 0, 1) := by decide +kernel
theorem dX6_stopOf_77 : decode cX6_stopOf 77 = .ok (.iload_n 1, 1) := by decide +kernel
theorem dX6_stopOf_78 : decode cX6_stopOf 78 = .ok (.aload_n 0, 1) := by decide +kernel
theorem dX6_stopOf_79 : decode cX6_stopOf 79 = .ok (.getfield 176, 3) := by decide +kernel
theorem dX6_stopOf_82 : decode cX6_stopOf 82 = .ok (.aload_n 0, 1) := by decide +kernel
theorem dX6_stopOf_83 : decode cX6_stopOf 83 = .ok (.getfield 179, 3) := by decide +kernel
theorem dX6_stopOf_86 : decode cX6_stopOf 86 = .ok (.aload_n 0, 1) := by decide +kernel
theorem dX6_stopOf_87 : decode cX6_stopOf 87 = .ok (.getfield 182, 3) := by decide +kernel
theorem dX6_stopOf_90 : decode cX6_stopOf 90 = .ok (.invokevirtual 131, 3) := by decide +kernel
theorem dX6_stopOf_93 : decode cX6_stopOf 93 = .ok (.ifCond .eq 8, 3) := by decide +kernel
theorem dX6_stopOf_96 : decode cX6_stopOf 96 = .ok (.iload 4, 2) := by decide +kernel
theorem dX6_stopOf_98 : decode cX6_stopOf 98 = .ok (.iconst 1, 1) := by decide +kernel
theorem dX6_stopOf_99 : decode cX6_stopOf 99 = .ok (.iadd, 1) := by decide +kernel
theorem dX6_stopOf_100 : decode cX6_stopOf 100 = .ok (.ireturn, 1) := by decide +kernel
theorem dX6_stopOf_101 : decode cX6_stopOf 101 = .ok (.iinc 4 1, 3) := by decide +kernel
theorem dX6_stopOf_104 : decode cX6_stopOf 104 = .ok (.goto (-86), 3) := by decide +kernel
theorem dX6_stopOf_107 : decode cX6_stopOf 107 = .ok (.iconst 0, 1) := by decide +kernel
theorem dX6_stopOf_108 : decode cX6_stopOf 108 = .ok (.ireturn, 1) := by decide +kernel
set_option maxRecDepth 20000 in
theorem ggX6_row_X6_isIn : GoodIn wsX6_row wsX6_isIn := goodIn_r _ [6] (by decide +kernel) (by decide +kernel)
set_option maxRecDepth 20000 in
theorem gX6_row_X6_isIn : GoodIn wsX6_row (va_wsS RX6 53 yX6_isIn wsX6_isIn) := goodIn_app (goodIn_of _ (by decide +kernel)) ggX6_row_X6_isIn
set_option maxRecDepth 20000 in
theorem ggX6_row_X6_refuse : GoodIn wsX6_row wsX6_refuse := goodIn_r _ [10, 11, 12, 13, 14, 15, 16, 17, 18, 19, 20, 21, 22, 23, 24, 25, 26, 27, 28, 29, 30, 31, 32, 33, 34, 35, 36, 37, 38, 39, 40] (by decide +kernel) (by decide +kernel)
set_option maxRecDepth 20000 in
theorem gX6_row_X6_refuse : GoodIn wsX6_row (wsV RX6 34 RX6 yX6_refuse wsX6_refuse) := goodIn_app (goodIn_of _ (by decide +kernel)) ggX6_row_X6_refuse
theorem dX6_row_0 : decode cX6_row 0 = .ok (.iload_n 1, 1) := by decide +kernel
theorem dX6_row_1 : decode cX6_row 1 = .ok (.iconst 2, 1) := by decide +kernel
theorem dX6_row_2 : decode cX6_row 2 = .ok (.invokestatic 53, 3) := by decide +kernel
theorem dX6_row_5 : decode cX6_row 5 = .ok (.ifCond .ne 8, 3) := by decide +kernel
theorem dX6_row_8 : decode cX6_row 8 = .ok (.bipush (-2), 2) := by decide +kernel
theorem dX6_row_10 : decode cX6_row 10 = .ok (.goto 18, 3) := by decide +kernel
theorem dX6_row_13 : decode cX6_row 13 = .ok (.aload_n 0, 1) := by decide +kernel
theorem dX6_row_14 : decode cX6_row 14 = .ok (.getfield 185, 3) := by decide +kernel
theorem dX6_row_17 : decode cX6_row 17 = .ok (.bipush 10, 2) := by decide +kernel
theorem dX6_row_19 : decode cX6_row 19 = .ok (.if_icmp .ne 8, 3) := by decide +kernel
theorem dX6_row_22 : decode cX6_row 22 = .ok (.bipush (-6), 2) := by decide +kernel
theorem dX6_row_24 : decode cX6_row 24 = .ok (.goto 4, 3) := by decide +kernel
theorem dX6_row_27 : decode cX6_row 27 = .ok (.iconst 0, 1) := by decide +kernel
theorem dX6_row_28 : decode cX6_row 28 = .ok (.istore_n 2, 1) := by decide +kernel
theorem dX6_row_29 : decode cX6_row 29 = .ok (.iload_n 2, 1) := by decide +kernel
theorem dX6_row_30 : decode cX6_row 30 = .ok (.ifCond .eq 9, 3) := by decide +kernel
theorem dX6_row_33 : decode cX6_row 33 = .ok (.aload_n 0, 1) := by decide +kernel
theorem dX6_row_34 : decode cX6_row 34 = .ok (.iload_n 2, 1) := by decide +kernel
theorem dX6_row_35 : decode cX6_row 35 = .ok (.invokevirtual 34, 3) := by decide +kernel
theorem dX6_row_38 : decode cX6_row 38 = .ok (.ireturn, 1) := by decide +kernel
theorem dX6_row_39 : decode cX6_row 39 = .ok (.aload_n 0, 1) := by decide +kernel
theorem dX6_row_40 : decode cX6_row 40 = .ok (.aload_n 0, 1) := by decide +kernel
theorem dX6_row_41 : decode cX6_row 41 = .ok (.getfield 188, 3) := by decide +kernel
theorem dX6_row_44 : decode cX6_row 44 = .ok (.iconst 1, 1) := by decide +kernel
theorem dX6_row_45 : decode cX6_row 45 = .ok (.aload_n 0, 1) := by decide +kernel
theorem dX6_row_46 : decode cX6_row 46 = .ok (.getfield 185, 3) := by decide +kernel
theorem dX6_row_49 : decode cX6_row 49 = .ok (.ishl, 1) := by decide +kernel
theorem dX6_row_50 : decode cX6_row 50 = .ok (.iconst 1, 1) := by decide +kernel
theorem dX6_row_51 : decode cX6_row 51 = .ok (.isub, 1) := by decide +kernel
theorem dX6_row_52 : decode cX6_row 52 = .ok (.iand, 1) := by decide +kernel
theorem dX6_row_53 : decode cX6_row 53 = .ok (.iload_n 1, 1) := by decide +kernel
theorem dX6_row_54 : decode cX6_row 54 = .ok (.aload_n 0, 1) := by decide +kernel
theorem dX6_row_55 : decode cX6_row 55 = .ok (.getfield 185, 3) := by decide +kernel
theorem dX6_row_58 : decode cX6_row 58 = .ok (.ishl, 1) := by decide +kernel
theorem dX6_row_59 : decode cX6_row 59 = .ok (.ior, 1) := by decide +kernel
theorem dX6_row_60 : decode cX6_row 60 = .ok (.putfield 188, 3) := by decide +kernel
theorem dX6_row_63 : decode cX6_row 63 = .ok (.aload_n 0, 1) := by decide +kernel
theorem dX6_row_64 : decode cX6_row 64 = .ok (.dup, 1) := by decide +kernel
theorem dX6_row_65 : decode cX6_row 65 = .ok (.getfield 185, 3) := by decide +kernel
theorem dX6_row_68 : decode cX6_row 68 = .ok (.iconst 1, 1) := by decide +kernel
theorem dX6_row_69 : decode cX6_row 69 = .ok (.iadd, 1) := by decide +kernel
theorem dX6_row_70 : decode cX6_row 70 = .ok (.putfield 185, 3) := by decide +kernel
theorem dX6_row_73 : decode cX6_row 73 = .ok (.aload_n 0, 1) := by decide +kernel
theorem dX6_row_74 : decode cX6_row 74 = .ok (.getfield 185, 3) := by decide +kernel
theorem dX6_row_77 : decode cX6_row 77 = .ok (.ireturn, 1) := by decide +kernel
set_option maxRecDepth 20000 in
theorem ggX6_gone_X6_isPart : GoodIn wsX6_gone wsX6_isPart := goodIn_r _ [11, 12, 13, 10, 14] (by decide +kernel) (by decide +kernel)
set_option maxRecDepth 20000 in
theorem gX6_gone_X6_isPart : GoodIn wsX6_gone (va_wsS RX6 155 yX6_isPart wsX6_isPart) := goodIn_app (goodIn_of _ (by decide +kernel)) ggX6_gone_X6_isPart
set_option maxRecDepth 20000 in
theorem ggX6_gone_X6_refuseWide : GoodIn wsX6_gone wsX6_refuseWide := goodIn_r _ [18, 19, 20, 21, 22, 10, 23, 24, 46, 47, 48, 49, 50, 51, 52, 53, 54, 55, 56, 57, 58, 59, 60, 61, 62, 63, 64, 65, 66, 67, 68, 69, 70, 71, 72, 73, 74] (by decide +kernel) (by decide +kernel)
set_option maxRecDepth 20000 in
theorem gX6_gone_X6_refuseWide : GoodIn wsX6_gone (wsV RX6 158 RX6 yX6_refuseWide wsX6_refuseWide) := goodIn_app (goodIn_of _ (by decide +kernel)) ggX6_gone_X6_refuseWide
set_option maxRecDepth 20000 in
theorem ggX6_gone_X6_stopOf : GoodIn wsX6_gone wsX6_stopOf := goodIn_r _ [28, 4, 5, 6, 29, 30, 31, 10, 32, 1, 33, 34, 35, 46, 47, 48, 49, 50, 51, 52, 53, 54, 55, 56, 57, 58, 59, 60, 61, 62, 63, 64, 65, 66, 67, 68, 69, 70, 71, 72, 73, 74] (by decide +kernel) (by decide +kernel)
set_option maxRecDepth 20000 in
theorem gX6_gone_X6_stopOf : GoodIn wsX6_gone (wsV RX6 191 RX6 yX6_stopOf wsX6_stopOf) := goodIn_app (goodIn_of _ (by decide +kernel)) ggX6_gone_X6_stopOf
set_option maxRecDepth 20000 in
theorem ggX6_gone_X6_part : GoodIn wsX6_gone wsX6_part := goodIn_r _ [38, 39, 40, 10, 41] (by decide +kernel) (by decide +kernel)
set_option maxRecDepth 20000 in
theorem gX6_gone_X6_part : GoodIn wsX6_gone (va_wsS RX6 166 yX6_part wsX6_part) := goodIn_app (goodIn_of _ (by decide +kernel)) ggX6_gone_X6_part
set_option maxRecDepth 20000 in
theorem ggX6_gone_X6_twelfths : GoodIn wsX6_gone wsX6_twelfths := goodIn_r _ [45, 1, 46, 47, 48, 49, 50, 51, 52, 53, 54, 55, 56, 57, 58, 59, 60, 61, 62, 63, 64, 65, 66, 67, 68, 69, 70, 71, 72, 73, 74] (by decide +kernel) (by decide +kernel)
set_option maxRecDepth 20000 in
theorem gX6_gone_X6_twelfths : GoodIn wsX6_gone (wsV RX6 139 RX6 yX6_twelfths wsX6_twelfths) := goodIn_app (goodIn_of _ (by decide +kernel)) ggX6_gone_X6_twelfths
set_option maxRecDepth 20000 in
theorem ggX6_gone_X6_endsBy : GoodIn wsX6_gone wsX6_endsBy := goodIn_r _ [32, 1, 33, 34, 10, 35, 46, 47, 48, 49, 50, 51, 52, 53, 54, 55, 56, 57, 58, 59, 60, 61, 62, 63, 64, 65, 66, 67, 68, 69, 70, 71, 72, 73, 74] (by decide +kernel) (by decide +kernel)
set_option maxRecDepth 20000 in
theorem gX6_gone_X6_endsBy : GoodIn wsX6_gone (wsV RX6 131 RX6 yX6_endsBy wsX6_endsBy) := goodIn_app (goodIn_of _ (by decide +kernel)) ggX6_gone_X6_endsBy
theorem dX6_gone_0 : decode cX6_gone 0 = .ok (.iload_n 1, 1) := by decide +kernel
theorem dX6_gone_1 : decode cX6_gone 1 = .ok (.invokestatic 155, 3) := by decide +kernel
theorem dX6_gone_4 : decode cX6_gone 4 = .ok (.ifCond .ne 10, 3) := by decide +kernel
theorem dX6_gone_7 : decode cX6_gone 7 = .ok (.aload_n 0, 1) := by decide +kernel
theorem dX6_gone_8 : decode cX6_gone 8 = .ok (.bipush (-2), 2) := by decide +kernel
theorem dX6_gone_10 : decode cX6_gone 10 = .ok (.invokevirtual 158, 3) := by decide +kernel
theorem dX6_gone_13 : decode cX6_gone 13 = .ok (.lreturn, 1) := by decide +kernel
theorem dX6_gone_14 : decode cX6_gone 14 = .ok (.aload_n 0, 1) := by decide +kernel
theorem dX6_gone_15 : decode cX6_gone 15 = .ok (.aload_n 0, 1) := by decide +kernel
theorem dX6_gone_16 : decode cX6_gone 16 = .ok (.getfield 13, 3) := by decide +kernel
