theorem dX3_init_0 : decode cX3_init 0 = .ok (.aload_n 0, 1) := by decide +kernel
theorem dX3_init_1 : decode cX3_init 1 = .ok (.invokespecial 3, 3) := by decide +kernel
theorem dX3_init_4 : decode cX3_init 4 = .ok (.aload_n 0, 1) := by decide +kernel
theorem dX3_init_5 : decode cX3_init 5 = .ok (.iconst 0, 1) := by decide +kernel
theorem dX3_init_6 : decode cX3_init 6 = .ok (.putfield 9, 3) := by decide +kernel
theorem dX3_init_9 : decode cX3_init 9 = .ok (.aload_n 0, 1) := by decide +kernel
theorem dX3_init_10 : decode cX3_init 10 = .ok (.iconst 1, 1) := by decide +kernel
theorem dX3_init_11 : decode cX3_init 11 = .ok (.putfield 15, 3) := by decide +kernel
theorem dX3_init_14 : decode cX3_init 14 = .ok (.aload_n 0, 1) := by decide +kernel
theorem dX3_init_15 : decode cX3_init 15 = .ok (.iconst 5, 1) := by decide +kernel
theorem dX3_init_16 : decode cX3_init 16 = .ok (.putfield 18, 3) := by decide +kernel
theorem dX3_init_19 : decode cX3_init 19 = .ok (.aload_n 0, 1) := by decide +kernel
theorem dX3_init_20 : decode cX3_init 20 = .ok (.bipush 6, 2) := by decide +kernel
theorem dX3_init_22 : decode cX3_init 22 = .ok (.putfield 21, 3) := by decide +kernel
theorem dX3_init_25 : decode cX3_init 25 = .ok (.aload_n 0, 1) := by decide +kernel
theorem dX3_init_26 : decode cX3_init 26 = .ok (.bipush 8, 2) := by decide +kernel
theorem dX3_init_28 : decode cX3_init 28 = .ok (.newarray .int, 2) := by decide +kernel
theorem dX3_init_30 : decode cX3_init 30 = .ok (.putfield 24, 3) := by decide +kernel
theorem dX3_init_33 : decode cX3_init 33 = .ok (.aload_n 0, 1) := by decide +kernel
theorem dX3_init_34 : decode cX3_init 34 = .ok (.bipush 8, 2) := by decide +kernel
theorem dX3_init_36 : decode cX3_init 36 = .ok (.newarray .int, 2) := by decide +kernel
theorem dX3_init_38 : decode cX3_init 38 = .ok (.putfield 28, 3) := by decide +kernel
theorem dX3_init_41 : decode cX3_init 41 = .ok (.return_, 1) := by decide +kernel
set_option maxRecDepth 20000 in
theorem ggX3_copy_X3_lengthOf : GoodIn wsX3_copy wsX3_lengthOf := goodIn_r _ [13, 7, 18, 19, 20, 21, 22, 23, 24, 25] (by decide +kernel) (by decide +kernel)
set_option maxRecDepth 20000 in
theorem gX3_copy_X3_lengthOf : GoodIn wsX3_copy (wsV RX3 37 RX3 yX3_lengthOf wsX3_lengthOf) := goodIn_app (goodIn_of _ (by decide +kernel)) ggX3_copy_X3_lengthOf
set_option maxRecDepth 20000 in
theorem ggX3_copy_X3_sortsOf : GoodIn wsX3_copy wsX3_sortsOf := goodIn_r _ [17, 8, 18, 19, 20, 21, 22, 23, 24, 25] (by decide +kernel) (by decide +kernel)
set_option maxRecDepth 20000 in
theorem gX3_copy_X3_sortsOf : GoodIn wsX3_copy (wsV RX3 41 RX3 yX3_sortsOf wsX3_sortsOf) := goodIn_app (goodIn_of _ (by decide +kernel)) ggX3_copy_X3_sortsOf
theorem dX3_copy_0 : decode cX3_copy 0 = .ok (.aload_n 0, 1) := by decide +kernel
theorem dX3_copy_1 : decode cX3_copy 1 = .ok (.aload_n 1, 1) := by decide +kernel
theorem dX3_copy_2 : decode cX3_copy 2 = .ok (.getfield 9, 3) := by decide +kernel
theorem dX3_copy_5 : decode cX3_copy 5 = .ok (.putfield 9, 3) := by decide +kernel
theorem dX3_copy_8 : decode cX3_copy 8 = .ok (.aload_n 0, 1) := by decide +kernel
theorem dX3_copy_9 : decode cX3_copy 9 = .ok (.aload_n 1, 1) := by decide +kernel
theorem dX3_copy_10 : decode cX3_copy 10 = .ok (.getfield 15, 3) := by decide +kernel
theorem dX3_copy_13 : decode cX3_copy 13 = .ok (.putfield 15, 3) := by decide +kernel
theorem dX3_copy_16 : decode cX3_copy 16 = .ok (.aload_n 0, 1) := by decide +kernel
theorem dX3_copy_17 : decode cX3_copy 17 = .ok (.aload_n 1, 1) := by decide +kernel
theorem dX3_copy_18 : decode cX3_copy 18 = .ok (.getfield 18, 3) := by decide +kernel
theorem dX3_copy_21 : decode cX3_copy 21 = .ok (.putfield 18, 3) := by decide +kernel
theorem dX3_copy_24 : decode cX3_copy 24 = .ok (.aload_n 0, 1) := by decide +kernel
theorem dX3_copy_25 : decode cX3_copy 25 = .ok (.aload_n 1, 1) := by decide +kernel
theorem dX3_copy_26 : decode cX3_copy 26 = .ok (.getfield 21, 3) := by decide +kernel
theorem dX3_copy_29 : decode cX3_copy 29 = .ok (.putfield 21, 3) := by decide +kernel
theorem dX3_copy_32 : decode cX3_copy 32 = .ok (.aload_n 0, 1) := by decide +kernel
theorem dX3_copy_33 : decode cX3_copy 33 = .ok (.aload_n 1, 1) := by decide +kernel
theorem dX3_copy_34 : decode cX3_copy 34 = .ok (.getfield 31, 3) := by decide +kernel
theorem dX3_copy_37 : decode cX3_copy 37 = .ok (.putfield 31, 3) := by decide +kernel
theorem dX3_copy_40 : decode cX3_copy 40 = .ok (.aload_n 0, 1) := by decide +kernel
theorem dX3_copy_41 : decode cX3_copy 41 = .ok (.aload_n 1, 1) := by decide +kernel
theorem dX3_copy_42 : decode cX3_copy 42 = .ok (.getfield 34, 3) := by decide +kernel
theorem dX3_copy_45 : decode cX3_copy 45 = .ok (.putfield 34, 3) := by decide +kernel
theorem dX3_copy_48 : decode cX3_copy 48 = .ok (.iconst 0, 1) := by decide +kernel
theorem dX3_copy_49 : decode cX3_copy 49 = .ok (.istore_n 2, 1) := by decide +kernel
theorem dX3_copy_50 : decode cX3_copy 50 = .ok (.iload_n 2, 1) := by decide +kernel
theorem dX3_copy_51 : decode cX3_copy 51 = .ok (.aload_n 0, 1) := by decide +kernel
theorem dX3_copy_52 : decode cX3_copy 52 = .ok (.getfield 24, 3) := by decide +kernel
theorem dX3_copy_55 : decode cX3_copy 55 = .ok (.arraylength, 1) := by decide +kernel
theorem dX3_copy_56 : decode cX3_copy 56 = .ok (.if_icmp .ge 40, 3) := by decide +kernel
theorem dX3_copy_59 : decode cX3_copy 59 = .ok (.iload_n 2, 1) := by decide +kernel
theorem dX3_copy_60 : decode cX3_copy 60 = .ok (.aload_n 0, 1) := by decide +kernel
theorem dX3_copy_61 : decode cX3_copy 61 = .ok (.getfield 28, 3) := by decide +kernel
theorem dX3_copy_64 : decode cX3_copy 64 = .ok (.arraylength, 1) := by decide +kernel
theorem dX3_copy_65 : decode cX3_copy 65 = .ok (.if_icmp .ge 31, 3) := by decide +kernel
theorem dX3_copy_68 : decode cX3_copy 68 = .ok (.aload_n 0, 1) := by decide +kernel
theorem dX3_copy_69 : decode cX3_copy 69 = .ok (.getfield 24, 3) := by decide +kernel
theorem dX3_copy_72 : decode cX3_copy 72 = .ok (.iload_n 2, 1) := by decide +kernel
theorem dX3_copy_73 : decode cX3_copy 73 = .ok (.aload_n 1, 1) := by decide +kernel
theorem dX3_copy_74 : decode cX3_copy 74 = .ok (.iload_n 2, 1) := by decide +kernel
theorem dX3_copy_75 : decode cX3_copy 75 = .ok (.invokevirtual 37, 3) := by decide +kernel
theorem dX3_copy_78 : decode cX3_copy 78 = .ok (.iastore, 1) := by decide +kernel
theorem dX3_copy_79 : decode cX3_copy 79 = .ok (.aload_n 0, 1) := by decide +kernel
theorem dX3_copy_80 : decode cX3_copy 80 = .ok (.getfield 28, 3) := by decide +kernel
theorem dX3_copy_83 : decode cX3_copy 83 = .ok (.iload_n 2, 1) := by decide +kernel
theorem dX3_copy_84 : decode cX3_copy 84 = .ok (.aload_n 1, 1) := by decide +kernel
theorem dX3_copy_85 : decode cX3_copy 85 = .ok (.iload_n 2, 1) := by decide +kernel
theorem dX3_copy_86 : decode cX3_copy 86 = .ok (.invokevirtual 41, 3) := by decide +kernel
theorem dX3_copy_89 : decode cX3_copy 89 = .ok (.iastore, 1) := by decide +kernel
theorem dX3_copy_90 : decode cX3_copy 90 = .ok (.iinc 2 1, 3) := by decide +kernel
theorem dX3_copy_93 : decode cX3_copy 93 = .ok (.goto (-43), 3) := by decide +kernel
theorem dX3_copy_96 : decode cX3_copy 96 = .ok (.return_, 1) := by decide +kernel
theorem dX3_least_0 : decode cX3_least 0 = .ok (.iload_n 0, 1) := by decide +kernel
theorem dX3_least_1 : decode cX3_least 1 = .ok (.iconst 2, 1) := by decide +kernel
theorem dX3_least_2 : decode cX3_least 2 = .ok (.if_icmp .ne 7, 3) := by decide +kernel
theorem dX3_least_5 : decode cX3_least 5 = .ok (.iconst 0, 1) := by decide +kernel
theorem dX3_least_6 : decode cX3_least 6 = .ok (.goto 4, 3) := by decide +kernel
theorem dX3_least_9 : decode cX3_least 9 = .ok (.iconst 1, 1) := by decide +kernel
theorem dX3_least_10 : decode cX3_least 10 = .ok (.ireturn, 1) := by decide +kernel
theorem dX3_greatest_0 : decode cX3_greatest 0 = .ok (.iload_n 0, 1) := by decide +kernel
theorem dX3_greatest_1 : decode cX3_greatest 1 = .ok (.iconst 1, 1) := by decide +kernel
theorem dX3_greatest_2 : decode cX3_greatest 2 = .ok (.if_icmp .ne 8, 3) := by decide +kernel
theorem dX3_greatest_5 : decode cX3_greatest 5 = .ok (.bipush 11, 2) := by decide +kernel
theorem dX3_greatest_7 : decode cX3_greatest 7 = .ok (.goto 5, 3) := by decide +kernel
theorem dX3_greatest_10 : decode cX3_greatest 10 = .ok (.bipush 10, 2) := by decide +kernel
theorem dX3_greatest_12 : decode cX3_greatest 12 = .ok (.ireturn, 1) := by decide +kernel
theorem dX3_number_0 : decode cX3_number 0 = .ok (.iload_n 1, 1) := by decide +kernel
theorem dX3_number_1 : decode cX3_number 1 = .ok (.iconst 2, 1) := by decide +kernel
theorem dX3_number_2 : decode cX3_number 2 = .ok (.if_icmp .ne 10, 3) := by decide +kernel
theorem dX3_number_5 : decode cX3_number 5 = .ok (.iconst 5, 1) := by decide +kernel
theorem dX3_number_6 : decode cX3_number 6 = .ok (.aload_n 0, 1) := by decide +kernel
theorem dX3_number_7 : decode cX3_number 7 = .ok (.getfield 31, 3) := by decide +kernel
theorem dX3_number_10 : decode cX3_number 10 = .ok (.iadd, 1) := by decide +kernel
theorem dX3_number_11 : decode cX3_number 11 = .ok (.ireturn, 1) := by decide +kernel
theorem dX3_number_12 : decode cX3_number 12 = .ok (.iload_n 1, 1) := by decide +kernel
theorem dX3_number_13 : decode cX3_number 13 = .ok (.iconst 1, 1) := by decide +kernel
theorem dX3_number_14 : decode cX3_number 14 = .ok (.if_icmp .ne 10, 3) := by decide +kernel
theorem dX3_number_17 : decode cX3_number 17 = .ok (.aload_n 0, 1) := by decide +kernel
theorem dX3_number_18 : decode cX3_number 18 = .ok (.getfield 21, 3) := by decide +kernel
theorem dX3_number_21 : decode cX3_number 21 = .ok (.goto 7, 3) := by decide +kernel
theorem dX3_number_24 : decode cX3_number 24 = .ok (.aload_n 0, 1) := by decide +kernel
theorem dX3_number_25 : decode cX3_number 25 = .ok (.getfield 18, 3) := by decide +kernel
theorem dX3_number_28 : decode cX3_number 28 = .ok (.ireturn, 1) := by decide +kernel
set_option maxRecDepth 20000 in
theorem ggX3_tellNumber_X3_least : GoodIn wsX3_tellNumber wsX3_least := goodIn_r _ [7] (by decide +kernel) (by decide +kernel)
set_option maxRecDepth 20000 in
theorem gX3_tellNumber_X3_least : GoodIn wsX3_tellNumber (va_wsS RX3 44 yX3_least wsX3_least) := goodIn_app (goodIn_of _ (by decide +kernel)) ggX3_tellNumber_X3_least
set_option maxRecDepth 20000 in
theorem ggX3_tellNumber_X3_greatest : GoodIn wsX3_tellNumber wsX3_greatest := goodIn_r _ [10] (by decide +kernel) (by decide +kernel)
set_option maxRecDepth 20000 in
theorem gX3_tellNumber_X3_greatest : GoodIn wsX3_tellNumber (va_wsS RX3 47 yX3_greatest wsX3_greatest) := goodIn_app (goodIn_of _ (by decide +kernel)) ggX3_tellNumber_X3_greatest
theorem dX3_tellNumber_0 : decode cX3_tellNumber 0 = .ok (.iload_n 2, 1) := by decide +kernel
theorem dX3_tellNumber_1 : decode cX3_tellNumber 1 = .ok (.iload_n 1, 1) := by decide +kernel
theorem dX3_tellNumber_2 : decode cX3_tellNumber 2 = .ok (.invokestatic 44, 3) := by decide +kernel
theorem dX3_tellNumber_5 : decode cX3_tellNumber 5 = .ok (.if_icmp .lt 11, 3) := by decide +kernel
theorem dX3_tellNumber_8 : decode cX3_tellNumber 8 = .ok (.iload_n 2, 1) := by decide +kernel
theorem dX3_tellNumber_9 : decode cX3_tellNumber 9 = .ok (.iload_n 1, 1) := by decide +kernel
theorem dX3_tellNumber_10 : decode cX3_tellNumber 10 = .ok (.invokestatic 47, 3) := by decide +kernel
theorem dX3_tellNumber_13 : decode cX3_tellNumber 13 = .ok (.if_icmp .le 5, 3) := by decide +kernel
theorem dX3_tellNumber_16 : decode cX3_tellNumber 16 = .ok (.iconst 0, 1) := by decide +kernel
theorem dX3_tellNumber_17 : decode cX3_tellNumber 17 = .ok (.ireturn, 1) := by decide +kernel
theorem dX3_tellNumber_18 : decode cX3_tellNumber 18 = .ok (.iload_n 1, 1) := by decide +kernel
theorem dX3_tellNumber_19 : decode cX3_tellNumber 19 = .ok (.iconst 2, 1) := by decide +kernel
theorem dX3_tellNumber_20 : decode cX3_tellNumber 20 = .ok (.if_icmp .ne 13, 3) := by decide +kernel
theorem dX3_tellNumber_23 : decode cX3_tellNumber 23 = .ok (.aload_n 0, 1) := by decide +kernel
theorem dX3_tellNumber_24 : decode cX3_tellNumber 24 = .ok (.iload_n 2, 1) := by decide +kernel
theorem dX3_tellNumber_25 : decode cX3_tellNumber 25 = .ok (.iconst 5, 1) := by decide +kernel
theorem dX3_tellNumber_26 : decode cX3_tellNumber 26 = .ok (.isub, 1) := by decide +kernel
theorem dX3_tellNumber_27 : decode cX3_tellNumber 27 = .ok (.putfield 31, 3) := by decide +kernel
theorem dX3_tellNumber_30 : decode cX3_tellNumber 30 = .ok (.goto 21, 3) := by decide +kernel
theorem dX3_tellNumber_33 : decode cX3_tellNumber 33 = .ok (.iload_n 1, 1) := by decide +kernel
theorem dX3_tellNumber_34 : decode cX3_tellNumber 34 = .ok (.iconst 1, 1) := by decide +kernel
theorem dX3_tellNumber_35 : decode cX3_tellNumber 35 = .ok (.if_icmp .ne 11, 3) := by decide +kernel
theorem dX3_tellNumber_38 : decode cX3_tellNumber 38 = .ok (.aload_n 0, 1) := by decide +kernel
theorem dX3_tellNumber_39 : decode cX3_tellNumber 39 = .ok (.iload_n 2, 1) := by decide +kernel
theorem dX3_tellNumber_40 : decode cX3_tellNumber 40 = .ok (.putfield 21, 3) := by decide +kernel
theorem dX3_tellNumber_43 : decode cX3_tellNumber 43 = .ok (.goto 8, 3) := by decide +kernel
theorem dX3_tellNumber_46 : decode cX3_tellNumber 46 = .ok (.aload_n 0, 1) := by decide +kernel
theorem dX3_tellNumber_47 : decode cX3_tellNumber 47 = .ok (.iload_n 2, 1) := by decide +kernel
theorem dX3_tellNumber_48 : decode cX3_tellNumber 48 = .ok (.putfield 18, 3) := by decide +kernel
theorem dX3_tellNumber_51 : decode cX3_tellNumber 51 = .ok (.iconst 1, 1) := by decide +kernel
theorem dX3_tellNumber_52 : decode cX3_tellNumber 52 = .ok (.ireturn, 1) := by decide +kernel
set_option maxRecDepth 20000 in
theorem ggX3_take_X2_at : GoodIn wsX3_take wsX2_at := goodIn_r _ [5, 6, 7, 44, 45] (by decide +kernel) (by decide +kernel)
set_option maxRecDepth 20000 in
theorem gX3_take_X2_at : GoodIn wsX3_take (wsV RX3 50 RX2 yX2_at wsX2_at) := goodIn_app (goodIn_of _ (by decide +kernel)) ggX3_take_X2_at
set_option maxRecDepth 20000 in
theorem ggX3_take_X2_kindAt : GoodIn wsX3_take wsX2_kindAt := goodIn_r _ [11, 12, 2, 3, 4, 5, 6, 7, 44, 45] (by decide +kernel) (by decide +kernel)
set_option maxRecDepth 20000 in
theorem gX3_take_X2_kindAt : GoodIn wsX3_take (wsV RX3 55 RX2 yX2_kindAt wsX2_kindAt) := goodIn_app (goodIn_of _ (by decide +kernel)) ggX3_take_X2_kindAt
set_option maxRecDepth 20000 in
theorem ggX3_take_X2_numberAt : GoodIn wsX3_take wsX2_numberAt := goodIn_r _ [16, 12, 2, 3, 4, 5, 6, 7, 44, 45] (by decide +kernel) (by decide +kernel)
set_option maxRecDepth 20000 in
theorem gX3_take_X2_numberAt : GoodIn wsX3_take (wsV RX3 58 RX2 yX2_numberAt wsX2_numberAt) := goodIn_app (goodIn_of _ (by decide +kernel)) ggX3_take_X2_numberAt
set_option maxRecDepth 20000 in
theorem ggX3_take_X3_takeLaw : GoodIn wsX3_take wsX3_takeLaw := goodIn_r _ [21, 22, 23, 46, 47, 48, 49, 50, 51, 52, 53] (by decide +kernel) (by decide +kernel)
set_option maxRecDepth 20000 in
theorem gX3_take_X3_takeLaw : GoodIn wsX3_take (wsV RX3 62 RX3 yX3_takeLaw wsX3_takeLaw) := goodIn_app (goodIn_of _ (by decide +kernel)) ggX3_take_X3_takeLaw
set_option maxRecDepth 20000 in
theorem ggX3_take_X3_tellNumber : GoodIn wsX3_take wsX3_tellNumber := goodIn_r _ [27, 28, 29, 30, 31, 32, 20, 33, 34, 35, 36, 46, 47, 48, 49, 50, 51, 52, 53] (by decide +kernel) (by decide +kernel)
set_option maxRecDepth 20000 in
theorem gX3_take_X3_tellNumber : GoodIn wsX3_take (wsV RX3 66 RX3 yX3_tellNumber wsX3_tellNumber) := goodIn_app (goodIn_of _ (by decide +kernel)) ggX3_take_X3_tellNumber
set_option maxRecDepth 20000 in
theorem ggX3_take_X3_takeFamily : GoodIn wsX3_take wsX3_takeFamily := goodIn_r _ [40, 41, 42, 43, 1, 2, 3, 4, 5, 6, 7, 46, 47, 48, 49, 50, 51, 52, 53, 44, 45] (by decide +kernel) (by decide +kernel)
set_option maxRecDepth 20000 in
theorem gX3_take_X3_takeFamily : GoodIn wsX3_take (wsV RX3 69 RX3 yX3_takeFamily wsX3_takeFamily) := goodIn_app (goodIn_of _ (by decide +kernel)) ggX3_take_X3_takeFamily
theorem dX3_take_0 : decode cX3_take 0 = .ok (.iload_n 3, 1) := by decide +kernel
theorem dX3_take_1 : decode cX3_take 1 = .ok (.iconst 1, 1) := by decide +kernel
theorem dX3_take_2 : decode cX3_take 2 = .ok (.isub, 1) := by decide +kernel
theorem dX3_take_3 : decode cX3_take 3 = .ok (.istore 4, 2) := by decide +kernel
theorem dX3_take_5 : decode cX3_take 5 = .ok (.aload_n 1, 1) := by decide +kernel
theorem dX3_take_6 : decode cX3_take 6 = .ok (.iload_n 2, 1) := by decide +kernel
theorem dX3_take_7 : decode cX3_take 7 = .ok (.invokevirtual 50, 3) := by decide +kernel
theorem dX3_take_10 : decode cX3_take 10 = .ok (.tableswitch 167 99 110 #[98, 167, 167, 156, 167, 167, 167, 167, 167, 62, 83, 113], 62) := by decide +kernel
theorem dX3_take_72 : decode cX3_take 72 = .ok (.aload_n 0, 1) := by decide +kernel
theorem dX3_take_73 : decode cX3_take 73 = .ok (.aload_n 1, 1) := by decide +kernel
theorem dX3_take_74 : decode cX3_take 74 = .ok (.iload_n 2, 1) := by decide +kernel
theorem dX3_take_75 : decode cX3_take 75 = .ok (.iconst 1, 1) := by decide +kernel
theorem dX3_take_76 : decode cX3_take 76 = .ok (.iadd, 1) := by decide +kernel
theorem dX3_take_77 : decode cX3_take 77 = .ok (.invokevirtual 55, 3) := by decide +kernel
theorem dX3_take_80 : decode cX3_take 80 = .ok (.aload_n 1, 1) := by decide +kernel
theorem dX3_take_81 : decode cX3_take 81 = .ok (.iload_n 2, 1) := by decide +kernel
theorem dX3_take_82 : decode cX3_take 82 = .ok (.iconst 2, 1) := by decide +kernel
theorem dX3_take_83 : decode cX3_take 83 = .ok (.iadd, 1) := by decide +kernel
theorem dX3_take_84 : decode cX3_take 84 = .ok (.iload 4, 2) := by decide +kernel
theorem dX3_take_86 : decode cX3_take 86 = .ok (.invokevirtual 58, 3) := by decide +kernel
theorem dX3_take_89 : decode cX3_take 89 = .ok (.invokevirtual 62, 3) := by decide +kernel
theorem dX3_take_92 : decode cX3_take 92 = .ok (.ireturn, 1) := by decide +kernel
theorem dX3_take_93 : decode cX3_take 93 = .ok (.aload_n 0, 1) := by decide +kernel
theorem dX3_take_94 : decode cX3_take 94 = .ok (.iconst 0, 1) := by decide +kernel
theorem dX3_take_95 : decode cX3_take 95 = .ok (.aload_n 1, 1) := by decide +kernel
theorem dX3_take_96 : decode cX3_take 96 = .ok (.iload_n 2, 1) := by decide +kernel
theorem dX3_take_97 : decode cX3_take 97 = .ok (.iconst 1, 1) := by decide +kernel
theorem dX3_take_98 : decode cX3_take 98 = .ok (.iadd, 1) := by decide +kernel
theorem dX3_take_99 : decode cX3_take 99 = .ok (.iload 4, 2) := by decide +kernel
theorem dX3_take_101 : decode cX3_take 101 = .ok (.invokevirtual 58, 3) := by decide +kernel
theorem dX3_take_104 : decode cX3_take 104 = .ok (.invokevirtual 66, 3) := by decide +kernel
theorem dX3_take_107 : decode cX3_take 107 = .ok (.ireturn, 1) := by decide +kernel
theorem dX3_take_108 : decode cX3_take 108 = .ok (.aload_n 0, 1) := by decide +kernel
theorem dX3_take_109 : decode cX3_take 109 = .ok (.iconst 1, 1) := by decide +kernel
theorem dX3_take_110 : decode cX3_take 110 = .ok (.aload_n 1, 1) := by decide +kernel
theorem dX3_take_111 : decode cX3_take 111 = .ok (.iload_n 2, 1) := by decide +kernel
theorem dX3_take_112 : decode cX3_take 112 = .ok (.iconst 1, 1) := by decide +kernel
theorem dX3_take_113 : decode cX3_take 113 = .ok (.iadd, 1) := by decide +kernel
theorem dX3_take_114 : decode cX3_take 114 = .ok (.iload 4, 2) := by decide +kernel
theorem dX3_take_116 : decode cX3_take 116 = .ok (.invokevirtual 58, 3) := by decide +kernel
theorem dX3_take_119 : decode cX3_take 119 = .ok (.invokevirtual 66, 3) := by decide +kernel
theorem dX3_take_122 : decode cX3_take 122 = .ok (.ireturn, 1) := by decide +kernel
theorem dX3_take_123 : decode cX3_take 123 = .ok (.aload_n 1, 1) := by decide +kernel
theorem dX3_take_124 : decode cX3_take 124 = .ok (.iload_n 2, 1) := by decide +kernel
theorem dX3_take_125 : decode cX3_take 125 = .ok (.iconst 2, 1) := by decide +kernel
theorem dX3_take_126 : decode cX3_take 126 = .ok (.iadd, 1) := by decide +kernel
theorem dX3_take_127 : decode cX3_take 127 = .ok (.iload 4, 2) := by decide +kernel
theorem dX3_take_129 : decode cX3_take 129 = .ok (.invokevirtual 58, 3) := by decide +kernel
theorem dX3_take_132 : decode cX3_take 132 = .ok (.istore 5, 2) := by decide +kernel
theorem dX3_take_134 : decode cX3_take 134 = .ok (.aload_n 1, 1) := by decide +kernel
theorem dX3_take_135 : decode cX3_take 135 = .ok (.iload_n 2, 1) := by decide +kernel
theorem dX3_take_136 : decode cX3_take 136 = .ok (.iconst 1, 1) := by decide +kernel
theorem dX3_take_137 : decode cX3_take 137 = .ok (.iadd, 1) := by decide +kernel
theorem dX3_take_138 : decode cX3_take 138 = .ok (.invokevirtual 50, 3) := by decide +kernel
theorem dX3_take_141 : decode cX3_take 141 = .ok (.bipush 45, 2) := by decide +kernel
theorem dX3_take_143 : decode cX3_take 143 = .ok (.if_icmp .ne 9, 3) := by decide +kernel
theorem dX3_take_146 : decode cX3_take 146 = .ok (.iload 5, 2) := by decide +kernel
theorem dX3_take_148 : decode cX3_take 148 = .ok (.ineg, 1) := by decide +kernel
theorem dX3_take_149 : decode cX3_take 149 = .ok (.goto 5, 3) := by decide +kernel
theorem dX3_take_152 : decode cX3_take 152 = .ok (.iload 5, 2) := by decide +kernel
theorem dX3_take_154 : decode cX3_take 154 = .ok (.istore 6, 2) := by decide +kernel
theorem dX3_take_156 : decode cX3_take 156 = .ok (.aload_n 0, 1) := by decide +kernel
theorem dX3_take_157 : decode cX3_take 157 = .ok (.iconst 2, 1) := by decide +kernel
theorem dX3_take_158 : decode cX3_take 158 = .ok (.iconst 5, 1) := by decide +kernel
theorem dX3_take_159 : decode cX3_take 159 = .ok (.iload 6, 2) := by decide +kernel
theorem dX3_take_161 : decode cX3_take 161 = .ok (.iadd, 1) := by decide +kernel
theorem dX3_take_162 : decode cX3_take 162 = .ok (.invokevirtual 66, 3) := by decide +kernel
theorem dX3_take_165 : decode cX3_take 165 = .ok (.ireturn, 1) := by decide +kernel
theorem dX3_take_166 : decode cX3_take 166 = .ok (.aload_n 0, 1) := by decide +kernel
theorem dX3_take_167 : decode cX3_take 167 = .ok (.aload_n 1, 1) := by decide +kernel
theorem dX3_take_168 : decode cX3_take 168 = .ok (.iload_n 2, 1) := by decide +kernel
theorem dX3_take_169 : decode cX3_take 169 = .ok (.iconst 1, 1) := by decide +kernel
theorem dX3_take_170 : decode cX3_take 170 = .ok (.iadd, 1) := by decide +kernel
theorem dX3_take_171 : decode cX3_take 171 = .ok (.iload 4, 2) := by decide +kernel
theorem dX3_take_173 : decode cX3_take 173 = .ok (.invokevirtual 69, 3) := by decide +kernel
theorem dX3_take_176 : decode cX3_take 176 = .ok (.ireturn, 1) := by decide +kernel
theorem dX3_take_177 : decode cX3_take 177 = .ok (.iconst 0, 1) := by decide +kernel
theorem dX3_take_178 : decode cX3_take 178 = .ok (.ireturn, 1) := by decide +kernel
theorem dX3_takeLaw_0 : decode cX3_takeLaw 0 = .ok (.iload_n 1, 1) := by decide +kernel
theorem dX3_takeLaw_1 : decode cX3_takeLaw 1 = .ok (.ifCond .lt 14, 3) := by decide +kernel
theorem dX3_takeLaw_4 : decode cX3_takeLaw 4 = .ok (.iload_n 2, 1) := by decide +kernel
theorem dX3_takeLaw_5 : decode cX3_takeLaw 5 = .ok (.iconst 1, 1) := by decide +kernel
theorem dX3_takeLaw_6 : decode cX3_takeLaw 6 = .ok (.if_icmp .lt 9, 3) := by decide +kernel
theorem dX3_takeLaw_9 : decode cX3_takeLaw 9 = .ok (.iload_n 2, 1) := by decide +kernel
theorem dX3_takeLaw_10 : decode cX3_takeLaw 10 = .ok (.bipush 9, 2) := by decide +kernel
theorem dX3_takeLaw_12 : decode cX3_takeLaw 12 = .ok (.if_icmp .le 5, 3) := by decide +kernel
theorem dX3_takeLaw_15 : decode cX3_takeLaw 15 = .ok (.iconst 0, 1) := by decide +kernel
theorem dX3_takeLaw_16 : decode cX3_takeLaw 16 = .ok (.ireturn, 1) := by decide +kernel
theorem dX3_takeLaw_17 : decode cX3_takeLaw 17 = .ok (.aload_n 0, 1) := by decide +kernel
theorem dX3_takeLaw_18 : decode cX3_takeLaw 18 = .ok (.iload_n 1, 1) := by decide +kernel
theorem dX3_takeLaw_19 : decode cX3_takeLaw 19 = .ok (.putfield 9, 3) := by decide +kernel
theorem dX3_takeLaw_22 : decode cX3_takeLaw 22 = .ok (.aload_n 0, 1) := by decide +kernel
theorem dX3_takeLaw_23 : decode cX3_takeLaw 23 = .ok (.iload_n 2, 1) := by decide +kernel
theorem dX3_takeLaw_24 : decode cX3_takeLaw 24 = .ok (.putfield 15, 3) := by decide +kernel
theorem dX3_takeLaw_27 : decode cX3_takeLaw 27 = .ok (.iconst 1, 1) := by decide +kernel
theorem dX3_takeLaw_28 : decode cX3_takeLaw 28 = .ok (.ireturn, 1) := by decide +kernel
set_option maxRecDepth 20000 in
theorem ggX3_takeFamily_X2_at : GoodIn wsX3_takeFamily wsX2_at := goodIn_r _ [8, 9, 10, 19, 20] (by decide +kernel) (by decide +kernel)
set_option maxRecDepth 20000 in
theorem gX3_takeFamily_X2_at : GoodIn wsX3_takeFamily (wsV RX3 50 RX2 yX2_at wsX2_at) := goodIn_app (goodIn_of _ (by decide +kernel)) ggX3_takeFamily_X2_at
theorem dX3_takeFamily_0 : decode cX3_takeFamily 0 = .ok (.aload_n 0, 1) := by decide +kernel
theorem dX3_takeFamily_1 : decode cX3_takeFamily 1 = .ok (.getfield 34, 3) := by decide +kernel
theorem dX3_takeFamily_4 : decode cX3_takeFamily 4 = .ok (.ifCond .lt 27, 3) := by decide +kernel
theorem dX3_takeFamily_7 : decode cX3_takeFamily 7 = .ok (.aload_n 0, 1) := by decide +kernel
theorem dX3_takeFamily_8 : decode cX3_takeFamily 8 = .ok (.getfield 34, 3) := by decide +kernel
theorem dX3_takeFamily_11 : decode cX3_takeFamily 11 = .ok (.aload_n 0, 1) := by decide +kernel
theorem dX3_takeFamily_12 : decode cX3_takeFamily 12 = .ok (.getfield 24, 3) := by decide +kernel
theorem dX3_takeFamily_15 : decode cX3_takeFamily 15 = .ok (.arraylength, 1) := by decide +kernel
theorem dX3_takeFamily_16 : decode cX3_takeFamily 16 = .ok (.if_icmp .ge 15, 3) := by decide +kernel
theorem dX3_takeFamily_19 : decode cX3_takeFamily 19 = .ok (.aload_n 0, 1) := by decide +kernel
theorem dX3_takeFamily_20 : decode cX3_takeFamily 20 = .ok (.getfield 34, 3) := by decide +kernel
theorem dX3_takeFamily_23 : decode cX3_takeFamily 23 = .ok (.aload_n 0, 1) := by decide +kernel
theorem dX3_takeFamily_24 : decode cX3_takeFamily 24 = .ok (.getfield 28, 3) := by decide +kernel
theorem dX3_takeFamily_27 : decode cX3_takeFamily 27 = .ok (.arraylength, 1) := by decide +kernel
theorem dX3_takeFamily_28 : decode cX3_takeFamily 28 = .ok (.if_icmp .lt 5, 3) := by decide +kernel
theorem dX3_takeFamily_31 : decode cX3_takeFamily 31 = .ok (.iconst 0, 1) := by decide +kernel
theorem dX3_takeFamily_32 : decode cX3_takeFamily 32 = .ok (.ireturn, 1) := by decide +kernel
theorem dX3_takeFamily_33 : decode cX3_takeFamily 33 = .ok (.iconst 0, 1) := by decide +kernel
theorem dX3_takeFamily_34 : decode cX3_takeFamily 34 = .ok (.istore 4, 2) := by decide +kernel
theorem dX3_takeFamily_36 : decode cX3_takeFamily 36 = .ok (.iload_n 2, 1) := by decide +kernel
theorem dX3_takeFamily_37 : decode cX3_takeFamily 37 = .ok (.istore 5, 2) := by decide +kernel
theorem dX3_takeFamily_39 : decode cX3_takeFamily 39 = .ok (.iload 5, 2) := by decide +kernel
theorem dX3_takeFamily_41 : decode cX3_takeFamily 41 = .ok (.iload_n 3, 1) := by decide +kernel
theorem dX3_takeFamily_42 : decode cX3_takeFamily 42 = .ok (.if_icmp .ge 31, 3) := by decide +kernel
theorem dX3_takeFamily_45 : decode cX3_takeFamily 45 = .ok (.aload_n 1, 1) := by decide +kernel
theorem dX3_takeFamily_46 : decode cX3_takeFamily 46 = .ok (.iload 5, 2) := by decide +kernel
theorem dX3_takeFamily_48 : decode cX3_takeFamily 48 = .ok (.invokevirtual 50, 3) := by decide +kernel
theorem dX3_takeFamily_51 : decode cX3_takeFamily 51 = .ok (.bipush 49, 2) := by decide +kernel
theorem dX3_takeFamily_53 : decode cX3_takeFamily 53 = .ok (.if_icmp .ne 14, 3) := by decide +kernel
theorem dX3_takeFamily_56 : decode cX3_takeFamily 56 = .ok (.iload 4, 2) := by decide +kernel
theorem dX3_takeFamily_58 : decode cX3_takeFamily 58 = .ok (.iconst 1, 1) := by decide +kernel
theorem dX3_takeFamily_59 : decode cX3_takeFamily 59 = .ok (.iload 5, 2) := by decide +kernel
theorem dX3_takeFamily_61 : decode cX3_takeFamily 61 = .ok (.iload_n 2, 1) := by decide +kernel
theorem dX3_takeFamily_62 : decode cX3_takeFamily 62 = .ok (.isub, 1) := by decide +kernel
theorem dX3_takeFamily_63 : decode cX3_takeFamily 63 = .ok (.ishl, 1) := by decide +kernel
theorem dX3_takeFamily_64 : decode cX3_takeFamily 64 = .ok (.ior, 1) := by decide +kernel
theorem dX3_takeFamily_65 : decode cX3_takeFamily 65 = .ok (.istore 4, 2) := by decide +kernel
theorem dX3_takeFamily_67 : decode cX3_takeFamily 67 = .ok (.iinc 5 1, 3) := by decide +kernel
theorem dX3_takeFamily_70 : decode cX3_takeFamily 70 = .ok (.goto (-31), 3) := by decide +kernel
theorem dX3_takeFamily_73 : decode cX3_takeFamily 73 = .ok (.aload_n 0, 1) := by decide +kernel
theorem dX3_takeFamily_74 : decode cX3_takeFamily 74 = .ok (.getfield 24, 3) := by decide +kernel
theorem dX3_takeFamily_77 : decode cX3_takeFamily 77 = .ok (.aload_n 0, 1) := by decide +kernel
theorem dX3_takeFamily_78 : decode cX3_takeFamily 78 = .ok (.getfield 34, 3) := by decide +kernel
theorem dX3_takeFamily_81 : decode cX3_takeFamily 81 = .ok (.iload_n 3, 1) := by decide +kernel
theorem dX3_takeFamily_82 : decode cX3_takeFamily 82 = .ok (.iload_n 2, 1) := by decide +kernel
theorem dX3_takeFamily_83 : decode cX3_takeFamily 83 = .ok (.isub, 1) := by decide +kernel
theorem dX3_takeFamily_84 : decode cX3_takeFamily 84 = .ok (.iastore, 1) := by decide +kernel
theorem dX3_takeFamily_85 : decode cX3_takeFamily 85 = .ok (.aload_n 0, 1) := by decide +kernel
theorem dX3_takeFamily_86 : decode cX3_takeFamily 86 = .ok (.getfield 28, 3) := by decide +kernel
theorem dX3_takeFamily_89 : decode cX3_takeFamily 89 = .ok (.aload_n 0, 1) := by decide +kernel
theorem dX3_takeFamily_90 : decode cX3_takeFamily 90 = .ok (.getfield 34, 3) := by decide +kernel
theorem dX3_takeFamily_93 : decode cX3_takeFamily 93 = .ok (.iload 4, 2) := by decide +kernel
theorem dX3_takeFamily_95 : decode cX3_takeFamily 95 = .ok (.iastore, 1) := by decide +kernel
theorem dX3_takeFamily_96 : decode cX3_takeFamily 96 = .ok (.aload_n 0, 1) := by decide +kernel
theorem dX3_takeFamily_97 : decode cX3_takeFamily 97 = .ok (.dup, 1) := by decide +kernel
theorem dX3_takeFamily_98 : decode cX3_takeFamily 98 = .ok (.getfield 34, 3) := by decide +kernel
theorem dX3_takeFamily_101 : decode cX3_takeFamily 101 = .ok (.iconst 1, 1) := by decide +kernel
theorem dX3_takeFamily_102 : decode cX3_takeFamily 102 = .ok (.iadd, 1) := by decide +kernel
theorem dX3_takeFamily_103 : decode cX3_takeFamily 103 = .ok (.putfield 34, 3) := by decide +kernel
theorem dX3_takeFamily_106 : decode cX3_takeFamily 106 = .ok (.iconst 1, 1) := by decide +kernel
theorem dX3_takeFamily_107 : decode cX3_takeFamily 107 = .ok (.ireturn, 1) := by decide +kernel
theorem dX3_lengthOf_0 : decode cX3_lengthOf 0 = .ok (.iload_n 1, 1) := by decide +kernel
theorem dX3_lengthOf_1 : decode cX3_lengthOf 1 = .ok (.ifCond .lt 21, 3) := by decide +kernel
theorem dX3_lengthOf_4 : decode cX3_lengthOf 4 = .ok (.iload_n 1, 1) := by decide +kernel
theorem dX3_lengthOf_5 : decode cX3_lengthOf 5 = .ok (.aload_n 0, 1) := by decide +kernel
theorem dX3_lengthOf_6 : decode cX3_lengthOf 6 = .ok (.getfield 24, 3) := by decide +kernel
theorem dX3_lengthOf_9 : decode cX3_lengthOf 9 = .ok (.arraylength, 1) := by decide +kernel
theorem dX3_lengthOf_10 : decode cX3_lengthOf 10 = .ok (.if_icmp .ge 12, 3) := by decide +kernel
theorem dX3_lengthOf_13 : decode cX3_lengthOf 13 = .ok (.aload_n 0, 1) := by decide +kernel
theorem dX3_lengthOf_14 : decode cX3_lengthOf 14 = .ok (.getfield 24, 3) := by decide +kernel
theorem dX3_lengthOf_17 : decode cX3_lengthOf 17 = .ok (.iload_n 1, 1) := by decide +kernel
theorem dX3_lengthOf_18 : decode cX3_lengthOf 18 = .ok (.iaload, 1) := by decide +kernel
theorem dX3_lengthOf_19 : decode cX3_lengthOf 19 = .ok (.goto 4, 3) := by decide +kernel
theorem dX3_lengthOf_22 : decode cX3_lengthOf 22 = .ok (.iconst 0, 1) := by decide +kernel
theorem dX3_lengthOf_23 : decode cX3_lengthOf 23 = .ok (.ireturn, 1) := by decide +kernel
theorem dX3_sortsOf_0 : decode cX3_sortsOf 0 = .ok (.iload_n 1, 1) := by decide +kernel
theorem dX3_sortsOf_1 : decode cX3_sortsOf 1 = .ok (.ifCond .lt 21, 3) := by decide +kernel
theorem dX3_sortsOf_4 : decode cX3_sortsOf 4 = .ok (.iload_n 1, 1) := by decide +kernel
theorem dX3_sortsOf_5 : decode cX3_sortsOf 5 = .ok (.aload_n 0, 1) := by decide +kernel
theorem dX3_sortsOf_6 : decode cX3_sortsOf 6 = .ok (.getfield 28, 3) := by decide +kernel
theorem dX3_sortsOf_9 : decode cX3_sortsOf 9 = .ok (.arraylength, 1) := by decide +kernel
theorem dX3_sortsOf_10 : decode cX3_sortsOf 10 = .ok (.if_icmp .ge 12, 3) := by decide +kernel
theorem dX3_sortsOf_13 : decode cX3_sortsOf 13 = .ok (.aload_n 0, 1) := by decide +kernel
theorem dX3_sortsOf_14 : decode cX3_sortsOf 14 = .ok (.getfield 28, 3) := by decide +kernel
theorem dX3_sortsOf_17 : decode cX3_sortsOf 17 = .ok (.iload_n 1, 1) := by decide +kernel
theorem dX3_sortsOf_18 : decode cX3_sortsOf 18 = .ok (.iaload, 1) := by decide +kernel
theorem dX3_sortsOf_19 : decode cX3_sortsOf 19 = .ok (.goto 4, 3) := by decide +kernel
theorem dX3_sortsOf_22 : decode cX3_sortsOf 22 = .ok (.iconst 0, 1) := by decide +kernel
theorem dX3_sortsOf_23 : decode cX3_sortsOf 23 = .ok (.ireturn, 1) := by decide +kernel
set_option maxRecDepth 20000 in
theorem ggX3_stopPlace_X5_lawStops : GoodIn wsX3_stopPlace wsX5_lawStops := goodIn_r _ [5] (by decide +kernel) (by decide +kernel)
set_option maxRecDepth 20000 in
theorem gX3_stopPlace_X5_lawStops_n73 : GoodIn wsX3_stopPlace (wsX5_lawStops) := ggX3_stopPlace_X5_lawStops
theorem dX3_stopPlace_0 : decode cX3_stopPlace 0 = .ok (.iconst 0, 1) := by decide +kernel
theorem dX3_stopPlace_1 : decode cX3_stopPlace 1 = .ok (.istore 4, 2) := by decide +kernel
theorem dX3_stopPlace_3 : decode cX3_stopPlace 3 = .ok (.iconst 0, 1) := by decide +kernel
theorem dX3_stopPlace_4 : decode cX3_stopPlace 4 = .ok (.istore 5, 2) := by decide +kernel
theorem dX3_stopPlace_6 : decode cX3_stopPlace 6 = .ok (.iconst 0, 1) := by decide +kernel
theorem dX3_stopPlace_7 : decode cX3_stopPlace 7 = .ok (.istore 6, 2) := by decide +kernel
theorem dX3_stopPlace_9 : decode cX3_stopPlace 9 = .ok (.iload 6, 2) := by decide +kernel
theorem dX3_stopPlace_11 : decode cX3_stopPlace 11 = .ok (.iload_n 2, 1) := by decide +kernel
theorem dX3_stopPlace_12 : decode cX3_stopPlace 12 = .ok (.if_icmp .ge 92, 3) := by decide +kernel
theorem dX3_stopPlace_15 : decode cX3_stopPlace 15 = .ok (.iload_n 3, 1) := by decide +kernel
theorem dX3_stopPlace_16 : decode cX3_stopPlace 16 = .ok (.iload 6, 2) := by decide +kernel
theorem dX3_stopPlace_18 : decode cX3_stopPlace 18 = .ok (.ishr, 1) := by decide +kernel
theorem dX3_stopPlace_19 : decode cX3_stopPlace 19 = .ok (.iconst 1, 1) := by decide +kernel
theorem dX3_stopPlace_20 : decode cX3_stopPlace 20 = .ok (.iand, 1) := by decide +kernel
theorem dX3_stopPlace_21 : decode cX3_stopPlace 21 = .ok (.iconst 1, 1) := by decide +kernel
theorem dX3_stopPlace_22 : decode cX3_stopPlace 22 = .ok (.if_icmp .ne 7, 3) := by decide +kernel
theorem dX3_stopPlace_25 : decode cX3_stopPlace 25 = .ok (.iconst 1, 1) := by decide +kernel
theorem dX3_stopPlace_26 : decode cX3_stopPlace 26 = .ok (.goto 4, 3) := by decide +kernel
theorem dX3_stopPlace_29 : decode cX3_stopPlace 29 = .ok (.iconst 0, 1) := by decide +kernel
theorem dX3_stopPlace_30 : decode cX3_stopPlace 30 = .ok (.istore 7, 2) := by decide +kernel
theorem dX3_stopPlace_32 : decode cX3_stopPlace 32 = .ok (.iload 4, 2) := by decide +kernel
theorem dX3_stopPlace_34 : decode cX3_stopPlace 34 = .ok (.iload 7, 2) := by decide +kernel
theorem dX3_stopPlace_36 : decode cX3_stopPlace 36 = .ok (.ifCond .eq 7, 3) := by decide +kernel
theorem dX3_stopPlace_39 : decode cX3_stopPlace 39 = .ok (.iconst 1, 1) := by decide +kernel
theorem dX3_stopPlace_40 : decode cX3_stopPlace 40 = .ok (.goto 4, 3) := by decide +kernel
theorem dX3_stopPlace_43 : decode cX3_stopPlace 43 = .ok (.iconst 0, 1) := by decide +kernel
theorem dX3_stopPlace_44 : decode cX3_stopPlace 44 = .ok (.iadd, 1) := by decide +kernel
theorem dX3_stopPlace_45 : decode cX3_stopPlace 45 = .ok (.istore 4, 2) := by decide +kernel
theorem dX3_stopPlace_47 : decode cX3_stopPlace 47 = .ok (.iload 7, 2) := by decide +kernel
theorem dX3_stopPlace_49 : decode cX3_stopPlace 49 = .ok (.ifCond .eq 10, 3) := by decide +kernel
theorem dX3_stopPlace_52 : decode cX3_stopPlace 52 = .ok (.iload 5, 2) := by decide +kernel
theorem dX3_stopPlace_54 : decode cX3_stopPlace 54 = .ok (.iconst 1, 1) := by decide +kernel
theorem dX3_stopPlace_55 : decode cX3_stopPlace 55 = .ok (.iadd, 1) := by decide +kernel
theorem dX3_stopPlace_56 : decode cX3_stopPlace 56 = .ok (.goto 4, 3) := by decide +kernel
theorem dX3_stopPlace_59 : decode cX3_stopPlace 59 = .ok (.iconst 0, 1) := by decide +kernel
theorem dX3_stopPlace_60 : decode cX3_stopPlace 60 = .ok (.istore 5, 2) := by decide +kernel
theorem dX3_stopPlace_62 : decode cX3_stopPlace 62 = .ok (.iload 6, 2) := by decide +kernel
theorem dX3_stopPlace_64 : decode cX3_stopPlace 64 = .ok (.iconst 1, 1) := by decide +kernel
theorem dX3_stopPlace_65 : decode cX3_stopPlace 65 = .ok (.iadd, 1) := by decide +kernel
theorem dX3_stopPlace_66 : decode cX3_stopPlace 66 = .ok (.aload_n 0, 1) := by decide +kernel
theorem dX3_stopPlace_67 : decode cX3_stopPlace 67 = .ok (.getfield 18, 3) := by decide +kernel
theorem dX3_stopPlace_70 : decode cX3_stopPlace 70 = .ok (.if_icmp .ge 25, 3) := by decide +kernel
theorem dX3_stopPlace_73 : decode cX3_stopPlace 73 = .ok (.iload_n 1, 1) := by decide +kernel
theorem dX3_stopPlace_74 : decode cX3_stopPlace 74 = .ok (.aload_n 0, 1) := by decide +kernel
theorem dX3_stopPlace_75 : decode cX3_stopPlace 75 = .ok (.getfield 15, 3) := by decide +kernel
theorem dX3_stopPlace_78 : decode cX3_stopPlace 78 = .ok (.iload 4, 2) := by decide +kernel
theorem dX3_stopPlace_80 : decode cX3_stopPlace 80 = .ok (.iload 6, 2) := by decide +kernel
theorem dX3_stopPlace_82 : decode cX3_stopPlace 82 = .ok (.iconst 1, 1) := by decide +kernel
theorem dX3_stopPlace_83 : decode cX3_stopPlace 83 = .ok (.iadd, 1) := by decide +kernel
theorem dX3_stopPlace_84 : decode cX3_stopPlace 84 = .ok (.iload 4, 2) := by decide +kernel
theorem dX3_stopPlace_86 : decode cX3_stopPlace 86 = .ok (.isub, 1) := by decide +kernel
theorem dX3_stopPlace_87 : decode cX3_stopPlace 87 = .ok (.iload 5, 2) := by decide +kernel
theorem dX3_stopPlace_89 : decode cX3_stopPlace 89 = .ok (.invokestatic 73, 3) := by decide +kernel
theorem dX3_stopPlace_92 : decode cX3_stopPlace 92 = .ok (.ifCond .eq 6, 3) := by decide +kernel
theorem dX3_stopPlace_95 : decode cX3_stopPlace 95 = .ok (.iload 6, 2) := by decide +kernel
theorem dX3_stopPlace_97 : decode cX3_stopPlace 97 = .ok (.ireturn, 1) := by decide +kernel
theorem dX3_stopPlace_98 : decode cX3_stopPlace 98 = .ok (.iinc 6 1, 3) := by decide +kernel
theorem dX3_stopPlace_101 : decode cX3_stopPlace 101 = .ok (.goto (-92), 3) := by decide +kernel
theorem dX3_stopPlace_104 : decode cX3_stopPlace 104 = .ok (.iload_n 2, 1) := by decide +kernel
theorem dX3_stopPlace_105 : decode cX3_stopPlace 105 = .ok (.ireturn, 1) := by decide +kernel
set_option maxRecDepth 20000 in
theorem ggX3_endsAllSeen_X3_lengthOf : GoodIn wsX3_endsAllSeen wsX3_lengthOf := goodIn_r _ [6, 7, 22, 23, 24, 25, 26, 27, 28, 29] (by decide +kernel) (by decide +kernel)
set_option maxRecDepth 20000 in
theorem gX3_endsAllSeen_X3_lengthOf : GoodIn wsX3_endsAllSeen (wsV RX3 37 RX3 yX3_lengthOf wsX3_lengthOf) := goodIn_app (goodIn_of _ (by decide +kernel)) ggX3_endsAllSeen_X3_lengthOf
set_option maxRecDepth 20000 in
theorem ggX3_endsAllSeen_X3_sortsOf : GoodIn wsX3_endsAllSeen wsX3_sortsOf := goodIn_r _ [11, 12, 22, 23, 24, 25, 26, 27, 28, 29] (by decide +kernel) (by decide +kernel)
set_option maxRecDepth 20000 in
theorem gX3_endsAllSeen_X3_sortsOf : GoodIn wsX3_endsAllSeen (wsV RX3 41 RX3 yX3_sortsOf wsX3_sortsOf) := goodIn_app (goodIn_of _ (by decide +kernel)) ggX3_endsAllSeen_X3_sortsOf
set_option maxRecDepth 20000 in
theorem ggX3_endsAllSeen_X3_stopPlace : GoodIn wsX3_endsAllSeen wsX3_stopPlace := goodIn_r _ [16, 17, 18, 19, 20, 21, 22, 23, 24, 25, 26, 27, 28, 29] (by decide +kernel) (by decide +kernel)
set_option maxRecDepth 20000 in
theorem gX3_endsAllSeen_X3_stopPlace : GoodIn wsX3_endsAllSeen (wsV RX3 77 RX3 yX3_stopPlace wsX3_stopPlace) := goodIn_app (goodIn_of _ (by decide +kernel)) ggX3_endsAllSeen_X3_stopPlace
theorem dX3_endsAllSeen_0 : decode cX3_endsAllSeen 0 = .ok (.iconst 0, 1) := by decide +kernel
theorem dX3_endsAllSeen_1 : decode cX3_endsAllSeen 1 = .ok (.istore_n 2, 1) := by decide +kernel
theorem dX3_endsAllSeen_2 : decode cX3_endsAllSeen 2 = .ok (.iload_n 2, 1) := by decide +kernel
theorem dX3_endsAllSeen_3 : decode cX3_endsAllSeen 3 = .ok (.aload_n 0, 1) := by decide +kernel
theorem dX3_endsAllSeen_4 : decode cX3_endsAllSeen 4 = .ok (.getfield 34, 3) := by decide +kernel
theorem dX3_endsAllSeen_7 : decode cX3_endsAllSeen 7 = .ok (.if_icmp .ge 36, 3) := by decide +kernel
theorem dX3_endsAllSeen_10 : decode cX3_endsAllSeen 10 = .ok (.aload_n 0, 1) := by decide +kernel
theorem dX3_endsAllSeen_11 : decode cX3_endsAllSeen 11 = .ok (.iload_n 1, 1) := by decide +kernel
theorem dX3_endsAllSeen_12 : decode cX3_endsAllSeen 12 = .ok (.aload_n 0, 1) := by decide +kernel
theorem dX3_endsAllSeen_13 : decode cX3_endsAllSeen 13 = .ok (.iload_n 2, 1) := by decide +kernel
theorem dX3_endsAllSeen_14 : decode cX3_endsAllSeen 14 = .ok (.invokevirtual 37, 3) := by decide +kernel
theorem dX3_endsAllSeen_17 : decode cX3_endsAllSeen 17 = .ok (.aload_n 0, 1) := by decide +kernel
theorem dX3_endsAllSeen_18 : decode cX3_endsAllSeen 18 = .ok (.iload_n 2, 1) := by decide +kernel
theorem dX3_endsAllSeen_19 : decode cX3_endsAllSeen 19 = .ok (.invokevirtual 41, 3) := by decide +kernel
theorem dX3_endsAllSeen_22 : decode cX3_endsAllSeen 22 = .ok (.invokevirtual 77, 3) := by decide +kernel
theorem dX3_endsAllSeen_25 : decode cX3_endsAllSeen 25 = .ok (.aload_n 0, 1) := by decide +kernel
theorem dX3_endsAllSeen_26 : decode cX3_endsAllSeen 26 = .ok (.iload_n 2, 1) := by decide +kernel
theorem dX3_endsAllSeen_27 : decode cX3_endsAllSeen 27 = .ok (.invokevirtual 37, 3) := by decide +kernel
theorem dX3_endsAllSeen_30 : decode cX3_endsAllSeen 30 = .ok (.iconst 1, 1) := by decide +kernel
theorem dX3_endsAllSeen_31 : decode cX3_endsAllSeen 31 = .ok (.isub, 1) := by decide +kernel
theorem dX3_endsAllSeen_32 : decode cX3_endsAllSeen 32 = .ok (.if_icmp .eq 5, 3) := by decide +kernel
theorem dX3_endsAllSeen_35 : decode cX3_endsAllSeen 35 = .ok (.iconst 0, 1) := by decide +kernel
theorem dX3_endsAllSeen_36 : decode cX3_endsAllSeen 36 = .ok (.ireturn, 1) := by decide +kernel
theorem dX3_endsAllSeen_37 : decode cX3_endsAllSeen 37 = .ok (.iinc 2 1, 3) := by decide +kernel
theorem dX3_endsAllSeen_40 : decode cX3_endsAllSeen 40 = .ok (.goto (-38), 3) := by decide +kernel
theorem dX3_endsAllSeen_43 : decode cX3_endsAllSeen 43 = .ok (.iconst 1, 1) := by decide +kernel
theorem dX3_endsAllSeen_44 : decode cX3_endsAllSeen 44 = .ok (.ireturn, 1) := by decide +kernel
set_option maxRecDepth 20000 in
theorem ggX3_countStoppedAhead_X3_lengthOf : GoodIn wsX3_countStoppedAhead wsX3_lengthOf := goodIn_r _ [6, 7, 22, 23, 24, 25, 26, 27, 28, 29] (by decide +kernel) (by decide +kernel)
set_option maxRecDepth 20000 in
theorem gX3_countStoppedAhead_X3_lengthOf : GoodIn wsX3_countStoppedAhead (wsV RX3 37 RX3 yX3_lengthOf wsX3_lengthOf) := goodIn_app (goodIn_of _ (by decide +kernel)) ggX3_countStoppedAhead_X3_lengthOf
set_option maxRecDepth 20000 in
theorem ggX3_countStoppedAhead_X3_sortsOf : GoodIn wsX3_countStoppedAhead wsX3_sortsOf := goodIn_r _ [11, 12, 22, 23, 24, 25, 26, 27, 28, 29] (by decide +kernel) (by decide +kernel)
set_option maxRecDepth 20000 in
theorem gX3_countStoppedAhead_X3_sortsOf : GoodIn wsX3_countStoppedAhead (wsV RX3 41 RX3 yX3_sortsOf wsX3_sortsOf) := goodIn_app (goodIn_of _ (by decide +kernel)) ggX3_countStoppedAhead_X3_sortsOf
set_option maxRecDepth 20000 in
theorem ggX3_countStoppedAhead_X3_stopPlace : GoodIn wsX3_countStoppedAhead wsX3_stopPlace := goodIn_r _ [16, 17, 18, 19, 20, 21, 22, 23, 24, 25, 26, 27, 28, 29] (by decide +kernel) (by decide +kernel)
set_option maxRecDepth 20000 in
theorem gX3_countStoppedAhead_X3_stopPlace : GoodIn wsX3_countStoppedAhead (wsV RX3 77 RX3 yX3_stopPlace wsX3_stopPlace) := goodIn_app (goodIn_of _ (by decide +kernel)) ggX3_countStoppedAhead_X3_stopPlace
theorem dX3_countStoppedAhead_0 : decode cX3_countStoppedAhead 0 = .ok (.iconst 0, 1) := by decide +kernel
theorem dX3_countStoppedAhead_1 : decode cX3_countStoppedAhead 1 = .ok (.istore_n 2, 1) := by decide +kernel
theorem dX3_countStoppedAhead_2 : decode cX3_countStoppedAhead 2 = .ok (.iconst 0, 1) := by decide +kernel
theorem dX3_countStoppedAhead_3 : decode cX3_countStoppedAhead 3 = .ok (.istore_n 3, 1) := by decide +kernel
theorem dX3_countStoppedAhead_4 : decode cX3_countStoppedAhead 4 = .ok (.iload_n 3, 1) := by decide +kernel
theorem dX3_countStoppedAhead_5 : decode cX3_countStoppedAhead 5 = .ok (.aload_n 0, 1) := by decide +kernel
theorem dX3_countStoppedAhead_6 : decode cX3_countStoppedAhead 6 = .ok (.getfield 34, 3) := by decide +kernel
theorem dX3_countStoppedAhead_9 : decode cX3_countStoppedAhead 9 = .ok (.if_icmp .ge 37, 3) := by decide +kernel
theorem dX3_countStoppedAhead_12 : decode cX3_countStoppedAhead 12 = .ok (.aload_n 0, 1) := by decide +kernel
theorem dX3_countStoppedAhead_13 : decode cX3_countStoppedAhead 13 = .ok (.iload_n 1, 1) := by decide +kernel
theorem dX3_countStoppedAhead_14 : decode cX3_countStoppedAhead 14 = .ok (.aload_n 0, 1) := by decide +kernel
theorem dX3_countStoppedAhead_15 : decode cX3_countStoppedAhead 15 = .ok (.iload_n 3, 1) := by decide +kernel
theorem dX3_countStoppedAhead_16 : decode cX3_countStoppedAhead 16 = .ok (.invokevirtual 37, 3) := by decide +kernel
theorem dX3_countStoppedAhead_19 : decode cX3_countStoppedAhead 19 = .ok (.aload_n 0, 1) := by decide +kernel
theorem dX3_countStoppedAhead_20 : decode cX3_countStoppedAhead 20 = .ok (.iload_n 3, 1) := by decide +kernel
theorem dX3_countStoppedAhead_21 : decode cX3_countStoppedAhead 21 = .ok (.invokevirtual 41, 3) := by decide +kernel
theorem dX3_countStoppedAhead_24 : decode cX3_countStoppedAhead 24 = .ok (.invokevirtual 77, 3) := by decide +kernel
theorem dX3_countStoppedAhead_27 : decode cX3_countStoppedAhead 27 = .ok (.aload_n 0, 1) := by decide +kernel
theorem dX3_countStoppedAhead_28 : decode cX3_countStoppedAhead 28 = .ok (.iload_n 3, 1) := by decide +kernel
theorem dX3_countStoppedAhead_29 : decode cX3_countStoppedAhead 29 = .ok (.invokevirtual 37, 3) := by decide +kernel
theorem dX3_countStoppedAhead_32 : decode cX3_countStoppedAhead 32 = .ok (.iconst 1, 1) := by decide +kernel
theorem dX3_countStoppedAhead_33 : decode cX3_countStoppedAhead 33 = .ok (.isub, 1) := by decide +kernel
theorem dX3_countStoppedAhead_34 : decode cX3_countStoppedAhead 34 = .ok (.if_icmp .ge 6, 3) := by decide +kernel
theorem dX3_countStoppedAhead_37 : decode cX3_countStoppedAhead 37 = .ok (.iinc 2 1, 3) := by decide +kernel
theorem dX3_countStoppedAhead_40 : decode cX3_countStoppedAhead 40 = .ok (.iinc 3 1, 3) := by decide +kernel
theorem dX3_countStoppedAhead_43 : decode cX3_countStoppedAhead 43 = .ok (.goto (-39), 3) := by decide +kernel
theorem dX3_countStoppedAhead_46 : decode cX3_countStoppedAhead 46 = .ok (.iload_n 2, 1) := by decide +kernel
theorem dX3_countStoppedAhead_47 : decode cX3_countStoppedAhead 47 = .ok (.ireturn, 1) := by decide +kernel
set_option maxRecDepth 20000 in
theorem ggX4_init_X0_init : GoodIn wsX4_init wsX0_init := goodIn_r _ [10, 11, 2, 3, 12, 13, 14] (by decide +kernel) (by decide +kernel)
set_option maxRecDepth 20000 in
theorem gX4_init_X0_init_n11 : GoodIn wsX4_init (wsX0_init) := ggX4_init_X0_init
theorem dX4_init_0 : decode cX4_init 0 = .ok (.aload_n 0, 1) := by decide +kernel
theorem dX4_init_1 : decode cX4_init 1 = .ok (.invokespecial 3, 3) := by decide +kernel
theorem dX4_init_4 : decode cX4_init 4 = .ok (.aload_n 0, 1) := by decide +kernel
theorem dX4_init_5 : decode cX4_init 5 = .ok (.new 9, 3) := by decide +kernel
theorem dX4_init_8 : decode cX4_init 8 = .ok (.dup, 1) := by decide +kernel
theorem dX4_init_9 : decode cX4_init 9 = .ok (.invokespecial 11, 3) := by decide +kernel
theorem dX4_init_12 : decode cX4_init 12 = .ok (.putfield 12, 3) := by decide +kernel
theorem dX4_init_15 : decode cX4_init 15 = .ok (.aload_n 0, 1) := by decide +kernel
theorem dX4_init_16 : decode cX4_init 16 = .ok (.new 9, 3) := by decide +kernel
theorem dX4_init_19 : decode cX4_init 19 = .ok (.dup, 1) := by decide +kernel
theorem dX4_init_20 : decode cX4_init 20 = .ok (.invokespecial 11, 3) := by decide +kernel
theorem dX4_init_23 : decode cX4_init 23 = .ok (.putfield 18, 3) := by decide +kernel
theorem dX4_init_26 : decode cX4_init 26 = .ok (.return_, 1) := by decide +kernel
set_option maxRecDepth 20000 in
theorem ggX4_begin_X0_clear : GoodIn wsX4_begin wsX0_clear := goodIn_r _ [7, 8, 9, 10, 11, 12, 22] (by decide +kernel) (by decide +kernel)
set_option maxRecDepth 20000 in
theorem gX4_begin_X0_clear : GoodIn wsX4_begin (wsV RX4 21 RX0 yX0_clear wsX0_clear) := goodIn_app (goodIn_of _ (by decide +kernel)) ggX4_begin_X0_clear
set_option maxRecDepth 20000 in
theorem ggX4_begin_X0_add : GoodIn wsX4_begin wsX0_add := goodIn_r _ [16, 8, 17, 18, 6, 19, 22] (by decide +kernel) (by decide +kernel)
set_option maxRecDepth 20000 in
theorem gX4_begin_X0_add : GoodIn wsX4_begin (wsV RX4 24 RX0 yX0_add wsX0_add) := goodIn_app (goodIn_of _ (by decide +kernel)) ggX4_begin_X0_add
theorem dX4_begin_0 : decode cX4_begin 0 = .ok (.aload_n 0, 1) := by decide +kernel
theorem dX4_begin_1 : decode cX4_begin 1 = .ok (.getfield 12, 3) := by decide +kernel
theorem dX4_begin_4 : decode cX4_begin 4 = .ok (.invokevirtual 21, 3) := by decide +kernel
theorem dX4_begin_7 : decode cX4_begin 7 = .ok (.aload_n 0, 1) := by decide +kernel
theorem dX4_begin_8 : decode cX4_begin 8 = .ok (.getfield 18, 3) := by decide +kernel
theorem dX4_begin_11 : decode cX4_begin 11 = .ok (.invokevirtual 21, 3) := by decide +kernel
theorem dX4_begin_14 : decode cX4_begin 14 = .ok (.aload_n 0, 1) := by decide +kernel
theorem dX4_begin_15 : decode cX4_begin 15 = .ok (.getfield 12, 3) := by decide +kernel
theorem dX4_begin_18 : decode cX4_begin 18 = .ok (.iconst 1, 1) := by decide +kernel
theorem dX4_begin_19 : decode cX4_begin 19 = .ok (.iconst 1, 1) := by decide +kernel
theorem dX4_begin_20 : decode cX4_begin 20 = .ok (.iconst 1, 1) := by decide +kernel
theorem dX4_begin_21 : decode cX4_begin 21 = .ok (.iload_n 1, 1) := by decide +kernel
theorem dX4_begin_22 : decode cX4_begin 22 = .ok (.i2l, 1) := by decide +kernel
theorem dX4_begin_23 : decode cX4_begin 23 = .ok (.invokevirtual 24, 3) := by decide +kernel
theorem dX4_begin_26 : decode cX4_begin 26 = .ok (.aload_n 0, 1) := by decide +kernel
theorem dX4_begin_27 : decode cX4_begin 27 = .ok (.getfield 12, 3) := by decide +kernel
theorem dX4_begin_30 : decode cX4_begin 30 = .ok (.iconst 0, 1) := by decide +kernel
theorem dX4_begin_31 : decode cX4_begin 31 = .ok (.iconst 0, 1) := by decide +kernel
theorem dX4_begin_32 : decode cX4_begin 32 = .ok (.iconst 0, 1) := by decide +kernel
theorem dX4_begin_33 : decode cX4_begin 33 = .ok (.bipush 12, 2) := by decide +kernel
theorem dX4_begin_35 : decode cX4_begin 35 = .ok (.iload_n 1, 1) := by decide +kernel
theorem dX4_begin_36 : decode cX4_begin 36 = .ok (.isub, 1) := by decide +kernel
theorem dX4_begin_37 : decode cX4_begin 37 = .ok (.i2l, 1) := by decide +kernel
theorem dX4_begin_38 : decode cX4_begin 38 = .ok (.invokevirtual 24, 3) := by decide +kernel
theorem dX4_begin_41 : decode cX4_begin 41 = .ok (.return_, 1) := by decide +kernel
set_option maxRecDepth 20000 in
theorem ggX4_stepOn_X0_clear : GoodIn wsX4_stepOn wsX0_clear := goodIn_r _ [7, 8, 9, 10, 11, 12, 15] (by decide +kernel) (by decide +kernel)
set_option maxRecDepth 20000 in
theorem gX4_stepOn_X0_clear : GoodIn wsX4_stepOn (wsV RX4 21 RX0 yX0_clear wsX0_clear) := goodIn_app (goodIn_of _ (by decide +kernel)) ggX4_stepOn_X0_clear
theorem dX4_stepOn_0 : decode cX4_stepOn 0 = .ok (.aload_n 0, 1) := by decide +kernel
theorem dX4_stepOn_1 : decode cX4_stepOn 1 = .ok (.getfield 12, 3) := by decide +kernel
theorem dX4_stepOn_4 : decode cX4_stepOn 4 = .ok (.astore_n 1, 1) := by decide +kernel
theorem dX4_stepOn_5 : decode cX4_stepOn 5 = .ok (.aload_n 0, 1) := by decide +kernel
theorem dX4_stepOn_6 : decode cX4_stepOn 6 = .ok (.aload_n 0, 1) := by decide +kernel
theorem dX4_stepOn_7 : decode cX4_stepOn 7 = .ok (.getfield 18, 3) := by decide +kernel
theorem dX4_stepOn_10 : decode cX4_stepOn 10 = .ok (.putfield 12, 3) := by decide +kernel
theorem dX4_stepOn_13 : decode cX4_stepOn 13 = .ok (.aload_n 0, 1) := by decide +kernel
theorem dX4_stepOn_14 : decode cX4_stepOn 14 = .ok (.aload_n 1, 1) := by decide +kernel
theorem dX4_stepOn_15 : decode cX4_stepOn 15 = .ok (.putfield 18, 3) := by decide +kernel
theorem dX4_stepOn_18 : decode cX4_stepOn 18 = .ok (.aload_n 0, 1) := by decide +kernel
theorem dX4_stepOn_19 : decode cX4_stepOn 19 = .ok (.getfield 18, 3) := by decide +kernel
theorem dX4_stepOn_22 : decode cX4_stepOn 22 = .ok (.invokevirtual 21, 3) := by decide +kernel
theorem dX4_stepOn_25 : decode cX4_stepOn 25 = .ok (.return_, 1) := by decide +kernel
