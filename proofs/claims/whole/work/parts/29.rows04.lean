theorem dX6_init_0 : decode cX6_init 0 = .ok (.aload_n 0, 1) := by decide +kernel
theorem dX6_init_1 : decode cX6_init 1 = .ok (.invokespecial 1, 3) := by decide +kernel
theorem dX6_init_4 : decode cX6_init 4 = .ok (.aload_n 0, 1) := by decide +kernel
theorem dX6_init_5 : decode cX6_init 5 = .ok (.bipush 7, 2) := by decide +kernel
theorem dX6_init_7 : decode cX6_init 7 = .ok (.newarray .int, 2) := by decide +kernel
theorem dX6_init_9 : decode cX6_init 9 = .ok (.putfield 7, 3) := by decide +kernel
theorem dX6_init_12 : decode cX6_init 12 = .ok (.aload_n 0, 1) := by decide +kernel
theorem dX6_init_13 : decode cX6_init 13 = .ok (.bipush 22, 2) := by decide +kernel
theorem dX6_init_15 : decode cX6_init 15 = .ok (.newarray .int, 2) := by decide +kernel
theorem dX6_init_17 : decode cX6_init 17 = .ok (.putfield 13, 3) := by decide +kernel
theorem dX6_init_20 : decode cX6_init 20 = .ok (.aload_n 0, 1) := by decide +kernel
theorem dX6_init_21 : decode cX6_init 21 = .ok (.bipush 22, 2) := by decide +kernel
theorem dX6_init_23 : decode cX6_init 23 = .ok (.newarray .int, 2) := by decide +kernel
theorem dX6_init_25 : decode cX6_init 25 = .ok (.putfield 16, 3) := by decide +kernel
theorem dX6_init_28 : decode cX6_init 28 = .ok (.aload_n 0, 1) := by decide +kernel
theorem dX6_init_29 : decode cX6_init 29 = .ok (.bipush 22, 2) := by decide +kernel
theorem dX6_init_31 : decode cX6_init 31 = .ok (.newarray .int, 2) := by decide +kernel
theorem dX6_init_33 : decode cX6_init 33 = .ok (.putfield 19, 3) := by decide +kernel
theorem dX6_init_36 : decode cX6_init 36 = .ok (.aload_n 0, 1) := by decide +kernel
theorem dX6_init_37 : decode cX6_init 37 = .ok (.bipush 64, 2) := by decide +kernel
theorem dX6_init_39 : decode cX6_init 39 = .ok (.newarray .int, 2) := by decide +kernel
theorem dX6_init_41 : decode cX6_init 41 = .ok (.putfield 22, 3) := by decide +kernel
theorem dX6_init_44 : decode cX6_init 44 = .ok (.aload_n 0, 1) := by decide +kernel
theorem dX6_init_45 : decode cX6_init 45 = .ok (.iconst 2, 1) := by decide +kernel
theorem dX6_init_46 : decode cX6_init 46 = .ok (.newarray .int, 2) := by decide +kernel
theorem dX6_init_48 : decode cX6_init 48 = .ok (.putfield 25, 3) := by decide +kernel
theorem dX6_init_51 : decode cX6_init 51 = .ok (.aload_n 0, 1) := by decide +kernel
theorem dX6_init_52 : decode cX6_init 52 = .ok (.bipush 11, 2) := by decide +kernel
theorem dX6_init_54 : decode cX6_init 54 = .ok (.newarray .long, 2) := by decide +kernel
theorem dX6_init_56 : decode cX6_init 56 = .ok (.putfield 28, 3) := by decide +kernel
theorem dX6_init_59 : decode cX6_init 59 = .ok (.aload_n 0, 1) := by decide +kernel
theorem dX6_init_60 : decode cX6_init 60 = .ok (.getfield 13, 3) := by decide +kernel
theorem dX6_init_63 : decode cX6_init 63 = .ok (.iconst 0, 1) := by decide +kernel
theorem dX6_init_64 : decode cX6_init 64 = .ok (.iconst 5, 1) := by decide +kernel
theorem dX6_init_65 : decode cX6_init 65 = .ok (.iastore, 1) := by decide +kernel
theorem dX6_init_66 : decode cX6_init 66 = .ok (.aload_n 0, 1) := by decide +kernel
theorem dX6_init_67 : decode cX6_init 67 = .ok (.getfield 13, 3) := by decide +kernel
theorem dX6_init_70 : decode cX6_init 70 = .ok (.iconst 1, 1) := by decide +kernel
theorem dX6_init_71 : decode cX6_init 71 = .ok (.bipush 6, 2) := by decide +kernel
theorem dX6_init_73 : decode cX6_init 73 = .ok (.iastore, 1) := by decide +kernel
theorem dX6_init_74 : decode cX6_init 74 = .ok (.aload_n 0, 1) := by decide +kernel
theorem dX6_init_75 : decode cX6_init 75 = .ok (.getfield 13, 3) := by decide +kernel
theorem dX6_init_78 : decode cX6_init 78 = .ok (.iconst 2, 1) := by decide +kernel
theorem dX6_init_79 : decode cX6_init 79 = .ok (.iconst 5, 1) := by decide +kernel
theorem dX6_init_80 : decode cX6_init 80 = .ok (.iastore, 1) := by decide +kernel
theorem dX6_init_81 : decode cX6_init 81 = .ok (.aload_n 0, 1) := by decide +kernel
theorem dX6_init_82 : decode cX6_init 82 = .ok (.getfield 13, 3) := by decide +kernel
theorem dX6_init_85 : decode cX6_init 85 = .ok (.iconst 4, 1) := by decide +kernel
theorem dX6_init_86 : decode cX6_init 86 = .ok (.iconst 1, 1) := by decide +kernel
theorem dX6_init_87 : decode cX6_init 87 = .ok (.iastore, 1) := by decide +kernel
theorem dX6_init_88 : decode cX6_init 88 = .ok (.return_, 1) := by decide +kernel
theorem dX6_refuse_0 : decode cX6_refuse 0 = .ok (.aload_n 0, 1) := by decide +kernel
theorem dX6_refuse_1 : decode cX6_refuse 1 = .ok (.getfield 7, 3) := by decide +kernel
theorem dX6_refuse_4 : decode cX6_refuse 4 = .ok (.iload_n 1, 1) := by decide +kernel
theorem dX6_refuse_5 : decode cX6_refuse 5 = .ok (.ineg, 1) := by decide +kernel
theorem dX6_refuse_6 : decode cX6_refuse 6 = .ok (.dup2, 1) := by decide +kernel
theorem dX6_refuse_7 : decode cX6_refuse 7 = .ok (.iaload, 1) := by decide +kernel
theorem dX6_refuse_8 : decode cX6_refuse 8 = .ok (.iconst 1, 1) := by decide +kernel
theorem dX6_refuse_9 : decode cX6_refuse 9 = .ok (.iadd, 1) := by decide +kernel
theorem dX6_refuse_10 : decode cX6_refuse 10 = .ok (.iastore, 1) := by decide +kernel
theorem dX6_refuse_11 : decode cX6_refuse 11 = .ok (.iload_n 1, 1) := by decide +kernel
theorem dX6_refuse_12 : decode cX6_refuse 12 = .ok (.ireturn, 1) := by decide +kernel
set_option maxRecDepth 20000 in
theorem ggX6_refuseWide_X6_refuse : GoodIn wsX6_refuseWide wsX6_refuse := goodIn_r _ [6, 7, 8, 9, 10, 11, 12, 13, 14, 15, 16, 17, 18, 19, 20, 21, 22, 23, 24, 25, 26, 27, 28, 29, 30, 31, 32, 33, 34, 35, 36] (by decide +kernel) (by decide +kernel)
set_option maxRecDepth 20000 in
theorem gX6_refuseWide_X6_refuse : GoodIn wsX6_refuseWide (wsV RX6 34 RX6 yX6_refuse wsX6_refuse) := goodIn_app (goodIn_of _ (by decide +kernel)) ggX6_refuseWide_X6_refuse
theorem dX6_refuseWide_0 : decode cX6_refuseWide 0 = .ok (.ldc2_w 32, 3) := by decide +kernel
theorem dX6_refuseWide_3 : decode cX6_refuseWide 3 = .ok (.aload_n 0, 1) := by decide +kernel
theorem dX6_refuseWide_4 : decode cX6_refuseWide 4 = .ok (.iload_n 1, 1) := by decide +kernel
theorem dX6_refuseWide_5 : decode cX6_refuseWide 5 = .ok (.invokevirtual 34, 3) := by decide +kernel
theorem dX6_refuseWide_8 : decode cX6_refuseWide 8 = .ok (.i2l, 1) := by decide +kernel
theorem dX6_refuseWide_9 : decode cX6_refuseWide 9 = .ok (.lsub, 1) := by decide +kernel
theorem dX6_refuseWide_10 : decode cX6_refuseWide 10 = .ok (.lreturn, 1) := by decide +kernel
theorem dX6_isIn_0 : decode cX6_isIn 0 = .ok (.iload_n 0, 1) := by decide +kernel
theorem dX6_isIn_1 : decode cX6_isIn 1 = .ok (.ifCond .lt 12, 3) := by decide +kernel
theorem dX6_isIn_4 : decode cX6_isIn 4 = .ok (.iload_n 0, 1) := by decide +kernel
theorem dX6_isIn_5 : decode cX6_isIn 5 = .ok (.iload_n 1, 1) := by decide +kernel
theorem dX6_isIn_6 : decode cX6_isIn 6 = .ok (.if_icmp .ge 7, 3) := by decide +kernel
theorem dX6_isIn_9 : decode cX6_isIn 9 = .ok (.iconst 1, 1) := by decide +kernel
theorem dX6_isIn_10 : decode cX6_isIn 10 = .ok (.goto 4, 3) := by decide +kernel
theorem dX6_isIn_13 : decode cX6_isIn 13 = .ok (.iconst 0, 1) := by decide +kernel
theorem dX6_isIn_14 : decode cX6_isIn 14 = .ok (.ireturn, 1) := by decide +kernel
theorem dX6_within_0 : decode cX6_within 0 = .ok (.iload_n 0, 1) := by decide +kernel
theorem dX6_within_1 : decode cX6_within 1 = .ok (.iload_n 1, 1) := by decide +kernel
theorem dX6_within_2 : decode cX6_within 2 = .ok (.if_icmp .ge 8, 3) := by decide +kernel
theorem dX6_within_5 : decode cX6_within 5 = .ok (.bipush (-4), 2) := by decide +kernel
theorem dX6_within_7 : decode cX6_within 7 = .ok (.goto 14, 3) := by decide +kernel
theorem dX6_within_10 : decode cX6_within 10 = .ok (.iload_n 0, 1) := by decide +kernel
theorem dX6_within_11 : decode cX6_within 11 = .ok (.iload_n 2, 1) := by decide +kernel
theorem dX6_within_12 : decode cX6_within 12 = .ok (.if_icmp .le 8, 3) := by decide +kernel
theorem dX6_within_15 : decode cX6_within 15 = .ok (.bipush (-6), 2) := by decide +kernel
theorem dX6_within_17 : decode cX6_within 17 = .ok (.goto 4, 3) := by decide +kernel
theorem dX6_within_20 : decode cX6_within 20 = .ok (.iconst 0, 1) := by decide +kernel
theorem dX6_within_21 : decode cX6_within 21 = .ok (.ireturn, 1) := by decide +kernel
theorem dX6_lays_0 : decode cX6_lays 0 = .ok (.iconst 0, 1) := by decide +kernel
theorem dX6_lays_1 : decode cX6_lays 1 = .ok (.istore_n 2, 1) := by decide +kernel
theorem dX6_lays_2 : decode cX6_lays 2 = .ok (.iload_n 2, 1) := by decide +kernel
theorem dX6_lays_3 : decode cX6_lays 3 = .ok (.bipush 22, 2) := by decide +kernel
theorem dX6_lays_5 : decode cX6_lays 5 = .ok (.if_icmp .ge 15, 3) := by decide +kernel
theorem dX6_lays_8 : decode cX6_lays 8 = .ok (.aload_n 1, 1) := by decide +kernel
theorem dX6_lays_9 : decode cX6_lays 9 = .ok (.iload_n 2, 1) := by decide +kernel
theorem dX6_lays_10 : decode cX6_lays 10 = .ok (.aload_n 0, 1) := by decide +kernel
theorem dX6_lays_11 : decode cX6_lays 11 = .ok (.iload_n 2, 1) := by decide +kernel
theorem dX6_lays_12 : decode cX6_lays 12 = .ok (.iaload, 1) := by decide +kernel
theorem dX6_lays_13 : decode cX6_lays 13 = .ok (.iastore, 1) := by decide +kernel
theorem dX6_lays_14 : decode cX6_lays 14 = .ok (.iinc 2 1, 3) := by decide +kernel
theorem dX6_lays_17 : decode cX6_lays 17 = .ok (.goto (-15), 3) := by decide +kernel
theorem dX6_lays_20 : decode cX6_lays 20 = .ok (.return_, 1) := by decide +kernel
set_option maxRecDepth 20000 in
theorem ggX6_letter_X6_within : GoodIn wsX6_letter wsX6_within := goodIn_r _ [6] (by decide +kernel) (by decide +kernel)
set_option maxRecDepth 20000 in
theorem gX6_letter_X6_within : GoodIn wsX6_letter (va_wsS RX6 38 yX6_within wsX6_within) := goodIn_app (goodIn_of _ (by decide +kernel)) ggX6_letter_X6_within
set_option maxRecDepth 20000 in
theorem ggX6_letter_X6_refuse : GoodIn wsX6_letter wsX6_refuse := goodIn_r _ [10, 11, 12, 13, 14, 15, 16, 17, 18, 19, 20, 21, 22, 23, 24, 25, 26, 27, 28, 29, 30, 31, 32, 33, 34, 35, 36, 37, 38, 39, 40] (by decide +kernel) (by decide +kernel)
set_option maxRecDepth 20000 in
theorem gX6_letter_X6_refuse : GoodIn wsX6_letter (wsV RX6 34 RX6 yX6_refuse wsX6_refuse) := goodIn_app (goodIn_of _ (by decide +kernel)) ggX6_letter_X6_refuse
theorem dX6_letter_0 : decode cX6_letter 0 = .ok (.iload_n 1, 1) := by decide +kernel
theorem dX6_letter_1 : decode cX6_letter 1 = .ok (.iconst 0, 1) := by decide +kernel
theorem dX6_letter_2 : decode cX6_letter 2 = .ok (.sipush 255, 3) := by decide +kernel
theorem dX6_letter_5 : decode cX6_letter 5 = .ok (.invokestatic 38, 3) := by decide +kernel
theorem dX6_letter_8 : decode cX6_letter 8 = .ok (.istore_n 2, 1) := by decide +kernel
theorem dX6_letter_9 : decode cX6_letter 9 = .ok (.iload_n 2, 1) := by decide +kernel
theorem dX6_letter_10 : decode cX6_letter 10 = .ok (.ifCond .ne 15, 3) := by decide +kernel
theorem dX6_letter_13 : decode cX6_letter 13 = .ok (.aload_n 0, 1) := by decide +kernel
theorem dX6_letter_14 : decode cX6_letter 14 = .ok (.getfield 42, 3) := by decide +kernel
theorem dX6_letter_17 : decode cX6_letter 17 = .ok (.bipush 64, 2) := by decide +kernel
theorem dX6_letter_19 : decode cX6_letter 19 = .ok (.if_icmp .ne 6, 3) := by decide +kernel
theorem dX6_letter_22 : decode cX6_letter 22 = .ok (.bipush (-6), 2) := by decide +kernel
theorem dX6_letter_24 : decode cX6_letter 24 = .ok (.istore_n 2, 1) := by decide +kernel
theorem dX6_letter_25 : decode cX6_letter 25 = .ok (.iload_n 2, 1) := by decide +kernel
theorem dX6_letter_26 : decode cX6_letter 26 = .ok (.ifCond .eq 9, 3) := by decide +kernel
theorem dX6_letter_29 : decode cX6_letter 29 = .ok (.aload_n 0, 1) := by decide +kernel
theorem dX6_letter_30 : decode cX6_letter 30 = .ok (.iload_n 2, 1) := by decide +kernel
theorem dX6_letter_31 : decode cX6_letter 31 = .ok (.invokevirtual 34, 3) := by decide +kernel
theorem dX6_letter_34 : decode cX6_letter 34 = .ok (.ireturn, 1) := by decide +kernel
theorem dX6_letter_35 : decode cX6_letter 35 = .ok (.aload_n 0, 1) := by decide +kernel
theorem dX6_letter_36 : decode cX6_letter 36 = .ok (.getfield 22, 3) := by decide +kernel
theorem dX6_letter_39 : decode cX6_letter 39 = .ok (.aload_n 0, 1) := by decide +kernel
theorem dX6_letter_40 : decode cX6_letter 40 = .ok (.getfield 42, 3) := by decide +kernel
theorem dX6_letter_43 : decode cX6_letter 43 = .ok (.iload_n 1, 1) := by decide +kernel
theorem dX6_letter_44 : decode cX6_letter 44 = .ok (.iastore, 1) := by decide +kernel
theorem dX6_letter_45 : decode cX6_letter 45 = .ok (.aload_n 0, 1) := by decide +kernel
theorem dX6_letter_46 : decode cX6_letter 46 = .ok (.dup, 1) := by decide +kernel
theorem dX6_letter_47 : decode cX6_letter 47 = .ok (.getfield 42, 3) := by decide +kernel
theorem dX6_letter_50 : decode cX6_letter 50 = .ok (.iconst 1, 1) := by decide +kernel
theorem dX6_letter_51 : decode cX6_letter 51 = .ok (.iadd, 1) := by decide +kernel
theorem dX6_letter_52 : decode cX6_letter 52 = .ok (.putfield 42, 3) := by decide +kernel
theorem dX6_letter_55 : decode cX6_letter 55 = .ok (.aload_n 0, 1) := by decide +kernel
theorem dX6_letter_56 : decode cX6_letter 56 = .ok (.getfield 42, 3) := by decide +kernel
theorem dX6_letter_59 : decode cX6_letter 59 = .ok (.ireturn, 1) := by decide +kernel
theorem dX6_sign_0 : decode cX6_sign 0 = .ok (.aload_n 0, 1) := by decide +kernel
theorem dX6_sign_1 : decode cX6_sign 1 = .ok (.getfield 46, 3) := by decide +kernel
theorem dX6_sign_4 : decode cX6_sign 4 = .ok (.aload_n 0, 1) := by decide +kernel
theorem dX6_sign_5 : decode cX6_sign 5 = .ok (.getfield 42, 3) := by decide +kernel
theorem dX6_sign_8 : decode cX6_sign 8 = .ok (.if_icmp .ge 15, 3) := by decide +kernel
theorem dX6_sign_11 : decode cX6_sign 11 = .ok (.aload_n 0, 1) := by decide +kernel
theorem dX6_sign_12 : decode cX6_sign 12 = .ok (.getfield 22, 3) := by decide +kernel
theorem dX6_sign_15 : decode cX6_sign 15 = .ok (.aload_n 0, 1) := by decide +kernel
theorem dX6_sign_16 : decode cX6_sign 16 = .ok (.getfield 46, 3) := by decide +kernel
theorem dX6_sign_19 : decode cX6_sign 19 = .ok (.iaload, 1) := by decide +kernel
theorem dX6_sign_20 : decode cX6_sign 20 = .ok (.goto 4, 3) := by decide +kernel
theorem dX6_sign_23 : decode cX6_sign 23 = .ok (.iconst (-1), 1) := by decide +kernel
theorem dX6_sign_24 : decode cX6_sign 24 = .ok (.ireturn, 1) := by decide +kernel
set_option maxRecDepth 20000 in
theorem ggX6_takes_X6_sign : GoodIn wsX6_takes wsX6_sign := goodIn_r _ [6, 1, 7, 8, 9, 10, 11, 12, 13, 14, 15, 16, 17, 18, 19, 20, 21, 22, 23, 24, 25, 26, 27, 28, 29, 30, 31, 32, 33, 34, 35, 36, 37] (by decide +kernel) (by decide +kernel)
set_option maxRecDepth 20000 in
theorem gX6_takes_X6_sign : GoodIn wsX6_takes (wsV RX6 49 RX6 yX6_sign wsX6_sign) := goodIn_app (goodIn_of _ (by decide +kernel)) ggX6_takes_X6_sign
theorem dX6_takes_0 : decode cX6_takes 0 = .ok (.aload_n 0, 1) := by decide +kernel
theorem dX6_takes_1 : decode cX6_takes 1 = .ok (.invokevirtual 49, 3) := by decide +kernel
theorem dX6_takes_4 : decode cX6_takes 4 = .ok (.iload_n 1, 1) := by decide +kernel
theorem dX6_takes_5 : decode cX6_takes 5 = .ok (.if_icmp .eq 5, 3) := by decide +kernel
theorem dX6_takes_8 : decode cX6_takes 8 = .ok (.iconst 0, 1) := by decide +kernel
theorem dX6_takes_9 : decode cX6_takes 9 = .ok (.ireturn, 1) := by decide +kernel
theorem dX6_takes_10 : decode cX6_takes 10 = .ok (.aload_n 0, 1) := by decide +kernel
theorem dX6_takes_11 : decode cX6_takes 11 = .ok (.dup, 1) := by decide +kernel
theorem dX6_takes_12 : decode cX6_takes 12 = .ok (.getfield 46, 3) := by decide +kernel
theorem dX6_takes_15 : decode cX6_takes 15 = .ok (.iconst 1, 1) := by decide +kernel
theorem dX6_takes_16 : decode cX6_takes 16 = .ok (.iadd, 1) := by decide +kernel
theorem dX6_takes_17 : decode cX6_takes 17 = .ok (.putfield 46, 3) := by decide +kernel
theorem dX6_takes_20 : decode cX6_takes 20 = .ok (.iconst 1, 1) := by decide +kernel
theorem dX6_takes_21 : decode cX6_takes 21 = .ok (.ireturn, 1) := by decide +kernel
set_option maxRecDepth 20000 in
theorem ggX6_readsNumber_X6_sign : GoodIn wsX6_readsNumber wsX6_sign := goodIn_r _ [7, 2, 8, 9, 13, 14, 15, 16, 17, 18, 19, 20, 21, 22, 23, 24, 25, 26, 27, 28, 29, 30, 31, 32, 33, 34, 35, 36, 37, 38, 39, 40, 41] (by decide +kernel) (by decide +kernel)
set_option maxRecDepth 20000 in
theorem gX6_readsNumber_X6_sign : GoodIn wsX6_readsNumber (wsV RX6 49 RX6 yX6_sign wsX6_sign) := goodIn_app (goodIn_of _ (by decide +kernel)) ggX6_readsNumber_X6_sign
set_option maxRecDepth 20000 in
theorem ggX6_readsNumber_X6_isIn : GoodIn wsX6_readsNumber wsX6_isIn := goodIn_r _ [12] (by decide +kernel) (by decide +kernel)
set_option maxRecDepth 20000 in
theorem gX6_readsNumber_X6_isIn : GoodIn wsX6_readsNumber (va_wsS RX6 53 yX6_isIn wsX6_isIn) := goodIn_app (goodIn_of _ (by decide +kernel)) ggX6_readsNumber_X6_isIn
theorem dX6_readsNumber_0 : decode cX6_readsNumber 0 = .ok (.aload_n 0, 1) := by decide +kernel
theorem dX6_readsNumber_1 : decode cX6_readsNumber 1 = .ok (.getfield 25, 3) := by decide +kernel
theorem dX6_readsNumber_4 : decode cX6_readsNumber 4 = .ok (.iload_n 1, 1) := by decide +kernel
theorem dX6_readsNumber_5 : decode cX6_readsNumber 5 = .ok (.iconst 0, 1) := by decide +kernel
theorem dX6_readsNumber_6 : decode cX6_readsNumber 6 = .ok (.iastore, 1) := by decide +kernel
theorem dX6_readsNumber_7 : decode cX6_readsNumber 7 = .ok (.iconst 0, 1) := by decide +kernel
theorem dX6_readsNumber_8 : decode cX6_readsNumber 8 = .ok (.istore_n 3, 1) := by decide +kernel
theorem dX6_readsNumber_9 : decode cX6_readsNumber 9 = .ok (.iload_n 3, 1) := by decide +kernel
theorem dX6_readsNumber_10 : decode cX6_readsNumber 10 = .ok (.iload_n 2, 1) := by decide +kernel
theorem dX6_readsNumber_11 : decode cX6_readsNumber 11 = .ok (.if_icmp .ge 57, 3) := by decide +kernel
theorem dX6_readsNumber_14 : decode cX6_readsNumber 14 = .ok (.aload_n 0, 1) := by decide +kernel
theorem dX6_readsNumber_15 : decode cX6_readsNumber 15 = .ok (.invokevirtual 49, 3) := by decide +kernel
theorem dX6_readsNumber_18 : decode cX6_readsNumber 18 = .ok (.bipush 48, 2) := by decide +kernel
theorem dX6_readsNumber_20 : decode cX6_readsNumber 20 = .ok (.isub, 1) := by decide +kernel
theorem dX6_readsNumber_21 : decode cX6_readsNumber 21 = .ok (.bipush 10, 2) := by decide +kernel
theorem dX6_readsNumber_23 : decode cX6_readsNumber 23 = .ok (.invokestatic 53, 3) := by decide +kernel
theorem dX6_readsNumber_26 : decode cX6_readsNumber 26 = .ok (.ifCond .eq 42, 3) := by decide +kernel
theorem dX6_readsNumber_29 : decode cX6_readsNumber 29 = .ok (.aload_n 0, 1) := by decide +kernel
theorem dX6_readsNumber_30 : decode cX6_readsNumber 30 = .ok (.getfield 25, 3) := by decide +kernel
theorem dX6_readsNumber_33 : decode cX6_readsNumber 33 = .ok (.iload_n 1, 1) := by decide +kernel
theorem dX6_readsNumber_34 : decode cX6_readsNumber 34 = .ok (.bipush 10, 2) := by decide +kernel
theorem dX6_readsNumber_36 : decode cX6_readsNumber 36 = .ok (.aload_n 0, 1) := by decide +kernel
theorem dX6_readsNumber_37 : decode cX6_readsNumber 37 = .ok (.getfield 25, 3) := by decide +kernel
theorem dX6_readsNumber_40 : decode cX6_readsNumber 40 = .ok (.iload_n 1, 1) := by decide +kernel
theorem dX6_readsNumber_41 : decode cX6_readsNumber 41 = .ok (.iaload, 1) := by decide +kernel
theorem dX6_readsNumber_42 : decode cX6_readsNumber 42 = .ok (.imul, 1) := by decide +kernel
theorem dX6_readsNumber_43 : decode cX6_readsNumber 43 = .ok (.aload_n 0, 1) := by decide +kernel
theorem dX6_readsNumber_44 : decode cX6_readsNumber 44 = .ok (.invokevirtual 49, 3) := by decide +kernel
theorem dX6_readsNumber_47 : decode cX6_readsNumber 47 = .ok (.iadd, 1) := by decide +kernel
theorem dX6_readsNumber_48 : decode cX6_readsNumber 48 = .ok (.bipush 48, 2) := by decide +kernel
theorem dX6_readsNumber_50 : decode cX6_readsNumber 50 = .ok (.isub, 1) := by decide +kernel
theorem dX6_readsNumber_51 : decode cX6_readsNumber 51 = .ok (.iastore, 1) := by decide +kernel
theorem dX6_readsNumber_52 : decode cX6_readsNumber 52 = .ok (.aload_n 0, 1) := by decide +kernel
theorem dX6_readsNumber_53 : decode cX6_readsNumber 53 = .ok (.dup, 1) := by decide +kernel
theorem dX6_readsNumber_54 : decode cX6_readsNumber 54 = .ok (.getfield 46, 3) := by decide +kernel
theorem dX6_readsNumber_57 : decode cX6_readsNumber 57 = .ok (.iconst 1, 1) := by decide +kernel
theorem dX6_readsNumber_58 : decode cX6_readsNumber 58 = .ok (.iadd, 1) := by decide +kernel
theorem dX6_readsNumber_59 : decode cX6_readsNumber 59 = .ok (.putfield 46, 3) := by decide +kernel
theorem dX6_readsNumber_62 : decode cX6_readsNumber 62 = .ok (.iinc 3 1, 3) := by decide +kernel
theorem dX6_readsNumber_65 : decode cX6_readsNumber 65 = .ok (.goto (-56), 3) := by decide +kernel
theorem dX6_readsNumber_68 : decode cX6_readsNumber 68 = .ok (.iload_n 3, 1) := by decide +kernel
theorem dX6_readsNumber_69 : decode cX6_readsNumber 69 = .ok (.ifCond .le 7, 3) := by decide +kernel
theorem dX6_readsNumber_72 : decode cX6_readsNumber 72 = .ok (.iconst 1, 1) := by decide +kernel
theorem dX6_readsNumber_73 : decode cX6_readsNumber 73 = .ok (.goto 4, 3) := by decide +kernel
theorem dX6_readsNumber_76 : decode cX6_readsNumber 76 = .ok (.iconst 0, 1) := by decide +kernel
theorem dX6_readsNumber_77 : decode cX6_readsNumber 77 = .ok (.ireturn, 1) := by decide +kernel
theorem dX6_kindOf_0 : decode cX6_kindOf 0 = .ok (.iload_n 0, 1) := by decide +kernel
theorem dX6_kindOf_1 : decode cX6_kindOf 1 = .ok (.tableswitch 107 97 116 #[99, 105, 97, 107, 101, 107, 107, 107, 107, 107, 107, 107, 107, 107, 107, 107, 107, 103, 107, 95], 95) := by decide +kernel
theorem dX6_kindOf_96 : decode cX6_kindOf 96 = .ok (.iconst 0, 1) := by decide +kernel
theorem dX6_kindOf_97 : decode cX6_kindOf 97 = .ok (.ireturn, 1) := by decide +kernel
theorem dX6_kindOf_98 : decode cX6_kindOf 98 = .ok (.iconst 1, 1) := by decide +kernel
theorem dX6_kindOf_99 : decode cX6_kindOf 99 = .ok (.ireturn, 1) := by decide +kernel
theorem dX6_kindOf_100 : decode cX6_kindOf 100 = .ok (.iconst 2, 1) := by decide +kernel
theorem dX6_kindOf_101 : decode cX6_kindOf 101 = .ok (.ireturn, 1) := by decide +kernel
theorem dX6_kindOf_102 : decode cX6_kindOf 102 = .ok (.iconst 3, 1) := by decide +kernel
theorem dX6_kindOf_103 : decode cX6_kindOf 103 = .ok (.ireturn, 1) := by decide +kernel
theorem dX6_kindOf_104 : decode cX6_kindOf 104 = .ok (.iconst 4, 1) := by decide +kernel
theorem dX6_kindOf_105 : decode cX6_kindOf 105 = .ok (.ireturn, 1) := by decide +kernel
theorem dX6_kindOf_106 : decode cX6_kindOf 106 = .ok (.iconst 5, 1) := by decide +kernel
theorem dX6_kindOf_107 : decode cX6_kindOf 107 = .ok (.ireturn, 1) := by decide +kernel
theorem dX6_kindOf_108 : decode cX6_kindOf 108 = .ok (.bipush (-9), 2) := by decide +kernel
theorem dX6_kindOf_110 : decode cX6_kindOf 110 = .ok (.ireturn, 1) := by decide +kernel
set_option maxRecDepth 20000 in
theorem ggX6_readsKind_X6_sign : GoodIn wsX6_readsKind wsX6_sign := goodIn_r _ [7, 2, 8, 9, 20, 21, 22, 23, 24, 25, 26, 27, 28, 29, 30, 31, 32, 33, 34, 35, 36, 37, 38, 39, 40, 41, 42, 43, 44, 45, 46, 47, 48] (by decide +kernel) (by decide +kernel)
set_option maxRecDepth 20000 in
theorem gX6_readsKind_X6_sign : GoodIn wsX6_readsKind (wsV RX6 49 RX6 yX6_sign wsX6_sign) := goodIn_app (goodIn_of _ (by decide +kernel)) ggX6_readsKind_X6_sign
set_option maxRecDepth 20000 in
theorem ggX6_readsKind_X6_kindOf : GoodIn wsX6_readsKind wsX6_kindOf := goodIn_r _ [12] (by decide +kernel) (by decide +kernel)
set_option maxRecDepth 20000 in
theorem gX6_readsKind_X6_kindOf : GoodIn wsX6_readsKind (va_wsS RX6 57 yX6_kindOf wsX6_kindOf) := goodIn_app (goodIn_of _ (by decide +kernel)) ggX6_readsKind_X6_kindOf
set_option maxRecDepth 20000 in
theorem ggX6_readsKind_X6_readsNumber : GoodIn wsX6_readsKind wsX6_readsNumber := goodIn_r _ [16, 1, 2, 3, 4, 5, 6, 7, 8, 9, 17, 18, 19, 20, 21, 22, 23, 24, 25, 26, 27, 28, 29, 30, 31, 32, 33, 34, 35, 36, 37, 38, 39, 40, 41, 42, 43, 44, 45, 46, 47, 48] (by decide +kernel) (by decide +kernel)
set_option maxRecDepth 20000 in
theorem gX6_readsKind_X6_readsNumber : GoodIn wsX6_readsKind (wsV RX6 60 RX6 yX6_readsNumber wsX6_readsNumber) := goodIn_app (goodIn_of _ (by decide +kernel)) ggX6_readsKind_X6_readsNumber
theorem dX6_readsKind_0 : decode cX6_readsKind 0 = .ok (.aload_n 0, 1) := by decide +kernel
theorem dX6_readsKind_1 : decode cX6_readsKind 1 = .ok (.getfield 25, 3) := by decide +kernel
theorem dX6_readsKind_4 : decode cX6_readsKind 4 = .ok (.iconst 0, 1) := by decide +kernel
theorem dX6_readsKind_5 : decode cX6_readsKind 5 = .ok (.aload_n 0, 1) := by decide +kernel
theorem dX6_readsKind_6 : decode cX6_readsKind 6 = .ok (.invokevirtual 49, 3) := by decide +kernel
theorem dX6_readsKind_9 : decode cX6_readsKind 9 = .ok (.invokestatic 57, 3) := by decide +kernel
theorem dX6_readsKind_12 : decode cX6_readsKind 12 = .ok (.iastore, 1) := by decide +kernel
theorem dX6_readsKind_13 : decode cX6_readsKind 13 = .ok (.aload_n 0, 1) := by decide +kernel
theorem dX6_readsKind_14 : decode cX6_readsKind 14 = .ok (.getfield 25, 3) := by decide +kernel
theorem dX6_readsKind_17 : decode cX6_readsKind 17 = .ok (.iconst 0, 1) := by decide +kernel
theorem dX6_readsKind_18 : decode cX6_readsKind 18 = .ok (.iaload, 1) := by decide +kernel
theorem dX6_readsKind_19 : decode cX6_readsKind 19 = .ok (.ifCond .ge 5, 3) := by decide +kernel
theorem dX6_readsKind_22 : decode cX6_readsKind 22 = .ok (.iconst 0, 1) := by decide +kernel
theorem dX6_readsKind_23 : decode cX6_readsKind 23 = .ok (.ireturn, 1) := by decide +kernel
theorem dX6_readsKind_24 : decode cX6_readsKind 24 = .ok (.aload_n 0, 1) := by decide +kernel
theorem dX6_readsKind_25 : decode cX6_readsKind 25 = .ok (.dup, 1) := by decide +kernel
theorem dX6_readsKind_26 : decode cX6_readsKind 26 = .ok (.getfield 46, 3) := by decide +kernel
theorem dX6_readsKind_29 : decode cX6_readsKind 29 = .ok (.iconst 1, 1) := by decide +kernel
theorem dX6_readsKind_30 : decode cX6_readsKind 30 = .ok (.iadd, 1) := by decide +kernel
theorem dX6_readsKind_31 : decode cX6_readsKind 31 = .ok (.putfield 46, 3) := by decide +kernel
theorem dX6_readsKind_34 : decode cX6_readsKind 34 = .ok (.aload_n 0, 1) := by decide +kernel
theorem dX6_readsKind_35 : decode cX6_readsKind 35 = .ok (.iconst 1, 1) := by decide +kernel
theorem dX6_readsKind_36 : decode cX6_readsKind 36 = .ok (.iconst 1, 1) := by decide +kernel
theorem dX6_readsKind_37 : decode cX6_readsKind 37 = .ok (.invokevirtual 60, 3) := by decide +kernel
theorem dX6_readsKind_40 : decode cX6_readsKind 40 = .ok (.ireturn, 1) := by decide +kernel
set_option maxRecDepth 20000 in
theorem ggX6_readsLean_X6_sign : GoodIn wsX6_readsLean wsX6_sign := goodIn_r _ [7, 1, 8, 9, 17, 18, 19, 20, 21, 22, 23, 24, 25, 26, 27, 28, 29, 30, 31, 32, 33, 34, 35, 36, 37, 38, 39, 40, 41, 42, 43, 44, 45] (by decide +kernel) (by decide +kernel)
set_option maxRecDepth 20000 in
theorem gX6_readsLean_X6_sign : GoodIn wsX6_readsLean (wsV RX6 49 RX6 yX6_sign wsX6_sign) := goodIn_app (goodIn_of _ (by decide +kernel)) ggX6_readsLean_X6_sign
set_option maxRecDepth 20000 in
theorem ggX6_readsLean_X6_readsNumber : GoodIn wsX6_readsLean wsX6_readsNumber := goodIn_r _ [13, 2, 1, 3, 4, 5, 6, 7, 8, 9, 14, 15, 16, 17, 18, 19, 20, 21, 22, 23, 24, 25, 26, 27, 28, 29, 30, 31, 32, 33, 34, 35, 36, 37, 38, 39, 40, 41, 42, 43, 44, 45] (by decide +kernel) (by decide +kernel)
set_option maxRecDepth 20000 in
theorem gX6_readsLean_X6_readsNumber : GoodIn wsX6_readsLean (wsV RX6 60 RX6 yX6_readsNumber wsX6_readsNumber) := goodIn_app (goodIn_of _ (by decide +kernel)) ggX6_readsLean_X6_readsNumber
theorem dX6_readsLean_0 : decode cX6_readsLean 0 = .ok (.aload_n 0, 1) := by decide +kernel
theorem dX6_readsLean_1 : decode cX6_readsLean 1 = .ok (.invokevirtual 49, 3) := by decide +kernel
theorem dX6_readsLean_4 : decode cX6_readsLean 4 = .ok (.istore_n 1, 1) := by decide +kernel
theorem dX6_readsLean_5 : decode cX6_readsLean 5 = .ok (.iload_n 1, 1) := by decide +kernel
theorem dX6_readsLean_6 : decode cX6_readsLean 6 = .ok (.bipush 43, 2) := by decide +kernel
theorem dX6_readsLean_8 : decode cX6_readsLean 8 = .ok (.if_icmp .eq 11, 3) := by decide +kernel
theorem dX6_readsLean_11 : decode cX6_readsLean 11 = .ok (.iload_n 1, 1) := by decide +kernel
theorem dX6_readsLean_12 : decode cX6_readsLean 12 = .ok (.bipush 45, 2) := by decide +kernel
theorem dX6_readsLean_14 : decode cX6_readsLean 14 = .ok (.if_icmp .eq 5, 3) := by decide +kernel
theorem dX6_readsLean_17 : decode cX6_readsLean 17 = .ok (.iconst 0, 1) := by decide +kernel
theorem dX6_readsLean_18 : decode cX6_readsLean 18 = .ok (.ireturn, 1) := by decide +kernel
theorem dX6_readsLean_19 : decode cX6_readsLean 19 = .ok (.aload_n 0, 1) := by decide +kernel
theorem dX6_readsLean_20 : decode cX6_readsLean 20 = .ok (.dup, 1) := by decide +kernel
theorem dX6_readsLean_21 : decode cX6_readsLean 21 = .ok (.getfield 46, 3) := by decide +kernel
theorem dX6_readsLean_24 : decode cX6_readsLean 24 = .ok (.iconst 1, 1) := by decide +kernel
theorem dX6_readsLean_25 : decode cX6_readsLean 25 = .ok (.iadd, 1) := by decide +kernel
theorem dX6_readsLean_26 : decode cX6_readsLean 26 = .ok (.putfield 46, 3) := by decide +kernel
theorem dX6_readsLean_29 : decode cX6_readsLean 29 = .ok (.aload_n 0, 1) := by decide +kernel
theorem dX6_readsLean_30 : decode cX6_readsLean 30 = .ok (.iconst 0, 1) := by decide +kernel
theorem dX6_readsLean_31 : decode cX6_readsLean 31 = .ok (.iconst 1, 1) := by decide +kernel
theorem dX6_readsLean_32 : decode cX6_readsLean 32 = .ok (.invokevirtual 60, 3) := by decide +kernel
theorem dX6_readsLean_35 : decode cX6_readsLean 35 = .ok (.ifCond .ne 5, 3) := by decide +kernel
theorem dX6_readsLean_38 : decode cX6_readsLean 38 = .ok (.iconst 0, 1) := by decide +kernel
theorem dX6_readsLean_39 : decode cX6_readsLean 39 = .ok (.ireturn, 1) := by decide +kernel
theorem dX6_readsLean_40 : decode cX6_readsLean 40 = .ok (.aload_n 0, 1) := by decide +kernel
theorem dX6_readsLean_41 : decode cX6_readsLean 41 = .ok (.getfield 25, 3) := by decide +kernel
theorem dX6_readsLean_44 : decode cX6_readsLean 44 = .ok (.iconst 0, 1) := by decide +kernel
theorem dX6_readsLean_45 : decode cX6_readsLean 45 = .ok (.iload_n 1, 1) := by decide +kernel
theorem dX6_readsLean_46 : decode cX6_readsLean 46 = .ok (.bipush 45, 2) := by decide +kernel
theorem dX6_readsLean_48 : decode cX6_readsLean 48 = .ok (.if_icmp .ne 13, 3) := by decide +kernel
theorem dX6_readsLean_51 : decode cX6_readsLean 51 = .ok (.aload_n 0, 1) := by decide +kernel
theorem dX6_readsLean_52 : decode cX6_readsLean 52 = .ok (.getfield 25, 3) := by decide +kernel
theorem dX6_readsLean_55 : decode cX6_readsLean 55 = .ok (.iconst 0, 1) := by decide +kernel
theorem dX6_readsLean_56 : decode cX6_readsLean 56 = .ok (.iaload, 1) := by decide +kernel
theorem dX6_readsLean_57 : decode cX6_readsLean 57 = .ok (.ineg, 1) := by decide +kernel
theorem dX6_readsLean_58 : decode cX6_readsLean 58 = .ok (.goto 9, 3) := by decide +kernel
theorem dX6_readsLean_61 : decode cX6_readsLean 61 = .ok (.aload_n 0, 1) := by decide +kernel
theorem dX6_readsLean_62 : decode cX6_readsLean 62 = .ok (.getfield 25, 3) := by decide +kernel
theorem dX6_readsLean_65 : decode cX6_readsLean 65 = .ok (.iconst 0, 1) := by decide +kernel
theorem dX6_readsLean_66 : decode cX6_readsLean 66 = .ok (.iaload, 1) := by decide +kernel
theorem dX6_readsLean_67 : decode cX6_readsLean 67 = .ok (.iastore, 1) := by decide +kernel
theorem dX6_readsLean_68 : decode cX6_readsLean 68 = .ok (.iconst 1, 1) := by decide +kernel
theorem dX6_readsLean_69 : decode cX6_readsLean 69 = .ok (.ireturn, 1) := by decide +kernel
set_option maxRecDepth 20000 in
theorem ggX6_readsFamily_X6_sign : GoodIn wsX6_readsFamily wsX6_sign := goodIn_r _ [7, 2, 8, 9, 10, 11, 12, 13, 14, 15, 16, 17, 18, 19, 20, 21, 22, 23, 24, 25, 26, 27, 28, 29, 30, 31, 32, 33, 34, 35, 36, 37, 38] (by decide +kernel) (by decide +kernel)
set_option maxRecDepth 20000 in
theorem gX6_readsFamily_X6_sign : GoodIn wsX6_readsFamily (wsV RX6 49 RX6 yX6_sign wsX6_sign) := goodIn_app (goodIn_of _ (by decide +kernel)) ggX6_readsFamily_X6_sign
theorem dX6_readsFamily_0 : decode cX6_readsFamily 0 = .ok (.aload_n 0, 1) := by decide +kernel
theorem dX6_readsFamily_1 : decode cX6_readsFamily 1 = .ok (.getfield 25, 3) := by decide +kernel
theorem dX6_readsFamily_4 : decode cX6_readsFamily 4 = .ok (.iconst 0, 1) := by decide +kernel
theorem dX6_readsFamily_5 : decode cX6_readsFamily 5 = .ok (.iconst 0, 1) := by decide +kernel
theorem dX6_readsFamily_6 : decode cX6_readsFamily 6 = .ok (.iastore, 1) := by decide +kernel
theorem dX6_readsFamily_7 : decode cX6_readsFamily 7 = .ok (.aload_n 0, 1) := by decide +kernel
theorem dX6_readsFamily_8 : decode cX6_readsFamily 8 = .ok (.getfield 25, 3) := by decide +kernel
theorem dX6_readsFamily_11 : decode cX6_readsFamily 11 = .ok (.iconst 1, 1) := by decide +kernel
theorem dX6_readsFamily_12 : decode cX6_readsFamily 12 = .ok (.iconst 0, 1) := by decide +kernel
theorem dX6_readsFamily_13 : decode cX6_readsFamily 13 = .ok (.iastore, 1) := by decide +kernel
theorem dX6_readsFamily_14 : decode cX6_readsFamily 14 = .ok (.aload_n 0, 1) := by decide +kernel
theorem dX6_readsFamily_15 : decode cX6_readsFamily 15 = .ok (.getfield 25, 3) := by decide +kernel
theorem dX6_readsFamily_18 : decode cX6_readsFamily 18 = .ok (.iconst 0, 1) := by decide +kernel
theorem dX6_readsFamily_19 : decode cX6_readsFamily 19 = .ok (.iaload, 1) := by decide +kernel
theorem dX6_readsFamily_20 : decode cX6_readsFamily 20 = .ok (.bipush 10, 2) := by decide +kernel
theorem dX6_readsFamily_22 : decode cX6_readsFamily 22 = .ok (.if_icmp .ge 67, 3) := by decide +kernel
theorem dX6_readsFamily_25 : decode cX6_readsFamily 25 = .ok (.aload_n 0, 1) := by decide +kernel
theorem dX6_readsFamily_26 : decode cX6_readsFamily 26 = .ok (.invokevirtual 49, 3) := by decide +kernel
theorem dX6_readsFamily_29 : decode cX6_readsFamily 29 = .ok (.bipush 48, 2) := by decide +kernel
theorem dX6_readsFamily_31 : decode cX6_readsFamily 31 = .ok (.if_icmp .eq 12, 3) := by decide +kernel
theorem dX6_readsFamily_34 : decode cX6_readsFamily 34 = .ok (.aload_n 0, 1) := by decide +kernel
theorem dX6_readsFamily_35 : decode cX6_readsFamily 35 = .ok (.invokevirtual 49, 3) := by decide +kernel
theorem dX6_readsFamily_38 : decode cX6_readsFamily 38 = .ok (.bipush 49, 2) := by decide +kernel
theorem dX6_readsFamily_40 : decode cX6_readsFamily 40 = .ok (.if_icmp .ne 49, 3) := by decide +kernel
theorem dX6_readsFamily_43 : decode cX6_readsFamily 43 = .ok (.aload_n 0, 1) := by decide +kernel
theorem dX6_readsFamily_44 : decode cX6_readsFamily 44 = .ok (.getfield 25, 3) := by decide +kernel
theorem dX6_readsFamily_47 : decode cX6_readsFamily 47 = .ok (.iconst 1, 1) := by decide +kernel
theorem dX6_readsFamily_48 : decode cX6_readsFamily 48 = .ok (.dup2, 1) := by decide +kernel
theorem dX6_readsFamily_49 : decode cX6_readsFamily 49 = .ok (.iaload, 1) := by decide +kernel
theorem dX6_readsFamily_50 : decode cX6_readsFamily 50 = .ok (.aload_n 0, 1) := by decide +kernel
theorem dX6_readsFamily_51 : decode cX6_readsFamily 51 = .ok (.invokevirtual 49, 3) := by decide +kernel
theorem dX6_readsFamily_54 : decode cX6_readsFamily 54 = .ok (.bipush 48, 2) := by decide +kernel
theorem dX6_readsFamily_56 : decode cX6_readsFamily 56 = .ok (.isub, 1) := by decide +kernel
theorem dX6_readsFamily_57 : decode cX6_readsFamily 57 = .ok (.aload_n 0, 1) := by decide +kernel
theorem dX6_readsFamily_58 : decode cX6_readsFamily 58 = .ok (.getfield 25, 3) := by decide +kernel
theorem dX6_readsFamily_61 : decode cX6_readsFamily 61 = .ok (.iconst 0, 1) := by decide +kernel
theorem dX6_readsFamily_62 : decode cX6_readsFamily 62 = .ok (.iaload, 1) := by decide +kernel
theorem dX6_readsFamily_63 : decode cX6_readsFamily 63 = .ok (.ishl, 1) := by decide +kernel
theorem dX6_readsFamily_64 : decode cX6_readsFamily 64 = .ok (.ior, 1) := by decide +kernel
theorem dX6_readsFamily_65 : decode cX6_readsFamily 65 = .ok (.iastore, 1) := by decide +kernel
theorem dX6_readsFamily_66 : decode cX6_readsFamily 66 = .ok (.aload_n 0, 1) := by decide +kernel
theorem dX6_readsFamily_67 : decode cX6_readsFamily 67 = .ok (.getfield 25, 3) := by decide +kernel
theorem dX6_readsFamily_70 : decode cX6_readsFamily 70 = .ok (.iconst 0, 1) := by decide +kernel
theorem dX6_readsFamily_71 : decode cX6_readsFamily 71 = .ok (.dup2, 1) := by decide +kernel
theorem dX6_readsFamily_72 : decode cX6_readsFamily 72 = .ok (.iaload, 1) := by decide +kernel
theorem dX6_readsFamily_73 : decode cX6_readsFamily 73 = .ok (.iconst 1, 1) := by decide +kernel
theorem dX6_readsFamily_74 : decode cX6_readsFamily 74 = .ok (.iadd, 1) := by decide +kernel
theorem dX6_readsFamily_75 : decode cX6_readsFamily 75 = .ok (.iastore, 1) := by decide +kernel
theorem dX6_readsFamily_76 : decode cX6_readsFamily 76 = .ok (.aload_n 0, 1) := by decide +kernel
theorem dX6_readsFamily_77 : decode cX6_readsFamily 77 = .ok (.dup, 1) := by decide +kernel
theorem dX6_readsFamily_78 : decode cX6_readsFamily 78 = .ok (.getfield 46, 3) := by decide +kernel
theorem dX6_readsFamily_81 : decode cX6_readsFamily 81 = .ok (.iconst 1, 1) := by decide +kernel
theorem dX6_readsFamily_82 : decode cX6_readsFamily 82 = .ok (.iadd, 1) := by decide +kernel
theorem dX6_readsFamily_83 : decode cX6_readsFamily 83 = .ok (.putfield 46, 3) := by decide +kernel
theorem dX6_readsFamily_86 : decode cX6_readsFamily 86 = .ok (.goto (-72), 3) := by decide +kernel
theorem dX6_readsFamily_89 : decode cX6_readsFamily 89 = .ok (.aload_n 0, 1) := by decide +kernel
theorem dX6_readsFamily_90 : decode cX6_readsFamily 90 = .ok (.getfield 25, 3) := by decide +kernel
theorem dX6_readsFamily_93 : decode cX6_readsFamily 93 = .ok (.iconst 0, 1) := by decide +kernel
theorem dX6_readsFamily_94 : decode cX6_readsFamily 94 = .ok (.iaload, 1) := by decide +kernel
theorem dX6_readsFamily_95 : decode cX6_readsFamily 95 = .ok (.ifCond .le 7, 3) := by decide +kernel
theorem dX6_readsFamily_98 : decode cX6_readsFamily 98 = .ok (.iconst 1, 1) := by decide +kernel
theorem dX6_readsFamily_99 : decode cX6_readsFamily 99 = .ok (.goto 4, 3) := by decide +kernel
theorem dX6_readsFamily_102 : decode cX6_readsFamily 102 = .ok (.iconst 0, 1) := by decide +kernel
theorem dX6_readsFamily_103 : decode cX6_readsFamily 103 = .ok (.ireturn, 1) := by decide +kernel
set_option maxRecDepth 20000 in
theorem ggX6_readsStatement_X6_sign : GoodIn wsX6_readsStatement wsX6_sign := goodIn_r _ [6, 1, 7, 8, 36, 37, 38, 39, 40, 41, 42, 43, 44, 45, 46, 47, 48, 49, 50, 51, 52, 53, 54, 55, 56, 57, 58, 59, 60, 61, 62, 63, 64] (by decide +kernel) (by decide +kernel)
set_option maxRecDepth 20000 in
theorem gX6_readsStatement_X6_sign : GoodIn wsX6_readsStatement (wsV RX6 49 RX6 yX6_sign wsX6_sign) := goodIn_app (goodIn_of _ (by decide +kernel)) ggX6_readsStatement_X6_sign
set_option maxRecDepth 20000 in
theorem ggX6_readsStatement_X6_readsKind : GoodIn wsX6_readsStatement wsX6_readsKind := goodIn_r _ [12, 13, 1, 2, 3, 4, 5, 6, 7, 8, 14, 15, 16, 17, 18, 19, 20, 21, 22, 23, 36, 37, 38, 39, 40, 41, 42, 43, 44, 45, 46, 47, 48, 49, 50, 51, 52, 53, 54, 55, 56, 57, 58, 59, 60, 61, 62, 63, 64] (by decide +kernel) (by decide +kernel)
set_option maxRecDepth 20000 in
theorem gX6_readsStatement_X6_readsKind : GoodIn wsX6_readsStatement (wsV RX6 63 RX6 yX6_readsKind wsX6_readsKind) := goodIn_app (goodIn_of _ (by decide +kernel)) ggX6_readsStatement_X6_readsKind
set_option maxRecDepth 20000 in
theorem ggX6_readsStatement_X6_readsNumber : GoodIn wsX6_readsStatement wsX6_readsNumber := goodIn_r _ [20, 13, 1, 2, 3, 4, 5, 6, 7, 8, 21, 22, 23, 36, 37, 38, 39, 40, 41, 42, 43, 44, 45, 46, 47, 48, 49, 50, 51, 52, 53, 54, 55, 56, 57, 58, 59, 60, 61, 62, 63, 64] (by decide +kernel) (by decide +kernel)
set_option maxRecDepth 20000 in
theorem gX6_readsStatement_X6_readsNumber : GoodIn wsX6_readsStatement (wsV RX6 60 RX6 yX6_readsNumber wsX6_readsNumber) := goodIn_app (goodIn_of _ (by decide +kernel)) ggX6_readsStatement_X6_readsNumber
set_option maxRecDepth 20000 in
theorem ggX6_readsStatement_X6_readsLean : GoodIn wsX6_readsStatement wsX6_readsLean := goodIn_r _ [27, 1, 13, 2, 3, 4, 5, 6, 7, 8, 17, 18, 19, 20, 21, 22, 23, 36, 37, 38, 39, 40, 41, 42, 43, 44, 45, 46, 47, 48, 49, 50, 51, 52, 53, 54, 55, 56, 57, 58, 59, 60, 61, 62, 63, 64] (by decide +kernel) (by decide +kernel)
set_option maxRecDepth 20000 in
theorem gX6_readsStatement_X6_readsLean : GoodIn wsX6_readsStatement (wsV RX6 67 RX6 yX6_readsLean wsX6_readsLean) := goodIn_app (goodIn_of _ (by decide +kernel)) ggX6_readsStatement_X6_readsLean
set_option maxRecDepth 20000 in
theorem ggX6_readsStatement_X6_readsFamily : GoodIn wsX6_readsStatement wsX6_readsFamily := goodIn_r _ [31, 13, 1, 2, 3, 4, 5, 6, 7, 8, 36, 37, 38, 39, 40, 41, 42, 43, 44, 45, 46, 47, 48, 49, 50, 51, 52, 53, 54, 55, 56, 57, 58, 59, 60, 61, 62, 63, 64] (by decide +kernel) (by decide +kernel)
set_option maxRecDepth 20000 in
theorem gX6_readsStatement_X6_readsFamily : GoodIn wsX6_readsStatement (wsV RX6 70 RX6 yX6_readsFamily wsX6_readsFamily) := goodIn_app (goodIn_of _ (by decide +kernel)) ggX6_readsStatement_X6_readsFamily
set_option maxRecDepth 20000 in
theorem ggX6_readsStatement_X6_takes : GoodIn wsX6_readsStatement wsX6_takes := goodIn_r _ [35, 1, 2, 3, 4, 5, 6, 7, 8, 36, 37, 38, 39, 40, 41, 42, 43, 44, 45, 46, 47, 48, 49, 50, 51, 52, 53, 54, 55, 56, 57, 58, 59, 60, 61, 62, 63, 64] (by decide +kernel) (by decide +kernel)
set_option maxRecDepth 20000 in
theorem gX6_readsStatement_X6_takes : GoodIn wsX6_readsStatement (wsV RX6 73 RX6 yX6_takes wsX6_takes) := goodIn_app (goodIn_of _ (by decide +kernel)) ggX6_readsStatement_X6_takes
theorem dX6_readsStatement_0 : decode cX6_readsStatement 0 = .ok (.aload_n 0, 1) := by decide +kernel
theorem dX6_readsStatement_1 : decode cX6_readsStatement 1 = .ok (.invokevirtual 49, 3) := by decide +kernel
theorem dX6_readsStatement_4 : decode cX6_readsStatement 4 = .ok (.istore_n 1, 1) := by decide +kernel
theorem dX6_readsStatement_5 : decode cX6_readsStatement 5 = .ok (.iconst 0, 1) := by decide +kernel
theorem dX6_readsStatement_6 : decode cX6_readsStatement 6 = .ok (.istore_n 2, 1) := by decide +kernel
theorem dX6_readsStatement_7 : decode cX6_readsStatement 7 = .ok (.aload_n 0, 1) := by decide +kernel
theorem dX6_readsStatement_8 : decode cX6_readsStatement 8 = .ok (.dup, 1) := by decide +kernel
theorem dX6_readsStatement_9 : decode cX6_readsStatement 9 = .ok (.getfield 46, 3) := by decide +kernel
theorem dX6_readsStatement_12 : decode cX6_readsStatement 12 = .ok (.iconst 1, 1) := by decide +kernel
theorem dX6_readsStatement_13 : decode cX6_readsStatement 13 = .ok (.iadd, 1) := by decide +kernel
theorem dX6_readsStatement_14 : decode cX6_readsStatement 14 = .ok (.putfield 46, 3) := by decide +kernel
theorem dX6_readsStatement_17 : decode cX6_readsStatement 17 = .ok (.iload_n 1, 1) := by decide +kernel
theorem dX6_readsStatement_18 : decode cX6_readsStatement 18 = .ok (.tableswitch 96 99 110 #[70, 96, 96, 88, 96, 96, 96, 96, 96, 62, 70, 80], 62) := by decide +kernel
theorem dX6_readsStatement_80 : decode cX6_readsStatement 80 = .ok (.aload_n 0, 1) := by decide +kernel
theorem dX6_readsStatement_81 : decode cX6_readsStatement 81 = .ok (.invokevirtual 63, 3) := by decide +kernel
theorem dX6_readsStatement_84 : decode cX6_readsStatement 84 = .ok (.istore_n 2, 1) := by decide +kernel
theorem dX6_readsStatement_85 : decode cX6_readsStatement 85 = .ok (.goto 41, 3) := by decide +kernel
theorem dX6_readsStatement_88 : decode cX6_readsStatement 88 = .ok (.aload_n 0, 1) := by decide +kernel
theorem dX6_readsStatement_89 : decode cX6_readsStatement 89 = .ok (.iconst 0, 1) := by decide +kernel
theorem dX6_readsStatement_90 : decode cX6_readsStatement 90 = .ok (.iconst 2, 1) := by decide +kernel
theorem dX6_readsStatement_91 : decode cX6_readsStatement 91 = .ok (.invokevirtual 60, 3) := by decide +kernel
theorem dX6_readsStatement_94 : decode cX6_readsStatement 94 = .ok (.istore_n 2, 1) := by decide +kernel
theorem dX6_readsStatement_95 : decode cX6_readsStatement 95 = .ok (.goto 31, 3) := by decide +kernel
theorem dX6_readsStatement_98 : decode cX6_readsStatement 98 = .ok (.aload_n 0, 1) := by decide +kernel
theorem dX6_readsStatement_99 : decode cX6_readsStatement 99 = .ok (.invokevirtual 67, 3) := by decide +kernel
theorem dX6_readsStatement_102 : decode cX6_readsStatement 102 = .ok (.istore_n 2, 1) := by decide +kernel
theorem dX6_readsStatement_103 : decode cX6_readsStatement 103 = .ok (.goto 23, 3) := by decide +kernel
theorem dX6_readsStatement_106 : decode cX6_readsStatement 106 = .ok (.aload_n 0, 1) := by decide +kernel
theorem dX6_readsStatement_107 : decode cX6_readsStatement 107 = .ok (.invokevirtual 70, 3) := by decide +kernel
theorem dX6_readsStatement_110 : decode cX6_readsStatement 110 = .ok (.istore_n 2, 1) := by decide +kernel
theorem dX6_readsStatement_111 : decode cX6_readsStatement 111 = .ok (.goto 15, 3) := by decide +kernel
theorem dX6_readsStatement_114 : decode cX6_readsStatement 114 = .ok (.aload_n 0, 1) := by decide +kernel
theorem dX6_readsStatement_115 : decode cX6_readsStatement 115 = .ok (.dup, 1) := by decide +kernel
theorem dX6_readsStatement_116 : decode cX6_readsStatement 116 = .ok (.getfield 46, 3) := by decide +kernel
theorem dX6_readsStatement_119 : decode cX6_readsStatement 119 = .ok (.iconst 1, 1) := by decide +kernel
theorem dX6_readsStatement_120 : decode cX6_readsStatement 120 = .ok (.isub, 1) := by decide +kernel
theorem dX6_readsStatement_121 : decode cX6_readsStatement 121 = .ok (.putfield 46, 3) := by decide +kernel
theorem dX6_readsStatement_124 : decode cX6_readsStatement 124 = .ok (.iconst 0, 1) := by decide +kernel
theorem dX6_readsStatement_125 : decode cX6_readsStatement 125 = .ok (.ireturn, 1) := by decide +kernel
theorem dX6_readsStatement_126 : decode cX6_readsStatement 126 = .ok (.iload_n 2, 1) := by decide +kernel
theorem dX6_readsStatement_127 : decode cX6_readsStatement 127 = .ok (.ifCond .eq 16, 3) := by decide +kernel
theorem dX6_readsStatement_130 : decode cX6_readsStatement 130 = .ok (.aload_n 0, 1) := by decide +kernel
theorem dX6_readsStatement_131 : decode cX6_readsStatement 131 = .ok (.bipush 59, 2) := by decide +kernel
theorem dX6_readsStatement_133 : decode cX6_readsStatement 133 = .ok (.invokevirtual 73, 3) := by decide +kernel
theorem dX6_readsStatement_136 : decode cX6_readsStatement 136 = .ok (.ifCond .eq 7, 3) := by decide +kernel
theorem dX6_readsStatement_139 : decode cX6_readsStatement 139 = .ok (.iconst 1, 1) := by decide +kernel
theorem dX6_readsStatement_140 : decode cX6_readsStatement 140 = .ok (.goto 4, 3) := by decide +kernel
theorem dX6_readsStatement_143 : decode cX6_readsStatement 143 = .ok (.iconst 0, 1) := by decide +kernel
theorem dX6_readsStatement_144 : decode cX6_readsStatement 144 = .ok (.ireturn, 1) := by decide +kernel
theorem dX6_comes_0 : decode cX6_comes 0 = .ok (.aload_n 0, 1) := by decide +kernel
theorem dX6_comes_1 : decode cX6_comes 1 = .ok (.getfield 25, 3) := by decide +kernel
theorem dX6_comes_4 : decode cX6_comes 4 = .ok (.iconst 0, 1) := by decide +kernel
theorem dX6_comes_5 : decode cX6_comes 5 = .ok (.iaload, 1) := by decide +kernel
theorem dX6_comes_6 : decode cX6_comes 6 = .ok (.istore_n 2, 1) := by decide +kernel
theorem dX6_comes_7 : decode cX6_comes 7 = .ok (.iload_n 1, 1) := by decide +kernel
theorem dX6_comes_8 : decode cX6_comes 8 = .ok (.lookupswitch 151 #[(99, 101), (108, 44), (109, 77), (110, 125)], 44) := by decide +kernel
theorem dX6_comes_52 : decode cX6_comes 52 = .ok (.aload_n 0, 1) := by decide +kernel
theorem dX6_comes_53 : decode cX6_comes 53 = .ok (.getfield 25, 3) := by decide +kernel
theorem dX6_comes_56 : decode cX6_comes 56 = .ok (.iconst 1, 1) := by decide +kernel
theorem dX6_comes_57 : decode cX6_comes 57 = .ok (.iaload, 1) := by decide +kernel
theorem dX6_comes_58 : decode cX6_comes 58 = .ok (.iconst 1, 1) := by decide +kernel
theorem dX6_comes_59 : decode cX6_comes 59 = .ok (.if_icmp .ge 5, 3) := by decide +kernel
theorem dX6_comes_62 : decode cX6_comes 62 = .ok (.iconst 0, 1) := by decide +kernel
theorem dX6_comes_63 : decode cX6_comes 63 = .ok (.ireturn, 1) := by decide +kernel
theorem dX6_comes_64 : decode cX6_comes 64 = .ok (.aload_n 0, 1) := by decide +kernel
theorem dX6_comes_65 : decode cX6_comes 65 = .ok (.getfield 19, 3) := by decide +kernel
theorem dX6_comes_68 : decode cX6_comes 68 = .ok (.iconst 3, 1) := by decide +kernel
theorem dX6_comes_69 : decode cX6_comes 69 = .ok (.iload_n 2, 1) := by decide +kernel
theorem dX6_comes_70 : decode cX6_comes 70 = .ok (.iastore, 1) := by decide +kernel
theorem dX6_comes_71 : decode cX6_comes 71 = .ok (.aload_n 0, 1) := by decide +kernel
theorem dX6_comes_72 : decode cX6_comes 72 = .ok (.getfield 19, 3) := by decide +kernel
theorem dX6_comes_75 : decode cX6_comes 75 = .ok (.iconst 4, 1) := by decide +kernel
theorem dX6_comes_76 : decode cX6_comes 76 = .ok (.aload_n 0, 1) := by decide +kernel
theorem dX6_comes_77 : decode cX6_comes 77 = .ok (.getfield 25, 3) := by decide +kernel
theorem dX6_comes_80 : decode cX6_comes 80 = .ok (.iconst 1, 1) := by decide +kernel
theorem dX6_comes_81 : decode cX6_comes 81 = .ok (.iaload, 1) := by decide +kernel
theorem dX6_comes_82 : decode cX6_comes 82 = .ok (.iastore, 1) := by decide +kernel
theorem dX6_comes_83 : decode cX6_comes 83 = .ok (.iconst 1, 1) := by decide +kernel
theorem dX6_comes_84 : decode cX6_comes 84 = .ok (.ireturn, 1) := by decide +kernel
theorem dX6_comes_85 : decode cX6_comes 85 = .ok (.aload_n 0, 1) := by decide +kernel
theorem dX6_comes_86 : decode cX6_comes 86 = .ok (.getfield 19, 3) := by decide +kernel
theorem dX6_comes_89 : decode cX6_comes 89 = .ok (.iconst 0, 1) := by decide +kernel
theorem dX6_comes_90 : decode cX6_comes 90 = .ok (.iload_n 2, 1) := by decide +kernel
theorem dX6_comes_91 : decode cX6_comes 91 = .ok (.iastore, 1) := by decide +kernel
theorem dX6_comes_92 : decode cX6_comes 92 = .ok (.iload_n 2, 1) := by decide +kernel
theorem dX6_comes_93 : decode cX6_comes 93 = .ok (.iconst 1, 1) := by decide +kernel
theorem dX6_comes_94 : decode cX6_comes 94 = .ok (.if_icmp .lt 13, 3) := by decide +kernel
theorem dX6_comes_97 : decode cX6_comes 97 = .ok (.iload_n 2, 1) := by decide +kernel
theorem dX6_comes_98 : decode cX6_comes 98 = .ok (.bipush 10, 2) := by decide +kernel
theorem dX6_comes_100 : decode cX6_comes 100 = .ok (.if_icmp .gt 7, 3) := by decide +kernel
theorem dX6_comes_103 : decode cX6_comes 103 = .ok (.iconst 1, 1) := by decide +kernel
theorem dX6_comes_104 : decode cX6_comes 104 = .ok (.goto 4, 3) := by decide +kernel
theorem dX6_comes_107 : decode cX6_comes 107 = .ok (.iconst 0, 1) := by decide +kernel
theorem dX6_comes_108 : decode cX6_comes 108 = .ok (.ireturn, 1) := by decide +kernel
theorem dX6_comes_109 : decode cX6_comes 109 = .ok (.aload_n 0, 1) := by decide +kernel
theorem dX6_comes_110 : decode cX6_comes 110 = .ok (.getfield 19, 3) := by decide +kernel
theorem dX6_comes_113 : decode cX6_comes 113 = .ok (.iconst 1, 1) := by decide +kernel
theorem dX6_comes_114 : decode cX6_comes 114 = .ok (.iload_n 2, 1) := by decide +kernel
theorem dX6_comes_115 : decode cX6_comes 115 = .ok (.iastore, 1) := by decide +kernel
theorem dX6_comes_116 : decode cX6_comes 116 = .ok (.iload_n 2, 1) := by decide +kernel
theorem dX6_comes_117 : decode cX6_comes 117 = .ok (.iconst 1, 1) := by decide +kernel
theorem dX6_comes_118 : decode cX6_comes 118 = .ok (.if_icmp .lt 13, 3) := by decide +kernel
theorem dX6_comes_121 : decode cX6_comes 121 = .ok (.iload_n 2, 1) := by decide +kernel
theorem dX6_comes_122 : decode cX6_comes 122 = .ok (.bipush 11, 2) := by decide +kernel
theorem dX6_comes_124 : decode cX6_comes 124 = .ok (.if_icmp .gt 7, 3) := by decide +kernel
theorem dX6_comes_127 : decode cX6_comes 127 = .ok (.iconst 1, 1) := by decide +kernel
theorem dX6_comes_128 : decode cX6_comes 128 = .ok (.goto 4, 3) := by decide +kernel
theorem dX6_comes_131 : decode cX6_comes 131 = .ok (.iconst 0, 1) := by decide +kernel
theorem dX6_comes_132 : decode cX6_comes 132 = .ok (.ireturn, 1) := by decide +kernel
theorem dX6_comes_133 : decode cX6_comes 133 = .ok (.aload_n 0, 1) := by decide +kernel
theorem dX6_comes_134 : decode cX6_comes 134 = .ok (.getfield 19, 3) := by decide +kernel
theorem dX6_comes_137 : decode cX6_comes 137 = .ok (.iconst 2, 1) := by decide +kernel
theorem dX6_comes_138 : decode cX6_comes 138 = .ok (.iconst 5, 1) := by decide +kernel
theorem dX6_comes_139 : decode cX6_comes 139 = .ok (.iload_n 2, 1) := by decide +kernel
theorem dX6_comes_140 : decode cX6_comes 140 = .ok (.iadd, 1) := by decide +kernel
theorem dX6_comes_141 : decode cX6_comes 141 = .ok (.iastore, 1) := by decide +kernel
theorem dX6_comes_142 : decode cX6_comes 142 = .ok (.iload_n 2, 1) := by decide +kernel
theorem dX6_comes_143 : decode cX6_comes 143 = .ok (.bipush (-5), 2) := by decide +kernel
theorem dX6_comes_145 : decode cX6_comes 145 = .ok (.if_icmp .lt 12, 3) := by decide +kernel
theorem dX6_comes_148 : decode cX6_comes 148 = .ok (.iload_n 2, 1) := by decide +kernel
theorem dX6_comes_149 : decode cX6_comes 149 = .ok (.iconst 5, 1) := by decide +kernel
theorem dX6_comes_150 : decode cX6_comes 150 = .ok (.if_icmp .gt 7, 3) := by decide +kernel
theorem dX6_comes_153 : decode cX6_comes 153 = .ok (.iconst 1, 1) := by decide +kernel
theorem dX6_comes_154 : decode cX6_comes 154 = .ok (.goto 4, 3) := by decide +kernel
theorem dX6_comes_157 : decode cX6_comes 157 = .ok (.iconst 0, 1) := by decide +kernel
theorem dX6_comes_158 : decode cX6_comes 158 = .ok (.ireturn, 1) := by decide +kernel
theorem dX6_comes_159 : decode cX6_comes 159 = .ok (.aload_n 0, 1) := by decide +kernel
theorem dX6_comes_160 : decode cX6_comes 160 = .ok (.getfield 19, 3) := by decide +kernel
theorem dX6_comes_163 : decode cX6_comes 163 = .ok (.iconst 5, 1) := by decide +kernel
theorem dX6_comes_164 : decode cX6_comes 164 = .ok (.iaload, 1) := by decide +kernel
theorem dX6_comes_165 : decode cX6_comes 165 = .ok (.bipush 8, 2) := by decide +kernel
theorem dX6_comes_167 : decode cX6_comes 167 = .ok (.if_icmp .ne 5, 3) := by decide +kernel
theorem dX6_comes_170 : decode cX6_comes 170 = .ok (.iconst 0, 1) := by decide +kernel
theorem dX6_comes_171 : decode cX6_comes 171 = .ok (.ireturn, 1) := by decide +kernel
theorem dX6_comes_172 : decode cX6_comes 172 = .ok (.aload_n 0, 1) := by decide +kernel
theorem dX6_comes_173 : decode cX6_comes 173 = .ok (.getfield 19, 3) := by decide +kernel
theorem dX6_comes_176 : decode cX6_comes 176 = .ok (.bipush 6, 2) := by decide +kernel
theorem dX6_comes_178 : decode cX6_comes 178 = .ok (.iconst 2, 1) := by decide +kernel
theorem dX6_comes_179 : decode cX6_comes 179 = .ok (.aload_n 0, 1) := by decide +kernel
theorem dX6_comes_180 : decode cX6_comes 180 = .ok (.getfield 19, 3) := by decide +kernel
theorem dX6_comes_183 : decode cX6_comes 183 = .ok (.iconst 5, 1) := by decide +kernel
theorem dX6_comes_184 : decode cX6_comes 184 = .ok (.iaload, 1) := by decide +kernel
theorem dX6_comes_185 : decode cX6_comes 185 = .ok (.imul, 1) := by decide +kernel
theorem dX6_comes_186 : decode cX6_comes 186 = .ok (.iadd, 1) := by decide +kernel
theorem dX6_comes_187 : decode cX6_comes 187 = .ok (.iload_n 2, 1) := by decide +kernel
theorem dX6_comes_188 : decode cX6_comes 188 = .ok (.iastore, 1) := by decide +kernel
theorem dX6_comes_189 : decode cX6_comes 189 = .ok (.aload_n 0, 1) := by decide +kernel
theorem dX6_comes_190 : decode cX6_comes 190 = .ok (.getfield 19, 3) := by decide +kernel
theorem dX6_comes_193 : decode cX6_comes 193 = .ok (.bipush 6, 2) := by decide +kernel
theorem dX6_comes_195 : decode cX6_comes 195 = .ok (.iconst 2, 1) := by decide +kernel
theorem dX6_comes_196 : decode cX6_comes 196 = .ok (.aload_n 0, 1) := by decide +kernel
theorem dX6_comes_197 : decode cX6_comes 197 = .ok (.getfield 19, 3) := by decide +kernel
theorem dX6_comes_200 : decode cX6_comes 200 = .ok (.iconst 5, 1) := by decide +kernel
theorem dX6_comes_201 : decode cX6_comes 201 = .ok (.iaload, 1) := by decide +kernel
theorem dX6_comes_202 : decode cX6_comes 202 = .ok (.imul, 1) := by decide +kernel
theorem dX6_comes_203 : decode cX6_comes 203 = .ok (.iadd, 1) := by decide +kernel
theorem dX6_comes_204 : decode cX6_comes 204 = .ok (.iconst 1, 1) := by decide +kernel
theorem dX6_comes_205 : decode cX6_comes 205 = .ok (.iadd, 1) := by decide +kernel
theorem dX6_comes_206 : decode cX6_comes 206 = .ok (.aload_n 0, 1) := by decide +kernel
theorem dX6_comes_207 : decode cX6_comes 207 = .ok (.getfield 25, 3) := by decide +kernel
theorem dX6_comes_210 : decode cX6_comes 210 = .ok (.iconst 1, 1) := by decide +kernel
theorem dX6_comes_211 : decode cX6_comes 211 = .ok (.iaload, 1) := by decide +kernel
theorem dX6_comes_212 : decode cX6_comes 212 = .ok (.iastore, 1) := by decide +kernel
theorem dX6_comes_213 : decode cX6_comes 213 = .ok (.aload_n 0, 1) := by decide +kernel
theorem dX6_comes_214 : decode cX6_comes 214 = .ok (.getfield 19, 3) := by decide +kernel
theorem dX6_comes_217 : decode cX6_comes 217 = .ok (.iconst 5, 1) := by decide +kernel
theorem dX6_comes_218 : decode cX6_comes 218 = .ok (.dup2, 1) := by decide +kernel
theorem dX6_comes_219 : decode cX6_comes 219 = .ok (.iaload, 1) := by decide +kernel
theorem dX6_comes_220 : decode cX6_comes 220 = .ok (.iconst 1, 1) := by decide +kernel
theorem dX6_comes_221 : decode cX6_comes 221 = .ok (.iadd, 1) := by decide +kernel
theorem dX6_comes_222 : decode cX6_comes 222 = .ok (.iastore, 1) := by decide +kernel
theorem dX6_comes_223 : decode cX6_comes 223 = .ok (.iconst 1, 1) := by decide +kernel
theorem dX6_comes_224 : decode cX6_comes 224 = .ok (.ireturn, 1) := by decide +kernel
set_option maxRecDepth 20000 in
theorem ggX6_reads_X6_readsStatement : GoodIn wsX6_reads wsX6_readsStatement := goodIn_r _ [9, 1, 10, 11, 12, 8, 13, 2, 14, 15, 16, 17, 18, 19, 20, 21, 22, 23, 24, 25, 26, 27, 28, 29, 30, 31, 32, 33, 34, 35, 36, 37, 38, 39, 40, 41, 49, 50, 51, 52, 53, 54, 55, 56, 57, 58, 59, 60, 61, 62, 63, 64, 65, 66, 67, 68, 69, 70, 71, 72, 73, 74, 75, 76, 77] (by decide +kernel) (by decide +kernel)
set_option maxRecDepth 20000 in
theorem gX6_reads_X6_readsStatement : GoodIn wsX6_reads (wsV RX6 77 RX6 yX6_readsStatement wsX6_readsStatement) := goodIn_app (goodIn_of _ (by decide +kernel)) ggX6_reads_X6_readsStatement
set_option maxRecDepth 20000 in
theorem ggX6_reads_X6_lays : GoodIn wsX6_reads wsX6_lays := goodIn_r _ [44] (by decide +kernel) (by decide +kernel)
set_option maxRecDepth 20000 in
theorem gX6_reads_X6_lays : GoodIn wsX6_reads (va_wsS RX6 80 yX6_lays wsX6_lays) := goodIn_app (goodIn_of _ (by decide +kernel)) ggX6_reads_X6_lays
set_option maxRecDepth 20000 in
theorem ggX6_reads_X6_sign : GoodIn wsX6_reads wsX6_sign := goodIn_r _ [13, 1, 2, 14, 49, 50, 51, 52, 53, 54, 55, 56, 57, 58, 59, 60, 61, 62, 63, 64, 65, 66, 67, 68, 69, 70, 71, 72, 73, 74, 75, 76, 77] (by decide +kernel) (by decide +kernel)
set_option maxRecDepth 20000 in
theorem gX6_reads_X6_sign : GoodIn wsX6_reads (wsV RX6 49 RX6 yX6_sign wsX6_sign) := goodIn_app (goodIn_of _ (by decide +kernel)) ggX6_reads_X6_sign
set_option maxRecDepth 20000 in
theorem ggX6_reads_X6_comes : GoodIn wsX6_reads wsX6_comes := goodIn_r _ [48, 19, 4, 49, 50, 51, 52, 53, 54, 55, 56, 57, 58, 59, 60, 61, 62, 63, 64, 65, 66, 67, 68, 69, 70, 71, 72, 73, 74, 75, 76, 77] (by decide +kernel) (by decide +kernel)
set_option maxRecDepth 20000 in
theorem gX6_reads_X6_comes : GoodIn wsX6_reads (wsV RX6 84 RX6 yX6_comes wsX6_comes) := goodIn_app (goodIn_of _ (by decide +kernel)) ggX6_reads_X6_comes
theorem dX6_reads_0 : decode cX6_reads 0 = .ok (.aload_n 0, 1) := by decide +kernel
theorem dX6_reads_1 : decode cX6_reads 1 = .ok (.iconst 0, 1) := by decide +kernel
theorem dX6_reads_2 : decode cX6_reads 2 = .ok (.putfield 46, 3) := by decide +kernel
theorem dX6_reads_5 : decode cX6_reads 5 = .ok (.iconst 0, 1) := by decide +kernel
theorem dX6_reads_6 : decode cX6_reads 6 = .ok (.istore_n 1, 1) := by decide +kernel
theorem dX6_reads_7 : decode cX6_reads 7 = .ok (.aload_n 0, 1) := by decide +kernel
theorem dX6_reads_8 : decode cX6_reads 8 = .ok (.invokevirtual 77, 3) := by decide +kernel
theorem dX6_reads_11 : decode cX6_reads 11 = .ok (.ifCond .ne 12, 3) := by decide +kernel
theorem dX6_reads_14 : decode cX6_reads 14 = .ok (.sipush (-1000), 3) := by decide +kernel
theorem dX6_reads_17 : decode cX6_reads 17 = .ok (.aload_n 0, 1) := by decide +kernel
theorem dX6_reads_18 : decode cX6_reads 18 = .ok (.getfield 46, 3) := by decide +kernel
theorem dX6_reads_21 : decode cX6_reads 21 = .ok (.isub, 1) := by decide +kernel
theorem dX6_reads_22 : decode cX6_reads 22 = .ok (.ireturn, 1) := by decide +kernel
theorem dX6_reads_23 : decode cX6_reads 23 = .ok (.iinc 1 1, 3) := by decide +kernel
theorem dX6_reads_26 : decode cX6_reads 26 = .ok (.aload_n 0, 1) := by decide +kernel
theorem dX6_reads_27 : decode cX6_reads 27 = .ok (.getfield 46, 3) := by decide +kernel
theorem dX6_reads_30 : decode cX6_reads 30 = .ok (.aload_n 0, 1) := by decide +kernel
theorem dX6_reads_31 : decode cX6_reads 31 = .ok (.getfield 42, 3) := by decide +kernel
theorem dX6_reads_34 : decode cX6_reads 34 = .ok (.if_icmp .lt (-27), 3) := by decide +kernel
theorem dX6_reads_37 : decode cX6_reads 37 = .ok (.aload_n 0, 1) := by decide +kernel
theorem dX6_reads_38 : decode cX6_reads 38 = .ok (.getfield 13, 3) := by decide +kernel
theorem dX6_reads_41 : decode cX6_reads 41 = .ok (.aload_n 0, 1) := by decide +kernel
theorem dX6_reads_42 : decode cX6_reads 42 = .ok (.getfield 19, 3) := by decide +kernel
theorem dX6_reads_45 : decode cX6_reads 45 = .ok (.invokestatic 80, 3) := by decide +kernel
theorem dX6_reads_48 : decode cX6_reads 48 = .ok (.aload_n 0, 1) := by decide +kernel
theorem dX6_reads_49 : decode cX6_reads 49 = .ok (.iconst 0, 1) := by decide +kernel
theorem dX6_reads_50 : decode cX6_reads 50 = .ok (.putfield 46, 3) := by decide +kernel
theorem dX6_reads_53 : decode cX6_reads 53 = .ok (.aload_n 0, 1) := by decide +kernel
theorem dX6_reads_54 : decode cX6_reads 54 = .ok (.getfield 46, 3) := by decide +kernel
theorem dX6_reads_57 : decode cX6_reads 57 = .ok (.aload_n 0, 1) := by decide +kernel
theorem dX6_reads_58 : decode cX6_reads 58 = .ok (.getfield 42, 3) := by decide +kernel
theorem dX6_reads_61 : decode cX6_reads 61 = .ok (.if_icmp .ge 36, 3) := by decide +kernel
theorem dX6_reads_64 : decode cX6_reads 64 = .ok (.aload_n 0, 1) := by decide +kernel
theorem dX6_reads_65 : decode cX6_reads 65 = .ok (.getfield 46, 3) := by decide +kernel
theorem dX6_reads_68 : decode cX6_reads 68 = .ok (.istore_n 2, 1) := by decide +kernel
theorem dX6_reads_69 : decode cX6_reads 69 = .ok (.aload_n 0, 1) := by decide +kernel
theorem dX6_reads_70 : decode cX6_reads 70 = .ok (.invokevirtual 49, 3) := by decide +kernel
theorem dX6_reads_73 : decode cX6_reads 73 = .ok (.istore_n 3, 1) := by decide +kernel
theorem dX6_reads_74 : decode cX6_reads 74 = .ok (.aload_n 0, 1) := by decide +kernel
theorem dX6_reads_75 : decode cX6_reads 75 = .ok (.invokevirtual 77, 3) := by decide +kernel
theorem dX6_reads_78 : decode cX6_reads 78 = .ok (.istore 4, 2) := by decide +kernel
theorem dX6_reads_80 : decode cX6_reads 80 = .ok (.aload_n 0, 1) := by decide +kernel
theorem dX6_reads_81 : decode cX6_reads 81 = .ok (.iload_n 3, 1) := by decide +kernel
theorem dX6_reads_82 : decode cX6_reads 82 = .ok (.invokevirtual 84, 3) := by decide +kernel
theorem dX6_reads_85 : decode cX6_reads 85 = .ok (.ifCond .ne 9, 3) := by decide +kernel
theorem dX6_reads_88 : decode cX6_reads 88 = .ok (.sipush (-2000), 3) := by decide +kernel
theorem dX6_reads_91 : decode cX6_reads 91 = .ok (.iload_n 2, 1) := by decide +kernel
theorem dX6_reads_92 : decode cX6_reads 92 = .ok (.isub, 1) := by decide +kernel
theorem dX6_reads_93 : decode cX6_reads 93 = .ok (.ireturn, 1) := by decide +kernel
theorem dX6_reads_94 : decode cX6_reads 94 = .ok (.goto (-41), 3) := by decide +kernel
theorem dX6_reads_97 : decode cX6_reads 97 = .ok (.aload_n 0, 1) := by decide +kernel
theorem dX6_reads_98 : decode cX6_reads 98 = .ok (.getfield 19, 3) := by decide +kernel
theorem dX6_reads_101 : decode cX6_reads 101 = .ok (.aload_n 0, 1) := by decide +kernel
theorem dX6_reads_102 : decode cX6_reads 102 = .ok (.getfield 13, 3) := by decide +kernel
theorem dX6_reads_105 : decode cX6_reads 105 = .ok (.invokestatic 80, 3) := by decide +kernel
theorem dX6_reads_108 : decode cX6_reads 108 = .ok (.iload_n 1, 1) := by decide +kernel
theorem dX6_reads_109 : decode cX6_reads 109 = .ok (.ireturn, 1) := by decide +kernel
set_option maxRecDepth 20000 in
theorem ggX6_land_X6_reads : GoodIn wsX6_land wsX6_reads := goodIn_r _ [6, 7, 1, 8, 9, 10, 11, 12, 5, 13, 14, 15, 16, 17, 18, 19, 20, 21, 22, 23, 24, 25, 26, 27, 28, 29, 30, 31, 32, 33, 34, 35, 36, 37, 38, 39, 40, 41, 42, 43, 44, 45, 46, 47, 48, 49, 50, 51, 52, 53, 54, 55, 56, 57, 58, 59, 60, 61, 62, 63, 64, 65, 66, 67, 68, 69, 70, 71, 72, 73, 74, 75, 76, 77, 78, 79, 80, 81] (by decide +kernel) (by decide +kernel)
set_option maxRecDepth 20000 in
theorem gX6_land_X6_reads : GoodIn wsX6_land (wsV RX6 87 RX6 yX6_reads wsX6_reads) := goodIn_app (goodIn_of _ (by decide +kernel)) ggX6_land_X6_reads
theorem dX6_land_0 : decode cX6_land 0 = .ok (.aload_n 0, 1) := by decide +kernel
theorem dX6_land_1 : decode cX6_land 1 = .ok (.invokevirtual 87, 3) := by decide +kernel
theorem dX6_land_4 : decode cX6_land 4 = .ok (.istore_n 1, 1) := by decide +kernel
theorem dX6_land_5 : decode cX6_land 5 = .ok (.aload_n 0, 1) := by decide +kernel
theorem dX6_land_6 : decode cX6_land 6 = .ok (.iconst 0, 1) := by decide +kernel
theorem dX6_land_7 : decode cX6_land 7 = .ok (.putfield 42, 3) := by decide +kernel
theorem dX6_land_10 : decode cX6_land 10 = .ok (.iload_n 1, 1) := by decide +kernel
theorem dX6_land_11 : decode cX6_land 11 = .ok (.ireturn, 1) := by decide +kernel
theorem dX6_stopsBy_0 : decode cX6_stopsBy 0 = .ok (.iload_n 0, 1) := by decide +kernel
theorem dX6_stopsBy_1 : decode cX6_stopsBy 1 = .ok (.tableswitch 93 0 4 #[35, 46, 57, 70, 81], 35) := by decide +kernel
theorem dX6_stopsBy_36 : decode cX6_stopsBy 36 = .ok (.iload 4, 2) := by decide +kernel
theorem dX6_stopsBy_38 : decode cX6_stopsBy 38 = .ok (.ifCond .le 7, 3) := by decide +kernel
theorem dX6_stopsBy_41 : decode cX6_stopsBy 41 = .ok (.iconst 1, 1) := by decide +kernel
theorem dX6_stopsBy_42 : decode cX6_stopsBy 42 = .ok (.goto 4, 3) := by decide +kernel
theorem dX6_stopsBy_45 : decode cX6_stopsBy 45 = .ok (.iconst 0, 1) := by decide +kernel
theorem dX6_stopsBy_46 : decode cX6_stopsBy 46 = .ok (.ireturn, 1) := by decide +kernel
theorem dX6_stopsBy_47 : decode cX6_stopsBy 47 = .ok (.iload_n 2, 1) := by decide +kernel
theorem dX6_stopsBy_48 : decode cX6_stopsBy 48 = .ok (.iload_n 1, 1) := by decide +kernel
theorem dX6_stopsBy_49 : decode cX6_stopsBy 49 = .ok (.if_icmp .lt 7, 3) := by decide +kernel
theorem dX6_stopsBy_52 : decode cX6_stopsBy 52 = .ok (.iconst 1, 1) := by decide +kernel
theorem dX6_stopsBy_53 : decode cX6_stopsBy 53 = .ok (.goto 4, 3) := by decide +kernel
theorem dX6_stopsBy_56 : decode cX6_stopsBy 56 = .ok (.iconst 0, 1) := by decide +kernel
theorem dX6_stopsBy_57 : decode cX6_stopsBy 57 = .ok (.ireturn, 1) := by decide +kernel
theorem dX6_stopsBy_58 : decode cX6_stopsBy 58 = .ok (.iload_n 2, 1) := by decide +kernel
theorem dX6_stopsBy_59 : decode cX6_stopsBy 59 = .ok (.iload_n 3, 1) := by decide +kernel
theorem dX6_stopsBy_60 : decode cX6_stopsBy 60 = .ok (.isub, 1) := by decide +kernel
theorem dX6_stopsBy_61 : decode cX6_stopsBy 61 = .ok (.iload_n 1, 1) := by decide +kernel
theorem dX6_stopsBy_62 : decode cX6_stopsBy 62 = .ok (.if_icmp .ne 7, 3) := by decide +kernel
theorem dX6_stopsBy_65 : decode cX6_stopsBy 65 = .ok (.iconst 1, 1) := by decide +kernel
theorem dX6_stopsBy_66 : decode cX6_stopsBy 66 = .ok (.goto 4, 3) := by decide +kernel
theorem dX6_stopsBy_69 : decode cX6_stopsBy 69 = .ok (.iconst 0, 1) := by decide +kernel
theorem dX6_stopsBy_70 : decode cX6_stopsBy 70 = .ok (.ireturn, 1) := by decide +kernel
theorem dX6_stopsBy_71 : decode cX6_stopsBy 71 = .ok (.iload_n 2, 1) := by decide +kernel
theorem dX6_stopsBy_72 : decode cX6_stopsBy 72 = .ok (.iload_n 3, 1) := by decide +kernel
theorem dX6_stopsBy_73 : decode cX6_stopsBy 73 = .ok (.if_icmp .ne 7, 3) := by decide +kernel
theorem dX6_stopsBy_76 : decode cX6_stopsBy 76 = .ok (.iconst 1, 1) := by decide +kernel
theorem dX6_stopsBy_77 : decode cX6_stopsBy 77 = .ok (.goto 4, 3) := by decide +kernel
theorem dX6_stopsBy_80 : decode cX6_stopsBy 80 = .ok (.iconst 0, 1) := by decide +kernel
theorem dX6_stopsBy_81 : decode cX6_stopsBy 81 = .ok (.ireturn, 1) := by decide +kernel
theorem dX6_stopsBy_82 : decode cX6_stopsBy 82 = .ok (.iload 4, 2) := by decide +kernel
theorem dX6_stopsBy_84 : decode cX6_stopsBy 84 = .ok (.iload_n 1, 1) := by decide +kernel
theorem dX6_stopsBy_85 : decode cX6_stopsBy 85 = .ok (.if_icmp .lt 7, 3) := by decide +kernel
theorem dX6_stopsBy_88 : decode cX6_stopsBy 88 = .ok (.iconst 1, 1) := by decide +kernel
theorem dX6_stopsBy_89 : decode cX6_stopsBy 89 = .ok (.goto 4, 3) := by decide +kernel
theorem dX6_stopsBy_92 : decode cX6_stopsBy 92 = .ok (.iconst 0, 1) := by decide +kernel
theorem dX6_stopsBy_93 : decode cX6_stopsBy 93 = .ok (.ireturn, 1) := by decide +kernel
theorem dX6_stopsBy_94 : decode cX6_stopsBy 94 = .ok (.iload_n 2, 1) := by decide +kernel
theorem dX6_stopsBy_95 : decode cX6_stopsBy 95 = .ok (.ifCond .le 11, 3) := by decide +kernel
theorem dX6_stopsBy_98 : decode cX6_stopsBy 98 = .ok (.iload_n 3, 1) := by decide +kernel
theorem dX6_stopsBy_99 : decode cX6_stopsBy 99 = .ok (.ifCond .le 7, 3) := by decide +kernel
theorem dX6_stopsBy_102 : decode cX6_stopsBy 102 = .ok (.iconst 1, 1) := by decide +kernel
theorem dX6_stopsBy_103 : decode cX6_stopsBy 103 = .ok (.goto 4, 3) := by decide +kernel
theorem dX6_stopsBy_106 : decode cX6_stopsBy 106 = .ok (.iconst 0, 1) := by decide +kernel
theorem dX6_stopsBy_107 : decode cX6_stopsBy 107 = .ok (.ireturn, 1) := by decide +kernel
set_option maxRecDepth 20000 in
theorem ggX6_endsBy_X6_stopsBy : GoodIn wsX6_endsBy wsX6_stopsBy := goodIn_r _ [5] (by decide +kernel) (by decide +kernel)
set_option maxRecDepth 20000 in
theorem gX6_endsBy_X6_stopsBy : GoodIn wsX6_endsBy (va_wsS RX6 90 yX6_stopsBy wsX6_stopsBy) := goodIn_app (goodIn_of _ (by decide +kernel)) ggX6_endsBy_X6_stopsBy
theorem dX6_endsBy_0 : decode cX6_endsBy 0 = .ok (.iload_n 2, 1) := by decide +kernel
theorem dX6_endsBy_1 : decode cX6_endsBy 1 = .ok (.iload_n 3, 1) := by decide +kernel
theorem dX6_endsBy_2 : decode cX6_endsBy 2 = .ok (.iadd, 1) := by decide +kernel
theorem dX6_endsBy_3 : decode cX6_endsBy 3 = .ok (.aload_n 0, 1) := by decide +kernel
theorem dX6_endsBy_4 : decode cX6_endsBy 4 = .ok (.getfield 13, 3) := by decide +kernel
theorem dX6_endsBy_7 : decode cX6_endsBy 7 = .ok (.iconst 0, 1) := by decide +kernel
theorem dX6_endsBy_8 : decode cX6_endsBy 8 = .ok (.iaload, 1) := by decide +kernel
theorem dX6_endsBy_9 : decode cX6_endsBy 9 = .ok (.if_icmp .ge 20, 3) := by decide +kernel
theorem dX6_endsBy_12 : decode cX6_endsBy 12 = .ok (.iload_n 1, 1) := by decide +kernel
theorem dX6_endsBy_13 : decode cX6_endsBy 13 = .ok (.aload_n 0, 1) := by decide +kernel
theorem dX6_endsBy_14 : decode cX6_endsBy 14 = .ok (.getfield 13, 3) := by decide +kernel
theorem dX6_endsBy_17 : decode cX6_endsBy 17 = .ok (.iconst 4, 1) := by decide +kernel
theorem dX6_endsBy_18 : decode cX6_endsBy 18 = .ok (.iaload, 1) := by decide +kernel
theorem dX6_endsBy_19 : decode cX6_endsBy 19 = .ok (.iload_n 2, 1) := by decide +kernel
theorem dX6_endsBy_20 : decode cX6_endsBy 20 = .ok (.iload_n 3, 1) := by decide +kernel
theorem dX6_endsBy_21 : decode cX6_endsBy 21 = .ok (.iload 4, 2) := by decide +kernel
theorem dX6_endsBy_23 : decode cX6_endsBy 23 = .ok (.invokestatic 90, 3) := by decide +kernel
theorem dX6_endsBy_26 : decode cX6_endsBy 26 = .ok (.ifCond .eq 7, 3) := by decide +kernel
theorem dX6_endsBy_29 : decode cX6_endsBy 29 = .ok (.iconst 1, 1) := by decide +kernel
theorem dX6_endsBy_30 : decode cX6_endsBy 30 = .ok (.goto 4, 3) := by decide +kernel
theorem dX6_endsBy_33 : decode cX6_endsBy 33 = .ok (.iconst 0, 1) := by decide +kernel
theorem dX6_endsBy_34 : decode cX6_endsBy 34 = .ok (.ireturn, 1) := by decide +kernel
theorem dX6_twelfths_0 : decode cX6_twelfths 0 = .ok (.aload_n 0, 1) := by decide +kernel
theorem dX6_twelfths_1 : decode cX6_twelfths 1 = .ok (.getfield 13, 3) := by decide +kernel
theorem dX6_twelfths_4 : decode cX6_twelfths 4 = .ok (.iconst 2, 1) := by decide +kernel
theorem dX6_twelfths_5 : decode cX6_twelfths 5 = .ok (.iaload, 1) := by decide +kernel
theorem dX6_twelfths_6 : decode cX6_twelfths 6 = .ok (.iconst 5, 1) := by decide +kernel
theorem dX6_twelfths_7 : decode cX6_twelfths 7 = .ok (.isub, 1) := by decide +kernel
theorem dX6_twelfths_8 : decode cX6_twelfths 8 = .ok (.istore_n 2, 1) := by decide +kernel
theorem dX6_twelfths_9 : decode cX6_twelfths 9 = .ok (.aload_n 0, 1) := by decide +kernel
theorem dX6_twelfths_10 : decode cX6_twelfths 10 = .ok (.getfield 13, 3) := by decide +kernel
theorem dX6_twelfths_13 : decode cX6_twelfths 13 = .ok (.iconst 1, 1) := by decide +kernel
theorem dX6_twelfths_14 : decode cX6_twelfths 14 = .ok (.iaload, 1) := by decide +kernel
theorem dX6_twelfths_15 : decode cX6_twelfths 15 = .ok (.iload_n 1, 1) := by decide +kernel
theorem dX6_twelfths_16 : decode cX6_twelfths 16 = .ok (.iconst 1, 1) := by decide +kernel
theorem dX6_twelfths_17 : decode cX6_twelfths 17 = .ok (.if_icmp .ne 7, 3) := by decide +kernel
theorem dX6_twelfths_20 : decode cX6_twelfths 20 = .ok (.iload_n 2, 1) := by decide +kernel
theorem dX6_twelfths_21 : decode cX6_twelfths 21 = .ok (.goto 13, 3) := by decide +kernel
theorem dX6_twelfths_24 : decode cX6_twelfths 24 = .ok (.iload_n 1, 1) := by decide +kernel
theorem dX6_twelfths_25 : decode cX6_twelfths 25 = .ok (.ifCond .ne 8, 3) := by decide +kernel
theorem dX6_twelfths_28 : decode cX6_twelfths 28 = .ok (.iload_n 2, 1) := by decide +kernel
theorem dX6_twelfths_29 : decode cX6_twelfths 29 = .ok (.ineg, 1) := by decide +kernel
theorem dX6_twelfths_30 : decode cX6_twelfths 30 = .ok (.goto 4, 3) := by decide +kernel
theorem dX6_twelfths_33 : decode cX6_twelfths 33 = .ok (.iconst 0, 1) := by decide +kernel
theorem dX6_twelfths_34 : decode cX6_twelfths 34 = .ok (.iadd, 1) := by decide +kernel
theorem dX6_twelfths_35 : decode cX6_twelfths 35 = .ok (.istore_n 3, 1) := by decide +kernel
theorem dX6_twelfths_36 : decode cX6_twelfths 36 = .ok (.iload_n 3, 1) := by decide +kernel
theorem dX6_twelfths_37 : decode cX6_twelfths 37 = .ok (.ifCond .ge 7, 3) := by decide +kernel
theorem dX6_twelfths_40 : decode cX6_twelfths 40 = .ok (.iconst 0, 1) := by decide +kernel
theorem dX6_twelfths_41 : decode cX6_twelfths 41 = .ok (.goto 15, 3) := by decide +kernel
theorem dX6_twelfths_44 : decode cX6_twelfths 44 = .ok (.iload_n 3, 1) := by decide +kernel
theorem dX6_twelfths_45 : decode cX6_twelfths 45 = .ok (.bipush 12, 2) := by decide +kernel
theorem dX6_twelfths_47 : decode cX6_twelfths 47 = .ok (.if_icmp .le 8, 3) := by decide +kernel
theorem dX6_twelfths_50 : decode cX6_twelfths 50 = .ok (.bipush 12, 2) := by decide +kernel
theorem dX6_twelfths_52 : decode cX6_twelfths 52 = .ok (.goto 4, 3) := by decide +kernel
theorem dX6_twelfths_55 : decode cX6_twelfths 55 = .ok (.iload_n 3, 1) := by decide +kernel
theorem dX6_twelfths_56 : decode cX6_twelfths 56 = .ok (.ireturn, 1) := by decide +kernel
set_option maxRecDepth 20000 in
theorem ggX6_law_X6_isIn : GoodIn wsX6_law wsX6_isIn := goodIn_r _ [5] (by decide +kernel) (by decide +kernel)
set_option maxRecDepth 20000 in
theorem gX6_law_X6_isIn : GoodIn wsX6_law (va_wsS RX6 53 yX6_isIn wsX6_isIn) := goodIn_app (goodIn_of _ (by decide +kernel)) ggX6_law_X6_isIn
set_option maxRecDepth 20000 in
theorem ggX6_law_X6_within : GoodIn wsX6_law wsX6_within := goodIn_r _ [8] (by decide +kernel) (by decide +kernel)
set_option maxRecDepth 20000 in
theorem gX6_law_X6_within : GoodIn wsX6_law (va_wsS RX6 38 yX6_within wsX6_within) := goodIn_app (goodIn_of _ (by decide +kernel)) ggX6_law_X6_within
set_option maxRecDepth 20000 in
theorem ggX6_law_X6_refuse : GoodIn wsX6_law wsX6_refuse := goodIn_r _ [12, 13, 14, 15, 16, 17, 18, 19, 20, 21, 22, 23, 24, 25, 26, 27, 28, 29, 30, 31, 32, 33, 34, 35, 36, 37, 38, 39, 40, 41, 42] (by decide +kernel) (by decide +kernel)
set_option maxRecDepth 20000 in
theorem gX6_law_X6_refuse : GoodIn wsX6_law (wsV RX6 34 RX6 yX6_refuse wsX6_refuse) := goodIn_app (goodIn_of _ (by decide +kernel)) ggX6_law_X6_refuse
theorem dX6_law_0 : decode cX6_law 0 = .ok (.iload_n 1, 1) := by decide +kernel
theorem dX6_law_1 : decode cX6_law 1 = .ok (.bipush 6, 2) := by decide +kernel
theorem dX6_law_3 : decode cX6_law 3 = .ok (.invokestatic 53, 3) := by decide +kernel
theorem dX6_law_6 : decode cX6_law 6 = .ok (.ifCond .ne 8, 3) := by decide +kernel
theorem dX6_law_9 : decode cX6_law 9 = .ok (.bipush (-2), 2) := by decide +kernel
theorem dX6_law_11 : decode cX6_law 11 = .ok (.goto 10, 3) := by decide +kernel
theorem dX6_law_14 : decode cX6_law 14 = .ok (.iload_n 2, 1) := by decide +kernel
theorem dX6_law_15 : decode cX6_law 15 = .ok (.iconst 1, 1) := by decide +kernel
theorem dX6_law_16 : decode cX6_law 16 = .ok (.bipush 9, 2) := by decide +kernel
theorem dX6_law_18 : decode cX6_law 18 = .ok (.invokestatic 38, 3) := by decide +kernel
theorem dX6_law_21 : decode cX6_law 21 = .ok (.istore_n 3, 1) := by decide +kernel
theorem dX6_law_22 : decode cX6_law 22 = .ok (.iload_n 3, 1) := by decide +kernel
theorem dX6_law_23 : decode cX6_law 23 = .ok (.ifCond .eq 9, 3) := by decide +kernel
theorem dX6_law_26 : decode cX6_law 26 = .ok (.aload_n 0, 1) := by decide +kernel
theorem dX6_law_27 : decode cX6_law 27 = .ok (.iload_n 3, 1) := by decide +kernel
theorem dX6_law_28 : decode cX6_law 28 = .ok (.invokevirtual 34, 3) := by decide +kernel
theorem dX6_law_31 : decode cX6_law 31 = .ok (.ireturn, 1) := by decide +kernel
theorem dX6_law_32 : decode cX6_law 32 = .ok (.bipush 10, 2) := by decide +kernel
theorem dX6_law_34 : decode cX6_law 34 = .ok (.aload_n 0, 1) := by decide +kernel
theorem dX6_law_35 : decode cX6_law 35 = .ok (.getfield 13, 3) := by decide +kernel
theorem dX6_law_38 : decode cX6_law 38 = .ok (.iconst 3, 1) := by decide +kernel
theorem dX6_law_39 : decode cX6_law 39 = .ok (.iaload, 1) := by decide +kernel
theorem dX6_law_40 : decode cX6_law 40 = .ok (.imul, 1) := by decide +kernel
theorem dX6_law_41 : decode cX6_law 41 = .ok (.aload_n 0, 1) := by decide +kernel
theorem dX6_law_42 : decode cX6_law 42 = .ok (.getfield 13, 3) := by decide +kernel
theorem dX6_law_45 : decode cX6_law 45 = .ok (.iconst 4, 1) := by decide +kernel
theorem dX6_law_46 : decode cX6_law 46 = .ok (.iaload, 1) := by decide +kernel
theorem dX6_law_47 : decode cX6_law 47 = .ok (.iadd, 1) := by decide +kernel
theorem dX6_law_48 : decode cX6_law 48 = .ok (.istore 4, 2) := by decide +kernel
theorem dX6_law_50 : decode cX6_law 50 = .ok (.aload_n 0, 1) := by decide +kernel
theorem dX6_law_51 : decode cX6_law 51 = .ok (.getfield 13, 3) := by decide +kernel
theorem dX6_law_54 : decode cX6_law 54 = .ok (.iconst 3, 1) := by decide +kernel
theorem dX6_law_55 : decode cX6_law 55 = .ok (.iload_n 1, 1) := by decide +kernel
theorem dX6_law_56 : decode cX6_law 56 = .ok (.iastore, 1) := by decide +kernel
theorem dX6_law_57 : decode cX6_law 57 = .ok (.aload_n 0, 1) := by decide +kernel
theorem dX6_law_58 : decode cX6_law 58 = .ok (.getfield 13, 3) := by decide +kernel
theorem dX6_law_61 : decode cX6_law 61 = .ok (.iconst 4, 1) := by decide +kernel
theorem dX6_law_62 : decode cX6_law 62 = .ok (.iload_n 2, 1) := by decide +kernel
theorem dX6_law_63 : decode cX6_law 63 = .ok (.iastore, 1) := by decide +kernel
theorem dX6_law_64 : decode cX6_law 64 = .ok (.iload 4, 2) := by decide +kernel
theorem dX6_law_66 : decode cX6_law 66 = .ok (.ireturn, 1) := by decide +kernel
set_option maxRecDepth 20000 in
theorem ggX6_set_X6_isIn : GoodIn wsX6_set wsX6_isIn := goodIn_r _ [5] (by decide +kernel) (by decide +kernel)
set_option maxRecDepth 20000 in
theorem gX6_set_X6_isIn : GoodIn wsX6_set (va_wsS RX6 53 yX6_isIn wsX6_isIn) := goodIn_app (goodIn_of _ (by decide +kernel)) ggX6_set_X6_isIn
set_option maxRecDepth 20000 in
theorem ggX6_set_X6_within : GoodIn wsX6_set wsX6_within := goodIn_r _ [8] (by decide +kernel) (by decide +kernel)
set_option maxRecDepth 20000 in
theorem gX6_set_X6_within : GoodIn wsX6_set (va_wsS RX6 38 yX6_within wsX6_within) := goodIn_app (goodIn_of _ (by decide +kernel)) ggX6_set_X6_within
set_option maxRecDepth 20000 in
theorem ggX6_set_X6_refuse : GoodIn wsX6_set wsX6_refuse := goodIn_r _ [12, 13, 14, 15, 16, 17, 18, 19, 20, 21, 22, 23, 24, 25, 26, 27, 28, 29, 30, 31, 32, 33, 34, 35, 36, 37, 38, 39, 40, 41, 42] (by decide +kernel) (by decide +kernel)
set_option maxRecDepth 20000 in
theorem gX6_set_X6_refuse : GoodIn wsX6_set (wsV RX6 34 RX6 yX6_refuse wsX6_refuse) := goodIn_app (goodIn_of _ (by decide +kernel)) ggX6_set_X6_refuse
theorem dX6_set_0 : decode cX6_set 0 = .ok (.iload_n 1, 1) := by decide +kernel
theorem dX6_set_1 : decode cX6_set 1 = .ok (.iconst 3, 1) := by decide +kernel
theorem dX6_set_2 : decode cX6_set 2 = .ok (.invokestatic 53, 3) := by decide +kernel
theorem dX6_set_5 : decode cX6_set 5 = .ok (.ifCond .ne 8, 3) := by decide +kernel
theorem dX6_set_8 : decode cX6_set 8 = .ok (.bipush (-2), 2) := by decide +kernel
theorem dX6_set_10 : decode cX6_set 10 = .ok (.goto 29, 3) := by decide +kernel
theorem dX6_set_13 : decode cX6_set 13 = .ok (.iload_n 2, 1) := by decide +kernel
theorem dX6_set_14 : decode cX6_set 14 = .ok (.iload_n 1, 1) := by decide +kernel
theorem dX6_set_15 : decode cX6_set 15 = .ok (.iconst 2, 1) := by decide +kernel
theorem dX6_set_16 : decode cX6_set 16 = .ok (.if_icmp .ne 7, 3) := by decide +kernel
theorem dX6_set_19 : decode cX6_set 19 = .ok (.iconst 0, 1) := by decide +kernel
theorem dX6_set_20 : decode cX6_set 20 = .ok (.goto 4, 3) := by decide +kernel
theorem dX6_set_23 : decode cX6_set 23 = .ok (.iconst 1, 1) := by decide +kernel
theorem dX6_set_24 : decode cX6_set 24 = .ok (.iload_n 1, 1) := by decide +kernel
theorem dX6_set_25 : decode cX6_set 25 = .ok (.iconst 1, 1) := by decide +kernel
theorem dX6_set_26 : decode cX6_set 26 = .ok (.if_icmp .ne 8, 3) := by decide +kernel
theorem dX6_set_29 : decode cX6_set 29 = .ok (.bipush 11, 2) := by decide +kernel
theorem dX6_set_31 : decode cX6_set 31 = .ok (.goto 5, 3) := by decide +kernel
theorem dX6_set_34 : decode cX6_set 34 = .ok (.bipush 10, 2) := by decide +kernel
theorem dX6_set_36 : decode cX6_set 36 = .ok (.invokestatic 38, 3) := by decide +kernel
theorem dX6_set_39 : decode cX6_set 39 = .ok (.istore_n 3, 1) := by decide +kernel
theorem dX6_set_40 : decode cX6_set 40 = .ok (.iload_n 3, 1) := by decide +kernel
theorem dX6_set_41 : decode cX6_set 41 = .ok (.ifCond .eq 9, 3) := by decide +kernel
theorem dX6_set_44 : decode cX6_set 44 = .ok (.aload_n 0, 1) := by decide +kernel
theorem dX6_set_45 : decode cX6_set 45 = .ok (.iload_n 3, 1) := by decide +kernel
theorem dX6_set_46 : decode cX6_set 46 = .ok (.invokevirtual 34, 3) := by decide +kernel
theorem dX6_set_49 : decode cX6_set 49 = .ok (.ireturn, 1) := by decide +kernel
theorem dX6_set_50 : decode cX6_set 50 = .ok (.aload_n 0, 1) := by decide +kernel
theorem dX6_set_51 : decode cX6_set 51 = .ok (.getfield 13, 3) := by decide +kernel
theorem dX6_set_54 : decode cX6_set 54 = .ok (.iload_n 1, 1) := by decide +kernel
theorem dX6_set_55 : decode cX6_set 55 = .ok (.iaload, 1) := by decide +kernel
theorem dX6_set_56 : decode cX6_set 56 = .ok (.istore 4, 2) := by decide +kernel
theorem dX6_set_58 : decode cX6_set 58 = .ok (.aload_n 0, 1) := by decide +kernel
theorem dX6_set_59 : decode cX6_set 59 = .ok (.getfield 13, 3) := by decide +kernel
theorem dX6_set_62 : decode cX6_set 62 = .ok (.iload_n 1, 1) := by decide +kernel
theorem dX6_set_63 : decode cX6_set 63 = .ok (.iload_n 2, 1) := by decide +kernel
theorem dX6_set_64 : decode cX6_set 64 = .ok (.iastore, 1) := by decide +kernel
theorem dX6_set_65 : decode cX6_set 65 = .ok (.iload 4, 2) := by decide +kernel
theorem dX6_set_67 : decode cX6_set 67 = .ok (.ireturn, 1) := by decide +kernel
set_option maxRecDepth 20000 in
theorem ggX6_stops_X6_refuse : GoodIn wsX6_stops wsX6_refuse := goodIn_r _ [6, 7, 11, 12, 13, 14, 15, 16, 17, 18, 19, 20, 21, 22, 23, 24, 25, 26, 27, 28, 29, 30, 31, 32, 33, 34, 35, 36, 37, 38, 39] (by decide +kernel) (by decide +kernel)
set_option maxRecDepth 20000 in
theorem gX6_stops_X6_refuse : GoodIn wsX6_stops (wsV RX6 34 RX6 yX6_refuse wsX6_refuse) := goodIn_app (goodIn_of _ (by decide +kernel)) ggX6_stops_X6_refuse
set_option maxRecDepth 20000 in
theorem ggX6_stops_X6_stopsBy : GoodIn wsX6_stops wsX6_stopsBy := goodIn_r _ [10] (by decide +kernel) (by decide +kernel)
set_option maxRecDepth 20000 in
theorem gX6_stops_X6_stopsBy : GoodIn wsX6_stops (va_wsS RX6 90 yX6_stopsBy wsX6_stopsBy) := goodIn_app (goodIn_of _ (by decide +kernel)) ggX6_stops_X6_stopsBy
theorem dX6_stops_0 : decode cX6_stops 0 = .ok (.iload_n 1, 1) := by decide +kernel
theorem dX6_stops_1 : decode cX6_stops 1 = .ok (.ifCond .lt 11, 3) := by decide +kernel
theorem dX6_stops_4 : decode cX6_stops 4 = .ok (.iload_n 2, 1) := by decide +kernel
theorem dX6_stops_5 : decode cX6_stops 5 = .ok (.ifCond .lt 7, 3) := by decide +kernel
theorem dX6_stops_8 : decode cX6_stops 8 = .ok (.iload_n 3, 1) := by decide +kernel
theorem dX6_stops_9 : decode cX6_stops 9 = .ok (.ifCond .ge 8, 3) := by decide +kernel
theorem dX6_stops_12 : decode cX6_stops 12 = .ok (.bipush (-4), 2) := by decide +kernel
theorem dX6_stops_14 : decode cX6_stops 14 = .ok (.goto 49, 3) := by decide +kernel
theorem dX6_stops_17 : decode cX6_stops 17 = .ok (.iload_n 1, 1) := by decide +kernel
theorem dX6_stops_18 : decode cX6_stops 18 = .ok (.bipush 10, 2) := by decide +kernel
theorem dX6_stops_20 : decode cX6_stops 20 = .ok (.if_icmp .gt 15, 3) := by decide +kernel
theorem dX6_stops_23 : decode cX6_stops 23 = .ok (.iload_n 2, 1) := by decide +kernel
theorem dX6_stops_24 : decode cX6_stops 24 = .ok (.bipush 10, 2) := by decide +kernel
theorem dX6_stops_26 : decode cX6_stops 26 = .ok (.if_icmp .gt 9, 3) := by decide +kernel
theorem dX6_stops_29 : decode cX6_stops 29 = .ok (.iload_n 3, 1) := by decide +kernel
theorem dX6_stops_30 : decode cX6_stops 30 = .ok (.bipush 10, 2) := by decide +kernel
theorem dX6_stops_32 : decode cX6_stops 32 = .ok (.if_icmp .le 8, 3) := by decide +kernel
theorem dX6_stops_35 : decode cX6_stops 35 = .ok (.bipush (-6), 2) := by decide +kernel
theorem dX6_stops_37 : decode cX6_stops 37 = .ok (.goto 26, 3) := by decide +kernel
theorem dX6_stops_40 : decode cX6_stops 40 = .ok (.iload_n 3, 1) := by decide +kernel
theorem dX6_stops_41 : decode cX6_stops 41 = .ok (.iload_n 1, 1) := by decide +kernel
theorem dX6_stops_42 : decode cX6_stops 42 = .ok (.if_icmp .gt 15, 3) := by decide +kernel
theorem dX6_stops_45 : decode cX6_stops 45 = .ok (.iload_n 2, 1) := by decide +kernel
theorem dX6_stops_46 : decode cX6_stops 46 = .ok (.ifCond .ne 16, 3) := by decide +kernel
theorem dX6_stops_49 : decode cX6_stops 49 = .ok (.iload_n 1, 1) := by decide +kernel
theorem dX6_stops_50 : decode cX6_stops 50 = .ok (.ifCond .eq 7, 3) := by decide +kernel
theorem dX6_stops_53 : decode cX6_stops 53 = .ok (.iload_n 3, 1) := by decide +kernel
theorem dX6_stops_54 : decode cX6_stops 54 = .ok (.ifCond .ne 8, 3) := by decide +kernel
theorem dX6_stops_57 : decode cX6_stops 57 = .ok (.bipush (-3), 2) := by decide +kernel
theorem dX6_stops_59 : decode cX6_stops 59 = .ok (.goto 4, 3) := by decide +kernel
theorem dX6_stops_62 : decode cX6_stops 62 = .ok (.iconst 0, 1) := by decide +kernel
theorem dX6_stops_63 : decode cX6_stops 63 = .ok (.istore 4, 2) := by decide +kernel
theorem dX6_stops_65 : decode cX6_stops 65 = .ok (.iload 4, 2) := by decide +kernel
theorem dX6_stops_67 : decode cX6_stops 67 = .ok (.ifCond .eq 10, 3) := by decide +kernel
theorem dX6_stops_70 : decode cX6_stops 70 = .ok (.aload_n 0, 1) := by decide +kernel
theorem dX6_stops_71 : decode cX6_stops 71 = .ok (.iload 4, 2) := by decide +kernel
theorem dX6_stops_73 : decode cX6_stops 73 = .ok (.invokevirtual 34, 3) := by decide +kernel
theorem dX6_stops_76 : decode cX6_stops 76 = .ok (.ireturn, 1) := by decide +kernel
theorem dX6_stops_77 : decode cX6_stops 77 = .ok (.aload_n 0, 1) := by decide +kernel
theorem dX6_stops_78 : decode cX6_stops 78 = .ok (.getfield 13, 3) := by decide +kernel
theorem dX6_stops_81 : decode cX6_stops 81 = .ok (.iconst 3, 1) := by decide +kernel
theorem dX6_stops_82 : decode cX6_stops 82 = .ok (.iaload, 1) := by decide +kernel
theorem dX6_stops_83 : decode cX6_stops 83 = .ok (.aload_n 0, 1) := by decide +kernel
theorem dX6_stops_84 : decode cX6_stops 84 = .ok (.getfield 13, 3) := by decide +kernel
theorem dX6_stops_87 : decode cX6_stops 87 = .ok (.iconst 4, 1) := by decide +kernel
theorem dX6_stops_88 : decode cX6_stops 88 = .ok (.iaload, 1) := by decide +kernel
theorem dX6_stops_89 : decode cX6_stops 89 = .ok (.iload_n 1, 1) := by decide +kernel
theorem dX6_stops_90 : decode cX6_stops 90 = .ok (.iload_n 2, 1) := by decide +kernel
theorem dX6_stops_91 : decode cX6_stops 91 = .ok (.iload_n 3, 1) := by decide +kernel
theorem dX6_stops_92 : decode cX6_stops 92 = .ok (.invokestatic 90, 3) := by decide +kernel
theorem dX6_stops_95 : decode cX6_stops 95 = .ok (.ifCond .eq 7, 3) := by decide +kernel
theorem dX6_stops_98 : decode cX6_stops 98 = .ok (.iconst 1, 1) := by decide +kernel
theorem dX6_stops_99 : decode cX6_stops 99 = .ok (.goto 4, 3) := by decide +kernel
theorem dX6_stops_102 : decode cX6_stops 102 = .ok (.iconst 0, 1) := by decide +kernel
theorem dX6_stops_103 : decode cX6_stops 103 = .ok (.ireturn, 1) := by decide +kernel
theorem dX6_isFamily_0 : decode cX6_isFamily 0 = .ok (.iload_n 1, 1) := by decide +kernel
