theorem dX5_setCoupling_0 : decode cX5_setCoupling 0 = .ok (.aload_n 0, 1) := by decide +kernel
theorem dX5_setCoupling_1 : decode cX5_setCoupling 1 = .ok (.iload_n 1, 1) := by decide +kernel
theorem dX5_setCoupling_2 : decode cX5_setCoupling 2 = .ok (.invokestatic 56, 3) := by decide +kernel
theorem dX5_setCoupling_5 : decode cX5_setCoupling 5 = .ok (.ifCond .eq 30, 3) := by decide +kernel
theorem dX5_setCoupling_8 : decode cX5_setCoupling 8 = .ok (.iload_n 2, 1) := by decide +kernel
theorem dX5_setCoupling_9 : decode cX5_setCoupling 9 = .ok (.invokestatic 60, 3) := by decide +kernel
theorem dX5_setCoupling_12 : decode cX5_setCoupling 12 = .ok (.ifCond .eq 23, 3) := by decide +kernel
theorem dX5_setCoupling_15 : decode cX5_setCoupling 15 = .ok (.iload_n 3, 1) := by decide +kernel
theorem dX5_setCoupling_16 : decode cX5_setCoupling 16 = .ok (.i2l, 1) := by decide +kernel
theorem dX5_setCoupling_17 : decode cX5_setCoupling 17 = .ok (.lconst 0, 1) := by decide +kernel
theorem dX5_setCoupling_18 : decode cX5_setCoupling 18 = .ok (.ldc2_w 68, 3) := by decide +kernel
theorem dX5_setCoupling_21 : decode cX5_setCoupling 21 = .ok (.invokestatic 39, 3) := by decide +kernel
theorem dX5_setCoupling_24 : decode cX5_setCoupling 24 = .ok (.ifCond .eq 7, 3) := by decide +kernel
theorem dX5_setCoupling_27 : decode cX5_setCoupling 27 = .ok (.iconst 0, 1) := by decide +kernel
theorem dX5_setCoupling_28 : decode cX5_setCoupling 28 = .ok (.goto 8, 3) := by decide +kernel
theorem dX5_setCoupling_31 : decode cX5_setCoupling 31 = .ok (.iconst 2, 1) := by decide +kernel
theorem dX5_setCoupling_32 : decode cX5_setCoupling 32 = .ok (.goto 4, 3) := by decide +kernel
theorem dX5_setCoupling_35 : decode cX5_setCoupling 35 = .ok (.iconst 1, 1) := by decide +kernel
theorem dX5_setCoupling_36 : decode cX5_setCoupling 36 = .ok (.putfield 33, 3) := by decide +kernel
theorem dX5_setCoupling_39 : decode cX5_setCoupling 39 = .ok (.aload_n 0, 1) := by decide +kernel
theorem dX5_setCoupling_40 : decode cX5_setCoupling 40 = .ok (.getfield 33, 3) := by decide +kernel
theorem dX5_setCoupling_43 : decode cX5_setCoupling 43 = .ok (.ifCond .le 7, 3) := by decide +kernel
theorem dX5_setCoupling_46 : decode cX5_setCoupling 46 = .ok (.iconst 0, 1) := by decide +kernel
theorem dX5_setCoupling_47 : decode cX5_setCoupling 47 = .ok (.goto 16, 3) := by decide +kernel
theorem dX5_setCoupling_50 : decode cX5_setCoupling 50 = .ok (.aload_n 0, 1) := by decide +kernel
theorem dX5_setCoupling_51 : decode cX5_setCoupling 51 = .ok (.iload_n 1, 1) := by decide +kernel
theorem dX5_setCoupling_52 : decode cX5_setCoupling 52 = .ok (.bipush 17, 2) := by decide +kernel
theorem dX5_setCoupling_54 : decode cX5_setCoupling 54 = .ok (.iload_n 2, 1) := by decide +kernel
theorem dX5_setCoupling_55 : decode cX5_setCoupling 55 = .ok (.iadd, 1) := by decide +kernel
theorem dX5_setCoupling_56 : decode cX5_setCoupling 56 = .ok (.invokestatic 19, 3) := by decide +kernel
theorem dX5_setCoupling_59 : decode cX5_setCoupling 59 = .ok (.iload_n 3, 1) := by decide +kernel
theorem dX5_setCoupling_60 : decode cX5_setCoupling 60 = .ok (.invokevirtual 65, 3) := by decide +kernel
theorem dX5_setCoupling_63 : decode cX5_setCoupling 63 = .ok (.ireturn, 1) := by decide +kernel
set_option maxRecDepth 20000 in
theorem ggX5_setLimit_X5_isPair : GoodIn wsX5_setLimit wsX5_isPair := goodIn_r _ [7, 8, 9, 6, 10] (by decide +kernel) (by decide +kernel)
set_option maxRecDepth 20000 in
theorem gX5_setLimit_X5_isPair : GoodIn wsX5_setLimit (va_wsS RX5 56 yX5_isPair wsX5_isPair) := goodIn_app (goodIn_of _ (by decide +kernel)) ggX5_setLimit_X5_isPair
set_option maxRecDepth 20000 in
theorem ggX5_setLimit_X5_isTone : GoodIn wsX5_setLimit wsX5_isTone := goodIn_r _ [13, 14, 8, 9, 6, 10] (by decide +kernel) (by decide +kernel)
set_option maxRecDepth 20000 in
theorem gX5_setLimit_X5_isTone : GoodIn wsX5_setLimit (va_wsS RX5 60 yX5_isTone wsX5_isTone) := goodIn_app (goodIn_of _ (by decide +kernel)) ggX5_setLimit_X5_isTone
set_option maxRecDepth 20000 in
theorem ggX5_setLimit_X5_in : GoodIn wsX5_setLimit wsX5_in := goodIn_r _ [10] (by decide +kernel) (by decide +kernel)
set_option maxRecDepth 20000 in
theorem gX5_setLimit_X5_in : GoodIn wsX5_setLimit (va_wsS RX5 39 yX5_in wsX5_in) := goodIn_app (goodIn_of _ (by decide +kernel)) ggX5_setLimit_X5_in
set_option maxRecDepth 20000 in
theorem ggX5_setLimit_X5_at : GoodIn wsX5_setLimit wsX5_at := goodIn_r _ [17] (by decide +kernel) (by decide +kernel)
set_option maxRecDepth 20000 in
theorem gX5_setLimit_X5_at : GoodIn wsX5_setLimit (va_wsS RX5 19 yX5_at wsX5_at) := goodIn_app (goodIn_of _ (by decide +kernel)) ggX5_setLimit_X5_at
set_option maxRecDepth 20000 in
theorem ggX5_setLimit_X5_changed : GoodIn wsX5_setLimit wsX5_changed := goodIn_r _ [21, 3, 22, 23, 24, 6, 25, 26, 27, 28, 29, 30, 31, 32, 33] (by decide +kernel) (by decide +kernel)
set_option maxRecDepth 20000 in
theorem gX5_setLimit_X5_changed : GoodIn wsX5_setLimit (wsV RX5 65 RX5 yX5_changed wsX5_changed) := goodIn_app (goodIn_of _ (by decide +kernel)) ggX5_setLimit_X5_changed
theorem dX5_setLimit_0 : decode cX5_setLimit 0 = .ok (.aload_n 0, 1) := by decide +kernel
theorem dX5_setLimit_1 : decode cX5_setLimit 1 = .ok (.iload_n 1, 1) := by decide +kernel
theorem dX5_setLimit_2 : decode cX5_setLimit 2 = .ok (.invokestatic 56, 3) := by decide +kernel
theorem dX5_setLimit_5 : decode cX5_setLimit 5 = .ok (.ifCond .eq 30, 3) := by decide +kernel
theorem dX5_setLimit_8 : decode cX5_setLimit 8 = .ok (.iload_n 2, 1) := by decide +kernel
theorem dX5_setLimit_9 : decode cX5_setLimit 9 = .ok (.invokestatic 60, 3) := by decide +kernel
theorem dX5_setLimit_12 : decode cX5_setLimit 12 = .ok (.ifCond .eq 23, 3) := by decide +kernel
theorem dX5_setLimit_15 : decode cX5_setLimit 15 = .ok (.iload_n 3, 1) := by decide +kernel
theorem dX5_setLimit_16 : decode cX5_setLimit 16 = .ok (.i2l, 1) := by decide +kernel
theorem dX5_setLimit_17 : decode cX5_setLimit 17 = .ok (.lconst 0, 1) := by decide +kernel
theorem dX5_setLimit_18 : decode cX5_setLimit 18 = .ok (.ldc2_w 27, 3) := by decide +kernel
theorem dX5_setLimit_21 : decode cX5_setLimit 21 = .ok (.invokestatic 39, 3) := by decide +kernel
theorem dX5_setLimit_24 : decode cX5_setLimit 24 = .ok (.ifCond .eq 7, 3) := by decide +kernel
theorem dX5_setLimit_27 : decode cX5_setLimit 27 = .ok (.iconst 0, 1) := by decide +kernel
theorem dX5_setLimit_28 : decode cX5_setLimit 28 = .ok (.goto 8, 3) := by decide +kernel
theorem dX5_setLimit_31 : decode cX5_setLimit 31 = .ok (.iconst 2, 1) := by decide +kernel
theorem dX5_setLimit_32 : decode cX5_setLimit 32 = .ok (.goto 4, 3) := by decide +kernel
theorem dX5_setLimit_35 : decode cX5_setLimit 35 = .ok (.iconst 1, 1) := by decide +kernel
theorem dX5_setLimit_36 : decode cX5_setLimit 36 = .ok (.putfield 33, 3) := by decide +kernel
theorem dX5_setLimit_39 : decode cX5_setLimit 39 = .ok (.aload_n 0, 1) := by decide +kernel
theorem dX5_setLimit_40 : decode cX5_setLimit 40 = .ok (.getfield 33, 3) := by decide +kernel
theorem dX5_setLimit_43 : decode cX5_setLimit 43 = .ok (.ifCond .ne 46, 3) := by decide +kernel
theorem dX5_setLimit_46 : decode cX5_setLimit 46 = .ok (.iload_n 3, 1) := by decide +kernel
theorem dX5_setLimit_47 : decode cX5_setLimit 47 = .ok (.i2l, 1) := by decide +kernel
theorem dX5_setLimit_48 : decode cX5_setLimit 48 = .ok (.aload_n 0, 1) := by decide +kernel
theorem dX5_setLimit_49 : decode cX5_setLimit 49 = .ok (.getfield 7, 3) := by decide +kernel
theorem dX5_setLimit_52 : decode cX5_setLimit 52 = .ok (.iload_n 1, 1) := by decide +kernel
theorem dX5_setLimit_53 : decode cX5_setLimit 53 = .ok (.bipush 49, 2) := by decide +kernel
theorem dX5_setLimit_55 : decode cX5_setLimit 55 = .ok (.iload_n 2, 1) := by decide +kernel
theorem dX5_setLimit_56 : decode cX5_setLimit 56 = .ok (.iadd, 1) := by decide +kernel
theorem dX5_setLimit_57 : decode cX5_setLimit 57 = .ok (.invokestatic 19, 3) := by decide +kernel
theorem dX5_setLimit_60 : decode cX5_setLimit 60 = .ok (.laload, 1) := by decide +kernel
theorem dX5_setLimit_61 : decode cX5_setLimit 61 = .ok (.lcmp, 1) := by decide +kernel
theorem dX5_setLimit_62 : decode cX5_setLimit 62 = .ok (.ifCond .lt 22, 3) := by decide +kernel
theorem dX5_setLimit_65 : decode cX5_setLimit 65 = .ok (.iload_n 3, 1) := by decide +kernel
theorem dX5_setLimit_66 : decode cX5_setLimit 66 = .ok (.i2l, 1) := by decide +kernel
theorem dX5_setLimit_67 : decode cX5_setLimit 67 = .ok (.aload_n 0, 1) := by decide +kernel
theorem dX5_setLimit_68 : decode cX5_setLimit 68 = .ok (.getfield 7, 3) := by decide +kernel
theorem dX5_setLimit_71 : decode cX5_setLimit 71 = .ok (.iload_n 1, 1) := by decide +kernel
theorem dX5_setLimit_72 : decode cX5_setLimit 72 = .ok (.bipush 65, 2) := by decide +kernel
theorem dX5_setLimit_74 : decode cX5_setLimit 74 = .ok (.iload_n 2, 1) := by decide +kernel
theorem dX5_setLimit_75 : decode cX5_setLimit 75 = .ok (.iadd, 1) := by decide +kernel
theorem dX5_setLimit_76 : decode cX5_setLimit 76 = .ok (.invokestatic 19, 3) := by decide +kernel
theorem dX5_setLimit_79 : decode cX5_setLimit 79 = .ok (.laload, 1) := by decide +kernel
theorem dX5_setLimit_80 : decode cX5_setLimit 80 = .ok (.lcmp, 1) := by decide +kernel
theorem dX5_setLimit_81 : decode cX5_setLimit 81 = .ok (.ifCond .ge 8, 3) := by decide +kernel
theorem dX5_setLimit_84 : decode cX5_setLimit 84 = .ok (.aload_n 0, 1) := by decide +kernel
theorem dX5_setLimit_85 : decode cX5_setLimit 85 = .ok (.iconst 3, 1) := by decide +kernel
theorem dX5_setLimit_86 : decode cX5_setLimit 86 = .ok (.putfield 33, 3) := by decide +kernel
theorem dX5_setLimit_89 : decode cX5_setLimit 89 = .ok (.aload_n 0, 1) := by decide +kernel
theorem dX5_setLimit_90 : decode cX5_setLimit 90 = .ok (.getfield 33, 3) := by decide +kernel
theorem dX5_setLimit_93 : decode cX5_setLimit 93 = .ok (.ifCond .le 7, 3) := by decide +kernel
theorem dX5_setLimit_96 : decode cX5_setLimit 96 = .ok (.iconst 0, 1) := by decide +kernel
theorem dX5_setLimit_97 : decode cX5_setLimit 97 = .ok (.goto 16, 3) := by decide +kernel
theorem dX5_setLimit_100 : decode cX5_setLimit 100 = .ok (.aload_n 0, 1) := by decide +kernel
theorem dX5_setLimit_101 : decode cX5_setLimit 101 = .ok (.iload_n 1, 1) := by decide +kernel
theorem dX5_setLimit_102 : decode cX5_setLimit 102 = .ok (.bipush 33, 2) := by decide +kernel
theorem dX5_setLimit_104 : decode cX5_setLimit 104 = .ok (.iload_n 2, 1) := by decide +kernel
theorem dX5_setLimit_105 : decode cX5_setLimit 105 = .ok (.iadd, 1) := by decide +kernel
theorem dX5_setLimit_106 : decode cX5_setLimit 106 = .ok (.invokestatic 19, 3) := by decide +kernel
theorem dX5_setLimit_109 : decode cX5_setLimit 109 = .ok (.iload_n 3, 1) := by decide +kernel
theorem dX5_setLimit_110 : decode cX5_setLimit 110 = .ok (.invokevirtual 65, 3) := by decide +kernel
theorem dX5_setLimit_113 : decode cX5_setLimit 113 = .ok (.ireturn, 1) := by decide +kernel
set_option maxRecDepth 20000 in
theorem ggX5_setBudget_X5_isPair : GoodIn wsX5_setBudget wsX5_isPair := goodIn_r _ [6, 7, 8, 5, 9] (by decide +kernel) (by decide +kernel)
set_option maxRecDepth 20000 in
theorem gX5_setBudget_X5_isPair : GoodIn wsX5_setBudget (va_wsS RX5 56 yX5_isPair wsX5_isPair) := goodIn_app (goodIn_of _ (by decide +kernel)) ggX5_setBudget_X5_isPair
set_option maxRecDepth 20000 in
theorem ggX5_setBudget_X5_in : GoodIn wsX5_setBudget wsX5_in := goodIn_r _ [9] (by decide +kernel) (by decide +kernel)
set_option maxRecDepth 20000 in
theorem gX5_setBudget_X5_in : GoodIn wsX5_setBudget (va_wsS RX5 39 yX5_in wsX5_in) := goodIn_app (goodIn_of _ (by decide +kernel)) ggX5_setBudget_X5_in
set_option maxRecDepth 20000 in
theorem ggX5_setBudget_X5_at : GoodIn wsX5_setBudget wsX5_at := goodIn_r _ [12] (by decide +kernel) (by decide +kernel)
set_option maxRecDepth 20000 in
theorem gX5_setBudget_X5_at : GoodIn wsX5_setBudget (va_wsS RX5 19 yX5_at wsX5_at) := goodIn_app (goodIn_of _ (by decide +kernel)) ggX5_setBudget_X5_at
set_option maxRecDepth 20000 in
theorem ggX5_setBudget_X5_changed : GoodIn wsX5_setBudget wsX5_changed := goodIn_r _ [16, 17, 18, 19, 20, 5, 21, 22, 23, 24, 25, 26, 27, 28, 29] (by decide +kernel) (by decide +kernel)
set_option maxRecDepth 20000 in
theorem gX5_setBudget_X5_changed : GoodIn wsX5_setBudget (wsV RX5 65 RX5 yX5_changed wsX5_changed) := goodIn_app (goodIn_of _ (by decide +kernel)) ggX5_setBudget_X5_changed
theorem dX5_setBudget_0 : decode cX5_setBudget 0 = .ok (.aload_n 0, 1) := by decide +kernel
theorem dX5_setBudget_1 : decode cX5_setBudget 1 = .ok (.iload_n 1, 1) := by decide +kernel
theorem dX5_setBudget_2 : decode cX5_setBudget 2 = .ok (.invokestatic 56, 3) := by decide +kernel
theorem dX5_setBudget_5 : decode cX5_setBudget 5 = .ok (.ifCond .eq 23, 3) := by decide +kernel
theorem dX5_setBudget_8 : decode cX5_setBudget 8 = .ok (.iload_n 2, 1) := by decide +kernel
theorem dX5_setBudget_9 : decode cX5_setBudget 9 = .ok (.i2l, 1) := by decide +kernel
theorem dX5_setBudget_10 : decode cX5_setBudget 10 = .ok (.lconst 0, 1) := by decide +kernel
theorem dX5_setBudget_11 : decode cX5_setBudget 11 = .ok (.ldc2_w 70, 3) := by decide +kernel
theorem dX5_setBudget_14 : decode cX5_setBudget 14 = .ok (.invokestatic 39, 3) := by decide +kernel
theorem dX5_setBudget_17 : decode cX5_setBudget 17 = .ok (.ifCond .eq 7, 3) := by decide +kernel
theorem dX5_setBudget_20 : decode cX5_setBudget 20 = .ok (.iconst 0, 1) := by decide +kernel
theorem dX5_setBudget_21 : decode cX5_setBudget 21 = .ok (.goto 8, 3) := by decide +kernel
theorem dX5_setBudget_24 : decode cX5_setBudget 24 = .ok (.iconst 2, 1) := by decide +kernel
theorem dX5_setBudget_25 : decode cX5_setBudget 25 = .ok (.goto 4, 3) := by decide +kernel
theorem dX5_setBudget_28 : decode cX5_setBudget 28 = .ok (.iconst 1, 1) := by decide +kernel
theorem dX5_setBudget_29 : decode cX5_setBudget 29 = .ok (.putfield 33, 3) := by decide +kernel
theorem dX5_setBudget_32 : decode cX5_setBudget 32 = .ok (.aload_n 0, 1) := by decide +kernel
theorem dX5_setBudget_33 : decode cX5_setBudget 33 = .ok (.getfield 33, 3) := by decide +kernel
theorem dX5_setBudget_36 : decode cX5_setBudget 36 = .ok (.ifCond .le 7, 3) := by decide +kernel
theorem dX5_setBudget_39 : decode cX5_setBudget 39 = .ok (.iconst 0, 1) := by decide +kernel
theorem dX5_setBudget_40 : decode cX5_setBudget 40 = .ok (.goto 13, 3) := by decide +kernel
theorem dX5_setBudget_43 : decode cX5_setBudget 43 = .ok (.aload_n 0, 1) := by decide +kernel
theorem dX5_setBudget_44 : decode cX5_setBudget 44 = .ok (.iload_n 1, 1) := by decide +kernel
theorem dX5_setBudget_45 : decode cX5_setBudget 45 = .ok (.iconst 0, 1) := by decide +kernel
theorem dX5_setBudget_46 : decode cX5_setBudget 46 = .ok (.invokestatic 19, 3) := by decide +kernel
theorem dX5_setBudget_49 : decode cX5_setBudget 49 = .ok (.iload_n 2, 1) := by decide +kernel
theorem dX5_setBudget_50 : decode cX5_setBudget 50 = .ok (.invokevirtual 65, 3) := by decide +kernel
theorem dX5_setBudget_53 : decode cX5_setBudget 53 = .ok (.ireturn, 1) := by decide +kernel
set_option maxRecDepth 20000 in
theorem ggX5_noiseOf_X5_at : GoodIn wsX5_noiseOf wsX5_at := goodIn_r _ [6] (by decide +kernel) (by decide +kernel)
set_option maxRecDepth 20000 in
theorem gX5_noiseOf_X5_at : GoodIn wsX5_noiseOf (va_wsS RX5 19 yX5_at wsX5_at) := goodIn_app (goodIn_of _ (by decide +kernel)) ggX5_noiseOf_X5_at
theorem dX5_noiseOf_0 : decode cX5_noiseOf 0 = .ok (.aload_n 0, 1) := by decide +kernel
theorem dX5_noiseOf_1 : decode cX5_noiseOf 1 = .ok (.getfield 7, 3) := by decide +kernel
theorem dX5_noiseOf_4 : decode cX5_noiseOf 4 = .ok (.iload_n 1, 1) := by decide +kernel
theorem dX5_noiseOf_5 : decode cX5_noiseOf 5 = .ok (.iconst 1, 1) := by decide +kernel
theorem dX5_noiseOf_6 : decode cX5_noiseOf 6 = .ok (.iload_n 2, 1) := by decide +kernel
theorem dX5_noiseOf_7 : decode cX5_noiseOf 7 = .ok (.iadd, 1) := by decide +kernel
theorem dX5_noiseOf_8 : decode cX5_noiseOf 8 = .ok (.invokestatic 19, 3) := by decide +kernel
theorem dX5_noiseOf_11 : decode cX5_noiseOf 11 = .ok (.laload, 1) := by decide +kernel
theorem dX5_noiseOf_12 : decode cX5_noiseOf 12 = .ok (.aload_n 0, 1) := by decide +kernel
theorem dX5_noiseOf_13 : decode cX5_noiseOf 13 = .ok (.getfield 7, 3) := by decide +kernel
theorem dX5_noiseOf_16 : decode cX5_noiseOf 16 = .ok (.iload_n 1, 1) := by decide +kernel
theorem dX5_noiseOf_17 : decode cX5_noiseOf 17 = .ok (.bipush 17, 2) := by decide +kernel
theorem dX5_noiseOf_19 : decode cX5_noiseOf 19 = .ok (.iload_n 2, 1) := by decide +kernel
theorem dX5_noiseOf_20 : decode cX5_noiseOf 20 = .ok (.iadd, 1) := by decide +kernel
theorem dX5_noiseOf_21 : decode cX5_noiseOf 21 = .ok (.invokestatic 19, 3) := by decide +kernel
theorem dX5_noiseOf_24 : decode cX5_noiseOf 24 = .ok (.laload, 1) := by decide +kernel
theorem dX5_noiseOf_25 : decode cX5_noiseOf 25 = .ok (.aload_n 0, 1) := by decide +kernel
theorem dX5_noiseOf_26 : decode cX5_noiseOf 26 = .ok (.getfield 7, 3) := by decide +kernel
theorem dX5_noiseOf_29 : decode cX5_noiseOf 29 = .ok (.iconst 1, 1) := by decide +kernel
theorem dX5_noiseOf_30 : decode cX5_noiseOf 30 = .ok (.iload_n 1, 1) := by decide +kernel
theorem dX5_noiseOf_31 : decode cX5_noiseOf 31 = .ok (.isub, 1) := by decide +kernel
theorem dX5_noiseOf_32 : decode cX5_noiseOf 32 = .ok (.bipush 81, 2) := by decide +kernel
theorem dX5_noiseOf_34 : decode cX5_noiseOf 34 = .ok (.iload_n 2, 1) := by decide +kernel
theorem dX5_noiseOf_35 : decode cX5_noiseOf 35 = .ok (.iadd, 1) := by decide +kernel
theorem dX5_noiseOf_36 : decode cX5_noiseOf 36 = .ok (.invokestatic 19, 3) := by decide +kernel
theorem dX5_noiseOf_39 : decode cX5_noiseOf 39 = .ok (.laload, 1) := by decide +kernel
theorem dX5_noiseOf_40 : decode cX5_noiseOf 40 = .ok (.lmul, 1) := by decide +kernel
theorem dX5_noiseOf_41 : decode cX5_noiseOf 41 = .ok (.ldc2_w 68, 3) := by decide +kernel
theorem dX5_noiseOf_44 : decode cX5_noiseOf 44 = .ok (.ldiv, 1) := by decide +kernel
theorem dX5_noiseOf_45 : decode cX5_noiseOf 45 = .ok (.ladd, 1) := by decide +kernel
theorem dX5_noiseOf_46 : decode cX5_noiseOf 46 = .ok (.lreturn, 1) := by decide +kernel
theorem dX5_need_0 : decode cX5_need 0 = .ok (.lconst 1, 1) := by decide +kernel
theorem dX5_need_1 : decode cX5_need 1 = .ok (.lload_n 0, 1) := by decide +kernel
theorem dX5_need_2 : decode cX5_need 2 = .ok (.l2i, 1) := by decide +kernel
theorem dX5_need_3 : decode cX5_need 3 = .ok (.lshl, 1) := by decide +kernel
theorem dX5_need_4 : decode cX5_need 4 = .ok (.lconst 1, 1) := by decide +kernel
theorem dX5_need_5 : decode cX5_need 5 = .ok (.lsub, 1) := by decide +kernel
theorem dX5_need_6 : decode cX5_need 6 = .ok (.lload_n 2, 1) := by decide +kernel
theorem dX5_need_7 : decode cX5_need 7 = .ok (.lmul, 1) := by decide +kernel
theorem dX5_need_8 : decode cX5_need 8 = .ok (.lreturn, 1) := by decide +kernel
set_option maxRecDepth 20000 in
theorem ggX5_stepOf_X5_at : GoodIn wsX5_stepOf wsX5_at := goodIn_r _ [5] (by decide +kernel) (by decide +kernel)
set_option maxRecDepth 20000 in
theorem gX5_stepOf_X5_at : GoodIn wsX5_stepOf (va_wsS RX5 19 yX5_at wsX5_at) := goodIn_app (goodIn_of _ (by decide +kernel)) ggX5_stepOf_X5_at
set_option maxRecDepth 20000 in
theorem ggX5_stepOf_X5_noiseOf : GoodIn wsX5_stepOf wsX5_noiseOf := goodIn_r _ [9, 1, 10, 2, 3, 4, 5, 11, 12, 13, 14, 15, 16] (by decide +kernel) (by decide +kernel)
set_option maxRecDepth 20000 in
theorem gX5_stepOf_X5_noiseOf : GoodIn wsX5_stepOf (wsV RX5 72 RX5 yX5_noiseOf wsX5_noiseOf) := goodIn_app (goodIn_of _ (by decide +kernel)) ggX5_stepOf_X5_noiseOf
theorem dX5_stepOf_0 : decode cX5_stepOf 0 = .ok (.lconst 1, 1) := by decide +kernel
theorem dX5_stepOf_1 : decode cX5_stepOf 1 = .ok (.aload_n 0, 1) := by decide +kernel
theorem dX5_stepOf_2 : decode cX5_stepOf 2 = .ok (.getfield 7, 3) := by decide +kernel
theorem dX5_stepOf_5 : decode cX5_stepOf 5 = .ok (.iload_n 1, 1) := by decide +kernel
theorem dX5_stepOf_6 : decode cX5_stepOf 6 = .ok (.bipush 49, 2) := by decide +kernel
theorem dX5_stepOf_8 : decode cX5_stepOf 8 = .ok (.iload_n 2, 1) := by decide +kernel
theorem dX5_stepOf_9 : decode cX5_stepOf 9 = .ok (.iadd, 1) := by decide +kernel
theorem dX5_stepOf_10 : decode cX5_stepOf 10 = .ok (.invokestatic 19, 3) := by decide +kernel
theorem dX5_stepOf_13 : decode cX5_stepOf 13 = .ok (.laload, 1) := by decide +kernel
theorem dX5_stepOf_14 : decode cX5_stepOf 14 = .ok (.l2i, 1) := by decide +kernel
theorem dX5_stepOf_15 : decode cX5_stepOf 15 = .ok (.lshl, 1) := by decide +kernel
theorem dX5_stepOf_16 : decode cX5_stepOf 16 = .ok (.aload_n 0, 1) := by decide +kernel
theorem dX5_stepOf_17 : decode cX5_stepOf 17 = .ok (.iload_n 1, 1) := by decide +kernel
theorem dX5_stepOf_18 : decode cX5_stepOf 18 = .ok (.iload_n 2, 1) := by decide +kernel
theorem dX5_stepOf_19 : decode cX5_stepOf 19 = .ok (.invokevirtual 72, 3) := by decide +kernel
theorem dX5_stepOf_22 : decode cX5_stepOf 22 = .ok (.lmul, 1) := by decide +kernel
theorem dX5_stepOf_23 : decode cX5_stepOf 23 = .ok (.lreturn, 1) := by decide +kernel
set_option maxRecDepth 20000 in
theorem ggX5_lastOf_X5_stepOf : GoodIn wsX5_lastOf wsX5_stepOf := goodIn_r _ [6, 7, 8, 9, 5, 10, 11, 12, 13, 14, 15, 16, 17, 18, 19, 20, 21] (by decide +kernel) (by decide +kernel)
set_option maxRecDepth 20000 in
theorem gX5_lastOf_X5_stepOf : GoodIn wsX5_lastOf (wsV RX5 76 RX5 yX5_stepOf wsX5_stepOf) := goodIn_app (goodIn_of _ (by decide +kernel)) ggX5_lastOf_X5_stepOf
theorem dX5_lastOf_0 : decode cX5_lastOf 0 = .ok (.aload_n 0, 1) := by decide +kernel
theorem dX5_lastOf_1 : decode cX5_lastOf 1 = .ok (.iload_n 1, 1) := by decide +kernel
theorem dX5_lastOf_2 : decode cX5_lastOf 2 = .ok (.iload_n 2, 1) := by decide +kernel
theorem dX5_lastOf_3 : decode cX5_lastOf 3 = .ok (.invokevirtual 76, 3) := by decide +kernel
theorem dX5_lastOf_6 : decode cX5_lastOf 6 = .ok (.ldc2_w 79, 3) := by decide +kernel
theorem dX5_lastOf_9 : decode cX5_lastOf 9 = .ok (.ldiv, 1) := by decide +kernel
theorem dX5_lastOf_10 : decode cX5_lastOf 10 = .ok (.lreturn, 1) := by decide +kernel
set_option maxRecDepth 20000 in
theorem ggX5_isBelow_X5_at : GoodIn wsX5_isBelow wsX5_at := goodIn_r _ [5] (by decide +kernel) (by decide +kernel)
set_option maxRecDepth 20000 in
theorem gX5_isBelow_X5_at : GoodIn wsX5_isBelow (va_wsS RX5 19 yX5_at wsX5_at) := goodIn_app (goodIn_of _ (by decide +kernel)) ggX5_isBelow_X5_at
theorem dX5_isBelow_0 : decode cX5_isBelow 0 = .ok (.aload_n 0, 1) := by decide +kernel
theorem dX5_isBelow_1 : decode cX5_isBelow 1 = .ok (.getfield 7, 3) := by decide +kernel
theorem dX5_isBelow_4 : decode cX5_isBelow 4 = .ok (.iload_n 1, 1) := by decide +kernel
theorem dX5_isBelow_5 : decode cX5_isBelow 5 = .ok (.bipush 49, 2) := by decide +kernel
theorem dX5_isBelow_7 : decode cX5_isBelow 7 = .ok (.iload_n 2, 1) := by decide +kernel
theorem dX5_isBelow_8 : decode cX5_isBelow 8 = .ok (.iadd, 1) := by decide +kernel
theorem dX5_isBelow_9 : decode cX5_isBelow 9 = .ok (.invokestatic 19, 3) := by decide +kernel
theorem dX5_isBelow_12 : decode cX5_isBelow 12 = .ok (.laload, 1) := by decide +kernel
theorem dX5_isBelow_13 : decode cX5_isBelow 13 = .ok (.aload_n 0, 1) := by decide +kernel
theorem dX5_isBelow_14 : decode cX5_isBelow 14 = .ok (.getfield 7, 3) := by decide +kernel
theorem dX5_isBelow_17 : decode cX5_isBelow 17 = .ok (.iload_n 1, 1) := by decide +kernel
theorem dX5_isBelow_18 : decode cX5_isBelow 18 = .ok (.bipush 33, 2) := by decide +kernel
theorem dX5_isBelow_20 : decode cX5_isBelow 20 = .ok (.iload_n 2, 1) := by decide +kernel
theorem dX5_isBelow_21 : decode cX5_isBelow 21 = .ok (.iadd, 1) := by decide +kernel
theorem dX5_isBelow_22 : decode cX5_isBelow 22 = .ok (.invokestatic 19, 3) := by decide +kernel
theorem dX5_isBelow_25 : decode cX5_isBelow 25 = .ok (.laload, 1) := by decide +kernel
theorem dX5_isBelow_26 : decode cX5_isBelow 26 = .ok (.lcmp, 1) := by decide +kernel
theorem dX5_isBelow_27 : decode cX5_isBelow 27 = .ok (.ifCond .ge 7, 3) := by decide +kernel
theorem dX5_isBelow_30 : decode cX5_isBelow 30 = .ok (.iconst 1, 1) := by decide +kernel
theorem dX5_isBelow_31 : decode cX5_isBelow 31 = .ok (.goto 4, 3) := by decide +kernel
theorem dX5_isBelow_34 : decode cX5_isBelow 34 = .ok (.iconst 0, 1) := by decide +kernel
theorem dX5_isBelow_35 : decode cX5_isBelow 35 = .ok (.ireturn, 1) := by decide +kernel
set_option maxRecDepth 20000 in
theorem ggX5_needOf_X5_at : GoodIn wsX5_needOf wsX5_at := goodIn_r _ [5] (by decide +kernel) (by decide +kernel)
set_option maxRecDepth 20000 in
theorem gX5_needOf_X5_at : GoodIn wsX5_needOf (va_wsS RX5 19 yX5_at wsX5_at) := goodIn_app (goodIn_of _ (by decide +kernel)) ggX5_needOf_X5_at
set_option maxRecDepth 20000 in
theorem ggX5_needOf_X5_noiseOf : GoodIn wsX5_needOf wsX5_noiseOf := goodIn_r _ [9, 1, 10, 2, 3, 4, 5, 14, 15, 16, 17, 18, 19] (by decide +kernel) (by decide +kernel)
set_option maxRecDepth 20000 in
theorem gX5_needOf_X5_noiseOf : GoodIn wsX5_needOf (wsV RX5 72 RX5 yX5_noiseOf wsX5_noiseOf) := goodIn_app (goodIn_of _ (by decide +kernel)) ggX5_needOf_X5_noiseOf
set_option maxRecDepth 20000 in
theorem ggX5_needOf_X5_need : GoodIn wsX5_needOf wsX5_need := goodIn_r _ [13] (by decide +kernel) (by decide +kernel)
set_option maxRecDepth 20000 in
theorem gX5_needOf_X5_need : GoodIn wsX5_needOf (va_wsS RX5 81 yX5_need wsX5_need) := goodIn_app (goodIn_of _ (by decide +kernel)) ggX5_needOf_X5_need
theorem dX5_needOf_0 : decode cX5_needOf 0 = .ok (.aload_n 0, 1) := by decide +kernel
theorem dX5_needOf_1 : decode cX5_needOf 1 = .ok (.getfield 7, 3) := by decide +kernel
theorem dX5_needOf_4 : decode cX5_needOf 4 = .ok (.iload_n 1, 1) := by decide +kernel
theorem dX5_needOf_5 : decode cX5_needOf 5 = .ok (.bipush 49, 2) := by decide +kernel
theorem dX5_needOf_7 : decode cX5_needOf 7 = .ok (.iload_n 2, 1) := by decide +kernel
theorem dX5_needOf_8 : decode cX5_needOf 8 = .ok (.iadd, 1) := by decide +kernel
theorem dX5_needOf_9 : decode cX5_needOf 9 = .ok (.invokestatic 19, 3) := by decide +kernel
theorem dX5_needOf_12 : decode cX5_needOf 12 = .ok (.laload, 1) := by decide +kernel
theorem dX5_needOf_13 : decode cX5_needOf 13 = .ok (.aload_n 0, 1) := by decide +kernel
theorem dX5_needOf_14 : decode cX5_needOf 14 = .ok (.iload_n 1, 1) := by decide +kernel
theorem dX5_needOf_15 : decode cX5_needOf 15 = .ok (.iload_n 2, 1) := by decide +kernel
theorem dX5_needOf_16 : decode cX5_needOf 16 = .ok (.invokevirtual 72, 3) := by decide +kernel
theorem dX5_needOf_19 : decode cX5_needOf 19 = .ok (.invokestatic 81, 3) := by decide +kernel
theorem dX5_needOf_22 : decode cX5_needOf 22 = .ok (.lreturn, 1) := by decide +kernel
set_option maxRecDepth 20000 in
theorem ggX5_feed_X5_needOf : GoodIn wsX5_feed wsX5_needOf := goodIn_r _ [7, 1, 8, 9, 6, 10, 11, 12, 13, 14, 15, 16, 17, 18, 19, 20, 21, 22, 23, 24] (by decide +kernel) (by decide +kernel)
set_option maxRecDepth 20000 in
theorem gX5_feed_X5_needOf : GoodIn wsX5_feed (wsV RX5 85 RX5 yX5_needOf wsX5_needOf) := goodIn_app (goodIn_of _ (by decide +kernel)) ggX5_feed_X5_needOf
set_option maxRecDepth 20000 in
theorem ggX5_feed_X5_at : GoodIn wsX5_feed wsX5_at := goodIn_r _ [10] (by decide +kernel) (by decide +kernel)
set_option maxRecDepth 20000 in
theorem gX5_feed_X5_at : GoodIn wsX5_feed (va_wsS RX5 19 yX5_at wsX5_at) := goodIn_app (goodIn_of _ (by decide +kernel)) ggX5_feed_X5_at
theorem dX5_feed_0 : decode cX5_feed 0 = .ok (.aload_n 0, 1) := by decide +kernel
theorem dX5_feed_1 : decode cX5_feed 1 = .ok (.iload_n 1, 1) := by decide +kernel
theorem dX5_feed_2 : decode cX5_feed 2 = .ok (.iload_n 2, 1) := by decide +kernel
theorem dX5_feed_3 : decode cX5_feed 3 = .ok (.invokevirtual 85, 3) := by decide +kernel
theorem dX5_feed_6 : decode cX5_feed 6 = .ok (.lstore_n 3, 1) := by decide +kernel
theorem dX5_feed_7 : decode cX5_feed 7 = .ok (.aload_n 0, 1) := by decide +kernel
theorem dX5_feed_8 : decode cX5_feed 8 = .ok (.getfield 7, 3) := by decide +kernel
theorem dX5_feed_11 : decode cX5_feed 11 = .ok (.iload_n 1, 1) := by decide +kernel
theorem dX5_feed_12 : decode cX5_feed 12 = .ok (.bipush 81, 2) := by decide +kernel
theorem dX5_feed_14 : decode cX5_feed 14 = .ok (.iload_n 2, 1) := by decide +kernel
theorem dX5_feed_15 : decode cX5_feed 15 = .ok (.iadd, 1) := by decide +kernel
theorem dX5_feed_16 : decode cX5_feed 16 = .ok (.invokestatic 19, 3) := by decide +kernel
theorem dX5_feed_19 : decode cX5_feed 19 = .ok (.lload_n 3, 1) := by decide +kernel
theorem dX5_feed_20 : decode cX5_feed 20 = .ok (.ldc2_w 88, 3) := by decide +kernel
theorem dX5_feed_23 : decode cX5_feed 23 = .ok (.lcmp, 1) := by decide +kernel
theorem dX5_feed_24 : decode cX5_feed 24 = .ok (.ifCond .le 9, 3) := by decide +kernel
theorem dX5_feed_27 : decode cX5_feed 27 = .ok (.ldc2_w 88, 3) := by decide +kernel
theorem dX5_feed_30 : decode cX5_feed 30 = .ok (.goto 4, 3) := by decide +kernel
theorem dX5_feed_33 : decode cX5_feed 33 = .ok (.lload_n 3, 1) := by decide +kernel
theorem dX5_feed_34 : decode cX5_feed 34 = .ok (.lastore, 1) := by decide +kernel
theorem dX5_feed_35 : decode cX5_feed 35 = .ok (.return_, 1) := by decide +kernel
set_option maxRecDepth 20000 in
theorem ggX5_cheapest_X5_isBelow : GoodIn wsX5_cheapest wsX5_isBelow := goodIn_r _ [5, 6, 7, 8, 4, 9, 19, 20, 21, 22, 23, 24] (by decide +kernel) (by decide +kernel)
set_option maxRecDepth 20000 in
theorem gX5_cheapest_X5_isBelow : GoodIn wsX5_cheapest (wsV RX5 90 RX5 yX5_isBelow wsX5_isBelow) := goodIn_app (goodIn_of _ (by decide +kernel)) ggX5_cheapest_X5_isBelow
set_option maxRecDepth 20000 in
theorem ggX5_cheapest_X5_stepOf : GoodIn wsX5_cheapest wsX5_stepOf := goodIn_r _ [13, 6, 7, 8, 4, 9, 14, 15, 16, 17, 18, 19, 20, 21, 22, 23, 24] (by decide +kernel) (by decide +kernel)
set_option maxRecDepth 20000 in
theorem gX5_cheapest_X5_stepOf : GoodIn wsX5_cheapest (wsV RX5 76 RX5 yX5_stepOf wsX5_stepOf) := goodIn_app (goodIn_of _ (by decide +kernel)) ggX5_cheapest_X5_stepOf
theorem dX5_cheapest_0 : decode cX5_cheapest 0 = .ok (.iconst (-1), 1) := by decide +kernel
theorem dX5_cheapest_1 : decode cX5_cheapest 1 = .ok (.istore_n 3, 1) := by decide +kernel
theorem dX5_cheapest_2 : decode cX5_cheapest 2 = .ok (.iconst 0, 1) := by decide +kernel
theorem dX5_cheapest_3 : decode cX5_cheapest 3 = .ok (.istore 4, 2) := by decide +kernel
theorem dX5_cheapest_5 : decode cX5_cheapest 5 = .ok (.iload 4, 2) := by decide +kernel
theorem dX5_cheapest_7 : decode cX5_cheapest 7 = .ok (.bipush 16, 2) := by decide +kernel
theorem dX5_cheapest_9 : decode cX5_cheapest 9 = .ok (.if_icmp .ge 66, 3) := by decide +kernel
theorem dX5_cheapest_12 : decode cX5_cheapest 12 = .ok (.iload 4, 2) := by decide +kernel
theorem dX5_cheapest_14 : decode cX5_cheapest 14 = .ok (.iload_n 2, 1) := by decide +kernel
theorem dX5_cheapest_15 : decode cX5_cheapest 15 = .ok (.if_icmp .eq 17, 3) := by decide +kernel
theorem dX5_cheapest_18 : decode cX5_cheapest 18 = .ok (.aload_n 0, 1) := by decide +kernel
theorem dX5_cheapest_19 : decode cX5_cheapest 19 = .ok (.iload_n 1, 1) := by decide +kernel
theorem dX5_cheapest_20 : decode cX5_cheapest 20 = .ok (.iload 4, 2) := by decide +kernel
theorem dX5_cheapest_22 : decode cX5_cheapest 22 = .ok (.invokevirtual 90, 3) := by decide +kernel
theorem dX5_cheapest_25 : decode cX5_cheapest 25 = .ok (.ifCond .eq 7, 3) := by decide +kernel
theorem dX5_cheapest_28 : decode cX5_cheapest 28 = .ok (.iconst 1, 1) := by decide +kernel
theorem dX5_cheapest_29 : decode cX5_cheapest 29 = .ok (.goto 4, 3) := by decide +kernel
theorem dX5_cheapest_32 : decode cX5_cheapest 32 = .ok (.iconst 0, 1) := by decide +kernel
theorem dX5_cheapest_33 : decode cX5_cheapest 33 = .ok (.istore 5, 2) := by decide +kernel
theorem dX5_cheapest_35 : decode cX5_cheapest 35 = .ok (.iload 5, 2) := by decide +kernel
theorem dX5_cheapest_37 : decode cX5_cheapest 37 = .ok (.ifCond .eq 30, 3) := by decide +kernel
theorem dX5_cheapest_40 : decode cX5_cheapest 40 = .ok (.iload_n 3, 1) := by decide +kernel
theorem dX5_cheapest_41 : decode cX5_cheapest 41 = .ok (.iconst (-1), 1) := by decide +kernel
theorem dX5_cheapest_42 : decode cX5_cheapest 42 = .ok (.if_icmp .eq 20, 3) := by decide +kernel
theorem dX5_cheapest_45 : decode cX5_cheapest 45 = .ok (.aload_n 0, 1) := by decide +kernel
theorem dX5_cheapest_46 : decode cX5_cheapest 46 = .ok (.iload_n 1, 1) := by decide +kernel
theorem dX5_cheapest_47 : decode cX5_cheapest 47 = .ok (.iload 4, 2) := by decide +kernel
theorem dX5_cheapest_49 : decode cX5_cheapest 49 = .ok (.invokevirtual 76, 3) := by decide +kernel
theorem dX5_cheapest_52 : decode cX5_cheapest 52 = .ok (.aload_n 0, 1) := by decide +kernel
theorem dX5_cheapest_53 : decode cX5_cheapest 53 = .ok (.iload_n 1, 1) := by decide +kernel
theorem dX5_cheapest_54 : decode cX5_cheapest 54 = .ok (.iload_n 3, 1) := by decide +kernel
theorem dX5_cheapest_55 : decode cX5_cheapest 55 = .ok (.invokevirtual 76, 3) := by decide +kernel
theorem dX5_cheapest_58 : decode cX5_cheapest 58 = .ok (.lcmp, 1) := by decide +kernel
theorem dX5_cheapest_59 : decode cX5_cheapest 59 = .ok (.ifCond .ge 8, 3) := by decide +kernel
theorem dX5_cheapest_62 : decode cX5_cheapest 62 = .ok (.iload 4, 2) := by decide +kernel
theorem dX5_cheapest_64 : decode cX5_cheapest 64 = .ok (.goto 4, 3) := by decide +kernel
theorem dX5_cheapest_67 : decode cX5_cheapest 67 = .ok (.iload_n 3, 1) := by decide +kernel
theorem dX5_cheapest_68 : decode cX5_cheapest 68 = .ok (.istore_n 3, 1) := by decide +kernel
theorem dX5_cheapest_69 : decode cX5_cheapest 69 = .ok (.iinc 4 1, 3) := by decide +kernel
theorem dX5_cheapest_72 : decode cX5_cheapest 72 = .ok (.goto (-67), 3) := by decide +kernel
theorem dX5_cheapest_75 : decode cX5_cheapest 75 = .ok (.iload_n 3, 1) := by decide +kernel
theorem dX5_cheapest_76 : decode cX5_cheapest 76 = .ok (.ireturn, 1) := by decide +kernel
set_option maxRecDepth 20000 in
theorem ggX5_drop_X5_at : GoodIn wsX5_drop wsX5_at := goodIn_r _ [6] (by decide +kernel) (by decide +kernel)
set_option maxRecDepth 20000 in
theorem gX5_drop_X5_at : GoodIn wsX5_drop (va_wsS RX5 19 yX5_at wsX5_at) := goodIn_app (goodIn_of _ (by decide +kernel)) ggX5_drop_X5_at
theorem dX5_drop_0 : decode cX5_drop 0 = .ok (.bipush 97, 2) := by decide +kernel
theorem dX5_drop_2 : decode cX5_drop 2 = .ok (.istore_n 2, 1) := by decide +kernel
theorem dX5_drop_3 : decode cX5_drop 3 = .ok (.iload_n 2, 1) := by decide +kernel
theorem dX5_drop_4 : decode cX5_drop 4 = .ok (.bipush 115, 2) := by decide +kernel
theorem dX5_drop_6 : decode cX5_drop 6 = .ok (.if_icmp .ge 20, 3) := by decide +kernel
theorem dX5_drop_9 : decode cX5_drop 9 = .ok (.aload_n 0, 1) := by decide +kernel
theorem dX5_drop_10 : decode cX5_drop 10 = .ok (.getfield 7, 3) := by decide +kernel
theorem dX5_drop_13 : decode cX5_drop 13 = .ok (.iload_n 1, 1) := by decide +kernel
theorem dX5_drop_14 : decode cX5_drop 14 = .ok (.iload_n 2, 1) := by decide +kernel
theorem dX5_drop_15 : decode cX5_drop 15 = .ok (.invokestatic 19, 3) := by decide +kernel
theorem dX5_drop_18 : decode cX5_drop 18 = .ok (.lconst 0, 1) := by decide +kernel
theorem dX5_drop_19 : decode cX5_drop 19 = .ok (.lastore, 1) := by decide +kernel
theorem dX5_drop_20 : decode cX5_drop 20 = .ok (.iinc 2 1, 3) := by decide +kernel
theorem dX5_drop_23 : decode cX5_drop 23 = .ok (.goto (-20), 3) := by decide +kernel
theorem dX5_drop_26 : decode cX5_drop 26 = .ok (.aload_n 0, 1) := by decide +kernel
theorem dX5_drop_27 : decode cX5_drop 27 = .ok (.getfield 7, 3) := by decide +kernel
theorem dX5_drop_30 : decode cX5_drop 30 = .ok (.iload_n 1, 1) := by decide +kernel
theorem dX5_drop_31 : decode cX5_drop 31 = .ok (.bipush 101, 2) := by decide +kernel
theorem dX5_drop_33 : decode cX5_drop 33 = .ok (.invokestatic 19, 3) := by decide +kernel
theorem dX5_drop_36 : decode cX5_drop 36 = .ok (.ldc2_w 94, 3) := by decide +kernel
theorem dX5_drop_39 : decode cX5_drop 39 = .ok (.lastore, 1) := by decide +kernel
theorem dX5_drop_40 : decode cX5_drop 40 = .ok (.return_, 1) := by decide +kernel
set_option maxRecDepth 20000 in
theorem ggX5_finish_X5_feed : GoodIn wsX5_finish wsX5_feed := goodIn_r _ [6, 1, 7, 8, 9, 10, 5, 11, 12, 13, 14, 15, 16, 17, 18, 19, 20, 21, 22, 28, 29, 30, 31, 32, 33] (by decide +kernel) (by decide +kernel)
set_option maxRecDepth 20000 in
theorem gX5_finish_X5_feed : GoodIn wsX5_finish (wsV RX5 96 RX5 yX5_feed wsX5_feed) := goodIn_app (goodIn_of _ (by decide +kernel)) ggX5_finish_X5_feed
set_option maxRecDepth 20000 in
theorem ggX5_finish_X5_at : GoodIn wsX5_finish wsX5_at := goodIn_r _ [14] (by decide +kernel) (by decide +kernel)
set_option maxRecDepth 20000 in
theorem gX5_finish_X5_at : GoodIn wsX5_finish (va_wsS RX5 19 yX5_at wsX5_at) := goodIn_app (goodIn_of _ (by decide +kernel)) ggX5_finish_X5_at
set_option maxRecDepth 20000 in
theorem ggX5_finish_X5_drop : GoodIn wsX5_finish wsX5_drop := goodIn_r _ [26, 1, 27, 12, 13, 5, 14, 28, 29, 30, 31, 32, 33] (by decide +kernel) (by decide +kernel)
set_option maxRecDepth 20000 in
theorem gX5_finish_X5_drop : GoodIn wsX5_finish (wsV RX5 29 RX5 yX5_drop wsX5_drop) := goodIn_app (goodIn_of _ (by decide +kernel)) ggX5_finish_X5_drop
theorem dX5_finish_0 : decode cX5_finish 0 = .ok (.iconst 0, 1) := by decide +kernel
theorem dX5_finish_1 : decode cX5_finish 1 = .ok (.istore_n 2, 1) := by decide +kernel
theorem dX5_finish_2 : decode cX5_finish 2 = .ok (.iload_n 2, 1) := by decide +kernel
theorem dX5_finish_3 : decode cX5_finish 3 = .ok (.bipush 16, 2) := by decide +kernel
theorem dX5_finish_5 : decode cX5_finish 5 = .ok (.if_icmp .ge 41, 3) := by decide +kernel
theorem dX5_finish_8 : decode cX5_finish 8 = .ok (.aload_n 0, 1) := by decide +kernel
theorem dX5_finish_9 : decode cX5_finish 9 = .ok (.iload_n 1, 1) := by decide +kernel
theorem dX5_finish_10 : decode cX5_finish 10 = .ok (.iload_n 2, 1) := by decide +kernel
theorem dX5_finish_11 : decode cX5_finish 11 = .ok (.invokevirtual 96, 3) := by decide +kernel
theorem dX5_finish_14 : decode cX5_finish 14 = .ok (.aload_n 0, 1) := by decide +kernel
theorem dX5_finish_15 : decode cX5_finish 15 = .ok (.getfield 7, 3) := by decide +kernel
theorem dX5_finish_18 : decode cX5_finish 18 = .ok (.iload_n 1, 1) := by decide +kernel
theorem dX5_finish_19 : decode cX5_finish 19 = .ok (.bipush 65, 2) := by decide +kernel
theorem dX5_finish_21 : decode cX5_finish 21 = .ok (.iload_n 2, 1) := by decide +kernel
theorem dX5_finish_22 : decode cX5_finish 22 = .ok (.iadd, 1) := by decide +kernel
theorem dX5_finish_23 : decode cX5_finish 23 = .ok (.invokestatic 19, 3) := by decide +kernel
theorem dX5_finish_26 : decode cX5_finish 26 = .ok (.aload_n 0, 1) := by decide +kernel
theorem dX5_finish_27 : decode cX5_finish 27 = .ok (.getfield 7, 3) := by decide +kernel
theorem dX5_finish_30 : decode cX5_finish 30 = .ok (.iload_n 1, 1) := by decide +kernel
theorem dX5_finish_31 : decode cX5_finish 31 = .ok (.bipush 49, 2) := by decide +kernel
theorem dX5_finish_33 : decode cX5_finish 33 = .ok (.iload_n 2, 1) := by decide +kernel
theorem dX5_finish_34 : decode cX5_finish 34 = .ok (.iadd, 1) := by decide +kernel
theorem dX5_finish_35 : decode cX5_finish 35 = .ok (.invokestatic 19, 3) := by decide +kernel
theorem dX5_finish_38 : decode cX5_finish 38 = .ok (.laload, 1) := by decide +kernel
theorem dX5_finish_39 : decode cX5_finish 39 = .ok (.lastore, 1) := by decide +kernel
theorem dX5_finish_40 : decode cX5_finish 40 = .ok (.iinc 2 1, 3) := by decide +kernel
theorem dX5_finish_43 : decode cX5_finish 43 = .ok (.goto (-41), 3) := by decide +kernel
theorem dX5_finish_46 : decode cX5_finish 46 = .ok (.aload_n 0, 1) := by decide +kernel
theorem dX5_finish_47 : decode cX5_finish 47 = .ok (.iload_n 1, 1) := by decide +kernel
theorem dX5_finish_48 : decode cX5_finish 48 = .ok (.invokevirtual 29, 3) := by decide +kernel
theorem dX5_finish_51 : decode cX5_finish 51 = .ok (.return_, 1) := by decide +kernel
set_option maxRecDepth 20000 in
theorem ggX5_clear_X5_at : GoodIn wsX5_clear wsX5_at := goodIn_r _ [5] (by decide +kernel) (by decide +kernel)
set_option maxRecDepth 20000 in
theorem gX5_clear_X5_at : GoodIn wsX5_clear (va_wsS RX5 19 yX5_at wsX5_at) := goodIn_app (goodIn_of _ (by decide +kernel)) ggX5_clear_X5_at
theorem dX5_clear_0 : decode cX5_clear 0 = .ok (.iconst 0, 1) := by decide +kernel
theorem dX5_clear_1 : decode cX5_clear 1 = .ok (.istore_n 2, 1) := by decide +kernel
theorem dX5_clear_2 : decode cX5_clear 2 = .ok (.iload_n 2, 1) := by decide +kernel
theorem dX5_clear_3 : decode cX5_clear 3 = .ok (.bipush 16, 2) := by decide +kernel
theorem dX5_clear_5 : decode cX5_clear 5 = .ok (.if_icmp .ge 23, 3) := by decide +kernel
theorem dX5_clear_8 : decode cX5_clear 8 = .ok (.aload_n 0, 1) := by decide +kernel
theorem dX5_clear_9 : decode cX5_clear 9 = .ok (.getfield 7, 3) := by decide +kernel
theorem dX5_clear_12 : decode cX5_clear 12 = .ok (.iload_n 1, 1) := by decide +kernel
theorem dX5_clear_13 : decode cX5_clear 13 = .ok (.bipush 49, 2) := by decide +kernel
theorem dX5_clear_15 : decode cX5_clear 15 = .ok (.iload_n 2, 1) := by decide +kernel
theorem dX5_clear_16 : decode cX5_clear 16 = .ok (.iadd, 1) := by decide +kernel
theorem dX5_clear_17 : decode cX5_clear 17 = .ok (.invokestatic 19, 3) := by decide +kernel
theorem dX5_clear_20 : decode cX5_clear 20 = .ok (.lconst 0, 1) := by decide +kernel
theorem dX5_clear_21 : decode cX5_clear 21 = .ok (.lastore, 1) := by decide +kernel
theorem dX5_clear_22 : decode cX5_clear 22 = .ok (.iinc 2 1, 3) := by decide +kernel
theorem dX5_clear_25 : decode cX5_clear 25 = .ok (.goto (-23), 3) := by decide +kernel
theorem dX5_clear_28 : decode cX5_clear 28 = .ok (.return_, 1) := by decide +kernel
set_option maxRecDepth 20000 in
theorem ggX5_load_X5_clear : GoodIn wsX5_load wsX5_clear := goodIn_r _ [6, 1, 7, 8, 5, 9, 48, 49, 50, 51, 52, 53] (by decide +kernel) (by decide +kernel)
set_option maxRecDepth 20000 in
theorem gX5_load_X5_clear : GoodIn wsX5_load (wsV RX5 100 RX5 yX5_clear wsX5_clear) := goodIn_app (goodIn_of _ (by decide +kernel)) ggX5_load_X5_clear
set_option maxRecDepth 20000 in
theorem ggX5_load_X5_cheapest : GoodIn wsX5_load wsX5_cheapest := goodIn_r _ [13, 14, 15, 16, 5, 17, 1, 7, 8, 9, 18, 19, 20, 21, 22, 23, 24, 25, 26, 48, 49, 50, 51, 52, 53] (by decide +kernel) (by decide +kernel)
set_option maxRecDepth 20000 in
theorem gX5_load_X5_cheapest : GoodIn wsX5_load (wsV RX5 103 RX5 yX5_cheapest wsX5_cheapest) := goodIn_app (goodIn_of _ (by decide +kernel)) ggX5_load_X5_cheapest
set_option maxRecDepth 20000 in
theorem ggX5_load_X5_stepOf : GoodIn wsX5_load wsX5_stepOf := goodIn_r _ [21, 1, 7, 8, 5, 9, 22, 23, 24, 25, 26, 48, 49, 50, 51, 52, 53] (by decide +kernel) (by decide +kernel)
set_option maxRecDepth 20000 in
theorem gX5_load_X5_stepOf : GoodIn wsX5_load (wsV RX5 76 RX5 yX5_stepOf wsX5_stepOf) := goodIn_app (goodIn_of _ (by decide +kernel)) ggX5_load_X5_stepOf
set_option maxRecDepth 20000 in
theorem ggX5_load_X5_at : GoodIn wsX5_load wsX5_at := goodIn_r _ [9] (by decide +kernel) (by decide +kernel)
set_option maxRecDepth 20000 in
theorem gX5_load_X5_at : GoodIn wsX5_load (va_wsS RX5 19 yX5_at wsX5_at) := goodIn_app (goodIn_of _ (by decide +kernel)) ggX5_load_X5_at
set_option maxRecDepth 20000 in
theorem ggX5_load_X5_finish : GoodIn wsX5_load wsX5_finish := goodIn_r _ [30, 1, 31, 32, 33, 5, 34, 35, 36, 37, 38, 39, 7, 8, 9, 22, 23, 24, 25, 26, 40, 41, 42, 43, 44, 45, 46, 47, 48, 49, 50, 51, 52, 53] (by decide +kernel) (by decide +kernel)
set_option maxRecDepth 20000 in
theorem gX5_load_X5_finish : GoodIn wsX5_load (wsV RX5 106 RX5 yX5_finish wsX5_finish) := goodIn_app (goodIn_of _ (by decide +kernel)) ggX5_load_X5_finish
theorem dX5_load_0 : decode cX5_load 0 = .ok (.aload_n 0, 1) := by decide +kernel
theorem dX5_load_1 : decode cX5_load 1 = .ok (.iload_n 1, 1) := by decide +kernel
theorem dX5_load_2 : decode cX5_load 2 = .ok (.invokevirtual 100, 3) := by decide +kernel
theorem dX5_load_5 : decode cX5_load 5 = .ok (.lconst 0, 1) := by decide +kernel
theorem dX5_load_6 : decode cX5_load 6 = .ok (.lstore_n 2, 1) := by decide +kernel
theorem dX5_load_7 : decode cX5_load 7 = .ok (.iconst 1, 1) := by decide +kernel
theorem dX5_load_8 : decode cX5_load 8 = .ok (.istore 4, 2) := by decide +kernel
theorem dX5_load_10 : decode cX5_load 10 = .ok (.iload 4, 2) := by decide +kernel
theorem dX5_load_12 : decode cX5_load 12 = .ok (.ifCond .eq 92, 3) := by decide +kernel
theorem dX5_load_15 : decode cX5_load 15 = .ok (.aload_n 0, 1) := by decide +kernel
theorem dX5_load_16 : decode cX5_load 16 = .ok (.iload_n 1, 1) := by decide +kernel
theorem dX5_load_17 : decode cX5_load 17 = .ok (.iconst (-1), 1) := by decide +kernel
theorem dX5_load_18 : decode cX5_load 18 = .ok (.invokevirtual 103, 3) := by decide +kernel
theorem dX5_load_21 : decode cX5_load 21 = .ok (.istore 5, 2) := by decide +kernel
theorem dX5_load_23 : decode cX5_load 23 = .ok (.iload 5, 2) := by decide +kernel
theorem dX5_load_25 : decode cX5_load 25 = .ok (.iconst (-1), 1) := by decide +kernel
theorem dX5_load_26 : decode cX5_load 26 = .ok (.if_icmp .ne 7, 3) := by decide +kernel
theorem dX5_load_29 : decode cX5_load 29 = .ok (.lconst 0, 1) := by decide +kernel
theorem dX5_load_30 : decode cX5_load 30 = .ok (.goto 10, 3) := by decide +kernel
theorem dX5_load_33 : decode cX5_load 33 = .ok (.aload_n 0, 1) := by decide +kernel
theorem dX5_load_34 : decode cX5_load 34 = .ok (.iload_n 1, 1) := by decide +kernel
theorem dX5_load_35 : decode cX5_load 35 = .ok (.iload 5, 2) := by decide +kernel
theorem dX5_load_37 : decode cX5_load 37 = .ok (.invokevirtual 76, 3) := by decide +kernel
theorem dX5_load_40 : decode cX5_load 40 = .ok (.lstore 6, 2) := by decide +kernel
theorem dX5_load_42 : decode cX5_load 42 = .ok (.iload 5, 2) := by decide +kernel
theorem dX5_load_44 : decode cX5_load 44 = .ok (.iconst (-1), 1) := by decide +kernel
theorem dX5_load_45 : decode cX5_load 45 = .ok (.if_icmp .eq 25, 3) := by decide +kernel
theorem dX5_load_48 : decode cX5_load 48 = .ok (.lload_n 2, 1) := by decide +kernel
theorem dX5_load_49 : decode cX5_load 49 = .ok (.lload 6, 2) := by decide +kernel
theorem dX5_load_51 : decode cX5_load 51 = .ok (.ladd, 1) := by decide +kernel
theorem dX5_load_52 : decode cX5_load 52 = .ok (.aload_n 0, 1) := by decide +kernel
theorem dX5_load_53 : decode cX5_load 53 = .ok (.getfield 7, 3) := by decide +kernel
theorem dX5_load_56 : decode cX5_load 56 = .ok (.iload_n 1, 1) := by decide +kernel
theorem dX5_load_57 : decode cX5_load 57 = .ok (.iconst 0, 1) := by decide +kernel
theorem dX5_load_58 : decode cX5_load 58 = .ok (.invokestatic 19, 3) := by decide +kernel
theorem dX5_load_61 : decode cX5_load 61 = .ok (.laload, 1) := by decide +kernel
theorem dX5_load_62 : decode cX5_load 62 = .ok (.lcmp, 1) := by decide +kernel
theorem dX5_load_63 : decode cX5_load 63 = .ok (.ifCond .gt 7, 3) := by decide +kernel
theorem dX5_load_66 : decode cX5_load 66 = .ok (.iconst 1, 1) := by decide +kernel
theorem dX5_load_67 : decode cX5_load 67 = .ok (.goto 4, 3) := by decide +kernel
theorem dX5_load_70 : decode cX5_load 70 = .ok (.iconst 0, 1) := by decide +kernel
theorem dX5_load_71 : decode cX5_load 71 = .ok (.istore 4, 2) := by decide +kernel
theorem dX5_load_73 : decode cX5_load 73 = .ok (.iload 4, 2) := by decide +kernel
theorem dX5_load_75 : decode cX5_load 75 = .ok (.ifCond .eq 26, 3) := by decide +kernel
theorem dX5_load_78 : decode cX5_load 78 = .ok (.lload_n 2, 1) := by decide +kernel
theorem dX5_load_79 : decode cX5_load 79 = .ok (.lload 6, 2) := by decide +kernel
theorem dX5_load_81 : decode cX5_load 81 = .ok (.ladd, 1) := by decide +kernel
theorem dX5_load_82 : decode cX5_load 82 = .ok (.lstore_n 2, 1) := by decide +kernel
theorem dX5_load_83 : decode cX5_load 83 = .ok (.aload_n 0, 1) := by decide +kernel
theorem dX5_load_84 : decode cX5_load 84 = .ok (.getfield 7, 3) := by decide +kernel
theorem dX5_load_87 : decode cX5_load 87 = .ok (.iload_n 1, 1) := by decide +kernel
theorem dX5_load_88 : decode cX5_load 88 = .ok (.bipush 49, 2) := by decide +kernel
theorem dX5_load_90 : decode cX5_load 90 = .ok (.iload 5, 2) := by decide +kernel
theorem dX5_load_92 : decode cX5_load 92 = .ok (.iadd, 1) := by decide +kernel
theorem dX5_load_93 : decode cX5_load 93 = .ok (.invokestatic 19, 3) := by decide +kernel
theorem dX5_load_96 : decode cX5_load 96 = .ok (.dup2, 1) := by decide +kernel
theorem dX5_load_97 : decode cX5_load 97 = .ok (.laload, 1) := by decide +kernel
theorem dX5_load_98 : decode cX5_load 98 = .ok (.lconst 1, 1) := by decide +kernel
theorem dX5_load_99 : decode cX5_load 99 = .ok (.ladd, 1) := by decide +kernel
theorem dX5_load_100 : decode cX5_load 100 = .ok (.lastore, 1) := by decide +kernel
theorem dX5_load_101 : decode cX5_load 101 = .ok (.goto (-91), 3) := by decide +kernel
theorem dX5_load_104 : decode cX5_load 104 = .ok (.aload_n 0, 1) := by decide +kernel
theorem dX5_load_105 : decode cX5_load 105 = .ok (.iload_n 1, 1) := by decide +kernel
theorem dX5_load_106 : decode cX5_load 106 = .ok (.invokevirtual 106, 3) := by decide +kernel
theorem dX5_load_109 : decode cX5_load 109 = .ok (.return_, 1) := by decide +kernel
set_option maxRecDepth 20000 in
theorem ggX5_rateOf_X5_at : GoodIn wsX5_rateOf wsX5_at := goodIn_r _ [5] (by decide +kernel) (by decide +kernel)
set_option maxRecDepth 20000 in
theorem gX5_rateOf_X5_at : GoodIn wsX5_rateOf (va_wsS RX5 19 yX5_at wsX5_at) := goodIn_app (goodIn_of _ (by decide +kernel)) ggX5_rateOf_X5_at
theorem dX5_rateOf_0 : decode cX5_rateOf 0 = .ok (.lconst 0, 1) := by decide +kernel
theorem dX5_rateOf_1 : decode cX5_rateOf 1 = .ok (.lstore_n 2, 1) := by decide +kernel
theorem dX5_rateOf_2 : decode cX5_rateOf 2 = .ok (.iconst 0, 1) := by decide +kernel
theorem dX5_rateOf_3 : decode cX5_rateOf 3 = .ok (.istore 4, 2) := by decide +kernel
theorem dX5_rateOf_5 : decode cX5_rateOf 5 = .ok (.iload 4, 2) := by decide +kernel
theorem dX5_rateOf_7 : decode cX5_rateOf 7 = .ok (.bipush 16, 2) := by decide +kernel
theorem dX5_rateOf_9 : decode cX5_rateOf 9 = .ok (.if_icmp .ge 26, 3) := by decide +kernel
theorem dX5_rateOf_12 : decode cX5_rateOf 12 = .ok (.lload_n 2, 1) := by decide +kernel
theorem dX5_rateOf_13 : decode cX5_rateOf 13 = .ok (.aload_n 0, 1) := by decide +kernel
theorem dX5_rateOf_14 : decode cX5_rateOf 14 = .ok (.getfield 7, 3) := by decide +kernel
theorem dX5_rateOf_17 : decode cX5_rateOf 17 = .ok (.iload_n 1, 1) := by decide +kernel
theorem dX5_rateOf_18 : decode cX5_rateOf 18 = .ok (.bipush 49, 2) := by decide +kernel
theorem dX5_rateOf_20 : decode cX5_rateOf 20 = .ok (.iload 4, 2) := by decide +kernel
theorem dX5_rateOf_22 : decode cX5_rateOf 22 = .ok (.iadd, 1) := by decide +kernel
theorem dX5_rateOf_23 : decode cX5_rateOf 23 = .ok (.invokestatic 19, 3) := by decide +kernel
theorem dX5_rateOf_26 : decode cX5_rateOf 26 = .ok (.laload, 1) := by decide +kernel
theorem dX5_rateOf_27 : decode cX5_rateOf 27 = .ok (.ladd, 1) := by decide +kernel
theorem dX5_rateOf_28 : decode cX5_rateOf 28 = .ok (.lstore_n 2, 1) := by decide +kernel
theorem dX5_rateOf_29 : decode cX5_rateOf 29 = .ok (.iinc 4 1, 3) := by decide +kernel
theorem dX5_rateOf_32 : decode cX5_rateOf 32 = .ok (.goto (-27), 3) := by decide +kernel
theorem dX5_rateOf_35 : decode cX5_rateOf 35 = .ok (.lload_n 2, 1) := by decide +kernel
theorem dX5_rateOf_36 : decode cX5_rateOf 36 = .ok (.l2i, 1) := by decide +kernel
theorem dX5_rateOf_37 : decode cX5_rateOf 37 = .ok (.ireturn, 1) := by decide +kernel
set_option maxRecDepth 20000 in
theorem ggX5_energyOf_X5_at : GoodIn wsX5_energyOf wsX5_at := goodIn_r _ [5] (by decide +kernel) (by decide +kernel)
set_option maxRecDepth 20000 in
theorem gX5_energyOf_X5_at : GoodIn wsX5_energyOf (va_wsS RX5 19 yX5_at wsX5_at) := goodIn_app (goodIn_of _ (by decide +kernel)) ggX5_energyOf_X5_at
theorem dX5_energyOf_0 : decode cX5_energyOf 0 = .ok (.lconst 0, 1) := by decide +kernel
theorem dX5_energyOf_1 : decode cX5_energyOf 1 = .ok (.lstore_n 2, 1) := by decide +kernel
theorem dX5_energyOf_2 : decode cX5_energyOf 2 = .ok (.iconst 0, 1) := by decide +kernel
theorem dX5_energyOf_3 : decode cX5_energyOf 3 = .ok (.istore 4, 2) := by decide +kernel
theorem dX5_energyOf_5 : decode cX5_energyOf 5 = .ok (.iload 4, 2) := by decide +kernel
theorem dX5_energyOf_7 : decode cX5_energyOf 7 = .ok (.bipush 16, 2) := by decide +kernel
theorem dX5_energyOf_9 : decode cX5_energyOf 9 = .ok (.if_icmp .ge 26, 3) := by decide +kernel
theorem dX5_energyOf_12 : decode cX5_energyOf 12 = .ok (.lload_n 2, 1) := by decide +kernel
theorem dX5_energyOf_13 : decode cX5_energyOf 13 = .ok (.aload_n 0, 1) := by decide +kernel
theorem dX5_energyOf_14 : decode cX5_energyOf 14 = .ok (.getfield 7, 3) := by decide +kernel
theorem dX5_energyOf_17 : decode cX5_energyOf 17 = .ok (.iload_n 1, 1) := by decide +kernel
theorem dX5_energyOf_18 : decode cX5_energyOf 18 = .ok (.bipush 81, 2) := by decide +kernel
theorem dX5_energyOf_20 : decode cX5_energyOf 20 = .ok (.iload 4, 2) := by decide +kernel
theorem dX5_energyOf_22 : decode cX5_energyOf 22 = .ok (.iadd, 1) := by decide +kernel
theorem dX5_energyOf_23 : decode cX5_energyOf 23 = .ok (.invokestatic 19, 3) := by decide +kernel
theorem dX5_energyOf_26 : decode cX5_energyOf 26 = .ok (.laload, 1) := by decide +kernel
theorem dX5_energyOf_27 : decode cX5_energyOf 27 = .ok (.ladd, 1) := by decide +kernel
theorem dX5_energyOf_28 : decode cX5_energyOf 28 = .ok (.lstore_n 2, 1) := by decide +kernel
theorem dX5_energyOf_29 : decode cX5_energyOf 29 = .ok (.iinc 4 1, 3) := by decide +kernel
theorem dX5_energyOf_32 : decode cX5_energyOf 32 = .ok (.goto (-27), 3) := by decide +kernel
theorem dX5_energyOf_35 : decode cX5_energyOf 35 = .ok (.lload_n 2, 1) := by decide +kernel
theorem dX5_energyOf_36 : decode cX5_energyOf 36 = .ok (.lreturn, 1) := by decide +kernel
set_option maxRecDepth 20000 in
theorem ggX5_loadRate_X5_isPair : GoodIn wsX5_loadRate wsX5_isPair := goodIn_r _ [5, 6, 7, 4, 8] (by decide +kernel) (by decide +kernel)
set_option maxRecDepth 20000 in
theorem gX5_loadRate_X5_isPair : GoodIn wsX5_loadRate (va_wsS RX5 56 yX5_isPair wsX5_isPair) := goodIn_app (goodIn_of _ (by decide +kernel)) ggX5_loadRate_X5_isPair
set_option maxRecDepth 20000 in
theorem ggX5_loadRate_X5_save : GoodIn wsX5_loadRate wsX5_save := goodIn_r _ [12, 13, 14, 15, 69, 70, 71, 72, 73, 74] (by decide +kernel) (by decide +kernel)
set_option maxRecDepth 20000 in
theorem gX5_loadRate_X5_save : GoodIn wsX5_loadRate (wsV RX5 53 RX5 yX5_save wsX5_save) := goodIn_app (goodIn_of _ (by decide +kernel)) ggX5_loadRate_X5_save
set_option maxRecDepth 20000 in
theorem ggX5_loadRate_X5_load : GoodIn wsX5_loadRate wsX5_load := goodIn_r _ [19, 15, 20, 21, 22, 4, 23, 24, 25, 26, 27, 28, 29, 30, 31, 32, 33, 34, 35, 36, 37, 38, 39, 40, 41, 42, 43, 44, 45, 46, 47, 48, 49, 50, 51, 52, 53, 54, 55, 56, 57, 58, 59, 60, 61, 62, 63, 64, 69, 70, 71, 72, 73, 74] (by decide +kernel) (by decide +kernel)
set_option maxRecDepth 20000 in
theorem gX5_loadRate_X5_load : GoodIn wsX5_loadRate (wsV RX5 109 RX5 yX5_load wsX5_load) := goodIn_app (goodIn_of _ (by decide +kernel)) ggX5_loadRate_X5_load
set_option maxRecDepth 20000 in
theorem ggX5_loadRate_X5_rateOf : GoodIn wsX5_loadRate wsX5_rateOf := goodIn_r _ [68, 15, 24, 25, 4, 26, 69, 70, 71, 72, 73, 74] (by decide +kernel) (by decide +kernel)
set_option maxRecDepth 20000 in
theorem gX5_loadRate_X5_rateOf : GoodIn wsX5_loadRate (wsV RX5 112 RX5 yX5_rateOf wsX5_rateOf) := goodIn_app (goodIn_of _ (by decide +kernel)) ggX5_loadRate_X5_rateOf
theorem dX5_loadRate_0 : decode cX5_loadRate 0 = .ok (.aload_n 0, 1) := by decide +kernel
theorem dX5_loadRate_1 : decode cX5_loadRate 1 = .ok (.iload_n 1, 1) := by decide +kernel
theorem dX5_loadRate_2 : decode cX5_loadRate 2 = .ok (.invokestatic 56, 3) := by decide +kernel
theorem dX5_loadRate_5 : decode cX5_loadRate 5 = .ok (.ifCond .eq 7, 3) := by decide +kernel
theorem dX5_loadRate_8 : decode cX5_loadRate 8 = .ok (.iconst 0, 1) := by decide +kernel
theorem dX5_loadRate_9 : decode cX5_loadRate 9 = .ok (.goto 4, 3) := by decide +kernel
theorem dX5_loadRate_12 : decode cX5_loadRate 12 = .ok (.iconst 1, 1) := by decide +kernel
theorem dX5_loadRate_13 : decode cX5_loadRate 13 = .ok (.putfield 33, 3) := by decide +kernel
theorem dX5_loadRate_16 : decode cX5_loadRate 16 = .ok (.aload_n 0, 1) := by decide +kernel
theorem dX5_loadRate_17 : decode cX5_loadRate 17 = .ok (.getfield 33, 3) := by decide +kernel
theorem dX5_loadRate_20 : decode cX5_loadRate 20 = .ok (.ifCond .le 5, 3) := by decide +kernel
theorem dX5_loadRate_23 : decode cX5_loadRate 23 = .ok (.iconst 0, 1) := by decide +kernel
theorem dX5_loadRate_24 : decode cX5_loadRate 24 = .ok (.ireturn, 1) := by decide +kernel
theorem dX5_loadRate_25 : decode cX5_loadRate 25 = .ok (.aload_n 0, 1) := by decide +kernel
theorem dX5_loadRate_26 : decode cX5_loadRate 26 = .ok (.invokevirtual 53, 3) := by decide +kernel
theorem dX5_loadRate_29 : decode cX5_loadRate 29 = .ok (.aload_n 0, 1) := by decide +kernel
theorem dX5_loadRate_30 : decode cX5_loadRate 30 = .ok (.iload_n 1, 1) := by decide +kernel
theorem dX5_loadRate_31 : decode cX5_loadRate 31 = .ok (.invokevirtual 109, 3) := by decide +kernel
theorem dX5_loadRate_34 : decode cX5_loadRate 34 = .ok (.aload_n 0, 1) := by decide +kernel
theorem dX5_loadRate_35 : decode cX5_loadRate 35 = .ok (.iload_n 1, 1) := by decide +kernel
theorem dX5_loadRate_36 : decode cX5_loadRate 36 = .ok (.invokevirtual 112, 3) := by decide +kernel
theorem dX5_loadRate_39 : decode cX5_loadRate 39 = .ok (.ireturn, 1) := by decide +kernel
set_option maxRecDepth 20000 in
theorem ggX5_loadBits_X5_isPair : GoodIn wsX5_loadBits wsX5_isPair := goodIn_r _ [7, 8, 9, 6, 10] (by decide +kernel) (by decide +kernel)
set_option maxRecDepth 20000 in
theorem gX5_loadBits_X5_isPair : GoodIn wsX5_loadBits (va_wsS RX5 56 yX5_isPair wsX5_isPair) := goodIn_app (goodIn_of _ (by decide +kernel)) ggX5_loadBits_X5_isPair
set_option maxRecDepth 20000 in
theorem ggX5_loadBits_X5_in : GoodIn wsX5_loadBits wsX5_in := goodIn_r _ [10] (by decide +kernel) (by decide +kernel)
set_option maxRecDepth 20000 in
theorem gX5_loadBits_X5_in : GoodIn wsX5_loadBits (va_wsS RX5 39 yX5_in wsX5_in) := goodIn_app (goodIn_of _ (by decide +kernel)) ggX5_loadBits_X5_in
set_option maxRecDepth 20000 in
theorem ggX5_loadBits_X5_at : GoodIn wsX5_loadBits wsX5_at := goodIn_r _ [13] (by decide +kernel) (by decide +kernel)
set_option maxRecDepth 20000 in
theorem gX5_loadBits_X5_at : GoodIn wsX5_loadBits (va_wsS RX5 19 yX5_at wsX5_at) := goodIn_app (goodIn_of _ (by decide +kernel)) ggX5_loadBits_X5_at
set_option maxRecDepth 20000 in
theorem ggX5_loadBits_X5_bad : GoodIn wsX5_loadBits wsX5_bad := goodIn_r _ [17, 2, 70, 71, 72, 73, 74, 75] (by decide +kernel) (by decide +kernel)
set_option maxRecDepth 20000 in
theorem gX5_loadBits_X5_bad : GoodIn wsX5_loadBits (wsV RX5 46 RX5 yX5_bad wsX5_bad) := goodIn_app (goodIn_of _ (by decide +kernel)) ggX5_loadBits_X5_bad
set_option maxRecDepth 20000 in
theorem ggX5_loadBits_X5_save : GoodIn wsX5_loadBits wsX5_save := goodIn_r _ [21, 22, 23, 3, 70, 71, 72, 73, 74, 75] (by decide +kernel) (by decide +kernel)
set_option maxRecDepth 20000 in
theorem gX5_loadBits_X5_save : GoodIn wsX5_loadBits (wsV RX5 53 RX5 yX5_save wsX5_save) := goodIn_app (goodIn_of _ (by decide +kernel)) ggX5_loadBits_X5_save
set_option maxRecDepth 20000 in
theorem ggX5_loadBits_X5_clear : GoodIn wsX5_loadBits wsX5_clear := goodIn_r _ [27, 3, 11, 12, 6, 13, 70, 71, 72, 73, 74, 75] (by decide +kernel) (by decide +kernel)
set_option maxRecDepth 20000 in
theorem gX5_loadBits_X5_clear : GoodIn wsX5_loadBits (wsV RX5 100 RX5 yX5_clear wsX5_clear) := goodIn_app (goodIn_of _ (by decide +kernel)) ggX5_loadBits_X5_clear
set_option maxRecDepth 20000 in
theorem ggX5_loadBits_X5_cheapest : GoodIn wsX5_loadBits wsX5_cheapest := goodIn_r _ [31, 32, 33, 34, 6, 35, 3, 11, 12, 13, 36, 37, 38, 39, 40, 41, 42, 43, 44, 70, 71, 72, 73, 74, 75] (by decide +kernel) (by decide +kernel)
set_option maxRecDepth 20000 in
theorem gX5_loadBits_X5_cheapest : GoodIn wsX5_loadBits (wsV RX5 103 RX5 yX5_cheapest wsX5_cheapest) := goodIn_app (goodIn_of _ (by decide +kernel)) ggX5_loadBits_X5_cheapest
set_option maxRecDepth 20000 in
theorem ggX5_loadBits_X5_finish : GoodIn wsX5_loadBits wsX5_finish := goodIn_r _ [48, 3, 49, 50, 51, 6, 52, 53, 54, 55, 56, 57, 11, 12, 13, 40, 41, 42, 43, 44, 58, 59, 60, 61, 62, 63, 64, 65, 70, 71, 72, 73, 74, 75] (by decide +kernel) (by decide +kernel)
set_option maxRecDepth 20000 in
theorem gX5_loadBits_X5_finish : GoodIn wsX5_loadBits (wsV RX5 106 RX5 yX5_finish wsX5_finish) := goodIn_app (goodIn_of _ (by decide +kernel)) ggX5_loadBits_X5_finish
set_option maxRecDepth 20000 in
theorem ggX5_loadBits_X5_energyOf : GoodIn wsX5_loadBits wsX5_energyOf := goodIn_r _ [69, 3, 11, 12, 6, 13, 70, 71, 72, 73, 74, 75] (by decide +kernel) (by decide +kernel)
set_option maxRecDepth 20000 in
theorem gX5_loadBits_X5_energyOf : GoodIn wsX5_loadBits (wsV RX5 117 RX5 yX5_energyOf wsX5_energyOf) := goodIn_app (goodIn_of _ (by decide +kernel)) ggX5_loadBits_X5_energyOf
theorem dX5_loadBits_0 : decode cX5_loadBits 0 = .ok (.aload_n 0, 1) := by decide +kernel
theorem dX5_loadBits_1 : decode cX5_loadBits 1 = .ok (.iload_n 1, 1) := by decide +kernel
theorem dX5_loadBits_2 : decode cX5_loadBits 2 = .ok (.invokestatic 56, 3) := by decide +kernel
theorem dX5_loadBits_5 : decode cX5_loadBits 5 = .ok (.ifCond .eq 23, 3) := by decide +kernel
theorem dX5_loadBits_8 : decode cX5_loadBits 8 = .ok (.iload_n 2, 1) := by decide +kernel
theorem dX5_loadBits_9 : decode cX5_loadBits 9 = .ok (.i2l, 1) := by decide +kernel
theorem dX5_loadBits_10 : decode cX5_loadBits 10 = .ok (.lconst 0, 1) := by decide +kernel
theorem dX5_loadBits_11 : decode cX5_loadBits 11 = .ok (.ldc2_w 115, 3) := by decide +kernel
theorem dX5_loadBits_14 : decode cX5_loadBits 14 = .ok (.invokestatic 39, 3) := by decide +kernel
theorem dX5_loadBits_17 : decode cX5_loadBits 17 = .ok (.ifCond .eq 7, 3) := by decide +kernel
theorem dX5_loadBits_20 : decode cX5_loadBits 20 = .ok (.iconst 0, 1) := by decide +kernel
theorem dX5_loadBits_21 : decode cX5_loadBits 21 = .ok (.goto 8, 3) := by decide +kernel
theorem dX5_loadBits_24 : decode cX5_loadBits 24 = .ok (.iconst 2, 1) := by decide +kernel
theorem dX5_loadBits_25 : decode cX5_loadBits 25 = .ok (.goto 4, 3) := by decide +kernel
theorem dX5_loadBits_28 : decode cX5_loadBits 28 = .ok (.iconst 1, 1) := by decide +kernel
theorem dX5_loadBits_29 : decode cX5_loadBits 29 = .ok (.putfield 33, 3) := by decide +kernel
theorem dX5_loadBits_32 : decode cX5_loadBits 32 = .ok (.aload_n 0, 1) := by decide +kernel
theorem dX5_loadBits_33 : decode cX5_loadBits 33 = .ok (.getfield 33, 3) := by decide +kernel
theorem dX5_loadBits_36 : decode cX5_loadBits 36 = .ok (.ifCond .le 5, 3) := by decide +kernel
theorem dX5_loadBits_39 : decode cX5_loadBits 39 = .ok (.lconst 0, 1) := by decide +kernel
theorem dX5_loadBits_40 : decode cX5_loadBits 40 = .ok (.lreturn, 1) := by decide +kernel
theorem dX5_loadBits_41 : decode cX5_loadBits 41 = .ok (.iconst 0, 1) := by decide +kernel
theorem dX5_loadBits_42 : decode cX5_loadBits 42 = .ok (.istore_n 3, 1) := by decide +kernel
theorem dX5_loadBits_43 : decode cX5_loadBits 43 = .ok (.iconst 0, 1) := by decide +kernel
theorem dX5_loadBits_44 : decode cX5_loadBits 44 = .ok (.istore 4, 2) := by decide +kernel
theorem dX5_loadBits_46 : decode cX5_loadBits 46 = .ok (.iload 4, 2) := by decide +kernel
theorem dX5_loadBits_48 : decode cX5_loadBits 48 = .ok (.bipush 16, 2) := by decide +kernel
theorem dX5_loadBits_50 : decode cX5_loadBits 50 = .ok (.if_icmp .ge 27, 3) := by decide +kernel
theorem dX5_loadBits_53 : decode cX5_loadBits 53 = .ok (.iload_n 3, 1) := by decide +kernel
theorem dX5_loadBits_54 : decode cX5_loadBits 54 = .ok (.aload_n 0, 1) := by decide +kernel
theorem dX5_loadBits_55 : decode cX5_loadBits 55 = .ok (.getfield 7, 3) := by decide +kernel
theorem dX5_loadBits_58 : decode cX5_loadBits 58 = .ok (.iload_n 1, 1) := by decide +kernel
theorem dX5_loadBits_59 : decode cX5_loadBits 59 = .ok (.bipush 33, 2) := by decide +kernel
theorem dX5_loadBits_61 : decode cX5_loadBits 61 = .ok (.iload 4, 2) := by decide +kernel
theorem dX5_loadBits_63 : decode cX5_loadBits 63 = .ok (.iadd, 1) := by decide +kernel
theorem dX5_loadBits_64 : decode cX5_loadBits 64 = .ok (.invokestatic 19, 3) := by decide +kernel
theorem dX5_loadBits_67 : decode cX5_loadBits 67 = .ok (.laload, 1) := by decide +kernel
theorem dX5_loadBits_68 : decode cX5_loadBits 68 = .ok (.l2i, 1) := by decide +kernel
theorem dX5_loadBits_69 : decode cX5_loadBits 69 = .ok (.iadd, 1) := by decide +kernel
theorem dX5_loadBits_70 : decode cX5_loadBits 70 = .ok (.istore_n 3, 1) := by decide +kernel
theorem dX5_loadBits_71 : decode cX5_loadBits 71 = .ok (.iinc 4 1, 3) := by decide +kernel
theorem dX5_loadBits_74 : decode cX5_loadBits 74 = .ok (.goto (-28), 3) := by decide +kernel
theorem dX5_loadBits_77 : decode cX5_loadBits 77 = .ok (.iload_n 3, 1) := by decide +kernel
theorem dX5_loadBits_78 : decode cX5_loadBits 78 = .ok (.iload_n 2, 1) := by decide +kernel
theorem dX5_loadBits_79 : decode cX5_loadBits 79 = .ok (.if_icmp .ge 10, 3) := by decide +kernel
theorem dX5_loadBits_82 : decode cX5_loadBits 82 = .ok (.aload_n 0, 1) := by decide +kernel
theorem dX5_loadBits_83 : decode cX5_loadBits 83 = .ok (.iconst 3, 1) := by decide +kernel
theorem dX5_loadBits_84 : decode cX5_loadBits 84 = .ok (.invokevirtual 46, 3) := by decide +kernel
theorem dX5_loadBits_87 : decode cX5_loadBits 87 = .ok (.i2l, 1) := by decide +kernel
theorem dX5_loadBits_88 : decode cX5_loadBits 88 = .ok (.lreturn, 1) := by decide +kernel
theorem dX5_loadBits_89 : decode cX5_loadBits 89 = .ok (.aload_n 0, 1) := by decide +kernel
theorem dX5_loadBits_90 : decode cX5_loadBits 90 = .ok (.invokevirtual 53, 3) := by decide +kernel
theorem dX5_loadBits_93 : decode cX5_loadBits 93 = .ok (.aload_n 0, 1) := by decide +kernel
theorem dX5_loadBits_94 : decode cX5_loadBits 94 = .ok (.iload_n 1, 1) := by decide +kernel
theorem dX5_loadBits_95 : decode cX5_loadBits 95 = .ok (.invokevirtual 100, 3) := by decide +kernel
theorem dX5_loadBits_98 : decode cX5_loadBits 98 = .ok (.iconst 0, 1) := by decide +kernel
theorem dX5_loadBits_99 : decode cX5_loadBits 99 = .ok (.istore 4, 2) := by decide +kernel
theorem dX5_loadBits_101 : decode cX5_loadBits 101 = .ok (.iload 4, 2) := by decide +kernel
theorem dX5_loadBits_103 : decode cX5_loadBits 103 = .ok (.iload_n 2, 1) := by decide +kernel
theorem dX5_loadBits_104 : decode cX5_loadBits 104 = .ok (.if_icmp .ge 31, 3) := by decide +kernel
theorem dX5_loadBits_107 : decode cX5_loadBits 107 = .ok (.aload_n 0, 1) := by decide +kernel
theorem dX5_loadBits_108 : decode cX5_loadBits 108 = .ok (.getfield 7, 3) := by decide +kernel
theorem dX5_loadBits_111 : decode cX5_loadBits 111 = .ok (.iload_n 1, 1) := by decide +kernel
theorem dX5_loadBits_112 : decode cX5_loadBits 112 = .ok (.bipush 49, 2) := by decide +kernel
theorem dX5_loadBits_114 : decode cX5_loadBits 114 = .ok (.aload_n 0, 1) := by decide +kernel
theorem dX5_loadBits_115 : decode cX5_loadBits 115 = .ok (.iload_n 1, 1) := by decide +kernel
theorem dX5_loadBits_116 : decode cX5_loadBits 116 = .ok (.iconst (-1), 1) := by decide +kernel
theorem dX5_loadBits_117 : decode cX5_loadBits 117 = .ok (.invokevirtual 103, 3) := by decide +kernel
theorem dX5_loadBits_120 : decode cX5_loadBits 120 = .ok (.iadd, 1) := by decide +kernel
theorem dX5_loadBits_121 : decode cX5_loadBits 121 = .ok (.invokestatic 19, 3) := by decide +kernel
theorem dX5_loadBits_124 : decode cX5_loadBits 124 = .ok (.dup2, 1) := by decide +kernel
theorem dX5_loadBits_125 : decode cX5_loadBits 125 = .ok (.laload, 1) := by decide +kernel
theorem dX5_loadBits_126 : decode cX5_loadBits 126 = .ok (.lconst 1, 1) := by decide +kernel
theorem dX5_loadBits_127 : decode cX5_loadBits 127 = .ok (.ladd, 1) := by decide +kernel
theorem dX5_loadBits_128 : decode cX5_loadBits 128 = .ok (.lastore, 1) := by decide +kernel
theorem dX5_loadBits_129 : decode cX5_loadBits 129 = .ok (.iinc 4 1, 3) := by decide +kernel
theorem dX5_loadBits_132 : decode cX5_loadBits 132 = .ok (.goto (-31), 3) := by decide +kernel
theorem dX5_loadBits_135 : decode cX5_loadBits 135 = .ok (.aload_n 0, 1) := by decide +kernel
theorem dX5_loadBits_136 : decode cX5_loadBits 136 = .ok (.iload_n 1, 1) := by decide +kernel
theorem dX5_loadBits_137 : decode cX5_loadBits 137 = .ok (.invokevirtual 106, 3) := by decide +kernel
theorem dX5_loadBits_140 : decode cX5_loadBits 140 = .ok (.aload_n 0, 1) := by decide +kernel
theorem dX5_loadBits_141 : decode cX5_loadBits 141 = .ok (.iload_n 1, 1) := by decide +kernel
theorem dX5_loadBits_142 : decode cX5_loadBits 142 = .ok (.invokevirtual 117, 3) := by decide +kernel
theorem dX5_loadBits_145 : decode cX5_loadBits 145 = .ok (.lreturn, 1) := by decide +kernel
set_option maxRecDepth 20000 in
theorem ggX5_dearest_X5_at : GoodIn wsX5_dearest wsX5_at := goodIn_r _ [5] (by decide +kernel) (by decide +kernel)
set_option maxRecDepth 20000 in
theorem gX5_dearest_X5_at : GoodIn wsX5_dearest (va_wsS RX5 19 yX5_at wsX5_at) := goodIn_app (goodIn_of _ (by decide +kernel)) ggX5_dearest_X5_at
set_option maxRecDepth 20000 in
theorem ggX5_dearest_X5_lastOf : GoodIn wsX5_dearest wsX5_lastOf := goodIn_r _ [9, 10, 11, 12, 13, 4, 14, 1, 2, 3, 5, 15, 16, 17, 18, 19, 20, 21, 22, 23, 24, 25] (by decide +kernel) (by decide +kernel)
set_option maxRecDepth 20000 in
theorem gX5_dearest_X5_lastOf : GoodIn wsX5_dearest (wsV RX5 121 RX5 yX5_lastOf wsX5_lastOf) := goodIn_app (goodIn_of _ (by decide +kernel)) ggX5_dearest_X5_lastOf
theorem dX5_dearest_0 : decode cX5_dearest 0 = .ok (.iconst (-1), 1) := by decide +kernel
theorem dX5_dearest_1 : decode cX5_dearest 1 = .ok (.istore_n 2, 1) := by decide +kernel
theorem dX5_dearest_2 : decode cX5_dearest 2 = .ok (.iconst 0, 1) := by decide +kernel
theorem dX5_dearest_3 : decode cX5_dearest 3 = .ok (.istore_n 3, 1) := by decide +kernel
theorem dX5_dearest_4 : decode cX5_dearest 4 = .ok (.iload_n 3, 1) := by decide +kernel
theorem dX5_dearest_5 : decode cX5_dearest 5 = .ok (.bipush 16, 2) := by decide +kernel
theorem dX5_dearest_7 : decode cX5_dearest 7 = .ok (.if_icmp .ge 66, 3) := by decide +kernel
theorem dX5_dearest_10 : decode cX5_dearest 10 = .ok (.aload_n 0, 1) := by decide +kernel
theorem dX5_dearest_11 : decode cX5_dearest 11 = .ok (.getfield 7, 3) := by decide +kernel
theorem dX5_dearest_14 : decode cX5_dearest 14 = .ok (.iload_n 1, 1) := by decide +kernel
theorem dX5_dearest_15 : decode cX5_dearest 15 = .ok (.bipush 49, 2) := by decide +kernel
theorem dX5_dearest_17 : decode cX5_dearest 17 = .ok (.iload_n 3, 1) := by decide +kernel
theorem dX5_dearest_18 : decode cX5_dearest 18 = .ok (.iadd, 1) := by decide +kernel
theorem dX5_dearest_19 : decode cX5_dearest 19 = .ok (.invokestatic 19, 3) := by decide +kernel
theorem dX5_dearest_22 : decode cX5_dearest 22 = .ok (.laload, 1) := by decide +kernel
theorem dX5_dearest_23 : decode cX5_dearest 23 = .ok (.lconst 0, 1) := by decide +kernel
theorem dX5_dearest_24 : decode cX5_dearest 24 = .ok (.lcmp, 1) := by decide +kernel
theorem dX5_dearest_25 : decode cX5_dearest 25 = .ok (.ifCond .le 7, 3) := by decide +kernel
theorem dX5_dearest_28 : decode cX5_dearest 28 = .ok (.iconst 1, 1) := by decide +kernel
theorem dX5_dearest_29 : decode cX5_dearest 29 = .ok (.goto 4, 3) := by decide +kernel
theorem dX5_dearest_32 : decode cX5_dearest 32 = .ok (.iconst 0, 1) := by decide +kernel
theorem dX5_dearest_33 : decode cX5_dearest 33 = .ok (.istore 4, 2) := by decide +kernel
theorem dX5_dearest_35 : decode cX5_dearest 35 = .ok (.iload 4, 2) := by decide +kernel
theorem dX5_dearest_37 : decode cX5_dearest 37 = .ok (.ifCond .eq 28, 3) := by decide +kernel
theorem dX5_dearest_40 : decode cX5_dearest 40 = .ok (.iload_n 2, 1) := by decide +kernel
theorem dX5_dearest_41 : decode cX5_dearest 41 = .ok (.iconst (-1), 1) := by decide +kernel
theorem dX5_dearest_42 : decode cX5_dearest 42 = .ok (.if_icmp .eq 19, 3) := by decide +kernel
theorem dX5_dearest_45 : decode cX5_dearest 45 = .ok (.aload_n 0, 1) := by decide +kernel
theorem dX5_dearest_46 : decode cX5_dearest 46 = .ok (.iload_n 1, 1) := by decide +kernel
theorem dX5_dearest_47 : decode cX5_dearest 47 = .ok (.iload_n 3, 1) := by decide +kernel
theorem dX5_dearest_48 : decode cX5_dearest 48 = .ok (.invokevirtual 121, 3) := by decide +kernel
theorem dX5_dearest_51 : decode cX5_dearest 51 = .ok (.aload_n 0, 1) := by decide +kernel
theorem dX5_dearest_52 : decode cX5_dearest 52 = .ok (.iload_n 1, 1) := by decide +kernel
theorem dX5_dearest_53 : decode cX5_dearest 53 = .ok (.iload_n 2, 1) := by decide +kernel
theorem dX5_dearest_54 : decode cX5_dearest 54 = .ok (.invokevirtual 121, 3) := by decide +kernel
theorem dX5_dearest_57 : decode cX5_dearest 57 = .ok (.lcmp, 1) := by decide +kernel
theorem dX5_dearest_58 : decode cX5_dearest 58 = .ok (.ifCond .lt 7, 3) := by decide +kernel
theorem dX5_dearest_61 : decode cX5_dearest 61 = .ok (.iload_n 3, 1) := by decide +kernel
theorem dX5_dearest_62 : decode cX5_dearest 62 = .ok (.goto 4, 3) := by decide +kernel
theorem dX5_dearest_65 : decode cX5_dearest 65 = .ok (.iload_n 2, 1) := by decide +kernel
theorem dX5_dearest_66 : decode cX5_dearest 66 = .ok (.istore_n 2, 1) := by decide +kernel
theorem dX5_dearest_67 : decode cX5_dearest 67 = .ok (.iinc 3 1, 3) := by decide +kernel
theorem dX5_dearest_70 : decode cX5_dearest 70 = .ok (.goto (-66), 3) := by decide +kernel
theorem dX5_dearest_73 : decode cX5_dearest 73 = .ok (.iload_n 2, 1) := by decide +kernel
theorem dX5_dearest_74 : decode cX5_dearest 74 = .ok (.ireturn, 1) := by decide +kernel
set_option maxRecDepth 20000 in
theorem ggX5_efficient_X5_dearest : GoodIn wsX5_efficient wsX5_dearest := goodIn_r _ [5, 6, 7, 8, 4, 9, 10, 11, 12, 13, 14, 15, 16, 17, 18, 19, 20, 21, 22, 23, 32, 33, 34, 35, 36, 37] (by decide +kernel) (by decide +kernel)
set_option maxRecDepth 20000 in
theorem gX5_efficient_X5_dearest : GoodIn wsX5_efficient (wsV RX5 124 RX5 yX5_dearest wsX5_dearest) := goodIn_app (goodIn_of _ (by decide +kernel)) ggX5_efficient_X5_dearest
set_option maxRecDepth 20000 in
theorem ggX5_efficient_X5_cheapest : GoodIn wsX5_efficient wsX5_cheapest := goodIn_r _ [27, 28, 29, 30, 4, 31, 6, 7, 8, 9, 15, 16, 17, 18, 19, 20, 21, 22, 23, 32, 33, 34, 35, 36, 37] (by decide +kernel) (by decide +kernel)
set_option maxRecDepth 20000 in
theorem gX5_efficient_X5_cheapest : GoodIn wsX5_efficient (wsV RX5 103 RX5 yX5_cheapest wsX5_cheapest) := goodIn_app (goodIn_of _ (by decide +kernel)) ggX5_efficient_X5_cheapest
set_option maxRecDepth 20000 in
theorem ggX5_efficient_X5_stepOf : GoodIn wsX5_efficient wsX5_stepOf := goodIn_r _ [18, 6, 7, 8, 4, 9, 19, 20, 21, 22, 23, 32, 33, 34, 35, 36, 37] (by decide +kernel) (by decide +kernel)
set_option maxRecDepth 20000 in
theorem gX5_efficient_X5_stepOf : GoodIn wsX5_efficient (wsV RX5 76 RX5 yX5_stepOf wsX5_stepOf) := goodIn_app (goodIn_of _ (by decide +kernel)) ggX5_efficient_X5_stepOf
set_option maxRecDepth 20000 in
theorem ggX5_efficient_X5_lastOf : GoodIn wsX5_efficient wsX5_lastOf := goodIn_r _ [13, 14, 15, 16, 17, 4, 18, 6, 7, 8, 9, 19, 20, 21, 22, 23, 32, 33, 34, 35, 36, 37] (by decide +kernel) (by decide +kernel)
set_option maxRecDepth 20000 in
theorem gX5_efficient_X5_lastOf : GoodIn wsX5_efficient (wsV RX5 121 RX5 yX5_lastOf wsX5_lastOf) := goodIn_app (goodIn_of _ (by decide +kernel)) ggX5_efficient_X5_lastOf
theorem dX5_efficient_0 : decode cX5_efficient 0 = .ok (.aload_n 0, 1) := by decide +kernel
theorem dX5_efficient_1 : decode cX5_efficient 1 = .ok (.iload_n 1, 1) := by decide +kernel
theorem dX5_efficient_2 : decode cX5_efficient 2 = .ok (.invokevirtual 124, 3) := by decide +kernel
theorem dX5_efficient_5 : decode cX5_efficient 5 = .ok (.istore_n 2, 1) := by decide +kernel
theorem dX5_efficient_6 : decode cX5_efficient 6 = .ok (.aload_n 0, 1) := by decide +kernel
theorem dX5_efficient_7 : decode cX5_efficient 7 = .ok (.iload_n 1, 1) := by decide +kernel
theorem dX5_efficient_8 : decode cX5_efficient 8 = .ok (.iconst (-1), 1) := by decide +kernel
theorem dX5_efficient_9 : decode cX5_efficient 9 = .ok (.invokevirtual 103, 3) := by decide +kernel
theorem dX5_efficient_12 : decode cX5_efficient 12 = .ok (.istore_n 3, 1) := by decide +kernel
theorem dX5_efficient_13 : decode cX5_efficient 13 = .ok (.iload_n 2, 1) := by decide +kernel
theorem dX5_efficient_14 : decode cX5_efficient 14 = .ok (.iconst (-1), 1) := by decide +kernel
theorem dX5_efficient_15 : decode cX5_efficient 15 = .ok (.if_icmp .eq 24, 3) := by decide +kernel
theorem dX5_efficient_18 : decode cX5_efficient 18 = .ok (.iload_n 3, 1) := by decide +kernel
theorem dX5_efficient_19 : decode cX5_efficient 19 = .ok (.iconst (-1), 1) := by decide +kernel
theorem dX5_efficient_20 : decode cX5_efficient 20 = .ok (.if_icmp .eq 19, 3) := by decide +kernel
theorem dX5_efficient_23 : decode cX5_efficient 23 = .ok (.aload_n 0, 1) := by decide +kernel
theorem dX5_efficient_24 : decode cX5_efficient 24 = .ok (.iload_n 1, 1) := by decide +kernel
theorem dX5_efficient_25 : decode cX5_efficient 25 = .ok (.iload_n 3, 1) := by decide +kernel
theorem dX5_efficient_26 : decode cX5_efficient 26 = .ok (.invokevirtual 76, 3) := by decide +kernel
theorem dX5_efficient_29 : decode cX5_efficient 29 = .ok (.aload_n 0, 1) := by decide +kernel
theorem dX5_efficient_30 : decode cX5_efficient 30 = .ok (.iload_n 1, 1) := by decide +kernel
theorem dX5_efficient_31 : decode cX5_efficient 31 = .ok (.iload_n 2, 1) := by decide +kernel
theorem dX5_efficient_32 : decode cX5_efficient 32 = .ok (.invokevirtual 121, 3) := by decide +kernel
theorem dX5_efficient_35 : decode cX5_efficient 35 = .ok (.lcmp, 1) := by decide +kernel
theorem dX5_efficient_36 : decode cX5_efficient 36 = .ok (.ifCond .lt 7, 3) := by decide +kernel
theorem dX5_efficient_39 : decode cX5_efficient 39 = .ok (.iconst 1, 1) := by decide +kernel
theorem dX5_efficient_40 : decode cX5_efficient 40 = .ok (.goto 4, 3) := by decide +kernel
theorem dX5_efficient_43 : decode cX5_efficient 43 = .ok (.iconst 0, 1) := by decide +kernel
theorem dX5_efficient_44 : decode cX5_efficient 44 = .ok (.ireturn, 1) := by decide +kernel
set_option maxRecDepth 20000 in
theorem ggX5_repair_X5_isPair : GoodIn wsX5_repair wsX5_isPair := goodIn_r _ [6, 7, 8, 5, 9] (by decide +kernel) (by decide +kernel)
set_option maxRecDepth 20000 in
theorem gX5_repair_X5_isPair : GoodIn wsX5_repair (va_wsS RX5 56 yX5_isPair wsX5_isPair) := goodIn_app (goodIn_of _ (by decide +kernel)) ggX5_repair_X5_isPair
set_option maxRecDepth 20000 in
theorem ggX5_repair_X5_save : GoodIn wsX5_repair wsX5_save := goodIn_r _ [13, 14, 15, 2, 70, 71, 72, 73, 74, 75] (by decide +kernel) (by decide +kernel)
set_option maxRecDepth 20000 in
theorem gX5_repair_X5_save : GoodIn wsX5_repair (wsV RX5 53 RX5 yX5_save wsX5_save) := goodIn_app (goodIn_of _ (by decide +kernel)) ggX5_repair_X5_save
set_option maxRecDepth 20000 in
theorem ggX5_repair_X5_efficient : GoodIn wsX5_repair wsX5_efficient := goodIn_r _ [19, 20, 21, 22, 5, 23, 2, 24, 25, 26, 27, 28, 29, 30, 31, 32, 33, 34, 35, 36, 37, 38, 39, 40, 41, 42, 43, 44, 45, 46, 47, 48, 70, 71, 72, 73, 74, 75] (by decide +kernel) (by decide +kernel)
set_option maxRecDepth 20000 in
theorem gX5_repair_X5_efficient : GoodIn wsX5_repair (wsV RX5 127 RX5 yX5_efficient wsX5_efficient) := goodIn_app (goodIn_of _ (by decide +kernel)) ggX5_repair_X5_efficient
set_option maxRecDepth 20000 in
theorem ggX5_repair_X5_dearest : GoodIn wsX5_repair wsX5_dearest := goodIn_r _ [23, 2, 24, 25, 5, 26, 27, 28, 29, 30, 31, 32, 33, 34, 35, 36, 37, 38, 39, 40, 70, 71, 72, 73, 74, 75] (by decide +kernel) (by decide +kernel)
set_option maxRecDepth 20000 in
theorem gX5_repair_X5_dearest : GoodIn wsX5_repair (wsV RX5 124 RX5 yX5_dearest wsX5_dearest) := goodIn_app (goodIn_of _ (by decide +kernel)) ggX5_repair_X5_dearest
set_option maxRecDepth 20000 in
theorem ggX5_repair_X5_cheapest : GoodIn wsX5_repair wsX5_cheapest := goodIn_r _ [44, 45, 46, 47, 5, 48, 2, 24, 25, 26, 32, 33, 34, 35, 36, 37, 38, 39, 40, 70, 71, 72, 73, 74, 75] (by decide +kernel) (by decide +kernel)
set_option maxRecDepth 20000 in
theorem gX5_repair_X5_cheapest : GoodIn wsX5_repair (wsV RX5 103 RX5 yX5_cheapest wsX5_cheapest) := goodIn_app (goodIn_of _ (by decide +kernel)) ggX5_repair_X5_cheapest
set_option maxRecDepth 20000 in
theorem ggX5_repair_X5_at : GoodIn wsX5_repair wsX5_at := goodIn_r _ [26] (by decide +kernel) (by decide +kernel)
set_option maxRecDepth 20000 in
theorem gX5_repair_X5_at : GoodIn wsX5_repair (va_wsS RX5 19 yX5_at wsX5_at) := goodIn_app (goodIn_of _ (by decide +kernel)) ggX5_repair_X5_at
set_option maxRecDepth 20000 in
theorem ggX5_repair_X5_finish : GoodIn wsX5_repair wsX5_finish := goodIn_r _ [52, 2, 53, 54, 55, 5, 56, 57, 58, 59, 60, 61, 24, 25, 26, 36, 37, 38, 39, 40, 62, 63, 64, 65, 66, 67, 68, 69, 70, 71, 72, 73, 74, 75] (by decide +kernel) (by decide +kernel)
set_option maxRecDepth 20000 in
theorem gX5_repair_X5_finish : GoodIn wsX5_repair (wsV RX5 106 RX5 yX5_finish wsX5_finish) := goodIn_app (goodIn_of _ (by decide +kernel)) ggX5_repair_X5_finish
theorem dX5_repair_0 : decode cX5_repair 0 = .ok (.aload_n 0, 1) := by decide +kernel
theorem dX5_repair_1 : decode cX5_repair 1 = .ok (.iload_n 1, 1) := by decide +kernel
theorem dX5_repair_2 : decode cX5_repair 2 = .ok (.invokestatic 56, 3) := by decide +kernel
theorem dX5_repair_5 : decode cX5_repair 5 = .ok (.ifCond .eq 7, 3) := by decide +kernel
theorem dX5_repair_8 : decode cX5_repair 8 = .ok (.iconst 0, 1) := by decide +kernel
theorem dX5_repair_9 : decode cX5_repair 9 = .ok (.goto 4, 3) := by decide +kernel
theorem dX5_repair_12 : decode cX5_repair 12 = .ok (.iconst 1, 1) := by decide +kernel
theorem dX5_repair_13 : decode cX5_repair 13 = .ok (.putfield 33, 3) := by decide +kernel
theorem dX5_repair_16 : decode cX5_repair 16 = .ok (.aload_n 0, 1) := by decide +kernel
theorem dX5_repair_17 : decode cX5_repair 17 = .ok (.getfield 33, 3) := by decide +kernel
theorem dX5_repair_20 : decode cX5_repair 20 = .ok (.ifCond .le 5, 3) := by decide +kernel
theorem dX5_repair_23 : decode cX5_repair 23 = .ok (.iconst 0, 1) := by decide +kernel
theorem dX5_repair_24 : decode cX5_repair 24 = .ok (.ireturn, 1) := by decide +kernel
theorem dX5_repair_25 : decode cX5_repair 25 = .ok (.aload_n 0, 1) := by decide +kernel
theorem dX5_repair_26 : decode cX5_repair 26 = .ok (.invokevirtual 53, 3) := by decide +kernel
theorem dX5_repair_29 : decode cX5_repair 29 = .ok (.iconst 0, 1) := by decide +kernel
theorem dX5_repair_30 : decode cX5_repair 30 = .ok (.istore_n 2, 1) := by decide +kernel
theorem dX5_repair_31 : decode cX5_repair 31 = .ok (.aload_n 0, 1) := by decide +kernel
theorem dX5_repair_32 : decode cX5_repair 32 = .ok (.iload_n 1, 1) := by decide +kernel
theorem dX5_repair_33 : decode cX5_repair 33 = .ok (.invokevirtual 127, 3) := by decide +kernel
theorem dX5_repair_36 : decode cX5_repair 36 = .ok (.ifCond .ne 58, 3) := by decide +kernel
theorem dX5_repair_39 : decode cX5_repair 39 = .ok (.aload_n 0, 1) := by decide +kernel
theorem dX5_repair_40 : decode cX5_repair 40 = .ok (.iload_n 1, 1) := by decide +kernel
theorem dX5_repair_41 : decode cX5_repair 41 = .ok (.invokevirtual 124, 3) := by decide +kernel
theorem dX5_repair_44 : decode cX5_repair 44 = .ok (.istore_n 3, 1) := by decide +kernel
theorem dX5_repair_45 : decode cX5_repair 45 = .ok (.aload_n 0, 1) := by decide +kernel
theorem dX5_repair_46 : decode cX5_repair 46 = .ok (.iload_n 1, 1) := by decide +kernel
theorem dX5_repair_47 : decode cX5_repair 47 = .ok (.iconst (-1), 1) := by decide +kernel
theorem dX5_repair_48 : decode cX5_repair 48 = .ok (.invokevirtual 103, 3) := by decide +kernel
theorem dX5_repair_51 : decode cX5_repair 51 = .ok (.istore 4, 2) := by decide +kernel
theorem dX5_repair_53 : decode cX5_repair 53 = .ok (.aload_n 0, 1) := by decide +kernel
theorem dX5_repair_54 : decode cX5_repair 54 = .ok (.getfield 7, 3) := by decide +kernel
theorem dX5_repair_57 : decode cX5_repair 57 = .ok (.iload_n 1, 1) := by decide +kernel
theorem dX5_repair_58 : decode cX5_repair 58 = .ok (.bipush 49, 2) := by decide +kernel
theorem dX5_repair_60 : decode cX5_repair 60 = .ok (.iload_n 3, 1) := by decide +kernel
theorem dX5_repair_61 : decode cX5_repair 61 = .ok (.iadd, 1) := by decide +kernel
theorem dX5_repair_62 : decode cX5_repair 62 = .ok (.invokestatic 19, 3) := by decide +kernel
theorem dX5_repair_65 : decode cX5_repair 65 = .ok (.dup2, 1) := by decide +kernel
theorem dX5_repair_66 : decode cX5_repair 66 = .ok (.laload, 1) := by decide +kernel
theorem dX5_repair_67 : decode cX5_repair 67 = .ok (.lconst 1, 1) := by decide +kernel
theorem dX5_repair_68 : decode cX5_repair 68 = .ok (.lsub, 1) := by decide +kernel
theorem dX5_repair_69 : decode cX5_repair 69 = .ok (.lastore, 1) := by decide +kernel
theorem dX5_repair_70 : decode cX5_repair 70 = .ok (.aload_n 0, 1) := by decide +kernel
theorem dX5_repair_71 : decode cX5_repair 71 = .ok (.getfield 7, 3) := by decide +kernel
theorem dX5_repair_74 : decode cX5_repair 74 = .ok (.iload_n 1, 1) := by decide +kernel
theorem dX5_repair_75 : decode cX5_repair 75 = .ok (.bipush 49, 2) := by decide +kernel
theorem dX5_repair_77 : decode cX5_repair 77 = .ok (.iload 4, 2) := by decide +kernel
theorem dX5_repair_79 : decode cX5_repair 79 = .ok (.iadd, 1) := by decide +kernel
theorem dX5_repair_80 : decode cX5_repair 80 = .ok (.invokestatic 19, 3) := by decide +kernel
theorem dX5_repair_83 : decode cX5_repair 83 = .ok (.dup2, 1) := by decide +kernel
theorem dX5_repair_84 : decode cX5_repair 84 = .ok (.laload, 1) := by decide +kernel
theorem dX5_repair_85 : decode cX5_repair 85 = .ok (.lconst 1, 1) := by decide +kernel
theorem dX5_repair_86 : decode cX5_repair 86 = .ok (.ladd, 1) := by decide +kernel
theorem dX5_repair_87 : decode cX5_repair 87 = .ok (.lastore, 1) := by decide +kernel
theorem dX5_repair_88 : decode cX5_repair 88 = .ok (.iinc 2 1, 3) := by decide +kernel
theorem dX5_repair_91 : decode cX5_repair 91 = .ok (.goto (-60), 3) := by decide +kernel
theorem dX5_repair_94 : decode cX5_repair 94 = .ok (.aload_n 0, 1) := by decide +kernel
theorem dX5_repair_95 : decode cX5_repair 95 = .ok (.iload_n 1, 1) := by decide +kernel
theorem dX5_repair_96 : decode cX5_repair 96 = .ok (.invokevirtual 106, 3) := by decide +kernel
theorem dX5_repair_99 : decode cX5_repair 99 = .ok (.iload_n 2, 1) := by decide +kernel
theorem dX5_repair_100 : decode cX5_repair 100 = .ok (.ireturn, 1) := by decide +kernel
set_option maxRecDepth 20000 in
theorem ggX5_isSame_X5_at : GoodIn wsX5_isSame wsX5_at := goodIn_r _ [6] (by decide +kernel) (by decide +kernel)
set_option maxRecDepth 20000 in
theorem gX5_isSame_X5_at : GoodIn wsX5_isSame (va_wsS RX5 19 yX5_at wsX5_at) := goodIn_app (goodIn_of _ (by decide +kernel)) ggX5_isSame_X5_at
theorem dX5_isSame_0 : decode cX5_isSame 0 = .ok (.iconst 1, 1) := by decide +kernel
theorem dX5_isSame_1 : decode cX5_isSame 1 = .ok (.istore_n 1, 1) := by decide +kernel
theorem dX5_isSame_2 : decode cX5_isSame 2 = .ok (.iconst 0, 1) := by decide +kernel
theorem dX5_isSame_3 : decode cX5_isSame 3 = .ok (.istore_n 2, 1) := by decide +kernel
theorem dX5_isSame_4 : decode cX5_isSame 4 = .ok (.iload_n 2, 1) := by decide +kernel
theorem dX5_isSame_5 : decode cX5_isSame 5 = .ok (.bipush 64, 2) := by decide +kernel
theorem dX5_isSame_7 : decode cX5_isSame 7 = .ok (.if_icmp .ge 81, 3) := by decide +kernel
theorem dX5_isSame_10 : decode cX5_isSame 10 = .ok (.iload_n 2, 1) := by decide +kernel
theorem dX5_isSame_11 : decode cX5_isSame 11 = .ok (.bipush 32, 2) := by decide +kernel
theorem dX5_isSame_13 : decode cX5_isSame 13 = .ok (.idiv, 1) := by decide +kernel
theorem dX5_isSame_14 : decode cX5_isSame 14 = .ok (.istore_n 3, 1) := by decide +kernel
theorem dX5_isSame_15 : decode cX5_isSame 15 = .ok (.aload_n 0, 1) := by decide +kernel
theorem dX5_isSame_16 : decode cX5_isSame 16 = .ok (.getfield 7, 3) := by decide +kernel
theorem dX5_isSame_19 : decode cX5_isSame 19 = .ok (.iload_n 3, 1) := by decide +kernel
theorem dX5_isSame_20 : decode cX5_isSame 20 = .ok (.iload_n 2, 1) := by decide +kernel
theorem dX5_isSame_21 : decode cX5_isSame 21 = .ok (.bipush 32, 2) := by decide +kernel
theorem dX5_isSame_23 : decode cX5_isSame 23 = .ok (.irem, 1) := by decide +kernel
theorem dX5_isSame_24 : decode cX5_isSame 24 = .ok (.bipush 16, 2) := by decide +kernel
theorem dX5_isSame_26 : decode cX5_isSame 26 = .ok (.if_icmp .ge 13, 3) := by decide +kernel
theorem dX5_isSame_29 : decode cX5_isSame 29 = .ok (.bipush 49, 2) := by decide +kernel
theorem dX5_isSame_31 : decode cX5_isSame 31 = .ok (.iload_n 2, 1) := by decide +kernel
theorem dX5_isSame_32 : decode cX5_isSame 32 = .ok (.bipush 16, 2) := by decide +kernel
theorem dX5_isSame_34 : decode cX5_isSame 34 = .ok (.irem, 1) := by decide +kernel
theorem dX5_isSame_35 : decode cX5_isSame 35 = .ok (.iadd, 1) := by decide +kernel
theorem dX5_isSame_36 : decode cX5_isSame 36 = .ok (.goto 10, 3) := by decide +kernel
theorem dX5_isSame_39 : decode cX5_isSame 39 = .ok (.bipush 81, 2) := by decide +kernel
theorem dX5_isSame_41 : decode cX5_isSame 41 = .ok (.iload_n 2, 1) := by decide +kernel
theorem dX5_isSame_42 : decode cX5_isSame 42 = .ok (.bipush 16, 2) := by decide +kernel
theorem dX5_isSame_44 : decode cX5_isSame 44 = .ok (.irem, 1) := by decide +kernel
theorem dX5_isSame_45 : decode cX5_isSame 45 = .ok (.iadd, 1) := by decide +kernel
theorem dX5_isSame_46 : decode cX5_isSame 46 = .ok (.invokestatic 19, 3) := by decide +kernel
theorem dX5_isSame_49 : decode cX5_isSame 49 = .ok (.laload, 1) := by decide +kernel
theorem dX5_isSame_50 : decode cX5_isSame 50 = .ok (.lstore 4, 2) := by decide +kernel
theorem dX5_isSame_52 : decode cX5_isSame 52 = .ok (.iload_n 1, 1) := by decide +kernel
theorem dX5_isSame_53 : decode cX5_isSame 53 = .ok (.ifCond .eq 19, 3) := by decide +kernel
theorem dX5_isSame_56 : decode cX5_isSame 56 = .ok (.aload_n 0, 1) := by decide +kernel
theorem dX5_isSame_57 : decode cX5_isSame 57 = .ok (.getfield 16, 3) := by decide +kernel
theorem dX5_isSame_60 : decode cX5_isSame 60 = .ok (.iload_n 2, 1) := by decide +kernel
theorem dX5_isSame_61 : decode cX5_isSame 61 = .ok (.laload, 1) := by decide +kernel
theorem dX5_isSame_62 : decode cX5_isSame 62 = .ok (.lload 4, 2) := by decide +kernel
theorem dX5_isSame_64 : decode cX5_isSame 64 = .ok (.lcmp, 1) := by decide +kernel
theorem dX5_isSame_65 : decode cX5_isSame 65 = .ok (.ifCond .ne 7, 3) := by decide +kernel
theorem dX5_isSame_68 : decode cX5_isSame 68 = .ok (.iconst 1, 1) := by decide +kernel
theorem dX5_isSame_69 : decode cX5_isSame 69 = .ok (.goto 4, 3) := by decide +kernel
theorem dX5_isSame_72 : decode cX5_isSame 72 = .ok (.iconst 0, 1) := by decide +kernel
theorem dX5_isSame_73 : decode cX5_isSame 73 = .ok (.istore_n 1, 1) := by decide +kernel
theorem dX5_isSame_74 : decode cX5_isSame 74 = .ok (.aload_n 0, 1) := by decide +kernel
theorem dX5_isSame_75 : decode cX5_isSame 75 = .ok (.getfield 16, 3) := by decide +kernel
theorem dX5_isSame_78 : decode cX5_isSame 78 = .ok (.iload_n 2, 1) := by decide +kernel
theorem dX5_isSame_79 : decode cX5_isSame 79 = .ok (.lload 4, 2) := by decide +kernel
theorem dX5_isSame_81 : decode cX5_isSame 81 = .ok (.lastore, 1) := by decide +kernel
theorem dX5_isSame_82 : decode cX5_isSame 82 = .ok (.iinc 2 1, 3) := by decide +kernel
theorem dX5_isSame_85 : decode cX5_isSame 85 = .ok (.goto (-81), 3) := by decide +kernel
theorem dX5_isSame_88 : decode cX5_isSame 88 = .ok (.iload_n 1, 1) := by decide +kernel
theorem dX5_isSame_89 : decode cX5_isSame 89 = .ok (.ireturn, 1) := by decide +kernel
set_option maxRecDepth 20000 in
theorem ggX5_balance_X5_in : GoodIn wsX5_balance wsX5_in := goodIn_r _ [6] (by decide +kernel) (by decide +kernel)
set_option maxRecDepth 20000 in
theorem gX5_balance_X5_in : GoodIn wsX5_balance (va_wsS RX5 39 yX5_in wsX5_in) := goodIn_app (goodIn_of _ (by decide +kernel)) ggX5_balance_X5_in
set_option maxRecDepth 20000 in
theorem ggX5_balance_X5_save : GoodIn wsX5_balance wsX5_save := goodIn_r _ [10, 11, 12, 13, 68, 69, 70, 71, 72, 73] (by decide +kernel) (by decide +kernel)
set_option maxRecDepth 20000 in
theorem gX5_balance_X5_save : GoodIn wsX5_balance (wsV RX5 53 RX5 yX5_save wsX5_save) := goodIn_app (goodIn_of _ (by decide +kernel)) ggX5_balance_X5_save
set_option maxRecDepth 20000 in
theorem ggX5_balance_X5_isSame : GoodIn wsX5_balance wsX5_isSame := goodIn_r _ [17, 13, 18, 19, 20, 5, 21, 68, 69, 70, 71, 72, 73] (by decide +kernel) (by decide +kernel)
set_option maxRecDepth 20000 in
theorem gX5_balance_X5_isSame : GoodIn wsX5_balance (wsV RX5 132 RX5 yX5_isSame wsX5_isSame) := goodIn_app (goodIn_of _ (by decide +kernel)) ggX5_balance_X5_isSame
set_option maxRecDepth 20000 in
theorem ggX5_balance_X5_load : GoodIn wsX5_balance wsX5_load := goodIn_r _ [25, 13, 26, 27, 28, 5, 29, 19, 20, 21, 30, 31, 32, 33, 34, 35, 36, 37, 38, 39, 40, 41, 42, 43, 44, 45, 46, 47, 48, 49, 50, 51, 52, 53, 54, 55, 56, 57, 58, 59, 60, 61, 62, 63, 64, 65, 66, 67, 68, 69, 70, 71, 72, 73] (by decide +kernel) (by decide +kernel)
set_option maxRecDepth 20000 in
theorem gX5_balance_X5_load : GoodIn wsX5_balance (wsV RX5 109 RX5 yX5_load wsX5_load) := goodIn_app (goodIn_of _ (by decide +kernel)) ggX5_balance_X5_load
theorem dX5_balance_0 : decode cX5_balance 0 = .ok (.aload_n 0, 1) := by decide +kernel
theorem dX5_balance_1 : decode cX5_balance 1 = .ok (.iload_n 1, 1) := by decide +kernel
theorem dX5_balance_2 : decode cX5_balance 2 = .ok (.i2l, 1) := by decide +kernel
theorem dX5_balance_3 : decode cX5_balance 3 = .ok (.lconst 1, 1) := by decide +kernel
theorem dX5_balance_4 : decode cX5_balance 4 = .ok (.ldc2_w 130, 3) := by decide +kernel
theorem dX5_balance_7 : decode cX5_balance 7 = .ok (.invokestatic 39, 3) := by decide +kernel
theorem dX5_balance_10 : decode cX5_balance 10 = .ok (.ifCond .eq 7, 3) := by decide +kernel
theorem dX5_balance_13 : decode cX5_balance 13 = .ok (.iconst 0, 1) := by decide +kernel
theorem dX5_balance_14 : decode cX5_balance 14 = .ok (.goto 4, 3) := by decide +kernel
theorem dX5_balance_17 : decode cX5_balance 17 = .ok (.iconst 1, 1) := by decide +kernel
theorem dX5_balance_18 : decode cX5_balance 18 = .ok (.putfield 33, 3) := by decide +kernel
theorem dX5_balance_21 : decode cX5_balance 21 = .ok (.aload_n 0, 1) := by decide +kernel
theorem dX5_balance_22 : decode cX5_balance 22 = .ok (.getfield 33, 3) := by decide +kernel
theorem dX5_balance_25 : decode cX5_balance 25 = .ok (.ifCond .le 5, 3) := by decide +kernel
theorem dX5_balance_28 : decode cX5_balance 28 = .ok (.iconst 0, 1) := by decide +kernel
theorem dX5_balance_29 : decode cX5_balance 29 = .ok (.ireturn, 1) := by decide +kernel
theorem dX5_balance_30 : decode cX5_balance 30 = .ok (.aload_n 0, 1) := by decide +kernel
theorem dX5_balance_31 : decode cX5_balance 31 = .ok (.invokevirtual 53, 3) := by decide +kernel
theorem dX5_balance_34 : decode cX5_balance 34 = .ok (.aload_n 0, 1) := by decide +kernel
theorem dX5_balance_35 : decode cX5_balance 35 = .ok (.invokevirtual 132, 3) := by decide +kernel
theorem dX5_balance_38 : decode cX5_balance 38 = .ok (.istore_n 2, 1) := by decide +kernel
theorem dX5_balance_39 : decode cX5_balance 39 = .ok (.iconst 0, 1) := by decide +kernel
theorem dX5_balance_40 : decode cX5_balance 40 = .ok (.istore_n 3, 1) := by decide +kernel
theorem dX5_balance_41 : decode cX5_balance 41 = .ok (.iconst 0, 1) := by decide +kernel
theorem dX5_balance_42 : decode cX5_balance 42 = .ok (.istore_n 2, 1) := by decide +kernel
theorem dX5_balance_43 : decode cX5_balance 43 = .ok (.iload_n 3, 1) := by decide +kernel
theorem dX5_balance_44 : decode cX5_balance 44 = .ok (.iload_n 1, 1) := by decide +kernel
theorem dX5_balance_45 : decode cX5_balance 45 = .ok (.if_icmp .ge 28, 3) := by decide +kernel
theorem dX5_balance_48 : decode cX5_balance 48 = .ok (.iload_n 2, 1) := by decide +kernel
theorem dX5_balance_49 : decode cX5_balance 49 = .ok (.ifCond .ne 24, 3) := by decide +kernel
theorem dX5_balance_52 : decode cX5_balance 52 = .ok (.aload_n 0, 1) := by decide +kernel
theorem dX5_balance_53 : decode cX5_balance 53 = .ok (.iconst 0, 1) := by decide +kernel
theorem dX5_balance_54 : decode cX5_balance 54 = .ok (.invokevirtual 109, 3) := by decide +kernel
theorem dX5_balance_57 : decode cX5_balance 57 = .ok (.aload_n 0, 1) := by decide +kernel
theorem dX5_balance_58 : decode cX5_balance 58 = .ok (.iconst 1, 1) := by decide +kernel
theorem dX5_balance_59 : decode cX5_balance 59 = .ok (.invokevirtual 109, 3) := by decide +kernel
theorem dX5_balance_62 : decode cX5_balance 62 = .ok (.iinc 3 1, 3) := by decide +kernel
theorem dX5_balance_65 : decode cX5_balance 65 = .ok (.aload_n 0, 1) := by decide +kernel
theorem dX5_balance_66 : decode cX5_balance 66 = .ok (.invokevirtual 132, 3) := by decide +kernel
theorem dX5_balance_69 : decode cX5_balance 69 = .ok (.istore_n 2, 1) := by decide +kernel
theorem dX5_balance_70 : decode cX5_balance 70 = .ok (.goto (-27), 3) := by decide +kernel
theorem dX5_balance_73 : decode cX5_balance 73 = .ok (.iload_n 3, 1) := by decide +kernel
theorem dX5_balance_74 : decode cX5_balance 74 = .ok (.ireturn, 1) := by decide +kernel
set_option maxRecDepth 20000 in
theorem ggX5_toneCheck_X5_isPair : GoodIn wsX5_toneCheck wsX5_isPair := goodIn_r _ [5, 6, 7, 4, 8] (by decide +kernel) (by decide +kernel)
set_option maxRecDepth 20000 in
theorem gX5_toneCheck_X5_isPair : GoodIn wsX5_toneCheck (va_wsS RX5 56 yX5_isPair wsX5_isPair) := goodIn_app (goodIn_of _ (by decide +kernel)) ggX5_toneCheck_X5_isPair
set_option maxRecDepth 20000 in
theorem ggX5_toneCheck_X5_isTone : GoodIn wsX5_toneCheck wsX5_isTone := goodIn_r _ [11, 12, 6, 7, 4, 8] (by decide +kernel) (by decide +kernel)
set_option maxRecDepth 20000 in
theorem gX5_toneCheck_X5_isTone : GoodIn wsX5_toneCheck (va_wsS RX5 60 yX5_isTone wsX5_isTone) := goodIn_app (goodIn_of _ (by decide +kernel)) ggX5_toneCheck_X5_isTone
theorem dX5_toneCheck_0 : decode cX5_toneCheck 0 = .ok (.aload_n 0, 1) := by decide +kernel
theorem dX5_toneCheck_1 : decode cX5_toneCheck 1 = .ok (.iload_n 1, 1) := by decide +kernel
theorem dX5_toneCheck_2 : decode cX5_toneCheck 2 = .ok (.invokestatic 56, 3) := by decide +kernel
theorem dX5_toneCheck_5 : decode cX5_toneCheck 5 = .ok (.ifCond .eq 14, 3) := by decide +kernel
theorem dX5_toneCheck_8 : decode cX5_toneCheck 8 = .ok (.iload_n 2, 1) := by decide +kernel
theorem dX5_toneCheck_9 : decode cX5_toneCheck 9 = .ok (.invokestatic 60, 3) := by decide +kernel
theorem dX5_toneCheck_12 : decode cX5_toneCheck 12 = .ok (.ifCond .eq 7, 3) := by decide +kernel
theorem dX5_toneCheck_15 : decode cX5_toneCheck 15 = .ok (.iconst 0, 1) := by decide +kernel
theorem dX5_toneCheck_16 : decode cX5_toneCheck 16 = .ok (.goto 4, 3) := by decide +kernel
theorem dX5_toneCheck_19 : decode cX5_toneCheck 19 = .ok (.iconst 1, 1) := by decide +kernel
theorem dX5_toneCheck_20 : decode cX5_toneCheck 20 = .ok (.putfield 33, 3) := by decide +kernel
theorem dX5_toneCheck_23 : decode cX5_toneCheck 23 = .ok (.return_, 1) := by decide +kernel
set_option maxRecDepth 20000 in
theorem ggX5_bits_X5_toneCheck : GoodIn wsX5_bits wsX5_toneCheck := goodIn_r _ [7, 1, 8, 9, 6, 10, 11, 12, 13, 14, 15, 16, 17, 21, 22, 23, 24, 25, 26] (by decide +kernel) (by decide +kernel)
set_option maxRecDepth 20000 in
theorem gX5_bits_X5_toneCheck : GoodIn wsX5_bits (wsV RX5 136 RX5 yX5_toneCheck wsX5_toneCheck) := goodIn_app (goodIn_of _ (by decide +kernel)) ggX5_bits_X5_toneCheck
set_option maxRecDepth 20000 in
theorem ggX5_bits_X5_in : GoodIn wsX5_bits wsX5_in := goodIn_r _ [13] (by decide +kernel) (by decide +kernel)
set_option maxRecDepth 20000 in
theorem gX5_bits_X5_in : GoodIn wsX5_bits (va_wsS RX5 39 yX5_in wsX5_in) := goodIn_app (goodIn_of _ (by decide +kernel)) ggX5_bits_X5_in
set_option maxRecDepth 20000 in
theorem ggX5_bits_X5_at : GoodIn wsX5_bits wsX5_at := goodIn_r _ [20] (by decide +kernel) (by decide +kernel)
set_option maxRecDepth 20000 in
theorem gX5_bits_X5_at : GoodIn wsX5_bits (va_wsS RX5 19 yX5_at wsX5_at) := goodIn_app (goodIn_of _ (by decide +kernel)) ggX5_bits_X5_at
theorem dX5_bits_0 : decode cX5_bits 0 = .ok (.aload_n 0, 1) := by decide +kernel
theorem dX5_bits_1 : decode cX5_bits 1 = .ok (.iload_n 1, 1) := by decide +kernel
theorem dX5_bits_2 : decode cX5_bits 2 = .ok (.iload_n 2, 1) := by decide +kernel
theorem dX5_bits_3 : decode cX5_bits 3 = .ok (.invokevirtual 136, 3) := by decide +kernel
theorem dX5_bits_6 : decode cX5_bits 6 = .ok (.aload_n 0, 1) := by decide +kernel
theorem dX5_bits_7 : decode cX5_bits 7 = .ok (.aload_n 0, 1) := by decide +kernel
theorem dX5_bits_8 : decode cX5_bits 8 = .ok (.getfield 33, 3) := by decide +kernel
theorem dX5_bits_11 : decode cX5_bits 11 = .ok (.ifCond .ne 17, 3) := by decide +kernel
theorem dX5_bits_14 : decode cX5_bits 14 = .ok (.iload_n 3, 1) := by decide +kernel
theorem dX5_bits_15 : decode cX5_bits 15 = .ok (.i2l, 1) := by decide +kernel
theorem dX5_bits_16 : decode cX5_bits 16 = .ok (.lconst 0, 1) := by decide +kernel
theorem dX5_bits_17 : decode cX5_bits 17 = .ok (.lconst 1, 1) := by decide +kernel
theorem dX5_bits_18 : decode cX5_bits 18 = .ok (.invokestatic 39, 3) := by decide +kernel
theorem dX5_bits_21 : decode cX5_bits 21 = .ok (.ifCond .ne 7, 3) := by decide +kernel
theorem dX5_bits_24 : decode cX5_bits 24 = .ok (.iconst 2, 1) := by decide +kernel
theorem dX5_bits_25 : decode cX5_bits 25 = .ok (.goto 7, 3) := by decide +kernel
theorem dX5_bits_28 : decode cX5_bits 28 = .ok (.aload_n 0, 1) := by decide +kernel
theorem dX5_bits_29 : decode cX5_bits 29 = .ok (.getfield 33, 3) := by decide +kernel
theorem dX5_bits_32 : decode cX5_bits 32 = .ok (.putfield 33, 3) := by decide +kernel
theorem dX5_bits_35 : decode cX5_bits 35 = .ok (.aload_n 0, 1) := by decide +kernel
theorem dX5_bits_36 : decode cX5_bits 36 = .ok (.getfield 33, 3) := by decide +kernel
theorem dX5_bits_39 : decode cX5_bits 39 = .ok (.ifCond .le 7, 3) := by decide +kernel
theorem dX5_bits_42 : decode cX5_bits 42 = .ok (.iconst 0, 1) := by decide +kernel
theorem dX5_bits_43 : decode cX5_bits 43 = .ok (.goto 22, 3) := by decide +kernel
theorem dX5_bits_46 : decode cX5_bits 46 = .ok (.aload_n 0, 1) := by decide +kernel
theorem dX5_bits_47 : decode cX5_bits 47 = .ok (.getfield 7, 3) := by decide +kernel
theorem dX5_bits_50 : decode cX5_bits 50 = .ok (.iload_n 1, 1) := by decide +kernel
theorem dX5_bits_51 : decode cX5_bits 51 = .ok (.bipush 49, 2) := by decide +kernel
theorem dX5_bits_53 : decode cX5_bits 53 = .ok (.bipush 16, 2) := by decide +kernel
theorem dX5_bits_55 : decode cX5_bits 55 = .ok (.iload_n 3, 1) := by decide +kernel
theorem dX5_bits_56 : decode cX5_bits 56 = .ok (.imul, 1) := by decide +kernel
theorem dX5_bits_57 : decode cX5_bits 57 = .ok (.iadd, 1) := by decide +kernel
theorem dX5_bits_58 : decode cX5_bits 58 = .ok (.iload_n 2, 1) := by decide +kernel
theorem dX5_bits_59 : decode cX5_bits 59 = .ok (.iadd, 1) := by decide +kernel
theorem dX5_bits_60 : decode cX5_bits 60 = .ok (.invokestatic 19, 3) := by decide +kernel
theorem dX5_bits_63 : decode cX5_bits 63 = .ok (.laload, 1) := by decide +kernel
theorem dX5_bits_64 : decode cX5_bits 64 = .ok (.l2i, 1) := by decide +kernel
theorem dX5_bits_65 : decode cX5_bits 65 = .ok (.ireturn, 1) := by decide +kernel
set_option maxRecDepth 20000 in
theorem ggX5_rate_X5_isPair : GoodIn wsX5_rate wsX5_isPair := goodIn_r _ [5, 6, 7, 4, 8] (by decide +kernel) (by decide +kernel)
set_option maxRecDepth 20000 in
theorem gX5_rate_X5_isPair : GoodIn wsX5_rate (va_wsS RX5 56 yX5_isPair wsX5_isPair) := goodIn_app (goodIn_of _ (by decide +kernel)) ggX5_rate_X5_isPair
set_option maxRecDepth 20000 in
theorem ggX5_rate_X5_rateOf : GoodIn wsX5_rate wsX5_rateOf := goodIn_r _ [12, 13, 14, 15, 4, 16, 17, 18, 19, 20, 21, 22] (by decide +kernel) (by decide +kernel)
set_option maxRecDepth 20000 in
theorem gX5_rate_X5_rateOf : GoodIn wsX5_rate (wsV RX5 112 RX5 yX5_rateOf wsX5_rateOf) := goodIn_app (goodIn_of _ (by decide +kernel)) ggX5_rate_X5_rateOf
theorem dX5_rate_0 : decode cX5_rate 0 = .ok (.aload_n 0, 1) := by decide +kernel
theorem dX5_rate_1 : decode cX5_rate 1 = .ok (.iload_n 1, 1) := by decide +kernel
theorem dX5_rate_2 : decode cX5_rate 2 = .ok (.invokestatic 56, 3) := by decide +kernel
theorem dX5_rate_5 : decode cX5_rate 5 = .ok (.ifCond .eq 7, 3) := by decide +kernel
theorem dX5_rate_8 : decode cX5_rate 8 = .ok (.iconst 0, 1) := by decide +kernel
theorem dX5_rate_9 : decode cX5_rate 9 = .ok (.goto 4, 3) := by decide +kernel
theorem dX5_rate_12 : decode cX5_rate 12 = .ok (.iconst 1, 1) := by decide +kernel
theorem dX5_rate_13 : decode cX5_rate 13 = .ok (.putfield 33, 3) := by decide +kernel
theorem dX5_rate_16 : decode cX5_rate 16 = .ok (.aload_n 0, 1) := by decide +kernel
theorem dX5_rate_17 : decode cX5_rate 17 = .ok (.getfield 33, 3) := by decide +kernel
theorem dX5_rate_20 : decode cX5_rate 20 = .ok (.ifCond .le 7, 3) := by decide +kernel
theorem dX5_rate_23 : decode cX5_rate 23 = .ok (.iconst 0, 1) := by decide +kernel
theorem dX5_rate_24 : decode cX5_rate 24 = .ok (.goto 8, 3) := by decide +kernel
theorem dX5_rate_27 : decode cX5_rate 27 = .ok (.aload_n 0, 1) := by decide +kernel
theorem dX5_rate_28 : decode cX5_rate 28 = .ok (.iload_n 1, 1) := by decide +kernel
theorem dX5_rate_29 : decode cX5_rate 29 = .ok (.invokevirtual 112, 3) := by decide +kernel
theorem dX5_rate_32 : decode cX5_rate 32 = .ok (.ireturn, 1) := by decide +kernel
set_option maxRecDepth 20000 in
theorem ggX5_energy_X5_toneCheck : GoodIn wsX5_energy wsX5_toneCheck := goodIn_r _ [7, 1, 8, 9, 6, 10, 11, 12, 13, 14, 15, 16, 17, 21, 22, 23, 24, 25, 26] (by decide +kernel) (by decide +kernel)
set_option maxRecDepth 20000 in
theorem gX5_energy_X5_toneCheck : GoodIn wsX5_energy (wsV RX5 136 RX5 yX5_toneCheck wsX5_toneCheck) := goodIn_app (goodIn_of _ (by decide +kernel)) ggX5_energy_X5_toneCheck
set_option maxRecDepth 20000 in
theorem ggX5_energy_X5_at : GoodIn wsX5_energy wsX5_at := goodIn_r _ [20] (by decide +kernel) (by decide +kernel)
set_option maxRecDepth 20000 in
theorem gX5_energy_X5_at : GoodIn wsX5_energy (va_wsS RX5 19 yX5_at wsX5_at) := goodIn_app (goodIn_of _ (by decide +kernel)) ggX5_energy_X5_at
theorem dX5_energy_0 : decode cX5_energy 0 = .ok (.aload_n 0, 1) := by decide +kernel
theorem dX5_energy_1 : decode cX5_energy 1 = .ok (.iload_n 1, 1) := by decide +kernel
theorem dX5_energy_2 : decode cX5_energy 2 = .ok (.iload_n 2, 1) := by decide +kernel
theorem dX5_energy_3 : decode cX5_energy 3 = .ok (.invokevirtual 136, 3) := by decide +kernel
theorem dX5_energy_6 : decode cX5_energy 6 = .ok (.aload_n 0, 1) := by decide +kernel
theorem dX5_energy_7 : decode cX5_energy 7 = .ok (.getfield 33, 3) := by decide +kernel
theorem dX5_energy_10 : decode cX5_energy 10 = .ok (.ifCond .le 7, 3) := by decide +kernel
theorem dX5_energy_13 : decode cX5_energy 13 = .ok (.lconst 0, 1) := by decide +kernel
theorem dX5_energy_14 : decode cX5_energy 14 = .ok (.goto 16, 3) := by decide +kernel
theorem dX5_energy_17 : decode cX5_energy 17 = .ok (.aload_n 0, 1) := by decide +kernel
theorem dX5_energy_18 : decode cX5_energy 18 = .ok (.getfield 7, 3) := by decide +kernel
theorem dX5_energy_21 : decode cX5_energy 21 = .ok (.iload_n 1, 1) := by decide +kernel
theorem dX5_energy_22 : decode cX5_energy 22 = .ok (.bipush 81, 2) := by decide +kernel
theorem dX5_energy_24 : decode cX5_energy 24 = .ok (.iload_n 2, 1) := by decide +kernel
theorem dX5_energy_25 : decode cX5_energy 25 = .ok (.iadd, 1) := by decide +kernel
theorem dX5_energy_26 : decode cX5_energy 26 = .ok (.invokestatic 19, 3) := by decide +kernel
theorem dX5_energy_29 : decode cX5_energy 29 = .ok (.laload, 1) := by decide +kernel
theorem dX5_energy_30 : decode cX5_energy 30 = .ok (.lreturn, 1) := by decide +kernel
set_option maxRecDepth 20000 in
theorem ggX5_totalEnergy_X5_isPair : GoodIn wsX5_totalEnergy wsX5_isPair := goodIn_r _ [5, 6, 7, 4, 8] (by decide +kernel) (by decide +kernel)
set_option maxRecDepth 20000 in
theorem gX5_totalEnergy_X5_isPair : GoodIn wsX5_totalEnergy (va_wsS RX5 56 yX5_isPair wsX5_isPair) := goodIn_app (goodIn_of _ (by decide +kernel)) ggX5_totalEnergy_X5_isPair
set_option maxRecDepth 20000 in
theorem ggX5_totalEnergy_X5_energyOf : GoodIn wsX5_totalEnergy wsX5_energyOf := goodIn_r _ [12, 13, 14, 15, 4, 16, 17, 18, 19, 20, 21, 22] (by decide +kernel) (by decide +kernel)
set_option maxRecDepth 20000 in
theorem gX5_totalEnergy_X5_energyOf : GoodIn wsX5_totalEnergy (wsV RX5 117 RX5 yX5_energyOf wsX5_energyOf) := goodIn_app (goodIn_of _ (by decide +kernel)) ggX5_totalEnergy_X5_energyOf
theorem dX5_totalEnergy_0 : decode cX5_totalEnergy 0 = .ok (.aload_n 0, 1) := by decide +kernel
theorem dX5_totalEnergy_1 : decode cX5_totalEnergy 1 = .ok (.iload_n 1, 1) := by decide +kernel
theorem dX5_totalEnergy_2 : decode cX5_totalEnergy 2 = .ok (.invokestatic 56, 3) := by decide +kernel
theorem dX5_totalEnergy_5 : decode cX5_totalEnergy 5 = .ok (.ifCond .eq 7, 3) := by decide +kernel
theorem dX5_totalEnergy_8 : decode cX5_totalEnergy 8 = .ok (.iconst 0, 1) := by decide +kernel
theorem dX5_totalEnergy_9 : decode cX5_totalEnergy 9 = .ok (.goto 4, 3) := by decide +kernel
theorem dX5_totalEnergy_12 : decode cX5_totalEnergy 12 = .ok (.iconst 1, 1) := by decide +kernel
theorem dX5_totalEnergy_13 : decode cX5_totalEnergy 13 = .ok (.putfield 33, 3) := by decide +kernel
theorem dX5_totalEnergy_16 : decode cX5_totalEnergy 16 = .ok (.aload_n 0, 1) := by decide +kernel
theorem dX5_totalEnergy_17 : decode cX5_totalEnergy 17 = .ok (.getfield 33, 3) := by decide +kernel
theorem dX5_totalEnergy_20 : decode cX5_totalEnergy 20 = .ok (.ifCond .le 7, 3) := by decide +kernel
theorem dX5_totalEnergy_23 : decode cX5_totalEnergy 23 = .ok (.lconst 0, 1) := by decide +kernel
theorem dX5_totalEnergy_24 : decode cX5_totalEnergy 24 = .ok (.goto 8, 3) := by decide +kernel
theorem dX5_totalEnergy_27 : decode cX5_totalEnergy 27 = .ok (.aload_n 0, 1) := by decide +kernel
theorem dX5_totalEnergy_28 : decode cX5_totalEnergy 28 = .ok (.iload_n 1, 1) := by decide +kernel
theorem dX5_totalEnergy_29 : decode cX5_totalEnergy 29 = .ok (.invokevirtual 117, 3) := by decide +kernel
theorem dX5_totalEnergy_32 : decode cX5_totalEnergy 32 = .ok (.lreturn, 1) := by decide +kernel
set_option maxRecDepth 20000 in
theorem ggX5_disturbedNoise_X5_toneCheck : GoodIn wsX5_disturbedNoise wsX5_toneCheck := goodIn_r _ [6, 1, 7, 8, 5, 9, 10, 11, 12, 13, 14, 15, 16, 26, 27, 28, 29, 30, 31] (by decide +kernel) (by decide +kernel)
set_option maxRecDepth 20000 in
theorem gX5_disturbedNoise_X5_toneCheck : GoodIn wsX5_disturbedNoise (wsV RX5 136 RX5 yX5_toneCheck wsX5_toneCheck) := goodIn_app (goodIn_of _ (by decide +kernel)) ggX5_disturbedNoise_X5_toneCheck
set_option maxRecDepth 20000 in
theorem ggX5_disturbedNoise_X5_noiseOf : GoodIn wsX5_disturbedNoise wsX5_noiseOf := goodIn_r _ [20, 21, 22, 23, 24, 5, 25, 26, 27, 28, 29, 30, 31] (by decide +kernel) (by decide +kernel)
set_option maxRecDepth 20000 in
theorem gX5_disturbedNoise_X5_noiseOf : GoodIn wsX5_disturbedNoise (wsV RX5 72 RX5 yX5_noiseOf wsX5_noiseOf) := goodIn_app (goodIn_of _ (by decide +kernel)) ggX5_disturbedNoise_X5_noiseOf
theorem dX5_disturbedNoise_0 : decode cX5_disturbedNoise 0 = .ok (.aload_n 0, 1) := by decide +kernel
theorem dX5_disturbedNoise_1 : decode cX5_disturbedNoise 1 = .ok (.iload_n 1, 1) := by decide +kernel
theorem dX5_disturbedNoise_2 : decode cX5_disturbedNoise 2 = .ok (.iload_n 2, 1) := by decide +kernel
theorem dX5_disturbedNoise_3 : decode cX5_disturbedNoise 3 = .ok (.invokevirtual 136, 3) := by decide +kernel
theorem dX5_disturbedNoise_6 : decode cX5_disturbedNoise 6 = .ok (.aload_n 0, 1) := by decide +kernel
theorem dX5_disturbedNoise_7 : decode cX5_disturbedNoise 7 = .ok (.getfield 33, 3) := by decide +kernel
theorem dX5_disturbedNoise_10 : decode cX5_disturbedNoise 10 = .ok (.ifCond .le 7, 3) := by decide +kernel
theorem dX5_disturbedNoise_13 : decode cX5_disturbedNoise 13 = .ok (.lconst 0, 1) := by decide +kernel
theorem dX5_disturbedNoise_14 : decode cX5_disturbedNoise 14 = .ok (.goto 9, 3) := by decide +kernel
theorem dX5_disturbedNoise_17 : decode cX5_disturbedNoise 17 = .ok (.aload_n 0, 1) := by decide +kernel
theorem dX5_disturbedNoise_18 : decode cX5_disturbedNoise 18 = .ok (.iload_n 1, 1) := by decide +kernel
theorem dX5_disturbedNoise_19 : decode cX5_disturbedNoise 19 = .ok (.iload_n 2, 1) := by decide +kernel
theorem dX5_disturbedNoise_20 : decode cX5_disturbedNoise 20 = .ok (.invokevirtual 72, 3) := by decide +kernel
theorem dX5_disturbedNoise_23 : decode cX5_disturbedNoise 23 = .ok (.lreturn, 1) := by decide +kernel
set_option maxRecDepth 20000 in
theorem ggX5_marginOf_X5_at : GoodIn wsX5_marginOf wsX5_at := goodIn_r _ [7] (by decide +kernel) (by decide +kernel)
set_option maxRecDepth 20000 in
theorem gX5_marginOf_X5_at : GoodIn wsX5_marginOf (va_wsS RX5 19 yX5_at wsX5_at) := goodIn_app (goodIn_of _ (by decide +kernel)) ggX5_marginOf_X5_at
set_option maxRecDepth 20000 in
theorem ggX5_marginOf_X5_needOf : GoodIn wsX5_marginOf wsX5_needOf := goodIn_r _ [11, 1, 4, 5, 6, 7, 12, 13, 14, 15, 16, 17, 18, 19, 20, 21, 22, 23, 24, 25] (by decide +kernel) (by decide +kernel)
set_option maxRecDepth 20000 in
theorem gX5_marginOf_X5_needOf : GoodIn wsX5_marginOf (wsV RX5 85 RX5 yX5_needOf wsX5_needOf) := goodIn_app (goodIn_of _ (by decide +kernel)) ggX5_marginOf_X5_needOf
theorem dX5_marginOf_0 : decode cX5_marginOf 0 = .ok (.aload_n 0, 1) := by decide +kernel
theorem dX5_marginOf_1 : decode cX5_marginOf 1 = .ok (.getfield 7, 3) := by decide +kernel
theorem dX5_marginOf_4 : decode cX5_marginOf 4 = .ok (.iload_n 1, 1) := by decide +kernel
theorem dX5_marginOf_5 : decode cX5_marginOf 5 = .ok (.bipush 49, 2) := by decide +kernel
theorem dX5_marginOf_7 : decode cX5_marginOf 7 = .ok (.iload_n 2, 1) := by decide +kernel
theorem dX5_marginOf_8 : decode cX5_marginOf 8 = .ok (.iadd, 1) := by decide +kernel
theorem dX5_marginOf_9 : decode cX5_marginOf 9 = .ok (.invokestatic 19, 3) := by decide +kernel
theorem dX5_marginOf_12 : decode cX5_marginOf 12 = .ok (.laload, 1) := by decide +kernel
theorem dX5_marginOf_13 : decode cX5_marginOf 13 = .ok (.lconst 0, 1) := by decide +kernel
theorem dX5_marginOf_14 : decode cX5_marginOf 14 = .ok (.lcmp, 1) := by decide +kernel
theorem dX5_marginOf_15 : decode cX5_marginOf 15 = .ok (.ifCond .ne 9, 3) := by decide +kernel
theorem dX5_marginOf_18 : decode cX5_marginOf 18 = .ok (.ldc2_w 94, 3) := by decide +kernel
theorem dX5_marginOf_21 : decode cX5_marginOf 21 = .ok (.goto 27, 3) := by decide +kernel
theorem dX5_marginOf_24 : decode cX5_marginOf 24 = .ok (.ldc2_w 25, 3) := by decide +kernel
theorem dX5_marginOf_27 : decode cX5_marginOf 27 = .ok (.aload_n 0, 1) := by decide +kernel
theorem dX5_marginOf_28 : decode cX5_marginOf 28 = .ok (.getfield 7, 3) := by decide +kernel
theorem dX5_marginOf_31 : decode cX5_marginOf 31 = .ok (.iload_n 1, 1) := by decide +kernel
theorem dX5_marginOf_32 : decode cX5_marginOf 32 = .ok (.bipush 81, 2) := by decide +kernel
theorem dX5_marginOf_34 : decode cX5_marginOf 34 = .ok (.iload_n 2, 1) := by decide +kernel
theorem dX5_marginOf_35 : decode cX5_marginOf 35 = .ok (.iadd, 1) := by decide +kernel
theorem dX5_marginOf_36 : decode cX5_marginOf 36 = .ok (.invokestatic 19, 3) := by decide +kernel
theorem dX5_marginOf_39 : decode cX5_marginOf 39 = .ok (.laload, 1) := by decide +kernel
theorem dX5_marginOf_40 : decode cX5_marginOf 40 = .ok (.lmul, 1) := by decide +kernel
theorem dX5_marginOf_41 : decode cX5_marginOf 41 = .ok (.aload_n 0, 1) := by decide +kernel
theorem dX5_marginOf_42 : decode cX5_marginOf 42 = .ok (.iload_n 1, 1) := by decide +kernel
theorem dX5_marginOf_43 : decode cX5_marginOf 43 = .ok (.iload_n 2, 1) := by decide +kernel
theorem dX5_marginOf_44 : decode cX5_marginOf 44 = .ok (.invokevirtual 85, 3) := by decide +kernel
theorem dX5_marginOf_47 : decode cX5_marginOf 47 = .ok (.ldiv, 1) := by decide +kernel
theorem dX5_marginOf_48 : decode cX5_marginOf 48 = .ok (.lreturn, 1) := by decide +kernel
set_option maxRecDepth 20000 in
theorem ggX5_margin_X5_toneCheck : GoodIn wsX5_margin wsX5_toneCheck := goodIn_r _ [6, 1, 7, 8, 5, 9, 10, 11, 12, 13, 14, 15, 16, 39, 40, 41, 42, 43, 44] (by decide +kernel) (by decide +kernel)
set_option maxRecDepth 20000 in
theorem gX5_margin_X5_toneCheck : GoodIn wsX5_margin (wsV RX5 136 RX5 yX5_toneCheck wsX5_toneCheck) := goodIn_app (goodIn_of _ (by decide +kernel)) ggX5_margin_X5_toneCheck
set_option maxRecDepth 20000 in
theorem ggX5_margin_X5_marginOf : GoodIn wsX5_margin wsX5_marginOf := goodIn_r _ [20, 21, 22, 23, 24, 25, 5, 26, 27, 28, 29, 30, 31, 32, 33, 34, 35, 36, 37, 38, 39, 40, 41, 42, 43, 44] (by decide +kernel) (by decide +kernel)
set_option maxRecDepth 20000 in
theorem gX5_margin_X5_marginOf : GoodIn wsX5_margin (wsV RX5 139 RX5 yX5_marginOf wsX5_marginOf) := goodIn_app (goodIn_of _ (by decide +kernel)) ggX5_margin_X5_marginOf
theorem dX5_margin_0 : decode cX5_margin 0 = .ok (.aload_n 0, 1) := by decide +kernel
theorem dX5_margin_1 : decode cX5_margin 1 = .ok (.iload_n 1, 1) := by decide +kernel
theorem dX5_margin_2 : decode cX5_margin 2 = .ok (.iload_n 2, 1) := by decide +kernel
theorem dX5_margin_3 : decode cX5_margin 3 = .ok (.invokevirtual 136, 3) := by decide +kernel
theorem dX5_margin_6 : decode cX5_margin 6 = .ok (.aload_n 0, 1) := by decide +kernel
theorem dX5_margin_7 : decode cX5_margin 7 = .ok (.getfield 33, 3) := by decide +kernel
theorem dX5_margin_10 : decode cX5_margin 10 = .ok (.ifCond .le 7, 3) := by decide +kernel
theorem dX5_margin_13 : decode cX5_margin 13 = .ok (.lconst 0, 1) := by decide +kernel
theorem dX5_margin_14 : decode cX5_margin 14 = .ok (.goto 9, 3) := by decide +kernel
theorem dX5_margin_17 : decode cX5_margin 17 = .ok (.aload_n 0, 1) := by decide +kernel
theorem dX5_margin_18 : decode cX5_margin 18 = .ok (.iload_n 1, 1) := by decide +kernel
theorem dX5_margin_19 : decode cX5_margin 19 = .ok (.iload_n 2, 1) := by decide +kernel
theorem dX5_margin_20 : decode cX5_margin 20 = .ok (.invokevirtual 139, 3) := by decide +kernel
theorem dX5_margin_23 : decode cX5_margin 23 = .ok (.lreturn, 1) := by decide +kernel
set_option maxRecDepth 20000 in
theorem ggX5_weakest_X5_at : GoodIn wsX5_weakest wsX5_at := goodIn_r _ [5] (by decide +kernel) (by decide +kernel)
set_option maxRecDepth 20000 in
theorem gX5_weakest_X5_at : GoodIn wsX5_weakest (va_wsS RX5 19 yX5_at wsX5_at) := goodIn_app (goodIn_of _ (by decide +kernel)) ggX5_weakest_X5_at
set_option maxRecDepth 20000 in
theorem ggX5_weakest_X5_marginOf : GoodIn wsX5_weakest wsX5_marginOf := goodIn_r _ [9, 1, 10, 11, 2, 3, 4, 5, 12, 13, 14, 15, 16, 17, 18, 19, 20, 21, 22, 23, 24, 25, 26, 27, 28, 29] (by decide +kernel) (by decide +kernel)
set_option maxRecDepth 20000 in
theorem gX5_weakest_X5_marginOf : GoodIn wsX5_weakest (wsV RX5 139 RX5 yX5_marginOf wsX5_marginOf) := goodIn_app (goodIn_of _ (by decide +kernel)) ggX5_weakest_X5_marginOf
theorem dX5_weakest_0 : decode cX5_weakest 0 = .ok (.iconst (-1), 1) := by decide +kernel
theorem dX5_weakest_1 : decode cX5_weakest 1 = .ok (.istore_n 2, 1) := by decide +kernel
theorem dX5_weakest_2 : decode cX5_weakest 2 = .ok (.iconst 0, 1) := by decide +kernel
theorem dX5_weakest_3 : decode cX5_weakest 3 = .ok (.istore_n 3, 1) := by decide +kernel
theorem dX5_weakest_4 : decode cX5_weakest 4 = .ok (.iload_n 3, 1) := by decide +kernel
theorem dX5_weakest_5 : decode cX5_weakest 5 = .ok (.bipush 16, 2) := by decide +kernel
theorem dX5_weakest_7 : decode cX5_weakest 7 = .ok (.if_icmp .ge 66, 3) := by decide +kernel
theorem dX5_weakest_10 : decode cX5_weakest 10 = .ok (.aload_n 0, 1) := by decide +kernel
theorem dX5_weakest_11 : decode cX5_weakest 11 = .ok (.getfield 7, 3) := by decide +kernel
theorem dX5_weakest_14 : decode cX5_weakest 14 = .ok (.iload_n 1, 1) := by decide +kernel
theorem dX5_weakest_15 : decode cX5_weakest 15 = .ok (.bipush 49, 2) := by decide +kernel
theorem dX5_weakest_17 : decode cX5_weakest 17 = .ok (.iload_n 3, 1) := by decide +kernel
theorem dX5_weakest_18 : decode cX5_weakest 18 = .ok (.iadd, 1) := by decide +kernel
theorem dX5_weakest_19 : decode cX5_weakest 19 = .ok (.invokestatic 19, 3) := by decide +kernel
theorem dX5_weakest_22 : decode cX5_weakest 22 = .ok (.laload, 1) := by decide +kernel
theorem dX5_weakest_23 : decode cX5_weakest 23 = .ok (.lconst 0, 1) := by decide +kernel
theorem dX5_weakest_24 : decode cX5_weakest 24 = .ok (.lcmp, 1) := by decide +kernel
theorem dX5_weakest_25 : decode cX5_weakest 25 = .ok (.ifCond .le 7, 3) := by decide +kernel
theorem dX5_weakest_28 : decode cX5_weakest 28 = .ok (.iconst 1, 1) := by decide +kernel
theorem dX5_weakest_29 : decode cX5_weakest 29 = .ok (.goto 4, 3) := by decide +kernel
theorem dX5_weakest_32 : decode cX5_weakest 32 = .ok (.iconst 0, 1) := by decide +kernel
theorem dX5_weakest_33 : decode cX5_weakest 33 = .ok (.istore 4, 2) := by decide +kernel
theorem dX5_weakest_35 : decode cX5_weakest 35 = .ok (.iload 4, 2) := by decide +kernel
theorem dX5_weakest_37 : decode cX5_weakest 37 = .ok (.ifCond .eq 28, 3) := by decide +kernel
theorem dX5_weakest_40 : decode cX5_weakest 40 = .ok (.iload_n 2, 1) := by decide +kernel
theorem dX5_weakest_41 : decode cX5_weakest 41 = .ok (.iconst (-1), 1) := by decide +kernel
theorem dX5_weakest_42 : decode cX5_weakest 42 = .ok (.if_icmp .eq 19, 3) := by decide +kernel
theorem dX5_weakest_45 : decode cX5_weakest 45 = .ok (.aload_n 0, 1) := by decide +kernel
theorem dX5_weakest_46 : decode cX5_weakest 46 = .ok (.iload_n 1, 1) := by decide +kernel
theorem dX5_weakest_47 : decode cX5_weakest 47 = .ok (.iload_n 3, 1) := by decide +kernel
theorem dX5_weakest_48 : decode cX5_weakest 48 = .ok (.invokevirtual 139, 3) := by decide +kernel
theorem dX5_weakest_51 : decode cX5_weakest 51 = .ok (.aload_n 0, 1) := by decide +kernel
theorem dX5_weakest_52 : decode cX5_weakest 52 = .ok (.iload_n 1, 1) := by decide +kernel
theorem dX5_weakest_53 : decode cX5_weakest 53 = .ok (.iload_n 2, 1) := by decide +kernel
theorem dX5_weakest_54 : decode cX5_weakest 54 = .ok (.invokevirtual 139, 3) := by decide +kernel
theorem dX5_weakest_57 : decode cX5_weakest 57 = .ok (.lcmp, 1) := by decide +kernel
theorem dX5_weakest_58 : decode cX5_weakest 58 = .ok (.ifCond .ge 7, 3) := by decide +kernel
theorem dX5_weakest_61 : decode cX5_weakest 61 = .ok (.iload_n 3, 1) := by decide +kernel
theorem dX5_weakest_62 : decode cX5_weakest 62 = .ok (.goto 4, 3) := by decide +kernel
theorem dX5_weakest_65 : decode cX5_weakest 65 = .ok (.iload_n 2, 1) := by decide +kernel
theorem dX5_weakest_66 : decode cX5_weakest 66 = .ok (.istore_n 2, 1) := by decide +kernel
theorem dX5_weakest_67 : decode cX5_weakest 67 = .ok (.iinc 3 1, 3) := by decide +kernel
theorem dX5_weakest_70 : decode cX5_weakest 70 = .ok (.goto (-66), 3) := by decide +kernel
theorem dX5_weakest_73 : decode cX5_weakest 73 = .ok (.iload_n 2, 1) := by decide +kernel
theorem dX5_weakest_74 : decode cX5_weakest 74 = .ok (.ireturn, 1) := by decide +kernel
set_option maxRecDepth 20000 in
theorem ggX5_leastMargin_X5_isPair : GoodIn wsX5_leastMargin wsX5_isPair := goodIn_r _ [6, 7, 8, 5, 9] (by decide +kernel) (by decide +kernel)
set_option maxRecDepth 20000 in
theorem gX5_leastMargin_X5_isPair : GoodIn wsX5_leastMargin (va_wsS RX5 56 yX5_isPair wsX5_isPair) := goodIn_app (goodIn_of _ (by decide +kernel)) ggX5_leastMargin_X5_isPair
set_option maxRecDepth 20000 in
theorem ggX5_leastMargin_X5_weakest : GoodIn wsX5_leastMargin wsX5_weakest := goodIn_r _ [13, 14, 15, 16, 5, 17, 18, 19, 20, 21, 2, 22, 23, 24, 25, 26, 27, 28, 29, 30, 31, 32, 33, 34, 35, 36, 37, 38, 39, 40] (by decide +kernel) (by decide +kernel)
set_option maxRecDepth 20000 in
theorem gX5_leastMargin_X5_weakest : GoodIn wsX5_leastMargin (wsV RX5 142 RX5 yX5_weakest wsX5_weakest) := goodIn_app (goodIn_of _ (by decide +kernel)) ggX5_leastMargin_X5_weakest
set_option maxRecDepth 20000 in
theorem ggX5_leastMargin_X5_marginOf : GoodIn wsX5_leastMargin wsX5_marginOf := goodIn_r _ [21, 14, 2, 22, 15, 16, 5, 17, 23, 24, 25, 26, 27, 28, 29, 30, 31, 32, 33, 34, 35, 36, 37, 38, 39, 40] (by decide +kernel) (by decide +kernel)
set_option maxRecDepth 20000 in
theorem gX5_leastMargin_X5_marginOf : GoodIn wsX5_leastMargin (wsV RX5 139 RX5 yX5_marginOf wsX5_marginOf) := goodIn_app (goodIn_of _ (by decide +kernel)) ggX5_leastMargin_X5_marginOf
theorem dX5_leastMargin_0 : decode cX5_leastMargin 0 = .ok (.aload_n 0, 1) := by decide +kernel
theorem dX5_leastMargin_1 : decode cX5_leastMargin 1 = .ok (.iload_n 1, 1) := by decide +kernel
theorem dX5_leastMargin_2 : decode cX5_leastMargin 2 = .ok (.invokestatic 56, 3) := by decide +kernel
theorem dX5_leastMargin_5 : decode cX5_leastMargin 5 = .ok (.ifCond .eq 7, 3) := by decide +kernel
theorem dX5_leastMargin_8 : decode cX5_leastMargin 8 = .ok (.iconst 0, 1) := by decide +kernel
theorem dX5_leastMargin_9 : decode cX5_leastMargin 9 = .ok (.goto 4, 3) := by decide +kernel
theorem dX5_leastMargin_12 : decode cX5_leastMargin 12 = .ok (.iconst 1, 1) := by decide +kernel
theorem dX5_leastMargin_13 : decode cX5_leastMargin 13 = .ok (.putfield 33, 3) := by decide +kernel
theorem dX5_leastMargin_16 : decode cX5_leastMargin 16 = .ok (.aload_n 0, 1) := by decide +kernel
theorem dX5_leastMargin_17 : decode cX5_leastMargin 17 = .ok (.getfield 33, 3) := by decide +kernel
theorem dX5_leastMargin_20 : decode cX5_leastMargin 20 = .ok (.ifCond .le 7, 3) := by decide +kernel
theorem dX5_leastMargin_23 : decode cX5_leastMargin 23 = .ok (.iconst (-1), 1) := by decide +kernel
theorem dX5_leastMargin_24 : decode cX5_leastMargin 24 = .ok (.goto 8, 3) := by decide +kernel
theorem dX5_leastMargin_27 : decode cX5_leastMargin 27 = .ok (.aload_n 0, 1) := by decide +kernel
theorem dX5_leastMargin_28 : decode cX5_leastMargin 28 = .ok (.iload_n 1, 1) := by decide +kernel
theorem dX5_leastMargin_29 : decode cX5_leastMargin 29 = .ok (.invokevirtual 142, 3) := by decide +kernel
theorem dX5_leastMargin_32 : decode cX5_leastMargin 32 = .ok (.istore_n 2, 1) := by decide +kernel
theorem dX5_leastMargin_33 : decode cX5_leastMargin 33 = .ok (.aload_n 0, 1) := by decide +kernel
theorem dX5_leastMargin_34 : decode cX5_leastMargin 34 = .ok (.getfield 33, 3) := by decide +kernel
theorem dX5_leastMargin_37 : decode cX5_leastMargin 37 = .ok (.ifCond .le 7, 3) := by decide +kernel
theorem dX5_leastMargin_40 : decode cX5_leastMargin 40 = .ok (.lconst 0, 1) := by decide +kernel
theorem dX5_leastMargin_41 : decode cX5_leastMargin 41 = .ok (.goto 20, 3) := by decide +kernel
theorem dX5_leastMargin_44 : decode cX5_leastMargin 44 = .ok (.iload_n 2, 1) := by decide +kernel
theorem dX5_leastMargin_45 : decode cX5_leastMargin 45 = .ok (.iconst (-1), 1) := by decide +kernel
theorem dX5_leastMargin_46 : decode cX5_leastMargin 46 = .ok (.if_icmp .ne 9, 3) := by decide +kernel
theorem dX5_leastMargin_49 : decode cX5_leastMargin 49 = .ok (.ldc2_w 94, 3) := by decide +kernel
theorem dX5_leastMargin_52 : decode cX5_leastMargin 52 = .ok (.goto 9, 3) := by decide +kernel
theorem dX5_leastMargin_55 : decode cX5_leastMargin 55 = .ok (.aload_n 0, 1) := by decide +kernel
theorem dX5_leastMargin_56 : decode cX5_leastMargin 56 = .ok (.iload_n 1, 1) := by decide +kernel
theorem dX5_leastMargin_57 : decode cX5_leastMargin 57 = .ok (.iload_n 2, 1) := by decide +kernel
theorem dX5_leastMargin_58 : decode cX5_leastMargin 58 = .ok (.invokevirtual 139, 3) := by decide +kernel
theorem dX5_leastMargin_61 : decode cX5_leastMargin 61 = .ok (.lreturn, 1) := by decide +kernel
set_option maxRecDepth 20000 in
theorem ggX5_badTones_X5_isPair : GoodIn wsX5_badTones wsX5_isPair := goodIn_r _ [7, 8, 9, 6, 10] (by decide +kernel) (by decide +kernel)
set_option maxRecDepth 20000 in
theorem gX5_badTones_X5_isPair : GoodIn wsX5_badTones (va_wsS RX5 56 yX5_isPair wsX5_isPair) := goodIn_app (goodIn_of _ (by decide +kernel)) ggX5_badTones_X5_isPair
set_option maxRecDepth 20000 in
theorem ggX5_badTones_X5_marginOf : GoodIn wsX5_badTones wsX5_marginOf := goodIn_r _ [14, 15, 2, 3, 16, 17, 6, 18, 19, 20, 21, 22, 23, 24, 25, 26, 27, 28, 29, 30, 31, 32, 33, 34, 35, 36] (by decide +kernel) (by decide +kernel)
set_option maxRecDepth 20000 in
theorem gX5_badTones_X5_marginOf : GoodIn wsX5_badTones (wsV RX5 139 RX5 yX5_marginOf wsX5_marginOf) := goodIn_app (goodIn_of _ (by decide +kernel)) ggX5_badTones_X5_marginOf
theorem dX5_badTones_0 : decode cX5_badTones 0 = .ok (.aload_n 0, 1) := by decide +kernel
theorem dX5_badTones_1 : decode cX5_badTones 1 = .ok (.iload_n 1, 1) := by decide +kernel
theorem dX5_badTones_2 : decode cX5_badTones 2 = .ok (.invokestatic 56, 3) := by decide +kernel
theorem dX5_badTones_5 : decode cX5_badTones 5 = .ok (.ifCond .eq 7, 3) := by decide +kernel
theorem dX5_badTones_8 : decode cX5_badTones 8 = .ok (.iconst 0, 1) := by decide +kernel
theorem dX5_badTones_9 : decode cX5_badTones 9 = .ok (.goto 4, 3) := by decide +kernel
theorem dX5_badTones_12 : decode cX5_badTones 12 = .ok (.iconst 1, 1) := by decide +kernel
theorem dX5_badTones_13 : decode cX5_badTones 13 = .ok (.putfield 33, 3) := by decide +kernel
theorem dX5_badTones_16 : decode cX5_badTones 16 = .ok (.iconst 0, 1) := by decide +kernel
theorem dX5_badTones_17 : decode cX5_badTones 17 = .ok (.istore_n 2, 1) := by decide +kernel
theorem dX5_badTones_18 : decode cX5_badTones 18 = .ok (.iconst 0, 1) := by decide +kernel
theorem dX5_badTones_19 : decode cX5_badTones 19 = .ok (.istore_n 3, 1) := by decide +kernel
theorem dX5_badTones_20 : decode cX5_badTones 20 = .ok (.iload_n 3, 1) := by decide +kernel
theorem dX5_badTones_21 : decode cX5_badTones 21 = .ok (.bipush 16, 2) := by decide +kernel
theorem dX5_badTones_23 : decode cX5_badTones 23 = .ok (.if_icmp .ge 52, 3) := by decide +kernel
theorem dX5_badTones_26 : decode cX5_badTones 26 = .ok (.aload_n 0, 1) := by decide +kernel
theorem dX5_badTones_27 : decode cX5_badTones 27 = .ok (.getfield 33, 3) := by decide +kernel
theorem dX5_badTones_30 : decode cX5_badTones 30 = .ok (.ifCond .ne 45, 3) := by decide +kernel
theorem dX5_badTones_33 : decode cX5_badTones 33 = .ok (.aload_n 0, 1) := by decide +kernel
theorem dX5_badTones_34 : decode cX5_badTones 34 = .ok (.iload_n 1, 1) := by decide +kernel
theorem dX5_badTones_35 : decode cX5_badTones 35 = .ok (.iload_n 3, 1) := by decide +kernel
theorem dX5_badTones_36 : decode cX5_badTones 36 = .ok (.invokevirtual 139, 3) := by decide +kernel
theorem dX5_badTones_39 : decode cX5_badTones 39 = .ok (.lstore 4, 2) := by decide +kernel
theorem dX5_badTones_41 : decode cX5_badTones 41 = .ok (.iload_n 2, 1) := by decide +kernel
theorem dX5_badTones_42 : decode cX5_badTones 42 = .ok (.lload 4, 2) := by decide +kernel
theorem dX5_badTones_44 : decode cX5_badTones 44 = .ok (.ldc2_w 94, 3) := by decide +kernel
theorem dX5_badTones_47 : decode cX5_badTones 47 = .ok (.lcmp, 1) := by decide +kernel
theorem dX5_badTones_48 : decode cX5_badTones 48 = .ok (.ifCond .eq 18, 3) := by decide +kernel
theorem dX5_badTones_51 : decode cX5_badTones 51 = .ok (.lload 4, 2) := by decide +kernel
theorem dX5_badTones_53 : decode cX5_badTones 53 = .ok (.ldc2_w 25, 3) := by decide +kernel
theorem dX5_badTones_56 : decode cX5_badTones 56 = .ok (.lcmp, 1) := by decide +kernel
theorem dX5_badTones_57 : decode cX5_badTones 57 = .ok (.ifCond .ge 9, 3) := by decide +kernel
theorem dX5_badTones_60 : decode cX5_badTones 60 = .ok (.iconst 1, 1) := by decide +kernel
theorem dX5_badTones_61 : decode cX5_badTones 61 = .ok (.iload_n 3, 1) := by decide +kernel
theorem dX5_badTones_62 : decode cX5_badTones 62 = .ok (.ishl, 1) := by decide +kernel
theorem dX5_badTones_63 : decode cX5_badTones 63 = .ok (.goto 4, 3) := by decide +kernel
theorem dX5_badTones_66 : decode cX5_badTones 66 = .ok (.iconst 0, 1) := by decide +kernel
theorem dX5_badTones_67 : decode cX5_badTones 67 = .ok (.ior, 1) := by decide +kernel
theorem dX5_badTones_68 : decode cX5_badTones 68 = .ok (.istore_n 2, 1) := by decide +kernel
theorem dX5_badTones_69 : decode cX5_badTones 69 = .ok (.iinc 3 1, 3) := by decide +kernel
theorem dX5_badTones_72 : decode cX5_badTones 72 = .ok (.goto (-52), 3) := by decide +kernel
theorem dX5_badTones_75 : decode cX5_badTones 75 = .ok (.iload_n 2, 1) := by decide +kernel
theorem dX5_badTones_76 : decode cX5_badTones 76 = .ok (.ireturn, 1) := by decide +kernel
set_option maxRecDepth 20000 in
theorem ggX5_isEfficient_X5_isPair : GoodIn wsX5_isEfficient wsX5_isPair := goodIn_r _ [5, 6, 7, 4, 8] (by decide +kernel) (by decide +kernel)
set_option maxRecDepth 20000 in
theorem gX5_isEfficient_X5_isPair : GoodIn wsX5_isEfficient (va_wsS RX5 56 yX5_isPair wsX5_isPair) := goodIn_app (goodIn_of _ (by decide +kernel)) ggX5_isEfficient_X5_isPair
set_option maxRecDepth 20000 in
theorem ggX5_isEfficient_X5_efficient : GoodIn wsX5_isEfficient wsX5_efficient := goodIn_r _ [12, 13, 14, 15, 4, 16, 17, 18, 19, 20, 21, 22, 23, 24, 25, 26, 27, 28, 29, 30, 31, 32, 33, 34, 35, 36, 37, 38, 39, 40, 41, 42, 43, 44, 45, 46, 47, 48] (by decide +kernel) (by decide +kernel)
set_option maxRecDepth 20000 in
theorem gX5_isEfficient_X5_efficient : GoodIn wsX5_isEfficient (wsV RX5 127 RX5 yX5_efficient wsX5_efficient) := goodIn_app (goodIn_of _ (by decide +kernel)) ggX5_isEfficient_X5_efficient
theorem dX5_isEfficient_0 : decode cX5_isEfficient 0 = .ok (.aload_n 0, 1) := by decide +kernel
theorem dX5_isEfficient_1 : decode cX5_isEfficient 1 = .ok (.iload_n 1, 1) := by decide +kernel
theorem dX5_isEfficient_2 : decode cX5_isEfficient 2 = .ok (.invokestatic 56, 3) := by decide +kernel
theorem dX5_isEfficient_5 : decode cX5_isEfficient 5 = .ok (.ifCond .eq 7, 3) := by decide +kernel
theorem dX5_isEfficient_8 : decode cX5_isEfficient 8 = .ok (.iconst 0, 1) := by decide +kernel
theorem dX5_isEfficient_9 : decode cX5_isEfficient 9 = .ok (.goto 4, 3) := by decide +kernel
theorem dX5_isEfficient_12 : decode cX5_isEfficient 12 = .ok (.iconst 1, 1) := by decide +kernel
theorem dX5_isEfficient_13 : decode cX5_isEfficient 13 = .ok (.putfield 33, 3) := by decide +kernel
theorem dX5_isEfficient_16 : decode cX5_isEfficient 16 = .ok (.aload_n 0, 1) := by decide +kernel
theorem dX5_isEfficient_17 : decode cX5_isEfficient 17 = .ok (.getfield 33, 3) := by decide +kernel
theorem dX5_isEfficient_20 : decode cX5_isEfficient 20 = .ok (.ifCond .ne 15, 3) := by decide +kernel
theorem dX5_isEfficient_23 : decode cX5_isEfficient 23 = .ok (.aload_n 0, 1) := by decide +kernel
theorem dX5_isEfficient_24 : decode cX5_isEfficient 24 = .ok (.iload_n 1, 1) := by decide +kernel
theorem dX5_isEfficient_25 : decode cX5_isEfficient 25 = .ok (.invokevirtual 127, 3) := by decide +kernel
theorem dX5_isEfficient_28 : decode cX5_isEfficient 28 = .ok (.ifCond .eq 7, 3) := by decide +kernel
theorem dX5_isEfficient_31 : decode cX5_isEfficient 31 = .ok (.iconst 1, 1) := by decide +kernel
theorem dX5_isEfficient_32 : decode cX5_isEfficient 32 = .ok (.goto 4, 3) := by decide +kernel
theorem dX5_isEfficient_35 : decode cX5_isEfficient 35 = .ok (.iconst 0, 1) := by decide +kernel
theorem dX5_isEfficient_36 : decode cX5_isEfficient 36 = .ok (.ireturn, 1) := by decide +kernel
set_option maxRecDepth 20000 in
theorem ggX5_meanBits_X5_isPair : GoodIn wsX5_meanBits wsX5_isPair := goodIn_r _ [6, 7, 8, 5, 9] (by decide +kernel) (by decide +kernel)
set_option maxRecDepth 20000 in
theorem gX5_meanBits_X5_isPair : GoodIn wsX5_meanBits (va_wsS RX5 56 yX5_isPair wsX5_isPair) := goodIn_app (goodIn_of _ (by decide +kernel)) ggX5_meanBits_X5_isPair
set_option maxRecDepth 20000 in
theorem ggX5_meanBits_X5_rateOf : GoodIn wsX5_meanBits wsX5_rateOf := goodIn_r _ [13, 14, 15, 16, 5, 17, 18, 19, 20, 21, 22, 23] (by decide +kernel) (by decide +kernel)
set_option maxRecDepth 20000 in
theorem gX5_meanBits_X5_rateOf : GoodIn wsX5_meanBits (wsV RX5 112 RX5 yX5_rateOf wsX5_rateOf) := goodIn_app (goodIn_of _ (by decide +kernel)) ggX5_meanBits_X5_rateOf
theorem dX5_meanBits_0 : decode cX5_meanBits 0 = .ok (.aload_n 0, 1) := by decide +kernel
theorem dX5_meanBits_1 : decode cX5_meanBits 1 = .ok (.iload_n 1, 1) := by decide +kernel
theorem dX5_meanBits_2 : decode cX5_meanBits 2 = .ok (.invokestatic 56, 3) := by decide +kernel
theorem dX5_meanBits_5 : decode cX5_meanBits 5 = .ok (.ifCond .eq 7, 3) := by decide +kernel
theorem dX5_meanBits_8 : decode cX5_meanBits 8 = .ok (.iconst 0, 1) := by decide +kernel
theorem dX5_meanBits_9 : decode cX5_meanBits 9 = .ok (.goto 4, 3) := by decide +kernel
theorem dX5_meanBits_12 : decode cX5_meanBits 12 = .ok (.iconst 1, 1) := by decide +kernel
theorem dX5_meanBits_13 : decode cX5_meanBits 13 = .ok (.putfield 33, 3) := by decide +kernel
theorem dX5_meanBits_16 : decode cX5_meanBits 16 = .ok (.aload_n 0, 1) := by decide +kernel
theorem dX5_meanBits_17 : decode cX5_meanBits 17 = .ok (.getfield 33, 3) := by decide +kernel
theorem dX5_meanBits_20 : decode cX5_meanBits 20 = .ok (.ifCond .le 7, 3) := by decide +kernel
theorem dX5_meanBits_23 : decode cX5_meanBits 23 = .ok (.dconst 0, 1) := by decide +kernel
theorem dX5_meanBits_24 : decode cX5_meanBits 24 = .ok (.goto 13, 3) := by decide +kernel
theorem dX5_meanBits_27 : decode cX5_meanBits 27 = .ok (.aload_n 0, 1) := by decide +kernel
theorem dX5_meanBits_28 : decode cX5_meanBits 28 = .ok (.iload_n 1, 1) := by decide +kernel
theorem dX5_meanBits_29 : decode cX5_meanBits 29 = .ok (.invokevirtual 112, 3) := by decide +kernel
theorem dX5_meanBits_32 : decode cX5_meanBits 32 = .ok (.i2d, 1) := by decide +kernel
theorem dX5_meanBits_33 : decode cX5_meanBits 33 = .ok (.ldc2_w 145, 3) := by decide +kernel
theorem dX5_meanBits_36 : decode cX5_meanBits 36 = .ok (.ddiv, 1) := by decide +kernel
theorem dX5_meanBits_37 : decode cX5_meanBits 37 = .ok (.dreturn, 1) := by decide +kernel
set_option maxRecDepth 20000 in
theorem ggX5_inStepNow_X5_at : GoodIn wsX5_inStepNow wsX5_at := goodIn_r _ [5] (by decide +kernel) (by decide +kernel)
set_option maxRecDepth 20000 in
theorem gX5_inStepNow_X5_at : GoodIn wsX5_inStepNow (va_wsS RX5 19 yX5_at wsX5_at) := goodIn_app (goodIn_of _ (by decide +kernel)) ggX5_inStepNow_X5_at
theorem dX5_inStepNow_0 : decode cX5_inStepNow 0 = .ok (.iconst 1, 1) := by decide +kernel
theorem dX5_inStepNow_1 : decode cX5_inStepNow 1 = .ok (.istore_n 2, 1) := by decide +kernel
theorem dX5_inStepNow_2 : decode cX5_inStepNow 2 = .ok (.iconst 0, 1) := by decide +kernel
theorem dX5_inStepNow_3 : decode cX5_inStepNow 3 = .ok (.istore_n 3, 1) := by decide +kernel
theorem dX5_inStepNow_4 : decode cX5_inStepNow 4 = .ok (.iload_n 3, 1) := by decide +kernel
theorem dX5_inStepNow_5 : decode cX5_inStepNow 5 = .ok (.bipush 16, 2) := by decide +kernel
theorem dX5_inStepNow_7 : decode cX5_inStepNow 7 = .ok (.if_icmp .ge 49, 3) := by decide +kernel
theorem dX5_inStepNow_10 : decode cX5_inStepNow 10 = .ok (.iload_n 2, 1) := by decide +kernel
theorem dX5_inStepNow_11 : decode cX5_inStepNow 11 = .ok (.ifCond .eq 37, 3) := by decide +kernel
theorem dX5_inStepNow_14 : decode cX5_inStepNow 14 = .ok (.aload_n 0, 1) := by decide +kernel
theorem dX5_inStepNow_15 : decode cX5_inStepNow 15 = .ok (.getfield 7, 3) := by decide +kernel
theorem dX5_inStepNow_18 : decode cX5_inStepNow 18 = .ok (.iload_n 1, 1) := by decide +kernel
theorem dX5_inStepNow_19 : decode cX5_inStepNow 19 = .ok (.bipush 49, 2) := by decide +kernel
theorem dX5_inStepNow_21 : decode cX5_inStepNow 21 = .ok (.iload_n 3, 1) := by decide +kernel
theorem dX5_inStepNow_22 : decode cX5_inStepNow 22 = .ok (.iadd, 1) := by decide +kernel
theorem dX5_inStepNow_23 : decode cX5_inStepNow 23 = .ok (.invokestatic 19, 3) := by decide +kernel
theorem dX5_inStepNow_26 : decode cX5_inStepNow 26 = .ok (.laload, 1) := by decide +kernel
theorem dX5_inStepNow_27 : decode cX5_inStepNow 27 = .ok (.aload_n 0, 1) := by decide +kernel
theorem dX5_inStepNow_28 : decode cX5_inStepNow 28 = .ok (.getfield 7, 3) := by decide +kernel
theorem dX5_inStepNow_31 : decode cX5_inStepNow 31 = .ok (.iload_n 1, 1) := by decide +kernel
theorem dX5_inStepNow_32 : decode cX5_inStepNow 32 = .ok (.bipush 65, 2) := by decide +kernel
theorem dX5_inStepNow_34 : decode cX5_inStepNow 34 = .ok (.iload_n 3, 1) := by decide +kernel
theorem dX5_inStepNow_35 : decode cX5_inStepNow 35 = .ok (.iadd, 1) := by decide +kernel
theorem dX5_inStepNow_36 : decode cX5_inStepNow 36 = .ok (.invokestatic 19, 3) := by decide +kernel
theorem dX5_inStepNow_39 : decode cX5_inStepNow 39 = .ok (.laload, 1) := by decide +kernel
theorem dX5_inStepNow_40 : decode cX5_inStepNow 40 = .ok (.lcmp, 1) := by decide +kernel
theorem dX5_inStepNow_41 : decode cX5_inStepNow 41 = .ok (.ifCond .ne 7, 3) := by decide +kernel
theorem dX5_inStepNow_44 : decode cX5_inStepNow 44 = .ok (.iconst 1, 1) := by decide +kernel
theorem dX5_inStepNow_45 : decode cX5_inStepNow 45 = .ok (.goto 4, 3) := by decide +kernel
theorem dX5_inStepNow_48 : decode cX5_inStepNow 48 = .ok (.iconst 0, 1) := by decide +kernel
theorem dX5_inStepNow_49 : decode cX5_inStepNow 49 = .ok (.istore_n 2, 1) := by decide +kernel
theorem dX5_inStepNow_50 : decode cX5_inStepNow 50 = .ok (.iinc 3 1, 3) := by decide +kernel
theorem dX5_inStepNow_53 : decode cX5_inStepNow 53 = .ok (.goto (-49), 3) := by decide +kernel
theorem dX5_inStepNow_56 : decode cX5_inStepNow 56 = .ok (.iload_n 2, 1) := by decide +kernel
theorem dX5_inStepNow_57 : decode cX5_inStepNow 57 = .ok (.ireturn, 1) := by decide +kernel
set_option maxRecDepth 20000 in
theorem ggX5_send_X5_at : GoodIn wsX5_send wsX5_at := goodIn_r _ [5] (by decide +kernel) (by decide +kernel)
set_option maxRecDepth 20000 in
theorem gX5_send_X5_at : GoodIn wsX5_send (va_wsS RX5 19 yX5_at wsX5_at) := goodIn_app (goodIn_of _ (by decide +kernel)) ggX5_send_X5_at
theorem dX5_send_0 : decode cX5_send 0 = .ok (.aload_n 0, 1) := by decide +kernel
theorem dX5_send_1 : decode cX5_send 1 = .ok (.getfield 7, 3) := by decide +kernel
theorem dX5_send_4 : decode cX5_send 4 = .ok (.iload_n 1, 1) := by decide +kernel
theorem dX5_send_5 : decode cX5_send 5 = .ok (.bipush 108, 2) := by decide +kernel
theorem dX5_send_7 : decode cX5_send 7 = .ok (.invokestatic 19, 3) := by decide +kernel
theorem dX5_send_10 : decode cX5_send 10 = .ok (.lconst 1, 1) := by decide +kernel
theorem dX5_send_11 : decode cX5_send 11 = .ok (.lastore, 1) := by decide +kernel
theorem dX5_send_12 : decode cX5_send 12 = .ok (.iconst 0, 1) := by decide +kernel
theorem dX5_send_13 : decode cX5_send 13 = .ok (.istore_n 2, 1) := by decide +kernel
theorem dX5_send_14 : decode cX5_send 14 = .ok (.iload_n 2, 1) := by decide +kernel
theorem dX5_send_15 : decode cX5_send 15 = .ok (.iconst 3, 1) := by decide +kernel
theorem dX5_send_16 : decode cX5_send 16 = .ok (.if_icmp .ge 35, 3) := by decide +kernel
theorem dX5_send_19 : decode cX5_send 19 = .ok (.aload_n 0, 1) := by decide +kernel
theorem dX5_send_20 : decode cX5_send 20 = .ok (.getfield 7, 3) := by decide +kernel
theorem dX5_send_23 : decode cX5_send 23 = .ok (.iload_n 1, 1) := by decide +kernel
theorem dX5_send_24 : decode cX5_send 24 = .ok (.bipush 109, 2) := by decide +kernel
theorem dX5_send_26 : decode cX5_send 26 = .ok (.iload_n 2, 1) := by decide +kernel
theorem dX5_send_27 : decode cX5_send 27 = .ok (.iadd, 1) := by decide +kernel
theorem dX5_send_28 : decode cX5_send 28 = .ok (.invokestatic 19, 3) := by decide +kernel
theorem dX5_send_31 : decode cX5_send 31 = .ok (.aload_n 0, 1) := by decide +kernel
theorem dX5_send_32 : decode cX5_send 32 = .ok (.getfield 7, 3) := by decide +kernel
theorem dX5_send_35 : decode cX5_send 35 = .ok (.iload_n 1, 1) := by decide +kernel
theorem dX5_send_36 : decode cX5_send 36 = .ok (.bipush 98, 2) := by decide +kernel
theorem dX5_send_38 : decode cX5_send 38 = .ok (.iload_n 2, 1) := by decide +kernel
theorem dX5_send_39 : decode cX5_send 39 = .ok (.iadd, 1) := by decide +kernel
theorem dX5_send_40 : decode cX5_send 40 = .ok (.invokestatic 19, 3) := by decide +kernel
theorem dX5_send_43 : decode cX5_send 43 = .ok (.laload, 1) := by decide +kernel
theorem dX5_send_44 : decode cX5_send 44 = .ok (.lastore, 1) := by decide +kernel
theorem dX5_send_45 : decode cX5_send 45 = .ok (.iinc 2 1, 3) := by decide +kernel
theorem dX5_send_48 : decode cX5_send 48 = .ok (.goto (-34), 3) := by decide +kernel
theorem dX5_send_51 : decode cX5_send 51 = .ok (.aload_n 0, 1) := by decide +kernel
theorem dX5_send_52 : decode cX5_send 52 = .ok (.getfield 7, 3) := by decide +kernel
theorem dX5_send_55 : decode cX5_send 55 = .ok (.iload_n 1, 1) := by decide +kernel
theorem dX5_send_56 : decode cX5_send 56 = .ok (.bipush 98, 2) := by decide +kernel
theorem dX5_send_58 : decode cX5_send 58 = .ok (.invokestatic 19, 3) := by decide +kernel
theorem dX5_send_61 : decode cX5_send 61 = .ok (.laload, 1) := by decide +kernel
theorem dX5_send_62 : decode cX5_send 62 = .ok (.l2i, 1) := by decide +kernel
theorem dX5_send_63 : decode cX5_send 63 = .ok (.ireturn, 1) := by decide +kernel
set_option maxRecDepth 20000 in
theorem ggX5_request_X5_toneCheck : GoodIn wsX5_request wsX5_toneCheck := goodIn_r _ [9, 1, 10, 11, 8, 12, 13, 14, 15, 16, 17, 18, 19, 45, 46, 47, 48, 49, 50] (by decide +kernel) (by decide +kernel)
set_option maxRecDepth 20000 in
theorem gX5_request_X5_toneCheck : GoodIn wsX5_request (wsV RX5 136 RX5 yX5_toneCheck wsX5_toneCheck) := goodIn_app (goodIn_of _ (by decide +kernel)) ggX5_request_X5_toneCheck
set_option maxRecDepth 20000 in
theorem ggX5_request_X5_isTone : GoodIn wsX5_request wsX5_isTone := goodIn_r _ [18, 19, 13, 14, 8, 15] (by decide +kernel) (by decide +kernel)
set_option maxRecDepth 20000 in
theorem gX5_request_X5_isTone : GoodIn wsX5_request (va_wsS RX5 60 yX5_isTone wsX5_isTone) := goodIn_app (goodIn_of _ (by decide +kernel)) ggX5_request_X5_isTone
set_option maxRecDepth 20000 in
theorem ggX5_request_X5_at : GoodIn wsX5_request wsX5_at := goodIn_r _ [22] (by decide +kernel) (by decide +kernel)
set_option maxRecDepth 20000 in
theorem gX5_request_X5_at : GoodIn wsX5_request (va_wsS RX5 19 yX5_at wsX5_at) := goodIn_app (goodIn_of _ (by decide +kernel)) ggX5_request_X5_at
set_option maxRecDepth 20000 in
theorem ggX5_request_X5_isBelow : GoodIn wsX5_request wsX5_isBelow := goodIn_r _ [26, 2, 20, 21, 8, 22, 45, 46, 47, 48, 49, 50] (by decide +kernel) (by decide +kernel)
set_option maxRecDepth 20000 in
theorem gX5_request_X5_isBelow : GoodIn wsX5_request (wsV RX5 90 RX5 yX5_isBelow wsX5_isBelow) := goodIn_app (goodIn_of _ (by decide +kernel)) ggX5_request_X5_isBelow
set_option maxRecDepth 20000 in
theorem ggX5_request_X5_inStepNow : GoodIn wsX5_request wsX5_inStepNow := goodIn_r _ [30, 2, 20, 21, 8, 22, 45, 46, 47, 48, 49, 50] (by decide +kernel) (by decide +kernel)
set_option maxRecDepth 20000 in
theorem gX5_request_X5_inStepNow : GoodIn wsX5_request (wsV RX5 147 RX5 yX5_inStepNow wsX5_inStepNow) := goodIn_app (goodIn_of _ (by decide +kernel)) ggX5_request_X5_inStepNow
set_option maxRecDepth 20000 in
theorem ggX5_request_X5_bad : GoodIn wsX5_request wsX5_bad := goodIn_r _ [34, 1, 45, 46, 47, 48, 49, 50] (by decide +kernel) (by decide +kernel)
set_option maxRecDepth 20000 in
theorem gX5_request_X5_bad : GoodIn wsX5_request (wsV RX5 46 RX5 yX5_bad wsX5_bad) := goodIn_app (goodIn_of _ (by decide +kernel)) ggX5_request_X5_bad
set_option maxRecDepth 20000 in
theorem ggX5_request_X5_save : GoodIn wsX5_request wsX5_save := goodIn_r _ [38, 39, 40, 2, 45, 46, 47, 48, 49, 50] (by decide +kernel) (by decide +kernel)
set_option maxRecDepth 20000 in
theorem gX5_request_X5_save : GoodIn wsX5_request (wsV RX5 53 RX5 yX5_save wsX5_save) := goodIn_app (goodIn_of _ (by decide +kernel)) ggX5_request_X5_save
set_option maxRecDepth 20000 in
theorem ggX5_request_X5_send : GoodIn wsX5_request wsX5_send := goodIn_r _ [44, 2, 20, 21, 8, 22, 45, 46, 47, 48, 49, 50] (by decide +kernel) (by decide +kernel)
set_option maxRecDepth 20000 in
theorem gX5_request_X5_send : GoodIn wsX5_request (wsV RX5 152 RX5 yX5_send wsX5_send) := goodIn_app (goodIn_of _ (by decide +kernel)) ggX5_request_X5_send
theorem dX5_request_0 : decode cX5_request 0 = .ok (.aload_n 0, 1) := by decide +kernel
theorem dX5_request_1 : decode cX5_request 1 = .ok (.iload_n 1, 1) := by decide +kernel
theorem dX5_request_2 : decode cX5_request 2 = .ok (.iload_n 2, 1) := by decide +kernel
theorem dX5_request_3 : decode cX5_request 3 = .ok (.invokevirtual 136, 3) := by decide +kernel
theorem dX5_request_6 : decode cX5_request 6 = .ok (.aload_n 0, 1) := by decide +kernel
theorem dX5_request_7 : decode cX5_request 7 = .ok (.aload_n 0, 1) := by decide +kernel
theorem dX5_request_8 : decode cX5_request 8 = .ok (.getfield 33, 3) := by decide +kernel
theorem dX5_request_11 : decode cX5_request 11 = .ok (.ifCond .gt 10, 3) := by decide +kernel
theorem dX5_request_14 : decode cX5_request 14 = .ok (.iload_n 3, 1) := by decide +kernel
theorem dX5_request_15 : decode cX5_request 15 = .ok (.invokestatic 60, 3) := by decide +kernel
theorem dX5_request_18 : decode cX5_request 18 = .ok (.ifCond .ne 7, 3) := by decide +kernel
theorem dX5_request_21 : decode cX5_request 21 = .ok (.iconst 1, 1) := by decide +kernel
theorem dX5_request_22 : decode cX5_request 22 = .ok (.goto 13, 3) := by decide +kernel
theorem dX5_request_25 : decode cX5_request 25 = .ok (.iload_n 2, 1) := by decide +kernel
theorem dX5_request_26 : decode cX5_request 26 = .ok (.iload_n 3, 1) := by decide +kernel
theorem dX5_request_27 : decode cX5_request 27 = .ok (.if_icmp .ne 7, 3) := by decide +kernel
theorem dX5_request_30 : decode cX5_request 30 = .ok (.iconst 2, 1) := by decide +kernel
theorem dX5_request_31 : decode cX5_request 31 = .ok (.goto 4, 3) := by decide +kernel
theorem dX5_request_34 : decode cX5_request 34 = .ok (.iconst 0, 1) := by decide +kernel
theorem dX5_request_35 : decode cX5_request 35 = .ok (.putfield 33, 3) := by decide +kernel
theorem dX5_request_38 : decode cX5_request 38 = .ok (.aload_n 0, 1) := by decide +kernel
theorem dX5_request_39 : decode cX5_request 39 = .ok (.getfield 33, 3) := by decide +kernel
theorem dX5_request_42 : decode cX5_request 42 = .ok (.ifCond .le 5, 3) := by decide +kernel
theorem dX5_request_45 : decode cX5_request 45 = .ok (.iconst 0, 1) := by decide +kernel
theorem dX5_request_46 : decode cX5_request 46 = .ok (.ireturn, 1) := by decide +kernel
theorem dX5_request_47 : decode cX5_request 47 = .ok (.aload_n 0, 1) := by decide +kernel
theorem dX5_request_48 : decode cX5_request 48 = .ok (.getfield 7, 3) := by decide +kernel
theorem dX5_request_51 : decode cX5_request 51 = .ok (.iload_n 1, 1) := by decide +kernel
