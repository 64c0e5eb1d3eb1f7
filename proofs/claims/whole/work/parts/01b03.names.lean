set_option maxRecDepth 20000 in
theorem gX4_loadRate_X4_loadForRate : GoodIn wsX4_loadRate (wsV RX4 81 RX4 yX4_loadForRate wsX4_loadForRate) := goodIn_app (goodIn_of _ (by decide +kernel)) ggX4_loadRate_X4_loadForRate
set_option maxRecDepth 20000 in
theorem ggX4_loadRate_X0_tableBits : GoodIn wsX4_loadRate wsX0_tableBits := goodIn_r _ [134, 42, 143, 144, 145, 146, 147, 148, 149, 150, 151, 152] (by decide +kernel) (by decide +kernel)
set_option maxRecDepth 20000 in
theorem gX4_loadRate_X0_tableBits : GoodIn wsX4_loadRate (wsV RX4 85 RX0 yX0_tableBits wsX0_tableBits) := goodIn_app (goodIn_of _ (by decide +kernel)) ggX4_loadRate_X0_tableBits
theorem dX4_loadRate_0 : decode cX4_loadRate 0 = .ok (.aload_n 0, 1) := by decide +kernel
theorem dX4_loadRate_1 : decode cX4_loadRate 1 = .ok (.iload_n 1, 1) := by decide +kernel
theorem dX4_loadRate_2 : decode cX4_loadRate 2 = .ok (.invokevirtual 34, 3) := by decide +kernel
theorem dX4_loadRate_5 : decode cX4_loadRate 5 = .ok (.astore_n 2, 1) := by decide +kernel
theorem dX4_loadRate_6 : decode cX4_loadRate 6 = .ok (.aload_n 0, 1) := by decide +kernel
theorem dX4_loadRate_7 : decode cX4_loadRate 7 = .ok (.invokevirtual 46, 3) := by decide +kernel
theorem dX4_loadRate_10 : decode cX4_loadRate 10 = .ok (.aload_n 0, 1) := by decide +kernel
theorem dX4_loadRate_11 : decode cX4_loadRate 11 = .ok (.aload_n 2, 1) := by decide +kernel
theorem dX4_loadRate_12 : decode cX4_loadRate 12 = .ok (.aload_n 0, 1) := by decide +kernel
theorem dX4_loadRate_13 : decode cX4_loadRate 13 = .ok (.iload_n 1, 1) := by decide +kernel
theorem dX4_loadRate_14 : decode cX4_loadRate 14 = .ok (.invokevirtual 78, 3) := by decide +kernel
theorem dX4_loadRate_17 : decode cX4_loadRate 17 = .ok (.invokevirtual 81, 3) := by decide +kernel
theorem dX4_loadRate_20 : decode cX4_loadRate 20 = .ok (.pop, 1) := by decide +kernel
theorem dX4_loadRate_21 : decode cX4_loadRate 21 = .ok (.aload_n 2, 1) := by decide +kernel
theorem dX4_loadRate_22 : decode cX4_loadRate 22 = .ok (.invokevirtual 85, 3) := by decide +kernel
theorem dX4_loadRate_25 : decode cX4_loadRate 25 = .ok (.ireturn, 1) := by decide +kernel
set_option maxRecDepth 20000 in
theorem ggX4_loadBits_X4_pairAt : GoodIn wsX4_loadBits wsX4_pairAt := goodIn_ca (goodIn_r _ [8, 9, 10, 11, 12, 13, 137, 138, 139, 140, 141, 142, 143, 144] (by decide +kernel) (by decide +kernel)) (goodIn_sub (fun _ h => List.mem_cons_of_mem _ (List.mem_append_left _ (List.mem_append_right _ h))) (by decide +kernel))
set_option maxRecDepth 20000 in
theorem gX4_loadBits_X4_pairAt : GoodIn wsX4_loadBits (wsV RX4 34 RX4 yX4_pairAt wsX4_pairAt) := goodIn_app (goodIn_of _ (by decide +kernel)) ggX4_loadBits_X4_pairAt
set_option maxRecDepth 20000 in
theorem ggX4_loadBits_X4_checkRange : GoodIn wsX4_loadBits wsX4_checkRange := goodIn_ca (goodIn_r _ [16, 17, 18] (by decide +kernel) (by decide +kernel)) (goodIn_sub (fun _ h => List.mem_cons_of_mem _ (List.mem_append_right _ h)) (by decide +kernel))
set_option maxRecDepth 20000 in
theorem gX4_loadBits_X4_checkRange : GoodIn wsX4_loadBits (va_wsS RX4 42 yX4_checkRange wsX4_checkRange) := goodIn_app (goodIn_of _ (by decide +kernel)) ggX4_loadBits_X4_checkRange
set_option maxRecDepth 20000 in
theorem ggX4_loadBits_X4_otherOf : GoodIn wsX4_loadBits wsX4_otherOf := goodIn_r _ [22, 11, 13, 12, 137, 138, 139, 140, 141, 142, 143, 144] (by decide +kernel) (by decide +kernel)
set_option maxRecDepth 20000 in
theorem gX4_loadBits_X4_otherOf : GoodIn wsX4_loadBits (wsV RX4 78 RX4 yX4_otherOf wsX4_otherOf) := goodIn_app (goodIn_of _ (by decide +kernel)) ggX4_loadBits_X4_otherOf
set_option maxRecDepth 20000 in
theorem ggX4_loadBits_X1_readLine : GoodIn wsX4_loadBits wsX1_readLine := goodIn_r _ [27, 28, 29, 30, 31, 32, 33, 34, 35, 36, 37, 38, 39, 40, 41, 42, 43, 145, 146, 147, 148, 149, 150, 151, 152, 153, 154, 155, 156, 157] (by decide +kernel) (by decide +kernel)
set_option maxRecDepth 20000 in
theorem gX4_loadBits_X1_readLine : GoodIn wsX4_loadBits (wsV RX4 89 RX1 yX1_readLine wsX1_readLine) := goodIn_app (goodIn_of _ (by decide +kernel)) ggX4_loadBits_X1_readLine
set_option maxRecDepth 20000 in
theorem ggX4_loadBits_X1_clearBits : GoodIn wsX4_loadBits wsX1_clearBits := goodIn_r _ [47, 48, 49, 50, 51, 52, 145, 146, 147] (by decide +kernel) (by decide +kernel)
set_option maxRecDepth 20000 in
theorem gX4_loadBits_X1_clearBits : GoodIn wsX4_loadBits (wsV RX4 93 RX1 yX1_clearBits wsX1_clearBits) := goodIn_app (goodIn_of _ (by decide +kernel)) ggX4_loadBits_X1_clearBits
set_option maxRecDepth 20000 in
theorem ggX4_loadBits_X1_fillToTarget : GoodIn wsX4_loadBits wsX1_fillToTarget := goodIn_r _ [56, 48, 57, 58, 59, 26, 60, 30, 61, 62, 63, 64, 28, 145, 146, 147] (by decide +kernel) (by decide +kernel)
set_option maxRecDepth 20000 in
theorem gX4_loadBits_X1_fillToTarget : GoodIn wsX4_loadBits (wsV RX4 96 RX1 yX1_fillToTarget wsX1_fillToTarget) := goodIn_app (goodIn_of _ (by decide +kernel)) ggX4_loadBits_X1_fillToTarget
set_option maxRecDepth 20000 in
theorem ggX4_loadBits_X4_saveState : GoodIn wsX4_loadBits wsX4_saveState := goodIn_r _ [68, 69, 70, 11, 71, 72, 73, 74, 75, 76, 77, 78, 79, 80, 81, 82, 83, 84, 85, 86, 38, 87, 40, 88, 32, 33, 34, 41, 89, 90, 91, 42, 92, 93, 94, 95, 96, 97, 98, 99, 100, 101, 102, 103, 104, 105, 106, 107, 108, 109, 110, 111, 112, 113, 114, 137, 138, 139, 140, 141, 142, 143, 144, 148, 149, 150, 151, 152, 153, 154, 155, 156, 157, 158, 159, 160, 161, 162, 163, 164, 165, 166, 167, 168, 169, 170, 171] (by decide +kernel) (by decide +kernel)
set_option maxRecDepth 20000 in
theorem gX4_loadBits_X4_saveState : GoodIn wsX4_loadBits (wsV RX4 46 RX4 yX4_saveState wsX4_saveState) := goodIn_app (goodIn_of _ (by decide +kernel)) ggX4_loadBits_X4_saveState
set_option maxRecDepth 20000 in
theorem ggX4_loadBits_X1_settle : GoodIn wsX4_loadBits wsX1_settle := goodIn_r _ [118, 48, 28, 119, 120, 121, 122, 123, 124, 7, 125, 126, 127, 128, 129, 130, 131, 99, 132, 101, 102, 107, 108, 111, 112, 145, 146, 147, 148, 149, 150, 151, 152, 153, 154, 155, 156, 157, 158, 159, 160, 161, 162, 163, 164, 165, 166, 167, 168, 169, 170, 171] (by decide +kernel) (by decide +kernel)
set_option maxRecDepth 20000 in
theorem gX4_loadBits_X1_settle : GoodIn wsX4_loadBits (wsV RX4 102 RX1 yX1_settle wsX1_settle) := goodIn_app (goodIn_of _ (by decide +kernel)) ggX4_loadBits_X1_settle
set_option maxRecDepth 20000 in
theorem ggX4_loadBits_X0_energySum : GoodIn wsX4_loadBits wsX0_energySum := goodIn_r _ [136, 42, 148, 149, 150, 151, 152, 153, 154, 155, 156, 157] (by decide +kernel) (by decide +kernel)
set_option maxRecDepth 20000 in
theorem gX4_loadBits_X0_energySum : GoodIn wsX4_loadBits (wsV RX4 106 RX0 yX0_energySum wsX0_energySum) := goodIn_app (goodIn_of _ (by decide +kernel)) ggX4_loadBits_X0_energySum
theorem dX4_loadBits_0 : decode cX4_loadBits 0 = .ok (.aload_n 0, 1) := by decide +kernel
theorem dX4_loadBits_1 : decode cX4_loadBits 1 = .ok (.iload_n 1, 1) := by decide +kernel
theorem dX4_loadBits_2 : decode cX4_loadBits 2 = .ok (.invokevirtual 34, 3) := by decide +kernel
theorem dX4_loadBits_5 : decode cX4_loadBits 5 = .ok (.astore_n 3, 1) := by decide +kernel
theorem dX4_loadBits_6 : decode cX4_loadBits 6 = .ok (.iload_n 2, 1) := by decide +kernel
theorem dX4_loadBits_7 : decode cX4_loadBits 7 = .ok (.iconst 0, 1) := by decide +kernel
theorem dX4_loadBits_8 : decode cX4_loadBits 8 = .ok (.sipush 192, 3) := by decide +kernel
theorem dX4_loadBits_11 : decode cX4_loadBits 11 = .ok (.invokestatic 42, 3) := by decide +kernel
theorem dX4_loadBits_14 : decode cX4_loadBits 14 = .ok (.aload_n 0, 1) := by decide +kernel
theorem dX4_loadBits_15 : decode cX4_loadBits 15 = .ok (.getfield 30, 3) := by decide +kernel
theorem dX4_loadBits_18 : decode cX4_loadBits 18 = .ok (.aload_n 3, 1) := by decide +kernel
theorem dX4_loadBits_19 : decode cX4_loadBits 19 = .ok (.aload_n 0, 1) := by decide +kernel
theorem dX4_loadBits_20 : decode cX4_loadBits 20 = .ok (.iload_n 1, 1) := by decide +kernel
theorem dX4_loadBits_21 : decode cX4_loadBits 21 = .ok (.invokevirtual 78, 3) := by decide +kernel
theorem dX4_loadBits_24 : decode cX4_loadBits 24 = .ok (.invokevirtual 89, 3) := by decide +kernel
theorem dX4_loadBits_27 : decode cX4_loadBits 27 = .ok (.aload_n 0, 1) := by decide +kernel
theorem dX4_loadBits_28 : decode cX4_loadBits 28 = .ok (.getfield 30, 3) := by decide +kernel
theorem dX4_loadBits_31 : decode cX4_loadBits 31 = .ok (.invokevirtual 93, 3) := by decide +kernel
theorem dX4_loadBits_34 : decode cX4_loadBits 34 = .ok (.aload_n 0, 1) := by decide +kernel
theorem dX4_loadBits_35 : decode cX4_loadBits 35 = .ok (.getfield 30, 3) := by decide +kernel
theorem dX4_loadBits_38 : decode cX4_loadBits 38 = .ok (.iload_n 2, 1) := by decide +kernel
theorem dX4_loadBits_39 : decode cX4_loadBits 39 = .ok (.invokevirtual 96, 3) := by decide +kernel
theorem dX4_loadBits_42 : decode cX4_loadBits 42 = .ok (.ifCond .ne 13, 3) := by decide +kernel
theorem dX4_loadBits_45 : decode cX4_loadBits 45 = .ok (.new 64, 3) := by decide +kernel
theorem dX4_loadBits_48 : decode cX4_loadBits 48 = .ok (.dup, 1) := by decide +kernel
theorem dX4_loadBits_49 : decode cX4_loadBits 49 = .ok (.ldc 100, 2) := by decide +kernel
theorem dX4_loadBits_51 : decode cX4_loadBits 51 = .ok (.invokespecial 68, 3) := by decide +kernel
theorem dX4_loadBits_54 : decode cX4_loadBits 54 = .ok (.athrow, 1) := by decide +kernel
theorem dX4_loadBits_55 : decode cX4_loadBits 55 = .ok (.aload_n 0, 1) := by decide +kernel
theorem dX4_loadBits_56 : decode cX4_loadBits 56 = .ok (.invokevirtual 46, 3) := by decide +kernel
theorem dX4_loadBits_59 : decode cX4_loadBits 59 = .ok (.aload_n 0, 1) := by decide +kernel
theorem dX4_loadBits_60 : decode cX4_loadBits 60 = .ok (.getfield 30, 3) := by decide +kernel
theorem dX4_loadBits_63 : decode cX4_loadBits 63 = .ok (.aload_n 3, 1) := by decide +kernel
theorem dX4_loadBits_64 : decode cX4_loadBits 64 = .ok (.invokevirtual 102, 3) := by decide +kernel
theorem dX4_loadBits_67 : decode cX4_loadBits 67 = .ok (.pop, 1) := by decide +kernel
theorem dX4_loadBits_68 : decode cX4_loadBits 68 = .ok (.aload_n 3, 1) := by decide +kernel
theorem dX4_loadBits_69 : decode cX4_loadBits 69 = .ok (.invokevirtual 106, 3) := by decide +kernel
theorem dX4_loadBits_72 : decode cX4_loadBits 72 = .ok (.lreturn, 1) := by decide +kernel
set_option maxRecDepth 20000 in
theorem ggX4_repair_X4_pairAt : GoodIn wsX4_repair wsX4_pairAt := goodIn_ca (goodIn_r _ [6, 7, 8, 9, 10, 11, 134, 135, 136, 137, 138, 139, 140, 141] (by decide +kernel) (by decide +kernel)) (goodIn_sub (fun _ h => List.mem_cons_of_mem _ (List.mem_append_right _ h)) (by decide +kernel))
set_option maxRecDepth 20000 in
theorem gX4_repair_X4_pairAt : GoodIn wsX4_repair (wsV RX4 34 RX4 yX4_pairAt wsX4_pairAt) := goodIn_app (goodIn_of _ (by decide +kernel)) ggX4_repair_X4_pairAt
set_option maxRecDepth 20000 in
theorem ggX4_repair_X4_saveState : GoodIn wsX4_repair wsX4_saveState := goodIn_r _ [15, 16, 17, 9, 18, 19, 20, 21, 22, 23, 24, 25, 26, 27, 28, 29, 30, 31, 32, 33, 34, 35, 36, 37, 38, 39, 40, 41, 42, 43, 44, 45, 46, 47, 48, 49, 50, 51, 52, 53, 54, 55, 56, 57, 58, 59, 60, 61, 62, 63, 64, 65, 66, 67, 68, 134, 135, 136, 137, 138, 139, 140, 141, 142, 143, 144, 145, 146, 147, 148, 149, 150, 151, 152, 153, 154, 155, 156, 157, 158, 159, 160, 161, 162, 163, 164, 165] (by decide +kernel) (by decide +kernel)
set_option maxRecDepth 20000 in
theorem gX4_repair_X4_saveState : GoodIn wsX4_repair (wsV RX4 46 RX4 yX4_saveState wsX4_saveState) := goodIn_app (goodIn_of _ (by decide +kernel)) ggX4_repair_X4_saveState
set_option maxRecDepth 20000 in
theorem ggX4_repair_X4_otherOf : GoodIn wsX4_repair wsX4_otherOf := goodIn_r _ [72, 9, 11, 10, 134, 135, 136, 137, 138, 139, 140, 141] (by decide +kernel) (by decide +kernel)
set_option maxRecDepth 20000 in
theorem gX4_repair_X4_otherOf : GoodIn wsX4_repair (wsV RX4 78 RX4 yX4_otherOf wsX4_otherOf) := goodIn_app (goodIn_of _ (by decide +kernel)) ggX4_repair_X4_otherOf
set_option maxRecDepth 20000 in
theorem ggX4_repair_X1_readTable : GoodIn wsX4_repair wsX1_readTable := goodIn_r _ [77, 78, 79, 80, 38, 39, 40, 81, 82, 83, 76, 84, 85, 86, 87, 88, 89, 90, 34, 91, 36, 41, 45, 92, 142, 143, 144, 145, 146, 147, 148, 149, 150, 151, 166, 167, 168] (by decide +kernel) (by decide +kernel)
set_option maxRecDepth 20000 in
theorem gX4_repair_X1_readTable : GoodIn wsX4_repair (wsV RX4 110 RX1 yX1_readTable wsX1_readTable) := goodIn_app (goodIn_of _ (by decide +kernel)) ggX4_repair_X1_readTable
set_option maxRecDepth 20000 in
theorem ggX4_repair_X1_makeEfficient : GoodIn wsX4_repair wsX1_makeEfficient := goodIn_r _ [96, 79, 97, 98, 99, 76, 100, 101, 102, 103, 104, 85, 105, 106, 107, 108, 87, 109, 110, 111, 112, 113, 114, 115, 116, 166, 167, 168] (by decide +kernel) (by decide +kernel)
set_option maxRecDepth 20000 in
theorem gX4_repair_X1_makeEfficient : GoodIn wsX4_repair (wsV RX4 113 RX1 yX1_makeEfficient wsX1_makeEfficient) := goodIn_app (goodIn_of _ (by decide +kernel)) ggX4_repair_X1_makeEfficient
set_option maxRecDepth 20000 in
theorem ggX4_repair_X1_settle : GoodIn wsX4_repair wsX1_settle := goodIn_r _ [120, 79, 85, 78, 121, 122, 123, 124, 125, 5, 126, 127, 128, 129, 130, 131, 132, 53, 133, 55, 56, 61, 62, 65, 66, 166, 167, 168, 142, 143, 144, 145, 146, 147, 148, 149, 150, 151, 152, 153, 154, 155, 156, 157, 158, 159, 160, 161, 162, 163, 164, 165] (by decide +kernel) (by decide +kernel)
set_option maxRecDepth 20000 in
theorem gX4_repair_X1_settle : GoodIn wsX4_repair (wsV RX4 102 RX1 yX1_settle wsX1_settle) := goodIn_app (goodIn_of _ (by decide +kernel)) ggX4_repair_X1_settle
theorem dX4_repair_0 : decode cX4_repair 0 = .ok (.aload_n 0, 1) := by decide +kernel
theorem dX4_repair_1 : decode cX4_repair 1 = .ok (.iload_n 1, 1) := by decide +kernel
theorem dX4_repair_2 : decode cX4_repair 2 = .ok (.invokevirtual 34, 3) := by decide +kernel
theorem dX4_repair_5 : decode cX4_repair 5 = .ok (.astore_n 2, 1) := by decide +kernel
theorem dX4_repair_6 : decode cX4_repair 6 = .ok (.aload_n 0, 1) := by decide +kernel
theorem dX4_repair_7 : decode cX4_repair 7 = .ok (.invokevirtual 46, 3) := by decide +kernel
theorem dX4_repair_10 : decode cX4_repair 10 = .ok (.aload_n 0, 1) := by decide +kernel
theorem dX4_repair_11 : decode cX4_repair 11 = .ok (.getfield 30, 3) := by decide +kernel
theorem dX4_repair_14 : decode cX4_repair 14 = .ok (.aload_n 2, 1) := by decide +kernel
theorem dX4_repair_15 : decode cX4_repair 15 = .ok (.aload_n 0, 1) := by decide +kernel
theorem dX4_repair_16 : decode cX4_repair 16 = .ok (.iload_n 1, 1) := by decide +kernel
theorem dX4_repair_17 : decode cX4_repair 17 = .ok (.invokevirtual 78, 3) := by decide +kernel
theorem dX4_repair_20 : decode cX4_repair 20 = .ok (.invokevirtual 110, 3) := by decide +kernel
theorem dX4_repair_23 : decode cX4_repair 23 = .ok (.aload_n 0, 1) := by decide +kernel
theorem dX4_repair_24 : decode cX4_repair 24 = .ok (.getfield 30, 3) := by decide +kernel
theorem dX4_repair_27 : decode cX4_repair 27 = .ok (.invokevirtual 113, 3) := by decide +kernel
theorem dX4_repair_30 : decode cX4_repair 30 = .ok (.istore_n 3, 1) := by decide +kernel
theorem dX4_repair_31 : decode cX4_repair 31 = .ok (.aload_n 0, 1) := by decide +kernel
theorem dX4_repair_32 : decode cX4_repair 32 = .ok (.getfield 30, 3) := by decide +kernel
theorem dX4_repair_35 : decode cX4_repair 35 = .ok (.aload_n 2, 1) := by decide +kernel
theorem dX4_repair_36 : decode cX4_repair 36 = .ok (.invokevirtual 102, 3) := by decide +kernel
theorem dX4_repair_39 : decode cX4_repair 39 = .ok (.pop, 1) := by decide +kernel
theorem dX4_repair_40 : decode cX4_repair 40 = .ok (.iload_n 3, 1) := by decide +kernel
theorem dX4_repair_41 : decode cX4_repair 41 = .ok (.ireturn, 1) := by decide +kernel
set_option maxRecDepth 20000 in
theorem ggX4_balance_X4_checkRange : GoodIn wsX4_balance wsX4_checkRange := goodIn_ca (goodIn_r _ [7, 8, 9] (by decide +kernel) (by decide +kernel)) (goodIn_sub (fun _ h => List.mem_cons_of_mem _ (List.mem_append_right _ h)) (by decide +kernel))
set_option maxRecDepth 20000 in
theorem gX4_balance_X4_checkRange : GoodIn wsX4_balance (va_wsS RX4 42 yX4_checkRange wsX4_checkRange) := goodIn_app (goodIn_of _ (by decide +kernel)) ggX4_balance_X4_checkRange
set_option maxRecDepth 20000 in
theorem ggX4_balance_X4_saveState : GoodIn wsX4_balance wsX4_saveState := goodIn_r _ [13, 14, 15, 1, 16, 17, 18, 19, 20, 21, 22, 23, 24, 25, 26, 27, 28, 29, 30, 31, 32, 33, 34, 35, 36, 37, 38, 39, 40, 41, 42, 43, 44, 45, 46, 47, 48, 49, 50, 51, 52, 53, 54, 55, 56, 57, 58, 59, 60, 61, 62, 63, 64, 65, 66, 126, 127, 128, 129, 130, 131, 132, 133, 134, 135, 136, 137, 138, 139, 140, 141, 142, 143, 144, 145, 146, 147, 148, 149, 150, 151, 152, 153, 154, 155, 156, 157] (by decide +kernel) (by decide +kernel)
set_option maxRecDepth 20000 in
theorem gX4_balance_X4_saveState : GoodIn wsX4_balance (wsV RX4 46 RX4 yX4_saveState wsX4_saveState) := goodIn_app (goodIn_of _ (by decide +kernel)) ggX4_balance_X4_saveState
set_option maxRecDepth 20000 in
theorem ggX4_balance_X4_loadForRate : GoodIn wsX4_balance wsX4_loadForRate := goodIn_r _ [70, 71, 72, 73, 74, 75, 76, 77, 78, 79, 80, 81, 36, 37, 38, 82, 83, 84, 32, 85, 34, 39, 43, 86, 87, 88, 89, 90, 91, 92, 93, 94, 95, 96, 97, 98, 99, 100, 101, 102, 103, 104, 105, 106, 107, 108, 109, 110, 111, 112, 113, 114, 115, 116, 117, 6, 118, 119, 120, 121, 122, 123, 124, 51, 125, 53, 54, 59, 60, 63, 64, 126, 127, 128, 129, 130, 134, 135, 136, 137, 138, 139, 140, 141, 142, 143, 158, 159, 160, 144, 145, 146, 147, 148, 149, 150, 151, 152, 153, 154, 155, 156, 157] (by decide +kernel) (by decide +kernel)
set_option maxRecDepth 20000 in
theorem gX4_balance_X4_loadForRate : GoodIn wsX4_balance (wsV RX4 81 RX4 yX4_loadForRate wsX4_loadForRate) := goodIn_app (goodIn_of _ (by decide +kernel)) ggX4_balance_X4_loadForRate
theorem dX4_balance_0 : decode cX4_balance 0 = .ok (.iload_n 1, 1) := by decide +kernel
theorem dX4_balance_1 : decode cX4_balance 1 = .ok (.iconst 1, 1) := by decide +kernel
theorem dX4_balance_2 : decode cX4_balance 2 = .ok (.bipush 20, 2) := by decide +kernel
theorem dX4_balance_4 : decode cX4_balance 4 = .ok (.invokestatic 42, 3) := by decide +kernel
theorem dX4_balance_7 : decode cX4_balance 7 = .ok (.aload_n 0, 1) := by decide +kernel
theorem dX4_balance_8 : decode cX4_balance 8 = .ok (.invokevirtual 46, 3) := by decide +kernel
theorem dX4_balance_11 : decode cX4_balance 11 = .ok (.iconst 0, 1) := by decide +kernel
theorem dX4_balance_12 : decode cX4_balance 12 = .ok (.istore_n 2, 1) := by decide +kernel
theorem dX4_balance_13 : decode cX4_balance 13 = .ok (.iconst 1, 1) := by decide +kernel
theorem dX4_balance_14 : decode cX4_balance 14 = .ok (.istore_n 3, 1) := by decide +kernel
theorem dX4_balance_15 : decode cX4_balance 15 = .ok (.iload_n 3, 1) := by decide +kernel
theorem dX4_balance_16 : decode cX4_balance 16 = .ok (.ifCond .eq 70, 3) := by decide +kernel
theorem dX4_balance_19 : decode cX4_balance 19 = .ok (.iload_n 2, 1) := by decide +kernel
theorem dX4_balance_20 : decode cX4_balance 20 = .ok (.iload_n 1, 1) := by decide +kernel
theorem dX4_balance_21 : decode cX4_balance 21 = .ok (.if_icmp .ge 65, 3) := by decide +kernel
theorem dX4_balance_24 : decode cX4_balance 24 = .ok (.aload_n 0, 1) := by decide +kernel
theorem dX4_balance_25 : decode cX4_balance 25 = .ok (.aload_n 0, 1) := by decide +kernel
theorem dX4_balance_26 : decode cX4_balance 26 = .ok (.getfield 12, 3) := by decide +kernel
theorem dX4_balance_29 : decode cX4_balance 29 = .ok (.getfield 116, 3) := by decide +kernel
theorem dX4_balance_32 : decode cX4_balance 32 = .ok (.aload_n 0, 1) := by decide +kernel
theorem dX4_balance_33 : decode cX4_balance 33 = .ok (.getfield 12, 3) := by decide +kernel
theorem dX4_balance_36 : decode cX4_balance 36 = .ok (.getfield 120, 3) := by decide +kernel
theorem dX4_balance_39 : decode cX4_balance 39 = .ok (.invokevirtual 81, 3) := by decide +kernel
theorem dX4_balance_42 : decode cX4_balance 42 = .ok (.istore 4, 2) := by decide +kernel
theorem dX4_balance_44 : decode cX4_balance 44 = .ok (.aload_n 0, 1) := by decide +kernel
theorem dX4_balance_45 : decode cX4_balance 45 = .ok (.aload_n 0, 1) := by decide +kernel
theorem dX4_balance_46 : decode cX4_balance 46 = .ok (.getfield 12, 3) := by decide +kernel
theorem dX4_balance_49 : decode cX4_balance 49 = .ok (.getfield 120, 3) := by decide +kernel
theorem dX4_balance_52 : decode cX4_balance 52 = .ok (.aload_n 0, 1) := by decide +kernel
theorem dX4_balance_53 : decode cX4_balance 53 = .ok (.getfield 12, 3) := by decide +kernel
theorem dX4_balance_56 : decode cX4_balance 56 = .ok (.getfield 116, 3) := by decide +kernel
theorem dX4_balance_59 : decode cX4_balance 59 = .ok (.invokevirtual 81, 3) := by decide +kernel
theorem dX4_balance_62 : decode cX4_balance 62 = .ok (.istore 5, 2) := by decide +kernel
theorem dX4_balance_64 : decode cX4_balance 64 = .ok (.iload 4, 2) := by decide +kernel
theorem dX4_balance_66 : decode cX4_balance 66 = .ok (.ifCond .ne 8, 3) := by decide +kernel
theorem dX4_balance_69 : decode cX4_balance 69 = .ok (.iload 5, 2) := by decide +kernel
theorem dX4_balance_71 : decode cX4_balance 71 = .ok (.ifCond .eq 7, 3) := by decide +kernel
theorem dX4_balance_74 : decode cX4_balance 74 = .ok (.iconst 1, 1) := by decide +kernel
theorem dX4_balance_75 : decode cX4_balance 75 = .ok (.goto 4, 3) := by decide +kernel
theorem dX4_balance_78 : decode cX4_balance 78 = .ok (.iconst 0, 1) := by decide +kernel
theorem dX4_balance_79 : decode cX4_balance 79 = .ok (.istore_n 3, 1) := by decide +kernel
theorem dX4_balance_80 : decode cX4_balance 80 = .ok (.iinc 2 1, 3) := by decide +kernel
theorem dX4_balance_83 : decode cX4_balance 83 = .ok (.goto (-68), 3) := by decide +kernel
theorem dX4_balance_86 : decode cX4_balance 86 = .ok (.iload_n 2, 1) := by decide +kernel
theorem dX4_balance_87 : decode cX4_balance 87 = .ok (.ireturn, 1) := by decide +kernel
set_option maxRecDepth 20000 in
theorem ggX4_bits_X4_pairAt : GoodIn wsX4_bits wsX4_pairAt := goodIn_ca (goodIn_r _ [7, 8, 9, 10, 11, 12, 34, 35, 36, 37, 38, 39, 40, 41] (by decide +kernel) (by decide +kernel)) (goodIn_sub (fun _ h => List.mem_cons_of_mem _ (List.mem_append_left _ (List.mem_append_right _ h))) (by decide +kernel))
set_option maxRecDepth 20000 in
theorem gX4_bits_X4_pairAt : GoodIn wsX4_bits (wsV RX4 34 RX4 yX4_pairAt wsX4_pairAt) := goodIn_app (goodIn_of _ (by decide +kernel)) ggX4_bits_X4_pairAt
set_option maxRecDepth 20000 in
theorem ggX4_bits_X4_checkTone : GoodIn wsX4_bits wsX4_checkTone := goodIn_ca (goodIn_r _ [15, 8, 9, 16, 17, 6, 18] (by decide +kernel) (by decide +kernel)) (goodIn_sub (fun _ h => List.mem_cons_of_mem _ (List.mem_append_left _ (List.mem_append_right _ h))) (by decide +kernel))
set_option maxRecDepth 20000 in
theorem gX4_bits_X4_checkTone : GoodIn wsX4_bits (va_wsS RX4 38 yX4_checkTone wsX4_checkTone) := goodIn_app (goodIn_of _ (by decide +kernel)) ggX4_bits_X4_checkTone
set_option maxRecDepth 20000 in
theorem ggX4_bits_X4_checkRange : GoodIn wsX4_bits wsX4_checkRange := goodIn_ca (goodIn_r _ [21, 22, 23] (by decide +kernel) (by decide +kernel)) (goodIn_sub (fun _ h => List.mem_cons_of_mem _ (List.mem_append_right _ h)) (by decide +kernel))
set_option maxRecDepth 20000 in
theorem gX4_bits_X4_checkRange : GoodIn wsX4_bits (va_wsS RX4 42 yX4_checkRange wsX4_checkRange) := goodIn_app (goodIn_of _ (by decide +kernel)) ggX4_bits_X4_checkRange
theorem dX4_bits_0 : decode cX4_bits 0 = .ok (.aload_n 0, 1) := by decide +kernel
theorem dX4_bits_1 : decode cX4_bits 1 = .ok (.iload_n 1, 1) := by decide +kernel
theorem dX4_bits_2 : decode cX4_bits 2 = .ok (.invokevirtual 34, 3) := by decide +kernel
theorem dX4_bits_5 : decode cX4_bits 5 = .ok (.astore 4, 2) := by decide +kernel
theorem dX4_bits_7 : decode cX4_bits 7 = .ok (.iload_n 2, 1) := by decide +kernel
theorem dX4_bits_8 : decode cX4_bits 8 = .ok (.invokestatic 38, 3) := by decide +kernel
theorem dX4_bits_11 : decode cX4_bits 11 = .ok (.iload_n 3, 1) := by decide +kernel
theorem dX4_bits_12 : decode cX4_bits 12 = .ok (.iconst 0, 1) := by decide +kernel
theorem dX4_bits_13 : decode cX4_bits 13 = .ok (.iconst 1, 1) := by decide +kernel
theorem dX4_bits_14 : decode cX4_bits 14 = .ok (.invokestatic 42, 3) := by decide +kernel
theorem dX4_bits_17 : decode cX4_bits 17 = .ok (.iload_n 3, 1) := by decide +kernel
theorem dX4_bits_18 : decode cX4_bits 18 = .ok (.ifCond .ne 13, 3) := by decide +kernel
theorem dX4_bits_21 : decode cX4_bits 21 = .ok (.aload 4, 2) := by decide +kernel
theorem dX4_bits_23 : decode cX4_bits 23 = .ok (.getfield 58, 3) := by decide +kernel
theorem dX4_bits_26 : decode cX4_bits 26 = .ok (.iload_n 2, 1) := by decide +kernel
theorem dX4_bits_27 : decode cX4_bits 27 = .ok (.iaload, 1) := by decide +kernel
theorem dX4_bits_28 : decode cX4_bits 28 = .ok (.goto 10, 3) := by decide +kernel
theorem dX4_bits_31 : decode cX4_bits 31 = .ok (.aload 4, 2) := by decide +kernel
theorem dX4_bits_33 : decode cX4_bits 33 = .ok (.getfield 61, 3) := by decide +kernel
theorem dX4_bits_36 : decode cX4_bits 36 = .ok (.iload_n 2, 1) := by decide +kernel
theorem dX4_bits_37 : decode cX4_bits 37 = .ok (.iaload, 1) := by decide +kernel
theorem dX4_bits_38 : decode cX4_bits 38 = .ok (.ireturn, 1) := by decide +kernel
set_option maxRecDepth 20000 in
theorem ggX4_rate_X4_pairAt : GoodIn wsX4_rate wsX4_pairAt := goodIn_ca (goodIn_r _ [5, 6, 7, 8, 9, 10, 17, 18, 19, 20, 21, 22, 23, 24] (by decide +kernel) (by decide +kernel)) (goodIn_sub (fun _ h => List.mem_cons_of_mem _ (List.mem_append_right _ h)) (by decide +kernel))
set_option maxRecDepth 20000 in
theorem gX4_rate_X4_pairAt : GoodIn wsX4_rate (wsV RX4 34 RX4 yX4_pairAt wsX4_pairAt) := goodIn_app (goodIn_of _ (by decide +kernel)) ggX4_rate_X4_pairAt
set_option maxRecDepth 20000 in
theorem ggX4_rate_X0_tableBits : GoodIn wsX4_rate wsX0_tableBits := goodIn_r _ [15, 16, 25, 26, 27, 28, 29, 30, 31, 32, 33, 34] (by decide +kernel) (by decide +kernel)
set_option maxRecDepth 20000 in
theorem gX4_rate_X0_tableBits : GoodIn wsX4_rate (wsV RX4 85 RX0 yX0_tableBits wsX0_tableBits) := goodIn_app (goodIn_of _ (by decide +kernel)) ggX4_rate_X0_tableBits
theorem dX4_rate_0 : decode cX4_rate 0 = .ok (.aload_n 0, 1) := by decide +kernel
theorem dX4_rate_1 : decode cX4_rate 1 = .ok (.iload_n 1, 1) := by decide +kernel
theorem dX4_rate_2 : decode cX4_rate 2 = .ok (.invokevirtual 34, 3) := by decide +kernel
theorem dX4_rate_5 : decode cX4_rate 5 = .ok (.invokevirtual 85, 3) := by decide +kernel
theorem dX4_rate_8 : decode cX4_rate 8 = .ok (.ireturn, 1) := by decide +kernel
set_option maxRecDepth 20000 in
theorem ggX4_energy_X4_pairAt : GoodIn wsX4_energy wsX4_pairAt := goodIn_ca (goodIn_r _ [6, 7, 8, 9, 10, 11, 28, 29, 30, 31, 32, 33, 34, 35] (by decide +kernel) (by decide +kernel)) (goodIn_sub (fun _ h => List.mem_cons_of_mem _ (List.mem_append_right _ h)) (by decide +kernel))
set_option maxRecDepth 20000 in
theorem gX4_energy_X4_pairAt : GoodIn wsX4_energy (wsV RX4 34 RX4 yX4_pairAt wsX4_pairAt) := goodIn_app (goodIn_of _ (by decide +kernel)) ggX4_energy_X4_pairAt
set_option maxRecDepth 20000 in
theorem ggX4_energy_X4_checkTone : GoodIn wsX4_energy wsX4_checkTone := goodIn_ca (goodIn_r _ [14, 7, 8, 15, 16, 5, 17] (by decide +kernel) (by decide +kernel)) (goodIn_sub (fun _ h => List.mem_cons_of_mem _ (List.mem_append_right _ h)) (by decide +kernel))
set_option maxRecDepth 20000 in
theorem gX4_energy_X4_checkTone : GoodIn wsX4_energy (va_wsS RX4 38 yX4_checkTone wsX4_checkTone) := goodIn_app (goodIn_of _ (by decide +kernel)) ggX4_energy_X4_checkTone
theorem dX4_energy_0 : decode cX4_energy 0 = .ok (.aload_n 0, 1) := by decide +kernel
theorem dX4_energy_1 : decode cX4_energy 1 = .ok (.iload_n 1, 1) := by decide +kernel
theorem dX4_energy_2 : decode cX4_energy 2 = .ok (.invokevirtual 34, 3) := by decide +kernel
theorem dX4_energy_5 : decode cX4_energy 5 = .ok (.astore_n 3, 1) := by decide +kernel
theorem dX4_energy_6 : decode cX4_energy 6 = .ok (.iload_n 2, 1) := by decide +kernel
theorem dX4_energy_7 : decode cX4_energy 7 = .ok (.invokestatic 38, 3) := by decide +kernel
theorem dX4_energy_10 : decode cX4_energy 10 = .ok (.aload_n 3, 1) := by decide +kernel
theorem dX4_energy_11 : decode cX4_energy 11 = .ok (.getfield 123, 3) := by decide +kernel
theorem dX4_energy_14 : decode cX4_energy 14 = .ok (.iload_n 2, 1) := by decide +kernel
theorem dX4_energy_15 : decode cX4_energy 15 = .ok (.laload, 1) := by decide +kernel
theorem dX4_energy_16 : decode cX4_energy 16 = .ok (.lreturn, 1) := by decide +kernel
set_option maxRecDepth 20000 in
theorem ggX4_totalEnergy_X4_pairAt : GoodIn wsX4_totalEnergy wsX4_pairAt := goodIn_ca (goodIn_r _ [5, 6, 7, 8, 9, 10, 17, 18, 19, 20, 21, 22, 23, 24] (by decide +kernel) (by decide +kernel)) (goodIn_sub (fun _ h => List.mem_cons_of_mem _ (List.mem_append_right _ h)) (by decide +kernel))
set_option maxRecDepth 20000 in
theorem gX4_totalEnergy_X4_pairAt : GoodIn wsX4_totalEnergy (wsV RX4 34 RX4 yX4_pairAt wsX4_pairAt) := goodIn_app (goodIn_of _ (by decide +kernel)) ggX4_totalEnergy_X4_pairAt
set_option maxRecDepth 20000 in
theorem ggX4_totalEnergy_X0_energySum : GoodIn wsX4_totalEnergy wsX0_energySum := goodIn_r _ [15, 16, 25, 26, 27, 28, 29, 30, 31, 32, 33, 34] (by decide +kernel) (by decide +kernel)
set_option maxRecDepth 20000 in
theorem gX4_totalEnergy_X0_energySum : GoodIn wsX4_totalEnergy (wsV RX4 106 RX0 yX0_energySum wsX0_energySum) := goodIn_app (goodIn_of _ (by decide +kernel)) ggX4_totalEnergy_X0_energySum
theorem dX4_totalEnergy_0 : decode cX4_totalEnergy 0 = .ok (.aload_n 0, 1) := by decide +kernel
theorem dX4_totalEnergy_1 : decode cX4_totalEnergy 1 = .ok (.iload_n 1, 1) := by decide +kernel
theorem dX4_totalEnergy_2 : decode cX4_totalEnergy 2 = .ok (.invokevirtual 34, 3) := by decide +kernel
theorem dX4_totalEnergy_5 : decode cX4_totalEnergy 5 = .ok (.invokevirtual 106, 3) := by decide +kernel
theorem dX4_totalEnergy_8 : decode cX4_totalEnergy 8 = .ok (.lreturn, 1) := by decide +kernel
set_option maxRecDepth 20000 in
theorem ggX4_disturbedNoise_X4_pairAt : GoodIn wsX4_disturbedNoise wsX4_pairAt := goodIn_ca (goodIn_r _ [5, 6, 7, 8, 9, 10, 30, 31, 32, 33, 34, 35, 36, 37] (by decide +kernel) (by decide +kernel)) (goodIn_sub (fun _ h => List.mem_cons_of_mem _ (List.mem_append_right _ h)) (by decide +kernel))
set_option maxRecDepth 20000 in
theorem gX4_disturbedNoise_X4_pairAt : GoodIn wsX4_disturbedNoise (wsV RX4 34 RX4 yX4_pairAt wsX4_pairAt) := goodIn_app (goodIn_of _ (by decide +kernel)) ggX4_disturbedNoise_X4_pairAt
set_option maxRecDepth 20000 in
theorem ggX4_disturbedNoise_X4_checkTone : GoodIn wsX4_disturbedNoise wsX4_checkTone := goodIn_ca (goodIn_r _ [13, 6, 7, 14, 15, 4, 16] (by decide +kernel) (by decide +kernel)) (goodIn_sub (fun _ h => List.mem_cons_of_mem _ (List.mem_append_right _ h)) (by decide +kernel))
set_option maxRecDepth 20000 in
theorem gX4_disturbedNoise_X4_checkTone : GoodIn wsX4_disturbedNoise (va_wsS RX4 38 yX4_checkTone wsX4_checkTone) := goodIn_app (goodIn_of _ (by decide +kernel)) ggX4_disturbedNoise_X4_checkTone
set_option maxRecDepth 20000 in
theorem ggX4_disturbedNoise_X4_otherOf : GoodIn wsX4_disturbedNoise wsX4_otherOf := goodIn_r _ [20, 8, 10, 9, 30, 31, 32, 33, 34, 35, 36, 37] (by decide +kernel) (by decide +kernel)
set_option maxRecDepth 20000 in
theorem gX4_disturbedNoise_X4_otherOf : GoodIn wsX4_disturbedNoise (wsV RX4 78 RX4 yX4_otherOf wsX4_otherOf) := goodIn_app (goodIn_of _ (by decide +kernel)) ggX4_disturbedNoise_X4_otherOf
set_option maxRecDepth 20000 in
theorem ggX4_disturbedNoise_X0_noiseBeside : GoodIn wsX4_disturbedNoise wsX0_noiseBeside := goodIn_r _ [25, 26, 27, 28, 29, 38, 39, 40, 41, 42, 43, 44, 45, 46, 47] (by decide +kernel) (by decide +kernel)
set_option maxRecDepth 20000 in
theorem gX4_disturbedNoise_X0_noiseBeside : GoodIn wsX4_disturbedNoise (wsV RX4 127 RX0 yX0_noiseBeside wsX0_noiseBeside) := goodIn_app (goodIn_of _ (by decide +kernel)) ggX4_disturbedNoise_X0_noiseBeside
theorem dX4_disturbedNoise_0 : decode cX4_disturbedNoise 0 = .ok (.aload_n 0, 1) := by decide +kernel
theorem dX4_disturbedNoise_1 : decode cX4_disturbedNoise 1 = .ok (.iload_n 1, 1) := by decide +kernel
theorem dX4_disturbedNoise_2 : decode cX4_disturbedNoise 2 = .ok (.invokevirtual 34, 3) := by decide +kernel
theorem dX4_disturbedNoise_5 : decode cX4_disturbedNoise 5 = .ok (.astore_n 3, 1) := by decide +kernel
theorem dX4_disturbedNoise_6 : decode cX4_disturbedNoise 6 = .ok (.iload_n 2, 1) := by decide +kernel
theorem dX4_disturbedNoise_7 : decode cX4_disturbedNoise 7 = .ok (.invokestatic 38, 3) := by decide +kernel
theorem dX4_disturbedNoise_10 : decode cX4_disturbedNoise 10 = .ok (.aload_n 3, 1) := by decide +kernel
theorem dX4_disturbedNoise_11 : decode cX4_disturbedNoise 11 = .ok (.aload_n 0, 1) := by decide +kernel
theorem dX4_disturbedNoise_12 : decode cX4_disturbedNoise 12 = .ok (.iload_n 1, 1) := by decide +kernel
theorem dX4_disturbedNoise_13 : decode cX4_disturbedNoise 13 = .ok (.invokevirtual 78, 3) := by decide +kernel
theorem dX4_disturbedNoise_16 : decode cX4_disturbedNoise 16 = .ok (.iload_n 2, 1) := by decide +kernel
theorem dX4_disturbedNoise_17 : decode cX4_disturbedNoise 17 = .ok (.invokevirtual 127, 3) := by decide +kernel
theorem dX4_disturbedNoise_20 : decode cX4_disturbedNoise 20 = .ok (.lreturn, 1) := by decide +kernel
set_option maxRecDepth 20000 in
theorem ggX4_margin_X4_pairAt : GoodIn wsX4_margin wsX4_pairAt := goodIn_ca (goodIn_r _ [5, 6, 7, 8, 9, 10, 43, 44, 45, 46, 47, 48, 49, 50] (by decide +kernel) (by decide +kernel)) (goodIn_sub (fun _ h => List.mem_cons_of_mem _ (List.mem_append_right _ h)) (by decide +kernel))
set_option maxRecDepth 20000 in
theorem gX4_margin_X4_pairAt : GoodIn wsX4_margin (wsV RX4 34 RX4 yX4_pairAt wsX4_pairAt) := goodIn_app (goodIn_of _ (by decide +kernel)) ggX4_margin_X4_pairAt
set_option maxRecDepth 20000 in
theorem ggX4_margin_X4_checkTone : GoodIn wsX4_margin wsX4_checkTone := goodIn_ca (goodIn_r _ [13, 6, 7, 14, 15, 4, 16] (by decide +kernel) (by decide +kernel)) (goodIn_sub (fun _ h => List.mem_cons_of_mem _ (List.mem_append_right _ h)) (by decide +kernel))
set_option maxRecDepth 20000 in
theorem gX4_margin_X4_checkTone : GoodIn wsX4_margin (va_wsS RX4 38 yX4_checkTone wsX4_checkTone) := goodIn_app (goodIn_of _ (by decide +kernel)) ggX4_margin_X4_checkTone
set_option maxRecDepth 20000 in
theorem ggX4_margin_X4_otherOf : GoodIn wsX4_margin wsX4_otherOf := goodIn_r _ [20, 8, 10, 9, 43, 44, 45, 46, 47, 48, 49, 50] (by decide +kernel) (by decide +kernel)
set_option maxRecDepth 20000 in
theorem gX4_margin_X4_otherOf : GoodIn wsX4_margin (wsV RX4 78 RX4 yX4_otherOf wsX4_otherOf) := goodIn_app (goodIn_of _ (by decide +kernel)) ggX4_margin_X4_otherOf
set_option maxRecDepth 20000 in
theorem ggX4_margin_X0_marginBeside : GoodIn wsX4_margin wsX0_marginBeside := goodIn_r _ [25, 26, 27, 28, 29, 30, 31, 24, 32, 33, 34, 35, 36, 37, 38, 39, 40, 41, 4, 42, 51, 52, 53, 54, 55, 56, 57, 58, 59, 60] (by decide +kernel) (by decide +kernel)
set_option maxRecDepth 20000 in
theorem gX4_margin_X0_marginBeside : GoodIn wsX4_margin (wsV RX4 131 RX0 yX0_marginBeside wsX0_marginBeside) := goodIn_app (goodIn_of _ (by decide +kernel)) ggX4_margin_X0_marginBeside
theorem dX4_margin_0 : decode cX4_margin 0 = .ok (.aload_n 0, 1) := by decide +kernel
theorem dX4_margin_1 : decode cX4_margin 1 = .ok (.iload_n 1, 1) := by decide +kernel
theorem dX4_margin_2 : decode cX4_margin 2 = .ok (.invokevirtual 34, 3) := by decide +kernel
theorem dX4_margin_5 : decode cX4_margin 5 = .ok (.astore_n 3, 1) := by decide +kernel
theorem dX4_margin_6 : decode cX4_margin 6 = .ok (.iload_n 2, 1) := by decide +kernel
theorem dX4_margin_7 : decode cX4_margin 7 = .ok (.invokestatic 38, 3) := by decide +kernel
theorem dX4_margin_10 : decode cX4_margin 10 = .ok (.aload_n 3, 1) := by decide +kernel
theorem dX4_margin_11 : decode cX4_margin 11 = .ok (.aload_n 0, 1) := by decide +kernel
theorem dX4_margin_12 : decode cX4_margin 12 = .ok (.iload_n 1, 1) := by decide +kernel
theorem dX4_margin_13 : decode cX4_margin 13 = .ok (.invokevirtual 78, 3) := by decide +kernel
theorem dX4_margin_16 : decode cX4_margin 16 = .ok (.iload_n 2, 1) := by decide +kernel
theorem dX4_margin_17 : decode cX4_margin 17 = .ok (.invokevirtual 131, 3) := by decide +kernel
theorem dX4_margin_20 : decode cX4_margin 20 = .ok (.lreturn, 1) := by decide +kernel
set_option maxRecDepth 20000 in
theorem ggX4_leastMargin_X4_pairAt : GoodIn wsX4_leastMargin wsX4_pairAt := goodIn_ca (goodIn_r _ [6, 7, 8, 9, 10, 11, 43, 44, 45, 46, 47, 48, 49, 50] (by decide +kernel) (by decide +kernel)) (goodIn_sub (fun _ h => List.mem_cons_of_mem _ (List.mem_append_right _ h)) (by decide +kernel))
set_option maxRecDepth 20000 in
theorem gX4_leastMargin_X4_pairAt : GoodIn wsX4_leastMargin (wsV RX4 34 RX4 yX4_pairAt wsX4_pairAt) := goodIn_app (goodIn_of _ (by decide +kernel)) ggX4_leastMargin_X4_pairAt
set_option maxRecDepth 20000 in
theorem ggX4_leastMargin_X4_otherOf : GoodIn wsX4_leastMargin wsX4_otherOf := goodIn_r _ [15, 9, 11, 10, 43, 44, 45, 46, 47, 48, 49, 50] (by decide +kernel) (by decide +kernel)
set_option maxRecDepth 20000 in
theorem gX4_leastMargin_X4_otherOf : GoodIn wsX4_leastMargin (wsV RX4 78 RX4 yX4_otherOf wsX4_otherOf) := goodIn_app (goodIn_of _ (by decide +kernel)) ggX4_leastMargin_X4_otherOf
set_option maxRecDepth 20000 in
theorem ggX4_leastMargin_X0_weakestTone : GoodIn wsX4_leastMargin wsX0_weakestTone := goodIn_r _ [20, 21, 22, 23, 24, 19, 25, 26, 27, 28, 29, 30, 31, 32, 33, 34, 35, 36, 37, 38, 39, 40, 5, 41, 51, 52, 53, 54, 55, 56, 57, 58, 59, 60] (by decide +kernel) (by decide +kernel)
set_option maxRecDepth 20000 in
theorem gX4_leastMargin_X0_weakestTone : GoodIn wsX4_leastMargin (wsV RX4 134 RX0 yX0_weakestTone wsX0_weakestTone) := goodIn_app (goodIn_of _ (by decide +kernel)) ggX4_leastMargin_X0_weakestTone
set_option maxRecDepth 20000 in
theorem ggX4_leastMargin_X0_marginBeside : GoodIn wsX4_leastMargin wsX0_marginBeside := goodIn_r _ [25, 21, 26, 27, 28, 29, 30, 19, 31, 32, 33, 34, 35, 36, 37, 38, 39, 40, 5, 41, 51, 52, 53, 54, 55, 56, 57, 58, 59, 60] (by decide +kernel) (by decide +kernel)
set_option maxRecDepth 20000 in
theorem gX4_leastMargin_X0_marginBeside : GoodIn wsX4_leastMargin (wsV RX4 131 RX0 yX0_marginBeside wsX0_marginBeside) := goodIn_app (goodIn_of _ (by decide +kernel)) ggX4_leastMargin_X0_marginBeside
theorem dX4_leastMargin_0 : decode cX4_leastMargin 0 = .ok (.aload_n 0, 1) := by decide +kernel
theorem dX4_leastMargin_1 : decode cX4_leastMargin 1 = .ok (.iload_n 1, 1) := by decide +kernel
theorem dX4_leastMargin_2 : decode cX4_leastMargin 2 = .ok (.invokevirtual 34, 3) := by decide +kernel
theorem dX4_leastMargin_5 : decode cX4_leastMargin 5 = .ok (.astore_n 2, 1) := by decide +kernel
theorem dX4_leastMargin_6 : decode cX4_leastMargin 6 = .ok (.aload_n 0, 1) := by decide +kernel
theorem dX4_leastMargin_7 : decode cX4_leastMargin 7 = .ok (.iload_n 1, 1) := by decide +kernel
theorem dX4_leastMargin_8 : decode cX4_leastMargin 8 = .ok (.invokevirtual 78, 3) := by decide +kernel
theorem dX4_leastMargin_11 : decode cX4_leastMargin 11 = .ok (.astore_n 3, 1) := by decide +kernel
theorem dX4_leastMargin_12 : decode cX4_leastMargin 12 = .ok (.aload_n 2, 1) := by decide +kernel
theorem dX4_leastMargin_13 : decode cX4_leastMargin 13 = .ok (.aload_n 3, 1) := by decide +kernel
theorem dX4_leastMargin_14 : decode cX4_leastMargin 14 = .ok (.invokevirtual 134, 3) := by decide +kernel
theorem dX4_leastMargin_17 : decode cX4_leastMargin 17 = .ok (.istore 4, 2) := by decide +kernel
theorem dX4_leastMargin_19 : decode cX4_leastMargin 19 = .ok (.iload 4, 2) := by decide +kernel
theorem dX4_leastMargin_21 : decode cX4_leastMargin 21 = .ok (.ifCond .ge 9, 3) := by decide +kernel
theorem dX4_leastMargin_24 : decode cX4_leastMargin 24 = .ok (.ldc2_w 138, 3) := by decide +kernel
theorem dX4_leastMargin_27 : decode cX4_leastMargin 27 = .ok (.goto 10, 3) := by decide +kernel
theorem dX4_leastMargin_30 : decode cX4_leastMargin 30 = .ok (.aload_n 2, 1) := by decide +kernel
theorem dX4_leastMargin_31 : decode cX4_leastMargin 31 = .ok (.aload_n 3, 1) := by decide +kernel
theorem dX4_leastMargin_32 : decode cX4_leastMargin 32 = .ok (.iload 4, 2) := by decide +kernel
theorem dX4_leastMargin_34 : decode cX4_leastMargin 34 = .ok (.invokevirtual 131, 3) := by decide +kernel
theorem dX4_leastMargin_37 : decode cX4_leastMargin 37 = .ok (.lreturn, 1) := by decide +kernel
set_option maxRecDepth 20000 in
theorem ggX4_badTones_X4_pairAt : GoodIn wsX4_badTones wsX4_pairAt := goodIn_ca (goodIn_r _ [7, 8, 9, 10, 11, 12, 39, 40, 41, 42, 43, 44, 45, 46] (by decide +kernel) (by decide +kernel)) (goodIn_sub (fun _ h => List.mem_cons_of_mem _ (List.mem_append_right _ h)) (by decide +kernel))
set_option maxRecDepth 20000 in
theorem gX4_badTones_X4_pairAt : GoodIn wsX4_badTones (wsV RX4 34 RX4 yX4_pairAt wsX4_pairAt) := goodIn_app (goodIn_of _ (by decide +kernel)) ggX4_badTones_X4_pairAt
set_option maxRecDepth 20000 in
theorem ggX4_badTones_X4_otherOf : GoodIn wsX4_badTones wsX4_otherOf := goodIn_r _ [16, 10, 12, 11, 39, 40, 41, 42, 43, 44, 45, 46] (by decide +kernel) (by decide +kernel)
set_option maxRecDepth 20000 in
theorem gX4_badTones_X4_otherOf : GoodIn wsX4_badTones (wsV RX4 78 RX4 yX4_otherOf wsX4_otherOf) := goodIn_app (goodIn_of _ (by decide +kernel)) ggX4_badTones_X4_otherOf
set_option maxRecDepth 20000 in
theorem ggX4_badTones_X0_marginBeside : GoodIn wsX4_badTones wsX0_marginBeside := goodIn_r _ [21, 22, 23, 24, 25, 26, 27, 20, 28, 29, 30, 31, 32, 33, 34, 35, 36, 37, 6, 38, 47, 48, 49, 50, 51, 52, 53, 54, 55, 56] (by decide +kernel) (by decide +kernel)
set_option maxRecDepth 20000 in
theorem gX4_badTones_X0_marginBeside : GoodIn wsX4_badTones (wsV RX4 131 RX0 yX0_marginBeside wsX0_marginBeside) := goodIn_app (goodIn_of _ (by decide +kernel)) ggX4_badTones_X0_marginBeside
theorem dX4_badTones_0 : decode cX4_badTones 0 = .ok (.aload_n 0, 1) := by decide +kernel
theorem dX4_badTones_1 : decode cX4_badTones 1 = .ok (.iload_n 1, 1) := by decide +kernel
theorem dX4_badTones_2 : decode cX4_badTones 2 = .ok (.invokevirtual 34, 3) := by decide +kernel
theorem dX4_badTones_5 : decode cX4_badTones 5 = .ok (.astore_n 2, 1) := by decide +kernel
theorem dX4_badTones_6 : decode cX4_badTones 6 = .ok (.aload_n 0, 1) := by decide +kernel
theorem dX4_badTones_7 : decode cX4_badTones 7 = .ok (.iload_n 1, 1) := by decide +kernel
theorem dX4_badTones_8 : decode cX4_badTones 8 = .ok (.invokevirtual 78, 3) := by decide +kernel
theorem dX4_badTones_11 : decode cX4_badTones 11 = .ok (.astore_n 3, 1) := by decide +kernel
theorem dX4_badTones_12 : decode cX4_badTones 12 = .ok (.iconst 0, 1) := by decide +kernel
theorem dX4_badTones_13 : decode cX4_badTones 13 = .ok (.istore 4, 2) := by decide +kernel
theorem dX4_badTones_15 : decode cX4_badTones 15 = .ok (.iconst 0, 1) := by decide +kernel
theorem dX4_badTones_16 : decode cX4_badTones 16 = .ok (.istore 5, 2) := by decide +kernel
theorem dX4_badTones_18 : decode cX4_badTones 18 = .ok (.iload 5, 2) := by decide +kernel
theorem dX4_badTones_20 : decode cX4_badTones 20 = .ok (.bipush 16, 2) := by decide +kernel
theorem dX4_badTones_22 : decode cX4_badTones 22 = .ok (.if_icmp .ge 45, 3) := by decide +kernel
theorem dX4_badTones_25 : decode cX4_badTones 25 = .ok (.aload_n 2, 1) := by decide +kernel
theorem dX4_badTones_26 : decode cX4_badTones 26 = .ok (.aload_n 3, 1) := by decide +kernel
theorem dX4_badTones_27 : decode cX4_badTones 27 = .ok (.iload 5, 2) := by decide +kernel
theorem dX4_badTones_29 : decode cX4_badTones 29 = .ok (.invokevirtual 131, 3) := by decide +kernel
theorem dX4_badTones_32 : decode cX4_badTones 32 = .ok (.lstore 6, 2) := by decide +kernel
theorem dX4_badTones_34 : decode cX4_badTones 34 = .ok (.lload 6, 2) := by decide +kernel
theorem dX4_badTones_36 : decode cX4_badTones 36 = .ok (.ldc2_w 138, 3) := by decide +kernel
theorem dX4_badTones_39 : decode cX4_badTones 39 = .ok (.lcmp, 1) := by decide +kernel
theorem dX4_badTones_40 : decode cX4_badTones 40 = .ok (.ifCond .eq 21, 3) := by decide +kernel
theorem dX4_badTones_43 : decode cX4_badTones 43 = .ok (.lload 6, 2) := by decide +kernel
theorem dX4_badTones_45 : decode cX4_badTones 45 = .ok (.ldc2_w 140, 3) := by decide +kernel
theorem dX4_badTones_48 : decode cX4_badTones 48 = .ok (.lcmp, 1) := by decide +kernel
theorem dX4_badTones_49 : decode cX4_badTones 49 = .ok (.ifCond .ge 12, 3) := by decide +kernel
theorem dX4_badTones_52 : decode cX4_badTones 52 = .ok (.iload 4, 2) := by decide +kernel
theorem dX4_badTones_54 : decode cX4_badTones 54 = .ok (.iconst 1, 1) := by decide +kernel
theorem dX4_badTones_55 : decode cX4_badTones 55 = .ok (.iload 5, 2) := by decide +kernel
theorem dX4_badTones_57 : decode cX4_badTones 57 = .ok (.ishl, 1) := by decide +kernel
theorem dX4_badTones_58 : decode cX4_badTones 58 = .ok (.ior, 1) := by decide +kernel
theorem dX4_badTones_59 : decode cX4_badTones 59 = .ok (.istore 4, 2) := by decide +kernel
theorem dX4_badTones_61 : decode cX4_badTones 61 = .ok (.iinc 5 1, 3) := by decide +kernel
theorem dX4_badTones_64 : decode cX4_badTones 64 = .ok (.goto (-46), 3) := by decide +kernel
theorem dX4_badTones_67 : decode cX4_badTones 67 = .ok (.iload 4, 2) := by decide +kernel
theorem dX4_badTones_69 : decode cX4_badTones 69 = .ok (.ireturn, 1) := by decide +kernel
set_option maxRecDepth 20000 in
theorem ggX4_isEfficient_X4_pairAt : GoodIn wsX4_isEfficient wsX4_pairAt := goodIn_ca (goodIn_r _ [5, 6, 7, 8, 9, 10, 67, 68, 69, 70, 71, 72, 73, 74] (by decide +kernel) (by decide +kernel)) (goodIn_sub (fun _ h => List.mem_cons_of_mem _ (List.mem_append_right _ h)) (by decide +kernel))
set_option maxRecDepth 20000 in
theorem gX4_isEfficient_X4_pairAt : GoodIn wsX4_isEfficient (wsV RX4 34 RX4 yX4_pairAt wsX4_pairAt) := goodIn_app (goodIn_of _ (by decide +kernel)) ggX4_isEfficient_X4_pairAt
set_option maxRecDepth 20000 in
theorem ggX4_isEfficient_X4_otherOf : GoodIn wsX4_isEfficient wsX4_otherOf := goodIn_r _ [14, 8, 10, 9, 67, 68, 69, 70, 71, 72, 73, 74] (by decide +kernel) (by decide +kernel)
set_option maxRecDepth 20000 in
theorem gX4_isEfficient_X4_otherOf : GoodIn wsX4_isEfficient (wsV RX4 78 RX4 yX4_otherOf wsX4_otherOf) := goodIn_app (goodIn_of _ (by decide +kernel)) ggX4_isEfficient_X4_otherOf
set_option maxRecDepth 20000 in
theorem ggX4_isEfficient_X4_efficient : GoodIn wsX4_isEfficient wsX4_efficient := goodIn_r _ [18, 19, 20, 21, 22, 23, 24, 25, 26, 27, 28, 29, 30, 31, 32, 33, 34, 35, 36, 37, 38, 39, 40, 41, 42, 43, 44, 45, 46, 47, 48, 49, 50, 51, 52, 53, 54, 55, 56, 57, 58, 59, 60, 61, 62, 63, 64, 65, 66, 67, 68, 69, 70, 71, 75, 76, 77, 78, 79, 80, 81, 82, 83, 84, 85, 86, 87] (by decide +kernel) (by decide +kernel)
set_option maxRecDepth 20000 in
theorem gX4_isEfficient_X4_efficient : GoodIn wsX4_isEfficient (wsV RX4 142 RX4 yX4_efficient wsX4_efficient) := goodIn_app (goodIn_of _ (by decide +kernel)) ggX4_isEfficient_X4_efficient
theorem dX4_isEfficient_0 : decode cX4_isEfficient 0 = .ok (.aload_n 0, 1) := by decide +kernel
theorem dX4_isEfficient_1 : decode cX4_isEfficient 1 = .ok (.iload_n 1, 1) := by decide +kernel
theorem dX4_isEfficient_2 : decode cX4_isEfficient 2 = .ok (.invokevirtual 34, 3) := by decide +kernel
theorem dX4_isEfficient_5 : decode cX4_isEfficient 5 = .ok (.astore_n 2, 1) := by decide +kernel
theorem dX4_isEfficient_6 : decode cX4_isEfficient 6 = .ok (.aload_n 0, 1) := by decide +kernel
theorem dX4_isEfficient_7 : decode cX4_isEfficient 7 = .ok (.aload_n 2, 1) := by decide +kernel
theorem dX4_isEfficient_8 : decode cX4_isEfficient 8 = .ok (.aload_n 0, 1) := by decide +kernel
theorem dX4_isEfficient_9 : decode cX4_isEfficient 9 = .ok (.iload_n 1, 1) := by decide +kernel
theorem dX4_isEfficient_10 : decode cX4_isEfficient 10 = .ok (.invokevirtual 78, 3) := by decide +kernel
theorem dX4_isEfficient_13 : decode cX4_isEfficient 13 = .ok (.invokevirtual 142, 3) := by decide +kernel
theorem dX4_isEfficient_16 : decode cX4_isEfficient 16 = .ok (.ireturn, 1) := by decide +kernel
set_option maxRecDepth 20000 in
theorem ggX4_meanBits_X4_pairAt : GoodIn wsX4_meanBits wsX4_pairAt := goodIn_ca (goodIn_r _ [6, 7, 8, 9, 10, 11, 18, 19, 20, 21, 22, 23, 24, 25] (by decide +kernel) (by decide +kernel)) (goodIn_sub (fun _ h => List.mem_cons_of_mem _ (List.mem_append_right _ h)) (by decide +kernel))
set_option maxRecDepth 20000 in
theorem gX4_meanBits_X4_pairAt : GoodIn wsX4_meanBits (wsV RX4 34 RX4 yX4_pairAt wsX4_pairAt) := goodIn_app (goodIn_of _ (by decide +kernel)) ggX4_meanBits_X4_pairAt
set_option maxRecDepth 20000 in
theorem ggX4_meanBits_X0_tableBits : GoodIn wsX4_meanBits wsX0_tableBits := goodIn_r _ [16, 17, 26, 27, 28, 29, 30, 31, 32, 33, 34, 35] (by decide +kernel) (by decide +kernel)
set_option maxRecDepth 20000 in
theorem gX4_meanBits_X0_tableBits : GoodIn wsX4_meanBits (wsV RX4 85 RX0 yX0_tableBits wsX0_tableBits) := goodIn_app (goodIn_of _ (by decide +kernel)) ggX4_meanBits_X0_tableBits
theorem dX4_meanBits_0 : decode cX4_meanBits 0 = .ok (.aload_n 0, 1) := by decide +kernel
theorem dX4_meanBits_1 : decode cX4_meanBits 1 = .ok (.iload_n 1, 1) := by decide +kernel
theorem dX4_meanBits_2 : decode cX4_meanBits 2 = .ok (.invokevirtual 34, 3) := by decide +kernel
theorem dX4_meanBits_5 : decode cX4_meanBits 5 = .ok (.invokevirtual 85, 3) := by decide +kernel
theorem dX4_meanBits_8 : decode cX4_meanBits 8 = .ok (.i2d, 1) := by decide +kernel
theorem dX4_meanBits_9 : decode cX4_meanBits 9 = .ok (.ldc2_w 145, 3) := by decide +kernel
theorem dX4_meanBits_12 : decode cX4_meanBits 12 = .ok (.ddiv, 1) := by decide +kernel
theorem dX4_meanBits_13 : decode cX4_meanBits 13 = .ok (.dreturn, 1) := by decide +kernel
set_option maxRecDepth 20000 in
theorem ggX4_request_X4_pairAt : GoodIn wsX4_request wsX4_pairAt := goodIn_ca (goodIn_r _ [14, 15, 16, 17, 18, 19, 112, 113, 114, 115, 116, 117, 118, 119] (by decide +kernel) (by decide +kernel)) (goodIn_sub (fun _ h => List.mem_cons_of_mem _ (List.mem_append_right _ h)) (by decide +kernel))
set_option maxRecDepth 20000 in
theorem gX4_request_X4_pairAt : GoodIn wsX4_request (wsV RX4 34 RX4 yX4_pairAt wsX4_pairAt) := goodIn_app (goodIn_of _ (by decide +kernel)) ggX4_request_X4_pairAt
set_option maxRecDepth 20000 in
theorem ggX4_request_X4_checkTone : GoodIn wsX4_request wsX4_checkTone := goodIn_ca (goodIn_r _ [22, 15, 16, 23, 24, 13, 25] (by decide +kernel) (by decide +kernel)) (goodIn_sub (fun _ h => List.mem_cons_of_mem _ (List.mem_append_right _ h)) (by decide +kernel))
set_option maxRecDepth 20000 in
theorem gX4_request_X4_checkTone : GoodIn wsX4_request (va_wsS RX4 38 yX4_checkTone wsX4_checkTone) := goodIn_app (goodIn_of _ (by decide +kernel)) ggX4_request_X4_checkTone
set_option maxRecDepth 20000 in
theorem ggX4_request_X4_saveState : GoodIn wsX4_request wsX4_saveState := goodIn_r _ [29, 30, 31, 17, 32, 33, 34, 35, 36, 37, 38, 39, 40, 41, 42, 43, 44, 45, 46, 47, 48, 49, 50, 51, 52, 53, 54, 55, 56, 57, 58, 59, 60, 61, 62, 63, 64, 65, 66, 67, 68, 69, 70, 71, 72, 73, 74, 75, 76, 77, 78, 79, 80, 81, 82, 112, 113, 114, 115, 116, 117, 118, 119, 88, 89, 90, 91, 92, 93, 94, 95, 96, 97, 98, 99, 100, 101, 102, 103, 104, 105, 106, 107, 108, 109, 110, 111] (by decide +kernel) (by decide +kernel)
set_option maxRecDepth 20000 in
theorem gX4_request_X4_saveState : GoodIn wsX4_request (wsV RX4 46 RX4 yX4_saveState wsX4_saveState) := goodIn_app (goodIn_of _ (by decide +kernel)) ggX4_request_X4_saveState
set_option maxRecDepth 20000 in
theorem ggX4_request_X3_openRequest : GoodIn wsX4_request wsX3_openRequest := goodIn_r _ [86, 70, 69, 71, 72, 73, 74, 75, 87, 34, 35, 36, 98, 99, 100, 101, 102, 103, 104, 105, 106, 107, 108, 109, 110, 111] (by decide +kernel) (by decide +kernel)
set_option maxRecDepth 20000 in
theorem gX4_request_X3_openRequest : GoodIn wsX4_request (wsV RX4 169 RX3 yX3_openRequest wsX3_openRequest) := goodIn_app (goodIn_of _ (by decide +kernel)) ggX4_request_X3_openRequest
theorem dX4_request_0 : decode cX4_request 0 = .ok (.aload_n 0, 1) := by decide +kernel
theorem dX4_request_1 : decode cX4_request 1 = .ok (.iload_n 1, 1) := by decide +kernel
theorem dX4_request_2 : decode cX4_request 2 = .ok (.invokevirtual 34, 3) := by decide +kernel
theorem dX4_request_5 : decode cX4_request 5 = .ok (.astore 4, 2) := by decide +kernel
theorem dX4_request_7 : decode cX4_request 7 = .ok (.iload_n 2, 1) := by decide +kernel
theorem dX4_request_8 : decode cX4_request 8 = .ok (.invokestatic 38, 3) := by decide +kernel
theorem dX4_request_11 : decode cX4_request 11 = .ok (.iload_n 3, 1) := by decide +kernel
theorem dX4_request_12 : decode cX4_request 12 = .ok (.invokestatic 38, 3) := by decide +kernel
theorem dX4_request_15 : decode cX4_request 15 = .ok (.iload_n 2, 1) := by decide +kernel
theorem dX4_request_16 : decode cX4_request 16 = .ok (.iload_n 3, 1) := by decide +kernel
theorem dX4_request_17 : decode cX4_request 17 = .ok (.if_icmp .ne 13, 3) := by decide +kernel
theorem dX4_request_20 : decode cX4_request 20 = .ok (.new 147, 3) := by decide +kernel
theorem dX4_request_23 : decode cX4_request 23 = .ok (.dup, 1) := by decide +kernel
theorem dX4_request_24 : decode cX4_request 24 = .ok (.ldc 149, 2) := by decide +kernel
theorem dX4_request_26 : decode cX4_request 26 = .ok (.invokespecial 151, 3) := by decide +kernel
theorem dX4_request_29 : decode cX4_request 29 = .ok (.athrow, 1) := by decide +kernel
theorem dX4_request_30 : decode cX4_request 30 = .ok (.aload 4, 2) := by decide +kernel
theorem dX4_request_32 : decode cX4_request 32 = .ok (.getfield 152, 3) := by decide +kernel
theorem dX4_request_35 : decode cX4_request 35 = .ok (.getfield 156, 3) := by decide +kernel
theorem dX4_request_38 : decode cX4_request 38 = .ok (.ifCond .ne 11, 3) := by decide +kernel
theorem dX4_request_41 : decode cX4_request 41 = .ok (.aload 4, 2) := by decide +kernel
theorem dX4_request_43 : decode cX4_request 43 = .ok (.getfield 162, 3) := by decide +kernel
theorem dX4_request_46 : decode cX4_request 46 = .ok (.ifCond .eq 13, 3) := by decide +kernel
theorem dX4_request_49 : decode cX4_request 49 = .ok (.new 64, 3) := by decide +kernel
theorem dX4_request_52 : decode cX4_request 52 = .ok (.dup, 1) := by decide +kernel
theorem dX4_request_53 : decode cX4_request 53 = .ok (.ldc 165, 2) := by decide +kernel
theorem dX4_request_55 : decode cX4_request 55 = .ok (.invokespecial 68, 3) := by decide +kernel
theorem dX4_request_58 : decode cX4_request 58 = .ok (.athrow, 1) := by decide +kernel
theorem dX4_request_59 : decode cX4_request 59 = .ok (.aload 4, 2) := by decide +kernel
theorem dX4_request_61 : decode cX4_request 61 = .ok (.getfield 58, 3) := by decide +kernel
theorem dX4_request_64 : decode cX4_request 64 = .ok (.iload_n 2, 1) := by decide +kernel
theorem dX4_request_65 : decode cX4_request 65 = .ok (.iaload, 1) := by decide +kernel
theorem dX4_request_66 : decode cX4_request 66 = .ok (.iconst 1, 1) := by decide +kernel
theorem dX4_request_67 : decode cX4_request 67 = .ok (.if_icmp .lt 20, 3) := by decide +kernel
theorem dX4_request_70 : decode cX4_request 70 = .ok (.aload 4, 2) := by decide +kernel
theorem dX4_request_72 : decode cX4_request 72 = .ok (.getfield 58, 3) := by decide +kernel
theorem dX4_request_75 : decode cX4_request 75 = .ok (.iload_n 3, 1) := by decide +kernel
theorem dX4_request_76 : decode cX4_request 76 = .ok (.iaload, 1) := by decide +kernel
theorem dX4_request_77 : decode cX4_request 77 = .ok (.aload 4, 2) := by decide +kernel
theorem dX4_request_79 : decode cX4_request 79 = .ok (.getfield 71, 3) := by decide +kernel
theorem dX4_request_82 : decode cX4_request 82 = .ok (.iload_n 3, 1) := by decide +kernel
theorem dX4_request_83 : decode cX4_request 83 = .ok (.iaload, 1) := by decide +kernel
theorem dX4_request_84 : decode cX4_request 84 = .ok (.if_icmp .lt 13, 3) := by decide +kernel
theorem dX4_request_87 : decode cX4_request 87 = .ok (.new 64, 3) := by decide +kernel
theorem dX4_request_90 : decode cX4_request 90 = .ok (.dup, 1) := by decide +kernel
theorem dX4_request_91 : decode cX4_request 91 = .ok (.ldc 167, 2) := by decide +kernel
theorem dX4_request_93 : decode cX4_request 93 = .ok (.invokespecial 68, 3) := by decide +kernel
theorem dX4_request_96 : decode cX4_request 96 = .ok (.athrow, 1) := by decide +kernel
theorem dX4_request_97 : decode cX4_request 97 = .ok (.aload_n 0, 1) := by decide +kernel
theorem dX4_request_98 : decode cX4_request 98 = .ok (.invokevirtual 46, 3) := by decide +kernel
theorem dX4_request_101 : decode cX4_request 101 = .ok (.aload 4, 2) := by decide +kernel
theorem dX4_request_103 : decode cX4_request 103 = .ok (.getfield 152, 3) := by decide +kernel
theorem dX4_request_106 : decode cX4_request 106 = .ok (.iload_n 2, 1) := by decide +kernel
theorem dX4_request_107 : decode cX4_request 107 = .ok (.iload_n 3, 1) := by decide +kernel
theorem dX4_request_108 : decode cX4_request 108 = .ok (.invokevirtual 169, 3) := by decide +kernel
theorem dX4_request_111 : decode cX4_request 111 = .ok (.ireturn, 1) := by decide +kernel
set_option maxRecDepth 20000 in
theorem ggX4_suggest_X4_pairAt : GoodIn wsX4_suggest wsX4_pairAt := goodIn_ca (goodIn_r _ [6, 7, 8, 9, 10, 11, 69, 70, 71, 72, 73, 74, 75, 76] (by decide +kernel) (by decide +kernel)) (goodIn_sub (fun _ h => List.mem_cons_of_mem _ (List.mem_append_right _ h)) (by decide +kernel))
set_option maxRecDepth 20000 in
theorem gX4_suggest_X4_pairAt : GoodIn wsX4_suggest (wsV RX4 34 RX4 yX4_pairAt wsX4_pairAt) := goodIn_app (goodIn_of _ (by decide +kernel)) ggX4_suggest_X4_pairAt
set_option maxRecDepth 20000 in
theorem ggX4_suggest_X4_otherOf : GoodIn wsX4_suggest wsX4_otherOf := goodIn_r _ [15, 9, 11, 10, 69, 70, 71, 72, 73, 74, 75, 76] (by decide +kernel) (by decide +kernel)
set_option maxRecDepth 20000 in
theorem gX4_suggest_X4_otherOf : GoodIn wsX4_suggest (wsV RX4 78 RX4 yX4_otherOf wsX4_otherOf) := goodIn_app (goodIn_of _ (by decide +kernel)) ggX4_suggest_X4_otherOf
set_option maxRecDepth 20000 in
theorem ggX4_suggest_X0_weakestTone : GoodIn wsX4_suggest wsX0_weakestTone := goodIn_r _ [20, 21, 22, 23, 24, 19, 25, 26, 27, 28, 29, 30, 31, 32, 33, 34, 35, 36, 37, 38, 39, 40, 5, 41, 77, 78, 79, 80, 81, 82, 83, 84, 85, 86] (by decide +kernel) (by decide +kernel)
set_option maxRecDepth 20000 in
theorem gX4_suggest_X0_weakestTone : GoodIn wsX4_suggest (wsV RX4 134 RX0 yX0_weakestTone wsX0_weakestTone) := goodIn_app (goodIn_of _ (by decide +kernel)) ggX4_suggest_X0_weakestTone
set_option maxRecDepth 20000 in
theorem ggX4_suggest_X1_readTable : GoodIn wsX4_suggest wsX1_readTable := goodIn_r _ [46, 47, 48, 49, 50, 51, 52, 53, 54, 55, 45, 56, 57, 58, 59, 60, 34, 35, 19, 36, 37, 38, 27, 39, 77, 78, 79, 80, 81, 82, 83, 84, 85, 86, 87, 88, 89] (by decide +kernel) (by decide +kernel)
set_option maxRecDepth 20000 in
theorem gX4_suggest_X1_readTable : GoodIn wsX4_suggest (wsV RX4 110 RX1 yX1_readTable wsX1_readTable) := goodIn_app (goodIn_of _ (by decide +kernel)) ggX4_suggest_X1_readTable
set_option maxRecDepth 20000 in
theorem ggX4_suggest_X1_cheapestTone : GoodIn wsX4_suggest wsX1_cheapestTone := goodIn_r _ [64, 48, 59, 65, 66, 67, 45, 68, 57, 87, 88, 89] (by decide +kernel) (by decide +kernel)
set_option maxRecDepth 20000 in
theorem gX4_suggest_X1_cheapestTone : GoodIn wsX4_suggest (wsV RX4 173 RX1 yX1_cheapestTone wsX1_cheapestTone) := goodIn_app (goodIn_of _ (by decide +kernel)) ggX4_suggest_X1_cheapestTone
theorem dX4_suggest_0 : decode cX4_suggest 0 = .ok (.aload_n 0, 1) := by decide +kernel
theorem dX4_suggest_1 : decode cX4_suggest 1 = .ok (.iload_n 1, 1) := by decide +kernel
theorem dX4_suggest_2 : decode cX4_suggest 2 = .ok (.invokevirtual 34, 3) := by decide +kernel
theorem dX4_suggest_5 : decode cX4_suggest 5 = .ok (.astore_n 2, 1) := by decide +kernel
theorem dX4_suggest_6 : decode cX4_suggest 6 = .ok (.aload_n 0, 1) := by decide +kernel
theorem dX4_suggest_7 : decode cX4_suggest 7 = .ok (.iload_n 1, 1) := by decide +kernel
theorem dX4_suggest_8 : decode cX4_suggest 8 = .ok (.invokevirtual 78, 3) := by decide +kernel
theorem dX4_suggest_11 : decode cX4_suggest 11 = .ok (.astore_n 3, 1) := by decide +kernel
theorem dX4_suggest_12 : decode cX4_suggest 12 = .ok (.aload_n 2, 1) := by decide +kernel
theorem dX4_suggest_13 : decode cX4_suggest 13 = .ok (.aload_n 3, 1) := by decide +kernel
theorem dX4_suggest_14 : decode cX4_suggest 14 = .ok (.invokevirtual 134, 3) := by decide +kernel
theorem dX4_suggest_17 : decode cX4_suggest 17 = .ok (.istore 4, 2) := by decide +kernel
theorem dX4_suggest_19 : decode cX4_suggest 19 = .ok (.iload 4, 2) := by decide +kernel
theorem dX4_suggest_21 : decode cX4_suggest 21 = .ok (.ifCond .ge 5, 3) := by decide +kernel
theorem dX4_suggest_24 : decode cX4_suggest 24 = .ok (.iconst (-1), 1) := by decide +kernel
theorem dX4_suggest_25 : decode cX4_suggest 25 = .ok (.ireturn, 1) := by decide +kernel
theorem dX4_suggest_26 : decode cX4_suggest 26 = .ok (.aload_n 0, 1) := by decide +kernel
theorem dX4_suggest_27 : decode cX4_suggest 27 = .ok (.getfield 30, 3) := by decide +kernel
theorem dX4_suggest_30 : decode cX4_suggest 30 = .ok (.aload_n 2, 1) := by decide +kernel
theorem dX4_suggest_31 : decode cX4_suggest 31 = .ok (.aload_n 3, 1) := by decide +kernel
theorem dX4_suggest_32 : decode cX4_suggest 32 = .ok (.invokevirtual 110, 3) := by decide +kernel
theorem dX4_suggest_35 : decode cX4_suggest 35 = .ok (.aload_n 0, 1) := by decide +kernel
theorem dX4_suggest_36 : decode cX4_suggest 36 = .ok (.getfield 30, 3) := by decide +kernel
theorem dX4_suggest_39 : decode cX4_suggest 39 = .ok (.iload 4, 2) := by decide +kernel
theorem dX4_suggest_41 : decode cX4_suggest 41 = .ok (.invokevirtual 173, 3) := by decide +kernel
theorem dX4_suggest_44 : decode cX4_suggest 44 = .ok (.istore 5, 2) := by decide +kernel
theorem dX4_suggest_46 : decode cX4_suggest 46 = .ok (.iload 5, 2) := by decide +kernel
theorem dX4_suggest_48 : decode cX4_suggest 48 = .ok (.ifCond .ge 7, 3) := by decide +kernel
theorem dX4_suggest_51 : decode cX4_suggest 51 = .ok (.iconst (-1), 1) := by decide +kernel
theorem dX4_suggest_52 : decode cX4_suggest 52 = .ok (.goto 11, 3) := by decide +kernel
theorem dX4_suggest_55 : decode cX4_suggest 55 = .ok (.bipush 16, 2) := by decide +kernel
theorem dX4_suggest_57 : decode cX4_suggest 57 = .ok (.iload 4, 2) := by decide +kernel
theorem dX4_suggest_59 : decode cX4_suggest 59 = .ok (.imul, 1) := by decide +kernel
theorem dX4_suggest_60 : decode cX4_suggest 60 = .ok (.iload 5, 2) := by decide +kernel
theorem dX4_suggest_62 : decode cX4_suggest 62 = .ok (.iadd, 1) := by decide +kernel
theorem dX4_suggest_63 : decode cX4_suggest 63 = .ok (.ireturn, 1) := by decide +kernel
set_option maxRecDepth 20000 in
theorem ggX4_resend_X4_pairAt : GoodIn wsX4_resend wsX4_pairAt := goodIn_ca (goodIn_r _ [11, 12, 13, 14, 15, 16, 98, 99, 100, 101, 102, 103, 104, 105] (by decide +kernel) (by decide +kernel)) (goodIn_sub (fun _ h => List.mem_cons_of_mem _ (List.mem_append_right _ h)) (by decide +kernel))
set_option maxRecDepth 20000 in
theorem gX4_resend_X4_pairAt : GoodIn wsX4_resend (wsV RX4 34 RX4 yX4_pairAt wsX4_pairAt) := goodIn_app (goodIn_of _ (by decide +kernel)) ggX4_resend_X4_pairAt
set_option maxRecDepth 20000 in
theorem ggX4_resend_X4_saveState : GoodIn wsX4_resend wsX4_saveState := goodIn_r _ [20, 21, 22, 14, 23, 24, 25, 26, 27, 28, 29, 30, 31, 32, 33, 34, 35, 36, 37, 38, 39, 40, 41, 42, 43, 44, 45, 46, 47, 48, 49, 50, 51, 52, 53, 54, 55, 56, 57, 58, 59, 60, 61, 62, 63, 64, 65, 66, 67, 68, 69, 70, 71, 72, 73, 98, 99, 100, 101, 102, 103, 104, 105, 74, 75, 76, 77, 78, 79, 80, 81, 82, 83, 84, 85, 86, 87, 88, 89, 90, 91, 92, 93, 94, 95, 96, 97] (by decide +kernel) (by decide +kernel)
set_option maxRecDepth 20000 in
theorem gX4_resend_X4_saveState : GoodIn wsX4_resend (wsV RX4 46 RX4 yX4_saveState wsX4_saveState) := goodIn_app (goodIn_of _ (by decide +kernel)) ggX4_resend_X4_saveState
theorem dX4_resend_0 : decode cX4_resend 0 = .ok (.aload_n 0, 1) := by decide +kernel
theorem dX4_resend_1 : decode cX4_resend 1 = .ok (.iload_n 1, 1) := by decide +kernel
theorem dX4_resend_2 : decode cX4_resend 2 = .ok (.invokevirtual 34, 3) := by decide +kernel
theorem dX4_resend_5 : decode cX4_resend 5 = .ok (.getfield 152, 3) := by decide +kernel
theorem dX4_resend_8 : decode cX4_resend 8 = .ok (.astore_n 2, 1) := by decide +kernel
theorem dX4_resend_9 : decode cX4_resend 9 = .ok (.aload_n 2, 1) := by decide +kernel
theorem dX4_resend_10 : decode cX4_resend 10 = .ok (.getfield 156, 3) := by decide +kernel
theorem dX4_resend_13 : decode cX4_resend 13 = .ok (.ifCond .ne 13, 3) := by decide +kernel
theorem dX4_resend_16 : decode cX4_resend 16 = .ok (.new 64, 3) := by decide +kernel
theorem dX4_resend_19 : decode cX4_resend 19 = .ok (.dup, 1) := by decide +kernel
theorem dX4_resend_20 : decode cX4_resend 20 = .ok (.ldc 177, 2) := by decide +kernel
theorem dX4_resend_22 : decode cX4_resend 22 = .ok (.invokespecial 68, 3) := by decide +kernel
theorem dX4_resend_25 : decode cX4_resend 25 = .ok (.athrow, 1) := by decide +kernel
theorem dX4_resend_26 : decode cX4_resend 26 = .ok (.aload_n 0, 1) := by decide +kernel
theorem dX4_resend_27 : decode cX4_resend 27 = .ok (.invokevirtual 46, 3) := by decide +kernel
theorem dX4_resend_30 : decode cX4_resend 30 = .ok (.aload_n 2, 1) := by decide +kernel
theorem dX4_resend_31 : decode cX4_resend 31 = .ok (.iconst 1, 1) := by decide +kernel
theorem dX4_resend_32 : decode cX4_resend 32 = .ok (.putfield 179, 3) := by decide +kernel
theorem dX4_resend_35 : decode cX4_resend 35 = .ok (.aload_n 2, 1) := by decide +kernel
theorem dX4_resend_36 : decode cX4_resend 36 = .ok (.getfield 182, 3) := by decide +kernel
theorem dX4_resend_39 : decode cX4_resend 39 = .ok (.ireturn, 1) := by decide +kernel
set_option maxRecDepth 20000 in
theorem ggX4_deliver_X4_pairAt : GoodIn wsX4_deliver wsX4_pairAt := goodIn_ca (goodIn_r _ [12, 13, 14, 6, 15, 16, 111, 112, 113, 114, 115, 116, 117, 118] (by decide +kernel) (by decide +kernel)) (goodIn_sub (fun _ h => List.mem_cons_of_mem _ (List.mem_append_left _ (List.mem_append_right _ h))) (by decide +kernel))
set_option maxRecDepth 20000 in
theorem gX4_deliver_X4_pairAt : GoodIn wsX4_deliver (wsV RX4 34 RX4 yX4_pairAt wsX4_pairAt) := goodIn_app (goodIn_of _ (by decide +kernel)) ggX4_deliver_X4_pairAt
set_option maxRecDepth 20000 in
theorem ggX4_deliver_X4_checkRange : GoodIn wsX4_deliver wsX4_checkRange := goodIn_ca (goodIn_r _ [19, 20, 21] (by decide +kernel) (by decide +kernel)) (goodIn_sub (fun _ h => List.mem_cons_of_mem _ (List.mem_append_right _ h)) (by decide +kernel))
set_option maxRecDepth 20000 in
theorem gX4_deliver_X4_checkRange : GoodIn wsX4_deliver (va_wsS RX4 42 yX4_checkRange wsX4_checkRange) := goodIn_app (goodIn_of _ (by decide +kernel)) ggX4_deliver_X4_checkRange
set_option maxRecDepth 20000 in
theorem ggX4_deliver_X4_saveState : GoodIn wsX4_deliver wsX4_saveState := goodIn_r _ [25, 26, 27, 6, 28, 29, 30, 31, 32, 33, 34, 35, 36, 37, 38, 39, 40, 41, 42, 43, 44, 45, 46, 47, 48, 49, 50, 51, 52, 53, 54, 55, 56, 57, 58, 59, 60, 61, 62, 63, 64, 65, 66, 67, 68, 69, 70, 71, 72, 73, 74, 75, 76, 77, 78, 111, 112, 113, 114, 115, 116, 117, 118, 87, 88, 89, 90, 91, 92, 93, 94, 95, 96, 97, 98, 99, 100, 101, 102, 103, 104, 105, 106, 107, 108, 109, 110] (by decide +kernel) (by decide +kernel)
set_option maxRecDepth 20000 in
theorem gX4_deliver_X4_saveState : GoodIn wsX4_deliver (wsV RX4 46 RX4 yX4_saveState wsX4_saveState) := goodIn_app (goodIn_of _ (by decide +kernel)) ggX4_deliver_X4_saveState
set_option maxRecDepth 20000 in
theorem ggX4_deliver_X3_answerRequest : GoodIn wsX4_deliver wsX3_answerRequest := goodIn_r _ [82, 75, 67, 76, 68, 77, 69, 78, 72, 73, 74, 97, 98, 99, 100, 101, 102, 103, 104, 105, 106, 107, 108, 109, 110] (by decide +kernel) (by decide +kernel)
set_option maxRecDepth 20000 in
theorem gX4_deliver_X3_answerRequest : GoodIn wsX4_deliver (wsV RX4 193 RX3 yX3_answerRequest wsX3_answerRequest) := goodIn_app (goodIn_of _ (by decide +kernel)) ggX4_deliver_X3_answerRequest
set_option maxRecDepth 20000 in
theorem ggX4_deliver_X3_noteAnswer : GoodIn wsX4_deliver wsX3_noteAnswer := goodIn_r _ [86, 66, 73, 67, 74, 70, 97, 98, 99, 100, 101, 102, 103, 104, 105, 106, 107, 108, 109, 110] (by decide +kernel) (by decide +kernel)
set_option maxRecDepth 20000 in
theorem gX4_deliver_X3_noteAnswer : GoodIn wsX4_deliver (wsV RX4 196 RX3 yX3_noteAnswer wsX3_noteAnswer) := goodIn_app (goodIn_of _ (by decide +kernel)) ggX4_deliver_X3_noteAnswer
theorem dX4_deliver_0 : decode cX4_deliver 0 = .ok (.aload_n 0, 1) := by decide +kernel
theorem dX4_deliver_1 : decode cX4_deliver 1 = .ok (.iload_n 1, 1) := by decide +kernel
theorem dX4_deliver_2 : decode cX4_deliver 2 = .ok (.invokevirtual 34, 3) := by decide +kernel
theorem dX4_deliver_5 : decode cX4_deliver 5 = .ok (.getfield 152, 3) := by decide +kernel
theorem dX4_deliver_8 : decode cX4_deliver 8 = .ok (.astore 4, 2) := by decide +kernel
theorem dX4_deliver_10 : decode cX4_deliver 10 = .ok (.iload_n 2, 1) := by decide +kernel
theorem dX4_deliver_11 : decode cX4_deliver 11 = .ok (.iconst 0, 1) := by decide +kernel
theorem dX4_deliver_12 : decode cX4_deliver 12 = .ok (.iconst 1, 1) := by decide +kernel
theorem dX4_deliver_13 : decode cX4_deliver 13 = .ok (.invokestatic 42, 3) := by decide +kernel
theorem dX4_deliver_16 : decode cX4_deliver 16 = .ok (.iload_n 2, 1) := by decide +kernel
theorem dX4_deliver_17 : decode cX4_deliver 17 = .ok (.ifCond .ne 11, 3) := by decide +kernel
theorem dX4_deliver_20 : decode cX4_deliver 20 = .ok (.aload 4, 2) := by decide +kernel
theorem dX4_deliver_22 : decode cX4_deliver 22 = .ok (.getfield 179, 3) := by decide +kernel
theorem dX4_deliver_25 : decode cX4_deliver 25 = .ok (.goto 8, 3) := by decide +kernel
theorem dX4_deliver_28 : decode cX4_deliver 28 = .ok (.aload 4, 2) := by decide +kernel
theorem dX4_deliver_30 : decode cX4_deliver 30 = .ok (.getfield 185, 3) := by decide +kernel
theorem dX4_deliver_33 : decode cX4_deliver 33 = .ok (.istore 5, 2) := by decide +kernel
theorem dX4_deliver_35 : decode cX4_deliver 35 = .ok (.iload 5, 2) := by decide +kernel
theorem dX4_deliver_37 : decode cX4_deliver 37 = .ok (.ifCond .ne 13, 3) := by decide +kernel
theorem dX4_deliver_40 : decode cX4_deliver 40 = .ok (.new 64, 3) := by decide +kernel
theorem dX4_deliver_43 : decode cX4_deliver 43 = .ok (.dup, 1) := by decide +kernel
theorem dX4_deliver_44 : decode cX4_deliver 44 = .ok (.ldc 188, 2) := by decide +kernel
theorem dX4_deliver_46 : decode cX4_deliver 46 = .ok (.invokespecial 68, 3) := by decide +kernel
theorem dX4_deliver_49 : decode cX4_deliver 49 = .ok (.athrow, 1) := by decide +kernel
theorem dX4_deliver_50 : decode cX4_deliver 50 = .ok (.aload_n 0, 1) := by decide +kernel
theorem dX4_deliver_51 : decode cX4_deliver 51 = .ok (.invokevirtual 46, 3) := by decide +kernel
theorem dX4_deliver_54 : decode cX4_deliver 54 = .ok (.iload_n 2, 1) := by decide +kernel
theorem dX4_deliver_55 : decode cX4_deliver 55 = .ok (.ifCond .ne 30, 3) := by decide +kernel
theorem dX4_deliver_58 : decode cX4_deliver 58 = .ok (.aload 4, 2) := by decide +kernel
theorem dX4_deliver_60 : decode cX4_deliver 60 = .ok (.iconst 0, 1) := by decide +kernel
theorem dX4_deliver_61 : decode cX4_deliver 61 = .ok (.putfield 179, 3) := by decide +kernel
theorem dX4_deliver_64 : decode cX4_deliver 64 = .ok (.iload_n 3, 1) := by decide +kernel
theorem dX4_deliver_65 : decode cX4_deliver 65 = .ok (.ifCond .eq 7, 3) := by decide +kernel
theorem dX4_deliver_68 : decode cX4_deliver 68 = .ok (.iconst (-1), 1) := by decide +kernel
theorem dX4_deliver_69 : decode cX4_deliver 69 = .ok (.goto 15, 3) := by decide +kernel
theorem dX4_deliver_72 : decode cX4_deliver 72 = .ok (.aload 4, 2) := by decide +kernel
theorem dX4_deliver_74 : decode cX4_deliver 74 = .ok (.aload_n 0, 1) := by decide +kernel
theorem dX4_deliver_75 : decode cX4_deliver 75 = .ok (.getfield 12, 3) := by decide +kernel
theorem dX4_deliver_78 : decode cX4_deliver 78 = .ok (.getfield 190, 3) := by decide +kernel
theorem dX4_deliver_81 : decode cX4_deliver 81 = .ok (.invokevirtual 193, 3) := by decide +kernel
theorem dX4_deliver_84 : decode cX4_deliver 84 = .ok (.ireturn, 1) := by decide +kernel
theorem dX4_deliver_85 : decode cX4_deliver 85 = .ok (.aload 4, 2) := by decide +kernel
theorem dX4_deliver_87 : decode cX4_deliver 87 = .ok (.iconst 0, 1) := by decide +kernel
theorem dX4_deliver_88 : decode cX4_deliver 88 = .ok (.putfield 185, 3) := by decide +kernel
theorem dX4_deliver_91 : decode cX4_deliver 91 = .ok (.iload_n 3, 1) := by decide +kernel
theorem dX4_deliver_92 : decode cX4_deliver 92 = .ok (.ifCond .eq 7, 3) := by decide +kernel
theorem dX4_deliver_95 : decode cX4_deliver 95 = .ok (.iconst (-1), 1) := by decide +kernel
theorem dX4_deliver_96 : decode cX4_deliver 96 = .ok (.goto 8, 3) := by decide +kernel
theorem dX4_deliver_99 : decode cX4_deliver 99 = .ok (.aload 4, 2) := by decide +kernel
theorem dX4_deliver_101 : decode cX4_deliver 101 = .ok (.invokevirtual 196, 3) := by decide +kernel
theorem dX4_deliver_104 : decode cX4_deliver 104 = .ok (.ireturn, 1) := by decide +kernel
set_option maxRecDepth 20000 in
theorem ggX4_run_X4_checkRange : GoodIn wsX4_run wsX4_checkRange := goodIn_ca (goodIn_r _ [6, 7, 8] (by decide +kernel) (by decide +kernel)) (goodIn_sub (fun _ h => List.mem_cons_of_mem _ (List.mem_append_right _ h)) (by decide +kernel))
set_option maxRecDepth 20000 in
theorem gX4_run_X4_checkRange : GoodIn wsX4_run (va_wsS RX4 42 yX4_checkRange wsX4_checkRange) := goodIn_app (goodIn_of _ (by decide +kernel)) ggX4_run_X4_checkRange
set_option maxRecDepth 20000 in
theorem ggX4_run_X4_saveState : GoodIn wsX4_run wsX4_saveState := goodIn_r _ [12, 13, 14, 1, 15, 16, 17, 18, 19, 20, 21, 22, 23, 24, 25, 26, 27, 28, 29, 30, 31, 32, 33, 34, 35, 36, 37, 38, 39, 40, 41, 42, 43, 44, 45, 46, 47, 48, 49, 50, 51, 52, 53, 54, 55, 56, 57, 58, 59, 60, 61, 62, 63, 64, 65, 115, 116, 117, 118, 119, 120, 121, 122, 123, 124, 125, 126, 127, 128, 129, 130, 131, 132, 133, 134, 135, 136, 137, 138, 139, 140, 141, 142, 143, 144, 145, 146] (by decide +kernel) (by decide +kernel)
set_option maxRecDepth 20000 in
theorem gX4_run_X4_saveState : GoodIn wsX4_run (wsV RX4 46 RX4 yX4_saveState wsX4_saveState) := goodIn_app (goodIn_of _ (by decide +kernel)) ggX4_run_X4_saveState
set_option maxRecDepth 20000 in
theorem ggX4_run_X2_passFrame : GoodIn wsX4_run wsX2_passFrame := goodIn_r _ [69, 25, 26, 27, 70, 71, 72, 31, 73, 43, 74, 41, 75, 76, 40, 77, 78, 79, 46, 80, 81, 82, 50, 83, 53, 57, 84, 85, 86, 87, 5, 88, 89, 90, 91, 92, 42, 93, 94, 95, 96, 97, 98, 99, 100, 33, 38, 101, 102, 103, 104, 105, 106, 107, 108, 109, 110, 111, 112, 113, 114, 45, 120, 121, 122, 123, 124, 125, 126, 127, 128, 129, 130, 131, 132, 133, 134, 135, 136, 137, 138, 139, 140, 141, 142, 143, 144, 145, 146] (by decide +kernel) (by decide +kernel)
set_option maxRecDepth 20000 in
theorem gX4_run_X2_passFrame : GoodIn wsX4_run (wsV RX4 199 RX2 yX2_passFrame wsX2_passFrame) := goodIn_app (goodIn_of _ (by decide +kernel)) ggX4_run_X2_passFrame
theorem dX4_run_0 : decode cX4_run 0 = .ok (.iload_n 1, 1) := by decide +kernel
theorem dX4_run_1 : decode cX4_run 1 = .ok (.iconst 0, 1) := by decide +kernel
theorem dX4_run_2 : decode cX4_run 2 = .ok (.sipush 1000, 3) := by decide +kernel
theorem dX4_run_5 : decode cX4_run 5 = .ok (.invokestatic 42, 3) := by decide +kernel
theorem dX4_run_8 : decode cX4_run 8 = .ok (.aload_n 0, 1) := by decide +kernel
theorem dX4_run_9 : decode cX4_run 9 = .ok (.invokevirtual 46, 3) := by decide +kernel
theorem dX4_run_12 : decode cX4_run 12 = .ok (.iconst 0, 1) := by decide +kernel
theorem dX4_run_13 : decode cX4_run 13 = .ok (.istore_n 2, 1) := by decide +kernel
theorem dX4_run_14 : decode cX4_run 14 = .ok (.iload_n 2, 1) := by decide +kernel
theorem dX4_run_15 : decode cX4_run 15 = .ok (.iload_n 1, 1) := by decide +kernel
theorem dX4_run_16 : decode cX4_run 16 = .ok (.if_icmp .ge 16, 3) := by decide +kernel
theorem dX4_run_19 : decode cX4_run 19 = .ok (.aload_n 0, 1) := by decide +kernel
theorem dX4_run_20 : decode cX4_run 20 = .ok (.getfield 12, 3) := by decide +kernel
theorem dX4_run_23 : decode cX4_run 23 = .ok (.invokevirtual 199, 3) := by decide +kernel
theorem dX4_run_26 : decode cX4_run 26 = .ok (.iinc 2 1, 3) := by decide +kernel
theorem dX4_run_29 : decode cX4_run 29 = .ok (.goto (-15), 3) := by decide +kernel
theorem dX4_run_32 : decode cX4_run 32 = .ok (.aload_n 0, 1) := by decide +kernel
theorem dX4_run_33 : decode cX4_run 33 = .ok (.getfield 12, 3) := by decide +kernel
theorem dX4_run_36 : decode cX4_run 36 = .ok (.getfield 190, 3) := by decide +kernel
theorem dX4_run_39 : decode cX4_run 39 = .ok (.ireturn, 1) := by decide +kernel
set_option maxRecDepth 20000 in
theorem ggX4_inStep_X4_pairAt : GoodIn wsX4_inStep wsX4_pairAt := goodIn_ca (goodIn_r _ [6, 7, 8, 9, 10, 11, 22, 23, 24, 25, 26, 27, 28, 29] (by decide +kernel) (by decide +kernel)) (goodIn_sub (fun _ h => List.mem_cons_of_mem _ (List.mem_append_right _ h)) (by decide +kernel))
set_option maxRecDepth 20000 in
theorem gX4_inStep_X4_pairAt : GoodIn wsX4_inStep (wsV RX4 34 RX4 yX4_pairAt wsX4_pairAt) := goodIn_app (goodIn_of _ (by decide +kernel)) ggX4_inStep_X4_pairAt
theorem dX4_inStep_0 : decode cX4_inStep 0 = .ok (.aload_n 0, 1) := by decide +kernel
theorem dX4_inStep_1 : decode cX4_inStep 1 = .ok (.iload_n 1, 1) := by decide +kernel
theorem dX4_inStep_2 : decode cX4_inStep 2 = .ok (.invokevirtual 34, 3) := by decide +kernel
theorem dX4_inStep_5 : decode cX4_inStep 5 = .ok (.getfield 162, 3) := by decide +kernel
theorem dX4_inStep_8 : decode cX4_inStep 8 = .ok (.ifCond .ne 7, 3) := by decide +kernel
theorem dX4_inStep_11 : decode cX4_inStep 11 = .ok (.iconst 1, 1) := by decide +kernel
theorem dX4_inStep_12 : decode cX4_inStep 12 = .ok (.goto 4, 3) := by decide +kernel
theorem dX4_inStep_15 : decode cX4_inStep 15 = .ok (.iconst 0, 1) := by decide +kernel
theorem dX4_inStep_16 : decode cX4_inStep 16 = .ok (.ireturn, 1) := by decide +kernel
set_option maxRecDepth 20000 in
theorem ggX4_brokenFrames_X4_pairAt : GoodIn wsX4_brokenFrames wsX4_pairAt := goodIn_ca (goodIn_r _ [6, 7, 8, 9, 10, 11, 22, 23, 24, 25, 26, 27, 28, 29] (by decide +kernel) (by decide +kernel)) (goodIn_sub (fun _ h => List.mem_cons_of_mem _ (List.mem_append_right _ h)) (by decide +kernel))
set_option maxRecDepth 20000 in
theorem gX4_brokenFrames_X4_pairAt : GoodIn wsX4_brokenFrames (wsV RX4 34 RX4 yX4_pairAt wsX4_pairAt) := goodIn_app (goodIn_of _ (by decide +kernel)) ggX4_brokenFrames_X4_pairAt
theorem dX4_brokenFrames_0 : decode cX4_brokenFrames 0 = .ok (.aload_n 0, 1) := by decide +kernel
theorem dX4_brokenFrames_1 : decode cX4_brokenFrames 1 = .ok (.iload_n 1, 1) := by decide +kernel
theorem dX4_brokenFrames_2 : decode cX4_brokenFrames 2 = .ok (.invokevirtual 34, 3) := by decide +kernel
theorem dX4_brokenFrames_5 : decode cX4_brokenFrames 5 = .ok (.getfield 202, 3) := by decide +kernel
theorem dX4_brokenFrames_8 : decode cX4_brokenFrames 8 = .ok (.ireturn, 1) := by decide +kernel
set_option maxRecDepth 20000 in
theorem ggX4_undo_J9_floorMod_7cf53 : GoodIn wsX4_undo wsJ9_floorMod_7cf53 := goodIn_r _ [10] (by decide +kernel) (by decide +kernel)
set_option maxRecDepth 20000 in
theorem gX4_undo_J9_floorMod_7cf53 : GoodIn wsX4_undo (va_wsS RX4 207 yJ9_floorMod_7cf53 wsJ9_floorMod_7cf53) := goodIn_app (goodIn_of _ (by decide +kernel)) ggX4_undo_J9_floorMod_7cf53
set_option maxRecDepth 20000 in
theorem ggX4_undo_X2_copyFrom : GoodIn wsX4_undo wsX2_copyFrom := goodIn_r _ [15, 16, 17, 18, 19, 20, 21, 22, 23, 24, 25, 26, 27, 28, 29, 30, 31, 32, 33, 34, 35, 36, 37, 38, 39, 40, 41, 42, 43, 44, 45, 46, 47, 48, 49, 50, 51, 52, 53, 54, 55, 56, 62, 63, 64, 65, 66, 67, 68, 69, 70, 71, 72, 73, 74, 75, 76, 77, 78, 79, 80, 81, 82, 83, 84, 85, 86, 87, 88] (by decide +kernel) (by decide +kernel)
set_option maxRecDepth 20000 in
theorem gX4_undo_X2_copyFrom : GoodIn wsX4_undo (wsV RX4 212 RX2 yX2_copyFrom wsX2_copyFrom) := goodIn_app (goodIn_of _ (by decide +kernel)) ggX4_undo_X2_copyFrom
theorem dX4_undo_0 : decode cX4_undo 0 = .ok (.aload_n 0, 1) := by decide +kernel
theorem dX4_undo_1 : decode cX4_undo 1 = .ok (.getfield 24, 3) := by decide +kernel
theorem dX4_undo_4 : decode cX4_undo 4 = .ok (.iconst 1, 1) := by decide +kernel
theorem dX4_undo_5 : decode cX4_undo 5 = .ok (.if_icmp .ge 13, 3) := by decide +kernel
theorem dX4_undo_8 : decode cX4_undo 8 = .ok (.new 64, 3) := by decide +kernel
theorem dX4_undo_11 : decode cX4_undo 11 = .ok (.dup, 1) := by decide +kernel
theorem dX4_undo_12 : decode cX4_undo 12 = .ok (.ldc 205, 2) := by decide +kernel
theorem dX4_undo_14 : decode cX4_undo 14 = .ok (.invokespecial 68, 3) := by decide +kernel
theorem dX4_undo_17 : decode cX4_undo 17 = .ok (.athrow, 1) := by decide +kernel
theorem dX4_undo_18 : decode cX4_undo 18 = .ok (.aload_n 0, 1) := by decide +kernel
theorem dX4_undo_19 : decode cX4_undo 19 = .ok (.getfield 12, 3) := by decide +kernel
theorem dX4_undo_22 : decode cX4_undo 22 = .ok (.aload_n 0, 1) := by decide +kernel
theorem dX4_undo_23 : decode cX4_undo 23 = .ok (.getfield 16, 3) := by decide +kernel
theorem dX4_undo_26 : decode cX4_undo 26 = .ok (.aload_n 0, 1) := by decide +kernel
theorem dX4_undo_27 : decode cX4_undo 27 = .ok (.getfield 20, 3) := by decide +kernel
theorem dX4_undo_30 : decode cX4_undo 30 = .ok (.iconst 4, 1) := by decide +kernel
theorem dX4_undo_31 : decode cX4_undo 31 = .ok (.invokestatic 207, 3) := by decide +kernel
theorem dX4_undo_34 : decode cX4_undo 34 = .ok (.aaload, 1) := by decide +kernel
theorem dX4_undo_35 : decode cX4_undo 35 = .ok (.invokevirtual 212, 3) := by decide +kernel
theorem dX4_undo_38 : decode cX4_undo 38 = .ok (.aload_n 0, 1) := by decide +kernel
theorem dX4_undo_39 : decode cX4_undo 39 = .ok (.aload_n 0, 1) := by decide +kernel
theorem dX4_undo_40 : decode cX4_undo 40 = .ok (.getfield 20, 3) := by decide +kernel
theorem dX4_undo_43 : decode cX4_undo 43 = .ok (.iconst 1, 1) := by decide +kernel
theorem dX4_undo_44 : decode cX4_undo 44 = .ok (.isub, 1) := by decide +kernel
theorem dX4_undo_45 : decode cX4_undo 45 = .ok (.iconst 4, 1) := by decide +kernel
theorem dX4_undo_46 : decode cX4_undo 46 = .ok (.invokestatic 207, 3) := by decide +kernel
theorem dX4_undo_49 : decode cX4_undo 49 = .ok (.putfield 20, 3) := by decide +kernel
theorem dX4_undo_52 : decode cX4_undo 52 = .ok (.aload_n 0, 1) := by decide +kernel
theorem dX4_undo_53 : decode cX4_undo 53 = .ok (.dup, 1) := by decide +kernel
theorem dX4_undo_54 : decode cX4_undo 54 = .ok (.getfield 24, 3) := by decide +kernel
theorem dX4_undo_57 : decode cX4_undo 57 = .ok (.iconst 1, 1) := by decide +kernel
theorem dX4_undo_58 : decode cX4_undo 58 = .ok (.isub, 1) := by decide +kernel
theorem dX4_undo_59 : decode cX4_undo 59 = .ok (.putfield 24, 3) := by decide +kernel
theorem dX4_undo_62 : decode cX4_undo 62 = .ok (.aload_n 0, 1) := by decide +kernel
theorem dX4_undo_63 : decode cX4_undo 63 = .ok (.getfield 24, 3) := by decide +kernel
theorem dX4_undo_66 : decode cX4_undo 66 = .ok (.ireturn, 1) := by decide +kernel
set_option maxRecDepth 20000 in
theorem ggX4_digest_X4_hashPair : GoodIn wsX4_digest wsX4_hashPair := goodIn_r _ [12, 6, 13, 14, 15, 16, 17, 18, 19, 20, 21, 22, 23, 24, 25, 26, 27, 28, 29, 30, 31, 32, 33, 34, 35, 36, 37, 38, 39, 40, 41, 42, 11, 43, 44, 45, 46, 47, 48, 49, 50, 51, 52, 53, 54, 55, 56, 57, 58, 59, 60, 61, 62, 63, 64, 65, 66, 67, 68, 69, 70, 71, 72, 73, 74, 75, 76, 77, 78, 79, 80, 81, 82, 83, 84, 85, 86, 87, 88, 89, 90, 91, 92, 93, 94, 95, 96, 97, 106, 107, 108, 109, 110, 111, 112, 113, 114, 115, 98, 99, 100, 101, 102, 116, 117, 118, 119, 120, 121, 122, 123, 124, 125, 126, 127, 128, 129, 130, 131, 132] (by decide +kernel) (by decide +kernel)
set_option maxRecDepth 20000 in
theorem gX4_digest_X4_hashPair : GoodIn wsX4_digest (wsV RX4 218 RX4 yX4_hashPair wsX4_hashPair) := goodIn_app (goodIn_of _ (by decide +kernel)) ggX4_digest_X4_hashPair
theorem dX4_digest_0 : decode cX4_digest 0 = .ok (.ldc2_w 216, 3) := by decide +kernel
theorem dX4_digest_3 : decode cX4_digest 3 = .ok (.aload_n 0, 1) := by decide +kernel
theorem dX4_digest_4 : decode cX4_digest 4 = .ok (.getfield 12, 3) := by decide +kernel
theorem dX4_digest_7 : decode cX4_digest 7 = .ok (.getfield 190, 3) := by decide +kernel
theorem dX4_digest_10 : decode cX4_digest 10 = .ok (.i2l, 1) := by decide +kernel
theorem dX4_digest_11 : decode cX4_digest 11 = .ok (.ladd, 1) := by decide +kernel
theorem dX4_digest_12 : decode cX4_digest 12 = .ok (.lstore_n 1, 1) := by decide +kernel
theorem dX4_digest_13 : decode cX4_digest 13 = .ok (.aload_n 0, 1) := by decide +kernel
theorem dX4_digest_14 : decode cX4_digest 14 = .ok (.lload_n 1, 1) := by decide +kernel
theorem dX4_digest_15 : decode cX4_digest 15 = .ok (.aload_n 0, 1) := by decide +kernel
theorem dX4_digest_16 : decode cX4_digest 16 = .ok (.getfield 12, 3) := by decide +kernel
theorem dX4_digest_19 : decode cX4_digest 19 = .ok (.getfield 116, 3) := by decide +kernel
theorem dX4_digest_22 : decode cX4_digest 22 = .ok (.aload_n 0, 1) := by decide +kernel
theorem dX4_digest_23 : decode cX4_digest 23 = .ok (.getfield 12, 3) := by decide +kernel
theorem dX4_digest_26 : decode cX4_digest 26 = .ok (.getfield 120, 3) := by decide +kernel
theorem dX4_digest_29 : decode cX4_digest 29 = .ok (.invokevirtual 218, 3) := by decide +kernel
theorem dX4_digest_32 : decode cX4_digest 32 = .ok (.lstore_n 1, 1) := by decide +kernel
theorem dX4_digest_33 : decode cX4_digest 33 = .ok (.aload_n 0, 1) := by decide +kernel
theorem dX4_digest_34 : decode cX4_digest 34 = .ok (.lload_n 1, 1) := by decide +kernel
theorem dX4_digest_35 : decode cX4_digest 35 = .ok (.aload_n 0, 1) := by decide +kernel
theorem dX4_digest_36 : decode cX4_digest 36 = .ok (.getfield 12, 3) := by decide +kernel
theorem dX4_digest_39 : decode cX4_digest 39 = .ok (.getfield 120, 3) := by decide +kernel
theorem dX4_digest_42 : decode cX4_digest 42 = .ok (.aload_n 0, 1) := by decide +kernel
theorem dX4_digest_43 : decode cX4_digest 43 = .ok (.getfield 12, 3) := by decide +kernel
theorem dX4_digest_46 : decode cX4_digest 46 = .ok (.getfield 116, 3) := by decide +kernel
theorem dX4_digest_49 : decode cX4_digest 49 = .ok (.invokevirtual 218, 3) := by decide +kernel
theorem dX4_digest_52 : decode cX4_digest 52 = .ok (.lstore_n 1, 1) := by decide +kernel
theorem dX4_digest_53 : decode cX4_digest 53 = .ok (.lload_n 1, 1) := by decide +kernel
theorem dX4_digest_54 : decode cX4_digest 54 = .ok (.ldc2_w 222, 3) := by decide +kernel
theorem dX4_digest_57 : decode cX4_digest 57 = .ok (.lmul, 1) := by decide +kernel
theorem dX4_digest_58 : decode cX4_digest 58 = .ok (.aload_n 0, 1) := by decide +kernel
theorem dX4_digest_59 : decode cX4_digest 59 = .ok (.getfield 24, 3) := by decide +kernel
theorem dX4_digest_62 : decode cX4_digest 62 = .ok (.i2l, 1) := by decide +kernel
theorem dX4_digest_63 : decode cX4_digest 63 = .ok (.ladd, 1) := by decide +kernel
theorem dX4_digest_64 : decode cX4_digest 64 = .ok (.lreturn, 1) := by decide +kernel
theorem dX4_pairAt_0 : decode cX4_pairAt 0 = .ok (.iload_n 1, 1) := by decide +kernel
theorem dX4_pairAt_1 : decode cX4_pairAt 1 = .ok (.ifCond .eq 18, 3) := by decide +kernel
theorem dX4_pairAt_4 : decode cX4_pairAt 4 = .ok (.iload_n 1, 1) := by decide +kernel
theorem dX4_pairAt_5 : decode cX4_pairAt 5 = .ok (.iconst 1, 1) := by decide +kernel
theorem dX4_pairAt_6 : decode cX4_pairAt 6 = .ok (.if_icmp .eq 13, 3) := by decide +kernel
theorem dX4_pairAt_9 : decode cX4_pairAt 9 = .ok (.new 224, 3) := by decide +kernel
theorem dX4_pairAt_12 : decode cX4_pairAt 12 = .ok (.dup, 1) := by decide +kernel
theorem dX4_pairAt_13 : decode cX4_pairAt 13 = .ok (.ldc 226, 2) := by decide +kernel
theorem dX4_pairAt_15 : decode cX4_pairAt 15 = .ok (.invokespecial 228, 3) := by decide +kernel
theorem dX4_pairAt_18 : decode cX4_pairAt 18 = .ok (.athrow, 1) := by decide +kernel
theorem dX4_pairAt_19 : decode cX4_pairAt 19 = .ok (.iload_n 1, 1) := by decide +kernel
theorem dX4_pairAt_20 : decode cX4_pairAt 20 = .ok (.ifCond .ne 13, 3) := by decide +kernel
theorem dX4_pairAt_23 : decode cX4_pairAt 23 = .ok (.aload_n 0, 1) := by decide +kernel
theorem dX4_pairAt_24 : decode cX4_pairAt 24 = .ok (.getfield 12, 3) := by decide +kernel
theorem dX4_pairAt_27 : decode cX4_pairAt 27 = .ok (.getfield 116, 3) := by decide +kernel
theorem dX4_pairAt_30 : decode cX4_pairAt 30 = .ok (.goto 10, 3) := by decide +kernel
theorem dX4_pairAt_33 : decode cX4_pairAt 33 = .ok (.aload_n 0, 1) := by decide +kernel
theorem dX4_pairAt_34 : decode cX4_pairAt 34 = .ok (.getfield 12, 3) := by decide +kernel
theorem dX4_pairAt_37 : decode cX4_pairAt 37 = .ok (.getfield 120, 3) := by decide +kernel
theorem dX4_pairAt_40 : decode cX4_pairAt 40 = .ok (.areturn, 1) := by decide +kernel
theorem dX4_otherOf_0 : decode cX4_otherOf 0 = .ok (.iload_n 1, 1) := by decide +kernel
theorem dX4_otherOf_1 : decode cX4_otherOf 1 = .ok (.ifCond .ne 13, 3) := by decide +kernel
theorem dX4_otherOf_4 : decode cX4_otherOf 4 = .ok (.aload_n 0, 1) := by decide +kernel
theorem dX4_otherOf_5 : decode cX4_otherOf 5 = .ok (.getfield 12, 3) := by decide +kernel
theorem dX4_otherOf_8 : decode cX4_otherOf 8 = .ok (.getfield 120, 3) := by decide +kernel
theorem dX4_otherOf_11 : decode cX4_otherOf 11 = .ok (.goto 10, 3) := by decide +kernel
theorem dX4_otherOf_14 : decode cX4_otherOf 14 = .ok (.aload_n 0, 1) := by decide +kernel
theorem dX4_otherOf_15 : decode cX4_otherOf 15 = .ok (.getfield 12, 3) := by decide +kernel
theorem dX4_otherOf_18 : decode cX4_otherOf 18 = .ok (.getfield 116, 3) := by decide +kernel
theorem dX4_otherOf_21 : decode cX4_otherOf 21 = .ok (.areturn, 1) := by decide +kernel
theorem dX4_isTone_0 : decode cX4_isTone 0 = .ok (.iload_n 0, 1) := by decide +kernel
theorem dX4_isTone_1 : decode cX4_isTone 1 = .ok (.ifCond .lt 13, 3) := by decide +kernel
theorem dX4_isTone_4 : decode cX4_isTone 4 = .ok (.iload_n 0, 1) := by decide +kernel
theorem dX4_isTone_5 : decode cX4_isTone 5 = .ok (.bipush 16, 2) := by decide +kernel
theorem dX4_isTone_7 : decode cX4_isTone 7 = .ok (.if_icmp .ge 7, 3) := by decide +kernel
theorem dX4_isTone_10 : decode cX4_isTone 10 = .ok (.iconst 1, 1) := by decide +kernel
theorem dX4_isTone_11 : decode cX4_isTone 11 = .ok (.goto 4, 3) := by decide +kernel
theorem dX4_isTone_14 : decode cX4_isTone 14 = .ok (.iconst 0, 1) := by decide +kernel
theorem dX4_isTone_15 : decode cX4_isTone 15 = .ok (.ireturn, 1) := by decide +kernel
set_option maxRecDepth 20000 in
theorem ggX4_checkTone_X4_isTone : GoodIn wsX4_checkTone wsX4_isTone := goodIn_r _ [6] (by decide +kernel) (by decide +kernel)
set_option maxRecDepth 20000 in
theorem gX4_checkTone_X4_isTone : GoodIn wsX4_checkTone (va_wsS RX4 229 yX4_isTone wsX4_isTone) := goodIn_app (goodIn_of _ (by decide +kernel)) ggX4_checkTone_X4_isTone
theorem dX4_checkTone_0 : decode cX4_checkTone 0 = .ok (.iload_n 0, 1) := by decide +kernel
theorem dX4_checkTone_1 : decode cX4_checkTone 1 = .ok (.invokestatic 229, 3) := by decide +kernel
theorem dX4_checkTone_4 : decode cX4_checkTone 4 = .ok (.ifCond .ne 13, 3) := by decide +kernel
theorem dX4_checkTone_7 : decode cX4_checkTone 7 = .ok (.new 224, 3) := by decide +kernel
theorem dX4_checkTone_10 : decode cX4_checkTone 10 = .ok (.dup, 1) := by decide +kernel
theorem dX4_checkTone_11 : decode cX4_checkTone 11 = .ok (.ldc 232, 2) := by decide +kernel
theorem dX4_checkTone_13 : decode cX4_checkTone 13 = .ok (.invokespecial 228, 3) := by decide +kernel
theorem dX4_checkTone_16 : decode cX4_checkTone 16 = .ok (.athrow, 1) := by decide +kernel
theorem dX4_checkTone_17 : decode cX4_checkTone 17 = .ok (.return_, 1) := by decide +kernel
theorem dX4_checkRange_0 : decode cX4_checkRange 0 = .ok (.iload_n 0, 1) := by decide +kernel
theorem dX4_checkRange_1 : decode cX4_checkRange 1 = .ok (.iload_n 1, 1) := by decide +kernel
theorem dX4_checkRange_2 : decode cX4_checkRange 2 = .ok (.if_icmp .lt 8, 3) := by decide +kernel
theorem dX4_checkRange_5 : decode cX4_checkRange 5 = .ok (.iload_n 0, 1) := by decide +kernel
theorem dX4_checkRange_6 : decode cX4_checkRange 6 = .ok (.iload_n 2, 1) := by decide +kernel
theorem dX4_checkRange_7 : decode cX4_checkRange 7 = .ok (.if_icmp .le 13, 3) := by decide +kernel
theorem dX4_checkRange_10 : decode cX4_checkRange 10 = .ok (.new 147, 3) := by decide +kernel
theorem dX4_checkRange_13 : decode cX4_checkRange 13 = .ok (.dup, 1) := by decide +kernel
theorem dX4_checkRange_14 : decode cX4_checkRange 14 = .ok (.ldc 234, 2) := by decide +kernel
theorem dX4_checkRange_16 : decode cX4_checkRange 16 = .ok (.invokespecial 151, 3) := by decide +kernel
theorem dX4_checkRange_19 : decode cX4_checkRange 19 = .ok (.athrow, 1) := by decide +kernel
theorem dX4_checkRange_20 : decode cX4_checkRange 20 = .ok (.return_, 1) := by decide +kernel
set_option maxRecDepth 20000 in
theorem ggX4_saveState_J9_floorMod_7cf53 : GoodIn wsX4_saveState wsJ9_floorMod_7cf53 := goodIn_r _ [8] (by decide +kernel) (by decide +kernel)
set_option maxRecDepth 20000 in
theorem gX4_saveState_J9_floorMod_7cf53 : GoodIn wsX4_saveState (va_wsS RX4 207 yJ9_floorMod_7cf53 wsJ9_floorMod_7cf53) := goodIn_app (goodIn_of _ (by decide +kernel)) ggX4_saveState_J9_floorMod_7cf53
set_option maxRecDepth 20000 in
theorem ggX4_saveState_X2_copyFrom : GoodIn wsX4_saveState wsX2_copyFrom := goodIn_r _ [13, 14, 15, 16, 17, 18, 19, 20, 21, 22, 23, 24, 25, 26, 27, 28, 29, 30, 31, 32, 33, 34, 35, 36, 37, 38, 39, 40, 41, 42, 43, 44, 45, 46, 47, 48, 49, 50, 51, 52, 53, 54, 60, 61, 62, 63, 64, 65, 66, 67, 68, 69, 70, 71, 72, 73, 74, 75, 76, 77, 78, 79, 80, 81, 82, 83, 84, 85, 86] (by decide +kernel) (by decide +kernel)
set_option maxRecDepth 20000 in
theorem gX4_saveState_X2_copyFrom : GoodIn wsX4_saveState (wsV RX4 212 RX2 yX2_copyFrom wsX2_copyFrom) := goodIn_app (goodIn_of _ (by decide +kernel)) ggX4_saveState_X2_copyFrom
theorem dX4_saveState_0 : decode cX4_saveState 0 = .ok (.aload_n 0, 1) := by decide +kernel
theorem dX4_saveState_1 : decode cX4_saveState 1 = .ok (.aload_n 0, 1) := by decide +kernel
theorem dX4_saveState_2 : decode cX4_saveState 2 = .ok (.getfield 20, 3) := by decide +kernel
theorem dX4_saveState_5 : decode cX4_saveState 5 = .ok (.iconst 1, 1) := by decide +kernel
theorem dX4_saveState_6 : decode cX4_saveState 6 = .ok (.iadd, 1) := by decide +kernel
theorem dX4_saveState_7 : decode cX4_saveState 7 = .ok (.iconst 4, 1) := by decide +kernel
theorem dX4_saveState_8 : decode cX4_saveState 8 = .ok (.invokestatic 207, 3) := by decide +kernel
theorem dX4_saveState_11 : decode cX4_saveState 11 = .ok (.putfield 20, 3) := by decide +kernel
theorem dX4_saveState_14 : decode cX4_saveState 14 = .ok (.aload_n 0, 1) := by decide +kernel
theorem dX4_saveState_15 : decode cX4_saveState 15 = .ok (.getfield 16, 3) := by decide +kernel
theorem dX4_saveState_18 : decode cX4_saveState 18 = .ok (.aload_n 0, 1) := by decide +kernel
theorem dX4_saveState_19 : decode cX4_saveState 19 = .ok (.getfield 20, 3) := by decide +kernel
theorem dX4_saveState_22 : decode cX4_saveState 22 = .ok (.aaload, 1) := by decide +kernel
theorem dX4_saveState_23 : decode cX4_saveState 23 = .ok (.aload_n 0, 1) := by decide +kernel
theorem dX4_saveState_24 : decode cX4_saveState 24 = .ok (.getfield 12, 3) := by decide +kernel
theorem dX4_saveState_27 : decode cX4_saveState 27 = .ok (.invokevirtual 212, 3) := by decide +kernel
theorem dX4_saveState_30 : decode cX4_saveState 30 = .ok (.aload_n 0, 1) := by decide +kernel
theorem dX4_saveState_31 : decode cX4_saveState 31 = .ok (.getfield 24, 3) := by decide +kernel
theorem dX4_saveState_34 : decode cX4_saveState 34 = .ok (.iconst 4, 1) := by decide +kernel
theorem dX4_saveState_35 : decode cX4_saveState 35 = .ok (.if_icmp .ge 13, 3) := by decide +kernel
theorem dX4_saveState_38 : decode cX4_saveState 38 = .ok (.aload_n 0, 1) := by decide +kernel
theorem dX4_saveState_39 : decode cX4_saveState 39 = .ok (.dup, 1) := by decide +kernel
theorem dX4_saveState_40 : decode cX4_saveState 40 = .ok (.getfield 24, 3) := by decide +kernel
theorem dX4_saveState_43 : decode cX4_saveState 43 = .ok (.iconst 1, 1) := by decide +kernel
theorem dX4_saveState_44 : decode cX4_saveState 44 = .ok (.iadd, 1) := by decide +kernel
theorem dX4_saveState_45 : decode cX4_saveState 45 = .ok (.putfield 24, 3) := by decide +kernel
theorem dX4_saveState_48 : decode cX4_saveState 48 = .ok (.return_, 1) := by decide +kernel
set_option maxRecDepth 20000 in
theorem ggX4_loadForRate_X1_readLine : GoodIn wsX4_loadForRate wsX1_readLine := goodIn_r _ [7, 8, 9, 10, 11, 12, 13, 14, 15, 16, 17, 18, 19, 20, 21, 22, 23, 86, 87, 88, 76, 77, 78, 79, 80, 81, 82, 83, 84, 85] (by decide +kernel) (by decide +kernel)
set_option maxRecDepth 20000 in
theorem gX4_loadForRate_X1_readLine : GoodIn wsX4_loadForRate (wsV RX4 89 RX1 yX1_readLine wsX1_readLine) := goodIn_app (goodIn_of _ (by decide +kernel)) ggX4_loadForRate_X1_readLine
set_option maxRecDepth 20000 in
theorem ggX4_loadForRate_X1_clearBits : GoodIn wsX4_loadForRate wsX1_clearBits := goodIn_r _ [27, 28, 29, 30, 31, 32, 86, 87, 88] (by decide +kernel) (by decide +kernel)
set_option maxRecDepth 20000 in
theorem gX4_loadForRate_X1_clearBits : GoodIn wsX4_loadForRate (wsV RX4 93 RX1 yX1_clearBits wsX1_clearBits) := goodIn_app (goodIn_of _ (by decide +kernel)) ggX4_loadForRate_X1_clearBits
set_option maxRecDepth 20000 in
theorem ggX4_loadForRate_X1_fillToBudget : GoodIn wsX4_loadForRate wsX1_fillToBudget := goodIn_r _ [36, 28, 37, 38, 39, 6, 40, 10, 41, 42, 43, 44, 8, 86, 87, 88] (by decide +kernel) (by decide +kernel)
set_option maxRecDepth 20000 in
theorem gX4_loadForRate_X1_fillToBudget : GoodIn wsX4_loadForRate (wsV RX4 236 RX1 yX1_fillToBudget wsX1_fillToBudget) := goodIn_app (goodIn_of _ (by decide +kernel)) ggX4_loadForRate_X1_fillToBudget
set_option maxRecDepth 20000 in
theorem ggX4_loadForRate_X1_settle : GoodIn wsX4_loadForRate wsX1_settle := goodIn_r _ [48, 28, 8, 49, 50, 51, 52, 53, 54, 55, 56, 57, 58, 59, 60, 61, 62, 63, 64, 65, 66, 67, 68, 69, 70, 86, 87, 88, 76, 77, 78, 79, 80, 81, 82, 83, 84, 85, 89, 90, 91, 92, 93, 94, 95, 96, 97, 98, 99, 100, 101, 102] (by decide +kernel) (by decide +kernel)
set_option maxRecDepth 20000 in
theorem gX4_loadForRate_X1_settle : GoodIn wsX4_loadForRate (wsV RX4 102 RX1 yX1_settle wsX1_settle) := goodIn_app (goodIn_of _ (by decide +kernel)) ggX4_loadForRate_X1_settle
theorem dX4_loadForRate_0 : decode cX4_loadForRate 0 = .ok (.aload_n 0, 1) := by decide +kernel
theorem dX4_loadForRate_1 : decode cX4_loadForRate 1 = .ok (.getfield 30, 3) := by decide +kernel
theorem dX4_loadForRate_4 : decode cX4_loadForRate 4 = .ok (.aload_n 1, 1) := by decide +kernel
theorem dX4_loadForRate_5 : decode cX4_loadForRate 5 = .ok (.aload_n 2, 1) := by decide +kernel
theorem dX4_loadForRate_6 : decode cX4_loadForRate 6 = .ok (.invokevirtual 89, 3) := by decide +kernel
theorem dX4_loadForRate_9 : decode cX4_loadForRate 9 = .ok (.aload_n 0, 1) := by decide +kernel
theorem dX4_loadForRate_10 : decode cX4_loadForRate 10 = .ok (.getfield 30, 3) := by decide +kernel
theorem dX4_loadForRate_13 : decode cX4_loadForRate 13 = .ok (.invokevirtual 93, 3) := by decide +kernel
theorem dX4_loadForRate_16 : decode cX4_loadForRate 16 = .ok (.aload_n 0, 1) := by decide +kernel
theorem dX4_loadForRate_17 : decode cX4_loadForRate 17 = .ok (.getfield 30, 3) := by decide +kernel
theorem dX4_loadForRate_20 : decode cX4_loadForRate 20 = .ok (.aload_n 1, 1) := by decide +kernel
theorem dX4_loadForRate_21 : decode cX4_loadForRate 21 = .ok (.getfield 75, 3) := by decide +kernel
theorem dX4_loadForRate_24 : decode cX4_loadForRate 24 = .ok (.i2l, 1) := by decide +kernel
theorem dX4_loadForRate_25 : decode cX4_loadForRate 25 = .ok (.invokevirtual 236, 3) := by decide +kernel
theorem dX4_loadForRate_28 : decode cX4_loadForRate 28 = .ok (.aload_n 0, 1) := by decide +kernel
theorem dX4_loadForRate_29 : decode cX4_loadForRate 29 = .ok (.getfield 30, 3) := by decide +kernel
theorem dX4_loadForRate_32 : decode cX4_loadForRate 32 = .ok (.aload_n 1, 1) := by decide +kernel
theorem dX4_loadForRate_33 : decode cX4_loadForRate 33 = .ok (.invokevirtual 102, 3) := by decide +kernel
theorem dX4_loadForRate_36 : decode cX4_loadForRate 36 = .ok (.ireturn, 1) := by decide +kernel
set_option maxRecDepth 20000 in
theorem ggX4_efficient_X1_readTable : GoodIn wsX4_efficient wsX1_readTable := goodIn_r _ [6, 7, 8, 9, 10, 11, 12, 13, 14, 15, 5, 16, 17, 18, 19, 20, 21, 22, 23, 24, 25, 26, 27, 28, 54, 55, 56, 57, 58, 59, 60, 61, 62, 63, 64, 65, 66] (by decide +kernel) (by decide +kernel)
set_option maxRecDepth 20000 in
theorem gX4_efficient_X1_readTable : GoodIn wsX4_efficient (wsV RX4 110 RX1 yX1_readTable wsX1_readTable) := goodIn_app (goodIn_of _ (by decide +kernel)) ggX4_efficient_X1_readTable
set_option maxRecDepth 20000 in
theorem ggX4_efficient_X1_dearestTone : GoodIn wsX4_efficient wsX1_dearestTone := goodIn_r _ [32, 8, 33, 34, 35, 5, 36, 17, 64, 65, 66] (by decide +kernel) (by decide +kernel)
set_option maxRecDepth 20000 in
theorem gX4_efficient_X1_dearestTone : GoodIn wsX4_efficient (wsV RX4 240 RX1 yX1_dearestTone wsX1_dearestTone) := goodIn_app (goodIn_of _ (by decide +kernel)) ggX4_efficient_X1_dearestTone
set_option maxRecDepth 20000 in
theorem ggX4_efficient_X1_cheapestTone : GoodIn wsX4_efficient wsX1_cheapestTone := goodIn_r _ [40, 8, 19, 41, 42, 43, 5, 44, 17, 64, 65, 66] (by decide +kernel) (by decide +kernel)
set_option maxRecDepth 20000 in
theorem gX4_efficient_X1_cheapestTone : GoodIn wsX4_efficient (wsV RX4 173 RX1 yX1_cheapestTone wsX1_cheapestTone) := goodIn_app (goodIn_of _ (by decide +kernel)) ggX4_efficient_X1_cheapestTone
set_option maxRecDepth 20000 in
theorem ggX4_efficient_X1_canSave : GoodIn wsX4_efficient wsX1_canSave := goodIn_r _ [48, 33, 34, 35, 5, 36, 17, 8, 41, 42, 43, 44, 64, 65, 66] (by decide +kernel) (by decide +kernel)
set_option maxRecDepth 20000 in
theorem gX4_efficient_X1_canSave : GoodIn wsX4_efficient (wsV RX4 243 RX1 yX1_canSave wsX1_canSave) := goodIn_app (goodIn_of _ (by decide +kernel)) ggX4_efficient_X1_canSave
theorem dX4_efficient_0 : decode cX4_efficient 0 = .ok (.aload_n 0, 1) := by decide +kernel
theorem dX4_efficient_1 : decode cX4_efficient 1 = .ok (.getfield 30, 3) := by decide +kernel
theorem dX4_efficient_4 : decode cX4_efficient 4 = .ok (.aload_n 1, 1) := by decide +kernel
theorem dX4_efficient_5 : decode cX4_efficient 5 = .ok (.aload_n 2, 1) := by decide +kernel
theorem dX4_efficient_6 : decode cX4_efficient 6 = .ok (.invokevirtual 110, 3) := by decide +kernel
theorem dX4_efficient_9 : decode cX4_efficient 9 = .ok (.aload_n 0, 1) := by decide +kernel
theorem dX4_efficient_10 : decode cX4_efficient 10 = .ok (.getfield 30, 3) := by decide +kernel
theorem dX4_efficient_13 : decode cX4_efficient 13 = .ok (.aload_n 0, 1) := by decide +kernel
theorem dX4_efficient_14 : decode cX4_efficient 14 = .ok (.getfield 30, 3) := by decide +kernel
theorem dX4_efficient_17 : decode cX4_efficient 17 = .ok (.invokevirtual 240, 3) := by decide +kernel
theorem dX4_efficient_20 : decode cX4_efficient 20 = .ok (.aload_n 0, 1) := by decide +kernel
theorem dX4_efficient_21 : decode cX4_efficient 21 = .ok (.getfield 30, 3) := by decide +kernel
theorem dX4_efficient_24 : decode cX4_efficient 24 = .ok (.iconst (-1), 1) := by decide +kernel
theorem dX4_efficient_25 : decode cX4_efficient 25 = .ok (.invokevirtual 173, 3) := by decide +kernel
theorem dX4_efficient_28 : decode cX4_efficient 28 = .ok (.invokevirtual 243, 3) := by decide +kernel
theorem dX4_efficient_31 : decode cX4_efficient 31 = .ok (.ifCond .ne 7, 3) := by decide +kernel
theorem dX4_efficient_34 : decode cX4_efficient 34 = .ok (.iconst 1, 1) := by decide +kernel
theorem dX4_efficient_35 : decode cX4_efficient 35 = .ok (.goto 4, 3) := by decide +kernel
theorem dX4_efficient_38 : decode cX4_efficient 38 = .ok (.iconst 0, 1) := by decide +kernel
theorem dX4_efficient_39 : decode cX4_efficient 39 = .ok (.ireturn, 1) := by decide +kernel
set_option maxRecDepth 20000 in
theorem ggX4_hashPair_X0_marginBeside : GoodIn wsX4_hashPair wsX0_marginBeside := goodIn_r _ [15, 16, 17, 18, 19, 20, 21, 14, 22, 23, 24, 25, 26, 27, 28, 29, 30, 31, 32, 33, 88, 89, 90, 91, 92, 93, 94, 95, 96, 97] (by decide +kernel) (by decide +kernel)
set_option maxRecDepth 20000 in
theorem gX4_hashPair_X0_marginBeside : GoodIn wsX4_hashPair (wsV RX4 131 RX0 yX0_marginBeside wsX0_marginBeside) := goodIn_app (goodIn_of _ (by decide +kernel)) ggX4_hashPair_X0_marginBeside
set_option maxRecDepth 20000 in
theorem ggX4_hashPair_X4_efficient : GoodIn wsX4_hashPair wsX4_efficient := goodIn_r _ [37, 38, 39, 40, 41, 42, 43, 44, 45, 46, 47, 48, 49, 50, 51, 52, 53, 54, 55, 56, 57, 25, 26, 14, 27, 28, 29, 18, 30, 58, 59, 60, 61, 62, 63, 64, 65, 66, 67, 68, 69, 70, 71, 72, 73, 74, 75, 76, 77, 98, 99, 100, 101, 102, 88, 89, 90, 91, 92, 93, 94, 95, 96, 97, 103, 104, 105] (by decide +kernel) (by decide +kernel)
set_option maxRecDepth 20000 in
theorem gX4_hashPair_X4_efficient : GoodIn wsX4_hashPair (wsV RX4 142 RX4 yX4_efficient wsX4_efficient) := goodIn_app (goodIn_of _ (by decide +kernel)) ggX4_hashPair_X4_efficient
set_option maxRecDepth 20000 in
theorem ggX4_hashPair_X4_hashTalk : GoodIn wsX4_hashPair wsX4_hashTalk := goodIn_r _ [80, 1, 81, 82, 83, 84, 85, 86, 87, 106, 107, 108, 109, 110, 111, 112, 113, 114, 115, 116, 117, 118, 119] (by decide +kernel) (by decide +kernel)
set_option maxRecDepth 20000 in
theorem gX4_hashPair_X4_hashTalk : GoodIn wsX4_hashPair (va_wsS RX4 247 yX4_hashTalk wsX4_hashTalk) := goodIn_app (goodIn_of _ (by decide +kernel)) ggX4_hashPair_X4_hashTalk
theorem dX4_hashPair_0 : decode cX4_hashPair 0 = .ok (.lload_n 1, 1) := by decide +kernel
theorem dX4_hashPair_1 : decode cX4_hashPair 1 = .ok (.ldc2_w 222, 3) := by decide +kernel
theorem dX4_hashPair_4 : decode cX4_hashPair 4 = .ok (.lmul, 1) := by decide +kernel
theorem dX4_hashPair_5 : decode cX4_hashPair 5 = .ok (.aload_n 3, 1) := by decide +kernel
theorem dX4_hashPair_6 : decode cX4_hashPair 6 = .ok (.getfield 75, 3) := by decide +kernel
theorem dX4_hashPair_9 : decode cX4_hashPair 9 = .ok (.i2l, 1) := by decide +kernel
theorem dX4_hashPair_10 : decode cX4_hashPair 10 = .ok (.ladd, 1) := by decide +kernel
theorem dX4_hashPair_11 : decode cX4_hashPair 11 = .ok (.lstore 5, 2) := by decide +kernel
theorem dX4_hashPair_13 : decode cX4_hashPair 13 = .ok (.iconst 0, 1) := by decide +kernel
theorem dX4_hashPair_14 : decode cX4_hashPair 14 = .ok (.istore 7, 2) := by decide +kernel
theorem dX4_hashPair_16 : decode cX4_hashPair 16 = .ok (.iload 7, 2) := by decide +kernel
theorem dX4_hashPair_18 : decode cX4_hashPair 18 = .ok (.bipush 16, 2) := by decide +kernel
theorem dX4_hashPair_20 : decode cX4_hashPair 20 = .ok (.if_icmp .ge 127, 3) := by decide +kernel
theorem dX4_hashPair_23 : decode cX4_hashPair 23 = .ok (.lload 5, 2) := by decide +kernel
theorem dX4_hashPair_25 : decode cX4_hashPair 25 = .ok (.ldc2_w 222, 3) := by decide +kernel
theorem dX4_hashPair_28 : decode cX4_hashPair 28 = .ok (.lmul, 1) := by decide +kernel
theorem dX4_hashPair_29 : decode cX4_hashPair 29 = .ok (.aload_n 3, 1) := by decide +kernel
theorem dX4_hashPair_30 : decode cX4_hashPair 30 = .ok (.getfield 49, 3) := by decide +kernel
theorem dX4_hashPair_33 : decode cX4_hashPair 33 = .ok (.iload 7, 2) := by decide +kernel
theorem dX4_hashPair_35 : decode cX4_hashPair 35 = .ok (.iaload, 1) := by decide +kernel
theorem dX4_hashPair_36 : decode cX4_hashPair 36 = .ok (.i2l, 1) := by decide +kernel
theorem dX4_hashPair_37 : decode cX4_hashPair 37 = .ok (.ladd, 1) := by decide +kernel
theorem dX4_hashPair_38 : decode cX4_hashPair 38 = .ok (.lstore 5, 2) := by decide +kernel
theorem dX4_hashPair_40 : decode cX4_hashPair 40 = .ok (.lload 5, 2) := by decide +kernel
theorem dX4_hashPair_42 : decode cX4_hashPair 42 = .ok (.ldc2_w 222, 3) := by decide +kernel
theorem dX4_hashPair_45 : decode cX4_hashPair 45 = .ok (.lmul, 1) := by decide +kernel
theorem dX4_hashPair_46 : decode cX4_hashPair 46 = .ok (.aload_n 3, 1) := by decide +kernel
theorem dX4_hashPair_47 : decode cX4_hashPair 47 = .ok (.getfield 55, 3) := by decide +kernel
theorem dX4_hashPair_50 : decode cX4_hashPair 50 = .ok (.iload 7, 2) := by decide +kernel
theorem dX4_hashPair_52 : decode cX4_hashPair 52 = .ok (.iaload, 1) := by decide +kernel
theorem dX4_hashPair_53 : decode cX4_hashPair 53 = .ok (.i2l, 1) := by decide +kernel
theorem dX4_hashPair_54 : decode cX4_hashPair 54 = .ok (.ladd, 1) := by decide +kernel
theorem dX4_hashPair_55 : decode cX4_hashPair 55 = .ok (.lstore 5, 2) := by decide +kernel
theorem dX4_hashPair_57 : decode cX4_hashPair 57 = .ok (.lload 5, 2) := by decide +kernel
theorem dX4_hashPair_59 : decode cX4_hashPair 59 = .ok (.ldc2_w 222, 3) := by decide +kernel
theorem dX4_hashPair_62 : decode cX4_hashPair 62 = .ok (.lmul, 1) := by decide +kernel
theorem dX4_hashPair_63 : decode cX4_hashPair 63 = .ok (.aload_n 3, 1) := by decide +kernel
theorem dX4_hashPair_64 : decode cX4_hashPair 64 = .ok (.getfield 71, 3) := by decide +kernel
theorem dX4_hashPair_67 : decode cX4_hashPair 67 = .ok (.iload 7, 2) := by decide +kernel
theorem dX4_hashPair_69 : decode cX4_hashPair 69 = .ok (.iaload, 1) := by decide +kernel
theorem dX4_hashPair_70 : decode cX4_hashPair 70 = .ok (.i2l, 1) := by decide +kernel
theorem dX4_hashPair_71 : decode cX4_hashPair 71 = .ok (.ladd, 1) := by decide +kernel
theorem dX4_hashPair_72 : decode cX4_hashPair 72 = .ok (.lstore 5, 2) := by decide +kernel
theorem dX4_hashPair_74 : decode cX4_hashPair 74 = .ok (.lload 5, 2) := by decide +kernel
theorem dX4_hashPair_76 : decode cX4_hashPair 76 = .ok (.ldc2_w 222, 3) := by decide +kernel
theorem dX4_hashPair_79 : decode cX4_hashPair 79 = .ok (.lmul, 1) := by decide +kernel
theorem dX4_hashPair_80 : decode cX4_hashPair 80 = .ok (.aload_n 3, 1) := by decide +kernel
theorem dX4_hashPair_81 : decode cX4_hashPair 81 = .ok (.getfield 58, 3) := by decide +kernel
theorem dX4_hashPair_84 : decode cX4_hashPair 84 = .ok (.iload 7, 2) := by decide +kernel
theorem dX4_hashPair_86 : decode cX4_hashPair 86 = .ok (.iaload, 1) := by decide +kernel
theorem dX4_hashPair_87 : decode cX4_hashPair 87 = .ok (.i2l, 1) := by decide +kernel
theorem dX4_hashPair_88 : decode cX4_hashPair 88 = .ok (.ladd, 1) := by decide +kernel
theorem dX4_hashPair_89 : decode cX4_hashPair 89 = .ok (.lstore 5, 2) := by decide +kernel
theorem dX4_hashPair_91 : decode cX4_hashPair 91 = .ok (.lload 5, 2) := by decide +kernel
theorem dX4_hashPair_93 : decode cX4_hashPair 93 = .ok (.ldc2_w 222, 3) := by decide +kernel
theorem dX4_hashPair_96 : decode cX4_hashPair 96 = .ok (.lmul, 1) := by decide +kernel
theorem dX4_hashPair_97 : decode cX4_hashPair 97 = .ok (.aload_n 3, 1) := by decide +kernel
theorem dX4_hashPair_98 : decode cX4_hashPair 98 = .ok (.getfield 61, 3) := by decide +kernel
theorem dX4_hashPair_101 : decode cX4_hashPair 101 = .ok (.iload 7, 2) := by decide +kernel
theorem dX4_hashPair_103 : decode cX4_hashPair 103 = .ok (.iaload, 1) := by decide +kernel
theorem dX4_hashPair_104 : decode cX4_hashPair 104 = .ok (.i2l, 1) := by decide +kernel
theorem dX4_hashPair_105 : decode cX4_hashPair 105 = .ok (.ladd, 1) := by decide +kernel
theorem dX4_hashPair_106 : decode cX4_hashPair 106 = .ok (.lstore 5, 2) := by decide +kernel
theorem dX4_hashPair_108 : decode cX4_hashPair 108 = .ok (.lload 5, 2) := by decide +kernel
theorem dX4_hashPair_110 : decode cX4_hashPair 110 = .ok (.ldc2_w 222, 3) := by decide +kernel
theorem dX4_hashPair_113 : decode cX4_hashPair 113 = .ok (.lmul, 1) := by decide +kernel
theorem dX4_hashPair_114 : decode cX4_hashPair 114 = .ok (.aload_n 3, 1) := by decide +kernel
theorem dX4_hashPair_115 : decode cX4_hashPair 115 = .ok (.getfield 123, 3) := by decide +kernel
theorem dX4_hashPair_118 : decode cX4_hashPair 118 = .ok (.iload 7, 2) := by decide +kernel
theorem dX4_hashPair_120 : decode cX4_hashPair 120 = .ok (.laload, 1) := by decide +kernel
theorem dX4_hashPair_121 : decode cX4_hashPair 121 = .ok (.ladd, 1) := by decide +kernel
theorem dX4_hashPair_122 : decode cX4_hashPair 122 = .ok (.lstore 5, 2) := by decide +kernel
theorem dX4_hashPair_124 : decode cX4_hashPair 124 = .ok (.lload 5, 2) := by decide +kernel
theorem dX4_hashPair_126 : decode cX4_hashPair 126 = .ok (.ldc2_w 222, 3) := by decide +kernel
theorem dX4_hashPair_129 : decode cX4_hashPair 129 = .ok (.lmul, 1) := by decide +kernel
theorem dX4_hashPair_130 : decode cX4_hashPair 130 = .ok (.aload_n 3, 1) := by decide +kernel
theorem dX4_hashPair_131 : decode cX4_hashPair 131 = .ok (.aload 4, 2) := by decide +kernel
theorem dX4_hashPair_133 : decode cX4_hashPair 133 = .ok (.iload 7, 2) := by decide +kernel
theorem dX4_hashPair_135 : decode cX4_hashPair 135 = .ok (.invokevirtual 131, 3) := by decide +kernel
theorem dX4_hashPair_138 : decode cX4_hashPair 138 = .ok (.ladd, 1) := by decide +kernel
theorem dX4_hashPair_139 : decode cX4_hashPair 139 = .ok (.lstore 5, 2) := by decide +kernel
theorem dX4_hashPair_141 : decode cX4_hashPair 141 = .ok (.iinc 7 1, 3) := by decide +kernel
theorem dX4_hashPair_144 : decode cX4_hashPair 144 = .ok (.goto (-128), 3) := by decide +kernel
theorem dX4_hashPair_147 : decode cX4_hashPair 147 = .ok (.lload 5, 2) := by decide +kernel
theorem dX4_hashPair_149 : decode cX4_hashPair 149 = .ok (.ldc2_w 222, 3) := by decide +kernel
theorem dX4_hashPair_152 : decode cX4_hashPair 152 = .ok (.lmul, 1) := by decide +kernel
theorem dX4_hashPair_153 : decode cX4_hashPair 153 = .ok (.aload_n 0, 1) := by decide +kernel
theorem dX4_hashPair_154 : decode cX4_hashPair 154 = .ok (.aload_n 3, 1) := by decide +kernel
theorem dX4_hashPair_155 : decode cX4_hashPair 155 = .ok (.aload 4, 2) := by decide +kernel
theorem dX4_hashPair_157 : decode cX4_hashPair 157 = .ok (.invokevirtual 142, 3) := by decide +kernel
theorem dX4_hashPair_160 : decode cX4_hashPair 160 = .ok (.ifCond .eq 7, 3) := by decide +kernel
theorem dX4_hashPair_163 : decode cX4_hashPair 163 = .ok (.iconst 1, 1) := by decide +kernel
theorem dX4_hashPair_164 : decode cX4_hashPair 164 = .ok (.goto 4, 3) := by decide +kernel
theorem dX4_hashPair_167 : decode cX4_hashPair 167 = .ok (.iconst 0, 1) := by decide +kernel
theorem dX4_hashPair_168 : decode cX4_hashPair 168 = .ok (.i2l, 1) := by decide +kernel
theorem dX4_hashPair_169 : decode cX4_hashPair 169 = .ok (.ladd, 1) := by decide +kernel
theorem dX4_hashPair_170 : decode cX4_hashPair 170 = .ok (.lstore 5, 2) := by decide +kernel
theorem dX4_hashPair_172 : decode cX4_hashPair 172 = .ok (.lload 5, 2) := by decide +kernel
theorem dX4_hashPair_174 : decode cX4_hashPair 174 = .ok (.aload_n 3, 1) := by decide +kernel
theorem dX4_hashPair_175 : decode cX4_hashPair 175 = .ok (.getfield 152, 3) := by decide +kernel
theorem dX4_hashPair_178 : decode cX4_hashPair 178 = .ok (.invokestatic 247, 3) := by decide +kernel
theorem dX4_hashPair_181 : decode cX4_hashPair 181 = .ok (.lstore 5, 2) := by decide +kernel
theorem dX4_hashPair_183 : decode cX4_hashPair 183 = .ok (.lload 5, 2) := by decide +kernel
theorem dX4_hashPair_185 : decode cX4_hashPair 185 = .ok (.ldc2_w 222, 3) := by decide +kernel
theorem dX4_hashPair_188 : decode cX4_hashPair 188 = .ok (.lmul, 1) := by decide +kernel
theorem dX4_hashPair_189 : decode cX4_hashPair 189 = .ok (.aload_n 3, 1) := by decide +kernel
theorem dX4_hashPair_190 : decode cX4_hashPair 190 = .ok (.getfield 202, 3) := by decide +kernel
theorem dX4_hashPair_193 : decode cX4_hashPair 193 = .ok (.i2l, 1) := by decide +kernel
theorem dX4_hashPair_194 : decode cX4_hashPair 194 = .ok (.ladd, 1) := by decide +kernel
theorem dX4_hashPair_195 : decode cX4_hashPair 195 = .ok (.lreturn, 1) := by decide +kernel
theorem dX4_hashTalk_0 : decode cX4_hashTalk 0 = .ok (.lload_n 0, 1) := by decide +kernel
theorem dX4_hashTalk_1 : decode cX4_hashTalk 1 = .ok (.ldc2_w 222, 3) := by decide +kernel
theorem dX4_hashTalk_4 : decode cX4_hashTalk 4 = .ok (.lmul, 1) := by decide +kernel
theorem dX4_hashTalk_5 : decode cX4_hashTalk 5 = .ok (.aload_n 2, 1) := by decide +kernel
theorem dX4_hashTalk_6 : decode cX4_hashTalk 6 = .ok (.getfield 156, 3) := by decide +kernel
theorem dX4_hashTalk_9 : decode cX4_hashTalk 9 = .ok (.ifCond .eq 7, 3) := by decide +kernel
theorem dX4_hashTalk_12 : decode cX4_hashTalk 12 = .ok (.iconst 1, 1) := by decide +kernel
theorem dX4_hashTalk_13 : decode cX4_hashTalk 13 = .ok (.goto 4, 3) := by decide +kernel
theorem dX4_hashTalk_16 : decode cX4_hashTalk 16 = .ok (.iconst 0, 1) := by decide +kernel
theorem dX4_hashTalk_17 : decode cX4_hashTalk 17 = .ok (.i2l, 1) := by decide +kernel
theorem dX4_hashTalk_18 : decode cX4_hashTalk 18 = .ok (.ladd, 1) := by decide +kernel
theorem dX4_hashTalk_19 : decode cX4_hashTalk 19 = .ok (.lstore_n 3, 1) := by decide +kernel
theorem dX4_hashTalk_20 : decode cX4_hashTalk 20 = .ok (.aload_n 2, 1) := by decide +kernel
theorem dX4_hashTalk_21 : decode cX4_hashTalk 21 = .ok (.getfield 156, 3) := by decide +kernel
theorem dX4_hashTalk_24 : decode cX4_hashTalk 24 = .ok (.ifCond .eq 51, 3) := by decide +kernel
theorem dX4_hashTalk_27 : decode cX4_hashTalk 27 = .ok (.lload_n 3, 1) := by decide +kernel
theorem dX4_hashTalk_28 : decode cX4_hashTalk 28 = .ok (.ldc2_w 222, 3) := by decide +kernel
theorem dX4_hashTalk_31 : decode cX4_hashTalk 31 = .ok (.lmul, 1) := by decide +kernel
theorem dX4_hashTalk_32 : decode cX4_hashTalk 32 = .ok (.aload_n 2, 1) := by decide +kernel
theorem dX4_hashTalk_33 : decode cX4_hashTalk 33 = .ok (.getfield 182, 3) := by decide +kernel
theorem dX4_hashTalk_36 : decode cX4_hashTalk 36 = .ok (.i2l, 1) := by decide +kernel
theorem dX4_hashTalk_37 : decode cX4_hashTalk 37 = .ok (.ladd, 1) := by decide +kernel
theorem dX4_hashTalk_38 : decode cX4_hashTalk 38 = .ok (.lstore_n 3, 1) := by decide +kernel
theorem dX4_hashTalk_39 : decode cX4_hashTalk 39 = .ok (.lload_n 3, 1) := by decide +kernel
theorem dX4_hashTalk_40 : decode cX4_hashTalk 40 = .ok (.ldc2_w 222, 3) := by decide +kernel
theorem dX4_hashTalk_43 : decode cX4_hashTalk 43 = .ok (.lmul, 1) := by decide +kernel
theorem dX4_hashTalk_44 : decode cX4_hashTalk 44 = .ok (.aload_n 2, 1) := by decide +kernel
theorem dX4_hashTalk_45 : decode cX4_hashTalk 45 = .ok (.getfield 251, 3) := by decide +kernel
theorem dX4_hashTalk_48 : decode cX4_hashTalk 48 = .ok (.i2l, 1) := by decide +kernel
theorem dX4_hashTalk_49 : decode cX4_hashTalk 49 = .ok (.ladd, 1) := by decide +kernel
theorem dX4_hashTalk_50 : decode cX4_hashTalk 50 = .ok (.lstore_n 3, 1) := by decide +kernel
theorem dX4_hashTalk_51 : decode cX4_hashTalk 51 = .ok (.lload_n 3, 1) := by decide +kernel
theorem dX4_hashTalk_52 : decode cX4_hashTalk 52 = .ok (.ldc2_w 222, 3) := by decide +kernel
theorem dX4_hashTalk_55 : decode cX4_hashTalk 55 = .ok (.lmul, 1) := by decide +kernel
theorem dX4_hashTalk_56 : decode cX4_hashTalk 56 = .ok (.aload_n 2, 1) := by decide +kernel
theorem dX4_hashTalk_57 : decode cX4_hashTalk 57 = .ok (.getfield 254, 3) := by decide +kernel
theorem dX4_hashTalk_60 : decode cX4_hashTalk 60 = .ok (.i2l, 1) := by decide +kernel
theorem dX4_hashTalk_61 : decode cX4_hashTalk 61 = .ok (.ladd, 1) := by decide +kernel
theorem dX4_hashTalk_62 : decode cX4_hashTalk 62 = .ok (.lstore_n 3, 1) := by decide +kernel
theorem dX4_hashTalk_63 : decode cX4_hashTalk 63 = .ok (.lload_n 3, 1) := by decide +kernel
theorem dX4_hashTalk_64 : decode cX4_hashTalk 64 = .ok (.ldc2_w 222, 3) := by decide +kernel
theorem dX4_hashTalk_67 : decode cX4_hashTalk 67 = .ok (.lmul, 1) := by decide +kernel
theorem dX4_hashTalk_68 : decode cX4_hashTalk 68 = .ok (.aload_n 2, 1) := by decide +kernel
theorem dX4_hashTalk_69 : decode cX4_hashTalk 69 = .ok (.getfield 257, 3) := by decide +kernel
theorem dX4_hashTalk_72 : decode cX4_hashTalk 72 = .ok (.i2l, 1) := by decide +kernel
theorem dX4_hashTalk_73 : decode cX4_hashTalk 73 = .ok (.ladd, 1) := by decide +kernel
theorem dX4_hashTalk_74 : decode cX4_hashTalk 74 = .ok (.lstore_n 3, 1) := by decide +kernel
theorem dX4_hashTalk_75 : decode cX4_hashTalk 75 = .ok (.lload_n 3, 1) := by decide +kernel
theorem dX4_hashTalk_76 : decode cX4_hashTalk 76 = .ok (.ldc2_w 222, 3) := by decide +kernel
theorem dX4_hashTalk_79 : decode cX4_hashTalk 79 = .ok (.lmul, 1) := by decide +kernel
theorem dX4_hashTalk_80 : decode cX4_hashTalk 80 = .ok (.aload_n 2, 1) := by decide +kernel
theorem dX4_hashTalk_81 : decode cX4_hashTalk 81 = .ok (.getfield 179, 3) := by decide +kernel
theorem dX4_hashTalk_84 : decode cX4_hashTalk 84 = .ok (.ifCond .eq 7, 3) := by decide +kernel
theorem dX4_hashTalk_87 : decode cX4_hashTalk 87 = .ok (.iconst 1, 1) := by decide +kernel
theorem dX4_hashTalk_88 : decode cX4_hashTalk 88 = .ok (.goto 4, 3) := by decide +kernel
theorem dX4_hashTalk_91 : decode cX4_hashTalk 91 = .ok (.iconst 0, 1) := by decide +kernel
theorem dX4_hashTalk_92 : decode cX4_hashTalk 92 = .ok (.i2l, 1) := by decide +kernel
theorem dX4_hashTalk_93 : decode cX4_hashTalk 93 = .ok (.ladd, 1) := by decide +kernel
theorem dX4_hashTalk_94 : decode cX4_hashTalk 94 = .ok (.lstore_n 3, 1) := by decide +kernel
theorem dX4_hashTalk_95 : decode cX4_hashTalk 95 = .ok (.lload_n 3, 1) := by decide +kernel
theorem dX4_hashTalk_96 : decode cX4_hashTalk 96 = .ok (.ldc2_w 222, 3) := by decide +kernel
theorem dX4_hashTalk_99 : decode cX4_hashTalk 99 = .ok (.lmul, 1) := by decide +kernel
theorem dX4_hashTalk_100 : decode cX4_hashTalk 100 = .ok (.aload_n 2, 1) := by decide +kernel
theorem dX4_hashTalk_101 : decode cX4_hashTalk 101 = .ok (.getfield 185, 3) := by decide +kernel
theorem dX4_hashTalk_104 : decode cX4_hashTalk 104 = .ok (.ifCond .eq 7, 3) := by decide +kernel
theorem dX4_hashTalk_107 : decode cX4_hashTalk 107 = .ok (.iconst 1, 1) := by decide +kernel
theorem dX4_hashTalk_108 : decode cX4_hashTalk 108 = .ok (.goto 4, 3) := by decide +kernel
theorem dX4_hashTalk_111 : decode cX4_hashTalk 111 = .ok (.iconst 0, 1) := by decide +kernel
theorem dX4_hashTalk_112 : decode cX4_hashTalk 112 = .ok (.i2l, 1) := by decide +kernel
theorem dX4_hashTalk_113 : decode cX4_hashTalk 113 = .ok (.ladd, 1) := by decide +kernel
theorem dX4_hashTalk_114 : decode cX4_hashTalk 114 = .ok (.lreturn, 1) := by decide +kernel
theorem dX4_needFor_0 : decode cX4_needFor 0 = .ok (.lconst 1, 1) := by decide +kernel
theorem dX4_needFor_1 : decode cX4_needFor 1 = .ok (.iload_n 0, 1) := by decide +kernel
theorem dX4_needFor_2 : decode cX4_needFor 2 = .ok (.lshl, 1) := by decide +kernel
theorem dX4_needFor_3 : decode cX4_needFor 3 = .ok (.lconst 1, 1) := by decide +kernel
theorem dX4_needFor_4 : decode cX4_needFor 4 = .ok (.lsub, 1) := by decide +kernel
theorem dX4_needFor_5 : decode cX4_needFor 5 = .ok (.lload_n 1, 1) := by decide +kernel
theorem dX4_needFor_6 : decode cX4_needFor 6 = .ok (.lmul, 1) := by decide +kernel
theorem dX4_needFor_7 : decode cX4_needFor 7 = .ok (.lreturn, 1) := by decide +kernel
theorem dX4_cappedEnergy_0 : decode cX4_cappedEnergy 0 = .ok (.lload_n 0, 1) := by decide +kernel
theorem dX4_cappedEnergy_1 : decode cX4_cappedEnergy 1 = .ok (.ldc2_w 260, 3) := by decide +kernel
theorem dX4_cappedEnergy_4 : decode cX4_cappedEnergy 4 = .ok (.lcmp, 1) := by decide +kernel
theorem dX4_cappedEnergy_5 : decode cX4_cappedEnergy 5 = .ok (.ifCond .le 9, 3) := by decide +kernel
theorem dX4_cappedEnergy_8 : decode cX4_cappedEnergy 8 = .ok (.ldc2_w 260, 3) := by decide +kernel
theorem dX4_cappedEnergy_11 : decode cX4_cappedEnergy 11 = .ok (.goto 4, 3) := by decide +kernel
theorem dX4_cappedEnergy_14 : decode cX4_cappedEnergy 14 = .ok (.lload_n 0, 1) := by decide +kernel
theorem dX4_cappedEnergy_15 : decode cX4_cappedEnergy 15 = .ok (.lreturn, 1) := by decide +kernel
set_option maxRecDepth 20000 in
theorem ggX5_init_X5_at : GoodIn wsX5_init wsX5_at := goodIn_r _ [14] (by decide +kernel) (by decide +kernel)
set_option maxRecDepth 20000 in
theorem gX5_init_X5_at : GoodIn wsX5_init (va_wsS RX5 19 yX5_at wsX5_at) := goodIn_app (goodIn_of _ (by decide +kernel)) ggX5_init_X5_at
set_option maxRecDepth 20000 in
theorem ggX5_init_X5_drop : GoodIn wsX5_init wsX5_drop := goodIn_r _ [18, 5, 19, 11, 12, 13, 14, 20, 21, 22, 23, 24, 25] (by decide +kernel) (by decide +kernel)
set_option maxRecDepth 20000 in
theorem gX5_init_X5_drop : GoodIn wsX5_init (wsV RX5 29 RX5 yX5_drop wsX5_drop) := goodIn_app (goodIn_of _ (by decide +kernel)) ggX5_init_X5_drop
theorem dX5_init_0 : decode cX5_init 0 = .ok (.aload_n 0, 1) := by decide +kernel
theorem dX5_init_1 : decode cX5_init 1 = .ok (.invokespecial 1, 3) := by decide +kernel
theorem dX5_init_4 : decode cX5_init 4 = .ok (.aload_n 0, 1) := by decide +kernel
theorem dX5_init_5 : decode cX5_init 5 = .ok (.sipush 233, 3) := by decide +kernel
theorem dX5_init_8 : decode cX5_init 8 = .ok (.newarray .long, 2) := by decide +kernel
theorem dX5_init_10 : decode cX5_init 10 = .ok (.putfield 7, 3) := by decide +kernel
theorem dX5_init_13 : decode cX5_init 13 = .ok (.aload_n 0, 1) := by decide +kernel
theorem dX5_init_14 : decode cX5_init 14 = .ok (.sipush 932, 3) := by decide +kernel
theorem dX5_init_17 : decode cX5_init 17 = .ok (.newarray .long, 2) := by decide +kernel
theorem dX5_init_19 : decode cX5_init 19 = .ok (.putfield 13, 3) := by decide +kernel
theorem dX5_init_22 : decode cX5_init 22 = .ok (.aload_n 0, 1) := by decide +kernel
theorem dX5_init_23 : decode cX5_init 23 = .ok (.bipush 64, 2) := by decide +kernel
theorem dX5_init_25 : decode cX5_init 25 = .ok (.newarray .long, 2) := by decide +kernel
theorem dX5_init_27 : decode cX5_init 27 = .ok (.putfield 16, 3) := by decide +kernel
theorem dX5_init_30 : decode cX5_init 30 = .ok (.iconst 0, 1) := by decide +kernel
theorem dX5_init_31 : decode cX5_init 31 = .ok (.istore_n 1, 1) := by decide +kernel
theorem dX5_init_32 : decode cX5_init 32 = .ok (.iload_n 1, 1) := by decide +kernel
theorem dX5_init_33 : decode cX5_init 33 = .ok (.iconst 2, 1) := by decide +kernel
theorem dX5_init_34 : decode cX5_init 34 = .ok (.if_icmp .ge 72, 3) := by decide +kernel
theorem dX5_init_37 : decode cX5_init 37 = .ok (.aload_n 0, 1) := by decide +kernel
theorem dX5_init_38 : decode cX5_init 38 = .ok (.getfield 7, 3) := by decide +kernel
theorem dX5_init_41 : decode cX5_init 41 = .ok (.iload_n 1, 1) := by decide +kernel
theorem dX5_init_42 : decode cX5_init 42 = .ok (.iconst 0, 1) := by decide +kernel
theorem dX5_init_43 : decode cX5_init 43 = .ok (.invokestatic 19, 3) := by decide +kernel
theorem dX5_init_46 : decode cX5_init 46 = .ok (.ldc2_w 23, 3) := by decide +kernel
theorem dX5_init_49 : decode cX5_init 49 = .ok (.lastore, 1) := by decide +kernel
theorem dX5_init_50 : decode cX5_init 50 = .ok (.iconst 0, 1) := by decide +kernel
theorem dX5_init_51 : decode cX5_init 51 = .ok (.istore_n 2, 1) := by decide +kernel
theorem dX5_init_52 : decode cX5_init 52 = .ok (.iload_n 2, 1) := by decide +kernel
theorem dX5_init_53 : decode cX5_init 53 = .ok (.bipush 16, 2) := by decide +kernel
theorem dX5_init_55 : decode cX5_init 55 = .ok (.if_icmp .ge 40, 3) := by decide +kernel
theorem dX5_init_58 : decode cX5_init 58 = .ok (.aload_n 0, 1) := by decide +kernel
theorem dX5_init_59 : decode cX5_init 59 = .ok (.getfield 7, 3) := by decide +kernel
theorem dX5_init_62 : decode cX5_init 62 = .ok (.iload_n 1, 1) := by decide +kernel
theorem dX5_init_63 : decode cX5_init 63 = .ok (.iconst 1, 1) := by decide +kernel
theorem dX5_init_64 : decode cX5_init 64 = .ok (.iload_n 2, 1) := by decide +kernel
theorem dX5_init_65 : decode cX5_init 65 = .ok (.iadd, 1) := by decide +kernel
theorem dX5_init_66 : decode cX5_init 66 = .ok (.invokestatic 19, 3) := by decide +kernel
theorem dX5_init_69 : decode cX5_init 69 = .ok (.ldc2_w 25, 3) := by decide +kernel
theorem dX5_init_72 : decode cX5_init 72 = .ok (.lastore, 1) := by decide +kernel
theorem dX5_init_73 : decode cX5_init 73 = .ok (.aload_n 0, 1) := by decide +kernel
theorem dX5_init_74 : decode cX5_init 74 = .ok (.getfield 7, 3) := by decide +kernel
theorem dX5_init_77 : decode cX5_init 77 = .ok (.iload_n 1, 1) := by decide +kernel
theorem dX5_init_78 : decode cX5_init 78 = .ok (.bipush 33, 2) := by decide +kernel
theorem dX5_init_80 : decode cX5_init 80 = .ok (.iload_n 2, 1) := by decide +kernel
theorem dX5_init_81 : decode cX5_init 81 = .ok (.iadd, 1) := by decide +kernel
theorem dX5_init_82 : decode cX5_init 82 = .ok (.invokestatic 19, 3) := by decide +kernel
theorem dX5_init_85 : decode cX5_init 85 = .ok (.ldc2_w 27, 3) := by decide +kernel
theorem dX5_init_88 : decode cX5_init 88 = .ok (.lastore, 1) := by decide +kernel
theorem dX5_init_89 : decode cX5_init 89 = .ok (.iinc 2 1, 3) := by decide +kernel
theorem dX5_init_92 : decode cX5_init 92 = .ok (.goto (-40), 3) := by decide +kernel
theorem dX5_init_95 : decode cX5_init 95 = .ok (.aload_n 0, 1) := by decide +kernel
theorem dX5_init_96 : decode cX5_init 96 = .ok (.iload_n 1, 1) := by decide +kernel
theorem dX5_init_97 : decode cX5_init 97 = .ok (.invokevirtual 29, 3) := by decide +kernel
theorem dX5_init_100 : decode cX5_init 100 = .ok (.iinc 1 1, 3) := by decide +kernel
theorem dX5_init_103 : decode cX5_init 103 = .ok (.goto (-71), 3) := by decide +kernel
theorem dX5_init_106 : decode cX5_init 106 = .ok (.return_, 1) := by decide +kernel
theorem dX5_thrown_0 : decode cX5_thrown 0 = .ok (.aload_n 0, 1) := by decide +kernel
theorem dX5_thrown_1 : decode cX5_thrown 1 = .ok (.getfield 33, 3) := by decide +kernel
theorem dX5_thrown_4 : decode cX5_thrown 4 = .ok (.ireturn, 1) := by decide +kernel
theorem dX5_at_0 : decode cX5_at 0 = .ok (.iconst 1, 1) := by decide +kernel
theorem dX5_at_1 : decode cX5_at 1 = .ok (.bipush 116, 2) := by decide +kernel
theorem dX5_at_3 : decode cX5_at 3 = .ok (.iload_n 0, 1) := by decide +kernel
theorem dX5_at_4 : decode cX5_at 4 = .ok (.imul, 1) := by decide +kernel
theorem dX5_at_5 : decode cX5_at 5 = .ok (.iadd, 1) := by decide +kernel
theorem dX5_at_6 : decode cX5_at 6 = .ok (.iload_n 1, 1) := by decide +kernel
theorem dX5_at_7 : decode cX5_at 7 = .ok (.iadd, 1) := by decide +kernel
theorem dX5_at_8 : decode cX5_at 8 = .ok (.ireturn, 1) := by decide +kernel
theorem dX5_in_0 : decode cX5_in 0 = .ok (.lload_n 0, 1) := by decide +kernel
theorem dX5_in_1 : decode cX5_in 1 = .ok (.lload_n 2, 1) := by decide +kernel
theorem dX5_in_2 : decode cX5_in 2 = .ok (.lcmp, 1) := by decide +kernel
theorem dX5_in_3 : decode cX5_in 3 = .ok (.ifCond .lt 14, 3) := by decide +kernel
theorem dX5_in_6 : decode cX5_in 6 = .ok (.lload_n 0, 1) := by decide +kernel
theorem dX5_in_7 : decode cX5_in 7 = .ok (.lload 4, 2) := by decide +kernel
theorem dX5_in_9 : decode cX5_in 9 = .ok (.lcmp, 1) := by decide +kernel
theorem dX5_in_10 : decode cX5_in 10 = .ok (.ifCond .gt 7, 3) := by decide +kernel
theorem dX5_in_13 : decode cX5_in 13 = .ok (.iconst 1, 1) := by decide +kernel
theorem dX5_in_14 : decode cX5_in 14 = .ok (.goto 4, 3) := by decide +kernel
theorem dX5_in_17 : decode cX5_in 17 = .ok (.iconst 0, 1) := by decide +kernel
theorem dX5_in_18 : decode cX5_in 18 = .ok (.ireturn, 1) := by decide +kernel
set_option maxRecDepth 20000 in
theorem ggX5_isTone_X5_in : GoodIn wsX5_isTone wsX5_in := goodIn_r _ [5] (by decide +kernel) (by decide +kernel)
set_option maxRecDepth 20000 in
theorem gX5_isTone_X5_in : GoodIn wsX5_isTone (va_wsS RX5 39 yX5_in wsX5_in) := goodIn_app (goodIn_of _ (by decide +kernel)) ggX5_isTone_X5_in
theorem dX5_isTone_0 : decode cX5_isTone 0 = .ok (.iload_n 0, 1) := by decide +kernel
theorem dX5_isTone_1 : decode cX5_isTone 1 = .ok (.i2l, 1) := by decide +kernel
theorem dX5_isTone_2 : decode cX5_isTone 2 = .ok (.lconst 0, 1) := by decide +kernel
theorem dX5_isTone_3 : decode cX5_isTone 3 = .ok (.ldc2_w 37, 3) := by decide +kernel
theorem dX5_isTone_6 : decode cX5_isTone 6 = .ok (.invokestatic 39, 3) := by decide +kernel
theorem dX5_isTone_9 : decode cX5_isTone 9 = .ok (.ireturn, 1) := by decide +kernel
set_option maxRecDepth 20000 in
theorem ggX5_isPair_X5_in : GoodIn wsX5_isPair wsX5_in := goodIn_r _ [4] (by decide +kernel) (by decide +kernel)
set_option maxRecDepth 20000 in
theorem gX5_isPair_X5_in : GoodIn wsX5_isPair (va_wsS RX5 39 yX5_in wsX5_in) := goodIn_app (goodIn_of _ (by decide +kernel)) ggX5_isPair_X5_in
theorem dX5_isPair_0 : decode cX5_isPair 0 = .ok (.iload_n 0, 1) := by decide +kernel
theorem dX5_isPair_1 : decode cX5_isPair 1 = .ok (.i2l, 1) := by decide +kernel
theorem dX5_isPair_2 : decode cX5_isPair 2 = .ok (.lconst 0, 1) := by decide +kernel
theorem dX5_isPair_3 : decode cX5_isPair 3 = .ok (.lconst 1, 1) := by decide +kernel
theorem dX5_isPair_4 : decode cX5_isPair 4 = .ok (.invokestatic 39, 3) := by decide +kernel
theorem dX5_isPair_7 : decode cX5_isPair 7 = .ok (.ireturn, 1) := by decide +kernel
theorem dX5_bad_0 : decode cX5_bad 0 = .ok (.aload_n 0, 1) := by decide +kernel
theorem dX5_bad_1 : decode cX5_bad 1 = .ok (.iload_n 1, 1) := by decide +kernel
theorem dX5_bad_2 : decode cX5_bad 2 = .ok (.putfield 33, 3) := by decide +kernel
theorem dX5_bad_5 : decode cX5_bad 5 = .ok (.iconst 0, 1) := by decide +kernel
theorem dX5_bad_6 : decode cX5_bad 6 = .ok (.ireturn, 1) := by decide +kernel
theorem dX5_save_0 : decode cX5_save 0 = .ok (.aload_n 0, 1) := by decide +kernel
theorem dX5_save_1 : decode cX5_save 1 = .ok (.getfield 43, 3) := by decide +kernel
theorem dX5_save_4 : decode cX5_save 4 = .ok (.iconst 4, 1) := by decide +kernel
theorem dX5_save_5 : decode cX5_save 5 = .ok (.if_icmp .ne 44, 3) := by decide +kernel
theorem dX5_save_8 : decode cX5_save 8 = .ok (.iconst 0, 1) := by decide +kernel
theorem dX5_save_9 : decode cX5_save 9 = .ok (.istore_n 1, 1) := by decide +kernel
theorem dX5_save_10 : decode cX5_save 10 = .ok (.iload_n 1, 1) := by decide +kernel
theorem dX5_save_11 : decode cX5_save 11 = .ok (.sipush 699, 3) := by decide +kernel
theorem dX5_save_14 : decode cX5_save 14 = .ok (.if_icmp .ge 25, 3) := by decide +kernel
theorem dX5_save_17 : decode cX5_save 17 = .ok (.aload_n 0, 1) := by decide +kernel
theorem dX5_save_18 : decode cX5_save 18 = .ok (.getfield 13, 3) := by decide +kernel
theorem dX5_save_21 : decode cX5_save 21 = .ok (.iload_n 1, 1) := by decide +kernel
theorem dX5_save_22 : decode cX5_save 22 = .ok (.aload_n 0, 1) := by decide +kernel
theorem dX5_save_23 : decode cX5_save 23 = .ok (.getfield 13, 3) := by decide +kernel
theorem dX5_save_26 : decode cX5_save 26 = .ok (.iload_n 1, 1) := by decide +kernel
theorem dX5_save_27 : decode cX5_save 27 = .ok (.sipush 233, 3) := by decide +kernel
theorem dX5_save_30 : decode cX5_save 30 = .ok (.iadd, 1) := by decide +kernel
theorem dX5_save_31 : decode cX5_save 31 = .ok (.laload, 1) := by decide +kernel
theorem dX5_save_32 : decode cX5_save 32 = .ok (.lastore, 1) := by decide +kernel
theorem dX5_save_33 : decode cX5_save 33 = .ok (.iinc 1 1, 3) := by decide +kernel
theorem dX5_save_36 : decode cX5_save 36 = .ok (.goto (-26), 3) := by decide +kernel
theorem dX5_save_39 : decode cX5_save 39 = .ok (.aload_n 0, 1) := by decide +kernel
theorem dX5_save_40 : decode cX5_save 40 = .ok (.dup, 1) := by decide +kernel
theorem dX5_save_41 : decode cX5_save 41 = .ok (.getfield 43, 3) := by decide +kernel
theorem dX5_save_44 : decode cX5_save 44 = .ok (.iconst 1, 1) := by decide +kernel
theorem dX5_save_45 : decode cX5_save 45 = .ok (.isub, 1) := by decide +kernel
theorem dX5_save_46 : decode cX5_save 46 = .ok (.putfield 43, 3) := by decide +kernel
theorem dX5_save_49 : decode cX5_save 49 = .ok (.iconst 0, 1) := by decide +kernel
theorem dX5_save_50 : decode cX5_save 50 = .ok (.istore_n 1, 1) := by decide +kernel
theorem dX5_save_51 : decode cX5_save 51 = .ok (.iload_n 1, 1) := by decide +kernel
theorem dX5_save_52 : decode cX5_save 52 = .ok (.sipush 233, 3) := by decide +kernel
theorem dX5_save_55 : decode cX5_save 55 = .ok (.if_icmp .ge 30, 3) := by decide +kernel
theorem dX5_save_58 : decode cX5_save 58 = .ok (.aload_n 0, 1) := by decide +kernel
theorem dX5_save_59 : decode cX5_save 59 = .ok (.getfield 13, 3) := by decide +kernel
theorem dX5_save_62 : decode cX5_save 62 = .ok (.sipush 233, 3) := by decide +kernel
theorem dX5_save_65 : decode cX5_save 65 = .ok (.aload_n 0, 1) := by decide +kernel
theorem dX5_save_66 : decode cX5_save 66 = .ok (.getfield 43, 3) := by decide +kernel
theorem dX5_save_69 : decode cX5_save 69 = .ok (.imul, 1) := by decide +kernel
theorem dX5_save_70 : decode cX5_save 70 = .ok (.iload_n 1, 1) := by decide +kernel
theorem dX5_save_71 : decode cX5_save 71 = .ok (.iadd, 1) := by decide +kernel
theorem dX5_save_72 : decode cX5_save 72 = .ok (.aload_n 0, 1) := by decide +kernel
theorem dX5_save_73 : decode cX5_save 73 = .ok (.getfield 7, 3) := by decide +kernel
theorem dX5_save_76 : decode cX5_save 76 = .ok (.iload_n 1, 1) := by decide +kernel
theorem dX5_save_77 : decode cX5_save 77 = .ok (.laload, 1) := by decide +kernel
theorem dX5_save_78 : decode cX5_save 78 = .ok (.lastore, 1) := by decide +kernel
theorem dX5_save_79 : decode cX5_save 79 = .ok (.iinc 1 1, 3) := by decide +kernel
theorem dX5_save_82 : decode cX5_save 82 = .ok (.goto (-31), 3) := by decide +kernel
theorem dX5_save_85 : decode cX5_save 85 = .ok (.aload_n 0, 1) := by decide +kernel
theorem dX5_save_86 : decode cX5_save 86 = .ok (.dup, 1) := by decide +kernel
theorem dX5_save_87 : decode cX5_save 87 = .ok (.getfield 43, 3) := by decide +kernel
theorem dX5_save_90 : decode cX5_save 90 = .ok (.iconst 1, 1) := by decide +kernel
theorem dX5_save_91 : decode cX5_save 91 = .ok (.iadd, 1) := by decide +kernel
theorem dX5_save_92 : decode cX5_save 92 = .ok (.putfield 43, 3) := by decide +kernel
theorem dX5_save_95 : decode cX5_save 95 = .ok (.return_, 1) := by decide +kernel
theorem dX5_back_0 : decode cX5_back 0 = .ok (.aload_n 0, 1) := by decide +kernel
theorem dX5_back_1 : decode cX5_back 1 = .ok (.dup, 1) := by decide +kernel
theorem dX5_back_2 : decode cX5_back 2 = .ok (.getfield 43, 3) := by decide +kernel
theorem dX5_back_5 : decode cX5_back 5 = .ok (.iconst 1, 1) := by decide +kernel
theorem dX5_back_6 : decode cX5_back 6 = .ok (.isub, 1) := by decide +kernel
theorem dX5_back_7 : decode cX5_back 7 = .ok (.putfield 43, 3) := by decide +kernel
theorem dX5_back_10 : decode cX5_back 10 = .ok (.iconst 0, 1) := by decide +kernel
theorem dX5_back_11 : decode cX5_back 11 = .ok (.istore_n 1, 1) := by decide +kernel
theorem dX5_back_12 : decode cX5_back 12 = .ok (.iload_n 1, 1) := by decide +kernel
theorem dX5_back_13 : decode cX5_back 13 = .ok (.sipush 233, 3) := by decide +kernel
theorem dX5_back_16 : decode cX5_back 16 = .ok (.if_icmp .ge 30, 3) := by decide +kernel
theorem dX5_back_19 : decode cX5_back 19 = .ok (.aload_n 0, 1) := by decide +kernel
theorem dX5_back_20 : decode cX5_back 20 = .ok (.getfield 7, 3) := by decide +kernel
theorem dX5_back_23 : decode cX5_back 23 = .ok (.iload_n 1, 1) := by decide +kernel
theorem dX5_back_24 : decode cX5_back 24 = .ok (.aload_n 0, 1) := by decide +kernel
theorem dX5_back_25 : decode cX5_back 25 = .ok (.getfield 13, 3) := by decide +kernel
theorem dX5_back_28 : decode cX5_back 28 = .ok (.sipush 233, 3) := by decide +kernel
theorem dX5_back_31 : decode cX5_back 31 = .ok (.aload_n 0, 1) := by decide +kernel
theorem dX5_back_32 : decode cX5_back 32 = .ok (.getfield 43, 3) := by decide +kernel
theorem dX5_back_35 : decode cX5_back 35 = .ok (.imul, 1) := by decide +kernel
theorem dX5_back_36 : decode cX5_back 36 = .ok (.iload_n 1, 1) := by decide +kernel
theorem dX5_back_37 : decode cX5_back 37 = .ok (.iadd, 1) := by decide +kernel
theorem dX5_back_38 : decode cX5_back 38 = .ok (.laload, 1) := by decide +kernel
theorem dX5_back_39 : decode cX5_back 39 = .ok (.lastore, 1) := by decide +kernel
theorem dX5_back_40 : decode cX5_back 40 = .ok (.iinc 1 1, 3) := by decide +kernel
theorem dX5_back_43 : decode cX5_back 43 = .ok (.goto (-31), 3) := by decide +kernel
theorem dX5_back_46 : decode cX5_back 46 = .ok (.return_, 1) := by decide +kernel
set_option maxRecDepth 20000 in
theorem ggX5_undo_X5_bad : GoodIn wsX5_undo wsX5_bad := goodIn_r _ [7, 1, 14, 15, 16, 17, 18, 19] (by decide +kernel) (by decide +kernel)
set_option maxRecDepth 20000 in
theorem gX5_undo_X5_bad : GoodIn wsX5_undo (wsV RX5 46 RX5 yX5_bad wsX5_bad) := goodIn_app (goodIn_of _ (by decide +kernel)) ggX5_undo_X5_bad
set_option maxRecDepth 20000 in
theorem ggX5_undo_X5_back : GoodIn wsX5_undo wsX5_back := goodIn_r _ [11, 2, 12, 13, 14, 15, 16, 17, 18, 19] (by decide +kernel) (by decide +kernel)
set_option maxRecDepth 20000 in
theorem gX5_undo_X5_back : GoodIn wsX5_undo (wsV RX5 50 RX5 yX5_back wsX5_back) := goodIn_app (goodIn_of _ (by decide +kernel)) ggX5_undo_X5_back
theorem dX5_undo_0 : decode cX5_undo 0 = .ok (.aload_n 0, 1) := by decide +kernel
theorem dX5_undo_1 : decode cX5_undo 1 = .ok (.iconst 0, 1) := by decide +kernel
theorem dX5_undo_2 : decode cX5_undo 2 = .ok (.putfield 33, 3) := by decide +kernel
theorem dX5_undo_5 : decode cX5_undo 5 = .ok (.aload_n 0, 1) := by decide +kernel
theorem dX5_undo_6 : decode cX5_undo 6 = .ok (.getfield 43, 3) := by decide +kernel
theorem dX5_undo_9 : decode cX5_undo 9 = .ok (.ifCond .ne 9, 3) := by decide +kernel
theorem dX5_undo_12 : decode cX5_undo 12 = .ok (.aload_n 0, 1) := by decide +kernel
theorem dX5_undo_13 : decode cX5_undo 13 = .ok (.iconst 1, 1) := by decide +kernel
theorem dX5_undo_14 : decode cX5_undo 14 = .ok (.invokevirtual 46, 3) := by decide +kernel
theorem dX5_undo_17 : decode cX5_undo 17 = .ok (.ireturn, 1) := by decide +kernel
theorem dX5_undo_18 : decode cX5_undo 18 = .ok (.aload_n 0, 1) := by decide +kernel
theorem dX5_undo_19 : decode cX5_undo 19 = .ok (.invokevirtual 50, 3) := by decide +kernel
theorem dX5_undo_22 : decode cX5_undo 22 = .ok (.aload_n 0, 1) := by decide +kernel
theorem dX5_undo_23 : decode cX5_undo 23 = .ok (.getfield 43, 3) := by decide +kernel
theorem dX5_undo_26 : decode cX5_undo 26 = .ok (.ireturn, 1) := by decide +kernel
set_option maxRecDepth 20000 in
theorem ggX5_changed_X5_save : GoodIn wsX5_changed wsX5_save := goodIn_r _ [6, 7, 8, 1, 9, 10, 11, 12, 13, 14] (by decide +kernel) (by decide +kernel)
set_option maxRecDepth 20000 in
theorem gX5_changed_X5_save : GoodIn wsX5_changed (wsV RX5 53 RX5 yX5_save wsX5_save) := goodIn_app (goodIn_of _ (by decide +kernel)) ggX5_changed_X5_save
theorem dX5_changed_0 : decode cX5_changed 0 = .ok (.aload_n 0, 1) := by decide +kernel
theorem dX5_changed_1 : decode cX5_changed 1 = .ok (.invokevirtual 53, 3) := by decide +kernel
theorem dX5_changed_4 : decode cX5_changed 4 = .ok (.aload_n 0, 1) := by decide +kernel
theorem dX5_changed_5 : decode cX5_changed 5 = .ok (.getfield 7, 3) := by decide +kernel
theorem dX5_changed_8 : decode cX5_changed 8 = .ok (.iload_n 1, 1) := by decide +kernel
theorem dX5_changed_9 : decode cX5_changed 9 = .ok (.laload, 1) := by decide +kernel
theorem dX5_changed_10 : decode cX5_changed 10 = .ok (.l2i, 1) := by decide +kernel
theorem dX5_changed_11 : decode cX5_changed 11 = .ok (.istore_n 3, 1) := by decide +kernel
theorem dX5_changed_12 : decode cX5_changed 12 = .ok (.aload_n 0, 1) := by decide +kernel
theorem dX5_changed_13 : decode cX5_changed 13 = .ok (.getfield 7, 3) := by decide +kernel
theorem dX5_changed_16 : decode cX5_changed 16 = .ok (.iload_n 1, 1) := by decide +kernel
theorem dX5_changed_17 : decode cX5_changed 17 = .ok (.iload_n 2, 1) := by decide +kernel
theorem dX5_changed_18 : decode cX5_changed 18 = .ok (.i2l, 1) := by decide +kernel
theorem dX5_changed_19 : decode cX5_changed 19 = .ok (.lastore, 1) := by decide +kernel
theorem dX5_changed_20 : decode cX5_changed 20 = .ok (.iload_n 3, 1) := by decide +kernel
theorem dX5_changed_21 : decode cX5_changed 21 = .ok (.ireturn, 1) := by decide +kernel
set_option maxRecDepth 20000 in
theorem ggX5_setNoise_X5_isPair : GoodIn wsX5_setNoise wsX5_isPair := goodIn_r _ [6, 7, 8, 5, 9] (by decide +kernel) (by decide +kernel)
set_option maxRecDepth 20000 in
theorem gX5_setNoise_X5_isPair : GoodIn wsX5_setNoise (va_wsS RX5 56 yX5_isPair wsX5_isPair) := goodIn_app (goodIn_of _ (by decide +kernel)) ggX5_setNoise_X5_isPair
set_option maxRecDepth 20000 in
theorem ggX5_setNoise_X5_isTone : GoodIn wsX5_setNoise wsX5_isTone := goodIn_r _ [12, 13, 7, 8, 5, 9] (by decide +kernel) (by decide +kernel)
set_option maxRecDepth 20000 in
theorem gX5_setNoise_X5_isTone : GoodIn wsX5_setNoise (va_wsS RX5 60 yX5_isTone wsX5_isTone) := goodIn_app (goodIn_of _ (by decide +kernel)) ggX5_setNoise_X5_isTone
set_option maxRecDepth 20000 in
theorem ggX5_setNoise_X5_in : GoodIn wsX5_setNoise wsX5_in := goodIn_r _ [9] (by decide +kernel) (by decide +kernel)
set_option maxRecDepth 20000 in
theorem gX5_setNoise_X5_in : GoodIn wsX5_setNoise (va_wsS RX5 39 yX5_in wsX5_in) := goodIn_app (goodIn_of _ (by decide +kernel)) ggX5_setNoise_X5_in
set_option maxRecDepth 20000 in
theorem ggX5_setNoise_X5_at : GoodIn wsX5_setNoise wsX5_at := goodIn_r _ [16] (by decide +kernel) (by decide +kernel)
set_option maxRecDepth 20000 in
theorem gX5_setNoise_X5_at : GoodIn wsX5_setNoise (va_wsS RX5 19 yX5_at wsX5_at) := goodIn_app (goodIn_of _ (by decide +kernel)) ggX5_setNoise_X5_at
set_option maxRecDepth 20000 in
theorem ggX5_setNoise_X5_changed : GoodIn wsX5_setNoise wsX5_changed := goodIn_r _ [20, 21, 22, 23, 24, 5, 25, 26, 27, 28, 29, 30, 31, 32, 33] (by decide +kernel) (by decide +kernel)
set_option maxRecDepth 20000 in
theorem gX5_setNoise_X5_changed : GoodIn wsX5_setNoise (wsV RX5 65 RX5 yX5_changed wsX5_changed) := goodIn_app (goodIn_of _ (by decide +kernel)) ggX5_setNoise_X5_changed
theorem dX5_setNoise_0 : decode cX5_setNoise 0 = .ok (.aload_n 0, 1) := by decide +kernel
theorem dX5_setNoise_1 : decode cX5_setNoise 1 = .ok (.iload_n 1, 1) := by decide +kernel
theorem dX5_setNoise_2 : decode cX5_setNoise 2 = .ok (.invokestatic 56, 3) := by decide +kernel
theorem dX5_setNoise_5 : decode cX5_setNoise 5 = .ok (.ifCond .eq 30, 3) := by decide +kernel
theorem dX5_setNoise_8 : decode cX5_setNoise 8 = .ok (.iload_n 2, 1) := by decide +kernel
theorem dX5_setNoise_9 : decode cX5_setNoise 9 = .ok (.invokestatic 60, 3) := by decide +kernel
theorem dX5_setNoise_12 : decode cX5_setNoise 12 = .ok (.ifCond .eq 23, 3) := by decide +kernel
theorem dX5_setNoise_15 : decode cX5_setNoise 15 = .ok (.iload_n 3, 1) := by decide +kernel
theorem dX5_setNoise_16 : decode cX5_setNoise 16 = .ok (.i2l, 1) := by decide +kernel
theorem dX5_setNoise_17 : decode cX5_setNoise 17 = .ok (.lconst 1, 1) := by decide +kernel
theorem dX5_setNoise_18 : decode cX5_setNoise 18 = .ok (.ldc2_w 63, 3) := by decide +kernel
theorem dX5_setNoise_21 : decode cX5_setNoise 21 = .ok (.invokestatic 39, 3) := by decide +kernel
theorem dX5_setNoise_24 : decode cX5_setNoise 24 = .ok (.ifCond .eq 7, 3) := by decide +kernel
theorem dX5_setNoise_27 : decode cX5_setNoise 27 = .ok (.iconst 0, 1) := by decide +kernel
theorem dX5_setNoise_28 : decode cX5_setNoise 28 = .ok (.goto 8, 3) := by decide +kernel
theorem dX5_setNoise_31 : decode cX5_setNoise 31 = .ok (.iconst 2, 1) := by decide +kernel
theorem dX5_setNoise_32 : decode cX5_setNoise 32 = .ok (.goto 4, 3) := by decide +kernel
theorem dX5_setNoise_35 : decode cX5_setNoise 35 = .ok (.iconst 1, 1) := by decide +kernel
theorem dX5_setNoise_36 : decode cX5_setNoise 36 = .ok (.putfield 33, 3) := by decide +kernel
theorem dX5_setNoise_39 : decode cX5_setNoise 39 = .ok (.aload_n 0, 1) := by decide +kernel
theorem dX5_setNoise_40 : decode cX5_setNoise 40 = .ok (.getfield 33, 3) := by decide +kernel
theorem dX5_setNoise_43 : decode cX5_setNoise 43 = .ok (.ifCond .le 7, 3) := by decide +kernel
theorem dX5_setNoise_46 : decode cX5_setNoise 46 = .ok (.iconst 0, 1) := by decide +kernel
theorem dX5_setNoise_47 : decode cX5_setNoise 47 = .ok (.goto 15, 3) := by decide +kernel
theorem dX5_setNoise_50 : decode cX5_setNoise 50 = .ok (.aload_n 0, 1) := by decide +kernel
theorem dX5_setNoise_51 : decode cX5_setNoise 51 = .ok (.iload_n 1, 1) := by decide +kernel
theorem dX5_setNoise_52 : decode cX5_setNoise 52 = .ok (.iconst 1, 1) := by decide +kernel
theorem dX5_setNoise_53 : decode cX5_setNoise 53 = .ok (.iload_n 2, 1) := by decide +kernel
theorem dX5_setNoise_54 : decode cX5_setNoise 54 = .ok (.iadd, 1) := by decide +kernel
theorem dX5_setNoise_55 : decode cX5_setNoise 55 = .ok (.invokestatic 19, 3) := by decide +kernel
theorem dX5_setNoise_58 : decode cX5_setNoise 58 = .ok (.iload_n 3, 1) := by decide +kernel
theorem dX5_setNoise_59 : decode cX5_setNoise 59 = .ok (.invokevirtual 65, 3) := by decide +kernel
theorem dX5_setNoise_62 : decode cX5_setNoise 62 = .ok (.ireturn, 1) := by decide +kernel
set_option maxRecDepth 20000 in
theorem ggX5_setCoupling_X5_isPair : GoodIn wsX5_setCoupling wsX5_isPair := goodIn_r _ [6, 7, 8, 5, 9] (by decide +kernel) (by decide +kernel)
set_option maxRecDepth 20000 in
theorem gX5_setCoupling_X5_isPair : GoodIn wsX5_setCoupling (va_wsS RX5 56 yX5_isPair wsX5_isPair) := goodIn_app (goodIn_of _ (by decide +kernel)) ggX5_setCoupling_X5_isPair
set_option maxRecDepth 20000 in
theorem ggX5_setCoupling_X5_isTone : GoodIn wsX5_setCoupling wsX5_isTone := goodIn_r _ [12, 13, 7, 8, 5, 9] (by decide +kernel) (by decide +kernel)
set_option maxRecDepth 20000 in
theorem gX5_setCoupling_X5_isTone : GoodIn wsX5_setCoupling (va_wsS RX5 60 yX5_isTone wsX5_isTone) := goodIn_app (goodIn_of _ (by decide +kernel)) ggX5_setCoupling_X5_isTone
set_option maxRecDepth 20000 in
theorem ggX5_setCoupling_X5_in : GoodIn wsX5_setCoupling wsX5_in := goodIn_r _ [9] (by decide +kernel) (by decide +kernel)
set_option maxRecDepth 20000 in
theorem gX5_setCoupling_X5_in : GoodIn wsX5_setCoupling (va_wsS RX5 39 yX5_in wsX5_in) := goodIn_app (goodIn_of _ (by decide +kernel)) ggX5_setCoupling_X5_in
set_option maxRecDepth 20000 in
theorem ggX5_setCoupling_X5_at : GoodIn wsX5_setCoupling wsX5_at := goodIn_r _ [16] (by decide +kernel) (by decide +kernel)
set_option maxRecDepth 20000 in
theorem gX5_setCoupling_X5_at : GoodIn wsX5_setCoupling (va_wsS RX5 19 yX5_at wsX5_at) := goodIn_app (goodIn_of _ (by decide +kernel)) ggX5_setCoupling_X5_at
set_option maxRecDepth 20000 in
theorem ggX5_setCoupling_X5_changed : GoodIn wsX5_setCoupling wsX5_changed := goodIn_r _ [20, 21, 22, 23, 24, 5, 25, 26, 27, 28, 29, 30, 31, 32, 33] (by decide +kernel) (by decide +kernel)
set_option maxRecDepth 20000 in
theorem gX5_setCoupling_X5_changed : GoodIn wsX5_setCoupling (wsV RX5 65 RX5 yX5_changed wsX5_changed) := goodIn_app (goodIn_of _ (by decide +kernel)) ggX5_setCoupling_X5_changed
