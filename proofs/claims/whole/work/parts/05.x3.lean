theorem dX3_init_0 : decode cX3_init 0 = .ok (.aload_n 0, 1) := by decide +kernel
theorem dX3_init_1 : decode cX3_init 1 = .ok (.invokespecial 3, 3) := by decide +kernel
theorem dX3_init_4 : decode cX3_init 4 = .ok (.aload_n 0, 1) := by decide +kernel
theorem dX3_init_5 : decode cX3_init 5 = .ok (.iload_n 1, 1) := by decide +kernel
theorem dX3_init_6 : decode cX3_init 6 = .ok (.newarray .int, 2) := by decide +kernel
theorem dX3_init_8 : decode cX3_init 8 = .ok (.putfield 9, 3) := by decide +kernel
theorem dX3_init_11 : decode cX3_init 11 = .ok (.return_, 1) := by decide +kernel
theorem dX3_setZero_0 : decode cX3_setZero 0 = .ok (.aload_n 0, 1) := by decide +kernel
theorem dX3_setZero_1 : decode cX3_setZero 1 = .ok (.iconst 0, 1) := by decide +kernel
theorem dX3_setZero_2 : decode cX3_setZero 2 = .ok (.putfield 15, 3) := by decide +kernel
theorem dX3_setZero_5 : decode cX3_setZero 5 = .ok (.aload_n 0, 1) := by decide +kernel
theorem dX3_setZero_6 : decode cX3_setZero 6 = .ok (.iconst 0, 1) := by decide +kernel
theorem dX3_setZero_7 : decode cX3_setZero 7 = .ok (.putfield 19, 3) := by decide +kernel
theorem dX3_setZero_10 : decode cX3_setZero 10 = .ok (.return_, 1) := by decide +kernel
theorem dX3_copyFrom_0 : decode cX3_copyFrom 0 = .ok (.aload_n 1, 1) := by decide +kernel
theorem dX3_copyFrom_1 : decode cX3_copyFrom 1 = .ok (.getfield 9, 3) := by decide +kernel
theorem dX3_copyFrom_4 : decode cX3_copyFrom 4 = .ok (.iconst 0, 1) := by decide +kernel
theorem dX3_copyFrom_5 : decode cX3_copyFrom 5 = .ok (.aload_n 0, 1) := by decide +kernel
theorem dX3_copyFrom_6 : decode cX3_copyFrom 6 = .ok (.getfield 9, 3) := by decide +kernel
theorem dX3_copyFrom_9 : decode cX3_copyFrom 9 = .ok (.iconst 0, 1) := by decide +kernel
theorem dX3_copyFrom_10 : decode cX3_copyFrom 10 = .ok (.aload_n 1, 1) := by decide +kernel
theorem dX3_copyFrom_11 : decode cX3_copyFrom 11 = .ok (.getfield 15, 3) := by decide +kernel
theorem dX3_copyFrom_14 : decode cX3_copyFrom 14 = .ok (.invokestatic 22, 3) := by decide +kernel
theorem dX3_copyFrom_17 : decode cX3_copyFrom 17 = .ok (.aload_n 0, 1) := by decide +kernel
theorem dX3_copyFrom_18 : decode cX3_copyFrom 18 = .ok (.aload_n 1, 1) := by decide +kernel
theorem dX3_copyFrom_19 : decode cX3_copyFrom 19 = .ok (.getfield 15, 3) := by decide +kernel
theorem dX3_copyFrom_22 : decode cX3_copyFrom 22 = .ok (.putfield 15, 3) := by decide +kernel
theorem dX3_copyFrom_25 : decode cX3_copyFrom 25 = .ok (.aload_n 0, 1) := by decide +kernel
theorem dX3_copyFrom_26 : decode cX3_copyFrom 26 = .ok (.aload_n 1, 1) := by decide +kernel
theorem dX3_copyFrom_27 : decode cX3_copyFrom 27 = .ok (.getfield 19, 3) := by decide +kernel
theorem dX3_copyFrom_30 : decode cX3_copyFrom 30 = .ok (.putfield 19, 3) := by decide +kernel
theorem dX3_copyFrom_33 : decode cX3_copyFrom 33 = .ok (.return_, 1) := by decide +kernel
theorem dX3_settle_0 : decode cX3_settle 0 = .ok (.aload_n 0, 1) := by decide +kernel
theorem dX3_settle_1 : decode cX3_settle 1 = .ok (.iload_n 1, 1) := by decide +kernel
theorem dX3_settle_2 : decode cX3_settle 2 = .ok (.putfield 15, 3) := by decide +kernel
theorem dX3_settle_5 : decode cX3_settle 5 = .ok (.aload_n 0, 1) := by decide +kernel
theorem dX3_settle_6 : decode cX3_settle 6 = .ok (.getfield 15, 3) := by decide +kernel
theorem dX3_settle_9 : decode cX3_settle 9 = .ok (.ifCond .le 30, 3) := by decide +kernel
theorem dX3_settle_12 : decode cX3_settle 12 = .ok (.aload_n 0, 1) := by decide +kernel
theorem dX3_settle_13 : decode cX3_settle 13 = .ok (.getfield 9, 3) := by decide +kernel
theorem dX3_settle_16 : decode cX3_settle 16 = .ok (.aload_n 0, 1) := by decide +kernel
theorem dX3_settle_17 : decode cX3_settle 17 = .ok (.getfield 15, 3) := by decide +kernel
theorem dX3_settle_20 : decode cX3_settle 20 = .ok (.iconst 1, 1) := by decide +kernel
theorem dX3_settle_21 : decode cX3_settle 21 = .ok (.isub, 1) := by decide +kernel
theorem dX3_settle_22 : decode cX3_settle 22 = .ok (.iaload, 1) := by decide +kernel
theorem dX3_settle_23 : decode cX3_settle 23 = .ok (.ifCond .ne 16, 3) := by decide +kernel
theorem dX3_settle_26 : decode cX3_settle 26 = .ok (.aload_n 0, 1) := by decide +kernel
theorem dX3_settle_27 : decode cX3_settle 27 = .ok (.dup, 1) := by decide +kernel
theorem dX3_settle_28 : decode cX3_settle 28 = .ok (.getfield 15, 3) := by decide +kernel
theorem dX3_settle_31 : decode cX3_settle 31 = .ok (.iconst 1, 1) := by decide +kernel
theorem dX3_settle_32 : decode cX3_settle 32 = .ok (.isub, 1) := by decide +kernel
theorem dX3_settle_33 : decode cX3_settle 33 = .ok (.putfield 15, 3) := by decide +kernel
theorem dX3_settle_36 : decode cX3_settle 36 = .ok (.goto (-31), 3) := by decide +kernel
theorem dX3_settle_39 : decode cX3_settle 39 = .ok (.aload_n 0, 1) := by decide +kernel
theorem dX3_settle_40 : decode cX3_settle 40 = .ok (.aload_n 0, 1) := by decide +kernel
theorem dX3_settle_41 : decode cX3_settle 41 = .ok (.getfield 15, 3) := by decide +kernel
theorem dX3_settle_44 : decode cX3_settle 44 = .ok (.ifCond .ne 7, 3) := by decide +kernel
theorem dX3_settle_47 : decode cX3_settle 47 = .ok (.iconst 0, 1) := by decide +kernel
theorem dX3_settle_48 : decode cX3_settle 48 = .ok (.goto 4, 3) := by decide +kernel
theorem dX3_settle_51 : decode cX3_settle 51 = .ok (.iload_n 2, 1) := by decide +kernel
theorem dX3_settle_52 : decode cX3_settle 52 = .ok (.putfield 19, 3) := by decide +kernel
theorem dX3_settle_55 : decode cX3_settle 55 = .ok (.return_, 1) := by decide +kernel
theorem dX3_digit_0 : decode cX3_digit 0 = .ok (.iload_n 1, 1) := by decide +kernel
theorem dX3_digit_1 : decode cX3_digit 1 = .ok (.aload_n 0, 1) := by decide +kernel
theorem dX3_digit_2 : decode cX3_digit 2 = .ok (.getfield 15, 3) := by decide +kernel
theorem dX3_digit_5 : decode cX3_digit 5 = .ok (.if_icmp .ge 12, 3) := by decide +kernel
theorem dX3_digit_8 : decode cX3_digit 8 = .ok (.aload_n 0, 1) := by decide +kernel
theorem dX3_digit_9 : decode cX3_digit 9 = .ok (.getfield 9, 3) := by decide +kernel
theorem dX3_digit_12 : decode cX3_digit 12 = .ok (.iload_n 1, 1) := by decide +kernel
theorem dX3_digit_13 : decode cX3_digit 13 = .ok (.iaload, 1) := by decide +kernel
theorem dX3_digit_14 : decode cX3_digit 14 = .ok (.goto 4, 3) := by decide +kernel
theorem dX3_digit_17 : decode cX3_digit 17 = .ok (.iconst 0, 1) := by decide +kernel
theorem dX3_digit_18 : decode cX3_digit 18 = .ok (.ireturn, 1) := by decide +kernel
set_option maxRecDepth 20000 in
theorem ggX3_compareSize_J6_compare_7cf53 : GoodIn wsX3_compareSize wsJ6_compare_7cf53 := goodIn_r _ [6] (by decide +kernel) (by decide +kernel)
set_option maxRecDepth 20000 in
theorem gX3_compareSize_J6_compare_7cf53 : GoodIn wsX3_compareSize (va_wsS RX3 28 yJ6_compare_7cf53 wsJ6_compare_7cf53) := goodIn_app (goodIn_of _ (by decide +kernel)) ggX3_compareSize_J6_compare_7cf53
theorem dX3_compareSize_0 : decode cX3_compareSize 0 = .ok (.aload_n 0, 1) := by decide +kernel
theorem dX3_compareSize_1 : decode cX3_compareSize 1 = .ok (.getfield 15, 3) := by decide +kernel
theorem dX3_compareSize_4 : decode cX3_compareSize 4 = .ok (.aload_n 1, 1) := by decide +kernel
theorem dX3_compareSize_5 : decode cX3_compareSize 5 = .ok (.getfield 15, 3) := by decide +kernel
theorem dX3_compareSize_8 : decode cX3_compareSize 8 = .ok (.if_icmp .eq 15, 3) := by decide +kernel
theorem dX3_compareSize_11 : decode cX3_compareSize 11 = .ok (.aload_n 0, 1) := by decide +kernel
theorem dX3_compareSize_12 : decode cX3_compareSize 12 = .ok (.getfield 15, 3) := by decide +kernel
theorem dX3_compareSize_15 : decode cX3_compareSize 15 = .ok (.aload_n 1, 1) := by decide +kernel
theorem dX3_compareSize_16 : decode cX3_compareSize 16 = .ok (.getfield 15, 3) := by decide +kernel
theorem dX3_compareSize_19 : decode cX3_compareSize 19 = .ok (.invokestatic 28, 3) := by decide +kernel
theorem dX3_compareSize_22 : decode cX3_compareSize 22 = .ok (.ireturn, 1) := by decide +kernel
theorem dX3_compareSize_23 : decode cX3_compareSize 23 = .ok (.aload_n 0, 1) := by decide +kernel
theorem dX3_compareSize_24 : decode cX3_compareSize 24 = .ok (.getfield 15, 3) := by decide +kernel
theorem dX3_compareSize_27 : decode cX3_compareSize 27 = .ok (.iconst 1, 1) := by decide +kernel
theorem dX3_compareSize_28 : decode cX3_compareSize 28 = .ok (.isub, 1) := by decide +kernel
theorem dX3_compareSize_29 : decode cX3_compareSize 29 = .ok (.istore_n 2, 1) := by decide +kernel
theorem dX3_compareSize_30 : decode cX3_compareSize 30 = .ok (.iload_n 2, 1) := by decide +kernel
theorem dX3_compareSize_31 : decode cX3_compareSize 31 = .ok (.ifCond .lt 40, 3) := by decide +kernel
theorem dX3_compareSize_34 : decode cX3_compareSize 34 = .ok (.aload_n 0, 1) := by decide +kernel
theorem dX3_compareSize_35 : decode cX3_compareSize 35 = .ok (.getfield 9, 3) := by decide +kernel
theorem dX3_compareSize_38 : decode cX3_compareSize 38 = .ok (.iload_n 2, 1) := by decide +kernel
theorem dX3_compareSize_39 : decode cX3_compareSize 39 = .ok (.iaload, 1) := by decide +kernel
theorem dX3_compareSize_40 : decode cX3_compareSize 40 = .ok (.aload_n 1, 1) := by decide +kernel
theorem dX3_compareSize_41 : decode cX3_compareSize 41 = .ok (.getfield 9, 3) := by decide +kernel
theorem dX3_compareSize_44 : decode cX3_compareSize 44 = .ok (.iload_n 2, 1) := by decide +kernel
theorem dX3_compareSize_45 : decode cX3_compareSize 45 = .ok (.iaload, 1) := by decide +kernel
theorem dX3_compareSize_46 : decode cX3_compareSize 46 = .ok (.if_icmp .eq 19, 3) := by decide +kernel
theorem dX3_compareSize_49 : decode cX3_compareSize 49 = .ok (.aload_n 0, 1) := by decide +kernel
theorem dX3_compareSize_50 : decode cX3_compareSize 50 = .ok (.getfield 9, 3) := by decide +kernel
theorem dX3_compareSize_53 : decode cX3_compareSize 53 = .ok (.iload_n 2, 1) := by decide +kernel
theorem dX3_compareSize_54 : decode cX3_compareSize 54 = .ok (.iaload, 1) := by decide +kernel
theorem dX3_compareSize_55 : decode cX3_compareSize 55 = .ok (.aload_n 1, 1) := by decide +kernel
theorem dX3_compareSize_56 : decode cX3_compareSize 56 = .ok (.getfield 9, 3) := by decide +kernel
theorem dX3_compareSize_59 : decode cX3_compareSize 59 = .ok (.iload_n 2, 1) := by decide +kernel
theorem dX3_compareSize_60 : decode cX3_compareSize 60 = .ok (.iaload, 1) := by decide +kernel
theorem dX3_compareSize_61 : decode cX3_compareSize 61 = .ok (.invokestatic 28, 3) := by decide +kernel
theorem dX3_compareSize_64 : decode cX3_compareSize 64 = .ok (.ireturn, 1) := by decide +kernel
theorem dX3_compareSize_65 : decode cX3_compareSize 65 = .ok (.iinc 2 (-1), 3) := by decide +kernel
theorem dX3_compareSize_68 : decode cX3_compareSize 68 = .ok (.goto (-38), 3) := by decide +kernel
theorem dX3_compareSize_71 : decode cX3_compareSize 71 = .ok (.iconst 0, 1) := by decide +kernel
theorem dX3_compareSize_72 : decode cX3_compareSize 72 = .ok (.ireturn, 1) := by decide +kernel
set_option maxRecDepth 20000 in
theorem ggX3_setProduct_J7_fill_fda19 : GoodIn wsX3_setProduct wsJ7_fill_fda19 := goodIn_r _ [7, 8, 9, 6, 10, 11, 12, 13, 27, 28, 29, 30] (by decide +kernel) (by decide +kernel)
set_option maxRecDepth 20000 in
theorem gX3_setProduct_J7_fill_fda19 : GoodIn wsX3_setProduct (va_wsS RX3 34 yJ7_fill_fda19 wsJ7_fill_fda19) := goodIn_app (goodIn_of _ (by decide +kernel)) ggX3_setProduct_J7_fill_fda19
set_option maxRecDepth 20000 in
theorem ggX3_setProduct_X3_addTimes : GoodIn wsX3_setProduct wsX3_addTimes := goodIn_r _ [18, 2, 1, 19, 24, 25, 26] (by decide +kernel) (by decide +kernel)
set_option maxRecDepth 20000 in
theorem gX3_setProduct_X3_addTimes : GoodIn wsX3_setProduct (wsV RX3 40 RX3 yX3_addTimes wsX3_addTimes) := goodIn_app (goodIn_of _ (by decide +kernel)) ggX3_setProduct_X3_addTimes
set_option maxRecDepth 20000 in
theorem ggX3_setProduct_X3_settle : GoodIn wsX3_setProduct wsX3_settle := goodIn_r _ [23, 2, 1, 3, 24, 25, 26] (by decide +kernel) (by decide +kernel)
set_option maxRecDepth 20000 in
theorem gX3_setProduct_X3_settle : GoodIn wsX3_setProduct (wsV RX3 44 RX3 yX3_settle wsX3_settle) := goodIn_app (goodIn_of _ (by decide +kernel)) ggX3_setProduct_X3_settle
theorem dX3_setProduct_0 : decode cX3_setProduct 0 = .ok (.aload_n 0, 1) := by decide +kernel
theorem dX3_setProduct_1 : decode cX3_setProduct 1 = .ok (.getfield 9, 3) := by decide +kernel
theorem dX3_setProduct_4 : decode cX3_setProduct 4 = .ok (.iconst 0, 1) := by decide +kernel
theorem dX3_setProduct_5 : decode cX3_setProduct 5 = .ok (.aload_n 1, 1) := by decide +kernel
theorem dX3_setProduct_6 : decode cX3_setProduct 6 = .ok (.getfield 15, 3) := by decide +kernel
theorem dX3_setProduct_9 : decode cX3_setProduct 9 = .ok (.aload_n 2, 1) := by decide +kernel
theorem dX3_setProduct_10 : decode cX3_setProduct 10 = .ok (.getfield 15, 3) := by decide +kernel
theorem dX3_setProduct_13 : decode cX3_setProduct 13 = .ok (.iadd, 1) := by decide +kernel
theorem dX3_setProduct_14 : decode cX3_setProduct 14 = .ok (.iconst 0, 1) := by decide +kernel
theorem dX3_setProduct_15 : decode cX3_setProduct 15 = .ok (.invokestatic 34, 3) := by decide +kernel
theorem dX3_setProduct_18 : decode cX3_setProduct 18 = .ok (.iconst 0, 1) := by decide +kernel
theorem dX3_setProduct_19 : decode cX3_setProduct 19 = .ok (.istore_n 3, 1) := by decide +kernel
theorem dX3_setProduct_20 : decode cX3_setProduct 20 = .ok (.iload_n 3, 1) := by decide +kernel
theorem dX3_setProduct_21 : decode cX3_setProduct 21 = .ok (.aload_n 1, 1) := by decide +kernel
theorem dX3_setProduct_22 : decode cX3_setProduct 22 = .ok (.getfield 15, 3) := by decide +kernel
theorem dX3_setProduct_25 : decode cX3_setProduct 25 = .ok (.if_icmp .ge 22, 3) := by decide +kernel
theorem dX3_setProduct_28 : decode cX3_setProduct 28 = .ok (.aload_n 0, 1) := by decide +kernel
theorem dX3_setProduct_29 : decode cX3_setProduct 29 = .ok (.aload_n 1, 1) := by decide +kernel
theorem dX3_setProduct_30 : decode cX3_setProduct 30 = .ok (.getfield 9, 3) := by decide +kernel
theorem dX3_setProduct_33 : decode cX3_setProduct 33 = .ok (.iload_n 3, 1) := by decide +kernel
theorem dX3_setProduct_34 : decode cX3_setProduct 34 = .ok (.iaload, 1) := by decide +kernel
theorem dX3_setProduct_35 : decode cX3_setProduct 35 = .ok (.i2l, 1) := by decide +kernel
theorem dX3_setProduct_36 : decode cX3_setProduct 36 = .ok (.aload_n 2, 1) := by decide +kernel
theorem dX3_setProduct_37 : decode cX3_setProduct 37 = .ok (.iload_n 3, 1) := by decide +kernel
theorem dX3_setProduct_38 : decode cX3_setProduct 38 = .ok (.invokevirtual 40, 3) := by decide +kernel
theorem dX3_setProduct_41 : decode cX3_setProduct 41 = .ok (.iinc 3 1, 3) := by decide +kernel
theorem dX3_setProduct_44 : decode cX3_setProduct 44 = .ok (.goto (-24), 3) := by decide +kernel
theorem dX3_setProduct_47 : decode cX3_setProduct 47 = .ok (.aload_n 0, 1) := by decide +kernel
theorem dX3_setProduct_48 : decode cX3_setProduct 48 = .ok (.aload_n 1, 1) := by decide +kernel
theorem dX3_setProduct_49 : decode cX3_setProduct 49 = .ok (.getfield 15, 3) := by decide +kernel
theorem dX3_setProduct_52 : decode cX3_setProduct 52 = .ok (.aload_n 2, 1) := by decide +kernel
theorem dX3_setProduct_53 : decode cX3_setProduct 53 = .ok (.getfield 15, 3) := by decide +kernel
theorem dX3_setProduct_56 : decode cX3_setProduct 56 = .ok (.iadd, 1) := by decide +kernel
theorem dX3_setProduct_57 : decode cX3_setProduct 57 = .ok (.aload_n 1, 1) := by decide +kernel
theorem dX3_setProduct_58 : decode cX3_setProduct 58 = .ok (.getfield 19, 3) := by decide +kernel
theorem dX3_setProduct_61 : decode cX3_setProduct 61 = .ok (.aload_n 2, 1) := by decide +kernel
theorem dX3_setProduct_62 : decode cX3_setProduct 62 = .ok (.getfield 19, 3) := by decide +kernel
theorem dX3_setProduct_65 : decode cX3_setProduct 65 = .ok (.imul, 1) := by decide +kernel
theorem dX3_setProduct_66 : decode cX3_setProduct 66 = .ok (.invokevirtual 44, 3) := by decide +kernel
theorem dX3_setProduct_69 : decode cX3_setProduct 69 = .ok (.return_, 1) := by decide +kernel
theorem dX3_addTimes_0 : decode cX3_addTimes 0 = .ok (.lconst 0, 1) := by decide +kernel
theorem dX3_addTimes_1 : decode cX3_addTimes 1 = .ok (.lstore 5, 2) := by decide +kernel
theorem dX3_addTimes_3 : decode cX3_addTimes 3 = .ok (.iconst 0, 1) := by decide +kernel
theorem dX3_addTimes_4 : decode cX3_addTimes 4 = .ok (.istore 7, 2) := by decide +kernel
theorem dX3_addTimes_6 : decode cX3_addTimes 6 = .ok (.iload 7, 2) := by decide +kernel
theorem dX3_addTimes_8 : decode cX3_addTimes 8 = .ok (.aload_n 3, 1) := by decide +kernel
theorem dX3_addTimes_9 : decode cX3_addTimes 9 = .ok (.getfield 15, 3) := by decide +kernel
theorem dX3_addTimes_12 : decode cX3_addTimes 12 = .ok (.if_icmp .ge 59, 3) := by decide +kernel
theorem dX3_addTimes_15 : decode cX3_addTimes 15 = .ok (.lload 5, 2) := by decide +kernel
theorem dX3_addTimes_17 : decode cX3_addTimes 17 = .ok (.lload_n 1, 1) := by decide +kernel
theorem dX3_addTimes_18 : decode cX3_addTimes 18 = .ok (.aload_n 3, 1) := by decide +kernel
theorem dX3_addTimes_19 : decode cX3_addTimes 19 = .ok (.getfield 9, 3) := by decide +kernel
theorem dX3_addTimes_22 : decode cX3_addTimes 22 = .ok (.iload 7, 2) := by decide +kernel
theorem dX3_addTimes_24 : decode cX3_addTimes 24 = .ok (.iaload, 1) := by decide +kernel
theorem dX3_addTimes_25 : decode cX3_addTimes 25 = .ok (.i2l, 1) := by decide +kernel
theorem dX3_addTimes_26 : decode cX3_addTimes 26 = .ok (.lmul, 1) := by decide +kernel
theorem dX3_addTimes_27 : decode cX3_addTimes 27 = .ok (.aload_n 0, 1) := by decide +kernel
theorem dX3_addTimes_28 : decode cX3_addTimes 28 = .ok (.getfield 9, 3) := by decide +kernel
theorem dX3_addTimes_31 : decode cX3_addTimes 31 = .ok (.iload 4, 2) := by decide +kernel
theorem dX3_addTimes_33 : decode cX3_addTimes 33 = .ok (.iload 7, 2) := by decide +kernel
theorem dX3_addTimes_35 : decode cX3_addTimes 35 = .ok (.iadd, 1) := by decide +kernel
theorem dX3_addTimes_36 : decode cX3_addTimes 36 = .ok (.iaload, 1) := by decide +kernel
theorem dX3_addTimes_37 : decode cX3_addTimes 37 = .ok (.i2l, 1) := by decide +kernel
theorem dX3_addTimes_38 : decode cX3_addTimes 38 = .ok (.ladd, 1) := by decide +kernel
theorem dX3_addTimes_39 : decode cX3_addTimes 39 = .ok (.ladd, 1) := by decide +kernel
theorem dX3_addTimes_40 : decode cX3_addTimes 40 = .ok (.lstore 5, 2) := by decide +kernel
theorem dX3_addTimes_42 : decode cX3_addTimes 42 = .ok (.aload_n 0, 1) := by decide +kernel
theorem dX3_addTimes_43 : decode cX3_addTimes 43 = .ok (.getfield 9, 3) := by decide +kernel
theorem dX3_addTimes_46 : decode cX3_addTimes 46 = .ok (.iload 4, 2) := by decide +kernel
theorem dX3_addTimes_48 : decode cX3_addTimes 48 = .ok (.iload 7, 2) := by decide +kernel
theorem dX3_addTimes_50 : decode cX3_addTimes 50 = .ok (.iadd, 1) := by decide +kernel
theorem dX3_addTimes_51 : decode cX3_addTimes 51 = .ok (.lload 5, 2) := by decide +kernel
theorem dX3_addTimes_53 : decode cX3_addTimes 53 = .ok (.l2i, 1) := by decide +kernel
theorem dX3_addTimes_54 : decode cX3_addTimes 54 = .ok (.ldc 48, 2) := by decide +kernel
theorem dX3_addTimes_56 : decode cX3_addTimes 56 = .ok (.iand, 1) := by decide +kernel
theorem dX3_addTimes_57 : decode cX3_addTimes 57 = .ok (.iastore, 1) := by decide +kernel
theorem dX3_addTimes_58 : decode cX3_addTimes 58 = .ok (.lload 5, 2) := by decide +kernel
theorem dX3_addTimes_60 : decode cX3_addTimes 60 = .ok (.bipush 31, 2) := by decide +kernel
theorem dX3_addTimes_62 : decode cX3_addTimes 62 = .ok (.lushr, 1) := by decide +kernel
theorem dX3_addTimes_63 : decode cX3_addTimes 63 = .ok (.lstore 5, 2) := by decide +kernel
theorem dX3_addTimes_65 : decode cX3_addTimes 65 = .ok (.iinc 7 1, 3) := by decide +kernel
theorem dX3_addTimes_68 : decode cX3_addTimes 68 = .ok (.goto (-62), 3) := by decide +kernel
theorem dX3_addTimes_71 : decode cX3_addTimes 71 = .ok (.aload_n 0, 1) := by decide +kernel
theorem dX3_addTimes_72 : decode cX3_addTimes 72 = .ok (.getfield 9, 3) := by decide +kernel
theorem dX3_addTimes_75 : decode cX3_addTimes 75 = .ok (.iload 4, 2) := by decide +kernel
theorem dX3_addTimes_77 : decode cX3_addTimes 77 = .ok (.aload_n 3, 1) := by decide +kernel
theorem dX3_addTimes_78 : decode cX3_addTimes 78 = .ok (.getfield 15, 3) := by decide +kernel
theorem dX3_addTimes_81 : decode cX3_addTimes 81 = .ok (.iadd, 1) := by decide +kernel
theorem dX3_addTimes_82 : decode cX3_addTimes 82 = .ok (.lload 5, 2) := by decide +kernel
theorem dX3_addTimes_84 : decode cX3_addTimes 84 = .ok (.l2i, 1) := by decide +kernel
theorem dX3_addTimes_85 : decode cX3_addTimes 85 = .ok (.iastore, 1) := by decide +kernel
theorem dX3_addTimes_86 : decode cX3_addTimes 86 = .ok (.return_, 1) := by decide +kernel
set_option maxRecDepth 20000 in
theorem ggX3_add_X3_addLimbs : GoodIn wsX3_add wsX3_addLimbs := goodIn_r _ [6, 7, 8, 9, 10, 11, 12, 13, 14, 15, 16, 5, 17, 18, 19, 20, 21, 1, 34, 35, 36] (by decide +kernel) (by decide +kernel)
set_option maxRecDepth 20000 in
theorem gX3_add_X3_addLimbs : GoodIn wsX3_add (wsV RX3 49 RX3 yX3_addLimbs wsX3_addLimbs) := goodIn_app (goodIn_of _ (by decide +kernel)) ggX3_add_X3_addLimbs
set_option maxRecDepth 20000 in
theorem ggX3_add_X3_compareSize : GoodIn wsX3_add wsX3_compareSize := goodIn_r _ [25, 7, 12, 26, 27, 28, 29, 34, 35, 36] (by decide +kernel) (by decide +kernel)
set_option maxRecDepth 20000 in
theorem gX3_add_X3_compareSize : GoodIn wsX3_add (wsV RX3 53 RX3 yX3_compareSize wsX3_compareSize) := goodIn_app (goodIn_of _ (by decide +kernel)) ggX3_add_X3_compareSize
set_option maxRecDepth 20000 in
theorem ggX3_add_X3_setDifference : GoodIn wsX3_add wsX3_setDifference := goodIn_r _ [33, 7, 12, 13, 14, 15, 16, 5, 17, 18, 19, 20, 21, 1, 34, 35, 36] (by decide +kernel) (by decide +kernel)
set_option maxRecDepth 20000 in
theorem gX3_add_X3_setDifference : GoodIn wsX3_add (wsV RX3 57 RX3 yX3_setDifference wsX3_setDifference) := goodIn_app (goodIn_of _ (by decide +kernel)) ggX3_add_X3_setDifference
theorem dX3_add_0 : decode cX3_add 0 = .ok (.aload_n 0, 1) := by decide +kernel
theorem dX3_add_1 : decode cX3_add 1 = .ok (.getfield 19, 3) := by decide +kernel
theorem dX3_add_4 : decode cX3_add 4 = .ok (.aload_n 1, 1) := by decide +kernel
theorem dX3_add_5 : decode cX3_add 5 = .ok (.getfield 19, 3) := by decide +kernel
theorem dX3_add_8 : decode cX3_add 8 = .ok (.imul, 1) := by decide +kernel
theorem dX3_add_9 : decode cX3_add 9 = .ok (.ifCond .lt 29, 3) := by decide +kernel
theorem dX3_add_12 : decode cX3_add 12 = .ok (.aload_n 0, 1) := by decide +kernel
theorem dX3_add_13 : decode cX3_add 13 = .ok (.aload_n 1, 1) := by decide +kernel
theorem dX3_add_14 : decode cX3_add 14 = .ok (.aload_n 0, 1) := by decide +kernel
theorem dX3_add_15 : decode cX3_add 15 = .ok (.getfield 19, 3) := by decide +kernel
theorem dX3_add_18 : decode cX3_add 18 = .ok (.ifCond .eq 10, 3) := by decide +kernel
theorem dX3_add_21 : decode cX3_add 21 = .ok (.aload_n 0, 1) := by decide +kernel
theorem dX3_add_22 : decode cX3_add 22 = .ok (.getfield 19, 3) := by decide +kernel
theorem dX3_add_25 : decode cX3_add 25 = .ok (.goto 7, 3) := by decide +kernel
theorem dX3_add_28 : decode cX3_add 28 = .ok (.aload_n 1, 1) := by decide +kernel
theorem dX3_add_29 : decode cX3_add 29 = .ok (.getfield 19, 3) := by decide +kernel
theorem dX3_add_32 : decode cX3_add 32 = .ok (.invokevirtual 49, 3) := by decide +kernel
theorem dX3_add_35 : decode cX3_add 35 = .ok (.goto 34, 3) := by decide +kernel
theorem dX3_add_38 : decode cX3_add 38 = .ok (.aload_n 0, 1) := by decide +kernel
theorem dX3_add_39 : decode cX3_add 39 = .ok (.aload_n 1, 1) := by decide +kernel
theorem dX3_add_40 : decode cX3_add 40 = .ok (.invokevirtual 53, 3) := by decide +kernel
theorem dX3_add_43 : decode cX3_add 43 = .ok (.ifCond .lt 16, 3) := by decide +kernel
theorem dX3_add_46 : decode cX3_add 46 = .ok (.aload_n 0, 1) := by decide +kernel
theorem dX3_add_47 : decode cX3_add 47 = .ok (.aload_n 0, 1) := by decide +kernel
theorem dX3_add_48 : decode cX3_add 48 = .ok (.aload_n 1, 1) := by decide +kernel
theorem dX3_add_49 : decode cX3_add 49 = .ok (.aload_n 0, 1) := by decide +kernel
theorem dX3_add_50 : decode cX3_add 50 = .ok (.getfield 19, 3) := by decide +kernel
theorem dX3_add_53 : decode cX3_add 53 = .ok (.invokevirtual 57, 3) := by decide +kernel
theorem dX3_add_56 : decode cX3_add 56 = .ok (.goto 13, 3) := by decide +kernel
theorem dX3_add_59 : decode cX3_add 59 = .ok (.aload_n 0, 1) := by decide +kernel
theorem dX3_add_60 : decode cX3_add 60 = .ok (.aload_n 1, 1) := by decide +kernel
theorem dX3_add_61 : decode cX3_add 61 = .ok (.aload_n 0, 1) := by decide +kernel
theorem dX3_add_62 : decode cX3_add 62 = .ok (.aload_n 1, 1) := by decide +kernel
theorem dX3_add_63 : decode cX3_add 63 = .ok (.getfield 19, 3) := by decide +kernel
theorem dX3_add_66 : decode cX3_add 66 = .ok (.invokevirtual 57, 3) := by decide +kernel
theorem dX3_add_69 : decode cX3_add 69 = .ok (.return_, 1) := by decide +kernel
set_option maxRecDepth 20000 in
theorem ggX3_addLimbs_X3_digit : GoodIn wsX3_addLimbs wsX3_digit := goodIn_r _ [12, 1, 6, 18, 19, 20] (by decide +kernel) (by decide +kernel)
set_option maxRecDepth 20000 in
theorem gX3_addLimbs_X3_digit : GoodIn wsX3_addLimbs (wsV RX3 66 RX3 yX3_digit wsX3_digit) := goodIn_app (goodIn_of _ (by decide +kernel)) ggX3_addLimbs_X3_digit
set_option maxRecDepth 20000 in
theorem ggX3_addLimbs_X3_settle : GoodIn wsX3_addLimbs wsX3_settle := goodIn_r _ [16, 1, 6, 17, 18, 19, 20] (by decide +kernel) (by decide +kernel)
set_option maxRecDepth 20000 in
theorem gX3_addLimbs_X3_settle : GoodIn wsX3_addLimbs (wsV RX3 44 RX3 yX3_settle wsX3_settle) := goodIn_app (goodIn_of _ (by decide +kernel)) ggX3_addLimbs_X3_settle
theorem dX3_addLimbs_0 : decode cX3_addLimbs 0 = .ok (.aload_n 0, 1) := by decide +kernel
theorem dX3_addLimbs_1 : decode cX3_addLimbs 1 = .ok (.getfield 15, 3) := by decide +kernel
theorem dX3_addLimbs_4 : decode cX3_addLimbs 4 = .ok (.aload_n 1, 1) := by decide +kernel
theorem dX3_addLimbs_5 : decode cX3_addLimbs 5 = .ok (.getfield 15, 3) := by decide +kernel
theorem dX3_addLimbs_8 : decode cX3_addLimbs 8 = .ok (.invokestatic 61, 3) := by decide +kernel
theorem dX3_addLimbs_11 : decode cX3_addLimbs 11 = .ok (.istore_n 3, 1) := by decide +kernel
theorem dX3_addLimbs_12 : decode cX3_addLimbs 12 = .ok (.lconst 0, 1) := by decide +kernel
theorem dX3_addLimbs_13 : decode cX3_addLimbs 13 = .ok (.lstore 4, 2) := by decide +kernel
theorem dX3_addLimbs_15 : decode cX3_addLimbs 15 = .ok (.iconst 0, 1) := by decide +kernel
theorem dX3_addLimbs_16 : decode cX3_addLimbs 16 = .ok (.istore 6, 2) := by decide +kernel
theorem dX3_addLimbs_18 : decode cX3_addLimbs 18 = .ok (.iload 6, 2) := by decide +kernel
theorem dX3_addLimbs_20 : decode cX3_addLimbs 20 = .ok (.iload_n 3, 1) := by decide +kernel
theorem dX3_addLimbs_21 : decode cX3_addLimbs 21 = .ok (.if_icmp .ge 49, 3) := by decide +kernel
theorem dX3_addLimbs_24 : decode cX3_addLimbs 24 = .ok (.lload 4, 2) := by decide +kernel
theorem dX3_addLimbs_26 : decode cX3_addLimbs 26 = .ok (.aload_n 0, 1) := by decide +kernel
theorem dX3_addLimbs_27 : decode cX3_addLimbs 27 = .ok (.iload 6, 2) := by decide +kernel
theorem dX3_addLimbs_29 : decode cX3_addLimbs 29 = .ok (.invokevirtual 66, 3) := by decide +kernel
theorem dX3_addLimbs_32 : decode cX3_addLimbs 32 = .ok (.i2l, 1) := by decide +kernel
theorem dX3_addLimbs_33 : decode cX3_addLimbs 33 = .ok (.aload_n 1, 1) := by decide +kernel
theorem dX3_addLimbs_34 : decode cX3_addLimbs 34 = .ok (.iload 6, 2) := by decide +kernel
theorem dX3_addLimbs_36 : decode cX3_addLimbs 36 = .ok (.invokevirtual 66, 3) := by decide +kernel
theorem dX3_addLimbs_39 : decode cX3_addLimbs 39 = .ok (.i2l, 1) := by decide +kernel
theorem dX3_addLimbs_40 : decode cX3_addLimbs 40 = .ok (.ladd, 1) := by decide +kernel
theorem dX3_addLimbs_41 : decode cX3_addLimbs 41 = .ok (.ladd, 1) := by decide +kernel
theorem dX3_addLimbs_42 : decode cX3_addLimbs 42 = .ok (.lstore 4, 2) := by decide +kernel
theorem dX3_addLimbs_44 : decode cX3_addLimbs 44 = .ok (.aload_n 0, 1) := by decide +kernel
theorem dX3_addLimbs_45 : decode cX3_addLimbs 45 = .ok (.getfield 9, 3) := by decide +kernel
theorem dX3_addLimbs_48 : decode cX3_addLimbs 48 = .ok (.iload 6, 2) := by decide +kernel
theorem dX3_addLimbs_50 : decode cX3_addLimbs 50 = .ok (.lload 4, 2) := by decide +kernel
theorem dX3_addLimbs_52 : decode cX3_addLimbs 52 = .ok (.l2i, 1) := by decide +kernel
theorem dX3_addLimbs_53 : decode cX3_addLimbs 53 = .ok (.ldc 48, 2) := by decide +kernel
theorem dX3_addLimbs_55 : decode cX3_addLimbs 55 = .ok (.iand, 1) := by decide +kernel
theorem dX3_addLimbs_56 : decode cX3_addLimbs 56 = .ok (.iastore, 1) := by decide +kernel
theorem dX3_addLimbs_57 : decode cX3_addLimbs 57 = .ok (.lload 4, 2) := by decide +kernel
theorem dX3_addLimbs_59 : decode cX3_addLimbs 59 = .ok (.bipush 31, 2) := by decide +kernel
theorem dX3_addLimbs_61 : decode cX3_addLimbs 61 = .ok (.lushr, 1) := by decide +kernel
theorem dX3_addLimbs_62 : decode cX3_addLimbs 62 = .ok (.lstore 4, 2) := by decide +kernel
theorem dX3_addLimbs_64 : decode cX3_addLimbs 64 = .ok (.iinc 6 1, 3) := by decide +kernel
theorem dX3_addLimbs_67 : decode cX3_addLimbs 67 = .ok (.goto (-49), 3) := by decide +kernel
theorem dX3_addLimbs_70 : decode cX3_addLimbs 70 = .ok (.lload 4, 2) := by decide +kernel
theorem dX3_addLimbs_72 : decode cX3_addLimbs 72 = .ok (.lconst 0, 1) := by decide +kernel
theorem dX3_addLimbs_73 : decode cX3_addLimbs 73 = .ok (.lcmp, 1) := by decide +kernel
theorem dX3_addLimbs_74 : decode cX3_addLimbs 74 = .ok (.ifCond .eq 15, 3) := by decide +kernel
theorem dX3_addLimbs_77 : decode cX3_addLimbs 77 = .ok (.aload_n 0, 1) := by decide +kernel
theorem dX3_addLimbs_78 : decode cX3_addLimbs 78 = .ok (.getfield 9, 3) := by decide +kernel
theorem dX3_addLimbs_81 : decode cX3_addLimbs 81 = .ok (.iload_n 3, 1) := by decide +kernel
theorem dX3_addLimbs_82 : decode cX3_addLimbs 82 = .ok (.lload 4, 2) := by decide +kernel
theorem dX3_addLimbs_84 : decode cX3_addLimbs 84 = .ok (.l2i, 1) := by decide +kernel
theorem dX3_addLimbs_85 : decode cX3_addLimbs 85 = .ok (.iastore, 1) := by decide +kernel
theorem dX3_addLimbs_86 : decode cX3_addLimbs 86 = .ok (.iinc 3 1, 3) := by decide +kernel
theorem dX3_addLimbs_89 : decode cX3_addLimbs 89 = .ok (.aload_n 0, 1) := by decide +kernel
theorem dX3_addLimbs_90 : decode cX3_addLimbs 90 = .ok (.iload_n 3, 1) := by decide +kernel
theorem dX3_addLimbs_91 : decode cX3_addLimbs 91 = .ok (.iload_n 2, 1) := by decide +kernel
theorem dX3_addLimbs_92 : decode cX3_addLimbs 92 = .ok (.invokevirtual 44, 3) := by decide +kernel
theorem dX3_addLimbs_95 : decode cX3_addLimbs 95 = .ok (.return_, 1) := by decide +kernel
set_option maxRecDepth 20000 in
theorem ggX3_setDifference_X3_digit : GoodIn wsX3_setDifference wsX3_digit := goodIn_r _ [8, 1, 2, 14, 15, 16] (by decide +kernel) (by decide +kernel)
set_option maxRecDepth 20000 in
theorem gX3_setDifference_X3_digit : GoodIn wsX3_setDifference (wsV RX3 66 RX3 yX3_digit wsX3_digit) := goodIn_app (goodIn_of _ (by decide +kernel)) ggX3_setDifference_X3_digit
set_option maxRecDepth 20000 in
theorem ggX3_setDifference_X3_settle : GoodIn wsX3_setDifference wsX3_settle := goodIn_r _ [12, 1, 2, 13, 14, 15, 16] (by decide +kernel) (by decide +kernel)
set_option maxRecDepth 20000 in
theorem gX3_setDifference_X3_settle : GoodIn wsX3_setDifference (wsV RX3 44 RX3 yX3_settle wsX3_settle) := goodIn_app (goodIn_of _ (by decide +kernel)) ggX3_setDifference_X3_settle
theorem dX3_setDifference_0 : decode cX3_setDifference 0 = .ok (.aload_n 1, 1) := by decide +kernel
theorem dX3_setDifference_1 : decode cX3_setDifference 1 = .ok (.getfield 15, 3) := by decide +kernel
theorem dX3_setDifference_4 : decode cX3_setDifference 4 = .ok (.istore 4, 2) := by decide +kernel
theorem dX3_setDifference_6 : decode cX3_setDifference 6 = .ok (.iconst 0, 1) := by decide +kernel
theorem dX3_setDifference_7 : decode cX3_setDifference 7 = .ok (.istore 5, 2) := by decide +kernel
theorem dX3_setDifference_9 : decode cX3_setDifference 9 = .ok (.iconst 0, 1) := by decide +kernel
theorem dX3_setDifference_10 : decode cX3_setDifference 10 = .ok (.istore 6, 2) := by decide +kernel
theorem dX3_setDifference_12 : decode cX3_setDifference 12 = .ok (.iload 6, 2) := by decide +kernel
theorem dX3_setDifference_14 : decode cX3_setDifference 14 = .ok (.iload 4, 2) := by decide +kernel
theorem dX3_setDifference_16 : decode cX3_setDifference 16 = .ok (.if_icmp .ge 47, 3) := by decide +kernel
theorem dX3_setDifference_19 : decode cX3_setDifference 19 = .ok (.aload_n 1, 1) := by decide +kernel
theorem dX3_setDifference_20 : decode cX3_setDifference 20 = .ok (.getfield 9, 3) := by decide +kernel
theorem dX3_setDifference_23 : decode cX3_setDifference 23 = .ok (.iload 6, 2) := by decide +kernel
theorem dX3_setDifference_25 : decode cX3_setDifference 25 = .ok (.iaload, 1) := by decide +kernel
theorem dX3_setDifference_26 : decode cX3_setDifference 26 = .ok (.aload_n 2, 1) := by decide +kernel
theorem dX3_setDifference_27 : decode cX3_setDifference 27 = .ok (.iload 6, 2) := by decide +kernel
theorem dX3_setDifference_29 : decode cX3_setDifference 29 = .ok (.invokevirtual 66, 3) := by decide +kernel
theorem dX3_setDifference_32 : decode cX3_setDifference 32 = .ok (.isub, 1) := by decide +kernel
theorem dX3_setDifference_33 : decode cX3_setDifference 33 = .ok (.iload 5, 2) := by decide +kernel
theorem dX3_setDifference_35 : decode cX3_setDifference 35 = .ok (.isub, 1) := by decide +kernel
theorem dX3_setDifference_36 : decode cX3_setDifference 36 = .ok (.istore 7, 2) := by decide +kernel
theorem dX3_setDifference_38 : decode cX3_setDifference 38 = .ok (.aload_n 0, 1) := by decide +kernel
theorem dX3_setDifference_39 : decode cX3_setDifference 39 = .ok (.getfield 9, 3) := by decide +kernel
theorem dX3_setDifference_42 : decode cX3_setDifference 42 = .ok (.iload 6, 2) := by decide +kernel
theorem dX3_setDifference_44 : decode cX3_setDifference 44 = .ok (.iload 7, 2) := by decide +kernel
theorem dX3_setDifference_46 : decode cX3_setDifference 46 = .ok (.ldc 48, 2) := by decide +kernel
theorem dX3_setDifference_48 : decode cX3_setDifference 48 = .ok (.iand, 1) := by decide +kernel
theorem dX3_setDifference_49 : decode cX3_setDifference 49 = .ok (.iastore, 1) := by decide +kernel
theorem dX3_setDifference_50 : decode cX3_setDifference 50 = .ok (.iload 7, 2) := by decide +kernel
theorem dX3_setDifference_52 : decode cX3_setDifference 52 = .ok (.bipush 31, 2) := by decide +kernel
theorem dX3_setDifference_54 : decode cX3_setDifference 54 = .ok (.iushr, 1) := by decide +kernel
theorem dX3_setDifference_55 : decode cX3_setDifference 55 = .ok (.istore 5, 2) := by decide +kernel
theorem dX3_setDifference_57 : decode cX3_setDifference 57 = .ok (.iinc 6 1, 3) := by decide +kernel
theorem dX3_setDifference_60 : decode cX3_setDifference 60 = .ok (.goto (-48), 3) := by decide +kernel
theorem dX3_setDifference_63 : decode cX3_setDifference 63 = .ok (.aload_n 0, 1) := by decide +kernel
theorem dX3_setDifference_64 : decode cX3_setDifference 64 = .ok (.iload 4, 2) := by decide +kernel
theorem dX3_setDifference_66 : decode cX3_setDifference 66 = .ok (.iload_n 3, 1) := by decide +kernel
theorem dX3_setDifference_67 : decode cX3_setDifference 67 = .ok (.invokevirtual 44, 3) := by decide +kernel
theorem dX3_setDifference_70 : decode cX3_setDifference 70 = .ok (.return_, 1) := by decide +kernel
set_option maxRecDepth 20000 in
theorem ggX3_growByOne_X3_digit : GoodIn wsX3_growByOne wsX3_digit := goodIn_r _ [12, 1, 2, 18, 19, 20] (by decide +kernel) (by decide +kernel)
set_option maxRecDepth 20000 in
theorem gX3_growByOne_X3_digit : GoodIn wsX3_growByOne (wsV RX3 66 RX3 yX3_digit wsX3_digit) := goodIn_app (goodIn_of _ (by decide +kernel)) ggX3_growByOne_X3_digit
set_option maxRecDepth 20000 in
theorem ggX3_growByOne_X3_settle : GoodIn wsX3_growByOne wsX3_settle := goodIn_r _ [16, 1, 2, 17, 18, 19, 20] (by decide +kernel) (by decide +kernel)
set_option maxRecDepth 20000 in
theorem gX3_growByOne_X3_settle : GoodIn wsX3_growByOne (wsV RX3 44 RX3 yX3_settle wsX3_settle) := goodIn_app (goodIn_of _ (by decide +kernel)) ggX3_growByOne_X3_settle
theorem dX3_growByOne_0 : decode cX3_growByOne 0 = .ok (.iconst 0, 1) := by decide +kernel
theorem dX3_growByOne_1 : decode cX3_growByOne 1 = .ok (.istore_n 2, 1) := by decide +kernel
theorem dX3_growByOne_2 : decode cX3_growByOne 2 = .ok (.iload_n 2, 1) := by decide +kernel
theorem dX3_growByOne_3 : decode cX3_growByOne 3 = .ok (.aload_n 0, 1) := by decide +kernel
theorem dX3_growByOne_4 : decode cX3_growByOne 4 = .ok (.getfield 15, 3) := by decide +kernel
theorem dX3_growByOne_7 : decode cX3_growByOne 7 = .ok (.if_icmp .ge 27, 3) := by decide +kernel
theorem dX3_growByOne_10 : decode cX3_growByOne 10 = .ok (.aload_n 0, 1) := by decide +kernel
theorem dX3_growByOne_11 : decode cX3_growByOne 11 = .ok (.getfield 9, 3) := by decide +kernel
theorem dX3_growByOne_14 : decode cX3_growByOne 14 = .ok (.iload_n 2, 1) := by decide +kernel
theorem dX3_growByOne_15 : decode cX3_growByOne 15 = .ok (.iaload, 1) := by decide +kernel
theorem dX3_growByOne_16 : decode cX3_growByOne 16 = .ok (.ldc 48, 2) := by decide +kernel
theorem dX3_growByOne_18 : decode cX3_growByOne 18 = .ok (.if_icmp .ne 16, 3) := by decide +kernel
theorem dX3_growByOne_21 : decode cX3_growByOne 21 = .ok (.aload_n 0, 1) := by decide +kernel
theorem dX3_growByOne_22 : decode cX3_growByOne 22 = .ok (.getfield 9, 3) := by decide +kernel
theorem dX3_growByOne_25 : decode cX3_growByOne 25 = .ok (.iload_n 2, 1) := by decide +kernel
theorem dX3_growByOne_26 : decode cX3_growByOne 26 = .ok (.iconst 0, 1) := by decide +kernel
theorem dX3_growByOne_27 : decode cX3_growByOne 27 = .ok (.iastore, 1) := by decide +kernel
theorem dX3_growByOne_28 : decode cX3_growByOne 28 = .ok (.iinc 2 1, 3) := by decide +kernel
theorem dX3_growByOne_31 : decode cX3_growByOne 31 = .ok (.goto (-29), 3) := by decide +kernel
theorem dX3_growByOne_34 : decode cX3_growByOne 34 = .ok (.aload_n 0, 1) := by decide +kernel
theorem dX3_growByOne_35 : decode cX3_growByOne 35 = .ok (.getfield 9, 3) := by decide +kernel
theorem dX3_growByOne_38 : decode cX3_growByOne 38 = .ok (.iload_n 2, 1) := by decide +kernel
theorem dX3_growByOne_39 : decode cX3_growByOne 39 = .ok (.aload_n 0, 1) := by decide +kernel
theorem dX3_growByOne_40 : decode cX3_growByOne 40 = .ok (.iload_n 2, 1) := by decide +kernel
theorem dX3_growByOne_41 : decode cX3_growByOne 41 = .ok (.invokevirtual 66, 3) := by decide +kernel
theorem dX3_growByOne_44 : decode cX3_growByOne 44 = .ok (.iconst 1, 1) := by decide +kernel
theorem dX3_growByOne_45 : decode cX3_growByOne 45 = .ok (.iadd, 1) := by decide +kernel
theorem dX3_growByOne_46 : decode cX3_growByOne 46 = .ok (.iastore, 1) := by decide +kernel
theorem dX3_growByOne_47 : decode cX3_growByOne 47 = .ok (.aload_n 0, 1) := by decide +kernel
theorem dX3_growByOne_48 : decode cX3_growByOne 48 = .ok (.aload_n 0, 1) := by decide +kernel
theorem dX3_growByOne_49 : decode cX3_growByOne 49 = .ok (.getfield 15, 3) := by decide +kernel
theorem dX3_growByOne_52 : decode cX3_growByOne 52 = .ok (.iload_n 2, 1) := by decide +kernel
theorem dX3_growByOne_53 : decode cX3_growByOne 53 = .ok (.iconst 1, 1) := by decide +kernel
theorem dX3_growByOne_54 : decode cX3_growByOne 54 = .ok (.iadd, 1) := by decide +kernel
theorem dX3_growByOne_55 : decode cX3_growByOne 55 = .ok (.invokestatic 61, 3) := by decide +kernel
theorem dX3_growByOne_58 : decode cX3_growByOne 58 = .ok (.iload_n 1, 1) := by decide +kernel
theorem dX3_growByOne_59 : decode cX3_growByOne 59 = .ok (.invokevirtual 44, 3) := by decide +kernel
theorem dX3_growByOne_62 : decode cX3_growByOne 62 = .ok (.return_, 1) := by decide +kernel
