theorem dX0_init_0 : decode cX0_init 0 = .ok (.aload_n 0, 1) := by decide +kernel
theorem dX0_init_1 : decode cX0_init 1 = .ok (.invokespecial 3, 3) := by decide +kernel
theorem dX0_init_4 : decode cX0_init 4 = .ok (.aload_n 0, 1) := by decide +kernel
theorem dX0_init_5 : decode cX0_init 5 = .ok (.iload_n 1, 1) := by decide +kernel
theorem dX0_init_6 : decode cX0_init 6 = .ok (.putfield 9, 3) := by decide +kernel
theorem dX0_init_9 : decode cX0_init 9 = .ok (.aload_n 0, 1) := by decide +kernel
theorem dX0_init_10 : decode cX0_init 10 = .ok (.iload_n 2, 1) := by decide +kernel
theorem dX0_init_11 : decode cX0_init 11 = .ok (.putfield 15, 3) := by decide +kernel
theorem dX0_init_14 : decode cX0_init 14 = .ok (.aload_n 0, 1) := by decide +kernel
theorem dX0_init_15 : decode cX0_init 15 = .ok (.iload_n 3, 1) := by decide +kernel
theorem dX0_init_16 : decode cX0_init 16 = .ok (.newarray .int, 2) := by decide +kernel
theorem dX0_init_18 : decode cX0_init 18 = .ok (.putfield 18, 3) := by decide +kernel
theorem dX0_init_21 : decode cX0_init 21 = .ok (.aload_n 0, 1) := by decide +kernel
theorem dX0_init_22 : decode cX0_init 22 = .ok (.iload_n 1, 1) := by decide +kernel
theorem dX0_init_23 : decode cX0_init 23 = .ok (.iload_n 2, 1) := by decide +kernel
theorem dX0_init_24 : decode cX0_init 24 = .ok (.imul, 1) := by decide +kernel
theorem dX0_init_25 : decode cX0_init 25 = .ok (.newarray .int, 2) := by decide +kernel
theorem dX0_init_27 : decode cX0_init 27 = .ok (.putfield 22, 3) := by decide +kernel
theorem dX0_init_30 : decode cX0_init 30 = .ok (.return_, 1) := by decide +kernel
theorem dX0_cellsLeft_0 : decode cX0_cellsLeft 0 = .ok (.aload_n 0, 1) := by decide +kernel
theorem dX0_cellsLeft_1 : decode cX0_cellsLeft 1 = .ok (.getfield 18, 3) := by decide +kernel
theorem dX0_cellsLeft_4 : decode cX0_cellsLeft 4 = .ok (.arraylength, 1) := by decide +kernel
theorem dX0_cellsLeft_5 : decode cX0_cellsLeft 5 = .ok (.aload_n 0, 1) := by decide +kernel
theorem dX0_cellsLeft_6 : decode cX0_cellsLeft 6 = .ok (.getfield 25, 3) := by decide +kernel
theorem dX0_cellsLeft_9 : decode cX0_cellsLeft 9 = .ok (.isub, 1) := by decide +kernel
theorem dX0_cellsLeft_10 : decode cX0_cellsLeft 10 = .ok (.ireturn, 1) := by decide +kernel
theorem dX0_has_0 : decode cX0_has 0 = .ok (.iload_n 1, 1) := by decide +kernel
theorem dX0_has_1 : decode cX0_has 1 = .ok (.ifCond .lt 15, 3) := by decide +kernel
theorem dX0_has_4 : decode cX0_has 4 = .ok (.iload_n 1, 1) := by decide +kernel
theorem dX0_has_5 : decode cX0_has 5 = .ok (.aload_n 0, 1) := by decide +kernel
theorem dX0_has_6 : decode cX0_has 6 = .ok (.getfield 28, 3) := by decide +kernel
theorem dX0_has_9 : decode cX0_has 9 = .ok (.if_icmp .ge 7, 3) := by decide +kernel
theorem dX0_has_12 : decode cX0_has 12 = .ok (.iconst 1, 1) := by decide +kernel
theorem dX0_has_13 : decode cX0_has 13 = .ok (.goto 4, 3) := by decide +kernel
theorem dX0_has_16 : decode cX0_has 16 = .ok (.iconst 0, 1) := by decide +kernel
theorem dX0_has_17 : decode cX0_has 17 = .ok (.ireturn, 1) := by decide +kernel
theorem dX0_isFull_0 : decode cX0_isFull 0 = .ok (.aload_n 0, 1) := by decide +kernel
theorem dX0_isFull_1 : decode cX0_isFull 1 = .ok (.getfield 28, 3) := by decide +kernel
theorem dX0_isFull_4 : decode cX0_isFull 4 = .ok (.aload_n 0, 1) := by decide +kernel
theorem dX0_isFull_5 : decode cX0_isFull 5 = .ok (.getfield 15, 3) := by decide +kernel
theorem dX0_isFull_8 : decode cX0_isFull 8 = .ok (.if_icmp .lt 7, 3) := by decide +kernel
theorem dX0_isFull_11 : decode cX0_isFull 11 = .ok (.iconst 1, 1) := by decide +kernel
theorem dX0_isFull_12 : decode cX0_isFull 12 = .ok (.goto 4, 3) := by decide +kernel
theorem dX0_isFull_15 : decode cX0_isFull 15 = .ok (.iconst 0, 1) := by decide +kernel
theorem dX0_isFull_16 : decode cX0_isFull 16 = .ok (.ireturn, 1) := by decide +kernel
set_option maxRecDepth 20000 in
theorem ggX0_signOf_J6_signum_0f7a4 : GoodIn wsX0_signOf wsJ6_signum_0f7a4 := goodIn_r _ [7] (by decide +kernel) (by decide +kernel)
set_option maxRecDepth 20000 in
theorem gX0_signOf_J6_signum_0f7a4 : GoodIn wsX0_signOf (va_wsS RX0 31 yJ6_signum_0f7a4 wsJ6_signum_0f7a4) := goodIn_app (goodIn_of _ (by decide +kernel)) ggX0_signOf_J6_signum_0f7a4
theorem dX0_signOf_0 : decode cX0_signOf 0 = .ok (.aload_n 0, 1) := by decide +kernel
theorem dX0_signOf_1 : decode cX0_signOf 1 = .ok (.getfield 18, 3) := by decide +kernel
theorem dX0_signOf_4 : decode cX0_signOf 4 = .ok (.aload_n 0, 1) := by decide +kernel
theorem dX0_signOf_5 : decode cX0_signOf 5 = .ok (.getfield 22, 3) := by decide +kernel
theorem dX0_signOf_8 : decode cX0_signOf 8 = .ok (.iload_n 1, 1) := by decide +kernel
theorem dX0_signOf_9 : decode cX0_signOf 9 = .ok (.aload_n 0, 1) := by decide +kernel
theorem dX0_signOf_10 : decode cX0_signOf 10 = .ok (.getfield 9, 3) := by decide +kernel
theorem dX0_signOf_13 : decode cX0_signOf 13 = .ok (.imul, 1) := by decide +kernel
theorem dX0_signOf_14 : decode cX0_signOf 14 = .ok (.iload_n 2, 1) := by decide +kernel
theorem dX0_signOf_15 : decode cX0_signOf 15 = .ok (.iadd, 1) := by decide +kernel
theorem dX0_signOf_16 : decode cX0_signOf 16 = .ok (.iaload, 1) := by decide +kernel
theorem dX0_signOf_17 : decode cX0_signOf 17 = .ok (.iaload, 1) := by decide +kernel
theorem dX0_signOf_18 : decode cX0_signOf 18 = .ok (.invokestatic 31, 3) := by decide +kernel
theorem dX0_signOf_21 : decode cX0_signOf 21 = .ok (.ireturn, 1) := by decide +kernel
theorem dX0_sizeOf_0 : decode cX0_sizeOf 0 = .ok (.aload_n 0, 1) := by decide +kernel
theorem dX0_sizeOf_1 : decode cX0_sizeOf 1 = .ok (.getfield 18, 3) := by decide +kernel
theorem dX0_sizeOf_4 : decode cX0_sizeOf 4 = .ok (.aload_n 0, 1) := by decide +kernel
theorem dX0_sizeOf_5 : decode cX0_sizeOf 5 = .ok (.getfield 22, 3) := by decide +kernel
theorem dX0_sizeOf_8 : decode cX0_sizeOf 8 = .ok (.iload_n 1, 1) := by decide +kernel
theorem dX0_sizeOf_9 : decode cX0_sizeOf 9 = .ok (.aload_n 0, 1) := by decide +kernel
theorem dX0_sizeOf_10 : decode cX0_sizeOf 10 = .ok (.getfield 9, 3) := by decide +kernel
theorem dX0_sizeOf_13 : decode cX0_sizeOf 13 = .ok (.imul, 1) := by decide +kernel
theorem dX0_sizeOf_14 : decode cX0_sizeOf 14 = .ok (.iload_n 2, 1) := by decide +kernel
theorem dX0_sizeOf_15 : decode cX0_sizeOf 15 = .ok (.iadd, 1) := by decide +kernel
theorem dX0_sizeOf_16 : decode cX0_sizeOf 16 = .ok (.iaload, 1) := by decide +kernel
theorem dX0_sizeOf_17 : decode cX0_sizeOf 17 = .ok (.iaload, 1) := by decide +kernel
theorem dX0_sizeOf_18 : decode cX0_sizeOf 18 = .ok (.invokestatic 37, 3) := by decide +kernel
theorem dX0_sizeOf_21 : decode cX0_sizeOf 21 = .ok (.ireturn, 1) := by decide +kernel
set_option maxRecDepth 20000 in
theorem ggX0_digitOf_X0_sizeOf : GoodIn wsX0_digitOf wsX0_sizeOf := goodIn_r _ [8, 1, 2, 3, 9, 10, 11, 12, 13, 14, 15, 16, 17, 18] (by decide +kernel) (by decide +kernel)
set_option maxRecDepth 20000 in
theorem gX0_digitOf_X0_sizeOf : GoodIn wsX0_digitOf (wsV RX0 42 RX0 yX0_sizeOf wsX0_sizeOf) := goodIn_app (goodIn_of _ (by decide +kernel)) ggX0_digitOf_X0_sizeOf
theorem dX0_digitOf_0 : decode cX0_digitOf 0 = .ok (.iload_n 3, 1) := by decide +kernel
theorem dX0_digitOf_1 : decode cX0_digitOf 1 = .ok (.aload_n 0, 1) := by decide +kernel
theorem dX0_digitOf_2 : decode cX0_digitOf 2 = .ok (.iload_n 1, 1) := by decide +kernel
theorem dX0_digitOf_3 : decode cX0_digitOf 3 = .ok (.iload_n 2, 1) := by decide +kernel
theorem dX0_digitOf_4 : decode cX0_digitOf 4 = .ok (.invokevirtual 42, 3) := by decide +kernel
theorem dX0_digitOf_7 : decode cX0_digitOf 7 = .ok (.if_icmp .ge 28, 3) := by decide +kernel
theorem dX0_digitOf_10 : decode cX0_digitOf 10 = .ok (.aload_n 0, 1) := by decide +kernel
theorem dX0_digitOf_11 : decode cX0_digitOf 11 = .ok (.getfield 18, 3) := by decide +kernel
theorem dX0_digitOf_14 : decode cX0_digitOf 14 = .ok (.aload_n 0, 1) := by decide +kernel
theorem dX0_digitOf_15 : decode cX0_digitOf 15 = .ok (.getfield 22, 3) := by decide +kernel
theorem dX0_digitOf_18 : decode cX0_digitOf 18 = .ok (.iload_n 1, 1) := by decide +kernel
theorem dX0_digitOf_19 : decode cX0_digitOf 19 = .ok (.aload_n 0, 1) := by decide +kernel
theorem dX0_digitOf_20 : decode cX0_digitOf 20 = .ok (.getfield 9, 3) := by decide +kernel
theorem dX0_digitOf_23 : decode cX0_digitOf 23 = .ok (.imul, 1) := by decide +kernel
theorem dX0_digitOf_24 : decode cX0_digitOf 24 = .ok (.iload_n 2, 1) := by decide +kernel
theorem dX0_digitOf_25 : decode cX0_digitOf 25 = .ok (.iadd, 1) := by decide +kernel
theorem dX0_digitOf_26 : decode cX0_digitOf 26 = .ok (.iaload, 1) := by decide +kernel
theorem dX0_digitOf_27 : decode cX0_digitOf 27 = .ok (.iconst 1, 1) := by decide +kernel
theorem dX0_digitOf_28 : decode cX0_digitOf 28 = .ok (.iadd, 1) := by decide +kernel
theorem dX0_digitOf_29 : decode cX0_digitOf 29 = .ok (.iload_n 3, 1) := by decide +kernel
theorem dX0_digitOf_30 : decode cX0_digitOf 30 = .ok (.iadd, 1) := by decide +kernel
theorem dX0_digitOf_31 : decode cX0_digitOf 31 = .ok (.iaload, 1) := by decide +kernel
theorem dX0_digitOf_32 : decode cX0_digitOf 32 = .ok (.goto 4, 3) := by decide +kernel
theorem dX0_digitOf_35 : decode cX0_digitOf 35 = .ok (.iconst 0, 1) := by decide +kernel
theorem dX0_digitOf_36 : decode cX0_digitOf 36 = .ok (.ireturn, 1) := by decide +kernel
set_option maxRecDepth 20000 in
theorem ggX0_load_X0_sizeOf : GoodIn wsX0_load wsX0_sizeOf := goodIn_r _ [15, 1, 2, 3, 16, 17, 18, 19, 28, 29, 30, 31, 32, 33] (by decide +kernel) (by decide +kernel)
set_option maxRecDepth 20000 in
theorem gX0_load_X0_sizeOf : GoodIn wsX0_load (wsV RX0 42 RX0 yX0_sizeOf wsX0_sizeOf) := goodIn_app (goodIn_of _ (by decide +kernel)) ggX0_load_X0_sizeOf
set_option maxRecDepth 20000 in
theorem ggX0_load_X0_signOf : GoodIn wsX0_load wsX0_signOf := goodIn_r _ [23, 1, 2, 3, 24, 25, 26, 27, 28, 29, 30, 31, 32, 33] (by decide +kernel) (by decide +kernel)
set_option maxRecDepth 20000 in
theorem gX0_load_X0_signOf : GoodIn wsX0_load (wsV RX0 60 RX0 yX0_signOf wsX0_signOf) := goodIn_app (goodIn_of _ (by decide +kernel)) ggX0_load_X0_signOf
theorem dX0_load_0 : decode cX0_load 0 = .ok (.aload_n 0, 1) := by decide +kernel
theorem dX0_load_1 : decode cX0_load 1 = .ok (.iload_n 1, 1) := by decide +kernel
theorem dX0_load_2 : decode cX0_load 2 = .ok (.iload_n 2, 1) := by decide +kernel
theorem dX0_load_3 : decode cX0_load 3 = .ok (.invokevirtual 42, 3) := by decide +kernel
theorem dX0_load_6 : decode cX0_load 6 = .ok (.istore 4, 2) := by decide +kernel
theorem dX0_load_8 : decode cX0_load 8 = .ok (.aload_n 0, 1) := by decide +kernel
theorem dX0_load_9 : decode cX0_load 9 = .ok (.getfield 18, 3) := by decide +kernel
theorem dX0_load_12 : decode cX0_load 12 = .ok (.aload_n 0, 1) := by decide +kernel
theorem dX0_load_13 : decode cX0_load 13 = .ok (.getfield 22, 3) := by decide +kernel
theorem dX0_load_16 : decode cX0_load 16 = .ok (.iload_n 1, 1) := by decide +kernel
theorem dX0_load_17 : decode cX0_load 17 = .ok (.aload_n 0, 1) := by decide +kernel
theorem dX0_load_18 : decode cX0_load 18 = .ok (.getfield 9, 3) := by decide +kernel
theorem dX0_load_21 : decode cX0_load 21 = .ok (.imul, 1) := by decide +kernel
theorem dX0_load_22 : decode cX0_load 22 = .ok (.iload_n 2, 1) := by decide +kernel
theorem dX0_load_23 : decode cX0_load 23 = .ok (.iadd, 1) := by decide +kernel
theorem dX0_load_24 : decode cX0_load 24 = .ok (.iaload, 1) := by decide +kernel
theorem dX0_load_25 : decode cX0_load 25 = .ok (.iconst 1, 1) := by decide +kernel
theorem dX0_load_26 : decode cX0_load 26 = .ok (.iadd, 1) := by decide +kernel
theorem dX0_load_27 : decode cX0_load 27 = .ok (.aload_n 3, 1) := by decide +kernel
theorem dX0_load_28 : decode cX0_load 28 = .ok (.getfield 46, 3) := by decide +kernel
theorem dX0_load_31 : decode cX0_load 31 = .ok (.iconst 0, 1) := by decide +kernel
theorem dX0_load_32 : decode cX0_load 32 = .ok (.iload 4, 2) := by decide +kernel
theorem dX0_load_34 : decode cX0_load 34 = .ok (.invokestatic 51, 3) := by decide +kernel
theorem dX0_load_37 : decode cX0_load 37 = .ok (.aload_n 3, 1) := by decide +kernel
theorem dX0_load_38 : decode cX0_load 38 = .ok (.iload 4, 2) := by decide +kernel
theorem dX0_load_40 : decode cX0_load 40 = .ok (.putfield 57, 3) := by decide +kernel
theorem dX0_load_43 : decode cX0_load 43 = .ok (.aload_n 3, 1) := by decide +kernel
theorem dX0_load_44 : decode cX0_load 44 = .ok (.aload_n 0, 1) := by decide +kernel
theorem dX0_load_45 : decode cX0_load 45 = .ok (.iload_n 1, 1) := by decide +kernel
theorem dX0_load_46 : decode cX0_load 46 = .ok (.iload_n 2, 1) := by decide +kernel
theorem dX0_load_47 : decode cX0_load 47 = .ok (.invokevirtual 60, 3) := by decide +kernel
theorem dX0_load_50 : decode cX0_load 50 = .ok (.putfield 63, 3) := by decide +kernel
theorem dX0_load_53 : decode cX0_load 53 = .ok (.return_, 1) := by decide +kernel
set_option maxRecDepth 20000 in
theorem ggX0_keep_X0_isFull : GoodIn wsX0_keep wsX0_isFull := goodIn_r _ [9, 3, 10, 31, 32, 33, 34, 35, 36] (by decide +kernel) (by decide +kernel)
set_option maxRecDepth 20000 in
theorem gX0_keep_X0_isFull : GoodIn wsX0_keep (wsV RX0 66 RX0 yX0_isFull wsX0_isFull) := goodIn_app (goodIn_of _ (by decide +kernel)) ggX0_keep_X0_isFull
set_option maxRecDepth 20000 in
theorem ggX0_keep_X0_cellsFor : GoodIn wsX0_keep wsX0_cellsFor := goodIn_r _ [14, 1, 15, 31, 32, 33, 34, 35, 36, 37, 38, 39] (by decide +kernel) (by decide +kernel)
set_option maxRecDepth 20000 in
theorem gX0_keep_X0_cellsFor : GoodIn wsX0_keep (wsV RX0 70 RX0 yX0_cellsFor wsX0_cellsFor) := goodIn_app (goodIn_of _ (by decide +kernel)) ggX0_keep_X0_cellsFor
set_option maxRecDepth 20000 in
theorem ggX0_keep_X0_cellsLeft : GoodIn wsX0_keep wsX0_cellsLeft := goodIn_r _ [19, 20, 4, 31, 32, 33, 34, 35, 36] (by decide +kernel) (by decide +kernel)
set_option maxRecDepth 20000 in
theorem gX0_keep_X0_cellsLeft : GoodIn wsX0_keep (wsV RX0 74 RX0 yX0_cellsLeft wsX0_cellsLeft) := goodIn_app (goodIn_of _ (by decide +kernel)) ggX0_keep_X0_cellsLeft
set_option maxRecDepth 20000 in
theorem ggX0_keep_X0_append : GoodIn wsX0_keep wsX0_append := goodIn_r _ [24, 20, 4, 25, 15, 26, 27, 28, 29, 30, 31, 32, 33, 34, 35, 36, 37, 38, 39] (by decide +kernel) (by decide +kernel)
set_option maxRecDepth 20000 in
theorem gX0_keep_X0_append : GoodIn wsX0_keep (wsV RX0 78 RX0 yX0_append wsX0_append) := goodIn_app (goodIn_of _ (by decide +kernel)) ggX0_keep_X0_append
theorem dX0_keep_0 : decode cX0_keep 0 = .ok (.aload_n 0, 1) := by decide +kernel
theorem dX0_keep_1 : decode cX0_keep 1 = .ok (.invokevirtual 66, 3) := by decide +kernel
theorem dX0_keep_4 : decode cX0_keep 4 = .ok (.ifCond .ne 15, 3) := by decide +kernel
theorem dX0_keep_7 : decode cX0_keep 7 = .ok (.aload_n 0, 1) := by decide +kernel
theorem dX0_keep_8 : decode cX0_keep 8 = .ok (.aload_n 1, 1) := by decide +kernel
theorem dX0_keep_9 : decode cX0_keep 9 = .ok (.invokevirtual 70, 3) := by decide +kernel
theorem dX0_keep_12 : decode cX0_keep 12 = .ok (.aload_n 0, 1) := by decide +kernel
theorem dX0_keep_13 : decode cX0_keep 13 = .ok (.invokevirtual 74, 3) := by decide +kernel
theorem dX0_keep_16 : decode cX0_keep 16 = .ok (.if_icmp .le 6, 3) := by decide +kernel
theorem dX0_keep_19 : decode cX0_keep 19 = .ok (.bipush (-4), 2) := by decide +kernel
theorem dX0_keep_21 : decode cX0_keep 21 = .ok (.ireturn, 1) := by decide +kernel
theorem dX0_keep_22 : decode cX0_keep 22 = .ok (.iconst 0, 1) := by decide +kernel
theorem dX0_keep_23 : decode cX0_keep 23 = .ok (.istore_n 2, 1) := by decide +kernel
theorem dX0_keep_24 : decode cX0_keep 24 = .ok (.iload_n 2, 1) := by decide +kernel
theorem dX0_keep_25 : decode cX0_keep 25 = .ok (.aload_n 0, 1) := by decide +kernel
theorem dX0_keep_26 : decode cX0_keep 26 = .ok (.getfield 9, 3) := by decide +kernel
theorem dX0_keep_29 : decode cX0_keep 29 = .ok (.if_icmp .ge 36, 3) := by decide +kernel
theorem dX0_keep_32 : decode cX0_keep 32 = .ok (.aload_n 0, 1) := by decide +kernel
theorem dX0_keep_33 : decode cX0_keep 33 = .ok (.getfield 22, 3) := by decide +kernel
theorem dX0_keep_36 : decode cX0_keep 36 = .ok (.aload_n 0, 1) := by decide +kernel
theorem dX0_keep_37 : decode cX0_keep 37 = .ok (.getfield 28, 3) := by decide +kernel
theorem dX0_keep_40 : decode cX0_keep 40 = .ok (.aload_n 0, 1) := by decide +kernel
theorem dX0_keep_41 : decode cX0_keep 41 = .ok (.getfield 9, 3) := by decide +kernel
theorem dX0_keep_44 : decode cX0_keep 44 = .ok (.imul, 1) := by decide +kernel
theorem dX0_keep_45 : decode cX0_keep 45 = .ok (.iload_n 2, 1) := by decide +kernel
theorem dX0_keep_46 : decode cX0_keep 46 = .ok (.iadd, 1) := by decide +kernel
theorem dX0_keep_47 : decode cX0_keep 47 = .ok (.aload_n 0, 1) := by decide +kernel
theorem dX0_keep_48 : decode cX0_keep 48 = .ok (.getfield 25, 3) := by decide +kernel
theorem dX0_keep_51 : decode cX0_keep 51 = .ok (.iastore, 1) := by decide +kernel
theorem dX0_keep_52 : decode cX0_keep 52 = .ok (.aload_n 0, 1) := by decide +kernel
theorem dX0_keep_53 : decode cX0_keep 53 = .ok (.aload_n 1, 1) := by decide +kernel
theorem dX0_keep_54 : decode cX0_keep 54 = .ok (.iload_n 2, 1) := by decide +kernel
theorem dX0_keep_55 : decode cX0_keep 55 = .ok (.aaload, 1) := by decide +kernel
theorem dX0_keep_56 : decode cX0_keep 56 = .ok (.invokevirtual 78, 3) := by decide +kernel
theorem dX0_keep_59 : decode cX0_keep 59 = .ok (.iinc 2 1, 3) := by decide +kernel
theorem dX0_keep_62 : decode cX0_keep 62 = .ok (.goto (-38), 3) := by decide +kernel
theorem dX0_keep_65 : decode cX0_keep 65 = .ok (.aload_n 0, 1) := by decide +kernel
theorem dX0_keep_66 : decode cX0_keep 66 = .ok (.dup, 1) := by decide +kernel
theorem dX0_keep_67 : decode cX0_keep 67 = .ok (.getfield 28, 3) := by decide +kernel
theorem dX0_keep_70 : decode cX0_keep 70 = .ok (.iconst 1, 1) := by decide +kernel
theorem dX0_keep_71 : decode cX0_keep 71 = .ok (.iadd, 1) := by decide +kernel
theorem dX0_keep_72 : decode cX0_keep 72 = .ok (.putfield 28, 3) := by decide +kernel
theorem dX0_keep_75 : decode cX0_keep 75 = .ok (.aload_n 0, 1) := by decide +kernel
theorem dX0_keep_76 : decode cX0_keep 76 = .ok (.getfield 28, 3) := by decide +kernel
theorem dX0_keep_79 : decode cX0_keep 79 = .ok (.iconst 1, 1) := by decide +kernel
theorem dX0_keep_80 : decode cX0_keep 80 = .ok (.isub, 1) := by decide +kernel
theorem dX0_keep_81 : decode cX0_keep 81 = .ok (.ireturn, 1) := by decide +kernel
theorem dX0_cellsFor_0 : decode cX0_cellsFor 0 = .ok (.aload_n 0, 1) := by decide +kernel
theorem dX0_cellsFor_1 : decode cX0_cellsFor 1 = .ok (.getfield 9, 3) := by decide +kernel
theorem dX0_cellsFor_4 : decode cX0_cellsFor 4 = .ok (.istore_n 2, 1) := by decide +kernel
theorem dX0_cellsFor_5 : decode cX0_cellsFor 5 = .ok (.iconst 0, 1) := by decide +kernel
theorem dX0_cellsFor_6 : decode cX0_cellsFor 6 = .ok (.istore_n 3, 1) := by decide +kernel
theorem dX0_cellsFor_7 : decode cX0_cellsFor 7 = .ok (.iload_n 3, 1) := by decide +kernel
theorem dX0_cellsFor_8 : decode cX0_cellsFor 8 = .ok (.aload_n 0, 1) := by decide +kernel
theorem dX0_cellsFor_9 : decode cX0_cellsFor 9 = .ok (.getfield 9, 3) := by decide +kernel
theorem dX0_cellsFor_12 : decode cX0_cellsFor 12 = .ok (.if_icmp .ge 18, 3) := by decide +kernel
theorem dX0_cellsFor_15 : decode cX0_cellsFor 15 = .ok (.iload_n 2, 1) := by decide +kernel
theorem dX0_cellsFor_16 : decode cX0_cellsFor 16 = .ok (.aload_n 1, 1) := by decide +kernel
theorem dX0_cellsFor_17 : decode cX0_cellsFor 17 = .ok (.iload_n 3, 1) := by decide +kernel
theorem dX0_cellsFor_18 : decode cX0_cellsFor 18 = .ok (.aaload, 1) := by decide +kernel
theorem dX0_cellsFor_19 : decode cX0_cellsFor 19 = .ok (.getfield 57, 3) := by decide +kernel
theorem dX0_cellsFor_22 : decode cX0_cellsFor 22 = .ok (.iadd, 1) := by decide +kernel
theorem dX0_cellsFor_23 : decode cX0_cellsFor 23 = .ok (.istore_n 2, 1) := by decide +kernel
theorem dX0_cellsFor_24 : decode cX0_cellsFor 24 = .ok (.iinc 3 1, 3) := by decide +kernel
theorem dX0_cellsFor_27 : decode cX0_cellsFor 27 = .ok (.goto (-20), 3) := by decide +kernel
theorem dX0_cellsFor_30 : decode cX0_cellsFor 30 = .ok (.iload_n 2, 1) := by decide +kernel
theorem dX0_cellsFor_31 : decode cX0_cellsFor 31 = .ok (.ireturn, 1) := by decide +kernel
theorem dX0_append_0 : decode cX0_append 0 = .ok (.aload_n 0, 1) := by decide +kernel
theorem dX0_append_1 : decode cX0_append 1 = .ok (.getfield 18, 3) := by decide +kernel
theorem dX0_append_4 : decode cX0_append 4 = .ok (.aload_n 0, 1) := by decide +kernel
theorem dX0_append_5 : decode cX0_append 5 = .ok (.getfield 25, 3) := by decide +kernel
theorem dX0_append_8 : decode cX0_append 8 = .ok (.aload_n 1, 1) := by decide +kernel
theorem dX0_append_9 : decode cX0_append 9 = .ok (.getfield 63, 3) := by decide +kernel
theorem dX0_append_12 : decode cX0_append 12 = .ok (.aload_n 1, 1) := by decide +kernel
theorem dX0_append_13 : decode cX0_append 13 = .ok (.getfield 57, 3) := by decide +kernel
theorem dX0_append_16 : decode cX0_append 16 = .ok (.imul, 1) := by decide +kernel
theorem dX0_append_17 : decode cX0_append 17 = .ok (.iastore, 1) := by decide +kernel
theorem dX0_append_18 : decode cX0_append 18 = .ok (.aload_n 1, 1) := by decide +kernel
theorem dX0_append_19 : decode cX0_append 19 = .ok (.getfield 46, 3) := by decide +kernel
theorem dX0_append_22 : decode cX0_append 22 = .ok (.iconst 0, 1) := by decide +kernel
theorem dX0_append_23 : decode cX0_append 23 = .ok (.aload_n 0, 1) := by decide +kernel
theorem dX0_append_24 : decode cX0_append 24 = .ok (.getfield 18, 3) := by decide +kernel
theorem dX0_append_27 : decode cX0_append 27 = .ok (.aload_n 0, 1) := by decide +kernel
theorem dX0_append_28 : decode cX0_append 28 = .ok (.getfield 25, 3) := by decide +kernel
theorem dX0_append_31 : decode cX0_append 31 = .ok (.iconst 1, 1) := by decide +kernel
theorem dX0_append_32 : decode cX0_append 32 = .ok (.iadd, 1) := by decide +kernel
theorem dX0_append_33 : decode cX0_append 33 = .ok (.aload_n 1, 1) := by decide +kernel
theorem dX0_append_34 : decode cX0_append 34 = .ok (.getfield 57, 3) := by decide +kernel
theorem dX0_append_37 : decode cX0_append 37 = .ok (.invokestatic 51, 3) := by decide +kernel
theorem dX0_append_40 : decode cX0_append 40 = .ok (.aload_n 0, 1) := by decide +kernel
theorem dX0_append_41 : decode cX0_append 41 = .ok (.dup, 1) := by decide +kernel
theorem dX0_append_42 : decode cX0_append 42 = .ok (.getfield 25, 3) := by decide +kernel
theorem dX0_append_45 : decode cX0_append 45 = .ok (.iconst 1, 1) := by decide +kernel
theorem dX0_append_46 : decode cX0_append 46 = .ok (.aload_n 1, 1) := by decide +kernel
theorem dX0_append_47 : decode cX0_append 47 = .ok (.getfield 57, 3) := by decide +kernel
theorem dX0_append_50 : decode cX0_append 50 = .ok (.iadd, 1) := by decide +kernel
theorem dX0_append_51 : decode cX0_append 51 = .ok (.iadd, 1) := by decide +kernel
theorem dX0_append_52 : decode cX0_append 52 = .ok (.putfield 25, 3) := by decide +kernel
theorem dX0_append_55 : decode cX0_append 55 = .ok (.return_, 1) := by decide +kernel
set_option maxRecDepth 20000 in
theorem ggX1_init_X3_init : GoodIn wsX1_init wsX3_init := goodIn_r _ [15, 16, 2, 3, 10, 17, 18, 19, 20] (by decide +kernel) (by decide +kernel)
set_option maxRecDepth 20000 in
theorem gX1_init_X3_init : GoodIn wsX1_init (wsX3_init) := ggX1_init_X3_init
theorem dX1_init_0 : decode cX1_init 0 = .ok (.aload_n 0, 1) := by decide +kernel
theorem dX1_init_1 : decode cX1_init 1 = .ok (.invokespecial 3, 3) := by decide +kernel
theorem dX1_init_4 : decode cX1_init 4 = .ok (.aload_n 0, 1) := by decide +kernel
theorem dX1_init_5 : decode cX1_init 5 = .ok (.new 9, 3) := by decide +kernel
theorem dX1_init_8 : decode cX1_init 8 = .ok (.dup, 1) := by decide +kernel
theorem dX1_init_9 : decode cX1_init 9 = .ok (.bipush 48, 2) := by decide +kernel
theorem dX1_init_11 : decode cX1_init 11 = .ok (.invokespecial 11, 3) := by decide +kernel
theorem dX1_init_14 : decode cX1_init 14 = .ok (.putfield 14, 3) := by decide +kernel
theorem dX1_init_17 : decode cX1_init 17 = .ok (.aload_n 0, 1) := by decide +kernel
theorem dX1_init_18 : decode cX1_init 18 = .ok (.new 9, 3) := by decide +kernel
theorem dX1_init_21 : decode cX1_init 21 = .ok (.dup, 1) := by decide +kernel
theorem dX1_init_22 : decode cX1_init 22 = .ok (.bipush 48, 2) := by decide +kernel
theorem dX1_init_24 : decode cX1_init 24 = .ok (.invokespecial 11, 3) := by decide +kernel
theorem dX1_init_27 : decode cX1_init 27 = .ok (.putfield 20, 3) := by decide +kernel
theorem dX1_init_30 : decode cX1_init 30 = .ok (.aload_n 0, 1) := by decide +kernel
theorem dX1_init_31 : decode cX1_init 31 = .ok (.new 9, 3) := by decide +kernel
theorem dX1_init_34 : decode cX1_init 34 = .ok (.dup, 1) := by decide +kernel
theorem dX1_init_35 : decode cX1_init 35 = .ok (.bipush 48, 2) := by decide +kernel
theorem dX1_init_37 : decode cX1_init 37 = .ok (.invokespecial 11, 3) := by decide +kernel
theorem dX1_init_40 : decode cX1_init 40 = .ok (.putfield 23, 3) := by decide +kernel
theorem dX1_init_43 : decode cX1_init 43 = .ok (.aload_n 0, 1) := by decide +kernel
theorem dX1_init_44 : decode cX1_init 44 = .ok (.bipush 49, 2) := by decide +kernel
theorem dX1_init_46 : decode cX1_init 46 = .ok (.newarray .int, 2) := by decide +kernel
theorem dX1_init_48 : decode cX1_init 48 = .ok (.putfield 26, 3) := by decide +kernel
theorem dX1_init_51 : decode cX1_init 51 = .ok (.aload_n 0, 1) := by decide +kernel
theorem dX1_init_52 : decode cX1_init 52 = .ok (.bipush 48, 2) := by decide +kernel
theorem dX1_init_54 : decode cX1_init 54 = .ok (.newarray .int, 2) := by decide +kernel
theorem dX1_init_56 : decode cX1_init 56 = .ok (.putfield 30, 3) := by decide +kernel
theorem dX1_init_59 : decode cX1_init 59 = .ok (.return_, 1) := by decide +kernel
set_option maxRecDepth 20000 in
theorem ggX1_narrowGreatest_X1_divide : GoodIn wsX1_narrowGreatest wsX1_divide := goodIn_r _ [9, 2, 10, 4, 11, 12, 13, 14, 15, 16, 17, 18, 19, 20, 21, 22, 23, 24, 25, 26, 27, 28, 29, 30, 31, 32, 33, 34, 35, 36, 37, 38, 8, 39, 40, 41, 42, 43, 44, 45, 46, 47, 48, 49, 50, 51, 52, 53, 54, 55, 56, 57, 58, 59, 60, 61, 62, 63, 64, 65, 66, 67, 68, 69, 70, 71, 72, 73, 74, 75, 76, 77, 78] (by decide +kernel) (by decide +kernel)
set_option maxRecDepth 20000 in
theorem gX1_narrowGreatest_X1_divide : GoodIn wsX1_narrowGreatest (wsV RX1 38 RX1 yX1_divide wsX1_divide) := goodIn_app (goodIn_of _ (by decide +kernel)) ggX1_narrowGreatest_X1_divide
set_option maxRecDepth 20000 in
theorem ggX1_narrowGreatest_X3_copyFrom : GoodIn wsX1_narrowGreatest wsX3_copyFrom := goodIn_r _ [31, 18, 17, 32, 33, 34, 35, 27, 71, 72, 73] (by decide +kernel) (by decide +kernel)
set_option maxRecDepth 20000 in
theorem gX1_narrowGreatest_X3_copyFrom : GoodIn wsX1_narrowGreatest (wsV RX1 42 RX3 yX3_copyFrom wsX3_copyFrom) := goodIn_app (goodIn_of _ (by decide +kernel)) ggX1_narrowGreatest_X3_copyFrom
theorem dX1_narrowGreatest_0 : decode cX1_narrowGreatest 0 = .ok (.iconst 0, 1) := by decide +kernel
theorem dX1_narrowGreatest_1 : decode cX1_narrowGreatest 1 = .ok (.istore_n 2, 1) := by decide +kernel
theorem dX1_narrowGreatest_2 : decode cX1_narrowGreatest 2 = .ok (.iload_n 2, 1) := by decide +kernel
theorem dX1_narrowGreatest_3 : decode cX1_narrowGreatest 3 = .ok (.ldc 33, 2) := by decide +kernel
theorem dX1_narrowGreatest_5 : decode cX1_narrowGreatest 5 = .ok (.if_icmp .ge 41, 3) := by decide +kernel
theorem dX1_narrowGreatest_8 : decode cX1_narrowGreatest 8 = .ok (.aload_n 1, 1) := by decide +kernel
theorem dX1_narrowGreatest_9 : decode cX1_narrowGreatest 9 = .ok (.getfield 34, 3) := by decide +kernel
theorem dX1_narrowGreatest_12 : decode cX1_narrowGreatest 12 = .ok (.ifCond .le 34, 3) := by decide +kernel
theorem dX1_narrowGreatest_15 : decode cX1_narrowGreatest 15 = .ok (.aload_n 0, 1) := by decide +kernel
theorem dX1_narrowGreatest_16 : decode cX1_narrowGreatest 16 = .ok (.aload_n 0, 1) := by decide +kernel
theorem dX1_narrowGreatest_17 : decode cX1_narrowGreatest 17 = .ok (.getfield 14, 3) := by decide +kernel
theorem dX1_narrowGreatest_20 : decode cX1_narrowGreatest 20 = .ok (.aload_n 1, 1) := by decide +kernel
theorem dX1_narrowGreatest_21 : decode cX1_narrowGreatest 21 = .ok (.invokevirtual 38, 3) := by decide +kernel
theorem dX1_narrowGreatest_24 : decode cX1_narrowGreatest 24 = .ok (.aload_n 0, 1) := by decide +kernel
theorem dX1_narrowGreatest_25 : decode cX1_narrowGreatest 25 = .ok (.getfield 14, 3) := by decide +kernel
theorem dX1_narrowGreatest_28 : decode cX1_narrowGreatest 28 = .ok (.aload_n 1, 1) := by decide +kernel
theorem dX1_narrowGreatest_29 : decode cX1_narrowGreatest 29 = .ok (.invokevirtual 42, 3) := by decide +kernel
theorem dX1_narrowGreatest_32 : decode cX1_narrowGreatest 32 = .ok (.aload_n 1, 1) := by decide +kernel
theorem dX1_narrowGreatest_33 : decode cX1_narrowGreatest 33 = .ok (.aload_n 0, 1) := by decide +kernel
theorem dX1_narrowGreatest_34 : decode cX1_narrowGreatest 34 = .ok (.getfield 23, 3) := by decide +kernel
theorem dX1_narrowGreatest_37 : decode cX1_narrowGreatest 37 = .ok (.invokevirtual 42, 3) := by decide +kernel
theorem dX1_narrowGreatest_40 : decode cX1_narrowGreatest 40 = .ok (.iinc 2 1, 3) := by decide +kernel
theorem dX1_narrowGreatest_43 : decode cX1_narrowGreatest 43 = .ok (.goto (-41), 3) := by decide +kernel
theorem dX1_narrowGreatest_46 : decode cX1_narrowGreatest 46 = .ok (.return_, 1) := by decide +kernel
set_option maxRecDepth 20000 in
theorem ggX1_floorByGreatest_X1_divide : GoodIn wsX1_floorByGreatest wsX1_divide := goodIn_r _ [10, 3, 2, 5, 11, 12, 13, 14, 15, 16, 17, 18, 19, 20, 21, 22, 23, 24, 25, 26, 27, 28, 29, 30, 31, 32, 33, 34, 35, 36, 37, 38, 9, 39, 40, 41, 42, 43, 44, 45, 46, 47, 48, 49, 50, 51, 52, 53, 54, 55, 56, 57, 58, 59, 60, 61, 62, 63, 64, 65, 66, 67, 68, 69, 70, 90, 91, 92, 85, 86, 87, 88, 89] (by decide +kernel) (by decide +kernel)
set_option maxRecDepth 20000 in
theorem gX1_floorByGreatest_X1_divide : GoodIn wsX1_floorByGreatest (wsV RX1 38 RX1 yX1_divide wsX1_divide) := goodIn_app (goodIn_of _ (by decide +kernel)) ggX1_floorByGreatest_X1_divide
set_option maxRecDepth 20000 in
theorem ggX1_floorByGreatest_X3_copyFrom : GoodIn wsX1_floorByGreatest wsX3_copyFrom := goodIn_r _ [31, 18, 17, 32, 33, 34, 35, 27, 90, 91, 92] (by decide +kernel) (by decide +kernel)
set_option maxRecDepth 20000 in
theorem gX1_floorByGreatest_X3_copyFrom : GoodIn wsX1_floorByGreatest (wsV RX1 42 RX3 yX3_copyFrom wsX3_copyFrom) := goodIn_app (goodIn_of _ (by decide +kernel)) ggX1_floorByGreatest_X3_copyFrom
set_option maxRecDepth 20000 in
theorem ggX1_floorByGreatest_X3_growByOne : GoodIn wsX1_floorByGreatest wsX3_growByOne := goodIn_r _ [74, 17, 18, 75, 76, 77, 78, 79, 80, 81, 82, 15, 83, 84, 41, 42, 43, 27, 90, 91, 92] (by decide +kernel) (by decide +kernel)
set_option maxRecDepth 20000 in
theorem gX1_floorByGreatest_X3_growByOne : GoodIn wsX1_floorByGreatest (wsV RX1 49 RX3 yX3_growByOne wsX3_growByOne) := goodIn_app (goodIn_of _ (by decide +kernel)) ggX1_floorByGreatest_X3_growByOne
theorem dX1_floorByGreatest_0 : decode cX1_floorByGreatest 0 = .ok (.aload_n 0, 1) := by decide +kernel
theorem dX1_floorByGreatest_1 : decode cX1_floorByGreatest 1 = .ok (.aload_n 1, 1) := by decide +kernel
theorem dX1_floorByGreatest_2 : decode cX1_floorByGreatest 2 = .ok (.aload_n 0, 1) := by decide +kernel
theorem dX1_floorByGreatest_3 : decode cX1_floorByGreatest 3 = .ok (.getfield 14, 3) := by decide +kernel
theorem dX1_floorByGreatest_6 : decode cX1_floorByGreatest 6 = .ok (.invokevirtual 38, 3) := by decide +kernel
theorem dX1_floorByGreatest_9 : decode cX1_floorByGreatest 9 = .ok (.aload_n 2, 1) := by decide +kernel
theorem dX1_floorByGreatest_10 : decode cX1_floorByGreatest 10 = .ok (.aload_n 0, 1) := by decide +kernel
theorem dX1_floorByGreatest_11 : decode cX1_floorByGreatest 11 = .ok (.getfield 20, 3) := by decide +kernel
theorem dX1_floorByGreatest_14 : decode cX1_floorByGreatest 14 = .ok (.invokevirtual 42, 3) := by decide +kernel
theorem dX1_floorByGreatest_17 : decode cX1_floorByGreatest 17 = .ok (.aload_n 2, 1) := by decide +kernel
theorem dX1_floorByGreatest_18 : decode cX1_floorByGreatest 18 = .ok (.aload_n 2, 1) := by decide +kernel
theorem dX1_floorByGreatest_19 : decode cX1_floorByGreatest 19 = .ok (.getfield 34, 3) := by decide +kernel
theorem dX1_floorByGreatest_22 : decode cX1_floorByGreatest 22 = .ok (.ifCond .ne 7, 3) := by decide +kernel
theorem dX1_floorByGreatest_25 : decode cX1_floorByGreatest 25 = .ok (.iconst 0, 1) := by decide +kernel
theorem dX1_floorByGreatest_26 : decode cX1_floorByGreatest 26 = .ok (.goto 7, 3) := by decide +kernel
theorem dX1_floorByGreatest_29 : decode cX1_floorByGreatest 29 = .ok (.aload_n 1, 1) := by decide +kernel
theorem dX1_floorByGreatest_30 : decode cX1_floorByGreatest 30 = .ok (.getfield 46, 3) := by decide +kernel
theorem dX1_floorByGreatest_33 : decode cX1_floorByGreatest 33 = .ok (.putfield 46, 3) := by decide +kernel
theorem dX1_floorByGreatest_36 : decode cX1_floorByGreatest 36 = .ok (.aload_n 1, 1) := by decide +kernel
theorem dX1_floorByGreatest_37 : decode cX1_floorByGreatest 37 = .ok (.getfield 46, 3) := by decide +kernel
theorem dX1_floorByGreatest_40 : decode cX1_floorByGreatest 40 = .ok (.ifCond .ge 21, 3) := by decide +kernel
theorem dX1_floorByGreatest_43 : decode cX1_floorByGreatest 43 = .ok (.aload_n 0, 1) := by decide +kernel
theorem dX1_floorByGreatest_44 : decode cX1_floorByGreatest 44 = .ok (.getfield 23, 3) := by decide +kernel
theorem dX1_floorByGreatest_47 : decode cX1_floorByGreatest 47 = .ok (.getfield 34, 3) := by decide +kernel
theorem dX1_floorByGreatest_50 : decode cX1_floorByGreatest 50 = .ok (.ifCond .le 11, 3) := by decide +kernel
theorem dX1_floorByGreatest_53 : decode cX1_floorByGreatest 53 = .ok (.aload_n 2, 1) := by decide +kernel
theorem dX1_floorByGreatest_54 : decode cX1_floorByGreatest 54 = .ok (.aload_n 1, 1) := by decide +kernel
theorem dX1_floorByGreatest_55 : decode cX1_floorByGreatest 55 = .ok (.getfield 46, 3) := by decide +kernel
theorem dX1_floorByGreatest_58 : decode cX1_floorByGreatest 58 = .ok (.invokevirtual 49, 3) := by decide +kernel
theorem dX1_floorByGreatest_61 : decode cX1_floorByGreatest 61 = .ok (.return_, 1) := by decide +kernel
set_option maxRecDepth 20000 in
theorem ggX1_divide_X3_compareSize : GoodIn wsX1_divide wsX3_compareSize := goodIn_r _ [9, 10, 11, 12, 13, 14, 15, 65, 66, 67] (by decide +kernel) (by decide +kernel)
set_option maxRecDepth 20000 in
theorem gX1_divide_X3_compareSize : GoodIn wsX1_divide (wsV RX1 52 RX3 yX3_compareSize wsX3_compareSize) := goodIn_app (goodIn_of _ (by decide +kernel)) ggX1_divide_X3_compareSize
set_option maxRecDepth 20000 in
theorem ggX1_divide_X3_setZero : GoodIn wsX1_divide wsX3_setZero := goodIn_r _ [19, 10, 20, 65, 66, 67] (by decide +kernel) (by decide +kernel)
set_option maxRecDepth 20000 in
theorem gX1_divide_X3_setZero : GoodIn wsX1_divide (wsV RX1 56 RX3 yX3_setZero wsX3_setZero) := goodIn_app (goodIn_of _ (by decide +kernel)) ggX1_divide_X3_setZero
set_option maxRecDepth 20000 in
theorem ggX1_divide_X3_copyFrom : GoodIn wsX1_divide wsX3_copyFrom := goodIn_r _ [24, 11, 10, 25, 26, 27, 28, 20, 65, 66, 67] (by decide +kernel) (by decide +kernel)
set_option maxRecDepth 20000 in
theorem gX1_divide_X3_copyFrom : GoodIn wsX1_divide (wsV RX1 42 RX3 yX3_copyFrom wsX3_copyFrom) := goodIn_app (goodIn_of _ (by decide +kernel)) ggX1_divide_X3_copyFrom
set_option maxRecDepth 20000 in
theorem ggX1_divide_X1_divideByDigit : GoodIn wsX1_divide wsX1_divideByDigit := goodIn_r _ [33, 1, 4, 2, 3, 34, 35, 36, 8, 37, 10, 11, 20, 65, 66, 67, 68, 69, 70, 71, 72] (by decide +kernel) (by decide +kernel)
set_option maxRecDepth 20000 in
theorem gX1_divide_X1_divideByDigit : GoodIn wsX1_divide (wsV RX1 62 RX1 yX1_divideByDigit wsX1_divideByDigit) := goodIn_app (goodIn_of _ (by decide +kernel)) ggX1_divide_X1_divideByDigit
set_option maxRecDepth 20000 in
theorem ggX1_divide_X1_divideByMany : GoodIn wsX1_divide wsX1_divideByMany := goodIn_r _ [41, 1, 4, 42, 43, 2, 3, 44, 45, 46, 14, 47, 48, 49, 50, 32, 51, 52, 53, 54, 55, 56, 57, 58, 59, 60, 61, 62, 63, 64, 34, 35, 36, 8, 37, 10, 11, 20, 65, 66, 67, 68, 69, 70, 71, 72] (by decide +kernel) (by decide +kernel)
set_option maxRecDepth 20000 in
theorem gX1_divide_X1_divideByMany : GoodIn wsX1_divide (wsV RX1 66 RX1 yX1_divideByMany wsX1_divideByMany) := goodIn_app (goodIn_of _ (by decide +kernel)) ggX1_divide_X1_divideByMany
theorem dX1_divide_0 : decode cX1_divide 0 = .ok (.aload_n 2, 1) := by decide +kernel
theorem dX1_divide_1 : decode cX1_divide 1 = .ok (.getfield 34, 3) := by decide +kernel
theorem dX1_divide_4 : decode cX1_divide 4 = .ok (.ifCond .eq 11, 3) := by decide +kernel
theorem dX1_divide_7 : decode cX1_divide 7 = .ok (.aload_n 1, 1) := by decide +kernel
theorem dX1_divide_8 : decode cX1_divide 8 = .ok (.aload_n 2, 1) := by decide +kernel
theorem dX1_divide_9 : decode cX1_divide 9 = .ok (.invokevirtual 52, 3) := by decide +kernel
theorem dX1_divide_12 : decode cX1_divide 12 = .ok (.ifCond .ge 21, 3) := by decide +kernel
theorem dX1_divide_15 : decode cX1_divide 15 = .ok (.aload_n 0, 1) := by decide +kernel
theorem dX1_divide_16 : decode cX1_divide 16 = .ok (.getfield 20, 3) := by decide +kernel
theorem dX1_divide_19 : decode cX1_divide 19 = .ok (.invokevirtual 56, 3) := by decide +kernel
theorem dX1_divide_22 : decode cX1_divide 22 = .ok (.aload_n 0, 1) := by decide +kernel
theorem dX1_divide_23 : decode cX1_divide 23 = .ok (.getfield 23, 3) := by decide +kernel
theorem dX1_divide_26 : decode cX1_divide 26 = .ok (.aload_n 1, 1) := by decide +kernel
theorem dX1_divide_27 : decode cX1_divide 27 = .ok (.invokevirtual 42, 3) := by decide +kernel
theorem dX1_divide_30 : decode cX1_divide 30 = .ok (.goto 31, 3) := by decide +kernel
theorem dX1_divide_33 : decode cX1_divide 33 = .ok (.aload_n 2, 1) := by decide +kernel
theorem dX1_divide_34 : decode cX1_divide 34 = .ok (.getfield 34, 3) := by decide +kernel
theorem dX1_divide_37 : decode cX1_divide 37 = .ok (.iconst 1, 1) := by decide +kernel
theorem dX1_divide_38 : decode cX1_divide 38 = .ok (.if_icmp .ne 17, 3) := by decide +kernel
theorem dX1_divide_41 : decode cX1_divide 41 = .ok (.aload_n 0, 1) := by decide +kernel
theorem dX1_divide_42 : decode cX1_divide 42 = .ok (.aload_n 1, 1) := by decide +kernel
theorem dX1_divide_43 : decode cX1_divide 43 = .ok (.aload_n 2, 1) := by decide +kernel
theorem dX1_divide_44 : decode cX1_divide 44 = .ok (.getfield 59, 3) := by decide +kernel
theorem dX1_divide_47 : decode cX1_divide 47 = .ok (.iconst 0, 1) := by decide +kernel
theorem dX1_divide_48 : decode cX1_divide 48 = .ok (.iaload, 1) := by decide +kernel
theorem dX1_divide_49 : decode cX1_divide 49 = .ok (.invokevirtual 62, 3) := by decide +kernel
theorem dX1_divide_52 : decode cX1_divide 52 = .ok (.goto 9, 3) := by decide +kernel
theorem dX1_divide_55 : decode cX1_divide 55 = .ok (.aload_n 0, 1) := by decide +kernel
theorem dX1_divide_56 : decode cX1_divide 56 = .ok (.aload_n 1, 1) := by decide +kernel
theorem dX1_divide_57 : decode cX1_divide 57 = .ok (.aload_n 2, 1) := by decide +kernel
theorem dX1_divide_58 : decode cX1_divide 58 = .ok (.invokevirtual 66, 3) := by decide +kernel
theorem dX1_divide_61 : decode cX1_divide 61 = .ok (.return_, 1) := by decide +kernel
set_option maxRecDepth 20000 in
theorem ggX1_divideByDigit_X3_settle : GoodIn wsX1_divideByDigit wsX3_settle := goodIn_r _ [9, 10, 11, 12, 13, 14, 15] (by decide +kernel) (by decide +kernel)
set_option maxRecDepth 20000 in
theorem gX1_divideByDigit_X3_settle : GoodIn wsX1_divideByDigit (wsV RX1 69 RX3 yX3_settle wsX3_settle) := goodIn_app (goodIn_of _ (by decide +kernel)) ggX1_divideByDigit_X3_settle
theorem dX1_divideByDigit_0 : decode cX1_divideByDigit 0 = .ok (.lconst 0, 1) := by decide +kernel
theorem dX1_divideByDigit_1 : decode cX1_divideByDigit 1 = .ok (.lstore_n 3, 1) := by decide +kernel
theorem dX1_divideByDigit_2 : decode cX1_divideByDigit 2 = .ok (.aload_n 1, 1) := by decide +kernel
theorem dX1_divideByDigit_3 : decode cX1_divideByDigit 3 = .ok (.getfield 34, 3) := by decide +kernel
theorem dX1_divideByDigit_6 : decode cX1_divideByDigit 6 = .ok (.iconst 1, 1) := by decide +kernel
theorem dX1_divideByDigit_7 : decode cX1_divideByDigit 7 = .ok (.isub, 1) := by decide +kernel
theorem dX1_divideByDigit_8 : decode cX1_divideByDigit 8 = .ok (.istore 5, 2) := by decide +kernel
theorem dX1_divideByDigit_10 : decode cX1_divideByDigit 10 = .ok (.iload 5, 2) := by decide +kernel
theorem dX1_divideByDigit_12 : decode cX1_divideByDigit 12 = .ok (.ifCond .lt 43, 3) := by decide +kernel
theorem dX1_divideByDigit_15 : decode cX1_divideByDigit 15 = .ok (.lload_n 3, 1) := by decide +kernel
theorem dX1_divideByDigit_16 : decode cX1_divideByDigit 16 = .ok (.bipush 31, 2) := by decide +kernel
theorem dX1_divideByDigit_18 : decode cX1_divideByDigit 18 = .ok (.lshl, 1) := by decide +kernel
theorem dX1_divideByDigit_19 : decode cX1_divideByDigit 19 = .ok (.aload_n 1, 1) := by decide +kernel
theorem dX1_divideByDigit_20 : decode cX1_divideByDigit 20 = .ok (.getfield 59, 3) := by decide +kernel
theorem dX1_divideByDigit_23 : decode cX1_divideByDigit 23 = .ok (.iload 5, 2) := by decide +kernel
theorem dX1_divideByDigit_25 : decode cX1_divideByDigit 25 = .ok (.iaload, 1) := by decide +kernel
theorem dX1_divideByDigit_26 : decode cX1_divideByDigit 26 = .ok (.i2l, 1) := by decide +kernel
theorem dX1_divideByDigit_27 : decode cX1_divideByDigit 27 = .ok (.lor, 1) := by decide +kernel
theorem dX1_divideByDigit_28 : decode cX1_divideByDigit 28 = .ok (.lstore_n 3, 1) := by decide +kernel
theorem dX1_divideByDigit_29 : decode cX1_divideByDigit 29 = .ok (.aload_n 0, 1) := by decide +kernel
theorem dX1_divideByDigit_30 : decode cX1_divideByDigit 30 = .ok (.getfield 20, 3) := by decide +kernel
theorem dX1_divideByDigit_33 : decode cX1_divideByDigit 33 = .ok (.getfield 59, 3) := by decide +kernel
theorem dX1_divideByDigit_36 : decode cX1_divideByDigit 36 = .ok (.iload 5, 2) := by decide +kernel
theorem dX1_divideByDigit_38 : decode cX1_divideByDigit 38 = .ok (.lload_n 3, 1) := by decide +kernel
theorem dX1_divideByDigit_39 : decode cX1_divideByDigit 39 = .ok (.iload_n 2, 1) := by decide +kernel
theorem dX1_divideByDigit_40 : decode cX1_divideByDigit 40 = .ok (.i2l, 1) := by decide +kernel
theorem dX1_divideByDigit_41 : decode cX1_divideByDigit 41 = .ok (.ldiv, 1) := by decide +kernel
theorem dX1_divideByDigit_42 : decode cX1_divideByDigit 42 = .ok (.l2i, 1) := by decide +kernel
theorem dX1_divideByDigit_43 : decode cX1_divideByDigit 43 = .ok (.iastore, 1) := by decide +kernel
theorem dX1_divideByDigit_44 : decode cX1_divideByDigit 44 = .ok (.lload_n 3, 1) := by decide +kernel
theorem dX1_divideByDigit_45 : decode cX1_divideByDigit 45 = .ok (.iload_n 2, 1) := by decide +kernel
theorem dX1_divideByDigit_46 : decode cX1_divideByDigit 46 = .ok (.i2l, 1) := by decide +kernel
theorem dX1_divideByDigit_47 : decode cX1_divideByDigit 47 = .ok (.lrem, 1) := by decide +kernel
theorem dX1_divideByDigit_48 : decode cX1_divideByDigit 48 = .ok (.lstore_n 3, 1) := by decide +kernel
theorem dX1_divideByDigit_49 : decode cX1_divideByDigit 49 = .ok (.iinc 5 (-1), 3) := by decide +kernel
theorem dX1_divideByDigit_52 : decode cX1_divideByDigit 52 = .ok (.goto (-42), 3) := by decide +kernel
theorem dX1_divideByDigit_55 : decode cX1_divideByDigit 55 = .ok (.aload_n 0, 1) := by decide +kernel
theorem dX1_divideByDigit_56 : decode cX1_divideByDigit 56 = .ok (.getfield 20, 3) := by decide +kernel
theorem dX1_divideByDigit_59 : decode cX1_divideByDigit 59 = .ok (.aload_n 1, 1) := by decide +kernel
theorem dX1_divideByDigit_60 : decode cX1_divideByDigit 60 = .ok (.getfield 34, 3) := by decide +kernel
theorem dX1_divideByDigit_63 : decode cX1_divideByDigit 63 = .ok (.iconst 1, 1) := by decide +kernel
theorem dX1_divideByDigit_64 : decode cX1_divideByDigit 64 = .ok (.invokevirtual 69, 3) := by decide +kernel
theorem dX1_divideByDigit_67 : decode cX1_divideByDigit 67 = .ok (.aload_n 0, 1) := by decide +kernel
theorem dX1_divideByDigit_68 : decode cX1_divideByDigit 68 = .ok (.getfield 23, 3) := by decide +kernel
theorem dX1_divideByDigit_71 : decode cX1_divideByDigit 71 = .ok (.getfield 59, 3) := by decide +kernel
theorem dX1_divideByDigit_74 : decode cX1_divideByDigit 74 = .ok (.iconst 0, 1) := by decide +kernel
theorem dX1_divideByDigit_75 : decode cX1_divideByDigit 75 = .ok (.lload_n 3, 1) := by decide +kernel
theorem dX1_divideByDigit_76 : decode cX1_divideByDigit 76 = .ok (.l2i, 1) := by decide +kernel
theorem dX1_divideByDigit_77 : decode cX1_divideByDigit 77 = .ok (.iastore, 1) := by decide +kernel
theorem dX1_divideByDigit_78 : decode cX1_divideByDigit 78 = .ok (.aload_n 0, 1) := by decide +kernel
theorem dX1_divideByDigit_79 : decode cX1_divideByDigit 79 = .ok (.getfield 23, 3) := by decide +kernel
theorem dX1_divideByDigit_82 : decode cX1_divideByDigit 82 = .ok (.iconst 1, 1) := by decide +kernel
theorem dX1_divideByDigit_83 : decode cX1_divideByDigit 83 = .ok (.iconst 1, 1) := by decide +kernel
theorem dX1_divideByDigit_84 : decode cX1_divideByDigit 84 = .ok (.invokevirtual 69, 3) := by decide +kernel
theorem dX1_divideByDigit_87 : decode cX1_divideByDigit 87 = .ok (.return_, 1) := by decide +kernel
set_option maxRecDepth 20000 in
theorem ggX1_divideByMany_J6_numberOfLeadingZeros_0f7a4 : GoodIn wsX1_divideByMany wsJ6_numberOfLeadingZeros_0f7a4 := goodIn_r _ [11, 12] (by decide +kernel) (by decide +kernel)
set_option maxRecDepth 20000 in
theorem gX1_divideByMany_J6_numberOfLeadingZeros_0f7a4 : GoodIn wsX1_divideByMany (va_wsS RX1 73 yJ6_numberOfLeadingZeros_0f7a4 wsJ6_numberOfLeadingZeros_0f7a4) := goodIn_app (goodIn_of _ (by decide +kernel)) ggX1_divideByMany_J6_numberOfLeadingZeros_0f7a4
set_option maxRecDepth 20000 in
theorem ggX1_divideByMany_X1_shiftUp : GoodIn wsX1_divideByMany wsX1_shiftUp := goodIn_r _ [16, 1, 2, 7, 38, 39, 40] (by decide +kernel) (by decide +kernel)
set_option maxRecDepth 20000 in
theorem gX1_divideByMany_X1_shiftUp : GoodIn wsX1_divideByMany (va_wsS RX1 79 yX1_shiftUp wsX1_shiftUp) := goodIn_app (goodIn_of _ (by decide +kernel)) ggX1_divideByMany_X1_shiftUp
set_option maxRecDepth 20000 in
theorem ggX1_divideByMany_X1_guessDigit : GoodIn wsX1_divideByMany wsX1_guessDigit := goodIn_r _ [20, 4, 3, 21, 41, 42, 43, 44, 45] (by decide +kernel) (by decide +kernel)
set_option maxRecDepth 20000 in
theorem gX1_divideByMany_X1_guessDigit : GoodIn wsX1_divideByMany (wsV RX1 83 RX1 yX1_guessDigit wsX1_guessDigit) := goodIn_app (goodIn_of _ (by decide +kernel)) ggX1_divideByMany_X1_guessDigit
set_option maxRecDepth 20000 in
theorem ggX1_divideByMany_X1_takeOut : GoodIn wsX1_divideByMany wsX1_takeOut := goodIn_r _ [25, 3, 4, 7, 26, 27, 28, 15, 29, 41, 42, 43, 44, 45] (by decide +kernel) (by decide +kernel)
set_option maxRecDepth 20000 in
theorem gX1_divideByMany_X1_takeOut : GoodIn wsX1_divideByMany (wsV RX1 87 RX1 yX1_takeOut wsX1_takeOut) := goodIn_app (goodIn_of _ (by decide +kernel)) ggX1_divideByMany_X1_takeOut
set_option maxRecDepth 20000 in
theorem ggX1_divideByMany_X3_settle : GoodIn wsX1_divideByMany wsX3_settle := goodIn_r _ [34, 35, 36, 37, 38, 39, 40] (by decide +kernel) (by decide +kernel)
set_option maxRecDepth 20000 in
theorem gX1_divideByMany_X3_settle : GoodIn wsX1_divideByMany (wsV RX1 69 RX3 yX3_settle wsX3_settle) := goodIn_app (goodIn_of _ (by decide +kernel)) ggX1_divideByMany_X3_settle
theorem dX1_divideByMany_0 : decode cX1_divideByMany 0 = .ok (.aload_n 2, 1) := by decide +kernel
theorem dX1_divideByMany_1 : decode cX1_divideByMany 1 = .ok (.getfield 34, 3) := by decide +kernel
theorem dX1_divideByMany_4 : decode cX1_divideByMany 4 = .ok (.istore_n 3, 1) := by decide +kernel
theorem dX1_divideByMany_5 : decode cX1_divideByMany 5 = .ok (.aload_n 2, 1) := by decide +kernel
theorem dX1_divideByMany_6 : decode cX1_divideByMany 6 = .ok (.getfield 59, 3) := by decide +kernel
theorem dX1_divideByMany_9 : decode cX1_divideByMany 9 = .ok (.iload_n 3, 1) := by decide +kernel
theorem dX1_divideByMany_10 : decode cX1_divideByMany 10 = .ok (.iconst 1, 1) := by decide +kernel
theorem dX1_divideByMany_11 : decode cX1_divideByMany 11 = .ok (.isub, 1) := by decide +kernel
theorem dX1_divideByMany_12 : decode cX1_divideByMany 12 = .ok (.iaload, 1) := by decide +kernel
theorem dX1_divideByMany_13 : decode cX1_divideByMany 13 = .ok (.invokestatic 73, 3) := by decide +kernel
theorem dX1_divideByMany_16 : decode cX1_divideByMany 16 = .ok (.iconst 1, 1) := by decide +kernel
theorem dX1_divideByMany_17 : decode cX1_divideByMany 17 = .ok (.isub, 1) := by decide +kernel
theorem dX1_divideByMany_18 : decode cX1_divideByMany 18 = .ok (.istore 4, 2) := by decide +kernel
theorem dX1_divideByMany_20 : decode cX1_divideByMany 20 = .ok (.aload_n 2, 1) := by decide +kernel
theorem dX1_divideByMany_21 : decode cX1_divideByMany 21 = .ok (.iload 4, 2) := by decide +kernel
theorem dX1_divideByMany_23 : decode cX1_divideByMany 23 = .ok (.aload_n 0, 1) := by decide +kernel
theorem dX1_divideByMany_24 : decode cX1_divideByMany 24 = .ok (.getfield 30, 3) := by decide +kernel
theorem dX1_divideByMany_27 : decode cX1_divideByMany 27 = .ok (.invokestatic 79, 3) := by decide +kernel
theorem dX1_divideByMany_30 : decode cX1_divideByMany 30 = .ok (.pop, 1) := by decide +kernel
theorem dX1_divideByMany_31 : decode cX1_divideByMany 31 = .ok (.aload_n 0, 1) := by decide +kernel
theorem dX1_divideByMany_32 : decode cX1_divideByMany 32 = .ok (.getfield 26, 3) := by decide +kernel
theorem dX1_divideByMany_35 : decode cX1_divideByMany 35 = .ok (.aload_n 1, 1) := by decide +kernel
theorem dX1_divideByMany_36 : decode cX1_divideByMany 36 = .ok (.getfield 34, 3) := by decide +kernel
theorem dX1_divideByMany_39 : decode cX1_divideByMany 39 = .ok (.aload_n 1, 1) := by decide +kernel
theorem dX1_divideByMany_40 : decode cX1_divideByMany 40 = .ok (.iload 4, 2) := by decide +kernel
theorem dX1_divideByMany_42 : decode cX1_divideByMany 42 = .ok (.aload_n 0, 1) := by decide +kernel
theorem dX1_divideByMany_43 : decode cX1_divideByMany 43 = .ok (.getfield 26, 3) := by decide +kernel
theorem dX1_divideByMany_46 : decode cX1_divideByMany 46 = .ok (.invokestatic 79, 3) := by decide +kernel
theorem dX1_divideByMany_49 : decode cX1_divideByMany 49 = .ok (.iastore, 1) := by decide +kernel
theorem dX1_divideByMany_50 : decode cX1_divideByMany 50 = .ok (.aload_n 1, 1) := by decide +kernel
theorem dX1_divideByMany_51 : decode cX1_divideByMany 51 = .ok (.getfield 34, 3) := by decide +kernel
theorem dX1_divideByMany_54 : decode cX1_divideByMany 54 = .ok (.iload_n 3, 1) := by decide +kernel
theorem dX1_divideByMany_55 : decode cX1_divideByMany 55 = .ok (.isub, 1) := by decide +kernel
theorem dX1_divideByMany_56 : decode cX1_divideByMany 56 = .ok (.istore 5, 2) := by decide +kernel
theorem dX1_divideByMany_58 : decode cX1_divideByMany 58 = .ok (.iload 5, 2) := by decide +kernel
theorem dX1_divideByMany_60 : decode cX1_divideByMany 60 = .ok (.ifCond .lt 33, 3) := by decide +kernel
theorem dX1_divideByMany_63 : decode cX1_divideByMany 63 = .ok (.aload_n 0, 1) := by decide +kernel
theorem dX1_divideByMany_64 : decode cX1_divideByMany 64 = .ok (.getfield 20, 3) := by decide +kernel
theorem dX1_divideByMany_67 : decode cX1_divideByMany 67 = .ok (.getfield 59, 3) := by decide +kernel
theorem dX1_divideByMany_70 : decode cX1_divideByMany 70 = .ok (.iload 5, 2) := by decide +kernel
theorem dX1_divideByMany_72 : decode cX1_divideByMany 72 = .ok (.aload_n 0, 1) := by decide +kernel
theorem dX1_divideByMany_73 : decode cX1_divideByMany 73 = .ok (.aload_n 0, 1) := by decide +kernel
theorem dX1_divideByMany_74 : decode cX1_divideByMany 74 = .ok (.iload 5, 2) := by decide +kernel
theorem dX1_divideByMany_76 : decode cX1_divideByMany 76 = .ok (.iload_n 3, 1) := by decide +kernel
theorem dX1_divideByMany_77 : decode cX1_divideByMany 77 = .ok (.invokevirtual 83, 3) := by decide +kernel
theorem dX1_divideByMany_80 : decode cX1_divideByMany 80 = .ok (.iload 5, 2) := by decide +kernel
theorem dX1_divideByMany_82 : decode cX1_divideByMany 82 = .ok (.iload_n 3, 1) := by decide +kernel
theorem dX1_divideByMany_83 : decode cX1_divideByMany 83 = .ok (.invokevirtual 87, 3) := by decide +kernel
theorem dX1_divideByMany_86 : decode cX1_divideByMany 86 = .ok (.iastore, 1) := by decide +kernel
theorem dX1_divideByMany_87 : decode cX1_divideByMany 87 = .ok (.iinc 5 (-1), 3) := by decide +kernel
theorem dX1_divideByMany_90 : decode cX1_divideByMany 90 = .ok (.goto (-32), 3) := by decide +kernel
theorem dX1_divideByMany_93 : decode cX1_divideByMany 93 = .ok (.aload_n 0, 1) := by decide +kernel
theorem dX1_divideByMany_94 : decode cX1_divideByMany 94 = .ok (.getfield 20, 3) := by decide +kernel
theorem dX1_divideByMany_97 : decode cX1_divideByMany 97 = .ok (.aload_n 1, 1) := by decide +kernel
theorem dX1_divideByMany_98 : decode cX1_divideByMany 98 = .ok (.getfield 34, 3) := by decide +kernel
theorem dX1_divideByMany_101 : decode cX1_divideByMany 101 = .ok (.iload_n 3, 1) := by decide +kernel
theorem dX1_divideByMany_102 : decode cX1_divideByMany 102 = .ok (.isub, 1) := by decide +kernel
theorem dX1_divideByMany_103 : decode cX1_divideByMany 103 = .ok (.iconst 1, 1) := by decide +kernel
theorem dX1_divideByMany_104 : decode cX1_divideByMany 104 = .ok (.iadd, 1) := by decide +kernel
theorem dX1_divideByMany_105 : decode cX1_divideByMany 105 = .ok (.iconst 1, 1) := by decide +kernel
theorem dX1_divideByMany_106 : decode cX1_divideByMany 106 = .ok (.invokevirtual 69, 3) := by decide +kernel
theorem dX1_divideByMany_109 : decode cX1_divideByMany 109 = .ok (.iconst 0, 1) := by decide +kernel
theorem dX1_divideByMany_110 : decode cX1_divideByMany 110 = .ok (.istore 5, 2) := by decide +kernel
theorem dX1_divideByMany_112 : decode cX1_divideByMany 112 = .ok (.iload 5, 2) := by decide +kernel
theorem dX1_divideByMany_114 : decode cX1_divideByMany 114 = .ok (.iload_n 3, 1) := by decide +kernel
theorem dX1_divideByMany_115 : decode cX1_divideByMany 115 = .ok (.if_icmp .ge 52, 3) := by decide +kernel
theorem dX1_divideByMany_118 : decode cX1_divideByMany 118 = .ok (.aload_n 0, 1) := by decide +kernel
theorem dX1_divideByMany_119 : decode cX1_divideByMany 119 = .ok (.getfield 26, 3) := by decide +kernel
theorem dX1_divideByMany_122 : decode cX1_divideByMany 122 = .ok (.iload 5, 2) := by decide +kernel
theorem dX1_divideByMany_124 : decode cX1_divideByMany 124 = .ok (.iconst 1, 1) := by decide +kernel
theorem dX1_divideByMany_125 : decode cX1_divideByMany 125 = .ok (.iadd, 1) := by decide +kernel
theorem dX1_divideByMany_126 : decode cX1_divideByMany 126 = .ok (.iaload, 1) := by decide +kernel
theorem dX1_divideByMany_127 : decode cX1_divideByMany 127 = .ok (.i2l, 1) := by decide +kernel
theorem dX1_divideByMany_128 : decode cX1_divideByMany 128 = .ok (.bipush 31, 2) := by decide +kernel
theorem dX1_divideByMany_130 : decode cX1_divideByMany 130 = .ok (.lshl, 1) := by decide +kernel
theorem dX1_divideByMany_131 : decode cX1_divideByMany 131 = .ok (.aload_n 0, 1) := by decide +kernel
theorem dX1_divideByMany_132 : decode cX1_divideByMany 132 = .ok (.getfield 26, 3) := by decide +kernel
theorem dX1_divideByMany_135 : decode cX1_divideByMany 135 = .ok (.iload 5, 2) := by decide +kernel
theorem dX1_divideByMany_137 : decode cX1_divideByMany 137 = .ok (.iaload, 1) := by decide +kernel
theorem dX1_divideByMany_138 : decode cX1_divideByMany 138 = .ok (.i2l, 1) := by decide +kernel
theorem dX1_divideByMany_139 : decode cX1_divideByMany 139 = .ok (.lor, 1) := by decide +kernel
theorem dX1_divideByMany_140 : decode cX1_divideByMany 140 = .ok (.lstore 6, 2) := by decide +kernel
theorem dX1_divideByMany_142 : decode cX1_divideByMany 142 = .ok (.aload_n 0, 1) := by decide +kernel
theorem dX1_divideByMany_143 : decode cX1_divideByMany 143 = .ok (.getfield 23, 3) := by decide +kernel
theorem dX1_divideByMany_146 : decode cX1_divideByMany 146 = .ok (.getfield 59, 3) := by decide +kernel
theorem dX1_divideByMany_149 : decode cX1_divideByMany 149 = .ok (.iload 5, 2) := by decide +kernel
theorem dX1_divideByMany_151 : decode cX1_divideByMany 151 = .ok (.lload 6, 2) := by decide +kernel
theorem dX1_divideByMany_153 : decode cX1_divideByMany 153 = .ok (.iload 4, 2) := by decide +kernel
theorem dX1_divideByMany_155 : decode cX1_divideByMany 155 = .ok (.lushr, 1) := by decide +kernel
theorem dX1_divideByMany_156 : decode cX1_divideByMany 156 = .ok (.l2i, 1) := by decide +kernel
theorem dX1_divideByMany_157 : decode cX1_divideByMany 157 = .ok (.ldc 91, 2) := by decide +kernel
theorem dX1_divideByMany_159 : decode cX1_divideByMany 159 = .ok (.iand, 1) := by decide +kernel
theorem dX1_divideByMany_160 : decode cX1_divideByMany 160 = .ok (.iastore, 1) := by decide +kernel
theorem dX1_divideByMany_161 : decode cX1_divideByMany 161 = .ok (.iinc 5 1, 3) := by decide +kernel
theorem dX1_divideByMany_164 : decode cX1_divideByMany 164 = .ok (.goto (-52), 3) := by decide +kernel
theorem dX1_divideByMany_167 : decode cX1_divideByMany 167 = .ok (.aload_n 0, 1) := by decide +kernel
theorem dX1_divideByMany_168 : decode cX1_divideByMany 168 = .ok (.getfield 23, 3) := by decide +kernel
theorem dX1_divideByMany_171 : decode cX1_divideByMany 171 = .ok (.iload_n 3, 1) := by decide +kernel
theorem dX1_divideByMany_172 : decode cX1_divideByMany 172 = .ok (.iconst 1, 1) := by decide +kernel
theorem dX1_divideByMany_173 : decode cX1_divideByMany 173 = .ok (.invokevirtual 69, 3) := by decide +kernel
theorem dX1_divideByMany_176 : decode cX1_divideByMany 176 = .ok (.return_, 1) := by decide +kernel
theorem dX1_shiftUp_0 : decode cX1_shiftUp 0 = .ok (.lconst 0, 1) := by decide +kernel
theorem dX1_shiftUp_1 : decode cX1_shiftUp 1 = .ok (.lstore_n 3, 1) := by decide +kernel
theorem dX1_shiftUp_2 : decode cX1_shiftUp 2 = .ok (.iconst 0, 1) := by decide +kernel
theorem dX1_shiftUp_3 : decode cX1_shiftUp 3 = .ok (.istore 5, 2) := by decide +kernel
theorem dX1_shiftUp_5 : decode cX1_shiftUp 5 = .ok (.iload 5, 2) := by decide +kernel
theorem dX1_shiftUp_7 : decode cX1_shiftUp 7 = .ok (.aload_n 0, 1) := by decide +kernel
theorem dX1_shiftUp_8 : decode cX1_shiftUp 8 = .ok (.getfield 34, 3) := by decide +kernel
theorem dX1_shiftUp_11 : decode cX1_shiftUp 11 = .ok (.if_icmp .ge 36, 3) := by decide +kernel
theorem dX1_shiftUp_14 : decode cX1_shiftUp 14 = .ok (.lload_n 3, 1) := by decide +kernel
theorem dX1_shiftUp_15 : decode cX1_shiftUp 15 = .ok (.aload_n 0, 1) := by decide +kernel
theorem dX1_shiftUp_16 : decode cX1_shiftUp 16 = .ok (.getfield 59, 3) := by decide +kernel
theorem dX1_shiftUp_19 : decode cX1_shiftUp 19 = .ok (.iload 5, 2) := by decide +kernel
theorem dX1_shiftUp_21 : decode cX1_shiftUp 21 = .ok (.iaload, 1) := by decide +kernel
theorem dX1_shiftUp_22 : decode cX1_shiftUp 22 = .ok (.i2l, 1) := by decide +kernel
theorem dX1_shiftUp_23 : decode cX1_shiftUp 23 = .ok (.iload_n 1, 1) := by decide +kernel
theorem dX1_shiftUp_24 : decode cX1_shiftUp 24 = .ok (.lshl, 1) := by decide +kernel
theorem dX1_shiftUp_25 : decode cX1_shiftUp 25 = .ok (.lor, 1) := by decide +kernel
theorem dX1_shiftUp_26 : decode cX1_shiftUp 26 = .ok (.lstore_n 3, 1) := by decide +kernel
theorem dX1_shiftUp_27 : decode cX1_shiftUp 27 = .ok (.aload_n 2, 1) := by decide +kernel
theorem dX1_shiftUp_28 : decode cX1_shiftUp 28 = .ok (.iload 5, 2) := by decide +kernel
theorem dX1_shiftUp_30 : decode cX1_shiftUp 30 = .ok (.lload_n 3, 1) := by decide +kernel
theorem dX1_shiftUp_31 : decode cX1_shiftUp 31 = .ok (.l2i, 1) := by decide +kernel
theorem dX1_shiftUp_32 : decode cX1_shiftUp 32 = .ok (.ldc 91, 2) := by decide +kernel
theorem dX1_shiftUp_34 : decode cX1_shiftUp 34 = .ok (.iand, 1) := by decide +kernel
theorem dX1_shiftUp_35 : decode cX1_shiftUp 35 = .ok (.iastore, 1) := by decide +kernel
theorem dX1_shiftUp_36 : decode cX1_shiftUp 36 = .ok (.lload_n 3, 1) := by decide +kernel
theorem dX1_shiftUp_37 : decode cX1_shiftUp 37 = .ok (.bipush 31, 2) := by decide +kernel
theorem dX1_shiftUp_39 : decode cX1_shiftUp 39 = .ok (.lushr, 1) := by decide +kernel
theorem dX1_shiftUp_40 : decode cX1_shiftUp 40 = .ok (.lstore_n 3, 1) := by decide +kernel
theorem dX1_shiftUp_41 : decode cX1_shiftUp 41 = .ok (.iinc 5 1, 3) := by decide +kernel
theorem dX1_shiftUp_44 : decode cX1_shiftUp 44 = .ok (.goto (-39), 3) := by decide +kernel
theorem dX1_shiftUp_47 : decode cX1_shiftUp 47 = .ok (.lload_n 3, 1) := by decide +kernel
theorem dX1_shiftUp_48 : decode cX1_shiftUp 48 = .ok (.l2i, 1) := by decide +kernel
theorem dX1_shiftUp_49 : decode cX1_shiftUp 49 = .ok (.ireturn, 1) := by decide +kernel
theorem dX1_guessDigit_0 : decode cX1_guessDigit 0 = .ok (.aload_n 0, 1) := by decide +kernel
theorem dX1_guessDigit_1 : decode cX1_guessDigit 1 = .ok (.getfield 26, 3) := by decide +kernel
theorem dX1_guessDigit_4 : decode cX1_guessDigit 4 = .ok (.iload_n 1, 1) := by decide +kernel
theorem dX1_guessDigit_5 : decode cX1_guessDigit 5 = .ok (.iload_n 2, 1) := by decide +kernel
theorem dX1_guessDigit_6 : decode cX1_guessDigit 6 = .ok (.iadd, 1) := by decide +kernel
theorem dX1_guessDigit_7 : decode cX1_guessDigit 7 = .ok (.iaload, 1) := by decide +kernel
theorem dX1_guessDigit_8 : decode cX1_guessDigit 8 = .ok (.i2l, 1) := by decide +kernel
theorem dX1_guessDigit_9 : decode cX1_guessDigit 9 = .ok (.bipush 31, 2) := by decide +kernel
theorem dX1_guessDigit_11 : decode cX1_guessDigit 11 = .ok (.lshl, 1) := by decide +kernel
theorem dX1_guessDigit_12 : decode cX1_guessDigit 12 = .ok (.aload_n 0, 1) := by decide +kernel
theorem dX1_guessDigit_13 : decode cX1_guessDigit 13 = .ok (.getfield 26, 3) := by decide +kernel
theorem dX1_guessDigit_16 : decode cX1_guessDigit 16 = .ok (.iload_n 1, 1) := by decide +kernel
theorem dX1_guessDigit_17 : decode cX1_guessDigit 17 = .ok (.iload_n 2, 1) := by decide +kernel
theorem dX1_guessDigit_18 : decode cX1_guessDigit 18 = .ok (.iadd, 1) := by decide +kernel
theorem dX1_guessDigit_19 : decode cX1_guessDigit 19 = .ok (.iconst 1, 1) := by decide +kernel
theorem dX1_guessDigit_20 : decode cX1_guessDigit 20 = .ok (.isub, 1) := by decide +kernel
theorem dX1_guessDigit_21 : decode cX1_guessDigit 21 = .ok (.iaload, 1) := by decide +kernel
theorem dX1_guessDigit_22 : decode cX1_guessDigit 22 = .ok (.i2l, 1) := by decide +kernel
theorem dX1_guessDigit_23 : decode cX1_guessDigit 23 = .ok (.lor, 1) := by decide +kernel
theorem dX1_guessDigit_24 : decode cX1_guessDigit 24 = .ok (.lstore_n 3, 1) := by decide +kernel
theorem dX1_guessDigit_25 : decode cX1_guessDigit 25 = .ok (.aload_n 0, 1) := by decide +kernel
theorem dX1_guessDigit_26 : decode cX1_guessDigit 26 = .ok (.getfield 30, 3) := by decide +kernel
theorem dX1_guessDigit_29 : decode cX1_guessDigit 29 = .ok (.iload_n 2, 1) := by decide +kernel
theorem dX1_guessDigit_30 : decode cX1_guessDigit 30 = .ok (.iconst 1, 1) := by decide +kernel
theorem dX1_guessDigit_31 : decode cX1_guessDigit 31 = .ok (.isub, 1) := by decide +kernel
theorem dX1_guessDigit_32 : decode cX1_guessDigit 32 = .ok (.iaload, 1) := by decide +kernel
theorem dX1_guessDigit_33 : decode cX1_guessDigit 33 = .ok (.i2l, 1) := by decide +kernel
theorem dX1_guessDigit_34 : decode cX1_guessDigit 34 = .ok (.lstore 5, 2) := by decide +kernel
theorem dX1_guessDigit_36 : decode cX1_guessDigit 36 = .ok (.aload_n 0, 1) := by decide +kernel
theorem dX1_guessDigit_37 : decode cX1_guessDigit 37 = .ok (.getfield 30, 3) := by decide +kernel
theorem dX1_guessDigit_40 : decode cX1_guessDigit 40 = .ok (.iload_n 2, 1) := by decide +kernel
theorem dX1_guessDigit_41 : decode cX1_guessDigit 41 = .ok (.iconst 2, 1) := by decide +kernel
theorem dX1_guessDigit_42 : decode cX1_guessDigit 42 = .ok (.isub, 1) := by decide +kernel
theorem dX1_guessDigit_43 : decode cX1_guessDigit 43 = .ok (.iaload, 1) := by decide +kernel
theorem dX1_guessDigit_44 : decode cX1_guessDigit 44 = .ok (.i2l, 1) := by decide +kernel
theorem dX1_guessDigit_45 : decode cX1_guessDigit 45 = .ok (.lstore 7, 2) := by decide +kernel
theorem dX1_guessDigit_47 : decode cX1_guessDigit 47 = .ok (.lload_n 3, 1) := by decide +kernel
theorem dX1_guessDigit_48 : decode cX1_guessDigit 48 = .ok (.lload 5, 2) := by decide +kernel
theorem dX1_guessDigit_50 : decode cX1_guessDigit 50 = .ok (.ldiv, 1) := by decide +kernel
theorem dX1_guessDigit_51 : decode cX1_guessDigit 51 = .ok (.lstore 9, 2) := by decide +kernel
theorem dX1_guessDigit_53 : decode cX1_guessDigit 53 = .ok (.lload_n 3, 1) := by decide +kernel
theorem dX1_guessDigit_54 : decode cX1_guessDigit 54 = .ok (.lload 5, 2) := by decide +kernel
theorem dX1_guessDigit_56 : decode cX1_guessDigit 56 = .ok (.lrem, 1) := by decide +kernel
theorem dX1_guessDigit_57 : decode cX1_guessDigit 57 = .ok (.lstore 11, 2) := by decide +kernel
theorem dX1_guessDigit_59 : decode cX1_guessDigit 59 = .ok (.iconst 0, 1) := by decide +kernel
theorem dX1_guessDigit_60 : decode cX1_guessDigit 60 = .ok (.istore 13, 2) := by decide +kernel
theorem dX1_guessDigit_62 : decode cX1_guessDigit 62 = .ok (.iload 13, 2) := by decide +kernel
theorem dX1_guessDigit_64 : decode cX1_guessDigit 64 = .ok (.iconst 2, 1) := by decide +kernel
theorem dX1_guessDigit_65 : decode cX1_guessDigit 65 = .ok (.if_icmp .ge 73, 3) := by decide +kernel
theorem dX1_guessDigit_68 : decode cX1_guessDigit 68 = .ok (.lload 11, 2) := by decide +kernel
theorem dX1_guessDigit_70 : decode cX1_guessDigit 70 = .ok (.ldc2_w 92, 3) := by decide +kernel
theorem dX1_guessDigit_73 : decode cX1_guessDigit 73 = .ok (.lcmp, 1) := by decide +kernel
theorem dX1_guessDigit_74 : decode cX1_guessDigit 74 = .ok (.ifCond .gt 64, 3) := by decide +kernel
theorem dX1_guessDigit_77 : decode cX1_guessDigit 77 = .ok (.lload 11, 2) := by decide +kernel
theorem dX1_guessDigit_79 : decode cX1_guessDigit 79 = .ok (.bipush 31, 2) := by decide +kernel
theorem dX1_guessDigit_81 : decode cX1_guessDigit 81 = .ok (.lshl, 1) := by decide +kernel
theorem dX1_guessDigit_82 : decode cX1_guessDigit 82 = .ok (.aload_n 0, 1) := by decide +kernel
theorem dX1_guessDigit_83 : decode cX1_guessDigit 83 = .ok (.getfield 26, 3) := by decide +kernel
theorem dX1_guessDigit_86 : decode cX1_guessDigit 86 = .ok (.iload_n 1, 1) := by decide +kernel
theorem dX1_guessDigit_87 : decode cX1_guessDigit 87 = .ok (.iload_n 2, 1) := by decide +kernel
theorem dX1_guessDigit_88 : decode cX1_guessDigit 88 = .ok (.iadd, 1) := by decide +kernel
theorem dX1_guessDigit_89 : decode cX1_guessDigit 89 = .ok (.iconst 2, 1) := by decide +kernel
theorem dX1_guessDigit_90 : decode cX1_guessDigit 90 = .ok (.isub, 1) := by decide +kernel
theorem dX1_guessDigit_91 : decode cX1_guessDigit 91 = .ok (.iaload, 1) := by decide +kernel
theorem dX1_guessDigit_92 : decode cX1_guessDigit 92 = .ok (.i2l, 1) := by decide +kernel
theorem dX1_guessDigit_93 : decode cX1_guessDigit 93 = .ok (.lor, 1) := by decide +kernel
theorem dX1_guessDigit_94 : decode cX1_guessDigit 94 = .ok (.lstore 14, 2) := by decide +kernel
theorem dX1_guessDigit_96 : decode cX1_guessDigit 96 = .ok (.lload 9, 2) := by decide +kernel
theorem dX1_guessDigit_98 : decode cX1_guessDigit 98 = .ok (.ldc2_w 92, 3) := by decide +kernel
theorem dX1_guessDigit_101 : decode cX1_guessDigit 101 = .ok (.lcmp, 1) := by decide +kernel
theorem dX1_guessDigit_102 : decode cX1_guessDigit 102 = .ok (.ifCond .gt 17, 3) := by decide +kernel
theorem dX1_guessDigit_105 : decode cX1_guessDigit 105 = .ok (.lload 9, 2) := by decide +kernel
theorem dX1_guessDigit_107 : decode cX1_guessDigit 107 = .ok (.lload 7, 2) := by decide +kernel
theorem dX1_guessDigit_109 : decode cX1_guessDigit 109 = .ok (.lmul, 1) := by decide +kernel
theorem dX1_guessDigit_110 : decode cX1_guessDigit 110 = .ok (.lload 14, 2) := by decide +kernel
theorem dX1_guessDigit_112 : decode cX1_guessDigit 112 = .ok (.lcmp, 1) := by decide +kernel
theorem dX1_guessDigit_113 : decode cX1_guessDigit 113 = .ok (.ifCond .gt 6, 3) := by decide +kernel
theorem dX1_guessDigit_116 : decode cX1_guessDigit 116 = .ok (.goto 22, 3) := by decide +kernel
theorem dX1_guessDigit_119 : decode cX1_guessDigit 119 = .ok (.lload 9, 2) := by decide +kernel
theorem dX1_guessDigit_121 : decode cX1_guessDigit 121 = .ok (.lconst 1, 1) := by decide +kernel
theorem dX1_guessDigit_122 : decode cX1_guessDigit 122 = .ok (.lsub, 1) := by decide +kernel
theorem dX1_guessDigit_123 : decode cX1_guessDigit 123 = .ok (.lstore 9, 2) := by decide +kernel
theorem dX1_guessDigit_125 : decode cX1_guessDigit 125 = .ok (.lload 11, 2) := by decide +kernel
theorem dX1_guessDigit_127 : decode cX1_guessDigit 127 = .ok (.lload 5, 2) := by decide +kernel
theorem dX1_guessDigit_129 : decode cX1_guessDigit 129 = .ok (.ladd, 1) := by decide +kernel
theorem dX1_guessDigit_130 : decode cX1_guessDigit 130 = .ok (.lstore 11, 2) := by decide +kernel
theorem dX1_guessDigit_132 : decode cX1_guessDigit 132 = .ok (.iinc 13 1, 3) := by decide +kernel
theorem dX1_guessDigit_135 : decode cX1_guessDigit 135 = .ok (.goto (-73), 3) := by decide +kernel
theorem dX1_guessDigit_138 : decode cX1_guessDigit 138 = .ok (.lload 9, 2) := by decide +kernel
theorem dX1_guessDigit_140 : decode cX1_guessDigit 140 = .ok (.lreturn, 1) := by decide +kernel
set_option maxRecDepth 20000 in
theorem ggX1_takeOut_X1_putBack : GoodIn wsX1_takeOut wsX1_putBack := goodIn_r _ [8, 2, 1, 3, 9, 10, 11, 12, 13] (by decide +kernel) (by decide +kernel)
set_option maxRecDepth 20000 in
theorem gX1_takeOut_X1_putBack : GoodIn wsX1_takeOut (wsV RX1 94 RX1 yX1_putBack wsX1_putBack) := goodIn_app (goodIn_of _ (by decide +kernel)) ggX1_takeOut_X1_putBack
theorem dX1_takeOut_0 : decode cX1_takeOut 0 = .ok (.lconst 0, 1) := by decide +kernel
theorem dX1_takeOut_1 : decode cX1_takeOut 1 = .ok (.lstore 5, 2) := by decide +kernel
theorem dX1_takeOut_3 : decode cX1_takeOut 3 = .ok (.iconst 0, 1) := by decide +kernel
theorem dX1_takeOut_4 : decode cX1_takeOut 4 = .ok (.istore 7, 2) := by decide +kernel
theorem dX1_takeOut_6 : decode cX1_takeOut 6 = .ok (.iload 7, 2) := by decide +kernel
theorem dX1_takeOut_8 : decode cX1_takeOut 8 = .ok (.iload 4, 2) := by decide +kernel
theorem dX1_takeOut_10 : decode cX1_takeOut 10 = .ok (.if_icmp .ge 70, 3) := by decide +kernel
theorem dX1_takeOut_13 : decode cX1_takeOut 13 = .ok (.lload 5, 2) := by decide +kernel
theorem dX1_takeOut_15 : decode cX1_takeOut 15 = .ok (.lload_n 1, 1) := by decide +kernel
theorem dX1_takeOut_16 : decode cX1_takeOut 16 = .ok (.aload_n 0, 1) := by decide +kernel
theorem dX1_takeOut_17 : decode cX1_takeOut 17 = .ok (.getfield 30, 3) := by decide +kernel
theorem dX1_takeOut_20 : decode cX1_takeOut 20 = .ok (.iload 7, 2) := by decide +kernel
theorem dX1_takeOut_22 : decode cX1_takeOut 22 = .ok (.iaload, 1) := by decide +kernel
theorem dX1_takeOut_23 : decode cX1_takeOut 23 = .ok (.i2l, 1) := by decide +kernel
theorem dX1_takeOut_24 : decode cX1_takeOut 24 = .ok (.lmul, 1) := by decide +kernel
theorem dX1_takeOut_25 : decode cX1_takeOut 25 = .ok (.ladd, 1) := by decide +kernel
theorem dX1_takeOut_26 : decode cX1_takeOut 26 = .ok (.lstore 5, 2) := by decide +kernel
theorem dX1_takeOut_28 : decode cX1_takeOut 28 = .ok (.aload_n 0, 1) := by decide +kernel
theorem dX1_takeOut_29 : decode cX1_takeOut 29 = .ok (.getfield 26, 3) := by decide +kernel
theorem dX1_takeOut_32 : decode cX1_takeOut 32 = .ok (.iload_n 3, 1) := by decide +kernel
theorem dX1_takeOut_33 : decode cX1_takeOut 33 = .ok (.iload 7, 2) := by decide +kernel
theorem dX1_takeOut_35 : decode cX1_takeOut 35 = .ok (.iadd, 1) := by decide +kernel
theorem dX1_takeOut_36 : decode cX1_takeOut 36 = .ok (.iaload, 1) := by decide +kernel
theorem dX1_takeOut_37 : decode cX1_takeOut 37 = .ok (.lload 5, 2) := by decide +kernel
theorem dX1_takeOut_39 : decode cX1_takeOut 39 = .ok (.l2i, 1) := by decide +kernel
theorem dX1_takeOut_40 : decode cX1_takeOut 40 = .ok (.ldc 91, 2) := by decide +kernel
theorem dX1_takeOut_42 : decode cX1_takeOut 42 = .ok (.iand, 1) := by decide +kernel
theorem dX1_takeOut_43 : decode cX1_takeOut 43 = .ok (.isub, 1) := by decide +kernel
theorem dX1_takeOut_44 : decode cX1_takeOut 44 = .ok (.istore 8, 2) := by decide +kernel
theorem dX1_takeOut_46 : decode cX1_takeOut 46 = .ok (.aload_n 0, 1) := by decide +kernel
theorem dX1_takeOut_47 : decode cX1_takeOut 47 = .ok (.getfield 26, 3) := by decide +kernel
theorem dX1_takeOut_50 : decode cX1_takeOut 50 = .ok (.iload_n 3, 1) := by decide +kernel
theorem dX1_takeOut_51 : decode cX1_takeOut 51 = .ok (.iload 7, 2) := by decide +kernel
theorem dX1_takeOut_53 : decode cX1_takeOut 53 = .ok (.iadd, 1) := by decide +kernel
theorem dX1_takeOut_54 : decode cX1_takeOut 54 = .ok (.iload 8, 2) := by decide +kernel
theorem dX1_takeOut_56 : decode cX1_takeOut 56 = .ok (.ldc 91, 2) := by decide +kernel
theorem dX1_takeOut_58 : decode cX1_takeOut 58 = .ok (.iand, 1) := by decide +kernel
theorem dX1_takeOut_59 : decode cX1_takeOut 59 = .ok (.iastore, 1) := by decide +kernel
theorem dX1_takeOut_60 : decode cX1_takeOut 60 = .ok (.lload 5, 2) := by decide +kernel
theorem dX1_takeOut_62 : decode cX1_takeOut 62 = .ok (.bipush 31, 2) := by decide +kernel
theorem dX1_takeOut_64 : decode cX1_takeOut 64 = .ok (.lushr, 1) := by decide +kernel
theorem dX1_takeOut_65 : decode cX1_takeOut 65 = .ok (.iload 8, 2) := by decide +kernel
theorem dX1_takeOut_67 : decode cX1_takeOut 67 = .ok (.bipush 31, 2) := by decide +kernel
theorem dX1_takeOut_69 : decode cX1_takeOut 69 = .ok (.iushr, 1) := by decide +kernel
theorem dX1_takeOut_70 : decode cX1_takeOut 70 = .ok (.i2l, 1) := by decide +kernel
theorem dX1_takeOut_71 : decode cX1_takeOut 71 = .ok (.ladd, 1) := by decide +kernel
theorem dX1_takeOut_72 : decode cX1_takeOut 72 = .ok (.lstore 5, 2) := by decide +kernel
theorem dX1_takeOut_74 : decode cX1_takeOut 74 = .ok (.iinc 7 1, 3) := by decide +kernel
theorem dX1_takeOut_77 : decode cX1_takeOut 77 = .ok (.goto (-71), 3) := by decide +kernel
theorem dX1_takeOut_80 : decode cX1_takeOut 80 = .ok (.aload_n 0, 1) := by decide +kernel
theorem dX1_takeOut_81 : decode cX1_takeOut 81 = .ok (.getfield 26, 3) := by decide +kernel
theorem dX1_takeOut_84 : decode cX1_takeOut 84 = .ok (.iload_n 3, 1) := by decide +kernel
theorem dX1_takeOut_85 : decode cX1_takeOut 85 = .ok (.iload 4, 2) := by decide +kernel
theorem dX1_takeOut_87 : decode cX1_takeOut 87 = .ok (.iadd, 1) := by decide +kernel
theorem dX1_takeOut_88 : decode cX1_takeOut 88 = .ok (.iaload, 1) := by decide +kernel
theorem dX1_takeOut_89 : decode cX1_takeOut 89 = .ok (.i2l, 1) := by decide +kernel
theorem dX1_takeOut_90 : decode cX1_takeOut 90 = .ok (.lload 5, 2) := by decide +kernel
theorem dX1_takeOut_92 : decode cX1_takeOut 92 = .ok (.lcmp, 1) := by decide +kernel
theorem dX1_takeOut_93 : decode cX1_takeOut 93 = .ok (.ifCond .ge 7, 3) := by decide +kernel
theorem dX1_takeOut_96 : decode cX1_takeOut 96 = .ok (.iconst 1, 1) := by decide +kernel
theorem dX1_takeOut_97 : decode cX1_takeOut 97 = .ok (.goto 4, 3) := by decide +kernel
theorem dX1_takeOut_100 : decode cX1_takeOut 100 = .ok (.iconst 0, 1) := by decide +kernel
theorem dX1_takeOut_101 : decode cX1_takeOut 101 = .ok (.istore 7, 2) := by decide +kernel
theorem dX1_takeOut_103 : decode cX1_takeOut 103 = .ok (.aload_n 0, 1) := by decide +kernel
theorem dX1_takeOut_104 : decode cX1_takeOut 104 = .ok (.getfield 26, 3) := by decide +kernel
theorem dX1_takeOut_107 : decode cX1_takeOut 107 = .ok (.iload_n 3, 1) := by decide +kernel
theorem dX1_takeOut_108 : decode cX1_takeOut 108 = .ok (.iload 4, 2) := by decide +kernel
theorem dX1_takeOut_110 : decode cX1_takeOut 110 = .ok (.iadd, 1) := by decide +kernel
theorem dX1_takeOut_111 : decode cX1_takeOut 111 = .ok (.iconst 0, 1) := by decide +kernel
theorem dX1_takeOut_112 : decode cX1_takeOut 112 = .ok (.iastore, 1) := by decide +kernel
theorem dX1_takeOut_113 : decode cX1_takeOut 113 = .ok (.iload 7, 2) := by decide +kernel
theorem dX1_takeOut_115 : decode cX1_takeOut 115 = .ok (.ifCond .eq 15, 3) := by decide +kernel
theorem dX1_takeOut_118 : decode cX1_takeOut 118 = .ok (.aload_n 0, 1) := by decide +kernel
theorem dX1_takeOut_119 : decode cX1_takeOut 119 = .ok (.iload_n 3, 1) := by decide +kernel
theorem dX1_takeOut_120 : decode cX1_takeOut 120 = .ok (.iload 4, 2) := by decide +kernel
theorem dX1_takeOut_122 : decode cX1_takeOut 122 = .ok (.invokevirtual 94, 3) := by decide +kernel
theorem dX1_takeOut_125 : decode cX1_takeOut 125 = .ok (.lload_n 1, 1) := by decide +kernel
theorem dX1_takeOut_126 : decode cX1_takeOut 126 = .ok (.l2i, 1) := by decide +kernel
theorem dX1_takeOut_127 : decode cX1_takeOut 127 = .ok (.iconst 1, 1) := by decide +kernel
theorem dX1_takeOut_128 : decode cX1_takeOut 128 = .ok (.isub, 1) := by decide +kernel
theorem dX1_takeOut_129 : decode cX1_takeOut 129 = .ok (.ireturn, 1) := by decide +kernel
theorem dX1_takeOut_130 : decode cX1_takeOut 130 = .ok (.lload_n 1, 1) := by decide +kernel
theorem dX1_takeOut_131 : decode cX1_takeOut 131 = .ok (.l2i, 1) := by decide +kernel
theorem dX1_takeOut_132 : decode cX1_takeOut 132 = .ok (.ireturn, 1) := by decide +kernel
theorem dX1_putBack_0 : decode cX1_putBack 0 = .ok (.lconst 0, 1) := by decide +kernel
theorem dX1_putBack_1 : decode cX1_putBack 1 = .ok (.lstore_n 3, 1) := by decide +kernel
theorem dX1_putBack_2 : decode cX1_putBack 2 = .ok (.iconst 0, 1) := by decide +kernel
theorem dX1_putBack_3 : decode cX1_putBack 3 = .ok (.istore 5, 2) := by decide +kernel
theorem dX1_putBack_5 : decode cX1_putBack 5 = .ok (.iload 5, 2) := by decide +kernel
theorem dX1_putBack_7 : decode cX1_putBack 7 = .ok (.iload_n 2, 1) := by decide +kernel
theorem dX1_putBack_8 : decode cX1_putBack 8 = .ok (.if_icmp .ge 50, 3) := by decide +kernel
theorem dX1_putBack_11 : decode cX1_putBack 11 = .ok (.lload_n 3, 1) := by decide +kernel
theorem dX1_putBack_12 : decode cX1_putBack 12 = .ok (.aload_n 0, 1) := by decide +kernel
theorem dX1_putBack_13 : decode cX1_putBack 13 = .ok (.getfield 26, 3) := by decide +kernel
theorem dX1_putBack_16 : decode cX1_putBack 16 = .ok (.iload_n 1, 1) := by decide +kernel
theorem dX1_putBack_17 : decode cX1_putBack 17 = .ok (.iload 5, 2) := by decide +kernel
theorem dX1_putBack_19 : decode cX1_putBack 19 = .ok (.iadd, 1) := by decide +kernel
theorem dX1_putBack_20 : decode cX1_putBack 20 = .ok (.iaload, 1) := by decide +kernel
theorem dX1_putBack_21 : decode cX1_putBack 21 = .ok (.i2l, 1) := by decide +kernel
theorem dX1_putBack_22 : decode cX1_putBack 22 = .ok (.aload_n 0, 1) := by decide +kernel
theorem dX1_putBack_23 : decode cX1_putBack 23 = .ok (.getfield 30, 3) := by decide +kernel
theorem dX1_putBack_26 : decode cX1_putBack 26 = .ok (.iload 5, 2) := by decide +kernel
theorem dX1_putBack_28 : decode cX1_putBack 28 = .ok (.iaload, 1) := by decide +kernel
theorem dX1_putBack_29 : decode cX1_putBack 29 = .ok (.i2l, 1) := by decide +kernel
theorem dX1_putBack_30 : decode cX1_putBack 30 = .ok (.ladd, 1) := by decide +kernel
theorem dX1_putBack_31 : decode cX1_putBack 31 = .ok (.ladd, 1) := by decide +kernel
theorem dX1_putBack_32 : decode cX1_putBack 32 = .ok (.lstore_n 3, 1) := by decide +kernel
theorem dX1_putBack_33 : decode cX1_putBack 33 = .ok (.aload_n 0, 1) := by decide +kernel
theorem dX1_putBack_34 : decode cX1_putBack 34 = .ok (.getfield 26, 3) := by decide +kernel
theorem dX1_putBack_37 : decode cX1_putBack 37 = .ok (.iload_n 1, 1) := by decide +kernel
theorem dX1_putBack_38 : decode cX1_putBack 38 = .ok (.iload 5, 2) := by decide +kernel
theorem dX1_putBack_40 : decode cX1_putBack 40 = .ok (.iadd, 1) := by decide +kernel
theorem dX1_putBack_41 : decode cX1_putBack 41 = .ok (.lload_n 3, 1) := by decide +kernel
theorem dX1_putBack_42 : decode cX1_putBack 42 = .ok (.l2i, 1) := by decide +kernel
theorem dX1_putBack_43 : decode cX1_putBack 43 = .ok (.ldc 91, 2) := by decide +kernel
theorem dX1_putBack_45 : decode cX1_putBack 45 = .ok (.iand, 1) := by decide +kernel
theorem dX1_putBack_46 : decode cX1_putBack 46 = .ok (.iastore, 1) := by decide +kernel
theorem dX1_putBack_47 : decode cX1_putBack 47 = .ok (.lload_n 3, 1) := by decide +kernel
theorem dX1_putBack_48 : decode cX1_putBack 48 = .ok (.bipush 31, 2) := by decide +kernel
theorem dX1_putBack_50 : decode cX1_putBack 50 = .ok (.lushr, 1) := by decide +kernel
theorem dX1_putBack_51 : decode cX1_putBack 51 = .ok (.lstore_n 3, 1) := by decide +kernel
theorem dX1_putBack_52 : decode cX1_putBack 52 = .ok (.iinc 5 1, 3) := by decide +kernel
theorem dX1_putBack_55 : decode cX1_putBack 55 = .ok (.goto (-50), 3) := by decide +kernel
theorem dX1_putBack_58 : decode cX1_putBack 58 = .ok (.return_, 1) := by decide +kernel
set_option maxRecDepth 20000 in
theorem ggX2_init_X3_init : GoodIn wsX2_init wsX3_init := goodIn_r _ [11, 12, 2, 3, 13, 14, 15, 16, 17] (by decide +kernel) (by decide +kernel)
set_option maxRecDepth 20000 in
theorem gX2_init_X3_init : GoodIn wsX2_init (wsX3_init) := ggX2_init_X3_init
theorem dX2_init_0 : decode cX2_init 0 = .ok (.aload_n 0, 1) := by decide +kernel
theorem dX2_init_1 : decode cX2_init 1 = .ok (.invokespecial 3, 3) := by decide +kernel
theorem dX2_init_4 : decode cX2_init 4 = .ok (.aload_n 0, 1) := by decide +kernel
theorem dX2_init_5 : decode cX2_init 5 = .ok (.new 9, 3) := by decide +kernel
theorem dX2_init_8 : decode cX2_init 8 = .ok (.dup, 1) := by decide +kernel
theorem dX2_init_9 : decode cX2_init 9 = .ok (.bipush 20, 2) := by decide +kernel
theorem dX2_init_11 : decode cX2_init 11 = .ok (.invokespecial 11, 3) := by decide +kernel
theorem dX2_init_14 : decode cX2_init 14 = .ok (.putfield 14, 3) := by decide +kernel
theorem dX2_init_17 : decode cX2_init 17 = .ok (.aload_n 0, 1) := by decide +kernel
theorem dX2_init_18 : decode cX2_init 18 = .ok (.iconst 0, 1) := by decide +kernel
theorem dX2_init_19 : decode cX2_init 19 = .ok (.putfield 20, 3) := by decide +kernel
theorem dX2_init_22 : decode cX2_init 22 = .ok (.return_, 1) := by decide +kernel
set_option maxRecDepth 20000 in
theorem ggX2_open_X3_setZero : GoodIn wsX2_open wsX3_setZero := goodIn_r _ [9, 10, 11, 16, 17, 18] (by decide +kernel) (by decide +kernel)
set_option maxRecDepth 20000 in
theorem gX2_open_X3_setZero : GoodIn wsX2_open (wsV RX2 24 RX3 yX3_setZero wsX3_setZero) := goodIn_app (goodIn_of _ (by decide +kernel)) ggX2_open_X3_setZero
theorem dX2_open_0 : decode cX2_open 0 = .ok (.aload_n 0, 1) := by decide +kernel
theorem dX2_open_1 : decode cX2_open 1 = .ok (.getfield 14, 3) := by decide +kernel
theorem dX2_open_4 : decode cX2_open 4 = .ok (.invokevirtual 24, 3) := by decide +kernel
theorem dX2_open_7 : decode cX2_open 7 = .ok (.aload_n 0, 1) := by decide +kernel
theorem dX2_open_8 : decode cX2_open 8 = .ok (.iload_n 1, 1) := by decide +kernel
theorem dX2_open_9 : decode cX2_open 9 = .ok (.putfield 27, 3) := by decide +kernel
theorem dX2_open_12 : decode cX2_open 12 = .ok (.aload_n 0, 1) := by decide +kernel
theorem dX2_open_13 : decode cX2_open 13 = .ok (.iconst 0, 1) := by decide +kernel
theorem dX2_open_14 : decode cX2_open 14 = .ok (.putfield 30, 3) := by decide +kernel
theorem dX2_open_17 : decode cX2_open 17 = .ok (.aload_n 0, 1) := by decide +kernel
theorem dX2_open_18 : decode cX2_open 18 = .ok (.iconst 1, 1) := by decide +kernel
theorem dX2_open_19 : decode cX2_open 19 = .ok (.putfield 20, 3) := by decide +kernel
theorem dX2_open_22 : decode cX2_open 22 = .ok (.return_, 1) := by decide +kernel
theorem dX2_takesMore_0 : decode cX2_takesMore 0 = .ok (.aload_n 0, 1) := by decide +kernel
theorem dX2_takesMore_1 : decode cX2_takesMore 1 = .ok (.getfield 20, 3) := by decide +kernel
theorem dX2_takesMore_4 : decode cX2_takesMore 4 = .ok (.iconst 1, 1) := by decide +kernel
theorem dX2_takesMore_5 : decode cX2_takesMore 5 = .ok (.if_icmp .ne 16, 3) := by decide +kernel
theorem dX2_takesMore_8 : decode cX2_takesMore 8 = .ok (.aload_n 0, 1) := by decide +kernel
theorem dX2_takesMore_9 : decode cX2_takesMore 9 = .ok (.getfield 30, 3) := by decide +kernel
theorem dX2_takesMore_12 : decode cX2_takesMore 12 = .ok (.bipush 20, 2) := by decide +kernel
theorem dX2_takesMore_14 : decode cX2_takesMore 14 = .ok (.if_icmp .ge 7, 3) := by decide +kernel
theorem dX2_takesMore_17 : decode cX2_takesMore 17 = .ok (.iconst 1, 1) := by decide +kernel
theorem dX2_takesMore_18 : decode cX2_takesMore 18 = .ok (.goto 4, 3) := by decide +kernel
theorem dX2_takesMore_21 : decode cX2_takesMore 21 = .ok (.iconst 0, 1) := by decide +kernel
theorem dX2_takesMore_22 : decode cX2_takesMore 22 = .ok (.ireturn, 1) := by decide +kernel
theorem dX2_append_0 : decode cX2_append 0 = .ok (.aload_n 0, 1) := by decide +kernel
theorem dX2_append_1 : decode cX2_append 1 = .ok (.getfield 14, 3) := by decide +kernel
theorem dX2_append_4 : decode cX2_append 4 = .ok (.getfield 33, 3) := by decide +kernel
theorem dX2_append_7 : decode cX2_append 7 = .ok (.aload_n 0, 1) := by decide +kernel
theorem dX2_append_8 : decode cX2_append 8 = .ok (.getfield 30, 3) := by decide +kernel
theorem dX2_append_11 : decode cX2_append 11 = .ok (.iload_n 1, 1) := by decide +kernel
theorem dX2_append_12 : decode cX2_append 12 = .ok (.iastore, 1) := by decide +kernel
theorem dX2_append_13 : decode cX2_append 13 = .ok (.aload_n 0, 1) := by decide +kernel
theorem dX2_append_14 : decode cX2_append 14 = .ok (.dup, 1) := by decide +kernel
theorem dX2_append_15 : decode cX2_append 15 = .ok (.getfield 30, 3) := by decide +kernel
theorem dX2_append_18 : decode cX2_append 18 = .ok (.iconst 1, 1) := by decide +kernel
theorem dX2_append_19 : decode cX2_append 19 = .ok (.iadd, 1) := by decide +kernel
theorem dX2_append_20 : decode cX2_append 20 = .ok (.putfield 30, 3) := by decide +kernel
theorem dX2_append_23 : decode cX2_append 23 = .ok (.iload_n 1, 1) := by decide +kernel
theorem dX2_append_24 : decode cX2_append 24 = .ok (.ifCond .eq 32, 3) := by decide +kernel
theorem dX2_append_27 : decode cX2_append 27 = .ok (.aload_n 0, 1) := by decide +kernel
theorem dX2_append_28 : decode cX2_append 28 = .ok (.getfield 27, 3) := by decide +kernel
theorem dX2_append_31 : decode cX2_append 31 = .ok (.ifCond .eq 25, 3) := by decide +kernel
theorem dX2_append_34 : decode cX2_append 34 = .ok (.aload_n 0, 1) := by decide +kernel
theorem dX2_append_35 : decode cX2_append 35 = .ok (.getfield 14, 3) := by decide +kernel
theorem dX2_append_38 : decode cX2_append 38 = .ok (.aload_n 0, 1) := by decide +kernel
theorem dX2_append_39 : decode cX2_append 39 = .ok (.getfield 30, 3) := by decide +kernel
theorem dX2_append_42 : decode cX2_append 42 = .ok (.putfield 37, 3) := by decide +kernel
theorem dX2_append_45 : decode cX2_append 45 = .ok (.aload_n 0, 1) := by decide +kernel
theorem dX2_append_46 : decode cX2_append 46 = .ok (.getfield 14, 3) := by decide +kernel
theorem dX2_append_49 : decode cX2_append 49 = .ok (.aload_n 0, 1) := by decide +kernel
theorem dX2_append_50 : decode cX2_append 50 = .ok (.getfield 27, 3) := by decide +kernel
theorem dX2_append_53 : decode cX2_append 53 = .ok (.putfield 40, 3) := by decide +kernel
theorem dX2_append_56 : decode cX2_append 56 = .ok (.return_, 1) := by decide +kernel
theorem dX2_hasNumber_0 : decode cX2_hasNumber 0 = .ok (.aload_n 0, 1) := by decide +kernel
theorem dX2_hasNumber_1 : decode cX2_hasNumber 1 = .ok (.getfield 20, 3) := by decide +kernel
theorem dX2_hasNumber_4 : decode cX2_hasNumber 4 = .ok (.ifCond .eq 7, 3) := by decide +kernel
theorem dX2_hasNumber_7 : decode cX2_hasNumber 7 = .ok (.iconst 1, 1) := by decide +kernel
theorem dX2_hasNumber_8 : decode cX2_hasNumber 8 = .ok (.goto 4, 3) := by decide +kernel
theorem dX2_hasNumber_11 : decode cX2_hasNumber 11 = .ok (.iconst 0, 1) := by decide +kernel
theorem dX2_hasNumber_12 : decode cX2_hasNumber 12 = .ok (.ireturn, 1) := by decide +kernel
theorem dX2_finish_0 : decode cX2_finish 0 = .ok (.aload_n 0, 1) := by decide +kernel
theorem dX2_finish_1 : decode cX2_finish 1 = .ok (.iconst 2, 1) := by decide +kernel
theorem dX2_finish_2 : decode cX2_finish 2 = .ok (.putfield 20, 3) := by decide +kernel
theorem dX2_finish_5 : decode cX2_finish 5 = .ok (.return_, 1) := by decide +kernel
theorem dJ6_compare_7cf53_0 : decode cJ6_compare_7cf53 0 = .ok (.iload_n 0, 1) := by decide +kernel
theorem dJ6_compare_7cf53_1 : decode cJ6_compare_7cf53 1 = .ok (.iload_n 1, 1) := by decide +kernel
theorem dJ6_compare_7cf53_2 : decode cJ6_compare_7cf53 2 = .ok (.if_icmp .ge 7, 3) := by decide +kernel
theorem dJ6_compare_7cf53_5 : decode cJ6_compare_7cf53 5 = .ok (.iconst (-1), 1) := by decide +kernel
theorem dJ6_compare_7cf53_6 : decode cJ6_compare_7cf53 6 = .ok (.goto 13, 3) := by decide +kernel
theorem dJ6_compare_7cf53_9 : decode cJ6_compare_7cf53 9 = .ok (.iload_n 0, 1) := by decide +kernel
theorem dJ6_compare_7cf53_10 : decode cJ6_compare_7cf53 10 = .ok (.iload_n 1, 1) := by decide +kernel
theorem dJ6_compare_7cf53_11 : decode cJ6_compare_7cf53 11 = .ok (.if_icmp .ne 7, 3) := by decide +kernel
theorem dJ6_compare_7cf53_14 : decode cJ6_compare_7cf53 14 = .ok (.iconst 0, 1) := by decide +kernel
theorem dJ6_compare_7cf53_15 : decode cJ6_compare_7cf53 15 = .ok (.goto 4, 3) := by decide +kernel
theorem dJ6_compare_7cf53_18 : decode cJ6_compare_7cf53 18 = .ok (.iconst 1, 1) := by decide +kernel
theorem dJ6_compare_7cf53_19 : decode cJ6_compare_7cf53 19 = .ok (.ireturn, 1) := by decide +kernel
theorem dJ6_numberOfLeadingZeros_0f7a4_0 : decode cJ6_numberOfLeadingZeros_0f7a4 0 = .ok (.iload_n 0, 1) := by decide +kernel
theorem dJ6_numberOfLeadingZeros_0f7a4_1 : decode cJ6_numberOfLeadingZeros_0f7a4 1 = .ok (.ifCond .gt 14, 3) := by decide +kernel
theorem dJ6_numberOfLeadingZeros_0f7a4_4 : decode cJ6_numberOfLeadingZeros_0f7a4 4 = .ok (.iload_n 0, 1) := by decide +kernel
theorem dJ6_numberOfLeadingZeros_0f7a4_5 : decode cJ6_numberOfLeadingZeros_0f7a4 5 = .ok (.ifCond .ne 8, 3) := by decide +kernel
theorem dJ6_numberOfLeadingZeros_0f7a4_8 : decode cJ6_numberOfLeadingZeros_0f7a4 8 = .ok (.bipush 32, 2) := by decide +kernel
theorem dJ6_numberOfLeadingZeros_0f7a4_10 : decode cJ6_numberOfLeadingZeros_0f7a4 10 = .ok (.goto 4, 3) := by decide +kernel
theorem dJ6_numberOfLeadingZeros_0f7a4_13 : decode cJ6_numberOfLeadingZeros_0f7a4 13 = .ok (.iconst 0, 1) := by decide +kernel
theorem dJ6_numberOfLeadingZeros_0f7a4_14 : decode cJ6_numberOfLeadingZeros_0f7a4 14 = .ok (.ireturn, 1) := by decide +kernel
theorem dJ6_numberOfLeadingZeros_0f7a4_15 : decode cJ6_numberOfLeadingZeros_0f7a4 15 = .ok (.bipush 31, 2) := by decide +kernel
theorem dJ6_numberOfLeadingZeros_0f7a4_17 : decode cJ6_numberOfLeadingZeros_0f7a4 17 = .ok (.istore_n 1, 1) := by decide +kernel
theorem dJ6_numberOfLeadingZeros_0f7a4_18 : decode cJ6_numberOfLeadingZeros_0f7a4 18 = .ok (.iload_n 0, 1) := by decide +kernel
theorem dJ6_numberOfLeadingZeros_0f7a4_19 : decode cJ6_numberOfLeadingZeros_0f7a4 19 = .ok (.ldc_w 264, 3) := by decide +kernel
theorem dJ6_numberOfLeadingZeros_0f7a4_22 : decode cJ6_numberOfLeadingZeros_0f7a4 22 = .ok (.if_icmp .lt 11, 3) := by decide +kernel
theorem dJ6_numberOfLeadingZeros_0f7a4_25 : decode cJ6_numberOfLeadingZeros_0f7a4 25 = .ok (.iinc 1 (-16), 3) := by decide +kernel
theorem dJ6_numberOfLeadingZeros_0f7a4_28 : decode cJ6_numberOfLeadingZeros_0f7a4 28 = .ok (.iload_n 0, 1) := by decide +kernel
theorem dJ6_numberOfLeadingZeros_0f7a4_29 : decode cJ6_numberOfLeadingZeros_0f7a4 29 = .ok (.bipush 16, 2) := by decide +kernel
theorem dJ6_numberOfLeadingZeros_0f7a4_31 : decode cJ6_numberOfLeadingZeros_0f7a4 31 = .ok (.iushr, 1) := by decide +kernel
theorem dJ6_numberOfLeadingZeros_0f7a4_32 : decode cJ6_numberOfLeadingZeros_0f7a4 32 = .ok (.istore_n 0, 1) := by decide +kernel
theorem dJ6_numberOfLeadingZeros_0f7a4_33 : decode cJ6_numberOfLeadingZeros_0f7a4 33 = .ok (.iload_n 0, 1) := by decide +kernel
theorem dJ6_numberOfLeadingZeros_0f7a4_34 : decode cJ6_numberOfLeadingZeros_0f7a4 34 = .ok (.sipush 256, 3) := by decide +kernel
theorem dJ6_numberOfLeadingZeros_0f7a4_37 : decode cJ6_numberOfLeadingZeros_0f7a4 37 = .ok (.if_icmp .lt 11, 3) := by decide +kernel
theorem dJ6_numberOfLeadingZeros_0f7a4_40 : decode cJ6_numberOfLeadingZeros_0f7a4 40 = .ok (.iinc 1 (-8), 3) := by decide +kernel
theorem dJ6_numberOfLeadingZeros_0f7a4_43 : decode cJ6_numberOfLeadingZeros_0f7a4 43 = .ok (.iload_n 0, 1) := by decide +kernel
theorem dJ6_numberOfLeadingZeros_0f7a4_44 : decode cJ6_numberOfLeadingZeros_0f7a4 44 = .ok (.bipush 8, 2) := by decide +kernel
theorem dJ6_numberOfLeadingZeros_0f7a4_46 : decode cJ6_numberOfLeadingZeros_0f7a4 46 = .ok (.iushr, 1) := by decide +kernel
theorem dJ6_numberOfLeadingZeros_0f7a4_47 : decode cJ6_numberOfLeadingZeros_0f7a4 47 = .ok (.istore_n 0, 1) := by decide +kernel
theorem dJ6_numberOfLeadingZeros_0f7a4_48 : decode cJ6_numberOfLeadingZeros_0f7a4 48 = .ok (.iload_n 0, 1) := by decide +kernel
theorem dJ6_numberOfLeadingZeros_0f7a4_49 : decode cJ6_numberOfLeadingZeros_0f7a4 49 = .ok (.bipush 16, 2) := by decide +kernel
theorem dJ6_numberOfLeadingZeros_0f7a4_51 : decode cJ6_numberOfLeadingZeros_0f7a4 51 = .ok (.if_icmp .lt 10, 3) := by decide +kernel
theorem dJ6_numberOfLeadingZeros_0f7a4_54 : decode cJ6_numberOfLeadingZeros_0f7a4 54 = .ok (.iinc 1 (-4), 3) := by decide +kernel
theorem dJ6_numberOfLeadingZeros_0f7a4_57 : decode cJ6_numberOfLeadingZeros_0f7a4 57 = .ok (.iload_n 0, 1) := by decide +kernel
theorem dJ6_numberOfLeadingZeros_0f7a4_58 : decode cJ6_numberOfLeadingZeros_0f7a4 58 = .ok (.iconst 4, 1) := by decide +kernel
theorem dJ6_numberOfLeadingZeros_0f7a4_59 : decode cJ6_numberOfLeadingZeros_0f7a4 59 = .ok (.iushr, 1) := by decide +kernel
theorem dJ6_numberOfLeadingZeros_0f7a4_60 : decode cJ6_numberOfLeadingZeros_0f7a4 60 = .ok (.istore_n 0, 1) := by decide +kernel
theorem dJ6_numberOfLeadingZeros_0f7a4_61 : decode cJ6_numberOfLeadingZeros_0f7a4 61 = .ok (.iload_n 0, 1) := by decide +kernel
theorem dJ6_numberOfLeadingZeros_0f7a4_62 : decode cJ6_numberOfLeadingZeros_0f7a4 62 = .ok (.iconst 4, 1) := by decide +kernel
theorem dJ6_numberOfLeadingZeros_0f7a4_63 : decode cJ6_numberOfLeadingZeros_0f7a4 63 = .ok (.if_icmp .lt 10, 3) := by decide +kernel
theorem dJ6_numberOfLeadingZeros_0f7a4_66 : decode cJ6_numberOfLeadingZeros_0f7a4 66 = .ok (.iinc 1 (-2), 3) := by decide +kernel
theorem dJ6_numberOfLeadingZeros_0f7a4_69 : decode cJ6_numberOfLeadingZeros_0f7a4 69 = .ok (.iload_n 0, 1) := by decide +kernel
theorem dJ6_numberOfLeadingZeros_0f7a4_70 : decode cJ6_numberOfLeadingZeros_0f7a4 70 = .ok (.iconst 2, 1) := by decide +kernel
theorem dJ6_numberOfLeadingZeros_0f7a4_71 : decode cJ6_numberOfLeadingZeros_0f7a4 71 = .ok (.iushr, 1) := by decide +kernel
theorem dJ6_numberOfLeadingZeros_0f7a4_72 : decode cJ6_numberOfLeadingZeros_0f7a4 72 = .ok (.istore_n 0, 1) := by decide +kernel
theorem dJ6_numberOfLeadingZeros_0f7a4_73 : decode cJ6_numberOfLeadingZeros_0f7a4 73 = .ok (.iload_n 1, 1) := by decide +kernel
theorem dJ6_numberOfLeadingZeros_0f7a4_74 : decode cJ6_numberOfLeadingZeros_0f7a4 74 = .ok (.iload_n 0, 1) := by decide +kernel
theorem dJ6_numberOfLeadingZeros_0f7a4_75 : decode cJ6_numberOfLeadingZeros_0f7a4 75 = .ok (.iconst 1, 1) := by decide +kernel
theorem dJ6_numberOfLeadingZeros_0f7a4_76 : decode cJ6_numberOfLeadingZeros_0f7a4 76 = .ok (.iushr, 1) := by decide +kernel
theorem dJ6_numberOfLeadingZeros_0f7a4_77 : decode cJ6_numberOfLeadingZeros_0f7a4 77 = .ok (.isub, 1) := by decide +kernel
theorem dJ6_numberOfLeadingZeros_0f7a4_78 : decode cJ6_numberOfLeadingZeros_0f7a4 78 = .ok (.ireturn, 1) := by decide +kernel
theorem dJ6_signum_0f7a4_0 : decode cJ6_signum_0f7a4 0 = .ok (.iload_n 0, 1) := by decide +kernel
theorem dJ6_signum_0f7a4_1 : decode cJ6_signum_0f7a4 1 = .ok (.bipush 31, 2) := by decide +kernel
theorem dJ6_signum_0f7a4_3 : decode cJ6_signum_0f7a4 3 = .ok (.ishr, 1) := by decide +kernel
theorem dJ6_signum_0f7a4_4 : decode cJ6_signum_0f7a4 4 = .ok (.iload_n 0, 1) := by decide +kernel
theorem dJ6_signum_0f7a4_5 : decode cJ6_signum_0f7a4 5 = .ok (.ineg, 1) := by decide +kernel
theorem dJ6_signum_0f7a4_6 : decode cJ6_signum_0f7a4 6 = .ok (.bipush 31, 2) := by decide +kernel
theorem dJ6_signum_0f7a4_8 : decode cJ6_signum_0f7a4 8 = .ok (.iushr, 1) := by decide +kernel
theorem dJ6_signum_0f7a4_9 : decode cJ6_signum_0f7a4 9 = .ok (.ior, 1) := by decide +kernel
theorem dJ6_signum_0f7a4_10 : decode cJ6_signum_0f7a4 10 = .ok (.ireturn, 1) := by decide +kernel
theorem dJ7_rangeCheck_23922_0 : decode cJ7_rangeCheck_23922 0 = .ok (.iload_n 1, 1) := by decide +kernel
theorem dJ7_rangeCheck_23922_1 : decode cJ7_rangeCheck_23922 1 = .ok (.iload_n 2, 1) := by decide +kernel
theorem dJ7_rangeCheck_23922_2 : decode cJ7_rangeCheck_23922 2 = .ok (.if_icmp .le 44, 3) := by decide +kernel
theorem dJ7_rangeCheck_23922_5 : decode cJ7_rangeCheck_23922 5 = .ok (.new 43, 3) := by decide +kernel
theorem dJ7_rangeCheck_23922_8 : decode cJ7_rangeCheck_23922 8 = .ok (.dup, 1) := by decide +kernel
theorem dJ7_rangeCheck_23922_9 : decode cJ7_rangeCheck_23922 9 = .ok (.new 45, 3) := by decide +kernel
theorem dJ7_rangeCheck_23922_12 : decode cJ7_rangeCheck_23922 12 = .ok (.dup, 1) := by decide +kernel
theorem dJ7_rangeCheck_23922_13 : decode cJ7_rangeCheck_23922 13 = .ok (.invokespecial 47, 3) := by decide +kernel
theorem dJ7_rangeCheck_23922_16 : decode cJ7_rangeCheck_23922 16 = .ok (.ldc 48, 2) := by decide +kernel
theorem dJ7_rangeCheck_23922_18 : decode cJ7_rangeCheck_23922 18 = .ok (.invokevirtual 50, 3) := by decide +kernel
theorem dJ7_rangeCheck_23922_21 : decode cJ7_rangeCheck_23922 21 = .ok (.iload_n 1, 1) := by decide +kernel
theorem dJ7_rangeCheck_23922_22 : decode cJ7_rangeCheck_23922 22 = .ok (.invokevirtual 54, 3) := by decide +kernel
theorem dJ7_rangeCheck_23922_25 : decode cJ7_rangeCheck_23922 25 = .ok (.ldc 57, 2) := by decide +kernel
theorem dJ7_rangeCheck_23922_27 : decode cJ7_rangeCheck_23922 27 = .ok (.invokevirtual 50, 3) := by decide +kernel
theorem dJ7_rangeCheck_23922_30 : decode cJ7_rangeCheck_23922 30 = .ok (.iload_n 2, 1) := by decide +kernel
theorem dJ7_rangeCheck_23922_31 : decode cJ7_rangeCheck_23922 31 = .ok (.invokevirtual 54, 3) := by decide +kernel
theorem dJ7_rangeCheck_23922_34 : decode cJ7_rangeCheck_23922 34 = .ok (.ldc 59, 2) := by decide +kernel
theorem dJ7_rangeCheck_23922_36 : decode cJ7_rangeCheck_23922 36 = .ok (.invokevirtual 50, 3) := by decide +kernel
theorem dJ7_rangeCheck_23922_39 : decode cJ7_rangeCheck_23922 39 = .ok (.invokevirtual 61, 3) := by decide +kernel
theorem dJ7_rangeCheck_23922_42 : decode cJ7_rangeCheck_23922 42 = .ok (.invokespecial 65, 3) := by decide +kernel
theorem dJ7_rangeCheck_23922_45 : decode cJ7_rangeCheck_23922 45 = .ok (.athrow, 1) := by decide +kernel
theorem dJ7_rangeCheck_23922_46 : decode cJ7_rangeCheck_23922 46 = .ok (.iload_n 1, 1) := by decide +kernel
theorem dJ7_rangeCheck_23922_47 : decode cJ7_rangeCheck_23922 47 = .ok (.ifCond .ge 12, 3) := by decide +kernel
theorem dJ7_rangeCheck_23922_50 : decode cJ7_rangeCheck_23922 50 = .ok (.new 68, 3) := by decide +kernel
theorem dJ7_rangeCheck_23922_53 : decode cJ7_rangeCheck_23922 53 = .ok (.dup, 1) := by decide +kernel
theorem dJ7_rangeCheck_23922_54 : decode cJ7_rangeCheck_23922 54 = .ok (.iload_n 1, 1) := by decide +kernel
theorem dJ7_rangeCheck_23922_55 : decode cJ7_rangeCheck_23922 55 = .ok (.invokespecial 70, 3) := by decide +kernel
theorem dJ7_rangeCheck_23922_58 : decode cJ7_rangeCheck_23922 58 = .ok (.athrow, 1) := by decide +kernel
theorem dJ7_rangeCheck_23922_59 : decode cJ7_rangeCheck_23922 59 = .ok (.iload_n 2, 1) := by decide +kernel
theorem dJ7_rangeCheck_23922_60 : decode cJ7_rangeCheck_23922 60 = .ok (.iload_n 0, 1) := by decide +kernel
theorem dJ7_rangeCheck_23922_61 : decode cJ7_rangeCheck_23922 61 = .ok (.if_icmp .le 12, 3) := by decide +kernel
theorem dJ7_rangeCheck_23922_64 : decode cJ7_rangeCheck_23922 64 = .ok (.new 68, 3) := by decide +kernel
theorem dJ7_rangeCheck_23922_67 : decode cJ7_rangeCheck_23922 67 = .ok (.dup, 1) := by decide +kernel
theorem dJ7_rangeCheck_23922_68 : decode cJ7_rangeCheck_23922 68 = .ok (.iload_n 2, 1) := by decide +kernel
theorem dJ7_rangeCheck_23922_69 : decode cJ7_rangeCheck_23922 69 = .ok (.invokespecial 70, 3) := by decide +kernel
theorem dJ7_rangeCheck_23922_72 : decode cJ7_rangeCheck_23922 72 = .ok (.athrow, 1) := by decide +kernel
theorem dJ7_rangeCheck_23922_73 : decode cJ7_rangeCheck_23922 73 = .ok (.return_, 1) := by decide +kernel
set_option maxRecDepth 20000 in
theorem ggJ7_fill_fda19_J7_rangeCheck_23922 : GoodIn wsJ7_fill_fda19 wsJ7_rangeCheck_23922 := goodIn_r _ [4, 5, 6, 7, 8, 9, 10, 11] (by decide +kernel) (by decide +kernel)
set_option maxRecDepth 20000 in
theorem gJ7_fill_fda19_J7_rangeCheck_23922 : GoodIn wsJ7_fill_fda19 (va_wsS RJ7 13 yJ7_rangeCheck_23922 wsJ7_rangeCheck_23922) := goodIn_app (goodIn_of _ (by decide +kernel)) ggJ7_fill_fda19_J7_rangeCheck_23922
theorem dJ7_fill_fda19_0 : decode cJ7_fill_fda19 0 = .ok (.aload_n 0, 1) := by decide +kernel
theorem dJ7_fill_fda19_1 : decode cJ7_fill_fda19 1 = .ok (.arraylength, 1) := by decide +kernel
theorem dJ7_fill_fda19_2 : decode cJ7_fill_fda19 2 = .ok (.iload_n 1, 1) := by decide +kernel
theorem dJ7_fill_fda19_3 : decode cJ7_fill_fda19 3 = .ok (.iload_n 2, 1) := by decide +kernel
theorem dJ7_fill_fda19_4 : decode cJ7_fill_fda19 4 = .ok (.invokestatic 13, 3) := by decide +kernel
theorem dJ7_fill_fda19_7 : decode cJ7_fill_fda19 7 = .ok (.iload_n 1, 1) := by decide +kernel
theorem dJ7_fill_fda19_8 : decode cJ7_fill_fda19 8 = .ok (.istore 4, 2) := by decide +kernel
theorem dJ7_fill_fda19_10 : decode cJ7_fill_fda19 10 = .ok (.iload 4, 2) := by decide +kernel
theorem dJ7_fill_fda19_12 : decode cJ7_fill_fda19 12 = .ok (.iload_n 2, 1) := by decide +kernel
theorem dJ7_fill_fda19_13 : decode cJ7_fill_fda19 13 = .ok (.if_icmp .ge 14, 3) := by decide +kernel
theorem dJ7_fill_fda19_16 : decode cJ7_fill_fda19 16 = .ok (.aload_n 0, 1) := by decide +kernel
theorem dJ7_fill_fda19_17 : decode cJ7_fill_fda19 17 = .ok (.iload 4, 2) := by decide +kernel
theorem dJ7_fill_fda19_19 : decode cJ7_fill_fda19 19 = .ok (.iload_n 3, 1) := by decide +kernel
theorem dJ7_fill_fda19_20 : decode cJ7_fill_fda19 20 = .ok (.iastore, 1) := by decide +kernel
theorem dJ7_fill_fda19_21 : decode cJ7_fill_fda19 21 = .ok (.iinc 4 1, 3) := by decide +kernel
theorem dJ7_fill_fda19_24 : decode cJ7_fill_fda19 24 = .ok (.goto (-14), 3) := by decide +kernel
theorem dJ7_fill_fda19_27 : decode cJ7_fill_fda19 27 = .ok (.return_, 1) := by decide +kernel
