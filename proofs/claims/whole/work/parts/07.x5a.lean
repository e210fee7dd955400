set_option maxRecDepth 20000 in
theorem ggX5_init_X5_between : GoodIn wsX5_init wsX5_between := goodIn_r _ [15] (by decide +kernel) (by decide +kernel)
set_option maxRecDepth 20000 in
theorem gX5_init_X5_between : GoodIn wsX5_init (va_wsS RX5 20 yX5_between wsX5_between) := goodIn_app (goodIn_of _ (by decide +kernel)) ggX5_init_X5_between
theorem dX5_init_0 : decode cX5_init 0 = .ok (.aload_n 0, 1) := by decide +kernel
theorem dX5_init_1 : decode cX5_init 1 = .ok (.invokespecial 1, 3) := by decide +kernel
theorem dX5_init_4 : decode cX5_init 4 = .ok (.aload_n 0, 1) := by decide +kernel
theorem dX5_init_5 : decode cX5_init 5 = .ok (.sipush 32760, 3) := by decide +kernel
theorem dX5_init_8 : decode cX5_init 8 = .ok (.newarray .int, 2) := by decide +kernel
theorem dX5_init_10 : decode cX5_init 10 = .ok (.putfield 7, 3) := by decide +kernel
theorem dX5_init_13 : decode cX5_init 13 = .ok (.aload_n 0, 1) := by decide +kernel
theorem dX5_init_14 : decode cX5_init 14 = .ok (.sipush 455, 3) := by decide +kernel
theorem dX5_init_17 : decode cX5_init 17 = .ok (.newarray .int, 2) := by decide +kernel
theorem dX5_init_19 : decode cX5_init 19 = .ok (.putfield 13, 3) := by decide +kernel
theorem dX5_init_22 : decode cX5_init 22 = .ok (.aload_n 0, 1) := by decide +kernel
theorem dX5_init_23 : decode cX5_init 23 = .ok (.sipush 455, 3) := by decide +kernel
theorem dX5_init_26 : decode cX5_init 26 = .ok (.newarray .boolean, 2) := by decide +kernel
theorem dX5_init_28 : decode cX5_init 28 = .ok (.putfield 16, 3) := by decide +kernel
theorem dX5_init_31 : decode cX5_init 31 = .ok (.aload_n 0, 1) := by decide +kernel
theorem dX5_init_32 : decode cX5_init 32 = .ok (.iload_n 1, 1) := by decide +kernel
theorem dX5_init_33 : decode cX5_init 33 = .ok (.bipush 6, 2) := by decide +kernel
theorem dX5_init_35 : decode cX5_init 35 = .ok (.invokestatic 20, 3) := by decide +kernel
theorem dX5_init_38 : decode cX5_init 38 = .ok (.putfield 24, 3) := by decide +kernel
theorem dX5_init_41 : decode cX5_init 41 = .ok (.aload_n 0, 1) := by decide +kernel
theorem dX5_init_42 : decode cX5_init 42 = .ok (.iload_n 2, 1) := by decide +kernel
theorem dX5_init_43 : decode cX5_init 43 = .ok (.bipush 60, 2) := by decide +kernel
theorem dX5_init_45 : decode cX5_init 45 = .ok (.invokestatic 20, 3) := by decide +kernel
theorem dX5_init_48 : decode cX5_init 48 = .ok (.putfield 28, 3) := by decide +kernel
theorem dX5_init_51 : decode cX5_init 51 = .ok (.aload_n 0, 1) := by decide +kernel
theorem dX5_init_52 : decode cX5_init 52 = .ok (.iload_n 3, 1) := by decide +kernel
theorem dX5_init_53 : decode cX5_init 53 = .ok (.sipush 4000, 3) := by decide +kernel
theorem dX5_init_56 : decode cX5_init 56 = .ok (.invokestatic 20, 3) := by decide +kernel
theorem dX5_init_59 : decode cX5_init 59 = .ok (.putfield 31, 3) := by decide +kernel
theorem dX5_init_62 : decode cX5_init 62 = .ok (.aload_n 0, 1) := by decide +kernel
theorem dX5_init_63 : decode cX5_init 63 = .ok (.getfield 13, 3) := by decide +kernel
theorem dX5_init_66 : decode cX5_init 66 = .ok (.sipush 447, 3) := by decide +kernel
theorem dX5_init_69 : decode cX5_init 69 = .ok (.iconst 1, 1) := by decide +kernel
theorem dX5_init_70 : decode cX5_init 70 = .ok (.iastore, 1) := by decide +kernel
theorem dX5_init_71 : decode cX5_init 71 = .ok (.aload_n 0, 1) := by decide +kernel
theorem dX5_init_72 : decode cX5_init 72 = .ok (.getfield 7, 3) := by decide +kernel
theorem dX5_init_75 : decode cX5_init 75 = .ok (.sipush 32184, 3) := by decide +kernel
theorem dX5_init_78 : decode cX5_init 78 = .ok (.iconst 1, 1) := by decide +kernel
theorem dX5_init_79 : decode cX5_init 79 = .ok (.iastore, 1) := by decide +kernel
theorem dX5_init_80 : decode cX5_init 80 = .ok (.return_, 1) := by decide +kernel
theorem dX5_between_0 : decode cX5_between 0 = .ok (.iload_n 0, 1) := by decide +kernel
theorem dX5_between_1 : decode cX5_between 1 = .ok (.iconst 1, 1) := by decide +kernel
theorem dX5_between_2 : decode cX5_between 2 = .ok (.if_icmp .ge 7, 3) := by decide +kernel
theorem dX5_between_5 : decode cX5_between 5 = .ok (.iconst 1, 1) := by decide +kernel
theorem dX5_between_6 : decode cX5_between 6 = .ok (.goto 13, 3) := by decide +kernel
theorem dX5_between_9 : decode cX5_between 9 = .ok (.iload_n 0, 1) := by decide +kernel
theorem dX5_between_10 : decode cX5_between 10 = .ok (.iload_n 1, 1) := by decide +kernel
theorem dX5_between_11 : decode cX5_between 11 = .ok (.if_icmp .le 7, 3) := by decide +kernel
theorem dX5_between_14 : decode cX5_between 14 = .ok (.iload_n 1, 1) := by decide +kernel
theorem dX5_between_15 : decode cX5_between 15 = .ok (.goto 4, 3) := by decide +kernel
theorem dX5_between_18 : decode cX5_between 18 = .ok (.iload_n 0, 1) := by decide +kernel
theorem dX5_between_19 : decode cX5_between 19 = .ok (.ireturn, 1) := by decide +kernel
theorem dX5_thrown_0 : decode cX5_thrown 0 = .ok (.aload_n 0, 1) := by decide +kernel
theorem dX5_thrown_1 : decode cX5_thrown 1 = .ok (.getfield 34, 3) := by decide +kernel
theorem dX5_thrown_4 : decode cX5_thrown 4 = .ok (.ireturn, 1) := by decide +kernel
theorem dX5_refused_0 : decode cX5_refused 0 = .ok (.aload_n 0, 1) := by decide +kernel
theorem dX5_refused_1 : decode cX5_refused 1 = .ok (.iload_n 1, 1) := by decide +kernel
theorem dX5_refused_2 : decode cX5_refused 2 = .ok (.putfield 34, 3) := by decide +kernel
theorem dX5_refused_5 : decode cX5_refused 5 = .ok (.iload_n 1, 1) := by decide +kernel
theorem dX5_refused_6 : decode cX5_refused 6 = .ok (.ifCond .le 7, 3) := by decide +kernel
theorem dX5_refused_9 : decode cX5_refused 9 = .ok (.iconst 1, 1) := by decide +kernel
theorem dX5_refused_10 : decode cX5_refused 10 = .ok (.goto 4, 3) := by decide +kernel
theorem dX5_refused_13 : decode cX5_refused 13 = .ok (.iconst 0, 1) := by decide +kernel
theorem dX5_refused_14 : decode cX5_refused 14 = .ok (.ireturn, 1) := by decide +kernel
theorem dX5_trim_0 : decode cX5_trim 0 = .ok (.aload_n 0, 1) := by decide +kernel
theorem dX5_trim_1 : decode cX5_trim 1 = .ok (.getfield 13, 3) := by decide +kernel
theorem dX5_trim_4 : decode cX5_trim 4 = .ok (.iload_n 1, 1) := by decide +kernel
theorem dX5_trim_5 : decode cX5_trim 5 = .ok (.iaload, 1) := by decide +kernel
theorem dX5_trim_6 : decode cX5_trim 6 = .ok (.ifCond .le 37, 3) := by decide +kernel
theorem dX5_trim_9 : decode cX5_trim 9 = .ok (.aload_n 0, 1) := by decide +kernel
theorem dX5_trim_10 : decode cX5_trim 10 = .ok (.getfield 7, 3) := by decide +kernel
theorem dX5_trim_13 : decode cX5_trim 13 = .ok (.bipush 72, 2) := by decide +kernel
theorem dX5_trim_15 : decode cX5_trim 15 = .ok (.iload_n 1, 1) := by decide +kernel
theorem dX5_trim_16 : decode cX5_trim 16 = .ok (.imul, 1) := by decide +kernel
theorem dX5_trim_17 : decode cX5_trim 17 = .ok (.aload_n 0, 1) := by decide +kernel
theorem dX5_trim_18 : decode cX5_trim 18 = .ok (.getfield 13, 3) := by decide +kernel
theorem dX5_trim_21 : decode cX5_trim 21 = .ok (.iload_n 1, 1) := by decide +kernel
theorem dX5_trim_22 : decode cX5_trim 22 = .ok (.iaload, 1) := by decide +kernel
theorem dX5_trim_23 : decode cX5_trim 23 = .ok (.iadd, 1) := by decide +kernel
theorem dX5_trim_24 : decode cX5_trim 24 = .ok (.iconst 1, 1) := by decide +kernel
theorem dX5_trim_25 : decode cX5_trim 25 = .ok (.isub, 1) := by decide +kernel
theorem dX5_trim_26 : decode cX5_trim 26 = .ok (.iaload, 1) := by decide +kernel
theorem dX5_trim_27 : decode cX5_trim 27 = .ok (.ifCond .ne 16, 3) := by decide +kernel
theorem dX5_trim_30 : decode cX5_trim 30 = .ok (.aload_n 0, 1) := by decide +kernel
theorem dX5_trim_31 : decode cX5_trim 31 = .ok (.getfield 13, 3) := by decide +kernel
theorem dX5_trim_34 : decode cX5_trim 34 = .ok (.iload_n 1, 1) := by decide +kernel
theorem dX5_trim_35 : decode cX5_trim 35 = .ok (.dup2, 1) := by decide +kernel
theorem dX5_trim_36 : decode cX5_trim 36 = .ok (.iaload, 1) := by decide +kernel
theorem dX5_trim_37 : decode cX5_trim 37 = .ok (.iconst 1, 1) := by decide +kernel
theorem dX5_trim_38 : decode cX5_trim 38 = .ok (.isub, 1) := by decide +kernel
theorem dX5_trim_39 : decode cX5_trim 39 = .ok (.iastore, 1) := by decide +kernel
theorem dX5_trim_40 : decode cX5_trim 40 = .ok (.goto (-40), 3) := by decide +kernel
theorem dX5_trim_43 : decode cX5_trim 43 = .ok (.aload_n 0, 1) := by decide +kernel
theorem dX5_trim_44 : decode cX5_trim 44 = .ok (.getfield 13, 3) := by decide +kernel
theorem dX5_trim_47 : decode cX5_trim 47 = .ok (.iload_n 1, 1) := by decide +kernel
theorem dX5_trim_48 : decode cX5_trim 48 = .ok (.iaload, 1) := by decide +kernel
theorem dX5_trim_49 : decode cX5_trim 49 = .ok (.ifCond .ne 10, 3) := by decide +kernel
theorem dX5_trim_52 : decode cX5_trim 52 = .ok (.aload_n 0, 1) := by decide +kernel
theorem dX5_trim_53 : decode cX5_trim 53 = .ok (.getfield 16, 3) := by decide +kernel
theorem dX5_trim_56 : decode cX5_trim 56 = .ok (.iload_n 1, 1) := by decide +kernel
theorem dX5_trim_57 : decode cX5_trim 57 = .ok (.iconst 0, 1) := by decide +kernel
theorem dX5_trim_58 : decode cX5_trim 58 = .ok (.bastore, 1) := by decide +kernel
theorem dX5_trim_59 : decode cX5_trim 59 = .ok (.return_, 1) := by decide +kernel
theorem dX5_copy_0 : decode cX5_copy 0 = .ok (.aload_n 0, 1) := by decide +kernel
theorem dX5_copy_1 : decode cX5_copy 1 = .ok (.getfield 13, 3) := by decide +kernel
theorem dX5_copy_4 : decode cX5_copy 4 = .ok (.iload_n 1, 1) := by decide +kernel
theorem dX5_copy_5 : decode cX5_copy 5 = .ok (.aload_n 0, 1) := by decide +kernel
theorem dX5_copy_6 : decode cX5_copy 6 = .ok (.getfield 13, 3) := by decide +kernel
theorem dX5_copy_9 : decode cX5_copy 9 = .ok (.iload_n 2, 1) := by decide +kernel
theorem dX5_copy_10 : decode cX5_copy 10 = .ok (.iaload, 1) := by decide +kernel
theorem dX5_copy_11 : decode cX5_copy 11 = .ok (.iastore, 1) := by decide +kernel
theorem dX5_copy_12 : decode cX5_copy 12 = .ok (.aload_n 0, 1) := by decide +kernel
theorem dX5_copy_13 : decode cX5_copy 13 = .ok (.getfield 16, 3) := by decide +kernel
theorem dX5_copy_16 : decode cX5_copy 16 = .ok (.iload_n 1, 1) := by decide +kernel
theorem dX5_copy_17 : decode cX5_copy 17 = .ok (.aload_n 0, 1) := by decide +kernel
theorem dX5_copy_18 : decode cX5_copy 18 = .ok (.getfield 16, 3) := by decide +kernel
theorem dX5_copy_21 : decode cX5_copy 21 = .ok (.iload_n 2, 1) := by decide +kernel
theorem dX5_copy_22 : decode cX5_copy 22 = .ok (.baload, 1) := by decide +kernel
theorem dX5_copy_23 : decode cX5_copy 23 = .ok (.bastore, 1) := by decide +kernel
theorem dX5_copy_24 : decode cX5_copy 24 = .ok (.iconst 0, 1) := by decide +kernel
theorem dX5_copy_25 : decode cX5_copy 25 = .ok (.istore_n 3, 1) := by decide +kernel
theorem dX5_copy_26 : decode cX5_copy 26 = .ok (.iload_n 3, 1) := by decide +kernel
theorem dX5_copy_27 : decode cX5_copy 27 = .ok (.aload_n 0, 1) := by decide +kernel
theorem dX5_copy_28 : decode cX5_copy 28 = .ok (.getfield 13, 3) := by decide +kernel
theorem dX5_copy_31 : decode cX5_copy 31 = .ok (.iload_n 2, 1) := by decide +kernel
theorem dX5_copy_32 : decode cX5_copy 32 = .ok (.iaload, 1) := by decide +kernel
theorem dX5_copy_33 : decode cX5_copy 33 = .ok (.if_icmp .ge 31, 3) := by decide +kernel
theorem dX5_copy_36 : decode cX5_copy 36 = .ok (.aload_n 0, 1) := by decide +kernel
theorem dX5_copy_37 : decode cX5_copy 37 = .ok (.getfield 7, 3) := by decide +kernel
theorem dX5_copy_40 : decode cX5_copy 40 = .ok (.bipush 72, 2) := by decide +kernel
theorem dX5_copy_42 : decode cX5_copy 42 = .ok (.iload_n 1, 1) := by decide +kernel
theorem dX5_copy_43 : decode cX5_copy 43 = .ok (.imul, 1) := by decide +kernel
theorem dX5_copy_44 : decode cX5_copy 44 = .ok (.iload_n 3, 1) := by decide +kernel
theorem dX5_copy_45 : decode cX5_copy 45 = .ok (.iadd, 1) := by decide +kernel
theorem dX5_copy_46 : decode cX5_copy 46 = .ok (.aload_n 0, 1) := by decide +kernel
theorem dX5_copy_47 : decode cX5_copy 47 = .ok (.getfield 7, 3) := by decide +kernel
theorem dX5_copy_50 : decode cX5_copy 50 = .ok (.bipush 72, 2) := by decide +kernel
theorem dX5_copy_52 : decode cX5_copy 52 = .ok (.iload_n 2, 1) := by decide +kernel
theorem dX5_copy_53 : decode cX5_copy 53 = .ok (.imul, 1) := by decide +kernel
theorem dX5_copy_54 : decode cX5_copy 54 = .ok (.iload_n 3, 1) := by decide +kernel
theorem dX5_copy_55 : decode cX5_copy 55 = .ok (.iadd, 1) := by decide +kernel
theorem dX5_copy_56 : decode cX5_copy 56 = .ok (.iaload, 1) := by decide +kernel
theorem dX5_copy_57 : decode cX5_copy 57 = .ok (.iastore, 1) := by decide +kernel
theorem dX5_copy_58 : decode cX5_copy 58 = .ok (.iinc 3 1, 3) := by decide +kernel
theorem dX5_copy_61 : decode cX5_copy 61 = .ok (.goto (-35), 3) := by decide +kernel
theorem dX5_copy_64 : decode cX5_copy 64 = .ok (.return_, 1) := by decide +kernel
theorem dX5_clear_0 : decode cX5_clear 0 = .ok (.aload_n 0, 1) := by decide +kernel
theorem dX5_clear_1 : decode cX5_clear 1 = .ok (.getfield 13, 3) := by decide +kernel
theorem dX5_clear_4 : decode cX5_clear 4 = .ok (.iload_n 1, 1) := by decide +kernel
theorem dX5_clear_5 : decode cX5_clear 5 = .ok (.iconst 0, 1) := by decide +kernel
theorem dX5_clear_6 : decode cX5_clear 6 = .ok (.iastore, 1) := by decide +kernel
theorem dX5_clear_7 : decode cX5_clear 7 = .ok (.aload_n 0, 1) := by decide +kernel
theorem dX5_clear_8 : decode cX5_clear 8 = .ok (.getfield 16, 3) := by decide +kernel
theorem dX5_clear_11 : decode cX5_clear 11 = .ok (.iload_n 1, 1) := by decide +kernel
theorem dX5_clear_12 : decode cX5_clear 12 = .ok (.iconst 0, 1) := by decide +kernel
theorem dX5_clear_13 : decode cX5_clear 13 = .ok (.bastore, 1) := by decide +kernel
theorem dX5_clear_14 : decode cX5_clear 14 = .ok (.return_, 1) := by decide +kernel
theorem dX5_limbOf_0 : decode cX5_limbOf 0 = .ok (.iload_n 2, 1) := by decide +kernel
theorem dX5_limbOf_1 : decode cX5_limbOf 1 = .ok (.aload_n 0, 1) := by decide +kernel
theorem dX5_limbOf_2 : decode cX5_limbOf 2 = .ok (.getfield 13, 3) := by decide +kernel
theorem dX5_limbOf_5 : decode cX5_limbOf 5 = .ok (.iload_n 1, 1) := by decide +kernel
theorem dX5_limbOf_6 : decode cX5_limbOf 6 = .ok (.iaload, 1) := by decide +kernel
theorem dX5_limbOf_7 : decode cX5_limbOf 7 = .ok (.if_icmp .ge 18, 3) := by decide +kernel
theorem dX5_limbOf_10 : decode cX5_limbOf 10 = .ok (.aload_n 0, 1) := by decide +kernel
theorem dX5_limbOf_11 : decode cX5_limbOf 11 = .ok (.getfield 7, 3) := by decide +kernel
theorem dX5_limbOf_14 : decode cX5_limbOf 14 = .ok (.bipush 72, 2) := by decide +kernel
theorem dX5_limbOf_16 : decode cX5_limbOf 16 = .ok (.iload_n 1, 1) := by decide +kernel
theorem dX5_limbOf_17 : decode cX5_limbOf 17 = .ok (.imul, 1) := by decide +kernel
theorem dX5_limbOf_18 : decode cX5_limbOf 18 = .ok (.iload_n 2, 1) := by decide +kernel
theorem dX5_limbOf_19 : decode cX5_limbOf 19 = .ok (.iadd, 1) := by decide +kernel
theorem dX5_limbOf_20 : decode cX5_limbOf 20 = .ok (.iaload, 1) := by decide +kernel
theorem dX5_limbOf_21 : decode cX5_limbOf 21 = .ok (.i2l, 1) := by decide +kernel
theorem dX5_limbOf_22 : decode cX5_limbOf 22 = .ok (.goto 4, 3) := by decide +kernel
theorem dX5_limbOf_25 : decode cX5_limbOf 25 = .ok (.lconst 0, 1) := by decide +kernel
theorem dX5_limbOf_26 : decode cX5_limbOf 26 = .ok (.lreturn, 1) := by decide +kernel
theorem dX5_compareSizes_0 : decode cX5_compareSizes 0 = .ok (.aload_n 0, 1) := by decide +kernel
theorem dX5_compareSizes_1 : decode cX5_compareSizes 1 = .ok (.getfield 13, 3) := by decide +kernel
theorem dX5_compareSizes_4 : decode cX5_compareSizes 4 = .ok (.iload_n 1, 1) := by decide +kernel
theorem dX5_compareSizes_5 : decode cX5_compareSizes 5 = .ok (.iaload, 1) := by decide +kernel
theorem dX5_compareSizes_6 : decode cX5_compareSizes 6 = .ok (.aload_n 0, 1) := by decide +kernel
theorem dX5_compareSizes_7 : decode cX5_compareSizes 7 = .ok (.getfield 13, 3) := by decide +kernel
theorem dX5_compareSizes_10 : decode cX5_compareSizes 10 = .ok (.iload_n 2, 1) := by decide +kernel
theorem dX5_compareSizes_11 : decode cX5_compareSizes 11 = .ok (.iaload, 1) := by decide +kernel
theorem dX5_compareSizes_12 : decode cX5_compareSizes 12 = .ok (.if_icmp .eq 24, 3) := by decide +kernel
theorem dX5_compareSizes_15 : decode cX5_compareSizes 15 = .ok (.aload_n 0, 1) := by decide +kernel
theorem dX5_compareSizes_16 : decode cX5_compareSizes 16 = .ok (.getfield 13, 3) := by decide +kernel
theorem dX5_compareSizes_19 : decode cX5_compareSizes 19 = .ok (.iload_n 1, 1) := by decide +kernel
theorem dX5_compareSizes_20 : decode cX5_compareSizes 20 = .ok (.iaload, 1) := by decide +kernel
theorem dX5_compareSizes_21 : decode cX5_compareSizes 21 = .ok (.aload_n 0, 1) := by decide +kernel
theorem dX5_compareSizes_22 : decode cX5_compareSizes 22 = .ok (.getfield 13, 3) := by decide +kernel
theorem dX5_compareSizes_25 : decode cX5_compareSizes 25 = .ok (.iload_n 2, 1) := by decide +kernel
theorem dX5_compareSizes_26 : decode cX5_compareSizes 26 = .ok (.iaload, 1) := by decide +kernel
theorem dX5_compareSizes_27 : decode cX5_compareSizes 27 = .ok (.if_icmp .ge 7, 3) := by decide +kernel
theorem dX5_compareSizes_30 : decode cX5_compareSizes 30 = .ok (.iconst (-1), 1) := by decide +kernel
theorem dX5_compareSizes_31 : decode cX5_compareSizes 31 = .ok (.goto 4, 3) := by decide +kernel
theorem dX5_compareSizes_34 : decode cX5_compareSizes 34 = .ok (.iconst 1, 1) := by decide +kernel
theorem dX5_compareSizes_35 : decode cX5_compareSizes 35 = .ok (.ireturn, 1) := by decide +kernel
theorem dX5_compareSizes_36 : decode cX5_compareSizes 36 = .ok (.aload_n 0, 1) := by decide +kernel
theorem dX5_compareSizes_37 : decode cX5_compareSizes 37 = .ok (.getfield 13, 3) := by decide +kernel
theorem dX5_compareSizes_40 : decode cX5_compareSizes 40 = .ok (.iload_n 1, 1) := by decide +kernel
theorem dX5_compareSizes_41 : decode cX5_compareSizes 41 = .ok (.iaload, 1) := by decide +kernel
theorem dX5_compareSizes_42 : decode cX5_compareSizes 42 = .ok (.iconst 1, 1) := by decide +kernel
theorem dX5_compareSizes_43 : decode cX5_compareSizes 43 = .ok (.isub, 1) := by decide +kernel
theorem dX5_compareSizes_44 : decode cX5_compareSizes 44 = .ok (.istore_n 3, 1) := by decide +kernel
theorem dX5_compareSizes_45 : decode cX5_compareSizes 45 = .ok (.iload_n 3, 1) := by decide +kernel
theorem dX5_compareSizes_46 : decode cX5_compareSizes 46 = .ok (.ifCond .lt 65, 3) := by decide +kernel
theorem dX5_compareSizes_49 : decode cX5_compareSizes 49 = .ok (.aload_n 0, 1) := by decide +kernel
theorem dX5_compareSizes_50 : decode cX5_compareSizes 50 = .ok (.getfield 7, 3) := by decide +kernel
theorem dX5_compareSizes_53 : decode cX5_compareSizes 53 = .ok (.bipush 72, 2) := by decide +kernel
theorem dX5_compareSizes_55 : decode cX5_compareSizes 55 = .ok (.iload_n 1, 1) := by decide +kernel
theorem dX5_compareSizes_56 : decode cX5_compareSizes 56 = .ok (.imul, 1) := by decide +kernel
theorem dX5_compareSizes_57 : decode cX5_compareSizes 57 = .ok (.iload_n 3, 1) := by decide +kernel
theorem dX5_compareSizes_58 : decode cX5_compareSizes 58 = .ok (.iadd, 1) := by decide +kernel
theorem dX5_compareSizes_59 : decode cX5_compareSizes 59 = .ok (.iaload, 1) := by decide +kernel
theorem dX5_compareSizes_60 : decode cX5_compareSizes 60 = .ok (.aload_n 0, 1) := by decide +kernel
theorem dX5_compareSizes_61 : decode cX5_compareSizes 61 = .ok (.getfield 7, 3) := by decide +kernel
theorem dX5_compareSizes_64 : decode cX5_compareSizes 64 = .ok (.bipush 72, 2) := by decide +kernel
theorem dX5_compareSizes_66 : decode cX5_compareSizes 66 = .ok (.iload_n 2, 1) := by decide +kernel
theorem dX5_compareSizes_67 : decode cX5_compareSizes 67 = .ok (.imul, 1) := by decide +kernel
theorem dX5_compareSizes_68 : decode cX5_compareSizes 68 = .ok (.iload_n 3, 1) := by decide +kernel
theorem dX5_compareSizes_69 : decode cX5_compareSizes 69 = .ok (.iadd, 1) := by decide +kernel
theorem dX5_compareSizes_70 : decode cX5_compareSizes 70 = .ok (.iaload, 1) := by decide +kernel
theorem dX5_compareSizes_71 : decode cX5_compareSizes 71 = .ok (.if_icmp .eq 34, 3) := by decide +kernel
theorem dX5_compareSizes_74 : decode cX5_compareSizes 74 = .ok (.aload_n 0, 1) := by decide +kernel
theorem dX5_compareSizes_75 : decode cX5_compareSizes 75 = .ok (.getfield 7, 3) := by decide +kernel
theorem dX5_compareSizes_78 : decode cX5_compareSizes 78 = .ok (.bipush 72, 2) := by decide +kernel
theorem dX5_compareSizes_80 : decode cX5_compareSizes 80 = .ok (.iload_n 1, 1) := by decide +kernel
theorem dX5_compareSizes_81 : decode cX5_compareSizes 81 = .ok (.imul, 1) := by decide +kernel
theorem dX5_compareSizes_82 : decode cX5_compareSizes 82 = .ok (.iload_n 3, 1) := by decide +kernel
theorem dX5_compareSizes_83 : decode cX5_compareSizes 83 = .ok (.iadd, 1) := by decide +kernel
theorem dX5_compareSizes_84 : decode cX5_compareSizes 84 = .ok (.iaload, 1) := by decide +kernel
theorem dX5_compareSizes_85 : decode cX5_compareSizes 85 = .ok (.aload_n 0, 1) := by decide +kernel
theorem dX5_compareSizes_86 : decode cX5_compareSizes 86 = .ok (.getfield 7, 3) := by decide +kernel
theorem dX5_compareSizes_89 : decode cX5_compareSizes 89 = .ok (.bipush 72, 2) := by decide +kernel
theorem dX5_compareSizes_91 : decode cX5_compareSizes 91 = .ok (.iload_n 2, 1) := by decide +kernel
theorem dX5_compareSizes_92 : decode cX5_compareSizes 92 = .ok (.imul, 1) := by decide +kernel
theorem dX5_compareSizes_93 : decode cX5_compareSizes 93 = .ok (.iload_n 3, 1) := by decide +kernel
theorem dX5_compareSizes_94 : decode cX5_compareSizes 94 = .ok (.iadd, 1) := by decide +kernel
theorem dX5_compareSizes_95 : decode cX5_compareSizes 95 = .ok (.iaload, 1) := by decide +kernel
theorem dX5_compareSizes_96 : decode cX5_compareSizes 96 = .ok (.if_icmp .ge 7, 3) := by decide +kernel
theorem dX5_compareSizes_99 : decode cX5_compareSizes 99 = .ok (.iconst (-1), 1) := by decide +kernel
theorem dX5_compareSizes_100 : decode cX5_compareSizes 100 = .ok (.goto 4, 3) := by decide +kernel
theorem dX5_compareSizes_103 : decode cX5_compareSizes 103 = .ok (.iconst 1, 1) := by decide +kernel
theorem dX5_compareSizes_104 : decode cX5_compareSizes 104 = .ok (.ireturn, 1) := by decide +kernel
theorem dX5_compareSizes_105 : decode cX5_compareSizes 105 = .ok (.iinc 3 (-1), 3) := by decide +kernel
theorem dX5_compareSizes_108 : decode cX5_compareSizes 108 = .ok (.goto (-63), 3) := by decide +kernel
theorem dX5_compareSizes_111 : decode cX5_compareSizes 111 = .ok (.iconst 0, 1) := by decide +kernel
theorem dX5_compareSizes_112 : decode cX5_compareSizes 112 = .ok (.ireturn, 1) := by decide +kernel
set_option maxRecDepth 20000 in
theorem ggX5_addSizes_X5_limbOf : GoodIn wsX5_addSizes wsX5_limbOf := goodIn_r _ [8, 1, 2, 14, 15, 16, 17, 18, 19, 20, 21, 22, 23, 24, 25, 26, 27, 28] (by decide +kernel) (by decide +kernel)
set_option maxRecDepth 20000 in
theorem gX5_addSizes_X5_limbOf : GoodIn wsX5_addSizes (wsV RX5 37 RX5 yX5_limbOf wsX5_limbOf) := goodIn_app (goodIn_of _ (by decide +kernel)) ggX5_addSizes_X5_limbOf
set_option maxRecDepth 20000 in
theorem ggX5_addSizes_X5_trim : GoodIn wsX5_addSizes wsX5_trim := goodIn_r _ [12, 1, 2, 13, 14, 15, 16, 17, 18, 19, 20, 21, 22, 23, 24, 25, 26, 27, 28] (by decide +kernel) (by decide +kernel)
set_option maxRecDepth 20000 in
theorem gX5_addSizes_X5_trim : GoodIn wsX5_addSizes (wsV RX5 43 RX5 yX5_trim wsX5_trim) := goodIn_app (goodIn_of _ (by decide +kernel)) ggX5_addSizes_X5_trim
theorem dX5_addSizes_0 : decode cX5_addSizes 0 = .ok (.aload_n 0, 1) := by decide +kernel
theorem dX5_addSizes_1 : decode cX5_addSizes 1 = .ok (.getfield 13, 3) := by decide +kernel
theorem dX5_addSizes_4 : decode cX5_addSizes 4 = .ok (.iload_n 2, 1) := by decide +kernel
theorem dX5_addSizes_5 : decode cX5_addSizes 5 = .ok (.iaload, 1) := by decide +kernel
theorem dX5_addSizes_6 : decode cX5_addSizes 6 = .ok (.aload_n 0, 1) := by decide +kernel
theorem dX5_addSizes_7 : decode cX5_addSizes 7 = .ok (.getfield 13, 3) := by decide +kernel
theorem dX5_addSizes_10 : decode cX5_addSizes 10 = .ok (.iload_n 3, 1) := by decide +kernel
theorem dX5_addSizes_11 : decode cX5_addSizes 11 = .ok (.iaload, 1) := by decide +kernel
theorem dX5_addSizes_12 : decode cX5_addSizes 12 = .ok (.if_icmp .le 12, 3) := by decide +kernel
theorem dX5_addSizes_15 : decode cX5_addSizes 15 = .ok (.aload_n 0, 1) := by decide +kernel
theorem dX5_addSizes_16 : decode cX5_addSizes 16 = .ok (.getfield 13, 3) := by decide +kernel
theorem dX5_addSizes_19 : decode cX5_addSizes 19 = .ok (.iload_n 2, 1) := by decide +kernel
theorem dX5_addSizes_20 : decode cX5_addSizes 20 = .ok (.iaload, 1) := by decide +kernel
theorem dX5_addSizes_21 : decode cX5_addSizes 21 = .ok (.goto 9, 3) := by decide +kernel
theorem dX5_addSizes_24 : decode cX5_addSizes 24 = .ok (.aload_n 0, 1) := by decide +kernel
theorem dX5_addSizes_25 : decode cX5_addSizes 25 = .ok (.getfield 13, 3) := by decide +kernel
theorem dX5_addSizes_28 : decode cX5_addSizes 28 = .ok (.iload_n 3, 1) := by decide +kernel
theorem dX5_addSizes_29 : decode cX5_addSizes 29 = .ok (.iaload, 1) := by decide +kernel
theorem dX5_addSizes_30 : decode cX5_addSizes 30 = .ok (.iconst 1, 1) := by decide +kernel
theorem dX5_addSizes_31 : decode cX5_addSizes 31 = .ok (.iadd, 1) := by decide +kernel
theorem dX5_addSizes_32 : decode cX5_addSizes 32 = .ok (.istore 4, 2) := by decide +kernel
theorem dX5_addSizes_34 : decode cX5_addSizes 34 = .ok (.lconst 0, 1) := by decide +kernel
theorem dX5_addSizes_35 : decode cX5_addSizes 35 = .ok (.lstore 5, 2) := by decide +kernel
theorem dX5_addSizes_37 : decode cX5_addSizes 37 = .ok (.iconst 0, 1) := by decide +kernel
theorem dX5_addSizes_38 : decode cX5_addSizes 38 = .ok (.istore 7, 2) := by decide +kernel
theorem dX5_addSizes_40 : decode cX5_addSizes 40 = .ok (.iload 7, 2) := by decide +kernel
theorem dX5_addSizes_42 : decode cX5_addSizes 42 = .ok (.iload 4, 2) := by decide +kernel
theorem dX5_addSizes_44 : decode cX5_addSizes 44 = .ok (.if_icmp .ge 55, 3) := by decide +kernel
theorem dX5_addSizes_47 : decode cX5_addSizes 47 = .ok (.aload_n 0, 1) := by decide +kernel
theorem dX5_addSizes_48 : decode cX5_addSizes 48 = .ok (.iload_n 2, 1) := by decide +kernel
theorem dX5_addSizes_49 : decode cX5_addSizes 49 = .ok (.iload 7, 2) := by decide +kernel
theorem dX5_addSizes_51 : decode cX5_addSizes 51 = .ok (.invokevirtual 37, 3) := by decide +kernel
theorem dX5_addSizes_54 : decode cX5_addSizes 54 = .ok (.aload_n 0, 1) := by decide +kernel
theorem dX5_addSizes_55 : decode cX5_addSizes 55 = .ok (.iload_n 3, 1) := by decide +kernel
theorem dX5_addSizes_56 : decode cX5_addSizes 56 = .ok (.iload 7, 2) := by decide +kernel
theorem dX5_addSizes_58 : decode cX5_addSizes 58 = .ok (.invokevirtual 37, 3) := by decide +kernel
theorem dX5_addSizes_61 : decode cX5_addSizes 61 = .ok (.ladd, 1) := by decide +kernel
theorem dX5_addSizes_62 : decode cX5_addSizes 62 = .ok (.lload 5, 2) := by decide +kernel
theorem dX5_addSizes_64 : decode cX5_addSizes 64 = .ok (.ladd, 1) := by decide +kernel
theorem dX5_addSizes_65 : decode cX5_addSizes 65 = .ok (.lstore 8, 2) := by decide +kernel
theorem dX5_addSizes_67 : decode cX5_addSizes 67 = .ok (.aload_n 0, 1) := by decide +kernel
theorem dX5_addSizes_68 : decode cX5_addSizes 68 = .ok (.getfield 7, 3) := by decide +kernel
theorem dX5_addSizes_71 : decode cX5_addSizes 71 = .ok (.bipush 72, 2) := by decide +kernel
theorem dX5_addSizes_73 : decode cX5_addSizes 73 = .ok (.iload_n 1, 1) := by decide +kernel
theorem dX5_addSizes_74 : decode cX5_addSizes 74 = .ok (.imul, 1) := by decide +kernel
theorem dX5_addSizes_75 : decode cX5_addSizes 75 = .ok (.iload 7, 2) := by decide +kernel
theorem dX5_addSizes_77 : decode cX5_addSizes 77 = .ok (.iadd, 1) := by decide +kernel
theorem dX5_addSizes_78 : decode cX5_addSizes 78 = .ok (.lload 8, 2) := by decide +kernel
theorem dX5_addSizes_80 : decode cX5_addSizes 80 = .ok (.ldc2_w 41, 3) := by decide +kernel
theorem dX5_addSizes_83 : decode cX5_addSizes 83 = .ok (.land, 1) := by decide +kernel
theorem dX5_addSizes_84 : decode cX5_addSizes 84 = .ok (.l2i, 1) := by decide +kernel
theorem dX5_addSizes_85 : decode cX5_addSizes 85 = .ok (.iastore, 1) := by decide +kernel
theorem dX5_addSizes_86 : decode cX5_addSizes 86 = .ok (.lload 8, 2) := by decide +kernel
theorem dX5_addSizes_88 : decode cX5_addSizes 88 = .ok (.bipush 31, 2) := by decide +kernel
theorem dX5_addSizes_90 : decode cX5_addSizes 90 = .ok (.lshr, 1) := by decide +kernel
theorem dX5_addSizes_91 : decode cX5_addSizes 91 = .ok (.lstore 5, 2) := by decide +kernel
theorem dX5_addSizes_93 : decode cX5_addSizes 93 = .ok (.iinc 7 1, 3) := by decide +kernel
theorem dX5_addSizes_96 : decode cX5_addSizes 96 = .ok (.goto (-56), 3) := by decide +kernel
theorem dX5_addSizes_99 : decode cX5_addSizes 99 = .ok (.aload_n 0, 1) := by decide +kernel
theorem dX5_addSizes_100 : decode cX5_addSizes 100 = .ok (.getfield 13, 3) := by decide +kernel
theorem dX5_addSizes_103 : decode cX5_addSizes 103 = .ok (.iload_n 1, 1) := by decide +kernel
theorem dX5_addSizes_104 : decode cX5_addSizes 104 = .ok (.iload 4, 2) := by decide +kernel
theorem dX5_addSizes_106 : decode cX5_addSizes 106 = .ok (.iastore, 1) := by decide +kernel
theorem dX5_addSizes_107 : decode cX5_addSizes 107 = .ok (.aload_n 0, 1) := by decide +kernel
theorem dX5_addSizes_108 : decode cX5_addSizes 108 = .ok (.iload_n 1, 1) := by decide +kernel
theorem dX5_addSizes_109 : decode cX5_addSizes 109 = .ok (.invokevirtual 43, 3) := by decide +kernel
theorem dX5_addSizes_112 : decode cX5_addSizes 112 = .ok (.return_, 1) := by decide +kernel
set_option maxRecDepth 20000 in
theorem ggX5_subtractSizes_X5_limbOf : GoodIn wsX5_subtractSizes wsX5_limbOf := goodIn_r _ [8, 1, 2, 14, 15, 16, 17, 18, 19, 20, 21, 22, 23, 24, 25, 26, 27, 28] (by decide +kernel) (by decide +kernel)
set_option maxRecDepth 20000 in
theorem gX5_subtractSizes_X5_limbOf : GoodIn wsX5_subtractSizes (wsV RX5 37 RX5 yX5_limbOf wsX5_limbOf) := goodIn_app (goodIn_of _ (by decide +kernel)) ggX5_subtractSizes_X5_limbOf
set_option maxRecDepth 20000 in
theorem ggX5_subtractSizes_X5_trim : GoodIn wsX5_subtractSizes wsX5_trim := goodIn_r _ [12, 1, 2, 13, 14, 15, 16, 17, 18, 19, 20, 21, 22, 23, 24, 25, 26, 27, 28] (by decide +kernel) (by decide +kernel)
set_option maxRecDepth 20000 in
theorem gX5_subtractSizes_X5_trim : GoodIn wsX5_subtractSizes (wsV RX5 43 RX5 yX5_trim wsX5_trim) := goodIn_app (goodIn_of _ (by decide +kernel)) ggX5_subtractSizes_X5_trim
theorem dX5_subtractSizes_0 : decode cX5_subtractSizes 0 = .ok (.aload_n 0, 1) := by decide +kernel
theorem dX5_subtractSizes_1 : decode cX5_subtractSizes 1 = .ok (.getfield 13, 3) := by decide +kernel
theorem dX5_subtractSizes_4 : decode cX5_subtractSizes 4 = .ok (.iload_n 2, 1) := by decide +kernel
theorem dX5_subtractSizes_5 : decode cX5_subtractSizes 5 = .ok (.iaload, 1) := by decide +kernel
theorem dX5_subtractSizes_6 : decode cX5_subtractSizes 6 = .ok (.istore 4, 2) := by decide +kernel
theorem dX5_subtractSizes_8 : decode cX5_subtractSizes 8 = .ok (.lconst 0, 1) := by decide +kernel
theorem dX5_subtractSizes_9 : decode cX5_subtractSizes 9 = .ok (.lstore 5, 2) := by decide +kernel
theorem dX5_subtractSizes_11 : decode cX5_subtractSizes 11 = .ok (.iconst 0, 1) := by decide +kernel
theorem dX5_subtractSizes_12 : decode cX5_subtractSizes 12 = .ok (.istore 7, 2) := by decide +kernel
theorem dX5_subtractSizes_14 : decode cX5_subtractSizes 14 = .ok (.iload 7, 2) := by decide +kernel
theorem dX5_subtractSizes_16 : decode cX5_subtractSizes 16 = .ok (.iload 4, 2) := by decide +kernel
theorem dX5_subtractSizes_18 : decode cX5_subtractSizes 18 = .ok (.if_icmp .ge 55, 3) := by decide +kernel
theorem dX5_subtractSizes_21 : decode cX5_subtractSizes 21 = .ok (.aload_n 0, 1) := by decide +kernel
theorem dX5_subtractSizes_22 : decode cX5_subtractSizes 22 = .ok (.iload_n 2, 1) := by decide +kernel
theorem dX5_subtractSizes_23 : decode cX5_subtractSizes 23 = .ok (.iload 7, 2) := by decide +kernel
theorem dX5_subtractSizes_25 : decode cX5_subtractSizes 25 = .ok (.invokevirtual 37, 3) := by decide +kernel
theorem dX5_subtractSizes_28 : decode cX5_subtractSizes 28 = .ok (.aload_n 0, 1) := by decide +kernel
theorem dX5_subtractSizes_29 : decode cX5_subtractSizes 29 = .ok (.iload_n 3, 1) := by decide +kernel
theorem dX5_subtractSizes_30 : decode cX5_subtractSizes 30 = .ok (.iload 7, 2) := by decide +kernel
theorem dX5_subtractSizes_32 : decode cX5_subtractSizes 32 = .ok (.invokevirtual 37, 3) := by decide +kernel
theorem dX5_subtractSizes_35 : decode cX5_subtractSizes 35 = .ok (.lsub, 1) := by decide +kernel
theorem dX5_subtractSizes_36 : decode cX5_subtractSizes 36 = .ok (.lload 5, 2) := by decide +kernel
theorem dX5_subtractSizes_38 : decode cX5_subtractSizes 38 = .ok (.ladd, 1) := by decide +kernel
theorem dX5_subtractSizes_39 : decode cX5_subtractSizes 39 = .ok (.lstore 8, 2) := by decide +kernel
theorem dX5_subtractSizes_41 : decode cX5_subtractSizes 41 = .ok (.aload_n 0, 1) := by decide +kernel
theorem dX5_subtractSizes_42 : decode cX5_subtractSizes 42 = .ok (.getfield 7, 3) := by decide +kernel
theorem dX5_subtractSizes_45 : decode cX5_subtractSizes 45 = .ok (.bipush 72, 2) := by decide +kernel
theorem dX5_subtractSizes_47 : decode cX5_subtractSizes 47 = .ok (.iload_n 1, 1) := by decide +kernel
theorem dX5_subtractSizes_48 : decode cX5_subtractSizes 48 = .ok (.imul, 1) := by decide +kernel
theorem dX5_subtractSizes_49 : decode cX5_subtractSizes 49 = .ok (.iload 7, 2) := by decide +kernel
theorem dX5_subtractSizes_51 : decode cX5_subtractSizes 51 = .ok (.iadd, 1) := by decide +kernel
theorem dX5_subtractSizes_52 : decode cX5_subtractSizes 52 = .ok (.lload 8, 2) := by decide +kernel
theorem dX5_subtractSizes_54 : decode cX5_subtractSizes 54 = .ok (.ldc2_w 41, 3) := by decide +kernel
theorem dX5_subtractSizes_57 : decode cX5_subtractSizes 57 = .ok (.land, 1) := by decide +kernel
theorem dX5_subtractSizes_58 : decode cX5_subtractSizes 58 = .ok (.l2i, 1) := by decide +kernel
theorem dX5_subtractSizes_59 : decode cX5_subtractSizes 59 = .ok (.iastore, 1) := by decide +kernel
theorem dX5_subtractSizes_60 : decode cX5_subtractSizes 60 = .ok (.lload 8, 2) := by decide +kernel
theorem dX5_subtractSizes_62 : decode cX5_subtractSizes 62 = .ok (.bipush 31, 2) := by decide +kernel
theorem dX5_subtractSizes_64 : decode cX5_subtractSizes 64 = .ok (.lshr, 1) := by decide +kernel
theorem dX5_subtractSizes_65 : decode cX5_subtractSizes 65 = .ok (.lstore 5, 2) := by decide +kernel
theorem dX5_subtractSizes_67 : decode cX5_subtractSizes 67 = .ok (.iinc 7 1, 3) := by decide +kernel
theorem dX5_subtractSizes_70 : decode cX5_subtractSizes 70 = .ok (.goto (-56), 3) := by decide +kernel
theorem dX5_subtractSizes_73 : decode cX5_subtractSizes 73 = .ok (.aload_n 0, 1) := by decide +kernel
theorem dX5_subtractSizes_74 : decode cX5_subtractSizes 74 = .ok (.getfield 13, 3) := by decide +kernel
theorem dX5_subtractSizes_77 : decode cX5_subtractSizes 77 = .ok (.iload_n 1, 1) := by decide +kernel
theorem dX5_subtractSizes_78 : decode cX5_subtractSizes 78 = .ok (.iload 4, 2) := by decide +kernel
theorem dX5_subtractSizes_80 : decode cX5_subtractSizes 80 = .ok (.iastore, 1) := by decide +kernel
theorem dX5_subtractSizes_81 : decode cX5_subtractSizes 81 = .ok (.aload_n 0, 1) := by decide +kernel
theorem dX5_subtractSizes_82 : decode cX5_subtractSizes 82 = .ok (.iload_n 1, 1) := by decide +kernel
theorem dX5_subtractSizes_83 : decode cX5_subtractSizes 83 = .ok (.invokevirtual 43, 3) := by decide +kernel
theorem dX5_subtractSizes_86 : decode cX5_subtractSizes 86 = .ok (.return_, 1) := by decide +kernel
set_option maxRecDepth 20000 in
theorem ggX5_add_X5_addSizes : GoodIn wsX5_add wsX5_addSizes := goodIn_r _ [7, 2, 8, 9, 10, 11, 12, 6, 13, 14, 15, 16, 17, 1, 26, 27, 28, 29, 30, 31, 32, 33, 34, 35, 36, 37, 38, 39, 40] (by decide +kernel) (by decide +kernel)
set_option maxRecDepth 20000 in
theorem gX5_add_X5_addSizes : GoodIn wsX5_add (wsV RX5 47 RX5 yX5_addSizes wsX5_addSizes) := goodIn_app (goodIn_of _ (by decide +kernel)) ggX5_add_X5_addSizes
set_option maxRecDepth 20000 in
theorem ggX5_add_X5_compareSizes : GoodIn wsX5_add wsX5_compareSizes := goodIn_r _ [21, 2, 8, 26, 27, 28, 29, 30, 31, 32, 33, 34, 35, 36, 37, 38, 39, 40] (by decide +kernel) (by decide +kernel)
set_option maxRecDepth 20000 in
theorem gX5_add_X5_compareSizes : GoodIn wsX5_add (wsV RX5 51 RX5 yX5_compareSizes wsX5_compareSizes) := goodIn_app (goodIn_of _ (by decide +kernel)) ggX5_add_X5_compareSizes
set_option maxRecDepth 20000 in
theorem ggX5_add_X5_subtractSizes : GoodIn wsX5_add wsX5_subtractSizes := goodIn_r _ [25, 2, 8, 9, 10, 11, 12, 6, 13, 14, 15, 16, 17, 1, 26, 27, 28, 29, 30, 31, 32, 33, 34, 35, 36, 37, 38, 39, 40] (by decide +kernel) (by decide +kernel)
set_option maxRecDepth 20000 in
theorem gX5_add_X5_subtractSizes : GoodIn wsX5_add (wsV RX5 54 RX5 yX5_subtractSizes wsX5_subtractSizes) := goodIn_app (goodIn_of _ (by decide +kernel)) ggX5_add_X5_subtractSizes
theorem dX5_add_0 : decode cX5_add 0 = .ok (.aload_n 0, 1) := by decide +kernel
theorem dX5_add_1 : decode cX5_add 1 = .ok (.getfield 16, 3) := by decide +kernel
theorem dX5_add_4 : decode cX5_add 4 = .ok (.iload_n 2, 1) := by decide +kernel
theorem dX5_add_5 : decode cX5_add 5 = .ok (.baload, 1) := by decide +kernel
theorem dX5_add_6 : decode cX5_add 6 = .ok (.istore 4, 2) := by decide +kernel
theorem dX5_add_8 : decode cX5_add 8 = .ok (.aload_n 0, 1) := by decide +kernel
theorem dX5_add_9 : decode cX5_add 9 = .ok (.getfield 16, 3) := by decide +kernel
theorem dX5_add_12 : decode cX5_add 12 = .ok (.iload_n 3, 1) := by decide +kernel
theorem dX5_add_13 : decode cX5_add 13 = .ok (.baload, 1) := by decide +kernel
theorem dX5_add_14 : decode cX5_add 14 = .ok (.istore 5, 2) := by decide +kernel
theorem dX5_add_16 : decode cX5_add 16 = .ok (.iload 4, 2) := by decide +kernel
theorem dX5_add_18 : decode cX5_add 18 = .ok (.iload 5, 2) := by decide +kernel
theorem dX5_add_20 : decode cX5_add 20 = .ok (.if_icmp .ne 38, 3) := by decide +kernel
theorem dX5_add_23 : decode cX5_add 23 = .ok (.aload_n 0, 1) := by decide +kernel
theorem dX5_add_24 : decode cX5_add 24 = .ok (.iload_n 1, 1) := by decide +kernel
theorem dX5_add_25 : decode cX5_add 25 = .ok (.iload_n 2, 1) := by decide +kernel
theorem dX5_add_26 : decode cX5_add 26 = .ok (.iload_n 3, 1) := by decide +kernel
theorem dX5_add_27 : decode cX5_add 27 = .ok (.invokevirtual 47, 3) := by decide +kernel
theorem dX5_add_30 : decode cX5_add 30 = .ok (.aload_n 0, 1) := by decide +kernel
theorem dX5_add_31 : decode cX5_add 31 = .ok (.getfield 16, 3) := by decide +kernel
theorem dX5_add_34 : decode cX5_add 34 = .ok (.iload_n 1, 1) := by decide +kernel
theorem dX5_add_35 : decode cX5_add 35 = .ok (.iload 4, 2) := by decide +kernel
theorem dX5_add_37 : decode cX5_add 37 = .ok (.ifCond .eq 16, 3) := by decide +kernel
theorem dX5_add_40 : decode cX5_add 40 = .ok (.aload_n 0, 1) := by decide +kernel
theorem dX5_add_41 : decode cX5_add 41 = .ok (.getfield 13, 3) := by decide +kernel
theorem dX5_add_44 : decode cX5_add 44 = .ok (.iload_n 1, 1) := by decide +kernel
theorem dX5_add_45 : decode cX5_add 45 = .ok (.iaload, 1) := by decide +kernel
theorem dX5_add_46 : decode cX5_add 46 = .ok (.ifCond .le 7, 3) := by decide +kernel
theorem dX5_add_49 : decode cX5_add 49 = .ok (.iconst 1, 1) := by decide +kernel
theorem dX5_add_50 : decode cX5_add 50 = .ok (.goto 4, 3) := by decide +kernel
theorem dX5_add_53 : decode cX5_add 53 = .ok (.iconst 0, 1) := by decide +kernel
theorem dX5_add_54 : decode cX5_add 54 = .ok (.bastore, 1) := by decide +kernel
theorem dX5_add_55 : decode cX5_add 55 = .ok (.goto 62, 3) := by decide +kernel
theorem dX5_add_58 : decode cX5_add 58 = .ok (.aload_n 0, 1) := by decide +kernel
theorem dX5_add_59 : decode cX5_add 59 = .ok (.iload_n 2, 1) := by decide +kernel
theorem dX5_add_60 : decode cX5_add 60 = .ok (.iload_n 3, 1) := by decide +kernel
theorem dX5_add_61 : decode cX5_add 61 = .ok (.invokevirtual 51, 3) := by decide +kernel
theorem dX5_add_64 : decode cX5_add 64 = .ok (.ifCond .lt 38, 3) := by decide +kernel
theorem dX5_add_67 : decode cX5_add 67 = .ok (.aload_n 0, 1) := by decide +kernel
theorem dX5_add_68 : decode cX5_add 68 = .ok (.iload_n 1, 1) := by decide +kernel
theorem dX5_add_69 : decode cX5_add 69 = .ok (.iload_n 2, 1) := by decide +kernel
theorem dX5_add_70 : decode cX5_add 70 = .ok (.iload_n 3, 1) := by decide +kernel
theorem dX5_add_71 : decode cX5_add 71 = .ok (.invokevirtual 54, 3) := by decide +kernel
theorem dX5_add_74 : decode cX5_add 74 = .ok (.aload_n 0, 1) := by decide +kernel
theorem dX5_add_75 : decode cX5_add 75 = .ok (.getfield 16, 3) := by decide +kernel
theorem dX5_add_78 : decode cX5_add 78 = .ok (.iload_n 1, 1) := by decide +kernel
theorem dX5_add_79 : decode cX5_add 79 = .ok (.iload 4, 2) := by decide +kernel
theorem dX5_add_81 : decode cX5_add 81 = .ok (.ifCond .eq 16, 3) := by decide +kernel
theorem dX5_add_84 : decode cX5_add 84 = .ok (.aload_n 0, 1) := by decide +kernel
theorem dX5_add_85 : decode cX5_add 85 = .ok (.getfield 13, 3) := by decide +kernel
theorem dX5_add_88 : decode cX5_add 88 = .ok (.iload_n 1, 1) := by decide +kernel
theorem dX5_add_89 : decode cX5_add 89 = .ok (.iaload, 1) := by decide +kernel
theorem dX5_add_90 : decode cX5_add 90 = .ok (.ifCond .le 7, 3) := by decide +kernel
theorem dX5_add_93 : decode cX5_add 93 = .ok (.iconst 1, 1) := by decide +kernel
theorem dX5_add_94 : decode cX5_add 94 = .ok (.goto 4, 3) := by decide +kernel
theorem dX5_add_97 : decode cX5_add 97 = .ok (.iconst 0, 1) := by decide +kernel
theorem dX5_add_98 : decode cX5_add 98 = .ok (.bastore, 1) := by decide +kernel
theorem dX5_add_99 : decode cX5_add 99 = .ok (.goto 18, 3) := by decide +kernel
theorem dX5_add_102 : decode cX5_add 102 = .ok (.aload_n 0, 1) := by decide +kernel
theorem dX5_add_103 : decode cX5_add 103 = .ok (.iload_n 1, 1) := by decide +kernel
theorem dX5_add_104 : decode cX5_add 104 = .ok (.iload_n 3, 1) := by decide +kernel
theorem dX5_add_105 : decode cX5_add 105 = .ok (.iload_n 2, 1) := by decide +kernel
theorem dX5_add_106 : decode cX5_add 106 = .ok (.invokevirtual 54, 3) := by decide +kernel
theorem dX5_add_109 : decode cX5_add 109 = .ok (.aload_n 0, 1) := by decide +kernel
theorem dX5_add_110 : decode cX5_add 110 = .ok (.getfield 16, 3) := by decide +kernel
theorem dX5_add_113 : decode cX5_add 113 = .ok (.iload_n 1, 1) := by decide +kernel
theorem dX5_add_114 : decode cX5_add 114 = .ok (.iload 5, 2) := by decide +kernel
theorem dX5_add_116 : decode cX5_add 116 = .ok (.bastore, 1) := by decide +kernel
theorem dX5_add_117 : decode cX5_add 117 = .ok (.return_, 1) := by decide +kernel
set_option maxRecDepth 20000 in
theorem ggX5_multiply_X5_limbOf : GoodIn wsX5_multiply wsX5_limbOf := goodIn_r _ [9, 1, 2, 14, 15, 16, 17, 18, 19, 20, 21, 22, 23, 24, 25, 26, 27, 28] (by decide +kernel) (by decide +kernel)
set_option maxRecDepth 20000 in
theorem gX5_multiply_X5_limbOf : GoodIn wsX5_multiply (wsV RX5 37 RX5 yX5_limbOf wsX5_limbOf) := goodIn_app (goodIn_of _ (by decide +kernel)) ggX5_multiply_X5_limbOf
set_option maxRecDepth 20000 in
theorem ggX5_multiply_X5_trim : GoodIn wsX5_multiply wsX5_trim := goodIn_r _ [13, 1, 2, 4, 14, 15, 16, 17, 18, 19, 20, 21, 22, 23, 24, 25, 26, 27, 28] (by decide +kernel) (by decide +kernel)
set_option maxRecDepth 20000 in
theorem gX5_multiply_X5_trim : GoodIn wsX5_multiply (wsV RX5 43 RX5 yX5_trim wsX5_trim) := goodIn_app (goodIn_of _ (by decide +kernel)) ggX5_multiply_X5_trim
theorem dX5_multiply_0 : decode cX5_multiply 0 = .ok (.aload_n 0, 1) := by decide +kernel
theorem dX5_multiply_1 : decode cX5_multiply 1 = .ok (.getfield 13, 3) := by decide +kernel
theorem dX5_multiply_4 : decode cX5_multiply 4 = .ok (.iload_n 2, 1) := by decide +kernel
theorem dX5_multiply_5 : decode cX5_multiply 5 = .ok (.iaload, 1) := by decide +kernel
theorem dX5_multiply_6 : decode cX5_multiply 6 = .ok (.aload_n 0, 1) := by decide +kernel
theorem dX5_multiply_7 : decode cX5_multiply 7 = .ok (.getfield 13, 3) := by decide +kernel
theorem dX5_multiply_10 : decode cX5_multiply 10 = .ok (.iload_n 3, 1) := by decide +kernel
theorem dX5_multiply_11 : decode cX5_multiply 11 = .ok (.iaload, 1) := by decide +kernel
theorem dX5_multiply_12 : decode cX5_multiply 12 = .ok (.iadd, 1) := by decide +kernel
theorem dX5_multiply_13 : decode cX5_multiply 13 = .ok (.istore 4, 2) := by decide +kernel
theorem dX5_multiply_15 : decode cX5_multiply 15 = .ok (.iconst 0, 1) := by decide +kernel
theorem dX5_multiply_16 : decode cX5_multiply 16 = .ok (.istore 5, 2) := by decide +kernel
theorem dX5_multiply_18 : decode cX5_multiply 18 = .ok (.iload 5, 2) := by decide +kernel
theorem dX5_multiply_20 : decode cX5_multiply 20 = .ok (.iload 4, 2) := by decide +kernel
theorem dX5_multiply_22 : decode cX5_multiply 22 = .ok (.if_icmp .ge 22, 3) := by decide +kernel
theorem dX5_multiply_25 : decode cX5_multiply 25 = .ok (.aload_n 0, 1) := by decide +kernel
theorem dX5_multiply_26 : decode cX5_multiply 26 = .ok (.getfield 7, 3) := by decide +kernel
theorem dX5_multiply_29 : decode cX5_multiply 29 = .ok (.bipush 72, 2) := by decide +kernel
theorem dX5_multiply_31 : decode cX5_multiply 31 = .ok (.iload_n 1, 1) := by decide +kernel
theorem dX5_multiply_32 : decode cX5_multiply 32 = .ok (.imul, 1) := by decide +kernel
theorem dX5_multiply_33 : decode cX5_multiply 33 = .ok (.iload 5, 2) := by decide +kernel
theorem dX5_multiply_35 : decode cX5_multiply 35 = .ok (.iadd, 1) := by decide +kernel
theorem dX5_multiply_36 : decode cX5_multiply 36 = .ok (.iconst 0, 1) := by decide +kernel
theorem dX5_multiply_37 : decode cX5_multiply 37 = .ok (.iastore, 1) := by decide +kernel
theorem dX5_multiply_38 : decode cX5_multiply 38 = .ok (.iinc 5 1, 3) := by decide +kernel
theorem dX5_multiply_41 : decode cX5_multiply 41 = .ok (.goto (-23), 3) := by decide +kernel
theorem dX5_multiply_44 : decode cX5_multiply 44 = .ok (.iconst 0, 1) := by decide +kernel
theorem dX5_multiply_45 : decode cX5_multiply 45 = .ok (.istore 5, 2) := by decide +kernel
theorem dX5_multiply_47 : decode cX5_multiply 47 = .ok (.iload 5, 2) := by decide +kernel
theorem dX5_multiply_49 : decode cX5_multiply 49 = .ok (.aload_n 0, 1) := by decide +kernel
theorem dX5_multiply_50 : decode cX5_multiply 50 = .ok (.getfield 13, 3) := by decide +kernel
theorem dX5_multiply_53 : decode cX5_multiply 53 = .ok (.iload_n 2, 1) := by decide +kernel
theorem dX5_multiply_54 : decode cX5_multiply 54 = .ok (.iaload, 1) := by decide +kernel
theorem dX5_multiply_55 : decode cX5_multiply 55 = .ok (.if_icmp .ge 93, 3) := by decide +kernel
theorem dX5_multiply_58 : decode cX5_multiply 58 = .ok (.lconst 0, 1) := by decide +kernel
theorem dX5_multiply_59 : decode cX5_multiply 59 = .ok (.lstore 6, 2) := by decide +kernel
theorem dX5_multiply_61 : decode cX5_multiply 61 = .ok (.iconst 0, 1) := by decide +kernel
theorem dX5_multiply_62 : decode cX5_multiply 62 = .ok (.istore 8, 2) := by decide +kernel
theorem dX5_multiply_64 : decode cX5_multiply 64 = .ok (.iload 5, 2) := by decide +kernel
theorem dX5_multiply_66 : decode cX5_multiply 66 = .ok (.iload 8, 2) := by decide +kernel
theorem dX5_multiply_68 : decode cX5_multiply 68 = .ok (.iadd, 1) := by decide +kernel
theorem dX5_multiply_69 : decode cX5_multiply 69 = .ok (.iload 4, 2) := by decide +kernel
theorem dX5_multiply_71 : decode cX5_multiply 71 = .ok (.if_icmp .ge 71, 3) := by decide +kernel
theorem dX5_multiply_74 : decode cX5_multiply 74 = .ok (.bipush 72, 2) := by decide +kernel
theorem dX5_multiply_76 : decode cX5_multiply 76 = .ok (.iload_n 1, 1) := by decide +kernel
theorem dX5_multiply_77 : decode cX5_multiply 77 = .ok (.imul, 1) := by decide +kernel
theorem dX5_multiply_78 : decode cX5_multiply 78 = .ok (.iload 5, 2) := by decide +kernel
theorem dX5_multiply_80 : decode cX5_multiply 80 = .ok (.iadd, 1) := by decide +kernel
theorem dX5_multiply_81 : decode cX5_multiply 81 = .ok (.iload 8, 2) := by decide +kernel
theorem dX5_multiply_83 : decode cX5_multiply 83 = .ok (.iadd, 1) := by decide +kernel
theorem dX5_multiply_84 : decode cX5_multiply 84 = .ok (.istore 9, 2) := by decide +kernel
theorem dX5_multiply_86 : decode cX5_multiply 86 = .ok (.aload_n 0, 1) := by decide +kernel
theorem dX5_multiply_87 : decode cX5_multiply 87 = .ok (.iload_n 2, 1) := by decide +kernel
theorem dX5_multiply_88 : decode cX5_multiply 88 = .ok (.iload 5, 2) := by decide +kernel
theorem dX5_multiply_90 : decode cX5_multiply 90 = .ok (.invokevirtual 37, 3) := by decide +kernel
theorem dX5_multiply_93 : decode cX5_multiply 93 = .ok (.aload_n 0, 1) := by decide +kernel
theorem dX5_multiply_94 : decode cX5_multiply 94 = .ok (.iload_n 3, 1) := by decide +kernel
theorem dX5_multiply_95 : decode cX5_multiply 95 = .ok (.iload 8, 2) := by decide +kernel
theorem dX5_multiply_97 : decode cX5_multiply 97 = .ok (.invokevirtual 37, 3) := by decide +kernel
theorem dX5_multiply_100 : decode cX5_multiply 100 = .ok (.lmul, 1) := by decide +kernel
theorem dX5_multiply_101 : decode cX5_multiply 101 = .ok (.aload_n 0, 1) := by decide +kernel
theorem dX5_multiply_102 : decode cX5_multiply 102 = .ok (.getfield 7, 3) := by decide +kernel
theorem dX5_multiply_105 : decode cX5_multiply 105 = .ok (.iload 9, 2) := by decide +kernel
theorem dX5_multiply_107 : decode cX5_multiply 107 = .ok (.iaload, 1) := by decide +kernel
theorem dX5_multiply_108 : decode cX5_multiply 108 = .ok (.i2l, 1) := by decide +kernel
theorem dX5_multiply_109 : decode cX5_multiply 109 = .ok (.ladd, 1) := by decide +kernel
theorem dX5_multiply_110 : decode cX5_multiply 110 = .ok (.lload 6, 2) := by decide +kernel
theorem dX5_multiply_112 : decode cX5_multiply 112 = .ok (.ladd, 1) := by decide +kernel
theorem dX5_multiply_113 : decode cX5_multiply 113 = .ok (.lstore 10, 2) := by decide +kernel
theorem dX5_multiply_115 : decode cX5_multiply 115 = .ok (.aload_n 0, 1) := by decide +kernel
theorem dX5_multiply_116 : decode cX5_multiply 116 = .ok (.getfield 7, 3) := by decide +kernel
theorem dX5_multiply_119 : decode cX5_multiply 119 = .ok (.iload 9, 2) := by decide +kernel
theorem dX5_multiply_121 : decode cX5_multiply 121 = .ok (.lload 10, 2) := by decide +kernel
theorem dX5_multiply_123 : decode cX5_multiply 123 = .ok (.ldc2_w 41, 3) := by decide +kernel
theorem dX5_multiply_126 : decode cX5_multiply 126 = .ok (.land, 1) := by decide +kernel
theorem dX5_multiply_127 : decode cX5_multiply 127 = .ok (.l2i, 1) := by decide +kernel
theorem dX5_multiply_128 : decode cX5_multiply 128 = .ok (.iastore, 1) := by decide +kernel
theorem dX5_multiply_129 : decode cX5_multiply 129 = .ok (.lload 10, 2) := by decide +kernel
theorem dX5_multiply_131 : decode cX5_multiply 131 = .ok (.bipush 31, 2) := by decide +kernel
theorem dX5_multiply_133 : decode cX5_multiply 133 = .ok (.lshr, 1) := by decide +kernel
theorem dX5_multiply_134 : decode cX5_multiply 134 = .ok (.lstore 6, 2) := by decide +kernel
theorem dX5_multiply_136 : decode cX5_multiply 136 = .ok (.iinc 8 1, 3) := by decide +kernel
theorem dX5_multiply_139 : decode cX5_multiply 139 = .ok (.goto (-75), 3) := by decide +kernel
theorem dX5_multiply_142 : decode cX5_multiply 142 = .ok (.iinc 5 1, 3) := by decide +kernel
theorem dX5_multiply_145 : decode cX5_multiply 145 = .ok (.goto (-98), 3) := by decide +kernel
theorem dX5_multiply_148 : decode cX5_multiply 148 = .ok (.aload_n 0, 1) := by decide +kernel
theorem dX5_multiply_149 : decode cX5_multiply 149 = .ok (.getfield 13, 3) := by decide +kernel
theorem dX5_multiply_152 : decode cX5_multiply 152 = .ok (.iload_n 1, 1) := by decide +kernel
theorem dX5_multiply_153 : decode cX5_multiply 153 = .ok (.iload 4, 2) := by decide +kernel
theorem dX5_multiply_155 : decode cX5_multiply 155 = .ok (.iastore, 1) := by decide +kernel
theorem dX5_multiply_156 : decode cX5_multiply 156 = .ok (.aload_n 0, 1) := by decide +kernel
theorem dX5_multiply_157 : decode cX5_multiply 157 = .ok (.getfield 16, 3) := by decide +kernel
theorem dX5_multiply_160 : decode cX5_multiply 160 = .ok (.iload_n 1, 1) := by decide +kernel
theorem dX5_multiply_161 : decode cX5_multiply 161 = .ok (.aload_n 0, 1) := by decide +kernel
theorem dX5_multiply_162 : decode cX5_multiply 162 = .ok (.getfield 16, 3) := by decide +kernel
theorem dX5_multiply_165 : decode cX5_multiply 165 = .ok (.iload_n 2, 1) := by decide +kernel
theorem dX5_multiply_166 : decode cX5_multiply 166 = .ok (.baload, 1) := by decide +kernel
theorem dX5_multiply_167 : decode cX5_multiply 167 = .ok (.aload_n 0, 1) := by decide +kernel
theorem dX5_multiply_168 : decode cX5_multiply 168 = .ok (.getfield 16, 3) := by decide +kernel
theorem dX5_multiply_171 : decode cX5_multiply 171 = .ok (.iload_n 3, 1) := by decide +kernel
theorem dX5_multiply_172 : decode cX5_multiply 172 = .ok (.baload, 1) := by decide +kernel
theorem dX5_multiply_173 : decode cX5_multiply 173 = .ok (.if_icmp .eq 7, 3) := by decide +kernel
theorem dX5_multiply_176 : decode cX5_multiply 176 = .ok (.iconst 1, 1) := by decide +kernel
theorem dX5_multiply_177 : decode cX5_multiply 177 = .ok (.goto 4, 3) := by decide +kernel
theorem dX5_multiply_180 : decode cX5_multiply 180 = .ok (.iconst 0, 1) := by decide +kernel
theorem dX5_multiply_181 : decode cX5_multiply 181 = .ok (.bastore, 1) := by decide +kernel
theorem dX5_multiply_182 : decode cX5_multiply 182 = .ok (.aload_n 0, 1) := by decide +kernel
theorem dX5_multiply_183 : decode cX5_multiply 183 = .ok (.iload_n 1, 1) := by decide +kernel
theorem dX5_multiply_184 : decode cX5_multiply 184 = .ok (.invokevirtual 43, 3) := by decide +kernel
theorem dX5_multiply_187 : decode cX5_multiply 187 = .ok (.return_, 1) := by decide +kernel
theorem dX5_bitsOf_0 : decode cX5_bitsOf 0 = .ok (.bipush 31, 2) := by decide +kernel
theorem dX5_bitsOf_2 : decode cX5_bitsOf 2 = .ok (.aload_n 0, 1) := by decide +kernel
theorem dX5_bitsOf_3 : decode cX5_bitsOf 3 = .ok (.getfield 13, 3) := by decide +kernel
theorem dX5_bitsOf_6 : decode cX5_bitsOf 6 = .ok (.iload_n 1, 1) := by decide +kernel
theorem dX5_bitsOf_7 : decode cX5_bitsOf 7 = .ok (.iaload, 1) := by decide +kernel
theorem dX5_bitsOf_8 : decode cX5_bitsOf 8 = .ok (.imul, 1) := by decide +kernel
theorem dX5_bitsOf_9 : decode cX5_bitsOf 9 = .ok (.istore_n 2, 1) := by decide +kernel
theorem dX5_bitsOf_10 : decode cX5_bitsOf 10 = .ok (.aload_n 0, 1) := by decide +kernel
theorem dX5_bitsOf_11 : decode cX5_bitsOf 11 = .ok (.getfield 13, 3) := by decide +kernel
theorem dX5_bitsOf_14 : decode cX5_bitsOf 14 = .ok (.iload_n 1, 1) := by decide +kernel
theorem dX5_bitsOf_15 : decode cX5_bitsOf 15 = .ok (.iaload, 1) := by decide +kernel
theorem dX5_bitsOf_16 : decode cX5_bitsOf 16 = .ok (.ifCond .le 38, 3) := by decide +kernel
theorem dX5_bitsOf_19 : decode cX5_bitsOf 19 = .ok (.aload_n 0, 1) := by decide +kernel
theorem dX5_bitsOf_20 : decode cX5_bitsOf 20 = .ok (.getfield 7, 3) := by decide +kernel
theorem dX5_bitsOf_23 : decode cX5_bitsOf 23 = .ok (.bipush 72, 2) := by decide +kernel
theorem dX5_bitsOf_25 : decode cX5_bitsOf 25 = .ok (.iload_n 1, 1) := by decide +kernel
theorem dX5_bitsOf_26 : decode cX5_bitsOf 26 = .ok (.imul, 1) := by decide +kernel
theorem dX5_bitsOf_27 : decode cX5_bitsOf 27 = .ok (.aload_n 0, 1) := by decide +kernel
theorem dX5_bitsOf_28 : decode cX5_bitsOf 28 = .ok (.getfield 13, 3) := by decide +kernel
theorem dX5_bitsOf_31 : decode cX5_bitsOf 31 = .ok (.iload_n 1, 1) := by decide +kernel
theorem dX5_bitsOf_32 : decode cX5_bitsOf 32 = .ok (.iaload, 1) := by decide +kernel
theorem dX5_bitsOf_33 : decode cX5_bitsOf 33 = .ok (.iadd, 1) := by decide +kernel
theorem dX5_bitsOf_34 : decode cX5_bitsOf 34 = .ok (.iconst 1, 1) := by decide +kernel
theorem dX5_bitsOf_35 : decode cX5_bitsOf 35 = .ok (.isub, 1) := by decide +kernel
theorem dX5_bitsOf_36 : decode cX5_bitsOf 36 = .ok (.iaload, 1) := by decide +kernel
theorem dX5_bitsOf_37 : decode cX5_bitsOf 37 = .ok (.istore_n 3, 1) := by decide +kernel
theorem dX5_bitsOf_38 : decode cX5_bitsOf 38 = .ok (.iload_n 3, 1) := by decide +kernel
theorem dX5_bitsOf_39 : decode cX5_bitsOf 39 = .ok (.ldc 57, 2) := by decide +kernel
theorem dX5_bitsOf_41 : decode cX5_bitsOf 41 = .ok (.if_icmp .ge 13, 3) := by decide +kernel
theorem dX5_bitsOf_44 : decode cX5_bitsOf 44 = .ok (.iconst 2, 1) := by decide +kernel
theorem dX5_bitsOf_45 : decode cX5_bitsOf 45 = .ok (.iload_n 3, 1) := by decide +kernel
theorem dX5_bitsOf_46 : decode cX5_bitsOf 46 = .ok (.imul, 1) := by decide +kernel
theorem dX5_bitsOf_47 : decode cX5_bitsOf 47 = .ok (.istore_n 3, 1) := by decide +kernel
theorem dX5_bitsOf_48 : decode cX5_bitsOf 48 = .ok (.iinc 2 (-1), 3) := by decide +kernel
theorem dX5_bitsOf_51 : decode cX5_bitsOf 51 = .ok (.goto (-13), 3) := by decide +kernel
theorem dX5_bitsOf_54 : decode cX5_bitsOf 54 = .ok (.iload_n 2, 1) := by decide +kernel
theorem dX5_bitsOf_55 : decode cX5_bitsOf 55 = .ok (.ireturn, 1) := by decide +kernel
set_option maxRecDepth 20000 in
theorem ggX5_bitOf_X5_limbOf : GoodIn wsX5_bitOf wsX5_limbOf := goodIn_r _ [5, 6, 7, 8, 9, 10, 11, 12, 13, 14, 15, 16, 17, 18, 19, 20, 21, 22] (by decide +kernel) (by decide +kernel)
set_option maxRecDepth 20000 in
theorem gX5_bitOf_X5_limbOf : GoodIn wsX5_bitOf (wsV RX5 37 RX5 yX5_limbOf wsX5_limbOf) := goodIn_app (goodIn_of _ (by decide +kernel)) ggX5_bitOf_X5_limbOf
theorem dX5_bitOf_0 : decode cX5_bitOf 0 = .ok (.aload_n 0, 1) := by decide +kernel
theorem dX5_bitOf_1 : decode cX5_bitOf 1 = .ok (.iload_n 1, 1) := by decide +kernel
theorem dX5_bitOf_2 : decode cX5_bitOf 2 = .ok (.iload_n 2, 1) := by decide +kernel
theorem dX5_bitOf_3 : decode cX5_bitOf 3 = .ok (.bipush 31, 2) := by decide +kernel
theorem dX5_bitOf_5 : decode cX5_bitOf 5 = .ok (.idiv, 1) := by decide +kernel
theorem dX5_bitOf_6 : decode cX5_bitOf 6 = .ok (.invokevirtual 37, 3) := by decide +kernel
theorem dX5_bitOf_9 : decode cX5_bitOf 9 = .ok (.iload_n 2, 1) := by decide +kernel
theorem dX5_bitOf_10 : decode cX5_bitOf 10 = .ok (.bipush 31, 2) := by decide +kernel
theorem dX5_bitOf_12 : decode cX5_bitOf 12 = .ok (.irem, 1) := by decide +kernel
theorem dX5_bitOf_13 : decode cX5_bitOf 13 = .ok (.lshr, 1) := by decide +kernel
theorem dX5_bitOf_14 : decode cX5_bitOf 14 = .ok (.lconst 1, 1) := by decide +kernel
theorem dX5_bitOf_15 : decode cX5_bitOf 15 = .ok (.land, 1) := by decide +kernel
theorem dX5_bitOf_16 : decode cX5_bitOf 16 = .ok (.l2i, 1) := by decide +kernel
theorem dX5_bitOf_17 : decode cX5_bitOf 17 = .ok (.ireturn, 1) := by decide +kernel
set_option maxRecDepth 20000 in
theorem ggX5_halve_X5_trim : GoodIn wsX5_halve wsX5_trim := goodIn_r _ [7, 1, 2, 8, 9, 10, 11, 12, 13, 14, 15, 16, 17, 18, 19, 20, 21, 22, 23] (by decide +kernel) (by decide +kernel)
set_option maxRecDepth 20000 in
theorem gX5_halve_X5_trim : GoodIn wsX5_halve (wsV RX5 43 RX5 yX5_trim wsX5_trim) := goodIn_app (goodIn_of _ (by decide +kernel)) ggX5_halve_X5_trim
theorem dX5_halve_0 : decode cX5_halve 0 = .ok (.iconst 0, 1) := by decide +kernel
theorem dX5_halve_1 : decode cX5_halve 1 = .ok (.istore_n 2, 1) := by decide +kernel
theorem dX5_halve_2 : decode cX5_halve 2 = .ok (.aload_n 0, 1) := by decide +kernel
theorem dX5_halve_3 : decode cX5_halve 3 = .ok (.getfield 13, 3) := by decide +kernel
theorem dX5_halve_6 : decode cX5_halve 6 = .ok (.iload_n 1, 1) := by decide +kernel
theorem dX5_halve_7 : decode cX5_halve 7 = .ok (.iaload, 1) := by decide +kernel
theorem dX5_halve_8 : decode cX5_halve 8 = .ok (.iconst 1, 1) := by decide +kernel
theorem dX5_halve_9 : decode cX5_halve 9 = .ok (.isub, 1) := by decide +kernel
theorem dX5_halve_10 : decode cX5_halve 10 = .ok (.istore_n 3, 1) := by decide +kernel
theorem dX5_halve_11 : decode cX5_halve 11 = .ok (.iload_n 3, 1) := by decide +kernel
theorem dX5_halve_12 : decode cX5_halve 12 = .ok (.ifCond .lt 51, 3) := by decide +kernel
theorem dX5_halve_15 : decode cX5_halve 15 = .ok (.iload_n 2, 1) := by decide +kernel
theorem dX5_halve_16 : decode cX5_halve 16 = .ok (.i2l, 1) := by decide +kernel
theorem dX5_halve_17 : decode cX5_halve 17 = .ok (.bipush 31, 2) := by decide +kernel
theorem dX5_halve_19 : decode cX5_halve 19 = .ok (.lshl, 1) := by decide +kernel
theorem dX5_halve_20 : decode cX5_halve 20 = .ok (.aload_n 0, 1) := by decide +kernel
theorem dX5_halve_21 : decode cX5_halve 21 = .ok (.getfield 7, 3) := by decide +kernel
theorem dX5_halve_24 : decode cX5_halve 24 = .ok (.bipush 72, 2) := by decide +kernel
theorem dX5_halve_26 : decode cX5_halve 26 = .ok (.iload_n 1, 1) := by decide +kernel
theorem dX5_halve_27 : decode cX5_halve 27 = .ok (.imul, 1) := by decide +kernel
theorem dX5_halve_28 : decode cX5_halve 28 = .ok (.iload_n 3, 1) := by decide +kernel
theorem dX5_halve_29 : decode cX5_halve 29 = .ok (.iadd, 1) := by decide +kernel
theorem dX5_halve_30 : decode cX5_halve 30 = .ok (.iaload, 1) := by decide +kernel
theorem dX5_halve_31 : decode cX5_halve 31 = .ok (.i2l, 1) := by decide +kernel
theorem dX5_halve_32 : decode cX5_halve 32 = .ok (.lor, 1) := by decide +kernel
theorem dX5_halve_33 : decode cX5_halve 33 = .ok (.lstore 4, 2) := by decide +kernel
theorem dX5_halve_35 : decode cX5_halve 35 = .ok (.aload_n 0, 1) := by decide +kernel
theorem dX5_halve_36 : decode cX5_halve 36 = .ok (.getfield 7, 3) := by decide +kernel
theorem dX5_halve_39 : decode cX5_halve 39 = .ok (.bipush 72, 2) := by decide +kernel
theorem dX5_halve_41 : decode cX5_halve 41 = .ok (.iload_n 1, 1) := by decide +kernel
theorem dX5_halve_42 : decode cX5_halve 42 = .ok (.imul, 1) := by decide +kernel
theorem dX5_halve_43 : decode cX5_halve 43 = .ok (.iload_n 3, 1) := by decide +kernel
theorem dX5_halve_44 : decode cX5_halve 44 = .ok (.iadd, 1) := by decide +kernel
theorem dX5_halve_45 : decode cX5_halve 45 = .ok (.lload 4, 2) := by decide +kernel
theorem dX5_halve_47 : decode cX5_halve 47 = .ok (.iconst 1, 1) := by decide +kernel
theorem dX5_halve_48 : decode cX5_halve 48 = .ok (.lshr, 1) := by decide +kernel
theorem dX5_halve_49 : decode cX5_halve 49 = .ok (.l2i, 1) := by decide +kernel
theorem dX5_halve_50 : decode cX5_halve 50 = .ok (.iastore, 1) := by decide +kernel
theorem dX5_halve_51 : decode cX5_halve 51 = .ok (.lload 4, 2) := by decide +kernel
theorem dX5_halve_53 : decode cX5_halve 53 = .ok (.lconst 1, 1) := by decide +kernel
theorem dX5_halve_54 : decode cX5_halve 54 = .ok (.land, 1) := by decide +kernel
theorem dX5_halve_55 : decode cX5_halve 55 = .ok (.l2i, 1) := by decide +kernel
theorem dX5_halve_56 : decode cX5_halve 56 = .ok (.istore_n 2, 1) := by decide +kernel
theorem dX5_halve_57 : decode cX5_halve 57 = .ok (.iinc 3 (-1), 3) := by decide +kernel
theorem dX5_halve_60 : decode cX5_halve 60 = .ok (.goto (-49), 3) := by decide +kernel
theorem dX5_halve_63 : decode cX5_halve 63 = .ok (.aload_n 0, 1) := by decide +kernel
theorem dX5_halve_64 : decode cX5_halve 64 = .ok (.iload_n 1, 1) := by decide +kernel
theorem dX5_halve_65 : decode cX5_halve 65 = .ok (.invokevirtual 43, 3) := by decide +kernel
theorem dX5_halve_68 : decode cX5_halve 68 = .ok (.return_, 1) := by decide +kernel
set_option maxRecDepth 20000 in
theorem ggX5_divide_X5_copy : GoodIn wsX5_divide wsX5_copy := goodIn_r _ [8, 2, 1, 3, 43, 44, 45, 46, 47, 48, 49, 50, 51, 52, 53, 54, 55, 56, 57] (by decide +kernel) (by decide +kernel)
set_option maxRecDepth 20000 in
theorem gX5_divide_X5_copy : GoodIn wsX5_divide (wsV RX5 58 RX5 yX5_copy wsX5_copy) := goodIn_app (goodIn_of _ (by decide +kernel)) ggX5_divide_X5_copy
set_option maxRecDepth 20000 in
theorem ggX5_divide_X5_clear : GoodIn wsX5_divide wsX5_clear := goodIn_r _ [12, 2, 1, 43, 44, 45, 46, 47, 48, 49, 50, 51, 52, 53, 54, 55, 56, 57] (by decide +kernel) (by decide +kernel)
set_option maxRecDepth 20000 in
theorem gX5_divide_X5_clear : GoodIn wsX5_divide (wsV RX5 62 RX5 yX5_clear wsX5_clear) := goodIn_app (goodIn_of _ (by decide +kernel)) ggX5_divide_X5_clear
set_option maxRecDepth 20000 in
theorem ggX5_divide_X5_trim : GoodIn wsX5_divide wsX5_trim := goodIn_r _ [16, 2, 3, 1, 43, 44, 45, 46, 47, 48, 49, 50, 51, 52, 53, 54, 55, 56, 57] (by decide +kernel) (by decide +kernel)
set_option maxRecDepth 20000 in
theorem gX5_divide_X5_trim : GoodIn wsX5_divide (wsV RX5 43 RX5 yX5_trim wsX5_trim) := goodIn_app (goodIn_of _ (by decide +kernel)) ggX5_divide_X5_trim
set_option maxRecDepth 20000 in
theorem ggX5_divide_X5_bitsOf : GoodIn wsX5_divide wsX5_bitsOf := goodIn_r _ [20, 2, 3, 21, 43, 44, 45, 46, 47, 48, 49, 50, 51, 52, 53, 54, 55, 56, 57] (by decide +kernel) (by decide +kernel)
set_option maxRecDepth 20000 in
theorem gX5_divide_X5_bitsOf : GoodIn wsX5_divide (wsV RX5 65 RX5 yX5_bitsOf wsX5_bitsOf) := goodIn_app (goodIn_of _ (by decide +kernel)) ggX5_divide_X5_bitsOf
set_option maxRecDepth 20000 in
theorem ggX5_divide_X5_addSizes : GoodIn wsX5_divide wsX5_addSizes := goodIn_r _ [25, 2, 3, 26, 27, 28, 29, 7, 30, 13, 14, 15, 16, 1, 43, 44, 45, 46, 47, 48, 49, 50, 51, 52, 53, 54, 55, 56, 57] (by decide +kernel) (by decide +kernel)
set_option maxRecDepth 20000 in
theorem gX5_divide_X5_addSizes : GoodIn wsX5_divide (wsV RX5 47 RX5 yX5_addSizes wsX5_addSizes) := goodIn_app (goodIn_of _ (by decide +kernel)) ggX5_divide_X5_addSizes
set_option maxRecDepth 20000 in
theorem ggX5_divide_X5_bitOf : GoodIn wsX5_divide wsX5_bitOf := goodIn_r _ [34, 27, 28, 29, 7, 30, 2, 3, 43, 44, 45, 46, 47, 48, 49, 50, 51, 52, 53, 54, 55, 56, 57] (by decide +kernel) (by decide +kernel)
set_option maxRecDepth 20000 in
theorem gX5_divide_X5_bitOf : GoodIn wsX5_divide (wsV RX5 69 RX5 yX5_bitOf wsX5_bitOf) := goodIn_app (goodIn_of _ (by decide +kernel)) ggX5_divide_X5_bitOf
set_option maxRecDepth 20000 in
theorem ggX5_divide_X5_compareSizes : GoodIn wsX5_divide wsX5_compareSizes := goodIn_r _ [38, 2, 3, 43, 44, 45, 46, 47, 48, 49, 50, 51, 52, 53, 54, 55, 56, 57] (by decide +kernel) (by decide +kernel)
set_option maxRecDepth 20000 in
theorem gX5_divide_X5_compareSizes : GoodIn wsX5_divide (wsV RX5 51 RX5 yX5_compareSizes wsX5_compareSizes) := goodIn_app (goodIn_of _ (by decide +kernel)) ggX5_divide_X5_compareSizes
set_option maxRecDepth 20000 in
theorem ggX5_divide_X5_subtractSizes : GoodIn wsX5_divide wsX5_subtractSizes := goodIn_r _ [42, 2, 3, 26, 27, 28, 29, 7, 30, 13, 14, 15, 16, 1, 43, 44, 45, 46, 47, 48, 49, 50, 51, 52, 53, 54, 55, 56, 57] (by decide +kernel) (by decide +kernel)
set_option maxRecDepth 20000 in
theorem gX5_divide_X5_subtractSizes : GoodIn wsX5_divide (wsV RX5 54 RX5 yX5_subtractSizes wsX5_subtractSizes) := goodIn_app (goodIn_of _ (by decide +kernel)) ggX5_divide_X5_subtractSizes
theorem dX5_divide_0 : decode cX5_divide 0 = .ok (.aload_n 0, 1) := by decide +kernel
theorem dX5_divide_1 : decode cX5_divide 1 = .ok (.sipush 445, 3) := by decide +kernel
theorem dX5_divide_4 : decode cX5_divide 4 = .ok (.iload_n 1, 1) := by decide +kernel
theorem dX5_divide_5 : decode cX5_divide 5 = .ok (.invokevirtual 58, 3) := by decide +kernel
theorem dX5_divide_8 : decode cX5_divide 8 = .ok (.aload_n 0, 1) := by decide +kernel
theorem dX5_divide_9 : decode cX5_divide 9 = .ok (.getfield 16, 3) := by decide +kernel
theorem dX5_divide_12 : decode cX5_divide 12 = .ok (.sipush 445, 3) := by decide +kernel
theorem dX5_divide_15 : decode cX5_divide 15 = .ok (.iconst 0, 1) := by decide +kernel
theorem dX5_divide_16 : decode cX5_divide 16 = .ok (.bastore, 1) := by decide +kernel
theorem dX5_divide_17 : decode cX5_divide 17 = .ok (.aload_n 0, 1) := by decide +kernel
theorem dX5_divide_18 : decode cX5_divide 18 = .ok (.sipush 446, 3) := by decide +kernel
theorem dX5_divide_21 : decode cX5_divide 21 = .ok (.invokevirtual 62, 3) := by decide +kernel
theorem dX5_divide_24 : decode cX5_divide 24 = .ok (.aload_n 0, 1) := by decide +kernel
theorem dX5_divide_25 : decode cX5_divide 25 = .ok (.getfield 13, 3) := by decide +kernel
theorem dX5_divide_28 : decode cX5_divide 28 = .ok (.iload_n 2, 1) := by decide +kernel
theorem dX5_divide_29 : decode cX5_divide 29 = .ok (.iaload, 1) := by decide +kernel
theorem dX5_divide_30 : decode cX5_divide 30 = .ok (.iconst 1, 1) := by decide +kernel
theorem dX5_divide_31 : decode cX5_divide 31 = .ok (.if_icmp .ne 115, 3) := by decide +kernel
theorem dX5_divide_34 : decode cX5_divide 34 = .ok (.lconst 0, 1) := by decide +kernel
theorem dX5_divide_35 : decode cX5_divide 35 = .ok (.lstore_n 3, 1) := by decide +kernel
theorem dX5_divide_36 : decode cX5_divide 36 = .ok (.aload_n 0, 1) := by decide +kernel
theorem dX5_divide_37 : decode cX5_divide 37 = .ok (.getfield 7, 3) := by decide +kernel
theorem dX5_divide_40 : decode cX5_divide 40 = .ok (.bipush 72, 2) := by decide +kernel
theorem dX5_divide_42 : decode cX5_divide 42 = .ok (.iload_n 2, 1) := by decide +kernel
theorem dX5_divide_43 : decode cX5_divide 43 = .ok (.imul, 1) := by decide +kernel
theorem dX5_divide_44 : decode cX5_divide 44 = .ok (.iaload, 1) := by decide +kernel
theorem dX5_divide_45 : decode cX5_divide 45 = .ok (.i2l, 1) := by decide +kernel
theorem dX5_divide_46 : decode cX5_divide 46 = .ok (.lstore 5, 2) := by decide +kernel
theorem dX5_divide_48 : decode cX5_divide 48 = .ok (.aload_n 0, 1) := by decide +kernel
theorem dX5_divide_49 : decode cX5_divide 49 = .ok (.getfield 13, 3) := by decide +kernel
theorem dX5_divide_52 : decode cX5_divide 52 = .ok (.iload_n 1, 1) := by decide +kernel
theorem dX5_divide_53 : decode cX5_divide 53 = .ok (.iaload, 1) := by decide +kernel
theorem dX5_divide_54 : decode cX5_divide 54 = .ok (.iconst 1, 1) := by decide +kernel
theorem dX5_divide_55 : decode cX5_divide 55 = .ok (.isub, 1) := by decide +kernel
theorem dX5_divide_56 : decode cX5_divide 56 = .ok (.istore 7, 2) := by decide +kernel
theorem dX5_divide_58 : decode cX5_divide 58 = .ok (.iload 7, 2) := by decide +kernel
theorem dX5_divide_60 : decode cX5_divide 60 = .ok (.ifCond .lt 52, 3) := by decide +kernel
theorem dX5_divide_63 : decode cX5_divide 63 = .ok (.lload_n 3, 1) := by decide +kernel
theorem dX5_divide_64 : decode cX5_divide 64 = .ok (.bipush 31, 2) := by decide +kernel
theorem dX5_divide_66 : decode cX5_divide 66 = .ok (.lshl, 1) := by decide +kernel
theorem dX5_divide_67 : decode cX5_divide 67 = .ok (.aload_n 0, 1) := by decide +kernel
theorem dX5_divide_68 : decode cX5_divide 68 = .ok (.getfield 7, 3) := by decide +kernel
theorem dX5_divide_71 : decode cX5_divide 71 = .ok (.bipush 72, 2) := by decide +kernel
theorem dX5_divide_73 : decode cX5_divide 73 = .ok (.iload_n 1, 1) := by decide +kernel
theorem dX5_divide_74 : decode cX5_divide 74 = .ok (.imul, 1) := by decide +kernel
theorem dX5_divide_75 : decode cX5_divide 75 = .ok (.iload 7, 2) := by decide +kernel
theorem dX5_divide_77 : decode cX5_divide 77 = .ok (.iadd, 1) := by decide +kernel
theorem dX5_divide_78 : decode cX5_divide 78 = .ok (.iaload, 1) := by decide +kernel
theorem dX5_divide_79 : decode cX5_divide 79 = .ok (.i2l, 1) := by decide +kernel
theorem dX5_divide_80 : decode cX5_divide 80 = .ok (.lor, 1) := by decide +kernel
theorem dX5_divide_81 : decode cX5_divide 81 = .ok (.lstore 8, 2) := by decide +kernel
theorem dX5_divide_83 : decode cX5_divide 83 = .ok (.aload_n 0, 1) := by decide +kernel
theorem dX5_divide_84 : decode cX5_divide 84 = .ok (.getfield 7, 3) := by decide +kernel
theorem dX5_divide_87 : decode cX5_divide 87 = .ok (.sipush 32040, 3) := by decide +kernel
theorem dX5_divide_90 : decode cX5_divide 90 = .ok (.iload 7, 2) := by decide +kernel
theorem dX5_divide_92 : decode cX5_divide 92 = .ok (.iadd, 1) := by decide +kernel
theorem dX5_divide_93 : decode cX5_divide 93 = .ok (.lload 8, 2) := by decide +kernel
theorem dX5_divide_95 : decode cX5_divide 95 = .ok (.lload 5, 2) := by decide +kernel
theorem dX5_divide_97 : decode cX5_divide 97 = .ok (.ldiv, 1) := by decide +kernel
theorem dX5_divide_98 : decode cX5_divide 98 = .ok (.l2i, 1) := by decide +kernel
theorem dX5_divide_99 : decode cX5_divide 99 = .ok (.iastore, 1) := by decide +kernel
theorem dX5_divide_100 : decode cX5_divide 100 = .ok (.lload 8, 2) := by decide +kernel
theorem dX5_divide_102 : decode cX5_divide 102 = .ok (.lload 5, 2) := by decide +kernel
theorem dX5_divide_104 : decode cX5_divide 104 = .ok (.lrem, 1) := by decide +kernel
theorem dX5_divide_105 : decode cX5_divide 105 = .ok (.lstore_n 3, 1) := by decide +kernel
theorem dX5_divide_106 : decode cX5_divide 106 = .ok (.iinc 7 (-1), 3) := by decide +kernel
theorem dX5_divide_109 : decode cX5_divide 109 = .ok (.goto (-51), 3) := by decide +kernel
theorem dX5_divide_112 : decode cX5_divide 112 = .ok (.aload_n 0, 1) := by decide +kernel
theorem dX5_divide_113 : decode cX5_divide 113 = .ok (.sipush 445, 3) := by decide +kernel
theorem dX5_divide_116 : decode cX5_divide 116 = .ok (.invokevirtual 43, 3) := by decide +kernel
theorem dX5_divide_119 : decode cX5_divide 119 = .ok (.aload_n 0, 1) := by decide +kernel
theorem dX5_divide_120 : decode cX5_divide 120 = .ok (.getfield 7, 3) := by decide +kernel
theorem dX5_divide_123 : decode cX5_divide 123 = .ok (.sipush 32112, 3) := by decide +kernel
theorem dX5_divide_126 : decode cX5_divide 126 = .ok (.lload_n 3, 1) := by decide +kernel
theorem dX5_divide_127 : decode cX5_divide 127 = .ok (.l2i, 1) := by decide +kernel
theorem dX5_divide_128 : decode cX5_divide 128 = .ok (.iastore, 1) := by decide +kernel
theorem dX5_divide_129 : decode cX5_divide 129 = .ok (.aload_n 0, 1) := by decide +kernel
theorem dX5_divide_130 : decode cX5_divide 130 = .ok (.getfield 13, 3) := by decide +kernel
theorem dX5_divide_133 : decode cX5_divide 133 = .ok (.sipush 446, 3) := by decide +kernel
theorem dX5_divide_136 : decode cX5_divide 136 = .ok (.iconst 1, 1) := by decide +kernel
theorem dX5_divide_137 : decode cX5_divide 137 = .ok (.iastore, 1) := by decide +kernel
theorem dX5_divide_138 : decode cX5_divide 138 = .ok (.aload_n 0, 1) := by decide +kernel
theorem dX5_divide_139 : decode cX5_divide 139 = .ok (.sipush 446, 3) := by decide +kernel
theorem dX5_divide_142 : decode cX5_divide 142 = .ok (.invokevirtual 43, 3) := by decide +kernel
theorem dX5_divide_145 : decode cX5_divide 145 = .ok (.return_, 1) := by decide +kernel
theorem dX5_divide_146 : decode cX5_divide 146 = .ok (.aload_n 0, 1) := by decide +kernel
theorem dX5_divide_147 : decode cX5_divide 147 = .ok (.iload_n 1, 1) := by decide +kernel
theorem dX5_divide_148 : decode cX5_divide 148 = .ok (.invokevirtual 65, 3) := by decide +kernel
theorem dX5_divide_151 : decode cX5_divide 151 = .ok (.iconst 1, 1) := by decide +kernel
theorem dX5_divide_152 : decode cX5_divide 152 = .ok (.isub, 1) := by decide +kernel
theorem dX5_divide_153 : decode cX5_divide 153 = .ok (.istore_n 3, 1) := by decide +kernel
theorem dX5_divide_154 : decode cX5_divide 154 = .ok (.iload_n 3, 1) := by decide +kernel
theorem dX5_divide_155 : decode cX5_divide 155 = .ok (.ifCond .lt 121, 3) := by decide +kernel
theorem dX5_divide_158 : decode cX5_divide 158 = .ok (.aload_n 0, 1) := by decide +kernel
theorem dX5_divide_159 : decode cX5_divide 159 = .ok (.sipush 446, 3) := by decide +kernel
theorem dX5_divide_162 : decode cX5_divide 162 = .ok (.sipush 446, 3) := by decide +kernel
theorem dX5_divide_165 : decode cX5_divide 165 = .ok (.sipush 446, 3) := by decide +kernel
theorem dX5_divide_168 : decode cX5_divide 168 = .ok (.invokevirtual 47, 3) := by decide +kernel
theorem dX5_divide_171 : decode cX5_divide 171 = .ok (.aload_n 0, 1) := by decide +kernel
theorem dX5_divide_172 : decode cX5_divide 172 = .ok (.iload_n 1, 1) := by decide +kernel
theorem dX5_divide_173 : decode cX5_divide 173 = .ok (.iload_n 3, 1) := by decide +kernel
theorem dX5_divide_174 : decode cX5_divide 174 = .ok (.invokevirtual 69, 3) := by decide +kernel
theorem dX5_divide_177 : decode cX5_divide 177 = .ok (.iconst 1, 1) := by decide +kernel
theorem dX5_divide_178 : decode cX5_divide 178 = .ok (.if_icmp .ne 16, 3) := by decide +kernel
theorem dX5_divide_181 : decode cX5_divide 181 = .ok (.aload_n 0, 1) := by decide +kernel
theorem dX5_divide_182 : decode cX5_divide 182 = .ok (.sipush 446, 3) := by decide +kernel
theorem dX5_divide_185 : decode cX5_divide 185 = .ok (.sipush 446, 3) := by decide +kernel
theorem dX5_divide_188 : decode cX5_divide 188 = .ok (.sipush 447, 3) := by decide +kernel
theorem dX5_divide_191 : decode cX5_divide 191 = .ok (.invokevirtual 47, 3) := by decide +kernel
theorem dX5_divide_194 : decode cX5_divide 194 = .ok (.sipush 32040, 3) := by decide +kernel
theorem dX5_divide_197 : decode cX5_divide 197 = .ok (.iload_n 3, 1) := by decide +kernel
theorem dX5_divide_198 : decode cX5_divide 198 = .ok (.bipush 31, 2) := by decide +kernel
theorem dX5_divide_200 : decode cX5_divide 200 = .ok (.idiv, 1) := by decide +kernel
theorem dX5_divide_201 : decode cX5_divide 201 = .ok (.iadd, 1) := by decide +kernel
theorem dX5_divide_202 : decode cX5_divide 202 = .ok (.istore 4, 2) := by decide +kernel
theorem dX5_divide_204 : decode cX5_divide 204 = .ok (.iconst 1, 1) := by decide +kernel
theorem dX5_divide_205 : decode cX5_divide 205 = .ok (.iload_n 3, 1) := by decide +kernel
theorem dX5_divide_206 : decode cX5_divide 206 = .ok (.bipush 31, 2) := by decide +kernel
theorem dX5_divide_208 : decode cX5_divide 208 = .ok (.irem, 1) := by decide +kernel
theorem dX5_divide_209 : decode cX5_divide 209 = .ok (.ishl, 1) := by decide +kernel
theorem dX5_divide_210 : decode cX5_divide 210 = .ok (.istore 5, 2) := by decide +kernel
theorem dX5_divide_212 : decode cX5_divide 212 = .ok (.aload_n 0, 1) := by decide +kernel
theorem dX5_divide_213 : decode cX5_divide 213 = .ok (.getfield 7, 3) := by decide +kernel
theorem dX5_divide_216 : decode cX5_divide 216 = .ok (.iload 4, 2) := by decide +kernel
theorem dX5_divide_218 : decode cX5_divide 218 = .ok (.aload_n 0, 1) := by decide +kernel
theorem dX5_divide_219 : decode cX5_divide 219 = .ok (.getfield 7, 3) := by decide +kernel
theorem dX5_divide_222 : decode cX5_divide 222 = .ok (.iload 4, 2) := by decide +kernel
theorem dX5_divide_224 : decode cX5_divide 224 = .ok (.iaload, 1) := by decide +kernel
theorem dX5_divide_225 : decode cX5_divide 225 = .ok (.iload 5, 2) := by decide +kernel
theorem dX5_divide_227 : decode cX5_divide 227 = .ok (.iconst (-1), 1) := by decide +kernel
theorem dX5_divide_228 : decode cX5_divide 228 = .ok (.ixor, 1) := by decide +kernel
theorem dX5_divide_229 : decode cX5_divide 229 = .ok (.iand, 1) := by decide +kernel
theorem dX5_divide_230 : decode cX5_divide 230 = .ok (.iastore, 1) := by decide +kernel
theorem dX5_divide_231 : decode cX5_divide 231 = .ok (.aload_n 0, 1) := by decide +kernel
theorem dX5_divide_232 : decode cX5_divide 232 = .ok (.sipush 446, 3) := by decide +kernel
theorem dX5_divide_235 : decode cX5_divide 235 = .ok (.iload_n 2, 1) := by decide +kernel
theorem dX5_divide_236 : decode cX5_divide 236 = .ok (.invokevirtual 51, 3) := by decide +kernel
theorem dX5_divide_239 : decode cX5_divide 239 = .ok (.ifCond .lt 31, 3) := by decide +kernel
theorem dX5_divide_242 : decode cX5_divide 242 = .ok (.aload_n 0, 1) := by decide +kernel
theorem dX5_divide_243 : decode cX5_divide 243 = .ok (.sipush 446, 3) := by decide +kernel
theorem dX5_divide_246 : decode cX5_divide 246 = .ok (.sipush 446, 3) := by decide +kernel
theorem dX5_divide_249 : decode cX5_divide 249 = .ok (.iload_n 2, 1) := by decide +kernel
theorem dX5_divide_250 : decode cX5_divide 250 = .ok (.invokevirtual 54, 3) := by decide +kernel
theorem dX5_divide_253 : decode cX5_divide 253 = .ok (.aload_n 0, 1) := by decide +kernel
theorem dX5_divide_254 : decode cX5_divide 254 = .ok (.getfield 7, 3) := by decide +kernel
theorem dX5_divide_257 : decode cX5_divide 257 = .ok (.iload 4, 2) := by decide +kernel
theorem dX5_divide_259 : decode cX5_divide 259 = .ok (.aload_n 0, 1) := by decide +kernel
theorem dX5_divide_260 : decode cX5_divide 260 = .ok (.getfield 7, 3) := by decide +kernel
theorem dX5_divide_263 : decode cX5_divide 263 = .ok (.iload 4, 2) := by decide +kernel
theorem dX5_divide_265 : decode cX5_divide 265 = .ok (.iaload, 1) := by decide +kernel
theorem dX5_divide_266 : decode cX5_divide 266 = .ok (.iload 5, 2) := by decide +kernel
theorem dX5_divide_268 : decode cX5_divide 268 = .ok (.ior, 1) := by decide +kernel
theorem dX5_divide_269 : decode cX5_divide 269 = .ok (.iastore, 1) := by decide +kernel
theorem dX5_divide_270 : decode cX5_divide 270 = .ok (.iinc 3 (-1), 3) := by decide +kernel
theorem dX5_divide_273 : decode cX5_divide 273 = .ok (.goto (-119), 3) := by decide +kernel
theorem dX5_divide_276 : decode cX5_divide 276 = .ok (.aload_n 0, 1) := by decide +kernel
theorem dX5_divide_277 : decode cX5_divide 277 = .ok (.sipush 445, 3) := by decide +kernel
theorem dX5_divide_280 : decode cX5_divide 280 = .ok (.invokevirtual 43, 3) := by decide +kernel
theorem dX5_divide_283 : decode cX5_divide 283 = .ok (.return_, 1) := by decide +kernel
set_option maxRecDepth 20000 in
theorem ggX5_isEven_X5_limbOf : GoodIn wsX5_isEven wsX5_limbOf := goodIn_r _ [6, 7, 8, 9, 10, 11, 12, 13, 14, 15, 16, 17, 18, 19, 20, 21, 22, 23] (by decide +kernel) (by decide +kernel)
set_option maxRecDepth 20000 in
theorem gX5_isEven_X5_limbOf : GoodIn wsX5_isEven (wsV RX5 37 RX5 yX5_limbOf wsX5_limbOf) := goodIn_app (goodIn_of _ (by decide +kernel)) ggX5_isEven_X5_limbOf
theorem dX5_isEven_0 : decode cX5_isEven 0 = .ok (.aload_n 0, 1) := by decide +kernel
theorem dX5_isEven_1 : decode cX5_isEven 1 = .ok (.iload_n 1, 1) := by decide +kernel
theorem dX5_isEven_2 : decode cX5_isEven 2 = .ok (.iconst 0, 1) := by decide +kernel
theorem dX5_isEven_3 : decode cX5_isEven 3 = .ok (.invokevirtual 37, 3) := by decide +kernel
theorem dX5_isEven_6 : decode cX5_isEven 6 = .ok (.ldc2_w 72, 3) := by decide +kernel
theorem dX5_isEven_9 : decode cX5_isEven 9 = .ok (.lrem, 1) := by decide +kernel
theorem dX5_isEven_10 : decode cX5_isEven 10 = .ok (.lconst 0, 1) := by decide +kernel
theorem dX5_isEven_11 : decode cX5_isEven 11 = .ok (.lcmp, 1) := by decide +kernel
theorem dX5_isEven_12 : decode cX5_isEven 12 = .ok (.ifCond .ne 7, 3) := by decide +kernel
theorem dX5_isEven_15 : decode cX5_isEven 15 = .ok (.iconst 1, 1) := by decide +kernel
theorem dX5_isEven_16 : decode cX5_isEven 16 = .ok (.goto 4, 3) := by decide +kernel
theorem dX5_isEven_19 : decode cX5_isEven 19 = .ok (.iconst 0, 1) := by decide +kernel
theorem dX5_isEven_20 : decode cX5_isEven 20 = .ok (.ireturn, 1) := by decide +kernel
set_option maxRecDepth 20000 in
theorem ggX5_common_X5_copy : GoodIn wsX5_common wsX5_copy := goodIn_r _ [7, 2, 1, 8, 39, 40, 41, 42, 43, 44, 45, 46, 47, 48, 49, 50, 51, 52, 53] (by decide +kernel) (by decide +kernel)
set_option maxRecDepth 20000 in
theorem gX5_common_X5_copy : GoodIn wsX5_common (wsV RX5 58 RX5 yX5_copy wsX5_copy) := goodIn_app (goodIn_of _ (by decide +kernel)) ggX5_common_X5_copy
set_option maxRecDepth 20000 in
theorem ggX5_common_X5_isEven : GoodIn wsX5_common wsX5_isEven := goodIn_r _ [12, 13, 14, 15, 16, 6, 17, 2, 8, 39, 40, 41, 42, 43, 44, 45, 46, 47, 48, 49, 50, 51, 52, 53] (by decide +kernel) (by decide +kernel)
set_option maxRecDepth 20000 in
theorem gX5_common_X5_isEven : GoodIn wsX5_common (wsV RX5 74 RX5 yX5_isEven wsX5_isEven) := goodIn_app (goodIn_of _ (by decide +kernel)) ggX5_common_X5_isEven
set_option maxRecDepth 20000 in
theorem ggX5_common_X5_halve : GoodIn wsX5_common wsX5_halve := goodIn_r _ [21, 2, 8, 22, 23, 24, 6, 25, 1, 39, 40, 41, 42, 43, 44, 45, 46, 47, 48, 49, 50, 51, 52, 53] (by decide +kernel) (by decide +kernel)
set_option maxRecDepth 20000 in
theorem gX5_common_X5_halve : GoodIn wsX5_common (wsV RX5 78 RX5 yX5_halve wsX5_halve) := goodIn_app (goodIn_of _ (by decide +kernel)) ggX5_common_X5_halve
set_option maxRecDepth 20000 in
theorem ggX5_common_X5_compareSizes : GoodIn wsX5_common wsX5_compareSizes := goodIn_r _ [29, 2, 8, 39, 40, 41, 42, 43, 44, 45, 46, 47, 48, 49, 50, 51, 52, 53] (by decide +kernel) (by decide +kernel)
set_option maxRecDepth 20000 in
theorem gX5_common_X5_compareSizes : GoodIn wsX5_common (wsV RX5 51 RX5 yX5_compareSizes wsX5_compareSizes) := goodIn_app (goodIn_of _ (by decide +kernel)) ggX5_common_X5_compareSizes
set_option maxRecDepth 20000 in
theorem ggX5_common_X5_subtractSizes : GoodIn wsX5_common wsX5_subtractSizes := goodIn_r _ [33, 2, 8, 34, 14, 15, 16, 6, 17, 22, 23, 24, 25, 1, 39, 40, 41, 42, 43, 44, 45, 46, 47, 48, 49, 50, 51, 52, 53] (by decide +kernel) (by decide +kernel)
set_option maxRecDepth 20000 in
theorem gX5_common_X5_subtractSizes : GoodIn wsX5_common (wsV RX5 54 RX5 yX5_subtractSizes wsX5_subtractSizes) := goodIn_app (goodIn_of _ (by decide +kernel)) ggX5_common_X5_subtractSizes
set_option maxRecDepth 20000 in
theorem ggX5_common_X5_addSizes : GoodIn wsX5_common wsX5_addSizes := goodIn_r _ [38, 2, 8, 34, 14, 15, 16, 6, 17, 22, 23, 24, 25, 1, 39, 40, 41, 42, 43, 44, 45, 46, 47, 48, 49, 50, 51, 52, 53] (by decide +kernel) (by decide +kernel)
set_option maxRecDepth 20000 in
theorem gX5_common_X5_addSizes : GoodIn wsX5_common (wsV RX5 47 RX5 yX5_addSizes wsX5_addSizes) := goodIn_app (goodIn_of _ (by decide +kernel)) ggX5_common_X5_addSizes
theorem dX5_common_0 : decode cX5_common 0 = .ok (.aload_n 0, 1) := by decide +kernel
theorem dX5_common_1 : decode cX5_common 1 = .ok (.sipush 444, 3) := by decide +kernel
theorem dX5_common_4 : decode cX5_common 4 = .ok (.iload_n 1, 1) := by decide +kernel
theorem dX5_common_5 : decode cX5_common 5 = .ok (.invokevirtual 58, 3) := by decide +kernel
theorem dX5_common_8 : decode cX5_common 8 = .ok (.aload_n 0, 1) := by decide +kernel
theorem dX5_common_9 : decode cX5_common 9 = .ok (.getfield 16, 3) := by decide +kernel
theorem dX5_common_12 : decode cX5_common 12 = .ok (.sipush 444, 3) := by decide +kernel
theorem dX5_common_15 : decode cX5_common 15 = .ok (.iconst 0, 1) := by decide +kernel
theorem dX5_common_16 : decode cX5_common 16 = .ok (.bastore, 1) := by decide +kernel
theorem dX5_common_17 : decode cX5_common 17 = .ok (.aload_n 0, 1) := by decide +kernel
theorem dX5_common_18 : decode cX5_common 18 = .ok (.getfield 13, 3) := by decide +kernel
theorem dX5_common_21 : decode cX5_common 21 = .ok (.sipush 443, 3) := by decide +kernel
theorem dX5_common_24 : decode cX5_common 24 = .ok (.iaload, 1) := by decide +kernel
theorem dX5_common_25 : decode cX5_common 25 = .ok (.ifCond .ne 14, 3) := by decide +kernel
theorem dX5_common_28 : decode cX5_common 28 = .ok (.aload_n 0, 1) := by decide +kernel
theorem dX5_common_29 : decode cX5_common 29 = .ok (.sipush 443, 3) := by decide +kernel
theorem dX5_common_32 : decode cX5_common 32 = .ok (.sipush 444, 3) := by decide +kernel
theorem dX5_common_35 : decode cX5_common 35 = .ok (.invokevirtual 58, 3) := by decide +kernel
theorem dX5_common_38 : decode cX5_common 38 = .ok (.return_, 1) := by decide +kernel
theorem dX5_common_39 : decode cX5_common 39 = .ok (.iconst 0, 1) := by decide +kernel
theorem dX5_common_40 : decode cX5_common 40 = .ok (.istore_n 2, 1) := by decide +kernel
theorem dX5_common_41 : decode cX5_common 41 = .ok (.aload_n 0, 1) := by decide +kernel
theorem dX5_common_42 : decode cX5_common 42 = .ok (.getfield 13, 3) := by decide +kernel
theorem dX5_common_45 : decode cX5_common 45 = .ok (.sipush 444, 3) := by decide +kernel
theorem dX5_common_48 : decode cX5_common 48 = .ok (.iaload, 1) := by decide +kernel
theorem dX5_common_49 : decode cX5_common 49 = .ok (.ifCond .le 43, 3) := by decide +kernel
theorem dX5_common_52 : decode cX5_common 52 = .ok (.aload_n 0, 1) := by decide +kernel
theorem dX5_common_53 : decode cX5_common 53 = .ok (.sipush 443, 3) := by decide +kernel
theorem dX5_common_56 : decode cX5_common 56 = .ok (.invokevirtual 74, 3) := by decide +kernel
