set_option maxRecDepth 20000 in
theorem ggX4_init_X4_nearest : GoodIn wsX4_init wsX4_nearest := goodIn_r _ [30, 31, 32, 33, 34, 35, 36, 37] (by decide +kernel) (by decide +kernel)
set_option maxRecDepth 20000 in
theorem gX4_init_X4_nearest : GoodIn wsX4_init (va_wsS RX4 9 yX4_nearest wsX4_nearest) := goodIn_app (goodIn_of _ (by decide +kernel)) ggX4_init_X4_nearest
set_option maxRecDepth 20000 in
theorem ggX4_init_X0_init : GoodIn wsX4_init wsX0_init := goodIn_r _ [40, 41, 2, 3, 42, 43, 44, 45, 46, 88, 89, 90, 91, 92, 93] (by decide +kernel) (by decide +kernel)
set_option maxRecDepth 20000 in
theorem gX4_init_X0_init : GoodIn wsX4_init (wsX0_init) := ggX4_init_X0_init
set_option maxRecDepth 20000 in
theorem ggX4_init_X2_init : GoodIn wsX4_init wsX2_init := goodIn_r _ [48, 49, 2, 3, 50, 22, 23, 51, 52, 53, 54, 55, 56, 44, 57, 103, 104, 105, 94, 95, 96, 97] (by decide +kernel) (by decide +kernel)
set_option maxRecDepth 20000 in
theorem gX4_init_X2_init_n28 : GoodIn wsX4_init (wsX2_init) := ggX4_init_X2_init
set_option maxRecDepth 20000 in
theorem ggX4_init_X4_zeros : GoodIn wsX4_init wsX4_zeros := goodIn_r _ [60, 21, 22, 23, 61, 54, 55, 56, 2, 3, 44, 57, 103, 104, 105] (by decide +kernel) (by decide +kernel)
set_option maxRecDepth 20000 in
theorem gX4_init_X4_zeros : GoodIn wsX4_init (va_wsS RX4 33 yX4_zeros wsX4_zeros) := goodIn_app (goodIn_of _ (by decide +kernel)) ggX4_init_X4_zeros
set_option maxRecDepth 20000 in
theorem ggX4_init_X1_init : GoodIn wsX4_init wsX1_init := goodIn_r _ [63, 64, 2, 3, 65, 22, 23, 66, 67, 68, 44, 69, 70, 71, 54, 55, 56, 57, 103, 104, 105, 98, 99, 100, 101, 102] (by decide +kernel) (by decide +kernel)
set_option maxRecDepth 20000 in
theorem gX4_init_X1_init_n46 : GoodIn wsX4_init (wsX1_init) := ggX4_init_X1_init
set_option maxRecDepth 20000 in
theorem ggX4_init_X3_init : GoodIn wsX4_init wsX3_init := goodIn_r _ [55, 56, 2, 3, 44, 57, 103, 104, 105] (by decide +kernel) (by decide +kernel)
set_option maxRecDepth 20000 in
theorem gX4_init_X3_init : GoodIn wsX4_init (wsX3_init) := ggX4_init_X3_init
theorem dX4_init_0 : decode cX4_init 0 = .ok (.aload_n 0, 1) := by decide +kernel
theorem dX4_init_1 : decode cX4_init 1 = .ok (.invokespecial 3, 3) := by decide +kernel
theorem dX4_init_4 : decode cX4_init 4 = .ok (.aload_n 0, 1) := by decide +kernel
theorem dX4_init_5 : decode cX4_init 5 = .ok (.iload_n 1, 1) := by decide +kernel
theorem dX4_init_6 : decode cX4_init 6 = .ok (.bipush 6, 2) := by decide +kernel
theorem dX4_init_8 : decode cX4_init 8 = .ok (.invokestatic 9, 3) := by decide +kernel
theorem dX4_init_11 : decode cX4_init 11 = .ok (.putfield 13, 3) := by decide +kernel
theorem dX4_init_14 : decode cX4_init 14 = .ok (.aload_n 0, 1) := by decide +kernel
theorem dX4_init_15 : decode cX4_init 15 = .ok (.getfield 13, 3) := by decide +kernel
theorem dX4_init_18 : decode cX4_init 18 = .ok (.iconst 1, 1) := by decide +kernel
theorem dX4_init_19 : decode cX4_init 19 = .ok (.iadd, 1) := by decide +kernel
theorem dX4_init_20 : decode cX4_init 20 = .ok (.istore 4, 2) := by decide +kernel
theorem dX4_init_22 : decode cX4_init 22 = .ok (.aload_n 0, 1) := by decide +kernel
theorem dX4_init_23 : decode cX4_init 23 = .ok (.new 17, 3) := by decide +kernel
theorem dX4_init_26 : decode cX4_init 26 = .ok (.dup, 1) := by decide +kernel
theorem dX4_init_27 : decode cX4_init 27 = .ok (.iload 4, 2) := by decide +kernel
theorem dX4_init_29 : decode cX4_init 29 = .ok (.iload_n 2, 1) := by decide +kernel
theorem dX4_init_30 : decode cX4_init 30 = .ok (.bipush 60, 2) := by decide +kernel
theorem dX4_init_32 : decode cX4_init 32 = .ok (.invokestatic 9, 3) := by decide +kernel
theorem dX4_init_35 : decode cX4_init 35 = .ok (.iload_n 3, 1) := by decide +kernel
theorem dX4_init_36 : decode cX4_init 36 = .ok (.sipush 4000, 3) := by decide +kernel
theorem dX4_init_39 : decode cX4_init 39 = .ok (.invokestatic 9, 3) := by decide +kernel
theorem dX4_init_42 : decode cX4_init 42 = .ok (.invokespecial 19, 3) := by decide +kernel
theorem dX4_init_45 : decode cX4_init 45 = .ok (.putfield 22, 3) := by decide +kernel
theorem dX4_init_48 : decode cX4_init 48 = .ok (.aload_n 0, 1) := by decide +kernel
theorem dX4_init_49 : decode cX4_init 49 = .ok (.new 26, 3) := by decide +kernel
theorem dX4_init_52 : decode cX4_init 52 = .ok (.dup, 1) := by decide +kernel
theorem dX4_init_53 : decode cX4_init 53 = .ok (.invokespecial 28, 3) := by decide +kernel
theorem dX4_init_56 : decode cX4_init 56 = .ok (.putfield 29, 3) := by decide +kernel
theorem dX4_init_59 : decode cX4_init 59 = .ok (.aload_n 0, 1) := by decide +kernel
theorem dX4_init_60 : decode cX4_init 60 = .ok (.iload 4, 2) := by decide +kernel
theorem dX4_init_62 : decode cX4_init 62 = .ok (.bipush 20, 2) := by decide +kernel
theorem dX4_init_64 : decode cX4_init 64 = .ok (.invokestatic 33, 3) := by decide +kernel
theorem dX4_init_67 : decode cX4_init 67 = .ok (.putfield 37, 3) := by decide +kernel
theorem dX4_init_70 : decode cX4_init 70 = .ok (.aload_n 0, 1) := by decide +kernel
theorem dX4_init_71 : decode cX4_init 71 = .ok (.aload_n 0, 1) := by decide +kernel
theorem dX4_init_72 : decode cX4_init 72 = .ok (.getfield 13, 3) := by decide +kernel
theorem dX4_init_75 : decode cX4_init 75 = .ok (.bipush 20, 2) := by decide +kernel
theorem dX4_init_77 : decode cX4_init 77 = .ok (.invokestatic 33, 3) := by decide +kernel
theorem dX4_init_80 : decode cX4_init 80 = .ok (.putfield 41, 3) := by decide +kernel
theorem dX4_init_83 : decode cX4_init 83 = .ok (.aload_n 0, 1) := by decide +kernel
theorem dX4_init_84 : decode cX4_init 84 = .ok (.new 44, 3) := by decide +kernel
theorem dX4_init_87 : decode cX4_init 87 = .ok (.dup, 1) := by decide +kernel
theorem dX4_init_88 : decode cX4_init 88 = .ok (.invokespecial 46, 3) := by decide +kernel
theorem dX4_init_91 : decode cX4_init 91 = .ok (.putfield 47, 3) := by decide +kernel
theorem dX4_init_94 : decode cX4_init 94 = .ok (.aload_n 0, 1) := by decide +kernel
theorem dX4_init_95 : decode cX4_init 95 = .ok (.iload 4, 2) := by decide +kernel
theorem dX4_init_97 : decode cX4_init 97 = .ok (.bipush 69, 2) := by decide +kernel
theorem dX4_init_99 : decode cX4_init 99 = .ok (.invokestatic 33, 3) := by decide +kernel
theorem dX4_init_102 : decode cX4_init 102 = .ok (.putfield 51, 3) := by decide +kernel
theorem dX4_init_105 : decode cX4_init 105 = .ok (.aload_n 0, 1) := by decide +kernel
theorem dX4_init_106 : decode cX4_init 106 = .ok (.iload 4, 2) := by decide +kernel
theorem dX4_init_108 : decode cX4_init 108 = .ok (.bipush 69, 2) := by decide +kernel
theorem dX4_init_110 : decode cX4_init 110 = .ok (.invokestatic 33, 3) := by decide +kernel
theorem dX4_init_113 : decode cX4_init 113 = .ok (.putfield 54, 3) := by decide +kernel
theorem dX4_init_116 : decode cX4_init 116 = .ok (.aload_n 0, 1) := by decide +kernel
theorem dX4_init_117 : decode cX4_init 117 = .ok (.new 57, 3) := by decide +kernel
theorem dX4_init_120 : decode cX4_init 120 = .ok (.dup, 1) := by decide +kernel
theorem dX4_init_121 : decode cX4_init 121 = .ok (.bipush 48, 2) := by decide +kernel
theorem dX4_init_123 : decode cX4_init 123 = .ok (.invokespecial 59, 3) := by decide +kernel
theorem dX4_init_126 : decode cX4_init 126 = .ok (.putfield 62, 3) := by decide +kernel
theorem dX4_init_129 : decode cX4_init 129 = .ok (.aload_n 0, 1) := by decide +kernel
theorem dX4_init_130 : decode cX4_init 130 = .ok (.new 57, 3) := by decide +kernel
theorem dX4_init_133 : decode cX4_init 133 = .ok (.dup, 1) := by decide +kernel
theorem dX4_init_134 : decode cX4_init 134 = .ok (.bipush 69, 2) := by decide +kernel
theorem dX4_init_136 : decode cX4_init 136 = .ok (.invokespecial 59, 3) := by decide +kernel
theorem dX4_init_139 : decode cX4_init 139 = .ok (.putfield 66, 3) := by decide +kernel
theorem dX4_init_142 : decode cX4_init 142 = .ok (.aload_n 0, 1) := by decide +kernel
theorem dX4_init_143 : decode cX4_init 143 = .ok (.new 57, 3) := by decide +kernel
theorem dX4_init_146 : decode cX4_init 146 = .ok (.dup, 1) := by decide +kernel
theorem dX4_init_147 : decode cX4_init 147 = .ok (.bipush 69, 2) := by decide +kernel
theorem dX4_init_149 : decode cX4_init 149 = .ok (.invokespecial 59, 3) := by decide +kernel
theorem dX4_init_152 : decode cX4_init 152 = .ok (.putfield 69, 3) := by decide +kernel
theorem dX4_init_155 : decode cX4_init 155 = .ok (.return_, 1) := by decide +kernel
set_option maxRecDepth 20000 in
theorem ggX4_beginNumber_X2_open : GoodIn wsX4_beginNumber wsX2_open := goodIn_r _ [6, 7, 8, 9, 10, 11, 12, 13, 14, 15, 16, 17, 34, 35, 36, 37, 38, 39, 40] (by decide +kernel) (by decide +kernel)
set_option maxRecDepth 20000 in
theorem gX4_beginNumber_X2_open : GoodIn wsX4_beginNumber (wsV RX4 72 RX2 yX2_open wsX2_open) := goodIn_app (goodIn_of _ (by decide +kernel)) ggX4_beginNumber_X2_open
theorem dX4_beginNumber_0 : decode cX4_beginNumber 0 = .ok (.iload_n 1, 1) := by decide +kernel
theorem dX4_beginNumber_1 : decode cX4_beginNumber 1 = .ok (.iconst (-1), 1) := by decide +kernel
theorem dX4_beginNumber_2 : decode cX4_beginNumber 2 = .ok (.if_icmp .lt 8, 3) := by decide +kernel
theorem dX4_beginNumber_5 : decode cX4_beginNumber 5 = .ok (.iload_n 1, 1) := by decide +kernel
theorem dX4_beginNumber_6 : decode cX4_beginNumber 6 = .ok (.iconst 1, 1) := by decide +kernel
theorem dX4_beginNumber_7 : decode cX4_beginNumber 7 = .ok (.if_icmp .le 5, 3) := by decide +kernel
theorem dX4_beginNumber_10 : decode cX4_beginNumber 10 = .ok (.iconst 0, 1) := by decide +kernel
theorem dX4_beginNumber_11 : decode cX4_beginNumber 11 = .ok (.ireturn, 1) := by decide +kernel
theorem dX4_beginNumber_12 : decode cX4_beginNumber 12 = .ok (.aload_n 0, 1) := by decide +kernel
theorem dX4_beginNumber_13 : decode cX4_beginNumber 13 = .ok (.getfield 29, 3) := by decide +kernel
theorem dX4_beginNumber_16 : decode cX4_beginNumber 16 = .ok (.iload_n 1, 1) := by decide +kernel
theorem dX4_beginNumber_17 : decode cX4_beginNumber 17 = .ok (.invokevirtual 72, 3) := by decide +kernel
theorem dX4_beginNumber_20 : decode cX4_beginNumber 20 = .ok (.iconst 1, 1) := by decide +kernel
theorem dX4_beginNumber_21 : decode cX4_beginNumber 21 = .ok (.ireturn, 1) := by decide +kernel
set_option maxRecDepth 20000 in
theorem ggX4_limb_X2_takesMore : GoodIn wsX4_limb wsX2_takesMore := goodIn_r _ [6, 7, 8, 34, 35, 36, 37] (by decide +kernel) (by decide +kernel)
set_option maxRecDepth 20000 in
theorem gX4_limb_X2_takesMore : GoodIn wsX4_limb (wsV RX4 75 RX2 yX2_takesMore wsX2_takesMore) := goodIn_app (goodIn_of _ (by decide +kernel)) ggX4_limb_X2_takesMore
set_option maxRecDepth 20000 in
theorem ggX4_limb_X2_append : GoodIn wsX4_limb wsX2_append := goodIn_r _ [12, 13, 14, 8, 15, 16, 17, 34, 35, 36, 37, 38, 39, 40] (by decide +kernel) (by decide +kernel)
set_option maxRecDepth 20000 in
theorem gX4_limb_X2_append : GoodIn wsX4_limb (wsV RX4 79 RX2 yX2_append wsX2_append) := goodIn_app (goodIn_of _ (by decide +kernel)) ggX4_limb_X2_append
theorem dX4_limb_0 : decode cX4_limb 0 = .ok (.iload_n 1, 1) := by decide +kernel
theorem dX4_limb_1 : decode cX4_limb 1 = .ok (.ifCond .lt 13, 3) := by decide +kernel
theorem dX4_limb_4 : decode cX4_limb 4 = .ok (.aload_n 0, 1) := by decide +kernel
theorem dX4_limb_5 : decode cX4_limb 5 = .ok (.getfield 29, 3) := by decide +kernel
theorem dX4_limb_8 : decode cX4_limb 8 = .ok (.invokevirtual 75, 3) := by decide +kernel
theorem dX4_limb_11 : decode cX4_limb 11 = .ok (.ifCond .ne 5, 3) := by decide +kernel
theorem dX4_limb_14 : decode cX4_limb 14 = .ok (.iconst 0, 1) := by decide +kernel
theorem dX4_limb_15 : decode cX4_limb 15 = .ok (.ireturn, 1) := by decide +kernel
theorem dX4_limb_16 : decode cX4_limb 16 = .ok (.aload_n 0, 1) := by decide +kernel
theorem dX4_limb_17 : decode cX4_limb 17 = .ok (.getfield 29, 3) := by decide +kernel
theorem dX4_limb_20 : decode cX4_limb 20 = .ok (.iload_n 1, 1) := by decide +kernel
theorem dX4_limb_21 : decode cX4_limb 21 = .ok (.invokevirtual 79, 3) := by decide +kernel
theorem dX4_limb_24 : decode cX4_limb 24 = .ok (.iconst 1, 1) := by decide +kernel
theorem dX4_limb_25 : decode cX4_limb 25 = .ok (.ireturn, 1) := by decide +kernel
set_option maxRecDepth 20000 in
theorem ggX4_endCoefficient_X3_copyFrom : GoodIn wsX4_endCoefficient wsX3_copyFrom := goodIn_r _ [10, 11, 12, 13, 14, 15, 16, 17, 44, 45, 46] (by decide +kernel) (by decide +kernel)
set_option maxRecDepth 20000 in
theorem gX4_endCoefficient_X3_copyFrom : GoodIn wsX4_endCoefficient (wsV RX4 91 RX3 yX3_copyFrom wsX3_copyFrom) := goodIn_app (goodIn_of _ (by decide +kernel)) ggX4_endCoefficient_X3_copyFrom
set_option maxRecDepth 20000 in
theorem ggX4_endCoefficient_X2_finish : GoodIn wsX4_endCoefficient wsX2_finish := goodIn_r _ [22, 23, 40, 41, 42, 43] (by decide +kernel) (by decide +kernel)
set_option maxRecDepth 20000 in
theorem gX4_endCoefficient_X2_finish : GoodIn wsX4_endCoefficient (wsV RX4 95 RX2 yX2_finish wsX2_finish) := goodIn_app (goodIn_of _ (by decide +kernel)) ggX4_endCoefficient_X2_finish
theorem dX4_endCoefficient_0 : decode cX4_endCoefficient 0 = .ok (.aload_n 0, 1) := by decide +kernel
theorem dX4_endCoefficient_1 : decode cX4_endCoefficient 1 = .ok (.getfield 29, 3) := by decide +kernel
theorem dX4_endCoefficient_4 : decode cX4_endCoefficient 4 = .ok (.getfield 82, 3) := by decide +kernel
theorem dX4_endCoefficient_7 : decode cX4_endCoefficient 7 = .ok (.iconst 1, 1) := by decide +kernel
theorem dX4_endCoefficient_8 : decode cX4_endCoefficient 8 = .ok (.if_icmp .ne 15, 3) := by decide +kernel
theorem dX4_endCoefficient_11 : decode cX4_endCoefficient 11 = .ok (.aload_n 0, 1) := by decide +kernel
theorem dX4_endCoefficient_12 : decode cX4_endCoefficient 12 = .ok (.getfield 85, 3) := by decide +kernel
theorem dX4_endCoefficient_15 : decode cX4_endCoefficient 15 = .ok (.aload_n 0, 1) := by decide +kernel
theorem dX4_endCoefficient_16 : decode cX4_endCoefficient 16 = .ok (.getfield 37, 3) := by decide +kernel
theorem dX4_endCoefficient_19 : decode cX4_endCoefficient 19 = .ok (.arraylength, 1) := by decide +kernel
theorem dX4_endCoefficient_20 : decode cX4_endCoefficient 20 = .ok (.if_icmp .lt 5, 3) := by decide +kernel
theorem dX4_endCoefficient_23 : decode cX4_endCoefficient 23 = .ok (.iconst 0, 1) := by decide +kernel
theorem dX4_endCoefficient_24 : decode cX4_endCoefficient 24 = .ok (.ireturn, 1) := by decide +kernel
theorem dX4_endCoefficient_25 : decode cX4_endCoefficient 25 = .ok (.aload_n 0, 1) := by decide +kernel
theorem dX4_endCoefficient_26 : decode cX4_endCoefficient 26 = .ok (.getfield 37, 3) := by decide +kernel
theorem dX4_endCoefficient_29 : decode cX4_endCoefficient 29 = .ok (.aload_n 0, 1) := by decide +kernel
theorem dX4_endCoefficient_30 : decode cX4_endCoefficient 30 = .ok (.getfield 85, 3) := by decide +kernel
theorem dX4_endCoefficient_33 : decode cX4_endCoefficient 33 = .ok (.aaload, 1) := by decide +kernel
theorem dX4_endCoefficient_34 : decode cX4_endCoefficient 34 = .ok (.aload_n 0, 1) := by decide +kernel
theorem dX4_endCoefficient_35 : decode cX4_endCoefficient 35 = .ok (.getfield 29, 3) := by decide +kernel
theorem dX4_endCoefficient_38 : decode cX4_endCoefficient 38 = .ok (.getfield 88, 3) := by decide +kernel
theorem dX4_endCoefficient_41 : decode cX4_endCoefficient 41 = .ok (.invokevirtual 91, 3) := by decide +kernel
theorem dX4_endCoefficient_44 : decode cX4_endCoefficient 44 = .ok (.aload_n 0, 1) := by decide +kernel
theorem dX4_endCoefficient_45 : decode cX4_endCoefficient 45 = .ok (.dup, 1) := by decide +kernel
theorem dX4_endCoefficient_46 : decode cX4_endCoefficient 46 = .ok (.getfield 85, 3) := by decide +kernel
theorem dX4_endCoefficient_49 : decode cX4_endCoefficient 49 = .ok (.iconst 1, 1) := by decide +kernel
theorem dX4_endCoefficient_50 : decode cX4_endCoefficient 50 = .ok (.iadd, 1) := by decide +kernel
theorem dX4_endCoefficient_51 : decode cX4_endCoefficient 51 = .ok (.putfield 85, 3) := by decide +kernel
theorem dX4_endCoefficient_54 : decode cX4_endCoefficient 54 = .ok (.aload_n 0, 1) := by decide +kernel
theorem dX4_endCoefficient_55 : decode cX4_endCoefficient 55 = .ok (.getfield 29, 3) := by decide +kernel
theorem dX4_endCoefficient_58 : decode cX4_endCoefficient 58 = .ok (.invokevirtual 95, 3) := by decide +kernel
theorem dX4_endCoefficient_61 : decode cX4_endCoefficient 61 = .ok (.iconst 1, 1) := by decide +kernel
theorem dX4_endCoefficient_62 : decode cX4_endCoefficient 62 = .ok (.ireturn, 1) := by decide +kernel
set_option maxRecDepth 20000 in
theorem ggX4_endConstraint_X0_keep : GoodIn wsX4_endConstraint wsX0_keep := goodIn_r _ [10, 11, 12, 13, 14, 15, 16, 17, 9, 18, 19, 20, 21, 22, 23, 24, 25, 26, 27, 28, 29, 30, 31, 32, 33, 34, 35, 36, 37, 38, 39, 56, 57, 58, 59, 60, 61, 62, 63, 64] (by decide +kernel) (by decide +kernel)
set_option maxRecDepth 20000 in
theorem gX4_endConstraint_X0_keep : GoodIn wsX4_endConstraint (wsV RX4 102 RX0 yX0_keep wsX0_keep) := goodIn_app (goodIn_of _ (by decide +kernel)) ggX4_endConstraint_X0_keep
theorem dX4_endConstraint_0 : decode cX4_endConstraint 0 = .ok (.aload_n 0, 1) := by decide +kernel
theorem dX4_endConstraint_1 : decode cX4_endConstraint 1 = .ok (.getfield 85, 3) := by decide +kernel
theorem dX4_endConstraint_4 : decode cX4_endConstraint 4 = .ok (.aload_n 0, 1) := by decide +kernel
theorem dX4_endConstraint_5 : decode cX4_endConstraint 5 = .ok (.getfield 37, 3) := by decide +kernel
theorem dX4_endConstraint_8 : decode cX4_endConstraint 8 = .ok (.arraylength, 1) := by decide +kernel
theorem dX4_endConstraint_9 : decode cX4_endConstraint 9 = .ok (.if_icmp .ne 7, 3) := by decide +kernel
theorem dX4_endConstraint_12 : decode cX4_endConstraint 12 = .ok (.iconst 1, 1) := by decide +kernel
theorem dX4_endConstraint_13 : decode cX4_endConstraint 13 = .ok (.goto 4, 3) := by decide +kernel
theorem dX4_endConstraint_16 : decode cX4_endConstraint 16 = .ok (.iconst 0, 1) := by decide +kernel
theorem dX4_endConstraint_17 : decode cX4_endConstraint 17 = .ok (.istore_n 1, 1) := by decide +kernel
theorem dX4_endConstraint_18 : decode cX4_endConstraint 18 = .ok (.aload_n 0, 1) := by decide +kernel
theorem dX4_endConstraint_19 : decode cX4_endConstraint 19 = .ok (.iconst 0, 1) := by decide +kernel
theorem dX4_endConstraint_20 : decode cX4_endConstraint 20 = .ok (.putfield 85, 3) := by decide +kernel
theorem dX4_endConstraint_23 : decode cX4_endConstraint 23 = .ok (.aload_n 0, 1) := by decide +kernel
theorem dX4_endConstraint_24 : decode cX4_endConstraint 24 = .ok (.getfield 98, 3) := by decide +kernel
theorem dX4_endConstraint_27 : decode cX4_endConstraint 27 = .ok (.ifCond .eq 6, 3) := by decide +kernel
theorem dX4_endConstraint_30 : decode cX4_endConstraint 30 = .ok (.bipush (-3), 2) := by decide +kernel
theorem dX4_endConstraint_32 : decode cX4_endConstraint 32 = .ok (.ireturn, 1) := by decide +kernel
theorem dX4_endConstraint_33 : decode cX4_endConstraint 33 = .ok (.iload_n 1, 1) := by decide +kernel
theorem dX4_endConstraint_34 : decode cX4_endConstraint 34 = .ok (.ifCond .ne 6, 3) := by decide +kernel
theorem dX4_endConstraint_37 : decode cX4_endConstraint 37 = .ok (.bipush (-2), 2) := by decide +kernel
theorem dX4_endConstraint_39 : decode cX4_endConstraint 39 = .ok (.ireturn, 1) := by decide +kernel
theorem dX4_endConstraint_40 : decode cX4_endConstraint 40 = .ok (.aload_n 0, 1) := by decide +kernel
theorem dX4_endConstraint_41 : decode cX4_endConstraint 41 = .ok (.getfield 22, 3) := by decide +kernel
theorem dX4_endConstraint_44 : decode cX4_endConstraint 44 = .ok (.aload_n 0, 1) := by decide +kernel
theorem dX4_endConstraint_45 : decode cX4_endConstraint 45 = .ok (.getfield 37, 3) := by decide +kernel
theorem dX4_endConstraint_48 : decode cX4_endConstraint 48 = .ok (.invokevirtual 102, 3) := by decide +kernel
theorem dX4_endConstraint_51 : decode cX4_endConstraint 51 = .ok (.istore_n 2, 1) := by decide +kernel
theorem dX4_endConstraint_52 : decode cX4_endConstraint 52 = .ok (.iload_n 2, 1) := by decide +kernel
theorem dX4_endConstraint_53 : decode cX4_endConstraint 53 = .ok (.ifCond .lt 13, 3) := by decide +kernel
theorem dX4_endConstraint_56 : decode cX4_endConstraint 56 = .ok (.aload_n 0, 1) := by decide +kernel
theorem dX4_endConstraint_57 : decode cX4_endConstraint 57 = .ok (.dup, 1) := by decide +kernel
theorem dX4_endConstraint_58 : decode cX4_endConstraint 58 = .ok (.getfield 106, 3) := by decide +kernel
theorem dX4_endConstraint_61 : decode cX4_endConstraint 61 = .ok (.iconst 1, 1) := by decide +kernel
theorem dX4_endConstraint_62 : decode cX4_endConstraint 62 = .ok (.iadd, 1) := by decide +kernel
theorem dX4_endConstraint_63 : decode cX4_endConstraint 63 = .ok (.putfield 106, 3) := by decide +kernel
theorem dX4_endConstraint_66 : decode cX4_endConstraint 66 = .ok (.iload_n 2, 1) := by decide +kernel
theorem dX4_endConstraint_67 : decode cX4_endConstraint 67 = .ok (.ireturn, 1) := by decide +kernel
theorem dX4_sealInput_0 : decode cX4_sealInput 0 = .ok (.aload_n 0, 1) := by decide +kernel
theorem dX4_sealInput_1 : decode cX4_sealInput 1 = .ok (.getfield 98, 3) := by decide +kernel
theorem dX4_sealInput_4 : decode cX4_sealInput 4 = .ok (.ifCond .ne 7, 3) := by decide +kernel
theorem dX4_sealInput_7 : decode cX4_sealInput 7 = .ok (.iconst 1, 1) := by decide +kernel
theorem dX4_sealInput_8 : decode cX4_sealInput 8 = .ok (.goto 4, 3) := by decide +kernel
theorem dX4_sealInput_11 : decode cX4_sealInput 11 = .ok (.iconst 0, 1) := by decide +kernel
theorem dX4_sealInput_12 : decode cX4_sealInput 12 = .ok (.istore_n 1, 1) := by decide +kernel
theorem dX4_sealInput_13 : decode cX4_sealInput 13 = .ok (.aload_n 0, 1) := by decide +kernel
theorem dX4_sealInput_14 : decode cX4_sealInput 14 = .ok (.iconst 1, 1) := by decide +kernel
theorem dX4_sealInput_15 : decode cX4_sealInput 15 = .ok (.putfield 98, 3) := by decide +kernel
theorem dX4_sealInput_18 : decode cX4_sealInput 18 = .ok (.iload_n 1, 1) := by decide +kernel
theorem dX4_sealInput_19 : decode cX4_sealInput 19 = .ok (.ireturn, 1) := by decide +kernel
set_option maxRecDepth 20000 in
theorem ggX4_combineStart_X4_setAllZero : GoodIn wsX4_combineStart wsX4_setAllZero := goodIn_r _ [7, 8, 9, 10, 11, 12, 13, 14, 31, 32, 33] (by decide +kernel) (by decide +kernel)
set_option maxRecDepth 20000 in
theorem gX4_combineStart_X4_setAllZero : GoodIn wsX4_combineStart (va_wsS RX4 109 yX4_setAllZero wsX4_setAllZero) := goodIn_app (goodIn_of _ (by decide +kernel)) ggX4_combineStart_X4_setAllZero
theorem dX4_combineStart_0 : decode cX4_combineStart 0 = .ok (.aload_n 0, 1) := by decide +kernel
theorem dX4_combineStart_1 : decode cX4_combineStart 1 = .ok (.getfield 98, 3) := by decide +kernel
theorem dX4_combineStart_4 : decode cX4_combineStart 4 = .ok (.ifCond .ne 5, 3) := by decide +kernel
theorem dX4_combineStart_7 : decode cX4_combineStart 7 = .ok (.iconst 0, 1) := by decide +kernel
theorem dX4_combineStart_8 : decode cX4_combineStart 8 = .ok (.ireturn, 1) := by decide +kernel
theorem dX4_combineStart_9 : decode cX4_combineStart 9 = .ok (.aload_n 0, 1) := by decide +kernel
theorem dX4_combineStart_10 : decode cX4_combineStart 10 = .ok (.getfield 51, 3) := by decide +kernel
theorem dX4_combineStart_13 : decode cX4_combineStart 13 = .ok (.invokestatic 109, 3) := by decide +kernel
theorem dX4_combineStart_16 : decode cX4_combineStart 16 = .ok (.aload_n 0, 1) := by decide +kernel
theorem dX4_combineStart_17 : decode cX4_combineStart 17 = .ok (.iconst 1, 1) := by decide +kernel
theorem dX4_combineStart_18 : decode cX4_combineStart 18 = .ok (.putfield 113, 3) := by decide +kernel
theorem dX4_combineStart_21 : decode cX4_combineStart 21 = .ok (.iconst 1, 1) := by decide +kernel
theorem dX4_combineStart_22 : decode cX4_combineStart 22 = .ok (.ireturn, 1) := by decide +kernel
set_option maxRecDepth 20000 in
theorem ggX4_combineAdd_X0_has : GoodIn wsX4_combineAdd wsX0_has := goodIn_r _ [12, 13, 138, 139, 140, 141, 142, 143] (by decide +kernel) (by decide +kernel)
set_option maxRecDepth 20000 in
theorem gX4_combineAdd_X0_has : GoodIn wsX4_combineAdd (wsV RX4 116 RX0 yX0_has wsX0_has) := goodIn_app (goodIn_of _ (by decide +kernel)) ggX4_combineAdd_X0_has
set_option maxRecDepth 20000 in
theorem ggX4_combineAdd_X2_hasNumber : GoodIn wsX4_combineAdd wsX2_hasNumber := goodIn_r _ [18, 19, 131, 132, 133, 134] (by decide +kernel) (by decide +kernel)
set_option maxRecDepth 20000 in
theorem gX4_combineAdd_X2_hasNumber : GoodIn wsX4_combineAdd (wsV RX4 120 RX2 yX2_hasNumber wsX2_hasNumber) := goodIn_app (goodIn_of _ (by decide +kernel)) ggX4_combineAdd_X2_hasNumber
set_option maxRecDepth 20000 in
theorem ggX4_combineAdd_X4_draftSumWith : GoodIn wsX4_combineAdd wsX4_draftSumWith := goodIn_r _ [24, 25, 2, 26, 7, 3, 4, 6, 27, 28, 29, 30, 11, 31, 32, 33, 34, 35, 36, 37, 38, 39, 40, 41, 42, 43, 44, 45, 46, 47, 48, 49, 50, 51, 52, 53, 54, 55, 56, 57, 58, 59, 60, 61, 62, 63, 64, 65, 66, 67, 68, 69, 70, 71, 72, 73, 74, 75, 76, 77, 78, 79, 80, 81, 82, 83, 84, 85, 86, 87, 88, 89, 90, 91, 92, 93, 94, 95, 96, 97, 98, 99, 100, 101, 102, 103, 104, 105, 106, 107, 108, 109, 110, 115, 116, 117, 118, 119, 120, 121, 122, 123, 124, 125, 126, 127, 128, 129, 130, 131, 132, 133, 134, 135, 136, 137, 138, 139, 140, 141, 142, 143, 144, 145, 146, 147] (by decide +kernel) (by decide +kernel)
set_option maxRecDepth 20000 in
theorem gX4_combineAdd_X4_draftSumWith : GoodIn wsX4_combineAdd (wsV RX4 126 RX4 yX4_draftSumWith wsX4_draftSumWith) := goodIn_app (goodIn_of _ (by decide +kernel)) ggX4_combineAdd_X4_draftSumWith
set_option maxRecDepth 20000 in
theorem ggX4_combineAdd_X2_finish : GoodIn wsX4_combineAdd wsX2_finish := goodIn_r _ [114, 19, 131, 132, 133, 134] (by decide +kernel) (by decide +kernel)
set_option maxRecDepth 20000 in
theorem gX4_combineAdd_X2_finish : GoodIn wsX4_combineAdd (wsV RX4 95 RX2 yX2_finish wsX2_finish) := goodIn_app (goodIn_of _ (by decide +kernel)) ggX4_combineAdd_X2_finish
theorem dX4_combineAdd_0 : decode cX4_combineAdd 0 = .ok (.aload_n 0, 1) := by decide +kernel
theorem dX4_combineAdd_1 : decode cX4_combineAdd 1 = .ok (.getfield 113, 3) := by decide +kernel
theorem dX4_combineAdd_4 : decode cX4_combineAdd 4 = .ok (.ifCond .ne 6, 3) := by decide +kernel
theorem dX4_combineAdd_7 : decode cX4_combineAdd 7 = .ok (.bipush (-7), 2) := by decide +kernel
theorem dX4_combineAdd_9 : decode cX4_combineAdd 9 = .ok (.ireturn, 1) := by decide +kernel
theorem dX4_combineAdd_10 : decode cX4_combineAdd 10 = .ok (.aload_n 0, 1) := by decide +kernel
theorem dX4_combineAdd_11 : decode cX4_combineAdd 11 = .ok (.getfield 22, 3) := by decide +kernel
theorem dX4_combineAdd_14 : decode cX4_combineAdd 14 = .ok (.iload_n 1, 1) := by decide +kernel
theorem dX4_combineAdd_15 : decode cX4_combineAdd 15 = .ok (.invokevirtual 116, 3) := by decide +kernel
theorem dX4_combineAdd_18 : decode cX4_combineAdd 18 = .ok (.ifCond .ne 6, 3) := by decide +kernel
theorem dX4_combineAdd_21 : decode cX4_combineAdd 21 = .ok (.bipush (-5), 2) := by decide +kernel
theorem dX4_combineAdd_23 : decode cX4_combineAdd 23 = .ok (.ireturn, 1) := by decide +kernel
theorem dX4_combineAdd_24 : decode cX4_combineAdd 24 = .ok (.aload_n 0, 1) := by decide +kernel
theorem dX4_combineAdd_25 : decode cX4_combineAdd 25 = .ok (.getfield 29, 3) := by decide +kernel
theorem dX4_combineAdd_28 : decode cX4_combineAdd 28 = .ok (.invokevirtual 120, 3) := by decide +kernel
theorem dX4_combineAdd_31 : decode cX4_combineAdd 31 = .ok (.ifCond .eq 16, 3) := by decide +kernel
theorem dX4_combineAdd_34 : decode cX4_combineAdd 34 = .ok (.aload_n 0, 1) := by decide +kernel
theorem dX4_combineAdd_35 : decode cX4_combineAdd 35 = .ok (.getfield 29, 3) := by decide +kernel
theorem dX4_combineAdd_38 : decode cX4_combineAdd 38 = .ok (.getfield 88, 3) := by decide +kernel
theorem dX4_combineAdd_41 : decode cX4_combineAdd 41 = .ok (.getfield 123, 3) := by decide +kernel
theorem dX4_combineAdd_44 : decode cX4_combineAdd 44 = .ok (.ifCond .ge 6, 3) := by decide +kernel
theorem dX4_combineAdd_47 : decode cX4_combineAdd 47 = .ok (.bipush (-6), 2) := by decide +kernel
theorem dX4_combineAdd_49 : decode cX4_combineAdd 49 = .ok (.ireturn, 1) := by decide +kernel
theorem dX4_combineAdd_50 : decode cX4_combineAdd 50 = .ok (.aload_n 0, 1) := by decide +kernel
theorem dX4_combineAdd_51 : decode cX4_combineAdd 51 = .ok (.iload_n 1, 1) := by decide +kernel
theorem dX4_combineAdd_52 : decode cX4_combineAdd 52 = .ok (.invokevirtual 126, 3) := by decide +kernel
theorem dX4_combineAdd_55 : decode cX4_combineAdd 55 = .ok (.ifCond .ne 6, 3) := by decide +kernel
theorem dX4_combineAdd_58 : decode cX4_combineAdd 58 = .ok (.bipush (-4), 2) := by decide +kernel
theorem dX4_combineAdd_60 : decode cX4_combineAdd 60 = .ok (.ireturn, 1) := by decide +kernel
theorem dX4_combineAdd_61 : decode cX4_combineAdd 61 = .ok (.aload_n 0, 1) := by decide +kernel
theorem dX4_combineAdd_62 : decode cX4_combineAdd 62 = .ok (.getfield 51, 3) := by decide +kernel
theorem dX4_combineAdd_65 : decode cX4_combineAdd 65 = .ok (.astore_n 2, 1) := by decide +kernel
theorem dX4_combineAdd_66 : decode cX4_combineAdd 66 = .ok (.aload_n 0, 1) := by decide +kernel
theorem dX4_combineAdd_67 : decode cX4_combineAdd 67 = .ok (.aload_n 0, 1) := by decide +kernel
theorem dX4_combineAdd_68 : decode cX4_combineAdd 68 = .ok (.getfield 54, 3) := by decide +kernel
theorem dX4_combineAdd_71 : decode cX4_combineAdd 71 = .ok (.putfield 51, 3) := by decide +kernel
theorem dX4_combineAdd_74 : decode cX4_combineAdd 74 = .ok (.aload_n 0, 1) := by decide +kernel
theorem dX4_combineAdd_75 : decode cX4_combineAdd 75 = .ok (.aload_n 2, 1) := by decide +kernel
theorem dX4_combineAdd_76 : decode cX4_combineAdd 76 = .ok (.putfield 54, 3) := by decide +kernel
theorem dX4_combineAdd_79 : decode cX4_combineAdd 79 = .ok (.aload_n 0, 1) := by decide +kernel
theorem dX4_combineAdd_80 : decode cX4_combineAdd 80 = .ok (.getfield 29, 3) := by decide +kernel
theorem dX4_combineAdd_83 : decode cX4_combineAdd 83 = .ok (.invokevirtual 95, 3) := by decide +kernel
theorem dX4_combineAdd_86 : decode cX4_combineAdd 86 = .ok (.iconst 0, 1) := by decide +kernel
theorem dX4_combineAdd_87 : decode cX4_combineAdd 87 = .ok (.ireturn, 1) := by decide +kernel
set_option maxRecDepth 20000 in
theorem ggX4_combineEnd_X4_keepMade : GoodIn wsX4_combineEnd wsX4_keepMade := goodIn_r _ [7, 8, 9, 10, 11, 12, 13, 14, 15, 16, 17, 18, 19, 20, 21, 22, 23, 24, 25, 26, 27, 28, 29, 30, 31, 32, 33, 34, 35, 36, 37, 38, 39, 40, 41, 42, 43, 44, 45, 46, 47, 48, 6, 49, 50, 51, 52, 53, 54, 55, 56, 57, 58, 59, 60, 61, 62, 63, 64, 65, 66, 67, 68, 69, 70, 71, 72, 73, 74, 75, 76, 77, 78, 79, 80, 81, 82] (by decide +kernel) (by decide +kernel)
set_option maxRecDepth 20000 in
theorem gX4_combineEnd_X4_keepMade : GoodIn wsX4_combineEnd (wsV RX4 129 RX4 yX4_keepMade wsX4_keepMade) := goodIn_app (goodIn_of _ (by decide +kernel)) ggX4_combineEnd_X4_keepMade
theorem dX4_combineEnd_0 : decode cX4_combineEnd 0 = .ok (.aload_n 0, 1) := by decide +kernel
theorem dX4_combineEnd_1 : decode cX4_combineEnd 1 = .ok (.getfield 113, 3) := by decide +kernel
theorem dX4_combineEnd_4 : decode cX4_combineEnd 4 = .ok (.ifCond .ne 6, 3) := by decide +kernel
theorem dX4_combineEnd_7 : decode cX4_combineEnd 7 = .ok (.bipush (-7), 2) := by decide +kernel
theorem dX4_combineEnd_9 : decode cX4_combineEnd 9 = .ok (.ireturn, 1) := by decide +kernel
theorem dX4_combineEnd_10 : decode cX4_combineEnd 10 = .ok (.aload_n 0, 1) := by decide +kernel
theorem dX4_combineEnd_11 : decode cX4_combineEnd 11 = .ok (.aload_n 0, 1) := by decide +kernel
theorem dX4_combineEnd_12 : decode cX4_combineEnd 12 = .ok (.getfield 51, 3) := by decide +kernel
theorem dX4_combineEnd_15 : decode cX4_combineEnd 15 = .ok (.invokevirtual 129, 3) := by decide +kernel
theorem dX4_combineEnd_18 : decode cX4_combineEnd 18 = .ok (.istore_n 1, 1) := by decide +kernel
theorem dX4_combineEnd_19 : decode cX4_combineEnd 19 = .ok (.iload_n 1, 1) := by decide +kernel
theorem dX4_combineEnd_20 : decode cX4_combineEnd 20 = .ok (.ifCond .lt 8, 3) := by decide +kernel
theorem dX4_combineEnd_23 : decode cX4_combineEnd 23 = .ok (.aload_n 0, 1) := by decide +kernel
theorem dX4_combineEnd_24 : decode cX4_combineEnd 24 = .ok (.iconst 0, 1) := by decide +kernel
theorem dX4_combineEnd_25 : decode cX4_combineEnd 25 = .ok (.putfield 113, 3) := by decide +kernel
theorem dX4_combineEnd_28 : decode cX4_combineEnd 28 = .ok (.iload_n 1, 1) := by decide +kernel
theorem dX4_combineEnd_29 : decode cX4_combineEnd 29 = .ok (.ireturn, 1) := by decide +kernel
set_option maxRecDepth 20000 in
theorem ggX4_divideRound_X0_has : GoodIn wsX4_divideRound wsX0_has := goodIn_r _ [11, 12, 188, 189, 190, 191, 192, 193] (by decide +kernel) (by decide +kernel)
set_option maxRecDepth 20000 in
theorem gX4_divideRound_X0_has : GoodIn wsX4_divideRound (wsV RX4 116 RX0 yX0_has wsX0_has) := goodIn_app (goodIn_of _ (by decide +kernel)) ggX4_divideRound_X0_has
set_option maxRecDepth 20000 in
theorem ggX4_divideRound_X4_hasCoefficient : GoodIn wsX4_divideRound wsX4_hasCoefficient := goodIn_r _ [17, 3, 2, 18, 19, 20, 10, 21, 22, 23, 24, 25, 26, 27, 28, 172, 173, 174, 175, 176, 177, 178, 179, 180, 181, 182, 183, 184, 185, 186, 187, 188, 189, 190, 191, 192, 193] (by decide +kernel) (by decide +kernel)
set_option maxRecDepth 20000 in
theorem gX4_divideRound_X4_hasCoefficient : GoodIn wsX4_divideRound (wsV RX4 132 RX4 yX4_hasCoefficient wsX4_hasCoefficient) := goodIn_app (goodIn_of _ (by decide +kernel)) ggX4_divideRound_X4_hasCoefficient
set_option maxRecDepth 20000 in
theorem ggX4_divideRound_X0_isFull : GoodIn wsX4_divideRound wsX0_isFull := goodIn_r _ [32, 12, 33, 188, 189, 190, 191, 192, 193] (by decide +kernel) (by decide +kernel)
set_option maxRecDepth 20000 in
theorem gX4_divideRound_X0_isFull : GoodIn wsX4_divideRound (wsV RX4 135 RX0 yX0_isFull wsX0_isFull) := goodIn_app (goodIn_of _ (by decide +kernel)) ggX4_divideRound_X0_isFull
set_option maxRecDepth 20000 in
theorem ggX4_divideRound_X4_findGreatestDivisor : GoodIn wsX4_divideRound wsX4_findGreatestDivisor := goodIn_r _ [37, 5, 38, 3, 2, 4, 39, 40, 41, 42, 43, 44, 45, 46, 47, 48, 10, 49, 22, 23, 24, 50, 51, 52, 53, 54, 55, 56, 57, 58, 59, 60, 61, 62, 63, 64, 65, 19, 20, 21, 25, 26, 27, 28, 66, 67, 68, 69, 70, 71, 72, 73, 74, 75, 76, 77, 78, 79, 80, 81, 82, 83, 84, 85, 86, 87, 88, 89, 90, 91, 92, 93, 94, 95, 96, 97, 98, 99, 100, 101, 102, 103, 104, 105, 106, 107, 108, 109, 110, 111, 112, 113, 114, 115, 116, 117, 118, 119, 120, 121, 122, 123, 124, 125, 126, 127, 128, 129, 172, 173, 174, 175, 176, 177, 178, 179, 180, 181, 182, 183, 184, 185, 186, 187, 194, 195, 196, 197, 198, 199, 200, 201, 188, 189, 190, 191, 192, 193] (by decide +kernel) (by decide +kernel)
set_option maxRecDepth 20000 in
theorem gX4_divideRound_X4_findGreatestDivisor : GoodIn wsX4_divideRound (wsV RX4 138 RX4 yX4_findGreatestDivisor wsX4_findGreatestDivisor) := goodIn_app (goodIn_of _ (by decide +kernel)) ggX4_divideRound_X4_findGreatestDivisor
set_option maxRecDepth 20000 in
theorem ggX4_divideRound_X0_load : GoodIn wsX4_divideRound wsX0_load := goodIn_r _ [49, 22, 23, 24, 50, 51, 52, 53, 54, 55, 56, 57, 58, 59, 10, 60, 61, 62, 63, 64, 65, 19, 20, 21, 25, 26, 27, 28, 188, 189, 190, 191, 192, 193, 199, 200, 201] (by decide +kernel) (by decide +kernel)
set_option maxRecDepth 20000 in
theorem gX4_divideRound_X0_load : GoodIn wsX4_divideRound (wsV RX4 141 RX0 yX0_load wsX0_load) := goodIn_app (goodIn_of _ (by decide +kernel)) ggX4_divideRound_X0_load
set_option maxRecDepth 20000 in
theorem ggX4_divideRound_X1_floorByGreatest : GoodIn wsX4_divideRound wsX1_floorByGreatest := goodIn_r _ [133, 73, 79, 72, 134, 74, 75, 76, 77, 69, 78, 80, 81, 82, 83, 42, 84, 44, 85, 86, 87, 27, 88, 89, 40, 41, 43, 45, 90, 91, 92, 93, 94, 52, 53, 54, 95, 96, 97, 98, 99, 100, 101, 102, 103, 104, 105, 106, 107, 108, 109, 110, 111, 112, 113, 114, 115, 116, 117, 118, 119, 120, 121, 122, 123, 124, 125, 126, 127, 128, 129, 135, 136, 137, 138, 139, 140, 141, 63, 142, 143, 144, 145, 146, 147, 194, 195, 196, 197, 198, 199, 200, 201] (by decide +kernel) (by decide +kernel)
set_option maxRecDepth 20000 in
theorem gX4_divideRound_X1_floorByGreatest : GoodIn wsX4_divideRound (wsV RX4 145 RX1 yX1_floorByGreatest wsX1_floorByGreatest) := goodIn_app (goodIn_of _ (by decide +kernel)) ggX4_divideRound_X1_floorByGreatest
set_option maxRecDepth 20000 in
theorem ggX4_divideRound_X4_keepMade : GoodIn wsX4_divideRound wsX4_keepMade := goodIn_r _ [151, 2, 3, 152, 153, 154, 155, 156, 10, 157, 24, 23, 12, 158, 159, 30, 31, 32, 33, 160, 161, 162, 163, 55, 164, 165, 166, 167, 22, 168, 169, 170, 171, 56, 50, 51, 52, 53, 54, 13, 14, 15, 16, 17, 18, 19, 20, 21, 25, 26, 27, 28, 172, 173, 174, 175, 176, 177, 178, 179, 180, 181, 182, 183, 184, 185, 186, 187, 199, 200, 201, 188, 189, 190, 191, 192, 193] (by decide +kernel) (by decide +kernel)
set_option maxRecDepth 20000 in
theorem gX4_divideRound_X4_keepMade : GoodIn wsX4_divideRound (wsV RX4 129 RX4 yX4_keepMade wsX4_keepMade) := goodIn_app (goodIn_of _ (by decide +kernel)) ggX4_divideRound_X4_keepMade
theorem dX4_divideRound_0 : decode cX4_divideRound 0 = .ok (.aload_n 0, 1) := by decide +kernel
theorem dX4_divideRound_1 : decode cX4_divideRound 1 = .ok (.getfield 98, 3) := by decide +kernel
theorem dX4_divideRound_4 : decode cX4_divideRound 4 = .ok (.ifCond .eq 14, 3) := by decide +kernel
theorem dX4_divideRound_7 : decode cX4_divideRound 7 = .ok (.aload_n 0, 1) := by decide +kernel
theorem dX4_divideRound_8 : decode cX4_divideRound 8 = .ok (.getfield 22, 3) := by decide +kernel
theorem dX4_divideRound_11 : decode cX4_divideRound 11 = .ok (.iload_n 1, 1) := by decide +kernel
theorem dX4_divideRound_12 : decode cX4_divideRound 12 = .ok (.invokevirtual 116, 3) := by decide +kernel
theorem dX4_divideRound_15 : decode cX4_divideRound 15 = .ok (.ifCond .ne 6, 3) := by decide +kernel
theorem dX4_divideRound_18 : decode cX4_divideRound 18 = .ok (.bipush (-5), 2) := by decide +kernel
theorem dX4_divideRound_20 : decode cX4_divideRound 20 = .ok (.ireturn, 1) := by decide +kernel
theorem dX4_divideRound_21 : decode cX4_divideRound 21 = .ok (.aload_n 0, 1) := by decide +kernel
theorem dX4_divideRound_22 : decode cX4_divideRound 22 = .ok (.iload_n 1, 1) := by decide +kernel
theorem dX4_divideRound_23 : decode cX4_divideRound 23 = .ok (.invokevirtual 132, 3) := by decide +kernel
theorem dX4_divideRound_26 : decode cX4_divideRound 26 = .ok (.ifCond .ne 6, 3) := by decide +kernel
theorem dX4_divideRound_29 : decode cX4_divideRound 29 = .ok (.bipush (-8), 2) := by decide +kernel
theorem dX4_divideRound_31 : decode cX4_divideRound 31 = .ok (.ireturn, 1) := by decide +kernel
theorem dX4_divideRound_32 : decode cX4_divideRound 32 = .ok (.aload_n 0, 1) := by decide +kernel
theorem dX4_divideRound_33 : decode cX4_divideRound 33 = .ok (.getfield 22, 3) := by decide +kernel
theorem dX4_divideRound_36 : decode cX4_divideRound 36 = .ok (.invokevirtual 135, 3) := by decide +kernel
theorem dX4_divideRound_39 : decode cX4_divideRound 39 = .ok (.ifCond .eq 6, 3) := by decide +kernel
theorem dX4_divideRound_42 : decode cX4_divideRound 42 = .ok (.bipush (-4), 2) := by decide +kernel
theorem dX4_divideRound_44 : decode cX4_divideRound 44 = .ok (.ireturn, 1) := by decide +kernel
theorem dX4_divideRound_45 : decode cX4_divideRound 45 = .ok (.aload_n 0, 1) := by decide +kernel
theorem dX4_divideRound_46 : decode cX4_divideRound 46 = .ok (.iload_n 1, 1) := by decide +kernel
theorem dX4_divideRound_47 : decode cX4_divideRound 47 = .ok (.invokevirtual 138, 3) := by decide +kernel
theorem dX4_divideRound_50 : decode cX4_divideRound 50 = .ok (.iconst 0, 1) := by decide +kernel
theorem dX4_divideRound_51 : decode cX4_divideRound 51 = .ok (.istore_n 2, 1) := by decide +kernel
theorem dX4_divideRound_52 : decode cX4_divideRound 52 = .ok (.iload_n 2, 1) := by decide +kernel
theorem dX4_divideRound_53 : decode cX4_divideRound 53 = .ok (.aload_n 0, 1) := by decide +kernel
theorem dX4_divideRound_54 : decode cX4_divideRound 54 = .ok (.getfield 13, 3) := by decide +kernel
theorem dX4_divideRound_57 : decode cX4_divideRound 57 = .ok (.if_icmp .gt 39, 3) := by decide +kernel
theorem dX4_divideRound_60 : decode cX4_divideRound 60 = .ok (.aload_n 0, 1) := by decide +kernel
theorem dX4_divideRound_61 : decode cX4_divideRound 61 = .ok (.getfield 22, 3) := by decide +kernel
theorem dX4_divideRound_64 : decode cX4_divideRound 64 = .ok (.iload_n 1, 1) := by decide +kernel
theorem dX4_divideRound_65 : decode cX4_divideRound 65 = .ok (.iload_n 2, 1) := by decide +kernel
theorem dX4_divideRound_66 : decode cX4_divideRound 66 = .ok (.aload_n 0, 1) := by decide +kernel
theorem dX4_divideRound_67 : decode cX4_divideRound 67 = .ok (.getfield 62, 3) := by decide +kernel
theorem dX4_divideRound_70 : decode cX4_divideRound 70 = .ok (.invokevirtual 141, 3) := by decide +kernel
theorem dX4_divideRound_73 : decode cX4_divideRound 73 = .ok (.aload_n 0, 1) := by decide +kernel
theorem dX4_divideRound_74 : decode cX4_divideRound 74 = .ok (.getfield 47, 3) := by decide +kernel
theorem dX4_divideRound_77 : decode cX4_divideRound 77 = .ok (.aload_n 0, 1) := by decide +kernel
theorem dX4_divideRound_78 : decode cX4_divideRound 78 = .ok (.getfield 62, 3) := by decide +kernel
theorem dX4_divideRound_81 : decode cX4_divideRound 81 = .ok (.aload_n 0, 1) := by decide +kernel
theorem dX4_divideRound_82 : decode cX4_divideRound 82 = .ok (.getfield 54, 3) := by decide +kernel
theorem dX4_divideRound_85 : decode cX4_divideRound 85 = .ok (.iload_n 2, 1) := by decide +kernel
theorem dX4_divideRound_86 : decode cX4_divideRound 86 = .ok (.aaload, 1) := by decide +kernel
theorem dX4_divideRound_87 : decode cX4_divideRound 87 = .ok (.invokevirtual 145, 3) := by decide +kernel
theorem dX4_divideRound_90 : decode cX4_divideRound 90 = .ok (.iinc 2 1, 3) := by decide +kernel
theorem dX4_divideRound_93 : decode cX4_divideRound 93 = .ok (.goto (-41), 3) := by decide +kernel
theorem dX4_divideRound_96 : decode cX4_divideRound 96 = .ok (.aload_n 0, 1) := by decide +kernel
theorem dX4_divideRound_97 : decode cX4_divideRound 97 = .ok (.aload_n 0, 1) := by decide +kernel
theorem dX4_divideRound_98 : decode cX4_divideRound 98 = .ok (.getfield 54, 3) := by decide +kernel
theorem dX4_divideRound_101 : decode cX4_divideRound 101 = .ok (.invokevirtual 129, 3) := by decide +kernel
theorem dX4_divideRound_104 : decode cX4_divideRound 104 = .ok (.ireturn, 1) := by decide +kernel
theorem dX4_refuted_0 : decode cX4_refuted 0 = .ok (.aload_n 0, 1) := by decide +kernel
theorem dX4_refuted_1 : decode cX4_refuted 1 = .ok (.getfield 149, 3) := by decide +kernel
theorem dX4_refuted_4 : decode cX4_refuted 4 = .ok (.ireturn, 1) := by decide +kernel
theorem dX4_rowCount_0 : decode cX4_rowCount 0 = .ok (.aload_n 0, 1) := by decide +kernel
theorem dX4_rowCount_1 : decode cX4_rowCount 1 = .ok (.getfield 22, 3) := by decide +kernel
theorem dX4_rowCount_4 : decode cX4_rowCount 4 = .ok (.getfield 152, 3) := by decide +kernel
theorem dX4_rowCount_7 : decode cX4_rowCount 7 = .ok (.ireturn, 1) := by decide +kernel
set_option maxRecDepth 20000 in
theorem ggX4_evalStart_X4_setAllZero : GoodIn wsX4_evalStart wsX4_setAllZero := goodIn_r _ [5, 6, 7, 8, 9, 10, 11, 12, 29, 30, 31] (by decide +kernel) (by decide +kernel)
set_option maxRecDepth 20000 in
theorem gX4_evalStart_X4_setAllZero : GoodIn wsX4_evalStart (va_wsS RX4 109 yX4_setAllZero wsX4_setAllZero) := goodIn_app (goodIn_of _ (by decide +kernel)) ggX4_evalStart_X4_setAllZero
theorem dX4_evalStart_0 : decode cX4_evalStart 0 = .ok (.aload_n 0, 1) := by decide +kernel
theorem dX4_evalStart_1 : decode cX4_evalStart 1 = .ok (.getfield 41, 3) := by decide +kernel
theorem dX4_evalStart_4 : decode cX4_evalStart 4 = .ok (.invokestatic 109, 3) := by decide +kernel
theorem dX4_evalStart_7 : decode cX4_evalStart 7 = .ok (.iconst 1, 1) := by decide +kernel
theorem dX4_evalStart_8 : decode cX4_evalStart 8 = .ok (.ireturn, 1) := by decide +kernel
set_option maxRecDepth 20000 in
theorem ggX4_evalPoint_X2_hasNumber : GoodIn wsX4_evalPoint wsX2_hasNumber := goodIn_r _ [9, 10, 43, 44, 45, 46] (by decide +kernel) (by decide +kernel)
set_option maxRecDepth 20000 in
theorem gX4_evalPoint_X2_hasNumber : GoodIn wsX4_evalPoint (wsV RX4 120 RX2 yX2_hasNumber wsX2_hasNumber) := goodIn_app (goodIn_of _ (by decide +kernel)) ggX4_evalPoint_X2_hasNumber
set_option maxRecDepth 20000 in
theorem ggX4_evalPoint_X3_copyFrom : GoodIn wsX4_evalPoint wsX3_copyFrom := goodIn_r _ [15, 16, 17, 18, 19, 20, 21, 22, 47, 48, 49] (by decide +kernel) (by decide +kernel)
set_option maxRecDepth 20000 in
theorem gX4_evalPoint_X3_copyFrom : GoodIn wsX4_evalPoint (wsV RX4 91 RX3 yX3_copyFrom wsX3_copyFrom) := goodIn_app (goodIn_of _ (by decide +kernel)) ggX4_evalPoint_X3_copyFrom
set_option maxRecDepth 20000 in
theorem ggX4_evalPoint_X2_finish : GoodIn wsX4_evalPoint wsX2_finish := goodIn_r _ [26, 10, 43, 44, 45, 46] (by decide +kernel) (by decide +kernel)
set_option maxRecDepth 20000 in
theorem gX4_evalPoint_X2_finish : GoodIn wsX4_evalPoint (wsV RX4 95 RX2 yX2_finish wsX2_finish) := goodIn_app (goodIn_of _ (by decide +kernel)) ggX4_evalPoint_X2_finish
theorem dX4_evalPoint_0 : decode cX4_evalPoint 0 = .ok (.iload_n 1, 1) := by decide +kernel
theorem dX4_evalPoint_1 : decode cX4_evalPoint 1 = .ok (.ifCond .lt 21, 3) := by decide +kernel
theorem dX4_evalPoint_4 : decode cX4_evalPoint 4 = .ok (.iload_n 1, 1) := by decide +kernel
theorem dX4_evalPoint_5 : decode cX4_evalPoint 5 = .ok (.aload_n 0, 1) := by decide +kernel
theorem dX4_evalPoint_6 : decode cX4_evalPoint 6 = .ok (.getfield 13, 3) := by decide +kernel
theorem dX4_evalPoint_9 : decode cX4_evalPoint 9 = .ok (.if_icmp .ge 13, 3) := by decide +kernel
theorem dX4_evalPoint_12 : decode cX4_evalPoint 12 = .ok (.aload_n 0, 1) := by decide +kernel
theorem dX4_evalPoint_13 : decode cX4_evalPoint 13 = .ok (.getfield 29, 3) := by decide +kernel
theorem dX4_evalPoint_16 : decode cX4_evalPoint 16 = .ok (.invokevirtual 120, 3) := by decide +kernel
theorem dX4_evalPoint_19 : decode cX4_evalPoint 19 = .ok (.ifCond .ne 5, 3) := by decide +kernel
theorem dX4_evalPoint_22 : decode cX4_evalPoint 22 = .ok (.iconst 0, 1) := by decide +kernel
theorem dX4_evalPoint_23 : decode cX4_evalPoint 23 = .ok (.ireturn, 1) := by decide +kernel
theorem dX4_evalPoint_24 : decode cX4_evalPoint 24 = .ok (.aload_n 0, 1) := by decide +kernel
theorem dX4_evalPoint_25 : decode cX4_evalPoint 25 = .ok (.getfield 41, 3) := by decide +kernel
theorem dX4_evalPoint_28 : decode cX4_evalPoint 28 = .ok (.iload_n 1, 1) := by decide +kernel
theorem dX4_evalPoint_29 : decode cX4_evalPoint 29 = .ok (.aaload, 1) := by decide +kernel
theorem dX4_evalPoint_30 : decode cX4_evalPoint 30 = .ok (.aload_n 0, 1) := by decide +kernel
theorem dX4_evalPoint_31 : decode cX4_evalPoint 31 = .ok (.getfield 29, 3) := by decide +kernel
theorem dX4_evalPoint_34 : decode cX4_evalPoint 34 = .ok (.getfield 88, 3) := by decide +kernel
theorem dX4_evalPoint_37 : decode cX4_evalPoint 37 = .ok (.invokevirtual 91, 3) := by decide +kernel
theorem dX4_evalPoint_40 : decode cX4_evalPoint 40 = .ok (.aload_n 0, 1) := by decide +kernel
theorem dX4_evalPoint_41 : decode cX4_evalPoint 41 = .ok (.getfield 29, 3) := by decide +kernel
theorem dX4_evalPoint_44 : decode cX4_evalPoint 44 = .ok (.invokevirtual 95, 3) := by decide +kernel
theorem dX4_evalPoint_47 : decode cX4_evalPoint 47 = .ok (.iconst 1, 1) := by decide +kernel
theorem dX4_evalPoint_48 : decode cX4_evalPoint 48 = .ok (.ireturn, 1) := by decide +kernel
set_option maxRecDepth 20000 in
theorem ggX4_evalSatisfied_X4_holdsAtPoint : GoodIn wsX4_evalSatisfied wsX4_holdsAtPoint := goodIn_r _ [6, 7, 8, 9, 10, 11, 12, 13, 14, 15, 16, 17, 18, 19, 20, 21, 22, 23, 24, 25, 26, 27, 28, 29, 30, 31, 32, 33, 34, 35, 36, 37, 38, 39, 40, 41, 42, 43, 44, 45, 46, 47, 48, 49, 50, 51, 52, 53, 54, 55, 56, 57, 58, 59, 60, 61, 62, 63, 64, 65, 66, 67, 68, 69, 70, 71, 72, 73, 74, 75, 76, 77, 78, 79, 80, 81, 82, 83, 84, 85, 86, 87, 88, 89, 90, 91, 92, 93, 94, 95, 96, 97, 98, 99, 100, 101, 102, 103, 104, 105, 106, 107, 108, 109, 110, 111, 112, 113, 114, 115, 116, 117, 118, 119, 120, 121, 122, 123, 124, 125, 126, 127, 128, 129, 130, 131] (by decide +kernel) (by decide +kernel)
set_option maxRecDepth 20000 in
theorem gX4_evalSatisfied_X4_holdsAtPoint : GoodIn wsX4_evalSatisfied (wsV RX4 155 RX4 yX4_holdsAtPoint wsX4_holdsAtPoint) := goodIn_app (goodIn_of _ (by decide +kernel)) ggX4_evalSatisfied_X4_holdsAtPoint
theorem dX4_evalSatisfied_0 : decode cX4_evalSatisfied 0 = .ok (.iconst 0, 1) := by decide +kernel
theorem dX4_evalSatisfied_1 : decode cX4_evalSatisfied 1 = .ok (.istore_n 1, 1) := by decide +kernel
theorem dX4_evalSatisfied_2 : decode cX4_evalSatisfied 2 = .ok (.iload_n 1, 1) := by decide +kernel
theorem dX4_evalSatisfied_3 : decode cX4_evalSatisfied 3 = .ok (.aload_n 0, 1) := by decide +kernel
theorem dX4_evalSatisfied_4 : decode cX4_evalSatisfied 4 = .ok (.getfield 106, 3) := by decide +kernel
theorem dX4_evalSatisfied_7 : decode cX4_evalSatisfied 7 = .ok (.if_icmp .ge 19, 3) := by decide +kernel
theorem dX4_evalSatisfied_10 : decode cX4_evalSatisfied 10 = .ok (.aload_n 0, 1) := by decide +kernel
theorem dX4_evalSatisfied_11 : decode cX4_evalSatisfied 11 = .ok (.iload_n 1, 1) := by decide +kernel
theorem dX4_evalSatisfied_12 : decode cX4_evalSatisfied 12 = .ok (.invokevirtual 155, 3) := by decide +kernel
theorem dX4_evalSatisfied_15 : decode cX4_evalSatisfied 15 = .ok (.ifCond .ne 5, 3) := by decide +kernel
theorem dX4_evalSatisfied_18 : decode cX4_evalSatisfied 18 = .ok (.iconst 0, 1) := by decide +kernel
theorem dX4_evalSatisfied_19 : decode cX4_evalSatisfied 19 = .ok (.ireturn, 1) := by decide +kernel
theorem dX4_evalSatisfied_20 : decode cX4_evalSatisfied 20 = .ok (.iinc 1 1, 3) := by decide +kernel
theorem dX4_evalSatisfied_23 : decode cX4_evalSatisfied 23 = .ok (.goto (-21), 3) := by decide +kernel
theorem dX4_evalSatisfied_26 : decode cX4_evalSatisfied 26 = .ok (.iconst 1, 1) := by decide +kernel
theorem dX4_evalSatisfied_27 : decode cX4_evalSatisfied 27 = .ok (.ireturn, 1) := by decide +kernel
theorem dX4_cell_0 : decode cX4_cell 0 = .ok (.aload_n 0, 1) := by decide +kernel
theorem dX4_cell_1 : decode cX4_cell 1 = .ok (.getfield 22, 3) := by decide +kernel
theorem dX4_cell_4 : decode cX4_cell 4 = .ok (.iload_n 1, 1) := by decide +kernel
theorem dX4_cell_5 : decode cX4_cell 5 = .ok (.invokevirtual 116, 3) := by decide +kernel
theorem dX4_cell_8 : decode cX4_cell 8 = .ok (.ifCond .eq 21, 3) := by decide +kernel
theorem dX4_cell_11 : decode cX4_cell 11 = .ok (.iload_n 2, 1) := by decide +kernel
theorem dX4_cell_12 : decode cX4_cell 12 = .ok (.ifCond .lt 17, 3) := by decide +kernel
theorem dX4_cell_15 : decode cX4_cell 15 = .ok (.iload_n 2, 1) := by decide +kernel
theorem dX4_cell_16 : decode cX4_cell 16 = .ok (.aload_n 0, 1) := by decide +kernel
theorem dX4_cell_17 : decode cX4_cell 17 = .ok (.getfield 13, 3) := by decide +kernel
theorem dX4_cell_20 : decode cX4_cell 20 = .ok (.if_icmp .gt 9, 3) := by decide +kernel
theorem dX4_cell_23 : decode cX4_cell 23 = .ok (.iload_n 3, 1) := by decide +kernel
theorem dX4_cell_24 : decode cX4_cell 24 = .ok (.bipush (-2), 2) := by decide +kernel
theorem dX4_cell_26 : decode cX4_cell 26 = .ok (.if_icmp .ge 13, 3) := by decide +kernel
theorem dX4_cell_29 : decode cX4_cell 29 = .ok (.new 158, 3) := by decide +kernel
theorem dX4_cell_32 : decode cX4_cell 32 = .ok (.dup, 1) := by decide +kernel
theorem dX4_cell_33 : decode cX4_cell 33 = .ok (.ldc 160, 2) := by decide +kernel
theorem dX4_cell_35 : decode cX4_cell 35 = .ok (.invokespecial 162, 3) := by decide +kernel
theorem dX4_cell_38 : decode cX4_cell 38 = .ok (.athrow, 1) := by decide +kernel
theorem dX4_cell_39 : decode cX4_cell 39 = .ok (.iload_n 3, 1) := by decide +kernel
theorem dX4_cell_40 : decode cX4_cell 40 = .ok (.iconst (-1), 1) := by decide +kernel
theorem dX4_cell_41 : decode cX4_cell 41 = .ok (.if_icmp .ne 13, 3) := by decide +kernel
theorem dX4_cell_44 : decode cX4_cell 44 = .ok (.aload_n 0, 1) := by decide +kernel
theorem dX4_cell_45 : decode cX4_cell 45 = .ok (.getfield 22, 3) := by decide +kernel
theorem dX4_cell_48 : decode cX4_cell 48 = .ok (.iload_n 1, 1) := by decide +kernel
theorem dX4_cell_49 : decode cX4_cell 49 = .ok (.iload_n 2, 1) := by decide +kernel
theorem dX4_cell_50 : decode cX4_cell 50 = .ok (.invokevirtual 165, 3) := by decide +kernel
theorem dX4_cell_53 : decode cX4_cell 53 = .ok (.ireturn, 1) := by decide +kernel
theorem dX4_cell_54 : decode cX4_cell 54 = .ok (.iload_n 3, 1) := by decide +kernel
theorem dX4_cell_55 : decode cX4_cell 55 = .ok (.bipush (-2), 2) := by decide +kernel
theorem dX4_cell_57 : decode cX4_cell 57 = .ok (.if_icmp .ne 13, 3) := by decide +kernel
theorem dX4_cell_60 : decode cX4_cell 60 = .ok (.aload_n 0, 1) := by decide +kernel
theorem dX4_cell_61 : decode cX4_cell 61 = .ok (.getfield 22, 3) := by decide +kernel
theorem dX4_cell_64 : decode cX4_cell 64 = .ok (.iload_n 1, 1) := by decide +kernel
theorem dX4_cell_65 : decode cX4_cell 65 = .ok (.iload_n 2, 1) := by decide +kernel
theorem dX4_cell_66 : decode cX4_cell 66 = .ok (.invokevirtual 168, 3) := by decide +kernel
theorem dX4_cell_69 : decode cX4_cell 69 = .ok (.ireturn, 1) := by decide +kernel
theorem dX4_cell_70 : decode cX4_cell 70 = .ok (.aload_n 0, 1) := by decide +kernel
theorem dX4_cell_71 : decode cX4_cell 71 = .ok (.getfield 22, 3) := by decide +kernel
theorem dX4_cell_74 : decode cX4_cell 74 = .ok (.iload_n 1, 1) := by decide +kernel
theorem dX4_cell_75 : decode cX4_cell 75 = .ok (.iload_n 2, 1) := by decide +kernel
theorem dX4_cell_76 : decode cX4_cell 76 = .ok (.iload_n 3, 1) := by decide +kernel
theorem dX4_cell_77 : decode cX4_cell 77 = .ok (.invokevirtual 171, 3) := by decide +kernel
theorem dX4_cell_80 : decode cX4_cell 80 = .ok (.ireturn, 1) := by decide +kernel
theorem dX4_count_0 : decode cX4_count 0 = .ok (.iload_n 1, 1) := by decide +kernel
theorem dX4_count_1 : decode cX4_count 1 = .ok (.tableswitch 91 0 5 #[39, 47, 52, 57, 70, 83], 39) := by decide +kernel
theorem dX4_count_40 : decode cX4_count 40 = .ok (.aload_n 0, 1) := by decide +kernel
theorem dX4_count_41 : decode cX4_count 41 = .ok (.getfield 22, 3) := by decide +kernel
theorem dX4_count_44 : decode cX4_count 44 = .ok (.invokevirtual 175, 3) := by decide +kernel
theorem dX4_count_47 : decode cX4_count 47 = .ok (.ireturn, 1) := by decide +kernel
theorem dX4_count_48 : decode cX4_count 48 = .ok (.aload_n 0, 1) := by decide +kernel
theorem dX4_count_49 : decode cX4_count 49 = .ok (.getfield 106, 3) := by decide +kernel
theorem dX4_count_52 : decode cX4_count 52 = .ok (.ireturn, 1) := by decide +kernel
theorem dX4_count_53 : decode cX4_count 53 = .ok (.aload_n 0, 1) := by decide +kernel
theorem dX4_count_54 : decode cX4_count 54 = .ok (.getfield 85, 3) := by decide +kernel
theorem dX4_count_57 : decode cX4_count 57 = .ok (.ireturn, 1) := by decide +kernel
theorem dX4_count_58 : decode cX4_count 58 = .ok (.aload_n 0, 1) := by decide +kernel
theorem dX4_count_59 : decode cX4_count 59 = .ok (.getfield 98, 3) := by decide +kernel
theorem dX4_count_62 : decode cX4_count 62 = .ok (.ifCond .eq 7, 3) := by decide +kernel
theorem dX4_count_65 : decode cX4_count 65 = .ok (.iconst 1, 1) := by decide +kernel
theorem dX4_count_66 : decode cX4_count 66 = .ok (.goto 4, 3) := by decide +kernel
theorem dX4_count_69 : decode cX4_count 69 = .ok (.iconst 0, 1) := by decide +kernel
theorem dX4_count_70 : decode cX4_count 70 = .ok (.ireturn, 1) := by decide +kernel
theorem dX4_count_71 : decode cX4_count 71 = .ok (.aload_n 0, 1) := by decide +kernel
theorem dX4_count_72 : decode cX4_count 72 = .ok (.getfield 113, 3) := by decide +kernel
theorem dX4_count_75 : decode cX4_count 75 = .ok (.ifCond .eq 7, 3) := by decide +kernel
theorem dX4_count_78 : decode cX4_count 78 = .ok (.iconst 1, 1) := by decide +kernel
theorem dX4_count_79 : decode cX4_count 79 = .ok (.goto 4, 3) := by decide +kernel
theorem dX4_count_82 : decode cX4_count 82 = .ok (.iconst 0, 1) := by decide +kernel
theorem dX4_count_83 : decode cX4_count 83 = .ok (.ireturn, 1) := by decide +kernel
theorem dX4_count_84 : decode cX4_count 84 = .ok (.aload_n 0, 1) := by decide +kernel
theorem dX4_count_85 : decode cX4_count 85 = .ok (.getfield 29, 3) := by decide +kernel
theorem dX4_count_88 : decode cX4_count 88 = .ok (.getfield 82, 3) := by decide +kernel
theorem dX4_count_91 : decode cX4_count 91 = .ok (.ireturn, 1) := by decide +kernel
theorem dX4_count_92 : decode cX4_count 92 = .ok (.new 158, 3) := by decide +kernel
theorem dX4_count_95 : decode cX4_count 95 = .ok (.dup, 1) := by decide +kernel
theorem dX4_count_96 : decode cX4_count 96 = .ok (.ldc 179, 2) := by decide +kernel
theorem dX4_count_98 : decode cX4_count 98 = .ok (.invokespecial 162, 3) := by decide +kernel
theorem dX4_count_101 : decode cX4_count 101 = .ok (.athrow, 1) := by decide +kernel
theorem dX4_nearest_0 : decode cX4_nearest 0 = .ok (.iconst 1, 1) := by decide +kernel
theorem dX4_nearest_1 : decode cX4_nearest 1 = .ok (.iload_n 1, 1) := by decide +kernel
theorem dX4_nearest_2 : decode cX4_nearest 2 = .ok (.iload_n 0, 1) := by decide +kernel
theorem dX4_nearest_3 : decode cX4_nearest 3 = .ok (.invokestatic 181, 3) := by decide +kernel
theorem dX4_nearest_6 : decode cX4_nearest 6 = .ok (.invokestatic 186, 3) := by decide +kernel
theorem dX4_nearest_9 : decode cX4_nearest 9 = .ok (.ireturn, 1) := by decide +kernel
set_option maxRecDepth 20000 in
theorem ggX4_zeros_X3_init : GoodIn wsX4_zeros wsX3_init := goodIn_r _ [6, 7, 8, 9, 10, 11, 12, 13, 14] (by decide +kernel) (by decide +kernel)
set_option maxRecDepth 20000 in
theorem gX4_zeros_X3_init : GoodIn wsX4_zeros (wsX3_init) := ggX4_zeros_X3_init
theorem dX4_zeros_0 : decode cX4_zeros 0 = .ok (.iload_n 0, 1) := by decide +kernel
theorem dX4_zeros_1 : decode cX4_zeros 1 = .ok (.anewarray 57, 3) := by decide +kernel
theorem dX4_zeros_4 : decode cX4_zeros 4 = .ok (.astore_n 2, 1) := by decide +kernel
theorem dX4_zeros_5 : decode cX4_zeros 5 = .ok (.iconst 0, 1) := by decide +kernel
theorem dX4_zeros_6 : decode cX4_zeros 6 = .ok (.istore_n 3, 1) := by decide +kernel
theorem dX4_zeros_7 : decode cX4_zeros 7 = .ok (.iload_n 3, 1) := by decide +kernel
theorem dX4_zeros_8 : decode cX4_zeros 8 = .ok (.iload_n 0, 1) := by decide +kernel
theorem dX4_zeros_9 : decode cX4_zeros 9 = .ok (.if_icmp .ge 20, 3) := by decide +kernel
theorem dX4_zeros_12 : decode cX4_zeros 12 = .ok (.aload_n 2, 1) := by decide +kernel
theorem dX4_zeros_13 : decode cX4_zeros 13 = .ok (.iload_n 3, 1) := by decide +kernel
theorem dX4_zeros_14 : decode cX4_zeros 14 = .ok (.new 57, 3) := by decide +kernel
theorem dX4_zeros_17 : decode cX4_zeros 17 = .ok (.dup, 1) := by decide +kernel
theorem dX4_zeros_18 : decode cX4_zeros 18 = .ok (.iload_n 1, 1) := by decide +kernel
theorem dX4_zeros_19 : decode cX4_zeros 19 = .ok (.invokespecial 59, 3) := by decide +kernel
theorem dX4_zeros_22 : decode cX4_zeros 22 = .ok (.aastore, 1) := by decide +kernel
theorem dX4_zeros_23 : decode cX4_zeros 23 = .ok (.iinc 3 1, 3) := by decide +kernel
theorem dX4_zeros_26 : decode cX4_zeros 26 = .ok (.goto (-19), 3) := by decide +kernel
theorem dX4_zeros_29 : decode cX4_zeros 29 = .ok (.aload_n 2, 1) := by decide +kernel
theorem dX4_zeros_30 : decode cX4_zeros 30 = .ok (.areturn, 1) := by decide +kernel
set_option maxRecDepth 20000 in
theorem ggX4_setAllZero_X3_setZero : GoodIn wsX4_setAllZero wsX3_setZero := goodIn_r _ [5, 6, 7, 8, 9, 10] (by decide +kernel) (by decide +kernel)
set_option maxRecDepth 20000 in
theorem gX4_setAllZero_X3_setZero : GoodIn wsX4_setAllZero (wsV RX4 189 RX3 yX3_setZero wsX3_setZero) := goodIn_app (goodIn_of _ (by decide +kernel)) ggX4_setAllZero_X3_setZero
theorem dX4_setAllZero_0 : decode cX4_setAllZero 0 = .ok (.iconst 0, 1) := by decide +kernel
theorem dX4_setAllZero_1 : decode cX4_setAllZero 1 = .ok (.istore_n 1, 1) := by decide +kernel
theorem dX4_setAllZero_2 : decode cX4_setAllZero 2 = .ok (.iload_n 1, 1) := by decide +kernel
theorem dX4_setAllZero_3 : decode cX4_setAllZero 3 = .ok (.aload_n 0, 1) := by decide +kernel
theorem dX4_setAllZero_4 : decode cX4_setAllZero 4 = .ok (.arraylength, 1) := by decide +kernel
theorem dX4_setAllZero_5 : decode cX4_setAllZero 5 = .ok (.if_icmp .ge 15, 3) := by decide +kernel
theorem dX4_setAllZero_8 : decode cX4_setAllZero 8 = .ok (.aload_n 0, 1) := by decide +kernel
theorem dX4_setAllZero_9 : decode cX4_setAllZero 9 = .ok (.iload_n 1, 1) := by decide +kernel
theorem dX4_setAllZero_10 : decode cX4_setAllZero 10 = .ok (.aaload, 1) := by decide +kernel
theorem dX4_setAllZero_11 : decode cX4_setAllZero 11 = .ok (.invokevirtual 189, 3) := by decide +kernel
theorem dX4_setAllZero_14 : decode cX4_setAllZero 14 = .ok (.iinc 1 1, 3) := by decide +kernel
theorem dX4_setAllZero_17 : decode cX4_setAllZero 17 = .ok (.goto (-15), 3) := by decide +kernel
theorem dX4_setAllZero_20 : decode cX4_setAllZero 20 = .ok (.return_, 1) := by decide +kernel
set_option maxRecDepth 20000 in
theorem ggX4_draftSumWith_X0_load : GoodIn wsX4_draftSumWith wsX0_load := goodIn_r _ [13, 14, 15, 16, 17, 18, 19, 20, 21, 22, 23, 24, 25, 26, 12, 27, 28, 29, 30, 31, 32, 33, 34, 35, 36, 37, 38, 39, 116, 117, 118, 119, 120, 121, 113, 114, 115] (by decide +kernel) (by decide +kernel)
set_option maxRecDepth 20000 in
theorem gX4_draftSumWith_X0_load : GoodIn wsX4_draftSumWith (wsV RX4 141 RX0 yX0_load wsX0_load) := goodIn_app (goodIn_of _ (by decide +kernel)) ggX4_draftSumWith_X0_load
set_option maxRecDepth 20000 in
theorem ggX4_draftSumWith_X3_setProduct : GoodIn wsX4_draftSumWith wsX3_setProduct := goodIn_r _ [44, 45, 46, 47, 48, 49, 50, 51, 52, 53, 54, 55, 56, 57, 58, 59, 60, 43, 61, 62, 63, 64, 65, 66, 113, 114, 115, 122, 123, 124, 125] (by decide +kernel) (by decide +kernel)
set_option maxRecDepth 20000 in
theorem gX4_draftSumWith_X3_setProduct : GoodIn wsX4_draftSumWith (wsV RX4 192 RX3 yX3_setProduct wsX3_setProduct) := goodIn_app (goodIn_of _ (by decide +kernel)) ggX4_draftSumWith_X3_setProduct
set_option maxRecDepth 20000 in
theorem ggX4_draftSumWith_X3_add : GoodIn wsX4_draftSumWith wsX3_add := goodIn_r _ [70, 47, 71, 72, 73, 43, 74, 46, 75, 76, 30, 77, 45, 62, 78, 79, 80, 81, 63, 64, 65, 66, 82, 83, 84, 85, 86, 87, 38, 88, 89, 90, 91, 92, 113, 114, 115] (by decide +kernel) (by decide +kernel)
set_option maxRecDepth 20000 in
theorem gX4_draftSumWith_X3_add : GoodIn wsX4_draftSumWith (wsV RX4 195 RX3 yX3_add wsX3_add) := goodIn_app (goodIn_of _ (by decide +kernel)) ggX4_draftSumWith_X3_add
theorem dX4_draftSumWith_0 : decode cX4_draftSumWith 0 = .ok (.iconst 0, 1) := by decide +kernel
theorem dX4_draftSumWith_1 : decode cX4_draftSumWith 1 = .ok (.istore_n 2, 1) := by decide +kernel
theorem dX4_draftSumWith_2 : decode cX4_draftSumWith 2 = .ok (.iload_n 2, 1) := by decide +kernel
theorem dX4_draftSumWith_3 : decode cX4_draftSumWith 3 = .ok (.aload_n 0, 1) := by decide +kernel
theorem dX4_draftSumWith_4 : decode cX4_draftSumWith 4 = .ok (.getfield 13, 3) := by decide +kernel
theorem dX4_draftSumWith_7 : decode cX4_draftSumWith 7 = .ok (.if_icmp .gt 73, 3) := by decide +kernel
theorem dX4_draftSumWith_10 : decode cX4_draftSumWith 10 = .ok (.aload_n 0, 1) := by decide +kernel
theorem dX4_draftSumWith_11 : decode cX4_draftSumWith 11 = .ok (.getfield 22, 3) := by decide +kernel
theorem dX4_draftSumWith_14 : decode cX4_draftSumWith 14 = .ok (.iload_n 1, 1) := by decide +kernel
theorem dX4_draftSumWith_15 : decode cX4_draftSumWith 15 = .ok (.iload_n 2, 1) := by decide +kernel
theorem dX4_draftSumWith_16 : decode cX4_draftSumWith 16 = .ok (.aload_n 0, 1) := by decide +kernel
theorem dX4_draftSumWith_17 : decode cX4_draftSumWith 17 = .ok (.getfield 62, 3) := by decide +kernel
theorem dX4_draftSumWith_20 : decode cX4_draftSumWith 20 = .ok (.invokevirtual 141, 3) := by decide +kernel
theorem dX4_draftSumWith_23 : decode cX4_draftSumWith 23 = .ok (.aload_n 0, 1) := by decide +kernel
theorem dX4_draftSumWith_24 : decode cX4_draftSumWith 24 = .ok (.getfield 54, 3) := by decide +kernel
theorem dX4_draftSumWith_27 : decode cX4_draftSumWith 27 = .ok (.iload_n 2, 1) := by decide +kernel
theorem dX4_draftSumWith_28 : decode cX4_draftSumWith 28 = .ok (.aaload, 1) := by decide +kernel
theorem dX4_draftSumWith_29 : decode cX4_draftSumWith 29 = .ok (.aload_n 0, 1) := by decide +kernel
theorem dX4_draftSumWith_30 : decode cX4_draftSumWith 30 = .ok (.getfield 29, 3) := by decide +kernel
theorem dX4_draftSumWith_33 : decode cX4_draftSumWith 33 = .ok (.getfield 88, 3) := by decide +kernel
theorem dX4_draftSumWith_36 : decode cX4_draftSumWith 36 = .ok (.aload_n 0, 1) := by decide +kernel
theorem dX4_draftSumWith_37 : decode cX4_draftSumWith 37 = .ok (.getfield 62, 3) := by decide +kernel
theorem dX4_draftSumWith_40 : decode cX4_draftSumWith 40 = .ok (.invokevirtual 192, 3) := by decide +kernel
theorem dX4_draftSumWith_43 : decode cX4_draftSumWith 43 = .ok (.aload_n 0, 1) := by decide +kernel
theorem dX4_draftSumWith_44 : decode cX4_draftSumWith 44 = .ok (.getfield 54, 3) := by decide +kernel
theorem dX4_draftSumWith_47 : decode cX4_draftSumWith 47 = .ok (.iload_n 2, 1) := by decide +kernel
theorem dX4_draftSumWith_48 : decode cX4_draftSumWith 48 = .ok (.aaload, 1) := by decide +kernel
theorem dX4_draftSumWith_49 : decode cX4_draftSumWith 49 = .ok (.aload_n 0, 1) := by decide +kernel
theorem dX4_draftSumWith_50 : decode cX4_draftSumWith 50 = .ok (.getfield 51, 3) := by decide +kernel
theorem dX4_draftSumWith_53 : decode cX4_draftSumWith 53 = .ok (.iload_n 2, 1) := by decide +kernel
theorem dX4_draftSumWith_54 : decode cX4_draftSumWith 54 = .ok (.aaload, 1) := by decide +kernel
theorem dX4_draftSumWith_55 : decode cX4_draftSumWith 55 = .ok (.invokevirtual 195, 3) := by decide +kernel
theorem dX4_draftSumWith_58 : decode cX4_draftSumWith 58 = .ok (.aload_n 0, 1) := by decide +kernel
theorem dX4_draftSumWith_59 : decode cX4_draftSumWith 59 = .ok (.getfield 54, 3) := by decide +kernel
theorem dX4_draftSumWith_62 : decode cX4_draftSumWith 62 = .ok (.iload_n 2, 1) := by decide +kernel
theorem dX4_draftSumWith_63 : decode cX4_draftSumWith 63 = .ok (.aaload, 1) := by decide +kernel
theorem dX4_draftSumWith_64 : decode cX4_draftSumWith 64 = .ok (.getfield 198, 3) := by decide +kernel
theorem dX4_draftSumWith_67 : decode cX4_draftSumWith 67 = .ok (.bipush 48, 2) := by decide +kernel
theorem dX4_draftSumWith_69 : decode cX4_draftSumWith 69 = .ok (.if_icmp .le 5, 3) := by decide +kernel
theorem dX4_draftSumWith_72 : decode cX4_draftSumWith 72 = .ok (.iconst 0, 1) := by decide +kernel
theorem dX4_draftSumWith_73 : decode cX4_draftSumWith 73 = .ok (.ireturn, 1) := by decide +kernel
theorem dX4_draftSumWith_74 : decode cX4_draftSumWith 74 = .ok (.iinc 2 1, 3) := by decide +kernel
theorem dX4_draftSumWith_77 : decode cX4_draftSumWith 77 = .ok (.goto (-75), 3) := by decide +kernel
theorem dX4_draftSumWith_80 : decode cX4_draftSumWith 80 = .ok (.iconst 1, 1) := by decide +kernel
theorem dX4_draftSumWith_81 : decode cX4_draftSumWith 81 = .ok (.ireturn, 1) := by decide +kernel
set_option maxRecDepth 20000 in
theorem ggX4_keepMade_X0_keep : GoodIn wsX4_keepMade wsX0_keep := goodIn_r _ [9, 10, 11, 12, 13, 14, 15, 16, 8, 17, 18, 19, 20, 21, 22, 23, 24, 25, 26, 27, 28, 29, 30, 31, 32, 33, 34, 35, 36, 37, 38, 71, 72, 73, 74, 75, 76, 68, 69, 70] (by decide +kernel) (by decide +kernel)
set_option maxRecDepth 20000 in
theorem gX4_keepMade_X0_keep : GoodIn wsX4_keepMade (wsV RX4 102 RX0 yX0_keep wsX0_keep) := goodIn_app (goodIn_of _ (by decide +kernel)) ggX4_keepMade_X0_keep
set_option maxRecDepth 20000 in
theorem ggX4_keepMade_X4_hasCoefficient : GoodIn wsX4_keepMade wsX4_hasCoefficient := goodIn_r _ [43, 2, 1, 44, 45, 46, 8, 47, 28, 11, 10, 48, 49, 50, 51, 52, 53, 54, 55, 56, 57, 58, 59, 60, 61, 62, 63, 64, 65, 66, 67, 71, 72, 73, 74, 75, 76] (by decide +kernel) (by decide +kernel)
set_option maxRecDepth 20000 in
theorem gX4_keepMade_X4_hasCoefficient : GoodIn wsX4_keepMade (wsV RX4 132 RX4 yX4_hasCoefficient wsX4_hasCoefficient) := goodIn_app (goodIn_of _ (by decide +kernel)) ggX4_keepMade_X4_hasCoefficient
theorem dX4_keepMade_0 : decode cX4_keepMade 0 = .ok (.aload_n 0, 1) := by decide +kernel
theorem dX4_keepMade_1 : decode cX4_keepMade 1 = .ok (.getfield 22, 3) := by decide +kernel
theorem dX4_keepMade_4 : decode cX4_keepMade 4 = .ok (.aload_n 1, 1) := by decide +kernel
theorem dX4_keepMade_5 : decode cX4_keepMade 5 = .ok (.invokevirtual 102, 3) := by decide +kernel
theorem dX4_keepMade_8 : decode cX4_keepMade 8 = .ok (.istore_n 2, 1) := by decide +kernel
theorem dX4_keepMade_9 : decode cX4_keepMade 9 = .ok (.iload_n 2, 1) := by decide +kernel
theorem dX4_keepMade_10 : decode cX4_keepMade 10 = .ok (.ifCond .lt 28, 3) := by decide +kernel
theorem dX4_keepMade_13 : decode cX4_keepMade 13 = .ok (.aload_n 1, 1) := by decide +kernel
theorem dX4_keepMade_14 : decode cX4_keepMade 14 = .ok (.aload_n 0, 1) := by decide +kernel
theorem dX4_keepMade_15 : decode cX4_keepMade 15 = .ok (.getfield 13, 3) := by decide +kernel
theorem dX4_keepMade_18 : decode cX4_keepMade 18 = .ok (.aaload, 1) := by decide +kernel
theorem dX4_keepMade_19 : decode cX4_keepMade 19 = .ok (.getfield 123, 3) := by decide +kernel
theorem dX4_keepMade_22 : decode cX4_keepMade 22 = .ok (.ifCond .ge 16, 3) := by decide +kernel
theorem dX4_keepMade_25 : decode cX4_keepMade 25 = .ok (.aload_n 0, 1) := by decide +kernel
theorem dX4_keepMade_26 : decode cX4_keepMade 26 = .ok (.iload_n 2, 1) := by decide +kernel
theorem dX4_keepMade_27 : decode cX4_keepMade 27 = .ok (.invokevirtual 132, 3) := by decide +kernel
theorem dX4_keepMade_30 : decode cX4_keepMade 30 = .ok (.ifCond .ne 8, 3) := by decide +kernel
theorem dX4_keepMade_33 : decode cX4_keepMade 33 = .ok (.aload_n 0, 1) := by decide +kernel
theorem dX4_keepMade_34 : decode cX4_keepMade 34 = .ok (.iconst 1, 1) := by decide +kernel
theorem dX4_keepMade_35 : decode cX4_keepMade 35 = .ok (.putfield 149, 3) := by decide +kernel
theorem dX4_keepMade_38 : decode cX4_keepMade 38 = .ok (.iload_n 2, 1) := by decide +kernel
theorem dX4_keepMade_39 : decode cX4_keepMade 39 = .ok (.ireturn, 1) := by decide +kernel
set_option maxRecDepth 20000 in
theorem ggX4_hasCoefficient_X0_signOf : GoodIn wsX4_hasCoefficient wsX0_signOf := goodIn_r _ [7, 8, 9, 10, 11, 12, 13, 14, 31, 32, 33, 34, 35, 36] (by decide +kernel) (by decide +kernel)
set_option maxRecDepth 20000 in
theorem gX4_hasCoefficient_X0_signOf : GoodIn wsX4_hasCoefficient (wsV RX4 165 RX0 yX0_signOf wsX0_signOf) := goodIn_app (goodIn_of _ (by decide +kernel)) ggX4_hasCoefficient_X0_signOf
theorem dX4_hasCoefficient_0 : decode cX4_hasCoefficient 0 = .ok (.iconst 0, 1) := by decide +kernel
theorem dX4_hasCoefficient_1 : decode cX4_hasCoefficient 1 = .ok (.istore_n 2, 1) := by decide +kernel
theorem dX4_hasCoefficient_2 : decode cX4_hasCoefficient 2 = .ok (.iload_n 2, 1) := by decide +kernel
theorem dX4_hasCoefficient_3 : decode cX4_hasCoefficient 3 = .ok (.aload_n 0, 1) := by decide +kernel
theorem dX4_hasCoefficient_4 : decode cX4_hasCoefficient 4 = .ok (.getfield 13, 3) := by decide +kernel
theorem dX4_hasCoefficient_7 : decode cX4_hasCoefficient 7 = .ok (.if_icmp .ge 23, 3) := by decide +kernel
theorem dX4_hasCoefficient_10 : decode cX4_hasCoefficient 10 = .ok (.aload_n 0, 1) := by decide +kernel
theorem dX4_hasCoefficient_11 : decode cX4_hasCoefficient 11 = .ok (.getfield 22, 3) := by decide +kernel
theorem dX4_hasCoefficient_14 : decode cX4_hasCoefficient 14 = .ok (.iload_n 1, 1) := by decide +kernel
theorem dX4_hasCoefficient_15 : decode cX4_hasCoefficient 15 = .ok (.iload_n 2, 1) := by decide +kernel
theorem dX4_hasCoefficient_16 : decode cX4_hasCoefficient 16 = .ok (.invokevirtual 165, 3) := by decide +kernel
theorem dX4_hasCoefficient_19 : decode cX4_hasCoefficient 19 = .ok (.ifCond .eq 5, 3) := by decide +kernel
theorem dX4_hasCoefficient_22 : decode cX4_hasCoefficient 22 = .ok (.iconst 1, 1) := by decide +kernel
theorem dX4_hasCoefficient_23 : decode cX4_hasCoefficient 23 = .ok (.ireturn, 1) := by decide +kernel
theorem dX4_hasCoefficient_24 : decode cX4_hasCoefficient 24 = .ok (.iinc 2 1, 3) := by decide +kernel
theorem dX4_hasCoefficient_27 : decode cX4_hasCoefficient 27 = .ok (.goto (-25), 3) := by decide +kernel
theorem dX4_hasCoefficient_30 : decode cX4_hasCoefficient 30 = .ok (.iconst 0, 1) := by decide +kernel
theorem dX4_hasCoefficient_31 : decode cX4_hasCoefficient 31 = .ok (.ireturn, 1) := by decide +kernel
set_option maxRecDepth 20000 in
theorem ggX4_findGreatestDivisor_X3_setZero : GoodIn wsX4_findGreatestDivisor wsX3_setZero := goodIn_r _ [10, 11, 12, 129, 130, 131] (by decide +kernel) (by decide +kernel)
set_option maxRecDepth 20000 in
theorem gX4_findGreatestDivisor_X3_setZero : GoodIn wsX4_findGreatestDivisor (wsV RX4 189 RX3 yX3_setZero wsX3_setZero) := goodIn_app (goodIn_of _ (by decide +kernel)) ggX4_findGreatestDivisor_X3_setZero
set_option maxRecDepth 20000 in
theorem ggX4_findGreatestDivisor_X0_load : GoodIn wsX4_findGreatestDivisor wsX0_load := goodIn_r _ [17, 18, 19, 20, 21, 22, 23, 24, 25, 26, 27, 28, 29, 30, 16, 31, 32, 33, 34, 35, 36, 37, 38, 39, 40, 41, 42, 43, 132, 133, 134, 135, 136, 137, 129, 130, 131] (by decide +kernel) (by decide +kernel)
set_option maxRecDepth 20000 in
theorem gX4_findGreatestDivisor_X0_load : GoodIn wsX4_findGreatestDivisor (wsV RX4 141 RX0 yX0_load wsX0_load) := goodIn_app (goodIn_of _ (by decide +kernel)) ggX4_findGreatestDivisor_X0_load
set_option maxRecDepth 20000 in
theorem ggX4_findGreatestDivisor_X1_narrowGreatest : GoodIn wsX4_findGreatestDivisor wsX1_narrowGreatest := goodIn_r _ [48, 49, 50, 51, 52, 53, 54, 55, 47, 56, 57, 58, 59, 60, 61, 9, 62, 11, 63, 64, 65, 42, 66, 67, 7, 8, 10, 12, 68, 69, 70, 71, 72, 23, 24, 25, 73, 74, 75, 76, 77, 78, 79, 80, 81, 82, 83, 84, 85, 86, 87, 88, 89, 90, 91, 92, 93, 94, 95, 96, 97, 98, 99, 100, 101, 102, 103, 104, 105, 106, 107, 129, 130, 131, 124, 125, 126, 127, 128] (by decide +kernel) (by decide +kernel)
set_option maxRecDepth 20000 in
theorem gX4_findGreatestDivisor_X1_narrowGreatest : GoodIn wsX4_findGreatestDivisor (wsV RX4 204 RX1 yX1_narrowGreatest wsX1_narrowGreatest) := goodIn_app (goodIn_of _ (by decide +kernel)) ggX4_findGreatestDivisor_X1_narrowGreatest
theorem dX4_findGreatestDivisor_0 : decode cX4_findGreatestDivisor 0 = .ok (.aload_n 0, 1) := by decide +kernel
theorem dX4_findGreatestDivisor_1 : decode cX4_findGreatestDivisor 1 = .ok (.getfield 47, 3) := by decide +kernel
theorem dX4_findGreatestDivisor_4 : decode cX4_findGreatestDivisor 4 = .ok (.getfield 201, 3) := by decide +kernel
theorem dX4_findGreatestDivisor_7 : decode cX4_findGreatestDivisor 7 = .ok (.invokevirtual 189, 3) := by decide +kernel
theorem dX4_findGreatestDivisor_10 : decode cX4_findGreatestDivisor 10 = .ok (.iconst 0, 1) := by decide +kernel
theorem dX4_findGreatestDivisor_11 : decode cX4_findGreatestDivisor 11 = .ok (.istore_n 2, 1) := by decide +kernel
theorem dX4_findGreatestDivisor_12 : decode cX4_findGreatestDivisor 12 = .ok (.iload_n 2, 1) := by decide +kernel
theorem dX4_findGreatestDivisor_13 : decode cX4_findGreatestDivisor 13 = .ok (.aload_n 0, 1) := by decide +kernel
theorem dX4_findGreatestDivisor_14 : decode cX4_findGreatestDivisor 14 = .ok (.getfield 13, 3) := by decide +kernel
theorem dX4_findGreatestDivisor_17 : decode cX4_findGreatestDivisor 17 = .ok (.if_icmp .ge 33, 3) := by decide +kernel
theorem dX4_findGreatestDivisor_20 : decode cX4_findGreatestDivisor 20 = .ok (.aload_n 0, 1) := by decide +kernel
theorem dX4_findGreatestDivisor_21 : decode cX4_findGreatestDivisor 21 = .ok (.getfield 22, 3) := by decide +kernel
theorem dX4_findGreatestDivisor_24 : decode cX4_findGreatestDivisor 24 = .ok (.iload_n 1, 1) := by decide +kernel
theorem dX4_findGreatestDivisor_25 : decode cX4_findGreatestDivisor 25 = .ok (.iload_n 2, 1) := by decide +kernel
theorem dX4_findGreatestDivisor_26 : decode cX4_findGreatestDivisor 26 = .ok (.aload_n 0, 1) := by decide +kernel
theorem dX4_findGreatestDivisor_27 : decode cX4_findGreatestDivisor 27 = .ok (.getfield 62, 3) := by decide +kernel
theorem dX4_findGreatestDivisor_30 : decode cX4_findGreatestDivisor 30 = .ok (.invokevirtual 141, 3) := by decide +kernel
theorem dX4_findGreatestDivisor_33 : decode cX4_findGreatestDivisor 33 = .ok (.aload_n 0, 1) := by decide +kernel
theorem dX4_findGreatestDivisor_34 : decode cX4_findGreatestDivisor 34 = .ok (.getfield 47, 3) := by decide +kernel
theorem dX4_findGreatestDivisor_37 : decode cX4_findGreatestDivisor 37 = .ok (.aload_n 0, 1) := by decide +kernel
theorem dX4_findGreatestDivisor_38 : decode cX4_findGreatestDivisor 38 = .ok (.getfield 62, 3) := by decide +kernel
theorem dX4_findGreatestDivisor_41 : decode cX4_findGreatestDivisor 41 = .ok (.invokevirtual 204, 3) := by decide +kernel
theorem dX4_findGreatestDivisor_44 : decode cX4_findGreatestDivisor 44 = .ok (.iinc 2 1, 3) := by decide +kernel
theorem dX4_findGreatestDivisor_47 : decode cX4_findGreatestDivisor 47 = .ok (.goto (-35), 3) := by decide +kernel
theorem dX4_findGreatestDivisor_50 : decode cX4_findGreatestDivisor 50 = .ok (.return_, 1) := by decide +kernel
set_option maxRecDepth 20000 in
theorem ggX4_holdsAtPoint_X0_load : GoodIn wsX4_holdsAtPoint wsX0_load := goodIn_r _ [12, 13, 14, 15, 16, 17, 18, 19, 20, 21, 22, 23, 24, 25, 11, 26, 27, 28, 29, 30, 31, 32, 33, 34, 35, 36, 37, 38, 116, 117, 118, 119, 120, 121, 113, 114, 115] (by decide +kernel) (by decide +kernel)
set_option maxRecDepth 20000 in
theorem gX4_holdsAtPoint_X0_load : GoodIn wsX4_holdsAtPoint (wsV RX4 141 RX0 yX0_load wsX0_load) := goodIn_app (goodIn_of _ (by decide +kernel)) ggX4_holdsAtPoint_X0_load
set_option maxRecDepth 20000 in
theorem ggX4_holdsAtPoint_X3_copyFrom : GoodIn wsX4_holdsAtPoint wsX3_copyFrom := goodIn_r _ [43, 44, 45, 46, 18, 19, 20, 47, 113, 114, 115] (by decide +kernel) (by decide +kernel)
set_option maxRecDepth 20000 in
theorem gX4_holdsAtPoint_X3_copyFrom : GoodIn wsX4_holdsAtPoint (wsV RX4 91 RX3 yX3_copyFrom wsX3_copyFrom) := goodIn_app (goodIn_of _ (by decide +kernel)) ggX4_holdsAtPoint_X3_copyFrom
set_option maxRecDepth 20000 in
theorem ggX4_holdsAtPoint_X3_setProduct : GoodIn wsX4_holdsAtPoint wsX3_setProduct := goodIn_r _ [51, 44, 45, 47, 52, 53, 54, 55, 56, 57, 58, 59, 60, 61, 62, 63, 64, 42, 65, 66, 67, 68, 69, 70, 113, 114, 115, 122, 123, 124, 125] (by decide +kernel) (by decide +kernel)
set_option maxRecDepth 20000 in
theorem gX4_holdsAtPoint_X3_setProduct : GoodIn wsX4_holdsAtPoint (wsV RX4 192 RX3 yX3_setProduct wsX3_setProduct) := goodIn_app (goodIn_of _ (by decide +kernel)) ggX4_holdsAtPoint_X3_setProduct
set_option maxRecDepth 20000 in
theorem ggX4_holdsAtPoint_X3_add : GoodIn wsX4_holdsAtPoint wsX3_add := goodIn_r _ [74, 47, 75, 76, 77, 42, 78, 45, 79, 80, 29, 81, 44, 66, 82, 83, 84, 85, 67, 68, 69, 70, 86, 87, 88, 89, 90, 91, 37, 92, 93, 94, 95, 96, 113, 114, 115] (by decide +kernel) (by decide +kernel)
set_option maxRecDepth 20000 in
theorem gX4_holdsAtPoint_X3_add : GoodIn wsX4_holdsAtPoint (wsV RX4 195 RX3 yX3_add wsX3_add) := goodIn_app (goodIn_of _ (by decide +kernel)) ggX4_holdsAtPoint_X3_add
theorem dX4_holdsAtPoint_0 : decode cX4_holdsAtPoint 0 = .ok (.aload_n 0, 1) := by decide +kernel
theorem dX4_holdsAtPoint_1 : decode cX4_holdsAtPoint 1 = .ok (.getfield 22, 3) := by decide +kernel
theorem dX4_holdsAtPoint_4 : decode cX4_holdsAtPoint 4 = .ok (.iload_n 1, 1) := by decide +kernel
theorem dX4_holdsAtPoint_5 : decode cX4_holdsAtPoint 5 = .ok (.aload_n 0, 1) := by decide +kernel
theorem dX4_holdsAtPoint_6 : decode cX4_holdsAtPoint 6 = .ok (.getfield 13, 3) := by decide +kernel
theorem dX4_holdsAtPoint_9 : decode cX4_holdsAtPoint 9 = .ok (.aload_n 0, 1) := by decide +kernel
theorem dX4_holdsAtPoint_10 : decode cX4_holdsAtPoint 10 = .ok (.getfield 62, 3) := by decide +kernel
theorem dX4_holdsAtPoint_13 : decode cX4_holdsAtPoint 13 = .ok (.invokevirtual 141, 3) := by decide +kernel
theorem dX4_holdsAtPoint_16 : decode cX4_holdsAtPoint 16 = .ok (.aload_n 0, 1) := by decide +kernel
theorem dX4_holdsAtPoint_17 : decode cX4_holdsAtPoint 17 = .ok (.getfield 69, 3) := by decide +kernel
theorem dX4_holdsAtPoint_20 : decode cX4_holdsAtPoint 20 = .ok (.aload_n 0, 1) := by decide +kernel
theorem dX4_holdsAtPoint_21 : decode cX4_holdsAtPoint 21 = .ok (.getfield 62, 3) := by decide +kernel
theorem dX4_holdsAtPoint_24 : decode cX4_holdsAtPoint 24 = .ok (.invokevirtual 91, 3) := by decide +kernel
theorem dX4_holdsAtPoint_27 : decode cX4_holdsAtPoint 27 = .ok (.aload_n 0, 1) := by decide +kernel
theorem dX4_holdsAtPoint_28 : decode cX4_holdsAtPoint 28 = .ok (.getfield 69, 3) := by decide +kernel
theorem dX4_holdsAtPoint_31 : decode cX4_holdsAtPoint 31 = .ok (.aload_n 0, 1) := by decide +kernel
theorem dX4_holdsAtPoint_32 : decode cX4_holdsAtPoint 32 = .ok (.getfield 69, 3) := by decide +kernel
theorem dX4_holdsAtPoint_35 : decode cX4_holdsAtPoint 35 = .ok (.getfield 123, 3) := by decide +kernel
theorem dX4_holdsAtPoint_38 : decode cX4_holdsAtPoint 38 = .ok (.ineg, 1) := by decide +kernel
theorem dX4_holdsAtPoint_39 : decode cX4_holdsAtPoint 39 = .ok (.putfield 123, 3) := by decide +kernel
theorem dX4_holdsAtPoint_42 : decode cX4_holdsAtPoint 42 = .ok (.iconst 0, 1) := by decide +kernel
theorem dX4_holdsAtPoint_43 : decode cX4_holdsAtPoint 43 = .ok (.istore_n 2, 1) := by decide +kernel
theorem dX4_holdsAtPoint_44 : decode cX4_holdsAtPoint 44 = .ok (.iload_n 2, 1) := by decide +kernel
theorem dX4_holdsAtPoint_45 : decode cX4_holdsAtPoint 45 = .ok (.aload_n 0, 1) := by decide +kernel
theorem dX4_holdsAtPoint_46 : decode cX4_holdsAtPoint 46 = .ok (.getfield 13, 3) := by decide +kernel
theorem dX4_holdsAtPoint_49 : decode cX4_holdsAtPoint 49 = .ok (.if_icmp .ge 50, 3) := by decide +kernel
theorem dX4_holdsAtPoint_52 : decode cX4_holdsAtPoint 52 = .ok (.aload_n 0, 1) := by decide +kernel
theorem dX4_holdsAtPoint_53 : decode cX4_holdsAtPoint 53 = .ok (.getfield 22, 3) := by decide +kernel
theorem dX4_holdsAtPoint_56 : decode cX4_holdsAtPoint 56 = .ok (.iload_n 1, 1) := by decide +kernel
theorem dX4_holdsAtPoint_57 : decode cX4_holdsAtPoint 57 = .ok (.iload_n 2, 1) := by decide +kernel
theorem dX4_holdsAtPoint_58 : decode cX4_holdsAtPoint 58 = .ok (.aload_n 0, 1) := by decide +kernel
theorem dX4_holdsAtPoint_59 : decode cX4_holdsAtPoint 59 = .ok (.getfield 62, 3) := by decide +kernel
theorem dX4_holdsAtPoint_62 : decode cX4_holdsAtPoint 62 = .ok (.invokevirtual 141, 3) := by decide +kernel
theorem dX4_holdsAtPoint_65 : decode cX4_holdsAtPoint 65 = .ok (.aload_n 0, 1) := by decide +kernel
theorem dX4_holdsAtPoint_66 : decode cX4_holdsAtPoint 66 = .ok (.getfield 66, 3) := by decide +kernel
theorem dX4_holdsAtPoint_69 : decode cX4_holdsAtPoint 69 = .ok (.aload_n 0, 1) := by decide +kernel
theorem dX4_holdsAtPoint_70 : decode cX4_holdsAtPoint 70 = .ok (.getfield 62, 3) := by decide +kernel
theorem dX4_holdsAtPoint_73 : decode cX4_holdsAtPoint 73 = .ok (.aload_n 0, 1) := by decide +kernel
theorem dX4_holdsAtPoint_74 : decode cX4_holdsAtPoint 74 = .ok (.getfield 41, 3) := by decide +kernel
theorem dX4_holdsAtPoint_77 : decode cX4_holdsAtPoint 77 = .ok (.iload_n 2, 1) := by decide +kernel
theorem dX4_holdsAtPoint_78 : decode cX4_holdsAtPoint 78 = .ok (.aaload, 1) := by decide +kernel
theorem dX4_holdsAtPoint_79 : decode cX4_holdsAtPoint 79 = .ok (.invokevirtual 192, 3) := by decide +kernel
theorem dX4_holdsAtPoint_82 : decode cX4_holdsAtPoint 82 = .ok (.aload_n 0, 1) := by decide +kernel
theorem dX4_holdsAtPoint_83 : decode cX4_holdsAtPoint 83 = .ok (.getfield 69, 3) := by decide +kernel
theorem dX4_holdsAtPoint_86 : decode cX4_holdsAtPoint 86 = .ok (.aload_n 0, 1) := by decide +kernel
theorem dX4_holdsAtPoint_87 : decode cX4_holdsAtPoint 87 = .ok (.getfield 66, 3) := by decide +kernel
theorem dX4_holdsAtPoint_90 : decode cX4_holdsAtPoint 90 = .ok (.invokevirtual 195, 3) := by decide +kernel
theorem dX4_holdsAtPoint_93 : decode cX4_holdsAtPoint 93 = .ok (.iinc 2 1, 3) := by decide +kernel
theorem dX4_holdsAtPoint_96 : decode cX4_holdsAtPoint 96 = .ok (.goto (-52), 3) := by decide +kernel
theorem dX4_holdsAtPoint_99 : decode cX4_holdsAtPoint 99 = .ok (.aload_n 0, 1) := by decide +kernel
theorem dX4_holdsAtPoint_100 : decode cX4_holdsAtPoint 100 = .ok (.getfield 69, 3) := by decide +kernel
theorem dX4_holdsAtPoint_103 : decode cX4_holdsAtPoint 103 = .ok (.getfield 123, 3) := by decide +kernel
theorem dX4_holdsAtPoint_106 : decode cX4_holdsAtPoint 106 = .ok (.ifCond .gt 7, 3) := by decide +kernel
theorem dX4_holdsAtPoint_109 : decode cX4_holdsAtPoint 109 = .ok (.iconst 1, 1) := by decide +kernel
theorem dX4_holdsAtPoint_110 : decode cX4_holdsAtPoint 110 = .ok (.goto 4, 3) := by decide +kernel
theorem dX4_holdsAtPoint_113 : decode cX4_holdsAtPoint 113 = .ok (.iconst 0, 1) := by decide +kernel
theorem dX4_holdsAtPoint_114 : decode cX4_holdsAtPoint 114 = .ok (.ireturn, 1) := by decide +kernel
