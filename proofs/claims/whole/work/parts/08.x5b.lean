theorem dX5_common_59 : decode cX5_common 59 = .ok (.ifCond .eq 33, 3) := by decide +kernel
theorem dX5_common_62 : decode cX5_common 62 = .ok (.aload_n 0, 1) := by decide +kernel
theorem dX5_common_63 : decode cX5_common 63 = .ok (.sipush 444, 3) := by decide +kernel
theorem dX5_common_66 : decode cX5_common 66 = .ok (.invokevirtual 74, 3) := by decide +kernel
theorem dX5_common_69 : decode cX5_common 69 = .ok (.ifCond .eq 23, 3) := by decide +kernel
theorem dX5_common_72 : decode cX5_common 72 = .ok (.aload_n 0, 1) := by decide +kernel
theorem dX5_common_73 : decode cX5_common 73 = .ok (.sipush 443, 3) := by decide +kernel
theorem dX5_common_76 : decode cX5_common 76 = .ok (.invokevirtual 78, 3) := by decide +kernel
theorem dX5_common_79 : decode cX5_common 79 = .ok (.aload_n 0, 1) := by decide +kernel
theorem dX5_common_80 : decode cX5_common 80 = .ok (.sipush 444, 3) := by decide +kernel
theorem dX5_common_83 : decode cX5_common 83 = .ok (.invokevirtual 78, 3) := by decide +kernel
theorem dX5_common_86 : decode cX5_common 86 = .ok (.iinc 2 1, 3) := by decide +kernel
theorem dX5_common_89 : decode cX5_common 89 = .ok (.goto (-48), 3) := by decide +kernel
theorem dX5_common_92 : decode cX5_common 92 = .ok (.aload_n 0, 1) := by decide +kernel
theorem dX5_common_93 : decode cX5_common 93 = .ok (.getfield 13, 3) := by decide +kernel
theorem dX5_common_96 : decode cX5_common 96 = .ok (.sipush 444, 3) := by decide +kernel
theorem dX5_common_99 : decode cX5_common 99 = .ok (.iaload, 1) := by decide +kernel
theorem dX5_common_100 : decode cX5_common 100 = .ok (.ifCond .le 88, 3) := by decide +kernel
theorem dX5_common_103 : decode cX5_common 103 = .ok (.aload_n 0, 1) := by decide +kernel
theorem dX5_common_104 : decode cX5_common 104 = .ok (.sipush 443, 3) := by decide +kernel
theorem dX5_common_107 : decode cX5_common 107 = .ok (.invokevirtual 74, 3) := by decide +kernel
theorem dX5_common_110 : decode cX5_common 110 = .ok (.ifCond .eq 13, 3) := by decide +kernel
theorem dX5_common_113 : decode cX5_common 113 = .ok (.aload_n 0, 1) := by decide +kernel
theorem dX5_common_114 : decode cX5_common 114 = .ok (.sipush 443, 3) := by decide +kernel
theorem dX5_common_117 : decode cX5_common 117 = .ok (.invokevirtual 78, 3) := by decide +kernel
theorem dX5_common_120 : decode cX5_common 120 = .ok (.goto (-17), 3) := by decide +kernel
theorem dX5_common_123 : decode cX5_common 123 = .ok (.aload_n 0, 1) := by decide +kernel
theorem dX5_common_124 : decode cX5_common 124 = .ok (.sipush 444, 3) := by decide +kernel
theorem dX5_common_127 : decode cX5_common 127 = .ok (.invokevirtual 74, 3) := by decide +kernel
theorem dX5_common_130 : decode cX5_common 130 = .ok (.ifCond .eq 13, 3) := by decide +kernel
theorem dX5_common_133 : decode cX5_common 133 = .ok (.aload_n 0, 1) := by decide +kernel
theorem dX5_common_134 : decode cX5_common 134 = .ok (.sipush 444, 3) := by decide +kernel
theorem dX5_common_137 : decode cX5_common 137 = .ok (.invokevirtual 78, 3) := by decide +kernel
theorem dX5_common_140 : decode cX5_common 140 = .ok (.goto (-17), 3) := by decide +kernel
theorem dX5_common_143 : decode cX5_common 143 = .ok (.aload_n 0, 1) := by decide +kernel
theorem dX5_common_144 : decode cX5_common 144 = .ok (.sipush 443, 3) := by decide +kernel
theorem dX5_common_147 : decode cX5_common 147 = .ok (.sipush 444, 3) := by decide +kernel
theorem dX5_common_150 : decode cX5_common 150 = .ok (.invokevirtual 51, 3) := by decide +kernel
theorem dX5_common_153 : decode cX5_common 153 = .ok (.ifCond .le 19, 3) := by decide +kernel
theorem dX5_common_156 : decode cX5_common 156 = .ok (.aload_n 0, 1) := by decide +kernel
theorem dX5_common_157 : decode cX5_common 157 = .ok (.sipush 443, 3) := by decide +kernel
theorem dX5_common_160 : decode cX5_common 160 = .ok (.sipush 443, 3) := by decide +kernel
theorem dX5_common_163 : decode cX5_common 163 = .ok (.sipush 444, 3) := by decide +kernel
theorem dX5_common_166 : decode cX5_common 166 = .ok (.invokevirtual 54, 3) := by decide +kernel
theorem dX5_common_169 : decode cX5_common 169 = .ok (.goto (-77), 3) := by decide +kernel
theorem dX5_common_172 : decode cX5_common 172 = .ok (.aload_n 0, 1) := by decide +kernel
theorem dX5_common_173 : decode cX5_common 173 = .ok (.sipush 444, 3) := by decide +kernel
theorem dX5_common_176 : decode cX5_common 176 = .ok (.sipush 444, 3) := by decide +kernel
theorem dX5_common_179 : decode cX5_common 179 = .ok (.sipush 443, 3) := by decide +kernel
theorem dX5_common_182 : decode cX5_common 182 = .ok (.invokevirtual 54, 3) := by decide +kernel
theorem dX5_common_185 : decode cX5_common 185 = .ok (.goto (-93), 3) := by decide +kernel
theorem dX5_common_188 : decode cX5_common 188 = .ok (.iconst 0, 1) := by decide +kernel
theorem dX5_common_189 : decode cX5_common 189 = .ok (.istore_n 3, 1) := by decide +kernel
theorem dX5_common_190 : decode cX5_common 190 = .ok (.iload_n 3, 1) := by decide +kernel
theorem dX5_common_191 : decode cX5_common 191 = .ok (.iload_n 2, 1) := by decide +kernel
theorem dX5_common_192 : decode cX5_common 192 = .ok (.if_icmp .ge 22, 3) := by decide +kernel
theorem dX5_common_195 : decode cX5_common 195 = .ok (.aload_n 0, 1) := by decide +kernel
theorem dX5_common_196 : decode cX5_common 196 = .ok (.sipush 443, 3) := by decide +kernel
theorem dX5_common_199 : decode cX5_common 199 = .ok (.sipush 443, 3) := by decide +kernel
theorem dX5_common_202 : decode cX5_common 202 = .ok (.sipush 443, 3) := by decide +kernel
theorem dX5_common_205 : decode cX5_common 205 = .ok (.invokevirtual 47, 3) := by decide +kernel
theorem dX5_common_208 : decode cX5_common 208 = .ok (.iinc 3 1, 3) := by decide +kernel
theorem dX5_common_211 : decode cX5_common 211 = .ok (.goto (-21), 3) := by decide +kernel
theorem dX5_common_214 : decode cX5_common 214 = .ok (.return_, 1) := by decide +kernel
set_option maxRecDepth 20000 in
theorem ggX5_beginNumber_X5_clear : GoodIn wsX5_beginNumber wsX5_clear := goodIn_r _ [9, 10, 11, 12, 13, 14, 15, 16, 17, 18, 19, 20, 21, 22, 23, 24, 25, 26] (by decide +kernel) (by decide +kernel)
set_option maxRecDepth 20000 in
theorem gX5_beginNumber_X5_clear : GoodIn wsX5_beginNumber (wsV RX5 62 RX5 yX5_clear wsX5_clear) := goodIn_app (goodIn_of _ (by decide +kernel)) ggX5_beginNumber_X5_clear
theorem dX5_beginNumber_0 : decode cX5_beginNumber 0 = .ok (.aload_n 0, 1) := by decide +kernel
theorem dX5_beginNumber_1 : decode cX5_beginNumber 1 = .ok (.iconst 0, 1) := by decide +kernel
theorem dX5_beginNumber_2 : decode cX5_beginNumber 2 = .ok (.putfield 34, 3) := by decide +kernel
theorem dX5_beginNumber_5 : decode cX5_beginNumber 5 = .ok (.iload_n 1, 1) := by decide +kernel
theorem dX5_beginNumber_6 : decode cX5_beginNumber 6 = .ok (.iconst (-1), 1) := by decide +kernel
theorem dX5_beginNumber_7 : decode cX5_beginNumber 7 = .ok (.if_icmp .lt 8, 3) := by decide +kernel
theorem dX5_beginNumber_10 : decode cX5_beginNumber 10 = .ok (.iload_n 1, 1) := by decide +kernel
theorem dX5_beginNumber_11 : decode cX5_beginNumber 11 = .ok (.iconst 1, 1) := by decide +kernel
theorem dX5_beginNumber_12 : decode cX5_beginNumber 12 = .ok (.if_icmp .le 5, 3) := by decide +kernel
theorem dX5_beginNumber_15 : decode cX5_beginNumber 15 = .ok (.iconst 0, 1) := by decide +kernel
theorem dX5_beginNumber_16 : decode cX5_beginNumber 16 = .ok (.ireturn, 1) := by decide +kernel
theorem dX5_beginNumber_17 : decode cX5_beginNumber 17 = .ok (.aload_n 0, 1) := by decide +kernel
theorem dX5_beginNumber_18 : decode cX5_beginNumber 18 = .ok (.iload_n 1, 1) := by decide +kernel
theorem dX5_beginNumber_19 : decode cX5_beginNumber 19 = .ok (.putfield 81, 3) := by decide +kernel
theorem dX5_beginNumber_22 : decode cX5_beginNumber 22 = .ok (.aload_n 0, 1) := by decide +kernel
theorem dX5_beginNumber_23 : decode cX5_beginNumber 23 = .ok (.iconst 1, 1) := by decide +kernel
theorem dX5_beginNumber_24 : decode cX5_beginNumber 24 = .ok (.putfield 84, 3) := by decide +kernel
theorem dX5_beginNumber_27 : decode cX5_beginNumber 27 = .ok (.aload_n 0, 1) := by decide +kernel
theorem dX5_beginNumber_28 : decode cX5_beginNumber 28 = .ok (.iconst 0, 1) := by decide +kernel
theorem dX5_beginNumber_29 : decode cX5_beginNumber 29 = .ok (.putfield 87, 3) := by decide +kernel
theorem dX5_beginNumber_32 : decode cX5_beginNumber 32 = .ok (.aload_n 0, 1) := by decide +kernel
theorem dX5_beginNumber_33 : decode cX5_beginNumber 33 = .ok (.sipush 440, 3) := by decide +kernel
theorem dX5_beginNumber_36 : decode cX5_beginNumber 36 = .ok (.invokevirtual 62, 3) := by decide +kernel
theorem dX5_beginNumber_39 : decode cX5_beginNumber 39 = .ok (.iconst 1, 1) := by decide +kernel
theorem dX5_beginNumber_40 : decode cX5_beginNumber 40 = .ok (.ireturn, 1) := by decide +kernel
theorem dX5_limb_0 : decode cX5_limb 0 = .ok (.aload_n 0, 1) := by decide +kernel
theorem dX5_limb_1 : decode cX5_limb 1 = .ok (.iconst 0, 1) := by decide +kernel
theorem dX5_limb_2 : decode cX5_limb 2 = .ok (.putfield 34, 3) := by decide +kernel
theorem dX5_limb_5 : decode cX5_limb 5 = .ok (.iload_n 1, 1) := by decide +kernel
theorem dX5_limb_6 : decode cX5_limb 6 = .ok (.ifCond .lt 20, 3) := by decide +kernel
theorem dX5_limb_9 : decode cX5_limb 9 = .ok (.aload_n 0, 1) := by decide +kernel
theorem dX5_limb_10 : decode cX5_limb 10 = .ok (.getfield 84, 3) := by decide +kernel
theorem dX5_limb_13 : decode cX5_limb 13 = .ok (.iconst 1, 1) := by decide +kernel
theorem dX5_limb_14 : decode cX5_limb 14 = .ok (.if_icmp .ne 12, 3) := by decide +kernel
theorem dX5_limb_17 : decode cX5_limb 17 = .ok (.aload_n 0, 1) := by decide +kernel
theorem dX5_limb_18 : decode cX5_limb 18 = .ok (.getfield 87, 3) := by decide +kernel
theorem dX5_limb_21 : decode cX5_limb 21 = .ok (.bipush 20, 2) := by decide +kernel
theorem dX5_limb_23 : decode cX5_limb 23 = .ok (.if_icmp .ne 5, 3) := by decide +kernel
theorem dX5_limb_26 : decode cX5_limb 26 = .ok (.iconst 0, 1) := by decide +kernel
theorem dX5_limb_27 : decode cX5_limb 27 = .ok (.ireturn, 1) := by decide +kernel
theorem dX5_limb_28 : decode cX5_limb 28 = .ok (.aload_n 0, 1) := by decide +kernel
theorem dX5_limb_29 : decode cX5_limb 29 = .ok (.getfield 7, 3) := by decide +kernel
theorem dX5_limb_32 : decode cX5_limb 32 = .ok (.sipush 31680, 3) := by decide +kernel
theorem dX5_limb_35 : decode cX5_limb 35 = .ok (.aload_n 0, 1) := by decide +kernel
theorem dX5_limb_36 : decode cX5_limb 36 = .ok (.getfield 87, 3) := by decide +kernel
theorem dX5_limb_39 : decode cX5_limb 39 = .ok (.iadd, 1) := by decide +kernel
theorem dX5_limb_40 : decode cX5_limb 40 = .ok (.iload_n 1, 1) := by decide +kernel
theorem dX5_limb_41 : decode cX5_limb 41 = .ok (.iastore, 1) := by decide +kernel
theorem dX5_limb_42 : decode cX5_limb 42 = .ok (.aload_n 0, 1) := by decide +kernel
theorem dX5_limb_43 : decode cX5_limb 43 = .ok (.dup, 1) := by decide +kernel
theorem dX5_limb_44 : decode cX5_limb 44 = .ok (.getfield 87, 3) := by decide +kernel
theorem dX5_limb_47 : decode cX5_limb 47 = .ok (.iconst 1, 1) := by decide +kernel
theorem dX5_limb_48 : decode cX5_limb 48 = .ok (.iadd, 1) := by decide +kernel
theorem dX5_limb_49 : decode cX5_limb 49 = .ok (.putfield 87, 3) := by decide +kernel
theorem dX5_limb_52 : decode cX5_limb 52 = .ok (.iconst 1, 1) := by decide +kernel
theorem dX5_limb_53 : decode cX5_limb 53 = .ok (.ireturn, 1) := by decide +kernel
set_option maxRecDepth 20000 in
theorem ggX5_settle_X5_trim : GoodIn wsX5_settle wsX5_trim := goodIn_r _ [9, 1, 10, 4, 11, 12, 13, 14, 15, 16, 17, 18, 19, 20, 21, 22, 23, 24, 25] (by decide +kernel) (by decide +kernel)
set_option maxRecDepth 20000 in
theorem gX5_settle_X5_trim : GoodIn wsX5_settle (wsV RX5 43 RX5 yX5_trim wsX5_trim) := goodIn_app (goodIn_of _ (by decide +kernel)) ggX5_settle_X5_trim
theorem dX5_settle_0 : decode cX5_settle 0 = .ok (.aload_n 0, 1) := by decide +kernel
theorem dX5_settle_1 : decode cX5_settle 1 = .ok (.getfield 13, 3) := by decide +kernel
theorem dX5_settle_4 : decode cX5_settle 4 = .ok (.sipush 440, 3) := by decide +kernel
theorem dX5_settle_7 : decode cX5_settle 7 = .ok (.aload_n 0, 1) := by decide +kernel
theorem dX5_settle_8 : decode cX5_settle 8 = .ok (.getfield 81, 3) := by decide +kernel
theorem dX5_settle_11 : decode cX5_settle 11 = .ok (.ifCond .ne 7, 3) := by decide +kernel
theorem dX5_settle_14 : decode cX5_settle 14 = .ok (.iconst 0, 1) := by decide +kernel
theorem dX5_settle_15 : decode cX5_settle 15 = .ok (.goto 7, 3) := by decide +kernel
theorem dX5_settle_18 : decode cX5_settle 18 = .ok (.aload_n 0, 1) := by decide +kernel
theorem dX5_settle_19 : decode cX5_settle 19 = .ok (.getfield 87, 3) := by decide +kernel
theorem dX5_settle_22 : decode cX5_settle 22 = .ok (.iastore, 1) := by decide +kernel
theorem dX5_settle_23 : decode cX5_settle 23 = .ok (.aload_n 0, 1) := by decide +kernel
theorem dX5_settle_24 : decode cX5_settle 24 = .ok (.getfield 16, 3) := by decide +kernel
theorem dX5_settle_27 : decode cX5_settle 27 = .ok (.sipush 440, 3) := by decide +kernel
theorem dX5_settle_30 : decode cX5_settle 30 = .ok (.aload_n 0, 1) := by decide +kernel
theorem dX5_settle_31 : decode cX5_settle 31 = .ok (.getfield 81, 3) := by decide +kernel
theorem dX5_settle_34 : decode cX5_settle 34 = .ok (.ifCond .ge 7, 3) := by decide +kernel
theorem dX5_settle_37 : decode cX5_settle 37 = .ok (.iconst 1, 1) := by decide +kernel
theorem dX5_settle_38 : decode cX5_settle 38 = .ok (.goto 4, 3) := by decide +kernel
theorem dX5_settle_41 : decode cX5_settle 41 = .ok (.iconst 0, 1) := by decide +kernel
theorem dX5_settle_42 : decode cX5_settle 42 = .ok (.bastore, 1) := by decide +kernel
theorem dX5_settle_43 : decode cX5_settle 43 = .ok (.aload_n 0, 1) := by decide +kernel
theorem dX5_settle_44 : decode cX5_settle 44 = .ok (.sipush 440, 3) := by decide +kernel
theorem dX5_settle_47 : decode cX5_settle 47 = .ok (.invokevirtual 43, 3) := by decide +kernel
theorem dX5_settle_50 : decode cX5_settle 50 = .ok (.return_, 1) := by decide +kernel
set_option maxRecDepth 20000 in
theorem ggX5_endCoefficient_X5_settle : GoodIn wsX5_endCoefficient wsX5_settle := goodIn_r _ [9, 10, 11, 12, 13, 14, 15, 16, 8, 17, 18, 23, 24, 25, 26, 27, 28, 29, 30, 31, 32, 33, 34, 35, 36, 37] (by decide +kernel) (by decide +kernel)
set_option maxRecDepth 20000 in
theorem gX5_endCoefficient_X5_settle : GoodIn wsX5_endCoefficient (wsV RX5 93 RX5 yX5_settle wsX5_settle) := goodIn_app (goodIn_of _ (by decide +kernel)) ggX5_endCoefficient_X5_settle
set_option maxRecDepth 20000 in
theorem ggX5_endCoefficient_X5_copy : GoodIn wsX5_endCoefficient wsX5_copy := goodIn_r _ [22, 10, 13, 18, 23, 24, 25, 26, 27, 28, 29, 30, 31, 32, 33, 34, 35, 36, 37] (by decide +kernel) (by decide +kernel)
set_option maxRecDepth 20000 in
theorem gX5_endCoefficient_X5_copy : GoodIn wsX5_endCoefficient (wsV RX5 58 RX5 yX5_copy wsX5_copy) := goodIn_app (goodIn_of _ (by decide +kernel)) ggX5_endCoefficient_X5_copy
theorem dX5_endCoefficient_0 : decode cX5_endCoefficient 0 = .ok (.aload_n 0, 1) := by decide +kernel
theorem dX5_endCoefficient_1 : decode cX5_endCoefficient 1 = .ok (.iconst 0, 1) := by decide +kernel
theorem dX5_endCoefficient_2 : decode cX5_endCoefficient 2 = .ok (.putfield 34, 3) := by decide +kernel
theorem dX5_endCoefficient_5 : decode cX5_endCoefficient 5 = .ok (.aload_n 0, 1) := by decide +kernel
theorem dX5_endCoefficient_6 : decode cX5_endCoefficient 6 = .ok (.getfield 84, 3) := by decide +kernel
theorem dX5_endCoefficient_9 : decode cX5_endCoefficient 9 = .ok (.iconst 1, 1) := by decide +kernel
theorem dX5_endCoefficient_10 : decode cX5_endCoefficient 10 = .ok (.if_icmp .ne 16, 3) := by decide +kernel
theorem dX5_endCoefficient_13 : decode cX5_endCoefficient 13 = .ok (.aload_n 0, 1) := by decide +kernel
theorem dX5_endCoefficient_14 : decode cX5_endCoefficient 14 = .ok (.getfield 90, 3) := by decide +kernel
theorem dX5_endCoefficient_17 : decode cX5_endCoefficient 17 = .ok (.aload_n 0, 1) := by decide +kernel
theorem dX5_endCoefficient_18 : decode cX5_endCoefficient 18 = .ok (.getfield 24, 3) := by decide +kernel
theorem dX5_endCoefficient_21 : decode cX5_endCoefficient 21 = .ok (.iconst 1, 1) := by decide +kernel
theorem dX5_endCoefficient_22 : decode cX5_endCoefficient 22 = .ok (.iadd, 1) := by decide +kernel
theorem dX5_endCoefficient_23 : decode cX5_endCoefficient 23 = .ok (.if_icmp .ne 5, 3) := by decide +kernel
theorem dX5_endCoefficient_26 : decode cX5_endCoefficient 26 = .ok (.iconst 0, 1) := by decide +kernel
theorem dX5_endCoefficient_27 : decode cX5_endCoefficient 27 = .ok (.ireturn, 1) := by decide +kernel
theorem dX5_endCoefficient_28 : decode cX5_endCoefficient 28 = .ok (.aload_n 0, 1) := by decide +kernel
theorem dX5_endCoefficient_29 : decode cX5_endCoefficient 29 = .ok (.invokevirtual 93, 3) := by decide +kernel
theorem dX5_endCoefficient_32 : decode cX5_endCoefficient 32 = .ok (.aload_n 0, 1) := by decide +kernel
theorem dX5_endCoefficient_33 : decode cX5_endCoefficient 33 = .ok (.iconst 2, 1) := by decide +kernel
theorem dX5_endCoefficient_34 : decode cX5_endCoefficient 34 = .ok (.putfield 84, 3) := by decide +kernel
theorem dX5_endCoefficient_37 : decode cX5_endCoefficient 37 = .ok (.aload_n 0, 1) := by decide +kernel
theorem dX5_endCoefficient_38 : decode cX5_endCoefficient 38 = .ok (.sipush 420, 3) := by decide +kernel
theorem dX5_endCoefficient_41 : decode cX5_endCoefficient 41 = .ok (.aload_n 0, 1) := by decide +kernel
theorem dX5_endCoefficient_42 : decode cX5_endCoefficient 42 = .ok (.getfield 90, 3) := by decide +kernel
theorem dX5_endCoefficient_45 : decode cX5_endCoefficient 45 = .ok (.iadd, 1) := by decide +kernel
theorem dX5_endCoefficient_46 : decode cX5_endCoefficient 46 = .ok (.sipush 440, 3) := by decide +kernel
theorem dX5_endCoefficient_49 : decode cX5_endCoefficient 49 = .ok (.invokevirtual 58, 3) := by decide +kernel
theorem dX5_endCoefficient_52 : decode cX5_endCoefficient 52 = .ok (.aload_n 0, 1) := by decide +kernel
theorem dX5_endCoefficient_53 : decode cX5_endCoefficient 53 = .ok (.dup, 1) := by decide +kernel
theorem dX5_endCoefficient_54 : decode cX5_endCoefficient 54 = .ok (.getfield 90, 3) := by decide +kernel
theorem dX5_endCoefficient_57 : decode cX5_endCoefficient 57 = .ok (.iconst 1, 1) := by decide +kernel
theorem dX5_endCoefficient_58 : decode cX5_endCoefficient 58 = .ok (.iadd, 1) := by decide +kernel
theorem dX5_endCoefficient_59 : decode cX5_endCoefficient 59 = .ok (.putfield 90, 3) := by decide +kernel
theorem dX5_endCoefficient_62 : decode cX5_endCoefficient 62 = .ok (.iconst 1, 1) := by decide +kernel
theorem dX5_endCoefficient_63 : decode cX5_endCoefficient 63 = .ok (.ireturn, 1) := by decide +kernel
theorem dX5_placeOf_0 : decode cX5_placeOf 0 = .ok (.bipush 7, 2) := by decide +kernel
theorem dX5_placeOf_2 : decode cX5_placeOf 2 = .ok (.iload_n 0, 1) := by decide +kernel
theorem dX5_placeOf_3 : decode cX5_placeOf 3 = .ok (.imul, 1) := by decide +kernel
theorem dX5_placeOf_4 : decode cX5_placeOf 4 = .ok (.iload_n 1, 1) := by decide +kernel
theorem dX5_placeOf_5 : decode cX5_placeOf 5 = .ok (.iadd, 1) := by decide +kernel
theorem dX5_placeOf_6 : decode cX5_placeOf 6 = .ok (.ireturn, 1) := by decide +kernel
set_option maxRecDepth 20000 in
theorem ggX5_store_X5_placeOf : GoodIn wsX5_store wsX5_placeOf := goodIn_r _ [9] (by decide +kernel) (by decide +kernel)
set_option maxRecDepth 20000 in
theorem gX5_store_X5_placeOf : GoodIn wsX5_store (va_wsS RX5 99 yX5_placeOf wsX5_placeOf) := goodIn_app (goodIn_of _ (by decide +kernel)) ggX5_store_X5_placeOf
set_option maxRecDepth 20000 in
theorem ggX5_store_X5_copy : GoodIn wsX5_store wsX5_copy := goodIn_r _ [13, 2, 14, 15, 16, 17, 18, 19, 20, 21, 22, 23, 24, 25, 26, 27, 28, 29, 30] (by decide +kernel) (by decide +kernel)
set_option maxRecDepth 20000 in
theorem gX5_store_X5_copy : GoodIn wsX5_store (wsV RX5 58 RX5 yX5_copy wsX5_copy) := goodIn_app (goodIn_of _ (by decide +kernel)) ggX5_store_X5_copy
theorem dX5_store_0 : decode cX5_store 0 = .ok (.iconst 0, 1) := by decide +kernel
theorem dX5_store_1 : decode cX5_store 1 = .ok (.istore_n 2, 1) := by decide +kernel
theorem dX5_store_2 : decode cX5_store 2 = .ok (.iconst 0, 1) := by decide +kernel
theorem dX5_store_3 : decode cX5_store 3 = .ok (.istore_n 3, 1) := by decide +kernel
theorem dX5_store_4 : decode cX5_store 4 = .ok (.iload_n 3, 1) := by decide +kernel
theorem dX5_store_5 : decode cX5_store 5 = .ok (.aload_n 0, 1) := by decide +kernel
theorem dX5_store_6 : decode cX5_store 6 = .ok (.getfield 24, 3) := by decide +kernel
theorem dX5_store_9 : decode cX5_store 9 = .ok (.if_icmp .gt 22, 3) := by decide +kernel
theorem dX5_store_12 : decode cX5_store 12 = .ok (.iload_n 2, 1) := by decide +kernel
theorem dX5_store_13 : decode cX5_store 13 = .ok (.iconst 1, 1) := by decide +kernel
theorem dX5_store_14 : decode cX5_store 14 = .ok (.iadd, 1) := by decide +kernel
theorem dX5_store_15 : decode cX5_store 15 = .ok (.aload_n 0, 1) := by decide +kernel
theorem dX5_store_16 : decode cX5_store 16 = .ok (.getfield 13, 3) := by decide +kernel
theorem dX5_store_19 : decode cX5_store 19 = .ok (.iload_n 1, 1) := by decide +kernel
theorem dX5_store_20 : decode cX5_store 20 = .ok (.iload_n 3, 1) := by decide +kernel
theorem dX5_store_21 : decode cX5_store 21 = .ok (.iadd, 1) := by decide +kernel
theorem dX5_store_22 : decode cX5_store 22 = .ok (.iaload, 1) := by decide +kernel
theorem dX5_store_23 : decode cX5_store 23 = .ok (.iadd, 1) := by decide +kernel
theorem dX5_store_24 : decode cX5_store 24 = .ok (.istore_n 2, 1) := by decide +kernel
theorem dX5_store_25 : decode cX5_store 25 = .ok (.iinc 3 1, 3) := by decide +kernel
theorem dX5_store_28 : decode cX5_store 28 = .ok (.goto (-24), 3) := by decide +kernel
theorem dX5_store_31 : decode cX5_store 31 = .ok (.aload_n 0, 1) := by decide +kernel
theorem dX5_store_32 : decode cX5_store 32 = .ok (.getfield 96, 3) := by decide +kernel
theorem dX5_store_35 : decode cX5_store 35 = .ok (.aload_n 0, 1) := by decide +kernel
theorem dX5_store_36 : decode cX5_store 36 = .ok (.getfield 28, 3) := by decide +kernel
theorem dX5_store_39 : decode cX5_store 39 = .ok (.if_icmp .eq 11, 3) := by decide +kernel
theorem dX5_store_42 : decode cX5_store 42 = .ok (.iload_n 2, 1) := by decide +kernel
theorem dX5_store_43 : decode cX5_store 43 = .ok (.aload_n 0, 1) := by decide +kernel
theorem dX5_store_44 : decode cX5_store 44 = .ok (.getfield 31, 3) := by decide +kernel
theorem dX5_store_47 : decode cX5_store 47 = .ok (.if_icmp .le 6, 3) := by decide +kernel
theorem dX5_store_50 : decode cX5_store 50 = .ok (.bipush (-4), 2) := by decide +kernel
theorem dX5_store_52 : decode cX5_store 52 = .ok (.ireturn, 1) := by decide +kernel
theorem dX5_store_53 : decode cX5_store 53 = .ok (.iconst 0, 1) := by decide +kernel
theorem dX5_store_54 : decode cX5_store 54 = .ok (.istore_n 3, 1) := by decide +kernel
theorem dX5_store_55 : decode cX5_store 55 = .ok (.iload_n 3, 1) := by decide +kernel
theorem dX5_store_56 : decode cX5_store 56 = .ok (.aload_n 0, 1) := by decide +kernel
theorem dX5_store_57 : decode cX5_store 57 = .ok (.getfield 24, 3) := by decide +kernel
theorem dX5_store_60 : decode cX5_store 60 = .ok (.if_icmp .gt 24, 3) := by decide +kernel
theorem dX5_store_63 : decode cX5_store 63 = .ok (.aload_n 0, 1) := by decide +kernel
theorem dX5_store_64 : decode cX5_store 64 = .ok (.aload_n 0, 1) := by decide +kernel
theorem dX5_store_65 : decode cX5_store 65 = .ok (.getfield 96, 3) := by decide +kernel
theorem dX5_store_68 : decode cX5_store 68 = .ok (.iload_n 3, 1) := by decide +kernel
theorem dX5_store_69 : decode cX5_store 69 = .ok (.invokestatic 99, 3) := by decide +kernel
theorem dX5_store_72 : decode cX5_store 72 = .ok (.iload_n 1, 1) := by decide +kernel
theorem dX5_store_73 : decode cX5_store 73 = .ok (.iload_n 3, 1) := by decide +kernel
theorem dX5_store_74 : decode cX5_store 74 = .ok (.iadd, 1) := by decide +kernel
theorem dX5_store_75 : decode cX5_store 75 = .ok (.invokevirtual 58, 3) := by decide +kernel
theorem dX5_store_78 : decode cX5_store 78 = .ok (.iinc 3 1, 3) := by decide +kernel
theorem dX5_store_81 : decode cX5_store 81 = .ok (.goto (-26), 3) := by decide +kernel
theorem dX5_store_84 : decode cX5_store 84 = .ok (.aload_n 0, 1) := by decide +kernel
theorem dX5_store_85 : decode cX5_store 85 = .ok (.aload_n 0, 1) := by decide +kernel
theorem dX5_store_86 : decode cX5_store 86 = .ok (.getfield 31, 3) := by decide +kernel
theorem dX5_store_89 : decode cX5_store 89 = .ok (.iload_n 2, 1) := by decide +kernel
theorem dX5_store_90 : decode cX5_store 90 = .ok (.isub, 1) := by decide +kernel
theorem dX5_store_91 : decode cX5_store 91 = .ok (.putfield 31, 3) := by decide +kernel
theorem dX5_store_94 : decode cX5_store 94 = .ok (.aload_n 0, 1) := by decide +kernel
theorem dX5_store_95 : decode cX5_store 95 = .ok (.dup, 1) := by decide +kernel
theorem dX5_store_96 : decode cX5_store 96 = .ok (.getfield 96, 3) := by decide +kernel
theorem dX5_store_99 : decode cX5_store 99 = .ok (.iconst 1, 1) := by decide +kernel
theorem dX5_store_100 : decode cX5_store 100 = .ok (.iadd, 1) := by decide +kernel
theorem dX5_store_101 : decode cX5_store 101 = .ok (.putfield 96, 3) := by decide +kernel
theorem dX5_store_104 : decode cX5_store 104 = .ok (.aload_n 0, 1) := by decide +kernel
theorem dX5_store_105 : decode cX5_store 105 = .ok (.getfield 96, 3) := by decide +kernel
theorem dX5_store_108 : decode cX5_store 108 = .ok (.iconst 1, 1) := by decide +kernel
theorem dX5_store_109 : decode cX5_store 109 = .ok (.isub, 1) := by decide +kernel
theorem dX5_store_110 : decode cX5_store 110 = .ok (.ireturn, 1) := by decide +kernel
set_option maxRecDepth 20000 in
theorem ggX5_endConstraint_X5_store : GoodIn wsX5_endConstraint wsX5_store := goodIn_r _ [11, 4, 12, 5, 13, 14, 15, 16, 10, 17, 18, 19, 20, 21, 22, 23, 24, 25, 26, 27, 28, 29, 30, 31, 32, 33, 34, 35, 36, 37, 38] (by decide +kernel) (by decide +kernel)
set_option maxRecDepth 20000 in
theorem gX5_endConstraint_X5_store : GoodIn wsX5_endConstraint (wsV RX5 106 RX5 yX5_store wsX5_store) := goodIn_app (goodIn_of _ (by decide +kernel)) ggX5_endConstraint_X5_store
theorem dX5_endConstraint_0 : decode cX5_endConstraint 0 = .ok (.aload_n 0, 1) := by decide +kernel
theorem dX5_endConstraint_1 : decode cX5_endConstraint 1 = .ok (.iconst 0, 1) := by decide +kernel
theorem dX5_endConstraint_2 : decode cX5_endConstraint 2 = .ok (.putfield 34, 3) := by decide +kernel
theorem dX5_endConstraint_5 : decode cX5_endConstraint 5 = .ok (.aload_n 0, 1) := by decide +kernel
theorem dX5_endConstraint_6 : decode cX5_endConstraint 6 = .ok (.getfield 90, 3) := by decide +kernel
theorem dX5_endConstraint_9 : decode cX5_endConstraint 9 = .ok (.istore_n 1, 1) := by decide +kernel
theorem dX5_endConstraint_10 : decode cX5_endConstraint 10 = .ok (.aload_n 0, 1) := by decide +kernel
theorem dX5_endConstraint_11 : decode cX5_endConstraint 11 = .ok (.iconst 0, 1) := by decide +kernel
theorem dX5_endConstraint_12 : decode cX5_endConstraint 12 = .ok (.putfield 90, 3) := by decide +kernel
theorem dX5_endConstraint_15 : decode cX5_endConstraint 15 = .ok (.aload_n 0, 1) := by decide +kernel
theorem dX5_endConstraint_16 : decode cX5_endConstraint 16 = .ok (.getfield 102, 3) := by decide +kernel
theorem dX5_endConstraint_19 : decode cX5_endConstraint 19 = .ok (.ifCond .eq 6, 3) := by decide +kernel
theorem dX5_endConstraint_22 : decode cX5_endConstraint 22 = .ok (.bipush (-3), 2) := by decide +kernel
theorem dX5_endConstraint_24 : decode cX5_endConstraint 24 = .ok (.ireturn, 1) := by decide +kernel
theorem dX5_endConstraint_25 : decode cX5_endConstraint 25 = .ok (.iload_n 1, 1) := by decide +kernel
theorem dX5_endConstraint_26 : decode cX5_endConstraint 26 = .ok (.aload_n 0, 1) := by decide +kernel
theorem dX5_endConstraint_27 : decode cX5_endConstraint 27 = .ok (.getfield 24, 3) := by decide +kernel
theorem dX5_endConstraint_30 : decode cX5_endConstraint 30 = .ok (.iconst 1, 1) := by decide +kernel
theorem dX5_endConstraint_31 : decode cX5_endConstraint 31 = .ok (.iadd, 1) := by decide +kernel
theorem dX5_endConstraint_32 : decode cX5_endConstraint 32 = .ok (.if_icmp .eq 6, 3) := by decide +kernel
theorem dX5_endConstraint_35 : decode cX5_endConstraint 35 = .ok (.bipush (-2), 2) := by decide +kernel
theorem dX5_endConstraint_37 : decode cX5_endConstraint 37 = .ok (.ireturn, 1) := by decide +kernel
theorem dX5_endConstraint_38 : decode cX5_endConstraint 38 = .ok (.aload_n 0, 1) := by decide +kernel
theorem dX5_endConstraint_39 : decode cX5_endConstraint 39 = .ok (.sipush 420, 3) := by decide +kernel
theorem dX5_endConstraint_42 : decode cX5_endConstraint 42 = .ok (.invokevirtual 106, 3) := by decide +kernel
theorem dX5_endConstraint_45 : decode cX5_endConstraint 45 = .ok (.istore_n 2, 1) := by decide +kernel
theorem dX5_endConstraint_46 : decode cX5_endConstraint 46 = .ok (.aload_n 0, 1) := by decide +kernel
theorem dX5_endConstraint_47 : decode cX5_endConstraint 47 = .ok (.aload_n 0, 1) := by decide +kernel
theorem dX5_endConstraint_48 : decode cX5_endConstraint 48 = .ok (.getfield 96, 3) := by decide +kernel
theorem dX5_endConstraint_51 : decode cX5_endConstraint 51 = .ok (.putfield 109, 3) := by decide +kernel
theorem dX5_endConstraint_54 : decode cX5_endConstraint 54 = .ok (.iload_n 2, 1) := by decide +kernel
theorem dX5_endConstraint_55 : decode cX5_endConstraint 55 = .ok (.ireturn, 1) := by decide +kernel
theorem dX5_sealInput_0 : decode cX5_sealInput 0 = .ok (.aload_n 0, 1) := by decide +kernel
theorem dX5_sealInput_1 : decode cX5_sealInput 1 = .ok (.iconst 0, 1) := by decide +kernel
theorem dX5_sealInput_2 : decode cX5_sealInput 2 = .ok (.putfield 34, 3) := by decide +kernel
theorem dX5_sealInput_5 : decode cX5_sealInput 5 = .ok (.aload_n 0, 1) := by decide +kernel
theorem dX5_sealInput_6 : decode cX5_sealInput 6 = .ok (.getfield 102, 3) := by decide +kernel
theorem dX5_sealInput_9 : decode cX5_sealInput 9 = .ok (.istore_n 1, 1) := by decide +kernel
theorem dX5_sealInput_10 : decode cX5_sealInput 10 = .ok (.aload_n 0, 1) := by decide +kernel
theorem dX5_sealInput_11 : decode cX5_sealInput 11 = .ok (.iconst 1, 1) := by decide +kernel
theorem dX5_sealInput_12 : decode cX5_sealInput 12 = .ok (.putfield 102, 3) := by decide +kernel
theorem dX5_sealInput_15 : decode cX5_sealInput 15 = .ok (.iload_n 1, 1) := by decide +kernel
theorem dX5_sealInput_16 : decode cX5_sealInput 16 = .ok (.ifCond .ne 7, 3) := by decide +kernel
theorem dX5_sealInput_19 : decode cX5_sealInput 19 = .ok (.iconst 1, 1) := by decide +kernel
theorem dX5_sealInput_20 : decode cX5_sealInput 20 = .ok (.goto 4, 3) := by decide +kernel
theorem dX5_sealInput_23 : decode cX5_sealInput 23 = .ok (.iconst 0, 1) := by decide +kernel
theorem dX5_sealInput_24 : decode cX5_sealInput 24 = .ok (.ireturn, 1) := by decide +kernel
set_option maxRecDepth 20000 in
theorem ggX5_combineStart_X5_clear : GoodIn wsX5_combineStart wsX5_clear := goodIn_r _ [9, 10, 11, 12, 13, 14, 15, 16, 17, 18, 19, 20, 21, 22, 23, 24, 25, 26] (by decide +kernel) (by decide +kernel)
set_option maxRecDepth 20000 in
theorem gX5_combineStart_X5_clear : GoodIn wsX5_combineStart (wsV RX5 62 RX5 yX5_clear wsX5_clear) := goodIn_app (goodIn_of _ (by decide +kernel)) ggX5_combineStart_X5_clear
theorem dX5_combineStart_0 : decode cX5_combineStart 0 = .ok (.aload_n 0, 1) := by decide +kernel
theorem dX5_combineStart_1 : decode cX5_combineStart 1 = .ok (.iconst 0, 1) := by decide +kernel
theorem dX5_combineStart_2 : decode cX5_combineStart 2 = .ok (.putfield 34, 3) := by decide +kernel
theorem dX5_combineStart_5 : decode cX5_combineStart 5 = .ok (.aload_n 0, 1) := by decide +kernel
theorem dX5_combineStart_6 : decode cX5_combineStart 6 = .ok (.getfield 102, 3) := by decide +kernel
theorem dX5_combineStart_9 : decode cX5_combineStart 9 = .ok (.ifCond .ne 5, 3) := by decide +kernel
theorem dX5_combineStart_12 : decode cX5_combineStart 12 = .ok (.iconst 0, 1) := by decide +kernel
theorem dX5_combineStart_13 : decode cX5_combineStart 13 = .ok (.ireturn, 1) := by decide +kernel
theorem dX5_combineStart_14 : decode cX5_combineStart 14 = .ok (.aload_n 0, 1) := by decide +kernel
theorem dX5_combineStart_15 : decode cX5_combineStart 15 = .ok (.iconst 1, 1) := by decide +kernel
theorem dX5_combineStart_16 : decode cX5_combineStart 16 = .ok (.putfield 112, 3) := by decide +kernel
theorem dX5_combineStart_19 : decode cX5_combineStart 19 = .ok (.iconst 0, 1) := by decide +kernel
theorem dX5_combineStart_20 : decode cX5_combineStart 20 = .ok (.istore_n 1, 1) := by decide +kernel
theorem dX5_combineStart_21 : decode cX5_combineStart 21 = .ok (.iload_n 1, 1) := by decide +kernel
theorem dX5_combineStart_22 : decode cX5_combineStart 22 = .ok (.aload_n 0, 1) := by decide +kernel
theorem dX5_combineStart_23 : decode cX5_combineStart 23 = .ok (.getfield 24, 3) := by decide +kernel
theorem dX5_combineStart_26 : decode cX5_combineStart 26 = .ok (.if_icmp .gt 18, 3) := by decide +kernel
theorem dX5_combineStart_29 : decode cX5_combineStart 29 = .ok (.aload_n 0, 1) := by decide +kernel
theorem dX5_combineStart_30 : decode cX5_combineStart 30 = .ok (.sipush 427, 3) := by decide +kernel
theorem dX5_combineStart_33 : decode cX5_combineStart 33 = .ok (.iload_n 1, 1) := by decide +kernel
theorem dX5_combineStart_34 : decode cX5_combineStart 34 = .ok (.iadd, 1) := by decide +kernel
theorem dX5_combineStart_35 : decode cX5_combineStart 35 = .ok (.invokevirtual 62, 3) := by decide +kernel
theorem dX5_combineStart_38 : decode cX5_combineStart 38 = .ok (.iinc 1 1, 3) := by decide +kernel
theorem dX5_combineStart_41 : decode cX5_combineStart 41 = .ok (.goto (-20), 3) := by decide +kernel
theorem dX5_combineStart_44 : decode cX5_combineStart 44 = .ok (.iconst 1, 1) := by decide +kernel
theorem dX5_combineStart_45 : decode cX5_combineStart 45 = .ok (.ireturn, 1) := by decide +kernel
theorem dX5_isRow_0 : decode cX5_isRow 0 = .ok (.iload_n 1, 1) := by decide +kernel
theorem dX5_isRow_1 : decode cX5_isRow 1 = .ok (.ifCond .lt 15, 3) := by decide +kernel
theorem dX5_isRow_4 : decode cX5_isRow 4 = .ok (.iload_n 1, 1) := by decide +kernel
theorem dX5_isRow_5 : decode cX5_isRow 5 = .ok (.aload_n 0, 1) := by decide +kernel
theorem dX5_isRow_6 : decode cX5_isRow 6 = .ok (.getfield 96, 3) := by decide +kernel
theorem dX5_isRow_9 : decode cX5_isRow 9 = .ok (.if_icmp .ge 7, 3) := by decide +kernel
theorem dX5_isRow_12 : decode cX5_isRow 12 = .ok (.iconst 1, 1) := by decide +kernel
theorem dX5_isRow_13 : decode cX5_isRow 13 = .ok (.goto 4, 3) := by decide +kernel
theorem dX5_isRow_16 : decode cX5_isRow 16 = .ok (.iconst 0, 1) := by decide +kernel
theorem dX5_isRow_17 : decode cX5_isRow 17 = .ok (.ireturn, 1) := by decide +kernel
set_option maxRecDepth 20000 in
theorem ggX5_combineAdd_X5_isRow : GoodIn wsX5_combineAdd wsX5_isRow := goodIn_r _ [11, 12, 56, 57, 58, 59, 60, 61, 62, 63, 64, 65, 66, 67, 68, 69, 70] (by decide +kernel) (by decide +kernel)
set_option maxRecDepth 20000 in
theorem gX5_combineAdd_X5_isRow : GoodIn wsX5_combineAdd (wsV RX5 115 RX5 yX5_isRow wsX5_isRow) := goodIn_app (goodIn_of _ (by decide +kernel)) ggX5_combineAdd_X5_isRow
set_option maxRecDepth 20000 in
theorem ggX5_combineAdd_X5_settle : GoodIn wsX5_combineAdd wsX5_settle := goodIn_r _ [16, 6, 17, 18, 4, 19, 20, 21, 10, 22, 23, 56, 57, 58, 59, 60, 61, 62, 63, 64, 65, 66, 67, 68, 69, 70] (by decide +kernel) (by decide +kernel)
set_option maxRecDepth 20000 in
theorem gX5_combineAdd_X5_settle : GoodIn wsX5_combineAdd (wsV RX5 93 RX5 yX5_settle wsX5_settle) := goodIn_app (goodIn_of _ (by decide +kernel)) ggX5_combineAdd_X5_settle
set_option maxRecDepth 20000 in
theorem ggX5_combineAdd_X5_placeOf : GoodIn wsX5_combineAdd wsX5_placeOf := goodIn_r _ [26] (by decide +kernel) (by decide +kernel)
set_option maxRecDepth 20000 in
theorem gX5_combineAdd_X5_placeOf : GoodIn wsX5_combineAdd (va_wsS RX5 99 yX5_placeOf wsX5_placeOf) := goodIn_app (goodIn_of _ (by decide +kernel)) ggX5_combineAdd_X5_placeOf
set_option maxRecDepth 20000 in
theorem ggX5_combineAdd_X5_multiply : GoodIn wsX5_combineAdd wsX5_multiply := goodIn_r _ [30, 6, 23, 31, 4, 32, 33, 34, 10, 35, 19, 20, 21, 22, 56, 57, 58, 59, 60, 61, 62, 63, 64, 65, 66, 67, 68, 69, 70] (by decide +kernel) (by decide +kernel)
set_option maxRecDepth 20000 in
theorem gX5_combineAdd_X5_multiply : GoodIn wsX5_combineAdd (wsV RX5 118 RX5 yX5_multiply wsX5_multiply) := goodIn_app (goodIn_of _ (by decide +kernel)) ggX5_combineAdd_X5_multiply
set_option maxRecDepth 20000 in
theorem ggX5_combineAdd_X5_add : GoodIn wsX5_combineAdd wsX5_add := goodIn_r _ [39, 4, 6, 40, 41, 42, 10, 43, 23, 31, 32, 33, 34, 35, 19, 20, 21, 22, 44, 45, 46, 47, 48, 49, 50, 51, 56, 57, 58, 59, 60, 61, 62, 63, 64, 65, 66, 67, 68, 69, 70] (by decide +kernel) (by decide +kernel)
set_option maxRecDepth 20000 in
theorem gX5_combineAdd_X5_add : GoodIn wsX5_combineAdd (wsV RX5 121 RX5 yX5_add wsX5_add) := goodIn_app (goodIn_of _ (by decide +kernel)) ggX5_combineAdd_X5_add
set_option maxRecDepth 20000 in
theorem ggX5_combineAdd_X5_copy : GoodIn wsX5_combineAdd wsX5_copy := goodIn_r _ [55, 6, 4, 23, 56, 57, 58, 59, 60, 61, 62, 63, 64, 65, 66, 67, 68, 69, 70] (by decide +kernel) (by decide +kernel)
set_option maxRecDepth 20000 in
theorem gX5_combineAdd_X5_copy : GoodIn wsX5_combineAdd (wsV RX5 58 RX5 yX5_copy wsX5_copy) := goodIn_app (goodIn_of _ (by decide +kernel)) ggX5_combineAdd_X5_copy
theorem dX5_combineAdd_0 : decode cX5_combineAdd 0 = .ok (.aload_n 0, 1) := by decide +kernel
theorem dX5_combineAdd_1 : decode cX5_combineAdd 1 = .ok (.iconst 0, 1) := by decide +kernel
theorem dX5_combineAdd_2 : decode cX5_combineAdd 2 = .ok (.putfield 34, 3) := by decide +kernel
theorem dX5_combineAdd_5 : decode cX5_combineAdd 5 = .ok (.aload_n 0, 1) := by decide +kernel
theorem dX5_combineAdd_6 : decode cX5_combineAdd 6 = .ok (.getfield 112, 3) := by decide +kernel
theorem dX5_combineAdd_9 : decode cX5_combineAdd 9 = .ok (.ifCond .ne 6, 3) := by decide +kernel
theorem dX5_combineAdd_12 : decode cX5_combineAdd 12 = .ok (.bipush (-7), 2) := by decide +kernel
theorem dX5_combineAdd_14 : decode cX5_combineAdd 14 = .ok (.ireturn, 1) := by decide +kernel
theorem dX5_combineAdd_15 : decode cX5_combineAdd 15 = .ok (.aload_n 0, 1) := by decide +kernel
theorem dX5_combineAdd_16 : decode cX5_combineAdd 16 = .ok (.iload_n 1, 1) := by decide +kernel
theorem dX5_combineAdd_17 : decode cX5_combineAdd 17 = .ok (.invokevirtual 115, 3) := by decide +kernel
theorem dX5_combineAdd_20 : decode cX5_combineAdd 20 = .ok (.ifCond .ne 6, 3) := by decide +kernel
theorem dX5_combineAdd_23 : decode cX5_combineAdd 23 = .ok (.bipush (-5), 2) := by decide +kernel
theorem dX5_combineAdd_25 : decode cX5_combineAdd 25 = .ok (.ireturn, 1) := by decide +kernel
theorem dX5_combineAdd_26 : decode cX5_combineAdd 26 = .ok (.aload_n 0, 1) := by decide +kernel
theorem dX5_combineAdd_27 : decode cX5_combineAdd 27 = .ok (.getfield 84, 3) := by decide +kernel
theorem dX5_combineAdd_30 : decode cX5_combineAdd 30 = .ok (.iconst 1, 1) := by decide +kernel
theorem dX5_combineAdd_31 : decode cX5_combineAdd 31 = .ok (.if_icmp .ne 7, 3) := by decide +kernel
theorem dX5_combineAdd_34 : decode cX5_combineAdd 34 = .ok (.aload_n 0, 1) := by decide +kernel
theorem dX5_combineAdd_35 : decode cX5_combineAdd 35 = .ok (.invokevirtual 93, 3) := by decide +kernel
theorem dX5_combineAdd_38 : decode cX5_combineAdd 38 = .ok (.aload_n 0, 1) := by decide +kernel
theorem dX5_combineAdd_39 : decode cX5_combineAdd 39 = .ok (.getfield 84, 3) := by decide +kernel
theorem dX5_combineAdd_42 : decode cX5_combineAdd 42 = .ok (.ifCond .eq 14, 3) := by decide +kernel
theorem dX5_combineAdd_45 : decode cX5_combineAdd 45 = .ok (.aload_n 0, 1) := by decide +kernel
theorem dX5_combineAdd_46 : decode cX5_combineAdd 46 = .ok (.getfield 16, 3) := by decide +kernel
theorem dX5_combineAdd_49 : decode cX5_combineAdd 49 = .ok (.sipush 440, 3) := by decide +kernel
theorem dX5_combineAdd_52 : decode cX5_combineAdd 52 = .ok (.baload, 1) := by decide +kernel
theorem dX5_combineAdd_53 : decode cX5_combineAdd 53 = .ok (.ifCond .eq 6, 3) := by decide +kernel
theorem dX5_combineAdd_56 : decode cX5_combineAdd 56 = .ok (.bipush (-6), 2) := by decide +kernel
theorem dX5_combineAdd_58 : decode cX5_combineAdd 58 = .ok (.ireturn, 1) := by decide +kernel
theorem dX5_combineAdd_59 : decode cX5_combineAdd 59 = .ok (.iconst 0, 1) := by decide +kernel
theorem dX5_combineAdd_60 : decode cX5_combineAdd 60 = .ok (.istore_n 2, 1) := by decide +kernel
theorem dX5_combineAdd_61 : decode cX5_combineAdd 61 = .ok (.iload_n 2, 1) := by decide +kernel
theorem dX5_combineAdd_62 : decode cX5_combineAdd 62 = .ok (.aload_n 0, 1) := by decide +kernel
theorem dX5_combineAdd_63 : decode cX5_combineAdd 63 = .ok (.getfield 24, 3) := by decide +kernel
theorem dX5_combineAdd_66 : decode cX5_combineAdd 66 = .ok (.if_icmp .gt 55, 3) := by decide +kernel
theorem dX5_combineAdd_69 : decode cX5_combineAdd 69 = .ok (.aload_n 0, 1) := by decide +kernel
theorem dX5_combineAdd_70 : decode cX5_combineAdd 70 = .ok (.sipush 441, 3) := by decide +kernel
theorem dX5_combineAdd_73 : decode cX5_combineAdd 73 = .ok (.sipush 440, 3) := by decide +kernel
theorem dX5_combineAdd_76 : decode cX5_combineAdd 76 = .ok (.iload_n 1, 1) := by decide +kernel
theorem dX5_combineAdd_77 : decode cX5_combineAdd 77 = .ok (.iload_n 2, 1) := by decide +kernel
theorem dX5_combineAdd_78 : decode cX5_combineAdd 78 = .ok (.invokestatic 99, 3) := by decide +kernel
theorem dX5_combineAdd_81 : decode cX5_combineAdd 81 = .ok (.invokevirtual 118, 3) := by decide +kernel
theorem dX5_combineAdd_84 : decode cX5_combineAdd 84 = .ok (.aload_n 0, 1) := by decide +kernel
theorem dX5_combineAdd_85 : decode cX5_combineAdd 85 = .ok (.sipush 442, 3) := by decide +kernel
theorem dX5_combineAdd_88 : decode cX5_combineAdd 88 = .ok (.sipush 427, 3) := by decide +kernel
theorem dX5_combineAdd_91 : decode cX5_combineAdd 91 = .ok (.iload_n 2, 1) := by decide +kernel
theorem dX5_combineAdd_92 : decode cX5_combineAdd 92 = .ok (.iadd, 1) := by decide +kernel
theorem dX5_combineAdd_93 : decode cX5_combineAdd 93 = .ok (.sipush 441, 3) := by decide +kernel
theorem dX5_combineAdd_96 : decode cX5_combineAdd 96 = .ok (.invokevirtual 121, 3) := by decide +kernel
theorem dX5_combineAdd_99 : decode cX5_combineAdd 99 = .ok (.aload_n 0, 1) := by decide +kernel
theorem dX5_combineAdd_100 : decode cX5_combineAdd 100 = .ok (.getfield 13, 3) := by decide +kernel
theorem dX5_combineAdd_103 : decode cX5_combineAdd 103 = .ok (.sipush 442, 3) := by decide +kernel
theorem dX5_combineAdd_106 : decode cX5_combineAdd 106 = .ok (.iaload, 1) := by decide +kernel
theorem dX5_combineAdd_107 : decode cX5_combineAdd 107 = .ok (.bipush 48, 2) := by decide +kernel
theorem dX5_combineAdd_109 : decode cX5_combineAdd 109 = .ok (.if_icmp .le 6, 3) := by decide +kernel
theorem dX5_combineAdd_112 : decode cX5_combineAdd 112 = .ok (.bipush (-4), 2) := by decide +kernel
theorem dX5_combineAdd_114 : decode cX5_combineAdd 114 = .ok (.ireturn, 1) := by decide +kernel
theorem dX5_combineAdd_115 : decode cX5_combineAdd 115 = .ok (.iinc 2 1, 3) := by decide +kernel
theorem dX5_combineAdd_118 : decode cX5_combineAdd 118 = .ok (.goto (-57), 3) := by decide +kernel
theorem dX5_combineAdd_121 : decode cX5_combineAdd 121 = .ok (.iconst 0, 1) := by decide +kernel
theorem dX5_combineAdd_122 : decode cX5_combineAdd 122 = .ok (.istore_n 2, 1) := by decide +kernel
theorem dX5_combineAdd_123 : decode cX5_combineAdd 123 = .ok (.iload_n 2, 1) := by decide +kernel
theorem dX5_combineAdd_124 : decode cX5_combineAdd 124 = .ok (.aload_n 0, 1) := by decide +kernel
theorem dX5_combineAdd_125 : decode cX5_combineAdd 125 = .ok (.getfield 24, 3) := by decide +kernel
theorem dX5_combineAdd_128 : decode cX5_combineAdd 128 = .ok (.if_icmp .gt 51, 3) := by decide +kernel
theorem dX5_combineAdd_131 : decode cX5_combineAdd 131 = .ok (.aload_n 0, 1) := by decide +kernel
theorem dX5_combineAdd_132 : decode cX5_combineAdd 132 = .ok (.sipush 441, 3) := by decide +kernel
theorem dX5_combineAdd_135 : decode cX5_combineAdd 135 = .ok (.sipush 440, 3) := by decide +kernel
theorem dX5_combineAdd_138 : decode cX5_combineAdd 138 = .ok (.iload_n 1, 1) := by decide +kernel
theorem dX5_combineAdd_139 : decode cX5_combineAdd 139 = .ok (.iload_n 2, 1) := by decide +kernel
theorem dX5_combineAdd_140 : decode cX5_combineAdd 140 = .ok (.invokestatic 99, 3) := by decide +kernel
theorem dX5_combineAdd_143 : decode cX5_combineAdd 143 = .ok (.invokevirtual 118, 3) := by decide +kernel
theorem dX5_combineAdd_146 : decode cX5_combineAdd 146 = .ok (.aload_n 0, 1) := by decide +kernel
theorem dX5_combineAdd_147 : decode cX5_combineAdd 147 = .ok (.sipush 442, 3) := by decide +kernel
theorem dX5_combineAdd_150 : decode cX5_combineAdd 150 = .ok (.sipush 427, 3) := by decide +kernel
theorem dX5_combineAdd_153 : decode cX5_combineAdd 153 = .ok (.iload_n 2, 1) := by decide +kernel
theorem dX5_combineAdd_154 : decode cX5_combineAdd 154 = .ok (.iadd, 1) := by decide +kernel
theorem dX5_combineAdd_155 : decode cX5_combineAdd 155 = .ok (.sipush 441, 3) := by decide +kernel
theorem dX5_combineAdd_158 : decode cX5_combineAdd 158 = .ok (.invokevirtual 121, 3) := by decide +kernel
theorem dX5_combineAdd_161 : decode cX5_combineAdd 161 = .ok (.aload_n 0, 1) := by decide +kernel
theorem dX5_combineAdd_162 : decode cX5_combineAdd 162 = .ok (.sipush 427, 3) := by decide +kernel
theorem dX5_combineAdd_165 : decode cX5_combineAdd 165 = .ok (.iload_n 2, 1) := by decide +kernel
theorem dX5_combineAdd_166 : decode cX5_combineAdd 166 = .ok (.iadd, 1) := by decide +kernel
theorem dX5_combineAdd_167 : decode cX5_combineAdd 167 = .ok (.sipush 442, 3) := by decide +kernel
theorem dX5_combineAdd_170 : decode cX5_combineAdd 170 = .ok (.invokevirtual 58, 3) := by decide +kernel
theorem dX5_combineAdd_173 : decode cX5_combineAdd 173 = .ok (.iinc 2 1, 3) := by decide +kernel
theorem dX5_combineAdd_176 : decode cX5_combineAdd 176 = .ok (.goto (-53), 3) := by decide +kernel
theorem dX5_combineAdd_179 : decode cX5_combineAdd 179 = .ok (.aload_n 0, 1) := by decide +kernel
theorem dX5_combineAdd_180 : decode cX5_combineAdd 180 = .ok (.iconst 2, 1) := by decide +kernel
theorem dX5_combineAdd_181 : decode cX5_combineAdd 181 = .ok (.putfield 84, 3) := by decide +kernel
theorem dX5_combineAdd_184 : decode cX5_combineAdd 184 = .ok (.iconst 0, 1) := by decide +kernel
theorem dX5_combineAdd_185 : decode cX5_combineAdd 185 = .ok (.ireturn, 1) := by decide +kernel
set_option maxRecDepth 20000 in
theorem ggX5_combineEnd_X5_store : GoodIn wsX5_combineEnd wsX5_store := goodIn_r _ [7, 8, 9, 10, 11, 12, 13, 14, 6, 15, 16, 17, 18, 19, 20, 21, 22, 23, 24, 25, 26, 27, 28, 29, 30, 31, 32, 33, 34, 35, 36] (by decide +kernel) (by decide +kernel)
set_option maxRecDepth 20000 in
theorem gX5_combineEnd_X5_store : GoodIn wsX5_combineEnd (wsV RX5 106 RX5 yX5_store wsX5_store) := goodIn_app (goodIn_of _ (by decide +kernel)) ggX5_combineEnd_X5_store
theorem dX5_combineEnd_0 : decode cX5_combineEnd 0 = .ok (.aload_n 0, 1) := by decide +kernel
theorem dX5_combineEnd_1 : decode cX5_combineEnd 1 = .ok (.iconst 0, 1) := by decide +kernel
theorem dX5_combineEnd_2 : decode cX5_combineEnd 2 = .ok (.putfield 34, 3) := by decide +kernel
theorem dX5_combineEnd_5 : decode cX5_combineEnd 5 = .ok (.aload_n 0, 1) := by decide +kernel
theorem dX5_combineEnd_6 : decode cX5_combineEnd 6 = .ok (.getfield 112, 3) := by decide +kernel
theorem dX5_combineEnd_9 : decode cX5_combineEnd 9 = .ok (.ifCond .ne 6, 3) := by decide +kernel
theorem dX5_combineEnd_12 : decode cX5_combineEnd 12 = .ok (.bipush (-7), 2) := by decide +kernel
theorem dX5_combineEnd_14 : decode cX5_combineEnd 14 = .ok (.ireturn, 1) := by decide +kernel
theorem dX5_combineEnd_15 : decode cX5_combineEnd 15 = .ok (.aload_n 0, 1) := by decide +kernel
theorem dX5_combineEnd_16 : decode cX5_combineEnd 16 = .ok (.sipush 427, 3) := by decide +kernel
theorem dX5_combineEnd_19 : decode cX5_combineEnd 19 = .ok (.invokevirtual 106, 3) := by decide +kernel
theorem dX5_combineEnd_22 : decode cX5_combineEnd 22 = .ok (.istore_n 1, 1) := by decide +kernel
theorem dX5_combineEnd_23 : decode cX5_combineEnd 23 = .ok (.aload_n 0, 1) := by decide +kernel
theorem dX5_combineEnd_24 : decode cX5_combineEnd 24 = .ok (.iload_n 1, 1) := by decide +kernel
theorem dX5_combineEnd_25 : decode cX5_combineEnd 25 = .ok (.bipush (-4), 2) := by decide +kernel
theorem dX5_combineEnd_27 : decode cX5_combineEnd 27 = .ok (.if_icmp .ne 7, 3) := by decide +kernel
theorem dX5_combineEnd_30 : decode cX5_combineEnd 30 = .ok (.iconst 1, 1) := by decide +kernel
theorem dX5_combineEnd_31 : decode cX5_combineEnd 31 = .ok (.goto 4, 3) := by decide +kernel
theorem dX5_combineEnd_34 : decode cX5_combineEnd 34 = .ok (.iconst 0, 1) := by decide +kernel
theorem dX5_combineEnd_35 : decode cX5_combineEnd 35 = .ok (.putfield 112, 3) := by decide +kernel
theorem dX5_combineEnd_38 : decode cX5_combineEnd 38 = .ok (.iload_n 1, 1) := by decide +kernel
theorem dX5_combineEnd_39 : decode cX5_combineEnd 39 = .ok (.ireturn, 1) := by decide +kernel
set_option maxRecDepth 20000 in
theorem ggX5_divideRound_X5_isRow : GoodIn wsX5_divideRound wsX5_isRow := goodIn_r _ [10, 11, 77, 78, 79, 80, 81, 82, 83, 84, 85, 86, 87, 88, 89, 90, 91] (by decide +kernel) (by decide +kernel)
set_option maxRecDepth 20000 in
theorem gX5_divideRound_X5_isRow : GoodIn wsX5_divideRound (wsV RX5 115 RX5 yX5_isRow wsX5_isRow) := goodIn_app (goodIn_of _ (by decide +kernel)) ggX5_divideRound_X5_isRow
set_option maxRecDepth 20000 in
theorem ggX5_divideRound_X5_clear : GoodIn wsX5_divideRound wsX5_clear := goodIn_r _ [15, 4, 5, 77, 78, 79, 80, 81, 82, 83, 84, 85, 86, 87, 88, 89, 90, 91] (by decide +kernel) (by decide +kernel)
set_option maxRecDepth 20000 in
theorem gX5_divideRound_X5_clear : GoodIn wsX5_divideRound (wsV RX5 62 RX5 yX5_clear wsX5_clear) := goodIn_app (goodIn_of _ (by decide +kernel)) ggX5_divideRound_X5_clear
set_option maxRecDepth 20000 in
theorem ggX5_divideRound_X5_placeOf : GoodIn wsX5_divideRound wsX5_placeOf := goodIn_r _ [18] (by decide +kernel) (by decide +kernel)
set_option maxRecDepth 20000 in
theorem gX5_divideRound_X5_placeOf : GoodIn wsX5_divideRound (va_wsS RX5 99 yX5_placeOf wsX5_placeOf) := goodIn_app (goodIn_of _ (by decide +kernel)) ggX5_divideRound_X5_placeOf
set_option maxRecDepth 20000 in
theorem ggX5_divideRound_X5_common : GoodIn wsX5_divideRound wsX5_common := goodIn_r _ [22, 5, 4, 23, 24, 25, 9, 26, 27, 28, 29, 30, 31, 32, 33, 34, 35, 36, 37, 38, 39, 40, 41, 42, 43, 44, 45, 46, 47, 48, 49, 50, 51, 52, 53, 54, 55, 56, 57, 77, 78, 79, 80, 81, 82, 83, 84, 85, 86, 87, 88, 89, 90, 91] (by decide +kernel) (by decide +kernel)
set_option maxRecDepth 20000 in
theorem gX5_divideRound_X5_common : GoodIn wsX5_divideRound (wsV RX5 124 RX5 yX5_common wsX5_common) := goodIn_app (goodIn_of _ (by decide +kernel)) ggX5_divideRound_X5_common
set_option maxRecDepth 20000 in
theorem ggX5_divideRound_X5_divide : GoodIn wsX5_divideRound wsX5_divide := goodIn_r _ [61, 5, 4, 27, 23, 24, 25, 9, 26, 12, 13, 14, 15, 41, 42, 43, 44, 62, 63, 64, 65, 66, 54, 55, 56, 57, 53, 33, 34, 35, 36, 67, 68, 69, 70, 45, 46, 47, 48, 49, 50, 51, 52, 77, 78, 79, 80, 81, 82, 83, 84, 85, 86, 87, 88, 89, 90, 91] (by decide +kernel) (by decide +kernel)
set_option maxRecDepth 20000 in
theorem gX5_divideRound_X5_divide : GoodIn wsX5_divideRound (wsV RX5 127 RX5 yX5_divide wsX5_divide) := goodIn_app (goodIn_of _ (by decide +kernel)) ggX5_divideRound_X5_divide
set_option maxRecDepth 20000 in
theorem ggX5_divideRound_X5_copy : GoodIn wsX5_divideRound wsX5_copy := goodIn_r _ [26, 4, 5, 27, 77, 78, 79, 80, 81, 82, 83, 84, 85, 86, 87, 88, 89, 90, 91] (by decide +kernel) (by decide +kernel)
set_option maxRecDepth 20000 in
theorem gX5_divideRound_X5_copy : GoodIn wsX5_divideRound (wsV RX5 58 RX5 yX5_copy wsX5_copy) := goodIn_app (goodIn_of _ (by decide +kernel)) ggX5_divideRound_X5_copy
set_option maxRecDepth 20000 in
theorem ggX5_divideRound_X5_addSizes : GoodIn wsX5_divideRound wsX5_addSizes := goodIn_r _ [57, 4, 27, 53, 33, 34, 35, 9, 36, 41, 42, 43, 44, 5, 77, 78, 79, 80, 81, 82, 83, 84, 85, 86, 87, 88, 89, 90, 91] (by decide +kernel) (by decide +kernel)
set_option maxRecDepth 20000 in
theorem gX5_divideRound_X5_addSizes : GoodIn wsX5_divideRound (wsV RX5 47 RX5 yX5_addSizes wsX5_addSizes) := goodIn_app (goodIn_of _ (by decide +kernel)) ggX5_divideRound_X5_addSizes
set_option maxRecDepth 20000 in
theorem ggX5_divideRound_X5_store : GoodIn wsX5_divideRound wsX5_store := goodIn_r _ [74, 3, 4, 11, 75, 76, 16, 17, 9, 18, 23, 24, 25, 26, 5, 27, 77, 78, 79, 80, 81, 82, 83, 84, 85, 86, 87, 88, 89, 90, 91] (by decide +kernel) (by decide +kernel)
set_option maxRecDepth 20000 in
theorem gX5_divideRound_X5_store : GoodIn wsX5_divideRound (wsV RX5 106 RX5 yX5_store wsX5_store) := goodIn_app (goodIn_of _ (by decide +kernel)) ggX5_divideRound_X5_store
theorem dX5_divideRound_0 : decode cX5_divideRound 0 = .ok (.aload_n 0, 1) := by decide +kernel
theorem dX5_divideRound_1 : decode cX5_divideRound 1 = .ok (.iconst 0, 1) := by decide +kernel
theorem dX5_divideRound_2 : decode cX5_divideRound 2 = .ok (.putfield 34, 3) := by decide +kernel
theorem dX5_divideRound_5 : decode cX5_divideRound 5 = .ok (.aload_n 0, 1) := by decide +kernel
theorem dX5_divideRound_6 : decode cX5_divideRound 6 = .ok (.iload_n 1, 1) := by decide +kernel
theorem dX5_divideRound_7 : decode cX5_divideRound 7 = .ok (.invokevirtual 115, 3) := by decide +kernel
theorem dX5_divideRound_10 : decode cX5_divideRound 10 = .ok (.ifCond .eq 10, 3) := by decide +kernel
theorem dX5_divideRound_13 : decode cX5_divideRound 13 = .ok (.aload_n 0, 1) := by decide +kernel
theorem dX5_divideRound_14 : decode cX5_divideRound 14 = .ok (.getfield 102, 3) := by decide +kernel
theorem dX5_divideRound_17 : decode cX5_divideRound 17 = .ok (.ifCond .ne 6, 3) := by decide +kernel
theorem dX5_divideRound_20 : decode cX5_divideRound 20 = .ok (.bipush (-5), 2) := by decide +kernel
theorem dX5_divideRound_22 : decode cX5_divideRound 22 = .ok (.ireturn, 1) := by decide +kernel
theorem dX5_divideRound_23 : decode cX5_divideRound 23 = .ok (.aload_n 0, 1) := by decide +kernel
theorem dX5_divideRound_24 : decode cX5_divideRound 24 = .ok (.sipush 443, 3) := by decide +kernel
theorem dX5_divideRound_27 : decode cX5_divideRound 27 = .ok (.invokevirtual 62, 3) := by decide +kernel
theorem dX5_divideRound_30 : decode cX5_divideRound 30 = .ok (.iconst 0, 1) := by decide +kernel
theorem dX5_divideRound_31 : decode cX5_divideRound 31 = .ok (.istore_n 2, 1) := by decide +kernel
theorem dX5_divideRound_32 : decode cX5_divideRound 32 = .ok (.iload_n 2, 1) := by decide +kernel
theorem dX5_divideRound_33 : decode cX5_divideRound 33 = .ok (.aload_n 0, 1) := by decide +kernel
theorem dX5_divideRound_34 : decode cX5_divideRound 34 = .ok (.getfield 24, 3) := by decide +kernel
theorem dX5_divideRound_37 : decode cX5_divideRound 37 = .ok (.if_icmp .ge 18, 3) := by decide +kernel
theorem dX5_divideRound_40 : decode cX5_divideRound 40 = .ok (.aload_n 0, 1) := by decide +kernel
theorem dX5_divideRound_41 : decode cX5_divideRound 41 = .ok (.iload_n 1, 1) := by decide +kernel
theorem dX5_divideRound_42 : decode cX5_divideRound 42 = .ok (.iload_n 2, 1) := by decide +kernel
theorem dX5_divideRound_43 : decode cX5_divideRound 43 = .ok (.invokestatic 99, 3) := by decide +kernel
theorem dX5_divideRound_46 : decode cX5_divideRound 46 = .ok (.invokevirtual 124, 3) := by decide +kernel
theorem dX5_divideRound_49 : decode cX5_divideRound 49 = .ok (.iinc 2 1, 3) := by decide +kernel
theorem dX5_divideRound_52 : decode cX5_divideRound 52 = .ok (.goto (-20), 3) := by decide +kernel
theorem dX5_divideRound_55 : decode cX5_divideRound 55 = .ok (.aload_n 0, 1) := by decide +kernel
theorem dX5_divideRound_56 : decode cX5_divideRound 56 = .ok (.getfield 13, 3) := by decide +kernel
theorem dX5_divideRound_59 : decode cX5_divideRound 59 = .ok (.sipush 443, 3) := by decide +kernel
theorem dX5_divideRound_62 : decode cX5_divideRound 62 = .ok (.iaload, 1) := by decide +kernel
theorem dX5_divideRound_63 : decode cX5_divideRound 63 = .ok (.ifCond .ne 6, 3) := by decide +kernel
theorem dX5_divideRound_66 : decode cX5_divideRound 66 = .ok (.bipush (-8), 2) := by decide +kernel
theorem dX5_divideRound_68 : decode cX5_divideRound 68 = .ok (.ireturn, 1) := by decide +kernel
theorem dX5_divideRound_69 : decode cX5_divideRound 69 = .ok (.iconst 0, 1) := by decide +kernel
theorem dX5_divideRound_70 : decode cX5_divideRound 70 = .ok (.istore_n 2, 1) := by decide +kernel
theorem dX5_divideRound_71 : decode cX5_divideRound 71 = .ok (.iload_n 2, 1) := by decide +kernel
theorem dX5_divideRound_72 : decode cX5_divideRound 72 = .ok (.aload_n 0, 1) := by decide +kernel
theorem dX5_divideRound_73 : decode cX5_divideRound 73 = .ok (.getfield 24, 3) := by decide +kernel
theorem dX5_divideRound_76 : decode cX5_divideRound 76 = .ok (.if_icmp .gt 109, 3) := by decide +kernel
theorem dX5_divideRound_79 : decode cX5_divideRound 79 = .ok (.iload_n 1, 1) := by decide +kernel
theorem dX5_divideRound_80 : decode cX5_divideRound 80 = .ok (.iload_n 2, 1) := by decide +kernel
theorem dX5_divideRound_81 : decode cX5_divideRound 81 = .ok (.invokestatic 99, 3) := by decide +kernel
theorem dX5_divideRound_84 : decode cX5_divideRound 84 = .ok (.istore_n 3, 1) := by decide +kernel
theorem dX5_divideRound_85 : decode cX5_divideRound 85 = .ok (.aload_n 0, 1) := by decide +kernel
theorem dX5_divideRound_86 : decode cX5_divideRound 86 = .ok (.iload_n 3, 1) := by decide +kernel
theorem dX5_divideRound_87 : decode cX5_divideRound 87 = .ok (.sipush 443, 3) := by decide +kernel
theorem dX5_divideRound_90 : decode cX5_divideRound 90 = .ok (.invokevirtual 127, 3) := by decide +kernel
theorem dX5_divideRound_93 : decode cX5_divideRound 93 = .ok (.aload_n 0, 1) := by decide +kernel
theorem dX5_divideRound_94 : decode cX5_divideRound 94 = .ok (.sipush 448, 3) := by decide +kernel
theorem dX5_divideRound_97 : decode cX5_divideRound 97 = .ok (.iload_n 2, 1) := by decide +kernel
theorem dX5_divideRound_98 : decode cX5_divideRound 98 = .ok (.iadd, 1) := by decide +kernel
theorem dX5_divideRound_99 : decode cX5_divideRound 99 = .ok (.sipush 445, 3) := by decide +kernel
theorem dX5_divideRound_102 : decode cX5_divideRound 102 = .ok (.invokevirtual 58, 3) := by decide +kernel
theorem dX5_divideRound_105 : decode cX5_divideRound 105 = .ok (.aload_n 0, 1) := by decide +kernel
theorem dX5_divideRound_106 : decode cX5_divideRound 106 = .ok (.getfield 16, 3) := by decide +kernel
theorem dX5_divideRound_109 : decode cX5_divideRound 109 = .ok (.iload_n 3, 1) := by decide +kernel
theorem dX5_divideRound_110 : decode cX5_divideRound 110 = .ok (.baload, 1) := by decide +kernel
theorem dX5_divideRound_111 : decode cX5_divideRound 111 = .ok (.istore 4, 2) := by decide +kernel
theorem dX5_divideRound_113 : decode cX5_divideRound 113 = .ok (.iload 4, 2) := by decide +kernel
theorem dX5_divideRound_115 : decode cX5_divideRound 115 = .ok (.ifCond .eq 31, 3) := by decide +kernel
theorem dX5_divideRound_118 : decode cX5_divideRound 118 = .ok (.aload_n 0, 1) := by decide +kernel
theorem dX5_divideRound_119 : decode cX5_divideRound 119 = .ok (.getfield 13, 3) := by decide +kernel
theorem dX5_divideRound_122 : decode cX5_divideRound 122 = .ok (.sipush 446, 3) := by decide +kernel
theorem dX5_divideRound_125 : decode cX5_divideRound 125 = .ok (.iaload, 1) := by decide +kernel
theorem dX5_divideRound_126 : decode cX5_divideRound 126 = .ok (.ifCond .le 20, 3) := by decide +kernel
theorem dX5_divideRound_129 : decode cX5_divideRound 129 = .ok (.aload_n 0, 1) := by decide +kernel
theorem dX5_divideRound_130 : decode cX5_divideRound 130 = .ok (.sipush 448, 3) := by decide +kernel
theorem dX5_divideRound_133 : decode cX5_divideRound 133 = .ok (.iload_n 2, 1) := by decide +kernel
theorem dX5_divideRound_134 : decode cX5_divideRound 134 = .ok (.iadd, 1) := by decide +kernel
theorem dX5_divideRound_135 : decode cX5_divideRound 135 = .ok (.sipush 448, 3) := by decide +kernel
theorem dX5_divideRound_138 : decode cX5_divideRound 138 = .ok (.iload_n 2, 1) := by decide +kernel
theorem dX5_divideRound_139 : decode cX5_divideRound 139 = .ok (.iadd, 1) := by decide +kernel
theorem dX5_divideRound_140 : decode cX5_divideRound 140 = .ok (.sipush 447, 3) := by decide +kernel
theorem dX5_divideRound_143 : decode cX5_divideRound 143 = .ok (.invokevirtual 47, 3) := by decide +kernel
theorem dX5_divideRound_146 : decode cX5_divideRound 146 = .ok (.aload_n 0, 1) := by decide +kernel
theorem dX5_divideRound_147 : decode cX5_divideRound 147 = .ok (.getfield 16, 3) := by decide +kernel
theorem dX5_divideRound_150 : decode cX5_divideRound 150 = .ok (.sipush 448, 3) := by decide +kernel
theorem dX5_divideRound_153 : decode cX5_divideRound 153 = .ok (.iload_n 2, 1) := by decide +kernel
theorem dX5_divideRound_154 : decode cX5_divideRound 154 = .ok (.iadd, 1) := by decide +kernel
theorem dX5_divideRound_155 : decode cX5_divideRound 155 = .ok (.iload 4, 2) := by decide +kernel
theorem dX5_divideRound_157 : decode cX5_divideRound 157 = .ok (.ifCond .eq 20, 3) := by decide +kernel
theorem dX5_divideRound_160 : decode cX5_divideRound 160 = .ok (.aload_n 0, 1) := by decide +kernel
theorem dX5_divideRound_161 : decode cX5_divideRound 161 = .ok (.getfield 13, 3) := by decide +kernel
theorem dX5_divideRound_164 : decode cX5_divideRound 164 = .ok (.sipush 448, 3) := by decide +kernel
theorem dX5_divideRound_167 : decode cX5_divideRound 167 = .ok (.iload_n 2, 1) := by decide +kernel
theorem dX5_divideRound_168 : decode cX5_divideRound 168 = .ok (.iadd, 1) := by decide +kernel
theorem dX5_divideRound_169 : decode cX5_divideRound 169 = .ok (.iaload, 1) := by decide +kernel
theorem dX5_divideRound_170 : decode cX5_divideRound 170 = .ok (.ifCond .le 7, 3) := by decide +kernel
theorem dX5_divideRound_173 : decode cX5_divideRound 173 = .ok (.iconst 1, 1) := by decide +kernel
theorem dX5_divideRound_174 : decode cX5_divideRound 174 = .ok (.goto 4, 3) := by decide +kernel
theorem dX5_divideRound_177 : decode cX5_divideRound 177 = .ok (.iconst 0, 1) := by decide +kernel
theorem dX5_divideRound_178 : decode cX5_divideRound 178 = .ok (.bastore, 1) := by decide +kernel
theorem dX5_divideRound_179 : decode cX5_divideRound 179 = .ok (.iinc 2 1, 3) := by decide +kernel
theorem dX5_divideRound_182 : decode cX5_divideRound 182 = .ok (.goto (-111), 3) := by decide +kernel
theorem dX5_divideRound_185 : decode cX5_divideRound 185 = .ok (.aload_n 0, 1) := by decide +kernel
theorem dX5_divideRound_186 : decode cX5_divideRound 186 = .ok (.sipush 448, 3) := by decide +kernel
theorem dX5_divideRound_189 : decode cX5_divideRound 189 = .ok (.invokevirtual 106, 3) := by decide +kernel
theorem dX5_divideRound_192 : decode cX5_divideRound 192 = .ok (.ireturn, 1) := by decide +kernel
set_option maxRecDepth 20000 in
theorem ggX5_refuted_X5_placeOf : GoodIn wsX5_refuted wsX5_placeOf := goodIn_r _ [10] (by decide +kernel) (by decide +kernel)
set_option maxRecDepth 20000 in
theorem gX5_refuted_X5_placeOf : GoodIn wsX5_refuted (va_wsS RX5 99 yX5_placeOf wsX5_placeOf) := goodIn_app (goodIn_of _ (by decide +kernel)) ggX5_refuted_X5_placeOf
theorem dX5_refuted_0 : decode cX5_refuted 0 = .ok (.aload_n 0, 1) := by decide +kernel
theorem dX5_refuted_1 : decode cX5_refuted 1 = .ok (.iconst 0, 1) := by decide +kernel
theorem dX5_refuted_2 : decode cX5_refuted 2 = .ok (.putfield 34, 3) := by decide +kernel
theorem dX5_refuted_5 : decode cX5_refuted 5 = .ok (.aload_n 0, 1) := by decide +kernel
theorem dX5_refuted_6 : decode cX5_refuted 6 = .ok (.getfield 109, 3) := by decide +kernel
theorem dX5_refuted_9 : decode cX5_refuted 9 = .ok (.istore_n 1, 1) := by decide +kernel
theorem dX5_refuted_10 : decode cX5_refuted 10 = .ok (.iload_n 1, 1) := by decide +kernel
theorem dX5_refuted_11 : decode cX5_refuted 11 = .ok (.aload_n 0, 1) := by decide +kernel
theorem dX5_refuted_12 : decode cX5_refuted 12 = .ok (.getfield 96, 3) := by decide +kernel
theorem dX5_refuted_15 : decode cX5_refuted 15 = .ok (.if_icmp .ge 68, 3) := by decide +kernel
theorem dX5_refuted_18 : decode cX5_refuted 18 = .ok (.aload_n 0, 1) := by decide +kernel
theorem dX5_refuted_19 : decode cX5_refuted 19 = .ok (.getfield 16, 3) := by decide +kernel
theorem dX5_refuted_22 : decode cX5_refuted 22 = .ok (.iload_n 1, 1) := by decide +kernel
theorem dX5_refuted_23 : decode cX5_refuted 23 = .ok (.aload_n 0, 1) := by decide +kernel
theorem dX5_refuted_24 : decode cX5_refuted 24 = .ok (.getfield 24, 3) := by decide +kernel
theorem dX5_refuted_27 : decode cX5_refuted 27 = .ok (.invokestatic 99, 3) := by decide +kernel
theorem dX5_refuted_30 : decode cX5_refuted 30 = .ok (.baload, 1) := by decide +kernel
theorem dX5_refuted_31 : decode cX5_refuted 31 = .ok (.istore_n 2, 1) := by decide +kernel
theorem dX5_refuted_32 : decode cX5_refuted 32 = .ok (.iconst 0, 1) := by decide +kernel
theorem dX5_refuted_33 : decode cX5_refuted 33 = .ok (.istore_n 3, 1) := by decide +kernel
theorem dX5_refuted_34 : decode cX5_refuted 34 = .ok (.iload_n 3, 1) := by decide +kernel
theorem dX5_refuted_35 : decode cX5_refuted 35 = .ok (.aload_n 0, 1) := by decide +kernel
theorem dX5_refuted_36 : decode cX5_refuted 36 = .ok (.getfield 24, 3) := by decide +kernel
theorem dX5_refuted_39 : decode cX5_refuted 39 = .ok (.if_icmp .ge 32, 3) := by decide +kernel
theorem dX5_refuted_42 : decode cX5_refuted 42 = .ok (.iload_n 2, 1) := by decide +kernel
theorem dX5_refuted_43 : decode cX5_refuted 43 = .ok (.ifCond .eq 20, 3) := by decide +kernel
theorem dX5_refuted_46 : decode cX5_refuted 46 = .ok (.aload_n 0, 1) := by decide +kernel
theorem dX5_refuted_47 : decode cX5_refuted 47 = .ok (.getfield 13, 3) := by decide +kernel
theorem dX5_refuted_50 : decode cX5_refuted 50 = .ok (.iload_n 1, 1) := by decide +kernel
theorem dX5_refuted_51 : decode cX5_refuted 51 = .ok (.iload_n 3, 1) := by decide +kernel
theorem dX5_refuted_52 : decode cX5_refuted 52 = .ok (.invokestatic 99, 3) := by decide +kernel
theorem dX5_refuted_55 : decode cX5_refuted 55 = .ok (.iaload, 1) := by decide +kernel
theorem dX5_refuted_56 : decode cX5_refuted 56 = .ok (.ifCond .ne 7, 3) := by decide +kernel
theorem dX5_refuted_59 : decode cX5_refuted 59 = .ok (.iconst 1, 1) := by decide +kernel
theorem dX5_refuted_60 : decode cX5_refuted 60 = .ok (.goto 4, 3) := by decide +kernel
theorem dX5_refuted_63 : decode cX5_refuted 63 = .ok (.iconst 0, 1) := by decide +kernel
theorem dX5_refuted_64 : decode cX5_refuted 64 = .ok (.istore_n 2, 1) := by decide +kernel
theorem dX5_refuted_65 : decode cX5_refuted 65 = .ok (.iinc 3 1, 3) := by decide +kernel
theorem dX5_refuted_68 : decode cX5_refuted 68 = .ok (.goto (-34), 3) := by decide +kernel
theorem dX5_refuted_71 : decode cX5_refuted 71 = .ok (.iload_n 2, 1) := by decide +kernel
theorem dX5_refuted_72 : decode cX5_refuted 72 = .ok (.ifCond .eq 5, 3) := by decide +kernel
theorem dX5_refuted_75 : decode cX5_refuted 75 = .ok (.iconst 1, 1) := by decide +kernel
theorem dX5_refuted_76 : decode cX5_refuted 76 = .ok (.ireturn, 1) := by decide +kernel
theorem dX5_refuted_77 : decode cX5_refuted 77 = .ok (.iinc 1 1, 3) := by decide +kernel
theorem dX5_refuted_80 : decode cX5_refuted 80 = .ok (.goto (-70), 3) := by decide +kernel
theorem dX5_refuted_83 : decode cX5_refuted 83 = .ok (.iconst 0, 1) := by decide +kernel
theorem dX5_refuted_84 : decode cX5_refuted 84 = .ok (.ireturn, 1) := by decide +kernel
theorem dX5_rowCount_0 : decode cX5_rowCount 0 = .ok (.aload_n 0, 1) := by decide +kernel
theorem dX5_rowCount_1 : decode cX5_rowCount 1 = .ok (.iconst 0, 1) := by decide +kernel
theorem dX5_rowCount_2 : decode cX5_rowCount 2 = .ok (.putfield 34, 3) := by decide +kernel
theorem dX5_rowCount_5 : decode cX5_rowCount 5 = .ok (.aload_n 0, 1) := by decide +kernel
theorem dX5_rowCount_6 : decode cX5_rowCount 6 = .ok (.getfield 96, 3) := by decide +kernel
theorem dX5_rowCount_9 : decode cX5_rowCount 9 = .ok (.ireturn, 1) := by decide +kernel
set_option maxRecDepth 20000 in
theorem ggX5_evalStart_X5_clear : GoodIn wsX5_evalStart wsX5_clear := goodIn_r _ [7, 8, 9, 10, 11, 12, 13, 14, 15, 16, 17, 18, 19, 20, 21, 22, 23, 24] (by decide +kernel) (by decide +kernel)
set_option maxRecDepth 20000 in
theorem gX5_evalStart_X5_clear : GoodIn wsX5_evalStart (wsV RX5 62 RX5 yX5_clear wsX5_clear) := goodIn_app (goodIn_of _ (by decide +kernel)) ggX5_evalStart_X5_clear
theorem dX5_evalStart_0 : decode cX5_evalStart 0 = .ok (.aload_n 0, 1) := by decide +kernel
theorem dX5_evalStart_1 : decode cX5_evalStart 1 = .ok (.iconst 0, 1) := by decide +kernel
theorem dX5_evalStart_2 : decode cX5_evalStart 2 = .ok (.putfield 34, 3) := by decide +kernel
theorem dX5_evalStart_5 : decode cX5_evalStart 5 = .ok (.iconst 0, 1) := by decide +kernel
theorem dX5_evalStart_6 : decode cX5_evalStart 6 = .ok (.istore_n 1, 1) := by decide +kernel
theorem dX5_evalStart_7 : decode cX5_evalStart 7 = .ok (.iload_n 1, 1) := by decide +kernel
theorem dX5_evalStart_8 : decode cX5_evalStart 8 = .ok (.aload_n 0, 1) := by decide +kernel
theorem dX5_evalStart_9 : decode cX5_evalStart 9 = .ok (.getfield 24, 3) := by decide +kernel
theorem dX5_evalStart_12 : decode cX5_evalStart 12 = .ok (.if_icmp .ge 18, 3) := by decide +kernel
theorem dX5_evalStart_15 : decode cX5_evalStart 15 = .ok (.aload_n 0, 1) := by decide +kernel
theorem dX5_evalStart_16 : decode cX5_evalStart 16 = .ok (.sipush 434, 3) := by decide +kernel
theorem dX5_evalStart_19 : decode cX5_evalStart 19 = .ok (.iload_n 1, 1) := by decide +kernel
theorem dX5_evalStart_20 : decode cX5_evalStart 20 = .ok (.iadd, 1) := by decide +kernel
theorem dX5_evalStart_21 : decode cX5_evalStart 21 = .ok (.invokevirtual 62, 3) := by decide +kernel
theorem dX5_evalStart_24 : decode cX5_evalStart 24 = .ok (.iinc 1 1, 3) := by decide +kernel
theorem dX5_evalStart_27 : decode cX5_evalStart 27 = .ok (.goto (-20), 3) := by decide +kernel
theorem dX5_evalStart_30 : decode cX5_evalStart 30 = .ok (.iconst 1, 1) := by decide +kernel
theorem dX5_evalStart_31 : decode cX5_evalStart 31 = .ok (.ireturn, 1) := by decide +kernel
set_option maxRecDepth 20000 in
theorem ggX5_evalPoint_X5_settle : GoodIn wsX5_evalPoint wsX5_settle := goodIn_r _ [8, 9, 10, 11, 12, 13, 14, 15, 7, 16, 17, 22, 23, 24, 25, 26, 27, 28, 29, 30, 31, 32, 33, 34, 35, 36] (by decide +kernel) (by decide +kernel)
set_option maxRecDepth 20000 in
theorem gX5_evalPoint_X5_settle : GoodIn wsX5_evalPoint (wsV RX5 93 RX5 yX5_settle wsX5_settle) := goodIn_app (goodIn_of _ (by decide +kernel)) ggX5_evalPoint_X5_settle
set_option maxRecDepth 20000 in
theorem ggX5_evalPoint_X5_copy : GoodIn wsX5_evalPoint wsX5_copy := goodIn_r _ [21, 9, 12, 17, 22, 23, 24, 25, 26, 27, 28, 29, 30, 31, 32, 33, 34, 35, 36] (by decide +kernel) (by decide +kernel)
set_option maxRecDepth 20000 in
theorem gX5_evalPoint_X5_copy : GoodIn wsX5_evalPoint (wsV RX5 58 RX5 yX5_copy wsX5_copy) := goodIn_app (goodIn_of _ (by decide +kernel)) ggX5_evalPoint_X5_copy
theorem dX5_evalPoint_0 : decode cX5_evalPoint 0 = .ok (.aload_n 0, 1) := by decide +kernel
theorem dX5_evalPoint_1 : decode cX5_evalPoint 1 = .ok (.iconst 0, 1) := by decide +kernel
theorem dX5_evalPoint_2 : decode cX5_evalPoint 2 = .ok (.putfield 34, 3) := by decide +kernel
theorem dX5_evalPoint_5 : decode cX5_evalPoint 5 = .ok (.iload_n 1, 1) := by decide +kernel
theorem dX5_evalPoint_6 : decode cX5_evalPoint 6 = .ok (.ifCond .lt 18, 3) := by decide +kernel
theorem dX5_evalPoint_9 : decode cX5_evalPoint 9 = .ok (.iload_n 1, 1) := by decide +kernel
theorem dX5_evalPoint_10 : decode cX5_evalPoint 10 = .ok (.aload_n 0, 1) := by decide +kernel
theorem dX5_evalPoint_11 : decode cX5_evalPoint 11 = .ok (.getfield 24, 3) := by decide +kernel
theorem dX5_evalPoint_14 : decode cX5_evalPoint 14 = .ok (.if_icmp .ge 10, 3) := by decide +kernel
theorem dX5_evalPoint_17 : decode cX5_evalPoint 17 = .ok (.aload_n 0, 1) := by decide +kernel
theorem dX5_evalPoint_18 : decode cX5_evalPoint 18 = .ok (.getfield 84, 3) := by decide +kernel
theorem dX5_evalPoint_21 : decode cX5_evalPoint 21 = .ok (.ifCond .ne 5, 3) := by decide +kernel
theorem dX5_evalPoint_24 : decode cX5_evalPoint 24 = .ok (.iconst 0, 1) := by decide +kernel
theorem dX5_evalPoint_25 : decode cX5_evalPoint 25 = .ok (.ireturn, 1) := by decide +kernel
theorem dX5_evalPoint_26 : decode cX5_evalPoint 26 = .ok (.aload_n 0, 1) := by decide +kernel
theorem dX5_evalPoint_27 : decode cX5_evalPoint 27 = .ok (.getfield 84, 3) := by decide +kernel
theorem dX5_evalPoint_30 : decode cX5_evalPoint 30 = .ok (.iconst 1, 1) := by decide +kernel
theorem dX5_evalPoint_31 : decode cX5_evalPoint 31 = .ok (.if_icmp .ne 7, 3) := by decide +kernel
theorem dX5_evalPoint_34 : decode cX5_evalPoint 34 = .ok (.aload_n 0, 1) := by decide +kernel
theorem dX5_evalPoint_35 : decode cX5_evalPoint 35 = .ok (.invokevirtual 93, 3) := by decide +kernel
theorem dX5_evalPoint_38 : decode cX5_evalPoint 38 = .ok (.aload_n 0, 1) := by decide +kernel
theorem dX5_evalPoint_39 : decode cX5_evalPoint 39 = .ok (.iconst 2, 1) := by decide +kernel
theorem dX5_evalPoint_40 : decode cX5_evalPoint 40 = .ok (.putfield 84, 3) := by decide +kernel
theorem dX5_evalPoint_43 : decode cX5_evalPoint 43 = .ok (.aload_n 0, 1) := by decide +kernel
theorem dX5_evalPoint_44 : decode cX5_evalPoint 44 = .ok (.sipush 434, 3) := by decide +kernel
theorem dX5_evalPoint_47 : decode cX5_evalPoint 47 = .ok (.iload_n 1, 1) := by decide +kernel
theorem dX5_evalPoint_48 : decode cX5_evalPoint 48 = .ok (.iadd, 1) := by decide +kernel
theorem dX5_evalPoint_49 : decode cX5_evalPoint 49 = .ok (.sipush 440, 3) := by decide +kernel
theorem dX5_evalPoint_52 : decode cX5_evalPoint 52 = .ok (.invokevirtual 58, 3) := by decide +kernel
theorem dX5_evalPoint_55 : decode cX5_evalPoint 55 = .ok (.iconst 1, 1) := by decide +kernel
theorem dX5_evalPoint_56 : decode cX5_evalPoint 56 = .ok (.ireturn, 1) := by decide +kernel
set_option maxRecDepth 20000 in
theorem ggX5_holds_X5_clear : GoodIn wsX5_holds wsX5_clear := goodIn_r _ [8, 3, 2, 46, 47, 48, 49, 50, 51, 52, 53, 54, 55, 56, 57, 58, 59, 60] (by decide +kernel) (by decide +kernel)
set_option maxRecDepth 20000 in
theorem gX5_holds_X5_clear : GoodIn wsX5_holds (wsV RX5 62 RX5 yX5_clear wsX5_clear) := goodIn_app (goodIn_of _ (by decide +kernel)) ggX5_holds_X5_clear
set_option maxRecDepth 20000 in
theorem ggX5_holds_X5_placeOf : GoodIn wsX5_holds wsX5_placeOf := goodIn_r _ [11] (by decide +kernel) (by decide +kernel)
set_option maxRecDepth 20000 in
theorem gX5_holds_X5_placeOf : GoodIn wsX5_holds (va_wsS RX5 99 yX5_placeOf wsX5_placeOf) := goodIn_app (goodIn_of _ (by decide +kernel)) ggX5_holds_X5_placeOf
set_option maxRecDepth 20000 in
theorem ggX5_holds_X5_multiply : GoodIn wsX5_holds wsX5_multiply := goodIn_r _ [15, 3, 16, 17, 2, 18, 19, 20, 7, 21, 22, 23, 24, 25, 46, 47, 48, 49, 50, 51, 52, 53, 54, 55, 56, 57, 58, 59, 60] (by decide +kernel) (by decide +kernel)
set_option maxRecDepth 20000 in
theorem gX5_holds_X5_multiply : GoodIn wsX5_holds (wsV RX5 118 RX5 yX5_multiply wsX5_multiply) := goodIn_app (goodIn_of _ (by decide +kernel)) ggX5_holds_X5_multiply
set_option maxRecDepth 20000 in
theorem ggX5_holds_X5_add : GoodIn wsX5_holds wsX5_add := goodIn_r _ [29, 2, 3, 30, 31, 32, 7, 33, 16, 17, 18, 19, 20, 21, 22, 23, 24, 25, 34, 35, 36, 37, 38, 39, 40, 41, 46, 47, 48, 49, 50, 51, 52, 53, 54, 55, 56, 57, 58, 59, 60] (by decide +kernel) (by decide +kernel)
set_option maxRecDepth 20000 in
theorem gX5_holds_X5_add : GoodIn wsX5_holds (wsV RX5 121 RX5 yX5_add wsX5_add) := goodIn_app (goodIn_of _ (by decide +kernel)) ggX5_holds_X5_add
set_option maxRecDepth 20000 in
theorem ggX5_holds_X5_copy : GoodIn wsX5_holds wsX5_copy := goodIn_r _ [45, 3, 2, 16, 46, 47, 48, 49, 50, 51, 52, 53, 54, 55, 56, 57, 58, 59, 60] (by decide +kernel) (by decide +kernel)
set_option maxRecDepth 20000 in
theorem gX5_holds_X5_copy : GoodIn wsX5_holds (wsV RX5 58 RX5 yX5_copy wsX5_copy) := goodIn_app (goodIn_of _ (by decide +kernel)) ggX5_holds_X5_copy
theorem dX5_holds_0 : decode cX5_holds 0 = .ok (.aload_n 0, 1) := by decide +kernel
theorem dX5_holds_1 : decode cX5_holds 1 = .ok (.sipush 442, 3) := by decide +kernel
theorem dX5_holds_4 : decode cX5_holds 4 = .ok (.invokevirtual 62, 3) := by decide +kernel
theorem dX5_holds_7 : decode cX5_holds 7 = .ok (.iconst 0, 1) := by decide +kernel
theorem dX5_holds_8 : decode cX5_holds 8 = .ok (.istore_n 2, 1) := by decide +kernel
theorem dX5_holds_9 : decode cX5_holds 9 = .ok (.iload_n 2, 1) := by decide +kernel
theorem dX5_holds_10 : decode cX5_holds 10 = .ok (.aload_n 0, 1) := by decide +kernel
theorem dX5_holds_11 : decode cX5_holds 11 = .ok (.getfield 24, 3) := by decide +kernel
theorem dX5_holds_14 : decode cX5_holds 14 = .ok (.if_icmp .ge 49, 3) := by decide +kernel
theorem dX5_holds_17 : decode cX5_holds 17 = .ok (.aload_n 0, 1) := by decide +kernel
theorem dX5_holds_18 : decode cX5_holds 18 = .ok (.sipush 441, 3) := by decide +kernel
theorem dX5_holds_21 : decode cX5_holds 21 = .ok (.sipush 434, 3) := by decide +kernel
theorem dX5_holds_24 : decode cX5_holds 24 = .ok (.iload_n 2, 1) := by decide +kernel
theorem dX5_holds_25 : decode cX5_holds 25 = .ok (.iadd, 1) := by decide +kernel
theorem dX5_holds_26 : decode cX5_holds 26 = .ok (.iload_n 1, 1) := by decide +kernel
theorem dX5_holds_27 : decode cX5_holds 27 = .ok (.iload_n 2, 1) := by decide +kernel
theorem dX5_holds_28 : decode cX5_holds 28 = .ok (.invokestatic 99, 3) := by decide +kernel
theorem dX5_holds_31 : decode cX5_holds 31 = .ok (.invokevirtual 118, 3) := by decide +kernel
theorem dX5_holds_34 : decode cX5_holds 34 = .ok (.aload_n 0, 1) := by decide +kernel
theorem dX5_holds_35 : decode cX5_holds 35 = .ok (.sipush 443, 3) := by decide +kernel
theorem dX5_holds_38 : decode cX5_holds 38 = .ok (.sipush 442, 3) := by decide +kernel
theorem dX5_holds_41 : decode cX5_holds 41 = .ok (.sipush 441, 3) := by decide +kernel
theorem dX5_holds_44 : decode cX5_holds 44 = .ok (.invokevirtual 121, 3) := by decide +kernel
theorem dX5_holds_47 : decode cX5_holds 47 = .ok (.aload_n 0, 1) := by decide +kernel
theorem dX5_holds_48 : decode cX5_holds 48 = .ok (.sipush 442, 3) := by decide +kernel
theorem dX5_holds_51 : decode cX5_holds 51 = .ok (.sipush 443, 3) := by decide +kernel
theorem dX5_holds_54 : decode cX5_holds 54 = .ok (.invokevirtual 58, 3) := by decide +kernel
theorem dX5_holds_57 : decode cX5_holds 57 = .ok (.iinc 2 1, 3) := by decide +kernel
theorem dX5_holds_60 : decode cX5_holds 60 = .ok (.goto (-51), 3) := by decide +kernel
theorem dX5_holds_63 : decode cX5_holds 63 = .ok (.aload_n 0, 1) := by decide +kernel
theorem dX5_holds_64 : decode cX5_holds 64 = .ok (.getfield 16, 3) := by decide +kernel
theorem dX5_holds_67 : decode cX5_holds 67 = .ok (.sipush 442, 3) := by decide +kernel
theorem dX5_holds_70 : decode cX5_holds 70 = .ok (.aload_n 0, 1) := by decide +kernel
theorem dX5_holds_71 : decode cX5_holds 71 = .ok (.getfield 13, 3) := by decide +kernel
theorem dX5_holds_74 : decode cX5_holds 74 = .ok (.sipush 442, 3) := by decide +kernel
theorem dX5_holds_77 : decode cX5_holds 77 = .ok (.iaload, 1) := by decide +kernel
theorem dX5_holds_78 : decode cX5_holds 78 = .ok (.ifCond .le 18, 3) := by decide +kernel
theorem dX5_holds_81 : decode cX5_holds 81 = .ok (.aload_n 0, 1) := by decide +kernel
theorem dX5_holds_82 : decode cX5_holds 82 = .ok (.getfield 16, 3) := by decide +kernel
theorem dX5_holds_85 : decode cX5_holds 85 = .ok (.sipush 442, 3) := by decide +kernel
theorem dX5_holds_88 : decode cX5_holds 88 = .ok (.baload, 1) := by decide +kernel
theorem dX5_holds_89 : decode cX5_holds 89 = .ok (.ifCond .ne 7, 3) := by decide +kernel
theorem dX5_holds_92 : decode cX5_holds 92 = .ok (.iconst 1, 1) := by decide +kernel
theorem dX5_holds_93 : decode cX5_holds 93 = .ok (.goto 4, 3) := by decide +kernel
theorem dX5_holds_96 : decode cX5_holds 96 = .ok (.iconst 0, 1) := by decide +kernel
theorem dX5_holds_97 : decode cX5_holds 97 = .ok (.bastore, 1) := by decide +kernel
theorem dX5_holds_98 : decode cX5_holds 98 = .ok (.aload_n 0, 1) := by decide +kernel
theorem dX5_holds_99 : decode cX5_holds 99 = .ok (.sipush 443, 3) := by decide +kernel
theorem dX5_holds_102 : decode cX5_holds 102 = .ok (.iload_n 1, 1) := by decide +kernel
theorem dX5_holds_103 : decode cX5_holds 103 = .ok (.aload_n 0, 1) := by decide +kernel
theorem dX5_holds_104 : decode cX5_holds 104 = .ok (.getfield 24, 3) := by decide +kernel
theorem dX5_holds_107 : decode cX5_holds 107 = .ok (.invokestatic 99, 3) := by decide +kernel
theorem dX5_holds_110 : decode cX5_holds 110 = .ok (.sipush 442, 3) := by decide +kernel
theorem dX5_holds_113 : decode cX5_holds 113 = .ok (.invokevirtual 121, 3) := by decide +kernel
theorem dX5_holds_116 : decode cX5_holds 116 = .ok (.aload_n 0, 1) := by decide +kernel
theorem dX5_holds_117 : decode cX5_holds 117 = .ok (.getfield 16, 3) := by decide +kernel
theorem dX5_holds_120 : decode cX5_holds 120 = .ok (.sipush 443, 3) := by decide +kernel
theorem dX5_holds_123 : decode cX5_holds 123 = .ok (.baload, 1) := by decide +kernel
theorem dX5_holds_124 : decode cX5_holds 124 = .ok (.ifCond .ne 7, 3) := by decide +kernel
theorem dX5_holds_127 : decode cX5_holds 127 = .ok (.iconst 1, 1) := by decide +kernel
theorem dX5_holds_128 : decode cX5_holds 128 = .ok (.goto 4, 3) := by decide +kernel
theorem dX5_holds_131 : decode cX5_holds 131 = .ok (.iconst 0, 1) := by decide +kernel
theorem dX5_holds_132 : decode cX5_holds 132 = .ok (.ireturn, 1) := by decide +kernel
set_option maxRecDepth 20000 in
theorem ggX5_evalSatisfied_X5_holds : GoodIn wsX5_evalSatisfied wsX5_holds := goodIn_r _ [7, 8, 9, 10, 11, 12, 13, 6, 14, 15, 16, 17, 18, 19, 20, 21, 22, 23, 24, 25, 26, 27, 28, 29, 30, 31, 32, 33, 34, 35, 36, 37, 38, 39, 40, 41, 42, 43, 44, 45, 46, 47, 48, 49, 50, 51, 52, 53, 54, 55, 56, 57, 58, 59, 60, 61, 62, 63, 64, 65, 66] (by decide +kernel) (by decide +kernel)
set_option maxRecDepth 20000 in
theorem gX5_evalSatisfied_X5_holds : GoodIn wsX5_evalSatisfied (wsV RX5 130 RX5 yX5_holds wsX5_holds) := goodIn_app (goodIn_of _ (by decide +kernel)) ggX5_evalSatisfied_X5_holds
theorem dX5_evalSatisfied_0 : decode cX5_evalSatisfied 0 = .ok (.aload_n 0, 1) := by decide +kernel
theorem dX5_evalSatisfied_1 : decode cX5_evalSatisfied 1 = .ok (.iconst 0, 1) := by decide +kernel
theorem dX5_evalSatisfied_2 : decode cX5_evalSatisfied 2 = .ok (.putfield 34, 3) := by decide +kernel
theorem dX5_evalSatisfied_5 : decode cX5_evalSatisfied 5 = .ok (.iconst 0, 1) := by decide +kernel
theorem dX5_evalSatisfied_6 : decode cX5_evalSatisfied 6 = .ok (.istore_n 1, 1) := by decide +kernel
theorem dX5_evalSatisfied_7 : decode cX5_evalSatisfied 7 = .ok (.iload_n 1, 1) := by decide +kernel
theorem dX5_evalSatisfied_8 : decode cX5_evalSatisfied 8 = .ok (.aload_n 0, 1) := by decide +kernel
theorem dX5_evalSatisfied_9 : decode cX5_evalSatisfied 9 = .ok (.getfield 109, 3) := by decide +kernel
theorem dX5_evalSatisfied_12 : decode cX5_evalSatisfied 12 = .ok (.if_icmp .ge 19, 3) := by decide +kernel
theorem dX5_evalSatisfied_15 : decode cX5_evalSatisfied 15 = .ok (.aload_n 0, 1) := by decide +kernel
theorem dX5_evalSatisfied_16 : decode cX5_evalSatisfied 16 = .ok (.iload_n 1, 1) := by decide +kernel
theorem dX5_evalSatisfied_17 : decode cX5_evalSatisfied 17 = .ok (.invokevirtual 130, 3) := by decide +kernel
theorem dX5_evalSatisfied_20 : decode cX5_evalSatisfied 20 = .ok (.ifCond .ne 5, 3) := by decide +kernel
theorem dX5_evalSatisfied_23 : decode cX5_evalSatisfied 23 = .ok (.iconst 0, 1) := by decide +kernel
theorem dX5_evalSatisfied_24 : decode cX5_evalSatisfied 24 = .ok (.ireturn, 1) := by decide +kernel
theorem dX5_evalSatisfied_25 : decode cX5_evalSatisfied 25 = .ok (.iinc 1 1, 3) := by decide +kernel
theorem dX5_evalSatisfied_28 : decode cX5_evalSatisfied 28 = .ok (.goto (-21), 3) := by decide +kernel
theorem dX5_evalSatisfied_31 : decode cX5_evalSatisfied 31 = .ok (.iconst 1, 1) := by decide +kernel
theorem dX5_evalSatisfied_32 : decode cX5_evalSatisfied 32 = .ok (.ireturn, 1) := by decide +kernel
set_option maxRecDepth 20000 in
theorem ggX5_cell_X5_isRow : GoodIn wsX5_cell wsX5_isRow := goodIn_r _ [8, 9, 23, 24, 25, 26, 27, 28, 29, 30, 31, 32, 33, 34, 35, 36, 37] (by decide +kernel) (by decide +kernel)
set_option maxRecDepth 20000 in
theorem gX5_cell_X5_isRow : GoodIn wsX5_cell (wsV RX5 115 RX5 yX5_isRow wsX5_isRow) := goodIn_app (goodIn_of _ (by decide +kernel)) ggX5_cell_X5_isRow
set_option maxRecDepth 20000 in
theorem ggX5_cell_X5_refused : GoodIn wsX5_cell wsX5_refused := goodIn_r _ [13, 14, 23, 24, 25, 26, 27, 28, 29, 30, 31, 32, 33, 34, 35, 36, 37] (by decide +kernel) (by decide +kernel)
set_option maxRecDepth 20000 in
theorem gX5_cell_X5_refused : GoodIn wsX5_cell (wsV RX5 133 RX5 yX5_refused wsX5_refused) := goodIn_app (goodIn_of _ (by decide +kernel)) ggX5_cell_X5_refused
set_option maxRecDepth 20000 in
theorem ggX5_cell_X5_placeOf : GoodIn wsX5_cell wsX5_placeOf := goodIn_r _ [17] (by decide +kernel) (by decide +kernel)
set_option maxRecDepth 20000 in
theorem gX5_cell_X5_placeOf : GoodIn wsX5_cell (va_wsS RX5 99 yX5_placeOf wsX5_placeOf) := goodIn_app (goodIn_of _ (by decide +kernel)) ggX5_cell_X5_placeOf
set_option maxRecDepth 20000 in
theorem ggX5_cell_X5_limbOf : GoodIn wsX5_cell wsX5_limbOf := goodIn_r _ [21, 2, 22, 23, 24, 25, 26, 27, 28, 29, 30, 31, 32, 33, 34, 35, 36, 37] (by decide +kernel) (by decide +kernel)
set_option maxRecDepth 20000 in
theorem gX5_cell_X5_limbOf : GoodIn wsX5_cell (wsV RX5 37 RX5 yX5_limbOf wsX5_limbOf) := goodIn_app (goodIn_of _ (by decide +kernel)) ggX5_cell_X5_limbOf
theorem dX5_cell_0 : decode cX5_cell 0 = .ok (.aload_n 0, 1) := by decide +kernel
theorem dX5_cell_1 : decode cX5_cell 1 = .ok (.aload_n 0, 1) := by decide +kernel
theorem dX5_cell_2 : decode cX5_cell 2 = .ok (.iload_n 1, 1) := by decide +kernel
theorem dX5_cell_3 : decode cX5_cell 3 = .ok (.invokevirtual 115, 3) := by decide +kernel
theorem dX5_cell_6 : decode cX5_cell 6 = .ok (.ifCond .eq 25, 3) := by decide +kernel
theorem dX5_cell_9 : decode cX5_cell 9 = .ok (.iload_n 2, 1) := by decide +kernel
theorem dX5_cell_10 : decode cX5_cell 10 = .ok (.ifCond .lt 21, 3) := by decide +kernel
theorem dX5_cell_13 : decode cX5_cell 13 = .ok (.iload_n 2, 1) := by decide +kernel
theorem dX5_cell_14 : decode cX5_cell 14 = .ok (.aload_n 0, 1) := by decide +kernel
theorem dX5_cell_15 : decode cX5_cell 15 = .ok (.getfield 24, 3) := by decide +kernel
theorem dX5_cell_18 : decode cX5_cell 18 = .ok (.if_icmp .gt 13, 3) := by decide +kernel
theorem dX5_cell_21 : decode cX5_cell 21 = .ok (.iload_n 3, 1) := by decide +kernel
theorem dX5_cell_22 : decode cX5_cell 22 = .ok (.bipush (-2), 2) := by decide +kernel
theorem dX5_cell_24 : decode cX5_cell 24 = .ok (.if_icmp .lt 7, 3) := by decide +kernel
theorem dX5_cell_27 : decode cX5_cell 27 = .ok (.iconst 0, 1) := by decide +kernel
theorem dX5_cell_28 : decode cX5_cell 28 = .ok (.goto 4, 3) := by decide +kernel
theorem dX5_cell_31 : decode cX5_cell 31 = .ok (.iconst 1, 1) := by decide +kernel
theorem dX5_cell_32 : decode cX5_cell 32 = .ok (.invokevirtual 133, 3) := by decide +kernel
theorem dX5_cell_35 : decode cX5_cell 35 = .ok (.ifCond .eq 5, 3) := by decide +kernel
theorem dX5_cell_38 : decode cX5_cell 38 = .ok (.iconst 0, 1) := by decide +kernel
theorem dX5_cell_39 : decode cX5_cell 39 = .ok (.ireturn, 1) := by decide +kernel
theorem dX5_cell_40 : decode cX5_cell 40 = .ok (.iload_n 1, 1) := by decide +kernel
theorem dX5_cell_41 : decode cX5_cell 41 = .ok (.iload_n 2, 1) := by decide +kernel
theorem dX5_cell_42 : decode cX5_cell 42 = .ok (.invokestatic 99, 3) := by decide +kernel
theorem dX5_cell_45 : decode cX5_cell 45 = .ok (.istore 4, 2) := by decide +kernel
theorem dX5_cell_47 : decode cX5_cell 47 = .ok (.iload_n 3, 1) := by decide +kernel
theorem dX5_cell_48 : decode cX5_cell 48 = .ok (.iconst (-1), 1) := by decide +kernel
theorem dX5_cell_49 : decode cX5_cell 49 = .ok (.if_icmp .ne 33, 3) := by decide +kernel
theorem dX5_cell_52 : decode cX5_cell 52 = .ok (.aload_n 0, 1) := by decide +kernel
theorem dX5_cell_53 : decode cX5_cell 53 = .ok (.getfield 13, 3) := by decide +kernel
theorem dX5_cell_56 : decode cX5_cell 56 = .ok (.iload 4, 2) := by decide +kernel
theorem dX5_cell_58 : decode cX5_cell 58 = .ok (.iaload, 1) := by decide +kernel
theorem dX5_cell_59 : decode cX5_cell 59 = .ok (.ifCond .ne 7, 3) := by decide +kernel
theorem dX5_cell_62 : decode cX5_cell 62 = .ok (.iconst 0, 1) := by decide +kernel
theorem dX5_cell_63 : decode cX5_cell 63 = .ok (.goto 18, 3) := by decide +kernel
theorem dX5_cell_66 : decode cX5_cell 66 = .ok (.aload_n 0, 1) := by decide +kernel
theorem dX5_cell_67 : decode cX5_cell 67 = .ok (.getfield 16, 3) := by decide +kernel
theorem dX5_cell_70 : decode cX5_cell 70 = .ok (.iload 4, 2) := by decide +kernel
theorem dX5_cell_72 : decode cX5_cell 72 = .ok (.baload, 1) := by decide +kernel
theorem dX5_cell_73 : decode cX5_cell 73 = .ok (.ifCond .eq 7, 3) := by decide +kernel
theorem dX5_cell_76 : decode cX5_cell 76 = .ok (.iconst (-1), 1) := by decide +kernel
theorem dX5_cell_77 : decode cX5_cell 77 = .ok (.goto 4, 3) := by decide +kernel
theorem dX5_cell_80 : decode cX5_cell 80 = .ok (.iconst 1, 1) := by decide +kernel
theorem dX5_cell_81 : decode cX5_cell 81 = .ok (.ireturn, 1) := by decide +kernel
theorem dX5_cell_82 : decode cX5_cell 82 = .ok (.iload_n 3, 1) := by decide +kernel
theorem dX5_cell_83 : decode cX5_cell 83 = .ok (.bipush (-2), 2) := by decide +kernel
theorem dX5_cell_85 : decode cX5_cell 85 = .ok (.if_icmp .ne 13, 3) := by decide +kernel
theorem dX5_cell_88 : decode cX5_cell 88 = .ok (.aload_n 0, 1) := by decide +kernel
theorem dX5_cell_89 : decode cX5_cell 89 = .ok (.getfield 13, 3) := by decide +kernel
theorem dX5_cell_92 : decode cX5_cell 92 = .ok (.iload 4, 2) := by decide +kernel
theorem dX5_cell_94 : decode cX5_cell 94 = .ok (.iaload, 1) := by decide +kernel
theorem dX5_cell_95 : decode cX5_cell 95 = .ok (.goto 11, 3) := by decide +kernel
theorem dX5_cell_98 : decode cX5_cell 98 = .ok (.aload_n 0, 1) := by decide +kernel
theorem dX5_cell_99 : decode cX5_cell 99 = .ok (.iload 4, 2) := by decide +kernel
theorem dX5_cell_101 : decode cX5_cell 101 = .ok (.iload_n 3, 1) := by decide +kernel
theorem dX5_cell_102 : decode cX5_cell 102 = .ok (.invokevirtual 37, 3) := by decide +kernel
theorem dX5_cell_105 : decode cX5_cell 105 = .ok (.l2i, 1) := by decide +kernel
theorem dX5_cell_106 : decode cX5_cell 106 = .ok (.ireturn, 1) := by decide +kernel
set_option maxRecDepth 20000 in
theorem ggX5_count_X5_refused : GoodIn wsX5_count wsX5_refused := goodIn_r _ [11, 12, 13, 14, 15, 16, 17, 18, 19, 20, 21, 22, 23, 24, 25, 26, 27] (by decide +kernel) (by decide +kernel)
set_option maxRecDepth 20000 in
theorem gX5_count_X5_refused : GoodIn wsX5_count (wsV RX5 133 RX5 yX5_refused wsX5_refused) := goodIn_app (goodIn_of _ (by decide +kernel)) ggX5_count_X5_refused
theorem dX5_count_0 : decode cX5_count 0 = .ok (.aload_n 0, 1) := by decide +kernel
theorem dX5_count_1 : decode cX5_count 1 = .ok (.iload_n 1, 1) := by decide +kernel
theorem dX5_count_2 : decode cX5_count 2 = .ok (.ifCond .lt 12, 3) := by decide +kernel
theorem dX5_count_5 : decode cX5_count 5 = .ok (.iload_n 1, 1) := by decide +kernel
theorem dX5_count_6 : decode cX5_count 6 = .ok (.iconst 5, 1) := by decide +kernel
theorem dX5_count_7 : decode cX5_count 7 = .ok (.if_icmp .gt 7, 3) := by decide +kernel
theorem dX5_count_10 : decode cX5_count 10 = .ok (.iconst 0, 1) := by decide +kernel
theorem dX5_count_11 : decode cX5_count 11 = .ok (.goto 4, 3) := by decide +kernel
theorem dX5_count_14 : decode cX5_count 14 = .ok (.iconst 1, 1) := by decide +kernel
theorem dX5_count_15 : decode cX5_count 15 = .ok (.invokevirtual 133, 3) := by decide +kernel
theorem dX5_count_18 : decode cX5_count 18 = .ok (.ifCond .eq 5, 3) := by decide +kernel
theorem dX5_count_21 : decode cX5_count 21 = .ok (.iconst 0, 1) := by decide +kernel
theorem dX5_count_22 : decode cX5_count 22 = .ok (.ireturn, 1) := by decide +kernel
theorem dX5_count_23 : decode cX5_count 23 = .ok (.iload_n 1, 1) := by decide +kernel
theorem dX5_count_24 : decode cX5_count 24 = .ok (.tableswitch 77 0 4 #[36, 41, 46, 51, 64], 36) := by decide +kernel
theorem dX5_count_60 : decode cX5_count 60 = .ok (.aload_n 0, 1) := by decide +kernel
theorem dX5_count_61 : decode cX5_count 61 = .ok (.getfield 31, 3) := by decide +kernel
theorem dX5_count_64 : decode cX5_count 64 = .ok (.ireturn, 1) := by decide +kernel
theorem dX5_count_65 : decode cX5_count 65 = .ok (.aload_n 0, 1) := by decide +kernel
theorem dX5_count_66 : decode cX5_count 66 = .ok (.getfield 109, 3) := by decide +kernel
theorem dX5_count_69 : decode cX5_count 69 = .ok (.ireturn, 1) := by decide +kernel
theorem dX5_count_70 : decode cX5_count 70 = .ok (.aload_n 0, 1) := by decide +kernel
theorem dX5_count_71 : decode cX5_count 71 = .ok (.getfield 90, 3) := by decide +kernel
theorem dX5_count_74 : decode cX5_count 74 = .ok (.ireturn, 1) := by decide +kernel
theorem dX5_count_75 : decode cX5_count 75 = .ok (.aload_n 0, 1) := by decide +kernel
theorem dX5_count_76 : decode cX5_count 76 = .ok (.getfield 102, 3) := by decide +kernel
theorem dX5_count_79 : decode cX5_count 79 = .ok (.ifCond .eq 7, 3) := by decide +kernel
theorem dX5_count_82 : decode cX5_count 82 = .ok (.iconst 1, 1) := by decide +kernel
theorem dX5_count_83 : decode cX5_count 83 = .ok (.goto 4, 3) := by decide +kernel
theorem dX5_count_86 : decode cX5_count 86 = .ok (.iconst 0, 1) := by decide +kernel
theorem dX5_count_87 : decode cX5_count 87 = .ok (.ireturn, 1) := by decide +kernel
theorem dX5_count_88 : decode cX5_count 88 = .ok (.aload_n 0, 1) := by decide +kernel
theorem dX5_count_89 : decode cX5_count 89 = .ok (.getfield 112, 3) := by decide +kernel
theorem dX5_count_92 : decode cX5_count 92 = .ok (.ifCond .eq 7, 3) := by decide +kernel
theorem dX5_count_95 : decode cX5_count 95 = .ok (.iconst 1, 1) := by decide +kernel
theorem dX5_count_96 : decode cX5_count 96 = .ok (.goto 4, 3) := by decide +kernel
theorem dX5_count_99 : decode cX5_count 99 = .ok (.iconst 0, 1) := by decide +kernel
theorem dX5_count_100 : decode cX5_count 100 = .ok (.ireturn, 1) := by decide +kernel
theorem dX5_count_101 : decode cX5_count 101 = .ok (.aload_n 0, 1) := by decide +kernel
theorem dX5_count_102 : decode cX5_count 102 = .ok (.getfield 84, 3) := by decide +kernel
theorem dX5_count_105 : decode cX5_count 105 = .ok (.ireturn, 1) := by decide +kernel
