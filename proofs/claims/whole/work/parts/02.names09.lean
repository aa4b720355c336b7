theorem dX7_findPlan_116 : decode cX7_findPlan 116 = .ok (.aload_n 0, 1) := by decide +kernel
theorem dX7_findPlan_117 : decode cX7_findPlan 117 = .ok (.getfield 155, 3) := by decide +kernel
theorem dX7_findPlan_120 : decode cX7_findPlan 120 = .ok (.aload_n 0, 1) := by decide +kernel
theorem dX7_findPlan_121 : decode cX7_findPlan 121 = .ok (.invokevirtual 78, 3) := by decide +kernel
theorem dX7_findPlan_124 : decode cX7_findPlan 124 = .ok (.iastore, 1) := by decide +kernel
theorem dX7_findPlan_125 : decode cX7_findPlan 125 = .ok (.aload_n 0, 1) := by decide +kernel
theorem dX7_findPlan_126 : decode cX7_findPlan 126 = .ok (.dup, 1) := by decide +kernel
theorem dX7_findPlan_127 : decode cX7_findPlan 127 = .ok (.getfield 155, 3) := by decide +kernel
theorem dX7_findPlan_130 : decode cX7_findPlan 130 = .ok (.iconst 1, 1) := by decide +kernel
theorem dX7_findPlan_131 : decode cX7_findPlan 131 = .ok (.iadd, 1) := by decide +kernel
theorem dX7_findPlan_132 : decode cX7_findPlan 132 = .ok (.putfield 155, 3) := by decide +kernel
theorem dX7_findPlan_135 : decode cX7_findPlan 135 = .ok (.aload_n 0, 1) := by decide +kernel
theorem dX7_findPlan_136 : decode cX7_findPlan 136 = .ok (.invokevirtual 152, 3) := by decide +kernel
theorem dX7_findPlan_139 : decode cX7_findPlan 139 = .ok (.istore_n 1, 1) := by decide +kernel
theorem dX7_findPlan_140 : decode cX7_findPlan 140 = .ok (.goto (-104), 3) := by decide +kernel
theorem dX7_findPlan_143 : decode cX7_findPlan 143 = .ok (.iconst 0, 1) := by decide +kernel
theorem dX7_findPlan_144 : decode cX7_findPlan 144 = .ok (.istore_n 2, 1) := by decide +kernel
theorem dX7_findPlan_145 : decode cX7_findPlan 145 = .ok (.iload_n 2, 1) := by decide +kernel
theorem dX7_findPlan_146 : decode cX7_findPlan 146 = .ok (.bipush 12, 2) := by decide +kernel
theorem dX7_findPlan_148 : decode cX7_findPlan 148 = .ok (.if_icmp .ge 21, 3) := by decide +kernel
theorem dX7_findPlan_151 : decode cX7_findPlan 151 = .ok (.aload_n 0, 1) := by decide +kernel
theorem dX7_findPlan_152 : decode cX7_findPlan 152 = .ok (.getfield 19, 3) := by decide +kernel
theorem dX7_findPlan_155 : decode cX7_findPlan 155 = .ok (.iload_n 2, 1) := by decide +kernel
theorem dX7_findPlan_156 : decode cX7_findPlan 156 = .ok (.aload_n 0, 1) := by decide +kernel
theorem dX7_findPlan_157 : decode cX7_findPlan 157 = .ok (.getfield 48, 3) := by decide +kernel
theorem dX7_findPlan_160 : decode cX7_findPlan 160 = .ok (.iload_n 2, 1) := by decide +kernel
theorem dX7_findPlan_161 : decode cX7_findPlan 161 = .ok (.iaload, 1) := by decide +kernel
theorem dX7_findPlan_162 : decode cX7_findPlan 162 = .ok (.iastore, 1) := by decide +kernel
theorem dX7_findPlan_163 : decode cX7_findPlan 163 = .ok (.iinc 2 1, 3) := by decide +kernel
theorem dX7_findPlan_166 : decode cX7_findPlan 166 = .ok (.goto (-21), 3) := by decide +kernel
theorem dX7_findPlan_169 : decode cX7_findPlan 169 = .ok (.aload_n 0, 1) := by decide +kernel
theorem dX7_findPlan_170 : decode cX7_findPlan 170 = .ok (.iconst 0, 1) := by decide +kernel
theorem dX7_findPlan_171 : decode cX7_findPlan 171 = .ok (.putfield 59, 3) := by decide +kernel
theorem dX7_findPlan_174 : decode cX7_findPlan 174 = .ok (.return_, 1) := by decide +kernel
set_option maxRecDepth 20000 in
theorem ggX7_plan_X7_within : GoodIn wsX7_plan wsX7_within := goodIn_r _ [8] (by decide +kernel) (by decide +kernel)
set_option maxRecDepth 20000 in
theorem gX7_plan_X7_within : GoodIn wsX7_plan (va_wsS RX7 51 yX7_within wsX7_within) := goodIn_app (goodIn_of _ (by decide +kernel)) ggX7_plan_X7_within
set_option maxRecDepth 20000 in
theorem ggX7_plan_X7_findPlan : GoodIn wsX7_plan wsX7_findPlan := goodIn_r _ [12, 13, 14, 1, 15, 2, 3, 4, 16, 17, 18, 7, 19, 20, 21, 22, 23, 24, 25, 26, 27, 28, 29, 30, 31, 32, 33, 34, 35, 36, 37, 38, 39, 40, 41, 42, 43, 44, 45, 46, 47, 48, 49, 50, 51, 52, 53, 54, 55, 56, 57, 58, 59, 60, 61, 62, 63, 64, 65, 66, 67, 68, 69, 70, 71, 72, 73, 74, 75, 76, 77, 78, 79, 80, 81, 82, 83, 84, 85, 86, 87, 88, 89, 90, 91, 92, 93, 94, 95, 96, 97, 98, 99, 100, 101, 102, 103, 104, 105] (by decide +kernel) (by decide +kernel)
set_option maxRecDepth 20000 in
theorem gX7_plan_X7_findPlan : GoodIn wsX7_plan (wsV RX7 158 RX7 yX7_findPlan wsX7_findPlan) := goodIn_app (goodIn_of _ (by decide +kernel)) ggX7_plan_X7_findPlan
theorem dX7_plan_0 : decode cX7_plan 0 = .ok (.iload_n 1, 1) := by decide +kernel
theorem dX7_plan_1 : decode cX7_plan 1 = .ok (.iconst 0, 1) := by decide +kernel
theorem dX7_plan_2 : decode cX7_plan 2 = .ok (.bipush 11, 2) := by decide +kernel
theorem dX7_plan_4 : decode cX7_plan 4 = .ok (.invokestatic 51, 3) := by decide +kernel
theorem dX7_plan_7 : decode cX7_plan 7 = .ok (.ifCond .eq 12, 3) := by decide +kernel
theorem dX7_plan_10 : decode cX7_plan 10 = .ok (.iload_n 2, 1) := by decide +kernel
theorem dX7_plan_11 : decode cX7_plan 11 = .ok (.iconst 0, 1) := by decide +kernel
theorem dX7_plan_12 : decode cX7_plan 12 = .ok (.iconst 2, 1) := by decide +kernel
theorem dX7_plan_13 : decode cX7_plan 13 = .ok (.invokestatic 51, 3) := by decide +kernel
theorem dX7_plan_16 : decode cX7_plan 16 = .ok (.ifCond .ne 6, 3) := by decide +kernel
theorem dX7_plan_19 : decode cX7_plan 19 = .ok (.bipush (-2), 2) := by decide +kernel
theorem dX7_plan_21 : decode cX7_plan 21 = .ok (.ireturn, 1) := by decide +kernel
theorem dX7_plan_22 : decode cX7_plan 22 = .ok (.aload_n 0, 1) := by decide +kernel
theorem dX7_plan_23 : decode cX7_plan 23 = .ok (.invokevirtual 158, 3) := by decide +kernel
theorem dX7_plan_26 : decode cX7_plan 26 = .ok (.iload_n 1, 1) := by decide +kernel
theorem dX7_plan_27 : decode cX7_plan 27 = .ok (.aload_n 0, 1) := by decide +kernel
theorem dX7_plan_28 : decode cX7_plan 28 = .ok (.getfield 155, 3) := by decide +kernel
theorem dX7_plan_31 : decode cX7_plan 31 = .ok (.if_icmp .lt 6, 3) := by decide +kernel
theorem dX7_plan_34 : decode cX7_plan 34 = .ok (.bipush (-9), 2) := by decide +kernel
theorem dX7_plan_36 : decode cX7_plan 36 = .ok (.ireturn, 1) := by decide +kernel
theorem dX7_plan_37 : decode cX7_plan 37 = .ok (.iload_n 2, 1) := by decide +kernel
theorem dX7_plan_38 : decode cX7_plan 38 = .ok (.ifCond .ne 12, 3) := by decide +kernel
theorem dX7_plan_41 : decode cX7_plan 41 = .ok (.aload_n 0, 1) := by decide +kernel
theorem dX7_plan_42 : decode cX7_plan 42 = .ok (.getfield 39, 3) := by decide +kernel
theorem dX7_plan_45 : decode cX7_plan 45 = .ok (.iload_n 1, 1) := by decide +kernel
theorem dX7_plan_46 : decode cX7_plan 46 = .ok (.iaload, 1) := by decide +kernel
theorem dX7_plan_47 : decode cX7_plan 47 = .ok (.goto 23, 3) := by decide +kernel
theorem dX7_plan_50 : decode cX7_plan 50 = .ok (.iload_n 2, 1) := by decide +kernel
theorem dX7_plan_51 : decode cX7_plan 51 = .ok (.iconst 1, 1) := by decide +kernel
theorem dX7_plan_52 : decode cX7_plan 52 = .ok (.if_icmp .ne 12, 3) := by decide +kernel
theorem dX7_plan_55 : decode cX7_plan 55 = .ok (.aload_n 0, 1) := by decide +kernel
theorem dX7_plan_56 : decode cX7_plan 56 = .ok (.getfield 42, 3) := by decide +kernel
theorem dX7_plan_59 : decode cX7_plan 59 = .ok (.iload_n 1, 1) := by decide +kernel
theorem dX7_plan_60 : decode cX7_plan 60 = .ok (.iaload, 1) := by decide +kernel
theorem dX7_plan_61 : decode cX7_plan 61 = .ok (.goto 9, 3) := by decide +kernel
theorem dX7_plan_64 : decode cX7_plan 64 = .ok (.aload_n 0, 1) := by decide +kernel
theorem dX7_plan_65 : decode cX7_plan 65 = .ok (.getfield 45, 3) := by decide +kernel
theorem dX7_plan_68 : decode cX7_plan 68 = .ok (.iload_n 1, 1) := by decide +kernel
theorem dX7_plan_69 : decode cX7_plan 69 = .ok (.iaload, 1) := by decide +kernel
theorem dX7_plan_70 : decode cX7_plan 70 = .ok (.ireturn, 1) := by decide +kernel
set_option maxRecDepth 20000 in
theorem ggX7_many_X7_explanations : GoodIn wsX7_many wsX7_explanations := goodIn_r _ [8, 9, 10, 11, 12, 13, 14, 15, 16, 7, 17, 18, 19, 20, 21, 22, 23, 24, 25, 26, 1, 27, 28, 29, 30, 31, 32, 33, 34, 35, 36, 37, 38, 39, 40, 41, 42, 43, 44, 45, 46, 47, 48, 49, 50, 51, 52, 53, 54, 91, 92, 93, 94, 95, 96, 97, 98, 99, 100, 101, 102, 103, 104, 105, 106, 107] (by decide +kernel) (by decide +kernel)
set_option maxRecDepth 20000 in
theorem gX7_many_X7_explanations : GoodIn wsX7_many (wsV RX7 78 RX7 yX7_explanations wsX7_explanations) := goodIn_app (goodIn_of _ (by decide +kernel)) ggX7_many_X7_explanations
set_option maxRecDepth 20000 in
theorem ggX7_many_X7_manyThat : GoodIn wsX7_many wsX7_manyThat := goodIn_r _ [58, 22, 91, 92, 93, 94, 95, 96, 97, 98, 99, 100, 101, 102, 103, 104, 105, 106, 107] (by decide +kernel) (by decide +kernel)
set_option maxRecDepth 20000 in
theorem gX7_many_X7_manyThat : GoodIn wsX7_many (wsV RX7 82 RX7 yX7_manyThat wsX7_manyThat) := goodIn_app (goodIn_of _ (by decide +kernel)) ggX7_many_X7_manyThat
set_option maxRecDepth 20000 in
theorem ggX7_many_X7_findPlan : GoodIn wsX7_many wsX7_findPlan := goodIn_r _ [62, 63, 22, 3, 9, 64, 65, 66, 67, 68, 69, 7, 70, 4, 5, 6, 8, 10, 11, 12, 13, 14, 15, 16, 17, 18, 19, 20, 21, 23, 24, 25, 26, 1, 27, 28, 29, 30, 31, 32, 33, 34, 35, 36, 37, 38, 39, 40, 41, 42, 43, 44, 45, 46, 47, 48, 49, 50, 51, 52, 53, 54, 71, 72, 73, 74, 75, 76, 77, 78, 79, 80, 81, 82, 83, 84, 85, 86, 87, 88, 89, 90, 91, 92, 93, 94, 95, 96, 97, 98, 99, 100, 101, 102, 103, 104, 105, 106, 107] (by decide +kernel) (by decide +kernel)
set_option maxRecDepth 20000 in
theorem gX7_many_X7_findPlan : GoodIn wsX7_many (wsV RX7 158 RX7 yX7_findPlan wsX7_findPlan) := goodIn_app (goodIn_of _ (by decide +kernel)) ggX7_many_X7_findPlan
theorem dX7_many_0 : decode cX7_many 0 = .ok (.iconst 0, 1) := by decide +kernel
theorem dX7_many_1 : decode cX7_many 1 = .ok (.istore_n 2, 1) := by decide +kernel
theorem dX7_many_2 : decode cX7_many 2 = .ok (.iload_n 1, 1) := by decide +kernel
theorem dX7_many_3 : decode cX7_many 3 = .ok (.tableswitch 104 0 5 #[37, 42, 48, 54, 90, 95], 37) := by decide +kernel
theorem dX7_many_40 : decode cX7_many 40 = .ok (.aload_n 0, 1) := by decide +kernel
theorem dX7_many_41 : decode cX7_many 41 = .ok (.invokevirtual 78, 3) := by decide +kernel
theorem dX7_many_44 : decode cX7_many 44 = .ok (.ireturn, 1) := by decide +kernel
theorem dX7_many_45 : decode cX7_many 45 = .ok (.aload_n 0, 1) := by decide +kernel
theorem dX7_many_46 : decode cX7_many 46 = .ok (.iconst 1, 1) := by decide +kernel
theorem dX7_many_47 : decode cX7_many 47 = .ok (.invokevirtual 82, 3) := by decide +kernel
theorem dX7_many_50 : decode cX7_many 50 = .ok (.ireturn, 1) := by decide +kernel
theorem dX7_many_51 : decode cX7_many 51 = .ok (.aload_n 0, 1) := by decide +kernel
theorem dX7_many_52 : decode cX7_many 52 = .ok (.iconst 2, 1) := by decide +kernel
theorem dX7_many_53 : decode cX7_many 53 = .ok (.invokevirtual 82, 3) := by decide +kernel
theorem dX7_many_56 : decode cX7_many 56 = .ok (.ireturn, 1) := by decide +kernel
theorem dX7_many_57 : decode cX7_many 57 = .ok (.iconst 0, 1) := by decide +kernel
theorem dX7_many_58 : decode cX7_many 58 = .ok (.istore_n 3, 1) := by decide +kernel
theorem dX7_many_59 : decode cX7_many 59 = .ok (.iload_n 3, 1) := by decide +kernel
theorem dX7_many_60 : decode cX7_many 60 = .ok (.aload_n 0, 1) := by decide +kernel
theorem dX7_many_61 : decode cX7_many 61 = .ok (.getfield 16, 3) := by decide +kernel
theorem dX7_many_64 : decode cX7_many 64 = .ok (.arraylength, 1) := by decide +kernel
theorem dX7_many_65 : decode cX7_many 65 = .ok (.if_icmp .ge 26, 3) := by decide +kernel
theorem dX7_many_68 : decode cX7_many 68 = .ok (.iload_n 2, 1) := by decide +kernel
theorem dX7_many_69 : decode cX7_many 69 = .ok (.aload_n 0, 1) := by decide +kernel
theorem dX7_many_70 : decode cX7_many 70 = .ok (.getfield 16, 3) := by decide +kernel
theorem dX7_many_73 : decode cX7_many 73 = .ok (.iload_n 3, 1) := by decide +kernel
theorem dX7_many_74 : decode cX7_many 74 = .ok (.iaload, 1) := by decide +kernel
theorem dX7_many_75 : decode cX7_many 75 = .ok (.ifCond .le 7, 3) := by decide +kernel
theorem dX7_many_78 : decode cX7_many 78 = .ok (.iconst 1, 1) := by decide +kernel
theorem dX7_many_79 : decode cX7_many 79 = .ok (.goto 4, 3) := by decide +kernel
theorem dX7_many_82 : decode cX7_many 82 = .ok (.iconst 0, 1) := by decide +kernel
theorem dX7_many_83 : decode cX7_many 83 = .ok (.iadd, 1) := by decide +kernel
theorem dX7_many_84 : decode cX7_many 84 = .ok (.istore_n 2, 1) := by decide +kernel
theorem dX7_many_85 : decode cX7_many 85 = .ok (.iinc 3 1, 3) := by decide +kernel
theorem dX7_many_88 : decode cX7_many 88 = .ok (.goto (-29), 3) := by decide +kernel
theorem dX7_many_91 : decode cX7_many 91 = .ok (.iload_n 2, 1) := by decide +kernel
theorem dX7_many_92 : decode cX7_many 92 = .ok (.ireturn, 1) := by decide +kernel
theorem dX7_many_93 : decode cX7_many 93 = .ok (.aload_n 0, 1) := by decide +kernel
theorem dX7_many_94 : decode cX7_many 94 = .ok (.getfield 70, 3) := by decide +kernel
theorem dX7_many_97 : decode cX7_many 97 = .ok (.ireturn, 1) := by decide +kernel
theorem dX7_many_98 : decode cX7_many 98 = .ok (.aload_n 0, 1) := by decide +kernel
theorem dX7_many_99 : decode cX7_many 99 = .ok (.invokevirtual 158, 3) := by decide +kernel
theorem dX7_many_102 : decode cX7_many 102 = .ok (.aload_n 0, 1) := by decide +kernel
theorem dX7_many_103 : decode cX7_many 103 = .ok (.getfield 155, 3) := by decide +kernel
theorem dX7_many_106 : decode cX7_many 106 = .ok (.ireturn, 1) := by decide +kernel
theorem dX7_many_107 : decode cX7_many 107 = .ok (.bipush (-2), 2) := by decide +kernel
theorem dX7_many_109 : decode cX7_many 109 = .ok (.ireturn, 1) := by decide +kernel
theorem dJ6_bitCount_0f7a4_0 : decode cJ6_bitCount_0f7a4 0 = .ok (.iload_n 0, 1) := by decide +kernel
theorem dJ6_bitCount_0f7a4_1 : decode cJ6_bitCount_0f7a4 1 = .ok (.iload_n 0, 1) := by decide +kernel
theorem dJ6_bitCount_0f7a4_2 : decode cJ6_bitCount_0f7a4 2 = .ok (.iconst 1, 1) := by decide +kernel
theorem dJ6_bitCount_0f7a4_3 : decode cJ6_bitCount_0f7a4 3 = .ok (.iushr, 1) := by decide +kernel
theorem dJ6_bitCount_0f7a4_4 : decode cJ6_bitCount_0f7a4 4 = .ok (.ldc_w 265, 3) := by decide +kernel
theorem dJ6_bitCount_0f7a4_7 : decode cJ6_bitCount_0f7a4 7 = .ok (.iand, 1) := by decide +kernel
theorem dJ6_bitCount_0f7a4_8 : decode cJ6_bitCount_0f7a4 8 = .ok (.isub, 1) := by decide +kernel
theorem dJ6_bitCount_0f7a4_9 : decode cJ6_bitCount_0f7a4 9 = .ok (.istore_n 0, 1) := by decide +kernel
theorem dJ6_bitCount_0f7a4_10 : decode cJ6_bitCount_0f7a4 10 = .ok (.iload_n 0, 1) := by decide +kernel
theorem dJ6_bitCount_0f7a4_11 : decode cJ6_bitCount_0f7a4 11 = .ok (.ldc_w 266, 3) := by decide +kernel
theorem dJ6_bitCount_0f7a4_14 : decode cJ6_bitCount_0f7a4 14 = .ok (.iand, 1) := by decide +kernel
theorem dJ6_bitCount_0f7a4_15 : decode cJ6_bitCount_0f7a4 15 = .ok (.iload_n 0, 1) := by decide +kernel
theorem dJ6_bitCount_0f7a4_16 : decode cJ6_bitCount_0f7a4 16 = .ok (.iconst 2, 1) := by decide +kernel
theorem dJ6_bitCount_0f7a4_17 : decode cJ6_bitCount_0f7a4 17 = .ok (.iushr, 1) := by decide +kernel
theorem dJ6_bitCount_0f7a4_18 : decode cJ6_bitCount_0f7a4 18 = .ok (.ldc_w 266, 3) := by decide +kernel
theorem dJ6_bitCount_0f7a4_21 : decode cJ6_bitCount_0f7a4 21 = .ok (.iand, 1) := by decide +kernel
theorem dJ6_bitCount_0f7a4_22 : decode cJ6_bitCount_0f7a4 22 = .ok (.iadd, 1) := by decide +kernel
theorem dJ6_bitCount_0f7a4_23 : decode cJ6_bitCount_0f7a4 23 = .ok (.istore_n 0, 1) := by decide +kernel
theorem dJ6_bitCount_0f7a4_24 : decode cJ6_bitCount_0f7a4 24 = .ok (.iload_n 0, 1) := by decide +kernel
theorem dJ6_bitCount_0f7a4_25 : decode cJ6_bitCount_0f7a4 25 = .ok (.iload_n 0, 1) := by decide +kernel
theorem dJ6_bitCount_0f7a4_26 : decode cJ6_bitCount_0f7a4 26 = .ok (.iconst 4, 1) := by decide +kernel
theorem dJ6_bitCount_0f7a4_27 : decode cJ6_bitCount_0f7a4 27 = .ok (.iushr, 1) := by decide +kernel
theorem dJ6_bitCount_0f7a4_28 : decode cJ6_bitCount_0f7a4 28 = .ok (.iadd, 1) := by decide +kernel
theorem dJ6_bitCount_0f7a4_29 : decode cJ6_bitCount_0f7a4 29 = .ok (.ldc_w 267, 3) := by decide +kernel
theorem dJ6_bitCount_0f7a4_32 : decode cJ6_bitCount_0f7a4 32 = .ok (.iand, 1) := by decide +kernel
theorem dJ6_bitCount_0f7a4_33 : decode cJ6_bitCount_0f7a4 33 = .ok (.istore_n 0, 1) := by decide +kernel
theorem dJ6_bitCount_0f7a4_34 : decode cJ6_bitCount_0f7a4 34 = .ok (.iload_n 0, 1) := by decide +kernel
theorem dJ6_bitCount_0f7a4_35 : decode cJ6_bitCount_0f7a4 35 = .ok (.iload_n 0, 1) := by decide +kernel
theorem dJ6_bitCount_0f7a4_36 : decode cJ6_bitCount_0f7a4 36 = .ok (.bipush 8, 2) := by decide +kernel
theorem dJ6_bitCount_0f7a4_38 : decode cJ6_bitCount_0f7a4 38 = .ok (.iushr, 1) := by decide +kernel
theorem dJ6_bitCount_0f7a4_39 : decode cJ6_bitCount_0f7a4 39 = .ok (.iadd, 1) := by decide +kernel
theorem dJ6_bitCount_0f7a4_40 : decode cJ6_bitCount_0f7a4 40 = .ok (.istore_n 0, 1) := by decide +kernel
theorem dJ6_bitCount_0f7a4_41 : decode cJ6_bitCount_0f7a4 41 = .ok (.iload_n 0, 1) := by decide +kernel
theorem dJ6_bitCount_0f7a4_42 : decode cJ6_bitCount_0f7a4 42 = .ok (.iload_n 0, 1) := by decide +kernel
theorem dJ6_bitCount_0f7a4_43 : decode cJ6_bitCount_0f7a4 43 = .ok (.bipush 16, 2) := by decide +kernel
theorem dJ6_bitCount_0f7a4_45 : decode cJ6_bitCount_0f7a4 45 = .ok (.iushr, 1) := by decide +kernel
theorem dJ6_bitCount_0f7a4_46 : decode cJ6_bitCount_0f7a4 46 = .ok (.iadd, 1) := by decide +kernel
theorem dJ6_bitCount_0f7a4_47 : decode cJ6_bitCount_0f7a4 47 = .ok (.istore_n 0, 1) := by decide +kernel
theorem dJ6_bitCount_0f7a4_48 : decode cJ6_bitCount_0f7a4 48 = .ok (.iload_n 0, 1) := by decide +kernel
theorem dJ6_bitCount_0f7a4_49 : decode cJ6_bitCount_0f7a4 49 = .ok (.bipush 63, 2) := by decide +kernel
theorem dJ6_bitCount_0f7a4_51 : decode cJ6_bitCount_0f7a4 51 = .ok (.iand, 1) := by decide +kernel
theorem dJ6_bitCount_0f7a4_52 : decode cJ6_bitCount_0f7a4 52 = .ok (.ireturn, 1) := by decide +kernel
theorem dJ9_max_7cf53_0 : decode cJ9_max_7cf53 0 = .ok (.iload_n 0, 1) := by decide +kernel
theorem dJ9_max_7cf53_1 : decode cJ9_max_7cf53 1 = .ok (.iload_n 1, 1) := by decide +kernel
theorem dJ9_max_7cf53_2 : decode cJ9_max_7cf53 2 = .ok (.if_icmp .lt 7, 3) := by decide +kernel
theorem dJ9_max_7cf53_5 : decode cJ9_max_7cf53 5 = .ok (.iload_n 0, 1) := by decide +kernel
theorem dJ9_max_7cf53_6 : decode cJ9_max_7cf53 6 = .ok (.goto 4, 3) := by decide +kernel
theorem dJ9_max_7cf53_9 : decode cJ9_max_7cf53 9 = .ok (.iload_n 1, 1) := by decide +kernel
theorem dJ9_max_7cf53_10 : decode cJ9_max_7cf53 10 = .ok (.ireturn, 1) := by decide +kernel
theorem dJ9_max_f86c9_0 : decode cJ9_max_f86c9 0 = .ok (.lload_n 0, 1) := by decide +kernel
theorem dJ9_max_f86c9_1 : decode cJ9_max_f86c9 1 = .ok (.lload_n 2, 1) := by decide +kernel
theorem dJ9_max_f86c9_2 : decode cJ9_max_f86c9 2 = .ok (.lcmp, 1) := by decide +kernel
theorem dJ9_max_f86c9_3 : decode cJ9_max_f86c9 3 = .ok (.ifCond .lt 7, 3) := by decide +kernel
theorem dJ9_max_f86c9_6 : decode cJ9_max_f86c9 6 = .ok (.lload_n 0, 1) := by decide +kernel
theorem dJ9_max_f86c9_7 : decode cJ9_max_f86c9 7 = .ok (.goto 4, 3) := by decide +kernel
theorem dJ9_max_f86c9_10 : decode cJ9_max_f86c9 10 = .ok (.lload_n 2, 1) := by decide +kernel
theorem dJ9_max_f86c9_11 : decode cJ9_max_f86c9 11 = .ok (.lreturn, 1) := by decide +kernel
theorem dJ9_min_7cf53_0 : decode cJ9_min_7cf53 0 = .ok (.iload_n 0, 1) := by decide +kernel
theorem dJ9_min_7cf53_1 : decode cJ9_min_7cf53 1 = .ok (.iload_n 1, 1) := by decide +kernel
theorem dJ9_min_7cf53_2 : decode cJ9_min_7cf53 2 = .ok (.if_icmp .gt 7, 3) := by decide +kernel
theorem dJ9_min_7cf53_5 : decode cJ9_min_7cf53 5 = .ok (.iload_n 0, 1) := by decide +kernel
theorem dJ9_min_7cf53_6 : decode cJ9_min_7cf53 6 = .ok (.goto 4, 3) := by decide +kernel
theorem dJ9_min_7cf53_9 : decode cJ9_min_7cf53 9 = .ok (.iload_n 1, 1) := by decide +kernel
theorem dJ9_min_7cf53_10 : decode cJ9_min_7cf53 10 = .ok (.ireturn, 1) := by decide +kernel
set_option maxRecDepth 20000 in
theorem ggL_law_X6_init : GoodIn wsL_law wsX6_init := goodIn_r _ [8, 9, 10, 11, 12, 13, 14, 15, 16, 17, 18, 19, 20, 21, 22, 23, 24, 25, 26, 27, 28, 29, 30, 31, 32, 33, 34, 35, 36, 37, 38, 39, 40, 41, 42, 43, 44, 45, 46, 47, 48, 49, 50, 51, 52, 53, 54, 55, 56, 57, 58, 59, 60, 61, 62, 63, 64, 65, 66, 67, 68, 69, 70, 71, 72, 73, 662, 663, 664, 665, 666, 667, 635, 636, 637, 638, 639, 640, 641, 642, 643, 644, 668, 669, 670, 671, 672, 673, 674, 675, 676, 677, 678, 679, 680, 681, 682, 683, 684, 685, 686] (by decide +kernel) (by decide +kernel)
set_option maxRecDepth 20000 in
theorem gL_law_X6_init : GoodIn wsL_law (wsX6_init) := ggL_law_X6_init
set_option maxRecDepth 20000 in
theorem ggL_law_X7_init : GoodIn wsL_law wsX7_init := goodIn_r _ [76, 77, 10, 11, 42, 78, 79, 80, 81, 82, 83, 84, 61, 85, 86, 87, 88, 89, 90, 91, 645, 646, 647, 648, 649, 650, 651, 652, 653, 654, 655, 656, 657, 658, 659, 660, 661] (by decide +kernel) (by decide +kernel)
set_option maxRecDepth 20000 in
theorem gL_law_X7_init : GoodIn wsL_law (wsX7_init) := ggL_law_X7_init
set_option maxRecDepth 20000 in
theorem ggL_law_X6_cause : GoodIn wsL_law wsX6_cause := goodIn_r _ [95, 15, 96, 97, 98, 99, 2, 100, 101, 102, 103, 104, 105, 106, 107, 108, 109, 635, 636, 637, 638, 639, 640, 641, 642, 643, 644, 662, 663, 664, 665, 666, 667] (by decide +kernel) (by decide +kernel)
set_option maxRecDepth 20000 in
theorem gL_law_X6_cause : GoodIn wsL_law (wsV RL 13 RX6 yX6_cause wsX6_cause) := goodIn_app (goodIn_of _ (by decide +kernel)) ggL_law_X6_cause
set_option maxRecDepth 20000 in
theorem ggL_law_X7_cause : GoodIn wsL_law wsX7_cause := goodIn_r _ [113, 78, 79, 114, 115, 116, 5, 117, 118, 119, 120, 645, 646, 647, 648, 649, 650, 651, 652, 653, 654, 655, 656, 657, 658, 659, 660, 661] (by decide +kernel) (by decide +kernel)
set_option maxRecDepth 20000 in
theorem gL_law_X7_cause : GoodIn wsL_law (wsV RL 17 RX7 yX7_cause wsX7_cause) := goodIn_app (goodIn_of _ (by decide +kernel)) ggL_law_X7_cause
set_option maxRecDepth 20000 in
theorem ggL_law_X6_link : GoodIn wsL_law wsX6_link := goodIn_r _ [124, 15, 125, 126, 2, 127, 98, 99, 100, 128, 129, 130, 14, 131, 46, 45, 132, 133, 134, 135, 136, 137, 47, 48, 138, 139, 140, 104, 105, 106, 107, 108, 109, 635, 636, 637, 638, 639, 640, 641, 642, 643, 644, 662, 663, 664, 665, 666, 667] (by decide +kernel) (by decide +kernel)
set_option maxRecDepth 20000 in
theorem gL_law_X6_link : GoodIn wsL_law (wsV RL 18 RX6 yX6_link wsX6_link) := goodIn_app (goodIn_of _ (by decide +kernel)) ggL_law_X6_link
set_option maxRecDepth 20000 in
theorem ggL_law_X7_link : GoodIn wsL_law wsX7_link := goodIn_r _ [144, 80, 114, 145, 146, 5, 147, 118, 119, 120, 115, 116, 117, 148, 149, 150, 151, 645, 646, 647, 648, 649, 650, 651, 652, 653, 654, 655, 656, 657, 658, 659, 660, 661] (by decide +kernel) (by decide +kernel)
set_option maxRecDepth 20000 in
theorem gL_law_X7_link : GoodIn wsL_law (wsV RL 21 RX7 yX7_link wsX7_link) := goodIn_app (goodIn_of _ (by decide +kernel)) ggL_law_X7_link
set_option maxRecDepth 20000 in
theorem ggL_law_X6_ofCause : GoodIn wsL_law wsX6_ofCause := goodIn_r _ [155, 15, 96, 97, 156, 157, 19, 158, 98, 99, 2, 100, 159, 160, 161, 14, 162, 48, 132, 133, 163, 164, 165, 166, 167, 108, 27, 168, 169, 170, 26, 171, 172, 173, 174, 175, 64, 176, 177, 178, 63, 179, 180, 181, 182, 183, 184, 185, 186, 187, 188, 62, 189, 190, 191, 192, 193, 194, 195, 196, 197, 198, 199, 200, 201, 202, 203, 204, 205, 206, 207, 208, 209, 210, 211, 212, 213, 214, 215, 216, 217, 635, 636, 637, 638, 639, 640, 641, 642, 643, 644, 662, 663, 664, 665, 666, 667, 668, 669, 673, 674, 675, 676, 677, 678, 679] (by decide +kernel) (by decide +kernel)
set_option maxRecDepth 20000 in
theorem gL_law_X6_ofCause : GoodIn wsL_law (wsV RL 22 RX6 yX6_ofCause wsX6_ofCause) := goodIn_app (goodIn_of _ (by decide +kernel)) ggL_law_X6_ofCause
set_option maxRecDepth 20000 in
theorem ggL_law_X7_ofCause : GoodIn wsL_law wsX7_ofCause := goodIn_r _ [221, 222, 84, 78, 79, 115, 116, 5, 117, 118, 119, 120, 148, 149, 150, 151, 80, 223, 224, 225, 226, 114, 87, 85, 227, 228, 229, 230, 231, 232, 233, 234, 81, 235, 236, 237, 238, 239, 240, 241, 242, 243, 244, 245, 246, 247, 248, 249, 250, 251, 252, 253, 254, 255, 256, 257, 258, 259, 260, 645, 646, 647, 648, 649, 650, 651, 652, 653, 654, 655, 656, 657, 658, 659, 660, 661] (by decide +kernel) (by decide +kernel)
set_option maxRecDepth 20000 in
theorem gL_law_X7_ofCause : GoodIn wsL_law (wsV RL 26 RX7 yX7_ofCause wsX7_ofCause) := goodIn_app (goodIn_of _ (by decide +kernel)) ggL_law_X7_ofCause
set_option maxRecDepth 20000 in
theorem ggL_law_X6_ofFinding : GoodIn wsL_law wsX6_ofFinding := goodIn_r _ [264, 19, 15, 265, 266, 125, 126, 2, 127, 267, 268, 269, 18, 270, 271, 272, 132, 133, 164, 165, 166, 167, 108, 27, 168, 169, 170, 26, 171, 172, 173, 174, 175, 64, 176, 177, 178, 63, 179, 160, 161, 14, 162, 48, 180, 181, 182, 183, 184, 185, 186, 187, 188, 62, 189, 190, 191, 192, 193, 194, 195, 196, 197, 198, 199, 200, 201, 202, 203, 204, 205, 206, 207, 208, 273, 274, 275, 276, 277, 278, 279, 280, 213, 214, 215, 216, 217, 281, 282, 283, 284, 47, 635, 636, 637, 638, 639, 640, 641, 642, 643, 644, 662, 663, 664, 665, 666, 667, 668, 669, 673, 674, 675, 676, 677, 678, 679] (by decide +kernel) (by decide +kernel)
set_option maxRecDepth 20000 in
theorem gL_law_X6_ofFinding : GoodIn wsL_law (wsV RL 27 RX6 yX6_ofFinding wsX6_ofFinding) := goodIn_app (goodIn_of _ (by decide +kernel)) ggL_law_X6_ofFinding
set_option maxRecDepth 20000 in
theorem ggL_law_X7_ofFinding : GoodIn wsL_law wsX7_ofFinding := goodIn_r _ [288, 81, 145, 146, 5, 147, 118, 119, 120, 148, 149, 150, 151, 80, 289, 290, 291, 292, 222, 223, 224, 225, 226, 114, 87, 84, 85, 227, 228, 229, 230, 231, 232, 233, 234, 235, 236, 237, 238, 239, 240, 241, 242, 243, 244, 245, 246, 247, 248, 249, 250, 251, 252, 253, 78, 79, 254, 255, 256, 257, 258, 259, 260, 293, 294, 295, 296, 297, 298, 299, 300, 645, 646, 647, 648, 649, 650, 651, 652, 653, 654, 655, 656, 657, 658, 659, 660, 661] (by decide +kernel) (by decide +kernel)
set_option maxRecDepth 20000 in
theorem gL_law_X7_ofFinding : GoodIn wsL_law (wsV RL 30 RX7 yX7_ofFinding wsX7_ofFinding) := goodIn_app (goodIn_of _ (by decide +kernel)) ggL_law_X7_ofFinding
set_option maxRecDepth 20000 in
theorem ggL_law_X6_tell : GoodIn wsL_law wsX6_tell := goodIn_r _ [304, 125, 126, 2, 127, 305, 306, 307, 308, 23, 19, 309, 267, 268, 269, 18, 270, 271, 272, 132, 133, 310, 311, 312, 22, 313, 314, 55, 56, 315, 316, 317, 318, 319, 320, 321, 322, 104, 105, 106, 107, 108, 109, 164, 165, 166, 167, 27, 168, 169, 170, 26, 171, 172, 173, 174, 175, 64, 176, 177, 178, 63, 179, 160, 161, 14, 162, 48, 180, 181, 182, 183, 184, 185, 186, 187, 188, 62, 189, 190, 191, 192, 193, 194, 195, 196, 197, 198, 199, 200, 201, 202, 203, 204, 205, 206, 207, 208, 635, 636, 637, 638, 639, 640, 641, 642, 643, 644, 673, 674, 675, 676, 677, 678, 679, 668, 669, 670, 671, 672, 662, 663, 664, 665, 666, 667] (by decide +kernel) (by decide +kernel)
set_option maxRecDepth 20000 in
theorem gL_law_X6_tell : GoodIn wsL_law (wsV RL 31 RX6 yX6_tell wsX6_tell) := goodIn_app (goodIn_of _ (by decide +kernel)) ggL_law_X6_tell
set_option maxRecDepth 20000 in
theorem ggL_law_X7_tell : GoodIn wsL_law wsX7_tell := goodIn_r _ [326, 81, 145, 146, 5, 147, 118, 119, 120, 327, 328, 329, 330, 114, 331, 82, 83, 223, 224, 225, 226, 222, 87, 84, 85, 227, 228, 229, 230, 231, 232, 233, 234, 148, 149, 150, 151, 80, 235, 236, 237, 238, 239, 240, 241, 242, 243, 244, 245, 246, 247, 248, 249, 250, 251, 252, 253, 78, 79, 254, 255, 256, 257, 258, 259, 260, 645, 646, 647, 648, 649, 650, 651, 652, 653, 654, 655, 656, 657, 658, 659, 660, 661] (by decide +kernel) (by decide +kernel)
set_option maxRecDepth 20000 in
theorem gL_law_X7_tell : GoodIn wsL_law (wsV RL 34 RX7 yX7_tell wsX7_tell) := goodIn_app (goodIn_of _ (by decide +kernel)) ggL_law_X7_tell
set_option maxRecDepth 20000 in
theorem ggL_law_X6_withdraw : GoodIn wsL_law wsX6_withdraw := goodIn_r _ [335, 19, 125, 126, 2, 127, 267, 268, 269, 18, 270, 271, 272, 132, 133, 305, 306, 307, 308, 23, 309, 310, 311, 312, 22, 313, 314, 55, 56, 315, 316, 317, 318, 319, 320, 321, 322, 104, 105, 106, 107, 108, 109, 164, 165, 166, 167, 27, 168, 169, 170, 26, 171, 172, 173, 174, 175, 64, 176, 177, 178, 63, 179, 160, 161, 14, 162, 48, 180, 181, 182, 183, 184, 185, 186, 187, 188, 62, 189, 190, 191, 192, 193, 194, 195, 196, 197, 198, 199, 200, 201, 202, 203, 204, 205, 206, 207, 208, 635, 636, 637, 638, 639, 640, 641, 642, 643, 644, 668, 669, 673, 674, 675, 676, 677, 678, 679, 670, 671, 672, 662, 663, 664, 665, 666, 667] (by decide +kernel) (by decide +kernel)
set_option maxRecDepth 20000 in
theorem gL_law_X6_withdraw : GoodIn wsL_law (wsV RL 35 RX6 yX6_withdraw wsX6_withdraw) := goodIn_app (goodIn_of _ (by decide +kernel)) ggL_law_X6_withdraw
set_option maxRecDepth 20000 in
theorem ggL_law_X7_withdraw : GoodIn wsL_law wsX7_withdraw := goodIn_r _ [339, 81, 145, 146, 5, 147, 118, 119, 120, 327, 328, 329, 330, 114, 331, 82, 83, 223, 224, 225, 226, 222, 87, 84, 85, 227, 228, 229, 230, 231, 232, 233, 234, 148, 149, 150, 151, 80, 235, 236, 237, 238, 239, 240, 241, 242, 243, 244, 245, 246, 247, 248, 249, 250, 251, 252, 253, 78, 79, 254, 255, 256, 257, 258, 259, 260, 645, 646, 647, 648, 649, 650, 651, 652, 653, 654, 655, 656, 657, 658, 659, 660, 661] (by decide +kernel) (by decide +kernel)
set_option maxRecDepth 20000 in
theorem gL_law_X7_withdraw : GoodIn wsL_law (wsV RL 39 RX7 yX7_withdraw wsX7_withdraw) := goodIn_app (goodIn_of _ (by decide +kernel)) ggL_law_X7_withdraw
set_option maxRecDepth 20000 in
theorem ggL_law_X6_back : GoodIn wsL_law wsX6_back := goodIn_r _ [343, 23, 344, 19, 309, 345, 346, 347, 22, 348, 314, 55, 56, 349, 320, 321, 18, 322, 271, 272, 104, 105, 106, 2, 107, 108, 109, 164, 165, 166, 167, 27, 168, 169, 170, 26, 171, 172, 173, 174, 175, 64, 176, 177, 178, 63, 179, 160, 161, 14, 162, 48, 132, 133, 180, 181, 182, 183, 184, 185, 186, 187, 188, 62, 189, 190, 191, 192, 193, 194, 195, 196, 197, 198, 199, 200, 201, 202, 203, 204, 205, 206, 207, 208, 635, 636, 637, 638, 639, 640, 641, 642, 643, 644, 670, 671, 672, 673, 674, 675, 676, 677, 678, 679, 668, 669, 662, 663, 664, 665, 666, 667] (by decide +kernel) (by decide +kernel)
set_option maxRecDepth 20000 in
theorem gL_law_X6_back : GoodIn wsL_law (wsV RL 40 RX6 yX6_back wsX6_back) := goodIn_app (goodIn_of _ (by decide +kernel)) ggL_law_X6_back
set_option maxRecDepth 20000 in
theorem ggL_law_X7_back : GoodIn wsL_law wsX7_back := goodIn_r _ [353, 331, 114, 81, 82, 83, 223, 224, 225, 5, 226, 222, 87, 84, 85, 227, 228, 229, 230, 231, 232, 233, 234, 148, 149, 150, 151, 80, 235, 236, 237, 238, 239, 240, 241, 242, 243, 244, 245, 246, 247, 248, 249, 250, 251, 252, 253, 78, 79, 254, 255, 256, 257, 258, 259, 260, 645, 646, 647, 648, 649, 650, 651, 652, 653, 654, 655, 656, 657, 658, 659, 660, 661] (by decide +kernel) (by decide +kernel)
set_option maxRecDepth 20000 in
theorem gL_law_X7_back : GoodIn wsL_law (wsV RL 44 RX7 yX7_back wsX7_back) := goodIn_app (goodIn_of _ (by decide +kernel)) ggL_law_X7_back
set_option maxRecDepth 20000 in
theorem ggL_law_X6_anew : GoodIn wsL_law wsX6_anew := goodIn_r _ [357, 19, 358, 158, 23, 344, 359, 190, 191, 192, 193, 194, 195, 104, 105, 106, 2, 107, 108, 109, 635, 636, 637, 638, 639, 640, 641, 642, 643, 644, 668, 669, 670, 671, 672] (by decide +kernel) (by decide +kernel)
set_option maxRecDepth 20000 in
theorem gL_law_X6_anew : GoodIn wsL_law (wsV RL 45 RX6 yX6_anew wsX6_anew) := goodIn_app (goodIn_of _ (by decide +kernel)) ggL_law_X6_anew
set_option maxRecDepth 20000 in
theorem ggL_law_X7_anew : GoodIn wsL_law wsX7_anew := goodIn_r _ [363, 81, 331, 114, 364, 365, 366, 5, 367, 645, 646, 647, 648, 649, 650, 651, 652, 653, 654, 655, 656, 657, 658, 659, 660, 661] (by decide +kernel) (by decide +kernel)
set_option maxRecDepth 20000 in
theorem gL_law_X7_anew : GoodIn wsL_law (wsV RL 48 RX7 yX7_anew wsX7_anew) := goodIn_app (goodIn_of _ (by decide +kernel)) ggL_law_X7_anew
set_option maxRecDepth 20000 in
theorem ggL_law_X6_explanation : GoodIn wsL_law wsX6_explanation := goodIn_r _ [371, 164, 165, 166, 2, 167, 108, 27, 19, 168, 169, 170, 26, 171, 172, 173, 174, 175, 64, 176, 177, 178, 63, 179, 160, 161, 14, 162, 48, 132, 133, 180, 181, 182, 183, 184, 185, 186, 187, 188, 62, 189, 190, 191, 192, 193, 194, 195, 196, 197, 198, 199, 200, 201, 202, 203, 204, 205, 206, 207, 208, 372, 373, 374, 375, 376, 214, 215, 216, 217, 359, 635, 636, 637, 638, 639, 640, 641, 642, 643, 644, 673, 674, 675, 676, 677, 678, 679, 668, 669, 662, 663, 664, 665, 666, 667] (by decide +kernel) (by decide +kernel)
set_option maxRecDepth 20000 in
theorem gL_law_X6_explanation : GoodIn wsL_law (wsV RL 49 RX6 yX6_explanation wsX6_explanation) := goodIn_app (goodIn_of _ (by decide +kernel)) ggL_law_X6_explanation
set_option maxRecDepth 20000 in
theorem ggL_law_X7_explanation : GoodIn wsL_law wsX7_explanation := goodIn_r _ [380, 84, 381, 382, 383, 5, 384, 223, 224, 225, 226, 114, 222, 87, 85, 227, 228, 229, 230, 231, 232, 233, 234, 81, 148, 149, 150, 151, 80, 235, 236, 237, 238, 239, 240, 241, 242, 243, 244, 245, 246, 247, 248, 249, 250, 251, 252, 253, 78, 79, 254, 255, 256, 257, 258, 259, 260, 118, 119, 120, 645, 646, 647, 648, 649, 650, 651, 652, 653, 654, 655, 656, 657, 658, 659, 660, 661] (by decide +kernel) (by decide +kernel)
set_option maxRecDepth 20000 in
theorem gL_law_X7_explanation : GoodIn wsL_law (wsV RL 52 RX7 yX7_explanation wsX7_explanation) := goodIn_app (goodIn_of _ (by decide +kernel)) ggL_law_X7_explanation
set_option maxRecDepth 20000 in
theorem ggL_law_X6_weight : GoodIn wsL_law wsX6_weight := goodIn_r _ [388, 389, 164, 165, 166, 2, 167, 108, 27, 19, 168, 169, 170, 26, 171, 172, 173, 174, 175, 64, 176, 177, 178, 63, 179, 160, 161, 14, 162, 48, 132, 133, 180, 181, 182, 183, 184, 185, 186, 187, 188, 62, 189, 190, 191, 192, 193, 194, 195, 196, 197, 198, 199, 200, 201, 202, 203, 204, 205, 206, 207, 208, 372, 373, 374, 375, 390, 391, 392, 393, 635, 636, 637, 638, 639, 640, 641, 642, 643, 644, 673, 674, 675, 676, 677, 678, 679, 668, 669, 662, 663, 664, 665, 666, 667] (by decide +kernel) (by decide +kernel)
set_option maxRecDepth 20000 in
theorem gL_law_X6_weight : GoodIn wsL_law (wsV RL 53 RX6 yX6_weight wsX6_weight) := goodIn_app (goodIn_of _ (by decide +kernel)) ggL_law_X6_weight
set_option maxRecDepth 20000 in
theorem ggL_law_X7_weight : GoodIn wsL_law wsX7_weight := goodIn_r _ [397, 85, 398, 381, 382, 383, 5, 384, 223, 224, 225, 226, 114, 222, 87, 84, 227, 228, 229, 230, 231, 232, 233, 234, 81, 148, 149, 150, 151, 80, 235, 236, 237, 238, 239, 240, 241, 242, 243, 244, 245, 246, 247, 248, 249, 250, 251, 252, 253, 78, 79, 254, 255, 256, 257, 258, 259, 260, 118, 119, 120, 645, 646, 647, 648, 649, 650, 651, 652, 653, 654, 655, 656, 657, 658, 659, 660, 661] (by decide +kernel) (by decide +kernel)
set_option maxRecDepth 20000 in
theorem gL_law_X7_weight : GoodIn wsL_law (wsV RL 57 RX7 yX7_weight wsX7_weight) := goodIn_app (goodIn_of _ (by decide +kernel)) ggL_law_X7_weight
set_option maxRecDepth 20000 in
theorem ggL_law_X6_share : GoodIn wsL_law wsX6_share := goodIn_r _ [402, 389, 403, 164, 165, 166, 2, 167, 108, 27, 19, 168, 169, 170, 26, 171, 172, 173, 174, 175, 64, 176, 177, 178, 63, 179, 160, 161, 14, 162, 48, 132, 133, 180, 181, 182, 183, 184, 185, 186, 187, 188, 62, 189, 190, 191, 192, 193, 194, 195, 196, 197, 198, 199, 200, 201, 202, 203, 204, 205, 206, 207, 208, 372, 373, 374, 375, 404, 405, 406, 390, 391, 392, 393, 407, 408, 409, 410, 411, 412, 673, 674, 675, 676, 677, 678, 679, 635, 636, 637, 638, 639, 640, 641, 642, 643, 644, 668, 669, 662, 663, 664, 665, 666, 667] (by decide +kernel) (by decide +kernel)
set_option maxRecDepth 20000 in
theorem gL_law_X6_share : GoodIn wsL_law (wsV RL 58 RX6 yX6_share wsX6_share) := goodIn_app (goodIn_of _ (by decide +kernel)) ggL_law_X6_share
set_option maxRecDepth 20000 in
theorem ggL_law_X7_share : GoodIn wsL_law wsX7_share := goodIn_r _ [416, 398, 85, 381, 382, 383, 5, 384, 223, 224, 225, 226, 114, 222, 87, 84, 227, 228, 229, 230, 231, 232, 233, 234, 81, 148, 149, 150, 151, 80, 235, 236, 237, 238, 239, 240, 241, 242, 243, 244, 245, 246, 247, 248, 249, 250, 251, 252, 253, 78, 79, 254, 255, 256, 257, 258, 259, 260, 118, 119, 120, 417, 418, 419, 420, 421, 422, 423, 645, 646, 647, 648, 649, 650, 651, 652, 653, 654, 655, 656, 657, 658, 659, 660, 661] (by decide +kernel) (by decide +kernel)
set_option maxRecDepth 20000 in
theorem gL_law_X7_share : GoodIn wsL_law (wsV RL 62 RX7 yX7_share wsX7_share) := goodIn_app (goodIn_of _ (by decide +kernel)) ggL_law_X7_share
set_option maxRecDepth 20000 in
theorem ggL_law_X6_needs : GoodIn wsL_law wsX6_needs := goodIn_r _ [427, 15, 19, 358, 164, 165, 166, 2, 167, 108, 27, 168, 169, 170, 26, 171, 172, 173, 174, 175, 64, 176, 177, 178, 63, 179, 160, 161, 14, 162, 48, 132, 133, 180, 181, 182, 183, 184, 185, 186, 187, 188, 62, 189, 190, 191, 192, 193, 194, 195, 196, 197, 198, 199, 200, 201, 202, 203, 204, 205, 206, 207, 208, 372, 373, 374, 375, 98, 99, 100, 376, 214, 215, 216, 217, 163, 428, 429, 430, 431, 45, 138, 139, 140, 432, 433, 434, 435, 635, 636, 637, 638, 639, 640, 641, 642, 643, 644, 668, 669, 673, 674, 675, 676, 677, 678, 679, 662, 663, 664, 665, 666, 667] (by decide +kernel) (by decide +kernel)
set_option maxRecDepth 20000 in
theorem gL_law_X6_needs : GoodIn wsL_law (wsV RL 63 RX6 yX6_needs wsX6_needs) := goodIn_app (goodIn_of _ (by decide +kernel)) ggL_law_X6_needs
set_option maxRecDepth 20000 in
theorem ggL_law_X7_needs : GoodIn wsL_law wsX7_needs := goodIn_r _ [439, 84, 81, 381, 382, 383, 5, 384, 223, 224, 225, 226, 114, 222, 87, 85, 227, 228, 229, 230, 231, 232, 233, 234, 148, 149, 150, 151, 80, 235, 236, 237, 238, 239, 240, 241, 242, 243, 244, 245, 246, 247, 248, 249, 250, 251, 252, 253, 78, 79, 254, 255, 256, 257, 258, 259, 260, 118, 119, 120, 115, 116, 117, 645, 646, 647, 648, 649, 650, 651, 652, 653, 654, 655, 656, 657, 658, 659, 660, 661] (by decide +kernel) (by decide +kernel)
set_option maxRecDepth 20000 in
theorem gL_law_X7_needs : GoodIn wsL_law (wsV RL 66 RX7 yX7_needs wsX7_needs) := goodIn_app (goodIn_of _ (by decide +kernel)) ggL_law_X7_needs
set_option maxRecDepth 20000 in
theorem ggL_law_X6_sets : GoodIn wsL_law wsX6_sets := goodIn_r _ [443, 15, 19, 158, 164, 165, 166, 2, 167, 108, 27, 168, 169, 170, 26, 171, 172, 173, 174, 175, 64, 176, 177, 178, 63, 179, 160, 161, 14, 162, 48, 132, 133, 180, 181, 182, 183, 184, 185, 186, 187, 188, 62, 189, 190, 191, 192, 193, 194, 195, 196, 197, 198, 199, 200, 201, 202, 203, 204, 205, 206, 207, 208, 444, 445, 446, 447, 213, 214, 215, 216, 217, 448, 449, 450, 451, 159, 635, 636, 637, 638, 639, 640, 641, 642, 643, 644, 668, 669, 673, 674, 675, 676, 677, 678, 679, 662, 663, 664, 665, 666, 667] (by decide +kernel) (by decide +kernel)
set_option maxRecDepth 20000 in
theorem gL_law_X6_sets : GoodIn wsL_law (wsV RL 67 RX6 yX6_sets wsX6_sets) := goodIn_app (goodIn_of _ (by decide +kernel)) ggL_law_X6_sets
set_option maxRecDepth 20000 in
theorem ggL_law_X7_sets : GoodIn wsL_law wsX7_sets := goodIn_r _ [455, 222, 84, 118, 119, 5, 120, 223, 224, 225, 226, 114, 87, 85, 227, 228, 229, 230, 231, 232, 233, 234, 81, 148, 149, 150, 151, 80, 235, 236, 237, 238, 239, 240, 241, 242, 243, 244, 245, 246, 247, 248, 249, 250, 251, 252, 253, 78, 79, 254, 255, 256, 257, 258, 259, 260, 645, 646, 647, 648, 649, 650, 651, 652, 653, 654, 655, 656, 657, 658, 659, 660, 661] (by decide +kernel) (by decide +kernel)
set_option maxRecDepth 20000 in
theorem gL_law_X7_sets : GoodIn wsL_law (wsV RL 70 RX7 yX7_sets wsX7_sets) := goodIn_app (goodIn_of _ (by decide +kernel)) ggL_law_X7_sets
set_option maxRecDepth 20000 in
theorem ggL_law_X6_belief : GoodIn wsL_law wsX6_belief := goodIn_r _ [459, 389, 309, 403, 98, 99, 2, 100, 404, 405, 406, 164, 165, 166, 167, 108, 27, 19, 168, 169, 170, 26, 171, 172, 173, 174, 175, 64, 176, 177, 178, 63, 179, 160, 161, 14, 162, 48, 132, 133, 180, 181, 182, 183, 184, 185, 186, 187, 188, 62, 189, 190, 191, 192, 193, 194, 195, 196, 197, 198, 199, 200, 201, 202, 203, 204, 205, 206, 207, 208, 460, 461, 462, 463, 213, 214, 215, 216, 217, 464, 391, 392, 393, 407, 408, 409, 410, 411, 412, 673, 674, 675, 676, 677, 678, 679, 635, 636, 637, 638, 639, 640, 641, 642, 643, 644, 668, 669, 662, 663, 664, 665, 666, 667] (by decide +kernel) (by decide +kernel)
set_option maxRecDepth 20000 in
theorem gL_law_X6_belief : GoodIn wsL_law (wsV RL 71 RX6 yX6_belief wsX6_belief) := goodIn_app (goodIn_of _ (by decide +kernel)) ggL_law_X6_belief
set_option maxRecDepth 20000 in
theorem ggL_law_X7_belief : GoodIn wsL_law wsX7_belief := goodIn_r _ [468, 398, 222, 84, 85, 115, 116, 5, 117, 118, 119, 120, 223, 224, 225, 226, 114, 87, 227, 228, 229, 230, 231, 232, 233, 234, 81, 148, 149, 150, 151, 80, 235, 236, 237, 238, 239, 240, 241, 242, 243, 244, 245, 246, 247, 248, 249, 250, 251, 252, 253, 78, 79, 254, 255, 256, 257, 258, 259, 260, 417, 418, 419, 420, 421, 422, 423, 645, 646, 647, 648, 649, 650, 651, 652, 653, 654, 655, 656, 657, 658, 659, 660, 661] (by decide +kernel) (by decide +kernel)
set_option maxRecDepth 20000 in
theorem gL_law_X7_belief : GoodIn wsL_law (wsV RL 74 RX7 yX7_belief wsX7_belief) := goodIn_app (goodIn_of _ (by decide +kernel)) ggL_law_X7_belief
set_option maxRecDepth 20000 in
theorem ggL_law_X6_fewest : GoodIn wsL_law wsX6_fewest := goodIn_r _ [472, 309, 164, 165, 166, 2, 167, 108, 27, 19, 168, 169, 170, 26, 171, 172, 173, 174, 175, 64, 176, 177, 178, 63, 179, 160, 161, 14, 162, 48, 132, 133, 180, 181, 182, 183, 184, 185, 186, 187, 188, 62, 189, 190, 191, 192, 193, 194, 195, 196, 197, 198, 199, 200, 201, 202, 203, 204, 205, 206, 207, 208, 473, 474, 475, 476, 477, 478, 479, 480, 213, 214, 215, 216, 217, 481, 482, 483, 484, 485, 486, 487, 488, 489, 490, 491, 673, 674, 675, 676, 677, 678, 679, 635, 636, 637, 638, 639, 640, 641, 642, 643, 644, 668, 669, 662, 663, 664, 665, 666, 667] (by decide +kernel) (by decide +kernel)
set_option maxRecDepth 20000 in
theorem gL_law_X6_fewest : GoodIn wsL_law (wsV RL 75 RX6 yX6_fewest wsX6_fewest) := goodIn_app (goodIn_of _ (by decide +kernel)) ggL_law_X6_fewest
set_option maxRecDepth 20000 in
theorem ggL_law_X7_fewest : GoodIn wsL_law wsX7_fewest := goodIn_r _ [495, 222, 84, 118, 119, 5, 120, 223, 224, 225, 226, 114, 87, 85, 227, 228, 229, 230, 231, 232, 233, 234, 81, 148, 149, 150, 151, 80, 235, 236, 237, 238, 239, 240, 241, 242, 243, 244, 245, 246, 247, 248, 249, 250, 251, 252, 253, 78, 79, 254, 255, 256, 257, 258, 259, 260, 645, 646, 647, 648, 649, 650, 651, 652, 653, 654, 655, 656, 657, 658, 659, 660, 661] (by decide +kernel) (by decide +kernel)
set_option maxRecDepth 20000 in
theorem gL_law_X7_fewest : GoodIn wsL_law (wsV RL 78 RX7 yX7_fewest wsX7_fewest) := goodIn_app (goodIn_of _ (by decide +kernel)) ggL_law_X7_fewest
set_option maxRecDepth 20000 in
theorem ggL_law_X6_covers : GoodIn wsL_law wsX6_covers := goodIn_r _ [499, 15, 19, 158, 358, 159, 160, 161, 14, 162, 48, 132, 2, 133, 500, 433, 434, 435, 45, 501, 502, 503, 504, 505, 429, 430, 431, 138, 139, 140, 432, 635, 636, 637, 638, 639, 640, 641, 642, 643, 644, 668, 669, 662, 663, 664, 665, 666, 667] (by decide +kernel) (by decide +kernel)
set_option maxRecDepth 20000 in
theorem gL_law_X6_covers : GoodIn wsL_law (wsV RL 79 RX6 yX6_covers wsX6_covers) := goodIn_app (goodIn_of _ (by decide +kernel)) ggL_law_X6_covers
set_option maxRecDepth 20000 in
theorem ggL_law_X7_covers : GoodIn wsL_law wsX7_covers := goodIn_r _ [509, 87, 118, 119, 5, 120, 223, 224, 225, 226, 114, 222, 84, 85, 227, 228, 229, 230, 231, 232, 233, 234, 81, 148, 149, 150, 151, 80, 235, 236, 237, 238, 239, 240, 241, 242, 243, 244, 245, 246, 247, 248, 249, 250, 251, 252, 253, 78, 79, 254, 255, 256, 257, 258, 259, 260, 645, 646, 647, 648, 649, 650, 651, 652, 653, 654, 655, 656, 657, 658, 659, 660, 661] (by decide +kernel) (by decide +kernel)
set_option maxRecDepth 20000 in
theorem gL_law_X7_covers : GoodIn wsL_law (wsV RL 82 RX7 yX7_covers wsX7_covers) := goodIn_app (goodIn_of _ (by decide +kernel)) ggL_law_X7_covers
set_option maxRecDepth 20000 in
theorem ggL_law_X6_unexplained : GoodIn wsL_law wsX6_unexplained := goodIn_r _ [513, 15, 19, 158, 358, 159, 160, 161, 14, 162, 48, 132, 2, 133, 500, 433, 434, 435, 45, 635, 636, 637, 638, 639, 640, 641, 642, 643, 644, 668, 669, 662, 663, 664, 665, 666, 667] (by decide +kernel) (by decide +kernel)
set_option maxRecDepth 20000 in
theorem gL_law_X6_unexplained : GoodIn wsL_law (wsV RL 83 RX6 yX6_unexplained wsX6_unexplained) := goodIn_app (goodIn_of _ (by decide +kernel)) ggL_law_X6_unexplained
set_option maxRecDepth 20000 in
theorem ggL_law_X7_unexplained : GoodIn wsL_law wsX7_unexplained := goodIn_r _ [517, 81, 227, 228, 229, 5, 230, 231, 232, 233, 234, 148, 149, 150, 151, 80, 239, 240, 241, 242, 243, 244, 245, 645, 646, 647, 648, 649, 650, 651, 652, 653, 654, 655, 656, 657, 658, 659, 660, 661] (by decide +kernel) (by decide +kernel)
set_option maxRecDepth 20000 in
theorem gL_law_X7_unexplained : GoodIn wsL_law (wsV RL 86 RX7 yX7_unexplained wsX7_unexplained) := goodIn_app (goodIn_of _ (by decide +kernel)) ggL_law_X7_unexplained
set_option maxRecDepth 20000 in
theorem ggL_law_X6_split : GoodIn wsL_law wsX6_split := goodIn_r _ [521, 19, 389, 33, 522, 523, 524, 125, 126, 2, 127, 267, 268, 269, 18, 270, 271, 272, 132, 133, 164, 165, 166, 167, 108, 27, 168, 169, 170, 26, 171, 172, 173, 174, 175, 64, 176, 177, 178, 63, 179, 160, 161, 14, 162, 48, 180, 181, 182, 183, 184, 185, 186, 187, 188, 62, 189, 190, 191, 192, 193, 194, 195, 196, 197, 198, 199, 200, 201, 202, 203, 204, 205, 206, 207, 208, 525, 526, 527, 32, 528, 529, 530, 531, 532, 533, 391, 392, 393, 534, 278, 279, 280, 213, 214, 215, 216, 217, 281, 282, 283, 284, 47, 535, 536, 537, 538, 539, 540, 479, 541, 542, 543, 544, 545, 546, 547, 548, 549, 635, 636, 637, 638, 639, 640, 641, 642, 643, 644, 680, 681, 682, 668, 669, 673, 674, 675, 676, 677, 678, 679, 662, 663, 664, 665, 666, 667] (by decide +kernel) (by decide +kernel)
set_option maxRecDepth 20000 in
theorem gL_law_X6_split : GoodIn wsL_law (wsV RL 87 RX6 yX6_split wsX6_split) := goodIn_app (goodIn_of _ (by decide +kernel)) ggL_law_X6_split
set_option maxRecDepth 20000 in
theorem ggL_law_X7_split : GoodIn wsL_law wsX7_split := goodIn_r _ [553, 81, 398, 145, 146, 5, 147, 118, 119, 120, 223, 224, 225, 226, 114, 222, 87, 84, 85, 227, 228, 229, 230, 231, 232, 233, 234, 148, 149, 150, 151, 80, 235, 236, 237, 238, 239, 240, 241, 242, 243, 244, 245, 246, 247, 248, 249, 250, 251, 252, 253, 78, 79, 254, 255, 256, 257, 258, 259, 260, 554, 555, 556, 557, 558, 559, 560, 561, 562, 563, 564, 565, 293, 294, 295, 296, 297, 298, 299, 300, 645, 646, 647, 648, 649, 650, 651, 652, 653, 654, 655, 656, 657, 658, 659, 660, 661] (by decide +kernel) (by decide +kernel)
set_option maxRecDepth 20000 in
theorem gL_law_X7_split : GoodIn wsL_law (wsV RL 90 RX7 yX7_split wsX7_split) := goodIn_app (goodIn_of _ (by decide +kernel)) ggL_law_X7_split
set_option maxRecDepth 20000 in
theorem ggL_law_X6_next : GoodIn wsL_law wsX6_next := goodIn_r _ [569, 19, 164, 165, 166, 2, 167, 108, 27, 168, 169, 170, 26, 171, 172, 173, 174, 175, 64, 176, 177, 178, 63, 179, 160, 161, 14, 162, 48, 132, 133, 180, 181, 182, 183, 184, 185, 186, 187, 188, 62, 189, 190, 191, 192, 193, 194, 195, 196, 197, 198, 199, 200, 201, 202, 203, 204, 205, 206, 207, 208, 570, 571, 572, 573, 309, 33, 267, 268, 269, 18, 270, 271, 272, 525, 526, 527, 32, 528, 529, 530, 531, 532, 533, 391, 392, 393, 534, 278, 279, 280, 213, 214, 215, 216, 217, 281, 282, 283, 284, 47, 535, 536, 537, 538, 539, 540, 479, 541, 542, 543, 544, 545, 546, 547, 548, 549, 635, 636, 637, 638, 639, 640, 641, 642, 643, 644, 673, 674, 675, 676, 677, 678, 679, 668, 669, 662, 663, 664, 665, 666, 667, 680, 681, 682] (by decide +kernel) (by decide +kernel)
set_option maxRecDepth 20000 in
theorem gL_law_X6_next : GoodIn wsL_law (wsV RL 91 RX6 yX6_next wsX6_next) := goodIn_app (goodIn_of _ (by decide +kernel)) ggL_law_X6_next
set_option maxRecDepth 20000 in
theorem ggL_law_X7_next : GoodIn wsL_law wsX7_next := goodIn_r _ [577, 578, 579, 580, 5, 581, 81, 223, 224, 225, 226, 114, 222, 87, 84, 85, 227, 228, 229, 230, 231, 232, 233, 234, 148, 149, 150, 151, 80, 235, 236, 237, 238, 239, 240, 241, 242, 243, 244, 245, 246, 247, 248, 249, 250, 251, 252, 253, 78, 79, 254, 255, 256, 257, 258, 259, 260, 554, 555, 556, 557, 558, 559, 560, 561, 562, 563, 564, 565, 293, 294, 295, 296, 297, 298, 299, 300, 645, 646, 647, 648, 649, 650, 651, 652, 653, 654, 655, 656, 657, 658, 659, 660, 661] (by decide +kernel) (by decide +kernel)
set_option maxRecDepth 20000 in
theorem gL_law_X7_next : GoodIn wsL_law (wsV RL 94 RX7 yX7_next wsX7_next) := goodIn_app (goodIn_of _ (by decide +kernel)) ggL_law_X7_next
set_option maxRecDepth 20000 in
theorem ggL_law_X6_would : GoodIn wsL_law wsX6_would := goodIn_r _ [585, 28, 19, 29, 309, 125, 126, 2, 127, 586, 587, 588, 18, 589, 271, 272, 319, 320, 321, 322, 168, 169, 170, 26, 171, 172, 173, 174, 175, 64, 176, 177, 178, 63, 179, 160, 161, 14, 162, 48, 132, 133, 180, 181, 182, 183, 184, 185, 186, 187, 188, 62, 189, 190, 191, 192, 193, 194, 195, 196, 197, 198, 199, 635, 636, 637, 638, 639, 640, 641, 642, 643, 644, 673, 674, 675, 676, 677, 678, 679, 668, 669, 662, 663, 664, 665, 666, 667] (by decide +kernel) (by decide +kernel)
set_option maxRecDepth 20000 in
theorem gL_law_X6_would : GoodIn wsL_law (wsV RL 95 RX6 yX6_would wsX6_would) := goodIn_app (goodIn_of _ (by decide +kernel)) ggL_law_X6_would
set_option maxRecDepth 20000 in
theorem ggL_law_X7_would : GoodIn wsL_law wsX7_would := goodIn_r _ [593, 81, 114, 145, 146, 5, 147, 118, 119, 120, 223, 224, 225, 226, 222, 87, 84, 85, 227, 228, 229, 230, 231, 232, 233, 234, 148, 149, 150, 151, 80, 235, 236, 237, 238, 239, 240, 241, 242, 243, 244, 245, 246, 247, 248, 249, 250, 251, 252, 253, 78, 79, 254, 255, 256, 257, 258, 259, 260, 645, 646, 647, 648, 649, 650, 651, 652, 653, 654, 655, 656, 657, 658, 659, 660, 661] (by decide +kernel) (by decide +kernel)
set_option maxRecDepth 20000 in
theorem gL_law_X7_would : GoodIn wsL_law (wsV RL 98 RX7 yX7_would wsX7_would) := goodIn_app (goodIn_of _ (by decide +kernel)) ggL_law_X7_would
set_option maxRecDepth 20000 in
theorem ggL_law_X6_plan : GoodIn wsL_law wsX6_plan := goodIn_r _ [597, 37, 598, 599, 600, 601, 602, 603, 604, 2, 605, 109, 28, 19, 29, 33, 309, 586, 587, 588, 18, 589, 271, 272, 168, 169, 170, 26, 171, 172, 173, 174, 175, 64, 176, 177, 178, 63, 179, 160, 161, 14, 162, 48, 132, 133, 180, 181, 182, 183, 184, 185, 186, 187, 188, 62, 189, 190, 191, 192, 193, 194, 195, 196, 197, 198, 199, 570, 571, 572, 573, 267, 268, 269, 270, 525, 526, 527, 32, 528, 529, 530, 531, 532, 533, 391, 392, 393, 534, 278, 279, 280, 213, 214, 215, 216, 217, 281, 282, 283, 284, 47, 535, 536, 537, 538, 539, 540, 479, 541, 542, 543, 544, 545, 546, 547, 548, 549, 606, 607, 319, 320, 321, 322, 608, 609, 610, 36, 611, 612, 71, 72, 73, 635, 636, 637, 638, 639, 640, 641, 642, 643, 644, 683, 684, 685, 686, 673, 674, 675, 676, 677, 678, 679, 668, 669, 662, 663, 664, 665, 666, 667, 680, 681, 682] (by decide +kernel) (by decide +kernel)
set_option maxRecDepth 20000 in
theorem gL_law_X6_plan : GoodIn wsL_law (wsV RL 99 RX6 yX6_plan wsX6_plan) := goodIn_app (goodIn_of _ (by decide +kernel)) ggL_law_X6_plan
set_option maxRecDepth 20000 in
theorem ggL_law_X7_plan : GoodIn wsL_law wsX7_plan := goodIn_r _ [616, 617, 88, 89, 90, 118, 119, 5, 120, 618, 619, 620, 621, 91, 81, 114, 578, 579, 580, 581, 223, 224, 225, 226, 222, 87, 84, 85, 227, 228, 229, 230, 231, 232, 233, 234, 148, 149, 150, 151, 80, 235, 236, 237, 238, 239, 240, 241, 242, 243, 244, 245, 246, 247, 248, 249, 250, 251, 252, 253, 78, 79, 254, 255, 256, 257, 258, 259, 260, 554, 555, 556, 557, 558, 559, 560, 561, 562, 563, 564, 565, 293, 294, 295, 296, 297, 298, 299, 300, 645, 646, 647, 648, 649, 650, 651, 652, 653, 654, 655, 656, 657, 658, 659, 660, 661] (by decide +kernel) (by decide +kernel)
set_option maxRecDepth 20000 in
theorem gL_law_X7_plan : GoodIn wsL_law (wsV RL 102 RX7 yX7_plan wsX7_plan) := goodIn_app (goodIn_of _ (by decide +kernel)) ggL_law_X7_plan
set_option maxRecDepth 20000 in
theorem ggL_law_X6_many : GoodIn wsL_law wsX6_many := goodIn_r _ [625, 309, 19, 358, 158, 15, 23, 344, 37, 598, 164, 165, 166, 2, 167, 108, 27, 168, 169, 170, 26, 171, 172, 173, 174, 175, 64, 176, 177, 178, 63, 179, 160, 161, 14, 162, 48, 132, 133, 180, 181, 182, 183, 184, 185, 186, 187, 188, 62, 189, 190, 191, 192, 193, 194, 195, 196, 197, 198, 199, 200, 201, 202, 203, 204, 205, 206, 207, 208, 359, 626, 627, 628, 629, 45, 630, 602, 603, 604, 605, 109, 28, 29, 33, 586, 587, 588, 18, 589, 271, 272, 570, 571, 572, 573, 267, 268, 269, 270, 525, 526, 527, 32, 528, 529, 530, 531, 532, 533, 391, 392, 393, 534, 278, 279, 280, 213, 214, 215, 216, 217, 281, 282, 283, 284, 47, 535, 536, 537, 538, 539, 540, 479, 541, 542, 543, 544, 545, 546, 547, 548, 549, 606, 607, 319, 320, 321, 322, 608, 609, 610, 36, 611, 612, 71, 72, 73, 673, 674, 675, 676, 677, 678, 679, 635, 636, 637, 638, 639, 640, 641, 642, 643, 644, 668, 669, 670, 671, 672, 683, 684, 685, 686, 662, 663, 664, 665, 666, 667, 680, 681, 682] (by decide +kernel) (by decide +kernel)
set_option maxRecDepth 20000 in
theorem gL_law_X6_many : GoodIn wsL_law (wsV RL 103 RX6 yX6_many wsX6_many) := goodIn_app (goodIn_of _ (by decide +kernel)) ggL_law_X6_many
set_option maxRecDepth 20000 in
theorem ggL_law_X7_many : GoodIn wsL_law wsX7_many := goodIn_r _ [634, 80, 331, 617, 223, 224, 225, 5, 226, 114, 222, 87, 84, 85, 227, 228, 229, 230, 231, 232, 233, 234, 81, 148, 149, 150, 151, 235, 236, 237, 238, 239, 240, 241, 242, 243, 244, 245, 246, 247, 248, 249, 250, 251, 252, 253, 78, 79, 254, 255, 256, 257, 258, 259, 260, 364, 365, 366, 367, 618, 619, 620, 621, 91, 88, 89, 90, 578, 579, 580, 581, 554, 555, 556, 557, 558, 559, 560, 561, 562, 563, 564, 565, 293, 294, 295, 296, 297, 298, 299, 300, 645, 646, 647, 648, 649, 650, 651, 652, 653, 654, 655, 656, 657, 658, 659, 660, 661] (by decide +kernel) (by decide +kernel)
set_option maxRecDepth 20000 in
theorem gL_law_X7_many : GoodIn wsL_law (wsV RL 106 RX7 yX7_many wsX7_many) := goodIn_app (goodIn_of _ (by decide +kernel)) ggL_law_X7_many
theorem dL_law_0 : decode cL_law 0 = .ok (.new 7, 3) := by decide +kernel
theorem dL_law_3 : decode cL_law 3 = .ok (.dup, 1) := by decide +kernel
theorem dL_law_4 : decode cL_law 4 = .ok (.invokespecial 9, 3) := by decide +kernel
theorem dL_law_7 : decode cL_law 7 = .ok (.astore_n 1, 1) := by decide +kernel
theorem dL_law_8 : decode cL_law 8 = .ok (.new 10, 3) := by decide +kernel
theorem dL_law_11 : decode cL_law 11 = .ok (.dup, 1) := by decide +kernel
theorem dL_law_12 : decode cL_law 12 = .ok (.invokespecial 12, 3) := by decide +kernel
theorem dL_law_15 : decode cL_law 15 = .ok (.astore_n 2, 1) := by decide +kernel
theorem dL_law_16 : decode cL_law 16 = .ok (.iconst 0, 1) := by decide +kernel
theorem dL_law_17 : decode cL_law 17 = .ok (.istore_n 3, 1) := by decide +kernel
theorem dL_law_18 : decode cL_law 18 = .ok (.iload_n 3, 1) := by decide +kernel
theorem dL_law_19 : decode cL_law 19 = .ok (.aload_n 0, 1) := by decide +kernel
theorem dL_law_20 : decode cL_law 20 = .ok (.arraylength, 1) := by decide +kernel
theorem dL_law_21 : decode cL_law 21 = .ok (.iconst 4, 1) := by decide +kernel
theorem dL_law_22 : decode cL_law 22 = .ok (.isub, 1) := by decide +kernel
theorem dL_law_23 : decode cL_law 23 = .ok (.if_icmp .gt 729, 3) := by decide +kernel
theorem dL_law_26 : decode cL_law 26 = .ok (.aload_n 0, 1) := by decide +kernel
theorem dL_law_27 : decode cL_law 27 = .ok (.iload_n 3, 1) := by decide +kernel
theorem dL_law_28 : decode cL_law 28 = .ok (.iaload, 1) := by decide +kernel
theorem dL_law_29 : decode cL_law 29 = .ok (.bipush 31, 2) := by decide +kernel
theorem dL_law_31 : decode cL_law 31 = .ok (.iand, 1) := by decide +kernel
theorem dL_law_32 : decode cL_law 32 = .ok (.tableswitch 714 0 21 #[104, 147, 190, 223, 256, 289, 312, 325, 338, 371, 395, 429, 462, 485, 519, 542, 565, 578, 612, 625, 658, 691], 104) := by decide +kernel
theorem dL_law_136 : decode cL_law 136 = .ok (.aload_n 1, 1) := by decide +kernel
theorem dL_law_137 : decode cL_law 137 = .ok (.aload_n 0, 1) := by decide +kernel
theorem dL_law_138 : decode cL_law 138 = .ok (.iload_n 3, 1) := by decide +kernel
theorem dL_law_139 : decode cL_law 139 = .ok (.iconst 1, 1) := by decide +kernel
theorem dL_law_140 : decode cL_law 140 = .ok (.iadd, 1) := by decide +kernel
theorem dL_law_141 : decode cL_law 141 = .ok (.iaload, 1) := by decide +kernel
theorem dL_law_142 : decode cL_law 142 = .ok (.aload_n 0, 1) := by decide +kernel
theorem dL_law_143 : decode cL_law 143 = .ok (.iload_n 3, 1) := by decide +kernel
theorem dL_law_144 : decode cL_law 144 = .ok (.iconst 2, 1) := by decide +kernel
theorem dL_law_145 : decode cL_law 145 = .ok (.iadd, 1) := by decide +kernel
theorem dL_law_146 : decode cL_law 146 = .ok (.iaload, 1) := by decide +kernel
theorem dL_law_147 : decode cL_law 147 = .ok (.aload_n 0, 1) := by decide +kernel
theorem dL_law_148 : decode cL_law 148 = .ok (.iload_n 3, 1) := by decide +kernel
theorem dL_law_149 : decode cL_law 149 = .ok (.iconst 3, 1) := by decide +kernel
theorem dL_law_150 : decode cL_law 150 = .ok (.iadd, 1) := by decide +kernel
theorem dL_law_151 : decode cL_law 151 = .ok (.iaload, 1) := by decide +kernel
theorem dL_law_152 : decode cL_law 152 = .ok (.invokevirtual 13, 3) := by decide +kernel
theorem dL_law_155 : decode cL_law 155 = .ok (.aload_n 2, 1) := by decide +kernel
theorem dL_law_156 : decode cL_law 156 = .ok (.aload_n 0, 1) := by decide +kernel
theorem dL_law_157 : decode cL_law 157 = .ok (.iload_n 3, 1) := by decide +kernel
theorem dL_law_158 : decode cL_law 158 = .ok (.iconst 1, 1) := by decide +kernel
theorem dL_law_159 : decode cL_law 159 = .ok (.iadd, 1) := by decide +kernel
theorem dL_law_160 : decode cL_law 160 = .ok (.iaload, 1) := by decide +kernel
theorem dL_law_161 : decode cL_law 161 = .ok (.aload_n 0, 1) := by decide +kernel
theorem dL_law_162 : decode cL_law 162 = .ok (.iload_n 3, 1) := by decide +kernel
theorem dL_law_163 : decode cL_law 163 = .ok (.iconst 2, 1) := by decide +kernel
theorem dL_law_164 : decode cL_law 164 = .ok (.iadd, 1) := by decide +kernel
theorem dL_law_165 : decode cL_law 165 = .ok (.iaload, 1) := by decide +kernel
theorem dL_law_166 : decode cL_law 166 = .ok (.aload_n 0, 1) := by decide +kernel
theorem dL_law_167 : decode cL_law 167 = .ok (.iload_n 3, 1) := by decide +kernel
theorem dL_law_168 : decode cL_law 168 = .ok (.iconst 3, 1) := by decide +kernel
theorem dL_law_169 : decode cL_law 169 = .ok (.iadd, 1) := by decide +kernel
theorem dL_law_170 : decode cL_law 170 = .ok (.iaload, 1) := by decide +kernel
theorem dL_law_171 : decode cL_law 171 = .ok (.invokevirtual 17, 3) := by decide +kernel
theorem dL_law_174 : decode cL_law 174 = .ok (.if_icmp .eq 572, 3) := by decide +kernel
theorem dL_law_177 : decode cL_law 177 = .ok (.iconst 0, 1) := by decide +kernel
theorem dL_law_178 : decode cL_law 178 = .ok (.ireturn, 1) := by decide +kernel
theorem dL_law_179 : decode cL_law 179 = .ok (.aload_n 1, 1) := by decide +kernel
theorem dL_law_180 : decode cL_law 180 = .ok (.aload_n 0, 1) := by decide +kernel
theorem dL_law_181 : decode cL_law 181 = .ok (.iload_n 3, 1) := by decide +kernel
theorem dL_law_182 : decode cL_law 182 = .ok (.iconst 1, 1) := by decide +kernel
theorem dL_law_183 : decode cL_law 183 = .ok (.iadd, 1) := by decide +kernel
theorem dL_law_184 : decode cL_law 184 = .ok (.iaload, 1) := by decide +kernel
theorem dL_law_185 : decode cL_law 185 = .ok (.aload_n 0, 1) := by decide +kernel
theorem dL_law_186 : decode cL_law 186 = .ok (.iload_n 3, 1) := by decide +kernel
theorem dL_law_187 : decode cL_law 187 = .ok (.iconst 2, 1) := by decide +kernel
theorem dL_law_188 : decode cL_law 188 = .ok (.iadd, 1) := by decide +kernel
theorem dL_law_189 : decode cL_law 189 = .ok (.iaload, 1) := by decide +kernel
theorem dL_law_190 : decode cL_law 190 = .ok (.aload_n 0, 1) := by decide +kernel
theorem dL_law_191 : decode cL_law 191 = .ok (.iload_n 3, 1) := by decide +kernel
theorem dL_law_192 : decode cL_law 192 = .ok (.iconst 3, 1) := by decide +kernel
theorem dL_law_193 : decode cL_law 193 = .ok (.iadd, 1) := by decide +kernel
theorem dL_law_194 : decode cL_law 194 = .ok (.iaload, 1) := by decide +kernel
theorem dL_law_195 : decode cL_law 195 = .ok (.invokevirtual 18, 3) := by decide +kernel
theorem dL_law_198 : decode cL_law 198 = .ok (.aload_n 2, 1) := by decide +kernel
