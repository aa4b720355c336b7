theorem dX7_unexplained_39 : decode cX7_unexplained 39 = .ok (.iconst 1, 1) := by decide +kernel
theorem dX7_unexplained_40 : decode cX7_unexplained 40 = .ok (.iload_n 2, 1) := by decide +kernel
theorem dX7_unexplained_41 : decode cX7_unexplained 41 = .ok (.ishl, 1) := by decide +kernel
theorem dX7_unexplained_42 : decode cX7_unexplained 42 = .ok (.goto 4, 3) := by decide +kernel
theorem dX7_unexplained_45 : decode cX7_unexplained 45 = .ok (.iconst 0, 1) := by decide +kernel
theorem dX7_unexplained_46 : decode cX7_unexplained 46 = .ok (.ior, 1) := by decide +kernel
theorem dX7_unexplained_47 : decode cX7_unexplained 47 = .ok (.istore_n 1, 1) := by decide +kernel
theorem dX7_unexplained_48 : decode cX7_unexplained 48 = .ok (.iinc 2 1, 3) := by decide +kernel
theorem dX7_unexplained_51 : decode cX7_unexplained 51 = .ok (.goto (-47), 3) := by decide +kernel
theorem dX7_unexplained_54 : decode cX7_unexplained 54 = .ok (.iload_n 1, 1) := by decide +kernel
theorem dX7_unexplained_55 : decode cX7_unexplained 55 = .ok (.ireturn, 1) := by decide +kernel
set_option maxRecDepth 20000 in
theorem ggX7_ofCause_X7_isCause : GoodIn wsX7_ofCause wsX7_isCause := goodIn_r _ [8, 9, 10, 7, 11] (by decide +kernel) (by decide +kernel)
set_option maxRecDepth 20000 in
theorem gX7_ofCause_X7_isCause : GoodIn wsX7_ofCause (va_wsS RX7 55 yX7_isCause wsX7_isCause) := goodIn_app (goodIn_of _ (by decide +kernel)) ggX7_ofCause_X7_isCause
set_option maxRecDepth 20000 in
theorem ggX7_ofCause_X7_linkAt : GoodIn wsX7_ofCause wsX7_linkAt := goodIn_r _ [15, 16, 59, 60, 61, 62, 63, 64, 65, 66, 67, 68, 69, 70, 71, 72, 73, 74, 75] (by decide +kernel) (by decide +kernel)
set_option maxRecDepth 20000 in
theorem gX7_ofCause_X7_linkAt : GoodIn wsX7_ofCause (wsV RX7 66 RX7 yX7_linkAt wsX7_linkAt) := goodIn_app (goodIn_of _ (by decide +kernel)) ggX7_ofCause_X7_linkAt
set_option maxRecDepth 20000 in
theorem ggX7_ofCause_X7_explanations : GoodIn wsX7_ofCause wsX7_explanations := goodIn_r _ [20, 21, 1, 22, 2, 23, 24, 25, 26, 7, 27, 28, 29, 30, 31, 32, 12, 13, 14, 15, 16, 33, 34, 35, 36, 37, 38, 39, 40, 41, 42, 43, 44, 45, 46, 47, 48, 49, 50, 51, 3, 4, 52, 53, 54, 55, 56, 57, 58, 59, 60, 61, 62, 63, 64, 65, 66, 67, 68, 69, 70, 71, 72, 73, 74, 75] (by decide +kernel) (by decide +kernel)
set_option maxRecDepth 20000 in
theorem gX7_ofCause_X7_explanations : GoodIn wsX7_ofCause (wsV RX7 78 RX7 yX7_explanations wsX7_explanations) := goodIn_app (goodIn_of _ (by decide +kernel)) ggX7_ofCause_X7_explanations
set_option maxRecDepth 20000 in
theorem ggX7_ofCause_X7_isIn : GoodIn wsX7_ofCause wsX7_isIn := goodIn_r _ [43] (by decide +kernel) (by decide +kernel)
set_option maxRecDepth 20000 in
theorem gX7_ofCause_X7_isIn : GoodIn wsX7_ofCause (va_wsS RX7 86 yX7_isIn wsX7_isIn) := goodIn_app (goodIn_of _ (by decide +kernel)) ggX7_ofCause_X7_isIn
set_option maxRecDepth 20000 in
theorem ggX7_ofCause_X7_isExcluded : GoodIn wsX7_ofCause wsX7_isExcluded := goodIn_r _ [31, 32, 12, 13, 14, 7, 15, 16, 59, 60, 61, 62, 63, 64, 65, 66, 67, 68, 69, 70, 71, 72, 73, 74, 75] (by decide +kernel) (by decide +kernel)
set_option maxRecDepth 20000 in
theorem gX7_ofCause_X7_isExcluded : GoodIn wsX7_ofCause (wsV RX7 90 RX7 yX7_isExcluded wsX7_isExcluded) := goodIn_app (goodIn_of _ (by decide +kernel)) ggX7_ofCause_X7_isExcluded
theorem dX7_ofCause_0 : decode cX7_ofCause 0 = .ok (.iload_n 1, 1) := by decide +kernel
theorem dX7_ofCause_1 : decode cX7_ofCause 1 = .ok (.invokestatic 55, 3) := by decide +kernel
theorem dX7_ofCause_4 : decode cX7_ofCause 4 = .ok (.ifCond .ne 5, 3) := by decide +kernel
theorem dX7_ofCause_7 : decode cX7_ofCause 7 = .ok (.iconst (-1), 1) := by decide +kernel
theorem dX7_ofCause_8 : decode cX7_ofCause 8 = .ok (.ireturn, 1) := by decide +kernel
theorem dX7_ofCause_9 : decode cX7_ofCause 9 = .ok (.iconst 0, 1) := by decide +kernel
theorem dX7_ofCause_10 : decode cX7_ofCause 10 = .ok (.istore_n 3, 1) := by decide +kernel
theorem dX7_ofCause_11 : decode cX7_ofCause 11 = .ok (.iconst 0, 1) := by decide +kernel
theorem dX7_ofCause_12 : decode cX7_ofCause 12 = .ok (.istore 4, 2) := by decide +kernel
theorem dX7_ofCause_14 : decode cX7_ofCause 14 = .ok (.iconst 0, 1) := by decide +kernel
theorem dX7_ofCause_15 : decode cX7_ofCause 15 = .ok (.istore 5, 2) := by decide +kernel
theorem dX7_ofCause_17 : decode cX7_ofCause 17 = .ok (.iload 5, 2) := by decide +kernel
theorem dX7_ofCause_19 : decode cX7_ofCause 19 = .ok (.bipush 12, 2) := by decide +kernel
theorem dX7_ofCause_21 : decode cX7_ofCause 21 = .ok (.if_icmp .ge 54, 3) := by decide +kernel
theorem dX7_ofCause_24 : decode cX7_ofCause 24 = .ok (.iload_n 3, 1) := by decide +kernel
theorem dX7_ofCause_25 : decode cX7_ofCause 25 = .ok (.aload_n 0, 1) := by decide +kernel
theorem dX7_ofCause_26 : decode cX7_ofCause 26 = .ok (.iload 5, 2) := by decide +kernel
theorem dX7_ofCause_28 : decode cX7_ofCause 28 = .ok (.iload_n 1, 1) := by decide +kernel
theorem dX7_ofCause_29 : decode cX7_ofCause 29 = .ok (.invokevirtual 66, 3) := by decide +kernel
theorem dX7_ofCause_32 : decode cX7_ofCause 32 = .ok (.ifCond .le 10, 3) := by decide +kernel
theorem dX7_ofCause_35 : decode cX7_ofCause 35 = .ok (.iconst 1, 1) := by decide +kernel
theorem dX7_ofCause_36 : decode cX7_ofCause 36 = .ok (.iload 5, 2) := by decide +kernel
theorem dX7_ofCause_38 : decode cX7_ofCause 38 = .ok (.ishl, 1) := by decide +kernel
theorem dX7_ofCause_39 : decode cX7_ofCause 39 = .ok (.goto 4, 3) := by decide +kernel
theorem dX7_ofCause_42 : decode cX7_ofCause 42 = .ok (.iconst 0, 1) := by decide +kernel
theorem dX7_ofCause_43 : decode cX7_ofCause 43 = .ok (.ior, 1) := by decide +kernel
theorem dX7_ofCause_44 : decode cX7_ofCause 44 = .ok (.istore_n 3, 1) := by decide +kernel
theorem dX7_ofCause_45 : decode cX7_ofCause 45 = .ok (.iload 4, 2) := by decide +kernel
theorem dX7_ofCause_47 : decode cX7_ofCause 47 = .ok (.aload_n 0, 1) := by decide +kernel
theorem dX7_ofCause_48 : decode cX7_ofCause 48 = .ok (.iload 5, 2) := by decide +kernel
theorem dX7_ofCause_50 : decode cX7_ofCause 50 = .ok (.iload_n 1, 1) := by decide +kernel
theorem dX7_ofCause_51 : decode cX7_ofCause 51 = .ok (.invokevirtual 66, 3) := by decide +kernel
theorem dX7_ofCause_54 : decode cX7_ofCause 54 = .ok (.iconst 2, 1) := by decide +kernel
theorem dX7_ofCause_55 : decode cX7_ofCause 55 = .ok (.if_icmp .ne 10, 3) := by decide +kernel
theorem dX7_ofCause_58 : decode cX7_ofCause 58 = .ok (.iconst 1, 1) := by decide +kernel
theorem dX7_ofCause_59 : decode cX7_ofCause 59 = .ok (.iload 5, 2) := by decide +kernel
theorem dX7_ofCause_61 : decode cX7_ofCause 61 = .ok (.ishl, 1) := by decide +kernel
theorem dX7_ofCause_62 : decode cX7_ofCause 62 = .ok (.goto 4, 3) := by decide +kernel
theorem dX7_ofCause_65 : decode cX7_ofCause 65 = .ok (.iconst 0, 1) := by decide +kernel
theorem dX7_ofCause_66 : decode cX7_ofCause 66 = .ok (.ior, 1) := by decide +kernel
theorem dX7_ofCause_67 : decode cX7_ofCause 67 = .ok (.istore 4, 2) := by decide +kernel
theorem dX7_ofCause_69 : decode cX7_ofCause 69 = .ok (.iinc 5 1, 3) := by decide +kernel
theorem dX7_ofCause_72 : decode cX7_ofCause 72 = .ok (.goto (-55), 3) := by decide +kernel
theorem dX7_ofCause_75 : decode cX7_ofCause 75 = .ok (.aload_n 0, 1) := by decide +kernel
theorem dX7_ofCause_76 : decode cX7_ofCause 76 = .ok (.invokevirtual 78, 3) := by decide +kernel
theorem dX7_ofCause_79 : decode cX7_ofCause 79 = .ok (.pop, 1) := by decide +kernel
theorem dX7_ofCause_80 : decode cX7_ofCause 80 = .ok (.iconst 0, 1) := by decide +kernel
theorem dX7_ofCause_81 : decode cX7_ofCause 81 = .ok (.istore 5, 2) := by decide +kernel
theorem dX7_ofCause_83 : decode cX7_ofCause 83 = .ok (.iconst 0, 1) := by decide +kernel
theorem dX7_ofCause_84 : decode cX7_ofCause 84 = .ok (.istore 6, 2) := by decide +kernel
theorem dX7_ofCause_86 : decode cX7_ofCause 86 = .ok (.iload 6, 2) := by decide +kernel
theorem dX7_ofCause_88 : decode cX7_ofCause 88 = .ok (.aload_n 0, 1) := by decide +kernel
theorem dX7_ofCause_89 : decode cX7_ofCause 89 = .ok (.getfield 99, 3) := by decide +kernel
theorem dX7_ofCause_92 : decode cX7_ofCause 92 = .ok (.if_icmp .ge 33, 3) := by decide +kernel
theorem dX7_ofCause_95 : decode cX7_ofCause 95 = .ok (.iload 5, 2) := by decide +kernel
theorem dX7_ofCause_97 : decode cX7_ofCause 97 = .ok (.aload_n 0, 1) := by decide +kernel
theorem dX7_ofCause_98 : decode cX7_ofCause 98 = .ok (.getfield 28, 3) := by decide +kernel
theorem dX7_ofCause_101 : decode cX7_ofCause 101 = .ok (.iload 6, 2) := by decide +kernel
theorem dX7_ofCause_103 : decode cX7_ofCause 103 = .ok (.iaload, 1) := by decide +kernel
theorem dX7_ofCause_104 : decode cX7_ofCause 104 = .ok (.iload_n 1, 1) := by decide +kernel
theorem dX7_ofCause_105 : decode cX7_ofCause 105 = .ok (.invokestatic 86, 3) := by decide +kernel
theorem dX7_ofCause_108 : decode cX7_ofCause 108 = .ok (.ifCond .eq 7, 3) := by decide +kernel
theorem dX7_ofCause_111 : decode cX7_ofCause 111 = .ok (.iconst 1, 1) := by decide +kernel
theorem dX7_ofCause_112 : decode cX7_ofCause 112 = .ok (.goto 4, 3) := by decide +kernel
theorem dX7_ofCause_115 : decode cX7_ofCause 115 = .ok (.iconst 0, 1) := by decide +kernel
theorem dX7_ofCause_116 : decode cX7_ofCause 116 = .ok (.iadd, 1) := by decide +kernel
theorem dX7_ofCause_117 : decode cX7_ofCause 117 = .ok (.istore 5, 2) := by decide +kernel
theorem dX7_ofCause_119 : decode cX7_ofCause 119 = .ok (.iinc 6 1, 3) := by decide +kernel
theorem dX7_ofCause_122 : decode cX7_ofCause 122 = .ok (.goto (-36), 3) := by decide +kernel
theorem dX7_ofCause_125 : decode cX7_ofCause 125 = .ok (.iload_n 2, 1) := by decide +kernel
theorem dX7_ofCause_126 : decode cX7_ofCause 126 = .ok (.tableswitch 74 0 5 #[38, 45, 52, 54, 57, 71], 38) := by decide +kernel
theorem dX7_ofCause_164 : decode cX7_ofCause 164 = .ok (.aload_n 0, 1) := by decide +kernel
theorem dX7_ofCause_165 : decode cX7_ofCause 165 = .ok (.getfield 7, 3) := by decide +kernel
theorem dX7_ofCause_168 : decode cX7_ofCause 168 = .ok (.iload_n 1, 1) := by decide +kernel
theorem dX7_ofCause_169 : decode cX7_ofCause 169 = .ok (.iaload, 1) := by decide +kernel
theorem dX7_ofCause_170 : decode cX7_ofCause 170 = .ok (.ireturn, 1) := by decide +kernel
theorem dX7_ofCause_171 : decode cX7_ofCause 171 = .ok (.aload_n 0, 1) := by decide +kernel
theorem dX7_ofCause_172 : decode cX7_ofCause 172 = .ok (.getfield 13, 3) := by decide +kernel
theorem dX7_ofCause_175 : decode cX7_ofCause 175 = .ok (.iload_n 1, 1) := by decide +kernel
theorem dX7_ofCause_176 : decode cX7_ofCause 176 = .ok (.iaload, 1) := by decide +kernel
theorem dX7_ofCause_177 : decode cX7_ofCause 177 = .ok (.ireturn, 1) := by decide +kernel
theorem dX7_ofCause_178 : decode cX7_ofCause 178 = .ok (.iload_n 3, 1) := by decide +kernel
theorem dX7_ofCause_179 : decode cX7_ofCause 179 = .ok (.ireturn, 1) := by decide +kernel
theorem dX7_ofCause_180 : decode cX7_ofCause 180 = .ok (.iload 4, 2) := by decide +kernel
theorem dX7_ofCause_182 : decode cX7_ofCause 182 = .ok (.ireturn, 1) := by decide +kernel
theorem dX7_ofCause_183 : decode cX7_ofCause 183 = .ok (.aload_n 0, 1) := by decide +kernel
theorem dX7_ofCause_184 : decode cX7_ofCause 184 = .ok (.iload_n 1, 1) := by decide +kernel
theorem dX7_ofCause_185 : decode cX7_ofCause 185 = .ok (.invokevirtual 90, 3) := by decide +kernel
theorem dX7_ofCause_188 : decode cX7_ofCause 188 = .ok (.ifCond .eq 7, 3) := by decide +kernel
theorem dX7_ofCause_191 : decode cX7_ofCause 191 = .ok (.iconst 1, 1) := by decide +kernel
theorem dX7_ofCause_192 : decode cX7_ofCause 192 = .ok (.goto 4, 3) := by decide +kernel
theorem dX7_ofCause_195 : decode cX7_ofCause 195 = .ok (.iconst 0, 1) := by decide +kernel
theorem dX7_ofCause_196 : decode cX7_ofCause 196 = .ok (.ireturn, 1) := by decide +kernel
theorem dX7_ofCause_197 : decode cX7_ofCause 197 = .ok (.iload 5, 2) := by decide +kernel
theorem dX7_ofCause_199 : decode cX7_ofCause 199 = .ok (.ireturn, 1) := by decide +kernel
theorem dX7_ofCause_200 : decode cX7_ofCause 200 = .ok (.bipush (-2), 2) := by decide +kernel
theorem dX7_ofCause_202 : decode cX7_ofCause 202 = .ok (.ireturn, 1) := by decide +kernel
set_option maxRecDepth 20000 in
theorem ggX7_foretold_X7_isMust : GoodIn wsX7_foretold wsX7_isMust := goodIn_r _ [6, 7, 8, 5, 9, 10, 11, 12, 13, 14, 19, 20, 21, 22, 23, 24, 25, 26, 27, 28, 29, 30, 31, 32, 33, 34, 35] (by decide +kernel) (by decide +kernel)
set_option maxRecDepth 20000 in
theorem gX7_foretold_X7_isMust : GoodIn wsX7_foretold (wsV RX7 132 RX7 yX7_isMust wsX7_isMust) := goodIn_app (goodIn_of _ (by decide +kernel)) ggX7_foretold_X7_isMust
set_option maxRecDepth 20000 in
theorem ggX7_foretold_X7_isLinked : GoodIn wsX7_foretold wsX7_isLinked := goodIn_r _ [18, 7, 8, 5, 9, 10, 11, 12, 13, 14, 19, 20, 21, 22, 23, 24, 25, 26, 27, 28, 29, 30, 31, 32, 33, 34, 35] (by decide +kernel) (by decide +kernel)
set_option maxRecDepth 20000 in
theorem gX7_foretold_X7_isLinked : GoodIn wsX7_foretold (wsV RX7 93 RX7 yX7_isLinked wsX7_isLinked) := goodIn_app (goodIn_of _ (by decide +kernel)) ggX7_foretold_X7_isLinked
theorem dX7_foretold_0 : decode cX7_foretold 0 = .ok (.aload_n 0, 1) := by decide +kernel
theorem dX7_foretold_1 : decode cX7_foretold 1 = .ok (.iload_n 2, 1) := by decide +kernel
theorem dX7_foretold_2 : decode cX7_foretold 2 = .ok (.aload_n 0, 1) := by decide +kernel
theorem dX7_foretold_3 : decode cX7_foretold 3 = .ok (.getfield 28, 3) := by decide +kernel
theorem dX7_foretold_6 : decode cX7_foretold 6 = .ok (.iload_n 1, 1) := by decide +kernel
theorem dX7_foretold_7 : decode cX7_foretold 7 = .ok (.iaload, 1) := by decide +kernel
theorem dX7_foretold_8 : decode cX7_foretold 8 = .ok (.invokevirtual 132, 3) := by decide +kernel
theorem dX7_foretold_11 : decode cX7_foretold 11 = .ok (.ifCond .eq 7, 3) := by decide +kernel
theorem dX7_foretold_14 : decode cX7_foretold 14 = .ok (.iconst 0, 1) := by decide +kernel
theorem dX7_foretold_15 : decode cX7_foretold 15 = .ok (.goto 22, 3) := by decide +kernel
theorem dX7_foretold_18 : decode cX7_foretold 18 = .ok (.aload_n 0, 1) := by decide +kernel
theorem dX7_foretold_19 : decode cX7_foretold 19 = .ok (.iload_n 2, 1) := by decide +kernel
theorem dX7_foretold_20 : decode cX7_foretold 20 = .ok (.aload_n 0, 1) := by decide +kernel
theorem dX7_foretold_21 : decode cX7_foretold 21 = .ok (.getfield 28, 3) := by decide +kernel
theorem dX7_foretold_24 : decode cX7_foretold 24 = .ok (.iload_n 1, 1) := by decide +kernel
theorem dX7_foretold_25 : decode cX7_foretold 25 = .ok (.iaload, 1) := by decide +kernel
theorem dX7_foretold_26 : decode cX7_foretold 26 = .ok (.invokevirtual 93, 3) := by decide +kernel
theorem dX7_foretold_29 : decode cX7_foretold 29 = .ok (.ifCond .eq 7, 3) := by decide +kernel
theorem dX7_foretold_32 : decode cX7_foretold 32 = .ok (.iconst 2, 1) := by decide +kernel
theorem dX7_foretold_33 : decode cX7_foretold 33 = .ok (.goto 4, 3) := by decide +kernel
theorem dX7_foretold_36 : decode cX7_foretold 36 = .ok (.iconst 1, 1) := by decide +kernel
theorem dX7_foretold_37 : decode cX7_foretold 37 = .ok (.ireturn, 1) := by decide +kernel
set_option maxRecDepth 20000 in
theorem ggX7_manyForetell_X7_explanations : GoodIn wsX7_manyForetell wsX7_explanations := goodIn_r _ [6, 7, 1, 8, 9, 10, 11, 12, 13, 5, 14, 15, 16, 17, 18, 19, 20, 21, 22, 23, 24, 25, 26, 27, 28, 29, 30, 31, 32, 33, 34, 35, 36, 37, 38, 39, 40, 41, 42, 43, 44, 45, 46, 47, 48, 49, 50, 51, 52, 61, 62, 63, 64, 65, 66, 67, 68, 69, 70, 71, 72, 73, 74, 75, 76, 77] (by decide +kernel) (by decide +kernel)
set_option maxRecDepth 20000 in
theorem gX7_manyForetell_X7_explanations : GoodIn wsX7_manyForetell (wsV RX7 78 RX7 yX7_explanations wsX7_explanations) := goodIn_app (goodIn_of _ (by decide +kernel)) ggX7_manyForetell_X7_explanations
set_option maxRecDepth 20000 in
theorem ggX7_manyForetell_X7_foretold : GoodIn wsX7_manyForetell wsX7_foretold := goodIn_r _ [56, 9, 57, 58, 59, 5, 60, 33, 34, 35, 20, 21, 22, 23, 24, 29, 30, 31, 32, 61, 62, 63, 64, 65, 66, 67, 68, 69, 70, 71, 72, 73, 74, 75, 76, 77] (by decide +kernel) (by decide +kernel)
set_option maxRecDepth 20000 in
theorem gX7_manyForetell_X7_foretold : GoodIn wsX7_manyForetell (wsV RX7 135 RX7 yX7_foretold wsX7_foretold) := goodIn_app (goodIn_of _ (by decide +kernel)) ggX7_manyForetell_X7_foretold
theorem dX7_manyForetell_0 : decode cX7_manyForetell 0 = .ok (.aload_n 0, 1) := by decide +kernel
theorem dX7_manyForetell_1 : decode cX7_manyForetell 1 = .ok (.invokevirtual 78, 3) := by decide +kernel
theorem dX7_manyForetell_4 : decode cX7_manyForetell 4 = .ok (.pop, 1) := by decide +kernel
theorem dX7_manyForetell_5 : decode cX7_manyForetell 5 = .ok (.iconst 0, 1) := by decide +kernel
theorem dX7_manyForetell_6 : decode cX7_manyForetell 6 = .ok (.istore_n 3, 1) := by decide +kernel
theorem dX7_manyForetell_7 : decode cX7_manyForetell 7 = .ok (.iconst 0, 1) := by decide +kernel
theorem dX7_manyForetell_8 : decode cX7_manyForetell 8 = .ok (.istore 4, 2) := by decide +kernel
theorem dX7_manyForetell_10 : decode cX7_manyForetell 10 = .ok (.iload 4, 2) := by decide +kernel
theorem dX7_manyForetell_12 : decode cX7_manyForetell 12 = .ok (.aload_n 0, 1) := by decide +kernel
theorem dX7_manyForetell_13 : decode cX7_manyForetell 13 = .ok (.getfield 99, 3) := by decide +kernel
theorem dX7_manyForetell_16 : decode cX7_manyForetell 16 = .ok (.if_icmp .ge 28, 3) := by decide +kernel
theorem dX7_manyForetell_19 : decode cX7_manyForetell 19 = .ok (.iload_n 3, 1) := by decide +kernel
theorem dX7_manyForetell_20 : decode cX7_manyForetell 20 = .ok (.aload_n 0, 1) := by decide +kernel
theorem dX7_manyForetell_21 : decode cX7_manyForetell 21 = .ok (.iload 4, 2) := by decide +kernel
theorem dX7_manyForetell_23 : decode cX7_manyForetell 23 = .ok (.iload_n 1, 1) := by decide +kernel
theorem dX7_manyForetell_24 : decode cX7_manyForetell 24 = .ok (.invokevirtual 135, 3) := by decide +kernel
theorem dX7_manyForetell_27 : decode cX7_manyForetell 27 = .ok (.iload_n 2, 1) := by decide +kernel
theorem dX7_manyForetell_28 : decode cX7_manyForetell 28 = .ok (.if_icmp .ne 7, 3) := by decide +kernel
theorem dX7_manyForetell_31 : decode cX7_manyForetell 31 = .ok (.iconst 1, 1) := by decide +kernel
theorem dX7_manyForetell_32 : decode cX7_manyForetell 32 = .ok (.goto 4, 3) := by decide +kernel
theorem dX7_manyForetell_35 : decode cX7_manyForetell 35 = .ok (.iconst 0, 1) := by decide +kernel
theorem dX7_manyForetell_36 : decode cX7_manyForetell 36 = .ok (.iadd, 1) := by decide +kernel
theorem dX7_manyForetell_37 : decode cX7_manyForetell 37 = .ok (.istore_n 3, 1) := by decide +kernel
theorem dX7_manyForetell_38 : decode cX7_manyForetell 38 = .ok (.iinc 4 1, 3) := by decide +kernel
theorem dX7_manyForetell_41 : decode cX7_manyForetell 41 = .ok (.goto (-31), 3) := by decide +kernel
theorem dX7_manyForetell_44 : decode cX7_manyForetell 44 = .ok (.iload_n 3, 1) := by decide +kernel
theorem dX7_manyForetell_45 : decode cX7_manyForetell 45 = .ok (.ireturn, 1) := by decide +kernel
set_option maxRecDepth 20000 in
theorem ggX7_ofFinding_X7_isFinding : GoodIn wsX7_ofFinding wsX7_isFinding := goodIn_r _ [5, 6, 7, 4, 8] (by decide +kernel) (by decide +kernel)
set_option maxRecDepth 20000 in
theorem gX7_ofFinding_X7_isFinding : GoodIn wsX7_ofFinding (va_wsS RX7 63 yX7_isFinding wsX7_isFinding) := goodIn_app (goodIn_of _ (by decide +kernel)) ggX7_ofFinding_X7_isFinding
set_option maxRecDepth 20000 in
theorem ggX7_ofFinding_X7_linkAt : GoodIn wsX7_ofFinding wsX7_linkAt := goodIn_r _ [12, 13, 71, 72, 73, 74, 75, 76, 77, 78, 79, 80, 81, 82, 83, 84, 85, 86, 87] (by decide +kernel) (by decide +kernel)
set_option maxRecDepth 20000 in
theorem gX7_ofFinding_X7_linkAt : GoodIn wsX7_ofFinding (wsV RX7 66 RX7 yX7_linkAt wsX7_linkAt) := goodIn_app (goodIn_of _ (by decide +kernel)) ggX7_ofFinding_X7_linkAt
set_option maxRecDepth 20000 in
theorem ggX7_ofFinding_X7_manyForetell : GoodIn wsX7_ofFinding wsX7_manyForetell := goodIn_r _ [17, 18, 19, 20, 21, 4, 22, 23, 24, 25, 26, 27, 28, 29, 30, 31, 32, 33, 34, 1, 9, 10, 11, 12, 13, 35, 36, 37, 38, 39, 40, 41, 42, 43, 44, 45, 46, 47, 48, 49, 50, 51, 52, 53, 54, 55, 56, 57, 58, 59, 60, 61, 62, 63, 64, 65, 66, 67, 68, 69, 70, 71, 72, 73, 74, 75, 76, 77, 78, 79, 80, 81, 82, 83, 84, 85, 86, 87] (by decide +kernel) (by decide +kernel)
set_option maxRecDepth 20000 in
theorem gX7_ofFinding_X7_manyForetell : GoodIn wsX7_ofFinding (wsV RX7 138 RX7 yX7_manyForetell wsX7_manyForetell) := goodIn_app (goodIn_of _ (by decide +kernel)) ggX7_ofFinding_X7_manyForetell
theorem dX7_ofFinding_0 : decode cX7_ofFinding 0 = .ok (.iload_n 1, 1) := by decide +kernel
theorem dX7_ofFinding_1 : decode cX7_ofFinding 1 = .ok (.invokestatic 63, 3) := by decide +kernel
theorem dX7_ofFinding_4 : decode cX7_ofFinding 4 = .ok (.ifCond .ne 5, 3) := by decide +kernel
theorem dX7_ofFinding_7 : decode cX7_ofFinding 7 = .ok (.iconst (-1), 1) := by decide +kernel
theorem dX7_ofFinding_8 : decode cX7_ofFinding 8 = .ok (.ireturn, 1) := by decide +kernel
theorem dX7_ofFinding_9 : decode cX7_ofFinding 9 = .ok (.iconst 0, 1) := by decide +kernel
theorem dX7_ofFinding_10 : decode cX7_ofFinding 10 = .ok (.istore_n 3, 1) := by decide +kernel
theorem dX7_ofFinding_11 : decode cX7_ofFinding 11 = .ok (.iconst 0, 1) := by decide +kernel
theorem dX7_ofFinding_12 : decode cX7_ofFinding 12 = .ok (.istore 4, 2) := by decide +kernel
theorem dX7_ofFinding_14 : decode cX7_ofFinding 14 = .ok (.iconst 0, 1) := by decide +kernel
theorem dX7_ofFinding_15 : decode cX7_ofFinding 15 = .ok (.istore 5, 2) := by decide +kernel
theorem dX7_ofFinding_17 : decode cX7_ofFinding 17 = .ok (.iload 5, 2) := by decide +kernel
theorem dX7_ofFinding_19 : decode cX7_ofFinding 19 = .ok (.bipush 10, 2) := by decide +kernel
theorem dX7_ofFinding_21 : decode cX7_ofFinding 21 = .ok (.if_icmp .ge 54, 3) := by decide +kernel
theorem dX7_ofFinding_24 : decode cX7_ofFinding 24 = .ok (.iload_n 3, 1) := by decide +kernel
theorem dX7_ofFinding_25 : decode cX7_ofFinding 25 = .ok (.aload_n 0, 1) := by decide +kernel
theorem dX7_ofFinding_26 : decode cX7_ofFinding 26 = .ok (.iload_n 1, 1) := by decide +kernel
theorem dX7_ofFinding_27 : decode cX7_ofFinding 27 = .ok (.iload 5, 2) := by decide +kernel
theorem dX7_ofFinding_29 : decode cX7_ofFinding 29 = .ok (.invokevirtual 66, 3) := by decide +kernel
theorem dX7_ofFinding_32 : decode cX7_ofFinding 32 = .ok (.ifCond .le 10, 3) := by decide +kernel
theorem dX7_ofFinding_35 : decode cX7_ofFinding 35 = .ok (.iconst 1, 1) := by decide +kernel
theorem dX7_ofFinding_36 : decode cX7_ofFinding 36 = .ok (.iload 5, 2) := by decide +kernel
theorem dX7_ofFinding_38 : decode cX7_ofFinding 38 = .ok (.ishl, 1) := by decide +kernel
theorem dX7_ofFinding_39 : decode cX7_ofFinding 39 = .ok (.goto 4, 3) := by decide +kernel
theorem dX7_ofFinding_42 : decode cX7_ofFinding 42 = .ok (.iconst 0, 1) := by decide +kernel
theorem dX7_ofFinding_43 : decode cX7_ofFinding 43 = .ok (.ior, 1) := by decide +kernel
theorem dX7_ofFinding_44 : decode cX7_ofFinding 44 = .ok (.istore_n 3, 1) := by decide +kernel
theorem dX7_ofFinding_45 : decode cX7_ofFinding 45 = .ok (.iload 4, 2) := by decide +kernel
theorem dX7_ofFinding_47 : decode cX7_ofFinding 47 = .ok (.aload_n 0, 1) := by decide +kernel
theorem dX7_ofFinding_48 : decode cX7_ofFinding 48 = .ok (.iload_n 1, 1) := by decide +kernel
theorem dX7_ofFinding_49 : decode cX7_ofFinding 49 = .ok (.iload 5, 2) := by decide +kernel
theorem dX7_ofFinding_51 : decode cX7_ofFinding 51 = .ok (.invokevirtual 66, 3) := by decide +kernel
theorem dX7_ofFinding_54 : decode cX7_ofFinding 54 = .ok (.iconst 2, 1) := by decide +kernel
theorem dX7_ofFinding_55 : decode cX7_ofFinding 55 = .ok (.if_icmp .ne 10, 3) := by decide +kernel
theorem dX7_ofFinding_58 : decode cX7_ofFinding 58 = .ok (.iconst 1, 1) := by decide +kernel
theorem dX7_ofFinding_59 : decode cX7_ofFinding 59 = .ok (.iload 5, 2) := by decide +kernel
theorem dX7_ofFinding_61 : decode cX7_ofFinding 61 = .ok (.ishl, 1) := by decide +kernel
theorem dX7_ofFinding_62 : decode cX7_ofFinding 62 = .ok (.goto 4, 3) := by decide +kernel
theorem dX7_ofFinding_65 : decode cX7_ofFinding 65 = .ok (.iconst 0, 1) := by decide +kernel
theorem dX7_ofFinding_66 : decode cX7_ofFinding 66 = .ok (.ior, 1) := by decide +kernel
theorem dX7_ofFinding_67 : decode cX7_ofFinding 67 = .ok (.istore 4, 2) := by decide +kernel
theorem dX7_ofFinding_69 : decode cX7_ofFinding 69 = .ok (.iinc 5 1, 3) := by decide +kernel
theorem dX7_ofFinding_72 : decode cX7_ofFinding 72 = .ok (.goto (-55), 3) := by decide +kernel
theorem dX7_ofFinding_75 : decode cX7_ofFinding 75 = .ok (.iload_n 2, 1) := by decide +kernel
theorem dX7_ofFinding_76 : decode cX7_ofFinding 76 = .ok (.tableswitch 57 0 4 #[36, 43, 45, 48, 48], 36) := by decide +kernel
theorem dX7_ofFinding_112 : decode cX7_ofFinding 112 = .ok (.aload_n 0, 1) := by decide +kernel
theorem dX7_ofFinding_113 : decode cX7_ofFinding 113 = .ok (.getfield 19, 3) := by decide +kernel
theorem dX7_ofFinding_116 : decode cX7_ofFinding 116 = .ok (.iload_n 1, 1) := by decide +kernel
theorem dX7_ofFinding_117 : decode cX7_ofFinding 117 = .ok (.iaload, 1) := by decide +kernel
theorem dX7_ofFinding_118 : decode cX7_ofFinding 118 = .ok (.ireturn, 1) := by decide +kernel
theorem dX7_ofFinding_119 : decode cX7_ofFinding 119 = .ok (.iload_n 3, 1) := by decide +kernel
theorem dX7_ofFinding_120 : decode cX7_ofFinding 120 = .ok (.ireturn, 1) := by decide +kernel
theorem dX7_ofFinding_121 : decode cX7_ofFinding 121 = .ok (.iload 4, 2) := by decide +kernel
theorem dX7_ofFinding_123 : decode cX7_ofFinding 123 = .ok (.ireturn, 1) := by decide +kernel
theorem dX7_ofFinding_124 : decode cX7_ofFinding 124 = .ok (.aload_n 0, 1) := by decide +kernel
theorem dX7_ofFinding_125 : decode cX7_ofFinding 125 = .ok (.iload_n 1, 1) := by decide +kernel
theorem dX7_ofFinding_126 : decode cX7_ofFinding 126 = .ok (.iload_n 2, 1) := by decide +kernel
theorem dX7_ofFinding_127 : decode cX7_ofFinding 127 = .ok (.iconst 3, 1) := by decide +kernel
theorem dX7_ofFinding_128 : decode cX7_ofFinding 128 = .ok (.isub, 1) := by decide +kernel
theorem dX7_ofFinding_129 : decode cX7_ofFinding 129 = .ok (.invokevirtual 138, 3) := by decide +kernel
theorem dX7_ofFinding_132 : decode cX7_ofFinding 132 = .ok (.ireturn, 1) := by decide +kernel
theorem dX7_ofFinding_133 : decode cX7_ofFinding 133 = .ok (.bipush (-2), 2) := by decide +kernel
theorem dX7_ofFinding_135 : decode cX7_ofFinding 135 = .ok (.ireturn, 1) := by decide +kernel
set_option maxRecDepth 20000 in
theorem ggX7_weightThat_X7_foretold : GoodIn wsX7_weightThat wsX7_foretold := goodIn_r _ [7, 8, 9, 10, 11, 6, 12, 13, 14, 15, 16, 17, 18, 19, 20, 21, 22, 23, 24, 25, 26, 27, 28, 29, 30, 31, 32, 33, 34, 35, 36, 37, 38, 39, 40, 41] (by decide +kernel) (by decide +kernel)
set_option maxRecDepth 20000 in
theorem gX7_weightThat_X7_foretold : GoodIn wsX7_weightThat (wsV RX7 135 RX7 yX7_foretold wsX7_foretold) := goodIn_app (goodIn_of _ (by decide +kernel)) ggX7_weightThat_X7_foretold
theorem dX7_weightThat_0 : decode cX7_weightThat 0 = .ok (.lconst 0, 1) := by decide +kernel
theorem dX7_weightThat_1 : decode cX7_weightThat 1 = .ok (.lstore_n 3, 1) := by decide +kernel
theorem dX7_weightThat_2 : decode cX7_weightThat 2 = .ok (.iconst 0, 1) := by decide +kernel
theorem dX7_weightThat_3 : decode cX7_weightThat 3 = .ok (.istore 5, 2) := by decide +kernel
theorem dX7_weightThat_5 : decode cX7_weightThat 5 = .ok (.iload 5, 2) := by decide +kernel
theorem dX7_weightThat_7 : decode cX7_weightThat 7 = .ok (.aload_n 0, 1) := by decide +kernel
theorem dX7_weightThat_8 : decode cX7_weightThat 8 = .ok (.getfield 99, 3) := by decide +kernel
theorem dX7_weightThat_11 : decode cX7_weightThat 11 = .ok (.if_icmp .ge 34, 3) := by decide +kernel
theorem dX7_weightThat_14 : decode cX7_weightThat 14 = .ok (.lload_n 3, 1) := by decide +kernel
theorem dX7_weightThat_15 : decode cX7_weightThat 15 = .ok (.aload_n 0, 1) := by decide +kernel
theorem dX7_weightThat_16 : decode cX7_weightThat 16 = .ok (.iload 5, 2) := by decide +kernel
theorem dX7_weightThat_18 : decode cX7_weightThat 18 = .ok (.iload_n 1, 1) := by decide +kernel
theorem dX7_weightThat_19 : decode cX7_weightThat 19 = .ok (.invokevirtual 135, 3) := by decide +kernel
theorem dX7_weightThat_22 : decode cX7_weightThat 22 = .ok (.iload_n 2, 1) := by decide +kernel
theorem dX7_weightThat_23 : decode cX7_weightThat 23 = .ok (.if_icmp .ne 13, 3) := by decide +kernel
theorem dX7_weightThat_26 : decode cX7_weightThat 26 = .ok (.aload_n 0, 1) := by decide +kernel
theorem dX7_weightThat_27 : decode cX7_weightThat 27 = .ok (.getfield 31, 3) := by decide +kernel
theorem dX7_weightThat_30 : decode cX7_weightThat 30 = .ok (.iload 5, 2) := by decide +kernel
theorem dX7_weightThat_32 : decode cX7_weightThat 32 = .ok (.laload, 1) := by decide +kernel
theorem dX7_weightThat_33 : decode cX7_weightThat 33 = .ok (.goto 4, 3) := by decide +kernel
theorem dX7_weightThat_36 : decode cX7_weightThat 36 = .ok (.lconst 0, 1) := by decide +kernel
theorem dX7_weightThat_37 : decode cX7_weightThat 37 = .ok (.ladd, 1) := by decide +kernel
theorem dX7_weightThat_38 : decode cX7_weightThat 38 = .ok (.lstore_n 3, 1) := by decide +kernel
theorem dX7_weightThat_39 : decode cX7_weightThat 39 = .ok (.iinc 5 1, 3) := by decide +kernel
theorem dX7_weightThat_42 : decode cX7_weightThat 42 = .ok (.goto (-37), 3) := by decide +kernel
theorem dX7_weightThat_45 : decode cX7_weightThat 45 = .ok (.lload_n 3, 1) := by decide +kernel
theorem dX7_weightThat_46 : decode cX7_weightThat 46 = .ok (.lreturn, 1) := by decide +kernel
set_option maxRecDepth 20000 in
theorem ggX7_leftIf_X7_weightThat : GoodIn wsX7_leftIf wsX7_weightThat := goodIn_r _ [5, 6, 7, 8, 9, 10, 4, 11, 12, 13, 14, 15, 16, 17, 18, 19, 20, 21, 22, 23, 24, 25, 26, 27, 28, 29, 30, 31, 32, 33, 34, 35, 36, 37, 38, 39, 40, 41, 42, 43, 44, 45] (by decide +kernel) (by decide +kernel)
set_option maxRecDepth 20000 in
theorem gX7_leftIf_X7_weightThat : GoodIn wsX7_leftIf (wsV RX7 141 RX7 yX7_weightThat wsX7_weightThat) := goodIn_app (goodIn_of _ (by decide +kernel)) ggX7_leftIf_X7_weightThat
theorem dX7_leftIf_0 : decode cX7_leftIf 0 = .ok (.aload_n 0, 1) := by decide +kernel
theorem dX7_leftIf_1 : decode cX7_leftIf 1 = .ok (.iload_n 1, 1) := by decide +kernel
theorem dX7_leftIf_2 : decode cX7_leftIf 2 = .ok (.iload_n 2, 1) := by decide +kernel
theorem dX7_leftIf_3 : decode cX7_leftIf 3 = .ok (.ifCond .eq 7, 3) := by decide +kernel
theorem dX7_leftIf_6 : decode cX7_leftIf 6 = .ok (.iconst 0, 1) := by decide +kernel
theorem dX7_leftIf_7 : decode cX7_leftIf 7 = .ok (.goto 4, 3) := by decide +kernel
theorem dX7_leftIf_10 : decode cX7_leftIf 10 = .ok (.iconst 1, 1) := by decide +kernel
theorem dX7_leftIf_11 : decode cX7_leftIf 11 = .ok (.invokevirtual 141, 3) := by decide +kernel
theorem dX7_leftIf_14 : decode cX7_leftIf 14 = .ok (.aload_n 0, 1) := by decide +kernel
theorem dX7_leftIf_15 : decode cX7_leftIf 15 = .ok (.iload_n 1, 1) := by decide +kernel
theorem dX7_leftIf_16 : decode cX7_leftIf 16 = .ok (.iconst 2, 1) := by decide +kernel
theorem dX7_leftIf_17 : decode cX7_leftIf 17 = .ok (.invokevirtual 141, 3) := by decide +kernel
theorem dX7_leftIf_20 : decode cX7_leftIf 20 = .ok (.ladd, 1) := by decide +kernel
theorem dX7_leftIf_21 : decode cX7_leftIf 21 = .ok (.lreturn, 1) := by decide +kernel
set_option maxRecDepth 20000 in
theorem ggX7_worst_X7_leftIf : GoodIn wsX7_worst wsX7_leftIf := goodIn_r _ [5, 6, 7, 8, 4, 9, 10, 11, 12, 13, 14, 15, 16, 17, 18, 19, 20, 21, 22, 23, 24, 25, 26, 27, 28, 29, 30, 31, 32, 33, 34, 35, 36, 37, 38, 39, 40, 41, 42, 43, 44, 45, 46, 47, 48, 49] (by decide +kernel) (by decide +kernel)
set_option maxRecDepth 20000 in
theorem gX7_worst_X7_leftIf : GoodIn wsX7_worst (wsV RX7 144 RX7 yX7_leftIf wsX7_leftIf) := goodIn_app (goodIn_of _ (by decide +kernel)) ggX7_worst_X7_leftIf
theorem dX7_worst_0 : decode cX7_worst 0 = .ok (.aload_n 0, 1) := by decide +kernel
theorem dX7_worst_1 : decode cX7_worst 1 = .ok (.iload_n 1, 1) := by decide +kernel
theorem dX7_worst_2 : decode cX7_worst 2 = .ok (.iconst 1, 1) := by decide +kernel
theorem dX7_worst_3 : decode cX7_worst 3 = .ok (.invokevirtual 144, 3) := by decide +kernel
theorem dX7_worst_6 : decode cX7_worst 6 = .ok (.lstore_n 2, 1) := by decide +kernel
theorem dX7_worst_7 : decode cX7_worst 7 = .ok (.aload_n 0, 1) := by decide +kernel
theorem dX7_worst_8 : decode cX7_worst 8 = .ok (.iload_n 1, 1) := by decide +kernel
theorem dX7_worst_9 : decode cX7_worst 9 = .ok (.iconst 0, 1) := by decide +kernel
theorem dX7_worst_10 : decode cX7_worst 10 = .ok (.invokevirtual 144, 3) := by decide +kernel
theorem dX7_worst_13 : decode cX7_worst 13 = .ok (.lstore 4, 2) := by decide +kernel
theorem dX7_worst_15 : decode cX7_worst 15 = .ok (.lload_n 2, 1) := by decide +kernel
theorem dX7_worst_16 : decode cX7_worst 16 = .ok (.lload 4, 2) := by decide +kernel
theorem dX7_worst_18 : decode cX7_worst 18 = .ok (.lcmp, 1) := by decide +kernel
theorem dX7_worst_19 : decode cX7_worst 19 = .ok (.ifCond .le 7, 3) := by decide +kernel
theorem dX7_worst_22 : decode cX7_worst 22 = .ok (.lload_n 2, 1) := by decide +kernel
theorem dX7_worst_23 : decode cX7_worst 23 = .ok (.goto 5, 3) := by decide +kernel
theorem dX7_worst_26 : decode cX7_worst 26 = .ok (.lload 4, 2) := by decide +kernel
theorem dX7_worst_28 : decode cX7_worst 28 = .ok (.lreturn, 1) := by decide +kernel
set_option maxRecDepth 20000 in
theorem ggX7_split_X7_isFinding : GoodIn wsX7_split wsX7_isFinding := goodIn_r _ [6, 7, 8, 5, 9] (by decide +kernel) (by decide +kernel)
set_option maxRecDepth 20000 in
theorem gX7_split_X7_isFinding : GoodIn wsX7_split (va_wsS RX7 63 yX7_isFinding wsX7_isFinding) := goodIn_app (goodIn_of _ (by decide +kernel)) ggX7_split_X7_isFinding
set_option maxRecDepth 20000 in
theorem ggX7_split_X7_within : GoodIn wsX7_split wsX7_within := goodIn_r _ [9] (by decide +kernel) (by decide +kernel)
set_option maxRecDepth 20000 in
theorem gX7_split_X7_within : GoodIn wsX7_split (va_wsS RX7 51 yX7_within wsX7_within) := goodIn_app (goodIn_of _ (by decide +kernel)) ggX7_split_X7_within
set_option maxRecDepth 20000 in
theorem ggX7_split_X7_explanations : GoodIn wsX7_split wsX7_explanations := goodIn_r _ [13, 14, 15, 16, 17, 18, 19, 20, 21, 5, 22, 23, 24, 25, 26, 1, 27, 28, 29, 30, 31, 32, 33, 34, 35, 36, 37, 38, 39, 40, 41, 42, 43, 44, 45, 46, 47, 48, 49, 50, 51, 52, 53, 54, 55, 56, 57, 58, 59, 80, 81, 82, 83, 84, 85, 86, 87, 88, 89, 90, 91, 92, 93, 94, 95, 96] (by decide +kernel) (by decide +kernel)
set_option maxRecDepth 20000 in
theorem gX7_split_X7_explanations : GoodIn wsX7_split (wsV RX7 78 RX7 yX7_explanations wsX7_explanations) := goodIn_app (goodIn_of _ (by decide +kernel)) ggX7_split_X7_explanations
set_option maxRecDepth 20000 in
theorem ggX7_split_X7_worst : GoodIn wsX7_split wsX7_worst := goodIn_r _ [63, 64, 65, 66, 5, 67, 68, 69, 70, 71, 15, 18, 72, 73, 74, 75, 17, 76, 77, 78, 79, 40, 41, 42, 27, 28, 29, 30, 31, 36, 37, 38, 39, 80, 81, 82, 83, 84, 85, 86, 87, 88, 89, 90, 91, 92, 93, 94, 95, 96] (by decide +kernel) (by decide +kernel)
set_option maxRecDepth 20000 in
theorem gX7_split_X7_worst : GoodIn wsX7_split (wsV RX7 148 RX7 yX7_worst wsX7_worst) := goodIn_app (goodIn_of _ (by decide +kernel)) ggX7_split_X7_worst
set_option maxRecDepth 20000 in
theorem ggX7_split_X7_weightThat : GoodIn wsX7_split wsX7_weightThat := goodIn_r _ [71, 15, 18, 72, 73, 74, 5, 75, 17, 76, 77, 78, 79, 40, 41, 42, 27, 28, 29, 30, 31, 36, 37, 38, 39, 80, 81, 82, 83, 84, 85, 86, 87, 88, 89, 90, 91, 92, 93, 94, 95, 96] (by decide +kernel) (by decide +kernel)
set_option maxRecDepth 20000 in
theorem gX7_split_X7_weightThat : GoodIn wsX7_split (wsV RX7 141 RX7 yX7_weightThat wsX7_weightThat) := goodIn_app (goodIn_of _ (by decide +kernel)) ggX7_split_X7_weightThat
theorem dX7_split_0 : decode cX7_split 0 = .ok (.iload_n 1, 1) := by decide +kernel
theorem dX7_split_1 : decode cX7_split 1 = .ok (.invokestatic 63, 3) := by decide +kernel
theorem dX7_split_4 : decode cX7_split 4 = .ok (.ifCond .eq 21, 3) := by decide +kernel
theorem dX7_split_7 : decode cX7_split 7 = .ok (.iload_n 2, 1) := by decide +kernel
theorem dX7_split_8 : decode cX7_split 8 = .ok (.iconst 0, 1) := by decide +kernel
theorem dX7_split_9 : decode cX7_split 9 = .ok (.iconst 3, 1) := by decide +kernel
theorem dX7_split_10 : decode cX7_split 10 = .ok (.invokestatic 51, 3) := by decide +kernel
theorem dX7_split_13 : decode cX7_split 13 = .ok (.ifCond .eq 12, 3) := by decide +kernel
theorem dX7_split_16 : decode cX7_split 16 = .ok (.aload_n 0, 1) := by decide +kernel
theorem dX7_split_17 : decode cX7_split 17 = .ok (.getfield 19, 3) := by decide +kernel
theorem dX7_split_20 : decode cX7_split 20 = .ok (.iload_n 1, 1) := by decide +kernel
theorem dX7_split_21 : decode cX7_split 21 = .ok (.iaload, 1) := by decide +kernel
theorem dX7_split_22 : decode cX7_split 22 = .ok (.ifCond .eq 7, 3) := by decide +kernel
theorem dX7_split_25 : decode cX7_split 25 = .ok (.ldc2_w 122, 3) := by decide +kernel
theorem dX7_split_28 : decode cX7_split 28 = .ok (.lreturn, 1) := by decide +kernel
theorem dX7_split_29 : decode cX7_split 29 = .ok (.aload_n 0, 1) := by decide +kernel
theorem dX7_split_30 : decode cX7_split 30 = .ok (.invokevirtual 78, 3) := by decide +kernel
theorem dX7_split_33 : decode cX7_split 33 = .ok (.pop, 1) := by decide +kernel
theorem dX7_split_34 : decode cX7_split 34 = .ok (.iload_n 2, 1) := by decide +kernel
theorem dX7_split_35 : decode cX7_split 35 = .ok (.iconst 3, 1) := by decide +kernel
theorem dX7_split_36 : decode cX7_split 36 = .ok (.if_icmp .ne 11, 3) := by decide +kernel
theorem dX7_split_39 : decode cX7_split 39 = .ok (.aload_n 0, 1) := by decide +kernel
theorem dX7_split_40 : decode cX7_split 40 = .ok (.iload_n 1, 1) := by decide +kernel
theorem dX7_split_41 : decode cX7_split 41 = .ok (.invokevirtual 148, 3) := by decide +kernel
theorem dX7_split_44 : decode cX7_split 44 = .ok (.goto 9, 3) := by decide +kernel
theorem dX7_split_47 : decode cX7_split 47 = .ok (.aload_n 0, 1) := by decide +kernel
theorem dX7_split_48 : decode cX7_split 48 = .ok (.iload_n 1, 1) := by decide +kernel
theorem dX7_split_49 : decode cX7_split 49 = .ok (.iload_n 2, 1) := by decide +kernel
theorem dX7_split_50 : decode cX7_split 50 = .ok (.invokevirtual 141, 3) := by decide +kernel
theorem dX7_split_53 : decode cX7_split 53 = .ok (.lreturn, 1) := by decide +kernel
set_option maxRecDepth 20000 in
theorem ggX7_nextOf_X7_explanations : GoodIn wsX7_nextOf wsX7_explanations := goodIn_r _ [6, 7, 8, 9, 10, 11, 12, 13, 14, 5, 15, 16, 17, 18, 19, 1, 20, 21, 22, 23, 24, 25, 26, 27, 28, 29, 30, 31, 32, 33, 34, 35, 36, 37, 38, 39, 40, 41, 42, 43, 44, 45, 46, 47, 48, 49, 50, 51, 52, 73, 74, 75, 76, 77, 78, 79, 80, 81, 82, 83, 84, 85, 86, 87, 88, 89] (by decide +kernel) (by decide +kernel)
set_option maxRecDepth 20000 in
theorem gX7_nextOf_X7_explanations : GoodIn wsX7_nextOf (wsV RX7 78 RX7 yX7_explanations wsX7_explanations) := goodIn_app (goodIn_of _ (by decide +kernel)) ggX7_nextOf_X7_explanations
set_option maxRecDepth 20000 in
theorem ggX7_nextOf_X7_worst : GoodIn wsX7_nextOf wsX7_worst := goodIn_r _ [56, 57, 58, 59, 5, 60, 61, 62, 63, 64, 8, 11, 65, 66, 67, 68, 10, 69, 70, 71, 72, 33, 34, 35, 20, 21, 22, 23, 24, 29, 30, 31, 32, 73, 74, 75, 76, 77, 78, 79, 80, 81, 82, 83, 84, 85, 86, 87, 88, 89] (by decide +kernel) (by decide +kernel)
set_option maxRecDepth 20000 in
theorem gX7_nextOf_X7_worst : GoodIn wsX7_nextOf (wsV RX7 148 RX7 yX7_worst wsX7_worst) := goodIn_app (goodIn_of _ (by decide +kernel)) ggX7_nextOf_X7_worst
theorem dX7_nextOf_0 : decode cX7_nextOf 0 = .ok (.aload_n 0, 1) := by decide +kernel
theorem dX7_nextOf_1 : decode cX7_nextOf 1 = .ok (.invokevirtual 78, 3) := by decide +kernel
theorem dX7_nextOf_4 : decode cX7_nextOf 4 = .ok (.iconst 2, 1) := by decide +kernel
theorem dX7_nextOf_5 : decode cX7_nextOf 5 = .ok (.if_icmp .ge 6, 3) := by decide +kernel
theorem dX7_nextOf_8 : decode cX7_nextOf 8 = .ok (.bipush (-9), 2) := by decide +kernel
theorem dX7_nextOf_10 : decode cX7_nextOf 10 = .ok (.ireturn, 1) := by decide +kernel
theorem dX7_nextOf_11 : decode cX7_nextOf 11 = .ok (.bipush (-9), 2) := by decide +kernel
theorem dX7_nextOf_13 : decode cX7_nextOf 13 = .ok (.istore_n 1, 1) := by decide +kernel
theorem dX7_nextOf_14 : decode cX7_nextOf 14 = .ok (.iconst 0, 1) := by decide +kernel
theorem dX7_nextOf_15 : decode cX7_nextOf 15 = .ok (.istore_n 2, 1) := by decide +kernel
theorem dX7_nextOf_16 : decode cX7_nextOf 16 = .ok (.iload_n 2, 1) := by decide +kernel
theorem dX7_nextOf_17 : decode cX7_nextOf 17 = .ok (.bipush 12, 2) := by decide +kernel
theorem dX7_nextOf_19 : decode cX7_nextOf 19 = .ok (.if_icmp .ge 40, 3) := by decide +kernel
theorem dX7_nextOf_22 : decode cX7_nextOf 22 = .ok (.aload_n 0, 1) := by decide +kernel
theorem dX7_nextOf_23 : decode cX7_nextOf 23 = .ok (.getfield 19, 3) := by decide +kernel
theorem dX7_nextOf_26 : decode cX7_nextOf 26 = .ok (.iload_n 2, 1) := by decide +kernel
theorem dX7_nextOf_27 : decode cX7_nextOf 27 = .ok (.iaload, 1) := by decide +kernel
theorem dX7_nextOf_28 : decode cX7_nextOf 28 = .ok (.ifCond .ne 25, 3) := by decide +kernel
theorem dX7_nextOf_31 : decode cX7_nextOf 31 = .ok (.iload_n 1, 1) := by decide +kernel
theorem dX7_nextOf_32 : decode cX7_nextOf 32 = .ok (.bipush (-9), 2) := by decide +kernel
theorem dX7_nextOf_34 : decode cX7_nextOf 34 = .ok (.if_icmp .eq 17, 3) := by decide +kernel
theorem dX7_nextOf_37 : decode cX7_nextOf 37 = .ok (.aload_n 0, 1) := by decide +kernel
theorem dX7_nextOf_38 : decode cX7_nextOf 38 = .ok (.iload_n 2, 1) := by decide +kernel
theorem dX7_nextOf_39 : decode cX7_nextOf 39 = .ok (.invokevirtual 148, 3) := by decide +kernel
theorem dX7_nextOf_42 : decode cX7_nextOf 42 = .ok (.aload_n 0, 1) := by decide +kernel
theorem dX7_nextOf_43 : decode cX7_nextOf 43 = .ok (.iload_n 1, 1) := by decide +kernel
theorem dX7_nextOf_44 : decode cX7_nextOf 44 = .ok (.invokevirtual 148, 3) := by decide +kernel
theorem dX7_nextOf_47 : decode cX7_nextOf 47 = .ok (.lcmp, 1) := by decide +kernel
theorem dX7_nextOf_48 : decode cX7_nextOf 48 = .ok (.ifCond .ge 5, 3) := by decide +kernel
theorem dX7_nextOf_51 : decode cX7_nextOf 51 = .ok (.iload_n 2, 1) := by decide +kernel
theorem dX7_nextOf_52 : decode cX7_nextOf 52 = .ok (.istore_n 1, 1) := by decide +kernel
theorem dX7_nextOf_53 : decode cX7_nextOf 53 = .ok (.iinc 2 1, 3) := by decide +kernel
theorem dX7_nextOf_56 : decode cX7_nextOf 56 = .ok (.goto (-40), 3) := by decide +kernel
theorem dX7_nextOf_59 : decode cX7_nextOf 59 = .ok (.iload_n 1, 1) := by decide +kernel
theorem dX7_nextOf_60 : decode cX7_nextOf 60 = .ok (.ireturn, 1) := by decide +kernel
set_option maxRecDepth 20000 in
theorem ggX7_next_X7_nextOf : GoodIn wsX7_next wsX7_nextOf := goodIn_r _ [5, 6, 7, 8, 9, 4, 10, 11, 12, 13, 14, 15, 16, 17, 18, 19, 20, 21, 22, 23, 24, 25, 26, 27, 28, 29, 30, 31, 32, 33, 34, 35, 36, 37, 38, 39, 40, 41, 42, 43, 44, 45, 46, 47, 48, 49, 50, 51, 52, 53, 54, 55, 56, 57, 58, 59, 60, 61, 62, 63, 64, 65, 66, 67, 68, 69, 70, 71, 72, 73, 74, 75, 76, 77, 78, 79, 80, 81, 82, 83, 84, 85, 86, 87, 88, 89, 90, 91, 92, 93] (by decide +kernel) (by decide +kernel)
set_option maxRecDepth 20000 in
theorem gX7_next_X7_nextOf : GoodIn wsX7_next (wsV RX7 152 RX7 yX7_nextOf wsX7_nextOf) := goodIn_app (goodIn_of _ (by decide +kernel)) ggX7_next_X7_nextOf
theorem dX7_next_0 : decode cX7_next 0 = .ok (.aload_n 0, 1) := by decide +kernel
theorem dX7_next_1 : decode cX7_next 1 = .ok (.invokevirtual 152, 3) := by decide +kernel
theorem dX7_next_4 : decode cX7_next 4 = .ok (.ireturn, 1) := by decide +kernel
set_option maxRecDepth 20000 in
theorem ggX7_would_X7_isFinding : GoodIn wsX7_would wsX7_isFinding := goodIn_r _ [6, 7, 8, 5, 9] (by decide +kernel) (by decide +kernel)
set_option maxRecDepth 20000 in
theorem gX7_would_X7_isFinding : GoodIn wsX7_would (va_wsS RX7 63 yX7_isFinding wsX7_isFinding) := goodIn_app (goodIn_of _ (by decide +kernel)) ggX7_would_X7_isFinding
set_option maxRecDepth 20000 in
theorem ggX7_would_X7_within : GoodIn wsX7_would wsX7_within := goodIn_r _ [9] (by decide +kernel) (by decide +kernel)
set_option maxRecDepth 20000 in
theorem gX7_would_X7_within : GoodIn wsX7_would (va_wsS RX7 51 yX7_within wsX7_within) := goodIn_app (goodIn_of _ (by decide +kernel)) ggX7_would_X7_within
set_option maxRecDepth 20000 in
theorem ggX7_would_X7_explanations : GoodIn wsX7_would wsX7_explanations := goodIn_r _ [13, 2, 14, 15, 16, 17, 18, 19, 20, 5, 21, 22, 23, 24, 25, 1, 26, 27, 28, 29, 30, 31, 32, 33, 34, 35, 36, 37, 38, 39, 40, 41, 42, 43, 44, 45, 46, 47, 48, 49, 50, 51, 52, 53, 54, 55, 56, 57, 58, 59, 60, 61, 62, 63, 64, 65, 66, 67, 68, 69, 70, 71, 72, 73, 74, 75] (by decide +kernel) (by decide +kernel)
set_option maxRecDepth 20000 in
theorem gX7_would_X7_explanations : GoodIn wsX7_would (wsV RX7 78 RX7 yX7_explanations wsX7_explanations) := goodIn_app (goodIn_of _ (by decide +kernel)) ggX7_would_X7_explanations
theorem dX7_would_0 : decode cX7_would 0 = .ok (.iload_n 1, 1) := by decide +kernel
theorem dX7_would_1 : decode cX7_would 1 = .ok (.invokestatic 63, 3) := by decide +kernel
theorem dX7_would_4 : decode cX7_would 4 = .ok (.ifCond .ne 5, 3) := by decide +kernel
theorem dX7_would_7 : decode cX7_would 7 = .ok (.iconst (-1), 1) := by decide +kernel
theorem dX7_would_8 : decode cX7_would 8 = .ok (.ireturn, 1) := by decide +kernel
theorem dX7_would_9 : decode cX7_would 9 = .ok (.iload_n 2, 1) := by decide +kernel
theorem dX7_would_10 : decode cX7_would 10 = .ok (.iconst 0, 1) := by decide +kernel
theorem dX7_would_11 : decode cX7_would 11 = .ok (.iconst 2, 1) := by decide +kernel
theorem dX7_would_12 : decode cX7_would 12 = .ok (.invokestatic 51, 3) := by decide +kernel
theorem dX7_would_15 : decode cX7_would 15 = .ok (.ifCond .ne 6, 3) := by decide +kernel
theorem dX7_would_18 : decode cX7_would 18 = .ok (.bipush (-2), 2) := by decide +kernel
theorem dX7_would_20 : decode cX7_would 20 = .ok (.ireturn, 1) := by decide +kernel
theorem dX7_would_21 : decode cX7_would 21 = .ok (.aload_n 0, 1) := by decide +kernel
theorem dX7_would_22 : decode cX7_would 22 = .ok (.getfield 19, 3) := by decide +kernel
theorem dX7_would_25 : decode cX7_would 25 = .ok (.iload_n 1, 1) := by decide +kernel
theorem dX7_would_26 : decode cX7_would 26 = .ok (.iaload, 1) := by decide +kernel
theorem dX7_would_27 : decode cX7_would 27 = .ok (.istore_n 3, 1) := by decide +kernel
theorem dX7_would_28 : decode cX7_would 28 = .ok (.aload_n 0, 1) := by decide +kernel
theorem dX7_would_29 : decode cX7_would 29 = .ok (.getfield 19, 3) := by decide +kernel
theorem dX7_would_32 : decode cX7_would 32 = .ok (.iload_n 1, 1) := by decide +kernel
theorem dX7_would_33 : decode cX7_would 33 = .ok (.iload_n 2, 1) := by decide +kernel
theorem dX7_would_34 : decode cX7_would 34 = .ok (.iconst 1, 1) := by decide +kernel
theorem dX7_would_35 : decode cX7_would 35 = .ok (.if_icmp .ne 7, 3) := by decide +kernel
theorem dX7_would_38 : decode cX7_would 38 = .ok (.iconst 1, 1) := by decide +kernel
theorem dX7_would_39 : decode cX7_would 39 = .ok (.goto 12, 3) := by decide +kernel
theorem dX7_would_42 : decode cX7_would 42 = .ok (.iload_n 2, 1) := by decide +kernel
theorem dX7_would_43 : decode cX7_would 43 = .ok (.ifCond .ne 7, 3) := by decide +kernel
theorem dX7_would_46 : decode cX7_would 46 = .ok (.iconst 2, 1) := by decide +kernel
theorem dX7_would_47 : decode cX7_would 47 = .ok (.goto 4, 3) := by decide +kernel
theorem dX7_would_50 : decode cX7_would 50 = .ok (.iconst 0, 1) := by decide +kernel
theorem dX7_would_51 : decode cX7_would 51 = .ok (.iastore, 1) := by decide +kernel
theorem dX7_would_52 : decode cX7_would 52 = .ok (.aload_n 0, 1) := by decide +kernel
theorem dX7_would_53 : decode cX7_would 53 = .ok (.iconst 0, 1) := by decide +kernel
theorem dX7_would_54 : decode cX7_would 54 = .ok (.putfield 59, 3) := by decide +kernel
theorem dX7_would_57 : decode cX7_would 57 = .ok (.aload_n 0, 1) := by decide +kernel
theorem dX7_would_58 : decode cX7_would 58 = .ok (.invokevirtual 78, 3) := by decide +kernel
theorem dX7_would_61 : decode cX7_would 61 = .ok (.istore 4, 2) := by decide +kernel
theorem dX7_would_63 : decode cX7_would 63 = .ok (.aload_n 0, 1) := by decide +kernel
theorem dX7_would_64 : decode cX7_would 64 = .ok (.getfield 19, 3) := by decide +kernel
theorem dX7_would_67 : decode cX7_would 67 = .ok (.iload_n 1, 1) := by decide +kernel
theorem dX7_would_68 : decode cX7_would 68 = .ok (.iload_n 3, 1) := by decide +kernel
theorem dX7_would_69 : decode cX7_would 69 = .ok (.iastore, 1) := by decide +kernel
theorem dX7_would_70 : decode cX7_would 70 = .ok (.aload_n 0, 1) := by decide +kernel
theorem dX7_would_71 : decode cX7_would 71 = .ok (.iconst 0, 1) := by decide +kernel
theorem dX7_would_72 : decode cX7_would 72 = .ok (.putfield 59, 3) := by decide +kernel
theorem dX7_would_75 : decode cX7_would 75 = .ok (.iload 4, 2) := by decide +kernel
theorem dX7_would_77 : decode cX7_would 77 = .ok (.ireturn, 1) := by decide +kernel
set_option maxRecDepth 20000 in
theorem ggX7_findPlan_X7_nextOf : GoodIn wsX7_findPlan wsX7_nextOf := goodIn_r _ [12, 2, 13, 14, 15, 11, 16, 4, 17, 18, 19, 20, 21, 22, 23, 24, 25, 26, 27, 28, 29, 30, 31, 32, 33, 34, 35, 36, 37, 38, 39, 40, 41, 42, 43, 44, 45, 46, 47, 48, 49, 50, 51, 52, 53, 54, 55, 56, 57, 58, 59, 60, 61, 62, 63, 64, 65, 66, 67, 68, 69, 70, 71, 72, 73, 74, 75, 76, 77, 78, 79, 80, 81, 82, 83, 84, 85, 86, 87, 88, 89, 90, 91, 92, 93, 94, 95, 96, 97, 98] (by decide +kernel) (by decide +kernel)
set_option maxRecDepth 20000 in
theorem gX7_findPlan_X7_nextOf : GoodIn wsX7_findPlan (wsV RX7 152 RX7 yX7_nextOf wsX7_nextOf) := goodIn_app (goodIn_of _ (by decide +kernel)) ggX7_findPlan_X7_nextOf
set_option maxRecDepth 20000 in
theorem ggX7_findPlan_X7_leftIf : GoodIn wsX7_findPlan wsX7_leftIf := goodIn_r _ [69, 70, 71, 72, 11, 73, 17, 20, 74, 75, 76, 77, 19, 78, 79, 80, 81, 42, 43, 44, 29, 30, 31, 32, 33, 38, 39, 40, 41, 82, 83, 84, 85, 86, 87, 88, 89, 90, 91, 92, 93, 94, 95, 96, 97, 98] (by decide +kernel) (by decide +kernel)
set_option maxRecDepth 20000 in
theorem gX7_findPlan_X7_leftIf : GoodIn wsX7_findPlan (wsV RX7 144 RX7 yX7_leftIf wsX7_leftIf) := goodIn_app (goodIn_of _ (by decide +kernel)) ggX7_findPlan_X7_leftIf
set_option maxRecDepth 20000 in
theorem ggX7_findPlan_X7_explanations : GoodIn wsX7_findPlan wsX7_explanations := goodIn_r _ [16, 4, 17, 18, 19, 20, 21, 22, 23, 11, 24, 25, 26, 27, 28, 2, 29, 30, 31, 32, 33, 34, 35, 36, 37, 38, 39, 40, 41, 42, 43, 44, 45, 46, 47, 48, 49, 50, 51, 52, 53, 54, 55, 56, 57, 58, 59, 60, 61, 82, 83, 84, 85, 86, 87, 88, 89, 90, 91, 92, 93, 94, 95, 96, 97, 98] (by decide +kernel) (by decide +kernel)
set_option maxRecDepth 20000 in
theorem gX7_findPlan_X7_explanations : GoodIn wsX7_findPlan (wsV RX7 78 RX7 yX7_explanations wsX7_explanations) := goodIn_app (goodIn_of _ (by decide +kernel)) ggX7_findPlan_X7_explanations
theorem dX7_findPlan_0 : decode cX7_findPlan 0 = .ok (.iconst 0, 1) := by decide +kernel
theorem dX7_findPlan_1 : decode cX7_findPlan 1 = .ok (.istore_n 1, 1) := by decide +kernel
theorem dX7_findPlan_2 : decode cX7_findPlan 2 = .ok (.iload_n 1, 1) := by decide +kernel
theorem dX7_findPlan_3 : decode cX7_findPlan 3 = .ok (.bipush 12, 2) := by decide +kernel
theorem dX7_findPlan_5 : decode cX7_findPlan 5 = .ok (.if_icmp .ge 21, 3) := by decide +kernel
theorem dX7_findPlan_8 : decode cX7_findPlan 8 = .ok (.aload_n 0, 1) := by decide +kernel
theorem dX7_findPlan_9 : decode cX7_findPlan 9 = .ok (.getfield 48, 3) := by decide +kernel
theorem dX7_findPlan_12 : decode cX7_findPlan 12 = .ok (.iload_n 1, 1) := by decide +kernel
theorem dX7_findPlan_13 : decode cX7_findPlan 13 = .ok (.aload_n 0, 1) := by decide +kernel
theorem dX7_findPlan_14 : decode cX7_findPlan 14 = .ok (.getfield 19, 3) := by decide +kernel
theorem dX7_findPlan_17 : decode cX7_findPlan 17 = .ok (.iload_n 1, 1) := by decide +kernel
theorem dX7_findPlan_18 : decode cX7_findPlan 18 = .ok (.iaload, 1) := by decide +kernel
theorem dX7_findPlan_19 : decode cX7_findPlan 19 = .ok (.iastore, 1) := by decide +kernel
theorem dX7_findPlan_20 : decode cX7_findPlan 20 = .ok (.iinc 1 1, 3) := by decide +kernel
theorem dX7_findPlan_23 : decode cX7_findPlan 23 = .ok (.goto (-21), 3) := by decide +kernel
theorem dX7_findPlan_26 : decode cX7_findPlan 26 = .ok (.aload_n 0, 1) := by decide +kernel
theorem dX7_findPlan_27 : decode cX7_findPlan 27 = .ok (.iconst 0, 1) := by decide +kernel
theorem dX7_findPlan_28 : decode cX7_findPlan 28 = .ok (.putfield 155, 3) := by decide +kernel
theorem dX7_findPlan_31 : decode cX7_findPlan 31 = .ok (.aload_n 0, 1) := by decide +kernel
theorem dX7_findPlan_32 : decode cX7_findPlan 32 = .ok (.invokevirtual 152, 3) := by decide +kernel
theorem dX7_findPlan_35 : decode cX7_findPlan 35 = .ok (.istore_n 1, 1) := by decide +kernel
theorem dX7_findPlan_36 : decode cX7_findPlan 36 = .ok (.iload_n 1, 1) := by decide +kernel
theorem dX7_findPlan_37 : decode cX7_findPlan 37 = .ok (.bipush (-9), 2) := by decide +kernel
theorem dX7_findPlan_39 : decode cX7_findPlan 39 = .ok (.if_icmp .eq 104, 3) := by decide +kernel
theorem dX7_findPlan_42 : decode cX7_findPlan 42 = .ok (.aload_n 0, 1) := by decide +kernel
theorem dX7_findPlan_43 : decode cX7_findPlan 43 = .ok (.iload_n 1, 1) := by decide +kernel
theorem dX7_findPlan_44 : decode cX7_findPlan 44 = .ok (.iconst 1, 1) := by decide +kernel
theorem dX7_findPlan_45 : decode cX7_findPlan 45 = .ok (.invokevirtual 144, 3) := by decide +kernel
theorem dX7_findPlan_48 : decode cX7_findPlan 48 = .ok (.aload_n 0, 1) := by decide +kernel
theorem dX7_findPlan_49 : decode cX7_findPlan 49 = .ok (.iload_n 1, 1) := by decide +kernel
theorem dX7_findPlan_50 : decode cX7_findPlan 50 = .ok (.iconst 0, 1) := by decide +kernel
theorem dX7_findPlan_51 : decode cX7_findPlan 51 = .ok (.invokevirtual 144, 3) := by decide +kernel
theorem dX7_findPlan_54 : decode cX7_findPlan 54 = .ok (.lcmp, 1) := by decide +kernel
theorem dX7_findPlan_55 : decode cX7_findPlan 55 = .ok (.ifCond .lt 7, 3) := by decide +kernel
theorem dX7_findPlan_58 : decode cX7_findPlan 58 = .ok (.iconst 1, 1) := by decide +kernel
theorem dX7_findPlan_59 : decode cX7_findPlan 59 = .ok (.goto 4, 3) := by decide +kernel
theorem dX7_findPlan_62 : decode cX7_findPlan 62 = .ok (.iconst 0, 1) := by decide +kernel
theorem dX7_findPlan_63 : decode cX7_findPlan 63 = .ok (.istore_n 2, 1) := by decide +kernel
theorem dX7_findPlan_64 : decode cX7_findPlan 64 = .ok (.aload_n 0, 1) := by decide +kernel
theorem dX7_findPlan_65 : decode cX7_findPlan 65 = .ok (.getfield 19, 3) := by decide +kernel
theorem dX7_findPlan_68 : decode cX7_findPlan 68 = .ok (.iload_n 1, 1) := by decide +kernel
theorem dX7_findPlan_69 : decode cX7_findPlan 69 = .ok (.iload_n 2, 1) := by decide +kernel
theorem dX7_findPlan_70 : decode cX7_findPlan 70 = .ok (.ifCond .eq 7, 3) := by decide +kernel
theorem dX7_findPlan_73 : decode cX7_findPlan 73 = .ok (.iconst 1, 1) := by decide +kernel
theorem dX7_findPlan_74 : decode cX7_findPlan 74 = .ok (.goto 4, 3) := by decide +kernel
theorem dX7_findPlan_77 : decode cX7_findPlan 77 = .ok (.iconst 2, 1) := by decide +kernel
theorem dX7_findPlan_78 : decode cX7_findPlan 78 = .ok (.iastore, 1) := by decide +kernel
theorem dX7_findPlan_79 : decode cX7_findPlan 79 = .ok (.aload_n 0, 1) := by decide +kernel
theorem dX7_findPlan_80 : decode cX7_findPlan 80 = .ok (.iconst 0, 1) := by decide +kernel
theorem dX7_findPlan_81 : decode cX7_findPlan 81 = .ok (.putfield 59, 3) := by decide +kernel
theorem dX7_findPlan_84 : decode cX7_findPlan 84 = .ok (.aload_n 0, 1) := by decide +kernel
theorem dX7_findPlan_85 : decode cX7_findPlan 85 = .ok (.getfield 39, 3) := by decide +kernel
theorem dX7_findPlan_88 : decode cX7_findPlan 88 = .ok (.aload_n 0, 1) := by decide +kernel
theorem dX7_findPlan_89 : decode cX7_findPlan 89 = .ok (.getfield 155, 3) := by decide +kernel
theorem dX7_findPlan_92 : decode cX7_findPlan 92 = .ok (.iload_n 1, 1) := by decide +kernel
theorem dX7_findPlan_93 : decode cX7_findPlan 93 = .ok (.iastore, 1) := by decide +kernel
theorem dX7_findPlan_94 : decode cX7_findPlan 94 = .ok (.aload_n 0, 1) := by decide +kernel
theorem dX7_findPlan_95 : decode cX7_findPlan 95 = .ok (.getfield 42, 3) := by decide +kernel
theorem dX7_findPlan_98 : decode cX7_findPlan 98 = .ok (.aload_n 0, 1) := by decide +kernel
theorem dX7_findPlan_99 : decode cX7_findPlan 99 = .ok (.getfield 155, 3) := by decide +kernel
theorem dX7_findPlan_102 : decode cX7_findPlan 102 = .ok (.iload_n 2, 1) := by decide +kernel
theorem dX7_findPlan_103 : decode cX7_findPlan 103 = .ok (.ifCond .eq 7, 3) := by decide +kernel
theorem dX7_findPlan_106 : decode cX7_findPlan 106 = .ok (.iconst 1, 1) := by decide +kernel
theorem dX7_findPlan_107 : decode cX7_findPlan 107 = .ok (.goto 4, 3) := by decide +kernel
theorem dX7_findPlan_110 : decode cX7_findPlan 110 = .ok (.iconst 0, 1) := by decide +kernel
theorem dX7_findPlan_111 : decode cX7_findPlan 111 = .ok (.iastore, 1) := by decide +kernel
theorem dX7_findPlan_112 : decode cX7_findPlan 112 = .ok (.aload_n 0, 1) := by decide +kernel
theorem dX7_findPlan_113 : decode cX7_findPlan 113 = .ok (.getfield 45, 3) := by decide +kernel
