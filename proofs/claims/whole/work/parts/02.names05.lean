theorem dX6_plan_75 : decode cX6_plan 75 = .ok (.iload_n 1, 1) := by decide +kernel
theorem dX6_plan_76 : decode cX6_plan 76 = .ok (.iaload, 1) := by decide +kernel
theorem dX6_plan_77 : decode cX6_plan 77 = .ok (.ireturn, 1) := by decide +kernel
theorem dX6_plan_78 : decode cX6_plan 78 = .ok (.aload_n 0, 1) := by decide +kernel
theorem dX6_plan_79 : decode cX6_plan 79 = .ok (.getfield 57, 3) := by decide +kernel
theorem dX6_plan_82 : decode cX6_plan 82 = .ok (.getfield 233, 3) := by decide +kernel
theorem dX6_plan_85 : decode cX6_plan 85 = .ok (.iload_n 1, 1) := by decide +kernel
theorem dX6_plan_86 : decode cX6_plan 86 = .ok (.iaload, 1) := by decide +kernel
theorem dX6_plan_87 : decode cX6_plan 87 = .ok (.iconst 1, 1) := by decide +kernel
theorem dX6_plan_88 : decode cX6_plan 88 = .ok (.if_icmp .ne 7, 3) := by decide +kernel
theorem dX6_plan_91 : decode cX6_plan 91 = .ok (.iconst 1, 1) := by decide +kernel
theorem dX6_plan_92 : decode cX6_plan 92 = .ok (.goto 4, 3) := by decide +kernel
theorem dX6_plan_95 : decode cX6_plan 95 = .ok (.iconst 0, 1) := by decide +kernel
theorem dX6_plan_96 : decode cX6_plan 96 = .ok (.ireturn, 1) := by decide +kernel
theorem dX6_plan_97 : decode cX6_plan 97 = .ok (.aload_n 0, 1) := by decide +kernel
theorem dX6_plan_98 : decode cX6_plan 98 = .ok (.getfield 57, 3) := by decide +kernel
theorem dX6_plan_101 : decode cX6_plan 101 = .ok (.getfield 236, 3) := by decide +kernel
theorem dX6_plan_104 : decode cX6_plan 104 = .ok (.iload_n 1, 1) := by decide +kernel
theorem dX6_plan_105 : decode cX6_plan 105 = .ok (.iaload, 1) := by decide +kernel
theorem dX6_plan_106 : decode cX6_plan 106 = .ok (.ireturn, 1) := by decide +kernel
set_option maxRecDepth 20000 in
theorem ggX6_many_X6_upToDate : GoodIn wsX6_many wsX6_upToDate := goodIn_r _ [14, 15, 16, 2, 17, 18, 19, 20, 21, 22, 23, 24, 25, 26, 27, 28, 29, 30, 31, 32, 33, 34, 35, 36, 37, 13, 38, 39, 40, 41, 42, 43, 44, 45, 46, 47, 48, 49, 50, 51, 52, 53, 54, 55, 56, 57, 58, 59, 60, 61, 62, 63, 64, 65, 66, 67, 68, 164, 165, 166, 167, 168, 169, 170, 171, 172, 173, 157, 158, 159, 160, 161, 162, 163, 174, 175, 183, 184, 185, 186, 187, 188] (by decide +kernel) (by decide +kernel)
set_option maxRecDepth 20000 in
theorem gX6_many_X6_upToDate : GoodIn wsX6_many (wsV RX6 107 RX6 yX6_upToDate wsX6_upToDate) := goodIn_app (goodIn_of _ (by decide +kernel)) ggX6_many_X6_upToDate
set_option maxRecDepth 20000 in
theorem ggX6_many_J6_bitCount_0f7a4 : GoodIn wsX6_many wsJ6_bitCount_0f7a4 := goodIn_r _ [52, 53, 54, 55] (by decide +kernel) (by decide +kernel)
set_option maxRecDepth 20000 in
theorem gX6_many_J6_bitCount_0f7a4 : GoodIn wsX6_many (va_wsS RX6 140 yJ6_bitCount_0f7a4 wsJ6_bitCount_0f7a4) := goodIn_app (goodIn_of _ (by decide +kernel)) ggX6_many_J6_bitCount_0f7a4
set_option maxRecDepth 20000 in
theorem ggX6_many_X1_countLinks : GoodIn wsX6_many wsX1_countLinks := goodIn_r _ [73, 74, 75, 50, 51, 52, 53, 54, 55, 183, 184, 185, 186, 187, 188] (by decide +kernel) (by decide +kernel)
set_option maxRecDepth 20000 in
theorem gX6_many_X1_countLinks : GoodIn wsX6_many (wsV RX6 239 RX1 yX1_countLinks wsX1_countLinks) := goodIn_app (goodIn_of _ (by decide +kernel)) ggX6_many_X1_countLinks
set_option maxRecDepth 20000 in
theorem ggX6_many_X6_makePlan : GoodIn wsX6_many wsX6_makePlan := goodIn_r _ [79, 80, 8, 9, 81, 2, 82, 83, 1, 84, 85, 86, 87, 88, 89, 90, 17, 18, 19, 20, 21, 22, 23, 24, 25, 26, 27, 28, 29, 30, 31, 32, 33, 34, 35, 36, 37, 13, 38, 39, 40, 41, 42, 43, 44, 45, 46, 47, 48, 49, 50, 51, 52, 53, 54, 55, 56, 57, 58, 59, 91, 92, 93, 94, 95, 96, 97, 98, 99, 100, 101, 102, 103, 104, 105, 106, 107, 108, 109, 110, 111, 112, 113, 114, 115, 116, 117, 118, 119, 120, 121, 122, 123, 124, 125, 126, 127, 128, 129, 130, 131, 132, 133, 134, 135, 136, 137, 138, 139, 140, 141, 142, 143, 144, 145, 146, 147, 148, 149, 150, 151, 152, 153, 154, 155, 156, 164, 165, 166, 167, 168, 169, 170, 171, 172, 173, 179, 180, 181, 182, 157, 158, 159, 160, 161, 162, 163, 174, 175, 183, 184, 185, 186, 187, 188, 189, 190, 191] (by decide +kernel) (by decide +kernel)
set_option maxRecDepth 20000 in
theorem gX6_many_X6_makePlan : GoodIn wsX6_many (wsV RX6 226 RX6 yX6_makePlan wsX6_makePlan) := goodIn_app (goodIn_of _ (by decide +kernel)) ggX6_many_X6_makePlan
theorem dX6_many_0 : decode cX6_many 0 = .ok (.iload_n 1, 1) := by decide +kernel
theorem dX6_many_1 : decode cX6_many 1 = .ok (.tableswitch 97 0 5 #[39, 47, 58, 69, 77, 85], 39) := by decide +kernel
theorem dX6_many_40 : decode cX6_many 40 = .ok (.aload_n 0, 1) := by decide +kernel
theorem dX6_many_41 : decode cX6_many 41 = .ok (.invokevirtual 107, 3) := by decide +kernel
theorem dX6_many_44 : decode cX6_many 44 = .ok (.getfield 136, 3) := by decide +kernel
theorem dX6_many_47 : decode cX6_many 47 = .ok (.ireturn, 1) := by decide +kernel
theorem dX6_many_48 : decode cX6_many 48 = .ok (.aload_n 0, 1) := by decide +kernel
theorem dX6_many_49 : decode cX6_many 49 = .ok (.getfield 21, 3) := by decide +kernel
theorem dX6_many_52 : decode cX6_many 52 = .ok (.getfield 137, 3) := by decide +kernel
theorem dX6_many_55 : decode cX6_many 55 = .ok (.invokestatic 140, 3) := by decide +kernel
theorem dX6_many_58 : decode cX6_many 58 = .ok (.ireturn, 1) := by decide +kernel
theorem dX6_many_59 : decode cX6_many 59 = .ok (.aload_n 0, 1) := by decide +kernel
theorem dX6_many_60 : decode cX6_many 60 = .ok (.getfield 21, 3) := by decide +kernel
theorem dX6_many_63 : decode cX6_many 63 = .ok (.getfield 95, 3) := by decide +kernel
theorem dX6_many_66 : decode cX6_many 66 = .ok (.invokestatic 140, 3) := by decide +kernel
theorem dX6_many_69 : decode cX6_many 69 = .ok (.ireturn, 1) := by decide +kernel
theorem dX6_many_70 : decode cX6_many 70 = .ok (.aload_n 0, 1) := by decide +kernel
theorem dX6_many_71 : decode cX6_many 71 = .ok (.getfield 14, 3) := by decide +kernel
theorem dX6_many_74 : decode cX6_many 74 = .ok (.invokevirtual 239, 3) := by decide +kernel
theorem dX6_many_77 : decode cX6_many 77 = .ok (.ireturn, 1) := by decide +kernel
theorem dX6_many_78 : decode cX6_many 78 = .ok (.aload_n 0, 1) := by decide +kernel
theorem dX6_many_79 : decode cX6_many 79 = .ok (.getfield 28, 3) := by decide +kernel
theorem dX6_many_82 : decode cX6_many 82 = .ok (.getfield 129, 3) := by decide +kernel
theorem dX6_many_85 : decode cX6_many 85 = .ok (.ireturn, 1) := by decide +kernel
theorem dX6_many_86 : decode cX6_many 86 = .ok (.aload_n 0, 1) := by decide +kernel
theorem dX6_many_87 : decode cX6_many 87 = .ok (.invokevirtual 226, 3) := by decide +kernel
theorem dX6_many_90 : decode cX6_many 90 = .ok (.aload_n 0, 1) := by decide +kernel
theorem dX6_many_91 : decode cX6_many 91 = .ok (.getfield 57, 3) := by decide +kernel
theorem dX6_many_94 : decode cX6_many 94 = .ok (.getfield 229, 3) := by decide +kernel
theorem dX6_many_97 : decode cX6_many 97 = .ok (.ireturn, 1) := by decide +kernel
theorem dX6_many_98 : decode cX6_many 98 = .ok (.bipush (-2), 2) := by decide +kernel
theorem dX6_many_100 : decode cX6_many 100 = .ok (.ireturn, 1) := by decide +kernel
theorem dX6_isCause_0 : decode cX6_isCause 0 = .ok (.iload_n 0, 1) := by decide +kernel
theorem dX6_isCause_1 : decode cX6_isCause 1 = .ok (.ifCond .lt 13, 3) := by decide +kernel
theorem dX6_isCause_4 : decode cX6_isCause 4 = .ok (.iload_n 0, 1) := by decide +kernel
theorem dX6_isCause_5 : decode cX6_isCause 5 = .ok (.bipush 10, 2) := by decide +kernel
theorem dX6_isCause_7 : decode cX6_isCause 7 = .ok (.if_icmp .ge 7, 3) := by decide +kernel
theorem dX6_isCause_10 : decode cX6_isCause 10 = .ok (.iconst 1, 1) := by decide +kernel
theorem dX6_isCause_11 : decode cX6_isCause 11 = .ok (.goto 4, 3) := by decide +kernel
theorem dX6_isCause_14 : decode cX6_isCause 14 = .ok (.iconst 0, 1) := by decide +kernel
theorem dX6_isCause_15 : decode cX6_isCause 15 = .ok (.ireturn, 1) := by decide +kernel
theorem dX6_isFinding_0 : decode cX6_isFinding 0 = .ok (.iload_n 0, 1) := by decide +kernel
theorem dX6_isFinding_1 : decode cX6_isFinding 1 = .ok (.ifCond .lt 13, 3) := by decide +kernel
theorem dX6_isFinding_4 : decode cX6_isFinding 4 = .ok (.iload_n 0, 1) := by decide +kernel
theorem dX6_isFinding_5 : decode cX6_isFinding 5 = .ok (.bipush 12, 2) := by decide +kernel
theorem dX6_isFinding_7 : decode cX6_isFinding 7 = .ok (.if_icmp .ge 7, 3) := by decide +kernel
theorem dX6_isFinding_10 : decode cX6_isFinding 10 = .ok (.iconst 1, 1) := by decide +kernel
theorem dX6_isFinding_11 : decode cX6_isFinding 11 = .ok (.goto 4, 3) := by decide +kernel
theorem dX6_isFinding_14 : decode cX6_isFinding 14 = .ok (.iconst 0, 1) := by decide +kernel
theorem dX6_isFinding_15 : decode cX6_isFinding 15 = .ok (.ireturn, 1) := by decide +kernel
theorem dX6_areOdds_0 : decode cX6_areOdds 0 = .ok (.iload_n 0, 1) := by decide +kernel
theorem dX6_areOdds_1 : decode cX6_areOdds 1 = .ok (.iconst 1, 1) := by decide +kernel
theorem dX6_areOdds_2 : decode cX6_areOdds 2 = .ok (.if_icmp .lt 13, 3) := by decide +kernel
theorem dX6_areOdds_5 : decode cX6_areOdds 5 = .ok (.iload_n 0, 1) := by decide +kernel
theorem dX6_areOdds_6 : decode cX6_areOdds 6 = .ok (.bipush 20, 2) := by decide +kernel
theorem dX6_areOdds_8 : decode cX6_areOdds 8 = .ok (.if_icmp .gt 7, 3) := by decide +kernel
theorem dX6_areOdds_11 : decode cX6_areOdds 11 = .ok (.iconst 1, 1) := by decide +kernel
theorem dX6_areOdds_12 : decode cX6_areOdds 12 = .ok (.goto 4, 3) := by decide +kernel
theorem dX6_areOdds_15 : decode cX6_areOdds 15 = .ok (.iconst 0, 1) := by decide +kernel
theorem dX6_areOdds_16 : decode cX6_areOdds 16 = .ok (.ireturn, 1) := by decide +kernel
theorem dX6_isUpperOrLower_0 : decode cX6_isUpperOrLower 0 = .ok (.iload_n 0, 1) := by decide +kernel
theorem dX6_isUpperOrLower_1 : decode cX6_isUpperOrLower 1 = .ok (.ifCond .eq 8, 3) := by decide +kernel
theorem dX6_isUpperOrLower_4 : decode cX6_isUpperOrLower 4 = .ok (.iload_n 0, 1) := by decide +kernel
theorem dX6_isUpperOrLower_5 : decode cX6_isUpperOrLower 5 = .ok (.iconst 1, 1) := by decide +kernel
theorem dX6_isUpperOrLower_6 : decode cX6_isUpperOrLower 6 = .ok (.if_icmp .ne 7, 3) := by decide +kernel
theorem dX6_isUpperOrLower_9 : decode cX6_isUpperOrLower 9 = .ok (.iconst 1, 1) := by decide +kernel
theorem dX6_isUpperOrLower_10 : decode cX6_isUpperOrLower 10 = .ok (.goto 4, 3) := by decide +kernel
theorem dX6_isUpperOrLower_13 : decode cX6_isUpperOrLower 13 = .ok (.iconst 0, 1) := by decide +kernel
theorem dX6_isUpperOrLower_14 : decode cX6_isUpperOrLower 14 = .ok (.ireturn, 1) := by decide +kernel
theorem dX6_has_0 : decode cX6_has 0 = .ok (.iload_n 0, 1) := by decide +kernel
theorem dX6_has_1 : decode cX6_has 1 = .ok (.iload_n 1, 1) := by decide +kernel
theorem dX6_has_2 : decode cX6_has 2 = .ok (.ishr, 1) := by decide +kernel
theorem dX6_has_3 : decode cX6_has 3 = .ok (.iconst 1, 1) := by decide +kernel
theorem dX6_has_4 : decode cX6_has 4 = .ok (.iand, 1) := by decide +kernel
theorem dX6_has_5 : decode cX6_has 5 = .ok (.ifCond .eq 7, 3) := by decide +kernel
theorem dX6_has_8 : decode cX6_has 8 = .ok (.iconst 1, 1) := by decide +kernel
theorem dX6_has_9 : decode cX6_has 9 = .ok (.goto 4, 3) := by decide +kernel
theorem dX6_has_12 : decode cX6_has 12 = .ok (.iconst 0, 1) := by decide +kernel
theorem dX6_has_13 : decode cX6_has 13 = .ok (.ireturn, 1) := by decide +kernel
theorem dX6_forgetWhatFollowed_0 : decode cX6_forgetWhatFollowed 0 = .ok (.aload_n 0, 1) := by decide +kernel
theorem dX6_forgetWhatFollowed_1 : decode cX6_forgetWhatFollowed 1 = .ok (.iconst 0, 1) := by decide +kernel
theorem dX6_forgetWhatFollowed_2 : decode cX6_forgetWhatFollowed 2 = .ok (.putfield 242, 3) := by decide +kernel
theorem dX6_forgetWhatFollowed_5 : decode cX6_forgetWhatFollowed 5 = .ok (.aload_n 0, 1) := by decide +kernel
theorem dX6_forgetWhatFollowed_6 : decode cX6_forgetWhatFollowed 6 = .ok (.iconst 0, 1) := by decide +kernel
theorem dX6_forgetWhatFollowed_7 : decode cX6_forgetWhatFollowed 7 = .ok (.putfield 246, 3) := by decide +kernel
theorem dX6_forgetWhatFollowed_10 : decode cX6_forgetWhatFollowed 10 = .ok (.return_, 1) := by decide +kernel
set_option maxRecDepth 20000 in
theorem ggX6_upToDate_X2_list : GoodIn wsX6_upToDate wsX2_list := goodIn_r _ [8, 9, 10, 11, 12, 13, 14, 15, 16, 17, 18, 19, 20, 21, 22, 23, 24, 25, 26, 27, 28, 7, 29, 30, 31, 32, 33, 34, 35, 36, 37, 38, 39, 40, 41, 42, 43, 44, 45, 46, 47, 67, 68, 69, 70, 71, 72, 73, 74, 75, 76, 77, 78, 79, 80, 81] (by decide +kernel) (by decide +kernel)
set_option maxRecDepth 20000 in
theorem gX6_upToDate_X2_list : GoodIn wsX6_upToDate (wsV RX6 223 RX2 yX2_list wsX2_list) := goodIn_app (goodIn_of _ (by decide +kernel)) ggX6_upToDate_X2_list
set_option maxRecDepth 20000 in
theorem ggX6_upToDate_X2_putInOrder : GoodIn wsX6_upToDate wsX2_putInOrder := goodIn_r _ [51, 52, 9, 53, 54, 55, 7, 56, 36, 67, 68, 69, 70, 71, 72, 73] (by decide +kernel) (by decide +kernel)
set_option maxRecDepth 20000 in
theorem gX6_upToDate_X2_putInOrder : GoodIn wsX6_upToDate (wsV RX6 249 RX2 yX2_putInOrder wsX2_putInOrder) := goodIn_app (goodIn_of _ (by decide +kernel)) ggX6_upToDate_X2_putInOrder
theorem dX6_upToDate_0 : decode cX6_upToDate 0 = .ok (.aload_n 0, 1) := by decide +kernel
theorem dX6_upToDate_1 : decode cX6_upToDate 1 = .ok (.getfield 242, 3) := by decide +kernel
theorem dX6_upToDate_4 : decode cX6_upToDate 4 = .ok (.ifCond .ne 26, 3) := by decide +kernel
theorem dX6_upToDate_7 : decode cX6_upToDate 7 = .ok (.aload_n 0, 1) := by decide +kernel
theorem dX6_upToDate_8 : decode cX6_upToDate 8 = .ok (.getfield 37, 3) := by decide +kernel
theorem dX6_upToDate_11 : decode cX6_upToDate 11 = .ok (.aload_n 0, 1) := by decide +kernel
theorem dX6_upToDate_12 : decode cX6_upToDate 12 = .ok (.getfield 21, 3) := by decide +kernel
theorem dX6_upToDate_15 : decode cX6_upToDate 15 = .ok (.invokevirtual 223, 3) := by decide +kernel
theorem dX6_upToDate_18 : decode cX6_upToDate 18 = .ok (.aload_n 0, 1) := by decide +kernel
theorem dX6_upToDate_19 : decode cX6_upToDate 19 = .ok (.getfield 37, 3) := by decide +kernel
theorem dX6_upToDate_22 : decode cX6_upToDate 22 = .ok (.invokevirtual 249, 3) := by decide +kernel
theorem dX6_upToDate_25 : decode cX6_upToDate 25 = .ok (.aload_n 0, 1) := by decide +kernel
theorem dX6_upToDate_26 : decode cX6_upToDate 26 = .ok (.iconst 1, 1) := by decide +kernel
theorem dX6_upToDate_27 : decode cX6_upToDate 27 = .ok (.putfield 242, 3) := by decide +kernel
theorem dX6_upToDate_30 : decode cX6_upToDate 30 = .ok (.aload_n 0, 1) := by decide +kernel
theorem dX6_upToDate_31 : decode cX6_upToDate 31 = .ok (.getfield 37, 3) := by decide +kernel
theorem dX6_upToDate_34 : decode cX6_upToDate 34 = .ok (.areturn, 1) := by decide +kernel
set_option maxRecDepth 20000 in
theorem ggX6_changeFinding_X5_stateOf : GoodIn wsX6_changeFinding wsX5_stateOf := goodIn_r _ [8, 9, 10, 11, 12, 13, 108, 109] (by decide +kernel) (by decide +kernel)
set_option maxRecDepth 20000 in
theorem gX6_changeFinding_X5_stateOf : GoodIn wsX6_changeFinding (wsV RX6 114 RX5 yX5_stateOf wsX5_stateOf) := goodIn_app (goodIn_of _ (by decide +kernel)) ggX6_changeFinding_X5_stateOf
set_option maxRecDepth 20000 in
theorem ggX6_changeFinding_X0_remember : GoodIn wsX6_changeFinding wsX0_remember := goodIn_r _ [18, 19, 20, 21, 22, 23, 24, 17, 25, 110, 111, 112] (by decide +kernel) (by decide +kernel)
set_option maxRecDepth 20000 in
theorem gX6_changeFinding_X0_remember : GoodIn wsX6_changeFinding (wsV RX6 252 RX0 yX0_remember wsX0_remember) := goodIn_app (goodIn_of _ (by decide +kernel)) ggX6_changeFinding_X0_remember
set_option maxRecDepth 20000 in
theorem ggX6_changeFinding_X5_put : GoodIn wsX6_changeFinding wsX5_put := goodIn_r _ [29, 9, 10, 108, 109] (by decide +kernel) (by decide +kernel)
set_option maxRecDepth 20000 in
theorem gX6_changeFinding_X5_put : GoodIn wsX6_changeFinding (wsV RX6 219 RX5 yX5_put wsX5_put) := goodIn_app (goodIn_of _ (by decide +kernel)) ggX6_changeFinding_X5_put
set_option maxRecDepth 20000 in
theorem ggX6_changeFinding_X6_forgetWhatFollowed : GoodIn wsX6_changeFinding wsX6_forgetWhatFollowed := goodIn_r _ [33, 34, 35, 91, 92, 93, 94, 95, 96, 97, 98, 99, 100] (by decide +kernel) (by decide +kernel)
set_option maxRecDepth 20000 in
theorem gX6_changeFinding_X6_forgetWhatFollowed : GoodIn wsX6_changeFinding (wsV RX6 75 RX6 yX6_forgetWhatFollowed wsX6_forgetWhatFollowed) := goodIn_app (goodIn_of _ (by decide +kernel)) ggX6_changeFinding_X6_forgetWhatFollowed
set_option maxRecDepth 20000 in
theorem ggX6_changeFinding_X6_upToDate : GoodIn wsX6_changeFinding wsX6_upToDate := goodIn_r _ [39, 34, 40, 2, 41, 42, 43, 44, 45, 46, 47, 48, 49, 50, 51, 52, 53, 54, 55, 56, 57, 58, 59, 60, 11, 12, 13, 61, 62, 63, 64, 65, 66, 67, 68, 69, 70, 71, 72, 73, 74, 75, 76, 77, 78, 79, 80, 81, 82, 83, 84, 85, 86, 87, 88, 89, 90, 91, 92, 93, 94, 95, 96, 97, 98, 99, 100, 101, 102, 103, 104, 105, 106, 107, 108, 109, 113, 114, 115, 116, 117, 118] (by decide +kernel) (by decide +kernel)
set_option maxRecDepth 20000 in
theorem gX6_changeFinding_X6_upToDate : GoodIn wsX6_changeFinding (wsV RX6 107 RX6 yX6_upToDate wsX6_upToDate) := goodIn_app (goodIn_of _ (by decide +kernel)) ggX6_changeFinding_X6_upToDate
theorem dX6_changeFinding_0 : decode cX6_changeFinding 0 = .ok (.aload_n 0, 1) := by decide +kernel
theorem dX6_changeFinding_1 : decode cX6_changeFinding 1 = .ok (.getfield 28, 3) := by decide +kernel
theorem dX6_changeFinding_4 : decode cX6_changeFinding 4 = .ok (.iload_n 1, 1) := by decide +kernel
theorem dX6_changeFinding_5 : decode cX6_changeFinding 5 = .ok (.aload_n 0, 1) := by decide +kernel
theorem dX6_changeFinding_6 : decode cX6_changeFinding 6 = .ok (.getfield 21, 3) := by decide +kernel
theorem dX6_changeFinding_9 : decode cX6_changeFinding 9 = .ok (.iload_n 1, 1) := by decide +kernel
theorem dX6_changeFinding_10 : decode cX6_changeFinding 10 = .ok (.invokevirtual 114, 3) := by decide +kernel
theorem dX6_changeFinding_13 : decode cX6_changeFinding 13 = .ok (.invokevirtual 252, 3) := by decide +kernel
theorem dX6_changeFinding_16 : decode cX6_changeFinding 16 = .ok (.aload_n 0, 1) := by decide +kernel
theorem dX6_changeFinding_17 : decode cX6_changeFinding 17 = .ok (.getfield 21, 3) := by decide +kernel
theorem dX6_changeFinding_20 : decode cX6_changeFinding 20 = .ok (.iload_n 1, 1) := by decide +kernel
theorem dX6_changeFinding_21 : decode cX6_changeFinding 21 = .ok (.iload_n 2, 1) := by decide +kernel
theorem dX6_changeFinding_22 : decode cX6_changeFinding 22 = .ok (.invokevirtual 219, 3) := by decide +kernel
theorem dX6_changeFinding_25 : decode cX6_changeFinding 25 = .ok (.aload_n 0, 1) := by decide +kernel
theorem dX6_changeFinding_26 : decode cX6_changeFinding 26 = .ok (.invokevirtual 75, 3) := by decide +kernel
theorem dX6_changeFinding_29 : decode cX6_changeFinding 29 = .ok (.aload_n 0, 1) := by decide +kernel
theorem dX6_changeFinding_30 : decode cX6_changeFinding 30 = .ok (.invokevirtual 107, 3) := by decide +kernel
theorem dX6_changeFinding_33 : decode cX6_changeFinding 33 = .ok (.getfield 136, 3) := by decide +kernel
theorem dX6_changeFinding_36 : decode cX6_changeFinding 36 = .ok (.ireturn, 1) := by decide +kernel
set_option maxRecDepth 20000 in
theorem ggX6_bestToAsk_X5_stateOf : GoodIn wsX6_bestToAsk wsX5_stateOf := goodIn_r _ [7, 8, 9, 10, 11, 12, 78, 79] (by decide +kernel) (by decide +kernel)
set_option maxRecDepth 20000 in
theorem gX6_bestToAsk_X5_stateOf : GoodIn wsX6_bestToAsk (wsV RX6 114 RX5 yX5_stateOf wsX5_stateOf) := goodIn_app (goodIn_of _ (by decide +kernel)) ggX6_bestToAsk_X5_stateOf
set_option maxRecDepth 20000 in
theorem ggX6_bestToAsk_X3_weigh : GoodIn wsX6_bestToAsk wsX3_weigh := goodIn_r _ [17, 18, 19, 20, 21, 22, 23, 24, 25, 26, 27, 28, 29, 30, 31, 32, 33, 34, 35, 36, 37, 38, 39, 40, 41, 42, 43, 44, 80, 81, 82, 61, 62, 63, 64, 65, 66, 67, 83, 84, 85, 86, 87, 88] (by decide +kernel) (by decide +kernel)
set_option maxRecDepth 20000 in
theorem gX6_bestToAsk_X3_weigh : GoodIn wsX6_bestToAsk (wsV RX6 197 RX3 yX3_weigh wsX3_weigh) := goodIn_app (goodIn_of _ (by decide +kernel)) ggX6_bestToAsk_X3_weigh
set_option maxRecDepth 20000 in
theorem ggX6_bestToAsk_X3_worst : GoodIn wsX6_bestToAsk wsX3_worst := goodIn_r _ [48, 49, 50, 51, 52, 53, 54, 55, 16, 56, 18, 20, 57, 58, 59, 60, 19, 80, 81, 82] (by decide +kernel) (by decide +kernel)
set_option maxRecDepth 20000 in
theorem gX6_bestToAsk_X3_worst : GoodIn wsX6_bestToAsk (wsV RX6 208 RX3 yX3_worst wsX3_worst) := goodIn_app (goodIn_of _ (by decide +kernel)) ggX6_bestToAsk_X3_worst
theorem dX6_bestToAsk_0 : decode cX6_bestToAsk 0 = .ok (.aload_n 1, 1) := by decide +kernel
theorem dX6_bestToAsk_1 : decode cX6_bestToAsk 1 = .ok (.getfield 136, 3) := by decide +kernel
theorem dX6_bestToAsk_4 : decode cX6_bestToAsk 4 = .ok (.iconst 2, 1) := by decide +kernel
theorem dX6_bestToAsk_5 : decode cX6_bestToAsk 5 = .ok (.if_icmp .ge 6, 3) := by decide +kernel
theorem dX6_bestToAsk_8 : decode cX6_bestToAsk 8 = .ok (.bipush (-9), 2) := by decide +kernel
theorem dX6_bestToAsk_10 : decode cX6_bestToAsk 10 = .ok (.ireturn, 1) := by decide +kernel
theorem dX6_bestToAsk_11 : decode cX6_bestToAsk 11 = .ok (.bipush (-9), 2) := by decide +kernel
theorem dX6_bestToAsk_13 : decode cX6_bestToAsk 13 = .ok (.istore_n 3, 1) := by decide +kernel
theorem dX6_bestToAsk_14 : decode cX6_bestToAsk 14 = .ok (.lconst 0, 1) := by decide +kernel
theorem dX6_bestToAsk_15 : decode cX6_bestToAsk 15 = .ok (.lstore 4, 2) := by decide +kernel
theorem dX6_bestToAsk_17 : decode cX6_bestToAsk 17 = .ok (.iconst 0, 1) := by decide +kernel
theorem dX6_bestToAsk_18 : decode cX6_bestToAsk 18 = .ok (.istore 6, 2) := by decide +kernel
theorem dX6_bestToAsk_20 : decode cX6_bestToAsk 20 = .ok (.iload 6, 2) := by decide +kernel
theorem dX6_bestToAsk_22 : decode cX6_bestToAsk 22 = .ok (.bipush 12, 2) := by decide +kernel
theorem dX6_bestToAsk_24 : decode cX6_bestToAsk 24 = .ok (.if_icmp .ge 61, 3) := by decide +kernel
theorem dX6_bestToAsk_27 : decode cX6_bestToAsk 27 = .ok (.aload_n 2, 1) := by decide +kernel
theorem dX6_bestToAsk_28 : decode cX6_bestToAsk 28 = .ok (.iload 6, 2) := by decide +kernel
theorem dX6_bestToAsk_30 : decode cX6_bestToAsk 30 = .ok (.invokevirtual 114, 3) := by decide +kernel
theorem dX6_bestToAsk_33 : decode cX6_bestToAsk 33 = .ok (.ifCond .eq 6, 3) := by decide +kernel
theorem dX6_bestToAsk_36 : decode cX6_bestToAsk 36 = .ok (.goto 43, 3) := by decide +kernel
theorem dX6_bestToAsk_39 : decode cX6_bestToAsk 39 = .ok (.aload_n 0, 1) := by decide +kernel
theorem dX6_bestToAsk_40 : decode cX6_bestToAsk 40 = .ok (.getfield 50, 3) := by decide +kernel
theorem dX6_bestToAsk_43 : decode cX6_bestToAsk 43 = .ok (.aload_n 1, 1) := by decide +kernel
theorem dX6_bestToAsk_44 : decode cX6_bestToAsk 44 = .ok (.iload 6, 2) := by decide +kernel
theorem dX6_bestToAsk_46 : decode cX6_bestToAsk 46 = .ok (.invokevirtual 197, 3) := by decide +kernel
theorem dX6_bestToAsk_49 : decode cX6_bestToAsk 49 = .ok (.aload_n 0, 1) := by decide +kernel
theorem dX6_bestToAsk_50 : decode cX6_bestToAsk 50 = .ok (.getfield 50, 3) := by decide +kernel
theorem dX6_bestToAsk_53 : decode cX6_bestToAsk 53 = .ok (.invokevirtual 208, 3) := by decide +kernel
theorem dX6_bestToAsk_56 : decode cX6_bestToAsk 56 = .ok (.lstore 7, 2) := by decide +kernel
theorem dX6_bestToAsk_58 : decode cX6_bestToAsk 58 = .ok (.iload_n 3, 1) := by decide +kernel
theorem dX6_bestToAsk_59 : decode cX6_bestToAsk 59 = .ok (.bipush (-9), 2) := by decide +kernel
theorem dX6_bestToAsk_61 : decode cX6_bestToAsk 61 = .ok (.if_icmp .eq 11, 3) := by decide +kernel
theorem dX6_bestToAsk_64 : decode cX6_bestToAsk 64 = .ok (.lload 7, 2) := by decide +kernel
theorem dX6_bestToAsk_66 : decode cX6_bestToAsk 66 = .ok (.lload 4, 2) := by decide +kernel
theorem dX6_bestToAsk_68 : decode cX6_bestToAsk 68 = .ok (.lcmp, 1) := by decide +kernel
theorem dX6_bestToAsk_69 : decode cX6_bestToAsk 69 = .ok (.ifCond .ge 10, 3) := by decide +kernel
theorem dX6_bestToAsk_72 : decode cX6_bestToAsk 72 = .ok (.iload 6, 2) := by decide +kernel
theorem dX6_bestToAsk_74 : decode cX6_bestToAsk 74 = .ok (.istore_n 3, 1) := by decide +kernel
theorem dX6_bestToAsk_75 : decode cX6_bestToAsk 75 = .ok (.lload 7, 2) := by decide +kernel
theorem dX6_bestToAsk_77 : decode cX6_bestToAsk 77 = .ok (.lstore 4, 2) := by decide +kernel
theorem dX6_bestToAsk_79 : decode cX6_bestToAsk 79 = .ok (.iinc 6 1, 3) := by decide +kernel
theorem dX6_bestToAsk_82 : decode cX6_bestToAsk 82 = .ok (.goto (-62), 3) := by decide +kernel
theorem dX6_bestToAsk_85 : decode cX6_bestToAsk 85 = .ok (.iload_n 3, 1) := by decide +kernel
theorem dX6_bestToAsk_86 : decode cX6_bestToAsk 86 = .ok (.ireturn, 1) := by decide +kernel
set_option maxRecDepth 20000 in
theorem ggX6_makePlan_X5_copyFrom : GoodIn wsX6_makePlan wsX5_copyFrom := goodIn_r _ [13, 14, 15, 147, 148] (by decide +kernel) (by decide +kernel)
set_option maxRecDepth 20000 in
theorem gX6_makePlan_X5_copyFrom : GoodIn wsX6_makePlan (wsV RX6 216 RX5 yX5_copyFrom wsX5_copyFrom) := goodIn_app (goodIn_of _ (by decide +kernel)) ggX6_makePlan_X5_copyFrom
set_option maxRecDepth 20000 in
theorem ggX6_makePlan_X2_list : GoodIn wsX6_makePlan wsX2_list := goodIn_r _ [20, 21, 22, 23, 24, 25, 26, 27, 28, 29, 30, 31, 32, 33, 34, 35, 36, 37, 38, 39, 40, 19, 41, 42, 43, 44, 45, 46, 47, 48, 49, 50, 51, 52, 53, 54, 55, 56, 57, 58, 59, 140, 141, 142, 143, 144, 145, 146, 147, 148, 149, 150, 151, 152, 153, 154] (by decide +kernel) (by decide +kernel)
set_option maxRecDepth 20000 in
theorem gX6_makePlan_X2_list : GoodIn wsX6_makePlan (wsV RX6 223 RX2 yX2_list wsX2_list) := goodIn_app (goodIn_of _ (by decide +kernel)) ggX6_makePlan_X2_list
set_option maxRecDepth 20000 in
theorem ggX6_makePlan_X6_bestToAsk : GoodIn wsX6_makePlan wsX6_bestToAsk := goodIn_r _ [63, 8, 7, 64, 65, 66, 12, 67, 14, 15, 36, 37, 38, 68, 69, 70, 71, 72, 73, 74, 75, 76, 77, 78, 79, 19, 80, 48, 81, 82, 83, 84, 25, 85, 86, 87, 88, 89, 90, 91, 92, 33, 93, 35, 94, 95, 96, 97, 98, 99, 100, 101, 102, 103, 104, 105, 106, 107, 108, 109, 110, 140, 141, 142, 143, 144, 145, 146, 126, 127, 128, 129, 130, 131, 132, 133, 134, 135, 147, 148, 155, 156, 157, 149, 150, 151, 152, 153, 154] (by decide +kernel) (by decide +kernel)
set_option maxRecDepth 20000 in
theorem gX6_makePlan_X6_bestToAsk : GoodIn wsX6_makePlan (wsV RX6 212 RX6 yX6_bestToAsk wsX6_bestToAsk) := goodIn_app (goodIn_of _ (by decide +kernel)) ggX6_makePlan_X6_bestToAsk
set_option maxRecDepth 20000 in
theorem ggX6_makePlan_X3_weigh : GoodIn wsX6_makePlan wsX3_weigh := goodIn_r _ [72, 73, 74, 75, 76, 77, 78, 79, 19, 80, 48, 81, 82, 83, 84, 25, 85, 86, 87, 88, 89, 90, 91, 92, 33, 93, 35, 94, 155, 156, 157, 140, 141, 142, 143, 144, 145, 146, 149, 150, 151, 152, 153, 154] (by decide +kernel) (by decide +kernel)
set_option maxRecDepth 20000 in
theorem gX6_makePlan_X3_weigh : GoodIn wsX6_makePlan (wsV RX6 197 RX3 yX3_weigh wsX3_weigh) := goodIn_app (goodIn_of _ (by decide +kernel)) ggX6_makePlan_X3_weigh
set_option maxRecDepth 20000 in
theorem ggX6_makePlan_X3_leftIfThere : GoodIn wsX6_makePlan wsX3_leftIfThere := goodIn_r _ [106, 73, 75, 155, 156, 157] (by decide +kernel) (by decide +kernel)
set_option maxRecDepth 20000 in
theorem gX6_makePlan_X3_leftIfThere : GoodIn wsX6_makePlan (wsV RX6 255 RX3 yX3_leftIfThere wsX3_leftIfThere) := goodIn_app (goodIn_of _ (by decide +kernel)) ggX6_makePlan_X3_leftIfThere
set_option maxRecDepth 20000 in
theorem ggX6_makePlan_X3_leftIfAbsent : GoodIn wsX6_makePlan wsX3_leftIfAbsent := goodIn_r _ [110, 74, 75, 155, 156, 157] (by decide +kernel) (by decide +kernel)
set_option maxRecDepth 20000 in
theorem gX6_makePlan_X3_leftIfAbsent : GoodIn wsX6_makePlan (wsV RX6 258 RX3 yX3_leftIfAbsent wsX3_leftIfAbsent) := goodIn_app (goodIn_of _ (by decide +kernel)) ggX6_makePlan_X3_leftIfAbsent
set_option maxRecDepth 20000 in
theorem ggX6_makePlan_X5_put : GoodIn wsX6_makePlan wsX5_put := goodIn_r _ [116, 14, 15, 147, 148] (by decide +kernel) (by decide +kernel)
set_option maxRecDepth 20000 in
theorem gX6_makePlan_X5_put : GoodIn wsX6_makePlan (wsV RX6 219 RX5 yX5_put wsX5_put) := goodIn_app (goodIn_of _ (by decide +kernel)) ggX6_makePlan_X5_put
set_option maxRecDepth 20000 in
theorem ggX6_makePlan_X4_add : GoodIn wsX6_makePlan wsX4_add := goodIn_r _ [121, 122, 123, 124, 125, 136, 137, 138, 139] (by decide +kernel) (by decide +kernel)
set_option maxRecDepth 20000 in
theorem gX6_makePlan_X4_add : GoodIn wsX6_makePlan (wsV RX6 261 RX4 yX4_add wsX4_add) := goodIn_app (goodIn_of _ (by decide +kernel)) ggX6_makePlan_X4_add
theorem dX6_makePlan_0 : decode cX6_makePlan 0 = .ok (.aload_n 0, 1) := by decide +kernel
theorem dX6_makePlan_1 : decode cX6_makePlan 1 = .ok (.getfield 246, 3) := by decide +kernel
theorem dX6_makePlan_4 : decode cX6_makePlan 4 = .ok (.ifCond .eq 4, 3) := by decide +kernel
theorem dX6_makePlan_7 : decode cX6_makePlan 7 = .ok (.return_, 1) := by decide +kernel
theorem dX6_makePlan_8 : decode cX6_makePlan 8 = .ok (.aload_n 0, 1) := by decide +kernel
theorem dX6_makePlan_9 : decode cX6_makePlan 9 = .ok (.getfield 57, 3) := by decide +kernel
theorem dX6_makePlan_12 : decode cX6_makePlan 12 = .ok (.iconst 0, 1) := by decide +kernel
theorem dX6_makePlan_13 : decode cX6_makePlan 13 = .ok (.putfield 229, 3) := by decide +kernel
theorem dX6_makePlan_16 : decode cX6_makePlan 16 = .ok (.aload_n 0, 1) := by decide +kernel
theorem dX6_makePlan_17 : decode cX6_makePlan 17 = .ok (.getfield 41, 3) := by decide +kernel
theorem dX6_makePlan_20 : decode cX6_makePlan 20 = .ok (.aload_n 0, 1) := by decide +kernel
theorem dX6_makePlan_21 : decode cX6_makePlan 21 = .ok (.getfield 21, 3) := by decide +kernel
theorem dX6_makePlan_24 : decode cX6_makePlan 24 = .ok (.invokevirtual 216, 3) := by decide +kernel
theorem dX6_makePlan_27 : decode cX6_makePlan 27 = .ok (.aload_n 0, 1) := by decide +kernel
theorem dX6_makePlan_28 : decode cX6_makePlan 28 = .ok (.getfield 44, 3) := by decide +kernel
theorem dX6_makePlan_31 : decode cX6_makePlan 31 = .ok (.aload_n 0, 1) := by decide +kernel
theorem dX6_makePlan_32 : decode cX6_makePlan 32 = .ok (.getfield 41, 3) := by decide +kernel
theorem dX6_makePlan_35 : decode cX6_makePlan 35 = .ok (.invokevirtual 223, 3) := by decide +kernel
theorem dX6_makePlan_38 : decode cX6_makePlan 38 = .ok (.iconst 0, 1) := by decide +kernel
theorem dX6_makePlan_39 : decode cX6_makePlan 39 = .ok (.istore_n 1, 1) := by decide +kernel
theorem dX6_makePlan_40 : decode cX6_makePlan 40 = .ok (.iload_n 1, 1) := by decide +kernel
theorem dX6_makePlan_41 : decode cX6_makePlan 41 = .ok (.bipush 12, 2) := by decide +kernel
theorem dX6_makePlan_43 : decode cX6_makePlan 43 = .ok (.if_icmp .ge 103, 3) := by decide +kernel
theorem dX6_makePlan_46 : decode cX6_makePlan 46 = .ok (.aload_n 0, 1) := by decide +kernel
theorem dX6_makePlan_47 : decode cX6_makePlan 47 = .ok (.aload_n 0, 1) := by decide +kernel
theorem dX6_makePlan_48 : decode cX6_makePlan 48 = .ok (.getfield 44, 3) := by decide +kernel
theorem dX6_makePlan_51 : decode cX6_makePlan 51 = .ok (.aload_n 0, 1) := by decide +kernel
theorem dX6_makePlan_52 : decode cX6_makePlan 52 = .ok (.getfield 41, 3) := by decide +kernel
theorem dX6_makePlan_55 : decode cX6_makePlan 55 = .ok (.invokevirtual 212, 3) := by decide +kernel
theorem dX6_makePlan_58 : decode cX6_makePlan 58 = .ok (.istore_n 2, 1) := by decide +kernel
theorem dX6_makePlan_59 : decode cX6_makePlan 59 = .ok (.iload_n 2, 1) := by decide +kernel
theorem dX6_makePlan_60 : decode cX6_makePlan 60 = .ok (.bipush (-9), 2) := by decide +kernel
theorem dX6_makePlan_62 : decode cX6_makePlan 62 = .ok (.if_icmp .ne 6, 3) := by decide +kernel
theorem dX6_makePlan_65 : decode cX6_makePlan 65 = .ok (.goto 81, 3) := by decide +kernel
theorem dX6_makePlan_68 : decode cX6_makePlan 68 = .ok (.aload_n 0, 1) := by decide +kernel
theorem dX6_makePlan_69 : decode cX6_makePlan 69 = .ok (.getfield 50, 3) := by decide +kernel
theorem dX6_makePlan_72 : decode cX6_makePlan 72 = .ok (.aload_n 0, 1) := by decide +kernel
theorem dX6_makePlan_73 : decode cX6_makePlan 73 = .ok (.getfield 44, 3) := by decide +kernel
theorem dX6_makePlan_76 : decode cX6_makePlan 76 = .ok (.iload_n 2, 1) := by decide +kernel
theorem dX6_makePlan_77 : decode cX6_makePlan 77 = .ok (.invokevirtual 197, 3) := by decide +kernel
theorem dX6_makePlan_80 : decode cX6_makePlan 80 = .ok (.aload_n 0, 1) := by decide +kernel
theorem dX6_makePlan_81 : decode cX6_makePlan 81 = .ok (.getfield 50, 3) := by decide +kernel
theorem dX6_makePlan_84 : decode cX6_makePlan 84 = .ok (.invokevirtual 255, 3) := by decide +kernel
theorem dX6_makePlan_87 : decode cX6_makePlan 87 = .ok (.aload_n 0, 1) := by decide +kernel
theorem dX6_makePlan_88 : decode cX6_makePlan 88 = .ok (.getfield 50, 3) := by decide +kernel
theorem dX6_makePlan_91 : decode cX6_makePlan 91 = .ok (.invokevirtual 258, 3) := by decide +kernel
theorem dX6_makePlan_94 : decode cX6_makePlan 94 = .ok (.lcmp, 1) := by decide +kernel
theorem dX6_makePlan_95 : decode cX6_makePlan 95 = .ok (.ifCond .lt 7, 3) := by decide +kernel
theorem dX6_makePlan_98 : decode cX6_makePlan 98 = .ok (.iconst 1, 1) := by decide +kernel
theorem dX6_makePlan_99 : decode cX6_makePlan 99 = .ok (.goto 4, 3) := by decide +kernel
theorem dX6_makePlan_102 : decode cX6_makePlan 102 = .ok (.iconst 2, 1) := by decide +kernel
theorem dX6_makePlan_103 : decode cX6_makePlan 103 = .ok (.istore_n 3, 1) := by decide +kernel
theorem dX6_makePlan_104 : decode cX6_makePlan 104 = .ok (.aload_n 0, 1) := by decide +kernel
theorem dX6_makePlan_105 : decode cX6_makePlan 105 = .ok (.getfield 41, 3) := by decide +kernel
theorem dX6_makePlan_108 : decode cX6_makePlan 108 = .ok (.iload_n 2, 1) := by decide +kernel
theorem dX6_makePlan_109 : decode cX6_makePlan 109 = .ok (.iload_n 3, 1) := by decide +kernel
theorem dX6_makePlan_110 : decode cX6_makePlan 110 = .ok (.invokevirtual 219, 3) := by decide +kernel
theorem dX6_makePlan_113 : decode cX6_makePlan 113 = .ok (.aload_n 0, 1) := by decide +kernel
theorem dX6_makePlan_114 : decode cX6_makePlan 114 = .ok (.getfield 44, 3) := by decide +kernel
theorem dX6_makePlan_117 : decode cX6_makePlan 117 = .ok (.aload_n 0, 1) := by decide +kernel
theorem dX6_makePlan_118 : decode cX6_makePlan 118 = .ok (.getfield 41, 3) := by decide +kernel
theorem dX6_makePlan_121 : decode cX6_makePlan 121 = .ok (.invokevirtual 223, 3) := by decide +kernel
theorem dX6_makePlan_124 : decode cX6_makePlan 124 = .ok (.aload_n 0, 1) := by decide +kernel
theorem dX6_makePlan_125 : decode cX6_makePlan 125 = .ok (.getfield 57, 3) := by decide +kernel
theorem dX6_makePlan_128 : decode cX6_makePlan 128 = .ok (.iload_n 2, 1) := by decide +kernel
theorem dX6_makePlan_129 : decode cX6_makePlan 129 = .ok (.iload_n 3, 1) := by decide +kernel
theorem dX6_makePlan_130 : decode cX6_makePlan 130 = .ok (.aload_n 0, 1) := by decide +kernel
theorem dX6_makePlan_131 : decode cX6_makePlan 131 = .ok (.getfield 44, 3) := by decide +kernel
theorem dX6_makePlan_134 : decode cX6_makePlan 134 = .ok (.getfield 136, 3) := by decide +kernel
theorem dX6_makePlan_137 : decode cX6_makePlan 137 = .ok (.invokevirtual 261, 3) := by decide +kernel
theorem dX6_makePlan_140 : decode cX6_makePlan 140 = .ok (.iinc 1 1, 3) := by decide +kernel
theorem dX6_makePlan_143 : decode cX6_makePlan 143 = .ok (.goto (-103), 3) := by decide +kernel
theorem dX6_makePlan_146 : decode cX6_makePlan 146 = .ok (.aload_n 0, 1) := by decide +kernel
theorem dX6_makePlan_147 : decode cX6_makePlan 147 = .ok (.iconst 1, 1) := by decide +kernel
theorem dX6_makePlan_148 : decode cX6_makePlan 148 = .ok (.putfield 246, 3) := by decide +kernel
theorem dX6_makePlan_151 : decode cX6_makePlan 151 = .ok (.return_, 1) := by decide +kernel
set_option maxRecDepth 20000 in
theorem ggX6_inLeastTerms_X6_greatestDivisor : GoodIn wsX6_inLeastTerms wsX6_greatestDivisor := goodIn_r _ [4] (by decide +kernel) (by decide +kernel)
set_option maxRecDepth 20000 in
theorem gX6_inLeastTerms_X6_greatestDivisor : GoodIn wsX6_inLeastTerms (va_wsS RX6 264 yX6_greatestDivisor wsX6_greatestDivisor) := goodIn_app (goodIn_of _ (by decide +kernel)) ggX6_inLeastTerms_X6_greatestDivisor
theorem dX6_inLeastTerms_0 : decode cX6_inLeastTerms 0 = .ok (.iload 4, 2) := by decide +kernel
theorem dX6_inLeastTerms_2 : decode cX6_inLeastTerms 2 = .ok (.ifCond .ne 7, 3) := by decide +kernel
theorem dX6_inLeastTerms_5 : decode cX6_inLeastTerms 5 = .ok (.lload_n 0, 1) := by decide +kernel
theorem dX6_inLeastTerms_6 : decode cX6_inLeastTerms 6 = .ok (.goto 4, 3) := by decide +kernel
theorem dX6_inLeastTerms_9 : decode cX6_inLeastTerms 9 = .ok (.lload_n 2, 1) := by decide +kernel
theorem dX6_inLeastTerms_10 : decode cX6_inLeastTerms 10 = .ok (.lstore 5, 2) := by decide +kernel
theorem dX6_inLeastTerms_12 : decode cX6_inLeastTerms 12 = .ok (.lload_n 0, 1) := by decide +kernel
theorem dX6_inLeastTerms_13 : decode cX6_inLeastTerms 13 = .ok (.lload_n 2, 1) := by decide +kernel
theorem dX6_inLeastTerms_14 : decode cX6_inLeastTerms 14 = .ok (.invokestatic 264, 3) := by decide +kernel
theorem dX6_inLeastTerms_17 : decode cX6_inLeastTerms 17 = .ok (.lstore 7, 2) := by decide +kernel
theorem dX6_inLeastTerms_19 : decode cX6_inLeastTerms 19 = .ok (.lload 7, 2) := by decide +kernel
theorem dX6_inLeastTerms_21 : decode cX6_inLeastTerms 21 = .ok (.lconst 0, 1) := by decide +kernel
theorem dX6_inLeastTerms_22 : decode cX6_inLeastTerms 22 = .ok (.lcmp, 1) := by decide +kernel
theorem dX6_inLeastTerms_23 : decode cX6_inLeastTerms 23 = .ok (.ifCond .le 11, 3) := by decide +kernel
theorem dX6_inLeastTerms_26 : decode cX6_inLeastTerms 26 = .ok (.lload 5, 2) := by decide +kernel
theorem dX6_inLeastTerms_28 : decode cX6_inLeastTerms 28 = .ok (.lload 7, 2) := by decide +kernel
theorem dX6_inLeastTerms_30 : decode cX6_inLeastTerms 30 = .ok (.ldiv, 1) := by decide +kernel
theorem dX6_inLeastTerms_31 : decode cX6_inLeastTerms 31 = .ok (.goto 5, 3) := by decide +kernel
theorem dX6_inLeastTerms_34 : decode cX6_inLeastTerms 34 = .ok (.lload 5, 2) := by decide +kernel
theorem dX6_inLeastTerms_36 : decode cX6_inLeastTerms 36 = .ok (.lreturn, 1) := by decide +kernel
theorem dX6_greatestDivisor_0 : decode cX6_greatestDivisor 0 = .ok (.lload_n 0, 1) := by decide +kernel
theorem dX6_greatestDivisor_1 : decode cX6_greatestDivisor 1 = .ok (.lstore 4, 2) := by decide +kernel
theorem dX6_greatestDivisor_3 : decode cX6_greatestDivisor 3 = .ok (.lload_n 2, 1) := by decide +kernel
theorem dX6_greatestDivisor_4 : decode cX6_greatestDivisor 4 = .ok (.lstore 6, 2) := by decide +kernel
theorem dX6_greatestDivisor_6 : decode cX6_greatestDivisor 6 = .ok (.iconst 0, 1) := by decide +kernel
theorem dX6_greatestDivisor_7 : decode cX6_greatestDivisor 7 = .ok (.istore 8, 2) := by decide +kernel
theorem dX6_greatestDivisor_9 : decode cX6_greatestDivisor 9 = .ok (.iload 8, 2) := by decide +kernel
theorem dX6_greatestDivisor_11 : decode cX6_greatestDivisor 11 = .ok (.sipush 128, 3) := by decide +kernel
theorem dX6_greatestDivisor_14 : decode cX6_greatestDivisor 14 = .ok (.if_icmp .ge 31, 3) := by decide +kernel
theorem dX6_greatestDivisor_17 : decode cX6_greatestDivisor 17 = .ok (.lload 6, 2) := by decide +kernel
theorem dX6_greatestDivisor_19 : decode cX6_greatestDivisor 19 = .ok (.lconst 0, 1) := by decide +kernel
theorem dX6_greatestDivisor_20 : decode cX6_greatestDivisor 20 = .ok (.lcmp, 1) := by decide +kernel
theorem dX6_greatestDivisor_21 : decode cX6_greatestDivisor 21 = .ok (.ifCond .eq 24, 3) := by decide +kernel
theorem dX6_greatestDivisor_24 : decode cX6_greatestDivisor 24 = .ok (.lload 4, 2) := by decide +kernel
theorem dX6_greatestDivisor_26 : decode cX6_greatestDivisor 26 = .ok (.lload 6, 2) := by decide +kernel
theorem dX6_greatestDivisor_28 : decode cX6_greatestDivisor 28 = .ok (.lrem, 1) := by decide +kernel
theorem dX6_greatestDivisor_29 : decode cX6_greatestDivisor 29 = .ok (.lstore 9, 2) := by decide +kernel
theorem dX6_greatestDivisor_31 : decode cX6_greatestDivisor 31 = .ok (.lload 6, 2) := by decide +kernel
theorem dX6_greatestDivisor_33 : decode cX6_greatestDivisor 33 = .ok (.lstore 4, 2) := by decide +kernel
theorem dX6_greatestDivisor_35 : decode cX6_greatestDivisor 35 = .ok (.lload 9, 2) := by decide +kernel
theorem dX6_greatestDivisor_37 : decode cX6_greatestDivisor 37 = .ok (.lstore 6, 2) := by decide +kernel
theorem dX6_greatestDivisor_39 : decode cX6_greatestDivisor 39 = .ok (.iinc 8 1, 3) := by decide +kernel
theorem dX6_greatestDivisor_42 : decode cX6_greatestDivisor 42 = .ok (.goto (-33), 3) := by decide +kernel
theorem dX6_greatestDivisor_45 : decode cX6_greatestDivisor 45 = .ok (.lload 4, 2) := by decide +kernel
theorem dX6_greatestDivisor_47 : decode cX6_greatestDivisor 47 = .ok (.lreturn, 1) := by decide +kernel
theorem dX7_init_0 : decode cX7_init 0 = .ok (.aload_n 0, 1) := by decide +kernel
theorem dX7_init_1 : decode cX7_init 1 = .ok (.invokespecial 1, 3) := by decide +kernel
theorem dX7_init_4 : decode cX7_init 4 = .ok (.aload_n 0, 1) := by decide +kernel
theorem dX7_init_5 : decode cX7_init 5 = .ok (.bipush 10, 2) := by decide +kernel
theorem dX7_init_7 : decode cX7_init 7 = .ok (.newarray .int, 2) := by decide +kernel
theorem dX7_init_9 : decode cX7_init 9 = .ok (.putfield 7, 3) := by decide +kernel
theorem dX7_init_12 : decode cX7_init 12 = .ok (.aload_n 0, 1) := by decide +kernel
theorem dX7_init_13 : decode cX7_init 13 = .ok (.bipush 10, 2) := by decide +kernel
theorem dX7_init_15 : decode cX7_init 15 = .ok (.newarray .int, 2) := by decide +kernel
theorem dX7_init_17 : decode cX7_init 17 = .ok (.putfield 13, 3) := by decide +kernel
theorem dX7_init_20 : decode cX7_init 20 = .ok (.aload_n 0, 1) := by decide +kernel
theorem dX7_init_21 : decode cX7_init 21 = .ok (.bipush 120, 2) := by decide +kernel
theorem dX7_init_23 : decode cX7_init 23 = .ok (.newarray .int, 2) := by decide +kernel
theorem dX7_init_25 : decode cX7_init 25 = .ok (.putfield 16, 3) := by decide +kernel
theorem dX7_init_28 : decode cX7_init 28 = .ok (.aload_n 0, 1) := by decide +kernel
theorem dX7_init_29 : decode cX7_init 29 = .ok (.bipush 12, 2) := by decide +kernel
theorem dX7_init_31 : decode cX7_init 31 = .ok (.newarray .int, 2) := by decide +kernel
theorem dX7_init_33 : decode cX7_init 33 = .ok (.putfield 19, 3) := by decide +kernel
theorem dX7_init_36 : decode cX7_init 36 = .ok (.aload_n 0, 1) := by decide +kernel
theorem dX7_init_37 : decode cX7_init 37 = .ok (.bipush 20, 2) := by decide +kernel
theorem dX7_init_39 : decode cX7_init 39 = .ok (.newarray .int, 2) := by decide +kernel
theorem dX7_init_41 : decode cX7_init 41 = .ok (.putfield 22, 3) := by decide +kernel
theorem dX7_init_44 : decode cX7_init 44 = .ok (.aload_n 0, 1) := by decide +kernel
theorem dX7_init_45 : decode cX7_init 45 = .ok (.bipush 20, 2) := by decide +kernel
theorem dX7_init_47 : decode cX7_init 47 = .ok (.newarray .int, 2) := by decide +kernel
theorem dX7_init_49 : decode cX7_init 49 = .ok (.putfield 25, 3) := by decide +kernel
theorem dX7_init_52 : decode cX7_init 52 = .ok (.aload_n 0, 1) := by decide +kernel
theorem dX7_init_53 : decode cX7_init 53 = .ok (.sipush 1024, 3) := by decide +kernel
theorem dX7_init_56 : decode cX7_init 56 = .ok (.newarray .int, 2) := by decide +kernel
theorem dX7_init_58 : decode cX7_init 58 = .ok (.putfield 28, 3) := by decide +kernel
theorem dX7_init_61 : decode cX7_init 61 = .ok (.aload_n 0, 1) := by decide +kernel
theorem dX7_init_62 : decode cX7_init 62 = .ok (.sipush 1024, 3) := by decide +kernel
theorem dX7_init_65 : decode cX7_init 65 = .ok (.newarray .long, 2) := by decide +kernel
theorem dX7_init_67 : decode cX7_init 67 = .ok (.putfield 31, 3) := by decide +kernel
theorem dX7_init_70 : decode cX7_init 70 = .ok (.aload_n 0, 1) := by decide +kernel
theorem dX7_init_71 : decode cX7_init 71 = .ok (.sipush 1024, 3) := by decide +kernel
theorem dX7_init_74 : decode cX7_init 74 = .ok (.newarray .boolean, 2) := by decide +kernel
theorem dX7_init_76 : decode cX7_init 76 = .ok (.putfield 35, 3) := by decide +kernel
theorem dX7_init_79 : decode cX7_init 79 = .ok (.aload_n 0, 1) := by decide +kernel
theorem dX7_init_80 : decode cX7_init 80 = .ok (.bipush 12, 2) := by decide +kernel
theorem dX7_init_82 : decode cX7_init 82 = .ok (.newarray .int, 2) := by decide +kernel
theorem dX7_init_84 : decode cX7_init 84 = .ok (.putfield 39, 3) := by decide +kernel
theorem dX7_init_87 : decode cX7_init 87 = .ok (.aload_n 0, 1) := by decide +kernel
theorem dX7_init_88 : decode cX7_init 88 = .ok (.bipush 12, 2) := by decide +kernel
theorem dX7_init_90 : decode cX7_init 90 = .ok (.newarray .int, 2) := by decide +kernel
theorem dX7_init_92 : decode cX7_init 92 = .ok (.putfield 42, 3) := by decide +kernel
theorem dX7_init_95 : decode cX7_init 95 = .ok (.aload_n 0, 1) := by decide +kernel
theorem dX7_init_96 : decode cX7_init 96 = .ok (.bipush 12, 2) := by decide +kernel
theorem dX7_init_98 : decode cX7_init 98 = .ok (.newarray .int, 2) := by decide +kernel
theorem dX7_init_100 : decode cX7_init 100 = .ok (.putfield 45, 3) := by decide +kernel
theorem dX7_init_103 : decode cX7_init 103 = .ok (.aload_n 0, 1) := by decide +kernel
theorem dX7_init_104 : decode cX7_init 104 = .ok (.bipush 12, 2) := by decide +kernel
theorem dX7_init_106 : decode cX7_init 106 = .ok (.newarray .int, 2) := by decide +kernel
theorem dX7_init_108 : decode cX7_init 108 = .ok (.putfield 48, 3) := by decide +kernel
theorem dX7_init_111 : decode cX7_init 111 = .ok (.iconst 0, 1) := by decide +kernel
theorem dX7_init_112 : decode cX7_init 112 = .ok (.istore_n 1, 1) := by decide +kernel
theorem dX7_init_113 : decode cX7_init 113 = .ok (.iload_n 1, 1) := by decide +kernel
theorem dX7_init_114 : decode cX7_init 114 = .ok (.bipush 10, 2) := by decide +kernel
theorem dX7_init_116 : decode cX7_init 116 = .ok (.if_icmp .ge 23, 3) := by decide +kernel
theorem dX7_init_119 : decode cX7_init 119 = .ok (.aload_n 0, 1) := by decide +kernel
theorem dX7_init_120 : decode cX7_init 120 = .ok (.getfield 7, 3) := by decide +kernel
theorem dX7_init_123 : decode cX7_init 123 = .ok (.iload_n 1, 1) := by decide +kernel
theorem dX7_init_124 : decode cX7_init 124 = .ok (.iconst 1, 1) := by decide +kernel
theorem dX7_init_125 : decode cX7_init 125 = .ok (.iastore, 1) := by decide +kernel
theorem dX7_init_126 : decode cX7_init 126 = .ok (.aload_n 0, 1) := by decide +kernel
theorem dX7_init_127 : decode cX7_init 127 = .ok (.getfield 13, 3) := by decide +kernel
theorem dX7_init_130 : decode cX7_init 130 = .ok (.iload_n 1, 1) := by decide +kernel
theorem dX7_init_131 : decode cX7_init 131 = .ok (.iconst 1, 1) := by decide +kernel
theorem dX7_init_132 : decode cX7_init 132 = .ok (.iastore, 1) := by decide +kernel
theorem dX7_init_133 : decode cX7_init 133 = .ok (.iinc 1 1, 3) := by decide +kernel
theorem dX7_init_136 : decode cX7_init 136 = .ok (.goto (-23), 3) := by decide +kernel
theorem dX7_init_139 : decode cX7_init 139 = .ok (.return_, 1) := by decide +kernel
theorem dX7_within_0 : decode cX7_within 0 = .ok (.iload_n 0, 1) := by decide +kernel
theorem dX7_within_1 : decode cX7_within 1 = .ok (.iload_n 1, 1) := by decide +kernel
theorem dX7_within_2 : decode cX7_within 2 = .ok (.if_icmp .lt 12, 3) := by decide +kernel
theorem dX7_within_5 : decode cX7_within 5 = .ok (.iload_n 0, 1) := by decide +kernel
theorem dX7_within_6 : decode cX7_within 6 = .ok (.iload_n 2, 1) := by decide +kernel
theorem dX7_within_7 : decode cX7_within 7 = .ok (.if_icmp .gt 7, 3) := by decide +kernel
theorem dX7_within_10 : decode cX7_within 10 = .ok (.iconst 1, 1) := by decide +kernel
theorem dX7_within_11 : decode cX7_within 11 = .ok (.goto 4, 3) := by decide +kernel
theorem dX7_within_14 : decode cX7_within 14 = .ok (.iconst 0, 1) := by decide +kernel
theorem dX7_within_15 : decode cX7_within 15 = .ok (.ireturn, 1) := by decide +kernel
set_option maxRecDepth 20000 in
theorem ggX7_isCause_X7_within : GoodIn wsX7_isCause wsX7_within := goodIn_r _ [4] (by decide +kernel) (by decide +kernel)
set_option maxRecDepth 20000 in
theorem gX7_isCause_X7_within : GoodIn wsX7_isCause (va_wsS RX7 51 yX7_within wsX7_within) := goodIn_app (goodIn_of _ (by decide +kernel)) ggX7_isCause_X7_within
theorem dX7_isCause_0 : decode cX7_isCause 0 = .ok (.iload_n 0, 1) := by decide +kernel
theorem dX7_isCause_1 : decode cX7_isCause 1 = .ok (.iconst 0, 1) := by decide +kernel
theorem dX7_isCause_2 : decode cX7_isCause 2 = .ok (.bipush 9, 2) := by decide +kernel
theorem dX7_isCause_4 : decode cX7_isCause 4 = .ok (.invokestatic 51, 3) := by decide +kernel
theorem dX7_isCause_7 : decode cX7_isCause 7 = .ok (.ireturn, 1) := by decide +kernel
set_option maxRecDepth 20000 in
theorem ggX7_isFinding_X7_within : GoodIn wsX7_isFinding wsX7_within := goodIn_r _ [4] (by decide +kernel) (by decide +kernel)
set_option maxRecDepth 20000 in
theorem gX7_isFinding_X7_within : GoodIn wsX7_isFinding (va_wsS RX7 51 yX7_within wsX7_within) := goodIn_app (goodIn_of _ (by decide +kernel)) ggX7_isFinding_X7_within
theorem dX7_isFinding_0 : decode cX7_isFinding 0 = .ok (.iload_n 0, 1) := by decide +kernel
theorem dX7_isFinding_1 : decode cX7_isFinding 1 = .ok (.iconst 0, 1) := by decide +kernel
theorem dX7_isFinding_2 : decode cX7_isFinding 2 = .ok (.bipush 11, 2) := by decide +kernel
theorem dX7_isFinding_4 : decode cX7_isFinding 4 = .ok (.invokestatic 51, 3) := by decide +kernel
theorem dX7_isFinding_7 : decode cX7_isFinding 7 = .ok (.ireturn, 1) := by decide +kernel
theorem dX7_isIn_0 : decode cX7_isIn 0 = .ok (.iload_n 0, 1) := by decide +kernel
theorem dX7_isIn_1 : decode cX7_isIn 1 = .ok (.iload_n 1, 1) := by decide +kernel
theorem dX7_isIn_2 : decode cX7_isIn 2 = .ok (.ishr, 1) := by decide +kernel
theorem dX7_isIn_3 : decode cX7_isIn 3 = .ok (.iconst 1, 1) := by decide +kernel
theorem dX7_isIn_4 : decode cX7_isIn 4 = .ok (.iand, 1) := by decide +kernel
theorem dX7_isIn_5 : decode cX7_isIn 5 = .ok (.iconst 1, 1) := by decide +kernel
theorem dX7_isIn_6 : decode cX7_isIn 6 = .ok (.if_icmp .ne 7, 3) := by decide +kernel
theorem dX7_isIn_9 : decode cX7_isIn 9 = .ok (.iconst 1, 1) := by decide +kernel
theorem dX7_isIn_10 : decode cX7_isIn 10 = .ok (.goto 4, 3) := by decide +kernel
theorem dX7_isIn_13 : decode cX7_isIn 13 = .ok (.iconst 0, 1) := by decide +kernel
theorem dX7_isIn_14 : decode cX7_isIn 14 = .ok (.ireturn, 1) := by decide +kernel
theorem dX7_size_0 : decode cX7_size 0 = .ok (.iconst 0, 1) := by decide +kernel
theorem dX7_size_1 : decode cX7_size 1 = .ok (.istore_n 1, 1) := by decide +kernel
theorem dX7_size_2 : decode cX7_size 2 = .ok (.iconst 0, 1) := by decide +kernel
theorem dX7_size_3 : decode cX7_size 3 = .ok (.istore_n 2, 1) := by decide +kernel
theorem dX7_size_4 : decode cX7_size 4 = .ok (.iload_n 2, 1) := by decide +kernel
theorem dX7_size_5 : decode cX7_size 5 = .ok (.bipush 12, 2) := by decide +kernel
theorem dX7_size_7 : decode cX7_size 7 = .ok (.if_icmp .ge 17, 3) := by decide +kernel
theorem dX7_size_10 : decode cX7_size 10 = .ok (.iload_n 1, 1) := by decide +kernel
theorem dX7_size_11 : decode cX7_size 11 = .ok (.iload_n 0, 1) := by decide +kernel
theorem dX7_size_12 : decode cX7_size 12 = .ok (.iload_n 2, 1) := by decide +kernel
theorem dX7_size_13 : decode cX7_size 13 = .ok (.ishr, 1) := by decide +kernel
theorem dX7_size_14 : decode cX7_size 14 = .ok (.iconst 1, 1) := by decide +kernel
theorem dX7_size_15 : decode cX7_size 15 = .ok (.iand, 1) := by decide +kernel
theorem dX7_size_16 : decode cX7_size 16 = .ok (.iadd, 1) := by decide +kernel
theorem dX7_size_17 : decode cX7_size 17 = .ok (.istore_n 1, 1) := by decide +kernel
theorem dX7_size_18 : decode cX7_size 18 = .ok (.iinc 2 1, 3) := by decide +kernel
theorem dX7_size_21 : decode cX7_size 21 = .ok (.goto (-17), 3) := by decide +kernel
theorem dX7_size_24 : decode cX7_size 24 = .ok (.iload_n 1, 1) := by decide +kernel
theorem dX7_size_25 : decode cX7_size 25 = .ok (.ireturn, 1) := by decide +kernel
theorem dX7_linkAt_0 : decode cX7_linkAt 0 = .ok (.aload_n 0, 1) := by decide +kernel
theorem dX7_linkAt_1 : decode cX7_linkAt 1 = .ok (.getfield 16, 3) := by decide +kernel
theorem dX7_linkAt_4 : decode cX7_linkAt 4 = .ok (.bipush 10, 2) := by decide +kernel
theorem dX7_linkAt_6 : decode cX7_linkAt 6 = .ok (.iload_n 1, 1) := by decide +kernel
theorem dX7_linkAt_7 : decode cX7_linkAt 7 = .ok (.imul, 1) := by decide +kernel
theorem dX7_linkAt_8 : decode cX7_linkAt 8 = .ok (.iload_n 2, 1) := by decide +kernel
theorem dX7_linkAt_9 : decode cX7_linkAt 9 = .ok (.iadd, 1) := by decide +kernel
theorem dX7_linkAt_10 : decode cX7_linkAt 10 = .ok (.iaload, 1) := by decide +kernel
theorem dX7_linkAt_11 : decode cX7_linkAt 11 = .ok (.ireturn, 1) := by decide +kernel
set_option maxRecDepth 20000 in
theorem ggX7_cause_X7_isCause : GoodIn wsX7_cause wsX7_isCause := goodIn_r _ [7, 8, 9, 6, 10] (by decide +kernel) (by decide +kernel)
set_option maxRecDepth 20000 in
theorem gX7_cause_X7_isCause : GoodIn wsX7_cause (va_wsS RX7 55 yX7_isCause wsX7_isCause) := goodIn_app (goodIn_of _ (by decide +kernel)) ggX7_cause_X7_isCause
set_option maxRecDepth 20000 in
theorem ggX7_cause_X7_within : GoodIn wsX7_cause wsX7_within := goodIn_r _ [10] (by decide +kernel) (by decide +kernel)
set_option maxRecDepth 20000 in
theorem gX7_cause_X7_within : GoodIn wsX7_cause (va_wsS RX7 51 yX7_within wsX7_within) := goodIn_app (goodIn_of _ (by decide +kernel)) ggX7_cause_X7_within
theorem dX7_cause_0 : decode cX7_cause 0 = .ok (.iload_n 1, 1) := by decide +kernel
theorem dX7_cause_1 : decode cX7_cause 1 = .ok (.invokestatic 55, 3) := by decide +kernel
theorem dX7_cause_4 : decode cX7_cause 4 = .ok (.ifCond .ne 5, 3) := by decide +kernel
theorem dX7_cause_7 : decode cX7_cause 7 = .ok (.iconst (-1), 1) := by decide +kernel
theorem dX7_cause_8 : decode cX7_cause 8 = .ok (.ireturn, 1) := by decide +kernel
theorem dX7_cause_9 : decode cX7_cause 9 = .ok (.iload_n 2, 1) := by decide +kernel
theorem dX7_cause_10 : decode cX7_cause 10 = .ok (.iconst 1, 1) := by decide +kernel
theorem dX7_cause_11 : decode cX7_cause 11 = .ok (.bipush 20, 2) := by decide +kernel
theorem dX7_cause_13 : decode cX7_cause 13 = .ok (.invokestatic 51, 3) := by decide +kernel
theorem dX7_cause_16 : decode cX7_cause 16 = .ok (.ifCond .eq 13, 3) := by decide +kernel
theorem dX7_cause_19 : decode cX7_cause 19 = .ok (.iload_n 3, 1) := by decide +kernel
theorem dX7_cause_20 : decode cX7_cause 20 = .ok (.iconst 1, 1) := by decide +kernel
theorem dX7_cause_21 : decode cX7_cause 21 = .ok (.bipush 20, 2) := by decide +kernel
theorem dX7_cause_23 : decode cX7_cause 23 = .ok (.invokestatic 51, 3) := by decide +kernel
theorem dX7_cause_26 : decode cX7_cause 26 = .ok (.ifCond .ne 6, 3) := by decide +kernel
theorem dX7_cause_29 : decode cX7_cause 29 = .ok (.bipush (-2), 2) := by decide +kernel
theorem dX7_cause_31 : decode cX7_cause 31 = .ok (.ireturn, 1) := by decide +kernel
theorem dX7_cause_32 : decode cX7_cause 32 = .ok (.aload_n 0, 1) := by decide +kernel
theorem dX7_cause_33 : decode cX7_cause 33 = .ok (.getfield 7, 3) := by decide +kernel
theorem dX7_cause_36 : decode cX7_cause 36 = .ok (.iload_n 1, 1) := by decide +kernel
theorem dX7_cause_37 : decode cX7_cause 37 = .ok (.iload_n 2, 1) := by decide +kernel
theorem dX7_cause_38 : decode cX7_cause 38 = .ok (.iastore, 1) := by decide +kernel
theorem dX7_cause_39 : decode cX7_cause 39 = .ok (.aload_n 0, 1) := by decide +kernel
theorem dX7_cause_40 : decode cX7_cause 40 = .ok (.getfield 13, 3) := by decide +kernel
theorem dX7_cause_43 : decode cX7_cause 43 = .ok (.iload_n 1, 1) := by decide +kernel
theorem dX7_cause_44 : decode cX7_cause 44 = .ok (.iload_n 3, 1) := by decide +kernel
theorem dX7_cause_45 : decode cX7_cause 45 = .ok (.iastore, 1) := by decide +kernel
theorem dX7_cause_46 : decode cX7_cause 46 = .ok (.aload_n 0, 1) := by decide +kernel
