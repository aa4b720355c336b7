theorem dX6_tell_20 : decode cX6_tell 20 = .ok (.ireturn, 1) := by decide +kernel
theorem dX6_tell_21 : decode cX6_tell 21 = .ok (.aload_n 0, 1) := by decide +kernel
theorem dX6_tell_22 : decode cX6_tell 22 = .ok (.iload_n 1, 1) := by decide +kernel
theorem dX6_tell_23 : decode cX6_tell 23 = .ok (.iload_n 2, 1) := by decide +kernel
theorem dX6_tell_24 : decode cX6_tell 24 = .ok (.iconst 1, 1) := by decide +kernel
theorem dX6_tell_25 : decode cX6_tell 25 = .ok (.if_icmp .ne 7, 3) := by decide +kernel
theorem dX6_tell_28 : decode cX6_tell 28 = .ok (.iconst 1, 1) := by decide +kernel
theorem dX6_tell_29 : decode cX6_tell 29 = .ok (.goto 4, 3) := by decide +kernel
theorem dX6_tell_32 : decode cX6_tell 32 = .ok (.iconst 2, 1) := by decide +kernel
theorem dX6_tell_33 : decode cX6_tell 33 = .ok (.invokevirtual 126, 3) := by decide +kernel
theorem dX6_tell_36 : decode cX6_tell 36 = .ok (.ireturn, 1) := by decide +kernel
set_option maxRecDepth 20000 in
theorem ggX6_withdraw_X6_isFinding : GoodIn wsX6_withdraw wsX6_isFinding := goodIn_r _ [5] (by decide +kernel) (by decide +kernel)
set_option maxRecDepth 20000 in
theorem gX6_withdraw_X6_isFinding : GoodIn wsX6_withdraw (va_wsS RX6 78 yX6_isFinding wsX6_isFinding) := goodIn_app (goodIn_of _ (by decide +kernel)) ggX6_withdraw_X6_isFinding
set_option maxRecDepth 20000 in
theorem ggX6_withdraw_X5_stateOf : GoodIn wsX6_withdraw wsX5_stateOf := goodIn_r _ [10, 11, 12, 13, 4, 14, 108, 109] (by decide +kernel) (by decide +kernel)
set_option maxRecDepth 20000 in
theorem gX6_withdraw_X5_stateOf : GoodIn wsX6_withdraw (wsV RX6 114 RX5 yX5_stateOf wsX5_stateOf) := goodIn_app (goodIn_of _ (by decide +kernel)) ggX6_withdraw_X5_stateOf
set_option maxRecDepth 20000 in
theorem ggX6_withdraw_X6_changeFinding : GoodIn wsX6_withdraw wsX6_changeFinding := goodIn_r _ [18, 19, 1, 20, 6, 7, 8, 9, 10, 11, 12, 13, 4, 14, 21, 22, 23, 24, 25, 26, 27, 28, 29, 30, 31, 32, 33, 34, 35, 36, 37, 38, 39, 40, 41, 42, 43, 44, 45, 46, 47, 48, 49, 50, 51, 52, 53, 54, 55, 56, 57, 58, 59, 60, 61, 62, 63, 64, 65, 66, 67, 68, 69, 70, 71, 72, 73, 74, 75, 76, 77, 78, 79, 80, 81, 82, 83, 84, 85, 86, 87, 88, 89, 90, 91, 92, 93, 94, 95, 96, 97, 98, 99, 100, 101, 102, 103, 104, 105, 106, 107, 110, 111, 112, 113, 114, 115, 116, 108, 109, 117, 118, 119, 120, 121, 122, 123, 124, 125] (by decide +kernel) (by decide +kernel)
set_option maxRecDepth 20000 in
theorem gX6_withdraw_X6_changeFinding : GoodIn wsX6_withdraw (wsV RX6 126 RX6 yX6_changeFinding wsX6_changeFinding) := goodIn_app (goodIn_of _ (by decide +kernel)) ggX6_withdraw_X6_changeFinding
theorem dX6_withdraw_0 : decode cX6_withdraw 0 = .ok (.iload_n 1, 1) := by decide +kernel
theorem dX6_withdraw_1 : decode cX6_withdraw 1 = .ok (.invokestatic 78, 3) := by decide +kernel
theorem dX6_withdraw_4 : decode cX6_withdraw 4 = .ok (.ifCond .ne 5, 3) := by decide +kernel
theorem dX6_withdraw_7 : decode cX6_withdraw 7 = .ok (.iconst (-1), 1) := by decide +kernel
theorem dX6_withdraw_8 : decode cX6_withdraw 8 = .ok (.ireturn, 1) := by decide +kernel
theorem dX6_withdraw_9 : decode cX6_withdraw 9 = .ok (.aload_n 0, 1) := by decide +kernel
theorem dX6_withdraw_10 : decode cX6_withdraw 10 = .ok (.getfield 21, 3) := by decide +kernel
theorem dX6_withdraw_13 : decode cX6_withdraw 13 = .ok (.iload_n 1, 1) := by decide +kernel
theorem dX6_withdraw_14 : decode cX6_withdraw 14 = .ok (.invokevirtual 114, 3) := by decide +kernel
theorem dX6_withdraw_17 : decode cX6_withdraw 17 = .ok (.ifCond .ne 6, 3) := by decide +kernel
theorem dX6_withdraw_20 : decode cX6_withdraw 20 = .ok (.bipush (-3), 2) := by decide +kernel
theorem dX6_withdraw_22 : decode cX6_withdraw 22 = .ok (.ireturn, 1) := by decide +kernel
theorem dX6_withdraw_23 : decode cX6_withdraw 23 = .ok (.aload_n 0, 1) := by decide +kernel
theorem dX6_withdraw_24 : decode cX6_withdraw 24 = .ok (.iload_n 1, 1) := by decide +kernel
theorem dX6_withdraw_25 : decode cX6_withdraw 25 = .ok (.iconst 0, 1) := by decide +kernel
theorem dX6_withdraw_26 : decode cX6_withdraw 26 = .ok (.invokevirtual 126, 3) := by decide +kernel
theorem dX6_withdraw_29 : decode cX6_withdraw 29 = .ok (.ireturn, 1) := by decide +kernel
set_option maxRecDepth 20000 in
theorem ggX6_back_X0_takeBackLast : GoodIn wsX6_back wsX0_takeBackLast := goodIn_r _ [9, 10, 11, 12, 13, 14, 15, 16, 17, 18, 19, 94, 95, 96, 104, 105] (by decide +kernel) (by decide +kernel)
set_option maxRecDepth 20000 in
theorem gX6_back_X0_takeBackLast : GoodIn wsX6_back (wsV RX6 132 RX0 yX0_takeBackLast wsX0_takeBackLast) := goodIn_app (goodIn_of _ (by decide +kernel)) ggX6_back_X0_takeBackLast
set_option maxRecDepth 20000 in
theorem ggX6_back_X6_forgetWhatFollowed : GoodIn wsX6_back wsX6_forgetWhatFollowed := goodIn_r _ [24, 25, 26, 84, 85, 86, 87, 88, 89, 90, 91, 92, 93] (by decide +kernel) (by decide +kernel)
set_option maxRecDepth 20000 in
theorem gX6_back_X6_forgetWhatFollowed : GoodIn wsX6_back (wsV RX6 75 RX6 yX6_forgetWhatFollowed wsX6_forgetWhatFollowed) := goodIn_app (goodIn_of _ (by decide +kernel)) ggX6_back_X6_forgetWhatFollowed
set_option maxRecDepth 20000 in
theorem ggX6_back_X6_upToDate : GoodIn wsX6_back wsX6_upToDate := goodIn_r _ [30, 25, 31, 3, 32, 33, 34, 35, 36, 37, 38, 39, 40, 41, 42, 43, 44, 45, 46, 47, 48, 49, 50, 51, 52, 23, 53, 54, 55, 56, 57, 58, 59, 60, 61, 62, 63, 64, 65, 66, 67, 68, 69, 70, 71, 72, 73, 74, 75, 76, 77, 78, 79, 80, 81, 82, 83, 84, 85, 86, 87, 88, 89, 90, 91, 92, 93, 97, 98, 99, 100, 101, 102, 103, 104, 105, 106, 107, 108, 109, 110, 111] (by decide +kernel) (by decide +kernel)
set_option maxRecDepth 20000 in
theorem gX6_back_X6_upToDate : GoodIn wsX6_back (wsV RX6 107 RX6 yX6_upToDate wsX6_upToDate) := goodIn_app (goodIn_of _ (by decide +kernel)) ggX6_back_X6_upToDate
theorem dX6_back_0 : decode cX6_back 0 = .ok (.aload_n 0, 1) := by decide +kernel
theorem dX6_back_1 : decode cX6_back 1 = .ok (.getfield 28, 3) := by decide +kernel
theorem dX6_back_4 : decode cX6_back 4 = .ok (.getfield 129, 3) := by decide +kernel
theorem dX6_back_7 : decode cX6_back 7 = .ok (.ifCond .ne 6, 3) := by decide +kernel
theorem dX6_back_10 : decode cX6_back 10 = .ok (.bipush (-3), 2) := by decide +kernel
theorem dX6_back_12 : decode cX6_back 12 = .ok (.ireturn, 1) := by decide +kernel
theorem dX6_back_13 : decode cX6_back 13 = .ok (.aload_n 0, 1) := by decide +kernel
theorem dX6_back_14 : decode cX6_back 14 = .ok (.getfield 28, 3) := by decide +kernel
theorem dX6_back_17 : decode cX6_back 17 = .ok (.aload_n 0, 1) := by decide +kernel
theorem dX6_back_18 : decode cX6_back 18 = .ok (.getfield 21, 3) := by decide +kernel
theorem dX6_back_21 : decode cX6_back 21 = .ok (.invokevirtual 132, 3) := by decide +kernel
theorem dX6_back_24 : decode cX6_back 24 = .ok (.aload_n 0, 1) := by decide +kernel
theorem dX6_back_25 : decode cX6_back 25 = .ok (.invokevirtual 75, 3) := by decide +kernel
theorem dX6_back_28 : decode cX6_back 28 = .ok (.aload_n 0, 1) := by decide +kernel
theorem dX6_back_29 : decode cX6_back 29 = .ok (.invokevirtual 107, 3) := by decide +kernel
theorem dX6_back_32 : decode cX6_back 32 = .ok (.getfield 136, 3) := by decide +kernel
theorem dX6_back_35 : decode cX6_back 35 = .ok (.ireturn, 1) := by decide +kernel
set_option maxRecDepth 20000 in
theorem ggX6_anew_J6_bitCount_0f7a4 : GoodIn wsX6_anew wsJ6_bitCount_0f7a4 := goodIn_r _ [9, 10, 11, 12] (by decide +kernel) (by decide +kernel)
set_option maxRecDepth 20000 in
theorem gX6_anew_J6_bitCount_0f7a4 : GoodIn wsX6_anew (va_wsS RX6 140 yJ6_bitCount_0f7a4 wsJ6_bitCount_0f7a4) := goodIn_app (goodIn_of _ (by decide +kernel)) ggX6_anew_J6_bitCount_0f7a4
set_option maxRecDepth 20000 in
theorem ggX6_anew_X6_forgetWhatFollowed : GoodIn wsX6_anew wsX6_forgetWhatFollowed := goodIn_r _ [17, 18, 19, 20, 21, 22, 23, 24, 25, 26, 27, 28, 29] (by decide +kernel) (by decide +kernel)
set_option maxRecDepth 20000 in
theorem gX6_anew_X6_forgetWhatFollowed : GoodIn wsX6_anew (wsV RX6 75 RX6 yX6_forgetWhatFollowed wsX6_forgetWhatFollowed) := goodIn_app (goodIn_of _ (by decide +kernel)) ggX6_anew_X6_forgetWhatFollowed
theorem dX6_anew_0 : decode cX6_anew 0 = .ok (.aload_n 0, 1) := by decide +kernel
theorem dX6_anew_1 : decode cX6_anew 1 = .ok (.getfield 21, 3) := by decide +kernel
theorem dX6_anew_4 : decode cX6_anew 4 = .ok (.getfield 137, 3) := by decide +kernel
theorem dX6_anew_7 : decode cX6_anew 7 = .ok (.aload_n 0, 1) := by decide +kernel
theorem dX6_anew_8 : decode cX6_anew 8 = .ok (.getfield 21, 3) := by decide +kernel
theorem dX6_anew_11 : decode cX6_anew 11 = .ok (.getfield 95, 3) := by decide +kernel
theorem dX6_anew_14 : decode cX6_anew 14 = .ok (.ior, 1) := by decide +kernel
theorem dX6_anew_15 : decode cX6_anew 15 = .ok (.invokestatic 140, 3) := by decide +kernel
theorem dX6_anew_18 : decode cX6_anew 18 = .ok (.istore_n 1, 1) := by decide +kernel
theorem dX6_anew_19 : decode cX6_anew 19 = .ok (.aload_n 0, 1) := by decide +kernel
theorem dX6_anew_20 : decode cX6_anew 20 = .ok (.getfield 21, 3) := by decide +kernel
theorem dX6_anew_23 : decode cX6_anew 23 = .ok (.iconst 0, 1) := by decide +kernel
theorem dX6_anew_24 : decode cX6_anew 24 = .ok (.putfield 137, 3) := by decide +kernel
theorem dX6_anew_27 : decode cX6_anew 27 = .ok (.aload_n 0, 1) := by decide +kernel
theorem dX6_anew_28 : decode cX6_anew 28 = .ok (.getfield 21, 3) := by decide +kernel
theorem dX6_anew_31 : decode cX6_anew 31 = .ok (.iconst 0, 1) := by decide +kernel
theorem dX6_anew_32 : decode cX6_anew 32 = .ok (.putfield 95, 3) := by decide +kernel
theorem dX6_anew_35 : decode cX6_anew 35 = .ok (.aload_n 0, 1) := by decide +kernel
theorem dX6_anew_36 : decode cX6_anew 36 = .ok (.getfield 28, 3) := by decide +kernel
theorem dX6_anew_39 : decode cX6_anew 39 = .ok (.iconst 0, 1) := by decide +kernel
theorem dX6_anew_40 : decode cX6_anew 40 = .ok (.putfield 129, 3) := by decide +kernel
theorem dX6_anew_43 : decode cX6_anew 43 = .ok (.aload_n 0, 1) := by decide +kernel
theorem dX6_anew_44 : decode cX6_anew 44 = .ok (.invokevirtual 75, 3) := by decide +kernel
theorem dX6_anew_47 : decode cX6_anew 47 = .ok (.iload_n 1, 1) := by decide +kernel
theorem dX6_anew_48 : decode cX6_anew 48 = .ok (.ireturn, 1) := by decide +kernel
set_option maxRecDepth 20000 in
theorem ggX6_explanation_X6_upToDate : GoodIn wsX6_explanation wsX6_upToDate := goodIn_r _ [5, 6, 7, 8, 9, 10, 11, 12, 13, 14, 15, 16, 17, 18, 19, 20, 21, 22, 23, 24, 25, 26, 27, 28, 29, 4, 30, 31, 32, 33, 34, 35, 36, 37, 38, 39, 40, 41, 42, 43, 44, 45, 46, 47, 48, 49, 50, 51, 52, 53, 54, 55, 56, 57, 58, 59, 60, 71, 72, 73, 74, 75, 76, 77, 78, 79, 80, 81, 82, 83, 84, 85, 86, 87, 88, 89, 90, 91, 92, 93, 94, 95] (by decide +kernel) (by decide +kernel)
set_option maxRecDepth 20000 in
theorem gX6_explanation_X6_upToDate : GoodIn wsX6_explanation (wsV RX6 107 RX6 yX6_upToDate wsX6_upToDate) := goodIn_app (goodIn_of _ (by decide +kernel)) ggX6_explanation_X6_upToDate
set_option maxRecDepth 20000 in
theorem ggX6_explanation_X2_isNumber : GoodIn wsX6_explanation wsX2_isNumber := goodIn_r _ [64, 14, 81, 82, 83, 84, 85, 86, 87] (by decide +kernel) (by decide +kernel)
set_option maxRecDepth 20000 in
theorem gX6_explanation_X2_isNumber : GoodIn wsX6_explanation (wsV RX6 145 RX2 yX2_isNumber wsX2_isNumber) := goodIn_app (goodIn_of _ (by decide +kernel)) ggX6_explanation_X2_isNumber
set_option maxRecDepth 20000 in
theorem ggX6_explanation_X2_setOf : GoodIn wsX6_explanation wsX2_setOf := goodIn_r _ [68, 40, 69, 81, 82, 83, 84, 85, 86, 87] (by decide +kernel) (by decide +kernel)
set_option maxRecDepth 20000 in
theorem gX6_explanation_X2_setOf : GoodIn wsX6_explanation (wsV RX6 148 RX2 yX2_setOf wsX2_setOf) := goodIn_app (goodIn_of _ (by decide +kernel)) ggX6_explanation_X2_setOf
set_option maxRecDepth 20000 in
theorem ggX6_explanation_J6_bitCount_0f7a4 : GoodIn wsX6_explanation wsJ6_bitCount_0f7a4 := goodIn_r _ [44, 45, 46, 47] (by decide +kernel) (by decide +kernel)
set_option maxRecDepth 20000 in
theorem gX6_explanation_J6_bitCount_0f7a4 : GoodIn wsX6_explanation (va_wsS RX6 140 yJ6_bitCount_0f7a4 wsJ6_bitCount_0f7a4) := goodIn_app (goodIn_of _ (by decide +kernel)) ggX6_explanation_J6_bitCount_0f7a4
theorem dX6_explanation_0 : decode cX6_explanation 0 = .ok (.aload_n 0, 1) := by decide +kernel
theorem dX6_explanation_1 : decode cX6_explanation 1 = .ok (.invokevirtual 107, 3) := by decide +kernel
theorem dX6_explanation_4 : decode cX6_explanation 4 = .ok (.astore_n 3, 1) := by decide +kernel
theorem dX6_explanation_5 : decode cX6_explanation 5 = .ok (.aload_n 3, 1) := by decide +kernel
theorem dX6_explanation_6 : decode cX6_explanation 6 = .ok (.iload_n 1, 1) := by decide +kernel
theorem dX6_explanation_7 : decode cX6_explanation 7 = .ok (.invokevirtual 145, 3) := by decide +kernel
theorem dX6_explanation_10 : decode cX6_explanation 10 = .ok (.ifCond .ne 5, 3) := by decide +kernel
theorem dX6_explanation_13 : decode cX6_explanation 13 = .ok (.iconst (-1), 1) := by decide +kernel
theorem dX6_explanation_14 : decode cX6_explanation 14 = .ok (.ireturn, 1) := by decide +kernel
theorem dX6_explanation_15 : decode cX6_explanation 15 = .ok (.aload_n 3, 1) := by decide +kernel
theorem dX6_explanation_16 : decode cX6_explanation 16 = .ok (.iload_n 1, 1) := by decide +kernel
theorem dX6_explanation_17 : decode cX6_explanation 17 = .ok (.invokevirtual 148, 3) := by decide +kernel
theorem dX6_explanation_20 : decode cX6_explanation 20 = .ok (.istore 4, 2) := by decide +kernel
theorem dX6_explanation_22 : decode cX6_explanation 22 = .ok (.iload_n 2, 1) := by decide +kernel
theorem dX6_explanation_23 : decode cX6_explanation 23 = .ok (.lookupswitch 34 #[(0, 25), (1, 28)], 25) := by decide +kernel
theorem dX6_explanation_48 : decode cX6_explanation 48 = .ok (.iload 4, 2) := by decide +kernel
theorem dX6_explanation_50 : decode cX6_explanation 50 = .ok (.ireturn, 1) := by decide +kernel
theorem dX6_explanation_51 : decode cX6_explanation 51 = .ok (.iload 4, 2) := by decide +kernel
theorem dX6_explanation_53 : decode cX6_explanation 53 = .ok (.invokestatic 140, 3) := by decide +kernel
theorem dX6_explanation_56 : decode cX6_explanation 56 = .ok (.ireturn, 1) := by decide +kernel
theorem dX6_explanation_57 : decode cX6_explanation 57 = .ok (.bipush (-2), 2) := by decide +kernel
theorem dX6_explanation_59 : decode cX6_explanation 59 = .ok (.ireturn, 1) := by decide +kernel
set_option maxRecDepth 20000 in
theorem ggX6_weight_X6_upToDate : GoodIn wsX6_weight wsX6_upToDate := goodIn_r _ [6, 7, 8, 9, 10, 11, 12, 13, 14, 15, 16, 17, 18, 19, 20, 21, 22, 23, 24, 25, 26, 27, 28, 29, 30, 5, 31, 32, 33, 34, 35, 36, 37, 38, 39, 40, 41, 42, 43, 44, 45, 46, 47, 48, 49, 50, 51, 52, 53, 54, 55, 56, 57, 58, 59, 60, 61, 70, 71, 72, 73, 74, 75, 76, 77, 78, 79, 80, 81, 82, 83, 84, 85, 86, 87, 88, 89, 90, 91, 92, 93, 94] (by decide +kernel) (by decide +kernel)
set_option maxRecDepth 20000 in
theorem gX6_weight_X6_upToDate : GoodIn wsX6_weight (wsV RX6 107 RX6 yX6_upToDate wsX6_upToDate) := goodIn_app (goodIn_of _ (by decide +kernel)) ggX6_weight_X6_upToDate
set_option maxRecDepth 20000 in
theorem ggX6_weight_X2_isNumber : GoodIn wsX6_weight wsX2_isNumber := goodIn_r _ [65, 15, 80, 81, 82, 83, 84, 85, 86] (by decide +kernel) (by decide +kernel)
set_option maxRecDepth 20000 in
theorem gX6_weight_X2_isNumber : GoodIn wsX6_weight (wsV RX6 145 RX2 yX2_isNumber wsX2_isNumber) := goodIn_app (goodIn_of _ (by decide +kernel)) ggX6_weight_X2_isNumber
set_option maxRecDepth 20000 in
theorem ggX6_weight_X2_weightOf : GoodIn wsX6_weight wsX2_weightOf := goodIn_r _ [69, 41, 80, 81, 82, 83, 84, 85, 86] (by decide +kernel) (by decide +kernel)
set_option maxRecDepth 20000 in
theorem gX6_weight_X2_weightOf : GoodIn wsX6_weight (wsV RX6 151 RX2 yX2_weightOf wsX2_weightOf) := goodIn_app (goodIn_of _ (by decide +kernel)) ggX6_weight_X2_weightOf
theorem dX6_weight_0 : decode cX6_weight 0 = .ok (.aload_n 0, 1) := by decide +kernel
theorem dX6_weight_1 : decode cX6_weight 1 = .ok (.invokevirtual 107, 3) := by decide +kernel
theorem dX6_weight_4 : decode cX6_weight 4 = .ok (.astore_n 2, 1) := by decide +kernel
theorem dX6_weight_5 : decode cX6_weight 5 = .ok (.aload_n 2, 1) := by decide +kernel
theorem dX6_weight_6 : decode cX6_weight 6 = .ok (.iload_n 1, 1) := by decide +kernel
theorem dX6_weight_7 : decode cX6_weight 7 = .ok (.invokevirtual 145, 3) := by decide +kernel
theorem dX6_weight_10 : decode cX6_weight 10 = .ok (.ifCond .eq 11, 3) := by decide +kernel
theorem dX6_weight_13 : decode cX6_weight 13 = .ok (.aload_n 2, 1) := by decide +kernel
theorem dX6_weight_14 : decode cX6_weight 14 = .ok (.iload_n 1, 1) := by decide +kernel
theorem dX6_weight_15 : decode cX6_weight 15 = .ok (.invokevirtual 151, 3) := by decide +kernel
theorem dX6_weight_18 : decode cX6_weight 18 = .ok (.goto 6, 3) := by decide +kernel
theorem dX6_weight_21 : decode cX6_weight 21 = .ok (.ldc2_w 155, 3) := by decide +kernel
theorem dX6_weight_24 : decode cX6_weight 24 = .ok (.lreturn, 1) := by decide +kernel
set_option maxRecDepth 20000 in
theorem ggX6_share_X6_upToDate : GoodIn wsX6_share wsX6_upToDate := goodIn_r _ [7, 8, 9, 10, 11, 12, 13, 14, 15, 16, 17, 18, 19, 20, 21, 22, 23, 24, 25, 26, 27, 28, 29, 30, 31, 6, 32, 33, 34, 35, 36, 37, 38, 39, 40, 41, 42, 43, 44, 45, 46, 47, 48, 49, 50, 51, 52, 53, 54, 55, 56, 57, 58, 59, 60, 61, 62, 87, 88, 89, 90, 91, 92, 93, 94, 95, 96, 80, 81, 82, 83, 84, 85, 86, 97, 98, 99, 100, 101, 102, 103, 104] (by decide +kernel) (by decide +kernel)
set_option maxRecDepth 20000 in
theorem gX6_share_X6_upToDate : GoodIn wsX6_share (wsV RX6 107 RX6 yX6_upToDate wsX6_upToDate) := goodIn_app (goodIn_of _ (by decide +kernel)) ggX6_share_X6_upToDate
set_option maxRecDepth 20000 in
theorem ggX6_share_X2_isNumber : GoodIn wsX6_share wsX2_isNumber := goodIn_r _ [66, 16, 80, 81, 82, 83, 84, 85, 86] (by decide +kernel) (by decide +kernel)
set_option maxRecDepth 20000 in
theorem gX6_share_X2_isNumber : GoodIn wsX6_share (wsV RX6 145 RX2 yX2_isNumber wsX2_isNumber) := goodIn_app (goodIn_of _ (by decide +kernel)) ggX6_share_X2_isNumber
set_option maxRecDepth 20000 in
theorem ggX6_share_X6_isUpperOrLower : GoodIn wsX6_share wsX6_isUpperOrLower := goodIn_r _ [69] (by decide +kernel) (by decide +kernel)
set_option maxRecDepth 20000 in
theorem gX6_share_X6_isUpperOrLower : GoodIn wsX6_share (va_wsS RX6 157 yX6_isUpperOrLower wsX6_isUpperOrLower) := goodIn_app (goodIn_of _ (by decide +kernel)) ggX6_share_X6_isUpperOrLower
set_option maxRecDepth 20000 in
theorem ggX6_share_X2_weightOf : GoodIn wsX6_share wsX2_weightOf := goodIn_r _ [73, 42, 80, 81, 82, 83, 84, 85, 86] (by decide +kernel) (by decide +kernel)
set_option maxRecDepth 20000 in
theorem gX6_share_X2_weightOf : GoodIn wsX6_share (wsV RX6 151 RX2 yX2_weightOf wsX2_weightOf) := goodIn_app (goodIn_of _ (by decide +kernel)) ggX6_share_X2_weightOf
set_option maxRecDepth 20000 in
theorem ggX6_share_X6_inLeastTerms : GoodIn wsX6_share wsX6_inLeastTerms := goodIn_r _ [76, 77, 78, 6, 79] (by decide +kernel) (by decide +kernel)
set_option maxRecDepth 20000 in
theorem gX6_share_X6_inLeastTerms : GoodIn wsX6_share (va_wsS RX6 164 yX6_inLeastTerms wsX6_inLeastTerms) := goodIn_app (goodIn_of _ (by decide +kernel)) ggX6_share_X6_inLeastTerms
theorem dX6_share_0 : decode cX6_share 0 = .ok (.aload_n 0, 1) := by decide +kernel
theorem dX6_share_1 : decode cX6_share 1 = .ok (.invokevirtual 107, 3) := by decide +kernel
theorem dX6_share_4 : decode cX6_share 4 = .ok (.astore_n 3, 1) := by decide +kernel
theorem dX6_share_5 : decode cX6_share 5 = .ok (.aload_n 3, 1) := by decide +kernel
theorem dX6_share_6 : decode cX6_share 6 = .ok (.iload_n 1, 1) := by decide +kernel
theorem dX6_share_7 : decode cX6_share 7 = .ok (.invokevirtual 145, 3) := by decide +kernel
theorem dX6_share_10 : decode cX6_share 10 = .ok (.ifCond .eq 10, 3) := by decide +kernel
theorem dX6_share_13 : decode cX6_share 13 = .ok (.iload_n 2, 1) := by decide +kernel
theorem dX6_share_14 : decode cX6_share 14 = .ok (.invokestatic 157, 3) := by decide +kernel
theorem dX6_share_17 : decode cX6_share 17 = .ok (.ifCond .ne 7, 3) := by decide +kernel
theorem dX6_share_20 : decode cX6_share 20 = .ok (.ldc2_w 155, 3) := by decide +kernel
theorem dX6_share_23 : decode cX6_share 23 = .ok (.lreturn, 1) := by decide +kernel
theorem dX6_share_24 : decode cX6_share 24 = .ok (.aload_n 3, 1) := by decide +kernel
theorem dX6_share_25 : decode cX6_share 25 = .ok (.iload_n 1, 1) := by decide +kernel
theorem dX6_share_26 : decode cX6_share 26 = .ok (.invokevirtual 151, 3) := by decide +kernel
theorem dX6_share_29 : decode cX6_share 29 = .ok (.aload_n 3, 1) := by decide +kernel
theorem dX6_share_30 : decode cX6_share 30 = .ok (.getfield 160, 3) := by decide +kernel
theorem dX6_share_33 : decode cX6_share 33 = .ok (.iload_n 2, 1) := by decide +kernel
theorem dX6_share_34 : decode cX6_share 34 = .ok (.invokestatic 164, 3) := by decide +kernel
theorem dX6_share_37 : decode cX6_share 37 = .ok (.lreturn, 1) := by decide +kernel
set_option maxRecDepth 20000 in
theorem ggX6_needs_X6_upToDate : GoodIn wsX6_needs wsX6_upToDate := goodIn_r _ [8, 9, 10, 2, 11, 12, 13, 14, 15, 16, 17, 18, 19, 20, 21, 22, 23, 24, 25, 26, 27, 28, 29, 30, 31, 7, 32, 33, 34, 35, 36, 37, 38, 39, 40, 41, 42, 43, 44, 45, 46, 47, 48, 49, 50, 51, 52, 53, 54, 55, 56, 57, 58, 59, 60, 61, 62, 88, 89, 90, 91, 92, 93, 94, 95, 96, 97, 100, 101, 102, 103, 104, 105, 106, 98, 99, 107, 108, 109, 110, 111, 112] (by decide +kernel) (by decide +kernel)
set_option maxRecDepth 20000 in
theorem gX6_needs_X6_upToDate : GoodIn wsX6_needs (wsV RX6 107 RX6 yX6_upToDate wsX6_upToDate) := goodIn_app (goodIn_of _ (by decide +kernel)) ggX6_needs_X6_upToDate
set_option maxRecDepth 20000 in
theorem ggX6_needs_X2_isNumber : GoodIn wsX6_needs wsX2_isNumber := goodIn_r _ [66, 16, 100, 101, 102, 103, 104, 105, 106] (by decide +kernel) (by decide +kernel)
set_option maxRecDepth 20000 in
theorem gX6_needs_X2_isNumber : GoodIn wsX6_needs (wsV RX6 145 RX2 yX2_isNumber wsX2_isNumber) := goodIn_app (goodIn_of _ (by decide +kernel)) ggX6_needs_X2_isNumber
set_option maxRecDepth 20000 in
theorem ggX6_needs_X6_isCause : GoodIn wsX6_needs wsX6_isCause := goodIn_r _ [69] (by decide +kernel) (by decide +kernel)
set_option maxRecDepth 20000 in
theorem gX6_needs_X6_isCause : GoodIn wsX6_needs (va_wsS RX6 61 yX6_isCause wsX6_isCause) := goodIn_app (goodIn_of _ (by decide +kernel)) ggX6_needs_X6_isCause
set_option maxRecDepth 20000 in
theorem ggX6_needs_X2_setOf : GoodIn wsX6_needs wsX2_setOf := goodIn_r _ [73, 42, 74, 100, 101, 102, 103, 104, 105, 106] (by decide +kernel) (by decide +kernel)
set_option maxRecDepth 20000 in
theorem gX6_needs_X2_setOf : GoodIn wsX6_needs (wsV RX6 148 RX2 yX2_setOf wsX2_setOf) := goodIn_app (goodIn_of _ (by decide +kernel)) ggX6_needs_X2_setOf
set_option maxRecDepth 20000 in
theorem ggX6_needs_X6_has : GoodIn wsX6_needs wsX6_has := goodIn_r _ [32] (by decide +kernel) (by decide +kernel)
set_option maxRecDepth 20000 in
theorem gX6_needs_X6_has : GoodIn wsX6_needs (va_wsS RX6 103 yX6_has wsX6_has) := goodIn_app (goodIn_of _ (by decide +kernel)) ggX6_needs_X6_has
set_option maxRecDepth 20000 in
theorem ggX6_needs_X1_neededFor : GoodIn wsX6_needs wsX1_neededFor := goodIn_r _ [79, 80, 81, 82, 28, 83, 84, 85, 86, 87, 31, 7, 32, 107, 108, 109, 110, 111, 112] (by decide +kernel) (by decide +kernel)
set_option maxRecDepth 20000 in
theorem gX6_needs_X1_neededFor : GoodIn wsX6_needs (wsV RX6 168 RX1 yX1_neededFor wsX1_neededFor) := goodIn_app (goodIn_of _ (by decide +kernel)) ggX6_needs_X1_neededFor
theorem dX6_needs_0 : decode cX6_needs 0 = .ok (.aload_n 0, 1) := by decide +kernel
theorem dX6_needs_1 : decode cX6_needs 1 = .ok (.invokevirtual 107, 3) := by decide +kernel
theorem dX6_needs_4 : decode cX6_needs 4 = .ok (.astore_n 3, 1) := by decide +kernel
theorem dX6_needs_5 : decode cX6_needs 5 = .ok (.aload_n 3, 1) := by decide +kernel
theorem dX6_needs_6 : decode cX6_needs 6 = .ok (.iload_n 1, 1) := by decide +kernel
theorem dX6_needs_7 : decode cX6_needs 7 = .ok (.invokevirtual 145, 3) := by decide +kernel
theorem dX6_needs_10 : decode cX6_needs 10 = .ok (.ifCond .eq 10, 3) := by decide +kernel
theorem dX6_needs_13 : decode cX6_needs 13 = .ok (.iload_n 2, 1) := by decide +kernel
theorem dX6_needs_14 : decode cX6_needs 14 = .ok (.invokestatic 61, 3) := by decide +kernel
theorem dX6_needs_17 : decode cX6_needs 17 = .ok (.ifCond .ne 5, 3) := by decide +kernel
theorem dX6_needs_20 : decode cX6_needs 20 = .ok (.iconst (-1), 1) := by decide +kernel
theorem dX6_needs_21 : decode cX6_needs 21 = .ok (.ireturn, 1) := by decide +kernel
theorem dX6_needs_22 : decode cX6_needs 22 = .ok (.aload_n 3, 1) := by decide +kernel
theorem dX6_needs_23 : decode cX6_needs 23 = .ok (.iload_n 1, 1) := by decide +kernel
theorem dX6_needs_24 : decode cX6_needs 24 = .ok (.invokevirtual 148, 3) := by decide +kernel
theorem dX6_needs_27 : decode cX6_needs 27 = .ok (.istore 4, 2) := by decide +kernel
theorem dX6_needs_29 : decode cX6_needs 29 = .ok (.iload 4, 2) := by decide +kernel
theorem dX6_needs_31 : decode cX6_needs 31 = .ok (.iload_n 2, 1) := by decide +kernel
theorem dX6_needs_32 : decode cX6_needs 32 = .ok (.invokestatic 103, 3) := by decide +kernel
theorem dX6_needs_35 : decode cX6_needs 35 = .ok (.ifCond .eq 23, 3) := by decide +kernel
theorem dX6_needs_38 : decode cX6_needs 38 = .ok (.aload_n 0, 1) := by decide +kernel
theorem dX6_needs_39 : decode cX6_needs 39 = .ok (.getfield 14, 3) := by decide +kernel
theorem dX6_needs_42 : decode cX6_needs 42 = .ok (.iload 4, 2) := by decide +kernel
theorem dX6_needs_44 : decode cX6_needs 44 = .ok (.iload_n 2, 1) := by decide +kernel
theorem dX6_needs_45 : decode cX6_needs 45 = .ok (.aload_n 0, 1) := by decide +kernel
theorem dX6_needs_46 : decode cX6_needs 46 = .ok (.getfield 21, 3) := by decide +kernel
theorem dX6_needs_49 : decode cX6_needs 49 = .ok (.getfield 137, 3) := by decide +kernel
theorem dX6_needs_52 : decode cX6_needs 52 = .ok (.invokevirtual 168, 3) := by decide +kernel
theorem dX6_needs_55 : decode cX6_needs 55 = .ok (.goto 5, 3) := by decide +kernel
theorem dX6_needs_58 : decode cX6_needs 58 = .ok (.bipush (-9), 2) := by decide +kernel
theorem dX6_needs_60 : decode cX6_needs 60 = .ok (.ireturn, 1) := by decide +kernel
set_option maxRecDepth 20000 in
theorem ggX6_sets_X6_upToDate : GoodIn wsX6_sets wsX6_upToDate := goodIn_r _ [8, 9, 10, 2, 11, 12, 13, 14, 15, 16, 17, 18, 19, 20, 21, 22, 23, 24, 25, 26, 27, 28, 29, 30, 31, 7, 32, 33, 34, 35, 36, 37, 38, 39, 40, 41, 42, 43, 44, 45, 46, 47, 48, 49, 50, 51, 52, 53, 54, 55, 56, 57, 58, 59, 60, 61, 62, 77, 78, 79, 80, 81, 82, 83, 84, 85, 86, 89, 90, 91, 92, 93, 94, 95, 87, 88, 96, 97, 98, 99, 100, 101] (by decide +kernel) (by decide +kernel)
set_option maxRecDepth 20000 in
theorem gX6_sets_X6_upToDate : GoodIn wsX6_sets (wsV RX6 107 RX6 yX6_upToDate wsX6_upToDate) := goodIn_app (goodIn_of _ (by decide +kernel)) ggX6_sets_X6_upToDate
set_option maxRecDepth 20000 in
theorem ggX6_sets_X2_causesInAll : GoodIn wsX6_sets wsX2_causesInAll := goodIn_r _ [66, 16, 67, 68, 69, 14, 70, 42, 71, 89, 90, 91, 92, 93, 94, 95] (by decide +kernel) (by decide +kernel)
set_option maxRecDepth 20000 in
theorem gX6_sets_X2_causesInAll : GoodIn wsX6_sets (wsV RX6 172 RX2 yX2_causesInAll wsX2_causesInAll) := goodIn_app (goodIn_of _ (by decide +kernel)) ggX6_sets_X2_causesInAll
set_option maxRecDepth 20000 in
theorem ggX6_sets_X2_causesInAny : GoodIn wsX6_sets wsX2_causesInAny := goodIn_r _ [75, 16, 67, 68, 69, 14, 70, 42, 71, 89, 90, 91, 92, 93, 94, 95] (by decide +kernel) (by decide +kernel)
set_option maxRecDepth 20000 in
theorem gX6_sets_X2_causesInAny : GoodIn wsX6_sets (wsV RX6 176 RX2 yX2_causesInAny wsX2_causesInAny) := goodIn_app (goodIn_of _ (by decide +kernel)) ggX6_sets_X2_causesInAny
set_option maxRecDepth 20000 in
theorem ggX6_sets_X1_excludedBy : GoodIn wsX6_sets wsX1_excludedBy := goodIn_r _ [29, 30, 31, 7, 32, 96, 97, 98, 99, 100, 101] (by decide +kernel) (by decide +kernel)
set_option maxRecDepth 20000 in
theorem gX6_sets_X1_excludedBy : GoodIn wsX6_sets (wsV RX6 99 RX1 yX1_excludedBy wsX1_excludedBy) := goodIn_app (goodIn_of _ (by decide +kernel)) ggX6_sets_X1_excludedBy
theorem dX6_sets_0 : decode cX6_sets 0 = .ok (.iload_n 1, 1) := by decide +kernel
theorem dX6_sets_1 : decode cX6_sets 1 = .ok (.tableswitch 58 0 2 #[27, 35, 43], 27) := by decide +kernel
theorem dX6_sets_28 : decode cX6_sets 28 = .ok (.aload_n 0, 1) := by decide +kernel
theorem dX6_sets_29 : decode cX6_sets 29 = .ok (.invokevirtual 107, 3) := by decide +kernel
theorem dX6_sets_32 : decode cX6_sets 32 = .ok (.invokevirtual 172, 3) := by decide +kernel
theorem dX6_sets_35 : decode cX6_sets 35 = .ok (.ireturn, 1) := by decide +kernel
theorem dX6_sets_36 : decode cX6_sets 36 = .ok (.aload_n 0, 1) := by decide +kernel
theorem dX6_sets_37 : decode cX6_sets 37 = .ok (.invokevirtual 107, 3) := by decide +kernel
theorem dX6_sets_40 : decode cX6_sets 40 = .ok (.invokevirtual 176, 3) := by decide +kernel
theorem dX6_sets_43 : decode cX6_sets 43 = .ok (.ireturn, 1) := by decide +kernel
theorem dX6_sets_44 : decode cX6_sets 44 = .ok (.aload_n 0, 1) := by decide +kernel
theorem dX6_sets_45 : decode cX6_sets 45 = .ok (.getfield 14, 3) := by decide +kernel
theorem dX6_sets_48 : decode cX6_sets 48 = .ok (.aload_n 0, 1) := by decide +kernel
theorem dX6_sets_49 : decode cX6_sets 49 = .ok (.getfield 21, 3) := by decide +kernel
theorem dX6_sets_52 : decode cX6_sets 52 = .ok (.getfield 95, 3) := by decide +kernel
theorem dX6_sets_55 : decode cX6_sets 55 = .ok (.invokevirtual 99, 3) := by decide +kernel
theorem dX6_sets_58 : decode cX6_sets 58 = .ok (.ireturn, 1) := by decide +kernel
theorem dX6_sets_59 : decode cX6_sets 59 = .ok (.bipush (-2), 2) := by decide +kernel
theorem dX6_sets_61 : decode cX6_sets 61 = .ok (.ireturn, 1) := by decide +kernel
set_option maxRecDepth 20000 in
theorem ggX6_belief_X6_isCause : GoodIn wsX6_belief wsX6_isCause := goodIn_r _ [7] (by decide +kernel) (by decide +kernel)
set_option maxRecDepth 20000 in
theorem gX6_belief_X6_isCause : GoodIn wsX6_belief (va_wsS RX6 61 yX6_isCause wsX6_isCause) := goodIn_app (goodIn_of _ (by decide +kernel)) ggX6_belief_X6_isCause
set_option maxRecDepth 20000 in
theorem ggX6_belief_X6_isUpperOrLower : GoodIn wsX6_belief wsX6_isUpperOrLower := goodIn_r _ [10] (by decide +kernel) (by decide +kernel)
set_option maxRecDepth 20000 in
theorem gX6_belief_X6_isUpperOrLower : GoodIn wsX6_belief (va_wsS RX6 157 yX6_isUpperOrLower wsX6_isUpperOrLower) := goodIn_app (goodIn_of _ (by decide +kernel)) ggX6_belief_X6_isUpperOrLower
set_option maxRecDepth 20000 in
theorem ggX6_belief_X6_upToDate : GoodIn wsX6_belief wsX6_upToDate := goodIn_r _ [14, 15, 16, 17, 18, 19, 20, 21, 22, 23, 24, 25, 26, 27, 28, 29, 30, 31, 32, 33, 34, 35, 36, 37, 38, 6, 39, 40, 41, 42, 43, 44, 45, 46, 47, 48, 49, 50, 51, 52, 53, 54, 55, 56, 57, 58, 59, 60, 61, 62, 63, 64, 65, 66, 67, 68, 69, 96, 97, 98, 99, 100, 101, 102, 103, 104, 105, 89, 90, 91, 92, 93, 94, 95, 106, 107, 108, 109, 110, 111, 112, 113] (by decide +kernel) (by decide +kernel)
set_option maxRecDepth 20000 in
theorem gX6_belief_X6_upToDate : GoodIn wsX6_belief (wsV RX6 107 RX6 yX6_upToDate wsX6_upToDate) := goodIn_app (goodIn_of _ (by decide +kernel)) ggX6_belief_X6_upToDate
set_option maxRecDepth 20000 in
theorem ggX6_belief_X2_weightWithCause : GoodIn wsX6_belief wsX2_weightWithCause := goodIn_r _ [73, 23, 74, 75, 76, 21, 77, 49, 78, 38, 6, 39, 79, 80, 81, 82, 89, 90, 91, 92, 93, 94, 95] (by decide +kernel) (by decide +kernel)
set_option maxRecDepth 20000 in
theorem gX6_belief_X2_weightWithCause : GoodIn wsX6_belief (wsV RX6 179 RX2 yX2_weightWithCause wsX2_weightWithCause) := goodIn_app (goodIn_of _ (by decide +kernel)) ggX6_belief_X2_weightWithCause
set_option maxRecDepth 20000 in
theorem ggX6_belief_X6_inLeastTerms : GoodIn wsX6_belief wsX6_inLeastTerms := goodIn_r _ [85, 86, 87, 6, 88] (by decide +kernel) (by decide +kernel)
set_option maxRecDepth 20000 in
theorem gX6_belief_X6_inLeastTerms : GoodIn wsX6_belief (va_wsS RX6 164 yX6_inLeastTerms wsX6_inLeastTerms) := goodIn_app (goodIn_of _ (by decide +kernel)) ggX6_belief_X6_inLeastTerms
theorem dX6_belief_0 : decode cX6_belief 0 = .ok (.iload_n 1, 1) := by decide +kernel
theorem dX6_belief_1 : decode cX6_belief 1 = .ok (.invokestatic 61, 3) := by decide +kernel
theorem dX6_belief_4 : decode cX6_belief 4 = .ok (.ifCond .eq 10, 3) := by decide +kernel
theorem dX6_belief_7 : decode cX6_belief 7 = .ok (.iload_n 2, 1) := by decide +kernel
theorem dX6_belief_8 : decode cX6_belief 8 = .ok (.invokestatic 157, 3) := by decide +kernel
theorem dX6_belief_11 : decode cX6_belief 11 = .ok (.ifCond .ne 7, 3) := by decide +kernel
theorem dX6_belief_14 : decode cX6_belief 14 = .ok (.ldc2_w 155, 3) := by decide +kernel
theorem dX6_belief_17 : decode cX6_belief 17 = .ok (.lreturn, 1) := by decide +kernel
theorem dX6_belief_18 : decode cX6_belief 18 = .ok (.aload_n 0, 1) := by decide +kernel
theorem dX6_belief_19 : decode cX6_belief 19 = .ok (.invokevirtual 107, 3) := by decide +kernel
theorem dX6_belief_22 : decode cX6_belief 22 = .ok (.astore_n 3, 1) := by decide +kernel
theorem dX6_belief_23 : decode cX6_belief 23 = .ok (.aload_n 3, 1) := by decide +kernel
theorem dX6_belief_24 : decode cX6_belief 24 = .ok (.getfield 136, 3) := by decide +kernel
theorem dX6_belief_27 : decode cX6_belief 27 = .ok (.ifCond .ne 7, 3) := by decide +kernel
theorem dX6_belief_30 : decode cX6_belief 30 = .ok (.ldc2_w 155, 3) := by decide +kernel
theorem dX6_belief_33 : decode cX6_belief 33 = .ok (.lreturn, 1) := by decide +kernel
theorem dX6_belief_34 : decode cX6_belief 34 = .ok (.aload_n 3, 1) := by decide +kernel
theorem dX6_belief_35 : decode cX6_belief 35 = .ok (.iload_n 1, 1) := by decide +kernel
theorem dX6_belief_36 : decode cX6_belief 36 = .ok (.invokevirtual 179, 3) := by decide +kernel
theorem dX6_belief_39 : decode cX6_belief 39 = .ok (.aload_n 3, 1) := by decide +kernel
theorem dX6_belief_40 : decode cX6_belief 40 = .ok (.getfield 160, 3) := by decide +kernel
theorem dX6_belief_43 : decode cX6_belief 43 = .ok (.iload_n 2, 1) := by decide +kernel
theorem dX6_belief_44 : decode cX6_belief 44 = .ok (.invokestatic 164, 3) := by decide +kernel
theorem dX6_belief_47 : decode cX6_belief 47 = .ok (.lreturn, 1) := by decide +kernel
set_option maxRecDepth 20000 in
theorem ggX6_fewest_X6_upToDate : GoodIn wsX6_fewest wsX6_upToDate := goodIn_r _ [6, 7, 8, 9, 10, 11, 12, 13, 14, 15, 16, 17, 18, 19, 20, 21, 22, 23, 24, 25, 26, 27, 28, 29, 30, 5, 31, 32, 33, 34, 35, 36, 37, 38, 39, 40, 41, 42, 43, 44, 45, 46, 47, 48, 49, 50, 51, 52, 53, 54, 55, 56, 57, 58, 59, 60, 61, 93, 94, 95, 96, 97, 98, 99, 100, 101, 102, 86, 87, 88, 89, 90, 91, 92, 103, 104, 105, 106, 107, 108, 109, 110] (by decide +kernel) (by decide +kernel)
set_option maxRecDepth 20000 in
theorem gX6_fewest_X6_upToDate : GoodIn wsX6_fewest (wsV RX6 107 RX6 yX6_upToDate wsX6_upToDate) := goodIn_app (goodIn_of _ (by decide +kernel)) ggX6_fewest_X6_upToDate
set_option maxRecDepth 20000 in
theorem ggX6_fewest_X2_fewestCauses : GoodIn wsX6_fewest wsX2_fewestCauses := goodIn_r _ [65, 15, 66, 67, 68, 69, 70, 71, 72, 13, 73, 41, 74, 42, 43, 44, 45, 46, 47, 48, 86, 87, 88, 89, 90, 91, 92] (by decide +kernel) (by decide +kernel)
set_option maxRecDepth 20000 in
theorem gX6_fewest_X2_fewestCauses : GoodIn wsX6_fewest (wsV RX6 182 RX2 yX2_fewestCauses wsX2_fewestCauses) := goodIn_app (goodIn_of _ (by decide +kernel)) ggX6_fewest_X2_fewestCauses
set_option maxRecDepth 20000 in
theorem ggX6_fewest_X2_mostCauses : GoodIn wsX6_fewest wsX2_mostCauses := goodIn_r _ [78, 15, 79, 80, 68, 81, 70, 71, 72, 13, 73, 41, 74, 42, 43, 44, 45, 46, 47, 48, 86, 87, 88, 89, 90, 91, 92] (by decide +kernel) (by decide +kernel)
set_option maxRecDepth 20000 in
theorem gX6_fewest_X2_mostCauses : GoodIn wsX6_fewest (wsV RX6 185 RX2 yX2_mostCauses wsX2_mostCauses) := goodIn_app (goodIn_of _ (by decide +kernel)) ggX6_fewest_X2_mostCauses
set_option maxRecDepth 20000 in
theorem ggX6_fewest_X2_countOfLength : GoodIn wsX6_fewest wsX2_countOfLength := goodIn_r _ [85, 15, 70, 71, 72, 13, 73, 41, 74, 42, 43, 44, 45, 46, 47, 48, 86, 87, 88, 89, 90, 91, 92] (by decide +kernel) (by decide +kernel)
set_option maxRecDepth 20000 in
theorem gX6_fewest_X2_countOfLength : GoodIn wsX6_fewest (wsV RX6 188 RX2 yX2_countOfLength wsX2_countOfLength) := goodIn_app (goodIn_of _ (by decide +kernel)) ggX6_fewest_X2_countOfLength
theorem dX6_fewest_0 : decode cX6_fewest 0 = .ok (.iload_n 1, 1) := by decide +kernel
theorem dX6_fewest_1 : decode cX6_fewest 1 = .ok (.ifCond .lt 8, 3) := by decide +kernel
theorem dX6_fewest_4 : decode cX6_fewest 4 = .ok (.iload_n 1, 1) := by decide +kernel
theorem dX6_fewest_5 : decode cX6_fewest 5 = .ok (.iconst 2, 1) := by decide +kernel
theorem dX6_fewest_6 : decode cX6_fewest 6 = .ok (.if_icmp .le 6, 3) := by decide +kernel
theorem dX6_fewest_9 : decode cX6_fewest 9 = .ok (.bipush (-2), 2) := by decide +kernel
theorem dX6_fewest_11 : decode cX6_fewest 11 = .ok (.ireturn, 1) := by decide +kernel
theorem dX6_fewest_12 : decode cX6_fewest 12 = .ok (.aload_n 0, 1) := by decide +kernel
theorem dX6_fewest_13 : decode cX6_fewest 13 = .ok (.invokevirtual 107, 3) := by decide +kernel
theorem dX6_fewest_16 : decode cX6_fewest 16 = .ok (.astore_n 2, 1) := by decide +kernel
theorem dX6_fewest_17 : decode cX6_fewest 17 = .ok (.aload_n 2, 1) := by decide +kernel
theorem dX6_fewest_18 : decode cX6_fewest 18 = .ok (.getfield 136, 3) := by decide +kernel
theorem dX6_fewest_21 : decode cX6_fewest 21 = .ok (.ifCond .ne 6, 3) := by decide +kernel
theorem dX6_fewest_24 : decode cX6_fewest 24 = .ok (.bipush (-9), 2) := by decide +kernel
theorem dX6_fewest_26 : decode cX6_fewest 26 = .ok (.ireturn, 1) := by decide +kernel
theorem dX6_fewest_27 : decode cX6_fewest 27 = .ok (.iload_n 1, 1) := by decide +kernel
theorem dX6_fewest_28 : decode cX6_fewest 28 = .ok (.lookupswitch 38 #[(0, 28), (1, 33)], 28) := by decide +kernel
theorem dX6_fewest_56 : decode cX6_fewest 56 = .ok (.aload_n 2, 1) := by decide +kernel
theorem dX6_fewest_57 : decode cX6_fewest 57 = .ok (.invokevirtual 182, 3) := by decide +kernel
theorem dX6_fewest_60 : decode cX6_fewest 60 = .ok (.ireturn, 1) := by decide +kernel
theorem dX6_fewest_61 : decode cX6_fewest 61 = .ok (.aload_n 2, 1) := by decide +kernel
theorem dX6_fewest_62 : decode cX6_fewest 62 = .ok (.invokevirtual 185, 3) := by decide +kernel
theorem dX6_fewest_65 : decode cX6_fewest 65 = .ok (.ireturn, 1) := by decide +kernel
theorem dX6_fewest_66 : decode cX6_fewest 66 = .ok (.aload_n 2, 1) := by decide +kernel
theorem dX6_fewest_67 : decode cX6_fewest 67 = .ok (.aload_n 2, 1) := by decide +kernel
theorem dX6_fewest_68 : decode cX6_fewest 68 = .ok (.invokevirtual 182, 3) := by decide +kernel
theorem dX6_fewest_71 : decode cX6_fewest 71 = .ok (.invokevirtual 188, 3) := by decide +kernel
theorem dX6_fewest_74 : decode cX6_fewest 74 = .ok (.ireturn, 1) := by decide +kernel
set_option maxRecDepth 20000 in
theorem ggX6_covers_X1_excludedBy : GoodIn wsX6_covers wsX1_excludedBy := goodIn_r _ [9, 10, 11, 12, 13, 43, 44, 45, 46, 47, 48] (by decide +kernel) (by decide +kernel)
set_option maxRecDepth 20000 in
theorem gX6_covers_X1_excludedBy : GoodIn wsX6_covers (wsV RX6 99 RX1 yX1_excludedBy wsX1_excludedBy) := goodIn_app (goodIn_of _ (by decide +kernel)) ggX6_covers_X1_excludedBy
set_option maxRecDepth 20000 in
theorem ggX6_covers_X1_findingsOf : GoodIn wsX6_covers wsX1_findingsOf := goodIn_r _ [17, 18, 11, 12, 13, 43, 44, 45, 46, 47, 48] (by decide +kernel) (by decide +kernel)
set_option maxRecDepth 20000 in
theorem gX6_covers_X1_findingsOf : GoodIn wsX6_covers (wsV RX6 191 RX1 yX1_findingsOf wsX1_findingsOf) := goodIn_app (goodIn_of _ (by decide +kernel)) ggX6_covers_X1_findingsOf
set_option maxRecDepth 20000 in
theorem ggX6_covers_X1_canSpareOne : GoodIn wsX6_covers wsX1_canSpareOne := goodIn_r _ [22, 11, 12, 13, 23, 24, 25, 8, 26, 18, 27, 28, 29, 30, 15, 16, 17, 43, 44, 45, 46, 47, 48] (by decide +kernel) (by decide +kernel)
set_option maxRecDepth 20000 in
theorem gX6_covers_X1_canSpareOne : GoodIn wsX6_covers (wsV RX6 194 RX1 yX1_canSpareOne wsX1_canSpareOne) := goodIn_app (goodIn_of _ (by decide +kernel)) ggX6_covers_X1_canSpareOne
theorem dX6_covers_0 : decode cX6_covers 0 = .ok (.iload_n 1, 1) := by decide +kernel
theorem dX6_covers_1 : decode cX6_covers 1 = .ok (.ifCond .lt 10, 3) := by decide +kernel
theorem dX6_covers_4 : decode cX6_covers 4 = .ok (.iload_n 1, 1) := by decide +kernel
theorem dX6_covers_5 : decode cX6_covers 5 = .ok (.sipush 1023, 3) := by decide +kernel
theorem dX6_covers_8 : decode cX6_covers 8 = .ok (.if_icmp .le 6, 3) := by decide +kernel
theorem dX6_covers_11 : decode cX6_covers 11 = .ok (.bipush (-2), 2) := by decide +kernel
theorem dX6_covers_13 : decode cX6_covers 13 = .ok (.ireturn, 1) := by decide +kernel
theorem dX6_covers_14 : decode cX6_covers 14 = .ok (.iload_n 1, 1) := by decide +kernel
theorem dX6_covers_15 : decode cX6_covers 15 = .ok (.aload_n 0, 1) := by decide +kernel
theorem dX6_covers_16 : decode cX6_covers 16 = .ok (.getfield 14, 3) := by decide +kernel
theorem dX6_covers_19 : decode cX6_covers 19 = .ok (.aload_n 0, 1) := by decide +kernel
theorem dX6_covers_20 : decode cX6_covers 20 = .ok (.getfield 21, 3) := by decide +kernel
theorem dX6_covers_23 : decode cX6_covers 23 = .ok (.getfield 95, 3) := by decide +kernel
theorem dX6_covers_26 : decode cX6_covers 26 = .ok (.invokevirtual 99, 3) := by decide +kernel
theorem dX6_covers_29 : decode cX6_covers 29 = .ok (.iand, 1) := by decide +kernel
theorem dX6_covers_30 : decode cX6_covers 30 = .ok (.ifCond .eq 7, 3) := by decide +kernel
theorem dX6_covers_33 : decode cX6_covers 33 = .ok (.iconst 1, 1) := by decide +kernel
theorem dX6_covers_34 : decode cX6_covers 34 = .ok (.goto 4, 3) := by decide +kernel
theorem dX6_covers_37 : decode cX6_covers 37 = .ok (.iconst 0, 1) := by decide +kernel
theorem dX6_covers_38 : decode cX6_covers 38 = .ok (.istore_n 2, 1) := by decide +kernel
theorem dX6_covers_39 : decode cX6_covers 39 = .ok (.iload_n 2, 1) := by decide +kernel
theorem dX6_covers_40 : decode cX6_covers 40 = .ok (.ifCond .ne 24, 3) := by decide +kernel
theorem dX6_covers_43 : decode cX6_covers 43 = .ok (.aload_n 0, 1) := by decide +kernel
theorem dX6_covers_44 : decode cX6_covers 44 = .ok (.getfield 21, 3) := by decide +kernel
theorem dX6_covers_47 : decode cX6_covers 47 = .ok (.getfield 137, 3) := by decide +kernel
theorem dX6_covers_50 : decode cX6_covers 50 = .ok (.aload_n 0, 1) := by decide +kernel
theorem dX6_covers_51 : decode cX6_covers 51 = .ok (.getfield 14, 3) := by decide +kernel
theorem dX6_covers_54 : decode cX6_covers 54 = .ok (.iload_n 1, 1) := by decide +kernel
theorem dX6_covers_55 : decode cX6_covers 55 = .ok (.invokevirtual 191, 3) := by decide +kernel
theorem dX6_covers_58 : decode cX6_covers 58 = .ok (.iconst (-1), 1) := by decide +kernel
theorem dX6_covers_59 : decode cX6_covers 59 = .ok (.ixor, 1) := by decide +kernel
theorem dX6_covers_60 : decode cX6_covers 60 = .ok (.iand, 1) := by decide +kernel
theorem dX6_covers_61 : decode cX6_covers 61 = .ok (.ifCond .eq 5, 3) := by decide +kernel
theorem dX6_covers_64 : decode cX6_covers 64 = .ok (.iconst 0, 1) := by decide +kernel
theorem dX6_covers_65 : decode cX6_covers 65 = .ok (.ireturn, 1) := by decide +kernel
theorem dX6_covers_66 : decode cX6_covers 66 = .ok (.aload_n 0, 1) := by decide +kernel
theorem dX6_covers_67 : decode cX6_covers 67 = .ok (.getfield 14, 3) := by decide +kernel
theorem dX6_covers_70 : decode cX6_covers 70 = .ok (.iload_n 1, 1) := by decide +kernel
theorem dX6_covers_71 : decode cX6_covers 71 = .ok (.aload_n 0, 1) := by decide +kernel
theorem dX6_covers_72 : decode cX6_covers 72 = .ok (.getfield 21, 3) := by decide +kernel
theorem dX6_covers_75 : decode cX6_covers 75 = .ok (.getfield 137, 3) := by decide +kernel
theorem dX6_covers_78 : decode cX6_covers 78 = .ok (.invokevirtual 194, 3) := by decide +kernel
theorem dX6_covers_81 : decode cX6_covers 81 = .ok (.ifCond .eq 7, 3) := by decide +kernel
theorem dX6_covers_84 : decode cX6_covers 84 = .ok (.iconst 1, 1) := by decide +kernel
theorem dX6_covers_85 : decode cX6_covers 85 = .ok (.goto 4, 3) := by decide +kernel
theorem dX6_covers_88 : decode cX6_covers 88 = .ok (.iconst 2, 1) := by decide +kernel
theorem dX6_covers_89 : decode cX6_covers 89 = .ok (.ireturn, 1) := by decide +kernel
set_option maxRecDepth 20000 in
theorem ggX6_unexplained_X1_excludedBy : GoodIn wsX6_unexplained wsX1_excludedBy := goodIn_r _ [9, 10, 11, 12, 13, 31, 32, 33, 34, 35, 36] (by decide +kernel) (by decide +kernel)
set_option maxRecDepth 20000 in
theorem gX6_unexplained_X1_excludedBy : GoodIn wsX6_unexplained (wsV RX6 99 RX1 yX1_excludedBy wsX1_excludedBy) := goodIn_app (goodIn_of _ (by decide +kernel)) ggX6_unexplained_X1_excludedBy
set_option maxRecDepth 20000 in
theorem ggX6_unexplained_X1_findingsOf : GoodIn wsX6_unexplained wsX1_findingsOf := goodIn_r _ [17, 18, 11, 12, 13, 31, 32, 33, 34, 35, 36] (by decide +kernel) (by decide +kernel)
set_option maxRecDepth 20000 in
theorem gX6_unexplained_X1_findingsOf : GoodIn wsX6_unexplained (wsV RX6 191 RX1 yX1_findingsOf wsX1_findingsOf) := goodIn_app (goodIn_of _ (by decide +kernel)) ggX6_unexplained_X1_findingsOf
theorem dX6_unexplained_0 : decode cX6_unexplained 0 = .ok (.sipush 1023, 3) := by decide +kernel
theorem dX6_unexplained_3 : decode cX6_unexplained 3 = .ok (.aload_n 0, 1) := by decide +kernel
theorem dX6_unexplained_4 : decode cX6_unexplained 4 = .ok (.getfield 14, 3) := by decide +kernel
theorem dX6_unexplained_7 : decode cX6_unexplained 7 = .ok (.aload_n 0, 1) := by decide +kernel
theorem dX6_unexplained_8 : decode cX6_unexplained 8 = .ok (.getfield 21, 3) := by decide +kernel
theorem dX6_unexplained_11 : decode cX6_unexplained 11 = .ok (.getfield 95, 3) := by decide +kernel
theorem dX6_unexplained_14 : decode cX6_unexplained 14 = .ok (.invokevirtual 99, 3) := by decide +kernel
theorem dX6_unexplained_17 : decode cX6_unexplained 17 = .ok (.iconst (-1), 1) := by decide +kernel
theorem dX6_unexplained_18 : decode cX6_unexplained 18 = .ok (.ixor, 1) := by decide +kernel
theorem dX6_unexplained_19 : decode cX6_unexplained 19 = .ok (.iand, 1) := by decide +kernel
theorem dX6_unexplained_20 : decode cX6_unexplained 20 = .ok (.istore_n 1, 1) := by decide +kernel
theorem dX6_unexplained_21 : decode cX6_unexplained 21 = .ok (.aload_n 0, 1) := by decide +kernel
theorem dX6_unexplained_22 : decode cX6_unexplained 22 = .ok (.getfield 21, 3) := by decide +kernel
theorem dX6_unexplained_25 : decode cX6_unexplained 25 = .ok (.getfield 137, 3) := by decide +kernel
theorem dX6_unexplained_28 : decode cX6_unexplained 28 = .ok (.aload_n 0, 1) := by decide +kernel
theorem dX6_unexplained_29 : decode cX6_unexplained 29 = .ok (.getfield 14, 3) := by decide +kernel
theorem dX6_unexplained_32 : decode cX6_unexplained 32 = .ok (.iload_n 1, 1) := by decide +kernel
theorem dX6_unexplained_33 : decode cX6_unexplained 33 = .ok (.invokevirtual 191, 3) := by decide +kernel
theorem dX6_unexplained_36 : decode cX6_unexplained 36 = .ok (.iconst (-1), 1) := by decide +kernel
theorem dX6_unexplained_37 : decode cX6_unexplained 37 = .ok (.ixor, 1) := by decide +kernel
theorem dX6_unexplained_38 : decode cX6_unexplained 38 = .ok (.iand, 1) := by decide +kernel
theorem dX6_unexplained_39 : decode cX6_unexplained 39 = .ok (.ireturn, 1) := by decide +kernel
set_option maxRecDepth 20000 in
theorem ggX6_split_X6_isFinding : GoodIn wsX6_split wsX6_isFinding := goodIn_r _ [10] (by decide +kernel) (by decide +kernel)
set_option maxRecDepth 20000 in
theorem gX6_split_X6_isFinding : GoodIn wsX6_split (va_wsS RX6 78 yX6_isFinding wsX6_isFinding) := goodIn_app (goodIn_of _ (by decide +kernel)) ggX6_split_X6_isFinding
set_option maxRecDepth 20000 in
theorem ggX6_split_X5_stateOf : GoodIn wsX6_split wsX5_stateOf := goodIn_r _ [15, 16, 17, 18, 9, 19, 132, 133] (by decide +kernel) (by decide +kernel)
set_option maxRecDepth 20000 in
theorem gX6_split_X5_stateOf : GoodIn wsX6_split (wsV RX6 114 RX5 yX5_stateOf wsX5_stateOf) := goodIn_app (goodIn_of _ (by decide +kernel)) ggX6_split_X5_stateOf
set_option maxRecDepth 20000 in
theorem ggX6_split_X6_upToDate : GoodIn wsX6_split wsX6_upToDate := goodIn_r _ [23, 24, 25, 1, 26, 27, 28, 29, 30, 31, 32, 33, 34, 35, 36, 37, 38, 39, 40, 41, 42, 43, 44, 45, 18, 9, 19, 46, 47, 48, 49, 50, 51, 52, 53, 54, 55, 56, 57, 58, 59, 60, 61, 62, 63, 64, 65, 66, 67, 68, 69, 70, 71, 72, 73, 74, 75, 119, 120, 121, 122, 123, 124, 125, 126, 127, 128, 134, 135, 136, 137, 138, 139, 140, 132, 133, 141, 142, 143, 144, 145, 146] (by decide +kernel) (by decide +kernel)
set_option maxRecDepth 20000 in
theorem gX6_split_X6_upToDate : GoodIn wsX6_split (wsV RX6 107 RX6 yX6_upToDate wsX6_upToDate) := goodIn_app (goodIn_of _ (by decide +kernel)) ggX6_split_X6_upToDate
set_option maxRecDepth 20000 in
theorem ggX6_split_X3_weigh : GoodIn wsX6_split wsX3_weigh := goodIn_r _ [80, 81, 82, 83, 84, 85, 86, 87, 29, 88, 55, 89, 90, 91, 92, 35, 93, 94, 95, 96, 97, 98, 99, 100, 43, 101, 45, 102, 129, 130, 131, 134, 135, 136, 137, 138, 139, 140, 141, 142, 143, 144, 145, 146] (by decide +kernel) (by decide +kernel)
set_option maxRecDepth 20000 in
theorem gX6_split_X3_weigh : GoodIn wsX6_split (wsV RX6 197 RX3 yX3_weigh wsX3_weigh) := goodIn_app (goodIn_of _ (by decide +kernel)) ggX6_split_X3_weigh
set_option maxRecDepth 20000 in
theorem ggX6_split_X3_worst : GoodIn wsX6_split wsX3_worst := goodIn_r _ [106, 107, 108, 109, 110, 111, 112, 113, 79, 114, 81, 83, 115, 116, 117, 118, 82, 129, 130, 131] (by decide +kernel) (by decide +kernel)
set_option maxRecDepth 20000 in
theorem gX6_split_X3_worst : GoodIn wsX6_split (wsV RX6 208 RX3 yX3_worst wsX3_worst) := goodIn_app (goodIn_of _ (by decide +kernel)) ggX6_split_X3_worst
theorem dX6_split_0 : decode cX6_split 0 = .ok (.iload_n 1, 1) := by decide +kernel
theorem dX6_split_1 : decode cX6_split 1 = .ok (.invokestatic 78, 3) := by decide +kernel
theorem dX6_split_4 : decode cX6_split 4 = .ok (.ifCond .eq 23, 3) := by decide +kernel
theorem dX6_split_7 : decode cX6_split 7 = .ok (.iload_n 2, 1) := by decide +kernel
theorem dX6_split_8 : decode cX6_split 8 = .ok (.ifCond .lt 19, 3) := by decide +kernel
theorem dX6_split_11 : decode cX6_split 11 = .ok (.iload_n 2, 1) := by decide +kernel
theorem dX6_split_12 : decode cX6_split 12 = .ok (.iconst 3, 1) := by decide +kernel
theorem dX6_split_13 : decode cX6_split 13 = .ok (.if_icmp .gt 14, 3) := by decide +kernel
theorem dX6_split_16 : decode cX6_split 16 = .ok (.aload_n 0, 1) := by decide +kernel
theorem dX6_split_17 : decode cX6_split 17 = .ok (.getfield 21, 3) := by decide +kernel
theorem dX6_split_20 : decode cX6_split 20 = .ok (.iload_n 1, 1) := by decide +kernel
theorem dX6_split_21 : decode cX6_split 21 = .ok (.invokevirtual 114, 3) := by decide +kernel
theorem dX6_split_24 : decode cX6_split 24 = .ok (.ifCond .eq 7, 3) := by decide +kernel
theorem dX6_split_27 : decode cX6_split 27 = .ok (.ldc2_w 155, 3) := by decide +kernel
theorem dX6_split_30 : decode cX6_split 30 = .ok (.lreturn, 1) := by decide +kernel
theorem dX6_split_31 : decode cX6_split 31 = .ok (.aload_n 0, 1) := by decide +kernel
theorem dX6_split_32 : decode cX6_split 32 = .ok (.getfield 50, 3) := by decide +kernel
theorem dX6_split_35 : decode cX6_split 35 = .ok (.aload_n 0, 1) := by decide +kernel
theorem dX6_split_36 : decode cX6_split 36 = .ok (.invokevirtual 107, 3) := by decide +kernel
theorem dX6_split_39 : decode cX6_split 39 = .ok (.iload_n 1, 1) := by decide +kernel
theorem dX6_split_40 : decode cX6_split 40 = .ok (.invokevirtual 197, 3) := by decide +kernel
theorem dX6_split_43 : decode cX6_split 43 = .ok (.iload_n 2, 1) := by decide +kernel
theorem dX6_split_44 : decode cX6_split 44 = .ok (.tableswitch 52 0 2 #[28, 36, 44], 28) := by decide +kernel
theorem dX6_split_72 : decode cX6_split 72 = .ok (.aload_n 0, 1) := by decide +kernel
theorem dX6_split_73 : decode cX6_split 73 = .ok (.getfield 50, 3) := by decide +kernel
theorem dX6_split_76 : decode cX6_split 76 = .ok (.getfield 201, 3) := by decide +kernel
theorem dX6_split_79 : decode cX6_split 79 = .ok (.lreturn, 1) := by decide +kernel
theorem dX6_split_80 : decode cX6_split 80 = .ok (.aload_n 0, 1) := by decide +kernel
theorem dX6_split_81 : decode cX6_split 81 = .ok (.getfield 50, 3) := by decide +kernel
theorem dX6_split_84 : decode cX6_split 84 = .ok (.getfield 203, 3) := by decide +kernel
theorem dX6_split_87 : decode cX6_split 87 = .ok (.lreturn, 1) := by decide +kernel
theorem dX6_split_88 : decode cX6_split 88 = .ok (.aload_n 0, 1) := by decide +kernel
theorem dX6_split_89 : decode cX6_split 89 = .ok (.getfield 50, 3) := by decide +kernel
theorem dX6_split_92 : decode cX6_split 92 = .ok (.getfield 205, 3) := by decide +kernel
theorem dX6_split_95 : decode cX6_split 95 = .ok (.lreturn, 1) := by decide +kernel
theorem dX6_split_96 : decode cX6_split 96 = .ok (.aload_n 0, 1) := by decide +kernel
theorem dX6_split_97 : decode cX6_split 97 = .ok (.getfield 50, 3) := by decide +kernel
theorem dX6_split_100 : decode cX6_split 100 = .ok (.invokevirtual 208, 3) := by decide +kernel
theorem dX6_split_103 : decode cX6_split 103 = .ok (.lreturn, 1) := by decide +kernel
set_option maxRecDepth 20000 in
theorem ggX6_next_X6_upToDate : GoodIn wsX6_next wsX6_upToDate := goodIn_r _ [6, 7, 8, 1, 9, 10, 11, 12, 13, 14, 15, 16, 17, 18, 19, 20, 21, 22, 23, 24, 25, 26, 27, 28, 29, 5, 30, 31, 32, 33, 34, 35, 36, 37, 38, 39, 40, 41, 42, 43, 44, 45, 46, 47, 48, 49, 50, 51, 52, 53, 54, 55, 56, 57, 58, 59, 60, 117, 118, 119, 120, 121, 122, 123, 124, 125, 126, 127, 128, 129, 130, 131, 132, 133, 134, 135, 136, 137, 138, 139, 140, 141] (by decide +kernel) (by decide +kernel)
set_option maxRecDepth 20000 in
theorem gX6_next_X6_upToDate : GoodIn wsX6_next (wsV RX6 107 RX6 yX6_upToDate wsX6_upToDate) := goodIn_app (goodIn_of _ (by decide +kernel)) ggX6_next_X6_upToDate
set_option maxRecDepth 20000 in
theorem ggX6_next_X6_bestToAsk : GoodIn wsX6_next wsX6_bestToAsk := goodIn_r _ [64, 65, 66, 67, 68, 69, 70, 71, 72, 73, 29, 5, 30, 74, 75, 76, 77, 78, 79, 80, 81, 82, 83, 84, 85, 12, 86, 40, 87, 88, 89, 90, 18, 91, 92, 93, 94, 95, 96, 97, 98, 26, 99, 28, 100, 101, 102, 103, 104, 105, 106, 107, 108, 109, 110, 111, 112, 113, 114, 115, 116, 127, 128, 129, 130, 131, 132, 133, 117, 118, 119, 120, 121, 122, 123, 124, 125, 126, 134, 135, 142, 143, 144, 136, 137, 138, 139, 140, 141] (by decide +kernel) (by decide +kernel)
set_option maxRecDepth 20000 in
theorem gX6_next_X6_bestToAsk : GoodIn wsX6_next (wsV RX6 212 RX6 yX6_bestToAsk wsX6_bestToAsk) := goodIn_app (goodIn_of _ (by decide +kernel)) ggX6_next_X6_bestToAsk
theorem dX6_next_0 : decode cX6_next 0 = .ok (.aload_n 0, 1) := by decide +kernel
theorem dX6_next_1 : decode cX6_next 1 = .ok (.aload_n 0, 1) := by decide +kernel
theorem dX6_next_2 : decode cX6_next 2 = .ok (.invokevirtual 107, 3) := by decide +kernel
theorem dX6_next_5 : decode cX6_next 5 = .ok (.aload_n 0, 1) := by decide +kernel
theorem dX6_next_6 : decode cX6_next 6 = .ok (.getfield 21, 3) := by decide +kernel
theorem dX6_next_9 : decode cX6_next 9 = .ok (.invokevirtual 212, 3) := by decide +kernel
theorem dX6_next_12 : decode cX6_next 12 = .ok (.ireturn, 1) := by decide +kernel
set_option maxRecDepth 20000 in
theorem ggX6_would_X6_isFinding : GoodIn wsX6_would wsX6_isFinding := goodIn_r _ [8] (by decide +kernel) (by decide +kernel)
set_option maxRecDepth 20000 in
theorem gX6_would_X6_isFinding : GoodIn wsX6_would (va_wsS RX6 78 yX6_isFinding wsX6_isFinding) := goodIn_app (goodIn_of _ (by decide +kernel)) ggX6_would_X6_isFinding
set_option maxRecDepth 20000 in
theorem ggX6_would_X5_copyFrom : GoodIn wsX6_would wsX5_copyFrom := goodIn_r _ [13, 14, 15, 80, 81] (by decide +kernel) (by decide +kernel)
set_option maxRecDepth 20000 in
theorem gX6_would_X5_copyFrom : GoodIn wsX6_would (wsV RX6 216 RX5 yX5_copyFrom wsX5_copyFrom) := goodIn_app (goodIn_of _ (by decide +kernel)) ggX6_would_X5_copyFrom
set_option maxRecDepth 20000 in
theorem ggX6_would_X5_put : GoodIn wsX6_would wsX5_put := goodIn_r _ [19, 14, 15, 80, 81] (by decide +kernel) (by decide +kernel)
set_option maxRecDepth 20000 in
theorem gX6_would_X5_put : GoodIn wsX6_would (wsV RX6 219 RX5 yX5_put wsX5_put) := goodIn_app (goodIn_of _ (by decide +kernel)) ggX6_would_X5_put
set_option maxRecDepth 20000 in
theorem ggX6_would_X2_list : GoodIn wsX6_would wsX2_list := goodIn_r _ [24, 25, 26, 27, 28, 29, 30, 31, 32, 33, 34, 35, 36, 37, 38, 39, 40, 7, 41, 42, 43, 23, 44, 45, 46, 47, 48, 49, 50, 51, 52, 53, 54, 55, 56, 57, 58, 59, 60, 61, 62, 73, 74, 75, 76, 77, 78, 79, 80, 81, 82, 83, 84, 85, 86, 87] (by decide +kernel) (by decide +kernel)
set_option maxRecDepth 20000 in
theorem gX6_would_X2_list : GoodIn wsX6_would (wsV RX6 223 RX2 yX2_list wsX2_list) := goodIn_app (goodIn_of _ (by decide +kernel)) ggX6_would_X2_list
theorem dX6_would_0 : decode cX6_would 0 = .ok (.iload_n 1, 1) := by decide +kernel
theorem dX6_would_1 : decode cX6_would 1 = .ok (.invokestatic 78, 3) := by decide +kernel
theorem dX6_would_4 : decode cX6_would 4 = .ok (.ifCond .ne 5, 3) := by decide +kernel
theorem dX6_would_7 : decode cX6_would 7 = .ok (.iconst (-1), 1) := by decide +kernel
theorem dX6_would_8 : decode cX6_would 8 = .ok (.ireturn, 1) := by decide +kernel
theorem dX6_would_9 : decode cX6_would 9 = .ok (.iload_n 2, 1) := by decide +kernel
theorem dX6_would_10 : decode cX6_would 10 = .ok (.ifCond .lt 8, 3) := by decide +kernel
theorem dX6_would_13 : decode cX6_would 13 = .ok (.iload_n 2, 1) := by decide +kernel
theorem dX6_would_14 : decode cX6_would 14 = .ok (.iconst 2, 1) := by decide +kernel
theorem dX6_would_15 : decode cX6_would 15 = .ok (.if_icmp .le 6, 3) := by decide +kernel
theorem dX6_would_18 : decode cX6_would 18 = .ok (.bipush (-2), 2) := by decide +kernel
theorem dX6_would_20 : decode cX6_would 20 = .ok (.ireturn, 1) := by decide +kernel
theorem dX6_would_21 : decode cX6_would 21 = .ok (.aload_n 0, 1) := by decide +kernel
theorem dX6_would_22 : decode cX6_would 22 = .ok (.getfield 41, 3) := by decide +kernel
theorem dX6_would_25 : decode cX6_would 25 = .ok (.aload_n 0, 1) := by decide +kernel
theorem dX6_would_26 : decode cX6_would 26 = .ok (.getfield 21, 3) := by decide +kernel
theorem dX6_would_29 : decode cX6_would 29 = .ok (.invokevirtual 216, 3) := by decide +kernel
theorem dX6_would_32 : decode cX6_would 32 = .ok (.aload_n 0, 1) := by decide +kernel
theorem dX6_would_33 : decode cX6_would 33 = .ok (.getfield 41, 3) := by decide +kernel
theorem dX6_would_36 : decode cX6_would 36 = .ok (.iload_n 1, 1) := by decide +kernel
theorem dX6_would_37 : decode cX6_would 37 = .ok (.iload_n 2, 1) := by decide +kernel
theorem dX6_would_38 : decode cX6_would 38 = .ok (.iconst 1, 1) := by decide +kernel
theorem dX6_would_39 : decode cX6_would 39 = .ok (.if_icmp .ne 7, 3) := by decide +kernel
theorem dX6_would_42 : decode cX6_would 42 = .ok (.iconst 1, 1) := by decide +kernel
theorem dX6_would_43 : decode cX6_would 43 = .ok (.goto 12, 3) := by decide +kernel
theorem dX6_would_46 : decode cX6_would 46 = .ok (.iload_n 2, 1) := by decide +kernel
theorem dX6_would_47 : decode cX6_would 47 = .ok (.ifCond .ne 7, 3) := by decide +kernel
theorem dX6_would_50 : decode cX6_would 50 = .ok (.iconst 2, 1) := by decide +kernel
theorem dX6_would_51 : decode cX6_would 51 = .ok (.goto 4, 3) := by decide +kernel
theorem dX6_would_54 : decode cX6_would 54 = .ok (.iconst 0, 1) := by decide +kernel
theorem dX6_would_55 : decode cX6_would 55 = .ok (.invokevirtual 219, 3) := by decide +kernel
theorem dX6_would_58 : decode cX6_would 58 = .ok (.aload_n 0, 1) := by decide +kernel
theorem dX6_would_59 : decode cX6_would 59 = .ok (.getfield 44, 3) := by decide +kernel
theorem dX6_would_62 : decode cX6_would 62 = .ok (.aload_n 0, 1) := by decide +kernel
theorem dX6_would_63 : decode cX6_would 63 = .ok (.getfield 41, 3) := by decide +kernel
theorem dX6_would_66 : decode cX6_would 66 = .ok (.invokevirtual 223, 3) := by decide +kernel
theorem dX6_would_69 : decode cX6_would 69 = .ok (.aload_n 0, 1) := by decide +kernel
theorem dX6_would_70 : decode cX6_would 70 = .ok (.getfield 44, 3) := by decide +kernel
theorem dX6_would_73 : decode cX6_would 73 = .ok (.getfield 136, 3) := by decide +kernel
theorem dX6_would_76 : decode cX6_would 76 = .ok (.ireturn, 1) := by decide +kernel
set_option maxRecDepth 20000 in
theorem ggX6_plan_X6_makePlan : GoodIn wsX6_plan wsX6_makePlan := goodIn_r _ [10, 11, 1, 2, 12, 13, 14, 15, 16, 17, 18, 19, 20, 21, 22, 23, 24, 25, 26, 27, 28, 29, 30, 31, 32, 33, 34, 35, 36, 37, 38, 39, 40, 41, 42, 43, 44, 9, 45, 46, 47, 48, 49, 50, 51, 52, 53, 54, 55, 56, 57, 58, 59, 60, 61, 62, 63, 64, 65, 66, 67, 68, 69, 70, 71, 72, 73, 74, 75, 76, 77, 78, 79, 80, 81, 82, 83, 84, 85, 86, 87, 88, 89, 90, 91, 92, 93, 94, 95, 96, 97, 98, 99, 100, 101, 102, 103, 104, 105, 106, 107, 108, 109, 110, 111, 112, 113, 114, 115, 116, 117, 118, 119, 120, 121, 122, 123, 124, 125, 126, 127, 128, 129, 130, 131, 132, 133, 134, 135, 136, 137, 138, 139, 140, 141, 142, 143, 144, 145, 146, 147, 148, 149, 150, 151, 152, 153, 154, 155, 156, 157, 158, 159, 160, 161, 162, 163, 164] (by decide +kernel) (by decide +kernel)
set_option maxRecDepth 20000 in
theorem gX6_plan_X6_makePlan : GoodIn wsX6_plan (wsV RX6 226 RX6 yX6_makePlan wsX6_makePlan) := goodIn_app (goodIn_of _ (by decide +kernel)) ggX6_plan_X6_makePlan
theorem dX6_plan_0 : decode cX6_plan 0 = .ok (.iload_n 1, 1) := by decide +kernel
theorem dX6_plan_1 : decode cX6_plan 1 = .ok (.ifCond .lt 18, 3) := by decide +kernel
theorem dX6_plan_4 : decode cX6_plan 4 = .ok (.iload_n 1, 1) := by decide +kernel
theorem dX6_plan_5 : decode cX6_plan 5 = .ok (.bipush 12, 2) := by decide +kernel
theorem dX6_plan_7 : decode cX6_plan 7 = .ok (.if_icmp .ge 12, 3) := by decide +kernel
theorem dX6_plan_10 : decode cX6_plan 10 = .ok (.iload_n 2, 1) := by decide +kernel
theorem dX6_plan_11 : decode cX6_plan 11 = .ok (.ifCond .lt 8, 3) := by decide +kernel
theorem dX6_plan_14 : decode cX6_plan 14 = .ok (.iload_n 2, 1) := by decide +kernel
theorem dX6_plan_15 : decode cX6_plan 15 = .ok (.iconst 2, 1) := by decide +kernel
theorem dX6_plan_16 : decode cX6_plan 16 = .ok (.if_icmp .le 6, 3) := by decide +kernel
theorem dX6_plan_19 : decode cX6_plan 19 = .ok (.bipush (-2), 2) := by decide +kernel
theorem dX6_plan_21 : decode cX6_plan 21 = .ok (.ireturn, 1) := by decide +kernel
theorem dX6_plan_22 : decode cX6_plan 22 = .ok (.aload_n 0, 1) := by decide +kernel
theorem dX6_plan_23 : decode cX6_plan 23 = .ok (.invokevirtual 226, 3) := by decide +kernel
theorem dX6_plan_26 : decode cX6_plan 26 = .ok (.iload_n 1, 1) := by decide +kernel
theorem dX6_plan_27 : decode cX6_plan 27 = .ok (.aload_n 0, 1) := by decide +kernel
theorem dX6_plan_28 : decode cX6_plan 28 = .ok (.getfield 57, 3) := by decide +kernel
theorem dX6_plan_31 : decode cX6_plan 31 = .ok (.getfield 229, 3) := by decide +kernel
theorem dX6_plan_34 : decode cX6_plan 34 = .ok (.if_icmp .lt 6, 3) := by decide +kernel
theorem dX6_plan_37 : decode cX6_plan 37 = .ok (.bipush (-9), 2) := by decide +kernel
theorem dX6_plan_39 : decode cX6_plan 39 = .ok (.ireturn, 1) := by decide +kernel
theorem dX6_plan_40 : decode cX6_plan 40 = .ok (.iload_n 2, 1) := by decide +kernel
theorem dX6_plan_41 : decode cX6_plan 41 = .ok (.lookupswitch 56 #[(0, 27), (1, 37)], 27) := by decide +kernel
theorem dX6_plan_68 : decode cX6_plan 68 = .ok (.aload_n 0, 1) := by decide +kernel
theorem dX6_plan_69 : decode cX6_plan 69 = .ok (.getfield 57, 3) := by decide +kernel
theorem dX6_plan_72 : decode cX6_plan 72 = .ok (.getfield 230, 3) := by decide +kernel
