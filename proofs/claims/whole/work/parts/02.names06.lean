theorem dX7_cause_47 : decode cX7_cause 47 = .ok (.iconst 0, 1) := by decide +kernel
theorem dX7_cause_48 : decode cX7_cause 48 = .ok (.putfield 59, 3) := by decide +kernel
theorem dX7_cause_51 : decode cX7_cause 51 = .ok (.iconst 1, 1) := by decide +kernel
theorem dX7_cause_52 : decode cX7_cause 52 = .ok (.ireturn, 1) := by decide +kernel
set_option maxRecDepth 20000 in
theorem ggX7_link_X7_isFinding : GoodIn wsX7_link wsX7_isFinding := goodIn_r _ [6, 7, 8, 5, 9] (by decide +kernel) (by decide +kernel)
set_option maxRecDepth 20000 in
theorem gX7_link_X7_isFinding : GoodIn wsX7_link (va_wsS RX7 63 yX7_isFinding wsX7_isFinding) := goodIn_app (goodIn_of _ (by decide +kernel)) ggX7_link_X7_isFinding
set_option maxRecDepth 20000 in
theorem ggX7_link_X7_isCause : GoodIn wsX7_link wsX7_isCause := goodIn_r _ [12, 7, 8, 5, 9] (by decide +kernel) (by decide +kernel)
set_option maxRecDepth 20000 in
theorem gX7_link_X7_isCause : GoodIn wsX7_link (va_wsS RX7 55 yX7_isCause wsX7_isCause) := goodIn_app (goodIn_of _ (by decide +kernel)) ggX7_link_X7_isCause
set_option maxRecDepth 20000 in
theorem ggX7_link_X7_within : GoodIn wsX7_link wsX7_within := goodIn_r _ [9] (by decide +kernel) (by decide +kernel)
set_option maxRecDepth 20000 in
theorem gX7_link_X7_within : GoodIn wsX7_link (va_wsS RX7 51 yX7_within wsX7_within) := goodIn_app (goodIn_of _ (by decide +kernel)) ggX7_link_X7_within
set_option maxRecDepth 20000 in
theorem ggX7_link_X7_linkAt : GoodIn wsX7_link wsX7_linkAt := goodIn_r _ [16, 1, 17, 18, 19, 20, 21, 22, 23, 24, 25, 26, 27, 28, 29, 30, 31, 32, 33] (by decide +kernel) (by decide +kernel)
set_option maxRecDepth 20000 in
theorem gX7_link_X7_linkAt : GoodIn wsX7_link (wsV RX7 66 RX7 yX7_linkAt wsX7_linkAt) := goodIn_app (goodIn_of _ (by decide +kernel)) ggX7_link_X7_linkAt
theorem dX7_link_0 : decode cX7_link 0 = .ok (.iload_n 1, 1) := by decide +kernel
theorem dX7_link_1 : decode cX7_link 1 = .ok (.invokestatic 63, 3) := by decide +kernel
theorem dX7_link_4 : decode cX7_link 4 = .ok (.ifCond .eq 10, 3) := by decide +kernel
theorem dX7_link_7 : decode cX7_link 7 = .ok (.iload_n 2, 1) := by decide +kernel
theorem dX7_link_8 : decode cX7_link 8 = .ok (.invokestatic 55, 3) := by decide +kernel
theorem dX7_link_11 : decode cX7_link 11 = .ok (.ifCond .ne 5, 3) := by decide +kernel
theorem dX7_link_14 : decode cX7_link 14 = .ok (.iconst (-1), 1) := by decide +kernel
theorem dX7_link_15 : decode cX7_link 15 = .ok (.ireturn, 1) := by decide +kernel
theorem dX7_link_16 : decode cX7_link 16 = .ok (.iload_n 3, 1) := by decide +kernel
theorem dX7_link_17 : decode cX7_link 17 = .ok (.iconst 0, 1) := by decide +kernel
theorem dX7_link_18 : decode cX7_link 18 = .ok (.iconst 2, 1) := by decide +kernel
theorem dX7_link_19 : decode cX7_link 19 = .ok (.invokestatic 51, 3) := by decide +kernel
theorem dX7_link_22 : decode cX7_link 22 = .ok (.ifCond .ne 6, 3) := by decide +kernel
theorem dX7_link_25 : decode cX7_link 25 = .ok (.bipush (-2), 2) := by decide +kernel
theorem dX7_link_27 : decode cX7_link 27 = .ok (.ireturn, 1) := by decide +kernel
theorem dX7_link_28 : decode cX7_link 28 = .ok (.aload_n 0, 1) := by decide +kernel
theorem dX7_link_29 : decode cX7_link 29 = .ok (.iload_n 1, 1) := by decide +kernel
theorem dX7_link_30 : decode cX7_link 30 = .ok (.iload_n 2, 1) := by decide +kernel
theorem dX7_link_31 : decode cX7_link 31 = .ok (.invokevirtual 66, 3) := by decide +kernel
theorem dX7_link_34 : decode cX7_link 34 = .ok (.istore 4, 2) := by decide +kernel
theorem dX7_link_36 : decode cX7_link 36 = .ok (.aload_n 0, 1) := by decide +kernel
theorem dX7_link_37 : decode cX7_link 37 = .ok (.getfield 16, 3) := by decide +kernel
theorem dX7_link_40 : decode cX7_link 40 = .ok (.bipush 10, 2) := by decide +kernel
theorem dX7_link_42 : decode cX7_link 42 = .ok (.iload_n 1, 1) := by decide +kernel
theorem dX7_link_43 : decode cX7_link 43 = .ok (.imul, 1) := by decide +kernel
theorem dX7_link_44 : decode cX7_link 44 = .ok (.iload_n 2, 1) := by decide +kernel
theorem dX7_link_45 : decode cX7_link 45 = .ok (.iadd, 1) := by decide +kernel
theorem dX7_link_46 : decode cX7_link 46 = .ok (.iload_n 3, 1) := by decide +kernel
theorem dX7_link_47 : decode cX7_link 47 = .ok (.iastore, 1) := by decide +kernel
theorem dX7_link_48 : decode cX7_link 48 = .ok (.aload_n 0, 1) := by decide +kernel
theorem dX7_link_49 : decode cX7_link 49 = .ok (.iconst 0, 1) := by decide +kernel
theorem dX7_link_50 : decode cX7_link 50 = .ok (.putfield 59, 3) := by decide +kernel
theorem dX7_link_53 : decode cX7_link 53 = .ok (.iload 4, 2) := by decide +kernel
theorem dX7_link_55 : decode cX7_link 55 = .ok (.ireturn, 1) := by decide +kernel
theorem dX7_keeps_0 : decode cX7_keeps 0 = .ok (.aload_n 0, 1) := by decide +kernel
theorem dX7_keeps_1 : decode cX7_keeps 1 = .ok (.iconst 0, 1) := by decide +kernel
theorem dX7_keeps_2 : decode cX7_keeps 2 = .ok (.putfield 59, 3) := by decide +kernel
theorem dX7_keeps_5 : decode cX7_keeps 5 = .ok (.aload_n 0, 1) := by decide +kernel
theorem dX7_keeps_6 : decode cX7_keeps 6 = .ok (.getfield 70, 3) := by decide +kernel
theorem dX7_keeps_9 : decode cX7_keeps 9 = .ok (.bipush 20, 2) := by decide +kernel
theorem dX7_keeps_11 : decode cX7_keeps 11 = .ok (.if_icmp .ne 55, 3) := by decide +kernel
theorem dX7_keeps_14 : decode cX7_keeps 14 = .ok (.iconst 1, 1) := by decide +kernel
theorem dX7_keeps_15 : decode cX7_keeps 15 = .ok (.istore_n 2, 1) := by decide +kernel
theorem dX7_keeps_16 : decode cX7_keeps 16 = .ok (.iload_n 2, 1) := by decide +kernel
theorem dX7_keeps_17 : decode cX7_keeps 17 = .ok (.bipush 20, 2) := by decide +kernel
theorem dX7_keeps_19 : decode cX7_keeps 19 = .ok (.if_icmp .ge 37, 3) := by decide +kernel
theorem dX7_keeps_22 : decode cX7_keeps 22 = .ok (.aload_n 0, 1) := by decide +kernel
theorem dX7_keeps_23 : decode cX7_keeps 23 = .ok (.getfield 22, 3) := by decide +kernel
theorem dX7_keeps_26 : decode cX7_keeps 26 = .ok (.iload_n 2, 1) := by decide +kernel
theorem dX7_keeps_27 : decode cX7_keeps 27 = .ok (.iconst 1, 1) := by decide +kernel
theorem dX7_keeps_28 : decode cX7_keeps 28 = .ok (.isub, 1) := by decide +kernel
theorem dX7_keeps_29 : decode cX7_keeps 29 = .ok (.aload_n 0, 1) := by decide +kernel
theorem dX7_keeps_30 : decode cX7_keeps 30 = .ok (.getfield 22, 3) := by decide +kernel
theorem dX7_keeps_33 : decode cX7_keeps 33 = .ok (.iload_n 2, 1) := by decide +kernel
theorem dX7_keeps_34 : decode cX7_keeps 34 = .ok (.iaload, 1) := by decide +kernel
theorem dX7_keeps_35 : decode cX7_keeps 35 = .ok (.iastore, 1) := by decide +kernel
theorem dX7_keeps_36 : decode cX7_keeps 36 = .ok (.aload_n 0, 1) := by decide +kernel
theorem dX7_keeps_37 : decode cX7_keeps 37 = .ok (.getfield 25, 3) := by decide +kernel
theorem dX7_keeps_40 : decode cX7_keeps 40 = .ok (.iload_n 2, 1) := by decide +kernel
theorem dX7_keeps_41 : decode cX7_keeps 41 = .ok (.iconst 1, 1) := by decide +kernel
theorem dX7_keeps_42 : decode cX7_keeps 42 = .ok (.isub, 1) := by decide +kernel
theorem dX7_keeps_43 : decode cX7_keeps 43 = .ok (.aload_n 0, 1) := by decide +kernel
theorem dX7_keeps_44 : decode cX7_keeps 44 = .ok (.getfield 25, 3) := by decide +kernel
theorem dX7_keeps_47 : decode cX7_keeps 47 = .ok (.iload_n 2, 1) := by decide +kernel
theorem dX7_keeps_48 : decode cX7_keeps 48 = .ok (.iaload, 1) := by decide +kernel
theorem dX7_keeps_49 : decode cX7_keeps 49 = .ok (.iastore, 1) := by decide +kernel
theorem dX7_keeps_50 : decode cX7_keeps 50 = .ok (.iinc 2 1, 3) := by decide +kernel
theorem dX7_keeps_53 : decode cX7_keeps 53 = .ok (.goto (-37), 3) := by decide +kernel
theorem dX7_keeps_56 : decode cX7_keeps 56 = .ok (.aload_n 0, 1) := by decide +kernel
theorem dX7_keeps_57 : decode cX7_keeps 57 = .ok (.dup, 1) := by decide +kernel
theorem dX7_keeps_58 : decode cX7_keeps 58 = .ok (.getfield 70, 3) := by decide +kernel
theorem dX7_keeps_61 : decode cX7_keeps 61 = .ok (.iconst 1, 1) := by decide +kernel
theorem dX7_keeps_62 : decode cX7_keeps 62 = .ok (.isub, 1) := by decide +kernel
theorem dX7_keeps_63 : decode cX7_keeps 63 = .ok (.putfield 70, 3) := by decide +kernel
theorem dX7_keeps_66 : decode cX7_keeps 66 = .ok (.aload_n 0, 1) := by decide +kernel
theorem dX7_keeps_67 : decode cX7_keeps 67 = .ok (.getfield 22, 3) := by decide +kernel
theorem dX7_keeps_70 : decode cX7_keeps 70 = .ok (.aload_n 0, 1) := by decide +kernel
theorem dX7_keeps_71 : decode cX7_keeps 71 = .ok (.getfield 70, 3) := by decide +kernel
theorem dX7_keeps_74 : decode cX7_keeps 74 = .ok (.iload_n 1, 1) := by decide +kernel
theorem dX7_keeps_75 : decode cX7_keeps 75 = .ok (.iastore, 1) := by decide +kernel
theorem dX7_keeps_76 : decode cX7_keeps 76 = .ok (.aload_n 0, 1) := by decide +kernel
theorem dX7_keeps_77 : decode cX7_keeps 77 = .ok (.getfield 25, 3) := by decide +kernel
theorem dX7_keeps_80 : decode cX7_keeps 80 = .ok (.aload_n 0, 1) := by decide +kernel
theorem dX7_keeps_81 : decode cX7_keeps 81 = .ok (.getfield 70, 3) := by decide +kernel
theorem dX7_keeps_84 : decode cX7_keeps 84 = .ok (.aload_n 0, 1) := by decide +kernel
theorem dX7_keeps_85 : decode cX7_keeps 85 = .ok (.getfield 19, 3) := by decide +kernel
theorem dX7_keeps_88 : decode cX7_keeps 88 = .ok (.iload_n 1, 1) := by decide +kernel
theorem dX7_keeps_89 : decode cX7_keeps 89 = .ok (.iaload, 1) := by decide +kernel
theorem dX7_keeps_90 : decode cX7_keeps 90 = .ok (.iastore, 1) := by decide +kernel
theorem dX7_keeps_91 : decode cX7_keeps 91 = .ok (.aload_n 0, 1) := by decide +kernel
theorem dX7_keeps_92 : decode cX7_keeps 92 = .ok (.dup, 1) := by decide +kernel
theorem dX7_keeps_93 : decode cX7_keeps 93 = .ok (.getfield 70, 3) := by decide +kernel
theorem dX7_keeps_96 : decode cX7_keeps 96 = .ok (.iconst 1, 1) := by decide +kernel
theorem dX7_keeps_97 : decode cX7_keeps 97 = .ok (.iadd, 1) := by decide +kernel
theorem dX7_keeps_98 : decode cX7_keeps 98 = .ok (.putfield 70, 3) := by decide +kernel
theorem dX7_keeps_101 : decode cX7_keeps 101 = .ok (.return_, 1) := by decide +kernel
set_option maxRecDepth 20000 in
theorem ggX7_tell_X7_isFinding : GoodIn wsX7_tell wsX7_isFinding := goodIn_r _ [5, 6, 7, 4, 8] (by decide +kernel) (by decide +kernel)
set_option maxRecDepth 20000 in
theorem gX7_tell_X7_isFinding : GoodIn wsX7_tell (va_wsS RX7 63 yX7_isFinding wsX7_isFinding) := goodIn_app (goodIn_of _ (by decide +kernel)) ggX7_tell_X7_isFinding
set_option maxRecDepth 20000 in
theorem ggX7_tell_X7_within : GoodIn wsX7_tell wsX7_within := goodIn_r _ [8] (by decide +kernel) (by decide +kernel)
set_option maxRecDepth 20000 in
theorem gX7_tell_X7_within : GoodIn wsX7_tell (va_wsS RX7 51 yX7_within wsX7_within) := goodIn_app (goodIn_of _ (by decide +kernel)) ggX7_tell_X7_within
set_option maxRecDepth 20000 in
theorem ggX7_tell_X7_keeps : GoodIn wsX7_tell wsX7_keeps := goodIn_r _ [12, 13, 14, 15, 16, 1, 66, 67, 68, 69, 70, 71, 72, 73, 74, 75, 76, 77, 78, 79, 80, 81, 82] (by decide +kernel) (by decide +kernel)
set_option maxRecDepth 20000 in
theorem gX7_tell_X7_keeps : GoodIn wsX7_tell (wsV RX7 74 RX7 yX7_keeps wsX7_keeps) := goodIn_app (goodIn_of _ (by decide +kernel)) ggX7_tell_X7_keeps
set_option maxRecDepth 20000 in
theorem ggX7_tell_X7_explanations : GoodIn wsX7_tell wsX7_explanations := goodIn_r _ [20, 13, 21, 22, 23, 24, 25, 26, 27, 4, 28, 29, 30, 31, 32, 1, 33, 34, 35, 36, 37, 38, 39, 40, 41, 42, 43, 44, 45, 46, 47, 48, 49, 50, 51, 52, 53, 54, 55, 56, 57, 58, 59, 60, 61, 62, 63, 64, 65, 66, 67, 68, 69, 70, 71, 72, 73, 74, 75, 76, 77, 78, 79, 80, 81, 82] (by decide +kernel) (by decide +kernel)
set_option maxRecDepth 20000 in
theorem gX7_tell_X7_explanations : GoodIn wsX7_tell (wsV RX7 78 RX7 yX7_explanations wsX7_explanations) := goodIn_app (goodIn_of _ (by decide +kernel)) ggX7_tell_X7_explanations
theorem dX7_tell_0 : decode cX7_tell 0 = .ok (.iload_n 1, 1) := by decide +kernel
theorem dX7_tell_1 : decode cX7_tell 1 = .ok (.invokestatic 63, 3) := by decide +kernel
theorem dX7_tell_4 : decode cX7_tell 4 = .ok (.ifCond .ne 5, 3) := by decide +kernel
theorem dX7_tell_7 : decode cX7_tell 7 = .ok (.iconst (-1), 1) := by decide +kernel
theorem dX7_tell_8 : decode cX7_tell 8 = .ok (.ireturn, 1) := by decide +kernel
theorem dX7_tell_9 : decode cX7_tell 9 = .ok (.iload_n 2, 1) := by decide +kernel
theorem dX7_tell_10 : decode cX7_tell 10 = .ok (.iconst 0, 1) := by decide +kernel
theorem dX7_tell_11 : decode cX7_tell 11 = .ok (.iconst 1, 1) := by decide +kernel
theorem dX7_tell_12 : decode cX7_tell 12 = .ok (.invokestatic 51, 3) := by decide +kernel
theorem dX7_tell_15 : decode cX7_tell 15 = .ok (.ifCond .ne 6, 3) := by decide +kernel
theorem dX7_tell_18 : decode cX7_tell 18 = .ok (.bipush (-2), 2) := by decide +kernel
theorem dX7_tell_20 : decode cX7_tell 20 = .ok (.ireturn, 1) := by decide +kernel
theorem dX7_tell_21 : decode cX7_tell 21 = .ok (.aload_n 0, 1) := by decide +kernel
theorem dX7_tell_22 : decode cX7_tell 22 = .ok (.iload_n 1, 1) := by decide +kernel
theorem dX7_tell_23 : decode cX7_tell 23 = .ok (.invokevirtual 74, 3) := by decide +kernel
theorem dX7_tell_26 : decode cX7_tell 26 = .ok (.aload_n 0, 1) := by decide +kernel
theorem dX7_tell_27 : decode cX7_tell 27 = .ok (.getfield 19, 3) := by decide +kernel
theorem dX7_tell_30 : decode cX7_tell 30 = .ok (.iload_n 1, 1) := by decide +kernel
theorem dX7_tell_31 : decode cX7_tell 31 = .ok (.iload_n 2, 1) := by decide +kernel
theorem dX7_tell_32 : decode cX7_tell 32 = .ok (.iconst 1, 1) := by decide +kernel
theorem dX7_tell_33 : decode cX7_tell 33 = .ok (.if_icmp .ne 7, 3) := by decide +kernel
theorem dX7_tell_36 : decode cX7_tell 36 = .ok (.iconst 1, 1) := by decide +kernel
theorem dX7_tell_37 : decode cX7_tell 37 = .ok (.goto 4, 3) := by decide +kernel
theorem dX7_tell_40 : decode cX7_tell 40 = .ok (.iconst 2, 1) := by decide +kernel
theorem dX7_tell_41 : decode cX7_tell 41 = .ok (.iastore, 1) := by decide +kernel
theorem dX7_tell_42 : decode cX7_tell 42 = .ok (.aload_n 0, 1) := by decide +kernel
theorem dX7_tell_43 : decode cX7_tell 43 = .ok (.invokevirtual 78, 3) := by decide +kernel
theorem dX7_tell_46 : decode cX7_tell 46 = .ok (.ireturn, 1) := by decide +kernel
set_option maxRecDepth 20000 in
theorem ggX7_withdraw_X7_isFinding : GoodIn wsX7_withdraw wsX7_isFinding := goodIn_r _ [5, 6, 7, 4, 8] (by decide +kernel) (by decide +kernel)
set_option maxRecDepth 20000 in
theorem gX7_withdraw_X7_isFinding : GoodIn wsX7_withdraw (va_wsS RX7 63 yX7_isFinding wsX7_isFinding) := goodIn_app (goodIn_of _ (by decide +kernel)) ggX7_withdraw_X7_isFinding
set_option maxRecDepth 20000 in
theorem ggX7_withdraw_X7_keeps : GoodIn wsX7_withdraw wsX7_keeps := goodIn_r _ [12, 13, 14, 15, 16, 1, 66, 67, 68, 69, 70, 71, 72, 73, 74, 75, 76, 77, 78, 79, 80, 81, 82] (by decide +kernel) (by decide +kernel)
set_option maxRecDepth 20000 in
theorem gX7_withdraw_X7_keeps : GoodIn wsX7_withdraw (wsV RX7 74 RX7 yX7_keeps wsX7_keeps) := goodIn_app (goodIn_of _ (by decide +kernel)) ggX7_withdraw_X7_keeps
set_option maxRecDepth 20000 in
theorem ggX7_withdraw_X7_explanations : GoodIn wsX7_withdraw wsX7_explanations := goodIn_r _ [20, 13, 21, 22, 23, 24, 25, 26, 27, 4, 28, 29, 30, 31, 32, 1, 33, 34, 35, 36, 37, 38, 39, 40, 41, 42, 43, 44, 45, 46, 47, 48, 49, 50, 51, 52, 53, 54, 55, 56, 57, 58, 59, 60, 61, 62, 63, 64, 65, 66, 67, 68, 69, 70, 71, 72, 73, 74, 75, 76, 77, 78, 79, 80, 81, 82] (by decide +kernel) (by decide +kernel)
set_option maxRecDepth 20000 in
theorem gX7_withdraw_X7_explanations : GoodIn wsX7_withdraw (wsV RX7 78 RX7 yX7_explanations wsX7_explanations) := goodIn_app (goodIn_of _ (by decide +kernel)) ggX7_withdraw_X7_explanations
theorem dX7_withdraw_0 : decode cX7_withdraw 0 = .ok (.iload_n 1, 1) := by decide +kernel
theorem dX7_withdraw_1 : decode cX7_withdraw 1 = .ok (.invokestatic 63, 3) := by decide +kernel
theorem dX7_withdraw_4 : decode cX7_withdraw 4 = .ok (.ifCond .ne 5, 3) := by decide +kernel
theorem dX7_withdraw_7 : decode cX7_withdraw 7 = .ok (.iconst (-1), 1) := by decide +kernel
theorem dX7_withdraw_8 : decode cX7_withdraw 8 = .ok (.ireturn, 1) := by decide +kernel
theorem dX7_withdraw_9 : decode cX7_withdraw 9 = .ok (.aload_n 0, 1) := by decide +kernel
theorem dX7_withdraw_10 : decode cX7_withdraw 10 = .ok (.getfield 19, 3) := by decide +kernel
theorem dX7_withdraw_13 : decode cX7_withdraw 13 = .ok (.iload_n 1, 1) := by decide +kernel
theorem dX7_withdraw_14 : decode cX7_withdraw 14 = .ok (.iaload, 1) := by decide +kernel
theorem dX7_withdraw_15 : decode cX7_withdraw 15 = .ok (.ifCond .ne 6, 3) := by decide +kernel
theorem dX7_withdraw_18 : decode cX7_withdraw 18 = .ok (.bipush (-3), 2) := by decide +kernel
theorem dX7_withdraw_20 : decode cX7_withdraw 20 = .ok (.ireturn, 1) := by decide +kernel
theorem dX7_withdraw_21 : decode cX7_withdraw 21 = .ok (.aload_n 0, 1) := by decide +kernel
theorem dX7_withdraw_22 : decode cX7_withdraw 22 = .ok (.iload_n 1, 1) := by decide +kernel
theorem dX7_withdraw_23 : decode cX7_withdraw 23 = .ok (.invokevirtual 74, 3) := by decide +kernel
theorem dX7_withdraw_26 : decode cX7_withdraw 26 = .ok (.aload_n 0, 1) := by decide +kernel
theorem dX7_withdraw_27 : decode cX7_withdraw 27 = .ok (.getfield 19, 3) := by decide +kernel
theorem dX7_withdraw_30 : decode cX7_withdraw 30 = .ok (.iload_n 1, 1) := by decide +kernel
theorem dX7_withdraw_31 : decode cX7_withdraw 31 = .ok (.iconst 0, 1) := by decide +kernel
theorem dX7_withdraw_32 : decode cX7_withdraw 32 = .ok (.iastore, 1) := by decide +kernel
theorem dX7_withdraw_33 : decode cX7_withdraw 33 = .ok (.aload_n 0, 1) := by decide +kernel
theorem dX7_withdraw_34 : decode cX7_withdraw 34 = .ok (.invokevirtual 78, 3) := by decide +kernel
theorem dX7_withdraw_37 : decode cX7_withdraw 37 = .ok (.ireturn, 1) := by decide +kernel
set_option maxRecDepth 20000 in
theorem ggX7_back_X7_explanations : GoodIn wsX7_back wsX7_explanations := goodIn_r _ [10, 2, 11, 12, 13, 14, 15, 16, 17, 9, 18, 19, 20, 21, 22, 3, 23, 24, 25, 26, 27, 28, 29, 30, 31, 32, 33, 34, 35, 36, 37, 38, 39, 40, 41, 42, 43, 44, 45, 46, 47, 48, 49, 50, 51, 52, 53, 54, 55, 56, 57, 58, 59, 60, 61, 62, 63, 64, 65, 66, 67, 68, 69, 70, 71, 72] (by decide +kernel) (by decide +kernel)
set_option maxRecDepth 20000 in
theorem gX7_back_X7_explanations : GoodIn wsX7_back (wsV RX7 78 RX7 yX7_explanations wsX7_explanations) := goodIn_app (goodIn_of _ (by decide +kernel)) ggX7_back_X7_explanations
theorem dX7_back_0 : decode cX7_back 0 = .ok (.aload_n 0, 1) := by decide +kernel
theorem dX7_back_1 : decode cX7_back 1 = .ok (.getfield 70, 3) := by decide +kernel
theorem dX7_back_4 : decode cX7_back 4 = .ok (.ifCond .ne 6, 3) := by decide +kernel
theorem dX7_back_7 : decode cX7_back 7 = .ok (.bipush (-3), 2) := by decide +kernel
theorem dX7_back_9 : decode cX7_back 9 = .ok (.ireturn, 1) := by decide +kernel
theorem dX7_back_10 : decode cX7_back 10 = .ok (.aload_n 0, 1) := by decide +kernel
theorem dX7_back_11 : decode cX7_back 11 = .ok (.dup, 1) := by decide +kernel
theorem dX7_back_12 : decode cX7_back 12 = .ok (.getfield 70, 3) := by decide +kernel
theorem dX7_back_15 : decode cX7_back 15 = .ok (.iconst 1, 1) := by decide +kernel
theorem dX7_back_16 : decode cX7_back 16 = .ok (.isub, 1) := by decide +kernel
theorem dX7_back_17 : decode cX7_back 17 = .ok (.putfield 70, 3) := by decide +kernel
theorem dX7_back_20 : decode cX7_back 20 = .ok (.aload_n 0, 1) := by decide +kernel
theorem dX7_back_21 : decode cX7_back 21 = .ok (.iconst 0, 1) := by decide +kernel
theorem dX7_back_22 : decode cX7_back 22 = .ok (.putfield 59, 3) := by decide +kernel
theorem dX7_back_25 : decode cX7_back 25 = .ok (.aload_n 0, 1) := by decide +kernel
theorem dX7_back_26 : decode cX7_back 26 = .ok (.getfield 19, 3) := by decide +kernel
theorem dX7_back_29 : decode cX7_back 29 = .ok (.aload_n 0, 1) := by decide +kernel
theorem dX7_back_30 : decode cX7_back 30 = .ok (.getfield 22, 3) := by decide +kernel
theorem dX7_back_33 : decode cX7_back 33 = .ok (.aload_n 0, 1) := by decide +kernel
theorem dX7_back_34 : decode cX7_back 34 = .ok (.getfield 70, 3) := by decide +kernel
theorem dX7_back_37 : decode cX7_back 37 = .ok (.iaload, 1) := by decide +kernel
theorem dX7_back_38 : decode cX7_back 38 = .ok (.aload_n 0, 1) := by decide +kernel
theorem dX7_back_39 : decode cX7_back 39 = .ok (.getfield 25, 3) := by decide +kernel
theorem dX7_back_42 : decode cX7_back 42 = .ok (.aload_n 0, 1) := by decide +kernel
theorem dX7_back_43 : decode cX7_back 43 = .ok (.getfield 70, 3) := by decide +kernel
theorem dX7_back_46 : decode cX7_back 46 = .ok (.iaload, 1) := by decide +kernel
theorem dX7_back_47 : decode cX7_back 47 = .ok (.iastore, 1) := by decide +kernel
theorem dX7_back_48 : decode cX7_back 48 = .ok (.aload_n 0, 1) := by decide +kernel
theorem dX7_back_49 : decode cX7_back 49 = .ok (.invokevirtual 78, 3) := by decide +kernel
theorem dX7_back_52 : decode cX7_back 52 = .ok (.ireturn, 1) := by decide +kernel
theorem dX7_manyThat_0 : decode cX7_manyThat 0 = .ok (.iconst 0, 1) := by decide +kernel
theorem dX7_manyThat_1 : decode cX7_manyThat 1 = .ok (.istore_n 2, 1) := by decide +kernel
theorem dX7_manyThat_2 : decode cX7_manyThat 2 = .ok (.iconst 0, 1) := by decide +kernel
theorem dX7_manyThat_3 : decode cX7_manyThat 3 = .ok (.istore_n 3, 1) := by decide +kernel
theorem dX7_manyThat_4 : decode cX7_manyThat 4 = .ok (.iload_n 3, 1) := by decide +kernel
theorem dX7_manyThat_5 : decode cX7_manyThat 5 = .ok (.bipush 12, 2) := by decide +kernel
theorem dX7_manyThat_7 : decode cX7_manyThat 7 = .ok (.if_icmp .ge 27, 3) := by decide +kernel
theorem dX7_manyThat_10 : decode cX7_manyThat 10 = .ok (.iload_n 2, 1) := by decide +kernel
theorem dX7_manyThat_11 : decode cX7_manyThat 11 = .ok (.aload_n 0, 1) := by decide +kernel
theorem dX7_manyThat_12 : decode cX7_manyThat 12 = .ok (.getfield 19, 3) := by decide +kernel
theorem dX7_manyThat_15 : decode cX7_manyThat 15 = .ok (.iload_n 3, 1) := by decide +kernel
theorem dX7_manyThat_16 : decode cX7_manyThat 16 = .ok (.iaload, 1) := by decide +kernel
theorem dX7_manyThat_17 : decode cX7_manyThat 17 = .ok (.iload_n 1, 1) := by decide +kernel
theorem dX7_manyThat_18 : decode cX7_manyThat 18 = .ok (.if_icmp .ne 7, 3) := by decide +kernel
theorem dX7_manyThat_21 : decode cX7_manyThat 21 = .ok (.iconst 1, 1) := by decide +kernel
theorem dX7_manyThat_22 : decode cX7_manyThat 22 = .ok (.goto 4, 3) := by decide +kernel
theorem dX7_manyThat_25 : decode cX7_manyThat 25 = .ok (.iconst 0, 1) := by decide +kernel
theorem dX7_manyThat_26 : decode cX7_manyThat 26 = .ok (.iadd, 1) := by decide +kernel
theorem dX7_manyThat_27 : decode cX7_manyThat 27 = .ok (.istore_n 2, 1) := by decide +kernel
theorem dX7_manyThat_28 : decode cX7_manyThat 28 = .ok (.iinc 3 1, 3) := by decide +kernel
theorem dX7_manyThat_31 : decode cX7_manyThat 31 = .ok (.goto (-27), 3) := by decide +kernel
theorem dX7_manyThat_34 : decode cX7_manyThat 34 = .ok (.iload_n 2, 1) := by decide +kernel
theorem dX7_manyThat_35 : decode cX7_manyThat 35 = .ok (.ireturn, 1) := by decide +kernel
set_option maxRecDepth 20000 in
theorem ggX7_anew_X7_manyThat : GoodIn wsX7_anew wsX7_manyThat := goodIn_r _ [8, 1, 9, 10, 11, 12, 13, 14, 15, 16, 17, 18, 19, 20, 21, 22, 23, 24, 25] (by decide +kernel) (by decide +kernel)
set_option maxRecDepth 20000 in
theorem gX7_anew_X7_manyThat : GoodIn wsX7_anew (wsV RX7 82 RX7 yX7_manyThat wsX7_manyThat) := goodIn_app (goodIn_of _ (by decide +kernel)) ggX7_anew_X7_manyThat
theorem dX7_anew_0 : decode cX7_anew 0 = .ok (.aload_n 0, 1) := by decide +kernel
theorem dX7_anew_1 : decode cX7_anew 1 = .ok (.iconst 1, 1) := by decide +kernel
theorem dX7_anew_2 : decode cX7_anew 2 = .ok (.invokevirtual 82, 3) := by decide +kernel
theorem dX7_anew_5 : decode cX7_anew 5 = .ok (.aload_n 0, 1) := by decide +kernel
theorem dX7_anew_6 : decode cX7_anew 6 = .ok (.iconst 2, 1) := by decide +kernel
theorem dX7_anew_7 : decode cX7_anew 7 = .ok (.invokevirtual 82, 3) := by decide +kernel
theorem dX7_anew_10 : decode cX7_anew 10 = .ok (.iadd, 1) := by decide +kernel
theorem dX7_anew_11 : decode cX7_anew 11 = .ok (.istore_n 1, 1) := by decide +kernel
theorem dX7_anew_12 : decode cX7_anew 12 = .ok (.iconst 0, 1) := by decide +kernel
theorem dX7_anew_13 : decode cX7_anew 13 = .ok (.istore_n 2, 1) := by decide +kernel
theorem dX7_anew_14 : decode cX7_anew 14 = .ok (.iload_n 2, 1) := by decide +kernel
theorem dX7_anew_15 : decode cX7_anew 15 = .ok (.bipush 12, 2) := by decide +kernel
theorem dX7_anew_17 : decode cX7_anew 17 = .ok (.if_icmp .ge 16, 3) := by decide +kernel
theorem dX7_anew_20 : decode cX7_anew 20 = .ok (.aload_n 0, 1) := by decide +kernel
theorem dX7_anew_21 : decode cX7_anew 21 = .ok (.getfield 19, 3) := by decide +kernel
theorem dX7_anew_24 : decode cX7_anew 24 = .ok (.iload_n 2, 1) := by decide +kernel
theorem dX7_anew_25 : decode cX7_anew 25 = .ok (.iconst 0, 1) := by decide +kernel
theorem dX7_anew_26 : decode cX7_anew 26 = .ok (.iastore, 1) := by decide +kernel
theorem dX7_anew_27 : decode cX7_anew 27 = .ok (.iinc 2 1, 3) := by decide +kernel
theorem dX7_anew_30 : decode cX7_anew 30 = .ok (.goto (-16), 3) := by decide +kernel
theorem dX7_anew_33 : decode cX7_anew 33 = .ok (.aload_n 0, 1) := by decide +kernel
theorem dX7_anew_34 : decode cX7_anew 34 = .ok (.iconst 0, 1) := by decide +kernel
theorem dX7_anew_35 : decode cX7_anew 35 = .ok (.putfield 70, 3) := by decide +kernel
theorem dX7_anew_38 : decode cX7_anew 38 = .ok (.aload_n 0, 1) := by decide +kernel
theorem dX7_anew_39 : decode cX7_anew 39 = .ok (.iconst 0, 1) := by decide +kernel
theorem dX7_anew_40 : decode cX7_anew 40 = .ok (.putfield 59, 3) := by decide +kernel
theorem dX7_anew_43 : decode cX7_anew 43 = .ok (.iload_n 1, 1) := by decide +kernel
theorem dX7_anew_44 : decode cX7_anew 44 = .ok (.ireturn, 1) := by decide +kernel
set_option maxRecDepth 20000 in
theorem ggX7_isExcluded_X7_linkAt : GoodIn wsX7_isExcluded wsX7_linkAt := goodIn_r _ [6, 7, 8, 9, 10, 11, 12, 13, 14, 15, 16, 17, 18, 19, 20, 21, 22, 23, 24] (by decide +kernel) (by decide +kernel)
set_option maxRecDepth 20000 in
theorem gX7_isExcluded_X7_linkAt : GoodIn wsX7_isExcluded (wsV RX7 66 RX7 yX7_linkAt wsX7_linkAt) := goodIn_app (goodIn_of _ (by decide +kernel)) ggX7_isExcluded_X7_linkAt
theorem dX7_isExcluded_0 : decode cX7_isExcluded 0 = .ok (.iconst 0, 1) := by decide +kernel
theorem dX7_isExcluded_1 : decode cX7_isExcluded 1 = .ok (.istore_n 2, 1) := by decide +kernel
theorem dX7_isExcluded_2 : decode cX7_isExcluded 2 = .ok (.iload_n 2, 1) := by decide +kernel
theorem dX7_isExcluded_3 : decode cX7_isExcluded 3 = .ok (.bipush 12, 2) := by decide +kernel
theorem dX7_isExcluded_5 : decode cX7_isExcluded 5 = .ok (.if_icmp .ge 31, 3) := by decide +kernel
theorem dX7_isExcluded_8 : decode cX7_isExcluded 8 = .ok (.aload_n 0, 1) := by decide +kernel
theorem dX7_isExcluded_9 : decode cX7_isExcluded 9 = .ok (.getfield 19, 3) := by decide +kernel
theorem dX7_isExcluded_12 : decode cX7_isExcluded 12 = .ok (.iload_n 2, 1) := by decide +kernel
theorem dX7_isExcluded_13 : decode cX7_isExcluded 13 = .ok (.iaload, 1) := by decide +kernel
theorem dX7_isExcluded_14 : decode cX7_isExcluded 14 = .ok (.iconst 2, 1) := by decide +kernel
theorem dX7_isExcluded_15 : decode cX7_isExcluded 15 = .ok (.if_icmp .ne 15, 3) := by decide +kernel
theorem dX7_isExcluded_18 : decode cX7_isExcluded 18 = .ok (.aload_n 0, 1) := by decide +kernel
theorem dX7_isExcluded_19 : decode cX7_isExcluded 19 = .ok (.iload_n 2, 1) := by decide +kernel
theorem dX7_isExcluded_20 : decode cX7_isExcluded 20 = .ok (.iload_n 1, 1) := by decide +kernel
theorem dX7_isExcluded_21 : decode cX7_isExcluded 21 = .ok (.invokevirtual 66, 3) := by decide +kernel
theorem dX7_isExcluded_24 : decode cX7_isExcluded 24 = .ok (.iconst 2, 1) := by decide +kernel
theorem dX7_isExcluded_25 : decode cX7_isExcluded 25 = .ok (.if_icmp .ne 5, 3) := by decide +kernel
theorem dX7_isExcluded_28 : decode cX7_isExcluded 28 = .ok (.iconst 1, 1) := by decide +kernel
theorem dX7_isExcluded_29 : decode cX7_isExcluded 29 = .ok (.ireturn, 1) := by decide +kernel
theorem dX7_isExcluded_30 : decode cX7_isExcluded 30 = .ok (.iinc 2 1, 3) := by decide +kernel
theorem dX7_isExcluded_33 : decode cX7_isExcluded 33 = .ok (.goto (-31), 3) := by decide +kernel
theorem dX7_isExcluded_36 : decode cX7_isExcluded 36 = .ok (.iconst 0, 1) := by decide +kernel
theorem dX7_isExcluded_37 : decode cX7_isExcluded 37 = .ok (.ireturn, 1) := by decide +kernel
set_option maxRecDepth 20000 in
theorem ggX7_isLinked_X7_isIn : GoodIn wsX7_isLinked wsX7_isIn := goodIn_r _ [4] (by decide +kernel) (by decide +kernel)
set_option maxRecDepth 20000 in
theorem gX7_isLinked_X7_isIn : GoodIn wsX7_isLinked (va_wsS RX7 86 yX7_isIn wsX7_isIn) := goodIn_app (goodIn_of _ (by decide +kernel)) ggX7_isLinked_X7_isIn
set_option maxRecDepth 20000 in
theorem ggX7_isLinked_X7_linkAt : GoodIn wsX7_isLinked wsX7_linkAt := goodIn_r _ [8, 9, 10, 11, 12, 13, 14, 15, 16, 17, 18, 19, 20, 21, 22, 23, 24, 25, 26] (by decide +kernel) (by decide +kernel)
set_option maxRecDepth 20000 in
theorem gX7_isLinked_X7_linkAt : GoodIn wsX7_isLinked (wsV RX7 66 RX7 yX7_linkAt wsX7_linkAt) := goodIn_app (goodIn_of _ (by decide +kernel)) ggX7_isLinked_X7_linkAt
theorem dX7_isLinked_0 : decode cX7_isLinked 0 = .ok (.iconst 0, 1) := by decide +kernel
theorem dX7_isLinked_1 : decode cX7_isLinked 1 = .ok (.istore_n 3, 1) := by decide +kernel
theorem dX7_isLinked_2 : decode cX7_isLinked 2 = .ok (.iload_n 3, 1) := by decide +kernel
theorem dX7_isLinked_3 : decode cX7_isLinked 3 = .ok (.bipush 10, 2) := by decide +kernel
theorem dX7_isLinked_5 : decode cX7_isLinked 5 = .ok (.if_icmp .ge 28, 3) := by decide +kernel
theorem dX7_isLinked_8 : decode cX7_isLinked 8 = .ok (.iload_n 2, 1) := by decide +kernel
theorem dX7_isLinked_9 : decode cX7_isLinked 9 = .ok (.iload_n 3, 1) := by decide +kernel
theorem dX7_isLinked_10 : decode cX7_isLinked 10 = .ok (.invokestatic 86, 3) := by decide +kernel
theorem dX7_isLinked_13 : decode cX7_isLinked 13 = .ok (.ifCond .eq 14, 3) := by decide +kernel
theorem dX7_isLinked_16 : decode cX7_isLinked 16 = .ok (.aload_n 0, 1) := by decide +kernel
theorem dX7_isLinked_17 : decode cX7_isLinked 17 = .ok (.iload_n 1, 1) := by decide +kernel
theorem dX7_isLinked_18 : decode cX7_isLinked 18 = .ok (.iload_n 3, 1) := by decide +kernel
theorem dX7_isLinked_19 : decode cX7_isLinked 19 = .ok (.invokevirtual 66, 3) := by decide +kernel
theorem dX7_isLinked_22 : decode cX7_isLinked 22 = .ok (.ifCond .le 5, 3) := by decide +kernel
theorem dX7_isLinked_25 : decode cX7_isLinked 25 = .ok (.iconst 1, 1) := by decide +kernel
theorem dX7_isLinked_26 : decode cX7_isLinked 26 = .ok (.ireturn, 1) := by decide +kernel
theorem dX7_isLinked_27 : decode cX7_isLinked 27 = .ok (.iinc 3 1, 3) := by decide +kernel
theorem dX7_isLinked_30 : decode cX7_isLinked 30 = .ok (.goto (-28), 3) := by decide +kernel
theorem dX7_isLinked_33 : decode cX7_isLinked 33 = .ok (.iconst 0, 1) := by decide +kernel
theorem dX7_isLinked_34 : decode cX7_isLinked 34 = .ok (.ireturn, 1) := by decide +kernel
set_option maxRecDepth 20000 in
theorem ggX7_isMust_X7_isIn : GoodIn wsX7_isMust wsX7_isIn := goodIn_r _ [4] (by decide +kernel) (by decide +kernel)
set_option maxRecDepth 20000 in
theorem gX7_isMust_X7_isIn : GoodIn wsX7_isMust (va_wsS RX7 86 yX7_isIn wsX7_isIn) := goodIn_app (goodIn_of _ (by decide +kernel)) ggX7_isMust_X7_isIn
set_option maxRecDepth 20000 in
theorem ggX7_isMust_X7_linkAt : GoodIn wsX7_isMust wsX7_linkAt := goodIn_r _ [8, 9, 10, 11, 12, 13, 14, 15, 16, 17, 18, 19, 20, 21, 22, 23, 24, 25, 26] (by decide +kernel) (by decide +kernel)
set_option maxRecDepth 20000 in
theorem gX7_isMust_X7_linkAt : GoodIn wsX7_isMust (wsV RX7 66 RX7 yX7_linkAt wsX7_linkAt) := goodIn_app (goodIn_of _ (by decide +kernel)) ggX7_isMust_X7_linkAt
theorem dX7_isMust_0 : decode cX7_isMust 0 = .ok (.iconst 0, 1) := by decide +kernel
theorem dX7_isMust_1 : decode cX7_isMust 1 = .ok (.istore_n 3, 1) := by decide +kernel
theorem dX7_isMust_2 : decode cX7_isMust 2 = .ok (.iload_n 3, 1) := by decide +kernel
theorem dX7_isMust_3 : decode cX7_isMust 3 = .ok (.bipush 10, 2) := by decide +kernel
theorem dX7_isMust_5 : decode cX7_isMust 5 = .ok (.if_icmp .ge 29, 3) := by decide +kernel
theorem dX7_isMust_8 : decode cX7_isMust 8 = .ok (.iload_n 2, 1) := by decide +kernel
theorem dX7_isMust_9 : decode cX7_isMust 9 = .ok (.iload_n 3, 1) := by decide +kernel
theorem dX7_isMust_10 : decode cX7_isMust 10 = .ok (.invokestatic 86, 3) := by decide +kernel
theorem dX7_isMust_13 : decode cX7_isMust 13 = .ok (.ifCond .eq 15, 3) := by decide +kernel
theorem dX7_isMust_16 : decode cX7_isMust 16 = .ok (.aload_n 0, 1) := by decide +kernel
theorem dX7_isMust_17 : decode cX7_isMust 17 = .ok (.iload_n 1, 1) := by decide +kernel
theorem dX7_isMust_18 : decode cX7_isMust 18 = .ok (.iload_n 3, 1) := by decide +kernel
theorem dX7_isMust_19 : decode cX7_isMust 19 = .ok (.invokevirtual 66, 3) := by decide +kernel
theorem dX7_isMust_22 : decode cX7_isMust 22 = .ok (.iconst 2, 1) := by decide +kernel
theorem dX7_isMust_23 : decode cX7_isMust 23 = .ok (.if_icmp .ne 5, 3) := by decide +kernel
theorem dX7_isMust_26 : decode cX7_isMust 26 = .ok (.iconst 1, 1) := by decide +kernel
theorem dX7_isMust_27 : decode cX7_isMust 27 = .ok (.ireturn, 1) := by decide +kernel
theorem dX7_isMust_28 : decode cX7_isMust 28 = .ok (.iinc 3 1, 3) := by decide +kernel
theorem dX7_isMust_31 : decode cX7_isMust 31 = .ok (.goto (-29), 3) := by decide +kernel
theorem dX7_isMust_34 : decode cX7_isMust 34 = .ok (.iconst 0, 1) := by decide +kernel
theorem dX7_isMust_35 : decode cX7_isMust 35 = .ok (.ireturn, 1) := by decide +kernel
set_option maxRecDepth 20000 in
theorem ggX7_excluded_X7_isExcluded : GoodIn wsX7_excluded wsX7_isExcluded := goodIn_r _ [5, 6, 7, 8, 9, 4, 10, 11, 12, 13, 14, 15, 16, 17, 18, 19, 20, 21, 22, 23, 24, 25, 26, 27, 28] (by decide +kernel) (by decide +kernel)
set_option maxRecDepth 20000 in
theorem gX7_excluded_X7_isExcluded : GoodIn wsX7_excluded (wsV RX7 90 RX7 yX7_isExcluded wsX7_isExcluded) := goodIn_app (goodIn_of _ (by decide +kernel)) ggX7_excluded_X7_isExcluded
theorem dX7_excluded_0 : decode cX7_excluded 0 = .ok (.iconst 0, 1) := by decide +kernel
theorem dX7_excluded_1 : decode cX7_excluded 1 = .ok (.istore_n 1, 1) := by decide +kernel
theorem dX7_excluded_2 : decode cX7_excluded 2 = .ok (.iconst 0, 1) := by decide +kernel
theorem dX7_excluded_3 : decode cX7_excluded 3 = .ok (.istore_n 2, 1) := by decide +kernel
theorem dX7_excluded_4 : decode cX7_excluded 4 = .ok (.iload_n 2, 1) := by decide +kernel
theorem dX7_excluded_5 : decode cX7_excluded 5 = .ok (.bipush 10, 2) := by decide +kernel
theorem dX7_excluded_7 : decode cX7_excluded 7 = .ok (.if_icmp .ge 27, 3) := by decide +kernel
theorem dX7_excluded_10 : decode cX7_excluded 10 = .ok (.iload_n 1, 1) := by decide +kernel
theorem dX7_excluded_11 : decode cX7_excluded 11 = .ok (.aload_n 0, 1) := by decide +kernel
theorem dX7_excluded_12 : decode cX7_excluded 12 = .ok (.iload_n 2, 1) := by decide +kernel
theorem dX7_excluded_13 : decode cX7_excluded 13 = .ok (.invokevirtual 90, 3) := by decide +kernel
theorem dX7_excluded_16 : decode cX7_excluded 16 = .ok (.ifCond .eq 9, 3) := by decide +kernel
theorem dX7_excluded_19 : decode cX7_excluded 19 = .ok (.iconst 1, 1) := by decide +kernel
theorem dX7_excluded_20 : decode cX7_excluded 20 = .ok (.iload_n 2, 1) := by decide +kernel
theorem dX7_excluded_21 : decode cX7_excluded 21 = .ok (.ishl, 1) := by decide +kernel
theorem dX7_excluded_22 : decode cX7_excluded 22 = .ok (.goto 4, 3) := by decide +kernel
theorem dX7_excluded_25 : decode cX7_excluded 25 = .ok (.iconst 0, 1) := by decide +kernel
theorem dX7_excluded_26 : decode cX7_excluded 26 = .ok (.ior, 1) := by decide +kernel
theorem dX7_excluded_27 : decode cX7_excluded 27 = .ok (.istore_n 1, 1) := by decide +kernel
theorem dX7_excluded_28 : decode cX7_excluded 28 = .ok (.iinc 2 1, 3) := by decide +kernel
theorem dX7_excluded_31 : decode cX7_excluded 31 = .ok (.goto (-27), 3) := by decide +kernel
theorem dX7_excluded_34 : decode cX7_excluded 34 = .ok (.iload_n 1, 1) := by decide +kernel
theorem dX7_excluded_35 : decode cX7_excluded 35 = .ok (.ireturn, 1) := by decide +kernel
set_option maxRecDepth 20000 in
theorem ggX7_isCovering_X7_isLinked : GoodIn wsX7_isCovering wsX7_isLinked := goodIn_r _ [6, 7, 8, 5, 9, 10, 11, 12, 13, 14, 15, 16, 17, 18, 19, 20, 21, 22, 23, 24, 25, 26, 27, 28, 29, 30, 31] (by decide +kernel) (by decide +kernel)
set_option maxRecDepth 20000 in
theorem gX7_isCovering_X7_isLinked : GoodIn wsX7_isCovering (wsV RX7 93 RX7 yX7_isLinked wsX7_isLinked) := goodIn_app (goodIn_of _ (by decide +kernel)) ggX7_isCovering_X7_isLinked
theorem dX7_isCovering_0 : decode cX7_isCovering 0 = .ok (.iload_n 1, 1) := by decide +kernel
theorem dX7_isCovering_1 : decode cX7_isCovering 1 = .ok (.iload_n 2, 1) := by decide +kernel
theorem dX7_isCovering_2 : decode cX7_isCovering 2 = .ok (.iand, 1) := by decide +kernel
theorem dX7_isCovering_3 : decode cX7_isCovering 3 = .ok (.ifCond .eq 5, 3) := by decide +kernel
theorem dX7_isCovering_6 : decode cX7_isCovering 6 = .ok (.iconst 0, 1) := by decide +kernel
theorem dX7_isCovering_7 : decode cX7_isCovering 7 = .ok (.ireturn, 1) := by decide +kernel
theorem dX7_isCovering_8 : decode cX7_isCovering 8 = .ok (.iconst 0, 1) := by decide +kernel
theorem dX7_isCovering_9 : decode cX7_isCovering 9 = .ok (.istore_n 3, 1) := by decide +kernel
theorem dX7_isCovering_10 : decode cX7_isCovering 10 = .ok (.iload_n 3, 1) := by decide +kernel
theorem dX7_isCovering_11 : decode cX7_isCovering 11 = .ok (.bipush 12, 2) := by decide +kernel
theorem dX7_isCovering_13 : decode cX7_isCovering 13 = .ok (.if_icmp .ge 30, 3) := by decide +kernel
theorem dX7_isCovering_16 : decode cX7_isCovering 16 = .ok (.aload_n 0, 1) := by decide +kernel
theorem dX7_isCovering_17 : decode cX7_isCovering 17 = .ok (.getfield 19, 3) := by decide +kernel
theorem dX7_isCovering_20 : decode cX7_isCovering 20 = .ok (.iload_n 3, 1) := by decide +kernel
theorem dX7_isCovering_21 : decode cX7_isCovering 21 = .ok (.iaload, 1) := by decide +kernel
theorem dX7_isCovering_22 : decode cX7_isCovering 22 = .ok (.iconst 1, 1) := by decide +kernel
theorem dX7_isCovering_23 : decode cX7_isCovering 23 = .ok (.if_icmp .ne 14, 3) := by decide +kernel
theorem dX7_isCovering_26 : decode cX7_isCovering 26 = .ok (.aload_n 0, 1) := by decide +kernel
theorem dX7_isCovering_27 : decode cX7_isCovering 27 = .ok (.iload_n 3, 1) := by decide +kernel
theorem dX7_isCovering_28 : decode cX7_isCovering 28 = .ok (.iload_n 1, 1) := by decide +kernel
theorem dX7_isCovering_29 : decode cX7_isCovering 29 = .ok (.invokevirtual 93, 3) := by decide +kernel
theorem dX7_isCovering_32 : decode cX7_isCovering 32 = .ok (.ifCond .ne 5, 3) := by decide +kernel
theorem dX7_isCovering_35 : decode cX7_isCovering 35 = .ok (.iconst 0, 1) := by decide +kernel
theorem dX7_isCovering_36 : decode cX7_isCovering 36 = .ok (.ireturn, 1) := by decide +kernel
theorem dX7_isCovering_37 : decode cX7_isCovering 37 = .ok (.iinc 3 1, 3) := by decide +kernel
theorem dX7_isCovering_40 : decode cX7_isCovering 40 = .ok (.goto (-30), 3) := by decide +kernel
theorem dX7_isCovering_43 : decode cX7_isCovering 43 = .ok (.iconst 1, 1) := by decide +kernel
theorem dX7_isCovering_44 : decode cX7_isCovering 44 = .ok (.ireturn, 1) := by decide +kernel
set_option maxRecDepth 20000 in
theorem ggX7_weightBy_X7_isIn : GoodIn wsX7_weightBy wsX7_isIn := goodIn_r _ [6] (by decide +kernel) (by decide +kernel)
set_option maxRecDepth 20000 in
theorem gX7_weightBy_X7_isIn : GoodIn wsX7_weightBy (va_wsS RX7 86 yX7_isIn wsX7_isIn) := goodIn_app (goodIn_of _ (by decide +kernel)) ggX7_weightBy_X7_isIn
theorem dX7_weightBy_0 : decode cX7_weightBy 0 = .ok (.lconst 1, 1) := by decide +kernel
theorem dX7_weightBy_1 : decode cX7_weightBy 1 = .ok (.lstore_n 3, 1) := by decide +kernel
theorem dX7_weightBy_2 : decode cX7_weightBy 2 = .ok (.iconst 0, 1) := by decide +kernel
theorem dX7_weightBy_3 : decode cX7_weightBy 3 = .ok (.istore 5, 2) := by decide +kernel
theorem dX7_weightBy_5 : decode cX7_weightBy 5 = .ok (.iload 5, 2) := by decide +kernel
theorem dX7_weightBy_7 : decode cX7_weightBy 7 = .ok (.iload_n 2, 1) := by decide +kernel
theorem dX7_weightBy_8 : decode cX7_weightBy 8 = .ok (.if_icmp .ge 40, 3) := by decide +kernel
theorem dX7_weightBy_11 : decode cX7_weightBy 11 = .ok (.lload_n 3, 1) := by decide +kernel
theorem dX7_weightBy_12 : decode cX7_weightBy 12 = .ok (.iload_n 1, 1) := by decide +kernel
theorem dX7_weightBy_13 : decode cX7_weightBy 13 = .ok (.iload 5, 2) := by decide +kernel
theorem dX7_weightBy_15 : decode cX7_weightBy 15 = .ok (.invokestatic 86, 3) := by decide +kernel
theorem dX7_weightBy_18 : decode cX7_weightBy 18 = .ok (.ifCond .eq 14, 3) := by decide +kernel
theorem dX7_weightBy_21 : decode cX7_weightBy 21 = .ok (.aload_n 0, 1) := by decide +kernel
theorem dX7_weightBy_22 : decode cX7_weightBy 22 = .ok (.getfield 7, 3) := by decide +kernel
theorem dX7_weightBy_25 : decode cX7_weightBy 25 = .ok (.iload 5, 2) := by decide +kernel
theorem dX7_weightBy_27 : decode cX7_weightBy 27 = .ok (.iaload, 1) := by decide +kernel
theorem dX7_weightBy_28 : decode cX7_weightBy 28 = .ok (.i2l, 1) := by decide +kernel
theorem dX7_weightBy_29 : decode cX7_weightBy 29 = .ok (.goto 11, 3) := by decide +kernel
theorem dX7_weightBy_32 : decode cX7_weightBy 32 = .ok (.aload_n 0, 1) := by decide +kernel
theorem dX7_weightBy_33 : decode cX7_weightBy 33 = .ok (.getfield 13, 3) := by decide +kernel
theorem dX7_weightBy_36 : decode cX7_weightBy 36 = .ok (.iload 5, 2) := by decide +kernel
theorem dX7_weightBy_38 : decode cX7_weightBy 38 = .ok (.iaload, 1) := by decide +kernel
theorem dX7_weightBy_39 : decode cX7_weightBy 39 = .ok (.i2l, 1) := by decide +kernel
theorem dX7_weightBy_40 : decode cX7_weightBy 40 = .ok (.lmul, 1) := by decide +kernel
theorem dX7_weightBy_41 : decode cX7_weightBy 41 = .ok (.lstore_n 3, 1) := by decide +kernel
theorem dX7_weightBy_42 : decode cX7_weightBy 42 = .ok (.iinc 5 1, 3) := by decide +kernel
theorem dX7_weightBy_45 : decode cX7_weightBy 45 = .ok (.goto (-40), 3) := by decide +kernel
theorem dX7_weightBy_48 : decode cX7_weightBy 48 = .ok (.lload_n 3, 1) := by decide +kernel
theorem dX7_weightBy_49 : decode cX7_weightBy 49 = .ok (.lreturn, 1) := by decide +kernel
set_option maxRecDepth 20000 in
theorem ggX7_isSpared_X7_isIn : GoodIn wsX7_isSpared wsX7_isIn := goodIn_r _ [5] (by decide +kernel) (by decide +kernel)
set_option maxRecDepth 20000 in
theorem gX7_isSpared_X7_isIn : GoodIn wsX7_isSpared (va_wsS RX7 86 yX7_isIn wsX7_isIn) := goodIn_app (goodIn_of _ (by decide +kernel)) ggX7_isSpared_X7_isIn
theorem dX7_isSpared_0 : decode cX7_isSpared 0 = .ok (.iconst 0, 1) := by decide +kernel
theorem dX7_isSpared_1 : decode cX7_isSpared 1 = .ok (.istore_n 2, 1) := by decide +kernel
theorem dX7_isSpared_2 : decode cX7_isSpared 2 = .ok (.iload_n 2, 1) := by decide +kernel
theorem dX7_isSpared_3 : decode cX7_isSpared 3 = .ok (.bipush 10, 2) := by decide +kernel
theorem dX7_isSpared_5 : decode cX7_isSpared 5 = .ok (.if_icmp .ge 32, 3) := by decide +kernel
theorem dX7_isSpared_8 : decode cX7_isSpared 8 = .ok (.iload_n 1, 1) := by decide +kernel
theorem dX7_isSpared_9 : decode cX7_isSpared 9 = .ok (.iload_n 2, 1) := by decide +kernel
theorem dX7_isSpared_10 : decode cX7_isSpared 10 = .ok (.invokestatic 86, 3) := by decide +kernel
theorem dX7_isSpared_13 : decode cX7_isSpared 13 = .ok (.ifCond .eq 18, 3) := by decide +kernel
theorem dX7_isSpared_16 : decode cX7_isSpared 16 = .ok (.aload_n 0, 1) := by decide +kernel
theorem dX7_isSpared_17 : decode cX7_isSpared 17 = .ok (.getfield 35, 3) := by decide +kernel
theorem dX7_isSpared_20 : decode cX7_isSpared 20 = .ok (.iload_n 1, 1) := by decide +kernel
theorem dX7_isSpared_21 : decode cX7_isSpared 21 = .ok (.iconst 1, 1) := by decide +kernel
theorem dX7_isSpared_22 : decode cX7_isSpared 22 = .ok (.iload_n 2, 1) := by decide +kernel
theorem dX7_isSpared_23 : decode cX7_isSpared 23 = .ok (.ishl, 1) := by decide +kernel
theorem dX7_isSpared_24 : decode cX7_isSpared 24 = .ok (.isub, 1) := by decide +kernel
theorem dX7_isSpared_25 : decode cX7_isSpared 25 = .ok (.baload, 1) := by decide +kernel
theorem dX7_isSpared_26 : decode cX7_isSpared 26 = .ok (.ifCond .eq 5, 3) := by decide +kernel
theorem dX7_isSpared_29 : decode cX7_isSpared 29 = .ok (.iconst 1, 1) := by decide +kernel
theorem dX7_isSpared_30 : decode cX7_isSpared 30 = .ok (.ireturn, 1) := by decide +kernel
theorem dX7_isSpared_31 : decode cX7_isSpared 31 = .ok (.iinc 2 1, 3) := by decide +kernel
theorem dX7_isSpared_34 : decode cX7_isSpared 34 = .ok (.goto (-32), 3) := by decide +kernel
theorem dX7_isSpared_37 : decode cX7_isSpared 37 = .ok (.iconst 0, 1) := by decide +kernel
theorem dX7_isSpared_38 : decode cX7_isSpared 38 = .ok (.ireturn, 1) := by decide +kernel
set_option maxRecDepth 20000 in
theorem ggX7_isAhead_X7_size : GoodIn wsX7_isAhead wsX7_size := goodIn_r _ [6] (by decide +kernel) (by decide +kernel)
set_option maxRecDepth 20000 in
theorem gX7_isAhead_X7_size : GoodIn wsX7_isAhead (va_wsS RX7 96 yX7_size wsX7_size) := goodIn_app (goodIn_of _ (by decide +kernel)) ggX7_isAhead_X7_size
theorem dX7_isAhead_0 : decode cX7_isAhead 0 = .ok (.lload_n 2, 1) := by decide +kernel
theorem dX7_isAhead_1 : decode cX7_isAhead 1 = .ok (.aload_n 0, 1) := by decide +kernel
theorem dX7_isAhead_2 : decode cX7_isAhead 2 = .ok (.getfield 31, 3) := by decide +kernel
theorem dX7_isAhead_5 : decode cX7_isAhead 5 = .ok (.iload 4, 2) := by decide +kernel
theorem dX7_isAhead_7 : decode cX7_isAhead 7 = .ok (.laload, 1) := by decide +kernel
theorem dX7_isAhead_8 : decode cX7_isAhead 8 = .ok (.lcmp, 1) := by decide +kernel
theorem dX7_isAhead_9 : decode cX7_isAhead 9 = .ok (.ifCond .eq 21, 3) := by decide +kernel
theorem dX7_isAhead_12 : decode cX7_isAhead 12 = .ok (.lload_n 2, 1) := by decide +kernel
theorem dX7_isAhead_13 : decode cX7_isAhead 13 = .ok (.aload_n 0, 1) := by decide +kernel
theorem dX7_isAhead_14 : decode cX7_isAhead 14 = .ok (.getfield 31, 3) := by decide +kernel
theorem dX7_isAhead_17 : decode cX7_isAhead 17 = .ok (.iload 4, 2) := by decide +kernel
theorem dX7_isAhead_19 : decode cX7_isAhead 19 = .ok (.laload, 1) := by decide +kernel
theorem dX7_isAhead_20 : decode cX7_isAhead 20 = .ok (.lcmp, 1) := by decide +kernel
theorem dX7_isAhead_21 : decode cX7_isAhead 21 = .ok (.ifCond .le 7, 3) := by decide +kernel
theorem dX7_isAhead_24 : decode cX7_isAhead 24 = .ok (.iconst 1, 1) := by decide +kernel
theorem dX7_isAhead_25 : decode cX7_isAhead 25 = .ok (.goto 4, 3) := by decide +kernel
theorem dX7_isAhead_28 : decode cX7_isAhead 28 = .ok (.iconst 0, 1) := by decide +kernel
theorem dX7_isAhead_29 : decode cX7_isAhead 29 = .ok (.ireturn, 1) := by decide +kernel
theorem dX7_isAhead_30 : decode cX7_isAhead 30 = .ok (.iload_n 1, 1) := by decide +kernel
theorem dX7_isAhead_31 : decode cX7_isAhead 31 = .ok (.invokestatic 96, 3) := by decide +kernel
theorem dX7_isAhead_34 : decode cX7_isAhead 34 = .ok (.aload_n 0, 1) := by decide +kernel
theorem dX7_isAhead_35 : decode cX7_isAhead 35 = .ok (.getfield 28, 3) := by decide +kernel
theorem dX7_isAhead_38 : decode cX7_isAhead 38 = .ok (.iload 4, 2) := by decide +kernel
theorem dX7_isAhead_40 : decode cX7_isAhead 40 = .ok (.iaload, 1) := by decide +kernel
theorem dX7_isAhead_41 : decode cX7_isAhead 41 = .ok (.invokestatic 96, 3) := by decide +kernel
theorem dX7_isAhead_44 : decode cX7_isAhead 44 = .ok (.isub, 1) := by decide +kernel
theorem dX7_isAhead_45 : decode cX7_isAhead 45 = .ok (.istore 5, 2) := by decide +kernel
theorem dX7_isAhead_47 : decode cX7_isAhead 47 = .ok (.iload 5, 2) := by decide +kernel
theorem dX7_isAhead_49 : decode cX7_isAhead 49 = .ok (.ifCond .eq 16, 3) := by decide +kernel
theorem dX7_isAhead_52 : decode cX7_isAhead 52 = .ok (.iload 5, 2) := by decide +kernel
theorem dX7_isAhead_54 : decode cX7_isAhead 54 = .ok (.ifCond .ge 7, 3) := by decide +kernel
theorem dX7_isAhead_57 : decode cX7_isAhead 57 = .ok (.iconst 1, 1) := by decide +kernel
theorem dX7_isAhead_58 : decode cX7_isAhead 58 = .ok (.goto 23, 3) := by decide +kernel
theorem dX7_isAhead_61 : decode cX7_isAhead 61 = .ok (.iconst 0, 1) := by decide +kernel
theorem dX7_isAhead_62 : decode cX7_isAhead 62 = .ok (.goto 19, 3) := by decide +kernel
theorem dX7_isAhead_65 : decode cX7_isAhead 65 = .ok (.iload_n 1, 1) := by decide +kernel
theorem dX7_isAhead_66 : decode cX7_isAhead 66 = .ok (.aload_n 0, 1) := by decide +kernel
theorem dX7_isAhead_67 : decode cX7_isAhead 67 = .ok (.getfield 28, 3) := by decide +kernel
theorem dX7_isAhead_70 : decode cX7_isAhead 70 = .ok (.iload 4, 2) := by decide +kernel
theorem dX7_isAhead_72 : decode cX7_isAhead 72 = .ok (.iaload, 1) := by decide +kernel
theorem dX7_isAhead_73 : decode cX7_isAhead 73 = .ok (.if_icmp .ge 7, 3) := by decide +kernel
theorem dX7_isAhead_76 : decode cX7_isAhead 76 = .ok (.iconst 1, 1) := by decide +kernel
theorem dX7_isAhead_77 : decode cX7_isAhead 77 = .ok (.goto 4, 3) := by decide +kernel
theorem dX7_isAhead_80 : decode cX7_isAhead 80 = .ok (.iconst 0, 1) := by decide +kernel
theorem dX7_isAhead_81 : decode cX7_isAhead 81 = .ok (.ireturn, 1) := by decide +kernel
set_option maxRecDepth 20000 in
theorem ggX7_explanations_X7_excluded : GoodIn wsX7_explanations wsX7_excluded := goodIn_r _ [10, 11, 12, 13, 9, 14, 15, 16, 17, 18, 19, 20, 49, 50, 51, 52, 53, 54, 55, 56, 57, 58, 59, 60, 61, 62, 63, 64, 65] (by decide +kernel) (by decide +kernel)
set_option maxRecDepth 20000 in
theorem gX7_explanations_X7_excluded : GoodIn wsX7_explanations (wsV RX7 102 RX7 yX7_excluded wsX7_excluded) := goodIn_app (goodIn_of _ (by decide +kernel)) ggX7_explanations_X7_excluded
set_option maxRecDepth 20000 in
theorem ggX7_explanations_X7_isCovering : GoodIn wsX7_explanations wsX7_isCovering := goodIn_r _ [24, 15, 25, 26, 27, 9, 28, 29, 30, 31, 16, 17, 18, 19, 20, 49, 50, 51, 52, 53, 54, 55, 56, 57, 58, 59, 60, 61, 62, 63, 64, 65] (by decide +kernel) (by decide +kernel)
set_option maxRecDepth 20000 in
theorem gX7_explanations_X7_isCovering : GoodIn wsX7_explanations (wsV RX7 105 RX7 yX7_isCovering wsX7_isCovering) := goodIn_app (goodIn_of _ (by decide +kernel)) ggX7_explanations_X7_isCovering
set_option maxRecDepth 20000 in
theorem ggX7_explanations_X7_isSpared : GoodIn wsX7_explanations wsX7_isSpared := goodIn_r _ [35, 3, 29, 30, 9, 31, 49, 50, 51, 52, 53, 54, 55, 56, 57, 58, 59, 60, 61, 62, 63, 64, 65] (by decide +kernel) (by decide +kernel)
set_option maxRecDepth 20000 in
theorem gX7_explanations_X7_isSpared : GoodIn wsX7_explanations (wsV RX7 108 RX7 yX7_isSpared wsX7_isSpared) := goodIn_app (goodIn_of _ (by decide +kernel)) ggX7_explanations_X7_isSpared
set_option maxRecDepth 20000 in
theorem ggX7_explanations_X7_weightBy : GoodIn wsX7_explanations wsX7_weightBy := goodIn_r _ [39, 40, 41, 29, 30, 9, 31, 49, 50, 51, 52, 53, 54, 55, 56, 57, 58, 59, 60, 61, 62, 63, 64, 65] (by decide +kernel) (by decide +kernel)
set_option maxRecDepth 20000 in
theorem gX7_explanations_X7_weightBy : GoodIn wsX7_explanations (wsV RX7 111 RX7 yX7_weightBy wsX7_weightBy) := goodIn_app (goodIn_of _ (by decide +kernel)) ggX7_explanations_X7_weightBy
set_option maxRecDepth 20000 in
theorem ggX7_explanations_X7_isAhead : GoodIn wsX7_explanations wsX7_isAhead := goodIn_r _ [45, 5, 4, 46, 47, 9, 48, 49, 50, 51, 52, 53, 54, 55, 56, 57, 58, 59, 60, 61, 62, 63, 64, 65] (by decide +kernel) (by decide +kernel)
set_option maxRecDepth 20000 in
theorem gX7_explanations_X7_isAhead : GoodIn wsX7_explanations (wsV RX7 115 RX7 yX7_isAhead wsX7_isAhead) := goodIn_app (goodIn_of _ (by decide +kernel)) ggX7_explanations_X7_isAhead
theorem dX7_explanations_0 : decode cX7_explanations 0 = .ok (.aload_n 0, 1) := by decide +kernel
theorem dX7_explanations_1 : decode cX7_explanations 1 = .ok (.getfield 59, 3) := by decide +kernel
theorem dX7_explanations_4 : decode cX7_explanations 4 = .ok (.ifCond .eq 8, 3) := by decide +kernel
theorem dX7_explanations_7 : decode cX7_explanations 7 = .ok (.aload_n 0, 1) := by decide +kernel
theorem dX7_explanations_8 : decode cX7_explanations 8 = .ok (.getfield 99, 3) := by decide +kernel
theorem dX7_explanations_11 : decode cX7_explanations 11 = .ok (.ireturn, 1) := by decide +kernel
theorem dX7_explanations_12 : decode cX7_explanations 12 = .ok (.aload_n 0, 1) := by decide +kernel
theorem dX7_explanations_13 : decode cX7_explanations 13 = .ok (.iconst 1, 1) := by decide +kernel
theorem dX7_explanations_14 : decode cX7_explanations 14 = .ok (.putfield 59, 3) := by decide +kernel
theorem dX7_explanations_17 : decode cX7_explanations 17 = .ok (.aload_n 0, 1) := by decide +kernel
theorem dX7_explanations_18 : decode cX7_explanations 18 = .ok (.invokevirtual 102, 3) := by decide +kernel
theorem dX7_explanations_21 : decode cX7_explanations 21 = .ok (.istore_n 1, 1) := by decide +kernel
theorem dX7_explanations_22 : decode cX7_explanations 22 = .ok (.aload_n 0, 1) := by decide +kernel
theorem dX7_explanations_23 : decode cX7_explanations 23 = .ok (.iconst 0, 1) := by decide +kernel
theorem dX7_explanations_24 : decode cX7_explanations 24 = .ok (.putfield 99, 3) := by decide +kernel
theorem dX7_explanations_27 : decode cX7_explanations 27 = .ok (.iconst 0, 1) := by decide +kernel
theorem dX7_explanations_28 : decode cX7_explanations 28 = .ok (.istore_n 2, 1) := by decide +kernel
theorem dX7_explanations_29 : decode cX7_explanations 29 = .ok (.iload_n 2, 1) := by decide +kernel
theorem dX7_explanations_30 : decode cX7_explanations 30 = .ok (.sipush 1024, 3) := by decide +kernel
