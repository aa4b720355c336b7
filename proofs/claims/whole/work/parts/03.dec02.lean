theorem dX6_would_14 : decode cX6_would 14 = .ok (.iconst 2, 1) := by decide +kernel
theorem dX6_would_15 : decode cX6_would 15 = .ok (.if_icmp .le 6, 3) := by decide +kernel
theorem dX6_would_18 : decode cX6_would 18 = .ok (.bipush (-2), 2) := by decide +kernel
theorem dX6_would_20 : decode cX6_would 20 = .ok (.ireturn, 1) := by decide +kernel
theorem dX6_would_21 : decode cX6_would 21 = .ok (.aload_n 0, 1) := by decide +kernel
theorem dX6_would_22 : decode cX6_would 22 = .ok (.getfield 41, 3) := by decide +kernel
theorem dX6_would_25 : decode cX6_would 25 = .ok (.aload_n 0, 1) := by decide +kernel
theorem dX6_would_26 : decode cX6_would 26 = .ok (.getfield 21, 3) := by decide +kernel
theorem dX6_would_29 : decode cX6_would 29 = .ok (.invokevirtual 216, 3) := by decide +kernel
theorem dX6_would_32 : decode cX6_would 32 = .ok (.aload_n 0, 1) := by decide +kernel
theorem dX6_would_33 : decode cX6_would 33 = .ok (.getfield 41, 3) := by decide +kernel
theorem dX6_would_36 : decode cX6_would 36 = .ok (.iload_n 1, 1) := by decide +kernel
theorem dX6_would_37 : decode cX6_would 37 = .ok (.iload_n 2, 1) := by decide +kernel
theorem dX6_would_38 : decode cX6_would 38 = .ok (.iconst 1, 1) := by decide +kernel
theorem dX6_would_39 : decode cX6_would 39 = .ok (.if_icmp .ne 7, 3) := by decide +kernel
theorem dX6_would_42 : decode cX6_would 42 = .ok (.iconst 1, 1) := by decide +kernel
theorem dX6_would_43 : decode cX6_would 43 = .ok (.goto 12, 3) := by decide +kernel
theorem dX6_would_46 : decode cX6_would 46 = .ok (.iload_n 2, 1) := by decide +kernel
theorem dX6_would_47 : decode cX6_would 47 = .ok (.ifCond .ne 7, 3) := by decide +kernel
theorem dX6_would_50 : decode cX6_would 50 = .ok (.iconst 2, 1) := by decide +kernel
theorem dX6_would_51 : decode cX6_would 51 = .ok (.goto 4, 3) := by decide +kernel
theorem dX6_would_54 : decode cX6_would 54 = .ok (.iconst 0, 1) := by decide +kernel
theorem dX6_would_55 : decode cX6_would 55 = .ok (.invokevirtual 219, 3) := by decide +kernel
theorem dX6_would_58 : decode cX6_would 58 = .ok (.aload_n 0, 1) := by decide +kernel
theorem dX6_would_59 : decode cX6_would 59 = .ok (.getfield 44, 3) := by decide +kernel
theorem dX6_would_62 : decode cX6_would 62 = .ok (.aload_n 0, 1) := by decide +kernel
theorem dX6_would_63 : decode cX6_would 63 = .ok (.getfield 41, 3) := by decide +kernel
theorem dX6_would_66 : decode cX6_would 66 = .ok (.invokevirtual 223, 3) := by decide +kernel
theorem dX6_would_69 : decode cX6_would 69 = .ok (.aload_n 0, 1) := by decide +kernel
theorem dX6_would_70 : decode cX6_would 70 = .ok (.getfield 44, 3) := by decide +kernel
theorem dX6_would_73 : decode cX6_would 73 = .ok (.getfield 136, 3) := by decide +kernel
theorem dX6_would_76 : decode cX6_would 76 = .ok (.ireturn, 1) := by decide +kernel
theorem dX6_plan_0 : decode cX6_plan 0 = .ok (.iload_n 1, 1) := by decide +kernel
theorem dX6_plan_1 : decode cX6_plan 1 = .ok (.ifCond .lt 18, 3) := by decide +kernel
theorem dX6_plan_4 : decode cX6_plan 4 = .ok (.iload_n 1, 1) := by decide +kernel
theorem dX6_plan_5 : decode cX6_plan 5 = .ok (.bipush 12, 2) := by decide +kernel
theorem dX6_plan_7 : decode cX6_plan 7 = .ok (.if_icmp .ge 12, 3) := by decide +kernel
theorem dX6_plan_10 : decode cX6_plan 10 = .ok (.iload_n 2, 1) := by decide +kernel
theorem dX6_plan_11 : decode cX6_plan 11 = .ok (.ifCond .lt 8, 3) := by decide +kernel
theorem dX6_plan_14 : decode cX6_plan 14 = .ok (.iload_n 2, 1) := by decide +kernel
theorem dX6_plan_15 : decode cX6_plan 15 = .ok (.iconst 2, 1) := by decide +kernel
theorem dX6_plan_16 : decode cX6_plan 16 = .ok (.if_icmp .le 6, 3) := by decide +kernel
theorem dX6_plan_19 : decode cX6_plan 19 = .ok (.bipush (-2), 2) := by decide +kernel
theorem dX6_plan_21 : decode cX6_plan 21 = .ok (.ireturn, 1) := by decide +kernel
theorem dX6_plan_22 : decode cX6_plan 22 = .ok (.aload_n 0, 1) := by decide +kernel
theorem dX6_plan_23 : decode cX6_plan 23 = .ok (.invokevirtual 226, 3) := by decide +kernel
theorem dX6_plan_26 : decode cX6_plan 26 = .ok (.iload_n 1, 1) := by decide +kernel
theorem dX6_plan_27 : decode cX6_plan 27 = .ok (.aload_n 0, 1) := by decide +kernel
theorem dX6_plan_28 : decode cX6_plan 28 = .ok (.getfield 57, 3) := by decide +kernel
theorem dX6_plan_31 : decode cX6_plan 31 = .ok (.getfield 229, 3) := by decide +kernel
theorem dX6_plan_34 : decode cX6_plan 34 = .ok (.if_icmp .lt 6, 3) := by decide +kernel
theorem dX6_plan_37 : decode cX6_plan 37 = .ok (.bipush (-9), 2) := by decide +kernel
theorem dX6_plan_39 : decode cX6_plan 39 = .ok (.ireturn, 1) := by decide +kernel
theorem dX6_plan_40 : decode cX6_plan 40 = .ok (.iload_n 2, 1) := by decide +kernel
theorem dX6_plan_41 : decode cX6_plan 41 = .ok (.lookupswitch 56 #[(0, 27), (1, 37)], 27) := by decide +kernel
theorem dX6_plan_68 : decode cX6_plan 68 = .ok (.aload_n 0, 1) := by decide +kernel
theorem dX6_plan_69 : decode cX6_plan 69 = .ok (.getfield 57, 3) := by decide +kernel
theorem dX6_plan_72 : decode cX6_plan 72 = .ok (.getfield 230, 3) := by decide +kernel
theorem dX6_plan_75 : decode cX6_plan 75 = .ok (.iload_n 1, 1) := by decide +kernel
theorem dX6_plan_76 : decode cX6_plan 76 = .ok (.iaload, 1) := by decide +kernel
theorem dX6_plan_77 : decode cX6_plan 77 = .ok (.ireturn, 1) := by decide +kernel
theorem dX6_plan_78 : decode cX6_plan 78 = .ok (.aload_n 0, 1) := by decide +kernel
theorem dX6_plan_79 : decode cX6_plan 79 = .ok (.getfield 57, 3) := by decide +kernel
theorem dX6_plan_82 : decode cX6_plan 82 = .ok (.getfield 233, 3) := by decide +kernel
theorem dX6_plan_85 : decode cX6_plan 85 = .ok (.iload_n 1, 1) := by decide +kernel
theorem dX6_plan_86 : decode cX6_plan 86 = .ok (.iaload, 1) := by decide +kernel
theorem dX6_plan_87 : decode cX6_plan 87 = .ok (.iconst 1, 1) := by decide +kernel
theorem dX6_plan_88 : decode cX6_plan 88 = .ok (.if_icmp .ne 7, 3) := by decide +kernel
theorem dX6_plan_91 : decode cX6_plan 91 = .ok (.iconst 1, 1) := by decide +kernel
theorem dX6_plan_92 : decode cX6_plan 92 = .ok (.goto 4, 3) := by decide +kernel
theorem dX6_plan_95 : decode cX6_plan 95 = .ok (.iconst 0, 1) := by decide +kernel
theorem dX6_plan_96 : decode cX6_plan 96 = .ok (.ireturn, 1) := by decide +kernel
theorem dX6_plan_97 : decode cX6_plan 97 = .ok (.aload_n 0, 1) := by decide +kernel
theorem dX6_plan_98 : decode cX6_plan 98 = .ok (.getfield 57, 3) := by decide +kernel
theorem dX6_plan_101 : decode cX6_plan 101 = .ok (.getfield 236, 3) := by decide +kernel
theorem dX6_plan_104 : decode cX6_plan 104 = .ok (.iload_n 1, 1) := by decide +kernel
theorem dX6_plan_105 : decode cX6_plan 105 = .ok (.iaload, 1) := by decide +kernel
theorem dX6_plan_106 : decode cX6_plan 106 = .ok (.ireturn, 1) := by decide +kernel
theorem dX6_many_0 : decode cX6_many 0 = .ok (.iload_n 1, 1) := by decide +kernel
theorem dX6_many_1 : decode cX6_many 1 = .ok (.tableswitch 97 0 5 #[39, 47, 58, 69, 77, 85], 39) := by decide +kernel
theorem dX6_many_40 : decode cX6_many 40 = .ok (.aload_n 0, 1) := by decide +kernel
theorem dX6_many_41 : decode cX6_many 41 = .ok (.invokevirtual 107, 3) := by decide +kernel
theorem dX6_many_44 : decode cX6_many 44 = .ok (.getfield 136, 3) := by decide +kernel
theorem dX6_many_47 : decode cX6_many 47 = .ok (.ireturn, 1) := by decide +kernel
theorem dX6_many_48 : decode cX6_many 48 = .ok (.aload_n 0, 1) := by decide +kernel
theorem dX6_many_49 : decode cX6_many 49 = .ok (.getfield 21, 3) := by decide +kernel
theorem dX6_many_52 : decode cX6_many 52 = .ok (.getfield 137, 3) := by decide +kernel
theorem dX6_many_55 : decode cX6_many 55 = .ok (.invokestatic 140, 3) := by decide +kernel
theorem dX6_many_58 : decode cX6_many 58 = .ok (.ireturn, 1) := by decide +kernel
theorem dX6_many_59 : decode cX6_many 59 = .ok (.aload_n 0, 1) := by decide +kernel
theorem dX6_many_60 : decode cX6_many 60 = .ok (.getfield 21, 3) := by decide +kernel
theorem dX6_many_63 : decode cX6_many 63 = .ok (.getfield 95, 3) := by decide +kernel
theorem dX6_many_66 : decode cX6_many 66 = .ok (.invokestatic 140, 3) := by decide +kernel
theorem dX6_many_69 : decode cX6_many 69 = .ok (.ireturn, 1) := by decide +kernel
theorem dX6_many_70 : decode cX6_many 70 = .ok (.aload_n 0, 1) := by decide +kernel
theorem dX6_many_71 : decode cX6_many 71 = .ok (.getfield 14, 3) := by decide +kernel
theorem dX6_many_74 : decode cX6_many 74 = .ok (.invokevirtual 239, 3) := by decide +kernel
theorem dX6_many_77 : decode cX6_many 77 = .ok (.ireturn, 1) := by decide +kernel
theorem dX6_many_78 : decode cX6_many 78 = .ok (.aload_n 0, 1) := by decide +kernel
theorem dX6_many_79 : decode cX6_many 79 = .ok (.getfield 28, 3) := by decide +kernel
theorem dX6_many_82 : decode cX6_many 82 = .ok (.getfield 129, 3) := by decide +kernel
theorem dX6_many_85 : decode cX6_many 85 = .ok (.ireturn, 1) := by decide +kernel
theorem dX6_many_86 : decode cX6_many 86 = .ok (.aload_n 0, 1) := by decide +kernel
theorem dX6_many_87 : decode cX6_many 87 = .ok (.invokevirtual 226, 3) := by decide +kernel
theorem dX6_many_90 : decode cX6_many 90 = .ok (.aload_n 0, 1) := by decide +kernel
theorem dX6_many_91 : decode cX6_many 91 = .ok (.getfield 57, 3) := by decide +kernel
theorem dX6_many_94 : decode cX6_many 94 = .ok (.getfield 229, 3) := by decide +kernel
theorem dX6_many_97 : decode cX6_many 97 = .ok (.ireturn, 1) := by decide +kernel
theorem dX6_many_98 : decode cX6_many 98 = .ok (.bipush (-2), 2) := by decide +kernel
theorem dX6_many_100 : decode cX6_many 100 = .ok (.ireturn, 1) := by decide +kernel
theorem dX6_isCause_0 : decode cX6_isCause 0 = .ok (.iload_n 0, 1) := by decide +kernel
theorem dX6_isCause_1 : decode cX6_isCause 1 = .ok (.ifCond .lt 13, 3) := by decide +kernel
theorem dX6_isCause_4 : decode cX6_isCause 4 = .ok (.iload_n 0, 1) := by decide +kernel
theorem dX6_isCause_5 : decode cX6_isCause 5 = .ok (.bipush 10, 2) := by decide +kernel
theorem dX6_isCause_7 : decode cX6_isCause 7 = .ok (.if_icmp .ge 7, 3) := by decide +kernel
theorem dX6_isCause_10 : decode cX6_isCause 10 = .ok (.iconst 1, 1) := by decide +kernel
theorem dX6_isCause_11 : decode cX6_isCause 11 = .ok (.goto 4, 3) := by decide +kernel
theorem dX6_isCause_14 : decode cX6_isCause 14 = .ok (.iconst 0, 1) := by decide +kernel
theorem dX6_isCause_15 : decode cX6_isCause 15 = .ok (.ireturn, 1) := by decide +kernel
theorem dX6_isFinding_0 : decode cX6_isFinding 0 = .ok (.iload_n 0, 1) := by decide +kernel
theorem dX6_isFinding_1 : decode cX6_isFinding 1 = .ok (.ifCond .lt 13, 3) := by decide +kernel
theorem dX6_isFinding_4 : decode cX6_isFinding 4 = .ok (.iload_n 0, 1) := by decide +kernel
theorem dX6_isFinding_5 : decode cX6_isFinding 5 = .ok (.bipush 12, 2) := by decide +kernel
theorem dX6_isFinding_7 : decode cX6_isFinding 7 = .ok (.if_icmp .ge 7, 3) := by decide +kernel
theorem dX6_isFinding_10 : decode cX6_isFinding 10 = .ok (.iconst 1, 1) := by decide +kernel
theorem dX6_isFinding_11 : decode cX6_isFinding 11 = .ok (.goto 4, 3) := by decide +kernel
theorem dX6_isFinding_14 : decode cX6_isFinding 14 = .ok (.iconst 0, 1) := by decide +kernel
theorem dX6_isFinding_15 : decode cX6_isFinding 15 = .ok (.ireturn, 1) := by decide +kernel
theorem dX6_areOdds_0 : decode cX6_areOdds 0 = .ok (.iload_n 0, 1) := by decide +kernel
theorem dX6_areOdds_1 : decode cX6_areOdds 1 = .ok (.iconst 1, 1) := by decide +kernel
theorem dX6_areOdds_2 : decode cX6_areOdds 2 = .ok (.if_icmp .lt 13, 3) := by decide +kernel
theorem dX6_areOdds_5 : decode cX6_areOdds 5 = .ok (.iload_n 0, 1) := by decide +kernel
theorem dX6_areOdds_6 : decode cX6_areOdds 6 = .ok (.bipush 20, 2) := by decide +kernel
theorem dX6_areOdds_8 : decode cX6_areOdds 8 = .ok (.if_icmp .gt 7, 3) := by decide +kernel
theorem dX6_areOdds_11 : decode cX6_areOdds 11 = .ok (.iconst 1, 1) := by decide +kernel
theorem dX6_areOdds_12 : decode cX6_areOdds 12 = .ok (.goto 4, 3) := by decide +kernel
theorem dX6_areOdds_15 : decode cX6_areOdds 15 = .ok (.iconst 0, 1) := by decide +kernel
theorem dX6_areOdds_16 : decode cX6_areOdds 16 = .ok (.ireturn, 1) := by decide +kernel
theorem dX6_isUpperOrLower_0 : decode cX6_isUpperOrLower 0 = .ok (.iload_n 0, 1) := by decide +kernel
theorem dX6_isUpperOrLower_1 : decode cX6_isUpperOrLower 1 = .ok (.ifCond .eq 8, 3) := by decide +kernel
theorem dX6_isUpperOrLower_4 : decode cX6_isUpperOrLower 4 = .ok (.iload_n 0, 1) := by decide +kernel
theorem dX6_isUpperOrLower_5 : decode cX6_isUpperOrLower 5 = .ok (.iconst 1, 1) := by decide +kernel
theorem dX6_isUpperOrLower_6 : decode cX6_isUpperOrLower 6 = .ok (.if_icmp .ne 7, 3) := by decide +kernel
theorem dX6_isUpperOrLower_9 : decode cX6_isUpperOrLower 9 = .ok (.iconst 1, 1) := by decide +kernel
theorem dX6_isUpperOrLower_10 : decode cX6_isUpperOrLower 10 = .ok (.goto 4, 3) := by decide +kernel
theorem dX6_isUpperOrLower_13 : decode cX6_isUpperOrLower 13 = .ok (.iconst 0, 1) := by decide +kernel
theorem dX6_isUpperOrLower_14 : decode cX6_isUpperOrLower 14 = .ok (.ireturn, 1) := by decide +kernel
theorem dX6_has_0 : decode cX6_has 0 = .ok (.iload_n 0, 1) := by decide +kernel
theorem dX6_has_1 : decode cX6_has 1 = .ok (.iload_n 1, 1) := by decide +kernel
theorem dX6_has_2 : decode cX6_has 2 = .ok (.ishr, 1) := by decide +kernel
theorem dX6_has_3 : decode cX6_has 3 = .ok (.iconst 1, 1) := by decide +kernel
theorem dX6_has_4 : decode cX6_has 4 = .ok (.iand, 1) := by decide +kernel
theorem dX6_has_5 : decode cX6_has 5 = .ok (.ifCond .eq 7, 3) := by decide +kernel
theorem dX6_has_8 : decode cX6_has 8 = .ok (.iconst 1, 1) := by decide +kernel
theorem dX6_has_9 : decode cX6_has 9 = .ok (.goto 4, 3) := by decide +kernel
theorem dX6_has_12 : decode cX6_has 12 = .ok (.iconst 0, 1) := by decide +kernel
theorem dX6_has_13 : decode cX6_has 13 = .ok (.ireturn, 1) := by decide +kernel
theorem dX6_forgetWhatFollowed_0 : decode cX6_forgetWhatFollowed 0 = .ok (.aload_n 0, 1) := by decide +kernel
theorem dX6_forgetWhatFollowed_1 : decode cX6_forgetWhatFollowed 1 = .ok (.iconst 0, 1) := by decide +kernel
theorem dX6_forgetWhatFollowed_2 : decode cX6_forgetWhatFollowed 2 = .ok (.putfield 242, 3) := by decide +kernel
theorem dX6_forgetWhatFollowed_5 : decode cX6_forgetWhatFollowed 5 = .ok (.aload_n 0, 1) := by decide +kernel
theorem dX6_forgetWhatFollowed_6 : decode cX6_forgetWhatFollowed 6 = .ok (.iconst 0, 1) := by decide +kernel
theorem dX6_forgetWhatFollowed_7 : decode cX6_forgetWhatFollowed 7 = .ok (.putfield 246, 3) := by decide +kernel
theorem dX6_forgetWhatFollowed_10 : decode cX6_forgetWhatFollowed 10 = .ok (.return_, 1) := by decide +kernel
theorem dX6_upToDate_0 : decode cX6_upToDate 0 = .ok (.aload_n 0, 1) := by decide +kernel
theorem dX6_upToDate_1 : decode cX6_upToDate 1 = .ok (.getfield 242, 3) := by decide +kernel
theorem dX6_upToDate_4 : decode cX6_upToDate 4 = .ok (.ifCond .ne 26, 3) := by decide +kernel
theorem dX6_upToDate_7 : decode cX6_upToDate 7 = .ok (.aload_n 0, 1) := by decide +kernel
theorem dX6_upToDate_8 : decode cX6_upToDate 8 = .ok (.getfield 37, 3) := by decide +kernel
theorem dX6_upToDate_11 : decode cX6_upToDate 11 = .ok (.aload_n 0, 1) := by decide +kernel
theorem dX6_upToDate_12 : decode cX6_upToDate 12 = .ok (.getfield 21, 3) := by decide +kernel
theorem dX6_upToDate_15 : decode cX6_upToDate 15 = .ok (.invokevirtual 223, 3) := by decide +kernel
theorem dX6_upToDate_18 : decode cX6_upToDate 18 = .ok (.aload_n 0, 1) := by decide +kernel
theorem dX6_upToDate_19 : decode cX6_upToDate 19 = .ok (.getfield 37, 3) := by decide +kernel
theorem dX6_upToDate_22 : decode cX6_upToDate 22 = .ok (.invokevirtual 249, 3) := by decide +kernel
theorem dX6_upToDate_25 : decode cX6_upToDate 25 = .ok (.aload_n 0, 1) := by decide +kernel
theorem dX6_upToDate_26 : decode cX6_upToDate 26 = .ok (.iconst 1, 1) := by decide +kernel
theorem dX6_upToDate_27 : decode cX6_upToDate 27 = .ok (.putfield 242, 3) := by decide +kernel
theorem dX6_upToDate_30 : decode cX6_upToDate 30 = .ok (.aload_n 0, 1) := by decide +kernel
theorem dX6_upToDate_31 : decode cX6_upToDate 31 = .ok (.getfield 37, 3) := by decide +kernel
theorem dX6_upToDate_34 : decode cX6_upToDate 34 = .ok (.areturn, 1) := by decide +kernel
theorem dX6_changeFinding_0 : decode cX6_changeFinding 0 = .ok (.aload_n 0, 1) := by decide +kernel
theorem dX6_changeFinding_1 : decode cX6_changeFinding 1 = .ok (.getfield 28, 3) := by decide +kernel
theorem dX6_changeFinding_4 : decode cX6_changeFinding 4 = .ok (.iload_n 1, 1) := by decide +kernel
theorem dX6_changeFinding_5 : decode cX6_changeFinding 5 = .ok (.aload_n 0, 1) := by decide +kernel
theorem dX6_changeFinding_6 : decode cX6_changeFinding 6 = .ok (.getfield 21, 3) := by decide +kernel
theorem dX6_changeFinding_9 : decode cX6_changeFinding 9 = .ok (.iload_n 1, 1) := by decide +kernel
theorem dX6_changeFinding_10 : decode cX6_changeFinding 10 = .ok (.invokevirtual 114, 3) := by decide +kernel
theorem dX6_changeFinding_13 : decode cX6_changeFinding 13 = .ok (.invokevirtual 252, 3) := by decide +kernel
theorem dX6_changeFinding_16 : decode cX6_changeFinding 16 = .ok (.aload_n 0, 1) := by decide +kernel
theorem dX6_changeFinding_17 : decode cX6_changeFinding 17 = .ok (.getfield 21, 3) := by decide +kernel
theorem dX6_changeFinding_20 : decode cX6_changeFinding 20 = .ok (.iload_n 1, 1) := by decide +kernel
theorem dX6_changeFinding_21 : decode cX6_changeFinding 21 = .ok (.iload_n 2, 1) := by decide +kernel
theorem dX6_changeFinding_22 : decode cX6_changeFinding 22 = .ok (.invokevirtual 219, 3) := by decide +kernel
theorem dX6_changeFinding_25 : decode cX6_changeFinding 25 = .ok (.aload_n 0, 1) := by decide +kernel
theorem dX6_changeFinding_26 : decode cX6_changeFinding 26 = .ok (.invokevirtual 75, 3) := by decide +kernel
theorem dX6_changeFinding_29 : decode cX6_changeFinding 29 = .ok (.aload_n 0, 1) := by decide +kernel
theorem dX6_changeFinding_30 : decode cX6_changeFinding 30 = .ok (.invokevirtual 107, 3) := by decide +kernel
theorem dX6_changeFinding_33 : decode cX6_changeFinding 33 = .ok (.getfield 136, 3) := by decide +kernel
theorem dX6_changeFinding_36 : decode cX6_changeFinding 36 = .ok (.ireturn, 1) := by decide +kernel
theorem dX6_bestToAsk_0 : decode cX6_bestToAsk 0 = .ok (.aload_n 1, 1) := by decide +kernel
theorem dX6_bestToAsk_1 : decode cX6_bestToAsk 1 = .ok (.getfield 136, 3) := by decide +kernel
theorem dX6_bestToAsk_4 : decode cX6_bestToAsk 4 = .ok (.iconst 2, 1) := by decide +kernel
theorem dX6_bestToAsk_5 : decode cX6_bestToAsk 5 = .ok (.if_icmp .ge 6, 3) := by decide +kernel
theorem dX6_bestToAsk_8 : decode cX6_bestToAsk 8 = .ok (.bipush (-9), 2) := by decide +kernel
theorem dX6_bestToAsk_10 : decode cX6_bestToAsk 10 = .ok (.ireturn, 1) := by decide +kernel
theorem dX6_bestToAsk_11 : decode cX6_bestToAsk 11 = .ok (.bipush (-9), 2) := by decide +kernel
theorem dX6_bestToAsk_13 : decode cX6_bestToAsk 13 = .ok (.istore_n 3, 1) := by decide +kernel
theorem dX6_bestToAsk_14 : decode cX6_bestToAsk 14 = .ok (.lconst 0, 1) := by decide +kernel
theorem dX6_bestToAsk_15 : decode cX6_bestToAsk 15 = .ok (.lstore 4, 2) := by decide +kernel
theorem dX6_bestToAsk_17 : decode cX6_bestToAsk 17 = .ok (.iconst 0, 1) := by decide +kernel
theorem dX6_bestToAsk_18 : decode cX6_bestToAsk 18 = .ok (.istore 6, 2) := by decide +kernel
theorem dX6_bestToAsk_20 : decode cX6_bestToAsk 20 = .ok (.iload 6, 2) := by decide +kernel
theorem dX6_bestToAsk_22 : decode cX6_bestToAsk 22 = .ok (.bipush 12, 2) := by decide +kernel
theorem dX6_bestToAsk_24 : decode cX6_bestToAsk 24 = .ok (.if_icmp .ge 61, 3) := by decide +kernel
theorem dX6_bestToAsk_27 : decode cX6_bestToAsk 27 = .ok (.aload_n 2, 1) := by decide +kernel
theorem dX6_bestToAsk_28 : decode cX6_bestToAsk 28 = .ok (.iload 6, 2) := by decide +kernel
theorem dX6_bestToAsk_30 : decode cX6_bestToAsk 30 = .ok (.invokevirtual 114, 3) := by decide +kernel
theorem dX6_bestToAsk_33 : decode cX6_bestToAsk 33 = .ok (.ifCond .eq 6, 3) := by decide +kernel
theorem dX6_bestToAsk_36 : decode cX6_bestToAsk 36 = .ok (.goto 43, 3) := by decide +kernel
theorem dX6_bestToAsk_39 : decode cX6_bestToAsk 39 = .ok (.aload_n 0, 1) := by decide +kernel
theorem dX6_bestToAsk_40 : decode cX6_bestToAsk 40 = .ok (.getfield 50, 3) := by decide +kernel
theorem dX6_bestToAsk_43 : decode cX6_bestToAsk 43 = .ok (.aload_n 1, 1) := by decide +kernel
theorem dX6_bestToAsk_44 : decode cX6_bestToAsk 44 = .ok (.iload 6, 2) := by decide +kernel
theorem dX6_bestToAsk_46 : decode cX6_bestToAsk 46 = .ok (.invokevirtual 197, 3) := by decide +kernel
theorem dX6_bestToAsk_49 : decode cX6_bestToAsk 49 = .ok (.aload_n 0, 1) := by decide +kernel
theorem dX6_bestToAsk_50 : decode cX6_bestToAsk 50 = .ok (.getfield 50, 3) := by decide +kernel
theorem dX6_bestToAsk_53 : decode cX6_bestToAsk 53 = .ok (.invokevirtual 208, 3) := by decide +kernel
theorem dX6_bestToAsk_56 : decode cX6_bestToAsk 56 = .ok (.lstore 7, 2) := by decide +kernel
theorem dX6_bestToAsk_58 : decode cX6_bestToAsk 58 = .ok (.iload_n 3, 1) := by decide +kernel
theorem dX6_bestToAsk_59 : decode cX6_bestToAsk 59 = .ok (.bipush (-9), 2) := by decide +kernel
theorem dX6_bestToAsk_61 : decode cX6_bestToAsk 61 = .ok (.if_icmp .eq 11, 3) := by decide +kernel
theorem dX6_bestToAsk_64 : decode cX6_bestToAsk 64 = .ok (.lload 7, 2) := by decide +kernel
theorem dX6_bestToAsk_66 : decode cX6_bestToAsk 66 = .ok (.lload 4, 2) := by decide +kernel
theorem dX6_bestToAsk_68 : decode cX6_bestToAsk 68 = .ok (.lcmp, 1) := by decide +kernel
theorem dX6_bestToAsk_69 : decode cX6_bestToAsk 69 = .ok (.ifCond .ge 10, 3) := by decide +kernel
theorem dX6_bestToAsk_72 : decode cX6_bestToAsk 72 = .ok (.iload 6, 2) := by decide +kernel
theorem dX6_bestToAsk_74 : decode cX6_bestToAsk 74 = .ok (.istore_n 3, 1) := by decide +kernel
theorem dX6_bestToAsk_75 : decode cX6_bestToAsk 75 = .ok (.lload 7, 2) := by decide +kernel
theorem dX6_bestToAsk_77 : decode cX6_bestToAsk 77 = .ok (.lstore 4, 2) := by decide +kernel
theorem dX6_bestToAsk_79 : decode cX6_bestToAsk 79 = .ok (.iinc 6 1, 3) := by decide +kernel
theorem dX6_bestToAsk_82 : decode cX6_bestToAsk 82 = .ok (.goto (-62), 3) := by decide +kernel
theorem dX6_bestToAsk_85 : decode cX6_bestToAsk 85 = .ok (.iload_n 3, 1) := by decide +kernel
theorem dX6_bestToAsk_86 : decode cX6_bestToAsk 86 = .ok (.ireturn, 1) := by decide +kernel
theorem dX6_makePlan_0 : decode cX6_makePlan 0 = .ok (.aload_n 0, 1) := by decide +kernel
theorem dX6_makePlan_1 : decode cX6_makePlan 1 = .ok (.getfield 246, 3) := by decide +kernel
theorem dX6_makePlan_4 : decode cX6_makePlan 4 = .ok (.ifCond .eq 4, 3) := by decide +kernel
theorem dX6_makePlan_7 : decode cX6_makePlan 7 = .ok (.return_, 1) := by decide +kernel
theorem dX6_makePlan_8 : decode cX6_makePlan 8 = .ok (.aload_n 0, 1) := by decide +kernel
theorem dX6_makePlan_9 : decode cX6_makePlan 9 = .ok (.getfield 57, 3) := by decide +kernel
theorem dX6_makePlan_12 : decode cX6_makePlan 12 = .ok (.iconst 0, 1) := by decide +kernel
theorem dX6_makePlan_13 : decode cX6_makePlan 13 = .ok (.putfield 229, 3) := by decide +kernel
theorem dX6_makePlan_16 : decode cX6_makePlan 16 = .ok (.aload_n 0, 1) := by decide +kernel
theorem dX6_makePlan_17 : decode cX6_makePlan 17 = .ok (.getfield 41, 3) := by decide +kernel
theorem dX6_makePlan_20 : decode cX6_makePlan 20 = .ok (.aload_n 0, 1) := by decide +kernel
theorem dX6_makePlan_21 : decode cX6_makePlan 21 = .ok (.getfield 21, 3) := by decide +kernel
theorem dX6_makePlan_24 : decode cX6_makePlan 24 = .ok (.invokevirtual 216, 3) := by decide +kernel
theorem dX6_makePlan_27 : decode cX6_makePlan 27 = .ok (.aload_n 0, 1) := by decide +kernel
theorem dX6_makePlan_28 : decode cX6_makePlan 28 = .ok (.getfield 44, 3) := by decide +kernel
theorem dX6_makePlan_31 : decode cX6_makePlan 31 = .ok (.aload_n 0, 1) := by decide +kernel
theorem dX6_makePlan_32 : decode cX6_makePlan 32 = .ok (.getfield 41, 3) := by decide +kernel
theorem dX6_makePlan_35 : decode cX6_makePlan 35 = .ok (.invokevirtual 223, 3) := by decide +kernel
theorem dX6_makePlan_38 : decode cX6_makePlan 38 = .ok (.iconst 0, 1) := by decide +kernel
theorem dX6_makePlan_39 : decode cX6_makePlan 39 = .ok (.istore_n 1, 1) := by decide +kernel
theorem dX6_makePlan_40 : decode cX6_makePlan 40 = .ok (.iload_n 1, 1) := by decide +kernel
theorem dX6_makePlan_41 : decode cX6_makePlan 41 = .ok (.bipush 12, 2) := by decide +kernel
theorem dX6_makePlan_43 : decode cX6_makePlan 43 = .ok (.if_icmp .ge 103, 3) := by decide +kernel
theorem dX6_makePlan_46 : decode cX6_makePlan 46 = .ok (.aload_n 0, 1) := by decide +kernel
theorem dX6_makePlan_47 : decode cX6_makePlan 47 = .ok (.aload_n 0, 1) := by decide +kernel
theorem dX6_makePlan_48 : decode cX6_makePlan 48 = .ok (.getfield 44, 3) := by decide +kernel
theorem dX6_makePlan_51 : decode cX6_makePlan 51 = .ok (.aload_n 0, 1) := by decide +kernel
theorem dX6_makePlan_52 : decode cX6_makePlan 52 = .ok (.getfield 41, 3) := by decide +kernel
theorem dX6_makePlan_55 : decode cX6_makePlan 55 = .ok (.invokevirtual 212, 3) := by decide +kernel
theorem dX6_makePlan_58 : decode cX6_makePlan 58 = .ok (.istore_n 2, 1) := by decide +kernel
theorem dX6_makePlan_59 : decode cX6_makePlan 59 = .ok (.iload_n 2, 1) := by decide +kernel
theorem dX6_makePlan_60 : decode cX6_makePlan 60 = .ok (.bipush (-9), 2) := by decide +kernel
theorem dX6_makePlan_62 : decode cX6_makePlan 62 = .ok (.if_icmp .ne 6, 3) := by decide +kernel
theorem dX6_makePlan_65 : decode cX6_makePlan 65 = .ok (.goto 81, 3) := by decide +kernel
theorem dX6_makePlan_68 : decode cX6_makePlan 68 = .ok (.aload_n 0, 1) := by decide +kernel
theorem dX6_makePlan_69 : decode cX6_makePlan 69 = .ok (.getfield 50, 3) := by decide +kernel
theorem dX6_makePlan_72 : decode cX6_makePlan 72 = .ok (.aload_n 0, 1) := by decide +kernel
theorem dX6_makePlan_73 : decode cX6_makePlan 73 = .ok (.getfield 44, 3) := by decide +kernel
theorem dX6_makePlan_76 : decode cX6_makePlan 76 = .ok (.iload_n 2, 1) := by decide +kernel
theorem dX6_makePlan_77 : decode cX6_makePlan 77 = .ok (.invokevirtual 197, 3) := by decide +kernel
theorem dX6_makePlan_80 : decode cX6_makePlan 80 = .ok (.aload_n 0, 1) := by decide +kernel
theorem dX6_makePlan_81 : decode cX6_makePlan 81 = .ok (.getfield 50, 3) := by decide +kernel
theorem dX6_makePlan_84 : decode cX6_makePlan 84 = .ok (.invokevirtual 255, 3) := by decide +kernel
theorem dX6_makePlan_87 : decode cX6_makePlan 87 = .ok (.aload_n 0, 1) := by decide +kernel
theorem dX6_makePlan_88 : decode cX6_makePlan 88 = .ok (.getfield 50, 3) := by decide +kernel
theorem dX6_makePlan_91 : decode cX6_makePlan 91 = .ok (.invokevirtual 258, 3) := by decide +kernel
theorem dX6_makePlan_94 : decode cX6_makePlan 94 = .ok (.lcmp, 1) := by decide +kernel
theorem dX6_makePlan_95 : decode cX6_makePlan 95 = .ok (.ifCond .lt 7, 3) := by decide +kernel
theorem dX6_makePlan_98 : decode cX6_makePlan 98 = .ok (.iconst 1, 1) := by decide +kernel
theorem dX6_makePlan_99 : decode cX6_makePlan 99 = .ok (.goto 4, 3) := by decide +kernel
theorem dX6_makePlan_102 : decode cX6_makePlan 102 = .ok (.iconst 2, 1) := by decide +kernel
theorem dX6_makePlan_103 : decode cX6_makePlan 103 = .ok (.istore_n 3, 1) := by decide +kernel
theorem dX6_makePlan_104 : decode cX6_makePlan 104 = .ok (.aload_n 0, 1) := by decide +kernel
theorem dX6_makePlan_105 : decode cX6_makePlan 105 = .ok (.getfield 41, 3) := by decide +kernel
theorem dX6_makePlan_108 : decode cX6_makePlan 108 = .ok (.iload_n 2, 1) := by decide +kernel
theorem dX6_makePlan_109 : decode cX6_makePlan 109 = .ok (.iload_n 3, 1) := by decide +kernel
theorem dX6_makePlan_110 : decode cX6_makePlan 110 = .ok (.invokevirtual 219, 3) := by decide +kernel
theorem dX6_makePlan_113 : decode cX6_makePlan 113 = .ok (.aload_n 0, 1) := by decide +kernel
theorem dX6_makePlan_114 : decode cX6_makePlan 114 = .ok (.getfield 44, 3) := by decide +kernel
theorem dX6_makePlan_117 : decode cX6_makePlan 117 = .ok (.aload_n 0, 1) := by decide +kernel
theorem dX6_makePlan_118 : decode cX6_makePlan 118 = .ok (.getfield 41, 3) := by decide +kernel
theorem dX6_makePlan_121 : decode cX6_makePlan 121 = .ok (.invokevirtual 223, 3) := by decide +kernel
theorem dX6_makePlan_124 : decode cX6_makePlan 124 = .ok (.aload_n 0, 1) := by decide +kernel
theorem dX6_makePlan_125 : decode cX6_makePlan 125 = .ok (.getfield 57, 3) := by decide +kernel
theorem dX6_makePlan_128 : decode cX6_makePlan 128 = .ok (.iload_n 2, 1) := by decide +kernel
theorem dX6_makePlan_129 : decode cX6_makePlan 129 = .ok (.iload_n 3, 1) := by decide +kernel
theorem dX6_makePlan_130 : decode cX6_makePlan 130 = .ok (.aload_n 0, 1) := by decide +kernel
theorem dX6_makePlan_131 : decode cX6_makePlan 131 = .ok (.getfield 44, 3) := by decide +kernel
theorem dX6_makePlan_134 : decode cX6_makePlan 134 = .ok (.getfield 136, 3) := by decide +kernel
theorem dX6_makePlan_137 : decode cX6_makePlan 137 = .ok (.invokevirtual 261, 3) := by decide +kernel
theorem dX6_makePlan_140 : decode cX6_makePlan 140 = .ok (.iinc 1 1, 3) := by decide +kernel
theorem dX6_makePlan_143 : decode cX6_makePlan 143 = .ok (.goto (-103), 3) := by decide +kernel
theorem dX6_makePlan_146 : decode cX6_makePlan 146 = .ok (.aload_n 0, 1) := by decide +kernel
theorem dX6_makePlan_147 : decode cX6_makePlan 147 = .ok (.iconst 1, 1) := by decide +kernel
theorem dX6_makePlan_148 : decode cX6_makePlan 148 = .ok (.putfield 246, 3) := by decide +kernel
theorem dX6_makePlan_151 : decode cX6_makePlan 151 = .ok (.return_, 1) := by decide +kernel
theorem dX6_inLeastTerms_0 : decode cX6_inLeastTerms 0 = .ok (.iload 4, 2) := by decide +kernel
theorem dX6_inLeastTerms_2 : decode cX6_inLeastTerms 2 = .ok (.ifCond .ne 7, 3) := by decide +kernel
theorem dX6_inLeastTerms_5 : decode cX6_inLeastTerms 5 = .ok (.lload_n 0, 1) := by decide +kernel
theorem dX6_inLeastTerms_6 : decode cX6_inLeastTerms 6 = .ok (.goto 4, 3) := by decide +kernel
theorem dX6_inLeastTerms_9 : decode cX6_inLeastTerms 9 = .ok (.lload_n 2, 1) := by decide +kernel
theorem dX6_inLeastTerms_10 : decode cX6_inLeastTerms 10 = .ok (.lstore 5, 2) := by decide +kernel
theorem dX6_inLeastTerms_12 : decode cX6_inLeastTerms 12 = .ok (.lload_n 0, 1) := by decide +kernel
theorem dX6_inLeastTerms_13 : decode cX6_inLeastTerms 13 = .ok (.lload_n 2, 1) := by decide +kernel
theorem dX6_inLeastTerms_14 : decode cX6_inLeastTerms 14 = .ok (.invokestatic 264, 3) := by decide +kernel
theorem dX6_inLeastTerms_17 : decode cX6_inLeastTerms 17 = .ok (.lstore 7, 2) := by decide +kernel
theorem dX6_inLeastTerms_19 : decode cX6_inLeastTerms 19 = .ok (.lload 7, 2) := by decide +kernel
theorem dX6_inLeastTerms_21 : decode cX6_inLeastTerms 21 = .ok (.lconst 0, 1) := by decide +kernel
theorem dX6_inLeastTerms_22 : decode cX6_inLeastTerms 22 = .ok (.lcmp, 1) := by decide +kernel
theorem dX6_inLeastTerms_23 : decode cX6_inLeastTerms 23 = .ok (.ifCond .le 11, 3) := by decide +kernel
theorem dX6_inLeastTerms_26 : decode cX6_inLeastTerms 26 = .ok (.lload 5, 2) := by decide +kernel
theorem dX6_inLeastTerms_28 : decode cX6_inLeastTerms 28 = .ok (.lload 7, 2) := by decide +kernel
theorem dX6_inLeastTerms_30 : decode cX6_inLeastTerms 30 = .ok (.ldiv, 1) := by decide +kernel
theorem dX6_inLeastTerms_31 : decode cX6_inLeastTerms 31 = .ok (.goto 5, 3) := by decide +kernel
theorem dX6_inLeastTerms_34 : decode cX6_inLeastTerms 34 = .ok (.lload 5, 2) := by decide +kernel
theorem dX6_inLeastTerms_36 : decode cX6_inLeastTerms 36 = .ok (.lreturn, 1) := by decide +kernel
theorem dX6_greatestDivisor_0 : decode cX6_greatestDivisor 0 = .ok (.lload_n 0, 1) := by decide +kernel
theorem dX6_greatestDivisor_1 : decode cX6_greatestDivisor 1 = .ok (.lstore 4, 2) := by decide +kernel
theorem dX6_greatestDivisor_3 : decode cX6_greatestDivisor 3 = .ok (.lload_n 2, 1) := by decide +kernel
theorem dX6_greatestDivisor_4 : decode cX6_greatestDivisor 4 = .ok (.lstore 6, 2) := by decide +kernel
theorem dX6_greatestDivisor_6 : decode cX6_greatestDivisor 6 = .ok (.iconst 0, 1) := by decide +kernel
theorem dX6_greatestDivisor_7 : decode cX6_greatestDivisor 7 = .ok (.istore 8, 2) := by decide +kernel
theorem dX6_greatestDivisor_9 : decode cX6_greatestDivisor 9 = .ok (.iload 8, 2) := by decide +kernel
theorem dX6_greatestDivisor_11 : decode cX6_greatestDivisor 11 = .ok (.sipush 128, 3) := by decide +kernel
theorem dX6_greatestDivisor_14 : decode cX6_greatestDivisor 14 = .ok (.if_icmp .ge 31, 3) := by decide +kernel
theorem dX6_greatestDivisor_17 : decode cX6_greatestDivisor 17 = .ok (.lload 6, 2) := by decide +kernel
theorem dX6_greatestDivisor_19 : decode cX6_greatestDivisor 19 = .ok (.lconst 0, 1) := by decide +kernel
theorem dX6_greatestDivisor_20 : decode cX6_greatestDivisor 20 = .ok (.lcmp, 1) := by decide +kernel
theorem dX6_greatestDivisor_21 : decode cX6_greatestDivisor 21 = .ok (.ifCond .eq 24, 3) := by decide +kernel
theorem dX6_greatestDivisor_24 : decode cX6_greatestDivisor 24 = .ok (.lload 4, 2) := by decide +kernel
theorem dX6_greatestDivisor_26 : decode cX6_greatestDivisor 26 = .ok (.lload 6, 2) := by decide +kernel
theorem dX6_greatestDivisor_28 : decode cX6_greatestDivisor 28 = .ok (.lrem, 1) := by decide +kernel
theorem dX6_greatestDivisor_29 : decode cX6_greatestDivisor 29 = .ok (.lstore 9, 2) := by decide +kernel
theorem dX6_greatestDivisor_31 : decode cX6_greatestDivisor 31 = .ok (.lload 6, 2) := by decide +kernel
theorem dX6_greatestDivisor_33 : decode cX6_greatestDivisor 33 = .ok (.lstore 4, 2) := by decide +kernel
theorem dX6_greatestDivisor_35 : decode cX6_greatestDivisor 35 = .ok (.lload 9, 2) := by decide +kernel
theorem dX6_greatestDivisor_37 : decode cX6_greatestDivisor 37 = .ok (.lstore 6, 2) := by decide +kernel
theorem dX6_greatestDivisor_39 : decode cX6_greatestDivisor 39 = .ok (.iinc 8 1, 3) := by decide +kernel
theorem dX6_greatestDivisor_42 : decode cX6_greatestDivisor 42 = .ok (.goto (-33), 3) := by decide +kernel
theorem dX6_greatestDivisor_45 : decode cX6_greatestDivisor 45 = .ok (.lload 4, 2) := by decide +kernel
theorem dX6_greatestDivisor_47 : decode cX6_greatestDivisor 47 = .ok (.lreturn, 1) := by decide +kernel
theorem dX7_init_0 : decode cX7_init 0 = .ok (.aload_n 0, 1) := by decide +kernel
theorem dX7_init_1 : decode cX7_init 1 = .ok (.invokespecial 1, 3) := by decide +kernel
theorem dX7_init_4 : decode cX7_init 4 = .ok (.aload_n 0, 1) := by decide +kernel
theorem dX7_init_5 : decode cX7_init 5 = .ok (.bipush 10, 2) := by decide +kernel
theorem dX7_init_7 : decode cX7_init 7 = .ok (.newarray .int, 2) := by decide +kernel
theorem dX7_init_9 : decode cX7_init 9 = .ok (.putfield 7, 3) := by decide +kernel
theorem dX7_init_12 : decode cX7_init 12 = .ok (.aload_n 0, 1) := by decide +kernel
theorem dX7_init_13 : decode cX7_init 13 = .ok (.bipush 10, 2) := by decide +kernel
theorem dX7_init_15 : decode cX7_init 15 = .ok (.newarray .int, 2) := by decide +kernel
theorem dX7_init_17 : decode cX7_init 17 = .ok (.putfield 13, 3) := by decide +kernel
theorem dX7_init_20 : decode cX7_init 20 = .ok (.aload_n 0, 1) := by decide +kernel
theorem dX7_init_21 : decode cX7_init 21 = .ok (.bipush 120, 2) := by decide +kernel
theorem dX7_init_23 : decode cX7_init 23 = .ok (.newarray .int, 2) := by decide +kernel
theorem dX7_init_25 : decode cX7_init 25 = .ok (.putfield 16, 3) := by decide +kernel
theorem dX7_init_28 : decode cX7_init 28 = .ok (.aload_n 0, 1) := by decide +kernel
theorem dX7_init_29 : decode cX7_init 29 = .ok (.bipush 12, 2) := by decide +kernel
theorem dX7_init_31 : decode cX7_init 31 = .ok (.newarray .int, 2) := by decide +kernel
theorem dX7_init_33 : decode cX7_init 33 = .ok (.putfield 19, 3) := by decide +kernel
theorem dX7_init_36 : decode cX7_init 36 = .ok (.aload_n 0, 1) := by decide +kernel
theorem dX7_init_37 : decode cX7_init 37 = .ok (.bipush 20, 2) := by decide +kernel
theorem dX7_init_39 : decode cX7_init 39 = .ok (.newarray .int, 2) := by decide +kernel
theorem dX7_init_41 : decode cX7_init 41 = .ok (.putfield 22, 3) := by decide +kernel
theorem dX7_init_44 : decode cX7_init 44 = .ok (.aload_n 0, 1) := by decide +kernel
theorem dX7_init_45 : decode cX7_init 45 = .ok (.bipush 20, 2) := by decide +kernel
theorem dX7_init_47 : decode cX7_init 47 = .ok (.newarray .int, 2) := by decide +kernel
theorem dX7_init_49 : decode cX7_init 49 = .ok (.putfield 25, 3) := by decide +kernel
theorem dX7_init_52 : decode cX7_init 52 = .ok (.aload_n 0, 1) := by decide +kernel
theorem dX7_init_53 : decode cX7_init 53 = .ok (.sipush 1024, 3) := by decide +kernel
theorem dX7_init_56 : decode cX7_init 56 = .ok (.newarray .int, 2) := by decide +kernel
theorem dX7_init_58 : decode cX7_init 58 = .ok (.putfield 28, 3) := by decide +kernel
theorem dX7_init_61 : decode cX7_init 61 = .ok (.aload_n 0, 1) := by decide +kernel
theorem dX7_init_62 : decode cX7_init 62 = .ok (.sipush 1024, 3) := by decide +kernel
theorem dX7_init_65 : decode cX7_init 65 = .ok (.newarray .long, 2) := by decide +kernel
theorem dX7_init_67 : decode cX7_init 67 = .ok (.putfield 31, 3) := by decide +kernel
theorem dX7_init_70 : decode cX7_init 70 = .ok (.aload_n 0, 1) := by decide +kernel
theorem dX7_init_71 : decode cX7_init 71 = .ok (.sipush 1024, 3) := by decide +kernel
theorem dX7_init_74 : decode cX7_init 74 = .ok (.newarray .boolean, 2) := by decide +kernel
theorem dX7_init_76 : decode cX7_init 76 = .ok (.putfield 35, 3) := by decide +kernel
theorem dX7_init_79 : decode cX7_init 79 = .ok (.aload_n 0, 1) := by decide +kernel
theorem dX7_init_80 : decode cX7_init 80 = .ok (.bipush 12, 2) := by decide +kernel
theorem dX7_init_82 : decode cX7_init 82 = .ok (.newarray .int, 2) := by decide +kernel
theorem dX7_init_84 : decode cX7_init 84 = .ok (.putfield 39, 3) := by decide +kernel
theorem dX7_init_87 : decode cX7_init 87 = .ok (.aload_n 0, 1) := by decide +kernel
theorem dX7_init_88 : decode cX7_init 88 = .ok (.bipush 12, 2) := by decide +kernel
theorem dX7_init_90 : decode cX7_init 90 = .ok (.newarray .int, 2) := by decide +kernel
theorem dX7_init_92 : decode cX7_init 92 = .ok (.putfield 42, 3) := by decide +kernel
theorem dX7_init_95 : decode cX7_init 95 = .ok (.aload_n 0, 1) := by decide +kernel
theorem dX7_init_96 : decode cX7_init 96 = .ok (.bipush 12, 2) := by decide +kernel
theorem dX7_init_98 : decode cX7_init 98 = .ok (.newarray .int, 2) := by decide +kernel
theorem dX7_init_100 : decode cX7_init 100 = .ok (.putfield 45, 3) := by decide +kernel
theorem dX7_init_103 : decode cX7_init 103 = .ok (.aload_n 0, 1) := by decide +kernel
theorem dX7_init_104 : decode cX7_init 104 = .ok (.bipush 12, 2) := by decide +kernel
theorem dX7_init_106 : decode cX7_init 106 = .ok (.newarray .int, 2) := by decide +kernel
theorem dX7_init_108 : decode cX7_init 108 = .ok (.putfield 48, 3) := by decide +kernel
theorem dX7_init_111 : decode cX7_init 111 = .ok (.iconst 0, 1) := by decide +kernel
theorem dX7_init_112 : decode cX7_init 112 = .ok (.istore_n 1, 1) := by decide +kernel
theorem dX7_init_113 : decode cX7_init 113 = .ok (.iload_n 1, 1) := by decide +kernel
theorem dX7_init_114 : decode cX7_init 114 = .ok (.bipush 10, 2) := by decide +kernel
theorem dX7_init_116 : decode cX7_init 116 = .ok (.if_icmp .ge 23, 3) := by decide +kernel
theorem dX7_init_119 : decode cX7_init 119 = .ok (.aload_n 0, 1) := by decide +kernel
theorem dX7_init_120 : decode cX7_init 120 = .ok (.getfield 7, 3) := by decide +kernel
theorem dX7_init_123 : decode cX7_init 123 = .ok (.iload_n 1, 1) := by decide +kernel
theorem dX7_init_124 : decode cX7_init 124 = .ok (.iconst 1, 1) := by decide +kernel
theorem dX7_init_125 : decode cX7_init 125 = .ok (.iastore, 1) := by decide +kernel
theorem dX7_init_126 : decode cX7_init 126 = .ok (.aload_n 0, 1) := by decide +kernel
theorem dX7_init_127 : decode cX7_init 127 = .ok (.getfield 13, 3) := by decide +kernel
theorem dX7_init_130 : decode cX7_init 130 = .ok (.iload_n 1, 1) := by decide +kernel
theorem dX7_init_131 : decode cX7_init 131 = .ok (.iconst 1, 1) := by decide +kernel
theorem dX7_init_132 : decode cX7_init 132 = .ok (.iastore, 1) := by decide +kernel
theorem dX7_init_133 : decode cX7_init 133 = .ok (.iinc 1 1, 3) := by decide +kernel
theorem dX7_init_136 : decode cX7_init 136 = .ok (.goto (-23), 3) := by decide +kernel
theorem dX7_init_139 : decode cX7_init 139 = .ok (.return_, 1) := by decide +kernel
theorem dX7_within_0 : decode cX7_within 0 = .ok (.iload_n 0, 1) := by decide +kernel
theorem dX7_within_1 : decode cX7_within 1 = .ok (.iload_n 1, 1) := by decide +kernel
theorem dX7_within_2 : decode cX7_within 2 = .ok (.if_icmp .lt 12, 3) := by decide +kernel
theorem dX7_within_5 : decode cX7_within 5 = .ok (.iload_n 0, 1) := by decide +kernel
theorem dX7_within_6 : decode cX7_within 6 = .ok (.iload_n 2, 1) := by decide +kernel
theorem dX7_within_7 : decode cX7_within 7 = .ok (.if_icmp .gt 7, 3) := by decide +kernel
theorem dX7_within_10 : decode cX7_within 10 = .ok (.iconst 1, 1) := by decide +kernel
theorem dX7_within_11 : decode cX7_within 11 = .ok (.goto 4, 3) := by decide +kernel
theorem dX7_within_14 : decode cX7_within 14 = .ok (.iconst 0, 1) := by decide +kernel
theorem dX7_within_15 : decode cX7_within 15 = .ok (.ireturn, 1) := by decide +kernel
theorem dX7_isCause_0 : decode cX7_isCause 0 = .ok (.iload_n 0, 1) := by decide +kernel
theorem dX7_isCause_1 : decode cX7_isCause 1 = .ok (.iconst 0, 1) := by decide +kernel
theorem dX7_isCause_2 : decode cX7_isCause 2 = .ok (.bipush 9, 2) := by decide +kernel
theorem dX7_isCause_4 : decode cX7_isCause 4 = .ok (.invokestatic 51, 3) := by decide +kernel
theorem dX7_isCause_7 : decode cX7_isCause 7 = .ok (.ireturn, 1) := by decide +kernel
theorem dX7_isFinding_0 : decode cX7_isFinding 0 = .ok (.iload_n 0, 1) := by decide +kernel
theorem dX7_isFinding_1 : decode cX7_isFinding 1 = .ok (.iconst 0, 1) := by decide +kernel
theorem dX7_isFinding_2 : decode cX7_isFinding 2 = .ok (.bipush 11, 2) := by decide +kernel
theorem dX7_isFinding_4 : decode cX7_isFinding 4 = .ok (.invokestatic 51, 3) := by decide +kernel
theorem dX7_isFinding_7 : decode cX7_isFinding 7 = .ok (.ireturn, 1) := by decide +kernel
theorem dX7_isIn_0 : decode cX7_isIn 0 = .ok (.iload_n 0, 1) := by decide +kernel
theorem dX7_isIn_1 : decode cX7_isIn 1 = .ok (.iload_n 1, 1) := by decide +kernel
theorem dX7_isIn_2 : decode cX7_isIn 2 = .ok (.ishr, 1) := by decide +kernel
theorem dX7_isIn_3 : decode cX7_isIn 3 = .ok (.iconst 1, 1) := by decide +kernel
theorem dX7_isIn_4 : decode cX7_isIn 4 = .ok (.iand, 1) := by decide +kernel
theorem dX7_isIn_5 : decode cX7_isIn 5 = .ok (.iconst 1, 1) := by decide +kernel
theorem dX7_isIn_6 : decode cX7_isIn 6 = .ok (.if_icmp .ne 7, 3) := by decide +kernel
theorem dX7_isIn_9 : decode cX7_isIn 9 = .ok (.iconst 1, 1) := by decide +kernel
theorem dX7_isIn_10 : decode cX7_isIn 10 = .ok (.goto 4, 3) := by decide +kernel
theorem dX7_isIn_13 : decode cX7_isIn 13 = .ok (.iconst 0, 1) := by decide +kernel
theorem dX7_isIn_14 : decode cX7_isIn 14 = .ok (.ireturn, 1) := by decide +kernel
theorem dX7_size_0 : decode cX7_size 0 = .ok (.iconst 0, 1) := by decide +kernel
theorem dX7_size_1 : decode cX7_size 1 = .ok (.istore_n 1, 1) := by decide +kernel
theorem dX7_size_2 : decode cX7_size 2 = .ok (.iconst 0, 1) := by decide +kernel
theorem dX7_size_3 : decode cX7_size 3 = .ok (.istore_n 2, 1) := by decide +kernel
theorem dX7_size_4 : decode cX7_size 4 = .ok (.iload_n 2, 1) := by decide +kernel
theorem dX7_size_5 : decode cX7_size 5 = .ok (.bipush 12, 2) := by decide +kernel
theorem dX7_size_7 : decode cX7_size 7 = .ok (.if_icmp .ge 17, 3) := by decide +kernel
theorem dX7_size_10 : decode cX7_size 10 = .ok (.iload_n 1, 1) := by decide +kernel
theorem dX7_size_11 : decode cX7_size 11 = .ok (.iload_n 0, 1) := by decide +kernel
theorem dX7_size_12 : decode cX7_size 12 = .ok (.iload_n 2, 1) := by decide +kernel
theorem dX7_size_13 : decode cX7_size 13 = .ok (.ishr, 1) := by decide +kernel
theorem dX7_size_14 : decode cX7_size 14 = .ok (.iconst 1, 1) := by decide +kernel
theorem dX7_size_15 : decode cX7_size 15 = .ok (.iand, 1) := by decide +kernel
theorem dX7_size_16 : decode cX7_size 16 = .ok (.iadd, 1) := by decide +kernel
theorem dX7_size_17 : decode cX7_size 17 = .ok (.istore_n 1, 1) := by decide +kernel
theorem dX7_size_18 : decode cX7_size 18 = .ok (.iinc 2 1, 3) := by decide +kernel
theorem dX7_size_21 : decode cX7_size 21 = .ok (.goto (-17), 3) := by decide +kernel
theorem dX7_size_24 : decode cX7_size 24 = .ok (.iload_n 1, 1) := by decide +kernel
theorem dX7_size_25 : decode cX7_size 25 = .ok (.ireturn, 1) := by decide +kernel
theorem dX7_linkAt_0 : decode cX7_linkAt 0 = .ok (.aload_n 0, 1) := by decide +kernel
theorem dX7_linkAt_1 : decode cX7_linkAt 1 = .ok (.getfield 16, 3) := by decide +kernel
theorem dX7_linkAt_4 : decode cX7_linkAt 4 = .ok (.bipush 10, 2) := by decide +kernel
theorem dX7_linkAt_6 : decode cX7_linkAt 6 = .ok (.iload_n 1, 1) := by decide +kernel
theorem dX7_linkAt_7 : decode cX7_linkAt 7 = .ok (.imul, 1) := by decide +kernel
theorem dX7_linkAt_8 : decode cX7_linkAt 8 = .ok (.iload_n 2, 1) := by decide +kernel
theorem dX7_linkAt_9 : decode cX7_linkAt 9 = .ok (.iadd, 1) := by decide +kernel
theorem dX7_linkAt_10 : decode cX7_linkAt 10 = .ok (.iaload, 1) := by decide +kernel
theorem dX7_linkAt_11 : decode cX7_linkAt 11 = .ok (.ireturn, 1) := by decide +kernel
theorem dX7_cause_0 : decode cX7_cause 0 = .ok (.iload_n 1, 1) := by decide +kernel
theorem dX7_cause_1 : decode cX7_cause 1 = .ok (.invokestatic 55, 3) := by decide +kernel
theorem dX7_cause_4 : decode cX7_cause 4 = .ok (.ifCond .ne 5, 3) := by decide +kernel
theorem dX7_cause_7 : decode cX7_cause 7 = .ok (.iconst (-1), 1) := by decide +kernel
theorem dX7_cause_8 : decode cX7_cause 8 = .ok (.ireturn, 1) := by decide +kernel
theorem dX7_cause_9 : decode cX7_cause 9 = .ok (.iload_n 2, 1) := by decide +kernel
theorem dX7_cause_10 : decode cX7_cause 10 = .ok (.iconst 1, 1) := by decide +kernel
theorem dX7_cause_11 : decode cX7_cause 11 = .ok (.bipush 20, 2) := by decide +kernel
theorem dX7_cause_13 : decode cX7_cause 13 = .ok (.invokestatic 51, 3) := by decide +kernel
theorem dX7_cause_16 : decode cX7_cause 16 = .ok (.ifCond .eq 13, 3) := by decide +kernel
theorem dX7_cause_19 : decode cX7_cause 19 = .ok (.iload_n 3, 1) := by decide +kernel
theorem dX7_cause_20 : decode cX7_cause 20 = .ok (.iconst 1, 1) := by decide +kernel
theorem dX7_cause_21 : decode cX7_cause 21 = .ok (.bipush 20, 2) := by decide +kernel
theorem dX7_cause_23 : decode cX7_cause 23 = .ok (.invokestatic 51, 3) := by decide +kernel
theorem dX7_cause_26 : decode cX7_cause 26 = .ok (.ifCond .ne 6, 3) := by decide +kernel
theorem dX7_cause_29 : decode cX7_cause 29 = .ok (.bipush (-2), 2) := by decide +kernel
theorem dX7_cause_31 : decode cX7_cause 31 = .ok (.ireturn, 1) := by decide +kernel
theorem dX7_cause_32 : decode cX7_cause 32 = .ok (.aload_n 0, 1) := by decide +kernel
theorem dX7_cause_33 : decode cX7_cause 33 = .ok (.getfield 7, 3) := by decide +kernel
theorem dX7_cause_36 : decode cX7_cause 36 = .ok (.iload_n 1, 1) := by decide +kernel
theorem dX7_cause_37 : decode cX7_cause 37 = .ok (.iload_n 2, 1) := by decide +kernel
theorem dX7_cause_38 : decode cX7_cause 38 = .ok (.iastore, 1) := by decide +kernel
theorem dX7_cause_39 : decode cX7_cause 39 = .ok (.aload_n 0, 1) := by decide +kernel
theorem dX7_cause_40 : decode cX7_cause 40 = .ok (.getfield 13, 3) := by decide +kernel
theorem dX7_cause_43 : decode cX7_cause 43 = .ok (.iload_n 1, 1) := by decide +kernel
theorem dX7_cause_44 : decode cX7_cause 44 = .ok (.iload_n 3, 1) := by decide +kernel
theorem dX7_cause_45 : decode cX7_cause 45 = .ok (.iastore, 1) := by decide +kernel
theorem dX7_cause_46 : decode cX7_cause 46 = .ok (.aload_n 0, 1) := by decide +kernel
theorem dX7_cause_47 : decode cX7_cause 47 = .ok (.iconst 0, 1) := by decide +kernel
theorem dX7_cause_48 : decode cX7_cause 48 = .ok (.putfield 59, 3) := by decide +kernel
theorem dX7_cause_51 : decode cX7_cause 51 = .ok (.iconst 1, 1) := by decide +kernel
theorem dX7_cause_52 : decode cX7_cause 52 = .ok (.ireturn, 1) := by decide +kernel
theorem dX7_link_0 : decode cX7_link 0 = .ok (.iload_n 1, 1) := by decide +kernel
theorem dX7_link_1 : decode cX7_link 1 = .ok (.invokestatic 63, 3) := by decide +kernel
theorem dX7_link_4 : decode cX7_link 4 = .ok (.ifCond .eq 10, 3) := by decide +kernel
theorem dX7_link_7 : decode cX7_link 7 = .ok (.iload_n 2, 1) := by decide +kernel
theorem dX7_link_8 : decode cX7_link 8 = .ok (.invokestatic 55, 3) := by decide +kernel
theorem dX7_link_11 : decode cX7_link 11 = .ok (.ifCond .ne 5, 3) := by decide +kernel
theorem dX7_link_14 : decode cX7_link 14 = .ok (.iconst (-1), 1) := by decide +kernel
theorem dX7_link_15 : decode cX7_link 15 = .ok (.ireturn, 1) := by decide +kernel
theorem dX7_link_16 : decode cX7_link 16 = .ok (.iload_n 3, 1) := by decide +kernel
theorem dX7_link_17 : decode cX7_link 17 = .ok (.iconst 0, 1) := by decide +kernel
theorem dX7_link_18 : decode cX7_link 18 = .ok (.iconst 2, 1) := by decide +kernel
theorem dX7_link_19 : decode cX7_link 19 = .ok (.invokestatic 51, 3) := by decide +kernel
theorem dX7_link_22 : decode cX7_link 22 = .ok (.ifCond .ne 6, 3) := by decide +kernel
theorem dX7_link_25 : decode cX7_link 25 = .ok (.bipush (-2), 2) := by decide +kernel
theorem dX7_link_27 : decode cX7_link 27 = .ok (.ireturn, 1) := by decide +kernel
theorem dX7_link_28 : decode cX7_link 28 = .ok (.aload_n 0, 1) := by decide +kernel
theorem dX7_link_29 : decode cX7_link 29 = .ok (.iload_n 1, 1) := by decide +kernel
theorem dX7_link_30 : decode cX7_link 30 = .ok (.iload_n 2, 1) := by decide +kernel
theorem dX7_link_31 : decode cX7_link 31 = .ok (.invokevirtual 66, 3) := by decide +kernel
theorem dX7_link_34 : decode cX7_link 34 = .ok (.istore 4, 2) := by decide +kernel
theorem dX7_link_36 : decode cX7_link 36 = .ok (.aload_n 0, 1) := by decide +kernel
theorem dX7_link_37 : decode cX7_link 37 = .ok (.getfield 16, 3) := by decide +kernel
theorem dX7_link_40 : decode cX7_link 40 = .ok (.bipush 10, 2) := by decide +kernel
theorem dX7_link_42 : decode cX7_link 42 = .ok (.iload_n 1, 1) := by decide +kernel
theorem dX7_link_43 : decode cX7_link 43 = .ok (.imul, 1) := by decide +kernel
theorem dX7_link_44 : decode cX7_link 44 = .ok (.iload_n 2, 1) := by decide +kernel
theorem dX7_link_45 : decode cX7_link 45 = .ok (.iadd, 1) := by decide +kernel
theorem dX7_link_46 : decode cX7_link 46 = .ok (.iload_n 3, 1) := by decide +kernel
theorem dX7_link_47 : decode cX7_link 47 = .ok (.iastore, 1) := by decide +kernel
theorem dX7_link_48 : decode cX7_link 48 = .ok (.aload_n 0, 1) := by decide +kernel
theorem dX7_link_49 : decode cX7_link 49 = .ok (.iconst 0, 1) := by decide +kernel
theorem dX7_link_50 : decode cX7_link 50 = .ok (.putfield 59, 3) := by decide +kernel
theorem dX7_link_53 : decode cX7_link 53 = .ok (.iload 4, 2) := by decide +kernel
theorem dX7_link_55 : decode cX7_link 55 = .ok (.ireturn, 1) := by decide +kernel
theorem dX7_keeps_0 : decode cX7_keeps 0 = .ok (.aload_n 0, 1) := by decide +kernel
theorem dX7_keeps_1 : decode cX7_keeps 1 = .ok (.iconst 0, 1) := by decide +kernel
theorem dX7_keeps_2 : decode cX7_keeps 2 = .ok (.putfield 59, 3) := by decide +kernel
theorem dX7_keeps_5 : decode cX7_keeps 5 = .ok (.aload_n 0, 1) := by decide +kernel
theorem dX7_keeps_6 : decode cX7_keeps 6 = .ok (.getfield 70, 3) := by decide +kernel
theorem dX7_keeps_9 : decode cX7_keeps 9 = .ok (.bipush 20, 2) := by decide +kernel
theorem dX7_keeps_11 : decode cX7_keeps 11 = .ok (.if_icmp .ne 55, 3) := by decide +kernel
theorem dX7_keeps_14 : decode cX7_keeps 14 = .ok (.iconst 1, 1) := by decide +kernel
theorem dX7_keeps_15 : decode cX7_keeps 15 = .ok (.istore_n 2, 1) := by decide +kernel
theorem dX7_keeps_16 : decode cX7_keeps 16 = .ok (.iload_n 2, 1) := by decide +kernel
theorem dX7_keeps_17 : decode cX7_keeps 17 = .ok (.bipush 20, 2) := by decide +kernel
theorem dX7_keeps_19 : decode cX7_keeps 19 = .ok (.if_icmp .ge 37, 3) := by decide +kernel
theorem dX7_keeps_22 : decode cX7_keeps 22 = .ok (.aload_n 0, 1) := by decide +kernel
theorem dX7_keeps_23 : decode cX7_keeps 23 = .ok (.getfield 22, 3) := by decide +kernel
theorem dX7_keeps_26 : decode cX7_keeps 26 = .ok (.iload_n 2, 1) := by decide +kernel
theorem dX7_keeps_27 : decode cX7_keeps 27 = .ok (.iconst 1, 1) := by decide +kernel
theorem dX7_keeps_28 : decode cX7_keeps 28 = .ok (.isub, 1) := by decide +kernel
theorem dX7_keeps_29 : decode cX7_keeps 29 = .ok (.aload_n 0, 1) := by decide +kernel
theorem dX7_keeps_30 : decode cX7_keeps 30 = .ok (.getfield 22, 3) := by decide +kernel
theorem dX7_keeps_33 : decode cX7_keeps 33 = .ok (.iload_n 2, 1) := by decide +kernel
theorem dX7_keeps_34 : decode cX7_keeps 34 = .ok (.iaload, 1) := by decide +kernel
theorem dX7_keeps_35 : decode cX7_keeps 35 = .ok (.iastore, 1) := by decide +kernel
theorem dX7_keeps_36 : decode cX7_keeps 36 = .ok (.aload_n 0, 1) := by decide +kernel
theorem dX7_keeps_37 : decode cX7_keeps 37 = .ok (.getfield 25, 3) := by decide +kernel
theorem dX7_keeps_40 : decode cX7_keeps 40 = .ok (.iload_n 2, 1) := by decide +kernel
theorem dX7_keeps_41 : decode cX7_keeps 41 = .ok (.iconst 1, 1) := by decide +kernel
theorem dX7_keeps_42 : decode cX7_keeps 42 = .ok (.isub, 1) := by decide +kernel
theorem dX7_keeps_43 : decode cX7_keeps 43 = .ok (.aload_n 0, 1) := by decide +kernel
theorem dX7_keeps_44 : decode cX7_keeps 44 = .ok (.getfield 25, 3) := by decide +kernel
theorem dX7_keeps_47 : decode cX7_keeps 47 = .ok (.iload_n 2, 1) := by decide +kernel
theorem dX7_keeps_48 : decode cX7_keeps 48 = .ok (.iaload, 1) := by decide +kernel
theorem dX7_keeps_49 : decode cX7_keeps 49 = .ok (.iastore, 1) := by decide +kernel
theorem dX7_keeps_50 : decode cX7_keeps 50 = .ok (.iinc 2 1, 3) := by decide +kernel
theorem dX7_keeps_53 : decode cX7_keeps 53 = .ok (.goto (-37), 3) := by decide +kernel
theorem dX7_keeps_56 : decode cX7_keeps 56 = .ok (.aload_n 0, 1) := by decide +kernel
theorem dX7_keeps_57 : decode cX7_keeps 57 = .ok (.dup, 1) := by decide +kernel
theorem dX7_keeps_58 : decode cX7_keeps 58 = .ok (.getfield 70, 3) := by decide +kernel
theorem dX7_keeps_61 : decode cX7_keeps 61 = .ok (.iconst 1, 1) := by decide +kernel
theorem dX7_keeps_62 : decode cX7_keeps 62 = .ok (.isub, 1) := by decide +kernel
theorem dX7_keeps_63 : decode cX7_keeps 63 = .ok (.putfield 70, 3) := by decide +kernel
theorem dX7_keeps_66 : decode cX7_keeps 66 = .ok (.aload_n 0, 1) := by decide +kernel
theorem dX7_keeps_67 : decode cX7_keeps 67 = .ok (.getfield 22, 3) := by decide +kernel
theorem dX7_keeps_70 : decode cX7_keeps 70 = .ok (.aload_n 0, 1) := by decide +kernel
theorem dX7_keeps_71 : decode cX7_keeps 71 = .ok (.getfield 70, 3) := by decide +kernel
theorem dX7_keeps_74 : decode cX7_keeps 74 = .ok (.iload_n 1, 1) := by decide +kernel
theorem dX7_keeps_75 : decode cX7_keeps 75 = .ok (.iastore, 1) := by decide +kernel
theorem dX7_keeps_76 : decode cX7_keeps 76 = .ok (.aload_n 0, 1) := by decide +kernel
theorem dX7_keeps_77 : decode cX7_keeps 77 = .ok (.getfield 25, 3) := by decide +kernel
theorem dX7_keeps_80 : decode cX7_keeps 80 = .ok (.aload_n 0, 1) := by decide +kernel
theorem dX7_keeps_81 : decode cX7_keeps 81 = .ok (.getfield 70, 3) := by decide +kernel
theorem dX7_keeps_84 : decode cX7_keeps 84 = .ok (.aload_n 0, 1) := by decide +kernel
theorem dX7_keeps_85 : decode cX7_keeps 85 = .ok (.getfield 19, 3) := by decide +kernel
theorem dX7_keeps_88 : decode cX7_keeps 88 = .ok (.iload_n 1, 1) := by decide +kernel
theorem dX7_keeps_89 : decode cX7_keeps 89 = .ok (.iaload, 1) := by decide +kernel
theorem dX7_keeps_90 : decode cX7_keeps 90 = .ok (.iastore, 1) := by decide +kernel
theorem dX7_keeps_91 : decode cX7_keeps 91 = .ok (.aload_n 0, 1) := by decide +kernel
theorem dX7_keeps_92 : decode cX7_keeps 92 = .ok (.dup, 1) := by decide +kernel
theorem dX7_keeps_93 : decode cX7_keeps 93 = .ok (.getfield 70, 3) := by decide +kernel
theorem dX7_keeps_96 : decode cX7_keeps 96 = .ok (.iconst 1, 1) := by decide +kernel
theorem dX7_keeps_97 : decode cX7_keeps 97 = .ok (.iadd, 1) := by decide +kernel
theorem dX7_keeps_98 : decode cX7_keeps 98 = .ok (.putfield 70, 3) := by decide +kernel
theorem dX7_keeps_101 : decode cX7_keeps 101 = .ok (.return_, 1) := by decide +kernel
theorem dX7_tell_0 : decode cX7_tell 0 = .ok (.iload_n 1, 1) := by decide +kernel
theorem dX7_tell_1 : decode cX7_tell 1 = .ok (.invokestatic 63, 3) := by decide +kernel
theorem dX7_tell_4 : decode cX7_tell 4 = .ok (.ifCond .ne 5, 3) := by decide +kernel
theorem dX7_tell_7 : decode cX7_tell 7 = .ok (.iconst (-1), 1) := by decide +kernel
theorem dX7_tell_8 : decode cX7_tell 8 = .ok (.ireturn, 1) := by decide +kernel
theorem dX7_tell_9 : decode cX7_tell 9 = .ok (.iload_n 2, 1) := by decide +kernel
theorem dX7_tell_10 : decode cX7_tell 10 = .ok (.iconst 0, 1) := by decide +kernel
theorem dX7_tell_11 : decode cX7_tell 11 = .ok (.iconst 1, 1) := by decide +kernel
theorem dX7_tell_12 : decode cX7_tell 12 = .ok (.invokestatic 51, 3) := by decide +kernel
theorem dX7_tell_15 : decode cX7_tell 15 = .ok (.ifCond .ne 6, 3) := by decide +kernel
theorem dX7_tell_18 : decode cX7_tell 18 = .ok (.bipush (-2), 2) := by decide +kernel
theorem dX7_tell_20 : decode cX7_tell 20 = .ok (.ireturn, 1) := by decide +kernel
theorem dX7_tell_21 : decode cX7_tell 21 = .ok (.aload_n 0, 1) := by decide +kernel
theorem dX7_tell_22 : decode cX7_tell 22 = .ok (.iload_n 1, 1) := by decide +kernel
theorem dX7_tell_23 : decode cX7_tell 23 = .ok (.invokevirtual 74, 3) := by decide +kernel
theorem dX7_tell_26 : decode cX7_tell 26 = .ok (.aload_n 0, 1) := by decide +kernel
theorem dX7_tell_27 : decode cX7_tell 27 = .ok (.getfield 19, 3) := by decide +kernel
theorem dX7_tell_30 : decode cX7_tell 30 = .ok (.iload_n 1, 1) := by decide +kernel
theorem dX7_tell_31 : decode cX7_tell 31 = .ok (.iload_n 2, 1) := by decide +kernel
theorem dX7_tell_32 : decode cX7_tell 32 = .ok (.iconst 1, 1) := by decide +kernel
theorem dX7_tell_33 : decode cX7_tell 33 = .ok (.if_icmp .ne 7, 3) := by decide +kernel
theorem dX7_tell_36 : decode cX7_tell 36 = .ok (.iconst 1, 1) := by decide +kernel
theorem dX7_tell_37 : decode cX7_tell 37 = .ok (.goto 4, 3) := by decide +kernel
theorem dX7_tell_40 : decode cX7_tell 40 = .ok (.iconst 2, 1) := by decide +kernel
theorem dX7_tell_41 : decode cX7_tell 41 = .ok (.iastore, 1) := by decide +kernel
theorem dX7_tell_42 : decode cX7_tell 42 = .ok (.aload_n 0, 1) := by decide +kernel
theorem dX7_tell_43 : decode cX7_tell 43 = .ok (.invokevirtual 78, 3) := by decide +kernel
theorem dX7_tell_46 : decode cX7_tell 46 = .ok (.ireturn, 1) := by decide +kernel
theorem dX7_withdraw_0 : decode cX7_withdraw 0 = .ok (.iload_n 1, 1) := by decide +kernel
theorem dX7_withdraw_1 : decode cX7_withdraw 1 = .ok (.invokestatic 63, 3) := by decide +kernel
theorem dX7_withdraw_4 : decode cX7_withdraw 4 = .ok (.ifCond .ne 5, 3) := by decide +kernel
theorem dX7_withdraw_7 : decode cX7_withdraw 7 = .ok (.iconst (-1), 1) := by decide +kernel
theorem dX7_withdraw_8 : decode cX7_withdraw 8 = .ok (.ireturn, 1) := by decide +kernel
theorem dX7_withdraw_9 : decode cX7_withdraw 9 = .ok (.aload_n 0, 1) := by decide +kernel
theorem dX7_withdraw_10 : decode cX7_withdraw 10 = .ok (.getfield 19, 3) := by decide +kernel
theorem dX7_withdraw_13 : decode cX7_withdraw 13 = .ok (.iload_n 1, 1) := by decide +kernel
theorem dX7_withdraw_14 : decode cX7_withdraw 14 = .ok (.iaload, 1) := by decide +kernel
theorem dX7_withdraw_15 : decode cX7_withdraw 15 = .ok (.ifCond .ne 6, 3) := by decide +kernel
theorem dX7_withdraw_18 : decode cX7_withdraw 18 = .ok (.bipush (-3), 2) := by decide +kernel
theorem dX7_withdraw_20 : decode cX7_withdraw 20 = .ok (.ireturn, 1) := by decide +kernel
theorem dX7_withdraw_21 : decode cX7_withdraw 21 = .ok (.aload_n 0, 1) := by decide +kernel
theorem dX7_withdraw_22 : decode cX7_withdraw 22 = .ok (.iload_n 1, 1) := by decide +kernel
theorem dX7_withdraw_23 : decode cX7_withdraw 23 = .ok (.invokevirtual 74, 3) := by decide +kernel
theorem dX7_withdraw_26 : decode cX7_withdraw 26 = .ok (.aload_n 0, 1) := by decide +kernel
theorem dX7_withdraw_27 : decode cX7_withdraw 27 = .ok (.getfield 19, 3) := by decide +kernel
theorem dX7_withdraw_30 : decode cX7_withdraw 30 = .ok (.iload_n 1, 1) := by decide +kernel
theorem dX7_withdraw_31 : decode cX7_withdraw 31 = .ok (.iconst 0, 1) := by decide +kernel
theorem dX7_withdraw_32 : decode cX7_withdraw 32 = .ok (.iastore, 1) := by decide +kernel
theorem dX7_withdraw_33 : decode cX7_withdraw 33 = .ok (.aload_n 0, 1) := by decide +kernel
theorem dX7_withdraw_34 : decode cX7_withdraw 34 = .ok (.invokevirtual 78, 3) := by decide +kernel
theorem dX7_withdraw_37 : decode cX7_withdraw 37 = .ok (.ireturn, 1) := by decide +kernel
theorem dX7_back_0 : decode cX7_back 0 = .ok (.aload_n 0, 1) := by decide +kernel
theorem dX7_back_1 : decode cX7_back 1 = .ok (.getfield 70, 3) := by decide +kernel
theorem dX7_back_4 : decode cX7_back 4 = .ok (.ifCond .ne 6, 3) := by decide +kernel
theorem dX7_back_7 : decode cX7_back 7 = .ok (.bipush (-3), 2) := by decide +kernel
theorem dX7_back_9 : decode cX7_back 9 = .ok (.ireturn, 1) := by decide +kernel
theorem dX7_back_10 : decode cX7_back 10 = .ok (.aload_n 0, 1) := by decide +kernel
theorem dX7_back_11 : decode cX7_back 11 = .ok (.dup, 1) := by decide +kernel
theorem dX7_back_12 : decode cX7_back 12 = .ok (.getfield 70, 3) := by decide +kernel
theorem dX7_back_15 : decode cX7_back 15 = .ok (.iconst 1, 1) := by decide +kernel
theorem dX7_back_16 : decode cX7_back 16 = .ok (.isub, 1) := by decide +kernel
theorem dX7_back_17 : decode cX7_back 17 = .ok (.putfield 70, 3) := by decide +kernel
theorem dX7_back_20 : decode cX7_back 20 = .ok (.aload_n 0, 1) := by decide +kernel
theorem dX7_back_21 : decode cX7_back 21 = .ok (.iconst 0, 1) := by decide +kernel
theorem dX7_back_22 : decode cX7_back 22 = .ok (.putfield 59, 3) := by decide +kernel
theorem dX7_back_25 : decode cX7_back 25 = .ok (.aload_n 0, 1) := by decide +kernel
theorem dX7_back_26 : decode cX7_back 26 = .ok (.getfield 19, 3) := by decide +kernel
theorem dX7_back_29 : decode cX7_back 29 = .ok (.aload_n 0, 1) := by decide +kernel
theorem dX7_back_30 : decode cX7_back 30 = .ok (.getfield 22, 3) := by decide +kernel
theorem dX7_back_33 : decode cX7_back 33 = .ok (.aload_n 0, 1) := by decide +kernel
theorem dX7_back_34 : decode cX7_back 34 = .ok (.getfield 70, 3) := by decide +kernel
theorem dX7_back_37 : decode cX7_back 37 = .ok (.iaload, 1) := by decide +kernel
theorem dX7_back_38 : decode cX7_back 38 = .ok (.aload_n 0, 1) := by decide +kernel
theorem dX7_back_39 : decode cX7_back 39 = .ok (.getfield 25, 3) := by decide +kernel
theorem dX7_back_42 : decode cX7_back 42 = .ok (.aload_n 0, 1) := by decide +kernel
theorem dX7_back_43 : decode cX7_back 43 = .ok (.getfield 70, 3) := by decide +kernel
theorem dX7_back_46 : decode cX7_back 46 = .ok (.iaload, 1) := by decide +kernel
theorem dX7_back_47 : decode cX7_back 47 = .ok (.iastore, 1) := by decide +kernel
theorem dX7_back_48 : decode cX7_back 48 = .ok (.aload_n 0, 1) := by decide +kernel
theorem dX7_back_49 : decode cX7_back 49 = .ok (.invokevirtual 78, 3) := by decide +kernel
theorem dX7_back_52 : decode cX7_back 52 = .ok (.ireturn, 1) := by decide +kernel
theorem dX7_manyThat_0 : decode cX7_manyThat 0 = .ok (.iconst 0, 1) := by decide +kernel
theorem dX7_manyThat_1 : decode cX7_manyThat 1 = .ok (.istore_n 2, 1) := by decide +kernel
theorem dX7_manyThat_2 : decode cX7_manyThat 2 = .ok (.iconst 0, 1) := by decide +kernel
theorem dX7_manyThat_3 : decode cX7_manyThat 3 = .ok (.istore_n 3, 1) := by decide +kernel
theorem dX7_manyThat_4 : decode cX7_manyThat 4 = .ok (.iload_n 3, 1) := by decide +kernel
theorem dX7_manyThat_5 : decode cX7_manyThat 5 = .ok (.bipush 12, 2) := by decide +kernel
theorem dX7_manyThat_7 : decode cX7_manyThat 7 = .ok (.if_icmp .ge 27, 3) := by decide +kernel
theorem dX7_manyThat_10 : decode cX7_manyThat 10 = .ok (.iload_n 2, 1) := by decide +kernel
theorem dX7_manyThat_11 : decode cX7_manyThat 11 = .ok (.aload_n 0, 1) := by decide +kernel
theorem dX7_manyThat_12 : decode cX7_manyThat 12 = .ok (.getfield 19, 3) := by decide +kernel
theorem dX7_manyThat_15 : decode cX7_manyThat 15 = .ok (.iload_n 3, 1) := by decide +kernel
theorem dX7_manyThat_16 : decode cX7_manyThat 16 = .ok (.iaload, 1) := by decide +kernel
theorem dX7_manyThat_17 : decode cX7_manyThat 17 = .ok (.iload_n 1, 1) := by decide +kernel
theorem dX7_manyThat_18 : decode cX7_manyThat 18 = .ok (.if_icmp .ne 7, 3) := by decide +kernel
theorem dX7_manyThat_21 : decode cX7_manyThat 21 = .ok (.iconst 1, 1) := by decide +kernel
theorem dX7_manyThat_22 : decode cX7_manyThat 22 = .ok (.goto 4, 3) := by decide +kernel
theorem dX7_manyThat_25 : decode cX7_manyThat 25 = .ok (.iconst 0, 1) := by decide +kernel
theorem dX7_manyThat_26 : decode cX7_manyThat 26 = .ok (.iadd, 1) := by decide +kernel
theorem dX7_manyThat_27 : decode cX7_manyThat 27 = .ok (.istore_n 2, 1) := by decide +kernel
theorem dX7_manyThat_28 : decode cX7_manyThat 28 = .ok (.iinc 3 1, 3) := by decide +kernel
theorem dX7_manyThat_31 : decode cX7_manyThat 31 = .ok (.goto (-27), 3) := by decide +kernel
theorem dX7_manyThat_34 : decode cX7_manyThat 34 = .ok (.iload_n 2, 1) := by decide +kernel
theorem dX7_manyThat_35 : decode cX7_manyThat 35 = .ok (.ireturn, 1) := by decide +kernel
theorem dX7_anew_0 : decode cX7_anew 0 = .ok (.aload_n 0, 1) := by decide +kernel
theorem dX7_anew_1 : decode cX7_anew 1 = .ok (.iconst 1, 1) := by decide +kernel
theorem dX7_anew_2 : decode cX7_anew 2 = .ok (.invokevirtual 82, 3) := by decide +kernel
theorem dX7_anew_5 : decode cX7_anew 5 = .ok (.aload_n 0, 1) := by decide +kernel
theorem dX7_anew_6 : decode cX7_anew 6 = .ok (.iconst 2, 1) := by decide +kernel
theorem dX7_anew_7 : decode cX7_anew 7 = .ok (.invokevirtual 82, 3) := by decide +kernel
theorem dX7_anew_10 : decode cX7_anew 10 = .ok (.iadd, 1) := by decide +kernel
theorem dX7_anew_11 : decode cX7_anew 11 = .ok (.istore_n 1, 1) := by decide +kernel
theorem dX7_anew_12 : decode cX7_anew 12 = .ok (.iconst 0, 1) := by decide +kernel
theorem dX7_anew_13 : decode cX7_anew 13 = .ok (.istore_n 2, 1) := by decide +kernel
theorem dX7_anew_14 : decode cX7_anew 14 = .ok (.iload_n 2, 1) := by decide +kernel
theorem dX7_anew_15 : decode cX7_anew 15 = .ok (.bipush 12, 2) := by decide +kernel
theorem dX7_anew_17 : decode cX7_anew 17 = .ok (.if_icmp .ge 16, 3) := by decide +kernel
theorem dX7_anew_20 : decode cX7_anew 20 = .ok (.aload_n 0, 1) := by decide +kernel
theorem dX7_anew_21 : decode cX7_anew 21 = .ok (.getfield 19, 3) := by decide +kernel
theorem dX7_anew_24 : decode cX7_anew 24 = .ok (.iload_n 2, 1) := by decide +kernel
theorem dX7_anew_25 : decode cX7_anew 25 = .ok (.iconst 0, 1) := by decide +kernel
theorem dX7_anew_26 : decode cX7_anew 26 = .ok (.iastore, 1) := by decide +kernel
theorem dX7_anew_27 : decode cX7_anew 27 = .ok (.iinc 2 1, 3) := by decide +kernel
theorem dX7_anew_30 : decode cX7_anew 30 = .ok (.goto (-16), 3) := by decide +kernel
theorem dX7_anew_33 : decode cX7_anew 33 = .ok (.aload_n 0, 1) := by decide +kernel
theorem dX7_anew_34 : decode cX7_anew 34 = .ok (.iconst 0, 1) := by decide +kernel
theorem dX7_anew_35 : decode cX7_anew 35 = .ok (.putfield 70, 3) := by decide +kernel
theorem dX7_anew_38 : decode cX7_anew 38 = .ok (.aload_n 0, 1) := by decide +kernel
theorem dX7_anew_39 : decode cX7_anew 39 = .ok (.iconst 0, 1) := by decide +kernel
theorem dX7_anew_40 : decode cX7_anew 40 = .ok (.putfield 59, 3) := by decide +kernel
theorem dX7_anew_43 : decode cX7_anew 43 = .ok (.iload_n 1, 1) := by decide +kernel
theorem dX7_anew_44 : decode cX7_anew 44 = .ok (.ireturn, 1) := by decide +kernel
theorem dX7_isExcluded_0 : decode cX7_isExcluded 0 = .ok (.iconst 0, 1) := by decide +kernel
theorem dX7_isExcluded_1 : decode cX7_isExcluded 1 = .ok (.istore_n 2, 1) := by decide +kernel
theorem dX7_isExcluded_2 : decode cX7_isExcluded 2 = .ok (.iload_n 2, 1) := by decide +kernel
theorem dX7_isExcluded_3 : decode cX7_isExcluded 3 = .ok (.bipush 12, 2) := by decide +kernel
theorem dX7_isExcluded_5 : decode cX7_isExcluded 5 = .ok (.if_icmp .ge 31, 3) := by decide +kernel
theorem dX7_isExcluded_8 : decode cX7_isExcluded 8 = .ok (.aload_n 0, 1) := by decide +kernel
theorem dX7_isExcluded_9 : decode cX7_isExcluded 9 = .ok (.getfield 19, 3) := by decide +kernel
theorem dX7_isExcluded_12 : decode cX7_isExcluded 12 = .ok (.iload_n 2, 1) := by decide +kernel
theorem dX7_isExcluded_13 : decode cX7_isExcluded 13 = .ok (.iaload, 1) := by decide +kernel
theorem dX7_isExcluded_14 : decode cX7_isExcluded 14 = .ok (.iconst 2, 1) := by decide +kernel
theorem dX7_isExcluded_15 : decode cX7_isExcluded 15 = .ok (.if_icmp .ne 15, 3) := by decide +kernel
theorem dX7_isExcluded_18 : decode cX7_isExcluded 18 = .ok (.aload_n 0, 1) := by decide +kernel
theorem dX7_isExcluded_19 : decode cX7_isExcluded 19 = .ok (.iload_n 2, 1) := by decide +kernel
theorem dX7_isExcluded_20 : decode cX7_isExcluded 20 = .ok (.iload_n 1, 1) := by decide +kernel
theorem dX7_isExcluded_21 : decode cX7_isExcluded 21 = .ok (.invokevirtual 66, 3) := by decide +kernel
theorem dX7_isExcluded_24 : decode cX7_isExcluded 24 = .ok (.iconst 2, 1) := by decide +kernel
theorem dX7_isExcluded_25 : decode cX7_isExcluded 25 = .ok (.if_icmp .ne 5, 3) := by decide +kernel
theorem dX7_isExcluded_28 : decode cX7_isExcluded 28 = .ok (.iconst 1, 1) := by decide +kernel
theorem dX7_isExcluded_29 : decode cX7_isExcluded 29 = .ok (.ireturn, 1) := by decide +kernel
theorem dX7_isExcluded_30 : decode cX7_isExcluded 30 = .ok (.iinc 2 1, 3) := by decide +kernel
theorem dX7_isExcluded_33 : decode cX7_isExcluded 33 = .ok (.goto (-31), 3) := by decide +kernel
theorem dX7_isExcluded_36 : decode cX7_isExcluded 36 = .ok (.iconst 0, 1) := by decide +kernel
theorem dX7_isExcluded_37 : decode cX7_isExcluded 37 = .ok (.ireturn, 1) := by decide +kernel
theorem dX7_isLinked_0 : decode cX7_isLinked 0 = .ok (.iconst 0, 1) := by decide +kernel
theorem dX7_isLinked_1 : decode cX7_isLinked 1 = .ok (.istore_n 3, 1) := by decide +kernel
theorem dX7_isLinked_2 : decode cX7_isLinked 2 = .ok (.iload_n 3, 1) := by decide +kernel
theorem dX7_isLinked_3 : decode cX7_isLinked 3 = .ok (.bipush 10, 2) := by decide +kernel
theorem dX7_isLinked_5 : decode cX7_isLinked 5 = .ok (.if_icmp .ge 28, 3) := by decide +kernel
theorem dX7_isLinked_8 : decode cX7_isLinked 8 = .ok (.iload_n 2, 1) := by decide +kernel
theorem dX7_isLinked_9 : decode cX7_isLinked 9 = .ok (.iload_n 3, 1) := by decide +kernel
theorem dX7_isLinked_10 : decode cX7_isLinked 10 = .ok (.invokestatic 86, 3) := by decide +kernel
theorem dX7_isLinked_13 : decode cX7_isLinked 13 = .ok (.ifCond .eq 14, 3) := by decide +kernel
theorem dX7_isLinked_16 : decode cX7_isLinked 16 = .ok (.aload_n 0, 1) := by decide +kernel
theorem dX7_isLinked_17 : decode cX7_isLinked 17 = .ok (.iload_n 1, 1) := by decide +kernel
theorem dX7_isLinked_18 : decode cX7_isLinked 18 = .ok (.iload_n 3, 1) := by decide +kernel
theorem dX7_isLinked_19 : decode cX7_isLinked 19 = .ok (.invokevirtual 66, 3) := by decide +kernel
theorem dX7_isLinked_22 : decode cX7_isLinked 22 = .ok (.ifCond .le 5, 3) := by decide +kernel
theorem dX7_isLinked_25 : decode cX7_isLinked 25 = .ok (.iconst 1, 1) := by decide +kernel
theorem dX7_isLinked_26 : decode cX7_isLinked 26 = .ok (.ireturn, 1) := by decide +kernel
theorem dX7_isLinked_27 : decode cX7_isLinked 27 = .ok (.iinc 3 1, 3) := by decide +kernel
theorem dX7_isLinked_30 : decode cX7_isLinked 30 = .ok (.goto (-28), 3) := by decide +kernel
theorem dX7_isLinked_33 : decode cX7_isLinked 33 = .ok (.iconst 0, 1) := by decide +kernel
theorem dX7_isLinked_34 : decode cX7_isLinked 34 = .ok (.ireturn, 1) := by decide +kernel
theorem dX7_isMust_0 : decode cX7_isMust 0 = .ok (.iconst 0, 1) := by decide +kernel
