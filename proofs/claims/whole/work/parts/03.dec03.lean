theorem dX7_isMust_1 : decode cX7_isMust 1 = .ok (.istore_n 3, 1) := by decide +kernel
theorem dX7_isMust_2 : decode cX7_isMust 2 = .ok (.iload_n 3, 1) := by decide +kernel
theorem dX7_isMust_3 : decode cX7_isMust 3 = .ok (.bipush 10, 2) := by decide +kernel
theorem dX7_isMust_5 : decode cX7_isMust 5 = .ok (.if_icmp .ge 29, 3) := by decide +kernel
theorem dX7_isMust_8 : decode cX7_isMust 8 = .ok (.iload_n 2, 1) := by decide +kernel
theorem dX7_isMust_9 : decode cX7_isMust 9 = .ok (.iload_n 3, 1) := by decide +kernel
theorem dX7_isMust_10 : decode cX7_isMust 10 = .ok (.invokestatic 86, 3) := by decide +kernel
theorem dX7_isMust_13 : decode cX7_isMust 13 = .ok (.ifCond .eq 15, 3) := by decide +kernel
theorem dX7_isMust_16 : decode cX7_isMust 16 = .ok (.aload_n 0, 1) := by decide +kernel
theorem dX7_isMust_17 : decode cX7_isMust 17 = .ok (.iload_n 1, 1) := by decide +kernel
theorem dX7_isMust_18 : decode cX7_isMust 18 = .ok (.iload_n 3, 1) := by decide +kernel
theorem dX7_isMust_19 : decode cX7_isMust 19 = .ok (.invokevirtual 66, 3) := by decide +kernel
theorem dX7_isMust_22 : decode cX7_isMust 22 = .ok (.iconst 2, 1) := by decide +kernel
theorem dX7_isMust_23 : decode cX7_isMust 23 = .ok (.if_icmp .ne 5, 3) := by decide +kernel
theorem dX7_isMust_26 : decode cX7_isMust 26 = .ok (.iconst 1, 1) := by decide +kernel
theorem dX7_isMust_27 : decode cX7_isMust 27 = .ok (.ireturn, 1) := by decide +kernel
theorem dX7_isMust_28 : decode cX7_isMust 28 = .ok (.iinc 3 1, 3) := by decide +kernel
theorem dX7_isMust_31 : decode cX7_isMust 31 = .ok (.goto (-29), 3) := by decide +kernel
theorem dX7_isMust_34 : decode cX7_isMust 34 = .ok (.iconst 0, 1) := by decide +kernel
theorem dX7_isMust_35 : decode cX7_isMust 35 = .ok (.ireturn, 1) := by decide +kernel
theorem dX7_excluded_0 : decode cX7_excluded 0 = .ok (.iconst 0, 1) := by decide +kernel
theorem dX7_excluded_1 : decode cX7_excluded 1 = .ok (.istore_n 1, 1) := by decide +kernel
theorem dX7_excluded_2 : decode cX7_excluded 2 = .ok (.iconst 0, 1) := by decide +kernel
theorem dX7_excluded_3 : decode cX7_excluded 3 = .ok (.istore_n 2, 1) := by decide +kernel
theorem dX7_excluded_4 : decode cX7_excluded 4 = .ok (.iload_n 2, 1) := by decide +kernel
theorem dX7_excluded_5 : decode cX7_excluded 5 = .ok (.bipush 10, 2) := by decide +kernel
theorem dX7_excluded_7 : decode cX7_excluded 7 = .ok (.if_icmp .ge 27, 3) := by decide +kernel
theorem dX7_excluded_10 : decode cX7_excluded 10 = .ok (.iload_n 1, 1) := by decide +kernel
theorem dX7_excluded_11 : decode cX7_excluded 11 = .ok (.aload_n 0, 1) := by decide +kernel
theorem dX7_excluded_12 : decode cX7_excluded 12 = .ok (.iload_n 2, 1) := by decide +kernel
theorem dX7_excluded_13 : decode cX7_excluded 13 = .ok (.invokevirtual 90, 3) := by decide +kernel
theorem dX7_excluded_16 : decode cX7_excluded 16 = .ok (.ifCond .eq 9, 3) := by decide +kernel
theorem dX7_excluded_19 : decode cX7_excluded 19 = .ok (.iconst 1, 1) := by decide +kernel
theorem dX7_excluded_20 : decode cX7_excluded 20 = .ok (.iload_n 2, 1) := by decide +kernel
theorem dX7_excluded_21 : decode cX7_excluded 21 = .ok (.ishl, 1) := by decide +kernel
theorem dX7_excluded_22 : decode cX7_excluded 22 = .ok (.goto 4, 3) := by decide +kernel
theorem dX7_excluded_25 : decode cX7_excluded 25 = .ok (.iconst 0, 1) := by decide +kernel
theorem dX7_excluded_26 : decode cX7_excluded 26 = .ok (.ior, 1) := by decide +kernel
theorem dX7_excluded_27 : decode cX7_excluded 27 = .ok (.istore_n 1, 1) := by decide +kernel
theorem dX7_excluded_28 : decode cX7_excluded 28 = .ok (.iinc 2 1, 3) := by decide +kernel
theorem dX7_excluded_31 : decode cX7_excluded 31 = .ok (.goto (-27), 3) := by decide +kernel
theorem dX7_excluded_34 : decode cX7_excluded 34 = .ok (.iload_n 1, 1) := by decide +kernel
theorem dX7_excluded_35 : decode cX7_excluded 35 = .ok (.ireturn, 1) := by decide +kernel
theorem dX7_isCovering_0 : decode cX7_isCovering 0 = .ok (.iload_n 1, 1) := by decide +kernel
theorem dX7_isCovering_1 : decode cX7_isCovering 1 = .ok (.iload_n 2, 1) := by decide +kernel
theorem dX7_isCovering_2 : decode cX7_isCovering 2 = .ok (.iand, 1) := by decide +kernel
theorem dX7_isCovering_3 : decode cX7_isCovering 3 = .ok (.ifCond .eq 5, 3) := by decide +kernel
theorem dX7_isCovering_6 : decode cX7_isCovering 6 = .ok (.iconst 0, 1) := by decide +kernel
theorem dX7_isCovering_7 : decode cX7_isCovering 7 = .ok (.ireturn, 1) := by decide +kernel
theorem dX7_isCovering_8 : decode cX7_isCovering 8 = .ok (.iconst 0, 1) := by decide +kernel
theorem dX7_isCovering_9 : decode cX7_isCovering 9 = .ok (.istore_n 3, 1) := by decide +kernel
theorem dX7_isCovering_10 : decode cX7_isCovering 10 = .ok (.iload_n 3, 1) := by decide +kernel
theorem dX7_isCovering_11 : decode cX7_isCovering 11 = .ok (.bipush 12, 2) := by decide +kernel
theorem dX7_isCovering_13 : decode cX7_isCovering 13 = .ok (.if_icmp .ge 30, 3) := by decide +kernel
theorem dX7_isCovering_16 : decode cX7_isCovering 16 = .ok (.aload_n 0, 1) := by decide +kernel
theorem dX7_isCovering_17 : decode cX7_isCovering 17 = .ok (.getfield 19, 3) := by decide +kernel
theorem dX7_isCovering_20 : decode cX7_isCovering 20 = .ok (.iload_n 3, 1) := by decide +kernel
theorem dX7_isCovering_21 : decode cX7_isCovering 21 = .ok (.iaload, 1) := by decide +kernel
theorem dX7_isCovering_22 : decode cX7_isCovering 22 = .ok (.iconst 1, 1) := by decide +kernel
theorem dX7_isCovering_23 : decode cX7_isCovering 23 = .ok (.if_icmp .ne 14, 3) := by decide +kernel
theorem dX7_isCovering_26 : decode cX7_isCovering 26 = .ok (.aload_n 0, 1) := by decide +kernel
theorem dX7_isCovering_27 : decode cX7_isCovering 27 = .ok (.iload_n 3, 1) := by decide +kernel
theorem dX7_isCovering_28 : decode cX7_isCovering 28 = .ok (.iload_n 1, 1) := by decide +kernel
theorem dX7_isCovering_29 : decode cX7_isCovering 29 = .ok (.invokevirtual 93, 3) := by decide +kernel
theorem dX7_isCovering_32 : decode cX7_isCovering 32 = .ok (.ifCond .ne 5, 3) := by decide +kernel
theorem dX7_isCovering_35 : decode cX7_isCovering 35 = .ok (.iconst 0, 1) := by decide +kernel
theorem dX7_isCovering_36 : decode cX7_isCovering 36 = .ok (.ireturn, 1) := by decide +kernel
theorem dX7_isCovering_37 : decode cX7_isCovering 37 = .ok (.iinc 3 1, 3) := by decide +kernel
theorem dX7_isCovering_40 : decode cX7_isCovering 40 = .ok (.goto (-30), 3) := by decide +kernel
theorem dX7_isCovering_43 : decode cX7_isCovering 43 = .ok (.iconst 1, 1) := by decide +kernel
theorem dX7_isCovering_44 : decode cX7_isCovering 44 = .ok (.ireturn, 1) := by decide +kernel
theorem dX7_weightBy_0 : decode cX7_weightBy 0 = .ok (.lconst 1, 1) := by decide +kernel
theorem dX7_weightBy_1 : decode cX7_weightBy 1 = .ok (.lstore_n 3, 1) := by decide +kernel
theorem dX7_weightBy_2 : decode cX7_weightBy 2 = .ok (.iconst 0, 1) := by decide +kernel
theorem dX7_weightBy_3 : decode cX7_weightBy 3 = .ok (.istore 5, 2) := by decide +kernel
theorem dX7_weightBy_5 : decode cX7_weightBy 5 = .ok (.iload 5, 2) := by decide +kernel
theorem dX7_weightBy_7 : decode cX7_weightBy 7 = .ok (.iload_n 2, 1) := by decide +kernel
theorem dX7_weightBy_8 : decode cX7_weightBy 8 = .ok (.if_icmp .ge 40, 3) := by decide +kernel
theorem dX7_weightBy_11 : decode cX7_weightBy 11 = .ok (.lload_n 3, 1) := by decide +kernel
theorem dX7_weightBy_12 : decode cX7_weightBy 12 = .ok (.iload_n 1, 1) := by decide +kernel
theorem dX7_weightBy_13 : decode cX7_weightBy 13 = .ok (.iload 5, 2) := by decide +kernel
theorem dX7_weightBy_15 : decode cX7_weightBy 15 = .ok (.invokestatic 86, 3) := by decide +kernel
theorem dX7_weightBy_18 : decode cX7_weightBy 18 = .ok (.ifCond .eq 14, 3) := by decide +kernel
theorem dX7_weightBy_21 : decode cX7_weightBy 21 = .ok (.aload_n 0, 1) := by decide +kernel
theorem dX7_weightBy_22 : decode cX7_weightBy 22 = .ok (.getfield 7, 3) := by decide +kernel
theorem dX7_weightBy_25 : decode cX7_weightBy 25 = .ok (.iload 5, 2) := by decide +kernel
theorem dX7_weightBy_27 : decode cX7_weightBy 27 = .ok (.iaload, 1) := by decide +kernel
theorem dX7_weightBy_28 : decode cX7_weightBy 28 = .ok (.i2l, 1) := by decide +kernel
theorem dX7_weightBy_29 : decode cX7_weightBy 29 = .ok (.goto 11, 3) := by decide +kernel
theorem dX7_weightBy_32 : decode cX7_weightBy 32 = .ok (.aload_n 0, 1) := by decide +kernel
theorem dX7_weightBy_33 : decode cX7_weightBy 33 = .ok (.getfield 13, 3) := by decide +kernel
theorem dX7_weightBy_36 : decode cX7_weightBy 36 = .ok (.iload 5, 2) := by decide +kernel
theorem dX7_weightBy_38 : decode cX7_weightBy 38 = .ok (.iaload, 1) := by decide +kernel
theorem dX7_weightBy_39 : decode cX7_weightBy 39 = .ok (.i2l, 1) := by decide +kernel
theorem dX7_weightBy_40 : decode cX7_weightBy 40 = .ok (.lmul, 1) := by decide +kernel
theorem dX7_weightBy_41 : decode cX7_weightBy 41 = .ok (.lstore_n 3, 1) := by decide +kernel
theorem dX7_weightBy_42 : decode cX7_weightBy 42 = .ok (.iinc 5 1, 3) := by decide +kernel
theorem dX7_weightBy_45 : decode cX7_weightBy 45 = .ok (.goto (-40), 3) := by decide +kernel
theorem dX7_weightBy_48 : decode cX7_weightBy 48 = .ok (.lload_n 3, 1) := by decide +kernel
theorem dX7_weightBy_49 : decode cX7_weightBy 49 = .ok (.lreturn, 1) := by decide +kernel
theorem dX7_isSpared_0 : decode cX7_isSpared 0 = .ok (.iconst 0, 1) := by decide +kernel
theorem dX7_isSpared_1 : decode cX7_isSpared 1 = .ok (.istore_n 2, 1) := by decide +kernel
theorem dX7_isSpared_2 : decode cX7_isSpared 2 = .ok (.iload_n 2, 1) := by decide +kernel
theorem dX7_isSpared_3 : decode cX7_isSpared 3 = .ok (.bipush 10, 2) := by decide +kernel
theorem dX7_isSpared_5 : decode cX7_isSpared 5 = .ok (.if_icmp .ge 32, 3) := by decide +kernel
theorem dX7_isSpared_8 : decode cX7_isSpared 8 = .ok (.iload_n 1, 1) := by decide +kernel
theorem dX7_isSpared_9 : decode cX7_isSpared 9 = .ok (.iload_n 2, 1) := by decide +kernel
theorem dX7_isSpared_10 : decode cX7_isSpared 10 = .ok (.invokestatic 86, 3) := by decide +kernel
theorem dX7_isSpared_13 : decode cX7_isSpared 13 = .ok (.ifCond .eq 18, 3) := by decide +kernel
theorem dX7_isSpared_16 : decode cX7_isSpared 16 = .ok (.aload_n 0, 1) := by decide +kernel
theorem dX7_isSpared_17 : decode cX7_isSpared 17 = .ok (.getfield 35, 3) := by decide +kernel
theorem dX7_isSpared_20 : decode cX7_isSpared 20 = .ok (.iload_n 1, 1) := by decide +kernel
theorem dX7_isSpared_21 : decode cX7_isSpared 21 = .ok (.iconst 1, 1) := by decide +kernel
theorem dX7_isSpared_22 : decode cX7_isSpared 22 = .ok (.iload_n 2, 1) := by decide +kernel
theorem dX7_isSpared_23 : decode cX7_isSpared 23 = .ok (.ishl, 1) := by decide +kernel
theorem dX7_isSpared_24 : decode cX7_isSpared 24 = .ok (.isub, 1) := by decide +kernel
theorem dX7_isSpared_25 : decode cX7_isSpared 25 = .ok (.baload, 1) := by decide +kernel
theorem dX7_isSpared_26 : decode cX7_isSpared 26 = .ok (.ifCond .eq 5, 3) := by decide +kernel
theorem dX7_isSpared_29 : decode cX7_isSpared 29 = .ok (.iconst 1, 1) := by decide +kernel
theorem dX7_isSpared_30 : decode cX7_isSpared 30 = .ok (.ireturn, 1) := by decide +kernel
theorem dX7_isSpared_31 : decode cX7_isSpared 31 = .ok (.iinc 2 1, 3) := by decide +kernel
theorem dX7_isSpared_34 : decode cX7_isSpared 34 = .ok (.goto (-32), 3) := by decide +kernel
theorem dX7_isSpared_37 : decode cX7_isSpared 37 = .ok (.iconst 0, 1) := by decide +kernel
theorem dX7_isSpared_38 : decode cX7_isSpared 38 = .ok (.ireturn, 1) := by decide +kernel
theorem dX7_isAhead_0 : decode cX7_isAhead 0 = .ok (.lload_n 2, 1) := by decide +kernel
theorem dX7_isAhead_1 : decode cX7_isAhead 1 = .ok (.aload_n 0, 1) := by decide +kernel
theorem dX7_isAhead_2 : decode cX7_isAhead 2 = .ok (.getfield 31, 3) := by decide +kernel
theorem dX7_isAhead_5 : decode cX7_isAhead 5 = .ok (.iload 4, 2) := by decide +kernel
theorem dX7_isAhead_7 : decode cX7_isAhead 7 = .ok (.laload, 1) := by decide +kernel
theorem dX7_isAhead_8 : decode cX7_isAhead 8 = .ok (.lcmp, 1) := by decide +kernel
theorem dX7_isAhead_9 : decode cX7_isAhead 9 = .ok (.ifCond .eq 21, 3) := by decide +kernel
theorem dX7_isAhead_12 : decode cX7_isAhead 12 = .ok (.lload_n 2, 1) := by decide +kernel
theorem dX7_isAhead_13 : decode cX7_isAhead 13 = .ok (.aload_n 0, 1) := by decide +kernel
theorem dX7_isAhead_14 : decode cX7_isAhead 14 = .ok (.getfield 31, 3) := by decide +kernel
theorem dX7_isAhead_17 : decode cX7_isAhead 17 = .ok (.iload 4, 2) := by decide +kernel
theorem dX7_isAhead_19 : decode cX7_isAhead 19 = .ok (.laload, 1) := by decide +kernel
theorem dX7_isAhead_20 : decode cX7_isAhead 20 = .ok (.lcmp, 1) := by decide +kernel
theorem dX7_isAhead_21 : decode cX7_isAhead 21 = .ok (.ifCond .le 7, 3) := by decide +kernel
theorem dX7_isAhead_24 : decode cX7_isAhead 24 = .ok (.iconst 1, 1) := by decide +kernel
theorem dX7_isAhead_25 : decode cX7_isAhead 25 = .ok (.goto 4, 3) := by decide +kernel
theorem dX7_isAhead_28 : decode cX7_isAhead 28 = .ok (.iconst 0, 1) := by decide +kernel
theorem dX7_isAhead_29 : decode cX7_isAhead 29 = .ok (.ireturn, 1) := by decide +kernel
theorem dX7_isAhead_30 : decode cX7_isAhead 30 = .ok (.iload_n 1, 1) := by decide +kernel
theorem dX7_isAhead_31 : decode cX7_isAhead 31 = .ok (.invokestatic 96, 3) := by decide +kernel
theorem dX7_isAhead_34 : decode cX7_isAhead 34 = .ok (.aload_n 0, 1) := by decide +kernel
theorem dX7_isAhead_35 : decode cX7_isAhead 35 = .ok (.getfield 28, 3) := by decide +kernel
theorem dX7_isAhead_38 : decode cX7_isAhead 38 = .ok (.iload 4, 2) := by decide +kernel
theorem dX7_isAhead_40 : decode cX7_isAhead 40 = .ok (.iaload, 1) := by decide +kernel
theorem dX7_isAhead_41 : decode cX7_isAhead 41 = .ok (.invokestatic 96, 3) := by decide +kernel
theorem dX7_isAhead_44 : decode cX7_isAhead 44 = .ok (.isub, 1) := by decide +kernel
theorem dX7_isAhead_45 : decode cX7_isAhead 45 = .ok (.istore 5, 2) := by decide +kernel
theorem dX7_isAhead_47 : decode cX7_isAhead 47 = .ok (.iload 5, 2) := by decide +kernel
theorem dX7_isAhead_49 : decode cX7_isAhead 49 = .ok (.ifCond .eq 16, 3) := by decide +kernel
theorem dX7_isAhead_52 : decode cX7_isAhead 52 = .ok (.iload 5, 2) := by decide +kernel
theorem dX7_isAhead_54 : decode cX7_isAhead 54 = .ok (.ifCond .ge 7, 3) := by decide +kernel
theorem dX7_isAhead_57 : decode cX7_isAhead 57 = .ok (.iconst 1, 1) := by decide +kernel
theorem dX7_isAhead_58 : decode cX7_isAhead 58 = .ok (.goto 23, 3) := by decide +kernel
theorem dX7_isAhead_61 : decode cX7_isAhead 61 = .ok (.iconst 0, 1) := by decide +kernel
theorem dX7_isAhead_62 : decode cX7_isAhead 62 = .ok (.goto 19, 3) := by decide +kernel
theorem dX7_isAhead_65 : decode cX7_isAhead 65 = .ok (.iload_n 1, 1) := by decide +kernel
theorem dX7_isAhead_66 : decode cX7_isAhead 66 = .ok (.aload_n 0, 1) := by decide +kernel
theorem dX7_isAhead_67 : decode cX7_isAhead 67 = .ok (.getfield 28, 3) := by decide +kernel
theorem dX7_isAhead_70 : decode cX7_isAhead 70 = .ok (.iload 4, 2) := by decide +kernel
theorem dX7_isAhead_72 : decode cX7_isAhead 72 = .ok (.iaload, 1) := by decide +kernel
theorem dX7_isAhead_73 : decode cX7_isAhead 73 = .ok (.if_icmp .ge 7, 3) := by decide +kernel
theorem dX7_isAhead_76 : decode cX7_isAhead 76 = .ok (.iconst 1, 1) := by decide +kernel
theorem dX7_isAhead_77 : decode cX7_isAhead 77 = .ok (.goto 4, 3) := by decide +kernel
theorem dX7_isAhead_80 : decode cX7_isAhead 80 = .ok (.iconst 0, 1) := by decide +kernel
theorem dX7_isAhead_81 : decode cX7_isAhead 81 = .ok (.ireturn, 1) := by decide +kernel
theorem dX7_explanations_0 : decode cX7_explanations 0 = .ok (.aload_n 0, 1) := by decide +kernel
theorem dX7_explanations_1 : decode cX7_explanations 1 = .ok (.getfield 59, 3) := by decide +kernel
theorem dX7_explanations_4 : decode cX7_explanations 4 = .ok (.ifCond .eq 8, 3) := by decide +kernel
theorem dX7_explanations_7 : decode cX7_explanations 7 = .ok (.aload_n 0, 1) := by decide +kernel
theorem dX7_explanations_8 : decode cX7_explanations 8 = .ok (.getfield 99, 3) := by decide +kernel
theorem dX7_explanations_11 : decode cX7_explanations 11 = .ok (.ireturn, 1) := by decide +kernel
theorem dX7_explanations_12 : decode cX7_explanations 12 = .ok (.aload_n 0, 1) := by decide +kernel
theorem dX7_explanations_13 : decode cX7_explanations 13 = .ok (.iconst 1, 1) := by decide +kernel
theorem dX7_explanations_14 : decode cX7_explanations 14 = .ok (.putfield 59, 3) := by decide +kernel
theorem dX7_explanations_17 : decode cX7_explanations 17 = .ok (.aload_n 0, 1) := by decide +kernel
theorem dX7_explanations_18 : decode cX7_explanations 18 = .ok (.invokevirtual 102, 3) := by decide +kernel
theorem dX7_explanations_21 : decode cX7_explanations 21 = .ok (.istore_n 1, 1) := by decide +kernel
theorem dX7_explanations_22 : decode cX7_explanations 22 = .ok (.aload_n 0, 1) := by decide +kernel
theorem dX7_explanations_23 : decode cX7_explanations 23 = .ok (.iconst 0, 1) := by decide +kernel
theorem dX7_explanations_24 : decode cX7_explanations 24 = .ok (.putfield 99, 3) := by decide +kernel
theorem dX7_explanations_27 : decode cX7_explanations 27 = .ok (.iconst 0, 1) := by decide +kernel
theorem dX7_explanations_28 : decode cX7_explanations 28 = .ok (.istore_n 2, 1) := by decide +kernel
theorem dX7_explanations_29 : decode cX7_explanations 29 = .ok (.iload_n 2, 1) := by decide +kernel
theorem dX7_explanations_30 : decode cX7_explanations 30 = .ok (.sipush 1024, 3) := by decide +kernel
theorem dX7_explanations_33 : decode cX7_explanations 33 = .ok (.if_icmp .ge 134, 3) := by decide +kernel
theorem dX7_explanations_36 : decode cX7_explanations 36 = .ok (.aload_n 0, 1) := by decide +kernel
theorem dX7_explanations_37 : decode cX7_explanations 37 = .ok (.getfield 35, 3) := by decide +kernel
theorem dX7_explanations_40 : decode cX7_explanations 40 = .ok (.iload_n 2, 1) := by decide +kernel
theorem dX7_explanations_41 : decode cX7_explanations 41 = .ok (.aload_n 0, 1) := by decide +kernel
theorem dX7_explanations_42 : decode cX7_explanations 42 = .ok (.iload_n 2, 1) := by decide +kernel
theorem dX7_explanations_43 : decode cX7_explanations 43 = .ok (.iload_n 1, 1) := by decide +kernel
theorem dX7_explanations_44 : decode cX7_explanations 44 = .ok (.invokevirtual 105, 3) := by decide +kernel
theorem dX7_explanations_47 : decode cX7_explanations 47 = .ok (.bastore, 1) := by decide +kernel
theorem dX7_explanations_48 : decode cX7_explanations 48 = .ok (.aload_n 0, 1) := by decide +kernel
theorem dX7_explanations_49 : decode cX7_explanations 49 = .ok (.getfield 35, 3) := by decide +kernel
theorem dX7_explanations_52 : decode cX7_explanations 52 = .ok (.iload_n 2, 1) := by decide +kernel
theorem dX7_explanations_53 : decode cX7_explanations 53 = .ok (.baload, 1) := by decide +kernel
theorem dX7_explanations_54 : decode cX7_explanations 54 = .ok (.ifCond .eq 107, 3) := by decide +kernel
theorem dX7_explanations_57 : decode cX7_explanations 57 = .ok (.aload_n 0, 1) := by decide +kernel
theorem dX7_explanations_58 : decode cX7_explanations 58 = .ok (.iload_n 2, 1) := by decide +kernel
theorem dX7_explanations_59 : decode cX7_explanations 59 = .ok (.invokevirtual 108, 3) := by decide +kernel
theorem dX7_explanations_62 : decode cX7_explanations 62 = .ok (.ifCond .ne 99, 3) := by decide +kernel
theorem dX7_explanations_65 : decode cX7_explanations 65 = .ok (.aload_n 0, 1) := by decide +kernel
theorem dX7_explanations_66 : decode cX7_explanations 66 = .ok (.iload_n 2, 1) := by decide +kernel
theorem dX7_explanations_67 : decode cX7_explanations 67 = .ok (.bipush 10, 2) := by decide +kernel
theorem dX7_explanations_69 : decode cX7_explanations 69 = .ok (.invokevirtual 111, 3) := by decide +kernel
theorem dX7_explanations_72 : decode cX7_explanations 72 = .ok (.lstore_n 3, 1) := by decide +kernel
theorem dX7_explanations_73 : decode cX7_explanations 73 = .ok (.aload_n 0, 1) := by decide +kernel
theorem dX7_explanations_74 : decode cX7_explanations 74 = .ok (.getfield 99, 3) := by decide +kernel
theorem dX7_explanations_77 : decode cX7_explanations 77 = .ok (.istore 5, 2) := by decide +kernel
theorem dX7_explanations_79 : decode cX7_explanations 79 = .ok (.iload 5, 2) := by decide +kernel
theorem dX7_explanations_81 : decode cX7_explanations 81 = .ok (.ifCond .le 54, 3) := by decide +kernel
theorem dX7_explanations_84 : decode cX7_explanations 84 = .ok (.aload_n 0, 1) := by decide +kernel
theorem dX7_explanations_85 : decode cX7_explanations 85 = .ok (.iload_n 2, 1) := by decide +kernel
theorem dX7_explanations_86 : decode cX7_explanations 86 = .ok (.lload_n 3, 1) := by decide +kernel
theorem dX7_explanations_87 : decode cX7_explanations 87 = .ok (.iload 5, 2) := by decide +kernel
theorem dX7_explanations_89 : decode cX7_explanations 89 = .ok (.iconst 1, 1) := by decide +kernel
theorem dX7_explanations_90 : decode cX7_explanations 90 = .ok (.isub, 1) := by decide +kernel
theorem dX7_explanations_91 : decode cX7_explanations 91 = .ok (.invokevirtual 115, 3) := by decide +kernel
theorem dX7_explanations_94 : decode cX7_explanations 94 = .ok (.ifCond .eq 41, 3) := by decide +kernel
theorem dX7_explanations_97 : decode cX7_explanations 97 = .ok (.aload_n 0, 1) := by decide +kernel
theorem dX7_explanations_98 : decode cX7_explanations 98 = .ok (.getfield 28, 3) := by decide +kernel
theorem dX7_explanations_101 : decode cX7_explanations 101 = .ok (.iload 5, 2) := by decide +kernel
theorem dX7_explanations_103 : decode cX7_explanations 103 = .ok (.aload_n 0, 1) := by decide +kernel
theorem dX7_explanations_104 : decode cX7_explanations 104 = .ok (.getfield 28, 3) := by decide +kernel
theorem dX7_explanations_107 : decode cX7_explanations 107 = .ok (.iload 5, 2) := by decide +kernel
theorem dX7_explanations_109 : decode cX7_explanations 109 = .ok (.iconst 1, 1) := by decide +kernel
theorem dX7_explanations_110 : decode cX7_explanations 110 = .ok (.isub, 1) := by decide +kernel
theorem dX7_explanations_111 : decode cX7_explanations 111 = .ok (.iaload, 1) := by decide +kernel
theorem dX7_explanations_112 : decode cX7_explanations 112 = .ok (.iastore, 1) := by decide +kernel
theorem dX7_explanations_113 : decode cX7_explanations 113 = .ok (.aload_n 0, 1) := by decide +kernel
theorem dX7_explanations_114 : decode cX7_explanations 114 = .ok (.getfield 31, 3) := by decide +kernel
theorem dX7_explanations_117 : decode cX7_explanations 117 = .ok (.iload 5, 2) := by decide +kernel
theorem dX7_explanations_119 : decode cX7_explanations 119 = .ok (.aload_n 0, 1) := by decide +kernel
theorem dX7_explanations_120 : decode cX7_explanations 120 = .ok (.getfield 31, 3) := by decide +kernel
theorem dX7_explanations_123 : decode cX7_explanations 123 = .ok (.iload 5, 2) := by decide +kernel
theorem dX7_explanations_125 : decode cX7_explanations 125 = .ok (.iconst 1, 1) := by decide +kernel
theorem dX7_explanations_126 : decode cX7_explanations 126 = .ok (.isub, 1) := by decide +kernel
theorem dX7_explanations_127 : decode cX7_explanations 127 = .ok (.laload, 1) := by decide +kernel
theorem dX7_explanations_128 : decode cX7_explanations 128 = .ok (.lastore, 1) := by decide +kernel
theorem dX7_explanations_129 : decode cX7_explanations 129 = .ok (.iinc 5 (-1), 3) := by decide +kernel
theorem dX7_explanations_132 : decode cX7_explanations 132 = .ok (.goto (-53), 3) := by decide +kernel
theorem dX7_explanations_135 : decode cX7_explanations 135 = .ok (.aload_n 0, 1) := by decide +kernel
theorem dX7_explanations_136 : decode cX7_explanations 136 = .ok (.getfield 28, 3) := by decide +kernel
theorem dX7_explanations_139 : decode cX7_explanations 139 = .ok (.iload 5, 2) := by decide +kernel
theorem dX7_explanations_141 : decode cX7_explanations 141 = .ok (.iload_n 2, 1) := by decide +kernel
theorem dX7_explanations_142 : decode cX7_explanations 142 = .ok (.iastore, 1) := by decide +kernel
theorem dX7_explanations_143 : decode cX7_explanations 143 = .ok (.aload_n 0, 1) := by decide +kernel
theorem dX7_explanations_144 : decode cX7_explanations 144 = .ok (.getfield 31, 3) := by decide +kernel
theorem dX7_explanations_147 : decode cX7_explanations 147 = .ok (.iload 5, 2) := by decide +kernel
theorem dX7_explanations_149 : decode cX7_explanations 149 = .ok (.lload_n 3, 1) := by decide +kernel
theorem dX7_explanations_150 : decode cX7_explanations 150 = .ok (.lastore, 1) := by decide +kernel
theorem dX7_explanations_151 : decode cX7_explanations 151 = .ok (.aload_n 0, 1) := by decide +kernel
theorem dX7_explanations_152 : decode cX7_explanations 152 = .ok (.dup, 1) := by decide +kernel
theorem dX7_explanations_153 : decode cX7_explanations 153 = .ok (.getfield 99, 3) := by decide +kernel
theorem dX7_explanations_156 : decode cX7_explanations 156 = .ok (.iconst 1, 1) := by decide +kernel
theorem dX7_explanations_157 : decode cX7_explanations 157 = .ok (.iadd, 1) := by decide +kernel
theorem dX7_explanations_158 : decode cX7_explanations 158 = .ok (.putfield 99, 3) := by decide +kernel
theorem dX7_explanations_161 : decode cX7_explanations 161 = .ok (.iinc 2 1, 3) := by decide +kernel
theorem dX7_explanations_164 : decode cX7_explanations 164 = .ok (.goto (-135), 3) := by decide +kernel
theorem dX7_explanations_167 : decode cX7_explanations 167 = .ok (.aload_n 0, 1) := by decide +kernel
theorem dX7_explanations_168 : decode cX7_explanations 168 = .ok (.getfield 99, 3) := by decide +kernel
theorem dX7_explanations_171 : decode cX7_explanations 171 = .ok (.ireturn, 1) := by decide +kernel
theorem dX7_isExplanation_0 : decode cX7_isExplanation 0 = .ok (.iload_n 1, 1) := by decide +kernel
theorem dX7_isExplanation_1 : decode cX7_isExplanation 1 = .ok (.iconst 0, 1) := by decide +kernel
theorem dX7_isExplanation_2 : decode cX7_isExplanation 2 = .ok (.aload_n 0, 1) := by decide +kernel
theorem dX7_isExplanation_3 : decode cX7_isExplanation 3 = .ok (.invokevirtual 78, 3) := by decide +kernel
theorem dX7_isExplanation_6 : decode cX7_isExplanation 6 = .ok (.iconst 1, 1) := by decide +kernel
theorem dX7_isExplanation_7 : decode cX7_isExplanation 7 = .ok (.isub, 1) := by decide +kernel
theorem dX7_isExplanation_8 : decode cX7_isExplanation 8 = .ok (.invokestatic 51, 3) := by decide +kernel
theorem dX7_isExplanation_11 : decode cX7_isExplanation 11 = .ok (.ireturn, 1) := by decide +kernel
theorem dX7_explanation_0 : decode cX7_explanation 0 = .ok (.aload_n 0, 1) := by decide +kernel
theorem dX7_explanation_1 : decode cX7_explanation 1 = .ok (.iload_n 1, 1) := by decide +kernel
theorem dX7_explanation_2 : decode cX7_explanation 2 = .ok (.invokevirtual 119, 3) := by decide +kernel
theorem dX7_explanation_5 : decode cX7_explanation 5 = .ok (.ifCond .ne 5, 3) := by decide +kernel
theorem dX7_explanation_8 : decode cX7_explanation 8 = .ok (.iconst (-1), 1) := by decide +kernel
theorem dX7_explanation_9 : decode cX7_explanation 9 = .ok (.ireturn, 1) := by decide +kernel
theorem dX7_explanation_10 : decode cX7_explanation 10 = .ok (.iload_n 2, 1) := by decide +kernel
theorem dX7_explanation_11 : decode cX7_explanation 11 = .ok (.ifCond .ne 12, 3) := by decide +kernel
theorem dX7_explanation_14 : decode cX7_explanation 14 = .ok (.aload_n 0, 1) := by decide +kernel
theorem dX7_explanation_15 : decode cX7_explanation 15 = .ok (.getfield 28, 3) := by decide +kernel
theorem dX7_explanation_18 : decode cX7_explanation 18 = .ok (.iload_n 1, 1) := by decide +kernel
theorem dX7_explanation_19 : decode cX7_explanation 19 = .ok (.iaload, 1) := by decide +kernel
theorem dX7_explanation_20 : decode cX7_explanation 20 = .ok (.goto 22, 3) := by decide +kernel
theorem dX7_explanation_23 : decode cX7_explanation 23 = .ok (.iload_n 2, 1) := by decide +kernel
theorem dX7_explanation_24 : decode cX7_explanation 24 = .ok (.iconst 1, 1) := by decide +kernel
theorem dX7_explanation_25 : decode cX7_explanation 25 = .ok (.if_icmp .ne 15, 3) := by decide +kernel
theorem dX7_explanation_28 : decode cX7_explanation 28 = .ok (.aload_n 0, 1) := by decide +kernel
theorem dX7_explanation_29 : decode cX7_explanation 29 = .ok (.getfield 28, 3) := by decide +kernel
theorem dX7_explanation_32 : decode cX7_explanation 32 = .ok (.iload_n 1, 1) := by decide +kernel
theorem dX7_explanation_33 : decode cX7_explanation 33 = .ok (.iaload, 1) := by decide +kernel
theorem dX7_explanation_34 : decode cX7_explanation 34 = .ok (.invokestatic 96, 3) := by decide +kernel
theorem dX7_explanation_37 : decode cX7_explanation 37 = .ok (.goto 5, 3) := by decide +kernel
theorem dX7_explanation_40 : decode cX7_explanation 40 = .ok (.bipush (-2), 2) := by decide +kernel
theorem dX7_explanation_42 : decode cX7_explanation 42 = .ok (.ireturn, 1) := by decide +kernel
theorem dX7_weight_0 : decode cX7_weight 0 = .ok (.aload_n 0, 1) := by decide +kernel
theorem dX7_weight_1 : decode cX7_weight 1 = .ok (.iload_n 1, 1) := by decide +kernel
theorem dX7_weight_2 : decode cX7_weight 2 = .ok (.invokevirtual 119, 3) := by decide +kernel
theorem dX7_weight_5 : decode cX7_weight 5 = .ok (.ifCond .eq 12, 3) := by decide +kernel
theorem dX7_weight_8 : decode cX7_weight 8 = .ok (.aload_n 0, 1) := by decide +kernel
theorem dX7_weight_9 : decode cX7_weight 9 = .ok (.getfield 31, 3) := by decide +kernel
theorem dX7_weight_12 : decode cX7_weight 12 = .ok (.iload_n 1, 1) := by decide +kernel
theorem dX7_weight_13 : decode cX7_weight 13 = .ok (.laload, 1) := by decide +kernel
theorem dX7_weight_14 : decode cX7_weight 14 = .ok (.goto 6, 3) := by decide +kernel
theorem dX7_weight_17 : decode cX7_weight 17 = .ok (.ldc2_w 122, 3) := by decide +kernel
theorem dX7_weight_20 : decode cX7_weight 20 = .ok (.lreturn, 1) := by decide +kernel
theorem dX7_allWeights_0 : decode cX7_allWeights 0 = .ok (.lconst 0, 1) := by decide +kernel
theorem dX7_allWeights_1 : decode cX7_allWeights 1 = .ok (.lstore_n 1, 1) := by decide +kernel
theorem dX7_allWeights_2 : decode cX7_allWeights 2 = .ok (.iconst 0, 1) := by decide +kernel
theorem dX7_allWeights_3 : decode cX7_allWeights 3 = .ok (.istore_n 3, 1) := by decide +kernel
theorem dX7_allWeights_4 : decode cX7_allWeights 4 = .ok (.iload_n 3, 1) := by decide +kernel
theorem dX7_allWeights_5 : decode cX7_allWeights 5 = .ok (.aload_n 0, 1) := by decide +kernel
theorem dX7_allWeights_6 : decode cX7_allWeights 6 = .ok (.getfield 99, 3) := by decide +kernel
theorem dX7_allWeights_9 : decode cX7_allWeights 9 = .ok (.if_icmp .ge 18, 3) := by decide +kernel
theorem dX7_allWeights_12 : decode cX7_allWeights 12 = .ok (.lload_n 1, 1) := by decide +kernel
theorem dX7_allWeights_13 : decode cX7_allWeights 13 = .ok (.aload_n 0, 1) := by decide +kernel
theorem dX7_allWeights_14 : decode cX7_allWeights 14 = .ok (.getfield 31, 3) := by decide +kernel
theorem dX7_allWeights_17 : decode cX7_allWeights 17 = .ok (.iload_n 3, 1) := by decide +kernel
theorem dX7_allWeights_18 : decode cX7_allWeights 18 = .ok (.laload, 1) := by decide +kernel
theorem dX7_allWeights_19 : decode cX7_allWeights 19 = .ok (.ladd, 1) := by decide +kernel
theorem dX7_allWeights_20 : decode cX7_allWeights 20 = .ok (.lstore_n 1, 1) := by decide +kernel
theorem dX7_allWeights_21 : decode cX7_allWeights 21 = .ok (.iinc 3 1, 3) := by decide +kernel
theorem dX7_allWeights_24 : decode cX7_allWeights 24 = .ok (.goto (-20), 3) := by decide +kernel
theorem dX7_allWeights_27 : decode cX7_allWeights 27 = .ok (.lload_n 1, 1) := by decide +kernel
theorem dX7_allWeights_28 : decode cX7_allWeights 28 = .ok (.lreturn, 1) := by decide +kernel
theorem dX7_inLeastTerms_0 : decode cX7_inLeastTerms 0 = .ok (.lload_n 0, 1) := by decide +kernel
theorem dX7_inLeastTerms_1 : decode cX7_inLeastTerms 1 = .ok (.lstore 5, 2) := by decide +kernel
theorem dX7_inLeastTerms_3 : decode cX7_inLeastTerms 3 = .ok (.lload_n 2, 1) := by decide +kernel
theorem dX7_inLeastTerms_4 : decode cX7_inLeastTerms 4 = .ok (.lstore 7, 2) := by decide +kernel
theorem dX7_inLeastTerms_6 : decode cX7_inLeastTerms 6 = .ok (.lload 7, 2) := by decide +kernel
theorem dX7_inLeastTerms_8 : decode cX7_inLeastTerms 8 = .ok (.lconst 0, 1) := by decide +kernel
theorem dX7_inLeastTerms_9 : decode cX7_inLeastTerms 9 = .ok (.lcmp, 1) := by decide +kernel
theorem dX7_inLeastTerms_10 : decode cX7_inLeastTerms 10 = .ok (.ifCond .eq 21, 3) := by decide +kernel
theorem dX7_inLeastTerms_13 : decode cX7_inLeastTerms 13 = .ok (.lload 5, 2) := by decide +kernel
theorem dX7_inLeastTerms_15 : decode cX7_inLeastTerms 15 = .ok (.lload 7, 2) := by decide +kernel
theorem dX7_inLeastTerms_17 : decode cX7_inLeastTerms 17 = .ok (.lrem, 1) := by decide +kernel
theorem dX7_inLeastTerms_18 : decode cX7_inLeastTerms 18 = .ok (.lstore 9, 2) := by decide +kernel
theorem dX7_inLeastTerms_20 : decode cX7_inLeastTerms 20 = .ok (.lload 7, 2) := by decide +kernel
theorem dX7_inLeastTerms_22 : decode cX7_inLeastTerms 22 = .ok (.lstore 5, 2) := by decide +kernel
theorem dX7_inLeastTerms_24 : decode cX7_inLeastTerms 24 = .ok (.lload 9, 2) := by decide +kernel
theorem dX7_inLeastTerms_26 : decode cX7_inLeastTerms 26 = .ok (.lstore 7, 2) := by decide +kernel
theorem dX7_inLeastTerms_28 : decode cX7_inLeastTerms 28 = .ok (.goto (-22), 3) := by decide +kernel
theorem dX7_inLeastTerms_31 : decode cX7_inLeastTerms 31 = .ok (.iload 4, 2) := by decide +kernel
theorem dX7_inLeastTerms_33 : decode cX7_inLeastTerms 33 = .ok (.ifCond .ne 10, 3) := by decide +kernel
theorem dX7_inLeastTerms_36 : decode cX7_inLeastTerms 36 = .ok (.lload_n 0, 1) := by decide +kernel
theorem dX7_inLeastTerms_37 : decode cX7_inLeastTerms 37 = .ok (.lload 5, 2) := by decide +kernel
theorem dX7_inLeastTerms_39 : decode cX7_inLeastTerms 39 = .ok (.ldiv, 1) := by decide +kernel
theorem dX7_inLeastTerms_40 : decode cX7_inLeastTerms 40 = .ok (.goto 7, 3) := by decide +kernel
theorem dX7_inLeastTerms_43 : decode cX7_inLeastTerms 43 = .ok (.lload_n 2, 1) := by decide +kernel
theorem dX7_inLeastTerms_44 : decode cX7_inLeastTerms 44 = .ok (.lload 5, 2) := by decide +kernel
theorem dX7_inLeastTerms_46 : decode cX7_inLeastTerms 46 = .ok (.ldiv, 1) := by decide +kernel
theorem dX7_inLeastTerms_47 : decode cX7_inLeastTerms 47 = .ok (.lreturn, 1) := by decide +kernel
theorem dX7_share_0 : decode cX7_share 0 = .ok (.aload_n 0, 1) := by decide +kernel
theorem dX7_share_1 : decode cX7_share 1 = .ok (.iload_n 1, 1) := by decide +kernel
theorem dX7_share_2 : decode cX7_share 2 = .ok (.invokevirtual 119, 3) := by decide +kernel
theorem dX7_share_5 : decode cX7_share 5 = .ok (.ifCond .eq 12, 3) := by decide +kernel
theorem dX7_share_8 : decode cX7_share 8 = .ok (.iload_n 2, 1) := by decide +kernel
theorem dX7_share_9 : decode cX7_share 9 = .ok (.iconst 0, 1) := by decide +kernel
theorem dX7_share_10 : decode cX7_share 10 = .ok (.iconst 1, 1) := by decide +kernel
theorem dX7_share_11 : decode cX7_share 11 = .ok (.invokestatic 51, 3) := by decide +kernel
theorem dX7_share_14 : decode cX7_share 14 = .ok (.ifCond .ne 7, 3) := by decide +kernel
theorem dX7_share_17 : decode cX7_share 17 = .ok (.ldc2_w 122, 3) := by decide +kernel
theorem dX7_share_20 : decode cX7_share 20 = .ok (.lreturn, 1) := by decide +kernel
theorem dX7_share_21 : decode cX7_share 21 = .ok (.aload_n 0, 1) := by decide +kernel
theorem dX7_share_22 : decode cX7_share 22 = .ok (.getfield 31, 3) := by decide +kernel
theorem dX7_share_25 : decode cX7_share 25 = .ok (.iload_n 1, 1) := by decide +kernel
theorem dX7_share_26 : decode cX7_share 26 = .ok (.laload, 1) := by decide +kernel
theorem dX7_share_27 : decode cX7_share 27 = .ok (.aload_n 0, 1) := by decide +kernel
theorem dX7_share_28 : decode cX7_share 28 = .ok (.invokevirtual 124, 3) := by decide +kernel
theorem dX7_share_31 : decode cX7_share 31 = .ok (.iload_n 2, 1) := by decide +kernel
theorem dX7_share_32 : decode cX7_share 32 = .ok (.invokestatic 128, 3) := by decide +kernel
theorem dX7_share_35 : decode cX7_share 35 = .ok (.lreturn, 1) := by decide +kernel
theorem dX7_needs_0 : decode cX7_needs 0 = .ok (.aload_n 0, 1) := by decide +kernel
theorem dX7_needs_1 : decode cX7_needs 1 = .ok (.iload_n 1, 1) := by decide +kernel
theorem dX7_needs_2 : decode cX7_needs 2 = .ok (.invokevirtual 119, 3) := by decide +kernel
theorem dX7_needs_5 : decode cX7_needs 5 = .ok (.ifCond .eq 10, 3) := by decide +kernel
theorem dX7_needs_8 : decode cX7_needs 8 = .ok (.iload_n 2, 1) := by decide +kernel
theorem dX7_needs_9 : decode cX7_needs 9 = .ok (.invokestatic 55, 3) := by decide +kernel
theorem dX7_needs_12 : decode cX7_needs 12 = .ok (.ifCond .ne 5, 3) := by decide +kernel
theorem dX7_needs_15 : decode cX7_needs 15 = .ok (.iconst (-1), 1) := by decide +kernel
theorem dX7_needs_16 : decode cX7_needs 16 = .ok (.ireturn, 1) := by decide +kernel
theorem dX7_needs_17 : decode cX7_needs 17 = .ok (.aload_n 0, 1) := by decide +kernel
theorem dX7_needs_18 : decode cX7_needs 18 = .ok (.getfield 28, 3) := by decide +kernel
theorem dX7_needs_21 : decode cX7_needs 21 = .ok (.iload_n 1, 1) := by decide +kernel
theorem dX7_needs_22 : decode cX7_needs 22 = .ok (.iaload, 1) := by decide +kernel
theorem dX7_needs_23 : decode cX7_needs 23 = .ok (.iload_n 2, 1) := by decide +kernel
theorem dX7_needs_24 : decode cX7_needs 24 = .ok (.invokestatic 86, 3) := by decide +kernel
theorem dX7_needs_27 : decode cX7_needs 27 = .ok (.ifCond .ne 6, 3) := by decide +kernel
theorem dX7_needs_30 : decode cX7_needs 30 = .ok (.bipush (-9), 2) := by decide +kernel
theorem dX7_needs_32 : decode cX7_needs 32 = .ok (.ireturn, 1) := by decide +kernel
theorem dX7_needs_33 : decode cX7_needs 33 = .ok (.iconst 0, 1) := by decide +kernel
theorem dX7_needs_34 : decode cX7_needs 34 = .ok (.istore_n 3, 1) := by decide +kernel
theorem dX7_needs_35 : decode cX7_needs 35 = .ok (.iconst 0, 1) := by decide +kernel
theorem dX7_needs_36 : decode cX7_needs 36 = .ok (.istore 4, 2) := by decide +kernel
theorem dX7_needs_38 : decode cX7_needs 38 = .ok (.iload 4, 2) := by decide +kernel
theorem dX7_needs_40 : decode cX7_needs 40 = .ok (.bipush 12, 2) := by decide +kernel
theorem dX7_needs_42 : decode cX7_needs 42 = .ok (.if_icmp .ge 52, 3) := by decide +kernel
theorem dX7_needs_45 : decode cX7_needs 45 = .ok (.iload_n 3, 1) := by decide +kernel
theorem dX7_needs_46 : decode cX7_needs 46 = .ok (.aload_n 0, 1) := by decide +kernel
theorem dX7_needs_47 : decode cX7_needs 47 = .ok (.getfield 19, 3) := by decide +kernel
theorem dX7_needs_50 : decode cX7_needs 50 = .ok (.iload 4, 2) := by decide +kernel
theorem dX7_needs_52 : decode cX7_needs 52 = .ok (.iaload, 1) := by decide +kernel
theorem dX7_needs_53 : decode cX7_needs 53 = .ok (.iconst 1, 1) := by decide +kernel
theorem dX7_needs_54 : decode cX7_needs 54 = .ok (.if_icmp .ne 31, 3) := by decide +kernel
theorem dX7_needs_57 : decode cX7_needs 57 = .ok (.aload_n 0, 1) := by decide +kernel
theorem dX7_needs_58 : decode cX7_needs 58 = .ok (.iload 4, 2) := by decide +kernel
theorem dX7_needs_60 : decode cX7_needs 60 = .ok (.aload_n 0, 1) := by decide +kernel
theorem dX7_needs_61 : decode cX7_needs 61 = .ok (.getfield 28, 3) := by decide +kernel
theorem dX7_needs_64 : decode cX7_needs 64 = .ok (.iload_n 1, 1) := by decide +kernel
theorem dX7_needs_65 : decode cX7_needs 65 = .ok (.iaload, 1) := by decide +kernel
theorem dX7_needs_66 : decode cX7_needs 66 = .ok (.iconst 1, 1) := by decide +kernel
theorem dX7_needs_67 : decode cX7_needs 67 = .ok (.iload_n 2, 1) := by decide +kernel
theorem dX7_needs_68 : decode cX7_needs 68 = .ok (.ishl, 1) := by decide +kernel
theorem dX7_needs_69 : decode cX7_needs 69 = .ok (.iconst (-1), 1) := by decide +kernel
theorem dX7_needs_70 : decode cX7_needs 70 = .ok (.ixor, 1) := by decide +kernel
theorem dX7_needs_71 : decode cX7_needs 71 = .ok (.iand, 1) := by decide +kernel
theorem dX7_needs_72 : decode cX7_needs 72 = .ok (.invokevirtual 93, 3) := by decide +kernel
theorem dX7_needs_75 : decode cX7_needs 75 = .ok (.ifCond .ne 10, 3) := by decide +kernel
theorem dX7_needs_78 : decode cX7_needs 78 = .ok (.iconst 1, 1) := by decide +kernel
theorem dX7_needs_79 : decode cX7_needs 79 = .ok (.iload 4, 2) := by decide +kernel
theorem dX7_needs_81 : decode cX7_needs 81 = .ok (.ishl, 1) := by decide +kernel
theorem dX7_needs_82 : decode cX7_needs 82 = .ok (.goto 4, 3) := by decide +kernel
theorem dX7_needs_85 : decode cX7_needs 85 = .ok (.iconst 0, 1) := by decide +kernel
theorem dX7_needs_86 : decode cX7_needs 86 = .ok (.ior, 1) := by decide +kernel
theorem dX7_needs_87 : decode cX7_needs 87 = .ok (.istore_n 3, 1) := by decide +kernel
theorem dX7_needs_88 : decode cX7_needs 88 = .ok (.iinc 4 1, 3) := by decide +kernel
theorem dX7_needs_91 : decode cX7_needs 91 = .ok (.goto (-53), 3) := by decide +kernel
theorem dX7_needs_94 : decode cX7_needs 94 = .ok (.iload_n 3, 1) := by decide +kernel
theorem dX7_needs_95 : decode cX7_needs 95 = .ok (.ireturn, 1) := by decide +kernel
theorem dX7_sets_0 : decode cX7_sets 0 = .ok (.iload_n 1, 1) := by decide +kernel
theorem dX7_sets_1 : decode cX7_sets 1 = .ok (.iconst 0, 1) := by decide +kernel
theorem dX7_sets_2 : decode cX7_sets 2 = .ok (.iconst 2, 1) := by decide +kernel
theorem dX7_sets_3 : decode cX7_sets 3 = .ok (.invokestatic 51, 3) := by decide +kernel
theorem dX7_sets_6 : decode cX7_sets 6 = .ok (.ifCond .ne 6, 3) := by decide +kernel
theorem dX7_sets_9 : decode cX7_sets 9 = .ok (.bipush (-2), 2) := by decide +kernel
theorem dX7_sets_11 : decode cX7_sets 11 = .ok (.ireturn, 1) := by decide +kernel
theorem dX7_sets_12 : decode cX7_sets 12 = .ok (.aload_n 0, 1) := by decide +kernel
theorem dX7_sets_13 : decode cX7_sets 13 = .ok (.invokevirtual 78, 3) := by decide +kernel
theorem dX7_sets_16 : decode cX7_sets 16 = .ok (.pop, 1) := by decide +kernel
theorem dX7_sets_17 : decode cX7_sets 17 = .ok (.sipush 1023, 3) := by decide +kernel
theorem dX7_sets_20 : decode cX7_sets 20 = .ok (.istore_n 2, 1) := by decide +kernel
theorem dX7_sets_21 : decode cX7_sets 21 = .ok (.iconst 0, 1) := by decide +kernel
theorem dX7_sets_22 : decode cX7_sets 22 = .ok (.istore_n 3, 1) := by decide +kernel
theorem dX7_sets_23 : decode cX7_sets 23 = .ok (.iconst 0, 1) := by decide +kernel
theorem dX7_sets_24 : decode cX7_sets 24 = .ok (.istore 4, 2) := by decide +kernel
theorem dX7_sets_26 : decode cX7_sets 26 = .ok (.iload 4, 2) := by decide +kernel
theorem dX7_sets_28 : decode cX7_sets 28 = .ok (.aload_n 0, 1) := by decide +kernel
theorem dX7_sets_29 : decode cX7_sets 29 = .ok (.getfield 99, 3) := by decide +kernel
theorem dX7_sets_32 : decode cX7_sets 32 = .ok (.if_icmp .ge 29, 3) := by decide +kernel
theorem dX7_sets_35 : decode cX7_sets 35 = .ok (.iload_n 2, 1) := by decide +kernel
theorem dX7_sets_36 : decode cX7_sets 36 = .ok (.aload_n 0, 1) := by decide +kernel
theorem dX7_sets_37 : decode cX7_sets 37 = .ok (.getfield 28, 3) := by decide +kernel
theorem dX7_sets_40 : decode cX7_sets 40 = .ok (.iload 4, 2) := by decide +kernel
theorem dX7_sets_42 : decode cX7_sets 42 = .ok (.iaload, 1) := by decide +kernel
theorem dX7_sets_43 : decode cX7_sets 43 = .ok (.iand, 1) := by decide +kernel
theorem dX7_sets_44 : decode cX7_sets 44 = .ok (.istore_n 2, 1) := by decide +kernel
theorem dX7_sets_45 : decode cX7_sets 45 = .ok (.iload_n 3, 1) := by decide +kernel
theorem dX7_sets_46 : decode cX7_sets 46 = .ok (.aload_n 0, 1) := by decide +kernel
theorem dX7_sets_47 : decode cX7_sets 47 = .ok (.getfield 28, 3) := by decide +kernel
theorem dX7_sets_50 : decode cX7_sets 50 = .ok (.iload 4, 2) := by decide +kernel
theorem dX7_sets_52 : decode cX7_sets 52 = .ok (.iaload, 1) := by decide +kernel
theorem dX7_sets_53 : decode cX7_sets 53 = .ok (.ior, 1) := by decide +kernel
theorem dX7_sets_54 : decode cX7_sets 54 = .ok (.istore_n 3, 1) := by decide +kernel
theorem dX7_sets_55 : decode cX7_sets 55 = .ok (.iinc 4 1, 3) := by decide +kernel
theorem dX7_sets_58 : decode cX7_sets 58 = .ok (.goto (-32), 3) := by decide +kernel
theorem dX7_sets_61 : decode cX7_sets 61 = .ok (.iload_n 1, 1) := by decide +kernel
theorem dX7_sets_62 : decode cX7_sets 62 = .ok (.ifCond .ne 7, 3) := by decide +kernel
theorem dX7_sets_65 : decode cX7_sets 65 = .ok (.iload_n 2, 1) := by decide +kernel
theorem dX7_sets_66 : decode cX7_sets 66 = .ok (.goto 16, 3) := by decide +kernel
theorem dX7_sets_69 : decode cX7_sets 69 = .ok (.iload_n 1, 1) := by decide +kernel
theorem dX7_sets_70 : decode cX7_sets 70 = .ok (.iconst 1, 1) := by decide +kernel
theorem dX7_sets_71 : decode cX7_sets 71 = .ok (.if_icmp .ne 7, 3) := by decide +kernel
theorem dX7_sets_74 : decode cX7_sets 74 = .ok (.iload_n 3, 1) := by decide +kernel
theorem dX7_sets_75 : decode cX7_sets 75 = .ok (.goto 7, 3) := by decide +kernel
theorem dX7_sets_78 : decode cX7_sets 78 = .ok (.aload_n 0, 1) := by decide +kernel
theorem dX7_sets_79 : decode cX7_sets 79 = .ok (.invokevirtual 102, 3) := by decide +kernel
theorem dX7_sets_82 : decode cX7_sets 82 = .ok (.ireturn, 1) := by decide +kernel
theorem dX7_belief_0 : decode cX7_belief 0 = .ok (.iload_n 1, 1) := by decide +kernel
theorem dX7_belief_1 : decode cX7_belief 1 = .ok (.invokestatic 55, 3) := by decide +kernel
theorem dX7_belief_4 : decode cX7_belief 4 = .ok (.ifCond .eq 19, 3) := by decide +kernel
theorem dX7_belief_7 : decode cX7_belief 7 = .ok (.iload_n 2, 1) := by decide +kernel
theorem dX7_belief_8 : decode cX7_belief 8 = .ok (.iconst 0, 1) := by decide +kernel
theorem dX7_belief_9 : decode cX7_belief 9 = .ok (.iconst 1, 1) := by decide +kernel
theorem dX7_belief_10 : decode cX7_belief 10 = .ok (.invokestatic 51, 3) := by decide +kernel
theorem dX7_belief_13 : decode cX7_belief 13 = .ok (.ifCond .eq 10, 3) := by decide +kernel
theorem dX7_belief_16 : decode cX7_belief 16 = .ok (.aload_n 0, 1) := by decide +kernel
theorem dX7_belief_17 : decode cX7_belief 17 = .ok (.invokevirtual 78, 3) := by decide +kernel
theorem dX7_belief_20 : decode cX7_belief 20 = .ok (.ifCond .ne 7, 3) := by decide +kernel
theorem dX7_belief_23 : decode cX7_belief 23 = .ok (.ldc2_w 122, 3) := by decide +kernel
theorem dX7_belief_26 : decode cX7_belief 26 = .ok (.lreturn, 1) := by decide +kernel
theorem dX7_belief_27 : decode cX7_belief 27 = .ok (.lconst 0, 1) := by decide +kernel
theorem dX7_belief_28 : decode cX7_belief 28 = .ok (.lstore_n 3, 1) := by decide +kernel
theorem dX7_belief_29 : decode cX7_belief 29 = .ok (.iconst 0, 1) := by decide +kernel
theorem dX7_belief_30 : decode cX7_belief 30 = .ok (.istore 5, 2) := by decide +kernel
theorem dX7_belief_32 : decode cX7_belief 32 = .ok (.iload 5, 2) := by decide +kernel
theorem dX7_belief_34 : decode cX7_belief 34 = .ok (.aload_n 0, 1) := by decide +kernel
theorem dX7_belief_35 : decode cX7_belief 35 = .ok (.getfield 99, 3) := by decide +kernel
theorem dX7_belief_38 : decode cX7_belief 38 = .ok (.if_icmp .ge 37, 3) := by decide +kernel
theorem dX7_belief_41 : decode cX7_belief 41 = .ok (.lload_n 3, 1) := by decide +kernel
theorem dX7_belief_42 : decode cX7_belief 42 = .ok (.aload_n 0, 1) := by decide +kernel
theorem dX7_belief_43 : decode cX7_belief 43 = .ok (.getfield 28, 3) := by decide +kernel
theorem dX7_belief_46 : decode cX7_belief 46 = .ok (.iload 5, 2) := by decide +kernel
theorem dX7_belief_48 : decode cX7_belief 48 = .ok (.iaload, 1) := by decide +kernel
theorem dX7_belief_49 : decode cX7_belief 49 = .ok (.iload_n 1, 1) := by decide +kernel
theorem dX7_belief_50 : decode cX7_belief 50 = .ok (.invokestatic 86, 3) := by decide +kernel
theorem dX7_belief_53 : decode cX7_belief 53 = .ok (.ifCond .eq 13, 3) := by decide +kernel
theorem dX7_belief_56 : decode cX7_belief 56 = .ok (.aload_n 0, 1) := by decide +kernel
theorem dX7_belief_57 : decode cX7_belief 57 = .ok (.getfield 31, 3) := by decide +kernel
theorem dX7_belief_60 : decode cX7_belief 60 = .ok (.iload 5, 2) := by decide +kernel
theorem dX7_belief_62 : decode cX7_belief 62 = .ok (.laload, 1) := by decide +kernel
theorem dX7_belief_63 : decode cX7_belief 63 = .ok (.goto 4, 3) := by decide +kernel
theorem dX7_belief_66 : decode cX7_belief 66 = .ok (.lconst 0, 1) := by decide +kernel
theorem dX7_belief_67 : decode cX7_belief 67 = .ok (.ladd, 1) := by decide +kernel
theorem dX7_belief_68 : decode cX7_belief 68 = .ok (.lstore_n 3, 1) := by decide +kernel
theorem dX7_belief_69 : decode cX7_belief 69 = .ok (.iinc 5 1, 3) := by decide +kernel
theorem dX7_belief_72 : decode cX7_belief 72 = .ok (.goto (-40), 3) := by decide +kernel
theorem dX7_belief_75 : decode cX7_belief 75 = .ok (.lload_n 3, 1) := by decide +kernel
theorem dX7_belief_76 : decode cX7_belief 76 = .ok (.aload_n 0, 1) := by decide +kernel
theorem dX7_belief_77 : decode cX7_belief 77 = .ok (.invokevirtual 124, 3) := by decide +kernel
theorem dX7_belief_80 : decode cX7_belief 80 = .ok (.iload_n 2, 1) := by decide +kernel
theorem dX7_belief_81 : decode cX7_belief 81 = .ok (.invokestatic 128, 3) := by decide +kernel
theorem dX7_belief_84 : decode cX7_belief 84 = .ok (.lreturn, 1) := by decide +kernel
theorem dX7_fewest_0 : decode cX7_fewest 0 = .ok (.iload_n 1, 1) := by decide +kernel
theorem dX7_fewest_1 : decode cX7_fewest 1 = .ok (.iconst 0, 1) := by decide +kernel
theorem dX7_fewest_2 : decode cX7_fewest 2 = .ok (.iconst 2, 1) := by decide +kernel
theorem dX7_fewest_3 : decode cX7_fewest 3 = .ok (.invokestatic 51, 3) := by decide +kernel
theorem dX7_fewest_6 : decode cX7_fewest 6 = .ok (.ifCond .ne 6, 3) := by decide +kernel
theorem dX7_fewest_9 : decode cX7_fewest 9 = .ok (.bipush (-2), 2) := by decide +kernel
theorem dX7_fewest_11 : decode cX7_fewest 11 = .ok (.ireturn, 1) := by decide +kernel
theorem dX7_fewest_12 : decode cX7_fewest 12 = .ok (.aload_n 0, 1) := by decide +kernel
theorem dX7_fewest_13 : decode cX7_fewest 13 = .ok (.invokevirtual 78, 3) := by decide +kernel
theorem dX7_fewest_16 : decode cX7_fewest 16 = .ok (.ifCond .ne 6, 3) := by decide +kernel
theorem dX7_fewest_19 : decode cX7_fewest 19 = .ok (.bipush (-9), 2) := by decide +kernel
theorem dX7_fewest_21 : decode cX7_fewest 21 = .ok (.ireturn, 1) := by decide +kernel
theorem dX7_fewest_22 : decode cX7_fewest 22 = .ok (.bipush 10, 2) := by decide +kernel
theorem dX7_fewest_24 : decode cX7_fewest 24 = .ok (.istore_n 2, 1) := by decide +kernel
theorem dX7_fewest_25 : decode cX7_fewest 25 = .ok (.iconst 0, 1) := by decide +kernel
theorem dX7_fewest_26 : decode cX7_fewest 26 = .ok (.istore_n 3, 1) := by decide +kernel
theorem dX7_fewest_27 : decode cX7_fewest 27 = .ok (.iconst 0, 1) := by decide +kernel
theorem dX7_fewest_28 : decode cX7_fewest 28 = .ok (.istore 4, 2) := by decide +kernel
theorem dX7_fewest_30 : decode cX7_fewest 30 = .ok (.iconst 0, 1) := by decide +kernel
theorem dX7_fewest_31 : decode cX7_fewest 31 = .ok (.istore 5, 2) := by decide +kernel
theorem dX7_fewest_33 : decode cX7_fewest 33 = .ok (.iload 5, 2) := by decide +kernel
theorem dX7_fewest_35 : decode cX7_fewest 35 = .ok (.aload_n 0, 1) := by decide +kernel
theorem dX7_fewest_36 : decode cX7_fewest 36 = .ok (.getfield 99, 3) := by decide +kernel
theorem dX7_fewest_39 : decode cX7_fewest 39 = .ok (.if_icmp .ge 77, 3) := by decide +kernel
theorem dX7_fewest_42 : decode cX7_fewest 42 = .ok (.aload_n 0, 1) := by decide +kernel
theorem dX7_fewest_43 : decode cX7_fewest 43 = .ok (.getfield 28, 3) := by decide +kernel
theorem dX7_fewest_46 : decode cX7_fewest 46 = .ok (.iload 5, 2) := by decide +kernel
theorem dX7_fewest_48 : decode cX7_fewest 48 = .ok (.iaload, 1) := by decide +kernel
theorem dX7_fewest_49 : decode cX7_fewest 49 = .ok (.invokestatic 96, 3) := by decide +kernel
theorem dX7_fewest_52 : decode cX7_fewest 52 = .ok (.istore 6, 2) := by decide +kernel
theorem dX7_fewest_54 : decode cX7_fewest 54 = .ok (.iload 6, 2) := by decide +kernel
theorem dX7_fewest_56 : decode cX7_fewest 56 = .ok (.iload_n 2, 1) := by decide +kernel
theorem dX7_fewest_57 : decode cX7_fewest 57 = .ok (.if_icmp .ge 7, 3) := by decide +kernel
theorem dX7_fewest_60 : decode cX7_fewest 60 = .ok (.iconst 0, 1) := by decide +kernel
theorem dX7_fewest_61 : decode cX7_fewest 61 = .ok (.goto 5, 3) := by decide +kernel
theorem dX7_fewest_64 : decode cX7_fewest 64 = .ok (.iload 4, 2) := by decide +kernel
theorem dX7_fewest_66 : decode cX7_fewest 66 = .ok (.istore 4, 2) := by decide +kernel
theorem dX7_fewest_68 : decode cX7_fewest 68 = .ok (.iload 6, 2) := by decide +kernel
theorem dX7_fewest_70 : decode cX7_fewest 70 = .ok (.iload_n 2, 1) := by decide +kernel
theorem dX7_fewest_71 : decode cX7_fewest 71 = .ok (.if_icmp .ge 8, 3) := by decide +kernel
theorem dX7_fewest_74 : decode cX7_fewest 74 = .ok (.iload 6, 2) := by decide +kernel
theorem dX7_fewest_76 : decode cX7_fewest 76 = .ok (.goto 4, 3) := by decide +kernel
theorem dX7_fewest_79 : decode cX7_fewest 79 = .ok (.iload_n 2, 1) := by decide +kernel
theorem dX7_fewest_80 : decode cX7_fewest 80 = .ok (.istore_n 2, 1) := by decide +kernel
theorem dX7_fewest_81 : decode cX7_fewest 81 = .ok (.iload 4, 2) := by decide +kernel
theorem dX7_fewest_83 : decode cX7_fewest 83 = .ok (.iload 6, 2) := by decide +kernel
theorem dX7_fewest_85 : decode cX7_fewest 85 = .ok (.iload_n 2, 1) := by decide +kernel
theorem dX7_fewest_86 : decode cX7_fewest 86 = .ok (.if_icmp .ne 7, 3) := by decide +kernel
theorem dX7_fewest_89 : decode cX7_fewest 89 = .ok (.iconst 1, 1) := by decide +kernel
theorem dX7_fewest_90 : decode cX7_fewest 90 = .ok (.goto 4, 3) := by decide +kernel
theorem dX7_fewest_93 : decode cX7_fewest 93 = .ok (.iconst 0, 1) := by decide +kernel
theorem dX7_fewest_94 : decode cX7_fewest 94 = .ok (.iadd, 1) := by decide +kernel
theorem dX7_fewest_95 : decode cX7_fewest 95 = .ok (.istore 4, 2) := by decide +kernel
theorem dX7_fewest_97 : decode cX7_fewest 97 = .ok (.iload 6, 2) := by decide +kernel
theorem dX7_fewest_99 : decode cX7_fewest 99 = .ok (.iload_n 3, 1) := by decide +kernel
theorem dX7_fewest_100 : decode cX7_fewest 100 = .ok (.if_icmp .le 8, 3) := by decide +kernel
theorem dX7_fewest_103 : decode cX7_fewest 103 = .ok (.iload 6, 2) := by decide +kernel
theorem dX7_fewest_105 : decode cX7_fewest 105 = .ok (.goto 4, 3) := by decide +kernel
theorem dX7_fewest_108 : decode cX7_fewest 108 = .ok (.iload_n 3, 1) := by decide +kernel
theorem dX7_fewest_109 : decode cX7_fewest 109 = .ok (.istore_n 3, 1) := by decide +kernel
theorem dX7_fewest_110 : decode cX7_fewest 110 = .ok (.iinc 5 1, 3) := by decide +kernel
theorem dX7_fewest_113 : decode cX7_fewest 113 = .ok (.goto (-80), 3) := by decide +kernel
theorem dX7_fewest_116 : decode cX7_fewest 116 = .ok (.iload_n 1, 1) := by decide +kernel
theorem dX7_fewest_117 : decode cX7_fewest 117 = .ok (.ifCond .ne 7, 3) := by decide +kernel
theorem dX7_fewest_120 : decode cX7_fewest 120 = .ok (.iload_n 2, 1) := by decide +kernel
theorem dX7_fewest_121 : decode cX7_fewest 121 = .ok (.goto 14, 3) := by decide +kernel
theorem dX7_fewest_124 : decode cX7_fewest 124 = .ok (.iload_n 1, 1) := by decide +kernel
theorem dX7_fewest_125 : decode cX7_fewest 125 = .ok (.iconst 1, 1) := by decide +kernel
theorem dX7_fewest_126 : decode cX7_fewest 126 = .ok (.if_icmp .ne 7, 3) := by decide +kernel
theorem dX7_fewest_129 : decode cX7_fewest 129 = .ok (.iload_n 3, 1) := by decide +kernel
theorem dX7_fewest_130 : decode cX7_fewest 130 = .ok (.goto 5, 3) := by decide +kernel
theorem dX7_fewest_133 : decode cX7_fewest 133 = .ok (.iload 4, 2) := by decide +kernel
theorem dX7_fewest_135 : decode cX7_fewest 135 = .ok (.ireturn, 1) := by decide +kernel
theorem dX7_covers_0 : decode cX7_covers 0 = .ok (.iload_n 1, 1) := by decide +kernel
theorem dX7_covers_1 : decode cX7_covers 1 = .ok (.iconst 0, 1) := by decide +kernel
theorem dX7_covers_2 : decode cX7_covers 2 = .ok (.sipush 1023, 3) := by decide +kernel
theorem dX7_covers_5 : decode cX7_covers 5 = .ok (.invokestatic 51, 3) := by decide +kernel
theorem dX7_covers_8 : decode cX7_covers 8 = .ok (.ifCond .ne 6, 3) := by decide +kernel
theorem dX7_covers_11 : decode cX7_covers 11 = .ok (.bipush (-2), 2) := by decide +kernel
theorem dX7_covers_13 : decode cX7_covers 13 = .ok (.ireturn, 1) := by decide +kernel
theorem dX7_covers_14 : decode cX7_covers 14 = .ok (.aload_n 0, 1) := by decide +kernel
theorem dX7_covers_15 : decode cX7_covers 15 = .ok (.invokevirtual 78, 3) := by decide +kernel
theorem dX7_covers_18 : decode cX7_covers 18 = .ok (.pop, 1) := by decide +kernel
theorem dX7_covers_19 : decode cX7_covers 19 = .ok (.aload_n 0, 1) := by decide +kernel
theorem dX7_covers_20 : decode cX7_covers 20 = .ok (.getfield 35, 3) := by decide +kernel
theorem dX7_covers_23 : decode cX7_covers 23 = .ok (.iload_n 1, 1) := by decide +kernel
theorem dX7_covers_24 : decode cX7_covers 24 = .ok (.baload, 1) := by decide +kernel
theorem dX7_covers_25 : decode cX7_covers 25 = .ok (.ifCond .ne 7, 3) := by decide +kernel
theorem dX7_covers_28 : decode cX7_covers 28 = .ok (.iconst 0, 1) := by decide +kernel
theorem dX7_covers_29 : decode cX7_covers 29 = .ok (.goto 16, 3) := by decide +kernel
theorem dX7_covers_32 : decode cX7_covers 32 = .ok (.aload_n 0, 1) := by decide +kernel
theorem dX7_covers_33 : decode cX7_covers 33 = .ok (.iload_n 1, 1) := by decide +kernel
theorem dX7_covers_34 : decode cX7_covers 34 = .ok (.invokevirtual 108, 3) := by decide +kernel
theorem dX7_covers_37 : decode cX7_covers 37 = .ok (.ifCond .eq 7, 3) := by decide +kernel
theorem dX7_covers_40 : decode cX7_covers 40 = .ok (.iconst 1, 1) := by decide +kernel
theorem dX7_covers_41 : decode cX7_covers 41 = .ok (.goto 4, 3) := by decide +kernel
theorem dX7_covers_44 : decode cX7_covers 44 = .ok (.iconst 2, 1) := by decide +kernel
theorem dX7_covers_45 : decode cX7_covers 45 = .ok (.ireturn, 1) := by decide +kernel
theorem dX7_unexplained_0 : decode cX7_unexplained 0 = .ok (.iconst 0, 1) := by decide +kernel
theorem dX7_unexplained_1 : decode cX7_unexplained 1 = .ok (.istore_n 1, 1) := by decide +kernel
theorem dX7_unexplained_2 : decode cX7_unexplained 2 = .ok (.iconst 0, 1) := by decide +kernel
theorem dX7_unexplained_3 : decode cX7_unexplained 3 = .ok (.istore_n 2, 1) := by decide +kernel
theorem dX7_unexplained_4 : decode cX7_unexplained 4 = .ok (.iload_n 2, 1) := by decide +kernel
theorem dX7_unexplained_5 : decode cX7_unexplained 5 = .ok (.bipush 12, 2) := by decide +kernel
theorem dX7_unexplained_7 : decode cX7_unexplained 7 = .ok (.if_icmp .ge 47, 3) := by decide +kernel
theorem dX7_unexplained_10 : decode cX7_unexplained 10 = .ok (.iload_n 1, 1) := by decide +kernel
theorem dX7_unexplained_11 : decode cX7_unexplained 11 = .ok (.aload_n 0, 1) := by decide +kernel
theorem dX7_unexplained_12 : decode cX7_unexplained 12 = .ok (.getfield 19, 3) := by decide +kernel
theorem dX7_unexplained_15 : decode cX7_unexplained 15 = .ok (.iload_n 2, 1) := by decide +kernel
theorem dX7_unexplained_16 : decode cX7_unexplained 16 = .ok (.iaload, 1) := by decide +kernel
theorem dX7_unexplained_17 : decode cX7_unexplained 17 = .ok (.iconst 1, 1) := by decide +kernel
theorem dX7_unexplained_18 : decode cX7_unexplained 18 = .ok (.if_icmp .ne 27, 3) := by decide +kernel
theorem dX7_unexplained_21 : decode cX7_unexplained 21 = .ok (.aload_n 0, 1) := by decide +kernel
theorem dX7_unexplained_22 : decode cX7_unexplained 22 = .ok (.iload_n 2, 1) := by decide +kernel
theorem dX7_unexplained_23 : decode cX7_unexplained 23 = .ok (.sipush 1023, 3) := by decide +kernel
theorem dX7_unexplained_26 : decode cX7_unexplained 26 = .ok (.aload_n 0, 1) := by decide +kernel
theorem dX7_unexplained_27 : decode cX7_unexplained 27 = .ok (.invokevirtual 102, 3) := by decide +kernel
theorem dX7_unexplained_30 : decode cX7_unexplained 30 = .ok (.iconst (-1), 1) := by decide +kernel
theorem dX7_unexplained_31 : decode cX7_unexplained 31 = .ok (.ixor, 1) := by decide +kernel
theorem dX7_unexplained_32 : decode cX7_unexplained 32 = .ok (.iand, 1) := by decide +kernel
theorem dX7_unexplained_33 : decode cX7_unexplained 33 = .ok (.invokevirtual 93, 3) := by decide +kernel
theorem dX7_unexplained_36 : decode cX7_unexplained 36 = .ok (.ifCond .ne 9, 3) := by decide +kernel
theorem dX7_unexplained_39 : decode cX7_unexplained 39 = .ok (.iconst 1, 1) := by decide +kernel
theorem dX7_unexplained_40 : decode cX7_unexplained 40 = .ok (.iload_n 2, 1) := by decide +kernel
theorem dX7_unexplained_41 : decode cX7_unexplained 41 = .ok (.ishl, 1) := by decide +kernel
theorem dX7_unexplained_42 : decode cX7_unexplained 42 = .ok (.goto 4, 3) := by decide +kernel
theorem dX7_unexplained_45 : decode cX7_unexplained 45 = .ok (.iconst 0, 1) := by decide +kernel
theorem dX7_unexplained_46 : decode cX7_unexplained 46 = .ok (.ior, 1) := by decide +kernel
theorem dX7_unexplained_47 : decode cX7_unexplained 47 = .ok (.istore_n 1, 1) := by decide +kernel
theorem dX7_unexplained_48 : decode cX7_unexplained 48 = .ok (.iinc 2 1, 3) := by decide +kernel
theorem dX7_unexplained_51 : decode cX7_unexplained 51 = .ok (.goto (-47), 3) := by decide +kernel
theorem dX7_unexplained_54 : decode cX7_unexplained 54 = .ok (.iload_n 1, 1) := by decide +kernel
theorem dX7_unexplained_55 : decode cX7_unexplained 55 = .ok (.ireturn, 1) := by decide +kernel
theorem dX7_ofCause_0 : decode cX7_ofCause 0 = .ok (.iload_n 1, 1) := by decide +kernel
theorem dX7_ofCause_1 : decode cX7_ofCause 1 = .ok (.invokestatic 55, 3) := by decide +kernel
theorem dX7_ofCause_4 : decode cX7_ofCause 4 = .ok (.ifCond .ne 5, 3) := by decide +kernel
theorem dX7_ofCause_7 : decode cX7_ofCause 7 = .ok (.iconst (-1), 1) := by decide +kernel
theorem dX7_ofCause_8 : decode cX7_ofCause 8 = .ok (.ireturn, 1) := by decide +kernel
theorem dX7_ofCause_9 : decode cX7_ofCause 9 = .ok (.iconst 0, 1) := by decide +kernel
theorem dX7_ofCause_10 : decode cX7_ofCause 10 = .ok (.istore_n 3, 1) := by decide +kernel
theorem dX7_ofCause_11 : decode cX7_ofCause 11 = .ok (.iconst 0, 1) := by decide +kernel
theorem dX7_ofCause_12 : decode cX7_ofCause 12 = .ok (.istore 4, 2) := by decide +kernel
theorem dX7_ofCause_14 : decode cX7_ofCause 14 = .ok (.iconst 0, 1) := by decide +kernel
theorem dX7_ofCause_15 : decode cX7_ofCause 15 = .ok (.istore 5, 2) := by decide +kernel
theorem dX7_ofCause_17 : decode cX7_ofCause 17 = .ok (.iload 5, 2) := by decide +kernel
theorem dX7_ofCause_19 : decode cX7_ofCause 19 = .ok (.bipush 12, 2) := by decide +kernel
theorem dX7_ofCause_21 : decode cX7_ofCause 21 = .ok (.if_icmp .ge 54, 3) := by decide +kernel
theorem dX7_ofCause_24 : decode cX7_ofCause 24 = .ok (.iload_n 3, 1) := by decide +kernel
theorem dX7_ofCause_25 : decode cX7_ofCause 25 = .ok (.aload_n 0, 1) := by decide +kernel
theorem dX7_ofCause_26 : decode cX7_ofCause 26 = .ok (.iload 5, 2) := by decide +kernel
theorem dX7_ofCause_28 : decode cX7_ofCause 28 = .ok (.iload_n 1, 1) := by decide +kernel
theorem dX7_ofCause_29 : decode cX7_ofCause 29 = .ok (.invokevirtual 66, 3) := by decide +kernel
theorem dX7_ofCause_32 : decode cX7_ofCause 32 = .ok (.ifCond .le 10, 3) := by decide +kernel
theorem dX7_ofCause_35 : decode cX7_ofCause 35 = .ok (.iconst 1, 1) := by decide +kernel
theorem dX7_ofCause_36 : decode cX7_ofCause 36 = .ok (.iload 5, 2) := by decide +kernel
theorem dX7_ofCause_38 : decode cX7_ofCause 38 = .ok (.ishl, 1) := by decide +kernel
theorem dX7_ofCause_39 : decode cX7_ofCause 39 = .ok (.goto 4, 3) := by decide +kernel
theorem dX7_ofCause_42 : decode cX7_ofCause 42 = .ok (.iconst 0, 1) := by decide +kernel
theorem dX7_ofCause_43 : decode cX7_ofCause 43 = .ok (.ior, 1) := by decide +kernel
theorem dX7_ofCause_44 : decode cX7_ofCause 44 = .ok (.istore_n 3, 1) := by decide +kernel
theorem dX7_ofCause_45 : decode cX7_ofCause 45 = .ok (.iload 4, 2) := by decide +kernel
theorem dX7_ofCause_47 : decode cX7_ofCause 47 = .ok (.aload_n 0, 1) := by decide +kernel
theorem dX7_ofCause_48 : decode cX7_ofCause 48 = .ok (.iload 5, 2) := by decide +kernel
theorem dX7_ofCause_50 : decode cX7_ofCause 50 = .ok (.iload_n 1, 1) := by decide +kernel
theorem dX7_ofCause_51 : decode cX7_ofCause 51 = .ok (.invokevirtual 66, 3) := by decide +kernel
theorem dX7_ofCause_54 : decode cX7_ofCause 54 = .ok (.iconst 2, 1) := by decide +kernel
theorem dX7_ofCause_55 : decode cX7_ofCause 55 = .ok (.if_icmp .ne 10, 3) := by decide +kernel
theorem dX7_ofCause_58 : decode cX7_ofCause 58 = .ok (.iconst 1, 1) := by decide +kernel
theorem dX7_ofCause_59 : decode cX7_ofCause 59 = .ok (.iload 5, 2) := by decide +kernel
theorem dX7_ofCause_61 : decode cX7_ofCause 61 = .ok (.ishl, 1) := by decide +kernel
theorem dX7_ofCause_62 : decode cX7_ofCause 62 = .ok (.goto 4, 3) := by decide +kernel
theorem dX7_ofCause_65 : decode cX7_ofCause 65 = .ok (.iconst 0, 1) := by decide +kernel
theorem dX7_ofCause_66 : decode cX7_ofCause 66 = .ok (.ior, 1) := by decide +kernel
theorem dX7_ofCause_67 : decode cX7_ofCause 67 = .ok (.istore 4, 2) := by decide +kernel
theorem dX7_ofCause_69 : decode cX7_ofCause 69 = .ok (.iinc 5 1, 3) := by decide +kernel
theorem dX7_ofCause_72 : decode cX7_ofCause 72 = .ok (.goto (-55), 3) := by decide +kernel
theorem dX7_ofCause_75 : decode cX7_ofCause 75 = .ok (.aload_n 0, 1) := by decide +kernel
theorem dX7_ofCause_76 : decode cX7_ofCause 76 = .ok (.invokevirtual 78, 3) := by decide +kernel
theorem dX7_ofCause_79 : decode cX7_ofCause 79 = .ok (.pop, 1) := by decide +kernel
theorem dX7_ofCause_80 : decode cX7_ofCause 80 = .ok (.iconst 0, 1) := by decide +kernel
theorem dX7_ofCause_81 : decode cX7_ofCause 81 = .ok (.istore 5, 2) := by decide +kernel
theorem dX7_ofCause_83 : decode cX7_ofCause 83 = .ok (.iconst 0, 1) := by decide +kernel
theorem dX7_ofCause_84 : decode cX7_ofCause 84 = .ok (.istore 6, 2) := by decide +kernel
theorem dX7_ofCause_86 : decode cX7_ofCause 86 = .ok (.iload 6, 2) := by decide +kernel
theorem dX7_ofCause_88 : decode cX7_ofCause 88 = .ok (.aload_n 0, 1) := by decide +kernel
theorem dX7_ofCause_89 : decode cX7_ofCause 89 = .ok (.getfield 99, 3) := by decide +kernel
theorem dX7_ofCause_92 : decode cX7_ofCause 92 = .ok (.if_icmp .ge 33, 3) := by decide +kernel
theorem dX7_ofCause_95 : decode cX7_ofCause 95 = .ok (.iload 5, 2) := by decide +kernel
theorem dX7_ofCause_97 : decode cX7_ofCause 97 = .ok (.aload_n 0, 1) := by decide +kernel
theorem dX7_ofCause_98 : decode cX7_ofCause 98 = .ok (.getfield 28, 3) := by decide +kernel
theorem dX7_ofCause_101 : decode cX7_ofCause 101 = .ok (.iload 6, 2) := by decide +kernel
theorem dX7_ofCause_103 : decode cX7_ofCause 103 = .ok (.iaload, 1) := by decide +kernel
theorem dX7_ofCause_104 : decode cX7_ofCause 104 = .ok (.iload_n 1, 1) := by decide +kernel
theorem dX7_ofCause_105 : decode cX7_ofCause 105 = .ok (.invokestatic 86, 3) := by decide +kernel
theorem dX7_ofCause_108 : decode cX7_ofCause 108 = .ok (.ifCond .eq 7, 3) := by decide +kernel
theorem dX7_ofCause_111 : decode cX7_ofCause 111 = .ok (.iconst 1, 1) := by decide +kernel
theorem dX7_ofCause_112 : decode cX7_ofCause 112 = .ok (.goto 4, 3) := by decide +kernel
theorem dX7_ofCause_115 : decode cX7_ofCause 115 = .ok (.iconst 0, 1) := by decide +kernel
theorem dX7_ofCause_116 : decode cX7_ofCause 116 = .ok (.iadd, 1) := by decide +kernel
theorem dX7_ofCause_117 : decode cX7_ofCause 117 = .ok (.istore 5, 2) := by decide +kernel
theorem dX7_ofCause_119 : decode cX7_ofCause 119 = .ok (.iinc 6 1, 3) := by decide +kernel
theorem dX7_ofCause_122 : decode cX7_ofCause 122 = .ok (.goto (-36), 3) := by decide +kernel
theorem dX7_ofCause_125 : decode cX7_ofCause 125 = .ok (.iload_n 2, 1) := by decide +kernel
theorem dX7_ofCause_126 : decode cX7_ofCause 126 = .ok (.tableswitch 74 0 5 #[38, 45, 52, 54, 57, 71], 38) := by decide +kernel
theorem dX7_ofCause_164 : decode cX7_ofCause 164 = .ok (.aload_n 0, 1) := by decide +kernel
theorem dX7_ofCause_165 : decode cX7_ofCause 165 = .ok (.getfield 7, 3) := by decide +kernel
theorem dX7_ofCause_168 : decode cX7_ofCause 168 = .ok (.iload_n 1, 1) := by decide +kernel
theorem dX7_ofCause_169 : decode cX7_ofCause 169 = .ok (.iaload, 1) := by decide +kernel
theorem dX7_ofCause_170 : decode cX7_ofCause 170 = .ok (.ireturn, 1) := by decide +kernel
theorem dX7_ofCause_171 : decode cX7_ofCause 171 = .ok (.aload_n 0, 1) := by decide +kernel
theorem dX7_ofCause_172 : decode cX7_ofCause 172 = .ok (.getfield 13, 3) := by decide +kernel
theorem dX7_ofCause_175 : decode cX7_ofCause 175 = .ok (.iload_n 1, 1) := by decide +kernel
theorem dX7_ofCause_176 : decode cX7_ofCause 176 = .ok (.iaload, 1) := by decide +kernel
theorem dX7_ofCause_177 : decode cX7_ofCause 177 = .ok (.ireturn, 1) := by decide +kernel
theorem dX7_ofCause_178 : decode cX7_ofCause 178 = .ok (.iload_n 3, 1) := by decide +kernel
theorem dX7_ofCause_179 : decode cX7_ofCause 179 = .ok (.ireturn, 1) := by decide +kernel
theorem dX7_ofCause_180 : decode cX7_ofCause 180 = .ok (.iload 4, 2) := by decide +kernel
theorem dX7_ofCause_182 : decode cX7_ofCause 182 = .ok (.ireturn, 1) := by decide +kernel
theorem dX7_ofCause_183 : decode cX7_ofCause 183 = .ok (.aload_n 0, 1) := by decide +kernel
theorem dX7_ofCause_184 : decode cX7_ofCause 184 = .ok (.iload_n 1, 1) := by decide +kernel
theorem dX7_ofCause_185 : decode cX7_ofCause 185 = .ok (.invokevirtual 90, 3) := by decide +kernel
theorem dX7_ofCause_188 : decode cX7_ofCause 188 = .ok (.ifCond .eq 7, 3) := by decide +kernel
theorem dX7_ofCause_191 : decode cX7_ofCause 191 = .ok (.iconst 1, 1) := by decide +kernel
theorem dX7_ofCause_192 : decode cX7_ofCause 192 = .ok (.goto 4, 3) := by decide +kernel
theorem dX7_ofCause_195 : decode cX7_ofCause 195 = .ok (.iconst 0, 1) := by decide +kernel
theorem dX7_ofCause_196 : decode cX7_ofCause 196 = .ok (.ireturn, 1) := by decide +kernel
theorem dX7_ofCause_197 : decode cX7_ofCause 197 = .ok (.iload 5, 2) := by decide +kernel
theorem dX7_ofCause_199 : decode cX7_ofCause 199 = .ok (.ireturn, 1) := by decide +kernel
theorem dX7_ofCause_200 : decode cX7_ofCause 200 = .ok (.bipush (-2), 2) := by decide +kernel
theorem dX7_ofCause_202 : decode cX7_ofCause 202 = .ok (.ireturn, 1) := by decide +kernel
theorem dX7_foretold_0 : decode cX7_foretold 0 = .ok (.aload_n 0, 1) := by decide +kernel
theorem dX7_foretold_1 : decode cX7_foretold 1 = .ok (.iload_n 2, 1) := by decide +kernel
theorem dX7_foretold_2 : decode cX7_foretold 2 = .ok (.aload_n 0, 1) := by decide +kernel
theorem dX7_foretold_3 : decode cX7_foretold 3 = .ok (.getfield 28, 3) := by decide +kernel
theorem dX7_foretold_6 : decode cX7_foretold 6 = .ok (.iload_n 1, 1) := by decide +kernel
theorem dX7_foretold_7 : decode cX7_foretold 7 = .ok (.iaload, 1) := by decide +kernel
theorem dX7_foretold_8 : decode cX7_foretold 8 = .ok (.invokevirtual 132, 3) := by decide +kernel
theorem dX7_foretold_11 : decode cX7_foretold 11 = .ok (.ifCond .eq 7, 3) := by decide +kernel
theorem dX7_foretold_14 : decode cX7_foretold 14 = .ok (.iconst 0, 1) := by decide +kernel
theorem dX7_foretold_15 : decode cX7_foretold 15 = .ok (.goto 22, 3) := by decide +kernel
theorem dX7_foretold_18 : decode cX7_foretold 18 = .ok (.aload_n 0, 1) := by decide +kernel
theorem dX7_foretold_19 : decode cX7_foretold 19 = .ok (.iload_n 2, 1) := by decide +kernel
theorem dX7_foretold_20 : decode cX7_foretold 20 = .ok (.aload_n 0, 1) := by decide +kernel
theorem dX7_foretold_21 : decode cX7_foretold 21 = .ok (.getfield 28, 3) := by decide +kernel
theorem dX7_foretold_24 : decode cX7_foretold 24 = .ok (.iload_n 1, 1) := by decide +kernel
theorem dX7_foretold_25 : decode cX7_foretold 25 = .ok (.iaload, 1) := by decide +kernel
theorem dX7_foretold_26 : decode cX7_foretold 26 = .ok (.invokevirtual 93, 3) := by decide +kernel
theorem dX7_foretold_29 : decode cX7_foretold 29 = .ok (.ifCond .eq 7, 3) := by decide +kernel
theorem dX7_foretold_32 : decode cX7_foretold 32 = .ok (.iconst 2, 1) := by decide +kernel
theorem dX7_foretold_33 : decode cX7_foretold 33 = .ok (.goto 4, 3) := by decide +kernel
theorem dX7_foretold_36 : decode cX7_foretold 36 = .ok (.iconst 1, 1) := by decide +kernel
theorem dX7_foretold_37 : decode cX7_foretold 37 = .ok (.ireturn, 1) := by decide +kernel
theorem dX7_manyForetell_0 : decode cX7_manyForetell 0 = .ok (.aload_n 0, 1) := by decide +kernel
theorem dX7_manyForetell_1 : decode cX7_manyForetell 1 = .ok (.invokevirtual 78, 3) := by decide +kernel
theorem dX7_manyForetell_4 : decode cX7_manyForetell 4 = .ok (.pop, 1) := by decide +kernel
theorem dX7_manyForetell_5 : decode cX7_manyForetell 5 = .ok (.iconst 0, 1) := by decide +kernel
theorem dX7_manyForetell_6 : decode cX7_manyForetell 6 = .ok (.istore_n 3, 1) := by decide +kernel
theorem dX7_manyForetell_7 : decode cX7_manyForetell 7 = .ok (.iconst 0, 1) := by decide +kernel
theorem dX7_manyForetell_8 : decode cX7_manyForetell 8 = .ok (.istore 4, 2) := by decide +kernel
theorem dX7_manyForetell_10 : decode cX7_manyForetell 10 = .ok (.iload 4, 2) := by decide +kernel
theorem dX7_manyForetell_12 : decode cX7_manyForetell 12 = .ok (.aload_n 0, 1) := by decide +kernel
theorem dX7_manyForetell_13 : decode cX7_manyForetell 13 = .ok (.getfield 99, 3) := by decide +kernel
theorem dX7_manyForetell_16 : decode cX7_manyForetell 16 = .ok (.if_icmp .ge 28, 3) := by decide +kernel
theorem dX7_manyForetell_19 : decode cX7_manyForetell 19 = .ok (.iload_n 3, 1) := by decide +kernel
theorem dX7_manyForetell_20 : decode cX7_manyForetell 20 = .ok (.aload_n 0, 1) := by decide +kernel
theorem dX7_manyForetell_21 : decode cX7_manyForetell 21 = .ok (.iload 4, 2) := by decide +kernel
theorem dX7_manyForetell_23 : decode cX7_manyForetell 23 = .ok (.iload_n 1, 1) := by decide +kernel
theorem dX7_manyForetell_24 : decode cX7_manyForetell 24 = .ok (.invokevirtual 135, 3) := by decide +kernel
theorem dX7_manyForetell_27 : decode cX7_manyForetell 27 = .ok (.iload_n 2, 1) := by decide +kernel
theorem dX7_manyForetell_28 : decode cX7_manyForetell 28 = .ok (.if_icmp .ne 7, 3) := by decide +kernel
theorem dX7_manyForetell_31 : decode cX7_manyForetell 31 = .ok (.iconst 1, 1) := by decide +kernel
theorem dX7_manyForetell_32 : decode cX7_manyForetell 32 = .ok (.goto 4, 3) := by decide +kernel
theorem dX7_manyForetell_35 : decode cX7_manyForetell 35 = .ok (.iconst 0, 1) := by decide +kernel
theorem dX7_manyForetell_36 : decode cX7_manyForetell 36 = .ok (.iadd, 1) := by decide +kernel
