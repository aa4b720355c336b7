theorem dX7_manyForetell_37 : decode cX7_manyForetell 37 = .ok (.istore_n 3, 1) := by decide +kernel
theorem dX7_manyForetell_38 : decode cX7_manyForetell 38 = .ok (.iinc 4 1, 3) := by decide +kernel
theorem dX7_manyForetell_41 : decode cX7_manyForetell 41 = .ok (.goto (-31), 3) := by decide +kernel
theorem dX7_manyForetell_44 : decode cX7_manyForetell 44 = .ok (.iload_n 3, 1) := by decide +kernel
theorem dX7_manyForetell_45 : decode cX7_manyForetell 45 = .ok (.ireturn, 1) := by decide +kernel
theorem dX7_ofFinding_0 : decode cX7_ofFinding 0 = .ok (.iload_n 1, 1) := by decide +kernel
theorem dX7_ofFinding_1 : decode cX7_ofFinding 1 = .ok (.invokestatic 63, 3) := by decide +kernel
theorem dX7_ofFinding_4 : decode cX7_ofFinding 4 = .ok (.ifCond .ne 5, 3) := by decide +kernel
theorem dX7_ofFinding_7 : decode cX7_ofFinding 7 = .ok (.iconst (-1), 1) := by decide +kernel
theorem dX7_ofFinding_8 : decode cX7_ofFinding 8 = .ok (.ireturn, 1) := by decide +kernel
theorem dX7_ofFinding_9 : decode cX7_ofFinding 9 = .ok (.iconst 0, 1) := by decide +kernel
theorem dX7_ofFinding_10 : decode cX7_ofFinding 10 = .ok (.istore_n 3, 1) := by decide +kernel
theorem dX7_ofFinding_11 : decode cX7_ofFinding 11 = .ok (.iconst 0, 1) := by decide +kernel
theorem dX7_ofFinding_12 : decode cX7_ofFinding 12 = .ok (.istore 4, 2) := by decide +kernel
theorem dX7_ofFinding_14 : decode cX7_ofFinding 14 = .ok (.iconst 0, 1) := by decide +kernel
theorem dX7_ofFinding_15 : decode cX7_ofFinding 15 = .ok (.istore 5, 2) := by decide +kernel
theorem dX7_ofFinding_17 : decode cX7_ofFinding 17 = .ok (.iload 5, 2) := by decide +kernel
theorem dX7_ofFinding_19 : decode cX7_ofFinding 19 = .ok (.bipush 10, 2) := by decide +kernel
theorem dX7_ofFinding_21 : decode cX7_ofFinding 21 = .ok (.if_icmp .ge 54, 3) := by decide +kernel
theorem dX7_ofFinding_24 : decode cX7_ofFinding 24 = .ok (.iload_n 3, 1) := by decide +kernel
theorem dX7_ofFinding_25 : decode cX7_ofFinding 25 = .ok (.aload_n 0, 1) := by decide +kernel
theorem dX7_ofFinding_26 : decode cX7_ofFinding 26 = .ok (.iload_n 1, 1) := by decide +kernel
theorem dX7_ofFinding_27 : decode cX7_ofFinding 27 = .ok (.iload 5, 2) := by decide +kernel
theorem dX7_ofFinding_29 : decode cX7_ofFinding 29 = .ok (.invokevirtual 66, 3) := by decide +kernel
theorem dX7_ofFinding_32 : decode cX7_ofFinding 32 = .ok (.ifCond .le 10, 3) := by decide +kernel
theorem dX7_ofFinding_35 : decode cX7_ofFinding 35 = .ok (.iconst 1, 1) := by decide +kernel
theorem dX7_ofFinding_36 : decode cX7_ofFinding 36 = .ok (.iload 5, 2) := by decide +kernel
theorem dX7_ofFinding_38 : decode cX7_ofFinding 38 = .ok (.ishl, 1) := by decide +kernel
theorem dX7_ofFinding_39 : decode cX7_ofFinding 39 = .ok (.goto 4, 3) := by decide +kernel
theorem dX7_ofFinding_42 : decode cX7_ofFinding 42 = .ok (.iconst 0, 1) := by decide +kernel
theorem dX7_ofFinding_43 : decode cX7_ofFinding 43 = .ok (.ior, 1) := by decide +kernel
theorem dX7_ofFinding_44 : decode cX7_ofFinding 44 = .ok (.istore_n 3, 1) := by decide +kernel
theorem dX7_ofFinding_45 : decode cX7_ofFinding 45 = .ok (.iload 4, 2) := by decide +kernel
theorem dX7_ofFinding_47 : decode cX7_ofFinding 47 = .ok (.aload_n 0, 1) := by decide +kernel
theorem dX7_ofFinding_48 : decode cX7_ofFinding 48 = .ok (.iload_n 1, 1) := by decide +kernel
theorem dX7_ofFinding_49 : decode cX7_ofFinding 49 = .ok (.iload 5, 2) := by decide +kernel
theorem dX7_ofFinding_51 : decode cX7_ofFinding 51 = .ok (.invokevirtual 66, 3) := by decide +kernel
theorem dX7_ofFinding_54 : decode cX7_ofFinding 54 = .ok (.iconst 2, 1) := by decide +kernel
theorem dX7_ofFinding_55 : decode cX7_ofFinding 55 = .ok (.if_icmp .ne 10, 3) := by decide +kernel
theorem dX7_ofFinding_58 : decode cX7_ofFinding 58 = .ok (.iconst 1, 1) := by decide +kernel
theorem dX7_ofFinding_59 : decode cX7_ofFinding 59 = .ok (.iload 5, 2) := by decide +kernel
theorem dX7_ofFinding_61 : decode cX7_ofFinding 61 = .ok (.ishl, 1) := by decide +kernel
theorem dX7_ofFinding_62 : decode cX7_ofFinding 62 = .ok (.goto 4, 3) := by decide +kernel
theorem dX7_ofFinding_65 : decode cX7_ofFinding 65 = .ok (.iconst 0, 1) := by decide +kernel
theorem dX7_ofFinding_66 : decode cX7_ofFinding 66 = .ok (.ior, 1) := by decide +kernel
theorem dX7_ofFinding_67 : decode cX7_ofFinding 67 = .ok (.istore 4, 2) := by decide +kernel
theorem dX7_ofFinding_69 : decode cX7_ofFinding 69 = .ok (.iinc 5 1, 3) := by decide +kernel
theorem dX7_ofFinding_72 : decode cX7_ofFinding 72 = .ok (.goto (-55), 3) := by decide +kernel
theorem dX7_ofFinding_75 : decode cX7_ofFinding 75 = .ok (.iload_n 2, 1) := by decide +kernel
theorem dX7_ofFinding_76 : decode cX7_ofFinding 76 = .ok (.tableswitch 57 0 4 #[36, 43, 45, 48, 48], 36) := by decide +kernel
theorem dX7_ofFinding_112 : decode cX7_ofFinding 112 = .ok (.aload_n 0, 1) := by decide +kernel
theorem dX7_ofFinding_113 : decode cX7_ofFinding 113 = .ok (.getfield 19, 3) := by decide +kernel
theorem dX7_ofFinding_116 : decode cX7_ofFinding 116 = .ok (.iload_n 1, 1) := by decide +kernel
theorem dX7_ofFinding_117 : decode cX7_ofFinding 117 = .ok (.iaload, 1) := by decide +kernel
theorem dX7_ofFinding_118 : decode cX7_ofFinding 118 = .ok (.ireturn, 1) := by decide +kernel
theorem dX7_ofFinding_119 : decode cX7_ofFinding 119 = .ok (.iload_n 3, 1) := by decide +kernel
theorem dX7_ofFinding_120 : decode cX7_ofFinding 120 = .ok (.ireturn, 1) := by decide +kernel
theorem dX7_ofFinding_121 : decode cX7_ofFinding 121 = .ok (.iload 4, 2) := by decide +kernel
theorem dX7_ofFinding_123 : decode cX7_ofFinding 123 = .ok (.ireturn, 1) := by decide +kernel
theorem dX7_ofFinding_124 : decode cX7_ofFinding 124 = .ok (.aload_n 0, 1) := by decide +kernel
theorem dX7_ofFinding_125 : decode cX7_ofFinding 125 = .ok (.iload_n 1, 1) := by decide +kernel
theorem dX7_ofFinding_126 : decode cX7_ofFinding 126 = .ok (.iload_n 2, 1) := by decide +kernel
theorem dX7_ofFinding_127 : decode cX7_ofFinding 127 = .ok (.iconst 3, 1) := by decide +kernel
theorem dX7_ofFinding_128 : decode cX7_ofFinding 128 = .ok (.isub, 1) := by decide +kernel
theorem dX7_ofFinding_129 : decode cX7_ofFinding 129 = .ok (.invokevirtual 138, 3) := by decide +kernel
theorem dX7_ofFinding_132 : decode cX7_ofFinding 132 = .ok (.ireturn, 1) := by decide +kernel
theorem dX7_ofFinding_133 : decode cX7_ofFinding 133 = .ok (.bipush (-2), 2) := by decide +kernel
theorem dX7_ofFinding_135 : decode cX7_ofFinding 135 = .ok (.ireturn, 1) := by decide +kernel
theorem dX7_weightThat_0 : decode cX7_weightThat 0 = .ok (.lconst 0, 1) := by decide +kernel
theorem dX7_weightThat_1 : decode cX7_weightThat 1 = .ok (.lstore_n 3, 1) := by decide +kernel
theorem dX7_weightThat_2 : decode cX7_weightThat 2 = .ok (.iconst 0, 1) := by decide +kernel
theorem dX7_weightThat_3 : decode cX7_weightThat 3 = .ok (.istore 5, 2) := by decide +kernel
theorem dX7_weightThat_5 : decode cX7_weightThat 5 = .ok (.iload 5, 2) := by decide +kernel
theorem dX7_weightThat_7 : decode cX7_weightThat 7 = .ok (.aload_n 0, 1) := by decide +kernel
theorem dX7_weightThat_8 : decode cX7_weightThat 8 = .ok (.getfield 99, 3) := by decide +kernel
theorem dX7_weightThat_11 : decode cX7_weightThat 11 = .ok (.if_icmp .ge 34, 3) := by decide +kernel
theorem dX7_weightThat_14 : decode cX7_weightThat 14 = .ok (.lload_n 3, 1) := by decide +kernel
theorem dX7_weightThat_15 : decode cX7_weightThat 15 = .ok (.aload_n 0, 1) := by decide +kernel
theorem dX7_weightThat_16 : decode cX7_weightThat 16 = .ok (.iload 5, 2) := by decide +kernel
theorem dX7_weightThat_18 : decode cX7_weightThat 18 = .ok (.iload_n 1, 1) := by decide +kernel
theorem dX7_weightThat_19 : decode cX7_weightThat 19 = .ok (.invokevirtual 135, 3) := by decide +kernel
theorem dX7_weightThat_22 : decode cX7_weightThat 22 = .ok (.iload_n 2, 1) := by decide +kernel
theorem dX7_weightThat_23 : decode cX7_weightThat 23 = .ok (.if_icmp .ne 13, 3) := by decide +kernel
theorem dX7_weightThat_26 : decode cX7_weightThat 26 = .ok (.aload_n 0, 1) := by decide +kernel
theorem dX7_weightThat_27 : decode cX7_weightThat 27 = .ok (.getfield 31, 3) := by decide +kernel
theorem dX7_weightThat_30 : decode cX7_weightThat 30 = .ok (.iload 5, 2) := by decide +kernel
theorem dX7_weightThat_32 : decode cX7_weightThat 32 = .ok (.laload, 1) := by decide +kernel
theorem dX7_weightThat_33 : decode cX7_weightThat 33 = .ok (.goto 4, 3) := by decide +kernel
theorem dX7_weightThat_36 : decode cX7_weightThat 36 = .ok (.lconst 0, 1) := by decide +kernel
theorem dX7_weightThat_37 : decode cX7_weightThat 37 = .ok (.ladd, 1) := by decide +kernel
theorem dX7_weightThat_38 : decode cX7_weightThat 38 = .ok (.lstore_n 3, 1) := by decide +kernel
theorem dX7_weightThat_39 : decode cX7_weightThat 39 = .ok (.iinc 5 1, 3) := by decide +kernel
theorem dX7_weightThat_42 : decode cX7_weightThat 42 = .ok (.goto (-37), 3) := by decide +kernel
theorem dX7_weightThat_45 : decode cX7_weightThat 45 = .ok (.lload_n 3, 1) := by decide +kernel
theorem dX7_weightThat_46 : decode cX7_weightThat 46 = .ok (.lreturn, 1) := by decide +kernel
theorem dX7_leftIf_0 : decode cX7_leftIf 0 = .ok (.aload_n 0, 1) := by decide +kernel
theorem dX7_leftIf_1 : decode cX7_leftIf 1 = .ok (.iload_n 1, 1) := by decide +kernel
theorem dX7_leftIf_2 : decode cX7_leftIf 2 = .ok (.iload_n 2, 1) := by decide +kernel
theorem dX7_leftIf_3 : decode cX7_leftIf 3 = .ok (.ifCond .eq 7, 3) := by decide +kernel
theorem dX7_leftIf_6 : decode cX7_leftIf 6 = .ok (.iconst 0, 1) := by decide +kernel
theorem dX7_leftIf_7 : decode cX7_leftIf 7 = .ok (.goto 4, 3) := by decide +kernel
theorem dX7_leftIf_10 : decode cX7_leftIf 10 = .ok (.iconst 1, 1) := by decide +kernel
theorem dX7_leftIf_11 : decode cX7_leftIf 11 = .ok (.invokevirtual 141, 3) := by decide +kernel
theorem dX7_leftIf_14 : decode cX7_leftIf 14 = .ok (.aload_n 0, 1) := by decide +kernel
theorem dX7_leftIf_15 : decode cX7_leftIf 15 = .ok (.iload_n 1, 1) := by decide +kernel
theorem dX7_leftIf_16 : decode cX7_leftIf 16 = .ok (.iconst 2, 1) := by decide +kernel
theorem dX7_leftIf_17 : decode cX7_leftIf 17 = .ok (.invokevirtual 141, 3) := by decide +kernel
theorem dX7_leftIf_20 : decode cX7_leftIf 20 = .ok (.ladd, 1) := by decide +kernel
theorem dX7_leftIf_21 : decode cX7_leftIf 21 = .ok (.lreturn, 1) := by decide +kernel
theorem dX7_worst_0 : decode cX7_worst 0 = .ok (.aload_n 0, 1) := by decide +kernel
theorem dX7_worst_1 : decode cX7_worst 1 = .ok (.iload_n 1, 1) := by decide +kernel
theorem dX7_worst_2 : decode cX7_worst 2 = .ok (.iconst 1, 1) := by decide +kernel
theorem dX7_worst_3 : decode cX7_worst 3 = .ok (.invokevirtual 144, 3) := by decide +kernel
theorem dX7_worst_6 : decode cX7_worst 6 = .ok (.lstore_n 2, 1) := by decide +kernel
theorem dX7_worst_7 : decode cX7_worst 7 = .ok (.aload_n 0, 1) := by decide +kernel
theorem dX7_worst_8 : decode cX7_worst 8 = .ok (.iload_n 1, 1) := by decide +kernel
theorem dX7_worst_9 : decode cX7_worst 9 = .ok (.iconst 0, 1) := by decide +kernel
theorem dX7_worst_10 : decode cX7_worst 10 = .ok (.invokevirtual 144, 3) := by decide +kernel
theorem dX7_worst_13 : decode cX7_worst 13 = .ok (.lstore 4, 2) := by decide +kernel
theorem dX7_worst_15 : decode cX7_worst 15 = .ok (.lload_n 2, 1) := by decide +kernel
theorem dX7_worst_16 : decode cX7_worst 16 = .ok (.lload 4, 2) := by decide +kernel
theorem dX7_worst_18 : decode cX7_worst 18 = .ok (.lcmp, 1) := by decide +kernel
theorem dX7_worst_19 : decode cX7_worst 19 = .ok (.ifCond .le 7, 3) := by decide +kernel
theorem dX7_worst_22 : decode cX7_worst 22 = .ok (.lload_n 2, 1) := by decide +kernel
theorem dX7_worst_23 : decode cX7_worst 23 = .ok (.goto 5, 3) := by decide +kernel
theorem dX7_worst_26 : decode cX7_worst 26 = .ok (.lload 4, 2) := by decide +kernel
theorem dX7_worst_28 : decode cX7_worst 28 = .ok (.lreturn, 1) := by decide +kernel
theorem dX7_split_0 : decode cX7_split 0 = .ok (.iload_n 1, 1) := by decide +kernel
theorem dX7_split_1 : decode cX7_split 1 = .ok (.invokestatic 63, 3) := by decide +kernel
theorem dX7_split_4 : decode cX7_split 4 = .ok (.ifCond .eq 21, 3) := by decide +kernel
theorem dX7_split_7 : decode cX7_split 7 = .ok (.iload_n 2, 1) := by decide +kernel
theorem dX7_split_8 : decode cX7_split 8 = .ok (.iconst 0, 1) := by decide +kernel
theorem dX7_split_9 : decode cX7_split 9 = .ok (.iconst 3, 1) := by decide +kernel
theorem dX7_split_10 : decode cX7_split 10 = .ok (.invokestatic 51, 3) := by decide +kernel
theorem dX7_split_13 : decode cX7_split 13 = .ok (.ifCond .eq 12, 3) := by decide +kernel
theorem dX7_split_16 : decode cX7_split 16 = .ok (.aload_n 0, 1) := by decide +kernel
theorem dX7_split_17 : decode cX7_split 17 = .ok (.getfield 19, 3) := by decide +kernel
theorem dX7_split_20 : decode cX7_split 20 = .ok (.iload_n 1, 1) := by decide +kernel
theorem dX7_split_21 : decode cX7_split 21 = .ok (.iaload, 1) := by decide +kernel
theorem dX7_split_22 : decode cX7_split 22 = .ok (.ifCond .eq 7, 3) := by decide +kernel
theorem dX7_split_25 : decode cX7_split 25 = .ok (.ldc2_w 122, 3) := by decide +kernel
theorem dX7_split_28 : decode cX7_split 28 = .ok (.lreturn, 1) := by decide +kernel
theorem dX7_split_29 : decode cX7_split 29 = .ok (.aload_n 0, 1) := by decide +kernel
theorem dX7_split_30 : decode cX7_split 30 = .ok (.invokevirtual 78, 3) := by decide +kernel
theorem dX7_split_33 : decode cX7_split 33 = .ok (.pop, 1) := by decide +kernel
theorem dX7_split_34 : decode cX7_split 34 = .ok (.iload_n 2, 1) := by decide +kernel
theorem dX7_split_35 : decode cX7_split 35 = .ok (.iconst 3, 1) := by decide +kernel
theorem dX7_split_36 : decode cX7_split 36 = .ok (.if_icmp .ne 11, 3) := by decide +kernel
theorem dX7_split_39 : decode cX7_split 39 = .ok (.aload_n 0, 1) := by decide +kernel
theorem dX7_split_40 : decode cX7_split 40 = .ok (.iload_n 1, 1) := by decide +kernel
theorem dX7_split_41 : decode cX7_split 41 = .ok (.invokevirtual 148, 3) := by decide +kernel
theorem dX7_split_44 : decode cX7_split 44 = .ok (.goto 9, 3) := by decide +kernel
theorem dX7_split_47 : decode cX7_split 47 = .ok (.aload_n 0, 1) := by decide +kernel
theorem dX7_split_48 : decode cX7_split 48 = .ok (.iload_n 1, 1) := by decide +kernel
theorem dX7_split_49 : decode cX7_split 49 = .ok (.iload_n 2, 1) := by decide +kernel
theorem dX7_split_50 : decode cX7_split 50 = .ok (.invokevirtual 141, 3) := by decide +kernel
theorem dX7_split_53 : decode cX7_split 53 = .ok (.lreturn, 1) := by decide +kernel
theorem dX7_nextOf_0 : decode cX7_nextOf 0 = .ok (.aload_n 0, 1) := by decide +kernel
theorem dX7_nextOf_1 : decode cX7_nextOf 1 = .ok (.invokevirtual 78, 3) := by decide +kernel
theorem dX7_nextOf_4 : decode cX7_nextOf 4 = .ok (.iconst 2, 1) := by decide +kernel
theorem dX7_nextOf_5 : decode cX7_nextOf 5 = .ok (.if_icmp .ge 6, 3) := by decide +kernel
theorem dX7_nextOf_8 : decode cX7_nextOf 8 = .ok (.bipush (-9), 2) := by decide +kernel
theorem dX7_nextOf_10 : decode cX7_nextOf 10 = .ok (.ireturn, 1) := by decide +kernel
theorem dX7_nextOf_11 : decode cX7_nextOf 11 = .ok (.bipush (-9), 2) := by decide +kernel
theorem dX7_nextOf_13 : decode cX7_nextOf 13 = .ok (.istore_n 1, 1) := by decide +kernel
theorem dX7_nextOf_14 : decode cX7_nextOf 14 = .ok (.iconst 0, 1) := by decide +kernel
theorem dX7_nextOf_15 : decode cX7_nextOf 15 = .ok (.istore_n 2, 1) := by decide +kernel
theorem dX7_nextOf_16 : decode cX7_nextOf 16 = .ok (.iload_n 2, 1) := by decide +kernel
theorem dX7_nextOf_17 : decode cX7_nextOf 17 = .ok (.bipush 12, 2) := by decide +kernel
theorem dX7_nextOf_19 : decode cX7_nextOf 19 = .ok (.if_icmp .ge 40, 3) := by decide +kernel
theorem dX7_nextOf_22 : decode cX7_nextOf 22 = .ok (.aload_n 0, 1) := by decide +kernel
theorem dX7_nextOf_23 : decode cX7_nextOf 23 = .ok (.getfield 19, 3) := by decide +kernel
theorem dX7_nextOf_26 : decode cX7_nextOf 26 = .ok (.iload_n 2, 1) := by decide +kernel
theorem dX7_nextOf_27 : decode cX7_nextOf 27 = .ok (.iaload, 1) := by decide +kernel
theorem dX7_nextOf_28 : decode cX7_nextOf 28 = .ok (.ifCond .ne 25, 3) := by decide +kernel
theorem dX7_nextOf_31 : decode cX7_nextOf 31 = .ok (.iload_n 1, 1) := by decide +kernel
theorem dX7_nextOf_32 : decode cX7_nextOf 32 = .ok (.bipush (-9), 2) := by decide +kernel
theorem dX7_nextOf_34 : decode cX7_nextOf 34 = .ok (.if_icmp .eq 17, 3) := by decide +kernel
theorem dX7_nextOf_37 : decode cX7_nextOf 37 = .ok (.aload_n 0, 1) := by decide +kernel
theorem dX7_nextOf_38 : decode cX7_nextOf 38 = .ok (.iload_n 2, 1) := by decide +kernel
theorem dX7_nextOf_39 : decode cX7_nextOf 39 = .ok (.invokevirtual 148, 3) := by decide +kernel
theorem dX7_nextOf_42 : decode cX7_nextOf 42 = .ok (.aload_n 0, 1) := by decide +kernel
theorem dX7_nextOf_43 : decode cX7_nextOf 43 = .ok (.iload_n 1, 1) := by decide +kernel
theorem dX7_nextOf_44 : decode cX7_nextOf 44 = .ok (.invokevirtual 148, 3) := by decide +kernel
theorem dX7_nextOf_47 : decode cX7_nextOf 47 = .ok (.lcmp, 1) := by decide +kernel
theorem dX7_nextOf_48 : decode cX7_nextOf 48 = .ok (.ifCond .ge 5, 3) := by decide +kernel
theorem dX7_nextOf_51 : decode cX7_nextOf 51 = .ok (.iload_n 2, 1) := by decide +kernel
theorem dX7_nextOf_52 : decode cX7_nextOf 52 = .ok (.istore_n 1, 1) := by decide +kernel
theorem dX7_nextOf_53 : decode cX7_nextOf 53 = .ok (.iinc 2 1, 3) := by decide +kernel
theorem dX7_nextOf_56 : decode cX7_nextOf 56 = .ok (.goto (-40), 3) := by decide +kernel
theorem dX7_nextOf_59 : decode cX7_nextOf 59 = .ok (.iload_n 1, 1) := by decide +kernel
theorem dX7_nextOf_60 : decode cX7_nextOf 60 = .ok (.ireturn, 1) := by decide +kernel
theorem dX7_next_0 : decode cX7_next 0 = .ok (.aload_n 0, 1) := by decide +kernel
theorem dX7_next_1 : decode cX7_next 1 = .ok (.invokevirtual 152, 3) := by decide +kernel
theorem dX7_next_4 : decode cX7_next 4 = .ok (.ireturn, 1) := by decide +kernel
theorem dX7_would_0 : decode cX7_would 0 = .ok (.iload_n 1, 1) := by decide +kernel
theorem dX7_would_1 : decode cX7_would 1 = .ok (.invokestatic 63, 3) := by decide +kernel
theorem dX7_would_4 : decode cX7_would 4 = .ok (.ifCond .ne 5, 3) := by decide +kernel
theorem dX7_would_7 : decode cX7_would 7 = .ok (.iconst (-1), 1) := by decide +kernel
theorem dX7_would_8 : decode cX7_would 8 = .ok (.ireturn, 1) := by decide +kernel
theorem dX7_would_9 : decode cX7_would 9 = .ok (.iload_n 2, 1) := by decide +kernel
theorem dX7_would_10 : decode cX7_would 10 = .ok (.iconst 0, 1) := by decide +kernel
theorem dX7_would_11 : decode cX7_would 11 = .ok (.iconst 2, 1) := by decide +kernel
theorem dX7_would_12 : decode cX7_would 12 = .ok (.invokestatic 51, 3) := by decide +kernel
theorem dX7_would_15 : decode cX7_would 15 = .ok (.ifCond .ne 6, 3) := by decide +kernel
theorem dX7_would_18 : decode cX7_would 18 = .ok (.bipush (-2), 2) := by decide +kernel
theorem dX7_would_20 : decode cX7_would 20 = .ok (.ireturn, 1) := by decide +kernel
theorem dX7_would_21 : decode cX7_would 21 = .ok (.aload_n 0, 1) := by decide +kernel
theorem dX7_would_22 : decode cX7_would 22 = .ok (.getfield 19, 3) := by decide +kernel
theorem dX7_would_25 : decode cX7_would 25 = .ok (.iload_n 1, 1) := by decide +kernel
theorem dX7_would_26 : decode cX7_would 26 = .ok (.iaload, 1) := by decide +kernel
theorem dX7_would_27 : decode cX7_would 27 = .ok (.istore_n 3, 1) := by decide +kernel
theorem dX7_would_28 : decode cX7_would 28 = .ok (.aload_n 0, 1) := by decide +kernel
theorem dX7_would_29 : decode cX7_would 29 = .ok (.getfield 19, 3) := by decide +kernel
theorem dX7_would_32 : decode cX7_would 32 = .ok (.iload_n 1, 1) := by decide +kernel
theorem dX7_would_33 : decode cX7_would 33 = .ok (.iload_n 2, 1) := by decide +kernel
theorem dX7_would_34 : decode cX7_would 34 = .ok (.iconst 1, 1) := by decide +kernel
theorem dX7_would_35 : decode cX7_would 35 = .ok (.if_icmp .ne 7, 3) := by decide +kernel
theorem dX7_would_38 : decode cX7_would 38 = .ok (.iconst 1, 1) := by decide +kernel
theorem dX7_would_39 : decode cX7_would 39 = .ok (.goto 12, 3) := by decide +kernel
theorem dX7_would_42 : decode cX7_would 42 = .ok (.iload_n 2, 1) := by decide +kernel
theorem dX7_would_43 : decode cX7_would 43 = .ok (.ifCond .ne 7, 3) := by decide +kernel
theorem dX7_would_46 : decode cX7_would 46 = .ok (.iconst 2, 1) := by decide +kernel
theorem dX7_would_47 : decode cX7_would 47 = .ok (.goto 4, 3) := by decide +kernel
theorem dX7_would_50 : decode cX7_would 50 = .ok (.iconst 0, 1) := by decide +kernel
theorem dX7_would_51 : decode cX7_would 51 = .ok (.iastore, 1) := by decide +kernel
theorem dX7_would_52 : decode cX7_would 52 = .ok (.aload_n 0, 1) := by decide +kernel
theorem dX7_would_53 : decode cX7_would 53 = .ok (.iconst 0, 1) := by decide +kernel
theorem dX7_would_54 : decode cX7_would 54 = .ok (.putfield 59, 3) := by decide +kernel
theorem dX7_would_57 : decode cX7_would 57 = .ok (.aload_n 0, 1) := by decide +kernel
theorem dX7_would_58 : decode cX7_would 58 = .ok (.invokevirtual 78, 3) := by decide +kernel
theorem dX7_would_61 : decode cX7_would 61 = .ok (.istore 4, 2) := by decide +kernel
theorem dX7_would_63 : decode cX7_would 63 = .ok (.aload_n 0, 1) := by decide +kernel
theorem dX7_would_64 : decode cX7_would 64 = .ok (.getfield 19, 3) := by decide +kernel
theorem dX7_would_67 : decode cX7_would 67 = .ok (.iload_n 1, 1) := by decide +kernel
theorem dX7_would_68 : decode cX7_would 68 = .ok (.iload_n 3, 1) := by decide +kernel
theorem dX7_would_69 : decode cX7_would 69 = .ok (.iastore, 1) := by decide +kernel
theorem dX7_would_70 : decode cX7_would 70 = .ok (.aload_n 0, 1) := by decide +kernel
theorem dX7_would_71 : decode cX7_would 71 = .ok (.iconst 0, 1) := by decide +kernel
theorem dX7_would_72 : decode cX7_would 72 = .ok (.putfield 59, 3) := by decide +kernel
theorem dX7_would_75 : decode cX7_would 75 = .ok (.iload 4, 2) := by decide +kernel
theorem dX7_would_77 : decode cX7_would 77 = .ok (.ireturn, 1) := by decide +kernel
theorem dX7_findPlan_0 : decode cX7_findPlan 0 = .ok (.iconst 0, 1) := by decide +kernel
theorem dX7_findPlan_1 : decode cX7_findPlan 1 = .ok (.istore_n 1, 1) := by decide +kernel
theorem dX7_findPlan_2 : decode cX7_findPlan 2 = .ok (.iload_n 1, 1) := by decide +kernel
theorem dX7_findPlan_3 : decode cX7_findPlan 3 = .ok (.bipush 12, 2) := by decide +kernel
theorem dX7_findPlan_5 : decode cX7_findPlan 5 = .ok (.if_icmp .ge 21, 3) := by decide +kernel
theorem dX7_findPlan_8 : decode cX7_findPlan 8 = .ok (.aload_n 0, 1) := by decide +kernel
theorem dX7_findPlan_9 : decode cX7_findPlan 9 = .ok (.getfield 48, 3) := by decide +kernel
theorem dX7_findPlan_12 : decode cX7_findPlan 12 = .ok (.iload_n 1, 1) := by decide +kernel
theorem dX7_findPlan_13 : decode cX7_findPlan 13 = .ok (.aload_n 0, 1) := by decide +kernel
theorem dX7_findPlan_14 : decode cX7_findPlan 14 = .ok (.getfield 19, 3) := by decide +kernel
theorem dX7_findPlan_17 : decode cX7_findPlan 17 = .ok (.iload_n 1, 1) := by decide +kernel
theorem dX7_findPlan_18 : decode cX7_findPlan 18 = .ok (.iaload, 1) := by decide +kernel
theorem dX7_findPlan_19 : decode cX7_findPlan 19 = .ok (.iastore, 1) := by decide +kernel
theorem dX7_findPlan_20 : decode cX7_findPlan 20 = .ok (.iinc 1 1, 3) := by decide +kernel
theorem dX7_findPlan_23 : decode cX7_findPlan 23 = .ok (.goto (-21), 3) := by decide +kernel
theorem dX7_findPlan_26 : decode cX7_findPlan 26 = .ok (.aload_n 0, 1) := by decide +kernel
theorem dX7_findPlan_27 : decode cX7_findPlan 27 = .ok (.iconst 0, 1) := by decide +kernel
theorem dX7_findPlan_28 : decode cX7_findPlan 28 = .ok (.putfield 155, 3) := by decide +kernel
theorem dX7_findPlan_31 : decode cX7_findPlan 31 = .ok (.aload_n 0, 1) := by decide +kernel
theorem dX7_findPlan_32 : decode cX7_findPlan 32 = .ok (.invokevirtual 152, 3) := by decide +kernel
theorem dX7_findPlan_35 : decode cX7_findPlan 35 = .ok (.istore_n 1, 1) := by decide +kernel
theorem dX7_findPlan_36 : decode cX7_findPlan 36 = .ok (.iload_n 1, 1) := by decide +kernel
theorem dX7_findPlan_37 : decode cX7_findPlan 37 = .ok (.bipush (-9), 2) := by decide +kernel
theorem dX7_findPlan_39 : decode cX7_findPlan 39 = .ok (.if_icmp .eq 104, 3) := by decide +kernel
theorem dX7_findPlan_42 : decode cX7_findPlan 42 = .ok (.aload_n 0, 1) := by decide +kernel
theorem dX7_findPlan_43 : decode cX7_findPlan 43 = .ok (.iload_n 1, 1) := by decide +kernel
theorem dX7_findPlan_44 : decode cX7_findPlan 44 = .ok (.iconst 1, 1) := by decide +kernel
theorem dX7_findPlan_45 : decode cX7_findPlan 45 = .ok (.invokevirtual 144, 3) := by decide +kernel
theorem dX7_findPlan_48 : decode cX7_findPlan 48 = .ok (.aload_n 0, 1) := by decide +kernel
theorem dX7_findPlan_49 : decode cX7_findPlan 49 = .ok (.iload_n 1, 1) := by decide +kernel
theorem dX7_findPlan_50 : decode cX7_findPlan 50 = .ok (.iconst 0, 1) := by decide +kernel
theorem dX7_findPlan_51 : decode cX7_findPlan 51 = .ok (.invokevirtual 144, 3) := by decide +kernel
theorem dX7_findPlan_54 : decode cX7_findPlan 54 = .ok (.lcmp, 1) := by decide +kernel
theorem dX7_findPlan_55 : decode cX7_findPlan 55 = .ok (.ifCond .lt 7, 3) := by decide +kernel
theorem dX7_findPlan_58 : decode cX7_findPlan 58 = .ok (.iconst 1, 1) := by decide +kernel
theorem dX7_findPlan_59 : decode cX7_findPlan 59 = .ok (.goto 4, 3) := by decide +kernel
theorem dX7_findPlan_62 : decode cX7_findPlan 62 = .ok (.iconst 0, 1) := by decide +kernel
theorem dX7_findPlan_63 : decode cX7_findPlan 63 = .ok (.istore_n 2, 1) := by decide +kernel
theorem dX7_findPlan_64 : decode cX7_findPlan 64 = .ok (.aload_n 0, 1) := by decide +kernel
theorem dX7_findPlan_65 : decode cX7_findPlan 65 = .ok (.getfield 19, 3) := by decide +kernel
theorem dX7_findPlan_68 : decode cX7_findPlan 68 = .ok (.iload_n 1, 1) := by decide +kernel
theorem dX7_findPlan_69 : decode cX7_findPlan 69 = .ok (.iload_n 2, 1) := by decide +kernel
theorem dX7_findPlan_70 : decode cX7_findPlan 70 = .ok (.ifCond .eq 7, 3) := by decide +kernel
theorem dX7_findPlan_73 : decode cX7_findPlan 73 = .ok (.iconst 1, 1) := by decide +kernel
theorem dX7_findPlan_74 : decode cX7_findPlan 74 = .ok (.goto 4, 3) := by decide +kernel
theorem dX7_findPlan_77 : decode cX7_findPlan 77 = .ok (.iconst 2, 1) := by decide +kernel
theorem dX7_findPlan_78 : decode cX7_findPlan 78 = .ok (.iastore, 1) := by decide +kernel
theorem dX7_findPlan_79 : decode cX7_findPlan 79 = .ok (.aload_n 0, 1) := by decide +kernel
theorem dX7_findPlan_80 : decode cX7_findPlan 80 = .ok (.iconst 0, 1) := by decide +kernel
theorem dX7_findPlan_81 : decode cX7_findPlan 81 = .ok (.putfield 59, 3) := by decide +kernel
theorem dX7_findPlan_84 : decode cX7_findPlan 84 = .ok (.aload_n 0, 1) := by decide +kernel
theorem dX7_findPlan_85 : decode cX7_findPlan 85 = .ok (.getfield 39, 3) := by decide +kernel
theorem dX7_findPlan_88 : decode cX7_findPlan 88 = .ok (.aload_n 0, 1) := by decide +kernel
theorem dX7_findPlan_89 : decode cX7_findPlan 89 = .ok (.getfield 155, 3) := by decide +kernel
theorem dX7_findPlan_92 : decode cX7_findPlan 92 = .ok (.iload_n 1, 1) := by decide +kernel
theorem dX7_findPlan_93 : decode cX7_findPlan 93 = .ok (.iastore, 1) := by decide +kernel
theorem dX7_findPlan_94 : decode cX7_findPlan 94 = .ok (.aload_n 0, 1) := by decide +kernel
theorem dX7_findPlan_95 : decode cX7_findPlan 95 = .ok (.getfield 42, 3) := by decide +kernel
theorem dX7_findPlan_98 : decode cX7_findPlan 98 = .ok (.aload_n 0, 1) := by decide +kernel
theorem dX7_findPlan_99 : decode cX7_findPlan 99 = .ok (.getfield 155, 3) := by decide +kernel
theorem dX7_findPlan_102 : decode cX7_findPlan 102 = .ok (.iload_n 2, 1) := by decide +kernel
theorem dX7_findPlan_103 : decode cX7_findPlan 103 = .ok (.ifCond .eq 7, 3) := by decide +kernel
theorem dX7_findPlan_106 : decode cX7_findPlan 106 = .ok (.iconst 1, 1) := by decide +kernel
theorem dX7_findPlan_107 : decode cX7_findPlan 107 = .ok (.goto 4, 3) := by decide +kernel
theorem dX7_findPlan_110 : decode cX7_findPlan 110 = .ok (.iconst 0, 1) := by decide +kernel
theorem dX7_findPlan_111 : decode cX7_findPlan 111 = .ok (.iastore, 1) := by decide +kernel
theorem dX7_findPlan_112 : decode cX7_findPlan 112 = .ok (.aload_n 0, 1) := by decide +kernel
theorem dX7_findPlan_113 : decode cX7_findPlan 113 = .ok (.getfield 45, 3) := by decide +kernel
theorem dX7_findPlan_116 : decode cX7_findPlan 116 = .ok (.aload_n 0, 1) := by decide +kernel
theorem dX7_findPlan_117 : decode cX7_findPlan 117 = .ok (.getfield 155, 3) := by decide +kernel
theorem dX7_findPlan_120 : decode cX7_findPlan 120 = .ok (.aload_n 0, 1) := by decide +kernel
theorem dX7_findPlan_121 : decode cX7_findPlan 121 = .ok (.invokevirtual 78, 3) := by decide +kernel
theorem dX7_findPlan_124 : decode cX7_findPlan 124 = .ok (.iastore, 1) := by decide +kernel
theorem dX7_findPlan_125 : decode cX7_findPlan 125 = .ok (.aload_n 0, 1) := by decide +kernel
theorem dX7_findPlan_126 : decode cX7_findPlan 126 = .ok (.dup, 1) := by decide +kernel
theorem dX7_findPlan_127 : decode cX7_findPlan 127 = .ok (.getfield 155, 3) := by decide +kernel
theorem dX7_findPlan_130 : decode cX7_findPlan 130 = .ok (.iconst 1, 1) := by decide +kernel
theorem dX7_findPlan_131 : decode cX7_findPlan 131 = .ok (.iadd, 1) := by decide +kernel
theorem dX7_findPlan_132 : decode cX7_findPlan 132 = .ok (.putfield 155, 3) := by decide +kernel
theorem dX7_findPlan_135 : decode cX7_findPlan 135 = .ok (.aload_n 0, 1) := by decide +kernel
theorem dX7_findPlan_136 : decode cX7_findPlan 136 = .ok (.invokevirtual 152, 3) := by decide +kernel
theorem dX7_findPlan_139 : decode cX7_findPlan 139 = .ok (.istore_n 1, 1) := by decide +kernel
theorem dX7_findPlan_140 : decode cX7_findPlan 140 = .ok (.goto (-104), 3) := by decide +kernel
theorem dX7_findPlan_143 : decode cX7_findPlan 143 = .ok (.iconst 0, 1) := by decide +kernel
theorem dX7_findPlan_144 : decode cX7_findPlan 144 = .ok (.istore_n 2, 1) := by decide +kernel
theorem dX7_findPlan_145 : decode cX7_findPlan 145 = .ok (.iload_n 2, 1) := by decide +kernel
theorem dX7_findPlan_146 : decode cX7_findPlan 146 = .ok (.bipush 12, 2) := by decide +kernel
theorem dX7_findPlan_148 : decode cX7_findPlan 148 = .ok (.if_icmp .ge 21, 3) := by decide +kernel
theorem dX7_findPlan_151 : decode cX7_findPlan 151 = .ok (.aload_n 0, 1) := by decide +kernel
theorem dX7_findPlan_152 : decode cX7_findPlan 152 = .ok (.getfield 19, 3) := by decide +kernel
theorem dX7_findPlan_155 : decode cX7_findPlan 155 = .ok (.iload_n 2, 1) := by decide +kernel
theorem dX7_findPlan_156 : decode cX7_findPlan 156 = .ok (.aload_n 0, 1) := by decide +kernel
theorem dX7_findPlan_157 : decode cX7_findPlan 157 = .ok (.getfield 48, 3) := by decide +kernel
theorem dX7_findPlan_160 : decode cX7_findPlan 160 = .ok (.iload_n 2, 1) := by decide +kernel
theorem dX7_findPlan_161 : decode cX7_findPlan 161 = .ok (.iaload, 1) := by decide +kernel
theorem dX7_findPlan_162 : decode cX7_findPlan 162 = .ok (.iastore, 1) := by decide +kernel
theorem dX7_findPlan_163 : decode cX7_findPlan 163 = .ok (.iinc 2 1, 3) := by decide +kernel
theorem dX7_findPlan_166 : decode cX7_findPlan 166 = .ok (.goto (-21), 3) := by decide +kernel
theorem dX7_findPlan_169 : decode cX7_findPlan 169 = .ok (.aload_n 0, 1) := by decide +kernel
theorem dX7_findPlan_170 : decode cX7_findPlan 170 = .ok (.iconst 0, 1) := by decide +kernel
theorem dX7_findPlan_171 : decode cX7_findPlan 171 = .ok (.putfield 59, 3) := by decide +kernel
theorem dX7_findPlan_174 : decode cX7_findPlan 174 = .ok (.return_, 1) := by decide +kernel
theorem dX7_plan_0 : decode cX7_plan 0 = .ok (.iload_n 1, 1) := by decide +kernel
theorem dX7_plan_1 : decode cX7_plan 1 = .ok (.iconst 0, 1) := by decide +kernel
theorem dX7_plan_2 : decode cX7_plan 2 = .ok (.bipush 11, 2) := by decide +kernel
theorem dX7_plan_4 : decode cX7_plan 4 = .ok (.invokestatic 51, 3) := by decide +kernel
theorem dX7_plan_7 : decode cX7_plan 7 = .ok (.ifCond .eq 12, 3) := by decide +kernel
theorem dX7_plan_10 : decode cX7_plan 10 = .ok (.iload_n 2, 1) := by decide +kernel
theorem dX7_plan_11 : decode cX7_plan 11 = .ok (.iconst 0, 1) := by decide +kernel
theorem dX7_plan_12 : decode cX7_plan 12 = .ok (.iconst 2, 1) := by decide +kernel
theorem dX7_plan_13 : decode cX7_plan 13 = .ok (.invokestatic 51, 3) := by decide +kernel
theorem dX7_plan_16 : decode cX7_plan 16 = .ok (.ifCond .ne 6, 3) := by decide +kernel
theorem dX7_plan_19 : decode cX7_plan 19 = .ok (.bipush (-2), 2) := by decide +kernel
theorem dX7_plan_21 : decode cX7_plan 21 = .ok (.ireturn, 1) := by decide +kernel
theorem dX7_plan_22 : decode cX7_plan 22 = .ok (.aload_n 0, 1) := by decide +kernel
theorem dX7_plan_23 : decode cX7_plan 23 = .ok (.invokevirtual 158, 3) := by decide +kernel
theorem dX7_plan_26 : decode cX7_plan 26 = .ok (.iload_n 1, 1) := by decide +kernel
theorem dX7_plan_27 : decode cX7_plan 27 = .ok (.aload_n 0, 1) := by decide +kernel
theorem dX7_plan_28 : decode cX7_plan 28 = .ok (.getfield 155, 3) := by decide +kernel
theorem dX7_plan_31 : decode cX7_plan 31 = .ok (.if_icmp .lt 6, 3) := by decide +kernel
theorem dX7_plan_34 : decode cX7_plan 34 = .ok (.bipush (-9), 2) := by decide +kernel
theorem dX7_plan_36 : decode cX7_plan 36 = .ok (.ireturn, 1) := by decide +kernel
theorem dX7_plan_37 : decode cX7_plan 37 = .ok (.iload_n 2, 1) := by decide +kernel
theorem dX7_plan_38 : decode cX7_plan 38 = .ok (.ifCond .ne 12, 3) := by decide +kernel
theorem dX7_plan_41 : decode cX7_plan 41 = .ok (.aload_n 0, 1) := by decide +kernel
theorem dX7_plan_42 : decode cX7_plan 42 = .ok (.getfield 39, 3) := by decide +kernel
theorem dX7_plan_45 : decode cX7_plan 45 = .ok (.iload_n 1, 1) := by decide +kernel
theorem dX7_plan_46 : decode cX7_plan 46 = .ok (.iaload, 1) := by decide +kernel
theorem dX7_plan_47 : decode cX7_plan 47 = .ok (.goto 23, 3) := by decide +kernel
theorem dX7_plan_50 : decode cX7_plan 50 = .ok (.iload_n 2, 1) := by decide +kernel
theorem dX7_plan_51 : decode cX7_plan 51 = .ok (.iconst 1, 1) := by decide +kernel
theorem dX7_plan_52 : decode cX7_plan 52 = .ok (.if_icmp .ne 12, 3) := by decide +kernel
theorem dX7_plan_55 : decode cX7_plan 55 = .ok (.aload_n 0, 1) := by decide +kernel
theorem dX7_plan_56 : decode cX7_plan 56 = .ok (.getfield 42, 3) := by decide +kernel
theorem dX7_plan_59 : decode cX7_plan 59 = .ok (.iload_n 1, 1) := by decide +kernel
theorem dX7_plan_60 : decode cX7_plan 60 = .ok (.iaload, 1) := by decide +kernel
theorem dX7_plan_61 : decode cX7_plan 61 = .ok (.goto 9, 3) := by decide +kernel
theorem dX7_plan_64 : decode cX7_plan 64 = .ok (.aload_n 0, 1) := by decide +kernel
theorem dX7_plan_65 : decode cX7_plan 65 = .ok (.getfield 45, 3) := by decide +kernel
theorem dX7_plan_68 : decode cX7_plan 68 = .ok (.iload_n 1, 1) := by decide +kernel
theorem dX7_plan_69 : decode cX7_plan 69 = .ok (.iaload, 1) := by decide +kernel
theorem dX7_plan_70 : decode cX7_plan 70 = .ok (.ireturn, 1) := by decide +kernel
theorem dX7_many_0 : decode cX7_many 0 = .ok (.iconst 0, 1) := by decide +kernel
theorem dX7_many_1 : decode cX7_many 1 = .ok (.istore_n 2, 1) := by decide +kernel
theorem dX7_many_2 : decode cX7_many 2 = .ok (.iload_n 1, 1) := by decide +kernel
theorem dX7_many_3 : decode cX7_many 3 = .ok (.tableswitch 104 0 5 #[37, 42, 48, 54, 90, 95], 37) := by decide +kernel
theorem dX7_many_40 : decode cX7_many 40 = .ok (.aload_n 0, 1) := by decide +kernel
theorem dX7_many_41 : decode cX7_many 41 = .ok (.invokevirtual 78, 3) := by decide +kernel
theorem dX7_many_44 : decode cX7_many 44 = .ok (.ireturn, 1) := by decide +kernel
theorem dX7_many_45 : decode cX7_many 45 = .ok (.aload_n 0, 1) := by decide +kernel
theorem dX7_many_46 : decode cX7_many 46 = .ok (.iconst 1, 1) := by decide +kernel
theorem dX7_many_47 : decode cX7_many 47 = .ok (.invokevirtual 82, 3) := by decide +kernel
theorem dX7_many_50 : decode cX7_many 50 = .ok (.ireturn, 1) := by decide +kernel
theorem dX7_many_51 : decode cX7_many 51 = .ok (.aload_n 0, 1) := by decide +kernel
theorem dX7_many_52 : decode cX7_many 52 = .ok (.iconst 2, 1) := by decide +kernel
theorem dX7_many_53 : decode cX7_many 53 = .ok (.invokevirtual 82, 3) := by decide +kernel
theorem dX7_many_56 : decode cX7_many 56 = .ok (.ireturn, 1) := by decide +kernel
theorem dX7_many_57 : decode cX7_many 57 = .ok (.iconst 0, 1) := by decide +kernel
theorem dX7_many_58 : decode cX7_many 58 = .ok (.istore_n 3, 1) := by decide +kernel
theorem dX7_many_59 : decode cX7_many 59 = .ok (.iload_n 3, 1) := by decide +kernel
theorem dX7_many_60 : decode cX7_many 60 = .ok (.aload_n 0, 1) := by decide +kernel
theorem dX7_many_61 : decode cX7_many 61 = .ok (.getfield 16, 3) := by decide +kernel
theorem dX7_many_64 : decode cX7_many 64 = .ok (.arraylength, 1) := by decide +kernel
theorem dX7_many_65 : decode cX7_many 65 = .ok (.if_icmp .ge 26, 3) := by decide +kernel
theorem dX7_many_68 : decode cX7_many 68 = .ok (.iload_n 2, 1) := by decide +kernel
theorem dX7_many_69 : decode cX7_many 69 = .ok (.aload_n 0, 1) := by decide +kernel
theorem dX7_many_70 : decode cX7_many 70 = .ok (.getfield 16, 3) := by decide +kernel
theorem dX7_many_73 : decode cX7_many 73 = .ok (.iload_n 3, 1) := by decide +kernel
theorem dX7_many_74 : decode cX7_many 74 = .ok (.iaload, 1) := by decide +kernel
theorem dX7_many_75 : decode cX7_many 75 = .ok (.ifCond .le 7, 3) := by decide +kernel
theorem dX7_many_78 : decode cX7_many 78 = .ok (.iconst 1, 1) := by decide +kernel
theorem dX7_many_79 : decode cX7_many 79 = .ok (.goto 4, 3) := by decide +kernel
theorem dX7_many_82 : decode cX7_many 82 = .ok (.iconst 0, 1) := by decide +kernel
theorem dX7_many_83 : decode cX7_many 83 = .ok (.iadd, 1) := by decide +kernel
theorem dX7_many_84 : decode cX7_many 84 = .ok (.istore_n 2, 1) := by decide +kernel
theorem dX7_many_85 : decode cX7_many 85 = .ok (.iinc 3 1, 3) := by decide +kernel
theorem dX7_many_88 : decode cX7_many 88 = .ok (.goto (-29), 3) := by decide +kernel
theorem dX7_many_91 : decode cX7_many 91 = .ok (.iload_n 2, 1) := by decide +kernel
theorem dX7_many_92 : decode cX7_many 92 = .ok (.ireturn, 1) := by decide +kernel
theorem dX7_many_93 : decode cX7_many 93 = .ok (.aload_n 0, 1) := by decide +kernel
theorem dX7_many_94 : decode cX7_many 94 = .ok (.getfield 70, 3) := by decide +kernel
theorem dX7_many_97 : decode cX7_many 97 = .ok (.ireturn, 1) := by decide +kernel
theorem dX7_many_98 : decode cX7_many 98 = .ok (.aload_n 0, 1) := by decide +kernel
theorem dX7_many_99 : decode cX7_many 99 = .ok (.invokevirtual 158, 3) := by decide +kernel
theorem dX7_many_102 : decode cX7_many 102 = .ok (.aload_n 0, 1) := by decide +kernel
theorem dX7_many_103 : decode cX7_many 103 = .ok (.getfield 155, 3) := by decide +kernel
theorem dX7_many_106 : decode cX7_many 106 = .ok (.ireturn, 1) := by decide +kernel
theorem dX7_many_107 : decode cX7_many 107 = .ok (.bipush (-2), 2) := by decide +kernel
theorem dX7_many_109 : decode cX7_many 109 = .ok (.ireturn, 1) := by decide +kernel
theorem dJ6_bitCount_0f7a4_0 : decode cJ6_bitCount_0f7a4 0 = .ok (.iload_n 0, 1) := by decide +kernel
theorem dJ6_bitCount_0f7a4_1 : decode cJ6_bitCount_0f7a4 1 = .ok (.iload_n 0, 1) := by decide +kernel
theorem dJ6_bitCount_0f7a4_2 : decode cJ6_bitCount_0f7a4 2 = .ok (.iconst 1, 1) := by decide +kernel
theorem dJ6_bitCount_0f7a4_3 : decode cJ6_bitCount_0f7a4 3 = .ok (.iushr, 1) := by decide +kernel
theorem dJ6_bitCount_0f7a4_4 : decode cJ6_bitCount_0f7a4 4 = .ok (.ldc_w 265, 3) := by decide +kernel
theorem dJ6_bitCount_0f7a4_7 : decode cJ6_bitCount_0f7a4 7 = .ok (.iand, 1) := by decide +kernel
theorem dJ6_bitCount_0f7a4_8 : decode cJ6_bitCount_0f7a4 8 = .ok (.isub, 1) := by decide +kernel
theorem dJ6_bitCount_0f7a4_9 : decode cJ6_bitCount_0f7a4 9 = .ok (.istore_n 0, 1) := by decide +kernel
theorem dJ6_bitCount_0f7a4_10 : decode cJ6_bitCount_0f7a4 10 = .ok (.iload_n 0, 1) := by decide +kernel
theorem dJ6_bitCount_0f7a4_11 : decode cJ6_bitCount_0f7a4 11 = .ok (.ldc_w 266, 3) := by decide +kernel
theorem dJ6_bitCount_0f7a4_14 : decode cJ6_bitCount_0f7a4 14 = .ok (.iand, 1) := by decide +kernel
theorem dJ6_bitCount_0f7a4_15 : decode cJ6_bitCount_0f7a4 15 = .ok (.iload_n 0, 1) := by decide +kernel
theorem dJ6_bitCount_0f7a4_16 : decode cJ6_bitCount_0f7a4 16 = .ok (.iconst 2, 1) := by decide +kernel
theorem dJ6_bitCount_0f7a4_17 : decode cJ6_bitCount_0f7a4 17 = .ok (.iushr, 1) := by decide +kernel
theorem dJ6_bitCount_0f7a4_18 : decode cJ6_bitCount_0f7a4 18 = .ok (.ldc_w 266, 3) := by decide +kernel
theorem dJ6_bitCount_0f7a4_21 : decode cJ6_bitCount_0f7a4 21 = .ok (.iand, 1) := by decide +kernel
theorem dJ6_bitCount_0f7a4_22 : decode cJ6_bitCount_0f7a4 22 = .ok (.iadd, 1) := by decide +kernel
theorem dJ6_bitCount_0f7a4_23 : decode cJ6_bitCount_0f7a4 23 = .ok (.istore_n 0, 1) := by decide +kernel
theorem dJ6_bitCount_0f7a4_24 : decode cJ6_bitCount_0f7a4 24 = .ok (.iload_n 0, 1) := by decide +kernel
theorem dJ6_bitCount_0f7a4_25 : decode cJ6_bitCount_0f7a4 25 = .ok (.iload_n 0, 1) := by decide +kernel
theorem dJ6_bitCount_0f7a4_26 : decode cJ6_bitCount_0f7a4 26 = .ok (.iconst 4, 1) := by decide +kernel
theorem dJ6_bitCount_0f7a4_27 : decode cJ6_bitCount_0f7a4 27 = .ok (.iushr, 1) := by decide +kernel
theorem dJ6_bitCount_0f7a4_28 : decode cJ6_bitCount_0f7a4 28 = .ok (.iadd, 1) := by decide +kernel
theorem dJ6_bitCount_0f7a4_29 : decode cJ6_bitCount_0f7a4 29 = .ok (.ldc_w 267, 3) := by decide +kernel
theorem dJ6_bitCount_0f7a4_32 : decode cJ6_bitCount_0f7a4 32 = .ok (.iand, 1) := by decide +kernel
theorem dJ6_bitCount_0f7a4_33 : decode cJ6_bitCount_0f7a4 33 = .ok (.istore_n 0, 1) := by decide +kernel
theorem dJ6_bitCount_0f7a4_34 : decode cJ6_bitCount_0f7a4 34 = .ok (.iload_n 0, 1) := by decide +kernel
theorem dJ6_bitCount_0f7a4_35 : decode cJ6_bitCount_0f7a4 35 = .ok (.iload_n 0, 1) := by decide +kernel
theorem dJ6_bitCount_0f7a4_36 : decode cJ6_bitCount_0f7a4 36 = .ok (.bipush 8, 2) := by decide +kernel
theorem dJ6_bitCount_0f7a4_38 : decode cJ6_bitCount_0f7a4 38 = .ok (.iushr, 1) := by decide +kernel
theorem dJ6_bitCount_0f7a4_39 : decode cJ6_bitCount_0f7a4 39 = .ok (.iadd, 1) := by decide +kernel
theorem dJ6_bitCount_0f7a4_40 : decode cJ6_bitCount_0f7a4 40 = .ok (.istore_n 0, 1) := by decide +kernel
theorem dJ6_bitCount_0f7a4_41 : decode cJ6_bitCount_0f7a4 41 = .ok (.iload_n 0, 1) := by decide +kernel
theorem dJ6_bitCount_0f7a4_42 : decode cJ6_bitCount_0f7a4 42 = .ok (.iload_n 0, 1) := by decide +kernel
theorem dJ6_bitCount_0f7a4_43 : decode cJ6_bitCount_0f7a4 43 = .ok (.bipush 16, 2) := by decide +kernel
theorem dJ6_bitCount_0f7a4_45 : decode cJ6_bitCount_0f7a4 45 = .ok (.iushr, 1) := by decide +kernel
theorem dJ6_bitCount_0f7a4_46 : decode cJ6_bitCount_0f7a4 46 = .ok (.iadd, 1) := by decide +kernel
theorem dJ6_bitCount_0f7a4_47 : decode cJ6_bitCount_0f7a4 47 = .ok (.istore_n 0, 1) := by decide +kernel
theorem dJ6_bitCount_0f7a4_48 : decode cJ6_bitCount_0f7a4 48 = .ok (.iload_n 0, 1) := by decide +kernel
theorem dJ6_bitCount_0f7a4_49 : decode cJ6_bitCount_0f7a4 49 = .ok (.bipush 63, 2) := by decide +kernel
theorem dJ6_bitCount_0f7a4_51 : decode cJ6_bitCount_0f7a4 51 = .ok (.iand, 1) := by decide +kernel
theorem dJ6_bitCount_0f7a4_52 : decode cJ6_bitCount_0f7a4 52 = .ok (.ireturn, 1) := by decide +kernel
theorem dJ9_max_7cf53_0 : decode cJ9_max_7cf53 0 = .ok (.iload_n 0, 1) := by decide +kernel
theorem dJ9_max_7cf53_1 : decode cJ9_max_7cf53 1 = .ok (.iload_n 1, 1) := by decide +kernel
theorem dJ9_max_7cf53_2 : decode cJ9_max_7cf53 2 = .ok (.if_icmp .lt 7, 3) := by decide +kernel
theorem dJ9_max_7cf53_5 : decode cJ9_max_7cf53 5 = .ok (.iload_n 0, 1) := by decide +kernel
theorem dJ9_max_7cf53_6 : decode cJ9_max_7cf53 6 = .ok (.goto 4, 3) := by decide +kernel
theorem dJ9_max_7cf53_9 : decode cJ9_max_7cf53 9 = .ok (.iload_n 1, 1) := by decide +kernel
theorem dJ9_max_7cf53_10 : decode cJ9_max_7cf53 10 = .ok (.ireturn, 1) := by decide +kernel
theorem dJ9_max_f86c9_0 : decode cJ9_max_f86c9 0 = .ok (.lload_n 0, 1) := by decide +kernel
theorem dJ9_max_f86c9_1 : decode cJ9_max_f86c9 1 = .ok (.lload_n 2, 1) := by decide +kernel
theorem dJ9_max_f86c9_2 : decode cJ9_max_f86c9 2 = .ok (.lcmp, 1) := by decide +kernel
theorem dJ9_max_f86c9_3 : decode cJ9_max_f86c9 3 = .ok (.ifCond .lt 7, 3) := by decide +kernel
theorem dJ9_max_f86c9_6 : decode cJ9_max_f86c9 6 = .ok (.lload_n 0, 1) := by decide +kernel
theorem dJ9_max_f86c9_7 : decode cJ9_max_f86c9 7 = .ok (.goto 4, 3) := by decide +kernel
theorem dJ9_max_f86c9_10 : decode cJ9_max_f86c9 10 = .ok (.lload_n 2, 1) := by decide +kernel
theorem dJ9_max_f86c9_11 : decode cJ9_max_f86c9 11 = .ok (.lreturn, 1) := by decide +kernel
theorem dJ9_min_7cf53_0 : decode cJ9_min_7cf53 0 = .ok (.iload_n 0, 1) := by decide +kernel
theorem dJ9_min_7cf53_1 : decode cJ9_min_7cf53 1 = .ok (.iload_n 1, 1) := by decide +kernel
theorem dJ9_min_7cf53_2 : decode cJ9_min_7cf53 2 = .ok (.if_icmp .gt 7, 3) := by decide +kernel
theorem dJ9_min_7cf53_5 : decode cJ9_min_7cf53 5 = .ok (.iload_n 0, 1) := by decide +kernel
theorem dJ9_min_7cf53_6 : decode cJ9_min_7cf53 6 = .ok (.goto 4, 3) := by decide +kernel
theorem dJ9_min_7cf53_9 : decode cJ9_min_7cf53 9 = .ok (.iload_n 1, 1) := by decide +kernel
theorem dJ9_min_7cf53_10 : decode cJ9_min_7cf53 10 = .ok (.ireturn, 1) := by decide +kernel
theorem dL_law_0 : decode cL_law 0 = .ok (.new 7, 3) := by decide +kernel
theorem dL_law_3 : decode cL_law 3 = .ok (.dup, 1) := by decide +kernel
theorem dL_law_4 : decode cL_law 4 = .ok (.invokespecial 9, 3) := by decide +kernel
theorem dL_law_7 : decode cL_law 7 = .ok (.astore_n 1, 1) := by decide +kernel
theorem dL_law_8 : decode cL_law 8 = .ok (.new 10, 3) := by decide +kernel
theorem dL_law_11 : decode cL_law 11 = .ok (.dup, 1) := by decide +kernel
theorem dL_law_12 : decode cL_law 12 = .ok (.invokespecial 12, 3) := by decide +kernel
theorem dL_law_15 : decode cL_law 15 = .ok (.astore_n 2, 1) := by decide +kernel
theorem dL_law_16 : decode cL_law 16 = .ok (.iconst 0, 1) := by decide +kernel
theorem dL_law_17 : decode cL_law 17 = .ok (.istore_n 3, 1) := by decide +kernel
theorem dL_law_18 : decode cL_law 18 = .ok (.iload_n 3, 1) := by decide +kernel
theorem dL_law_19 : decode cL_law 19 = .ok (.aload_n 0, 1) := by decide +kernel
theorem dL_law_20 : decode cL_law 20 = .ok (.arraylength, 1) := by decide +kernel
theorem dL_law_21 : decode cL_law 21 = .ok (.iconst 4, 1) := by decide +kernel
theorem dL_law_22 : decode cL_law 22 = .ok (.isub, 1) := by decide +kernel
theorem dL_law_23 : decode cL_law 23 = .ok (.if_icmp .gt 729, 3) := by decide +kernel
theorem dL_law_26 : decode cL_law 26 = .ok (.aload_n 0, 1) := by decide +kernel
theorem dL_law_27 : decode cL_law 27 = .ok (.iload_n 3, 1) := by decide +kernel
theorem dL_law_28 : decode cL_law 28 = .ok (.iaload, 1) := by decide +kernel
theorem dL_law_29 : decode cL_law 29 = .ok (.bipush 31, 2) := by decide +kernel
theorem dL_law_31 : decode cL_law 31 = .ok (.iand, 1) := by decide +kernel
theorem dL_law_32 : decode cL_law 32 = .ok (.tableswitch 714 0 21 #[104, 147, 190, 223, 256, 289, 312, 325, 338, 371, 395, 429, 462, 485, 519, 542, 565, 578, 612, 625, 658, 691], 104) := by decide +kernel
theorem dL_law_136 : decode cL_law 136 = .ok (.aload_n 1, 1) := by decide +kernel
theorem dL_law_137 : decode cL_law 137 = .ok (.aload_n 0, 1) := by decide +kernel
theorem dL_law_138 : decode cL_law 138 = .ok (.iload_n 3, 1) := by decide +kernel
theorem dL_law_139 : decode cL_law 139 = .ok (.iconst 1, 1) := by decide +kernel
theorem dL_law_140 : decode cL_law 140 = .ok (.iadd, 1) := by decide +kernel
theorem dL_law_141 : decode cL_law 141 = .ok (.iaload, 1) := by decide +kernel
theorem dL_law_142 : decode cL_law 142 = .ok (.aload_n 0, 1) := by decide +kernel
theorem dL_law_143 : decode cL_law 143 = .ok (.iload_n 3, 1) := by decide +kernel
theorem dL_law_144 : decode cL_law 144 = .ok (.iconst 2, 1) := by decide +kernel
theorem dL_law_145 : decode cL_law 145 = .ok (.iadd, 1) := by decide +kernel
theorem dL_law_146 : decode cL_law 146 = .ok (.iaload, 1) := by decide +kernel
theorem dL_law_147 : decode cL_law 147 = .ok (.aload_n 0, 1) := by decide +kernel
theorem dL_law_148 : decode cL_law 148 = .ok (.iload_n 3, 1) := by decide +kernel
theorem dL_law_149 : decode cL_law 149 = .ok (.iconst 3, 1) := by decide +kernel
theorem dL_law_150 : decode cL_law 150 = .ok (.iadd, 1) := by decide +kernel
theorem dL_law_151 : decode cL_law 151 = .ok (.iaload, 1) := by decide +kernel
theorem dL_law_152 : decode cL_law 152 = .ok (.invokevirtual 13, 3) := by decide +kernel
theorem dL_law_155 : decode cL_law 155 = .ok (.aload_n 2, 1) := by decide +kernel
theorem dL_law_156 : decode cL_law 156 = .ok (.aload_n 0, 1) := by decide +kernel
theorem dL_law_157 : decode cL_law 157 = .ok (.iload_n 3, 1) := by decide +kernel
theorem dL_law_158 : decode cL_law 158 = .ok (.iconst 1, 1) := by decide +kernel
theorem dL_law_159 : decode cL_law 159 = .ok (.iadd, 1) := by decide +kernel
theorem dL_law_160 : decode cL_law 160 = .ok (.iaload, 1) := by decide +kernel
theorem dL_law_161 : decode cL_law 161 = .ok (.aload_n 0, 1) := by decide +kernel
theorem dL_law_162 : decode cL_law 162 = .ok (.iload_n 3, 1) := by decide +kernel
theorem dL_law_163 : decode cL_law 163 = .ok (.iconst 2, 1) := by decide +kernel
theorem dL_law_164 : decode cL_law 164 = .ok (.iadd, 1) := by decide +kernel
theorem dL_law_165 : decode cL_law 165 = .ok (.iaload, 1) := by decide +kernel
theorem dL_law_166 : decode cL_law 166 = .ok (.aload_n 0, 1) := by decide +kernel
theorem dL_law_167 : decode cL_law 167 = .ok (.iload_n 3, 1) := by decide +kernel
theorem dL_law_168 : decode cL_law 168 = .ok (.iconst 3, 1) := by decide +kernel
theorem dL_law_169 : decode cL_law 169 = .ok (.iadd, 1) := by decide +kernel
theorem dL_law_170 : decode cL_law 170 = .ok (.iaload, 1) := by decide +kernel
theorem dL_law_171 : decode cL_law 171 = .ok (.invokevirtual 17, 3) := by decide +kernel
theorem dL_law_174 : decode cL_law 174 = .ok (.if_icmp .eq 572, 3) := by decide +kernel
theorem dL_law_177 : decode cL_law 177 = .ok (.iconst 0, 1) := by decide +kernel
theorem dL_law_178 : decode cL_law 178 = .ok (.ireturn, 1) := by decide +kernel
theorem dL_law_179 : decode cL_law 179 = .ok (.aload_n 1, 1) := by decide +kernel
theorem dL_law_180 : decode cL_law 180 = .ok (.aload_n 0, 1) := by decide +kernel
theorem dL_law_181 : decode cL_law 181 = .ok (.iload_n 3, 1) := by decide +kernel
theorem dL_law_182 : decode cL_law 182 = .ok (.iconst 1, 1) := by decide +kernel
theorem dL_law_183 : decode cL_law 183 = .ok (.iadd, 1) := by decide +kernel
theorem dL_law_184 : decode cL_law 184 = .ok (.iaload, 1) := by decide +kernel
theorem dL_law_185 : decode cL_law 185 = .ok (.aload_n 0, 1) := by decide +kernel
theorem dL_law_186 : decode cL_law 186 = .ok (.iload_n 3, 1) := by decide +kernel
theorem dL_law_187 : decode cL_law 187 = .ok (.iconst 2, 1) := by decide +kernel
theorem dL_law_188 : decode cL_law 188 = .ok (.iadd, 1) := by decide +kernel
theorem dL_law_189 : decode cL_law 189 = .ok (.iaload, 1) := by decide +kernel
theorem dL_law_190 : decode cL_law 190 = .ok (.aload_n 0, 1) := by decide +kernel
theorem dL_law_191 : decode cL_law 191 = .ok (.iload_n 3, 1) := by decide +kernel
theorem dL_law_192 : decode cL_law 192 = .ok (.iconst 3, 1) := by decide +kernel
theorem dL_law_193 : decode cL_law 193 = .ok (.iadd, 1) := by decide +kernel
theorem dL_law_194 : decode cL_law 194 = .ok (.iaload, 1) := by decide +kernel
theorem dL_law_195 : decode cL_law 195 = .ok (.invokevirtual 18, 3) := by decide +kernel
theorem dL_law_198 : decode cL_law 198 = .ok (.aload_n 2, 1) := by decide +kernel
theorem dL_law_199 : decode cL_law 199 = .ok (.aload_n 0, 1) := by decide +kernel
theorem dL_law_200 : decode cL_law 200 = .ok (.iload_n 3, 1) := by decide +kernel
theorem dL_law_201 : decode cL_law 201 = .ok (.iconst 1, 1) := by decide +kernel
theorem dL_law_202 : decode cL_law 202 = .ok (.iadd, 1) := by decide +kernel
theorem dL_law_203 : decode cL_law 203 = .ok (.iaload, 1) := by decide +kernel
theorem dL_law_204 : decode cL_law 204 = .ok (.aload_n 0, 1) := by decide +kernel
theorem dL_law_205 : decode cL_law 205 = .ok (.iload_n 3, 1) := by decide +kernel
theorem dL_law_206 : decode cL_law 206 = .ok (.iconst 2, 1) := by decide +kernel
theorem dL_law_207 : decode cL_law 207 = .ok (.iadd, 1) := by decide +kernel
theorem dL_law_208 : decode cL_law 208 = .ok (.iaload, 1) := by decide +kernel
theorem dL_law_209 : decode cL_law 209 = .ok (.aload_n 0, 1) := by decide +kernel
theorem dL_law_210 : decode cL_law 210 = .ok (.iload_n 3, 1) := by decide +kernel
theorem dL_law_211 : decode cL_law 211 = .ok (.iconst 3, 1) := by decide +kernel
theorem dL_law_212 : decode cL_law 212 = .ok (.iadd, 1) := by decide +kernel
theorem dL_law_213 : decode cL_law 213 = .ok (.iaload, 1) := by decide +kernel
theorem dL_law_214 : decode cL_law 214 = .ok (.invokevirtual 21, 3) := by decide +kernel
theorem dL_law_217 : decode cL_law 217 = .ok (.if_icmp .eq 529, 3) := by decide +kernel
theorem dL_law_220 : decode cL_law 220 = .ok (.iconst 0, 1) := by decide +kernel
theorem dL_law_221 : decode cL_law 221 = .ok (.ireturn, 1) := by decide +kernel
theorem dL_law_222 : decode cL_law 222 = .ok (.aload_n 1, 1) := by decide +kernel
theorem dL_law_223 : decode cL_law 223 = .ok (.aload_n 0, 1) := by decide +kernel
theorem dL_law_224 : decode cL_law 224 = .ok (.iload_n 3, 1) := by decide +kernel
theorem dL_law_225 : decode cL_law 225 = .ok (.iconst 1, 1) := by decide +kernel
theorem dL_law_226 : decode cL_law 226 = .ok (.iadd, 1) := by decide +kernel
theorem dL_law_227 : decode cL_law 227 = .ok (.iaload, 1) := by decide +kernel
theorem dL_law_228 : decode cL_law 228 = .ok (.aload_n 0, 1) := by decide +kernel
theorem dL_law_229 : decode cL_law 229 = .ok (.iload_n 3, 1) := by decide +kernel
theorem dL_law_230 : decode cL_law 230 = .ok (.iconst 2, 1) := by decide +kernel
theorem dL_law_231 : decode cL_law 231 = .ok (.iadd, 1) := by decide +kernel
theorem dL_law_232 : decode cL_law 232 = .ok (.iaload, 1) := by decide +kernel
theorem dL_law_233 : decode cL_law 233 = .ok (.invokevirtual 22, 3) := by decide +kernel
theorem dL_law_236 : decode cL_law 236 = .ok (.aload_n 2, 1) := by decide +kernel
theorem dL_law_237 : decode cL_law 237 = .ok (.aload_n 0, 1) := by decide +kernel
theorem dL_law_238 : decode cL_law 238 = .ok (.iload_n 3, 1) := by decide +kernel
theorem dL_law_239 : decode cL_law 239 = .ok (.iconst 1, 1) := by decide +kernel
theorem dL_law_240 : decode cL_law 240 = .ok (.iadd, 1) := by decide +kernel
theorem dL_law_241 : decode cL_law 241 = .ok (.iaload, 1) := by decide +kernel
theorem dL_law_242 : decode cL_law 242 = .ok (.aload_n 0, 1) := by decide +kernel
theorem dL_law_243 : decode cL_law 243 = .ok (.iload_n 3, 1) := by decide +kernel
theorem dL_law_244 : decode cL_law 244 = .ok (.iconst 2, 1) := by decide +kernel
theorem dL_law_245 : decode cL_law 245 = .ok (.iadd, 1) := by decide +kernel
theorem dL_law_246 : decode cL_law 246 = .ok (.iaload, 1) := by decide +kernel
theorem dL_law_247 : decode cL_law 247 = .ok (.invokevirtual 26, 3) := by decide +kernel
theorem dL_law_250 : decode cL_law 250 = .ok (.if_icmp .eq 496, 3) := by decide +kernel
theorem dL_law_253 : decode cL_law 253 = .ok (.iconst 0, 1) := by decide +kernel
theorem dL_law_254 : decode cL_law 254 = .ok (.ireturn, 1) := by decide +kernel
theorem dL_law_255 : decode cL_law 255 = .ok (.aload_n 1, 1) := by decide +kernel
theorem dL_law_256 : decode cL_law 256 = .ok (.aload_n 0, 1) := by decide +kernel
theorem dL_law_257 : decode cL_law 257 = .ok (.iload_n 3, 1) := by decide +kernel
theorem dL_law_258 : decode cL_law 258 = .ok (.iconst 1, 1) := by decide +kernel
theorem dL_law_259 : decode cL_law 259 = .ok (.iadd, 1) := by decide +kernel
theorem dL_law_260 : decode cL_law 260 = .ok (.iaload, 1) := by decide +kernel
theorem dL_law_261 : decode cL_law 261 = .ok (.aload_n 0, 1) := by decide +kernel
theorem dL_law_262 : decode cL_law 262 = .ok (.iload_n 3, 1) := by decide +kernel
theorem dL_law_263 : decode cL_law 263 = .ok (.iconst 2, 1) := by decide +kernel
theorem dL_law_264 : decode cL_law 264 = .ok (.iadd, 1) := by decide +kernel
theorem dL_law_265 : decode cL_law 265 = .ok (.iaload, 1) := by decide +kernel
theorem dL_law_266 : decode cL_law 266 = .ok (.invokevirtual 27, 3) := by decide +kernel
theorem dL_law_269 : decode cL_law 269 = .ok (.aload_n 2, 1) := by decide +kernel
theorem dL_law_270 : decode cL_law 270 = .ok (.aload_n 0, 1) := by decide +kernel
theorem dL_law_271 : decode cL_law 271 = .ok (.iload_n 3, 1) := by decide +kernel
theorem dL_law_272 : decode cL_law 272 = .ok (.iconst 1, 1) := by decide +kernel
theorem dL_law_273 : decode cL_law 273 = .ok (.iadd, 1) := by decide +kernel
theorem dL_law_274 : decode cL_law 274 = .ok (.iaload, 1) := by decide +kernel
theorem dL_law_275 : decode cL_law 275 = .ok (.aload_n 0, 1) := by decide +kernel
theorem dL_law_276 : decode cL_law 276 = .ok (.iload_n 3, 1) := by decide +kernel
theorem dL_law_277 : decode cL_law 277 = .ok (.iconst 2, 1) := by decide +kernel
theorem dL_law_278 : decode cL_law 278 = .ok (.iadd, 1) := by decide +kernel
theorem dL_law_279 : decode cL_law 279 = .ok (.iaload, 1) := by decide +kernel
theorem dL_law_280 : decode cL_law 280 = .ok (.invokevirtual 30, 3) := by decide +kernel
theorem dL_law_283 : decode cL_law 283 = .ok (.if_icmp .eq 463, 3) := by decide +kernel
theorem dL_law_286 : decode cL_law 286 = .ok (.iconst 0, 1) := by decide +kernel
theorem dL_law_287 : decode cL_law 287 = .ok (.ireturn, 1) := by decide +kernel
theorem dL_law_288 : decode cL_law 288 = .ok (.aload_n 1, 1) := by decide +kernel
theorem dL_law_289 : decode cL_law 289 = .ok (.aload_n 0, 1) := by decide +kernel
