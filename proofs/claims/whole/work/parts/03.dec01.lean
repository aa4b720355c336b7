theorem dX2_fewestCauses_7 : decode cX2_fewestCauses 7 = .ok (.getfield 23, 3) := by decide +kernel
theorem dX2_fewestCauses_10 : decode cX2_fewestCauses 10 = .ok (.if_icmp .ge 22, 3) := by decide +kernel
theorem dX2_fewestCauses_13 : decode cX2_fewestCauses 13 = .ok (.iload_n 1, 1) := by decide +kernel
theorem dX2_fewestCauses_14 : decode cX2_fewestCauses 14 = .ok (.aload_n 0, 1) := by decide +kernel
theorem dX2_fewestCauses_15 : decode cX2_fewestCauses 15 = .ok (.iload_n 2, 1) := by decide +kernel
theorem dX2_fewestCauses_16 : decode cX2_fewestCauses 16 = .ok (.invokevirtual 89, 3) := by decide +kernel
theorem dX2_fewestCauses_19 : decode cX2_fewestCauses 19 = .ok (.invokestatic 75, 3) := by decide +kernel
theorem dX2_fewestCauses_22 : decode cX2_fewestCauses 22 = .ok (.invokestatic 103, 3) := by decide +kernel
theorem dX2_fewestCauses_25 : decode cX2_fewestCauses 25 = .ok (.istore_n 1, 1) := by decide +kernel
theorem dX2_fewestCauses_26 : decode cX2_fewestCauses 26 = .ok (.iinc 2 1, 3) := by decide +kernel
theorem dX2_fewestCauses_29 : decode cX2_fewestCauses 29 = .ok (.goto (-24), 3) := by decide +kernel
theorem dX2_fewestCauses_32 : decode cX2_fewestCauses 32 = .ok (.iload_n 1, 1) := by decide +kernel
theorem dX2_fewestCauses_33 : decode cX2_fewestCauses 33 = .ok (.ireturn, 1) := by decide +kernel
theorem dX2_mostCauses_0 : decode cX2_mostCauses 0 = .ok (.iconst 0, 1) := by decide +kernel
theorem dX2_mostCauses_1 : decode cX2_mostCauses 1 = .ok (.istore_n 1, 1) := by decide +kernel
theorem dX2_mostCauses_2 : decode cX2_mostCauses 2 = .ok (.iconst 0, 1) := by decide +kernel
theorem dX2_mostCauses_3 : decode cX2_mostCauses 3 = .ok (.istore_n 2, 1) := by decide +kernel
theorem dX2_mostCauses_4 : decode cX2_mostCauses 4 = .ok (.iload_n 2, 1) := by decide +kernel
theorem dX2_mostCauses_5 : decode cX2_mostCauses 5 = .ok (.aload_n 0, 1) := by decide +kernel
theorem dX2_mostCauses_6 : decode cX2_mostCauses 6 = .ok (.getfield 23, 3) := by decide +kernel
theorem dX2_mostCauses_9 : decode cX2_mostCauses 9 = .ok (.if_icmp .ge 22, 3) := by decide +kernel
theorem dX2_mostCauses_12 : decode cX2_mostCauses 12 = .ok (.iload_n 1, 1) := by decide +kernel
theorem dX2_mostCauses_13 : decode cX2_mostCauses 13 = .ok (.aload_n 0, 1) := by decide +kernel
theorem dX2_mostCauses_14 : decode cX2_mostCauses 14 = .ok (.iload_n 2, 1) := by decide +kernel
theorem dX2_mostCauses_15 : decode cX2_mostCauses 15 = .ok (.invokevirtual 89, 3) := by decide +kernel
theorem dX2_mostCauses_18 : decode cX2_mostCauses 18 = .ok (.invokestatic 75, 3) := by decide +kernel
theorem dX2_mostCauses_21 : decode cX2_mostCauses 21 = .ok (.invokestatic 108, 3) := by decide +kernel
theorem dX2_mostCauses_24 : decode cX2_mostCauses 24 = .ok (.istore_n 1, 1) := by decide +kernel
theorem dX2_mostCauses_25 : decode cX2_mostCauses 25 = .ok (.iinc 2 1, 3) := by decide +kernel
theorem dX2_mostCauses_28 : decode cX2_mostCauses 28 = .ok (.goto (-24), 3) := by decide +kernel
theorem dX2_mostCauses_31 : decode cX2_mostCauses 31 = .ok (.iload_n 1, 1) := by decide +kernel
theorem dX2_mostCauses_32 : decode cX2_mostCauses 32 = .ok (.ireturn, 1) := by decide +kernel
theorem dX2_countOfLength_0 : decode cX2_countOfLength 0 = .ok (.iconst 0, 1) := by decide +kernel
theorem dX2_countOfLength_1 : decode cX2_countOfLength 1 = .ok (.istore_n 2, 1) := by decide +kernel
theorem dX2_countOfLength_2 : decode cX2_countOfLength 2 = .ok (.iconst 0, 1) := by decide +kernel
theorem dX2_countOfLength_3 : decode cX2_countOfLength 3 = .ok (.istore_n 3, 1) := by decide +kernel
theorem dX2_countOfLength_4 : decode cX2_countOfLength 4 = .ok (.iload_n 3, 1) := by decide +kernel
theorem dX2_countOfLength_5 : decode cX2_countOfLength 5 = .ok (.aload_n 0, 1) := by decide +kernel
theorem dX2_countOfLength_6 : decode cX2_countOfLength 6 = .ok (.getfield 23, 3) := by decide +kernel
theorem dX2_countOfLength_9 : decode cX2_countOfLength 9 = .ok (.if_icmp .ge 24, 3) := by decide +kernel
theorem dX2_countOfLength_12 : decode cX2_countOfLength 12 = .ok (.aload_n 0, 1) := by decide +kernel
theorem dX2_countOfLength_13 : decode cX2_countOfLength 13 = .ok (.iload_n 3, 1) := by decide +kernel
theorem dX2_countOfLength_14 : decode cX2_countOfLength 14 = .ok (.invokevirtual 89, 3) := by decide +kernel
theorem dX2_countOfLength_17 : decode cX2_countOfLength 17 = .ok (.invokestatic 75, 3) := by decide +kernel
theorem dX2_countOfLength_20 : decode cX2_countOfLength 20 = .ok (.iload_n 1, 1) := by decide +kernel
theorem dX2_countOfLength_21 : decode cX2_countOfLength 21 = .ok (.if_icmp .ne 6, 3) := by decide +kernel
theorem dX2_countOfLength_24 : decode cX2_countOfLength 24 = .ok (.iinc 2 1, 3) := by decide +kernel
theorem dX2_countOfLength_27 : decode cX2_countOfLength 27 = .ok (.iinc 3 1, 3) := by decide +kernel
theorem dX2_countOfLength_30 : decode cX2_countOfLength 30 = .ok (.goto (-26), 3) := by decide +kernel
theorem dX2_countOfLength_33 : decode cX2_countOfLength 33 = .ok (.iload_n 2, 1) := by decide +kernel
theorem dX2_countOfLength_34 : decode cX2_countOfLength 34 = .ok (.ireturn, 1) := by decide +kernel
theorem dX3_init_0 : decode cX3_init 0 = .ok (.aload_n 0, 1) := by decide +kernel
theorem dX3_init_1 : decode cX3_init 1 = .ok (.invokespecial 3, 3) := by decide +kernel
theorem dX3_init_4 : decode cX3_init 4 = .ok (.return_, 1) := by decide +kernel
theorem dX3_weigh_0 : decode cX3_weigh 0 = .ok (.aload_n 0, 1) := by decide +kernel
theorem dX3_weigh_1 : decode cX3_weigh 1 = .ok (.lconst 0, 1) := by decide +kernel
theorem dX3_weigh_2 : decode cX3_weigh 2 = .ok (.putfield 9, 3) := by decide +kernel
theorem dX3_weigh_5 : decode cX3_weigh 5 = .ok (.aload_n 0, 1) := by decide +kernel
theorem dX3_weigh_6 : decode cX3_weigh 6 = .ok (.lconst 0, 1) := by decide +kernel
theorem dX3_weigh_7 : decode cX3_weigh 7 = .ok (.putfield 15, 3) := by decide +kernel
theorem dX3_weigh_10 : decode cX3_weigh 10 = .ok (.aload_n 0, 1) := by decide +kernel
theorem dX3_weigh_11 : decode cX3_weigh 11 = .ok (.lconst 0, 1) := by decide +kernel
theorem dX3_weigh_12 : decode cX3_weigh 12 = .ok (.putfield 18, 3) := by decide +kernel
theorem dX3_weigh_15 : decode cX3_weigh 15 = .ok (.iconst 0, 1) := by decide +kernel
theorem dX3_weigh_16 : decode cX3_weigh 16 = .ok (.istore_n 3, 1) := by decide +kernel
theorem dX3_weigh_17 : decode cX3_weigh 17 = .ok (.iload_n 3, 1) := by decide +kernel
theorem dX3_weigh_18 : decode cX3_weigh 18 = .ok (.aload_n 1, 1) := by decide +kernel
theorem dX3_weigh_19 : decode cX3_weigh 19 = .ok (.getfield 21, 3) := by decide +kernel
theorem dX3_weigh_22 : decode cX3_weigh 22 = .ok (.if_icmp .ge 75, 3) := by decide +kernel
theorem dX3_weigh_25 : decode cX3_weigh 25 = .ok (.aload_n 1, 1) := by decide +kernel
theorem dX3_weigh_26 : decode cX3_weigh 26 = .ok (.iload_n 3, 1) := by decide +kernel
theorem dX3_weigh_27 : decode cX3_weigh 27 = .ok (.invokevirtual 27, 3) := by decide +kernel
theorem dX3_weigh_30 : decode cX3_weigh 30 = .ok (.lstore 4, 2) := by decide +kernel
theorem dX3_weigh_32 : decode cX3_weigh 32 = .ok (.aload_n 1, 1) := by decide +kernel
theorem dX3_weigh_33 : decode cX3_weigh 33 = .ok (.iload_n 3, 1) := by decide +kernel
theorem dX3_weigh_34 : decode cX3_weigh 34 = .ok (.iload_n 2, 1) := by decide +kernel
theorem dX3_weigh_35 : decode cX3_weigh 35 = .ok (.invokevirtual 31, 3) := by decide +kernel
theorem dX3_weigh_38 : decode cX3_weigh 38 = .ok (.istore 6, 2) := by decide +kernel
theorem dX3_weigh_40 : decode cX3_weigh 40 = .ok (.iload 6, 2) := by decide +kernel
theorem dX3_weigh_42 : decode cX3_weigh 42 = .ok (.iconst 1, 1) := by decide +kernel
theorem dX3_weigh_43 : decode cX3_weigh 43 = .ok (.if_icmp .ne 17, 3) := by decide +kernel
theorem dX3_weigh_46 : decode cX3_weigh 46 = .ok (.aload_n 0, 1) := by decide +kernel
theorem dX3_weigh_47 : decode cX3_weigh 47 = .ok (.dup, 1) := by decide +kernel
theorem dX3_weigh_48 : decode cX3_weigh 48 = .ok (.getfield 9, 3) := by decide +kernel
theorem dX3_weigh_51 : decode cX3_weigh 51 = .ok (.lload 4, 2) := by decide +kernel
theorem dX3_weigh_53 : decode cX3_weigh 53 = .ok (.ladd, 1) := by decide +kernel
theorem dX3_weigh_54 : decode cX3_weigh 54 = .ok (.putfield 9, 3) := by decide +kernel
theorem dX3_weigh_57 : decode cX3_weigh 57 = .ok (.goto 34, 3) := by decide +kernel
theorem dX3_weigh_60 : decode cX3_weigh 60 = .ok (.iload 6, 2) := by decide +kernel
theorem dX3_weigh_62 : decode cX3_weigh 62 = .ok (.iconst 2, 1) := by decide +kernel
theorem dX3_weigh_63 : decode cX3_weigh 63 = .ok (.if_icmp .ne 17, 3) := by decide +kernel
theorem dX3_weigh_66 : decode cX3_weigh 66 = .ok (.aload_n 0, 1) := by decide +kernel
theorem dX3_weigh_67 : decode cX3_weigh 67 = .ok (.dup, 1) := by decide +kernel
theorem dX3_weigh_68 : decode cX3_weigh 68 = .ok (.getfield 15, 3) := by decide +kernel
theorem dX3_weigh_71 : decode cX3_weigh 71 = .ok (.lload 4, 2) := by decide +kernel
theorem dX3_weigh_73 : decode cX3_weigh 73 = .ok (.ladd, 1) := by decide +kernel
theorem dX3_weigh_74 : decode cX3_weigh 74 = .ok (.putfield 15, 3) := by decide +kernel
theorem dX3_weigh_77 : decode cX3_weigh 77 = .ok (.goto 14, 3) := by decide +kernel
theorem dX3_weigh_80 : decode cX3_weigh 80 = .ok (.aload_n 0, 1) := by decide +kernel
theorem dX3_weigh_81 : decode cX3_weigh 81 = .ok (.dup, 1) := by decide +kernel
theorem dX3_weigh_82 : decode cX3_weigh 82 = .ok (.getfield 18, 3) := by decide +kernel
theorem dX3_weigh_85 : decode cX3_weigh 85 = .ok (.lload 4, 2) := by decide +kernel
theorem dX3_weigh_87 : decode cX3_weigh 87 = .ok (.ladd, 1) := by decide +kernel
theorem dX3_weigh_88 : decode cX3_weigh 88 = .ok (.putfield 18, 3) := by decide +kernel
theorem dX3_weigh_91 : decode cX3_weigh 91 = .ok (.iinc 3 1, 3) := by decide +kernel
theorem dX3_weigh_94 : decode cX3_weigh 94 = .ok (.goto (-77), 3) := by decide +kernel
theorem dX3_weigh_97 : decode cX3_weigh 97 = .ok (.return_, 1) := by decide +kernel
theorem dX3_leftIfThere_0 : decode cX3_leftIfThere 0 = .ok (.aload_n 0, 1) := by decide +kernel
theorem dX3_leftIfThere_1 : decode cX3_leftIfThere 1 = .ok (.getfield 9, 3) := by decide +kernel
theorem dX3_leftIfThere_4 : decode cX3_leftIfThere 4 = .ok (.aload_n 0, 1) := by decide +kernel
theorem dX3_leftIfThere_5 : decode cX3_leftIfThere 5 = .ok (.getfield 18, 3) := by decide +kernel
theorem dX3_leftIfThere_8 : decode cX3_leftIfThere 8 = .ok (.ladd, 1) := by decide +kernel
theorem dX3_leftIfThere_9 : decode cX3_leftIfThere 9 = .ok (.lreturn, 1) := by decide +kernel
theorem dX3_leftIfAbsent_0 : decode cX3_leftIfAbsent 0 = .ok (.aload_n 0, 1) := by decide +kernel
theorem dX3_leftIfAbsent_1 : decode cX3_leftIfAbsent 1 = .ok (.getfield 15, 3) := by decide +kernel
theorem dX3_leftIfAbsent_4 : decode cX3_leftIfAbsent 4 = .ok (.aload_n 0, 1) := by decide +kernel
theorem dX3_leftIfAbsent_5 : decode cX3_leftIfAbsent 5 = .ok (.getfield 18, 3) := by decide +kernel
theorem dX3_leftIfAbsent_8 : decode cX3_leftIfAbsent 8 = .ok (.ladd, 1) := by decide +kernel
theorem dX3_leftIfAbsent_9 : decode cX3_leftIfAbsent 9 = .ok (.lreturn, 1) := by decide +kernel
theorem dX3_worst_0 : decode cX3_worst 0 = .ok (.aload_n 0, 1) := by decide +kernel
theorem dX3_worst_1 : decode cX3_worst 1 = .ok (.invokevirtual 35, 3) := by decide +kernel
theorem dX3_worst_4 : decode cX3_worst 4 = .ok (.aload_n 0, 1) := by decide +kernel
theorem dX3_worst_5 : decode cX3_worst 5 = .ok (.invokevirtual 39, 3) := by decide +kernel
theorem dX3_worst_8 : decode cX3_worst 8 = .ok (.invokestatic 42, 3) := by decide +kernel
theorem dX3_worst_11 : decode cX3_worst 11 = .ok (.lreturn, 1) := by decide +kernel
theorem dX4_init_0 : decode cX4_init 0 = .ok (.aload_n 0, 1) := by decide +kernel
theorem dX4_init_1 : decode cX4_init 1 = .ok (.invokespecial 3, 3) := by decide +kernel
theorem dX4_init_4 : decode cX4_init 4 = .ok (.aload_n 0, 1) := by decide +kernel
theorem dX4_init_5 : decode cX4_init 5 = .ok (.bipush 12, 2) := by decide +kernel
theorem dX4_init_7 : decode cX4_init 7 = .ok (.newarray .int, 2) := by decide +kernel
theorem dX4_init_9 : decode cX4_init 9 = .ok (.putfield 9, 3) := by decide +kernel
theorem dX4_init_12 : decode cX4_init 12 = .ok (.aload_n 0, 1) := by decide +kernel
theorem dX4_init_13 : decode cX4_init 13 = .ok (.bipush 12, 2) := by decide +kernel
theorem dX4_init_15 : decode cX4_init 15 = .ok (.newarray .int, 2) := by decide +kernel
theorem dX4_init_17 : decode cX4_init 17 = .ok (.putfield 15, 3) := by decide +kernel
theorem dX4_init_20 : decode cX4_init 20 = .ok (.aload_n 0, 1) := by decide +kernel
theorem dX4_init_21 : decode cX4_init 21 = .ok (.bipush 12, 2) := by decide +kernel
theorem dX4_init_23 : decode cX4_init 23 = .ok (.newarray .int, 2) := by decide +kernel
theorem dX4_init_25 : decode cX4_init 25 = .ok (.putfield 18, 3) := by decide +kernel
theorem dX4_init_28 : decode cX4_init 28 = .ok (.return_, 1) := by decide +kernel
theorem dX4_add_0 : decode cX4_add 0 = .ok (.aload_n 0, 1) := by decide +kernel
theorem dX4_add_1 : decode cX4_add 1 = .ok (.getfield 21, 3) := by decide +kernel
theorem dX4_add_4 : decode cX4_add 4 = .ok (.bipush 12, 2) := by decide +kernel
theorem dX4_add_6 : decode cX4_add 6 = .ok (.if_icmp .lt 4, 3) := by decide +kernel
theorem dX4_add_9 : decode cX4_add 9 = .ok (.return_, 1) := by decide +kernel
theorem dX4_add_10 : decode cX4_add 10 = .ok (.aload_n 0, 1) := by decide +kernel
theorem dX4_add_11 : decode cX4_add 11 = .ok (.getfield 9, 3) := by decide +kernel
theorem dX4_add_14 : decode cX4_add 14 = .ok (.aload_n 0, 1) := by decide +kernel
theorem dX4_add_15 : decode cX4_add 15 = .ok (.getfield 21, 3) := by decide +kernel
theorem dX4_add_18 : decode cX4_add 18 = .ok (.iload_n 1, 1) := by decide +kernel
theorem dX4_add_19 : decode cX4_add 19 = .ok (.iastore, 1) := by decide +kernel
theorem dX4_add_20 : decode cX4_add 20 = .ok (.aload_n 0, 1) := by decide +kernel
theorem dX4_add_21 : decode cX4_add 21 = .ok (.getfield 15, 3) := by decide +kernel
theorem dX4_add_24 : decode cX4_add 24 = .ok (.aload_n 0, 1) := by decide +kernel
theorem dX4_add_25 : decode cX4_add 25 = .ok (.getfield 21, 3) := by decide +kernel
theorem dX4_add_28 : decode cX4_add 28 = .ok (.iload_n 2, 1) := by decide +kernel
theorem dX4_add_29 : decode cX4_add 29 = .ok (.iastore, 1) := by decide +kernel
theorem dX4_add_30 : decode cX4_add 30 = .ok (.aload_n 0, 1) := by decide +kernel
theorem dX4_add_31 : decode cX4_add 31 = .ok (.getfield 18, 3) := by decide +kernel
theorem dX4_add_34 : decode cX4_add 34 = .ok (.aload_n 0, 1) := by decide +kernel
theorem dX4_add_35 : decode cX4_add 35 = .ok (.getfield 21, 3) := by decide +kernel
theorem dX4_add_38 : decode cX4_add 38 = .ok (.iload_n 3, 1) := by decide +kernel
theorem dX4_add_39 : decode cX4_add 39 = .ok (.iastore, 1) := by decide +kernel
theorem dX4_add_40 : decode cX4_add 40 = .ok (.aload_n 0, 1) := by decide +kernel
theorem dX4_add_41 : decode cX4_add 41 = .ok (.dup, 1) := by decide +kernel
theorem dX4_add_42 : decode cX4_add 42 = .ok (.getfield 21, 3) := by decide +kernel
theorem dX4_add_45 : decode cX4_add 45 = .ok (.iconst 1, 1) := by decide +kernel
theorem dX4_add_46 : decode cX4_add 46 = .ok (.iadd, 1) := by decide +kernel
theorem dX4_add_47 : decode cX4_add 47 = .ok (.putfield 21, 3) := by decide +kernel
theorem dX4_add_50 : decode cX4_add 50 = .ok (.return_, 1) := by decide +kernel
theorem dX5_init_0 : decode cX5_init 0 = .ok (.aload_n 0, 1) := by decide +kernel
theorem dX5_init_1 : decode cX5_init 1 = .ok (.invokespecial 3, 3) := by decide +kernel
theorem dX5_init_4 : decode cX5_init 4 = .ok (.return_, 1) := by decide +kernel
theorem dX5_stateOf_0 : decode cX5_stateOf 0 = .ok (.aload_n 0, 1) := by decide +kernel
theorem dX5_stateOf_1 : decode cX5_stateOf 1 = .ok (.getfield 9, 3) := by decide +kernel
theorem dX5_stateOf_4 : decode cX5_stateOf 4 = .ok (.iload_n 1, 1) := by decide +kernel
theorem dX5_stateOf_5 : decode cX5_stateOf 5 = .ok (.invokestatic 15, 3) := by decide +kernel
theorem dX5_stateOf_8 : decode cX5_stateOf 8 = .ok (.ifCond .eq 5, 3) := by decide +kernel
theorem dX5_stateOf_11 : decode cX5_stateOf 11 = .ok (.iconst 1, 1) := by decide +kernel
theorem dX5_stateOf_12 : decode cX5_stateOf 12 = .ok (.ireturn, 1) := by decide +kernel
theorem dX5_stateOf_13 : decode cX5_stateOf 13 = .ok (.aload_n 0, 1) := by decide +kernel
theorem dX5_stateOf_14 : decode cX5_stateOf 14 = .ok (.getfield 19, 3) := by decide +kernel
theorem dX5_stateOf_17 : decode cX5_stateOf 17 = .ok (.iload_n 1, 1) := by decide +kernel
theorem dX5_stateOf_18 : decode cX5_stateOf 18 = .ok (.invokestatic 15, 3) := by decide +kernel
theorem dX5_stateOf_21 : decode cX5_stateOf 21 = .ok (.ifCond .eq 7, 3) := by decide +kernel
theorem dX5_stateOf_24 : decode cX5_stateOf 24 = .ok (.iconst 2, 1) := by decide +kernel
theorem dX5_stateOf_25 : decode cX5_stateOf 25 = .ok (.goto 4, 3) := by decide +kernel
theorem dX5_stateOf_28 : decode cX5_stateOf 28 = .ok (.iconst 0, 1) := by decide +kernel
theorem dX5_stateOf_29 : decode cX5_stateOf 29 = .ok (.ireturn, 1) := by decide +kernel
theorem dX5_put_0 : decode cX5_put 0 = .ok (.iconst 1, 1) := by decide +kernel
theorem dX5_put_1 : decode cX5_put 1 = .ok (.iload_n 1, 1) := by decide +kernel
theorem dX5_put_2 : decode cX5_put 2 = .ok (.ishl, 1) := by decide +kernel
theorem dX5_put_3 : decode cX5_put 3 = .ok (.iconst (-1), 1) := by decide +kernel
theorem dX5_put_4 : decode cX5_put 4 = .ok (.ixor, 1) := by decide +kernel
theorem dX5_put_5 : decode cX5_put 5 = .ok (.istore_n 3, 1) := by decide +kernel
theorem dX5_put_6 : decode cX5_put 6 = .ok (.aload_n 0, 1) := by decide +kernel
theorem dX5_put_7 : decode cX5_put 7 = .ok (.dup, 1) := by decide +kernel
theorem dX5_put_8 : decode cX5_put 8 = .ok (.getfield 9, 3) := by decide +kernel
theorem dX5_put_11 : decode cX5_put 11 = .ok (.iload_n 3, 1) := by decide +kernel
theorem dX5_put_12 : decode cX5_put 12 = .ok (.iand, 1) := by decide +kernel
theorem dX5_put_13 : decode cX5_put 13 = .ok (.putfield 9, 3) := by decide +kernel
theorem dX5_put_16 : decode cX5_put 16 = .ok (.aload_n 0, 1) := by decide +kernel
theorem dX5_put_17 : decode cX5_put 17 = .ok (.dup, 1) := by decide +kernel
theorem dX5_put_18 : decode cX5_put 18 = .ok (.getfield 19, 3) := by decide +kernel
theorem dX5_put_21 : decode cX5_put 21 = .ok (.iload_n 3, 1) := by decide +kernel
theorem dX5_put_22 : decode cX5_put 22 = .ok (.iand, 1) := by decide +kernel
theorem dX5_put_23 : decode cX5_put 23 = .ok (.putfield 19, 3) := by decide +kernel
theorem dX5_put_26 : decode cX5_put 26 = .ok (.iload_n 2, 1) := by decide +kernel
theorem dX5_put_27 : decode cX5_put 27 = .ok (.iconst 1, 1) := by decide +kernel
theorem dX5_put_28 : decode cX5_put 28 = .ok (.if_icmp .ne 18, 3) := by decide +kernel
theorem dX5_put_31 : decode cX5_put 31 = .ok (.aload_n 0, 1) := by decide +kernel
theorem dX5_put_32 : decode cX5_put 32 = .ok (.dup, 1) := by decide +kernel
theorem dX5_put_33 : decode cX5_put 33 = .ok (.getfield 9, 3) := by decide +kernel
theorem dX5_put_36 : decode cX5_put 36 = .ok (.iconst 1, 1) := by decide +kernel
theorem dX5_put_37 : decode cX5_put 37 = .ok (.iload_n 1, 1) := by decide +kernel
theorem dX5_put_38 : decode cX5_put 38 = .ok (.ishl, 1) := by decide +kernel
theorem dX5_put_39 : decode cX5_put 39 = .ok (.ior, 1) := by decide +kernel
theorem dX5_put_40 : decode cX5_put 40 = .ok (.putfield 9, 3) := by decide +kernel
theorem dX5_put_43 : decode cX5_put 43 = .ok (.goto 20, 3) := by decide +kernel
theorem dX5_put_46 : decode cX5_put 46 = .ok (.iload_n 2, 1) := by decide +kernel
theorem dX5_put_47 : decode cX5_put 47 = .ok (.iconst 2, 1) := by decide +kernel
theorem dX5_put_48 : decode cX5_put 48 = .ok (.if_icmp .ne 15, 3) := by decide +kernel
theorem dX5_put_51 : decode cX5_put 51 = .ok (.aload_n 0, 1) := by decide +kernel
theorem dX5_put_52 : decode cX5_put 52 = .ok (.dup, 1) := by decide +kernel
theorem dX5_put_53 : decode cX5_put 53 = .ok (.getfield 19, 3) := by decide +kernel
theorem dX5_put_56 : decode cX5_put 56 = .ok (.iconst 1, 1) := by decide +kernel
theorem dX5_put_57 : decode cX5_put 57 = .ok (.iload_n 1, 1) := by decide +kernel
theorem dX5_put_58 : decode cX5_put 58 = .ok (.ishl, 1) := by decide +kernel
theorem dX5_put_59 : decode cX5_put 59 = .ok (.ior, 1) := by decide +kernel
theorem dX5_put_60 : decode cX5_put 60 = .ok (.putfield 19, 3) := by decide +kernel
theorem dX5_put_63 : decode cX5_put 63 = .ok (.return_, 1) := by decide +kernel
theorem dX5_copyFrom_0 : decode cX5_copyFrom 0 = .ok (.aload_n 0, 1) := by decide +kernel
theorem dX5_copyFrom_1 : decode cX5_copyFrom 1 = .ok (.aload_n 1, 1) := by decide +kernel
theorem dX5_copyFrom_2 : decode cX5_copyFrom 2 = .ok (.getfield 9, 3) := by decide +kernel
theorem dX5_copyFrom_5 : decode cX5_copyFrom 5 = .ok (.putfield 9, 3) := by decide +kernel
theorem dX5_copyFrom_8 : decode cX5_copyFrom 8 = .ok (.aload_n 0, 1) := by decide +kernel
theorem dX5_copyFrom_9 : decode cX5_copyFrom 9 = .ok (.aload_n 1, 1) := by decide +kernel
theorem dX5_copyFrom_10 : decode cX5_copyFrom 10 = .ok (.getfield 19, 3) := by decide +kernel
theorem dX5_copyFrom_13 : decode cX5_copyFrom 13 = .ok (.putfield 19, 3) := by decide +kernel
theorem dX5_copyFrom_16 : decode cX5_copyFrom 16 = .ok (.return_, 1) := by decide +kernel
theorem dX6_init_0 : decode cX6_init 0 = .ok (.aload_n 0, 1) := by decide +kernel
theorem dX6_init_1 : decode cX6_init 1 = .ok (.invokespecial 5, 3) := by decide +kernel
theorem dX6_init_4 : decode cX6_init 4 = .ok (.aload_n 0, 1) := by decide +kernel
theorem dX6_init_5 : decode cX6_init 5 = .ok (.new 11, 3) := by decide +kernel
theorem dX6_init_8 : decode cX6_init 8 = .ok (.dup, 1) := by decide +kernel
theorem dX6_init_9 : decode cX6_init 9 = .ok (.invokespecial 13, 3) := by decide +kernel
theorem dX6_init_12 : decode cX6_init 12 = .ok (.putfield 14, 3) := by decide +kernel
theorem dX6_init_15 : decode cX6_init 15 = .ok (.aload_n 0, 1) := by decide +kernel
theorem dX6_init_16 : decode cX6_init 16 = .ok (.new 18, 3) := by decide +kernel
theorem dX6_init_19 : decode cX6_init 19 = .ok (.dup, 1) := by decide +kernel
theorem dX6_init_20 : decode cX6_init 20 = .ok (.invokespecial 20, 3) := by decide +kernel
theorem dX6_init_23 : decode cX6_init 23 = .ok (.putfield 21, 3) := by decide +kernel
theorem dX6_init_26 : decode cX6_init 26 = .ok (.aload_n 0, 1) := by decide +kernel
theorem dX6_init_27 : decode cX6_init 27 = .ok (.new 25, 3) := by decide +kernel
theorem dX6_init_30 : decode cX6_init 30 = .ok (.dup, 1) := by decide +kernel
theorem dX6_init_31 : decode cX6_init 31 = .ok (.invokespecial 27, 3) := by decide +kernel
theorem dX6_init_34 : decode cX6_init 34 = .ok (.putfield 28, 3) := by decide +kernel
theorem dX6_init_37 : decode cX6_init 37 = .ok (.aload_n 0, 1) := by decide +kernel
theorem dX6_init_38 : decode cX6_init 38 = .ok (.new 32, 3) := by decide +kernel
theorem dX6_init_41 : decode cX6_init 41 = .ok (.dup, 1) := by decide +kernel
theorem dX6_init_42 : decode cX6_init 42 = .ok (.aload_n 0, 1) := by decide +kernel
theorem dX6_init_43 : decode cX6_init 43 = .ok (.getfield 14, 3) := by decide +kernel
theorem dX6_init_46 : decode cX6_init 46 = .ok (.invokespecial 34, 3) := by decide +kernel
theorem dX6_init_49 : decode cX6_init 49 = .ok (.putfield 37, 3) := by decide +kernel
theorem dX6_init_52 : decode cX6_init 52 = .ok (.aload_n 0, 1) := by decide +kernel
theorem dX6_init_53 : decode cX6_init 53 = .ok (.new 18, 3) := by decide +kernel
theorem dX6_init_56 : decode cX6_init 56 = .ok (.dup, 1) := by decide +kernel
theorem dX6_init_57 : decode cX6_init 57 = .ok (.invokespecial 20, 3) := by decide +kernel
theorem dX6_init_60 : decode cX6_init 60 = .ok (.putfield 41, 3) := by decide +kernel
theorem dX6_init_63 : decode cX6_init 63 = .ok (.aload_n 0, 1) := by decide +kernel
theorem dX6_init_64 : decode cX6_init 64 = .ok (.new 32, 3) := by decide +kernel
theorem dX6_init_67 : decode cX6_init 67 = .ok (.dup, 1) := by decide +kernel
theorem dX6_init_68 : decode cX6_init 68 = .ok (.aload_n 0, 1) := by decide +kernel
theorem dX6_init_69 : decode cX6_init 69 = .ok (.getfield 14, 3) := by decide +kernel
theorem dX6_init_72 : decode cX6_init 72 = .ok (.invokespecial 34, 3) := by decide +kernel
theorem dX6_init_75 : decode cX6_init 75 = .ok (.putfield 44, 3) := by decide +kernel
theorem dX6_init_78 : decode cX6_init 78 = .ok (.aload_n 0, 1) := by decide +kernel
theorem dX6_init_79 : decode cX6_init 79 = .ok (.new 47, 3) := by decide +kernel
theorem dX6_init_82 : decode cX6_init 82 = .ok (.dup, 1) := by decide +kernel
theorem dX6_init_83 : decode cX6_init 83 = .ok (.invokespecial 49, 3) := by decide +kernel
theorem dX6_init_86 : decode cX6_init 86 = .ok (.putfield 50, 3) := by decide +kernel
theorem dX6_init_89 : decode cX6_init 89 = .ok (.aload_n 0, 1) := by decide +kernel
theorem dX6_init_90 : decode cX6_init 90 = .ok (.new 54, 3) := by decide +kernel
theorem dX6_init_93 : decode cX6_init 93 = .ok (.dup, 1) := by decide +kernel
theorem dX6_init_94 : decode cX6_init 94 = .ok (.invokespecial 56, 3) := by decide +kernel
theorem dX6_init_97 : decode cX6_init 97 = .ok (.putfield 57, 3) := by decide +kernel
theorem dX6_init_100 : decode cX6_init 100 = .ok (.return_, 1) := by decide +kernel
theorem dX6_cause_0 : decode cX6_cause 0 = .ok (.iload_n 1, 1) := by decide +kernel
theorem dX6_cause_1 : decode cX6_cause 1 = .ok (.invokestatic 61, 3) := by decide +kernel
theorem dX6_cause_4 : decode cX6_cause 4 = .ok (.ifCond .ne 5, 3) := by decide +kernel
theorem dX6_cause_7 : decode cX6_cause 7 = .ok (.iconst (-1), 1) := by decide +kernel
theorem dX6_cause_8 : decode cX6_cause 8 = .ok (.ireturn, 1) := by decide +kernel
theorem dX6_cause_9 : decode cX6_cause 9 = .ok (.iload_n 2, 1) := by decide +kernel
theorem dX6_cause_10 : decode cX6_cause 10 = .ok (.invokestatic 65, 3) := by decide +kernel
theorem dX6_cause_13 : decode cX6_cause 13 = .ok (.ifCond .eq 10, 3) := by decide +kernel
theorem dX6_cause_16 : decode cX6_cause 16 = .ok (.iload_n 3, 1) := by decide +kernel
theorem dX6_cause_17 : decode cX6_cause 17 = .ok (.invokestatic 65, 3) := by decide +kernel
theorem dX6_cause_20 : decode cX6_cause 20 = .ok (.ifCond .ne 6, 3) := by decide +kernel
theorem dX6_cause_23 : decode cX6_cause 23 = .ok (.bipush (-2), 2) := by decide +kernel
theorem dX6_cause_25 : decode cX6_cause 25 = .ok (.ireturn, 1) := by decide +kernel
theorem dX6_cause_26 : decode cX6_cause 26 = .ok (.aload_n 0, 1) := by decide +kernel
theorem dX6_cause_27 : decode cX6_cause 27 = .ok (.getfield 14, 3) := by decide +kernel
theorem dX6_cause_30 : decode cX6_cause 30 = .ok (.getfield 68, 3) := by decide +kernel
theorem dX6_cause_33 : decode cX6_cause 33 = .ok (.iload_n 1, 1) := by decide +kernel
theorem dX6_cause_34 : decode cX6_cause 34 = .ok (.iload_n 2, 1) := by decide +kernel
theorem dX6_cause_35 : decode cX6_cause 35 = .ok (.iastore, 1) := by decide +kernel
theorem dX6_cause_36 : decode cX6_cause 36 = .ok (.aload_n 0, 1) := by decide +kernel
theorem dX6_cause_37 : decode cX6_cause 37 = .ok (.getfield 14, 3) := by decide +kernel
theorem dX6_cause_40 : decode cX6_cause 40 = .ok (.getfield 72, 3) := by decide +kernel
theorem dX6_cause_43 : decode cX6_cause 43 = .ok (.iload_n 1, 1) := by decide +kernel
theorem dX6_cause_44 : decode cX6_cause 44 = .ok (.iload_n 3, 1) := by decide +kernel
theorem dX6_cause_45 : decode cX6_cause 45 = .ok (.iastore, 1) := by decide +kernel
theorem dX6_cause_46 : decode cX6_cause 46 = .ok (.aload_n 0, 1) := by decide +kernel
theorem dX6_cause_47 : decode cX6_cause 47 = .ok (.invokevirtual 75, 3) := by decide +kernel
theorem dX6_cause_50 : decode cX6_cause 50 = .ok (.iconst 1, 1) := by decide +kernel
theorem dX6_cause_51 : decode cX6_cause 51 = .ok (.ireturn, 1) := by decide +kernel
theorem dX6_link_0 : decode cX6_link 0 = .ok (.iload_n 1, 1) := by decide +kernel
theorem dX6_link_1 : decode cX6_link 1 = .ok (.invokestatic 78, 3) := by decide +kernel
theorem dX6_link_4 : decode cX6_link 4 = .ok (.ifCond .eq 10, 3) := by decide +kernel
theorem dX6_link_7 : decode cX6_link 7 = .ok (.iload_n 2, 1) := by decide +kernel
theorem dX6_link_8 : decode cX6_link 8 = .ok (.invokestatic 61, 3) := by decide +kernel
theorem dX6_link_11 : decode cX6_link 11 = .ok (.ifCond .ne 5, 3) := by decide +kernel
theorem dX6_link_14 : decode cX6_link 14 = .ok (.iconst (-1), 1) := by decide +kernel
theorem dX6_link_15 : decode cX6_link 15 = .ok (.ireturn, 1) := by decide +kernel
theorem dX6_link_16 : decode cX6_link 16 = .ok (.iload_n 3, 1) := by decide +kernel
theorem dX6_link_17 : decode cX6_link 17 = .ok (.ifCond .eq 16, 3) := by decide +kernel
theorem dX6_link_20 : decode cX6_link 20 = .ok (.iload_n 3, 1) := by decide +kernel
theorem dX6_link_21 : decode cX6_link 21 = .ok (.iconst 1, 1) := by decide +kernel
theorem dX6_link_22 : decode cX6_link 22 = .ok (.if_icmp .eq 11, 3) := by decide +kernel
theorem dX6_link_25 : decode cX6_link 25 = .ok (.iload_n 3, 1) := by decide +kernel
theorem dX6_link_26 : decode cX6_link 26 = .ok (.iconst 2, 1) := by decide +kernel
theorem dX6_link_27 : decode cX6_link 27 = .ok (.if_icmp .eq 6, 3) := by decide +kernel
theorem dX6_link_30 : decode cX6_link 30 = .ok (.bipush (-2), 2) := by decide +kernel
theorem dX6_link_32 : decode cX6_link 32 = .ok (.ireturn, 1) := by decide +kernel
theorem dX6_link_33 : decode cX6_link 33 = .ok (.aload_n 0, 1) := by decide +kernel
theorem dX6_link_34 : decode cX6_link 34 = .ok (.getfield 14, 3) := by decide +kernel
theorem dX6_link_37 : decode cX6_link 37 = .ok (.iload_n 1, 1) := by decide +kernel
theorem dX6_link_38 : decode cX6_link 38 = .ok (.iload_n 2, 1) := by decide +kernel
theorem dX6_link_39 : decode cX6_link 39 = .ok (.invokevirtual 81, 3) := by decide +kernel
theorem dX6_link_42 : decode cX6_link 42 = .ok (.istore 4, 2) := by decide +kernel
theorem dX6_link_44 : decode cX6_link 44 = .ok (.aload_n 0, 1) := by decide +kernel
theorem dX6_link_45 : decode cX6_link 45 = .ok (.getfield 14, 3) := by decide +kernel
theorem dX6_link_48 : decode cX6_link 48 = .ok (.iload_n 1, 1) := by decide +kernel
theorem dX6_link_49 : decode cX6_link 49 = .ok (.iload_n 2, 1) := by decide +kernel
theorem dX6_link_50 : decode cX6_link 50 = .ok (.iload_n 3, 1) := by decide +kernel
theorem dX6_link_51 : decode cX6_link 51 = .ok (.invokevirtual 85, 3) := by decide +kernel
theorem dX6_link_54 : decode cX6_link 54 = .ok (.aload_n 0, 1) := by decide +kernel
theorem dX6_link_55 : decode cX6_link 55 = .ok (.invokevirtual 75, 3) := by decide +kernel
theorem dX6_link_58 : decode cX6_link 58 = .ok (.iload 4, 2) := by decide +kernel
theorem dX6_link_60 : decode cX6_link 60 = .ok (.ireturn, 1) := by decide +kernel
theorem dX6_ofCause_0 : decode cX6_ofCause 0 = .ok (.iload_n 1, 1) := by decide +kernel
theorem dX6_ofCause_1 : decode cX6_ofCause 1 = .ok (.invokestatic 61, 3) := by decide +kernel
theorem dX6_ofCause_4 : decode cX6_ofCause 4 = .ok (.ifCond .ne 5, 3) := by decide +kernel
theorem dX6_ofCause_7 : decode cX6_ofCause 7 = .ok (.iconst (-1), 1) := by decide +kernel
theorem dX6_ofCause_8 : decode cX6_ofCause 8 = .ok (.ireturn, 1) := by decide +kernel
theorem dX6_ofCause_9 : decode cX6_ofCause 9 = .ok (.iload_n 2, 1) := by decide +kernel
theorem dX6_ofCause_10 : decode cX6_ofCause 10 = .ok (.tableswitch 114 0 5 #[38, 48, 58, 68, 78, 105], 38) := by decide +kernel
theorem dX6_ofCause_48 : decode cX6_ofCause 48 = .ok (.aload_n 0, 1) := by decide +kernel
theorem dX6_ofCause_49 : decode cX6_ofCause 49 = .ok (.getfield 14, 3) := by decide +kernel
theorem dX6_ofCause_52 : decode cX6_ofCause 52 = .ok (.getfield 68, 3) := by decide +kernel
theorem dX6_ofCause_55 : decode cX6_ofCause 55 = .ok (.iload_n 1, 1) := by decide +kernel
theorem dX6_ofCause_56 : decode cX6_ofCause 56 = .ok (.iaload, 1) := by decide +kernel
theorem dX6_ofCause_57 : decode cX6_ofCause 57 = .ok (.ireturn, 1) := by decide +kernel
theorem dX6_ofCause_58 : decode cX6_ofCause 58 = .ok (.aload_n 0, 1) := by decide +kernel
theorem dX6_ofCause_59 : decode cX6_ofCause 59 = .ok (.getfield 14, 3) := by decide +kernel
theorem dX6_ofCause_62 : decode cX6_ofCause 62 = .ok (.getfield 72, 3) := by decide +kernel
theorem dX6_ofCause_65 : decode cX6_ofCause 65 = .ok (.iload_n 1, 1) := by decide +kernel
theorem dX6_ofCause_66 : decode cX6_ofCause 66 = .ok (.iaload, 1) := by decide +kernel
theorem dX6_ofCause_67 : decode cX6_ofCause 67 = .ok (.ireturn, 1) := by decide +kernel
theorem dX6_ofCause_68 : decode cX6_ofCause 68 = .ok (.aload_n 0, 1) := by decide +kernel
theorem dX6_ofCause_69 : decode cX6_ofCause 69 = .ok (.getfield 14, 3) := by decide +kernel
theorem dX6_ofCause_72 : decode cX6_ofCause 72 = .ok (.getfield 89, 3) := by decide +kernel
theorem dX6_ofCause_75 : decode cX6_ofCause 75 = .ok (.iload_n 1, 1) := by decide +kernel
theorem dX6_ofCause_76 : decode cX6_ofCause 76 = .ok (.iaload, 1) := by decide +kernel
theorem dX6_ofCause_77 : decode cX6_ofCause 77 = .ok (.ireturn, 1) := by decide +kernel
theorem dX6_ofCause_78 : decode cX6_ofCause 78 = .ok (.aload_n 0, 1) := by decide +kernel
theorem dX6_ofCause_79 : decode cX6_ofCause 79 = .ok (.getfield 14, 3) := by decide +kernel
theorem dX6_ofCause_82 : decode cX6_ofCause 82 = .ok (.getfield 92, 3) := by decide +kernel
theorem dX6_ofCause_85 : decode cX6_ofCause 85 = .ok (.iload_n 1, 1) := by decide +kernel
theorem dX6_ofCause_86 : decode cX6_ofCause 86 = .ok (.iaload, 1) := by decide +kernel
theorem dX6_ofCause_87 : decode cX6_ofCause 87 = .ok (.ireturn, 1) := by decide +kernel
theorem dX6_ofCause_88 : decode cX6_ofCause 88 = .ok (.aload_n 0, 1) := by decide +kernel
theorem dX6_ofCause_89 : decode cX6_ofCause 89 = .ok (.getfield 14, 3) := by decide +kernel
theorem dX6_ofCause_92 : decode cX6_ofCause 92 = .ok (.aload_n 0, 1) := by decide +kernel
theorem dX6_ofCause_93 : decode cX6_ofCause 93 = .ok (.getfield 21, 3) := by decide +kernel
theorem dX6_ofCause_96 : decode cX6_ofCause 96 = .ok (.getfield 95, 3) := by decide +kernel
theorem dX6_ofCause_99 : decode cX6_ofCause 99 = .ok (.invokevirtual 99, 3) := by decide +kernel
theorem dX6_ofCause_102 : decode cX6_ofCause 102 = .ok (.iload_n 1, 1) := by decide +kernel
theorem dX6_ofCause_103 : decode cX6_ofCause 103 = .ok (.invokestatic 103, 3) := by decide +kernel
theorem dX6_ofCause_106 : decode cX6_ofCause 106 = .ok (.ifCond .eq 7, 3) := by decide +kernel
theorem dX6_ofCause_109 : decode cX6_ofCause 109 = .ok (.iconst 1, 1) := by decide +kernel
theorem dX6_ofCause_110 : decode cX6_ofCause 110 = .ok (.goto 4, 3) := by decide +kernel
theorem dX6_ofCause_113 : decode cX6_ofCause 113 = .ok (.iconst 0, 1) := by decide +kernel
theorem dX6_ofCause_114 : decode cX6_ofCause 114 = .ok (.ireturn, 1) := by decide +kernel
theorem dX6_ofCause_115 : decode cX6_ofCause 115 = .ok (.aload_n 0, 1) := by decide +kernel
theorem dX6_ofCause_116 : decode cX6_ofCause 116 = .ok (.invokevirtual 107, 3) := by decide +kernel
theorem dX6_ofCause_119 : decode cX6_ofCause 119 = .ok (.iload_n 1, 1) := by decide +kernel
theorem dX6_ofCause_120 : decode cX6_ofCause 120 = .ok (.invokevirtual 111, 3) := by decide +kernel
theorem dX6_ofCause_123 : decode cX6_ofCause 123 = .ok (.ireturn, 1) := by decide +kernel
theorem dX6_ofCause_124 : decode cX6_ofCause 124 = .ok (.bipush (-2), 2) := by decide +kernel
theorem dX6_ofCause_126 : decode cX6_ofCause 126 = .ok (.ireturn, 1) := by decide +kernel
theorem dX6_ofFinding_0 : decode cX6_ofFinding 0 = .ok (.iload_n 1, 1) := by decide +kernel
theorem dX6_ofFinding_1 : decode cX6_ofFinding 1 = .ok (.invokestatic 78, 3) := by decide +kernel
theorem dX6_ofFinding_4 : decode cX6_ofFinding 4 = .ok (.ifCond .ne 5, 3) := by decide +kernel
theorem dX6_ofFinding_7 : decode cX6_ofFinding 7 = .ok (.iconst (-1), 1) := by decide +kernel
theorem dX6_ofFinding_8 : decode cX6_ofFinding 8 = .ok (.ireturn, 1) := by decide +kernel
theorem dX6_ofFinding_9 : decode cX6_ofFinding 9 = .ok (.iload_n 2, 1) := by decide +kernel
theorem dX6_ofFinding_10 : decode cX6_ofFinding 10 = .ok (.tableswitch 83 0 4 #[34, 43, 53, 63, 73], 34) := by decide +kernel
theorem dX6_ofFinding_44 : decode cX6_ofFinding 44 = .ok (.aload_n 0, 1) := by decide +kernel
theorem dX6_ofFinding_45 : decode cX6_ofFinding 45 = .ok (.getfield 21, 3) := by decide +kernel
theorem dX6_ofFinding_48 : decode cX6_ofFinding 48 = .ok (.iload_n 1, 1) := by decide +kernel
theorem dX6_ofFinding_49 : decode cX6_ofFinding 49 = .ok (.invokevirtual 114, 3) := by decide +kernel
theorem dX6_ofFinding_52 : decode cX6_ofFinding 52 = .ok (.ireturn, 1) := by decide +kernel
theorem dX6_ofFinding_53 : decode cX6_ofFinding 53 = .ok (.aload_n 0, 1) := by decide +kernel
theorem dX6_ofFinding_54 : decode cX6_ofFinding 54 = .ok (.getfield 14, 3) := by decide +kernel
theorem dX6_ofFinding_57 : decode cX6_ofFinding 57 = .ok (.getfield 117, 3) := by decide +kernel
theorem dX6_ofFinding_60 : decode cX6_ofFinding 60 = .ok (.iload_n 1, 1) := by decide +kernel
theorem dX6_ofFinding_61 : decode cX6_ofFinding 61 = .ok (.iaload, 1) := by decide +kernel
theorem dX6_ofFinding_62 : decode cX6_ofFinding 62 = .ok (.ireturn, 1) := by decide +kernel
theorem dX6_ofFinding_63 : decode cX6_ofFinding 63 = .ok (.aload_n 0, 1) := by decide +kernel
theorem dX6_ofFinding_64 : decode cX6_ofFinding 64 = .ok (.getfield 14, 3) := by decide +kernel
theorem dX6_ofFinding_67 : decode cX6_ofFinding 67 = .ok (.getfield 120, 3) := by decide +kernel
theorem dX6_ofFinding_70 : decode cX6_ofFinding 70 = .ok (.iload_n 1, 1) := by decide +kernel
theorem dX6_ofFinding_71 : decode cX6_ofFinding 71 = .ok (.iaload, 1) := by decide +kernel
theorem dX6_ofFinding_72 : decode cX6_ofFinding 72 = .ok (.ireturn, 1) := by decide +kernel
theorem dX6_ofFinding_73 : decode cX6_ofFinding 73 = .ok (.aload_n 0, 1) := by decide +kernel
theorem dX6_ofFinding_74 : decode cX6_ofFinding 74 = .ok (.invokevirtual 107, 3) := by decide +kernel
theorem dX6_ofFinding_77 : decode cX6_ofFinding 77 = .ok (.iload_n 1, 1) := by decide +kernel
theorem dX6_ofFinding_78 : decode cX6_ofFinding 78 = .ok (.iconst 1, 1) := by decide +kernel
theorem dX6_ofFinding_79 : decode cX6_ofFinding 79 = .ok (.invokevirtual 123, 3) := by decide +kernel
theorem dX6_ofFinding_82 : decode cX6_ofFinding 82 = .ok (.ireturn, 1) := by decide +kernel
theorem dX6_ofFinding_83 : decode cX6_ofFinding 83 = .ok (.aload_n 0, 1) := by decide +kernel
theorem dX6_ofFinding_84 : decode cX6_ofFinding 84 = .ok (.invokevirtual 107, 3) := by decide +kernel
theorem dX6_ofFinding_87 : decode cX6_ofFinding 87 = .ok (.iload_n 1, 1) := by decide +kernel
theorem dX6_ofFinding_88 : decode cX6_ofFinding 88 = .ok (.iconst 2, 1) := by decide +kernel
theorem dX6_ofFinding_89 : decode cX6_ofFinding 89 = .ok (.invokevirtual 123, 3) := by decide +kernel
theorem dX6_ofFinding_92 : decode cX6_ofFinding 92 = .ok (.ireturn, 1) := by decide +kernel
theorem dX6_ofFinding_93 : decode cX6_ofFinding 93 = .ok (.bipush (-2), 2) := by decide +kernel
theorem dX6_ofFinding_95 : decode cX6_ofFinding 95 = .ok (.ireturn, 1) := by decide +kernel
theorem dX6_tell_0 : decode cX6_tell 0 = .ok (.iload_n 1, 1) := by decide +kernel
theorem dX6_tell_1 : decode cX6_tell 1 = .ok (.invokestatic 78, 3) := by decide +kernel
theorem dX6_tell_4 : decode cX6_tell 4 = .ok (.ifCond .ne 5, 3) := by decide +kernel
theorem dX6_tell_7 : decode cX6_tell 7 = .ok (.iconst (-1), 1) := by decide +kernel
theorem dX6_tell_8 : decode cX6_tell 8 = .ok (.ireturn, 1) := by decide +kernel
theorem dX6_tell_9 : decode cX6_tell 9 = .ok (.iload_n 2, 1) := by decide +kernel
theorem dX6_tell_10 : decode cX6_tell 10 = .ok (.ifCond .eq 11, 3) := by decide +kernel
theorem dX6_tell_13 : decode cX6_tell 13 = .ok (.iload_n 2, 1) := by decide +kernel
theorem dX6_tell_14 : decode cX6_tell 14 = .ok (.iconst 1, 1) := by decide +kernel
theorem dX6_tell_15 : decode cX6_tell 15 = .ok (.if_icmp .eq 6, 3) := by decide +kernel
theorem dX6_tell_18 : decode cX6_tell 18 = .ok (.bipush (-2), 2) := by decide +kernel
theorem dX6_tell_20 : decode cX6_tell 20 = .ok (.ireturn, 1) := by decide +kernel
theorem dX6_tell_21 : decode cX6_tell 21 = .ok (.aload_n 0, 1) := by decide +kernel
theorem dX6_tell_22 : decode cX6_tell 22 = .ok (.iload_n 1, 1) := by decide +kernel
theorem dX6_tell_23 : decode cX6_tell 23 = .ok (.iload_n 2, 1) := by decide +kernel
theorem dX6_tell_24 : decode cX6_tell 24 = .ok (.iconst 1, 1) := by decide +kernel
theorem dX6_tell_25 : decode cX6_tell 25 = .ok (.if_icmp .ne 7, 3) := by decide +kernel
theorem dX6_tell_28 : decode cX6_tell 28 = .ok (.iconst 1, 1) := by decide +kernel
theorem dX6_tell_29 : decode cX6_tell 29 = .ok (.goto 4, 3) := by decide +kernel
theorem dX6_tell_32 : decode cX6_tell 32 = .ok (.iconst 2, 1) := by decide +kernel
theorem dX6_tell_33 : decode cX6_tell 33 = .ok (.invokevirtual 126, 3) := by decide +kernel
theorem dX6_tell_36 : decode cX6_tell 36 = .ok (.ireturn, 1) := by decide +kernel
theorem dX6_withdraw_0 : decode cX6_withdraw 0 = .ok (.iload_n 1, 1) := by decide +kernel
theorem dX6_withdraw_1 : decode cX6_withdraw 1 = .ok (.invokestatic 78, 3) := by decide +kernel
theorem dX6_withdraw_4 : decode cX6_withdraw 4 = .ok (.ifCond .ne 5, 3) := by decide +kernel
theorem dX6_withdraw_7 : decode cX6_withdraw 7 = .ok (.iconst (-1), 1) := by decide +kernel
theorem dX6_withdraw_8 : decode cX6_withdraw 8 = .ok (.ireturn, 1) := by decide +kernel
theorem dX6_withdraw_9 : decode cX6_withdraw 9 = .ok (.aload_n 0, 1) := by decide +kernel
theorem dX6_withdraw_10 : decode cX6_withdraw 10 = .ok (.getfield 21, 3) := by decide +kernel
theorem dX6_withdraw_13 : decode cX6_withdraw 13 = .ok (.iload_n 1, 1) := by decide +kernel
theorem dX6_withdraw_14 : decode cX6_withdraw 14 = .ok (.invokevirtual 114, 3) := by decide +kernel
theorem dX6_withdraw_17 : decode cX6_withdraw 17 = .ok (.ifCond .ne 6, 3) := by decide +kernel
theorem dX6_withdraw_20 : decode cX6_withdraw 20 = .ok (.bipush (-3), 2) := by decide +kernel
theorem dX6_withdraw_22 : decode cX6_withdraw 22 = .ok (.ireturn, 1) := by decide +kernel
theorem dX6_withdraw_23 : decode cX6_withdraw 23 = .ok (.aload_n 0, 1) := by decide +kernel
theorem dX6_withdraw_24 : decode cX6_withdraw 24 = .ok (.iload_n 1, 1) := by decide +kernel
theorem dX6_withdraw_25 : decode cX6_withdraw 25 = .ok (.iconst 0, 1) := by decide +kernel
theorem dX6_withdraw_26 : decode cX6_withdraw 26 = .ok (.invokevirtual 126, 3) := by decide +kernel
theorem dX6_withdraw_29 : decode cX6_withdraw 29 = .ok (.ireturn, 1) := by decide +kernel
theorem dX6_back_0 : decode cX6_back 0 = .ok (.aload_n 0, 1) := by decide +kernel
theorem dX6_back_1 : decode cX6_back 1 = .ok (.getfield 28, 3) := by decide +kernel
theorem dX6_back_4 : decode cX6_back 4 = .ok (.getfield 129, 3) := by decide +kernel
theorem dX6_back_7 : decode cX6_back 7 = .ok (.ifCond .ne 6, 3) := by decide +kernel
theorem dX6_back_10 : decode cX6_back 10 = .ok (.bipush (-3), 2) := by decide +kernel
theorem dX6_back_12 : decode cX6_back 12 = .ok (.ireturn, 1) := by decide +kernel
theorem dX6_back_13 : decode cX6_back 13 = .ok (.aload_n 0, 1) := by decide +kernel
theorem dX6_back_14 : decode cX6_back 14 = .ok (.getfield 28, 3) := by decide +kernel
theorem dX6_back_17 : decode cX6_back 17 = .ok (.aload_n 0, 1) := by decide +kernel
theorem dX6_back_18 : decode cX6_back 18 = .ok (.getfield 21, 3) := by decide +kernel
theorem dX6_back_21 : decode cX6_back 21 = .ok (.invokevirtual 132, 3) := by decide +kernel
theorem dX6_back_24 : decode cX6_back 24 = .ok (.aload_n 0, 1) := by decide +kernel
theorem dX6_back_25 : decode cX6_back 25 = .ok (.invokevirtual 75, 3) := by decide +kernel
theorem dX6_back_28 : decode cX6_back 28 = .ok (.aload_n 0, 1) := by decide +kernel
theorem dX6_back_29 : decode cX6_back 29 = .ok (.invokevirtual 107, 3) := by decide +kernel
theorem dX6_back_32 : decode cX6_back 32 = .ok (.getfield 136, 3) := by decide +kernel
theorem dX6_back_35 : decode cX6_back 35 = .ok (.ireturn, 1) := by decide +kernel
theorem dX6_anew_0 : decode cX6_anew 0 = .ok (.aload_n 0, 1) := by decide +kernel
theorem dX6_anew_1 : decode cX6_anew 1 = .ok (.getfield 21, 3) := by decide +kernel
theorem dX6_anew_4 : decode cX6_anew 4 = .ok (.getfield 137, 3) := by decide +kernel
theorem dX6_anew_7 : decode cX6_anew 7 = .ok (.aload_n 0, 1) := by decide +kernel
theorem dX6_anew_8 : decode cX6_anew 8 = .ok (.getfield 21, 3) := by decide +kernel
theorem dX6_anew_11 : decode cX6_anew 11 = .ok (.getfield 95, 3) := by decide +kernel
theorem dX6_anew_14 : decode cX6_anew 14 = .ok (.ior, 1) := by decide +kernel
theorem dX6_anew_15 : decode cX6_anew 15 = .ok (.invokestatic 140, 3) := by decide +kernel
theorem dX6_anew_18 : decode cX6_anew 18 = .ok (.istore_n 1, 1) := by decide +kernel
theorem dX6_anew_19 : decode cX6_anew 19 = .ok (.aload_n 0, 1) := by decide +kernel
theorem dX6_anew_20 : decode cX6_anew 20 = .ok (.getfield 21, 3) := by decide +kernel
theorem dX6_anew_23 : decode cX6_anew 23 = .ok (.iconst 0, 1) := by decide +kernel
theorem dX6_anew_24 : decode cX6_anew 24 = .ok (.putfield 137, 3) := by decide +kernel
theorem dX6_anew_27 : decode cX6_anew 27 = .ok (.aload_n 0, 1) := by decide +kernel
theorem dX6_anew_28 : decode cX6_anew 28 = .ok (.getfield 21, 3) := by decide +kernel
theorem dX6_anew_31 : decode cX6_anew 31 = .ok (.iconst 0, 1) := by decide +kernel
theorem dX6_anew_32 : decode cX6_anew 32 = .ok (.putfield 95, 3) := by decide +kernel
theorem dX6_anew_35 : decode cX6_anew 35 = .ok (.aload_n 0, 1) := by decide +kernel
theorem dX6_anew_36 : decode cX6_anew 36 = .ok (.getfield 28, 3) := by decide +kernel
theorem dX6_anew_39 : decode cX6_anew 39 = .ok (.iconst 0, 1) := by decide +kernel
theorem dX6_anew_40 : decode cX6_anew 40 = .ok (.putfield 129, 3) := by decide +kernel
theorem dX6_anew_43 : decode cX6_anew 43 = .ok (.aload_n 0, 1) := by decide +kernel
theorem dX6_anew_44 : decode cX6_anew 44 = .ok (.invokevirtual 75, 3) := by decide +kernel
theorem dX6_anew_47 : decode cX6_anew 47 = .ok (.iload_n 1, 1) := by decide +kernel
theorem dX6_anew_48 : decode cX6_anew 48 = .ok (.ireturn, 1) := by decide +kernel
theorem dX6_explanation_0 : decode cX6_explanation 0 = .ok (.aload_n 0, 1) := by decide +kernel
theorem dX6_explanation_1 : decode cX6_explanation 1 = .ok (.invokevirtual 107, 3) := by decide +kernel
theorem dX6_explanation_4 : decode cX6_explanation 4 = .ok (.astore_n 3, 1) := by decide +kernel
theorem dX6_explanation_5 : decode cX6_explanation 5 = .ok (.aload_n 3, 1) := by decide +kernel
theorem dX6_explanation_6 : decode cX6_explanation 6 = .ok (.iload_n 1, 1) := by decide +kernel
theorem dX6_explanation_7 : decode cX6_explanation 7 = .ok (.invokevirtual 145, 3) := by decide +kernel
theorem dX6_explanation_10 : decode cX6_explanation 10 = .ok (.ifCond .ne 5, 3) := by decide +kernel
theorem dX6_explanation_13 : decode cX6_explanation 13 = .ok (.iconst (-1), 1) := by decide +kernel
theorem dX6_explanation_14 : decode cX6_explanation 14 = .ok (.ireturn, 1) := by decide +kernel
theorem dX6_explanation_15 : decode cX6_explanation 15 = .ok (.aload_n 3, 1) := by decide +kernel
theorem dX6_explanation_16 : decode cX6_explanation 16 = .ok (.iload_n 1, 1) := by decide +kernel
theorem dX6_explanation_17 : decode cX6_explanation 17 = .ok (.invokevirtual 148, 3) := by decide +kernel
theorem dX6_explanation_20 : decode cX6_explanation 20 = .ok (.istore 4, 2) := by decide +kernel
theorem dX6_explanation_22 : decode cX6_explanation 22 = .ok (.iload_n 2, 1) := by decide +kernel
theorem dX6_explanation_23 : decode cX6_explanation 23 = .ok (.lookupswitch 34 #[(0, 25), (1, 28)], 25) := by decide +kernel
theorem dX6_explanation_48 : decode cX6_explanation 48 = .ok (.iload 4, 2) := by decide +kernel
theorem dX6_explanation_50 : decode cX6_explanation 50 = .ok (.ireturn, 1) := by decide +kernel
theorem dX6_explanation_51 : decode cX6_explanation 51 = .ok (.iload 4, 2) := by decide +kernel
theorem dX6_explanation_53 : decode cX6_explanation 53 = .ok (.invokestatic 140, 3) := by decide +kernel
theorem dX6_explanation_56 : decode cX6_explanation 56 = .ok (.ireturn, 1) := by decide +kernel
theorem dX6_explanation_57 : decode cX6_explanation 57 = .ok (.bipush (-2), 2) := by decide +kernel
theorem dX6_explanation_59 : decode cX6_explanation 59 = .ok (.ireturn, 1) := by decide +kernel
theorem dX6_weight_0 : decode cX6_weight 0 = .ok (.aload_n 0, 1) := by decide +kernel
theorem dX6_weight_1 : decode cX6_weight 1 = .ok (.invokevirtual 107, 3) := by decide +kernel
theorem dX6_weight_4 : decode cX6_weight 4 = .ok (.astore_n 2, 1) := by decide +kernel
theorem dX6_weight_5 : decode cX6_weight 5 = .ok (.aload_n 2, 1) := by decide +kernel
theorem dX6_weight_6 : decode cX6_weight 6 = .ok (.iload_n 1, 1) := by decide +kernel
theorem dX6_weight_7 : decode cX6_weight 7 = .ok (.invokevirtual 145, 3) := by decide +kernel
theorem dX6_weight_10 : decode cX6_weight 10 = .ok (.ifCond .eq 11, 3) := by decide +kernel
theorem dX6_weight_13 : decode cX6_weight 13 = .ok (.aload_n 2, 1) := by decide +kernel
theorem dX6_weight_14 : decode cX6_weight 14 = .ok (.iload_n 1, 1) := by decide +kernel
theorem dX6_weight_15 : decode cX6_weight 15 = .ok (.invokevirtual 151, 3) := by decide +kernel
theorem dX6_weight_18 : decode cX6_weight 18 = .ok (.goto 6, 3) := by decide +kernel
theorem dX6_weight_21 : decode cX6_weight 21 = .ok (.ldc2_w 155, 3) := by decide +kernel
theorem dX6_weight_24 : decode cX6_weight 24 = .ok (.lreturn, 1) := by decide +kernel
theorem dX6_share_0 : decode cX6_share 0 = .ok (.aload_n 0, 1) := by decide +kernel
theorem dX6_share_1 : decode cX6_share 1 = .ok (.invokevirtual 107, 3) := by decide +kernel
theorem dX6_share_4 : decode cX6_share 4 = .ok (.astore_n 3, 1) := by decide +kernel
theorem dX6_share_5 : decode cX6_share 5 = .ok (.aload_n 3, 1) := by decide +kernel
theorem dX6_share_6 : decode cX6_share 6 = .ok (.iload_n 1, 1) := by decide +kernel
theorem dX6_share_7 : decode cX6_share 7 = .ok (.invokevirtual 145, 3) := by decide +kernel
theorem dX6_share_10 : decode cX6_share 10 = .ok (.ifCond .eq 10, 3) := by decide +kernel
theorem dX6_share_13 : decode cX6_share 13 = .ok (.iload_n 2, 1) := by decide +kernel
theorem dX6_share_14 : decode cX6_share 14 = .ok (.invokestatic 157, 3) := by decide +kernel
theorem dX6_share_17 : decode cX6_share 17 = .ok (.ifCond .ne 7, 3) := by decide +kernel
theorem dX6_share_20 : decode cX6_share 20 = .ok (.ldc2_w 155, 3) := by decide +kernel
theorem dX6_share_23 : decode cX6_share 23 = .ok (.lreturn, 1) := by decide +kernel
theorem dX6_share_24 : decode cX6_share 24 = .ok (.aload_n 3, 1) := by decide +kernel
theorem dX6_share_25 : decode cX6_share 25 = .ok (.iload_n 1, 1) := by decide +kernel
theorem dX6_share_26 : decode cX6_share 26 = .ok (.invokevirtual 151, 3) := by decide +kernel
theorem dX6_share_29 : decode cX6_share 29 = .ok (.aload_n 3, 1) := by decide +kernel
theorem dX6_share_30 : decode cX6_share 30 = .ok (.getfield 160, 3) := by decide +kernel
theorem dX6_share_33 : decode cX6_share 33 = .ok (.iload_n 2, 1) := by decide +kernel
theorem dX6_share_34 : decode cX6_share 34 = .ok (.invokestatic 164, 3) := by decide +kernel
theorem dX6_share_37 : decode cX6_share 37 = .ok (.lreturn, 1) := by decide +kernel
theorem dX6_needs_0 : decode cX6_needs 0 = .ok (.aload_n 0, 1) := by decide +kernel
theorem dX6_needs_1 : decode cX6_needs 1 = .ok (.invokevirtual 107, 3) := by decide +kernel
theorem dX6_needs_4 : decode cX6_needs 4 = .ok (.astore_n 3, 1) := by decide +kernel
theorem dX6_needs_5 : decode cX6_needs 5 = .ok (.aload_n 3, 1) := by decide +kernel
theorem dX6_needs_6 : decode cX6_needs 6 = .ok (.iload_n 1, 1) := by decide +kernel
theorem dX6_needs_7 : decode cX6_needs 7 = .ok (.invokevirtual 145, 3) := by decide +kernel
theorem dX6_needs_10 : decode cX6_needs 10 = .ok (.ifCond .eq 10, 3) := by decide +kernel
theorem dX6_needs_13 : decode cX6_needs 13 = .ok (.iload_n 2, 1) := by decide +kernel
theorem dX6_needs_14 : decode cX6_needs 14 = .ok (.invokestatic 61, 3) := by decide +kernel
theorem dX6_needs_17 : decode cX6_needs 17 = .ok (.ifCond .ne 5, 3) := by decide +kernel
theorem dX6_needs_20 : decode cX6_needs 20 = .ok (.iconst (-1), 1) := by decide +kernel
theorem dX6_needs_21 : decode cX6_needs 21 = .ok (.ireturn, 1) := by decide +kernel
theorem dX6_needs_22 : decode cX6_needs 22 = .ok (.aload_n 3, 1) := by decide +kernel
theorem dX6_needs_23 : decode cX6_needs 23 = .ok (.iload_n 1, 1) := by decide +kernel
theorem dX6_needs_24 : decode cX6_needs 24 = .ok (.invokevirtual 148, 3) := by decide +kernel
theorem dX6_needs_27 : decode cX6_needs 27 = .ok (.istore 4, 2) := by decide +kernel
theorem dX6_needs_29 : decode cX6_needs 29 = .ok (.iload 4, 2) := by decide +kernel
theorem dX6_needs_31 : decode cX6_needs 31 = .ok (.iload_n 2, 1) := by decide +kernel
theorem dX6_needs_32 : decode cX6_needs 32 = .ok (.invokestatic 103, 3) := by decide +kernel
theorem dX6_needs_35 : decode cX6_needs 35 = .ok (.ifCond .eq 23, 3) := by decide +kernel
theorem dX6_needs_38 : decode cX6_needs 38 = .ok (.aload_n 0, 1) := by decide +kernel
theorem dX6_needs_39 : decode cX6_needs 39 = .ok (.getfield 14, 3) := by decide +kernel
theorem dX6_needs_42 : decode cX6_needs 42 = .ok (.iload 4, 2) := by decide +kernel
theorem dX6_needs_44 : decode cX6_needs 44 = .ok (.iload_n 2, 1) := by decide +kernel
theorem dX6_needs_45 : decode cX6_needs 45 = .ok (.aload_n 0, 1) := by decide +kernel
theorem dX6_needs_46 : decode cX6_needs 46 = .ok (.getfield 21, 3) := by decide +kernel
theorem dX6_needs_49 : decode cX6_needs 49 = .ok (.getfield 137, 3) := by decide +kernel
theorem dX6_needs_52 : decode cX6_needs 52 = .ok (.invokevirtual 168, 3) := by decide +kernel
theorem dX6_needs_55 : decode cX6_needs 55 = .ok (.goto 5, 3) := by decide +kernel
theorem dX6_needs_58 : decode cX6_needs 58 = .ok (.bipush (-9), 2) := by decide +kernel
theorem dX6_needs_60 : decode cX6_needs 60 = .ok (.ireturn, 1) := by decide +kernel
theorem dX6_sets_0 : decode cX6_sets 0 = .ok (.iload_n 1, 1) := by decide +kernel
theorem dX6_sets_1 : decode cX6_sets 1 = .ok (.tableswitch 58 0 2 #[27, 35, 43], 27) := by decide +kernel
theorem dX6_sets_28 : decode cX6_sets 28 = .ok (.aload_n 0, 1) := by decide +kernel
theorem dX6_sets_29 : decode cX6_sets 29 = .ok (.invokevirtual 107, 3) := by decide +kernel
theorem dX6_sets_32 : decode cX6_sets 32 = .ok (.invokevirtual 172, 3) := by decide +kernel
theorem dX6_sets_35 : decode cX6_sets 35 = .ok (.ireturn, 1) := by decide +kernel
theorem dX6_sets_36 : decode cX6_sets 36 = .ok (.aload_n 0, 1) := by decide +kernel
theorem dX6_sets_37 : decode cX6_sets 37 = .ok (.invokevirtual 107, 3) := by decide +kernel
theorem dX6_sets_40 : decode cX6_sets 40 = .ok (.invokevirtual 176, 3) := by decide +kernel
theorem dX6_sets_43 : decode cX6_sets 43 = .ok (.ireturn, 1) := by decide +kernel
theorem dX6_sets_44 : decode cX6_sets 44 = .ok (.aload_n 0, 1) := by decide +kernel
theorem dX6_sets_45 : decode cX6_sets 45 = .ok (.getfield 14, 3) := by decide +kernel
theorem dX6_sets_48 : decode cX6_sets 48 = .ok (.aload_n 0, 1) := by decide +kernel
theorem dX6_sets_49 : decode cX6_sets 49 = .ok (.getfield 21, 3) := by decide +kernel
theorem dX6_sets_52 : decode cX6_sets 52 = .ok (.getfield 95, 3) := by decide +kernel
theorem dX6_sets_55 : decode cX6_sets 55 = .ok (.invokevirtual 99, 3) := by decide +kernel
theorem dX6_sets_58 : decode cX6_sets 58 = .ok (.ireturn, 1) := by decide +kernel
theorem dX6_sets_59 : decode cX6_sets 59 = .ok (.bipush (-2), 2) := by decide +kernel
theorem dX6_sets_61 : decode cX6_sets 61 = .ok (.ireturn, 1) := by decide +kernel
theorem dX6_belief_0 : decode cX6_belief 0 = .ok (.iload_n 1, 1) := by decide +kernel
theorem dX6_belief_1 : decode cX6_belief 1 = .ok (.invokestatic 61, 3) := by decide +kernel
theorem dX6_belief_4 : decode cX6_belief 4 = .ok (.ifCond .eq 10, 3) := by decide +kernel
theorem dX6_belief_7 : decode cX6_belief 7 = .ok (.iload_n 2, 1) := by decide +kernel
theorem dX6_belief_8 : decode cX6_belief 8 = .ok (.invokestatic 157, 3) := by decide +kernel
theorem dX6_belief_11 : decode cX6_belief 11 = .ok (.ifCond .ne 7, 3) := by decide +kernel
theorem dX6_belief_14 : decode cX6_belief 14 = .ok (.ldc2_w 155, 3) := by decide +kernel
theorem dX6_belief_17 : decode cX6_belief 17 = .ok (.lreturn, 1) := by decide +kernel
theorem dX6_belief_18 : decode cX6_belief 18 = .ok (.aload_n 0, 1) := by decide +kernel
theorem dX6_belief_19 : decode cX6_belief 19 = .ok (.invokevirtual 107, 3) := by decide +kernel
theorem dX6_belief_22 : decode cX6_belief 22 = .ok (.astore_n 3, 1) := by decide +kernel
theorem dX6_belief_23 : decode cX6_belief 23 = .ok (.aload_n 3, 1) := by decide +kernel
theorem dX6_belief_24 : decode cX6_belief 24 = .ok (.getfield 136, 3) := by decide +kernel
theorem dX6_belief_27 : decode cX6_belief 27 = .ok (.ifCond .ne 7, 3) := by decide +kernel
theorem dX6_belief_30 : decode cX6_belief 30 = .ok (.ldc2_w 155, 3) := by decide +kernel
theorem dX6_belief_33 : decode cX6_belief 33 = .ok (.lreturn, 1) := by decide +kernel
theorem dX6_belief_34 : decode cX6_belief 34 = .ok (.aload_n 3, 1) := by decide +kernel
theorem dX6_belief_35 : decode cX6_belief 35 = .ok (.iload_n 1, 1) := by decide +kernel
theorem dX6_belief_36 : decode cX6_belief 36 = .ok (.invokevirtual 179, 3) := by decide +kernel
theorem dX6_belief_39 : decode cX6_belief 39 = .ok (.aload_n 3, 1) := by decide +kernel
theorem dX6_belief_40 : decode cX6_belief 40 = .ok (.getfield 160, 3) := by decide +kernel
theorem dX6_belief_43 : decode cX6_belief 43 = .ok (.iload_n 2, 1) := by decide +kernel
theorem dX6_belief_44 : decode cX6_belief 44 = .ok (.invokestatic 164, 3) := by decide +kernel
theorem dX6_belief_47 : decode cX6_belief 47 = .ok (.lreturn, 1) := by decide +kernel
theorem dX6_fewest_0 : decode cX6_fewest 0 = .ok (.iload_n 1, 1) := by decide +kernel
theorem dX6_fewest_1 : decode cX6_fewest 1 = .ok (.ifCond .lt 8, 3) := by decide +kernel
theorem dX6_fewest_4 : decode cX6_fewest 4 = .ok (.iload_n 1, 1) := by decide +kernel
theorem dX6_fewest_5 : decode cX6_fewest 5 = .ok (.iconst 2, 1) := by decide +kernel
theorem dX6_fewest_6 : decode cX6_fewest 6 = .ok (.if_icmp .le 6, 3) := by decide +kernel
theorem dX6_fewest_9 : decode cX6_fewest 9 = .ok (.bipush (-2), 2) := by decide +kernel
theorem dX6_fewest_11 : decode cX6_fewest 11 = .ok (.ireturn, 1) := by decide +kernel
theorem dX6_fewest_12 : decode cX6_fewest 12 = .ok (.aload_n 0, 1) := by decide +kernel
theorem dX6_fewest_13 : decode cX6_fewest 13 = .ok (.invokevirtual 107, 3) := by decide +kernel
theorem dX6_fewest_16 : decode cX6_fewest 16 = .ok (.astore_n 2, 1) := by decide +kernel
theorem dX6_fewest_17 : decode cX6_fewest 17 = .ok (.aload_n 2, 1) := by decide +kernel
theorem dX6_fewest_18 : decode cX6_fewest 18 = .ok (.getfield 136, 3) := by decide +kernel
theorem dX6_fewest_21 : decode cX6_fewest 21 = .ok (.ifCond .ne 6, 3) := by decide +kernel
theorem dX6_fewest_24 : decode cX6_fewest 24 = .ok (.bipush (-9), 2) := by decide +kernel
theorem dX6_fewest_26 : decode cX6_fewest 26 = .ok (.ireturn, 1) := by decide +kernel
theorem dX6_fewest_27 : decode cX6_fewest 27 = .ok (.iload_n 1, 1) := by decide +kernel
theorem dX6_fewest_28 : decode cX6_fewest 28 = .ok (.lookupswitch 38 #[(0, 28), (1, 33)], 28) := by decide +kernel
theorem dX6_fewest_56 : decode cX6_fewest 56 = .ok (.aload_n 2, 1) := by decide +kernel
theorem dX6_fewest_57 : decode cX6_fewest 57 = .ok (.invokevirtual 182, 3) := by decide +kernel
theorem dX6_fewest_60 : decode cX6_fewest 60 = .ok (.ireturn, 1) := by decide +kernel
theorem dX6_fewest_61 : decode cX6_fewest 61 = .ok (.aload_n 2, 1) := by decide +kernel
theorem dX6_fewest_62 : decode cX6_fewest 62 = .ok (.invokevirtual 185, 3) := by decide +kernel
theorem dX6_fewest_65 : decode cX6_fewest 65 = .ok (.ireturn, 1) := by decide +kernel
theorem dX6_fewest_66 : decode cX6_fewest 66 = .ok (.aload_n 2, 1) := by decide +kernel
theorem dX6_fewest_67 : decode cX6_fewest 67 = .ok (.aload_n 2, 1) := by decide +kernel
theorem dX6_fewest_68 : decode cX6_fewest 68 = .ok (.invokevirtual 182, 3) := by decide +kernel
theorem dX6_fewest_71 : decode cX6_fewest 71 = .ok (.invokevirtual 188, 3) := by decide +kernel
theorem dX6_fewest_74 : decode cX6_fewest 74 = .ok (.ireturn, 1) := by decide +kernel
theorem dX6_covers_0 : decode cX6_covers 0 = .ok (.iload_n 1, 1) := by decide +kernel
theorem dX6_covers_1 : decode cX6_covers 1 = .ok (.ifCond .lt 10, 3) := by decide +kernel
theorem dX6_covers_4 : decode cX6_covers 4 = .ok (.iload_n 1, 1) := by decide +kernel
theorem dX6_covers_5 : decode cX6_covers 5 = .ok (.sipush 1023, 3) := by decide +kernel
theorem dX6_covers_8 : decode cX6_covers 8 = .ok (.if_icmp .le 6, 3) := by decide +kernel
theorem dX6_covers_11 : decode cX6_covers 11 = .ok (.bipush (-2), 2) := by decide +kernel
theorem dX6_covers_13 : decode cX6_covers 13 = .ok (.ireturn, 1) := by decide +kernel
theorem dX6_covers_14 : decode cX6_covers 14 = .ok (.iload_n 1, 1) := by decide +kernel
theorem dX6_covers_15 : decode cX6_covers 15 = .ok (.aload_n 0, 1) := by decide +kernel
theorem dX6_covers_16 : decode cX6_covers 16 = .ok (.getfield 14, 3) := by decide +kernel
theorem dX6_covers_19 : decode cX6_covers 19 = .ok (.aload_n 0, 1) := by decide +kernel
theorem dX6_covers_20 : decode cX6_covers 20 = .ok (.getfield 21, 3) := by decide +kernel
theorem dX6_covers_23 : decode cX6_covers 23 = .ok (.getfield 95, 3) := by decide +kernel
theorem dX6_covers_26 : decode cX6_covers 26 = .ok (.invokevirtual 99, 3) := by decide +kernel
theorem dX6_covers_29 : decode cX6_covers 29 = .ok (.iand, 1) := by decide +kernel
theorem dX6_covers_30 : decode cX6_covers 30 = .ok (.ifCond .eq 7, 3) := by decide +kernel
theorem dX6_covers_33 : decode cX6_covers 33 = .ok (.iconst 1, 1) := by decide +kernel
theorem dX6_covers_34 : decode cX6_covers 34 = .ok (.goto 4, 3) := by decide +kernel
theorem dX6_covers_37 : decode cX6_covers 37 = .ok (.iconst 0, 1) := by decide +kernel
theorem dX6_covers_38 : decode cX6_covers 38 = .ok (.istore_n 2, 1) := by decide +kernel
theorem dX6_covers_39 : decode cX6_covers 39 = .ok (.iload_n 2, 1) := by decide +kernel
theorem dX6_covers_40 : decode cX6_covers 40 = .ok (.ifCond .ne 24, 3) := by decide +kernel
theorem dX6_covers_43 : decode cX6_covers 43 = .ok (.aload_n 0, 1) := by decide +kernel
theorem dX6_covers_44 : decode cX6_covers 44 = .ok (.getfield 21, 3) := by decide +kernel
theorem dX6_covers_47 : decode cX6_covers 47 = .ok (.getfield 137, 3) := by decide +kernel
theorem dX6_covers_50 : decode cX6_covers 50 = .ok (.aload_n 0, 1) := by decide +kernel
theorem dX6_covers_51 : decode cX6_covers 51 = .ok (.getfield 14, 3) := by decide +kernel
theorem dX6_covers_54 : decode cX6_covers 54 = .ok (.iload_n 1, 1) := by decide +kernel
theorem dX6_covers_55 : decode cX6_covers 55 = .ok (.invokevirtual 191, 3) := by decide +kernel
theorem dX6_covers_58 : decode cX6_covers 58 = .ok (.iconst (-1), 1) := by decide +kernel
theorem dX6_covers_59 : decode cX6_covers 59 = .ok (.ixor, 1) := by decide +kernel
theorem dX6_covers_60 : decode cX6_covers 60 = .ok (.iand, 1) := by decide +kernel
theorem dX6_covers_61 : decode cX6_covers 61 = .ok (.ifCond .eq 5, 3) := by decide +kernel
theorem dX6_covers_64 : decode cX6_covers 64 = .ok (.iconst 0, 1) := by decide +kernel
theorem dX6_covers_65 : decode cX6_covers 65 = .ok (.ireturn, 1) := by decide +kernel
theorem dX6_covers_66 : decode cX6_covers 66 = .ok (.aload_n 0, 1) := by decide +kernel
theorem dX6_covers_67 : decode cX6_covers 67 = .ok (.getfield 14, 3) := by decide +kernel
theorem dX6_covers_70 : decode cX6_covers 70 = .ok (.iload_n 1, 1) := by decide +kernel
theorem dX6_covers_71 : decode cX6_covers 71 = .ok (.aload_n 0, 1) := by decide +kernel
theorem dX6_covers_72 : decode cX6_covers 72 = .ok (.getfield 21, 3) := by decide +kernel
theorem dX6_covers_75 : decode cX6_covers 75 = .ok (.getfield 137, 3) := by decide +kernel
theorem dX6_covers_78 : decode cX6_covers 78 = .ok (.invokevirtual 194, 3) := by decide +kernel
theorem dX6_covers_81 : decode cX6_covers 81 = .ok (.ifCond .eq 7, 3) := by decide +kernel
theorem dX6_covers_84 : decode cX6_covers 84 = .ok (.iconst 1, 1) := by decide +kernel
theorem dX6_covers_85 : decode cX6_covers 85 = .ok (.goto 4, 3) := by decide +kernel
theorem dX6_covers_88 : decode cX6_covers 88 = .ok (.iconst 2, 1) := by decide +kernel
theorem dX6_covers_89 : decode cX6_covers 89 = .ok (.ireturn, 1) := by decide +kernel
theorem dX6_unexplained_0 : decode cX6_unexplained 0 = .ok (.sipush 1023, 3) := by decide +kernel
theorem dX6_unexplained_3 : decode cX6_unexplained 3 = .ok (.aload_n 0, 1) := by decide +kernel
theorem dX6_unexplained_4 : decode cX6_unexplained 4 = .ok (.getfield 14, 3) := by decide +kernel
theorem dX6_unexplained_7 : decode cX6_unexplained 7 = .ok (.aload_n 0, 1) := by decide +kernel
theorem dX6_unexplained_8 : decode cX6_unexplained 8 = .ok (.getfield 21, 3) := by decide +kernel
theorem dX6_unexplained_11 : decode cX6_unexplained 11 = .ok (.getfield 95, 3) := by decide +kernel
theorem dX6_unexplained_14 : decode cX6_unexplained 14 = .ok (.invokevirtual 99, 3) := by decide +kernel
theorem dX6_unexplained_17 : decode cX6_unexplained 17 = .ok (.iconst (-1), 1) := by decide +kernel
theorem dX6_unexplained_18 : decode cX6_unexplained 18 = .ok (.ixor, 1) := by decide +kernel
theorem dX6_unexplained_19 : decode cX6_unexplained 19 = .ok (.iand, 1) := by decide +kernel
theorem dX6_unexplained_20 : decode cX6_unexplained 20 = .ok (.istore_n 1, 1) := by decide +kernel
theorem dX6_unexplained_21 : decode cX6_unexplained 21 = .ok (.aload_n 0, 1) := by decide +kernel
theorem dX6_unexplained_22 : decode cX6_unexplained 22 = .ok (.getfield 21, 3) := by decide +kernel
theorem dX6_unexplained_25 : decode cX6_unexplained 25 = .ok (.getfield 137, 3) := by decide +kernel
theorem dX6_unexplained_28 : decode cX6_unexplained 28 = .ok (.aload_n 0, 1) := by decide +kernel
theorem dX6_unexplained_29 : decode cX6_unexplained 29 = .ok (.getfield 14, 3) := by decide +kernel
theorem dX6_unexplained_32 : decode cX6_unexplained 32 = .ok (.iload_n 1, 1) := by decide +kernel
theorem dX6_unexplained_33 : decode cX6_unexplained 33 = .ok (.invokevirtual 191, 3) := by decide +kernel
theorem dX6_unexplained_36 : decode cX6_unexplained 36 = .ok (.iconst (-1), 1) := by decide +kernel
theorem dX6_unexplained_37 : decode cX6_unexplained 37 = .ok (.ixor, 1) := by decide +kernel
theorem dX6_unexplained_38 : decode cX6_unexplained 38 = .ok (.iand, 1) := by decide +kernel
theorem dX6_unexplained_39 : decode cX6_unexplained 39 = .ok (.ireturn, 1) := by decide +kernel
theorem dX6_split_0 : decode cX6_split 0 = .ok (.iload_n 1, 1) := by decide +kernel
theorem dX6_split_1 : decode cX6_split 1 = .ok (.invokestatic 78, 3) := by decide +kernel
theorem dX6_split_4 : decode cX6_split 4 = .ok (.ifCond .eq 23, 3) := by decide +kernel
theorem dX6_split_7 : decode cX6_split 7 = .ok (.iload_n 2, 1) := by decide +kernel
theorem dX6_split_8 : decode cX6_split 8 = .ok (.ifCond .lt 19, 3) := by decide +kernel
theorem dX6_split_11 : decode cX6_split 11 = .ok (.iload_n 2, 1) := by decide +kernel
theorem dX6_split_12 : decode cX6_split 12 = .ok (.iconst 3, 1) := by decide +kernel
theorem dX6_split_13 : decode cX6_split 13 = .ok (.if_icmp .gt 14, 3) := by decide +kernel
theorem dX6_split_16 : decode cX6_split 16 = .ok (.aload_n 0, 1) := by decide +kernel
theorem dX6_split_17 : decode cX6_split 17 = .ok (.getfield 21, 3) := by decide +kernel
theorem dX6_split_20 : decode cX6_split 20 = .ok (.iload_n 1, 1) := by decide +kernel
theorem dX6_split_21 : decode cX6_split 21 = .ok (.invokevirtual 114, 3) := by decide +kernel
theorem dX6_split_24 : decode cX6_split 24 = .ok (.ifCond .eq 7, 3) := by decide +kernel
theorem dX6_split_27 : decode cX6_split 27 = .ok (.ldc2_w 155, 3) := by decide +kernel
theorem dX6_split_30 : decode cX6_split 30 = .ok (.lreturn, 1) := by decide +kernel
theorem dX6_split_31 : decode cX6_split 31 = .ok (.aload_n 0, 1) := by decide +kernel
theorem dX6_split_32 : decode cX6_split 32 = .ok (.getfield 50, 3) := by decide +kernel
theorem dX6_split_35 : decode cX6_split 35 = .ok (.aload_n 0, 1) := by decide +kernel
theorem dX6_split_36 : decode cX6_split 36 = .ok (.invokevirtual 107, 3) := by decide +kernel
theorem dX6_split_39 : decode cX6_split 39 = .ok (.iload_n 1, 1) := by decide +kernel
theorem dX6_split_40 : decode cX6_split 40 = .ok (.invokevirtual 197, 3) := by decide +kernel
theorem dX6_split_43 : decode cX6_split 43 = .ok (.iload_n 2, 1) := by decide +kernel
theorem dX6_split_44 : decode cX6_split 44 = .ok (.tableswitch 52 0 2 #[28, 36, 44], 28) := by decide +kernel
theorem dX6_split_72 : decode cX6_split 72 = .ok (.aload_n 0, 1) := by decide +kernel
theorem dX6_split_73 : decode cX6_split 73 = .ok (.getfield 50, 3) := by decide +kernel
theorem dX6_split_76 : decode cX6_split 76 = .ok (.getfield 201, 3) := by decide +kernel
theorem dX6_split_79 : decode cX6_split 79 = .ok (.lreturn, 1) := by decide +kernel
theorem dX6_split_80 : decode cX6_split 80 = .ok (.aload_n 0, 1) := by decide +kernel
theorem dX6_split_81 : decode cX6_split 81 = .ok (.getfield 50, 3) := by decide +kernel
theorem dX6_split_84 : decode cX6_split 84 = .ok (.getfield 203, 3) := by decide +kernel
theorem dX6_split_87 : decode cX6_split 87 = .ok (.lreturn, 1) := by decide +kernel
theorem dX6_split_88 : decode cX6_split 88 = .ok (.aload_n 0, 1) := by decide +kernel
theorem dX6_split_89 : decode cX6_split 89 = .ok (.getfield 50, 3) := by decide +kernel
theorem dX6_split_92 : decode cX6_split 92 = .ok (.getfield 205, 3) := by decide +kernel
theorem dX6_split_95 : decode cX6_split 95 = .ok (.lreturn, 1) := by decide +kernel
theorem dX6_split_96 : decode cX6_split 96 = .ok (.aload_n 0, 1) := by decide +kernel
theorem dX6_split_97 : decode cX6_split 97 = .ok (.getfield 50, 3) := by decide +kernel
theorem dX6_split_100 : decode cX6_split 100 = .ok (.invokevirtual 208, 3) := by decide +kernel
theorem dX6_split_103 : decode cX6_split 103 = .ok (.lreturn, 1) := by decide +kernel
theorem dX6_next_0 : decode cX6_next 0 = .ok (.aload_n 0, 1) := by decide +kernel
theorem dX6_next_1 : decode cX6_next 1 = .ok (.aload_n 0, 1) := by decide +kernel
theorem dX6_next_2 : decode cX6_next 2 = .ok (.invokevirtual 107, 3) := by decide +kernel
theorem dX6_next_5 : decode cX6_next 5 = .ok (.aload_n 0, 1) := by decide +kernel
theorem dX6_next_6 : decode cX6_next 6 = .ok (.getfield 21, 3) := by decide +kernel
theorem dX6_next_9 : decode cX6_next 9 = .ok (.invokevirtual 212, 3) := by decide +kernel
theorem dX6_next_12 : decode cX6_next 12 = .ok (.ireturn, 1) := by decide +kernel
theorem dX6_would_0 : decode cX6_would 0 = .ok (.iload_n 1, 1) := by decide +kernel
theorem dX6_would_1 : decode cX6_would 1 = .ok (.invokestatic 78, 3) := by decide +kernel
theorem dX6_would_4 : decode cX6_would 4 = .ok (.ifCond .ne 5, 3) := by decide +kernel
theorem dX6_would_7 : decode cX6_would 7 = .ok (.iconst (-1), 1) := by decide +kernel
theorem dX6_would_8 : decode cX6_would 8 = .ok (.ireturn, 1) := by decide +kernel
theorem dX6_would_9 : decode cX6_would 9 = .ok (.iload_n 2, 1) := by decide +kernel
theorem dX6_would_10 : decode cX6_would 10 = .ok (.ifCond .lt 8, 3) := by decide +kernel
theorem dX6_would_13 : decode cX6_would 13 = .ok (.iload_n 2, 1) := by decide +kernel
