theorem dX2_fewestCauses_5 : decode cX2_fewestCauses 5 = .ok (.iload_n 2, 1) := by decide +kernel
theorem dX2_fewestCauses_6 : decode cX2_fewestCauses 6 = .ok (.aload_n 0, 1) := by decide +kernel
theorem dX2_fewestCauses_7 : decode cX2_fewestCauses 7 = .ok (.getfield 23, 3) := by decide +kernel
theorem dX2_fewestCauses_10 : decode cX2_fewestCauses 10 = .ok (.if_icmp .ge 22, 3) := by decide +kernel
theorem dX2_fewestCauses_13 : decode cX2_fewestCauses 13 = .ok (.iload_n 1, 1) := by decide +kernel
theorem dX2_fewestCauses_14 : decode cX2_fewestCauses 14 = .ok (.aload_n 0, 1) := by decide +kernel
theorem dX2_fewestCauses_15 : decode cX2_fewestCauses 15 = .ok (.iload_n 2, 1) := by decide +kernel
theorem dX2_fewestCauses_16 : decode cX2_fewestCauses 16 = .ok (.invokevirtual 89, 3) := by decide +kernel
theorem dX2_fewestCauses_19 : decode cX2_fewestCauses 19 = .ok (.invokestatic 75, 3) := by decide +kernel
theorem dX2_fewestCauses_22 : decode cX2_fewestCauses 22 = .ok (.invokestatic 103, 3) := by decide +kernel
theorem dX2_fewestCauses_25 : decode cX2_fewestCauses 25 = .ok (.istore_n 1, 1) := by decide +kernel
theorem dX2_fewestCauses_26 : decode cX2_fewestCauses 26 = .ok (.iinc 2 1, 3) := by decide +kernel
theorem dX2_fewestCauses_29 : decode cX2_fewestCauses 29 = .ok (.goto (-24), 3) := by decide +kernel
theorem dX2_fewestCauses_32 : decode cX2_fewestCauses 32 = .ok (.iload_n 1, 1) := by decide +kernel
theorem dX2_fewestCauses_33 : decode cX2_fewestCauses 33 = .ok (.ireturn, 1) := by decide +kernel
set_option maxRecDepth 20000 in
theorem ggX2_mostCauses_X2_setOf : GoodIn wsX2_mostCauses wsX2_setOf := goodIn_r _ [10, 11, 12, 20, 21, 22, 23, 24, 25, 26] (by decide +kernel) (by decide +kernel)
set_option maxRecDepth 20000 in
theorem gX2_mostCauses_X2_setOf : GoodIn wsX2_mostCauses (wsV RX2 89 RX2 yX2_setOf wsX2_setOf) := goodIn_app (goodIn_of _ (by decide +kernel)) ggX2_mostCauses_X2_setOf
set_option maxRecDepth 20000 in
theorem ggX2_mostCauses_J6_bitCount_0f7a4 : GoodIn wsX2_mostCauses wsJ6_bitCount_0f7a4 := goodIn_r _ [16, 17, 18, 19] (by decide +kernel) (by decide +kernel)
set_option maxRecDepth 20000 in
theorem gX2_mostCauses_J6_bitCount_0f7a4 : GoodIn wsX2_mostCauses (va_wsS RX2 75 yJ6_bitCount_0f7a4 wsJ6_bitCount_0f7a4) := goodIn_app (goodIn_of _ (by decide +kernel)) ggX2_mostCauses_J6_bitCount_0f7a4
theorem dX2_mostCauses_0 : decode cX2_mostCauses 0 = .ok (.iconst 0, 1) := by decide +kernel
theorem dX2_mostCauses_1 : decode cX2_mostCauses 1 = .ok (.istore_n 1, 1) := by decide +kernel
theorem dX2_mostCauses_2 : decode cX2_mostCauses 2 = .ok (.iconst 0, 1) := by decide +kernel
theorem dX2_mostCauses_3 : decode cX2_mostCauses 3 = .ok (.istore_n 2, 1) := by decide +kernel
theorem dX2_mostCauses_4 : decode cX2_mostCauses 4 = .ok (.iload_n 2, 1) := by decide +kernel
theorem dX2_mostCauses_5 : decode cX2_mostCauses 5 = .ok (.aload_n 0, 1) := by decide +kernel
theorem dX2_mostCauses_6 : decode cX2_mostCauses 6 = .ok (.getfield 23, 3) := by decide +kernel
theorem dX2_mostCauses_9 : decode cX2_mostCauses 9 = .ok (.if_icmp .ge 22, 3) := by decide +kernel
theorem dX2_mostCauses_12 : decode cX2_mostCauses 12 = .ok (.iload_n 1, 1) := by decide +kernel
theorem dX2_mostCauses_13 : decode cX2_mostCauses 13 = .ok (.aload_n 0, 1) := by decide +kernel
theorem dX2_mostCauses_14 : decode cX2_mostCauses 14 = .ok (.iload_n 2, 1) := by decide +kernel
theorem dX2_mostCauses_15 : decode cX2_mostCauses 15 = .ok (.invokevirtual 89, 3) := by decide +kernel
theorem dX2_mostCauses_18 : decode cX2_mostCauses 18 = .ok (.invokestatic 75, 3) := by decide +kernel
theorem dX2_mostCauses_21 : decode cX2_mostCauses 21 = .ok (.invokestatic 108, 3) := by decide +kernel
theorem dX2_mostCauses_24 : decode cX2_mostCauses 24 = .ok (.istore_n 1, 1) := by decide +kernel
theorem dX2_mostCauses_25 : decode cX2_mostCauses 25 = .ok (.iinc 2 1, 3) := by decide +kernel
theorem dX2_mostCauses_28 : decode cX2_mostCauses 28 = .ok (.goto (-24), 3) := by decide +kernel
theorem dX2_mostCauses_31 : decode cX2_mostCauses 31 = .ok (.iload_n 1, 1) := by decide +kernel
theorem dX2_mostCauses_32 : decode cX2_mostCauses 32 = .ok (.ireturn, 1) := by decide +kernel
set_option maxRecDepth 20000 in
theorem ggX2_countOfLength_X2_setOf : GoodIn wsX2_countOfLength wsX2_setOf := goodIn_r _ [6, 7, 8, 16, 17, 18, 19, 20, 21, 22] (by decide +kernel) (by decide +kernel)
set_option maxRecDepth 20000 in
theorem gX2_countOfLength_X2_setOf : GoodIn wsX2_countOfLength (wsV RX2 89 RX2 yX2_setOf wsX2_setOf) := goodIn_app (goodIn_of _ (by decide +kernel)) ggX2_countOfLength_X2_setOf
set_option maxRecDepth 20000 in
theorem ggX2_countOfLength_J6_bitCount_0f7a4 : GoodIn wsX2_countOfLength wsJ6_bitCount_0f7a4 := goodIn_r _ [12, 13, 14, 15] (by decide +kernel) (by decide +kernel)
set_option maxRecDepth 20000 in
theorem gX2_countOfLength_J6_bitCount_0f7a4 : GoodIn wsX2_countOfLength (va_wsS RX2 75 yJ6_bitCount_0f7a4 wsJ6_bitCount_0f7a4) := goodIn_app (goodIn_of _ (by decide +kernel)) ggX2_countOfLength_J6_bitCount_0f7a4
theorem dX2_countOfLength_0 : decode cX2_countOfLength 0 = .ok (.iconst 0, 1) := by decide +kernel
theorem dX2_countOfLength_1 : decode cX2_countOfLength 1 = .ok (.istore_n 2, 1) := by decide +kernel
theorem dX2_countOfLength_2 : decode cX2_countOfLength 2 = .ok (.iconst 0, 1) := by decide +kernel
theorem dX2_countOfLength_3 : decode cX2_countOfLength 3 = .ok (.istore_n 3, 1) := by decide +kernel
theorem dX2_countOfLength_4 : decode cX2_countOfLength 4 = .ok (.iload_n 3, 1) := by decide +kernel
theorem dX2_countOfLength_5 : decode cX2_countOfLength 5 = .ok (.aload_n 0, 1) := by decide +kernel
theorem dX2_countOfLength_6 : decode cX2_countOfLength 6 = .ok (.getfield 23, 3) := by decide +kernel
theorem dX2_countOfLength_9 : decode cX2_countOfLength 9 = .ok (.if_icmp .ge 24, 3) := by decide +kernel
theorem dX2_countOfLength_12 : decode cX2_countOfLength 12 = .ok (.aload_n 0, 1) := by decide +kernel
theorem dX2_countOfLength_13 : decode cX2_countOfLength 13 = .ok (.iload_n 3, 1) := by decide +kernel
theorem dX2_countOfLength_14 : decode cX2_countOfLength 14 = .ok (.invokevirtual 89, 3) := by decide +kernel
theorem dX2_countOfLength_17 : decode cX2_countOfLength 17 = .ok (.invokestatic 75, 3) := by decide +kernel
theorem dX2_countOfLength_20 : decode cX2_countOfLength 20 = .ok (.iload_n 1, 1) := by decide +kernel
theorem dX2_countOfLength_21 : decode cX2_countOfLength 21 = .ok (.if_icmp .ne 6, 3) := by decide +kernel
theorem dX2_countOfLength_24 : decode cX2_countOfLength 24 = .ok (.iinc 2 1, 3) := by decide +kernel
theorem dX2_countOfLength_27 : decode cX2_countOfLength 27 = .ok (.iinc 3 1, 3) := by decide +kernel
theorem dX2_countOfLength_30 : decode cX2_countOfLength 30 = .ok (.goto (-26), 3) := by decide +kernel
theorem dX2_countOfLength_33 : decode cX2_countOfLength 33 = .ok (.iload_n 2, 1) := by decide +kernel
theorem dX2_countOfLength_34 : decode cX2_countOfLength 34 = .ok (.ireturn, 1) := by decide +kernel
theorem dX3_init_0 : decode cX3_init 0 = .ok (.aload_n 0, 1) := by decide +kernel
theorem dX3_init_1 : decode cX3_init 1 = .ok (.invokespecial 3, 3) := by decide +kernel
theorem dX3_init_4 : decode cX3_init 4 = .ok (.return_, 1) := by decide +kernel
set_option maxRecDepth 20000 in
theorem ggX3_weigh_X2_weightOf : GoodIn wsX3_weigh wsX2_weightOf := goodIn_r _ [9, 10, 31, 32, 33, 34, 35, 36, 37] (by decide +kernel) (by decide +kernel)
set_option maxRecDepth 20000 in
theorem gX3_weigh_X2_weightOf : GoodIn wsX3_weigh (wsV RX3 27 RX2 yX2_weightOf wsX2_weightOf) := goodIn_app (goodIn_of _ (by decide +kernel)) ggX3_weigh_X2_weightOf
set_option maxRecDepth 20000 in
theorem ggX3_weigh_X2_foretoldBy : GoodIn wsX3_weigh wsX2_foretoldBy := goodIn_r _ [14, 15, 16, 17, 18, 8, 19, 10, 20, 21, 22, 23, 24, 25, 26, 27, 31, 32, 33, 34, 35, 36, 37, 38, 39, 40, 41, 42, 43] (by decide +kernel) (by decide +kernel)
set_option maxRecDepth 20000 in
theorem gX3_weigh_X2_foretoldBy : GoodIn wsX3_weigh (wsV RX3 31 RX2 yX2_foretoldBy wsX2_foretoldBy) := goodIn_app (goodIn_of _ (by decide +kernel)) ggX3_weigh_X2_foretoldBy
theorem dX3_weigh_0 : decode cX3_weigh 0 = .ok (.aload_n 0, 1) := by decide +kernel
theorem dX3_weigh_1 : decode cX3_weigh 1 = .ok (.lconst 0, 1) := by decide +kernel
theorem dX3_weigh_2 : decode cX3_weigh 2 = .ok (.putfield 9, 3) := by decide +kernel
theorem dX3_weigh_5 : decode cX3_weigh 5 = .ok (.aload_n 0, 1) := by decide +kernel
theorem dX3_weigh_6 : decode cX3_weigh 6 = .ok (.lconst 0, 1) := by decide +kernel
theorem dX3_weigh_7 : decode cX3_weigh 7 = .ok (.putfield 15, 3) := by decide +kernel
theorem dX3_weigh_10 : decode cX3_weigh 10 = .ok (.aload_n 0, 1) := by decide +kernel
theorem dX3_weigh_11 : decode cX3_weigh 11 = .ok (.lconst 0, 1) := by decide +kernel
theorem dX3_weigh_12 : decode cX3_weigh 12 = .ok (.putfield 18, 3) := by decide +kernel
theorem dX3_weigh_15 : decode cX3_weigh 15 = .ok (.iconst 0, 1) := by decide +kernel
theorem dX3_weigh_16 : decode cX3_weigh 16 = .ok (.istore_n 3, 1) := by decide +kernel
theorem dX3_weigh_17 : decode cX3_weigh 17 = .ok (.iload_n 3, 1) := by decide +kernel
theorem dX3_weigh_18 : decode cX3_weigh 18 = .ok (.aload_n 1, 1) := by decide +kernel
theorem dX3_weigh_19 : decode cX3_weigh 19 = .ok (.getfield 21, 3) := by decide +kernel
theorem dX3_weigh_22 : decode cX3_weigh 22 = .ok (.if_icmp .ge 75, 3) := by decide +kernel
theorem dX3_weigh_25 : decode cX3_weigh 25 = .ok (.aload_n 1, 1) := by decide +kernel
theorem dX3_weigh_26 : decode cX3_weigh 26 = .ok (.iload_n 3, 1) := by decide +kernel
theorem dX3_weigh_27 : decode cX3_weigh 27 = .ok (.invokevirtual 27, 3) := by decide +kernel
theorem dX3_weigh_30 : decode cX3_weigh 30 = .ok (.lstore 4, 2) := by decide +kernel
theorem dX3_weigh_32 : decode cX3_weigh 32 = .ok (.aload_n 1, 1) := by decide +kernel
theorem dX3_weigh_33 : decode cX3_weigh 33 = .ok (.iload_n 3, 1) := by decide +kernel
theorem dX3_weigh_34 : decode cX3_weigh 34 = .ok (.iload_n 2, 1) := by decide +kernel
theorem dX3_weigh_35 : decode cX3_weigh 35 = .ok (.invokevirtual 31, 3) := by decide +kernel
theorem dX3_weigh_38 : decode cX3_weigh 38 = .ok (.istore 6, 2) := by decide +kernel
theorem dX3_weigh_40 : decode cX3_weigh 40 = .ok (.iload 6, 2) := by decide +kernel
theorem dX3_weigh_42 : decode cX3_weigh 42 = .ok (.iconst 1, 1) := by decide +kernel
theorem dX3_weigh_43 : decode cX3_weigh 43 = .ok (.if_icmp .ne 17, 3) := by decide +kernel
theorem dX3_weigh_46 : decode cX3_weigh 46 = .ok (.aload_n 0, 1) := by decide +kernel
theorem dX3_weigh_47 : decode cX3_weigh 47 = .ok (.dup, 1) := by decide +kernel
theorem dX3_weigh_48 : decode cX3_weigh 48 = .ok (.getfield 9, 3) := by decide +kernel
theorem dX3_weigh_51 : decode cX3_weigh 51 = .ok (.lload 4, 2) := by decide +kernel
theorem dX3_weigh_53 : decode cX3_weigh 53 = .ok (.ladd, 1) := by decide +kernel
theorem dX3_weigh_54 : decode cX3_weigh 54 = .ok (.putfield 9, 3) := by decide +kernel
theorem dX3_weigh_57 : decode cX3_weigh 57 = .ok (.goto 34, 3) := by decide +kernel
theorem dX3_weigh_60 : decode cX3_weigh 60 = .ok (.iload 6, 2) := by decide +kernel
theorem dX3_weigh_62 : decode cX3_weigh 62 = .ok (.iconst 2, 1) := by decide +kernel
theorem dX3_weigh_63 : decode cX3_weigh 63 = .ok (.if_icmp .ne 17, 3) := by decide +kernel
theorem dX3_weigh_66 : decode cX3_weigh 66 = .ok (.aload_n 0, 1) := by decide +kernel
theorem dX3_weigh_67 : decode cX3_weigh 67 = .ok (.dup, 1) := by decide +kernel
theorem dX3_weigh_68 : decode cX3_weigh 68 = .ok (.getfield 15, 3) := by decide +kernel
theorem dX3_weigh_71 : decode cX3_weigh 71 = .ok (.lload 4, 2) := by decide +kernel
theorem dX3_weigh_73 : decode cX3_weigh 73 = .ok (.ladd, 1) := by decide +kernel
theorem dX3_weigh_74 : decode cX3_weigh 74 = .ok (.putfield 15, 3) := by decide +kernel
theorem dX3_weigh_77 : decode cX3_weigh 77 = .ok (.goto 14, 3) := by decide +kernel
theorem dX3_weigh_80 : decode cX3_weigh 80 = .ok (.aload_n 0, 1) := by decide +kernel
theorem dX3_weigh_81 : decode cX3_weigh 81 = .ok (.dup, 1) := by decide +kernel
theorem dX3_weigh_82 : decode cX3_weigh 82 = .ok (.getfield 18, 3) := by decide +kernel
theorem dX3_weigh_85 : decode cX3_weigh 85 = .ok (.lload 4, 2) := by decide +kernel
theorem dX3_weigh_87 : decode cX3_weigh 87 = .ok (.ladd, 1) := by decide +kernel
theorem dX3_weigh_88 : decode cX3_weigh 88 = .ok (.putfield 18, 3) := by decide +kernel
theorem dX3_weigh_91 : decode cX3_weigh 91 = .ok (.iinc 3 1, 3) := by decide +kernel
theorem dX3_weigh_94 : decode cX3_weigh 94 = .ok (.goto (-77), 3) := by decide +kernel
theorem dX3_weigh_97 : decode cX3_weigh 97 = .ok (.return_, 1) := by decide +kernel
theorem dX3_leftIfThere_0 : decode cX3_leftIfThere 0 = .ok (.aload_n 0, 1) := by decide +kernel
theorem dX3_leftIfThere_1 : decode cX3_leftIfThere 1 = .ok (.getfield 9, 3) := by decide +kernel
theorem dX3_leftIfThere_4 : decode cX3_leftIfThere 4 = .ok (.aload_n 0, 1) := by decide +kernel
theorem dX3_leftIfThere_5 : decode cX3_leftIfThere 5 = .ok (.getfield 18, 3) := by decide +kernel
theorem dX3_leftIfThere_8 : decode cX3_leftIfThere 8 = .ok (.ladd, 1) := by decide +kernel
theorem dX3_leftIfThere_9 : decode cX3_leftIfThere 9 = .ok (.lreturn, 1) := by decide +kernel
theorem dX3_leftIfAbsent_0 : decode cX3_leftIfAbsent 0 = .ok (.aload_n 0, 1) := by decide +kernel
theorem dX3_leftIfAbsent_1 : decode cX3_leftIfAbsent 1 = .ok (.getfield 15, 3) := by decide +kernel
theorem dX3_leftIfAbsent_4 : decode cX3_leftIfAbsent 4 = .ok (.aload_n 0, 1) := by decide +kernel
theorem dX3_leftIfAbsent_5 : decode cX3_leftIfAbsent 5 = .ok (.getfield 18, 3) := by decide +kernel
theorem dX3_leftIfAbsent_8 : decode cX3_leftIfAbsent 8 = .ok (.ladd, 1) := by decide +kernel
theorem dX3_leftIfAbsent_9 : decode cX3_leftIfAbsent 9 = .ok (.lreturn, 1) := by decide +kernel
set_option maxRecDepth 20000 in
theorem ggX3_worst_X3_leftIfThere : GoodIn wsX3_worst wsX3_leftIfThere := goodIn_r _ [9, 10, 11, 17, 18, 19] (by decide +kernel) (by decide +kernel)
set_option maxRecDepth 20000 in
theorem gX3_worst_X3_leftIfThere : GoodIn wsX3_worst (wsV RX3 35 RX3 yX3_leftIfThere wsX3_leftIfThere) := goodIn_app (goodIn_of _ (by decide +kernel)) ggX3_worst_X3_leftIfThere
set_option maxRecDepth 20000 in
theorem ggX3_worst_X3_leftIfAbsent : GoodIn wsX3_worst wsX3_leftIfAbsent := goodIn_r _ [15, 16, 11, 17, 18, 19] (by decide +kernel) (by decide +kernel)
set_option maxRecDepth 20000 in
theorem gX3_worst_X3_leftIfAbsent : GoodIn wsX3_worst (wsV RX3 39 RX3 yX3_leftIfAbsent wsX3_leftIfAbsent) := goodIn_app (goodIn_of _ (by decide +kernel)) ggX3_worst_X3_leftIfAbsent
theorem dX3_worst_0 : decode cX3_worst 0 = .ok (.aload_n 0, 1) := by decide +kernel
theorem dX3_worst_1 : decode cX3_worst 1 = .ok (.invokevirtual 35, 3) := by decide +kernel
theorem dX3_worst_4 : decode cX3_worst 4 = .ok (.aload_n 0, 1) := by decide +kernel
theorem dX3_worst_5 : decode cX3_worst 5 = .ok (.invokevirtual 39, 3) := by decide +kernel
theorem dX3_worst_8 : decode cX3_worst 8 = .ok (.invokestatic 42, 3) := by decide +kernel
theorem dX3_worst_11 : decode cX3_worst 11 = .ok (.lreturn, 1) := by decide +kernel
theorem dX4_init_0 : decode cX4_init 0 = .ok (.aload_n 0, 1) := by decide +kernel
theorem dX4_init_1 : decode cX4_init 1 = .ok (.invokespecial 3, 3) := by decide +kernel
theorem dX4_init_4 : decode cX4_init 4 = .ok (.aload_n 0, 1) := by decide +kernel
theorem dX4_init_5 : decode cX4_init 5 = .ok (.bipush 12, 2) := by decide +kernel
theorem dX4_init_7 : decode cX4_init 7 = .ok (.newarray .int, 2) := by decide +kernel
theorem dX4_init_9 : decode cX4_init 9 = .ok (.putfield 9, 3) := by decide +kernel
theorem dX4_init_12 : decode cX4_init 12 = .ok (.aload_n 0, 1) := by decide +kernel
theorem dX4_init_13 : decode cX4_init 13 = .ok (.bipush 12, 2) := by decide +kernel
theorem dX4_init_15 : decode cX4_init 15 = .ok (.newarray .int, 2) := by decide +kernel
theorem dX4_init_17 : decode cX4_init 17 = .ok (.putfield 15, 3) := by decide +kernel
theorem dX4_init_20 : decode cX4_init 20 = .ok (.aload_n 0, 1) := by decide +kernel
theorem dX4_init_21 : decode cX4_init 21 = .ok (.bipush 12, 2) := by decide +kernel
theorem dX4_init_23 : decode cX4_init 23 = .ok (.newarray .int, 2) := by decide +kernel
theorem dX4_init_25 : decode cX4_init 25 = .ok (.putfield 18, 3) := by decide +kernel
theorem dX4_init_28 : decode cX4_init 28 = .ok (.return_, 1) := by decide +kernel
theorem dX4_add_0 : decode cX4_add 0 = .ok (.aload_n 0, 1) := by decide +kernel
theorem dX4_add_1 : decode cX4_add 1 = .ok (.getfield 21, 3) := by decide +kernel
theorem dX4_add_4 : decode cX4_add 4 = .ok (.bipush 12, 2) := by decide +kernel
theorem dX4_add_6 : decode cX4_add 6 = .ok (.if_icmp .lt 4, 3) := by decide +kernel
theorem dX4_add_9 : decode cX4_add 9 = .ok (.return_, 1) := by decide +kernel
theorem dX4_add_10 : decode cX4_add 10 = .ok (.aload_n 0, 1) := by decide +kernel
theorem dX4_add_11 : decode cX4_add 11 = .ok (.getfield 9, 3) := by decide +kernel
theorem dX4_add_14 : decode cX4_add 14 = .ok (.aload_n 0, 1) := by decide +kernel
theorem dX4_add_15 : decode cX4_add 15 = .ok (.getfield 21, 3) := by decide +kernel
theorem dX4_add_18 : decode cX4_add 18 = .ok (.iload_n 1, 1) := by decide +kernel
theorem dX4_add_19 : decode cX4_add 19 = .ok (.iastore, 1) := by decide +kernel
theorem dX4_add_20 : decode cX4_add 20 = .ok (.aload_n 0, 1) := by decide +kernel
theorem dX4_add_21 : decode cX4_add 21 = .ok (.getfield 15, 3) := by decide +kernel
theorem dX4_add_24 : decode cX4_add 24 = .ok (.aload_n 0, 1) := by decide +kernel
theorem dX4_add_25 : decode cX4_add 25 = .ok (.getfield 21, 3) := by decide +kernel
theorem dX4_add_28 : decode cX4_add 28 = .ok (.iload_n 2, 1) := by decide +kernel
theorem dX4_add_29 : decode cX4_add 29 = .ok (.iastore, 1) := by decide +kernel
theorem dX4_add_30 : decode cX4_add 30 = .ok (.aload_n 0, 1) := by decide +kernel
theorem dX4_add_31 : decode cX4_add 31 = .ok (.getfield 18, 3) := by decide +kernel
theorem dX4_add_34 : decode cX4_add 34 = .ok (.aload_n 0, 1) := by decide +kernel
theorem dX4_add_35 : decode cX4_add 35 = .ok (.getfield 21, 3) := by decide +kernel
theorem dX4_add_38 : decode cX4_add 38 = .ok (.iload_n 3, 1) := by decide +kernel
theorem dX4_add_39 : decode cX4_add 39 = .ok (.iastore, 1) := by decide +kernel
theorem dX4_add_40 : decode cX4_add 40 = .ok (.aload_n 0, 1) := by decide +kernel
theorem dX4_add_41 : decode cX4_add 41 = .ok (.dup, 1) := by decide +kernel
theorem dX4_add_42 : decode cX4_add 42 = .ok (.getfield 21, 3) := by decide +kernel
theorem dX4_add_45 : decode cX4_add 45 = .ok (.iconst 1, 1) := by decide +kernel
theorem dX4_add_46 : decode cX4_add 46 = .ok (.iadd, 1) := by decide +kernel
theorem dX4_add_47 : decode cX4_add 47 = .ok (.putfield 21, 3) := by decide +kernel
theorem dX4_add_50 : decode cX4_add 50 = .ok (.return_, 1) := by decide +kernel
theorem dX5_init_0 : decode cX5_init 0 = .ok (.aload_n 0, 1) := by decide +kernel
theorem dX5_init_1 : decode cX5_init 1 = .ok (.invokespecial 3, 3) := by decide +kernel
theorem dX5_init_4 : decode cX5_init 4 = .ok (.return_, 1) := by decide +kernel
set_option maxRecDepth 20000 in
theorem ggX5_stateOf_X6_has : GoodIn wsX5_stateOf wsX6_has := goodIn_r _ [5] (by decide +kernel) (by decide +kernel)
set_option maxRecDepth 20000 in
theorem gX5_stateOf_X6_has_n15 : GoodIn wsX5_stateOf (wsX6_has) := ggX5_stateOf_X6_has
theorem dX5_stateOf_0 : decode cX5_stateOf 0 = .ok (.aload_n 0, 1) := by decide +kernel
theorem dX5_stateOf_1 : decode cX5_stateOf 1 = .ok (.getfield 9, 3) := by decide +kernel
theorem dX5_stateOf_4 : decode cX5_stateOf 4 = .ok (.iload_n 1, 1) := by decide +kernel
theorem dX5_stateOf_5 : decode cX5_stateOf 5 = .ok (.invokestatic 15, 3) := by decide +kernel
theorem dX5_stateOf_8 : decode cX5_stateOf 8 = .ok (.ifCond .eq 5, 3) := by decide +kernel
theorem dX5_stateOf_11 : decode cX5_stateOf 11 = .ok (.iconst 1, 1) := by decide +kernel
theorem dX5_stateOf_12 : decode cX5_stateOf 12 = .ok (.ireturn, 1) := by decide +kernel
theorem dX5_stateOf_13 : decode cX5_stateOf 13 = .ok (.aload_n 0, 1) := by decide +kernel
theorem dX5_stateOf_14 : decode cX5_stateOf 14 = .ok (.getfield 19, 3) := by decide +kernel
theorem dX5_stateOf_17 : decode cX5_stateOf 17 = .ok (.iload_n 1, 1) := by decide +kernel
theorem dX5_stateOf_18 : decode cX5_stateOf 18 = .ok (.invokestatic 15, 3) := by decide +kernel
theorem dX5_stateOf_21 : decode cX5_stateOf 21 = .ok (.ifCond .eq 7, 3) := by decide +kernel
theorem dX5_stateOf_24 : decode cX5_stateOf 24 = .ok (.iconst 2, 1) := by decide +kernel
theorem dX5_stateOf_25 : decode cX5_stateOf 25 = .ok (.goto 4, 3) := by decide +kernel
theorem dX5_stateOf_28 : decode cX5_stateOf 28 = .ok (.iconst 0, 1) := by decide +kernel
theorem dX5_stateOf_29 : decode cX5_stateOf 29 = .ok (.ireturn, 1) := by decide +kernel
theorem dX5_put_0 : decode cX5_put 0 = .ok (.iconst 1, 1) := by decide +kernel
theorem dX5_put_1 : decode cX5_put 1 = .ok (.iload_n 1, 1) := by decide +kernel
theorem dX5_put_2 : decode cX5_put 2 = .ok (.ishl, 1) := by decide +kernel
theorem dX5_put_3 : decode cX5_put 3 = .ok (.iconst (-1), 1) := by decide +kernel
theorem dX5_put_4 : decode cX5_put 4 = .ok (.ixor, 1) := by decide +kernel
theorem dX5_put_5 : decode cX5_put 5 = .ok (.istore_n 3, 1) := by decide +kernel
theorem dX5_put_6 : decode cX5_put 6 = .ok (.aload_n 0, 1) := by decide +kernel
theorem dX5_put_7 : decode cX5_put 7 = .ok (.dup, 1) := by decide +kernel
theorem dX5_put_8 : decode cX5_put 8 = .ok (.getfield 9, 3) := by decide +kernel
theorem dX5_put_11 : decode cX5_put 11 = .ok (.iload_n 3, 1) := by decide +kernel
theorem dX5_put_12 : decode cX5_put 12 = .ok (.iand, 1) := by decide +kernel
theorem dX5_put_13 : decode cX5_put 13 = .ok (.putfield 9, 3) := by decide +kernel
theorem dX5_put_16 : decode cX5_put 16 = .ok (.aload_n 0, 1) := by decide +kernel
theorem dX5_put_17 : decode cX5_put 17 = .ok (.dup, 1) := by decide +kernel
theorem dX5_put_18 : decode cX5_put 18 = .ok (.getfield 19, 3) := by decide +kernel
theorem dX5_put_21 : decode cX5_put 21 = .ok (.iload_n 3, 1) := by decide +kernel
theorem dX5_put_22 : decode cX5_put 22 = .ok (.iand, 1) := by decide +kernel
theorem dX5_put_23 : decode cX5_put 23 = .ok (.putfield 19, 3) := by decide +kernel
theorem dX5_put_26 : decode cX5_put 26 = .ok (.iload_n 2, 1) := by decide +kernel
theorem dX5_put_27 : decode cX5_put 27 = .ok (.iconst 1, 1) := by decide +kernel
theorem dX5_put_28 : decode cX5_put 28 = .ok (.if_icmp .ne 18, 3) := by decide +kernel
theorem dX5_put_31 : decode cX5_put 31 = .ok (.aload_n 0, 1) := by decide +kernel
theorem dX5_put_32 : decode cX5_put 32 = .ok (.dup, 1) := by decide +kernel
theorem dX5_put_33 : decode cX5_put 33 = .ok (.getfield 9, 3) := by decide +kernel
theorem dX5_put_36 : decode cX5_put 36 = .ok (.iconst 1, 1) := by decide +kernel
theorem dX5_put_37 : decode cX5_put 37 = .ok (.iload_n 1, 1) := by decide +kernel
theorem dX5_put_38 : decode cX5_put 38 = .ok (.ishl, 1) := by decide +kernel
theorem dX5_put_39 : decode cX5_put 39 = .ok (.ior, 1) := by decide +kernel
theorem dX5_put_40 : decode cX5_put 40 = .ok (.putfield 9, 3) := by decide +kernel
theorem dX5_put_43 : decode cX5_put 43 = .ok (.goto 20, 3) := by decide +kernel
theorem dX5_put_46 : decode cX5_put 46 = .ok (.iload_n 2, 1) := by decide +kernel
theorem dX5_put_47 : decode cX5_put 47 = .ok (.iconst 2, 1) := by decide +kernel
theorem dX5_put_48 : decode cX5_put 48 = .ok (.if_icmp .ne 15, 3) := by decide +kernel
theorem dX5_put_51 : decode cX5_put 51 = .ok (.aload_n 0, 1) := by decide +kernel
theorem dX5_put_52 : decode cX5_put 52 = .ok (.dup, 1) := by decide +kernel
theorem dX5_put_53 : decode cX5_put 53 = .ok (.getfield 19, 3) := by decide +kernel
theorem dX5_put_56 : decode cX5_put 56 = .ok (.iconst 1, 1) := by decide +kernel
theorem dX5_put_57 : decode cX5_put 57 = .ok (.iload_n 1, 1) := by decide +kernel
theorem dX5_put_58 : decode cX5_put 58 = .ok (.ishl, 1) := by decide +kernel
theorem dX5_put_59 : decode cX5_put 59 = .ok (.ior, 1) := by decide +kernel
theorem dX5_put_60 : decode cX5_put 60 = .ok (.putfield 19, 3) := by decide +kernel
theorem dX5_put_63 : decode cX5_put 63 = .ok (.return_, 1) := by decide +kernel
theorem dX5_copyFrom_0 : decode cX5_copyFrom 0 = .ok (.aload_n 0, 1) := by decide +kernel
theorem dX5_copyFrom_1 : decode cX5_copyFrom 1 = .ok (.aload_n 1, 1) := by decide +kernel
theorem dX5_copyFrom_2 : decode cX5_copyFrom 2 = .ok (.getfield 9, 3) := by decide +kernel
theorem dX5_copyFrom_5 : decode cX5_copyFrom 5 = .ok (.putfield 9, 3) := by decide +kernel
theorem dX5_copyFrom_8 : decode cX5_copyFrom 8 = .ok (.aload_n 0, 1) := by decide +kernel
theorem dX5_copyFrom_9 : decode cX5_copyFrom 9 = .ok (.aload_n 1, 1) := by decide +kernel
theorem dX5_copyFrom_10 : decode cX5_copyFrom 10 = .ok (.getfield 19, 3) := by decide +kernel
theorem dX5_copyFrom_13 : decode cX5_copyFrom 13 = .ok (.putfield 19, 3) := by decide +kernel
theorem dX5_copyFrom_16 : decode cX5_copyFrom 16 = .ok (.return_, 1) := by decide +kernel
set_option maxRecDepth 20000 in
theorem ggX6_init_X1_init : GoodIn wsX6_init wsX1_init := goodIn_r _ [32, 33, 2, 3, 34, 35, 36, 37, 38, 39, 40, 66, 67, 68, 69, 70, 71] (by decide +kernel) (by decide +kernel)
set_option maxRecDepth 20000 in
theorem gX6_init_X1_init : GoodIn wsX6_init (wsX1_init) := ggX6_init_X1_init
set_option maxRecDepth 20000 in
theorem ggX6_init_X5_init : GoodIn wsX6_init wsX5_init := goodIn_r _ [42, 43, 2, 3] (by decide +kernel) (by decide +kernel)
set_option maxRecDepth 20000 in
theorem gX6_init_X5_init_n20 : GoodIn wsX6_init (wsX5_init) := ggX6_init_X5_init
set_option maxRecDepth 20000 in
theorem ggX6_init_X0_init : GoodIn wsX6_init wsX0_init := goodIn_r _ [45, 46, 2, 3, 34, 47, 48, 84, 85, 86] (by decide +kernel) (by decide +kernel)
set_option maxRecDepth 20000 in
theorem gX6_init_X0_init_n27 : GoodIn wsX6_init (wsX0_init) := ggX6_init_X0_init
set_option maxRecDepth 20000 in
theorem ggX6_init_X2_init : GoodIn wsX6_init wsX2_init := goodIn_r _ [51, 52, 2, 3, 53, 54, 34, 55, 56, 87, 88, 89, 90, 91, 92, 93] (by decide +kernel) (by decide +kernel)
set_option maxRecDepth 20000 in
theorem gX6_init_X2_init : GoodIn wsX6_init (wsX2_init) := ggX6_init_X2_init
set_option maxRecDepth 20000 in
theorem ggX6_init_X3_init : GoodIn wsX6_init wsX3_init := goodIn_r _ [58, 59, 2, 3] (by decide +kernel) (by decide +kernel)
set_option maxRecDepth 20000 in
theorem gX6_init_X3_init_n49 : GoodIn wsX6_init (wsX3_init) := ggX6_init_X3_init
set_option maxRecDepth 20000 in
theorem ggX6_init_X4_init : GoodIn wsX6_init wsX4_init := goodIn_r _ [61, 62, 2, 3, 34, 63, 64, 65, 97, 98, 99, 100] (by decide +kernel) (by decide +kernel)
set_option maxRecDepth 20000 in
theorem gX6_init_X4_init_n56 : GoodIn wsX6_init (wsX4_init) := ggX6_init_X4_init
theorem dX6_init_0 : decode cX6_init 0 = .ok (.aload_n 0, 1) := by decide +kernel
theorem dX6_init_1 : decode cX6_init 1 = .ok (.invokespecial 5, 3) := by decide +kernel
theorem dX6_init_4 : decode cX6_init 4 = .ok (.aload_n 0, 1) := by decide +kernel
theorem dX6_init_5 : decode cX6_init 5 = .ok (.new 11, 3) := by decide +kernel
theorem dX6_init_8 : decode cX6_init 8 = .ok (.dup, 1) := by decide +kernel
theorem dX6_init_9 : decode cX6_init 9 = .ok (.invokespecial 13, 3) := by decide +kernel
theorem dX6_init_12 : decode cX6_init 12 = .ok (.putfield 14, 3) := by decide +kernel
theorem dX6_init_15 : decode cX6_init 15 = .ok (.aload_n 0, 1) := by decide +kernel
theorem dX6_init_16 : decode cX6_init 16 = .ok (.new 18, 3) := by decide +kernel
theorem dX6_init_19 : decode cX6_init 19 = .ok (.dup, 1) := by decide +kernel
theorem dX6_init_20 : decode cX6_init 20 = .ok (.invokespecial 20, 3) := by decide +kernel
theorem dX6_init_23 : decode cX6_init 23 = .ok (.putfield 21, 3) := by decide +kernel
theorem dX6_init_26 : decode cX6_init 26 = .ok (.aload_n 0, 1) := by decide +kernel
theorem dX6_init_27 : decode cX6_init 27 = .ok (.new 25, 3) := by decide +kernel
theorem dX6_init_30 : decode cX6_init 30 = .ok (.dup, 1) := by decide +kernel
theorem dX6_init_31 : decode cX6_init 31 = .ok (.invokespecial 27, 3) := by decide +kernel
theorem dX6_init_34 : decode cX6_init 34 = .ok (.putfield 28, 3) := by decide +kernel
theorem dX6_init_37 : decode cX6_init 37 = .ok (.aload_n 0, 1) := by decide +kernel
theorem dX6_init_38 : decode cX6_init 38 = .ok (.new 32, 3) := by decide +kernel
theorem dX6_init_41 : decode cX6_init 41 = .ok (.dup, 1) := by decide +kernel
theorem dX6_init_42 : decode cX6_init 42 = .ok (.aload_n 0, 1) := by decide +kernel
theorem dX6_init_43 : decode cX6_init 43 = .ok (.getfield 14, 3) := by decide +kernel
theorem dX6_init_46 : decode cX6_init 46 = .ok (.invokespecial 34, 3) := by decide +kernel
theorem dX6_init_49 : decode cX6_init 49 = .ok (.putfield 37, 3) := by decide +kernel
theorem dX6_init_52 : decode cX6_init 52 = .ok (.aload_n 0, 1) := by decide +kernel
theorem dX6_init_53 : decode cX6_init 53 = .ok (.new 18, 3) := by decide +kernel
theorem dX6_init_56 : decode cX6_init 56 = .ok (.dup, 1) := by decide +kernel
theorem dX6_init_57 : decode cX6_init 57 = .ok (.invokespecial 20, 3) := by decide +kernel
theorem dX6_init_60 : decode cX6_init 60 = .ok (.putfield 41, 3) := by decide +kernel
theorem dX6_init_63 : decode cX6_init 63 = .ok (.aload_n 0, 1) := by decide +kernel
theorem dX6_init_64 : decode cX6_init 64 = .ok (.new 32, 3) := by decide +kernel
theorem dX6_init_67 : decode cX6_init 67 = .ok (.dup, 1) := by decide +kernel
theorem dX6_init_68 : decode cX6_init 68 = .ok (.aload_n 0, 1) := by decide +kernel
theorem dX6_init_69 : decode cX6_init 69 = .ok (.getfield 14, 3) := by decide +kernel
theorem dX6_init_72 : decode cX6_init 72 = .ok (.invokespecial 34, 3) := by decide +kernel
theorem dX6_init_75 : decode cX6_init 75 = .ok (.putfield 44, 3) := by decide +kernel
theorem dX6_init_78 : decode cX6_init 78 = .ok (.aload_n 0, 1) := by decide +kernel
theorem dX6_init_79 : decode cX6_init 79 = .ok (.new 47, 3) := by decide +kernel
theorem dX6_init_82 : decode cX6_init 82 = .ok (.dup, 1) := by decide +kernel
theorem dX6_init_83 : decode cX6_init 83 = .ok (.invokespecial 49, 3) := by decide +kernel
theorem dX6_init_86 : decode cX6_init 86 = .ok (.putfield 50, 3) := by decide +kernel
theorem dX6_init_89 : decode cX6_init 89 = .ok (.aload_n 0, 1) := by decide +kernel
theorem dX6_init_90 : decode cX6_init 90 = .ok (.new 54, 3) := by decide +kernel
theorem dX6_init_93 : decode cX6_init 93 = .ok (.dup, 1) := by decide +kernel
theorem dX6_init_94 : decode cX6_init 94 = .ok (.invokespecial 56, 3) := by decide +kernel
theorem dX6_init_97 : decode cX6_init 97 = .ok (.putfield 57, 3) := by decide +kernel
theorem dX6_init_100 : decode cX6_init 100 = .ok (.return_, 1) := by decide +kernel
set_option maxRecDepth 20000 in
theorem ggX6_cause_X6_isCause : GoodIn wsX6_cause wsX6_isCause := goodIn_r _ [7] (by decide +kernel) (by decide +kernel)
set_option maxRecDepth 20000 in
theorem gX6_cause_X6_isCause : GoodIn wsX6_cause (va_wsS RX6 61 yX6_isCause wsX6_isCause) := goodIn_app (goodIn_of _ (by decide +kernel)) ggX6_cause_X6_isCause
set_option maxRecDepth 20000 in
theorem ggX6_cause_X6_areOdds : GoodIn wsX6_cause wsX6_areOdds := goodIn_r _ [10] (by decide +kernel) (by decide +kernel)
set_option maxRecDepth 20000 in
theorem gX6_cause_X6_areOdds : GoodIn wsX6_cause (va_wsS RX6 65 yX6_areOdds wsX6_areOdds) := goodIn_app (goodIn_of _ (by decide +kernel)) ggX6_cause_X6_areOdds
set_option maxRecDepth 20000 in
theorem ggX6_cause_X6_forgetWhatFollowed : GoodIn wsX6_cause wsX6_forgetWhatFollowed := goodIn_r _ [14, 15, 16, 17, 18, 19, 20, 21, 22, 23, 24, 25, 26] (by decide +kernel) (by decide +kernel)
set_option maxRecDepth 20000 in
theorem gX6_cause_X6_forgetWhatFollowed : GoodIn wsX6_cause (wsV RX6 75 RX6 yX6_forgetWhatFollowed wsX6_forgetWhatFollowed) := goodIn_app (goodIn_of _ (by decide +kernel)) ggX6_cause_X6_forgetWhatFollowed
theorem dX6_cause_0 : decode cX6_cause 0 = .ok (.iload_n 1, 1) := by decide +kernel
theorem dX6_cause_1 : decode cX6_cause 1 = .ok (.invokestatic 61, 3) := by decide +kernel
theorem dX6_cause_4 : decode cX6_cause 4 = .ok (.ifCond .ne 5, 3) := by decide +kernel
theorem dX6_cause_7 : decode cX6_cause 7 = .ok (.iconst (-1), 1) := by decide +kernel
theorem dX6_cause_8 : decode cX6_cause 8 = .ok (.ireturn, 1) := by decide +kernel
theorem dX6_cause_9 : decode cX6_cause 9 = .ok (.iload_n 2, 1) := by decide +kernel
theorem dX6_cause_10 : decode cX6_cause 10 = .ok (.invokestatic 65, 3) := by decide +kernel
theorem dX6_cause_13 : decode cX6_cause 13 = .ok (.ifCond .eq 10, 3) := by decide +kernel
theorem dX6_cause_16 : decode cX6_cause 16 = .ok (.iload_n 3, 1) := by decide +kernel
theorem dX6_cause_17 : decode cX6_cause 17 = .ok (.invokestatic 65, 3) := by decide +kernel
theorem dX6_cause_20 : decode cX6_cause 20 = .ok (.ifCond .ne 6, 3) := by decide +kernel
theorem dX6_cause_23 : decode cX6_cause 23 = .ok (.bipush (-2), 2) := by decide +kernel
theorem dX6_cause_25 : decode cX6_cause 25 = .ok (.ireturn, 1) := by decide +kernel
theorem dX6_cause_26 : decode cX6_cause 26 = .ok (.aload_n 0, 1) := by decide +kernel
theorem dX6_cause_27 : decode cX6_cause 27 = .ok (.getfield 14, 3) := by decide +kernel
theorem dX6_cause_30 : decode cX6_cause 30 = .ok (.getfield 68, 3) := by decide +kernel
theorem dX6_cause_33 : decode cX6_cause 33 = .ok (.iload_n 1, 1) := by decide +kernel
theorem dX6_cause_34 : decode cX6_cause 34 = .ok (.iload_n 2, 1) := by decide +kernel
theorem dX6_cause_35 : decode cX6_cause 35 = .ok (.iastore, 1) := by decide +kernel
theorem dX6_cause_36 : decode cX6_cause 36 = .ok (.aload_n 0, 1) := by decide +kernel
theorem dX6_cause_37 : decode cX6_cause 37 = .ok (.getfield 14, 3) := by decide +kernel
theorem dX6_cause_40 : decode cX6_cause 40 = .ok (.getfield 72, 3) := by decide +kernel
theorem dX6_cause_43 : decode cX6_cause 43 = .ok (.iload_n 1, 1) := by decide +kernel
theorem dX6_cause_44 : decode cX6_cause 44 = .ok (.iload_n 3, 1) := by decide +kernel
theorem dX6_cause_45 : decode cX6_cause 45 = .ok (.iastore, 1) := by decide +kernel
theorem dX6_cause_46 : decode cX6_cause 46 = .ok (.aload_n 0, 1) := by decide +kernel
theorem dX6_cause_47 : decode cX6_cause 47 = .ok (.invokevirtual 75, 3) := by decide +kernel
theorem dX6_cause_50 : decode cX6_cause 50 = .ok (.iconst 1, 1) := by decide +kernel
theorem dX6_cause_51 : decode cX6_cause 51 = .ok (.ireturn, 1) := by decide +kernel
set_option maxRecDepth 20000 in
theorem ggX6_link_X6_isFinding : GoodIn wsX6_link wsX6_isFinding := goodIn_r _ [5] (by decide +kernel) (by decide +kernel)
set_option maxRecDepth 20000 in
theorem gX6_link_X6_isFinding : GoodIn wsX6_link (va_wsS RX6 78 yX6_isFinding wsX6_isFinding) := goodIn_app (goodIn_of _ (by decide +kernel)) ggX6_link_X6_isFinding
set_option maxRecDepth 20000 in
theorem ggX6_link_X6_isCause : GoodIn wsX6_link wsX6_isCause := goodIn_r _ [8] (by decide +kernel) (by decide +kernel)
set_option maxRecDepth 20000 in
theorem gX6_link_X6_isCause : GoodIn wsX6_link (va_wsS RX6 61 yX6_isCause wsX6_isCause) := goodIn_app (goodIn_of _ (by decide +kernel)) ggX6_link_X6_isCause
set_option maxRecDepth 20000 in
theorem ggX6_link_X1_linkBetween : GoodIn wsX6_link wsX1_linkBetween := goodIn_r _ [13, 14, 15, 16, 4, 17, 43, 44, 45, 46, 47, 48] (by decide +kernel) (by decide +kernel)
set_option maxRecDepth 20000 in
theorem gX6_link_X1_linkBetween : GoodIn wsX6_link (wsV RX6 81 RX1 yX1_linkBetween wsX1_linkBetween) := goodIn_app (goodIn_of _ (by decide +kernel)) ggX6_link_X1_linkBetween
set_option maxRecDepth 20000 in
theorem ggX6_link_X1_putLink : GoodIn wsX6_link wsX1_putLink := goodIn_r _ [21, 15, 14, 22, 23, 24, 25, 12, 26, 43, 44, 45, 46, 47, 48] (by decide +kernel) (by decide +kernel)
set_option maxRecDepth 20000 in
theorem gX6_link_X1_putLink : GoodIn wsX6_link (wsV RX6 85 RX1 yX1_putLink wsX1_putLink) := goodIn_app (goodIn_of _ (by decide +kernel)) ggX6_link_X1_putLink
set_option maxRecDepth 20000 in
theorem ggX6_link_X6_forgetWhatFollowed : GoodIn wsX6_link wsX6_forgetWhatFollowed := goodIn_r _ [30, 31, 32, 33, 34, 35, 36, 37, 38, 39, 40, 41, 42] (by decide +kernel) (by decide +kernel)
set_option maxRecDepth 20000 in
theorem gX6_link_X6_forgetWhatFollowed : GoodIn wsX6_link (wsV RX6 75 RX6 yX6_forgetWhatFollowed wsX6_forgetWhatFollowed) := goodIn_app (goodIn_of _ (by decide +kernel)) ggX6_link_X6_forgetWhatFollowed
theorem dX6_link_0 : decode cX6_link 0 = .ok (.iload_n 1, 1) := by decide +kernel
theorem dX6_link_1 : decode cX6_link 1 = .ok (.invokestatic 78, 3) := by decide +kernel
theorem dX6_link_4 : decode cX6_link 4 = .ok (.ifCond .eq 10, 3) := by decide +kernel
theorem dX6_link_7 : decode cX6_link 7 = .ok (.iload_n 2, 1) := by decide +kernel
theorem dX6_link_8 : decode cX6_link 8 = .ok (.invokestatic 61, 3) := by decide +kernel
theorem dX6_link_11 : decode cX6_link 11 = .ok (.ifCond .ne 5, 3) := by decide +kernel
theorem dX6_link_14 : decode cX6_link 14 = .ok (.iconst (-1), 1) := by decide +kernel
theorem dX6_link_15 : decode cX6_link 15 = .ok (.ireturn, 1) := by decide +kernel
theorem dX6_link_16 : decode cX6_link 16 = .ok (.iload_n 3, 1) := by decide +kernel
theorem dX6_link_17 : decode cX6_link 17 = .ok (.ifCond .eq 16, 3) := by decide +kernel
theorem dX6_link_20 : decode cX6_link 20 = .ok (.iload_n 3, 1) := by decide +kernel
theorem dX6_link_21 : decode cX6_link 21 = .ok (.iconst 1, 1) := by decide +kernel
theorem dX6_link_22 : decode cX6_link 22 = .ok (.if_icmp .eq 11, 3) := by decide +kernel
theorem dX6_link_25 : decode cX6_link 25 = .ok (.iload_n 3, 1) := by decide +kernel
theorem dX6_link_26 : decode cX6_link 26 = .ok (.iconst 2, 1) := by decide +kernel
theorem dX6_link_27 : decode cX6_link 27 = .ok (.if_icmp .eq 6, 3) := by decide +kernel
theorem dX6_link_30 : decode cX6_link 30 = .ok (.bipush (-2), 2) := by decide +kernel
theorem dX6_link_32 : decode cX6_link 32 = .ok (.ireturn, 1) := by decide +kernel
theorem dX6_link_33 : decode cX6_link 33 = .ok (.aload_n 0, 1) := by decide +kernel
theorem dX6_link_34 : decode cX6_link 34 = .ok (.getfield 14, 3) := by decide +kernel
theorem dX6_link_37 : decode cX6_link 37 = .ok (.iload_n 1, 1) := by decide +kernel
theorem dX6_link_38 : decode cX6_link 38 = .ok (.iload_n 2, 1) := by decide +kernel
theorem dX6_link_39 : decode cX6_link 39 = .ok (.invokevirtual 81, 3) := by decide +kernel
theorem dX6_link_42 : decode cX6_link 42 = .ok (.istore 4, 2) := by decide +kernel
theorem dX6_link_44 : decode cX6_link 44 = .ok (.aload_n 0, 1) := by decide +kernel
theorem dX6_link_45 : decode cX6_link 45 = .ok (.getfield 14, 3) := by decide +kernel
theorem dX6_link_48 : decode cX6_link 48 = .ok (.iload_n 1, 1) := by decide +kernel
theorem dX6_link_49 : decode cX6_link 49 = .ok (.iload_n 2, 1) := by decide +kernel
theorem dX6_link_50 : decode cX6_link 50 = .ok (.iload_n 3, 1) := by decide +kernel
theorem dX6_link_51 : decode cX6_link 51 = .ok (.invokevirtual 85, 3) := by decide +kernel
theorem dX6_link_54 : decode cX6_link 54 = .ok (.aload_n 0, 1) := by decide +kernel
theorem dX6_link_55 : decode cX6_link 55 = .ok (.invokevirtual 75, 3) := by decide +kernel
theorem dX6_link_58 : decode cX6_link 58 = .ok (.iload 4, 2) := by decide +kernel
theorem dX6_link_60 : decode cX6_link 60 = .ok (.ireturn, 1) := by decide +kernel
set_option maxRecDepth 20000 in
theorem ggX6_ofCause_X6_isCause : GoodIn wsX6_ofCause wsX6_isCause := goodIn_r _ [11] (by decide +kernel) (by decide +kernel)
set_option maxRecDepth 20000 in
theorem gX6_ofCause_X6_isCause : GoodIn wsX6_ofCause (va_wsS RX6 61 yX6_isCause wsX6_isCause) := goodIn_app (goodIn_of _ (by decide +kernel)) ggX6_ofCause_X6_isCause
set_option maxRecDepth 20000 in
theorem ggX6_ofCause_X1_excludedBy : GoodIn wsX6_ofCause wsX1_excludedBy := goodIn_r _ [16, 17, 18, 10, 19, 91, 92, 93, 94, 95, 96] (by decide +kernel) (by decide +kernel)
set_option maxRecDepth 20000 in
theorem gX6_ofCause_X1_excludedBy : GoodIn wsX6_ofCause (wsV RX6 99 RX1 yX1_excludedBy wsX1_excludedBy) := goodIn_app (goodIn_of _ (by decide +kernel)) ggX6_ofCause_X1_excludedBy
set_option maxRecDepth 20000 in
theorem ggX6_ofCause_X6_has : GoodIn wsX6_ofCause wsX6_has := goodIn_r _ [19] (by decide +kernel) (by decide +kernel)
set_option maxRecDepth 20000 in
theorem gX6_ofCause_X6_has : GoodIn wsX6_ofCause (va_wsS RX6 103 yX6_has wsX6_has) := goodIn_app (goodIn_of _ (by decide +kernel)) ggX6_ofCause_X6_has
set_option maxRecDepth 20000 in
theorem ggX6_ofCause_X6_upToDate : GoodIn wsX6_ofCause wsX6_upToDate := goodIn_r _ [24, 25, 26, 6, 27, 28, 29, 30, 31, 32, 33, 34, 35, 36, 37, 38, 39, 40, 41, 13, 14, 15, 16, 17, 18, 10, 19, 42, 43, 44, 45, 46, 47, 48, 49, 50, 51, 52, 53, 54, 55, 56, 57, 58, 59, 60, 61, 62, 63, 64, 65, 66, 67, 68, 69, 70, 71, 81, 82, 83, 84, 85, 86, 87, 88, 89, 90, 99, 100, 101, 102, 103, 104, 105, 97, 98, 91, 92, 93, 94, 95, 96] (by decide +kernel) (by decide +kernel)
set_option maxRecDepth 20000 in
theorem gX6_ofCause_X6_upToDate : GoodIn wsX6_ofCause (wsV RX6 107 RX6 yX6_upToDate wsX6_upToDate) := goodIn_app (goodIn_of _ (by decide +kernel)) ggX6_ofCause_X6_upToDate
set_option maxRecDepth 20000 in
theorem ggX6_ofCause_X2_countWithCause : GoodIn wsX6_ofCause wsX2_countWithCause := goodIn_r _ [75, 32, 76, 77, 78, 30, 79, 51, 80, 18, 10, 19, 99, 100, 101, 102, 103, 104, 105] (by decide +kernel) (by decide +kernel)
set_option maxRecDepth 20000 in
theorem gX6_ofCause_X2_countWithCause : GoodIn wsX6_ofCause (wsV RX6 111 RX2 yX2_countWithCause wsX2_countWithCause) := goodIn_app (goodIn_of _ (by decide +kernel)) ggX6_ofCause_X2_countWithCause
theorem dX6_ofCause_0 : decode cX6_ofCause 0 = .ok (.iload_n 1, 1) := by decide +kernel
theorem dX6_ofCause_1 : decode cX6_ofCause 1 = .ok (.invokestatic 61, 3) := by decide +kernel
theorem dX6_ofCause_4 : decode cX6_ofCause 4 = .ok (.ifCond .ne 5, 3) := by decide +kernel
theorem dX6_ofCause_7 : decode cX6_ofCause 7 = .ok (.iconst (-1), 1) := by decide +kernel
theorem dX6_ofCause_8 : decode cX6_ofCause 8 = .ok (.ireturn, 1) := by decide +kernel
theorem dX6_ofCause_9 : decode cX6_ofCause 9 = .ok (.iload_n 2, 1) := by decide +kernel
theorem dX6_ofCause_10 : decode cX6_ofCause 10 = .ok (.tableswitch 114 0 5 #[38, 48, 58, 68, 78, 105], 38) := by decide +kernel
theorem dX6_ofCause_48 : decode cX6_ofCause 48 = .ok (.aload_n 0, 1) := by decide +kernel
theorem dX6_ofCause_49 : decode cX6_ofCause 49 = .ok (.getfield 14, 3) := by decide +kernel
theorem dX6_ofCause_52 : decode cX6_ofCause 52 = .ok (.getfield 68, 3) := by decide +kernel
theorem dX6_ofCause_55 : decode cX6_ofCause 55 = .ok (.iload_n 1, 1) := by decide +kernel
theorem dX6_ofCause_56 : decode cX6_ofCause 56 = .ok (.iaload, 1) := by decide +kernel
theorem dX6_ofCause_57 : decode cX6_ofCause 57 = .ok (.ireturn, 1) := by decide +kernel
theorem dX6_ofCause_58 : decode cX6_ofCause 58 = .ok (.aload_n 0, 1) := by decide +kernel
theorem dX6_ofCause_59 : decode cX6_ofCause 59 = .ok (.getfield 14, 3) := by decide +kernel
theorem dX6_ofCause_62 : decode cX6_ofCause 62 = .ok (.getfield 72, 3) := by decide +kernel
theorem dX6_ofCause_65 : decode cX6_ofCause 65 = .ok (.iload_n 1, 1) := by decide +kernel
theorem dX6_ofCause_66 : decode cX6_ofCause 66 = .ok (.iaload, 1) := by decide +kernel
theorem dX6_ofCause_67 : decode cX6_ofCause 67 = .ok (.ireturn, 1) := by decide +kernel
theorem dX6_ofCause_68 : decode cX6_ofCause 68 = .ok (.aload_n 0, 1) := by decide +kernel
theorem dX6_ofCause_69 : decode cX6_ofCause 69 = .ok (.getfield 14, 3) := by decide +kernel
theorem dX6_ofCause_72 : decode cX6_ofCause 72 = .ok (.getfield 89, 3) := by decide +kernel
theorem dX6_ofCause_75 : decode cX6_ofCause 75 = .ok (.iload_n 1, 1) := by decide +kernel
theorem dX6_ofCause_76 : decode cX6_ofCause 76 = .ok (.iaload, 1) := by decide +kernel
theorem dX6_ofCause_77 : decode cX6_ofCause 77 = .ok (.ireturn, 1) := by decide +kernel
theorem dX6_ofCause_78 : decode cX6_ofCause 78 = .ok (.aload_n 0, 1) := by decide +kernel
theorem dX6_ofCause_79 : decode cX6_ofCause 79 = .ok (.getfield 14, 3) := by decide +kernel
theorem dX6_ofCause_82 : decode cX6_ofCause 82 = .ok (.getfield 92, 3) := by decide +kernel
theorem dX6_ofCause_85 : decode cX6_ofCause 85 = .ok (.iload_n 1, 1) := by decide +kernel
theorem dX6_ofCause_86 : decode cX6_ofCause 86 = .ok (.iaload, 1) := by decide +kernel
theorem dX6_ofCause_87 : decode cX6_ofCause 87 = .ok (.ireturn, 1) := by decide +kernel
theorem dX6_ofCause_88 : decode cX6_ofCause 88 = .ok (.aload_n 0, 1) := by decide +kernel
theorem dX6_ofCause_89 : decode cX6_ofCause 89 = .ok (.getfield 14, 3) := by decide +kernel
theorem dX6_ofCause_92 : decode cX6_ofCause 92 = .ok (.aload_n 0, 1) := by decide +kernel
theorem dX6_ofCause_93 : decode cX6_ofCause 93 = .ok (.getfield 21, 3) := by decide +kernel
theorem dX6_ofCause_96 : decode cX6_ofCause 96 = .ok (.getfield 95, 3) := by decide +kernel
theorem dX6_ofCause_99 : decode cX6_ofCause 99 = .ok (.invokevirtual 99, 3) := by decide +kernel
theorem dX6_ofCause_102 : decode cX6_ofCause 102 = .ok (.iload_n 1, 1) := by decide +kernel
theorem dX6_ofCause_103 : decode cX6_ofCause 103 = .ok (.invokestatic 103, 3) := by decide +kernel
theorem dX6_ofCause_106 : decode cX6_ofCause 106 = .ok (.ifCond .eq 7, 3) := by decide +kernel
theorem dX6_ofCause_109 : decode cX6_ofCause 109 = .ok (.iconst 1, 1) := by decide +kernel
theorem dX6_ofCause_110 : decode cX6_ofCause 110 = .ok (.goto 4, 3) := by decide +kernel
theorem dX6_ofCause_113 : decode cX6_ofCause 113 = .ok (.iconst 0, 1) := by decide +kernel
theorem dX6_ofCause_114 : decode cX6_ofCause 114 = .ok (.ireturn, 1) := by decide +kernel
theorem dX6_ofCause_115 : decode cX6_ofCause 115 = .ok (.aload_n 0, 1) := by decide +kernel
theorem dX6_ofCause_116 : decode cX6_ofCause 116 = .ok (.invokevirtual 107, 3) := by decide +kernel
theorem dX6_ofCause_119 : decode cX6_ofCause 119 = .ok (.iload_n 1, 1) := by decide +kernel
theorem dX6_ofCause_120 : decode cX6_ofCause 120 = .ok (.invokevirtual 111, 3) := by decide +kernel
theorem dX6_ofCause_123 : decode cX6_ofCause 123 = .ok (.ireturn, 1) := by decide +kernel
theorem dX6_ofCause_124 : decode cX6_ofCause 124 = .ok (.bipush (-2), 2) := by decide +kernel
theorem dX6_ofCause_126 : decode cX6_ofCause 126 = .ok (.ireturn, 1) := by decide +kernel
set_option maxRecDepth 20000 in
theorem ggX6_ofFinding_X6_isFinding : GoodIn wsX6_ofFinding wsX6_isFinding := goodIn_r _ [8] (by decide +kernel) (by decide +kernel)
set_option maxRecDepth 20000 in
theorem gX6_ofFinding_X6_isFinding : GoodIn wsX6_ofFinding (va_wsS RX6 78 yX6_isFinding wsX6_isFinding) := goodIn_app (goodIn_of _ (by decide +kernel)) ggX6_ofFinding_X6_isFinding
set_option maxRecDepth 20000 in
theorem ggX6_ofFinding_X5_stateOf : GoodIn wsX6_ofFinding wsX5_stateOf := goodIn_r _ [13, 14, 15, 16, 7, 17, 108, 109] (by decide +kernel) (by decide +kernel)
set_option maxRecDepth 20000 in
theorem gX6_ofFinding_X5_stateOf : GoodIn wsX6_ofFinding (wsV RX6 114 RX5 yX5_stateOf wsX5_stateOf) := goodIn_app (goodIn_of _ (by decide +kernel)) ggX6_ofFinding_X5_stateOf
set_option maxRecDepth 20000 in
theorem ggX6_ofFinding_X6_upToDate : GoodIn wsX6_ofFinding wsX6_upToDate := goodIn_r _ [21, 22, 23, 1, 24, 25, 26, 27, 28, 29, 30, 31, 32, 33, 34, 35, 36, 37, 38, 39, 40, 41, 42, 43, 16, 7, 17, 44, 45, 46, 47, 48, 49, 50, 51, 52, 53, 54, 55, 56, 57, 58, 59, 60, 61, 62, 63, 64, 65, 66, 67, 68, 69, 70, 71, 72, 73, 92, 93, 94, 95, 96, 97, 98, 99, 100, 101, 110, 111, 112, 113, 114, 115, 116, 108, 109, 102, 103, 104, 105, 106, 107] (by decide +kernel) (by decide +kernel)
set_option maxRecDepth 20000 in
theorem gX6_ofFinding_X6_upToDate : GoodIn wsX6_ofFinding (wsV RX6 107 RX6 yX6_upToDate wsX6_upToDate) := goodIn_app (goodIn_of _ (by decide +kernel)) ggX6_ofFinding_X6_upToDate
set_option maxRecDepth 20000 in
theorem ggX6_ofFinding_X2_countForetelling : GoodIn wsX6_ofFinding wsX2_countForetelling := goodIn_r _ [77, 29, 78, 79, 80, 27, 81, 33, 82, 83, 84, 85, 53, 86, 87, 88, 89, 41, 90, 43, 91, 110, 111, 112, 113, 114, 115, 116, 102, 103, 104, 105, 106, 107] (by decide +kernel) (by decide +kernel)
set_option maxRecDepth 20000 in
theorem gX6_ofFinding_X2_countForetelling : GoodIn wsX6_ofFinding (wsV RX6 123 RX2 yX2_countForetelling wsX2_countForetelling) := goodIn_app (goodIn_of _ (by decide +kernel)) ggX6_ofFinding_X2_countForetelling
theorem dX6_ofFinding_0 : decode cX6_ofFinding 0 = .ok (.iload_n 1, 1) := by decide +kernel
theorem dX6_ofFinding_1 : decode cX6_ofFinding 1 = .ok (.invokestatic 78, 3) := by decide +kernel
theorem dX6_ofFinding_4 : decode cX6_ofFinding 4 = .ok (.ifCond .ne 5, 3) := by decide +kernel
theorem dX6_ofFinding_7 : decode cX6_ofFinding 7 = .ok (.iconst (-1), 1) := by decide +kernel
theorem dX6_ofFinding_8 : decode cX6_ofFinding 8 = .ok (.ireturn, 1) := by decide +kernel
theorem dX6_ofFinding_9 : decode cX6_ofFinding 9 = .ok (.iload_n 2, 1) := by decide +kernel
theorem dX6_ofFinding_10 : decode cX6_ofFinding 10 = .ok (.tableswitch 83 0 4 #[34, 43, 53, 63, 73], 34) := by decide +kernel
theorem dX6_ofFinding_44 : decode cX6_ofFinding 44 = .ok (.aload_n 0, 1) := by decide +kernel
theorem dX6_ofFinding_45 : decode cX6_ofFinding 45 = .ok (.getfield 21, 3) := by decide +kernel
theorem dX6_ofFinding_48 : decode cX6_ofFinding 48 = .ok (.iload_n 1, 1) := by decide +kernel
theorem dX6_ofFinding_49 : decode cX6_ofFinding 49 = .ok (.invokevirtual 114, 3) := by decide +kernel
theorem dX6_ofFinding_52 : decode cX6_ofFinding 52 = .ok (.ireturn, 1) := by decide +kernel
theorem dX6_ofFinding_53 : decode cX6_ofFinding 53 = .ok (.aload_n 0, 1) := by decide +kernel
theorem dX6_ofFinding_54 : decode cX6_ofFinding 54 = .ok (.getfield 14, 3) := by decide +kernel
theorem dX6_ofFinding_57 : decode cX6_ofFinding 57 = .ok (.getfield 117, 3) := by decide +kernel
theorem dX6_ofFinding_60 : decode cX6_ofFinding 60 = .ok (.iload_n 1, 1) := by decide +kernel
theorem dX6_ofFinding_61 : decode cX6_ofFinding 61 = .ok (.iaload, 1) := by decide +kernel
theorem dX6_ofFinding_62 : decode cX6_ofFinding 62 = .ok (.ireturn, 1) := by decide +kernel
theorem dX6_ofFinding_63 : decode cX6_ofFinding 63 = .ok (.aload_n 0, 1) := by decide +kernel
theorem dX6_ofFinding_64 : decode cX6_ofFinding 64 = .ok (.getfield 14, 3) := by decide +kernel
theorem dX6_ofFinding_67 : decode cX6_ofFinding 67 = .ok (.getfield 120, 3) := by decide +kernel
theorem dX6_ofFinding_70 : decode cX6_ofFinding 70 = .ok (.iload_n 1, 1) := by decide +kernel
theorem dX6_ofFinding_71 : decode cX6_ofFinding 71 = .ok (.iaload, 1) := by decide +kernel
theorem dX6_ofFinding_72 : decode cX6_ofFinding 72 = .ok (.ireturn, 1) := by decide +kernel
theorem dX6_ofFinding_73 : decode cX6_ofFinding 73 = .ok (.aload_n 0, 1) := by decide +kernel
theorem dX6_ofFinding_74 : decode cX6_ofFinding 74 = .ok (.invokevirtual 107, 3) := by decide +kernel
theorem dX6_ofFinding_77 : decode cX6_ofFinding 77 = .ok (.iload_n 1, 1) := by decide +kernel
theorem dX6_ofFinding_78 : decode cX6_ofFinding 78 = .ok (.iconst 1, 1) := by decide +kernel
theorem dX6_ofFinding_79 : decode cX6_ofFinding 79 = .ok (.invokevirtual 123, 3) := by decide +kernel
theorem dX6_ofFinding_82 : decode cX6_ofFinding 82 = .ok (.ireturn, 1) := by decide +kernel
theorem dX6_ofFinding_83 : decode cX6_ofFinding 83 = .ok (.aload_n 0, 1) := by decide +kernel
theorem dX6_ofFinding_84 : decode cX6_ofFinding 84 = .ok (.invokevirtual 107, 3) := by decide +kernel
theorem dX6_ofFinding_87 : decode cX6_ofFinding 87 = .ok (.iload_n 1, 1) := by decide +kernel
theorem dX6_ofFinding_88 : decode cX6_ofFinding 88 = .ok (.iconst 2, 1) := by decide +kernel
theorem dX6_ofFinding_89 : decode cX6_ofFinding 89 = .ok (.invokevirtual 123, 3) := by decide +kernel
theorem dX6_ofFinding_92 : decode cX6_ofFinding 92 = .ok (.ireturn, 1) := by decide +kernel
theorem dX6_ofFinding_93 : decode cX6_ofFinding 93 = .ok (.bipush (-2), 2) := by decide +kernel
theorem dX6_ofFinding_95 : decode cX6_ofFinding 95 = .ok (.ireturn, 1) := by decide +kernel
set_option maxRecDepth 20000 in
theorem ggX6_tell_X6_isFinding : GoodIn wsX6_tell wsX6_isFinding := goodIn_r _ [4] (by decide +kernel) (by decide +kernel)
set_option maxRecDepth 20000 in
theorem gX6_tell_X6_isFinding : GoodIn wsX6_tell (va_wsS RX6 78 yX6_isFinding wsX6_isFinding) := goodIn_app (goodIn_of _ (by decide +kernel)) ggX6_tell_X6_isFinding
set_option maxRecDepth 20000 in
theorem ggX6_tell_X6_changeFinding : GoodIn wsX6_tell wsX6_changeFinding := goodIn_r _ [8, 9, 10, 11, 12, 13, 14, 15, 16, 17, 18, 19, 3, 20, 21, 22, 23, 24, 25, 26, 27, 28, 29, 30, 31, 32, 33, 34, 35, 36, 37, 38, 39, 40, 41, 42, 43, 44, 45, 46, 47, 48, 49, 50, 51, 52, 53, 54, 55, 56, 57, 58, 59, 60, 61, 62, 63, 64, 65, 66, 67, 68, 69, 70, 71, 72, 73, 74, 75, 76, 77, 78, 79, 80, 81, 82, 83, 84, 85, 86, 87, 88, 89, 90, 91, 92, 93, 94, 95, 96, 97, 98, 99, 100, 101, 102, 103, 104, 105, 106, 107, 108, 109, 110, 111, 112, 113, 114, 115, 116, 117, 118, 119, 120, 121, 122, 123, 124, 125] (by decide +kernel) (by decide +kernel)
set_option maxRecDepth 20000 in
theorem gX6_tell_X6_changeFinding : GoodIn wsX6_tell (wsV RX6 126 RX6 yX6_changeFinding wsX6_changeFinding) := goodIn_app (goodIn_of _ (by decide +kernel)) ggX6_tell_X6_changeFinding
theorem dX6_tell_0 : decode cX6_tell 0 = .ok (.iload_n 1, 1) := by decide +kernel
theorem dX6_tell_1 : decode cX6_tell 1 = .ok (.invokestatic 78, 3) := by decide +kernel
theorem dX6_tell_4 : decode cX6_tell 4 = .ok (.ifCond .ne 5, 3) := by decide +kernel
theorem dX6_tell_7 : decode cX6_tell 7 = .ok (.iconst (-1), 1) := by decide +kernel
theorem dX6_tell_8 : decode cX6_tell 8 = .ok (.ireturn, 1) := by decide +kernel
theorem dX6_tell_9 : decode cX6_tell 9 = .ok (.iload_n 2, 1) := by decide +kernel
theorem dX6_tell_10 : decode cX6_tell 10 = .ok (.ifCond .eq 11, 3) := by decide +kernel
theorem dX6_tell_13 : decode cX6_tell 13 = .ok (.iload_n 2, 1) := by decide +kernel
theorem dX6_tell_14 : decode cX6_tell 14 = .ok (.iconst 1, 1) := by decide +kernel
theorem dX6_tell_15 : decode cX6_tell 15 = .ok (.if_icmp .eq 6, 3) := by decide +kernel
theorem dX6_tell_18 : decode cX6_tell 18 = .ok (.bipush (-2), 2) := by decide +kernel
