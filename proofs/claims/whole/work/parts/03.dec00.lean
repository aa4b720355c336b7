theorem dX0_init_0 : decode cX0_init 0 = .ok (.aload_n 0, 1) := by decide +kernel
theorem dX0_init_1 : decode cX0_init 1 = .ok (.invokespecial 3, 3) := by decide +kernel
theorem dX0_init_4 : decode cX0_init 4 = .ok (.aload_n 0, 1) := by decide +kernel
theorem dX0_init_5 : decode cX0_init 5 = .ok (.bipush 20, 2) := by decide +kernel
theorem dX0_init_7 : decode cX0_init 7 = .ok (.newarray .int, 2) := by decide +kernel
theorem dX0_init_9 : decode cX0_init 9 = .ok (.putfield 9, 3) := by decide +kernel
theorem dX0_init_12 : decode cX0_init 12 = .ok (.aload_n 0, 1) := by decide +kernel
theorem dX0_init_13 : decode cX0_init 13 = .ok (.bipush 20, 2) := by decide +kernel
theorem dX0_init_15 : decode cX0_init 15 = .ok (.newarray .int, 2) := by decide +kernel
theorem dX0_init_17 : decode cX0_init 17 = .ok (.putfield 15, 3) := by decide +kernel
theorem dX0_init_20 : decode cX0_init 20 = .ok (.return_, 1) := by decide +kernel
theorem dX0_remember_0 : decode cX0_remember 0 = .ok (.aload_n 0, 1) := by decide +kernel
theorem dX0_remember_1 : decode cX0_remember 1 = .ok (.getfield 18, 3) := by decide +kernel
theorem dX0_remember_4 : decode cX0_remember 4 = .ok (.bipush 20, 2) := by decide +kernel
theorem dX0_remember_6 : decode cX0_remember 6 = .ok (.if_icmp .lt 7, 3) := by decide +kernel
theorem dX0_remember_9 : decode cX0_remember 9 = .ok (.aload_n 0, 1) := by decide +kernel
theorem dX0_remember_10 : decode cX0_remember 10 = .ok (.invokevirtual 22, 3) := by decide +kernel
theorem dX0_remember_13 : decode cX0_remember 13 = .ok (.aload_n 0, 1) := by decide +kernel
theorem dX0_remember_14 : decode cX0_remember 14 = .ok (.getfield 9, 3) := by decide +kernel
theorem dX0_remember_17 : decode cX0_remember 17 = .ok (.aload_n 0, 1) := by decide +kernel
theorem dX0_remember_18 : decode cX0_remember 18 = .ok (.getfield 18, 3) := by decide +kernel
theorem dX0_remember_21 : decode cX0_remember 21 = .ok (.iload_n 1, 1) := by decide +kernel
theorem dX0_remember_22 : decode cX0_remember 22 = .ok (.iastore, 1) := by decide +kernel
theorem dX0_remember_23 : decode cX0_remember 23 = .ok (.aload_n 0, 1) := by decide +kernel
theorem dX0_remember_24 : decode cX0_remember 24 = .ok (.getfield 15, 3) := by decide +kernel
theorem dX0_remember_27 : decode cX0_remember 27 = .ok (.aload_n 0, 1) := by decide +kernel
theorem dX0_remember_28 : decode cX0_remember 28 = .ok (.getfield 18, 3) := by decide +kernel
theorem dX0_remember_31 : decode cX0_remember 31 = .ok (.iload_n 2, 1) := by decide +kernel
theorem dX0_remember_32 : decode cX0_remember 32 = .ok (.iastore, 1) := by decide +kernel
theorem dX0_remember_33 : decode cX0_remember 33 = .ok (.aload_n 0, 1) := by decide +kernel
theorem dX0_remember_34 : decode cX0_remember 34 = .ok (.dup, 1) := by decide +kernel
theorem dX0_remember_35 : decode cX0_remember 35 = .ok (.getfield 18, 3) := by decide +kernel
theorem dX0_remember_38 : decode cX0_remember 38 = .ok (.iconst 1, 1) := by decide +kernel
theorem dX0_remember_39 : decode cX0_remember 39 = .ok (.iadd, 1) := by decide +kernel
theorem dX0_remember_40 : decode cX0_remember 40 = .ok (.putfield 18, 3) := by decide +kernel
theorem dX0_remember_43 : decode cX0_remember 43 = .ok (.return_, 1) := by decide +kernel
theorem dX0_takeBackLast_0 : decode cX0_takeBackLast 0 = .ok (.aload_n 0, 1) := by decide +kernel
theorem dX0_takeBackLast_1 : decode cX0_takeBackLast 1 = .ok (.getfield 18, 3) := by decide +kernel
theorem dX0_takeBackLast_4 : decode cX0_takeBackLast 4 = .ok (.ifCond .le 35, 3) := by decide +kernel
theorem dX0_takeBackLast_7 : decode cX0_takeBackLast 7 = .ok (.aload_n 0, 1) := by decide +kernel
theorem dX0_takeBackLast_8 : decode cX0_takeBackLast 8 = .ok (.dup, 1) := by decide +kernel
theorem dX0_takeBackLast_9 : decode cX0_takeBackLast 9 = .ok (.getfield 18, 3) := by decide +kernel
theorem dX0_takeBackLast_12 : decode cX0_takeBackLast 12 = .ok (.iconst 1, 1) := by decide +kernel
theorem dX0_takeBackLast_13 : decode cX0_takeBackLast 13 = .ok (.isub, 1) := by decide +kernel
theorem dX0_takeBackLast_14 : decode cX0_takeBackLast 14 = .ok (.putfield 18, 3) := by decide +kernel
theorem dX0_takeBackLast_17 : decode cX0_takeBackLast 17 = .ok (.aload_n 1, 1) := by decide +kernel
theorem dX0_takeBackLast_18 : decode cX0_takeBackLast 18 = .ok (.aload_n 0, 1) := by decide +kernel
theorem dX0_takeBackLast_19 : decode cX0_takeBackLast 19 = .ok (.getfield 9, 3) := by decide +kernel
theorem dX0_takeBackLast_22 : decode cX0_takeBackLast 22 = .ok (.aload_n 0, 1) := by decide +kernel
theorem dX0_takeBackLast_23 : decode cX0_takeBackLast 23 = .ok (.getfield 18, 3) := by decide +kernel
theorem dX0_takeBackLast_26 : decode cX0_takeBackLast 26 = .ok (.iaload, 1) := by decide +kernel
theorem dX0_takeBackLast_27 : decode cX0_takeBackLast 27 = .ok (.aload_n 0, 1) := by decide +kernel
theorem dX0_takeBackLast_28 : decode cX0_takeBackLast 28 = .ok (.getfield 15, 3) := by decide +kernel
theorem dX0_takeBackLast_31 : decode cX0_takeBackLast 31 = .ok (.aload_n 0, 1) := by decide +kernel
theorem dX0_takeBackLast_32 : decode cX0_takeBackLast 32 = .ok (.getfield 18, 3) := by decide +kernel
theorem dX0_takeBackLast_35 : decode cX0_takeBackLast 35 = .ok (.iaload, 1) := by decide +kernel
theorem dX0_takeBackLast_36 : decode cX0_takeBackLast 36 = .ok (.invokevirtual 25, 3) := by decide +kernel
theorem dX0_takeBackLast_39 : decode cX0_takeBackLast 39 = .ok (.return_, 1) := by decide +kernel
theorem dX0_dropOldest_0 : decode cX0_dropOldest 0 = .ok (.iconst 1, 1) := by decide +kernel
theorem dX0_dropOldest_1 : decode cX0_dropOldest 1 = .ok (.istore_n 1, 1) := by decide +kernel
theorem dX0_dropOldest_2 : decode cX0_dropOldest 2 = .ok (.iload_n 1, 1) := by decide +kernel
theorem dX0_dropOldest_3 : decode cX0_dropOldest 3 = .ok (.bipush 20, 2) := by decide +kernel
theorem dX0_dropOldest_5 : decode cX0_dropOldest 5 = .ok (.if_icmp .ge 37, 3) := by decide +kernel
theorem dX0_dropOldest_8 : decode cX0_dropOldest 8 = .ok (.aload_n 0, 1) := by decide +kernel
theorem dX0_dropOldest_9 : decode cX0_dropOldest 9 = .ok (.getfield 9, 3) := by decide +kernel
theorem dX0_dropOldest_12 : decode cX0_dropOldest 12 = .ok (.iload_n 1, 1) := by decide +kernel
theorem dX0_dropOldest_13 : decode cX0_dropOldest 13 = .ok (.iconst 1, 1) := by decide +kernel
theorem dX0_dropOldest_14 : decode cX0_dropOldest 14 = .ok (.isub, 1) := by decide +kernel
theorem dX0_dropOldest_15 : decode cX0_dropOldest 15 = .ok (.aload_n 0, 1) := by decide +kernel
theorem dX0_dropOldest_16 : decode cX0_dropOldest 16 = .ok (.getfield 9, 3) := by decide +kernel
theorem dX0_dropOldest_19 : decode cX0_dropOldest 19 = .ok (.iload_n 1, 1) := by decide +kernel
theorem dX0_dropOldest_20 : decode cX0_dropOldest 20 = .ok (.iaload, 1) := by decide +kernel
theorem dX0_dropOldest_21 : decode cX0_dropOldest 21 = .ok (.iastore, 1) := by decide +kernel
theorem dX0_dropOldest_22 : decode cX0_dropOldest 22 = .ok (.aload_n 0, 1) := by decide +kernel
theorem dX0_dropOldest_23 : decode cX0_dropOldest 23 = .ok (.getfield 15, 3) := by decide +kernel
theorem dX0_dropOldest_26 : decode cX0_dropOldest 26 = .ok (.iload_n 1, 1) := by decide +kernel
theorem dX0_dropOldest_27 : decode cX0_dropOldest 27 = .ok (.iconst 1, 1) := by decide +kernel
theorem dX0_dropOldest_28 : decode cX0_dropOldest 28 = .ok (.isub, 1) := by decide +kernel
theorem dX0_dropOldest_29 : decode cX0_dropOldest 29 = .ok (.aload_n 0, 1) := by decide +kernel
theorem dX0_dropOldest_30 : decode cX0_dropOldest 30 = .ok (.getfield 15, 3) := by decide +kernel
theorem dX0_dropOldest_33 : decode cX0_dropOldest 33 = .ok (.iload_n 1, 1) := by decide +kernel
theorem dX0_dropOldest_34 : decode cX0_dropOldest 34 = .ok (.iaload, 1) := by decide +kernel
theorem dX0_dropOldest_35 : decode cX0_dropOldest 35 = .ok (.iastore, 1) := by decide +kernel
theorem dX0_dropOldest_36 : decode cX0_dropOldest 36 = .ok (.iinc 1 1, 3) := by decide +kernel
theorem dX0_dropOldest_39 : decode cX0_dropOldest 39 = .ok (.goto (-37), 3) := by decide +kernel
theorem dX0_dropOldest_42 : decode cX0_dropOldest 42 = .ok (.aload_n 0, 1) := by decide +kernel
theorem dX0_dropOldest_43 : decode cX0_dropOldest 43 = .ok (.bipush 19, 2) := by decide +kernel
theorem dX0_dropOldest_45 : decode cX0_dropOldest 45 = .ok (.putfield 18, 3) := by decide +kernel
theorem dX0_dropOldest_48 : decode cX0_dropOldest 48 = .ok (.return_, 1) := by decide +kernel
theorem dX1_init_0 : decode cX1_init 0 = .ok (.aload_n 0, 1) := by decide +kernel
theorem dX1_init_1 : decode cX1_init 1 = .ok (.invokespecial 3, 3) := by decide +kernel
theorem dX1_init_4 : decode cX1_init 4 = .ok (.aload_n 0, 1) := by decide +kernel
theorem dX1_init_5 : decode cX1_init 5 = .ok (.bipush 10, 2) := by decide +kernel
theorem dX1_init_7 : decode cX1_init 7 = .ok (.newarray .int, 2) := by decide +kernel
theorem dX1_init_9 : decode cX1_init 9 = .ok (.putfield 9, 3) := by decide +kernel
theorem dX1_init_12 : decode cX1_init 12 = .ok (.aload_n 0, 1) := by decide +kernel
theorem dX1_init_13 : decode cX1_init 13 = .ok (.bipush 10, 2) := by decide +kernel
theorem dX1_init_15 : decode cX1_init 15 = .ok (.newarray .int, 2) := by decide +kernel
theorem dX1_init_17 : decode cX1_init 17 = .ok (.putfield 15, 3) := by decide +kernel
theorem dX1_init_20 : decode cX1_init 20 = .ok (.aload_n 0, 1) := by decide +kernel
theorem dX1_init_21 : decode cX1_init 21 = .ok (.bipush 10, 2) := by decide +kernel
theorem dX1_init_23 : decode cX1_init 23 = .ok (.newarray .int, 2) := by decide +kernel
theorem dX1_init_25 : decode cX1_init 25 = .ok (.putfield 18, 3) := by decide +kernel
theorem dX1_init_28 : decode cX1_init 28 = .ok (.aload_n 0, 1) := by decide +kernel
theorem dX1_init_29 : decode cX1_init 29 = .ok (.bipush 10, 2) := by decide +kernel
theorem dX1_init_31 : decode cX1_init 31 = .ok (.newarray .int, 2) := by decide +kernel
theorem dX1_init_33 : decode cX1_init 33 = .ok (.putfield 21, 3) := by decide +kernel
theorem dX1_init_36 : decode cX1_init 36 = .ok (.aload_n 0, 1) := by decide +kernel
theorem dX1_init_37 : decode cX1_init 37 = .ok (.bipush 12, 2) := by decide +kernel
theorem dX1_init_39 : decode cX1_init 39 = .ok (.newarray .int, 2) := by decide +kernel
theorem dX1_init_41 : decode cX1_init 41 = .ok (.putfield 24, 3) := by decide +kernel
theorem dX1_init_44 : decode cX1_init 44 = .ok (.aload_n 0, 1) := by decide +kernel
theorem dX1_init_45 : decode cX1_init 45 = .ok (.bipush 12, 2) := by decide +kernel
theorem dX1_init_47 : decode cX1_init 47 = .ok (.newarray .int, 2) := by decide +kernel
theorem dX1_init_49 : decode cX1_init 49 = .ok (.putfield 27, 3) := by decide +kernel
theorem dX1_init_52 : decode cX1_init 52 = .ok (.iconst 0, 1) := by decide +kernel
theorem dX1_init_53 : decode cX1_init 53 = .ok (.istore_n 1, 1) := by decide +kernel
theorem dX1_init_54 : decode cX1_init 54 = .ok (.iload_n 1, 1) := by decide +kernel
theorem dX1_init_55 : decode cX1_init 55 = .ok (.bipush 10, 2) := by decide +kernel
theorem dX1_init_57 : decode cX1_init 57 = .ok (.if_icmp .ge 23, 3) := by decide +kernel
theorem dX1_init_60 : decode cX1_init 60 = .ok (.aload_n 0, 1) := by decide +kernel
theorem dX1_init_61 : decode cX1_init 61 = .ok (.getfield 9, 3) := by decide +kernel
theorem dX1_init_64 : decode cX1_init 64 = .ok (.iload_n 1, 1) := by decide +kernel
theorem dX1_init_65 : decode cX1_init 65 = .ok (.iconst 1, 1) := by decide +kernel
theorem dX1_init_66 : decode cX1_init 66 = .ok (.iastore, 1) := by decide +kernel
theorem dX1_init_67 : decode cX1_init 67 = .ok (.aload_n 0, 1) := by decide +kernel
theorem dX1_init_68 : decode cX1_init 68 = .ok (.getfield 15, 3) := by decide +kernel
theorem dX1_init_71 : decode cX1_init 71 = .ok (.iload_n 1, 1) := by decide +kernel
theorem dX1_init_72 : decode cX1_init 72 = .ok (.iconst 1, 1) := by decide +kernel
theorem dX1_init_73 : decode cX1_init 73 = .ok (.iastore, 1) := by decide +kernel
theorem dX1_init_74 : decode cX1_init 74 = .ok (.iinc 1 1, 3) := by decide +kernel
theorem dX1_init_77 : decode cX1_init 77 = .ok (.goto (-23), 3) := by decide +kernel
theorem dX1_init_80 : decode cX1_init 80 = .ok (.return_, 1) := by decide +kernel
theorem dX1_linkBetween_0 : decode cX1_linkBetween 0 = .ok (.aload_n 0, 1) := by decide +kernel
theorem dX1_linkBetween_1 : decode cX1_linkBetween 1 = .ok (.getfield 21, 3) := by decide +kernel
theorem dX1_linkBetween_4 : decode cX1_linkBetween 4 = .ok (.iload_n 2, 1) := by decide +kernel
theorem dX1_linkBetween_5 : decode cX1_linkBetween 5 = .ok (.iaload, 1) := by decide +kernel
theorem dX1_linkBetween_6 : decode cX1_linkBetween 6 = .ok (.iload_n 1, 1) := by decide +kernel
theorem dX1_linkBetween_7 : decode cX1_linkBetween 7 = .ok (.invokestatic 30, 3) := by decide +kernel
theorem dX1_linkBetween_10 : decode cX1_linkBetween 10 = .ok (.ifCond .eq 5, 3) := by decide +kernel
theorem dX1_linkBetween_13 : decode cX1_linkBetween 13 = .ok (.iconst 2, 1) := by decide +kernel
theorem dX1_linkBetween_14 : decode cX1_linkBetween 14 = .ok (.ireturn, 1) := by decide +kernel
theorem dX1_linkBetween_15 : decode cX1_linkBetween 15 = .ok (.aload_n 0, 1) := by decide +kernel
theorem dX1_linkBetween_16 : decode cX1_linkBetween 16 = .ok (.getfield 18, 3) := by decide +kernel
theorem dX1_linkBetween_19 : decode cX1_linkBetween 19 = .ok (.iload_n 2, 1) := by decide +kernel
theorem dX1_linkBetween_20 : decode cX1_linkBetween 20 = .ok (.iaload, 1) := by decide +kernel
theorem dX1_linkBetween_21 : decode cX1_linkBetween 21 = .ok (.iload_n 1, 1) := by decide +kernel
theorem dX1_linkBetween_22 : decode cX1_linkBetween 22 = .ok (.invokestatic 30, 3) := by decide +kernel
theorem dX1_linkBetween_25 : decode cX1_linkBetween 25 = .ok (.ifCond .eq 7, 3) := by decide +kernel
theorem dX1_linkBetween_28 : decode cX1_linkBetween 28 = .ok (.iconst 1, 1) := by decide +kernel
theorem dX1_linkBetween_29 : decode cX1_linkBetween 29 = .ok (.goto 4, 3) := by decide +kernel
theorem dX1_linkBetween_32 : decode cX1_linkBetween 32 = .ok (.iconst 0, 1) := by decide +kernel
theorem dX1_linkBetween_33 : decode cX1_linkBetween 33 = .ok (.ireturn, 1) := by decide +kernel
theorem dX1_putLink_0 : decode cX1_putLink 0 = .ok (.aload_n 0, 1) := by decide +kernel
theorem dX1_putLink_1 : decode cX1_putLink 1 = .ok (.getfield 18, 3) := by decide +kernel
theorem dX1_putLink_4 : decode cX1_putLink 4 = .ok (.iload_n 2, 1) := by decide +kernel
theorem dX1_putLink_5 : decode cX1_putLink 5 = .ok (.aload_n 0, 1) := by decide +kernel
theorem dX1_putLink_6 : decode cX1_putLink 6 = .ok (.getfield 18, 3) := by decide +kernel
theorem dX1_putLink_9 : decode cX1_putLink 9 = .ok (.iload_n 2, 1) := by decide +kernel
theorem dX1_putLink_10 : decode cX1_putLink 10 = .ok (.iaload, 1) := by decide +kernel
theorem dX1_putLink_11 : decode cX1_putLink 11 = .ok (.iload_n 1, 1) := by decide +kernel
theorem dX1_putLink_12 : decode cX1_putLink 12 = .ok (.iload_n 3, 1) := by decide +kernel
theorem dX1_putLink_13 : decode cX1_putLink 13 = .ok (.ifCond .eq 7, 3) := by decide +kernel
theorem dX1_putLink_16 : decode cX1_putLink 16 = .ok (.iconst 1, 1) := by decide +kernel
theorem dX1_putLink_17 : decode cX1_putLink 17 = .ok (.goto 4, 3) := by decide +kernel
theorem dX1_putLink_20 : decode cX1_putLink 20 = .ok (.iconst 0, 1) := by decide +kernel
theorem dX1_putLink_21 : decode cX1_putLink 21 = .ok (.invokestatic 34, 3) := by decide +kernel
theorem dX1_putLink_24 : decode cX1_putLink 24 = .ok (.iastore, 1) := by decide +kernel
theorem dX1_putLink_25 : decode cX1_putLink 25 = .ok (.aload_n 0, 1) := by decide +kernel
theorem dX1_putLink_26 : decode cX1_putLink 26 = .ok (.getfield 21, 3) := by decide +kernel
theorem dX1_putLink_29 : decode cX1_putLink 29 = .ok (.iload_n 2, 1) := by decide +kernel
theorem dX1_putLink_30 : decode cX1_putLink 30 = .ok (.aload_n 0, 1) := by decide +kernel
theorem dX1_putLink_31 : decode cX1_putLink 31 = .ok (.getfield 21, 3) := by decide +kernel
theorem dX1_putLink_34 : decode cX1_putLink 34 = .ok (.iload_n 2, 1) := by decide +kernel
theorem dX1_putLink_35 : decode cX1_putLink 35 = .ok (.iaload, 1) := by decide +kernel
theorem dX1_putLink_36 : decode cX1_putLink 36 = .ok (.iload_n 1, 1) := by decide +kernel
theorem dX1_putLink_37 : decode cX1_putLink 37 = .ok (.iload_n 3, 1) := by decide +kernel
theorem dX1_putLink_38 : decode cX1_putLink 38 = .ok (.iconst 2, 1) := by decide +kernel
theorem dX1_putLink_39 : decode cX1_putLink 39 = .ok (.if_icmp .ne 7, 3) := by decide +kernel
theorem dX1_putLink_42 : decode cX1_putLink 42 = .ok (.iconst 1, 1) := by decide +kernel
theorem dX1_putLink_43 : decode cX1_putLink 43 = .ok (.goto 4, 3) := by decide +kernel
theorem dX1_putLink_46 : decode cX1_putLink 46 = .ok (.iconst 0, 1) := by decide +kernel
theorem dX1_putLink_47 : decode cX1_putLink 47 = .ok (.invokestatic 34, 3) := by decide +kernel
theorem dX1_putLink_50 : decode cX1_putLink 50 = .ok (.iastore, 1) := by decide +kernel
theorem dX1_putLink_51 : decode cX1_putLink 51 = .ok (.aload_n 0, 1) := by decide +kernel
theorem dX1_putLink_52 : decode cX1_putLink 52 = .ok (.getfield 24, 3) := by decide +kernel
theorem dX1_putLink_55 : decode cX1_putLink 55 = .ok (.iload_n 1, 1) := by decide +kernel
theorem dX1_putLink_56 : decode cX1_putLink 56 = .ok (.aload_n 0, 1) := by decide +kernel
theorem dX1_putLink_57 : decode cX1_putLink 57 = .ok (.getfield 24, 3) := by decide +kernel
theorem dX1_putLink_60 : decode cX1_putLink 60 = .ok (.iload_n 1, 1) := by decide +kernel
theorem dX1_putLink_61 : decode cX1_putLink 61 = .ok (.iaload, 1) := by decide +kernel
theorem dX1_putLink_62 : decode cX1_putLink 62 = .ok (.iload_n 2, 1) := by decide +kernel
theorem dX1_putLink_63 : decode cX1_putLink 63 = .ok (.iload_n 3, 1) := by decide +kernel
theorem dX1_putLink_64 : decode cX1_putLink 64 = .ok (.ifCond .eq 7, 3) := by decide +kernel
theorem dX1_putLink_67 : decode cX1_putLink 67 = .ok (.iconst 1, 1) := by decide +kernel
theorem dX1_putLink_68 : decode cX1_putLink 68 = .ok (.goto 4, 3) := by decide +kernel
theorem dX1_putLink_71 : decode cX1_putLink 71 = .ok (.iconst 0, 1) := by decide +kernel
theorem dX1_putLink_72 : decode cX1_putLink 72 = .ok (.invokestatic 34, 3) := by decide +kernel
theorem dX1_putLink_75 : decode cX1_putLink 75 = .ok (.iastore, 1) := by decide +kernel
theorem dX1_putLink_76 : decode cX1_putLink 76 = .ok (.aload_n 0, 1) := by decide +kernel
theorem dX1_putLink_77 : decode cX1_putLink 77 = .ok (.getfield 27, 3) := by decide +kernel
theorem dX1_putLink_80 : decode cX1_putLink 80 = .ok (.iload_n 1, 1) := by decide +kernel
theorem dX1_putLink_81 : decode cX1_putLink 81 = .ok (.aload_n 0, 1) := by decide +kernel
theorem dX1_putLink_82 : decode cX1_putLink 82 = .ok (.getfield 27, 3) := by decide +kernel
theorem dX1_putLink_85 : decode cX1_putLink 85 = .ok (.iload_n 1, 1) := by decide +kernel
theorem dX1_putLink_86 : decode cX1_putLink 86 = .ok (.iaload, 1) := by decide +kernel
theorem dX1_putLink_87 : decode cX1_putLink 87 = .ok (.iload_n 2, 1) := by decide +kernel
theorem dX1_putLink_88 : decode cX1_putLink 88 = .ok (.iload_n 3, 1) := by decide +kernel
theorem dX1_putLink_89 : decode cX1_putLink 89 = .ok (.iconst 2, 1) := by decide +kernel
theorem dX1_putLink_90 : decode cX1_putLink 90 = .ok (.if_icmp .ne 7, 3) := by decide +kernel
theorem dX1_putLink_93 : decode cX1_putLink 93 = .ok (.iconst 1, 1) := by decide +kernel
theorem dX1_putLink_94 : decode cX1_putLink 94 = .ok (.goto 4, 3) := by decide +kernel
theorem dX1_putLink_97 : decode cX1_putLink 97 = .ok (.iconst 0, 1) := by decide +kernel
theorem dX1_putLink_98 : decode cX1_putLink 98 = .ok (.invokestatic 34, 3) := by decide +kernel
theorem dX1_putLink_101 : decode cX1_putLink 101 = .ok (.iastore, 1) := by decide +kernel
theorem dX1_putLink_102 : decode cX1_putLink 102 = .ok (.return_, 1) := by decide +kernel
theorem dX1_countLinks_0 : decode cX1_countLinks 0 = .ok (.iconst 0, 1) := by decide +kernel
theorem dX1_countLinks_1 : decode cX1_countLinks 1 = .ok (.istore_n 1, 1) := by decide +kernel
theorem dX1_countLinks_2 : decode cX1_countLinks 2 = .ok (.iconst 0, 1) := by decide +kernel
theorem dX1_countLinks_3 : decode cX1_countLinks 3 = .ok (.istore_n 2, 1) := by decide +kernel
theorem dX1_countLinks_4 : decode cX1_countLinks 4 = .ok (.iload_n 2, 1) := by decide +kernel
theorem dX1_countLinks_5 : decode cX1_countLinks 5 = .ok (.bipush 10, 2) := by decide +kernel
theorem dX1_countLinks_7 : decode cX1_countLinks 7 = .ok (.if_icmp .ge 21, 3) := by decide +kernel
theorem dX1_countLinks_10 : decode cX1_countLinks 10 = .ok (.iload_n 1, 1) := by decide +kernel
theorem dX1_countLinks_11 : decode cX1_countLinks 11 = .ok (.aload_n 0, 1) := by decide +kernel
theorem dX1_countLinks_12 : decode cX1_countLinks 12 = .ok (.getfield 18, 3) := by decide +kernel
theorem dX1_countLinks_15 : decode cX1_countLinks 15 = .ok (.iload_n 2, 1) := by decide +kernel
theorem dX1_countLinks_16 : decode cX1_countLinks 16 = .ok (.iaload, 1) := by decide +kernel
theorem dX1_countLinks_17 : decode cX1_countLinks 17 = .ok (.invokestatic 38, 3) := by decide +kernel
theorem dX1_countLinks_20 : decode cX1_countLinks 20 = .ok (.iadd, 1) := by decide +kernel
theorem dX1_countLinks_21 : decode cX1_countLinks 21 = .ok (.istore_n 1, 1) := by decide +kernel
theorem dX1_countLinks_22 : decode cX1_countLinks 22 = .ok (.iinc 2 1, 3) := by decide +kernel
theorem dX1_countLinks_25 : decode cX1_countLinks 25 = .ok (.goto (-21), 3) := by decide +kernel
theorem dX1_countLinks_28 : decode cX1_countLinks 28 = .ok (.iload_n 1, 1) := by decide +kernel
theorem dX1_countLinks_29 : decode cX1_countLinks 29 = .ok (.ireturn, 1) := by decide +kernel
theorem dX1_excludedBy_0 : decode cX1_excludedBy 0 = .ok (.iconst 0, 1) := by decide +kernel
theorem dX1_excludedBy_1 : decode cX1_excludedBy 1 = .ok (.istore_n 2, 1) := by decide +kernel
theorem dX1_excludedBy_2 : decode cX1_excludedBy 2 = .ok (.iconst 0, 1) := by decide +kernel
theorem dX1_excludedBy_3 : decode cX1_excludedBy 3 = .ok (.istore_n 3, 1) := by decide +kernel
theorem dX1_excludedBy_4 : decode cX1_excludedBy 4 = .ok (.iload_n 3, 1) := by decide +kernel
theorem dX1_excludedBy_5 : decode cX1_excludedBy 5 = .ok (.bipush 12, 2) := by decide +kernel
theorem dX1_excludedBy_7 : decode cX1_excludedBy 7 = .ok (.if_icmp .ge 26, 3) := by decide +kernel
theorem dX1_excludedBy_10 : decode cX1_excludedBy 10 = .ok (.iload_n 1, 1) := by decide +kernel
theorem dX1_excludedBy_11 : decode cX1_excludedBy 11 = .ok (.iload_n 3, 1) := by decide +kernel
theorem dX1_excludedBy_12 : decode cX1_excludedBy 12 = .ok (.invokestatic 30, 3) := by decide +kernel
theorem dX1_excludedBy_15 : decode cX1_excludedBy 15 = .ok (.ifCond .eq 12, 3) := by decide +kernel
theorem dX1_excludedBy_18 : decode cX1_excludedBy 18 = .ok (.iload_n 2, 1) := by decide +kernel
theorem dX1_excludedBy_19 : decode cX1_excludedBy 19 = .ok (.aload_n 0, 1) := by decide +kernel
theorem dX1_excludedBy_20 : decode cX1_excludedBy 20 = .ok (.getfield 27, 3) := by decide +kernel
theorem dX1_excludedBy_23 : decode cX1_excludedBy 23 = .ok (.iload_n 3, 1) := by decide +kernel
theorem dX1_excludedBy_24 : decode cX1_excludedBy 24 = .ok (.iaload, 1) := by decide +kernel
theorem dX1_excludedBy_25 : decode cX1_excludedBy 25 = .ok (.ior, 1) := by decide +kernel
theorem dX1_excludedBy_26 : decode cX1_excludedBy 26 = .ok (.istore_n 2, 1) := by decide +kernel
theorem dX1_excludedBy_27 : decode cX1_excludedBy 27 = .ok (.iinc 3 1, 3) := by decide +kernel
theorem dX1_excludedBy_30 : decode cX1_excludedBy 30 = .ok (.goto (-26), 3) := by decide +kernel
theorem dX1_excludedBy_33 : decode cX1_excludedBy 33 = .ok (.iload_n 2, 1) := by decide +kernel
theorem dX1_excludedBy_34 : decode cX1_excludedBy 34 = .ok (.ireturn, 1) := by decide +kernel
theorem dX1_findingsOf_0 : decode cX1_findingsOf 0 = .ok (.iconst 0, 1) := by decide +kernel
theorem dX1_findingsOf_1 : decode cX1_findingsOf 1 = .ok (.istore_n 2, 1) := by decide +kernel
theorem dX1_findingsOf_2 : decode cX1_findingsOf 2 = .ok (.iconst 0, 1) := by decide +kernel
theorem dX1_findingsOf_3 : decode cX1_findingsOf 3 = .ok (.istore_n 3, 1) := by decide +kernel
theorem dX1_findingsOf_4 : decode cX1_findingsOf 4 = .ok (.iload_n 3, 1) := by decide +kernel
theorem dX1_findingsOf_5 : decode cX1_findingsOf 5 = .ok (.bipush 10, 2) := by decide +kernel
theorem dX1_findingsOf_7 : decode cX1_findingsOf 7 = .ok (.if_icmp .ge 26, 3) := by decide +kernel
theorem dX1_findingsOf_10 : decode cX1_findingsOf 10 = .ok (.iload_n 1, 1) := by decide +kernel
theorem dX1_findingsOf_11 : decode cX1_findingsOf 11 = .ok (.iload_n 3, 1) := by decide +kernel
theorem dX1_findingsOf_12 : decode cX1_findingsOf 12 = .ok (.invokestatic 30, 3) := by decide +kernel
theorem dX1_findingsOf_15 : decode cX1_findingsOf 15 = .ok (.ifCond .eq 12, 3) := by decide +kernel
theorem dX1_findingsOf_18 : decode cX1_findingsOf 18 = .ok (.iload_n 2, 1) := by decide +kernel
theorem dX1_findingsOf_19 : decode cX1_findingsOf 19 = .ok (.aload_n 0, 1) := by decide +kernel
theorem dX1_findingsOf_20 : decode cX1_findingsOf 20 = .ok (.getfield 18, 3) := by decide +kernel
theorem dX1_findingsOf_23 : decode cX1_findingsOf 23 = .ok (.iload_n 3, 1) := by decide +kernel
theorem dX1_findingsOf_24 : decode cX1_findingsOf 24 = .ok (.iaload, 1) := by decide +kernel
theorem dX1_findingsOf_25 : decode cX1_findingsOf 25 = .ok (.ior, 1) := by decide +kernel
theorem dX1_findingsOf_26 : decode cX1_findingsOf 26 = .ok (.istore_n 2, 1) := by decide +kernel
theorem dX1_findingsOf_27 : decode cX1_findingsOf 27 = .ok (.iinc 3 1, 3) := by decide +kernel
theorem dX1_findingsOf_30 : decode cX1_findingsOf 30 = .ok (.goto (-26), 3) := by decide +kernel
theorem dX1_findingsOf_33 : decode cX1_findingsOf 33 = .ok (.iload_n 2, 1) := by decide +kernel
theorem dX1_findingsOf_34 : decode cX1_findingsOf 34 = .ok (.ireturn, 1) := by decide +kernel
theorem dX1_neededFor_0 : decode cX1_neededFor 0 = .ok (.iload_n 3, 1) := by decide +kernel
theorem dX1_neededFor_1 : decode cX1_neededFor 1 = .ok (.aload_n 0, 1) := by decide +kernel
theorem dX1_neededFor_2 : decode cX1_neededFor 2 = .ok (.getfield 18, 3) := by decide +kernel
theorem dX1_neededFor_5 : decode cX1_neededFor 5 = .ok (.iload_n 2, 1) := by decide +kernel
theorem dX1_neededFor_6 : decode cX1_neededFor 6 = .ok (.iaload, 1) := by decide +kernel
theorem dX1_neededFor_7 : decode cX1_neededFor 7 = .ok (.iand, 1) := by decide +kernel
theorem dX1_neededFor_8 : decode cX1_neededFor 8 = .ok (.aload_n 0, 1) := by decide +kernel
theorem dX1_neededFor_9 : decode cX1_neededFor 9 = .ok (.iload_n 1, 1) := by decide +kernel
theorem dX1_neededFor_10 : decode cX1_neededFor 10 = .ok (.iload_n 2, 1) := by decide +kernel
theorem dX1_neededFor_11 : decode cX1_neededFor 11 = .ok (.iconst 0, 1) := by decide +kernel
theorem dX1_neededFor_12 : decode cX1_neededFor 12 = .ok (.invokestatic 34, 3) := by decide +kernel
theorem dX1_neededFor_15 : decode cX1_neededFor 15 = .ok (.invokevirtual 44, 3) := by decide +kernel
theorem dX1_neededFor_18 : decode cX1_neededFor 18 = .ok (.iconst (-1), 1) := by decide +kernel
theorem dX1_neededFor_19 : decode cX1_neededFor 19 = .ok (.ixor, 1) := by decide +kernel
theorem dX1_neededFor_20 : decode cX1_neededFor 20 = .ok (.iand, 1) := by decide +kernel
theorem dX1_neededFor_21 : decode cX1_neededFor 21 = .ok (.ireturn, 1) := by decide +kernel
theorem dX1_canSpareOne_0 : decode cX1_canSpareOne 0 = .ok (.iconst 0, 1) := by decide +kernel
theorem dX1_canSpareOne_1 : decode cX1_canSpareOne 1 = .ok (.istore_n 3, 1) := by decide +kernel
theorem dX1_canSpareOne_2 : decode cX1_canSpareOne 2 = .ok (.iload_n 3, 1) := by decide +kernel
theorem dX1_canSpareOne_3 : decode cX1_canSpareOne 3 = .ok (.bipush 10, 2) := by decide +kernel
theorem dX1_canSpareOne_5 : decode cX1_canSpareOne 5 = .ok (.if_icmp .ge 29, 3) := by decide +kernel
theorem dX1_canSpareOne_8 : decode cX1_canSpareOne 8 = .ok (.iload_n 1, 1) := by decide +kernel
theorem dX1_canSpareOne_9 : decode cX1_canSpareOne 9 = .ok (.iload_n 3, 1) := by decide +kernel
theorem dX1_canSpareOne_10 : decode cX1_canSpareOne 10 = .ok (.invokestatic 30, 3) := by decide +kernel
theorem dX1_canSpareOne_13 : decode cX1_canSpareOne 13 = .ok (.ifCond .eq 15, 3) := by decide +kernel
theorem dX1_canSpareOne_16 : decode cX1_canSpareOne 16 = .ok (.aload_n 0, 1) := by decide +kernel
theorem dX1_canSpareOne_17 : decode cX1_canSpareOne 17 = .ok (.iload_n 1, 1) := by decide +kernel
theorem dX1_canSpareOne_18 : decode cX1_canSpareOne 18 = .ok (.iload_n 3, 1) := by decide +kernel
theorem dX1_canSpareOne_19 : decode cX1_canSpareOne 19 = .ok (.iload_n 2, 1) := by decide +kernel
theorem dX1_canSpareOne_20 : decode cX1_canSpareOne 20 = .ok (.invokevirtual 47, 3) := by decide +kernel
theorem dX1_canSpareOne_23 : decode cX1_canSpareOne 23 = .ok (.ifCond .ne 5, 3) := by decide +kernel
theorem dX1_canSpareOne_26 : decode cX1_canSpareOne 26 = .ok (.iconst 1, 1) := by decide +kernel
theorem dX1_canSpareOne_27 : decode cX1_canSpareOne 27 = .ok (.ireturn, 1) := by decide +kernel
theorem dX1_canSpareOne_28 : decode cX1_canSpareOne 28 = .ok (.iinc 3 1, 3) := by decide +kernel
theorem dX1_canSpareOne_31 : decode cX1_canSpareOne 31 = .ok (.goto (-29), 3) := by decide +kernel
theorem dX1_canSpareOne_34 : decode cX1_canSpareOne 34 = .ok (.iconst 0, 1) := by decide +kernel
theorem dX1_canSpareOne_35 : decode cX1_canSpareOne 35 = .ok (.ireturn, 1) := by decide +kernel
theorem dX1_foretold_0 : decode cX1_foretold 0 = .ok (.iload_n 1, 1) := by decide +kernel
theorem dX1_foretold_1 : decode cX1_foretold 1 = .ok (.aload_n 0, 1) := by decide +kernel
theorem dX1_foretold_2 : decode cX1_foretold 2 = .ok (.getfield 27, 3) := by decide +kernel
theorem dX1_foretold_5 : decode cX1_foretold 5 = .ok (.iload_n 2, 1) := by decide +kernel
theorem dX1_foretold_6 : decode cX1_foretold 6 = .ok (.iaload, 1) := by decide +kernel
theorem dX1_foretold_7 : decode cX1_foretold 7 = .ok (.iand, 1) := by decide +kernel
theorem dX1_foretold_8 : decode cX1_foretold 8 = .ok (.ifCond .eq 5, 3) := by decide +kernel
theorem dX1_foretold_11 : decode cX1_foretold 11 = .ok (.iconst 1, 1) := by decide +kernel
theorem dX1_foretold_12 : decode cX1_foretold 12 = .ok (.ireturn, 1) := by decide +kernel
theorem dX1_foretold_13 : decode cX1_foretold 13 = .ok (.iload_n 1, 1) := by decide +kernel
theorem dX1_foretold_14 : decode cX1_foretold 14 = .ok (.aload_n 0, 1) := by decide +kernel
theorem dX1_foretold_15 : decode cX1_foretold 15 = .ok (.getfield 24, 3) := by decide +kernel
theorem dX1_foretold_18 : decode cX1_foretold 18 = .ok (.iload_n 2, 1) := by decide +kernel
theorem dX1_foretold_19 : decode cX1_foretold 19 = .ok (.iaload, 1) := by decide +kernel
theorem dX1_foretold_20 : decode cX1_foretold 20 = .ok (.iand, 1) := by decide +kernel
theorem dX1_foretold_21 : decode cX1_foretold 21 = .ok (.ifCond .ne 7, 3) := by decide +kernel
theorem dX1_foretold_24 : decode cX1_foretold 24 = .ok (.iconst 2, 1) := by decide +kernel
theorem dX1_foretold_25 : decode cX1_foretold 25 = .ok (.goto 4, 3) := by decide +kernel
theorem dX1_foretold_28 : decode cX1_foretold 28 = .ok (.iconst 0, 1) := by decide +kernel
theorem dX1_foretold_29 : decode cX1_foretold 29 = .ok (.ireturn, 1) := by decide +kernel
theorem dX1_with_0 : decode cX1_with 0 = .ok (.iload_n 2, 1) := by decide +kernel
theorem dX1_with_1 : decode cX1_with 1 = .ok (.ifCond .eq 11, 3) := by decide +kernel
theorem dX1_with_4 : decode cX1_with 4 = .ok (.iload_n 0, 1) := by decide +kernel
theorem dX1_with_5 : decode cX1_with 5 = .ok (.iconst 1, 1) := by decide +kernel
theorem dX1_with_6 : decode cX1_with 6 = .ok (.iload_n 1, 1) := by decide +kernel
theorem dX1_with_7 : decode cX1_with 7 = .ok (.ishl, 1) := by decide +kernel
theorem dX1_with_8 : decode cX1_with 8 = .ok (.ior, 1) := by decide +kernel
theorem dX1_with_9 : decode cX1_with 9 = .ok (.goto 10, 3) := by decide +kernel
theorem dX1_with_12 : decode cX1_with 12 = .ok (.iload_n 0, 1) := by decide +kernel
theorem dX1_with_13 : decode cX1_with 13 = .ok (.iconst 1, 1) := by decide +kernel
theorem dX1_with_14 : decode cX1_with 14 = .ok (.iload_n 1, 1) := by decide +kernel
theorem dX1_with_15 : decode cX1_with 15 = .ok (.ishl, 1) := by decide +kernel
theorem dX1_with_16 : decode cX1_with 16 = .ok (.iconst (-1), 1) := by decide +kernel
theorem dX1_with_17 : decode cX1_with 17 = .ok (.ixor, 1) := by decide +kernel
theorem dX1_with_18 : decode cX1_with 18 = .ok (.iand, 1) := by decide +kernel
theorem dX1_with_19 : decode cX1_with 19 = .ok (.ireturn, 1) := by decide +kernel
theorem dX2_init_0 : decode cX2_init 0 = .ok (.aload_n 0, 1) := by decide +kernel
theorem dX2_init_1 : decode cX2_init 1 = .ok (.invokespecial 5, 3) := by decide +kernel
theorem dX2_init_4 : decode cX2_init 4 = .ok (.aload_n 0, 1) := by decide +kernel
theorem dX2_init_5 : decode cX2_init 5 = .ok (.sipush 252, 3) := by decide +kernel
theorem dX2_init_8 : decode cX2_init 8 = .ok (.newarray .long, 2) := by decide +kernel
theorem dX2_init_10 : decode cX2_init 10 = .ok (.putfield 11, 3) := by decide +kernel
theorem dX2_init_13 : decode cX2_init 13 = .ok (.aload_n 0, 1) := by decide +kernel
theorem dX2_init_14 : decode cX2_init 14 = .ok (.bipush 11, 2) := by decide +kernel
theorem dX2_init_16 : decode cX2_init 16 = .ok (.newarray .int, 2) := by decide +kernel
theorem dX2_init_18 : decode cX2_init 18 = .ok (.putfield 15, 3) := by decide +kernel
theorem dX2_init_21 : decode cX2_init 21 = .ok (.aload_n 0, 1) := by decide +kernel
theorem dX2_init_22 : decode cX2_init 22 = .ok (.aload_n 1, 1) := by decide +kernel
theorem dX2_init_23 : decode cX2_init 23 = .ok (.putfield 19, 3) := by decide +kernel
theorem dX2_init_26 : decode cX2_init 26 = .ok (.return_, 1) := by decide +kernel
theorem dX2_list_0 : decode cX2_list 0 = .ok (.aload_n 0, 1) := by decide +kernel
theorem dX2_list_1 : decode cX2_list 1 = .ok (.iconst 0, 1) := by decide +kernel
theorem dX2_list_2 : decode cX2_list 2 = .ok (.putfield 23, 3) := by decide +kernel
theorem dX2_list_5 : decode cX2_list 5 = .ok (.aload_n 0, 1) := by decide +kernel
theorem dX2_list_6 : decode cX2_list 6 = .ok (.lconst 0, 1) := by decide +kernel
theorem dX2_list_7 : decode cX2_list 7 = .ok (.putfield 27, 3) := by decide +kernel
theorem dX2_list_10 : decode cX2_list 10 = .ok (.aload_n 0, 1) := by decide +kernel
theorem dX2_list_11 : decode cX2_list 11 = .ok (.aload_n 1, 1) := by decide +kernel
theorem dX2_list_12 : decode cX2_list 12 = .ok (.getfield 31, 3) := by decide +kernel
theorem dX2_list_15 : decode cX2_list 15 = .ok (.putfield 36, 3) := by decide +kernel
theorem dX2_list_18 : decode cX2_list 18 = .ok (.aload_n 0, 1) := by decide +kernel
theorem dX2_list_19 : decode cX2_list 19 = .ok (.aload_n 0, 1) := by decide +kernel
theorem dX2_list_20 : decode cX2_list 20 = .ok (.getfield 19, 3) := by decide +kernel
theorem dX2_list_23 : decode cX2_list 23 = .ok (.aload_n 1, 1) := by decide +kernel
theorem dX2_list_24 : decode cX2_list 24 = .ok (.getfield 39, 3) := by decide +kernel
theorem dX2_list_27 : decode cX2_list 27 = .ok (.invokevirtual 42, 3) := by decide +kernel
theorem dX2_list_30 : decode cX2_list 30 = .ok (.putfield 48, 3) := by decide +kernel
theorem dX2_list_33 : decode cX2_list 33 = .ok (.iconst 0, 1) := by decide +kernel
theorem dX2_list_34 : decode cX2_list 34 = .ok (.istore_n 2, 1) := by decide +kernel
theorem dX2_list_35 : decode cX2_list 35 = .ok (.iload_n 2, 1) := by decide +kernel
theorem dX2_list_36 : decode cX2_list 36 = .ok (.bipush 10, 2) := by decide +kernel
theorem dX2_list_38 : decode cX2_list 38 = .ok (.if_icmp .ge 50, 3) := by decide +kernel
theorem dX2_list_41 : decode cX2_list 41 = .ok (.aload_n 0, 1) := by decide +kernel
theorem dX2_list_42 : decode cX2_list 42 = .ok (.getfield 48, 3) := by decide +kernel
theorem dX2_list_45 : decode cX2_list 45 = .ok (.iload_n 2, 1) := by decide +kernel
theorem dX2_list_46 : decode cX2_list 46 = .ok (.invokestatic 51, 3) := by decide +kernel
theorem dX2_list_49 : decode cX2_list 49 = .ok (.ifCond .eq 7, 3) := by decide +kernel
theorem dX2_list_52 : decode cX2_list 52 = .ok (.iconst 0, 1) := by decide +kernel
theorem dX2_list_53 : decode cX2_list 53 = .ok (.goto 12, 3) := by decide +kernel
theorem dX2_list_56 : decode cX2_list 56 = .ok (.aload_n 0, 1) := by decide +kernel
theorem dX2_list_57 : decode cX2_list 57 = .ok (.getfield 19, 3) := by decide +kernel
theorem dX2_list_60 : decode cX2_list 60 = .ok (.getfield 55, 3) := by decide +kernel
theorem dX2_list_63 : decode cX2_list 63 = .ok (.iload_n 2, 1) := by decide +kernel
theorem dX2_list_64 : decode cX2_list 64 = .ok (.iaload, 1) := by decide +kernel
theorem dX2_list_65 : decode cX2_list 65 = .ok (.istore_n 3, 1) := by decide +kernel
theorem dX2_list_66 : decode cX2_list 66 = .ok (.aload_n 0, 1) := by decide +kernel
theorem dX2_list_67 : decode cX2_list 67 = .ok (.getfield 15, 3) := by decide +kernel
theorem dX2_list_70 : decode cX2_list 70 = .ok (.iload_n 2, 1) := by decide +kernel
theorem dX2_list_71 : decode cX2_list 71 = .ok (.iconst 1, 1) := by decide +kernel
theorem dX2_list_72 : decode cX2_list 72 = .ok (.iadd, 1) := by decide +kernel
theorem dX2_list_73 : decode cX2_list 73 = .ok (.aload_n 0, 1) := by decide +kernel
theorem dX2_list_74 : decode cX2_list 74 = .ok (.getfield 15, 3) := by decide +kernel
theorem dX2_list_77 : decode cX2_list 77 = .ok (.iload_n 2, 1) := by decide +kernel
theorem dX2_list_78 : decode cX2_list 78 = .ok (.iaload, 1) := by decide +kernel
theorem dX2_list_79 : decode cX2_list 79 = .ok (.iload_n 3, 1) := by decide +kernel
theorem dX2_list_80 : decode cX2_list 80 = .ok (.ior, 1) := by decide +kernel
theorem dX2_list_81 : decode cX2_list 81 = .ok (.iastore, 1) := by decide +kernel
theorem dX2_list_82 : decode cX2_list 82 = .ok (.iinc 2 1, 3) := by decide +kernel
theorem dX2_list_85 : decode cX2_list 85 = .ok (.goto (-50), 3) := by decide +kernel
theorem dX2_list_88 : decode cX2_list 88 = .ok (.aload_n 0, 1) := by decide +kernel
theorem dX2_list_89 : decode cX2_list 89 = .ok (.bipush 10, 2) := by decide +kernel
theorem dX2_list_91 : decode cX2_list 91 = .ok (.iconst 0, 1) := by decide +kernel
theorem dX2_list_92 : decode cX2_list 92 = .ok (.iconst 0, 1) := by decide +kernel
theorem dX2_list_93 : decode cX2_list 93 = .ok (.iconst 0, 1) := by decide +kernel
theorem dX2_list_94 : decode cX2_list 94 = .ok (.lconst 1, 1) := by decide +kernel
theorem dX2_list_95 : decode cX2_list 95 = .ok (.invokestatic 58, 3) := by decide +kernel
theorem dX2_list_98 : decode cX2_list 98 = .ok (.return_, 1) := by decide +kernel
theorem dX2_choose_0 : decode cX2_choose 0 = .ok (.iload_n 1, 1) := by decide +kernel
theorem dX2_choose_1 : decode cX2_choose 1 = .ok (.ifCond .lt 9, 3) := by decide +kernel
theorem dX2_choose_4 : decode cX2_choose 4 = .ok (.iload_n 1, 1) := by decide +kernel
theorem dX2_choose_5 : decode cX2_choose 5 = .ok (.bipush 10, 2) := by decide +kernel
theorem dX2_choose_7 : decode cX2_choose 7 = .ok (.if_icmp .le 4, 3) := by decide +kernel
theorem dX2_choose_10 : decode cX2_choose 10 = .ok (.return_, 1) := by decide +kernel
theorem dX2_choose_11 : decode cX2_choose 11 = .ok (.aload_n 0, 1) := by decide +kernel
theorem dX2_choose_12 : decode cX2_choose 12 = .ok (.getfield 36, 3) := by decide +kernel
theorem dX2_choose_15 : decode cX2_choose 15 = .ok (.iload_n 3, 1) := by decide +kernel
theorem dX2_choose_16 : decode cX2_choose 16 = .ok (.iconst (-1), 1) := by decide +kernel
theorem dX2_choose_17 : decode cX2_choose 17 = .ok (.ixor, 1) := by decide +kernel
theorem dX2_choose_18 : decode cX2_choose 18 = .ok (.iand, 1) := by decide +kernel
theorem dX2_choose_19 : decode cX2_choose 19 = .ok (.aload_n 0, 1) := by decide +kernel
theorem dX2_choose_20 : decode cX2_choose 20 = .ok (.getfield 15, 3) := by decide +kernel
theorem dX2_choose_23 : decode cX2_choose 23 = .ok (.iload_n 1, 1) := by decide +kernel
theorem dX2_choose_24 : decode cX2_choose 24 = .ok (.iaload, 1) := by decide +kernel
theorem dX2_choose_25 : decode cX2_choose 25 = .ok (.iconst (-1), 1) := by decide +kernel
theorem dX2_choose_26 : decode cX2_choose 26 = .ok (.ixor, 1) := by decide +kernel
theorem dX2_choose_27 : decode cX2_choose 27 = .ok (.iand, 1) := by decide +kernel
theorem dX2_choose_28 : decode cX2_choose 28 = .ok (.ifCond .eq 4, 3) := by decide +kernel
theorem dX2_choose_31 : decode cX2_choose 31 = .ok (.return_, 1) := by decide +kernel
theorem dX2_choose_32 : decode cX2_choose 32 = .ok (.iload_n 1, 1) := by decide +kernel
theorem dX2_choose_33 : decode cX2_choose 33 = .ok (.ifCond .ne 11, 3) := by decide +kernel
theorem dX2_choose_36 : decode cX2_choose 36 = .ok (.aload_n 0, 1) := by decide +kernel
theorem dX2_choose_37 : decode cX2_choose 37 = .ok (.iload_n 2, 1) := by decide +kernel
theorem dX2_choose_38 : decode cX2_choose 38 = .ok (.lload 5, 2) := by decide +kernel
theorem dX2_choose_40 : decode cX2_choose 40 = .ok (.invokevirtual 62, 3) := by decide +kernel
theorem dX2_choose_43 : decode cX2_choose 43 = .ok (.return_, 1) := by decide +kernel
theorem dX2_choose_44 : decode cX2_choose 44 = .ok (.iload_n 1, 1) := by decide +kernel
theorem dX2_choose_45 : decode cX2_choose 45 = .ok (.iconst 1, 1) := by decide +kernel
theorem dX2_choose_46 : decode cX2_choose 46 = .ok (.isub, 1) := by decide +kernel
theorem dX2_choose_47 : decode cX2_choose 47 = .ok (.istore 7, 2) := by decide +kernel
theorem dX2_choose_49 : decode cX2_choose 49 = .ok (.aload_n 0, 1) := by decide +kernel
theorem dX2_choose_50 : decode cX2_choose 50 = .ok (.iload 7, 2) := by decide +kernel
theorem dX2_choose_52 : decode cX2_choose 52 = .ok (.iload_n 2, 1) := by decide +kernel
theorem dX2_choose_53 : decode cX2_choose 53 = .ok (.iload_n 3, 1) := by decide +kernel
theorem dX2_choose_54 : decode cX2_choose 54 = .ok (.iload 4, 2) := by decide +kernel
theorem dX2_choose_56 : decode cX2_choose 56 = .ok (.lload 5, 2) := by decide +kernel
theorem dX2_choose_58 : decode cX2_choose 58 = .ok (.aload_n 0, 1) := by decide +kernel
theorem dX2_choose_59 : decode cX2_choose 59 = .ok (.getfield 19, 3) := by decide +kernel
theorem dX2_choose_62 : decode cX2_choose 62 = .ok (.getfield 66, 3) := by decide +kernel
theorem dX2_choose_65 : decode cX2_choose 65 = .ok (.iload 7, 2) := by decide +kernel
theorem dX2_choose_67 : decode cX2_choose 67 = .ok (.iaload, 1) := by decide +kernel
theorem dX2_choose_68 : decode cX2_choose 68 = .ok (.i2l, 1) := by decide +kernel
theorem dX2_choose_69 : decode cX2_choose 69 = .ok (.lmul, 1) := by decide +kernel
theorem dX2_choose_70 : decode cX2_choose 70 = .ok (.invokestatic 58, 3) := by decide +kernel
theorem dX2_choose_73 : decode cX2_choose 73 = .ok (.aload_n 0, 1) := by decide +kernel
theorem dX2_choose_74 : decode cX2_choose 74 = .ok (.getfield 48, 3) := by decide +kernel
theorem dX2_choose_77 : decode cX2_choose 77 = .ok (.iload 7, 2) := by decide +kernel
theorem dX2_choose_79 : decode cX2_choose 79 = .ok (.invokestatic 51, 3) := by decide +kernel
theorem dX2_choose_82 : decode cX2_choose 82 = .ok (.ifCond .eq 4, 3) := by decide +kernel
theorem dX2_choose_85 : decode cX2_choose 85 = .ok (.return_, 1) := by decide +kernel
theorem dX2_choose_86 : decode cX2_choose 86 = .ok (.aload_n 0, 1) := by decide +kernel
theorem dX2_choose_87 : decode cX2_choose 87 = .ok (.getfield 36, 3) := by decide +kernel
theorem dX2_choose_90 : decode cX2_choose 90 = .ok (.aload_n 0, 1) := by decide +kernel
theorem dX2_choose_91 : decode cX2_choose 91 = .ok (.getfield 19, 3) := by decide +kernel
theorem dX2_choose_94 : decode cX2_choose 94 = .ok (.getfield 55, 3) := by decide +kernel
theorem dX2_choose_97 : decode cX2_choose 97 = .ok (.iload 7, 2) := by decide +kernel
theorem dX2_choose_99 : decode cX2_choose 99 = .ok (.iaload, 1) := by decide +kernel
theorem dX2_choose_100 : decode cX2_choose 100 = .ok (.iand, 1) := by decide +kernel
theorem dX2_choose_101 : decode cX2_choose 101 = .ok (.istore 8, 2) := by decide +kernel
theorem dX2_choose_103 : decode cX2_choose 103 = .ok (.iload_n 2, 1) := by decide +kernel
theorem dX2_choose_104 : decode cX2_choose 104 = .ok (.iconst 1, 1) := by decide +kernel
theorem dX2_choose_105 : decode cX2_choose 105 = .ok (.iload 7, 2) := by decide +kernel
theorem dX2_choose_107 : decode cX2_choose 107 = .ok (.ishl, 1) := by decide +kernel
theorem dX2_choose_108 : decode cX2_choose 108 = .ok (.ior, 1) := by decide +kernel
theorem dX2_choose_109 : decode cX2_choose 109 = .ok (.istore 9, 2) := by decide +kernel
theorem dX2_choose_111 : decode cX2_choose 111 = .ok (.iload 4, 2) := by decide +kernel
theorem dX2_choose_113 : decode cX2_choose 113 = .ok (.iload 8, 2) := by decide +kernel
theorem dX2_choose_115 : decode cX2_choose 115 = .ok (.iconst (-1), 1) := by decide +kernel
theorem dX2_choose_116 : decode cX2_choose 116 = .ok (.ixor, 1) := by decide +kernel
theorem dX2_choose_117 : decode cX2_choose 117 = .ok (.iand, 1) := by decide +kernel
theorem dX2_choose_118 : decode cX2_choose 118 = .ok (.iload 8, 2) := by decide +kernel
theorem dX2_choose_120 : decode cX2_choose 120 = .ok (.iload_n 3, 1) := by decide +kernel
theorem dX2_choose_121 : decode cX2_choose 121 = .ok (.iconst (-1), 1) := by decide +kernel
theorem dX2_choose_122 : decode cX2_choose 122 = .ok (.ixor, 1) := by decide +kernel
theorem dX2_choose_123 : decode cX2_choose 123 = .ok (.iand, 1) := by decide +kernel
theorem dX2_choose_124 : decode cX2_choose 124 = .ok (.ior, 1) := by decide +kernel
theorem dX2_choose_125 : decode cX2_choose 125 = .ok (.istore 10, 2) := by decide +kernel
theorem dX2_choose_127 : decode cX2_choose 127 = .ok (.aload_n 0, 1) := by decide +kernel
theorem dX2_choose_128 : decode cX2_choose 128 = .ok (.iload 9, 2) := by decide +kernel
theorem dX2_choose_130 : decode cX2_choose 130 = .ok (.iload 10, 2) := by decide +kernel
theorem dX2_choose_132 : decode cX2_choose 132 = .ok (.invokevirtual 69, 3) := by decide +kernel
theorem dX2_choose_135 : decode cX2_choose 135 = .ok (.ifCond .eq 31, 3) := by decide +kernel
theorem dX2_choose_138 : decode cX2_choose 138 = .ok (.aload_n 0, 1) := by decide +kernel
theorem dX2_choose_139 : decode cX2_choose 139 = .ok (.iload 7, 2) := by decide +kernel
theorem dX2_choose_141 : decode cX2_choose 141 = .ok (.iload 9, 2) := by decide +kernel
theorem dX2_choose_143 : decode cX2_choose 143 = .ok (.iload_n 3, 1) := by decide +kernel
theorem dX2_choose_144 : decode cX2_choose 144 = .ok (.iload 8, 2) := by decide +kernel
theorem dX2_choose_146 : decode cX2_choose 146 = .ok (.ior, 1) := by decide +kernel
theorem dX2_choose_147 : decode cX2_choose 147 = .ok (.iload 10, 2) := by decide +kernel
theorem dX2_choose_149 : decode cX2_choose 149 = .ok (.lload 5, 2) := by decide +kernel
theorem dX2_choose_151 : decode cX2_choose 151 = .ok (.aload_n 0, 1) := by decide +kernel
theorem dX2_choose_152 : decode cX2_choose 152 = .ok (.getfield 19, 3) := by decide +kernel
theorem dX2_choose_155 : decode cX2_choose 155 = .ok (.getfield 72, 3) := by decide +kernel
theorem dX2_choose_158 : decode cX2_choose 158 = .ok (.iload 7, 2) := by decide +kernel
theorem dX2_choose_160 : decode cX2_choose 160 = .ok (.iaload, 1) := by decide +kernel
theorem dX2_choose_161 : decode cX2_choose 161 = .ok (.i2l, 1) := by decide +kernel
theorem dX2_choose_162 : decode cX2_choose 162 = .ok (.lmul, 1) := by decide +kernel
theorem dX2_choose_163 : decode cX2_choose 163 = .ok (.invokestatic 58, 3) := by decide +kernel
theorem dX2_choose_166 : decode cX2_choose 166 = .ok (.return_, 1) := by decide +kernel
theorem dX2_allAreAloneForOne_0 : decode cX2_allAreAloneForOne 0 = .ok (.iconst 0, 1) := by decide +kernel
theorem dX2_allAreAloneForOne_1 : decode cX2_allAreAloneForOne 1 = .ok (.istore_n 3, 1) := by decide +kernel
theorem dX2_allAreAloneForOne_2 : decode cX2_allAreAloneForOne 2 = .ok (.iload_n 3, 1) := by decide +kernel
theorem dX2_allAreAloneForOne_3 : decode cX2_allAreAloneForOne 3 = .ok (.bipush 10, 2) := by decide +kernel
theorem dX2_allAreAloneForOne_5 : decode cX2_allAreAloneForOne 5 = .ok (.if_icmp .ge 33, 3) := by decide +kernel
theorem dX2_allAreAloneForOne_8 : decode cX2_allAreAloneForOne 8 = .ok (.iload_n 1, 1) := by decide +kernel
theorem dX2_allAreAloneForOne_9 : decode cX2_allAreAloneForOne 9 = .ok (.iload_n 3, 1) := by decide +kernel
theorem dX2_allAreAloneForOne_10 : decode cX2_allAreAloneForOne 10 = .ok (.invokestatic 51, 3) := by decide +kernel
theorem dX2_allAreAloneForOne_13 : decode cX2_allAreAloneForOne 13 = .ok (.ifCond .eq 19, 3) := by decide +kernel
theorem dX2_allAreAloneForOne_16 : decode cX2_allAreAloneForOne 16 = .ok (.aload_n 0, 1) := by decide +kernel
theorem dX2_allAreAloneForOne_17 : decode cX2_allAreAloneForOne 17 = .ok (.getfield 19, 3) := by decide +kernel
theorem dX2_allAreAloneForOne_20 : decode cX2_allAreAloneForOne 20 = .ok (.getfield 55, 3) := by decide +kernel
theorem dX2_allAreAloneForOne_23 : decode cX2_allAreAloneForOne 23 = .ok (.iload_n 3, 1) := by decide +kernel
theorem dX2_allAreAloneForOne_24 : decode cX2_allAreAloneForOne 24 = .ok (.iaload, 1) := by decide +kernel
theorem dX2_allAreAloneForOne_25 : decode cX2_allAreAloneForOne 25 = .ok (.iload_n 2, 1) := by decide +kernel
theorem dX2_allAreAloneForOne_26 : decode cX2_allAreAloneForOne 26 = .ok (.iand, 1) := by decide +kernel
theorem dX2_allAreAloneForOne_27 : decode cX2_allAreAloneForOne 27 = .ok (.ifCond .ne 5, 3) := by decide +kernel
theorem dX2_allAreAloneForOne_30 : decode cX2_allAreAloneForOne 30 = .ok (.iconst 0, 1) := by decide +kernel
theorem dX2_allAreAloneForOne_31 : decode cX2_allAreAloneForOne 31 = .ok (.ireturn, 1) := by decide +kernel
theorem dX2_allAreAloneForOne_32 : decode cX2_allAreAloneForOne 32 = .ok (.iinc 3 1, 3) := by decide +kernel
theorem dX2_allAreAloneForOne_35 : decode cX2_allAreAloneForOne 35 = .ok (.goto (-33), 3) := by decide +kernel
theorem dX2_allAreAloneForOne_38 : decode cX2_allAreAloneForOne 38 = .ok (.iconst 1, 1) := by decide +kernel
theorem dX2_allAreAloneForOne_39 : decode cX2_allAreAloneForOne 39 = .ok (.ireturn, 1) := by decide +kernel
theorem dX2_enter_0 : decode cX2_enter 0 = .ok (.aload_n 0, 1) := by decide +kernel
theorem dX2_enter_1 : decode cX2_enter 1 = .ok (.getfield 23, 3) := by decide +kernel
theorem dX2_enter_4 : decode cX2_enter 4 = .ok (.sipush 252, 3) := by decide +kernel
theorem dX2_enter_7 : decode cX2_enter 7 = .ok (.if_icmp .lt 4, 3) := by decide +kernel
theorem dX2_enter_10 : decode cX2_enter 10 = .ok (.return_, 1) := by decide +kernel
theorem dX2_enter_11 : decode cX2_enter 11 = .ok (.bipush 15, 2) := by decide +kernel
theorem dX2_enter_13 : decode cX2_enter 13 = .ok (.iload_n 1, 1) := by decide +kernel
theorem dX2_enter_14 : decode cX2_enter 14 = .ok (.invokestatic 75, 3) := by decide +kernel
theorem dX2_enter_17 : decode cX2_enter 17 = .ok (.isub, 1) := by decide +kernel
theorem dX2_enter_18 : decode cX2_enter 18 = .ok (.istore 4, 2) := by decide +kernel
theorem dX2_enter_20 : decode cX2_enter 20 = .ok (.sipush 1023, 3) := by decide +kernel
theorem dX2_enter_23 : decode cX2_enter 23 = .ok (.iload_n 1, 1) := by decide +kernel
theorem dX2_enter_24 : decode cX2_enter 24 = .ok (.isub, 1) := by decide +kernel
theorem dX2_enter_25 : decode cX2_enter 25 = .ok (.istore 5, 2) := by decide +kernel
theorem dX2_enter_27 : decode cX2_enter 27 = .ok (.lload_n 2, 1) := by decide +kernel
theorem dX2_enter_28 : decode cX2_enter 28 = .ok (.iconst 4, 1) := by decide +kernel
theorem dX2_enter_29 : decode cX2_enter 29 = .ok (.lshl, 1) := by decide +kernel
theorem dX2_enter_30 : decode cX2_enter 30 = .ok (.iload 4, 2) := by decide +kernel
theorem dX2_enter_32 : decode cX2_enter 32 = .ok (.i2l, 1) := by decide +kernel
theorem dX2_enter_33 : decode cX2_enter 33 = .ok (.lor, 1) := by decide +kernel
theorem dX2_enter_34 : decode cX2_enter 34 = .ok (.lstore 6, 2) := by decide +kernel
theorem dX2_enter_36 : decode cX2_enter 36 = .ok (.aload_n 0, 1) := by decide +kernel
theorem dX2_enter_37 : decode cX2_enter 37 = .ok (.getfield 11, 3) := by decide +kernel
theorem dX2_enter_40 : decode cX2_enter 40 = .ok (.aload_n 0, 1) := by decide +kernel
theorem dX2_enter_41 : decode cX2_enter 41 = .ok (.getfield 23, 3) := by decide +kernel
theorem dX2_enter_44 : decode cX2_enter 44 = .ok (.lload 6, 2) := by decide +kernel
theorem dX2_enter_46 : decode cX2_enter 46 = .ok (.bipush 10, 2) := by decide +kernel
theorem dX2_enter_48 : decode cX2_enter 48 = .ok (.lshl, 1) := by decide +kernel
theorem dX2_enter_49 : decode cX2_enter 49 = .ok (.iload 5, 2) := by decide +kernel
theorem dX2_enter_51 : decode cX2_enter 51 = .ok (.i2l, 1) := by decide +kernel
theorem dX2_enter_52 : decode cX2_enter 52 = .ok (.lor, 1) := by decide +kernel
theorem dX2_enter_53 : decode cX2_enter 53 = .ok (.lastore, 1) := by decide +kernel
theorem dX2_enter_54 : decode cX2_enter 54 = .ok (.aload_n 0, 1) := by decide +kernel
theorem dX2_enter_55 : decode cX2_enter 55 = .ok (.dup, 1) := by decide +kernel
theorem dX2_enter_56 : decode cX2_enter 56 = .ok (.getfield 23, 3) := by decide +kernel
theorem dX2_enter_59 : decode cX2_enter 59 = .ok (.iconst 1, 1) := by decide +kernel
theorem dX2_enter_60 : decode cX2_enter 60 = .ok (.iadd, 1) := by decide +kernel
theorem dX2_enter_61 : decode cX2_enter 61 = .ok (.putfield 23, 3) := by decide +kernel
theorem dX2_enter_64 : decode cX2_enter 64 = .ok (.aload_n 0, 1) := by decide +kernel
theorem dX2_enter_65 : decode cX2_enter 65 = .ok (.dup, 1) := by decide +kernel
theorem dX2_enter_66 : decode cX2_enter 66 = .ok (.getfield 27, 3) := by decide +kernel
theorem dX2_enter_69 : decode cX2_enter 69 = .ok (.lload_n 2, 1) := by decide +kernel
theorem dX2_enter_70 : decode cX2_enter 70 = .ok (.ladd, 1) := by decide +kernel
theorem dX2_enter_71 : decode cX2_enter 71 = .ok (.putfield 27, 3) := by decide +kernel
theorem dX2_enter_74 : decode cX2_enter 74 = .ok (.return_, 1) := by decide +kernel
theorem dX2_putInOrder_0 : decode cX2_putInOrder 0 = .ok (.getstatic 80, 3) := by decide +kernel
theorem dX2_putInOrder_3 : decode cX2_putInOrder 3 = .ok (.astore_n 1, 1) := by decide +kernel
theorem dX2_putInOrder_4 : decode cX2_putInOrder 4 = .ok (.aload_n 1, 1) := by decide +kernel
theorem dX2_putInOrder_5 : decode cX2_putInOrder 5 = .ok (.arraylength, 1) := by decide +kernel
theorem dX2_putInOrder_6 : decode cX2_putInOrder 6 = .ok (.istore_n 2, 1) := by decide +kernel
theorem dX2_putInOrder_7 : decode cX2_putInOrder 7 = .ok (.iconst 0, 1) := by decide +kernel
theorem dX2_putInOrder_8 : decode cX2_putInOrder 8 = .ok (.istore_n 3, 1) := by decide +kernel
theorem dX2_putInOrder_9 : decode cX2_putInOrder 9 = .ok (.iload_n 3, 1) := by decide +kernel
theorem dX2_putInOrder_10 : decode cX2_putInOrder 10 = .ok (.iload_n 2, 1) := by decide +kernel
theorem dX2_putInOrder_11 : decode cX2_putInOrder 11 = .ok (.if_icmp .ge 41, 3) := by decide +kernel
theorem dX2_putInOrder_14 : decode cX2_putInOrder 14 = .ok (.aload_n 1, 1) := by decide +kernel
theorem dX2_putInOrder_15 : decode cX2_putInOrder 15 = .ok (.iload_n 3, 1) := by decide +kernel
theorem dX2_putInOrder_16 : decode cX2_putInOrder 16 = .ok (.iaload, 1) := by decide +kernel
theorem dX2_putInOrder_17 : decode cX2_putInOrder 17 = .ok (.istore 4, 2) := by decide +kernel
theorem dX2_putInOrder_19 : decode cX2_putInOrder 19 = .ok (.iload 4, 2) := by decide +kernel
theorem dX2_putInOrder_21 : decode cX2_putInOrder 21 = .ok (.istore 5, 2) := by decide +kernel
theorem dX2_putInOrder_23 : decode cX2_putInOrder 23 = .ok (.iload 5, 2) := by decide +kernel
theorem dX2_putInOrder_25 : decode cX2_putInOrder 25 = .ok (.aload_n 0, 1) := by decide +kernel
theorem dX2_putInOrder_26 : decode cX2_putInOrder 26 = .ok (.getfield 23, 3) := by decide +kernel
theorem dX2_putInOrder_29 : decode cX2_putInOrder 29 = .ok (.if_icmp .ge 17, 3) := by decide +kernel
theorem dX2_putInOrder_32 : decode cX2_putInOrder 32 = .ok (.aload_n 0, 1) := by decide +kernel
theorem dX2_putInOrder_33 : decode cX2_putInOrder 33 = .ok (.iload 5, 2) := by decide +kernel
theorem dX2_putInOrder_35 : decode cX2_putInOrder 35 = .ok (.iload 4, 2) := by decide +kernel
theorem dX2_putInOrder_37 : decode cX2_putInOrder 37 = .ok (.invokevirtual 83, 3) := by decide +kernel
theorem dX2_putInOrder_40 : decode cX2_putInOrder 40 = .ok (.iinc 5 1, 3) := by decide +kernel
theorem dX2_putInOrder_43 : decode cX2_putInOrder 43 = .ok (.goto (-20), 3) := by decide +kernel
theorem dX2_putInOrder_46 : decode cX2_putInOrder 46 = .ok (.iinc 3 1, 3) := by decide +kernel
theorem dX2_putInOrder_49 : decode cX2_putInOrder 49 = .ok (.goto (-40), 3) := by decide +kernel
theorem dX2_putInOrder_52 : decode cX2_putInOrder 52 = .ok (.return_, 1) := by decide +kernel
theorem dX2_bringForward_0 : decode cX2_bringForward 0 = .ok (.aload_n 0, 1) := by decide +kernel
theorem dX2_bringForward_1 : decode cX2_bringForward 1 = .ok (.getfield 11, 3) := by decide +kernel
theorem dX2_bringForward_4 : decode cX2_bringForward 4 = .ok (.iload_n 1, 1) := by decide +kernel
theorem dX2_bringForward_5 : decode cX2_bringForward 5 = .ok (.laload, 1) := by decide +kernel
theorem dX2_bringForward_6 : decode cX2_bringForward 6 = .ok (.lstore_n 3, 1) := by decide +kernel
theorem dX2_bringForward_7 : decode cX2_bringForward 7 = .ok (.iload_n 1, 1) := by decide +kernel
theorem dX2_bringForward_8 : decode cX2_bringForward 8 = .ok (.istore 5, 2) := by decide +kernel
theorem dX2_bringForward_10 : decode cX2_bringForward 10 = .ok (.iload 5, 2) := by decide +kernel
theorem dX2_bringForward_12 : decode cX2_bringForward 12 = .ok (.iload_n 2, 1) := by decide +kernel
theorem dX2_bringForward_13 : decode cX2_bringForward 13 = .ok (.if_icmp .lt 42, 3) := by decide +kernel
theorem dX2_bringForward_16 : decode cX2_bringForward 16 = .ok (.aload_n 0, 1) := by decide +kernel
theorem dX2_bringForward_17 : decode cX2_bringForward 17 = .ok (.getfield 11, 3) := by decide +kernel
theorem dX2_bringForward_20 : decode cX2_bringForward 20 = .ok (.iload 5, 2) := by decide +kernel
theorem dX2_bringForward_22 : decode cX2_bringForward 22 = .ok (.iload_n 2, 1) := by decide +kernel
theorem dX2_bringForward_23 : decode cX2_bringForward 23 = .ok (.isub, 1) := by decide +kernel
theorem dX2_bringForward_24 : decode cX2_bringForward 24 = .ok (.laload, 1) := by decide +kernel
theorem dX2_bringForward_25 : decode cX2_bringForward 25 = .ok (.lload_n 3, 1) := by decide +kernel
theorem dX2_bringForward_26 : decode cX2_bringForward 26 = .ok (.lcmp, 1) := by decide +kernel
theorem dX2_bringForward_27 : decode cX2_bringForward 27 = .ok (.ifCond .ge 28, 3) := by decide +kernel
theorem dX2_bringForward_30 : decode cX2_bringForward 30 = .ok (.aload_n 0, 1) := by decide +kernel
theorem dX2_bringForward_31 : decode cX2_bringForward 31 = .ok (.getfield 11, 3) := by decide +kernel
theorem dX2_bringForward_34 : decode cX2_bringForward 34 = .ok (.iload 5, 2) := by decide +kernel
theorem dX2_bringForward_36 : decode cX2_bringForward 36 = .ok (.aload_n 0, 1) := by decide +kernel
theorem dX2_bringForward_37 : decode cX2_bringForward 37 = .ok (.getfield 11, 3) := by decide +kernel
theorem dX2_bringForward_40 : decode cX2_bringForward 40 = .ok (.iload 5, 2) := by decide +kernel
theorem dX2_bringForward_42 : decode cX2_bringForward 42 = .ok (.iload_n 2, 1) := by decide +kernel
theorem dX2_bringForward_43 : decode cX2_bringForward 43 = .ok (.isub, 1) := by decide +kernel
theorem dX2_bringForward_44 : decode cX2_bringForward 44 = .ok (.laload, 1) := by decide +kernel
theorem dX2_bringForward_45 : decode cX2_bringForward 45 = .ok (.lastore, 1) := by decide +kernel
theorem dX2_bringForward_46 : decode cX2_bringForward 46 = .ok (.iload 5, 2) := by decide +kernel
theorem dX2_bringForward_48 : decode cX2_bringForward 48 = .ok (.iload_n 2, 1) := by decide +kernel
theorem dX2_bringForward_49 : decode cX2_bringForward 49 = .ok (.isub, 1) := by decide +kernel
theorem dX2_bringForward_50 : decode cX2_bringForward 50 = .ok (.istore 5, 2) := by decide +kernel
theorem dX2_bringForward_52 : decode cX2_bringForward 52 = .ok (.goto (-42), 3) := by decide +kernel
theorem dX2_bringForward_55 : decode cX2_bringForward 55 = .ok (.aload_n 0, 1) := by decide +kernel
theorem dX2_bringForward_56 : decode cX2_bringForward 56 = .ok (.getfield 11, 3) := by decide +kernel
theorem dX2_bringForward_59 : decode cX2_bringForward 59 = .ok (.iload 5, 2) := by decide +kernel
theorem dX2_bringForward_61 : decode cX2_bringForward 61 = .ok (.lload_n 3, 1) := by decide +kernel
theorem dX2_bringForward_62 : decode cX2_bringForward 62 = .ok (.lastore, 1) := by decide +kernel
theorem dX2_bringForward_63 : decode cX2_bringForward 63 = .ok (.return_, 1) := by decide +kernel
theorem dX2_isNumber_0 : decode cX2_isNumber 0 = .ok (.iload_n 1, 1) := by decide +kernel
theorem dX2_isNumber_1 : decode cX2_isNumber 1 = .ok (.ifCond .lt 15, 3) := by decide +kernel
theorem dX2_isNumber_4 : decode cX2_isNumber 4 = .ok (.iload_n 1, 1) := by decide +kernel
theorem dX2_isNumber_5 : decode cX2_isNumber 5 = .ok (.aload_n 0, 1) := by decide +kernel
theorem dX2_isNumber_6 : decode cX2_isNumber 6 = .ok (.getfield 23, 3) := by decide +kernel
theorem dX2_isNumber_9 : decode cX2_isNumber 9 = .ok (.if_icmp .ge 7, 3) := by decide +kernel
theorem dX2_isNumber_12 : decode cX2_isNumber 12 = .ok (.iconst 1, 1) := by decide +kernel
theorem dX2_isNumber_13 : decode cX2_isNumber 13 = .ok (.goto 4, 3) := by decide +kernel
theorem dX2_isNumber_16 : decode cX2_isNumber 16 = .ok (.iconst 0, 1) := by decide +kernel
theorem dX2_isNumber_17 : decode cX2_isNumber 17 = .ok (.ireturn, 1) := by decide +kernel
theorem dX2_setOf_0 : decode cX2_setOf 0 = .ok (.sipush 1023, 3) := by decide +kernel
theorem dX2_setOf_3 : decode cX2_setOf 3 = .ok (.aload_n 0, 1) := by decide +kernel
theorem dX2_setOf_4 : decode cX2_setOf 4 = .ok (.getfield 11, 3) := by decide +kernel
theorem dX2_setOf_7 : decode cX2_setOf 7 = .ok (.iload_n 1, 1) := by decide +kernel
theorem dX2_setOf_8 : decode cX2_setOf 8 = .ok (.laload, 1) := by decide +kernel
theorem dX2_setOf_9 : decode cX2_setOf 9 = .ok (.ldc2_w 87, 3) := by decide +kernel
theorem dX2_setOf_12 : decode cX2_setOf 12 = .ok (.land, 1) := by decide +kernel
theorem dX2_setOf_13 : decode cX2_setOf 13 = .ok (.l2i, 1) := by decide +kernel
theorem dX2_setOf_14 : decode cX2_setOf 14 = .ok (.isub, 1) := by decide +kernel
theorem dX2_setOf_15 : decode cX2_setOf 15 = .ok (.ireturn, 1) := by decide +kernel
theorem dX2_weightOf_0 : decode cX2_weightOf 0 = .ok (.aload_n 0, 1) := by decide +kernel
theorem dX2_weightOf_1 : decode cX2_weightOf 1 = .ok (.getfield 11, 3) := by decide +kernel
theorem dX2_weightOf_4 : decode cX2_weightOf 4 = .ok (.iload_n 1, 1) := by decide +kernel
theorem dX2_weightOf_5 : decode cX2_weightOf 5 = .ok (.laload, 1) := by decide +kernel
theorem dX2_weightOf_6 : decode cX2_weightOf 6 = .ok (.bipush 14, 2) := by decide +kernel
theorem dX2_weightOf_8 : decode cX2_weightOf 8 = .ok (.lshr, 1) := by decide +kernel
theorem dX2_weightOf_9 : decode cX2_weightOf 9 = .ok (.lreturn, 1) := by decide +kernel
theorem dX2_countWithCause_0 : decode cX2_countWithCause 0 = .ok (.iconst 0, 1) := by decide +kernel
theorem dX2_countWithCause_1 : decode cX2_countWithCause 1 = .ok (.istore_n 2, 1) := by decide +kernel
theorem dX2_countWithCause_2 : decode cX2_countWithCause 2 = .ok (.iconst 0, 1) := by decide +kernel
theorem dX2_countWithCause_3 : decode cX2_countWithCause 3 = .ok (.istore_n 3, 1) := by decide +kernel
theorem dX2_countWithCause_4 : decode cX2_countWithCause 4 = .ok (.iload_n 3, 1) := by decide +kernel
theorem dX2_countWithCause_5 : decode cX2_countWithCause 5 = .ok (.aload_n 0, 1) := by decide +kernel
theorem dX2_countWithCause_6 : decode cX2_countWithCause 6 = .ok (.getfield 23, 3) := by decide +kernel
theorem dX2_countWithCause_9 : decode cX2_countWithCause 9 = .ok (.if_icmp .ge 24, 3) := by decide +kernel
theorem dX2_countWithCause_12 : decode cX2_countWithCause 12 = .ok (.aload_n 0, 1) := by decide +kernel
theorem dX2_countWithCause_13 : decode cX2_countWithCause 13 = .ok (.iload_n 3, 1) := by decide +kernel
theorem dX2_countWithCause_14 : decode cX2_countWithCause 14 = .ok (.invokevirtual 89, 3) := by decide +kernel
theorem dX2_countWithCause_17 : decode cX2_countWithCause 17 = .ok (.iload_n 1, 1) := by decide +kernel
theorem dX2_countWithCause_18 : decode cX2_countWithCause 18 = .ok (.invokestatic 51, 3) := by decide +kernel
theorem dX2_countWithCause_21 : decode cX2_countWithCause 21 = .ok (.ifCond .eq 6, 3) := by decide +kernel
theorem dX2_countWithCause_24 : decode cX2_countWithCause 24 = .ok (.iinc 2 1, 3) := by decide +kernel
theorem dX2_countWithCause_27 : decode cX2_countWithCause 27 = .ok (.iinc 3 1, 3) := by decide +kernel
theorem dX2_countWithCause_30 : decode cX2_countWithCause 30 = .ok (.goto (-26), 3) := by decide +kernel
theorem dX2_countWithCause_33 : decode cX2_countWithCause 33 = .ok (.iload_n 2, 1) := by decide +kernel
theorem dX2_countWithCause_34 : decode cX2_countWithCause 34 = .ok (.ireturn, 1) := by decide +kernel
theorem dX2_weightWithCause_0 : decode cX2_weightWithCause 0 = .ok (.lconst 0, 1) := by decide +kernel
theorem dX2_weightWithCause_1 : decode cX2_weightWithCause 1 = .ok (.lstore_n 2, 1) := by decide +kernel
theorem dX2_weightWithCause_2 : decode cX2_weightWithCause 2 = .ok (.iconst 0, 1) := by decide +kernel
theorem dX2_weightWithCause_3 : decode cX2_weightWithCause 3 = .ok (.istore 4, 2) := by decide +kernel
theorem dX2_weightWithCause_5 : decode cX2_weightWithCause 5 = .ok (.iload 4, 2) := by decide +kernel
theorem dX2_weightWithCause_7 : decode cX2_weightWithCause 7 = .ok (.aload_n 0, 1) := by decide +kernel
theorem dX2_weightWithCause_8 : decode cX2_weightWithCause 8 = .ok (.getfield 23, 3) := by decide +kernel
theorem dX2_weightWithCause_11 : decode cX2_weightWithCause 11 = .ok (.if_icmp .ge 31, 3) := by decide +kernel
theorem dX2_weightWithCause_14 : decode cX2_weightWithCause 14 = .ok (.aload_n 0, 1) := by decide +kernel
theorem dX2_weightWithCause_15 : decode cX2_weightWithCause 15 = .ok (.iload 4, 2) := by decide +kernel
theorem dX2_weightWithCause_17 : decode cX2_weightWithCause 17 = .ok (.invokevirtual 89, 3) := by decide +kernel
theorem dX2_weightWithCause_20 : decode cX2_weightWithCause 20 = .ok (.iload_n 1, 1) := by decide +kernel
theorem dX2_weightWithCause_21 : decode cX2_weightWithCause 21 = .ok (.invokestatic 51, 3) := by decide +kernel
theorem dX2_weightWithCause_24 : decode cX2_weightWithCause 24 = .ok (.ifCond .eq 12, 3) := by decide +kernel
theorem dX2_weightWithCause_27 : decode cX2_weightWithCause 27 = .ok (.lload_n 2, 1) := by decide +kernel
theorem dX2_weightWithCause_28 : decode cX2_weightWithCause 28 = .ok (.aload_n 0, 1) := by decide +kernel
theorem dX2_weightWithCause_29 : decode cX2_weightWithCause 29 = .ok (.iload 4, 2) := by decide +kernel
theorem dX2_weightWithCause_31 : decode cX2_weightWithCause 31 = .ok (.invokevirtual 92, 3) := by decide +kernel
theorem dX2_weightWithCause_34 : decode cX2_weightWithCause 34 = .ok (.ladd, 1) := by decide +kernel
theorem dX2_weightWithCause_35 : decode cX2_weightWithCause 35 = .ok (.lstore_n 2, 1) := by decide +kernel
theorem dX2_weightWithCause_36 : decode cX2_weightWithCause 36 = .ok (.iinc 4 1, 3) := by decide +kernel
theorem dX2_weightWithCause_39 : decode cX2_weightWithCause 39 = .ok (.goto (-34), 3) := by decide +kernel
theorem dX2_weightWithCause_42 : decode cX2_weightWithCause 42 = .ok (.lload_n 2, 1) := by decide +kernel
theorem dX2_weightWithCause_43 : decode cX2_weightWithCause 43 = .ok (.lreturn, 1) := by decide +kernel
theorem dX2_countForetelling_0 : decode cX2_countForetelling 0 = .ok (.iconst 0, 1) := by decide +kernel
theorem dX2_countForetelling_1 : decode cX2_countForetelling 1 = .ok (.istore_n 3, 1) := by decide +kernel
theorem dX2_countForetelling_2 : decode cX2_countForetelling 2 = .ok (.iconst 0, 1) := by decide +kernel
theorem dX2_countForetelling_3 : decode cX2_countForetelling 3 = .ok (.istore 4, 2) := by decide +kernel
theorem dX2_countForetelling_5 : decode cX2_countForetelling 5 = .ok (.iload 4, 2) := by decide +kernel
theorem dX2_countForetelling_7 : decode cX2_countForetelling 7 = .ok (.aload_n 0, 1) := by decide +kernel
theorem dX2_countForetelling_8 : decode cX2_countForetelling 8 = .ok (.getfield 23, 3) := by decide +kernel
theorem dX2_countForetelling_11 : decode cX2_countForetelling 11 = .ok (.if_icmp .ge 23, 3) := by decide +kernel
theorem dX2_countForetelling_14 : decode cX2_countForetelling 14 = .ok (.aload_n 0, 1) := by decide +kernel
theorem dX2_countForetelling_15 : decode cX2_countForetelling 15 = .ok (.iload 4, 2) := by decide +kernel
theorem dX2_countForetelling_17 : decode cX2_countForetelling 17 = .ok (.iload_n 1, 1) := by decide +kernel
theorem dX2_countForetelling_18 : decode cX2_countForetelling 18 = .ok (.invokevirtual 96, 3) := by decide +kernel
theorem dX2_countForetelling_21 : decode cX2_countForetelling 21 = .ok (.iload_n 2, 1) := by decide +kernel
theorem dX2_countForetelling_22 : decode cX2_countForetelling 22 = .ok (.if_icmp .ne 6, 3) := by decide +kernel
theorem dX2_countForetelling_25 : decode cX2_countForetelling 25 = .ok (.iinc 3 1, 3) := by decide +kernel
theorem dX2_countForetelling_28 : decode cX2_countForetelling 28 = .ok (.iinc 4 1, 3) := by decide +kernel
theorem dX2_countForetelling_31 : decode cX2_countForetelling 31 = .ok (.goto (-26), 3) := by decide +kernel
theorem dX2_countForetelling_34 : decode cX2_countForetelling 34 = .ok (.iload_n 3, 1) := by decide +kernel
theorem dX2_countForetelling_35 : decode cX2_countForetelling 35 = .ok (.ireturn, 1) := by decide +kernel
theorem dX2_foretoldBy_0 : decode cX2_foretoldBy 0 = .ok (.aload_n 0, 1) := by decide +kernel
theorem dX2_foretoldBy_1 : decode cX2_foretoldBy 1 = .ok (.getfield 19, 3) := by decide +kernel
theorem dX2_foretoldBy_4 : decode cX2_foretoldBy 4 = .ok (.aload_n 0, 1) := by decide +kernel
theorem dX2_foretoldBy_5 : decode cX2_foretoldBy 5 = .ok (.iload_n 1, 1) := by decide +kernel
theorem dX2_foretoldBy_6 : decode cX2_foretoldBy 6 = .ok (.invokevirtual 89, 3) := by decide +kernel
theorem dX2_foretoldBy_9 : decode cX2_foretoldBy 9 = .ok (.iload_n 2, 1) := by decide +kernel
theorem dX2_foretoldBy_10 : decode cX2_foretoldBy 10 = .ok (.invokevirtual 100, 3) := by decide +kernel
theorem dX2_foretoldBy_13 : decode cX2_foretoldBy 13 = .ok (.ireturn, 1) := by decide +kernel
theorem dX2_causesInAll_0 : decode cX2_causesInAll 0 = .ok (.sipush 1023, 3) := by decide +kernel
theorem dX2_causesInAll_3 : decode cX2_causesInAll 3 = .ok (.istore_n 1, 1) := by decide +kernel
theorem dX2_causesInAll_4 : decode cX2_causesInAll 4 = .ok (.iconst 0, 1) := by decide +kernel
theorem dX2_causesInAll_5 : decode cX2_causesInAll 5 = .ok (.istore_n 2, 1) := by decide +kernel
theorem dX2_causesInAll_6 : decode cX2_causesInAll 6 = .ok (.iload_n 2, 1) := by decide +kernel
theorem dX2_causesInAll_7 : decode cX2_causesInAll 7 = .ok (.aload_n 0, 1) := by decide +kernel
theorem dX2_causesInAll_8 : decode cX2_causesInAll 8 = .ok (.getfield 23, 3) := by decide +kernel
theorem dX2_causesInAll_11 : decode cX2_causesInAll 11 = .ok (.if_icmp .ge 17, 3) := by decide +kernel
theorem dX2_causesInAll_14 : decode cX2_causesInAll 14 = .ok (.iload_n 1, 1) := by decide +kernel
theorem dX2_causesInAll_15 : decode cX2_causesInAll 15 = .ok (.aload_n 0, 1) := by decide +kernel
theorem dX2_causesInAll_16 : decode cX2_causesInAll 16 = .ok (.iload_n 2, 1) := by decide +kernel
theorem dX2_causesInAll_17 : decode cX2_causesInAll 17 = .ok (.invokevirtual 89, 3) := by decide +kernel
theorem dX2_causesInAll_20 : decode cX2_causesInAll 20 = .ok (.iand, 1) := by decide +kernel
theorem dX2_causesInAll_21 : decode cX2_causesInAll 21 = .ok (.istore_n 1, 1) := by decide +kernel
theorem dX2_causesInAll_22 : decode cX2_causesInAll 22 = .ok (.iinc 2 1, 3) := by decide +kernel
theorem dX2_causesInAll_25 : decode cX2_causesInAll 25 = .ok (.goto (-19), 3) := by decide +kernel
theorem dX2_causesInAll_28 : decode cX2_causesInAll 28 = .ok (.iload_n 1, 1) := by decide +kernel
theorem dX2_causesInAll_29 : decode cX2_causesInAll 29 = .ok (.ireturn, 1) := by decide +kernel
theorem dX2_causesInAny_0 : decode cX2_causesInAny 0 = .ok (.iconst 0, 1) := by decide +kernel
theorem dX2_causesInAny_1 : decode cX2_causesInAny 1 = .ok (.istore_n 1, 1) := by decide +kernel
theorem dX2_causesInAny_2 : decode cX2_causesInAny 2 = .ok (.iconst 0, 1) := by decide +kernel
theorem dX2_causesInAny_3 : decode cX2_causesInAny 3 = .ok (.istore_n 2, 1) := by decide +kernel
theorem dX2_causesInAny_4 : decode cX2_causesInAny 4 = .ok (.iload_n 2, 1) := by decide +kernel
theorem dX2_causesInAny_5 : decode cX2_causesInAny 5 = .ok (.aload_n 0, 1) := by decide +kernel
theorem dX2_causesInAny_6 : decode cX2_causesInAny 6 = .ok (.getfield 23, 3) := by decide +kernel
theorem dX2_causesInAny_9 : decode cX2_causesInAny 9 = .ok (.if_icmp .ge 17, 3) := by decide +kernel
theorem dX2_causesInAny_12 : decode cX2_causesInAny 12 = .ok (.iload_n 1, 1) := by decide +kernel
theorem dX2_causesInAny_13 : decode cX2_causesInAny 13 = .ok (.aload_n 0, 1) := by decide +kernel
theorem dX2_causesInAny_14 : decode cX2_causesInAny 14 = .ok (.iload_n 2, 1) := by decide +kernel
theorem dX2_causesInAny_15 : decode cX2_causesInAny 15 = .ok (.invokevirtual 89, 3) := by decide +kernel
theorem dX2_causesInAny_18 : decode cX2_causesInAny 18 = .ok (.ior, 1) := by decide +kernel
theorem dX2_causesInAny_19 : decode cX2_causesInAny 19 = .ok (.istore_n 1, 1) := by decide +kernel
theorem dX2_causesInAny_20 : decode cX2_causesInAny 20 = .ok (.iinc 2 1, 3) := by decide +kernel
theorem dX2_causesInAny_23 : decode cX2_causesInAny 23 = .ok (.goto (-19), 3) := by decide +kernel
theorem dX2_causesInAny_26 : decode cX2_causesInAny 26 = .ok (.iload_n 1, 1) := by decide +kernel
theorem dX2_causesInAny_27 : decode cX2_causesInAny 27 = .ok (.ireturn, 1) := by decide +kernel
theorem dX2_fewestCauses_0 : decode cX2_fewestCauses 0 = .ok (.bipush 10, 2) := by decide +kernel
theorem dX2_fewestCauses_2 : decode cX2_fewestCauses 2 = .ok (.istore_n 1, 1) := by decide +kernel
theorem dX2_fewestCauses_3 : decode cX2_fewestCauses 3 = .ok (.iconst 0, 1) := by decide +kernel
theorem dX2_fewestCauses_4 : decode cX2_fewestCauses 4 = .ok (.istore_n 2, 1) := by decide +kernel
theorem dX2_fewestCauses_5 : decode cX2_fewestCauses 5 = .ok (.iload_n 2, 1) := by decide +kernel
theorem dX2_fewestCauses_6 : decode cX2_fewestCauses 6 = .ok (.aload_n 0, 1) := by decide +kernel
