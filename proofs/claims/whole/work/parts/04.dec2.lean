theorem dX1_init_0 : decode cX1_init 0 = .ok (.aload_n 0, 1) := by decide +kernel
theorem dX1_init_1 : decode cX1_init 1 = .ok (.invokespecial 3, 3) := by decide +kernel
theorem dX1_init_4 : decode cX1_init 4 = .ok (.aload_n 0, 1) := by decide +kernel
theorem dX1_init_5 : decode cX1_init 5 = .ok (.new 9, 3) := by decide +kernel
theorem dX1_init_8 : decode cX1_init 8 = .ok (.dup, 1) := by decide +kernel
theorem dX1_init_9 : decode cX1_init 9 = .ok (.bipush 9, 2) := by decide +kernel
theorem dX1_init_11 : decode cX1_init 11 = .ok (.invokespecial 11, 3) := by decide +kernel
theorem dX1_init_14 : decode cX1_init 14 = .ok (.putfield 14, 3) := by decide +kernel
theorem dX1_init_17 : decode cX1_init 17 = .ok (.aload_n 0, 1) := by decide +kernel
theorem dX1_init_18 : decode cX1_init 18 = .ok (.new 9, 3) := by decide +kernel
theorem dX1_init_21 : decode cX1_init 21 = .ok (.dup, 1) := by decide +kernel
theorem dX1_init_22 : decode cX1_init 22 = .ok (.bipush 11, 2) := by decide +kernel
theorem dX1_init_24 : decode cX1_init 24 = .ok (.invokespecial 11, 3) := by decide +kernel
theorem dX1_init_27 : decode cX1_init 27 = .ok (.putfield 20, 3) := by decide +kernel
theorem dX1_init_30 : decode cX1_init 30 = .ok (.aload_n 0, 1) := by decide +kernel
theorem dX1_init_31 : decode cX1_init 31 = .ok (.iconst 4, 1) := by decide +kernel
theorem dX1_init_32 : decode cX1_init 32 = .ok (.newarray .int, 2) := by decide +kernel
theorem dX1_init_34 : decode cX1_init 34 = .ok (.putfield 23, 3) := by decide +kernel
theorem dX1_init_37 : decode cX1_init 37 = .ok (.aload_n 0, 1) := by decide +kernel
theorem dX1_init_38 : decode cX1_init 38 = .ok (.bipush 10, 2) := by decide +kernel
theorem dX1_init_40 : decode cX1_init 40 = .ok (.bipush 12, 2) := by decide +kernel
theorem dX1_init_42 : decode cX1_init 42 = .ok (.multianewarray 27 2, 4) := by decide +kernel
theorem dX1_init_46 : decode cX1_init 46 = .ok (.putfield 29, 3) := by decide +kernel
theorem dX1_init_49 : decode cX1_init 49 = .ok (.aload_n 0, 1) := by decide +kernel
theorem dX1_init_50 : decode cX1_init 50 = .ok (.bipush 10, 2) := by decide +kernel
theorem dX1_init_52 : decode cX1_init 52 = .ok (.bipush 12, 2) := by decide +kernel
theorem dX1_init_54 : decode cX1_init 54 = .ok (.multianewarray 27 2, 4) := by decide +kernel
theorem dX1_init_58 : decode cX1_init 58 = .ok (.putfield 32, 3) := by decide +kernel
theorem dX1_init_61 : decode cX1_init 61 = .ok (.aload_n 0, 1) := by decide +kernel
theorem dX1_init_62 : decode cX1_init 62 = .ok (.bipush 10, 2) := by decide +kernel
theorem dX1_init_64 : decode cX1_init 64 = .ok (.bipush 12, 2) := by decide +kernel
theorem dX1_init_66 : decode cX1_init 66 = .ok (.multianewarray 27 2, 4) := by decide +kernel
theorem dX1_init_70 : decode cX1_init 70 = .ok (.putfield 35, 3) := by decide +kernel
theorem dX1_init_73 : decode cX1_init 73 = .ok (.aload_n 0, 1) := by decide +kernel
theorem dX1_init_74 : decode cX1_init 74 = .ok (.bipush 10, 2) := by decide +kernel
theorem dX1_init_76 : decode cX1_init 76 = .ok (.bipush 12, 2) := by decide +kernel
theorem dX1_init_78 : decode cX1_init 78 = .ok (.multianewarray 27 2, 4) := by decide +kernel
theorem dX1_init_82 : decode cX1_init 82 = .ok (.putfield 38, 3) := by decide +kernel
theorem dX1_init_85 : decode cX1_init 85 = .ok (.aload_n 0, 1) := by decide +kernel
theorem dX1_init_86 : decode cX1_init 86 = .ok (.bipush 20, 2) := by decide +kernel
theorem dX1_init_88 : decode cX1_init 88 = .ok (.newarray .int, 2) := by decide +kernel
theorem dX1_init_90 : decode cX1_init 90 = .ok (.putfield 41, 3) := by decide +kernel
theorem dX1_init_93 : decode cX1_init 93 = .ok (.aload_n 0, 1) := by decide +kernel
theorem dX1_init_94 : decode cX1_init 94 = .ok (.iconst 0, 1) := by decide +kernel
theorem dX1_init_95 : decode cX1_init 95 = .ok (.putfield 44, 3) := by decide +kernel
theorem dX1_init_98 : decode cX1_init 98 = .ok (.aload_n 0, 1) := by decide +kernel
theorem dX1_init_99 : decode cX1_init 99 = .ok (.bipush 11, 2) := by decide +kernel
theorem dX1_init_101 : decode cX1_init 101 = .ok (.newarray .int, 2) := by decide +kernel
theorem dX1_init_103 : decode cX1_init 103 = .ok (.putfield 48, 3) := by decide +kernel
theorem dX1_init_106 : decode cX1_init 106 = .ok (.aload_n 0, 1) := by decide +kernel
theorem dX1_init_107 : decode cX1_init 107 = .ok (.bipush 11, 2) := by decide +kernel
theorem dX1_init_109 : decode cX1_init 109 = .ok (.newarray .int, 2) := by decide +kernel
theorem dX1_init_111 : decode cX1_init 111 = .ok (.putfield 51, 3) := by decide +kernel
theorem dX1_init_114 : decode cX1_init 114 = .ok (.return_, 1) := by decide +kernel
theorem dX1_take_0 : decode cX1_take 0 = .ok (.aload_n 0, 1) := by decide +kernel
theorem dX1_take_1 : decode cX1_take 1 = .ok (.getfield 14, 3) := by decide +kernel
theorem dX1_take_4 : decode cX1_take 4 = .ok (.aload_n 1, 1) := by decide +kernel
theorem dX1_take_5 : decode cX1_take 5 = .ok (.getfield 54, 3) := by decide +kernel
theorem dX1_take_8 : decode cX1_take 8 = .ok (.iload_n 2, 1) := by decide +kernel
theorem dX1_take_9 : decode cX1_take 9 = .ok (.aaload, 1) := by decide +kernel
theorem dX1_take_10 : decode cX1_take 10 = .ok (.invokevirtual 60, 3) := by decide +kernel
theorem dX1_take_13 : decode cX1_take 13 = .ok (.aload_n 0, 1) := by decide +kernel
theorem dX1_take_14 : decode cX1_take 14 = .ok (.getfield 20, 3) := by decide +kernel
theorem dX1_take_17 : decode cX1_take 17 = .ok (.aload_n 1, 1) := by decide +kernel
theorem dX1_take_18 : decode cX1_take 18 = .ok (.getfield 64, 3) := by decide +kernel
theorem dX1_take_21 : decode cX1_take 21 = .ok (.iload_n 3, 1) := by decide +kernel
theorem dX1_take_22 : decode cX1_take 22 = .ok (.aaload, 1) := by decide +kernel
theorem dX1_take_23 : decode cX1_take 23 = .ok (.invokevirtual 60, 3) := by decide +kernel
theorem dX1_take_26 : decode cX1_take 26 = .ok (.aload_n 1, 1) := by decide +kernel
theorem dX1_take_27 : decode cX1_take 27 = .ok (.getfield 67, 3) := by decide +kernel
theorem dX1_take_30 : decode cX1_take 30 = .ok (.iconst 0, 1) := by decide +kernel
theorem dX1_take_31 : decode cX1_take 31 = .ok (.aload_n 0, 1) := by decide +kernel
theorem dX1_take_32 : decode cX1_take 32 = .ok (.getfield 23, 3) := by decide +kernel
theorem dX1_take_35 : decode cX1_take 35 = .ok (.iconst 0, 1) := by decide +kernel
theorem dX1_take_36 : decode cX1_take 36 = .ok (.iconst 4, 1) := by decide +kernel
theorem dX1_take_37 : decode cX1_take 37 = .ok (.invokestatic 68, 3) := by decide +kernel
theorem dX1_take_40 : decode cX1_take 40 = .ok (.return_, 1) := by decide +kernel
theorem dX1_turnTune_0 : decode cX1_turnTune 0 = .ok (.aload_n 0, 1) := by decide +kernel
theorem dX1_turnTune_1 : decode cX1_turnTune 1 = .ok (.getfield 20, 3) := by decide +kernel
theorem dX1_turnTune_4 : decode cX1_turnTune 4 = .ok (.invokevirtual 74, 3) := by decide +kernel
theorem dX1_turnTune_7 : decode cX1_turnTune 7 = .ok (.aload_n 0, 1) := by decide +kernel
theorem dX1_turnTune_8 : decode cX1_turnTune 8 = .ok (.getfield 20, 3) := by decide +kernel
theorem dX1_turnTune_11 : decode cX1_turnTune 11 = .ok (.aload_n 1, 1) := by decide +kernel
theorem dX1_turnTune_12 : decode cX1_turnTune 12 = .ok (.iload_n 2, 1) := by decide +kernel
theorem dX1_turnTune_13 : decode cX1_turnTune 13 = .ok (.aload_n 1, 1) := by decide +kernel
theorem dX1_turnTune_14 : decode cX1_turnTune 14 = .ok (.getfield 77, 3) := by decide +kernel
theorem dX1_turnTune_17 : decode cX1_turnTune 17 = .ok (.invokevirtual 80, 3) := by decide +kernel
theorem dX1_turnTune_20 : decode cX1_turnTune 20 = .ok (.aload_n 0, 1) := by decide +kernel
theorem dX1_turnTune_21 : decode cX1_turnTune 21 = .ok (.getfield 20, 3) := by decide +kernel
theorem dX1_turnTune_24 : decode cX1_turnTune 24 = .ok (.aload_n 1, 1) := by decide +kernel
theorem dX1_turnTune_25 : decode cX1_turnTune 25 = .ok (.iconst 0, 1) := by decide +kernel
theorem dX1_turnTune_26 : decode cX1_turnTune 26 = .ok (.iload_n 2, 1) := by decide +kernel
theorem dX1_turnTune_27 : decode cX1_turnTune 27 = .ok (.invokevirtual 80, 3) := by decide +kernel
theorem dX1_turnTune_30 : decode cX1_turnTune 30 = .ok (.return_, 1) := by decide +kernel
theorem dX1_stressSyllable_0 : decode cX1_stressSyllable 0 = .ok (.iload_n 1, 1) := by decide +kernel
theorem dX1_stressSyllable_1 : decode cX1_stressSyllable 1 = .ok (.iconst 0, 1) := by decide +kernel
theorem dX1_stressSyllable_2 : decode cX1_stressSyllable 2 = .ok (.aload_n 0, 1) := by decide +kernel
theorem dX1_stressSyllable_3 : decode cX1_stressSyllable 3 = .ok (.getfield 14, 3) := by decide +kernel
theorem dX1_stressSyllable_6 : decode cX1_stressSyllable 6 = .ok (.getfield 77, 3) := by decide +kernel
theorem dX1_stressSyllable_9 : decode cX1_stressSyllable 9 = .ok (.iconst 1, 1) := by decide +kernel
theorem dX1_stressSyllable_10 : decode cX1_stressSyllable 10 = .ok (.isub, 1) := by decide +kernel
theorem dX1_stressSyllable_11 : decode cX1_stressSyllable 11 = .ok (.invokestatic 84, 3) := by decide +kernel
theorem dX1_stressSyllable_14 : decode cX1_stressSyllable 14 = .ok (.ifCond .eq 13, 3) := by decide +kernel
theorem dX1_stressSyllable_17 : decode cX1_stressSyllable 17 = .ok (.aload_n 0, 1) := by decide +kernel
theorem dX1_stressSyllable_18 : decode cX1_stressSyllable 18 = .ok (.getfield 14, 3) := by decide +kernel
theorem dX1_stressSyllable_21 : decode cX1_stressSyllable 21 = .ok (.getfield 88, 3) := by decide +kernel
theorem dX1_stressSyllable_24 : decode cX1_stressSyllable 24 = .ok (.iload_n 1, 1) := by decide +kernel
theorem dX1_stressSyllable_25 : decode cX1_stressSyllable 25 = .ok (.iload_n 2, 1) := by decide +kernel
theorem dX1_stressSyllable_26 : decode cX1_stressSyllable 26 = .ok (.iastore, 1) := by decide +kernel
theorem dX1_stressSyllable_27 : decode cX1_stressSyllable 27 = .ok (.return_, 1) := by decide +kernel
theorem dX1_costOf_0 : decode cX1_costOf 0 = .ok (.iconst 0, 1) := by decide +kernel
theorem dX1_costOf_1 : decode cX1_costOf 1 = .ok (.istore_n 2, 1) := by decide +kernel
theorem dX1_costOf_2 : decode cX1_costOf 2 = .ok (.iconst 0, 1) := by decide +kernel
theorem dX1_costOf_3 : decode cX1_costOf 3 = .ok (.istore_n 3, 1) := by decide +kernel
theorem dX1_costOf_4 : decode cX1_costOf 4 = .ok (.iconst 0, 1) := by decide +kernel
theorem dX1_costOf_5 : decode cX1_costOf 5 = .ok (.istore 4, 2) := by decide +kernel
theorem dX1_costOf_7 : decode cX1_costOf 7 = .ok (.iconst 0, 1) := by decide +kernel
theorem dX1_costOf_8 : decode cX1_costOf 8 = .ok (.istore 5, 2) := by decide +kernel
theorem dX1_costOf_10 : decode cX1_costOf 10 = .ok (.iload 5, 2) := by decide +kernel
theorem dX1_costOf_12 : decode cX1_costOf 12 = .ok (.aload_n 1, 1) := by decide +kernel
theorem dX1_costOf_13 : decode cX1_costOf 13 = .ok (.getfield 91, 3) := by decide +kernel
theorem dX1_costOf_16 : decode cX1_costOf 16 = .ok (.if_icmp .ge 62, 3) := by decide +kernel
theorem dX1_costOf_19 : decode cX1_costOf 19 = .ok (.aload_n 1, 1) := by decide +kernel
theorem dX1_costOf_20 : decode cX1_costOf 20 = .ok (.iload 5, 2) := by decide +kernel
theorem dX1_costOf_22 : decode cX1_costOf 22 = .ok (.invokevirtual 94, 3) := by decide +kernel
theorem dX1_costOf_25 : decode cX1_costOf 25 = .ok (.istore 6, 2) := by decide +kernel
theorem dX1_costOf_27 : decode cX1_costOf 27 = .ok (.aload_n 0, 1) := by decide +kernel
theorem dX1_costOf_28 : decode cX1_costOf 28 = .ok (.iload 6, 2) := by decide +kernel
theorem dX1_costOf_30 : decode cX1_costOf 30 = .ok (.iload_n 2, 1) := by decide +kernel
theorem dX1_costOf_31 : decode cX1_costOf 31 = .ok (.iload_n 3, 1) := by decide +kernel
theorem dX1_costOf_32 : decode cX1_costOf 32 = .ok (.invokevirtual 98, 3) := by decide +kernel
theorem dX1_costOf_35 : decode cX1_costOf 35 = .ok (.ifCond .ne 6, 3) := by decide +kernel
theorem dX1_costOf_38 : decode cX1_costOf 38 = .ok (.bipush (-5), 2) := by decide +kernel
theorem dX1_costOf_40 : decode cX1_costOf 40 = .ok (.ireturn, 1) := by decide +kernel
theorem dX1_costOf_41 : decode cX1_costOf 41 = .ok (.iload 4, 2) := by decide +kernel
theorem dX1_costOf_43 : decode cX1_costOf 43 = .ok (.aload_n 0, 1) := by decide +kernel
theorem dX1_costOf_44 : decode cX1_costOf 44 = .ok (.iload 6, 2) := by decide +kernel
theorem dX1_costOf_46 : decode cX1_costOf 46 = .ok (.iload_n 2, 1) := by decide +kernel
theorem dX1_costOf_47 : decode cX1_costOf 47 = .ok (.iload_n 3, 1) := by decide +kernel
theorem dX1_costOf_48 : decode cX1_costOf 48 = .ok (.invokevirtual 101, 3) := by decide +kernel
theorem dX1_costOf_51 : decode cX1_costOf 51 = .ok (.iadd, 1) := by decide +kernel
theorem dX1_costOf_52 : decode cX1_costOf 52 = .ok (.istore 4, 2) := by decide +kernel
theorem dX1_costOf_54 : decode cX1_costOf 54 = .ok (.iload_n 2, 1) := by decide +kernel
theorem dX1_costOf_55 : decode cX1_costOf 55 = .ok (.getstatic 105, 3) := by decide +kernel
theorem dX1_costOf_58 : decode cX1_costOf 58 = .ok (.iload 6, 2) := by decide +kernel
theorem dX1_costOf_60 : decode cX1_costOf 60 = .ok (.iaload, 1) := by decide +kernel
theorem dX1_costOf_61 : decode cX1_costOf 61 = .ok (.iadd, 1) := by decide +kernel
theorem dX1_costOf_62 : decode cX1_costOf 62 = .ok (.istore_n 2, 1) := by decide +kernel
theorem dX1_costOf_63 : decode cX1_costOf 63 = .ok (.iload_n 3, 1) := by decide +kernel
theorem dX1_costOf_64 : decode cX1_costOf 64 = .ok (.getstatic 108, 3) := by decide +kernel
theorem dX1_costOf_67 : decode cX1_costOf 67 = .ok (.iload 6, 2) := by decide +kernel
theorem dX1_costOf_69 : decode cX1_costOf 69 = .ok (.iaload, 1) := by decide +kernel
theorem dX1_costOf_70 : decode cX1_costOf 70 = .ok (.iadd, 1) := by decide +kernel
theorem dX1_costOf_71 : decode cX1_costOf 71 = .ok (.istore_n 3, 1) := by decide +kernel
theorem dX1_costOf_72 : decode cX1_costOf 72 = .ok (.iinc 5 1, 3) := by decide +kernel
theorem dX1_costOf_75 : decode cX1_costOf 75 = .ok (.goto (-65), 3) := by decide +kernel
theorem dX1_costOf_78 : decode cX1_costOf 78 = .ok (.aload_n 0, 1) := by decide +kernel
theorem dX1_costOf_79 : decode cX1_costOf 79 = .ok (.iload_n 2, 1) := by decide +kernel
theorem dX1_costOf_80 : decode cX1_costOf 80 = .ok (.iload_n 3, 1) := by decide +kernel
theorem dX1_costOf_81 : decode cX1_costOf 81 = .ok (.invokevirtual 111, 3) := by decide +kernel
theorem dX1_costOf_84 : decode cX1_costOf 84 = .ok (.ifCond .eq 8, 3) := by decide +kernel
theorem dX1_costOf_87 : decode cX1_costOf 87 = .ok (.iload 4, 2) := by decide +kernel
theorem dX1_costOf_89 : decode cX1_costOf 89 = .ok (.goto 5, 3) := by decide +kernel
theorem dX1_costOf_92 : decode cX1_costOf 92 = .ok (.bipush (-5), 2) := by decide +kernel
theorem dX1_costOf_94 : decode cX1_costOf 94 = .ok (.ireturn, 1) := by decide +kernel
theorem dX1_leastCost_0 : decode cX1_leastCost 0 = .ok (.aload_n 0, 1) := by decide +kernel
theorem dX1_leastCost_1 : decode cX1_leastCost 1 = .ok (.invokevirtual 115, 3) := by decide +kernel
theorem dX1_leastCost_4 : decode cX1_leastCost 4 = .ok (.ifCond .ne 6, 3) := by decide +kernel
theorem dX1_leastCost_7 : decode cX1_leastCost 7 = .ok (.bipush (-6), 2) := by decide +kernel
theorem dX1_leastCost_9 : decode cX1_leastCost 9 = .ok (.ireturn, 1) := by decide +kernel
theorem dX1_leastCost_10 : decode cX1_leastCost 10 = .ok (.aload_n 0, 1) := by decide +kernel
theorem dX1_leastCost_11 : decode cX1_leastCost 11 = .ok (.invokevirtual 119, 3) := by decide +kernel
theorem dX1_leastCost_14 : decode cX1_leastCost 14 = .ok (.aload_n 0, 1) := by decide +kernel
theorem dX1_leastCost_15 : decode cX1_leastCost 15 = .ok (.getfield 29, 3) := by decide +kernel
theorem dX1_leastCost_18 : decode cX1_leastCost 18 = .ok (.iconst 0, 1) := by decide +kernel
theorem dX1_leastCost_19 : decode cX1_leastCost 19 = .ok (.aaload, 1) := by decide +kernel
theorem dX1_leastCost_20 : decode cX1_leastCost 20 = .ok (.iconst 0, 1) := by decide +kernel
theorem dX1_leastCost_21 : decode cX1_leastCost 21 = .ok (.iaload, 1) := by decide +kernel
theorem dX1_leastCost_22 : decode cX1_leastCost 22 = .ok (.ireturn, 1) := by decide +kernel
theorem dX1_greatestCost_0 : decode cX1_greatestCost 0 = .ok (.aload_n 0, 1) := by decide +kernel
theorem dX1_greatestCost_1 : decode cX1_greatestCost 1 = .ok (.aload_n 0, 1) := by decide +kernel
theorem dX1_greatestCost_2 : decode cX1_greatestCost 2 = .ok (.getfield 32, 3) := by decide +kernel
theorem dX1_greatestCost_5 : decode cX1_greatestCost 5 = .ok (.bipush (-6), 2) := by decide +kernel
theorem dX1_greatestCost_7 : decode cX1_greatestCost 7 = .ok (.invokevirtual 122, 3) := by decide +kernel
theorem dX1_greatestCost_10 : decode cX1_greatestCost 10 = .ok (.ireturn, 1) := by decide +kernel
theorem dX1_howManyLayings_0 : decode cX1_howManyLayings 0 = .ok (.aload_n 0, 1) := by decide +kernel
theorem dX1_howManyLayings_1 : decode cX1_howManyLayings 1 = .ok (.aload_n 0, 1) := by decide +kernel
theorem dX1_howManyLayings_2 : decode cX1_howManyLayings 2 = .ok (.getfield 35, 3) := by decide +kernel
theorem dX1_howManyLayings_5 : decode cX1_howManyLayings 5 = .ok (.iconst 0, 1) := by decide +kernel
theorem dX1_howManyLayings_6 : decode cX1_howManyLayings 6 = .ok (.invokevirtual 122, 3) := by decide +kernel
theorem dX1_howManyLayings_9 : decode cX1_howManyLayings 9 = .ok (.ireturn, 1) := by decide +kernel
theorem dX1_howManyLeast_0 : decode cX1_howManyLeast 0 = .ok (.aload_n 0, 1) := by decide +kernel
theorem dX1_howManyLeast_1 : decode cX1_howManyLeast 1 = .ok (.aload_n 0, 1) := by decide +kernel
theorem dX1_howManyLeast_2 : decode cX1_howManyLeast 2 = .ok (.getfield 38, 3) := by decide +kernel
theorem dX1_howManyLeast_5 : decode cX1_howManyLeast 5 = .ok (.iconst 0, 1) := by decide +kernel
theorem dX1_howManyLeast_6 : decode cX1_howManyLeast 6 = .ok (.invokevirtual 122, 3) := by decide +kernel
theorem dX1_howManyLeast_9 : decode cX1_howManyLeast 9 = .ok (.ireturn, 1) := by decide +kernel
theorem dX1_tallied_0 : decode cX1_tallied 0 = .ok (.aload_n 0, 1) := by decide +kernel
theorem dX1_tallied_1 : decode cX1_tallied 1 = .ok (.invokevirtual 115, 3) := by decide +kernel
theorem dX1_tallied_4 : decode cX1_tallied 4 = .ok (.ifCond .ne 5, 3) := by decide +kernel
theorem dX1_tallied_7 : decode cX1_tallied 7 = .ok (.iload_n 2, 1) := by decide +kernel
theorem dX1_tallied_8 : decode cX1_tallied 8 = .ok (.ireturn, 1) := by decide +kernel
theorem dX1_tallied_9 : decode cX1_tallied 9 = .ok (.aload_n 0, 1) := by decide +kernel
theorem dX1_tallied_10 : decode cX1_tallied 10 = .ok (.invokevirtual 119, 3) := by decide +kernel
theorem dX1_tallied_13 : decode cX1_tallied 13 = .ok (.aload_n 0, 1) := by decide +kernel
theorem dX1_tallied_14 : decode cX1_tallied 14 = .ok (.invokevirtual 126, 3) := by decide +kernel
theorem dX1_tallied_17 : decode cX1_tallied 17 = .ok (.aload_n 1, 1) := by decide +kernel
theorem dX1_tallied_18 : decode cX1_tallied 18 = .ok (.iconst 0, 1) := by decide +kernel
theorem dX1_tallied_19 : decode cX1_tallied 19 = .ok (.aaload, 1) := by decide +kernel
theorem dX1_tallied_20 : decode cX1_tallied 20 = .ok (.iconst 0, 1) := by decide +kernel
theorem dX1_tallied_21 : decode cX1_tallied 21 = .ok (.iaload, 1) := by decide +kernel
theorem dX1_tallied_22 : decode cX1_tallied 22 = .ok (.ireturn, 1) := by decide +kernel
theorem dX1_leastStep_0 : decode cX1_leastStep 0 = .ok (.aload_n 0, 1) := by decide +kernel
theorem dX1_leastStep_1 : decode cX1_leastStep 1 = .ok (.invokevirtual 115, 3) := by decide +kernel
theorem dX1_leastStep_4 : decode cX1_leastStep 4 = .ok (.ifCond .ne 6, 3) := by decide +kernel
theorem dX1_leastStep_7 : decode cX1_leastStep 7 = .ok (.bipush (-6), 2) := by decide +kernel
theorem dX1_leastStep_9 : decode cX1_leastStep 9 = .ok (.ireturn, 1) := by decide +kernel
theorem dX1_leastStep_10 : decode cX1_leastStep 10 = .ok (.aload_n 0, 1) := by decide +kernel
theorem dX1_leastStep_11 : decode cX1_leastStep 11 = .ok (.invokevirtual 119, 3) := by decide +kernel
theorem dX1_leastStep_14 : decode cX1_leastStep 14 = .ok (.aload_n 0, 1) := by decide +kernel
theorem dX1_leastStep_15 : decode cX1_leastStep 15 = .ok (.invokevirtual 129, 3) := by decide +kernel
theorem dX1_leastStep_18 : decode cX1_leastStep 18 = .ok (.iload_n 1, 1) := by decide +kernel
theorem dX1_leastStep_19 : decode cX1_leastStep 19 = .ok (.iconst 0, 1) := by decide +kernel
theorem dX1_leastStep_20 : decode cX1_leastStep 20 = .ok (.aload_n 0, 1) := by decide +kernel
theorem dX1_leastStep_21 : decode cX1_leastStep 21 = .ok (.getfield 44, 3) := by decide +kernel
theorem dX1_leastStep_24 : decode cX1_leastStep 24 = .ok (.iconst 1, 1) := by decide +kernel
theorem dX1_leastStep_25 : decode cX1_leastStep 25 = .ok (.isub, 1) := by decide +kernel
theorem dX1_leastStep_26 : decode cX1_leastStep 26 = .ok (.invokestatic 84, 3) := by decide +kernel
theorem dX1_leastStep_29 : decode cX1_leastStep 29 = .ok (.ifCond .eq 12, 3) := by decide +kernel
theorem dX1_leastStep_32 : decode cX1_leastStep 32 = .ok (.aload_n 0, 1) := by decide +kernel
theorem dX1_leastStep_33 : decode cX1_leastStep 33 = .ok (.getfield 41, 3) := by decide +kernel
theorem dX1_leastStep_36 : decode cX1_leastStep 36 = .ok (.iload_n 1, 1) := by decide +kernel
theorem dX1_leastStep_37 : decode cX1_leastStep 37 = .ok (.iaload, 1) := by decide +kernel
theorem dX1_leastStep_38 : decode cX1_leastStep 38 = .ok (.goto 5, 3) := by decide +kernel
theorem dX1_leastStep_41 : decode cX1_leastStep 41 = .ok (.bipush (-6), 2) := by decide +kernel
theorem dX1_leastStep_43 : decode cX1_leastStep 43 = .ok (.ireturn, 1) := by decide +kernel
theorem dX1_firstSungOn_0 : decode cX1_firstSungOn 0 = .ok (.aload_n 0, 1) := by decide +kernel
theorem dX1_firstSungOn_1 : decode cX1_firstSungOn 1 = .ok (.aload_n 0, 1) := by decide +kernel
theorem dX1_firstSungOn_2 : decode cX1_firstSungOn 2 = .ok (.getfield 48, 3) := by decide +kernel
theorem dX1_firstSungOn_5 : decode cX1_firstSungOn 5 = .ok (.iload_n 1, 1) := by decide +kernel
theorem dX1_firstSungOn_6 : decode cX1_firstSungOn 6 = .ok (.invokevirtual 132, 3) := by decide +kernel
theorem dX1_firstSungOn_9 : decode cX1_firstSungOn 9 = .ok (.ireturn, 1) := by decide +kernel
theorem dX1_howManySungOn_0 : decode cX1_howManySungOn 0 = .ok (.aload_n 0, 1) := by decide +kernel
theorem dX1_howManySungOn_1 : decode cX1_howManySungOn 1 = .ok (.aload_n 0, 1) := by decide +kernel
theorem dX1_howManySungOn_2 : decode cX1_howManySungOn 2 = .ok (.getfield 51, 3) := by decide +kernel
theorem dX1_howManySungOn_5 : decode cX1_howManySungOn 5 = .ok (.iload_n 1, 1) := by decide +kernel
theorem dX1_howManySungOn_6 : decode cX1_howManySungOn 6 = .ok (.invokevirtual 132, 3) := by decide +kernel
theorem dX1_howManySungOn_9 : decode cX1_howManySungOn 9 = .ok (.ireturn, 1) := by decide +kernel
theorem dX1_traced_0 : decode cX1_traced 0 = .ok (.aload_n 0, 1) := by decide +kernel
theorem dX1_traced_1 : decode cX1_traced 1 = .ok (.invokevirtual 115, 3) := by decide +kernel
theorem dX1_traced_4 : decode cX1_traced 4 = .ok (.ifCond .eq 20, 3) := by decide +kernel
theorem dX1_traced_7 : decode cX1_traced 7 = .ok (.iload_n 2, 1) := by decide +kernel
theorem dX1_traced_8 : decode cX1_traced 8 = .ok (.iconst 0, 1) := by decide +kernel
theorem dX1_traced_9 : decode cX1_traced 9 = .ok (.aload_n 0, 1) := by decide +kernel
theorem dX1_traced_10 : decode cX1_traced 10 = .ok (.getfield 20, 3) := by decide +kernel
theorem dX1_traced_13 : decode cX1_traced 13 = .ok (.getfield 77, 3) := by decide +kernel
theorem dX1_traced_16 : decode cX1_traced 16 = .ok (.iconst 1, 1) := by decide +kernel
theorem dX1_traced_17 : decode cX1_traced 17 = .ok (.isub, 1) := by decide +kernel
theorem dX1_traced_18 : decode cX1_traced 18 = .ok (.invokestatic 84, 3) := by decide +kernel
theorem dX1_traced_21 : decode cX1_traced 21 = .ok (.ifCond .ne 6, 3) := by decide +kernel
theorem dX1_traced_24 : decode cX1_traced 24 = .ok (.bipush (-6), 2) := by decide +kernel
theorem dX1_traced_26 : decode cX1_traced 26 = .ok (.ireturn, 1) := by decide +kernel
theorem dX1_traced_27 : decode cX1_traced 27 = .ok (.aload_n 0, 1) := by decide +kernel
theorem dX1_traced_28 : decode cX1_traced 28 = .ok (.invokevirtual 119, 3) := by decide +kernel
theorem dX1_traced_31 : decode cX1_traced 31 = .ok (.aload_n 0, 1) := by decide +kernel
theorem dX1_traced_32 : decode cX1_traced 32 = .ok (.invokevirtual 129, 3) := by decide +kernel
theorem dX1_traced_35 : decode cX1_traced 35 = .ok (.aload_n 1, 1) := by decide +kernel
theorem dX1_traced_36 : decode cX1_traced 36 = .ok (.iload_n 2, 1) := by decide +kernel
theorem dX1_traced_37 : decode cX1_traced 37 = .ok (.iaload, 1) := by decide +kernel
theorem dX1_traced_38 : decode cX1_traced 38 = .ok (.ireturn, 1) := by decide +kernel
theorem dX1_hasLaying_0 : decode cX1_hasLaying 0 = .ok (.aload_n 0, 1) := by decide +kernel
theorem dX1_hasLaying_1 : decode cX1_hasLaying 1 = .ok (.getfield 14, 3) := by decide +kernel
theorem dX1_hasLaying_4 : decode cX1_hasLaying 4 = .ok (.getfield 77, 3) := by decide +kernel
theorem dX1_hasLaying_7 : decode cX1_hasLaying 7 = .ok (.ifCond .ne 7, 3) := by decide +kernel
theorem dX1_hasLaying_10 : decode cX1_hasLaying 10 = .ok (.iconst 1, 1) := by decide +kernel
theorem dX1_hasLaying_11 : decode cX1_hasLaying 11 = .ok (.goto 4, 3) := by decide +kernel
theorem dX1_hasLaying_14 : decode cX1_hasLaying 14 = .ok (.iconst 0, 1) := by decide +kernel
theorem dX1_hasLaying_15 : decode cX1_hasLaying 15 = .ok (.aload_n 0, 1) := by decide +kernel
theorem dX1_hasLaying_16 : decode cX1_hasLaying 16 = .ok (.getfield 20, 3) := by decide +kernel
theorem dX1_hasLaying_19 : decode cX1_hasLaying 19 = .ok (.getfield 77, 3) := by decide +kernel
theorem dX1_hasLaying_22 : decode cX1_hasLaying 22 = .ok (.ifCond .ne 7, 3) := by decide +kernel
theorem dX1_hasLaying_25 : decode cX1_hasLaying 25 = .ok (.iconst 1, 1) := by decide +kernel
theorem dX1_hasLaying_26 : decode cX1_hasLaying 26 = .ok (.goto 4, 3) := by decide +kernel
theorem dX1_hasLaying_29 : decode cX1_hasLaying 29 = .ok (.iconst 0, 1) := by decide +kernel
theorem dX1_hasLaying_30 : decode cX1_hasLaying 30 = .ok (.if_icmp .ne 7, 3) := by decide +kernel
theorem dX1_hasLaying_33 : decode cX1_hasLaying 33 = .ok (.iconst 1, 1) := by decide +kernel
theorem dX1_hasLaying_34 : decode cX1_hasLaying 34 = .ok (.goto 4, 3) := by decide +kernel
theorem dX1_hasLaying_37 : decode cX1_hasLaying 37 = .ok (.iconst 0, 1) := by decide +kernel
theorem dX1_hasLaying_38 : decode cX1_hasLaying 38 = .ok (.ireturn, 1) := by decide +kernel
theorem dX1_isEnd_0 : decode cX1_isEnd 0 = .ok (.iload_n 1, 1) := by decide +kernel
theorem dX1_isEnd_1 : decode cX1_isEnd 1 = .ok (.aload_n 0, 1) := by decide +kernel
theorem dX1_isEnd_2 : decode cX1_isEnd 2 = .ok (.getfield 14, 3) := by decide +kernel
theorem dX1_isEnd_5 : decode cX1_isEnd 5 = .ok (.getfield 77, 3) := by decide +kernel
theorem dX1_isEnd_8 : decode cX1_isEnd 8 = .ok (.if_icmp .ne 18, 3) := by decide +kernel
theorem dX1_isEnd_11 : decode cX1_isEnd 11 = .ok (.iload_n 2, 1) := by decide +kernel
theorem dX1_isEnd_12 : decode cX1_isEnd 12 = .ok (.aload_n 0, 1) := by decide +kernel
theorem dX1_isEnd_13 : decode cX1_isEnd 13 = .ok (.getfield 20, 3) := by decide +kernel
theorem dX1_isEnd_16 : decode cX1_isEnd 16 = .ok (.getfield 77, 3) := by decide +kernel
theorem dX1_isEnd_19 : decode cX1_isEnd 19 = .ok (.if_icmp .ne 7, 3) := by decide +kernel
theorem dX1_isEnd_22 : decode cX1_isEnd 22 = .ok (.iconst 1, 1) := by decide +kernel
theorem dX1_isEnd_23 : decode cX1_isEnd 23 = .ok (.goto 4, 3) := by decide +kernel
theorem dX1_isEnd_26 : decode cX1_isEnd 26 = .ok (.iconst 0, 1) := by decide +kernel
theorem dX1_isEnd_27 : decode cX1_isEnd 27 = .ok (.ireturn, 1) := by decide +kernel
theorem dX1_canStep_0 : decode cX1_canStep 0 = .ok (.iload_n 1, 1) := by decide +kernel
theorem dX1_canStep_1 : decode cX1_canStep 1 = .ok (.tableswitch 97 0 2 #[27, 55, 76], 27) := by decide +kernel
theorem dX1_canStep_28 : decode cX1_canStep 28 = .ok (.iload_n 2, 1) := by decide +kernel
theorem dX1_canStep_29 : decode cX1_canStep 29 = .ok (.aload_n 0, 1) := by decide +kernel
theorem dX1_canStep_30 : decode cX1_canStep 30 = .ok (.getfield 14, 3) := by decide +kernel
theorem dX1_canStep_33 : decode cX1_canStep 33 = .ok (.getfield 77, 3) := by decide +kernel
theorem dX1_canStep_36 : decode cX1_canStep 36 = .ok (.if_icmp .ge 18, 3) := by decide +kernel
theorem dX1_canStep_39 : decode cX1_canStep 39 = .ok (.iload_n 3, 1) := by decide +kernel
theorem dX1_canStep_40 : decode cX1_canStep 40 = .ok (.aload_n 0, 1) := by decide +kernel
theorem dX1_canStep_41 : decode cX1_canStep 41 = .ok (.getfield 20, 3) := by decide +kernel
theorem dX1_canStep_44 : decode cX1_canStep 44 = .ok (.getfield 77, 3) := by decide +kernel
theorem dX1_canStep_47 : decode cX1_canStep 47 = .ok (.if_icmp .ge 7, 3) := by decide +kernel
theorem dX1_canStep_50 : decode cX1_canStep 50 = .ok (.iconst 1, 1) := by decide +kernel
theorem dX1_canStep_51 : decode cX1_canStep 51 = .ok (.goto 4, 3) := by decide +kernel
theorem dX1_canStep_54 : decode cX1_canStep 54 = .ok (.iconst 0, 1) := by decide +kernel
theorem dX1_canStep_55 : decode cX1_canStep 55 = .ok (.ireturn, 1) := by decide +kernel
theorem dX1_canStep_56 : decode cX1_canStep 56 = .ok (.iload_n 2, 1) := by decide +kernel
theorem dX1_canStep_57 : decode cX1_canStep 57 = .ok (.ifCond .le 18, 3) := by decide +kernel
theorem dX1_canStep_60 : decode cX1_canStep 60 = .ok (.iload_n 3, 1) := by decide +kernel
theorem dX1_canStep_61 : decode cX1_canStep 61 = .ok (.aload_n 0, 1) := by decide +kernel
theorem dX1_canStep_62 : decode cX1_canStep 62 = .ok (.getfield 20, 3) := by decide +kernel
theorem dX1_canStep_65 : decode cX1_canStep 65 = .ok (.getfield 77, 3) := by decide +kernel
theorem dX1_canStep_68 : decode cX1_canStep 68 = .ok (.if_icmp .ge 7, 3) := by decide +kernel
theorem dX1_canStep_71 : decode cX1_canStep 71 = .ok (.iconst 1, 1) := by decide +kernel
theorem dX1_canStep_72 : decode cX1_canStep 72 = .ok (.goto 4, 3) := by decide +kernel
theorem dX1_canStep_75 : decode cX1_canStep 75 = .ok (.iconst 0, 1) := by decide +kernel
theorem dX1_canStep_76 : decode cX1_canStep 76 = .ok (.ireturn, 1) := by decide +kernel
theorem dX1_canStep_77 : decode cX1_canStep 77 = .ok (.iload_n 2, 1) := by decide +kernel
theorem dX1_canStep_78 : decode cX1_canStep 78 = .ok (.aload_n 0, 1) := by decide +kernel
theorem dX1_canStep_79 : decode cX1_canStep 79 = .ok (.getfield 14, 3) := by decide +kernel
theorem dX1_canStep_82 : decode cX1_canStep 82 = .ok (.getfield 77, 3) := by decide +kernel
theorem dX1_canStep_85 : decode cX1_canStep 85 = .ok (.if_icmp .ge 11, 3) := by decide +kernel
theorem dX1_canStep_88 : decode cX1_canStep 88 = .ok (.iload_n 3, 1) := by decide +kernel
theorem dX1_canStep_89 : decode cX1_canStep 89 = .ok (.ifCond .le 7, 3) := by decide +kernel
theorem dX1_canStep_92 : decode cX1_canStep 92 = .ok (.iconst 1, 1) := by decide +kernel
theorem dX1_canStep_93 : decode cX1_canStep 93 = .ok (.goto 4, 3) := by decide +kernel
theorem dX1_canStep_96 : decode cX1_canStep 96 = .ok (.iconst 0, 1) := by decide +kernel
theorem dX1_canStep_97 : decode cX1_canStep 97 = .ok (.ireturn, 1) := by decide +kernel
theorem dX1_canStep_98 : decode cX1_canStep 98 = .ok (.iconst 0, 1) := by decide +kernel
theorem dX1_canStep_99 : decode cX1_canStep 99 = .ok (.ireturn, 1) := by decide +kernel
theorem dX1_stepCost_0 : decode cX1_stepCost 0 = .ok (.iload_n 1, 1) := by decide +kernel
theorem dX1_stepCost_1 : decode cX1_stepCost 1 = .ok (.iconst 1, 1) := by decide +kernel
theorem dX1_stepCost_2 : decode cX1_stepCost 2 = .ok (.if_icmp .ne 10, 3) := by decide +kernel
theorem dX1_stepCost_5 : decode cX1_stepCost 5 = .ok (.aload_n 0, 1) := by decide +kernel
theorem dX1_stepCost_6 : decode cX1_stepCost 6 = .ok (.getfield 23, 3) := by decide +kernel
theorem dX1_stepCost_9 : decode cX1_stepCost 9 = .ok (.iconst 1, 1) := by decide +kernel
theorem dX1_stepCost_10 : decode cX1_stepCost 10 = .ok (.iaload, 1) := by decide +kernel
theorem dX1_stepCost_11 : decode cX1_stepCost 11 = .ok (.ireturn, 1) := by decide +kernel
theorem dX1_stepCost_12 : decode cX1_stepCost 12 = .ok (.iload_n 1, 1) := by decide +kernel
theorem dX1_stepCost_13 : decode cX1_stepCost 13 = .ok (.ifCond .ne 7, 3) := by decide +kernel
theorem dX1_stepCost_16 : decode cX1_stepCost 16 = .ok (.iload_n 3, 1) := by decide +kernel
theorem dX1_stepCost_17 : decode cX1_stepCost 17 = .ok (.goto 6, 3) := by decide +kernel
theorem dX1_stepCost_20 : decode cX1_stepCost 20 = .ok (.iload_n 3, 1) := by decide +kernel
theorem dX1_stepCost_21 : decode cX1_stepCost 21 = .ok (.iconst 1, 1) := by decide +kernel
theorem dX1_stepCost_22 : decode cX1_stepCost 22 = .ok (.isub, 1) := by decide +kernel
theorem dX1_stepCost_23 : decode cX1_stepCost 23 = .ok (.istore 4, 2) := by decide +kernel
theorem dX1_stepCost_25 : decode cX1_stepCost 25 = .ok (.aload_n 0, 1) := by decide +kernel
theorem dX1_stepCost_26 : decode cX1_stepCost 26 = .ok (.getfield 23, 3) := by decide +kernel
theorem dX1_stepCost_29 : decode cX1_stepCost 29 = .ok (.iconst 0, 1) := by decide +kernel
theorem dX1_stepCost_30 : decode cX1_stepCost 30 = .ok (.iaload, 1) := by decide +kernel
theorem dX1_stepCost_31 : decode cX1_stepCost 31 = .ok (.aload_n 0, 1) := by decide +kernel
theorem dX1_stepCost_32 : decode cX1_stepCost 32 = .ok (.getfield 14, 3) := by decide +kernel
theorem dX1_stepCost_35 : decode cX1_stepCost 35 = .ok (.getfield 88, 3) := by decide +kernel
theorem dX1_stepCost_38 : decode cX1_stepCost 38 = .ok (.iload_n 2, 1) := by decide +kernel
theorem dX1_stepCost_39 : decode cX1_stepCost 39 = .ok (.iaload, 1) := by decide +kernel
theorem dX1_stepCost_40 : decode cX1_stepCost 40 = .ok (.aload_n 0, 1) := by decide +kernel
theorem dX1_stepCost_41 : decode cX1_stepCost 41 = .ok (.getfield 20, 3) := by decide +kernel
theorem dX1_stepCost_44 : decode cX1_stepCost 44 = .ok (.getfield 88, 3) := by decide +kernel
theorem dX1_stepCost_47 : decode cX1_stepCost 47 = .ok (.iload 4, 2) := by decide +kernel
theorem dX1_stepCost_49 : decode cX1_stepCost 49 = .ok (.iaload, 1) := by decide +kernel
theorem dX1_stepCost_50 : decode cX1_stepCost 50 = .ok (.isub, 1) := by decide +kernel
theorem dX1_stepCost_51 : decode cX1_stepCost 51 = .ok (.invokestatic 136, 3) := by decide +kernel
theorem dX1_stepCost_54 : decode cX1_stepCost 54 = .ok (.imul, 1) := by decide +kernel
theorem dX1_stepCost_55 : decode cX1_stepCost 55 = .ok (.istore 5, 2) := by decide +kernel
theorem dX1_stepCost_57 : decode cX1_stepCost 57 = .ok (.iload_n 1, 1) := by decide +kernel
theorem dX1_stepCost_58 : decode cX1_stepCost 58 = .ok (.iconst 2, 1) := by decide +kernel
theorem dX1_stepCost_59 : decode cX1_stepCost 59 = .ok (.if_icmp .ne 13, 3) := by decide +kernel
theorem dX1_stepCost_62 : decode cX1_stepCost 62 = .ok (.aload_n 0, 1) := by decide +kernel
theorem dX1_stepCost_63 : decode cX1_stepCost 63 = .ok (.getfield 23, 3) := by decide +kernel
theorem dX1_stepCost_66 : decode cX1_stepCost 66 = .ok (.iconst 2, 1) := by decide +kernel
theorem dX1_stepCost_67 : decode cX1_stepCost 67 = .ok (.iaload, 1) := by decide +kernel
theorem dX1_stepCost_68 : decode cX1_stepCost 68 = .ok (.iload 5, 2) := by decide +kernel
theorem dX1_stepCost_70 : decode cX1_stepCost 70 = .ok (.iadd, 1) := by decide +kernel
theorem dX1_stepCost_71 : decode cX1_stepCost 71 = .ok (.ireturn, 1) := by decide +kernel
theorem dX1_stepCost_72 : decode cX1_stepCost 72 = .ok (.aload_n 0, 1) := by decide +kernel
theorem dX1_stepCost_73 : decode cX1_stepCost 73 = .ok (.getfield 14, 3) := by decide +kernel
theorem dX1_stepCost_76 : decode cX1_stepCost 76 = .ok (.getfield 141, 3) := by decide +kernel
theorem dX1_stepCost_79 : decode cX1_stepCost 79 = .ok (.iload_n 2, 1) := by decide +kernel
theorem dX1_stepCost_80 : decode cX1_stepCost 80 = .ok (.iaload, 1) := by decide +kernel
theorem dX1_stepCost_81 : decode cX1_stepCost 81 = .ok (.iconst 1, 1) := by decide +kernel
theorem dX1_stepCost_82 : decode cX1_stepCost 82 = .ok (.if_icmp .ne 21, 3) := by decide +kernel
theorem dX1_stepCost_85 : decode cX1_stepCost 85 = .ok (.aload_n 0, 1) := by decide +kernel
theorem dX1_stepCost_86 : decode cX1_stepCost 86 = .ok (.getfield 20, 3) := by decide +kernel
theorem dX1_stepCost_89 : decode cX1_stepCost 89 = .ok (.getfield 141, 3) := by decide +kernel
theorem dX1_stepCost_92 : decode cX1_stepCost 92 = .ok (.iload 4, 2) := by decide +kernel
theorem dX1_stepCost_94 : decode cX1_stepCost 94 = .ok (.iaload, 1) := by decide +kernel
theorem dX1_stepCost_95 : decode cX1_stepCost 95 = .ok (.iconst 1, 1) := by decide +kernel
theorem dX1_stepCost_96 : decode cX1_stepCost 96 = .ok (.if_icmp .ne 7, 3) := by decide +kernel
theorem dX1_stepCost_99 : decode cX1_stepCost 99 = .ok (.iconst 1, 1) := by decide +kernel
theorem dX1_stepCost_100 : decode cX1_stepCost 100 = .ok (.goto 4, 3) := by decide +kernel
theorem dX1_stepCost_103 : decode cX1_stepCost 103 = .ok (.iconst 0, 1) := by decide +kernel
theorem dX1_stepCost_104 : decode cX1_stepCost 104 = .ok (.istore 6, 2) := by decide +kernel
theorem dX1_stepCost_106 : decode cX1_stepCost 106 = .ok (.iload 6, 2) := by decide +kernel
theorem dX1_stepCost_108 : decode cX1_stepCost 108 = .ok (.ifCond .eq 15, 3) := by decide +kernel
theorem dX1_stepCost_111 : decode cX1_stepCost 111 = .ok (.aload_n 0, 1) := by decide +kernel
theorem dX1_stepCost_112 : decode cX1_stepCost 112 = .ok (.getfield 23, 3) := by decide +kernel
theorem dX1_stepCost_115 : decode cX1_stepCost 115 = .ok (.iconst 3, 1) := by decide +kernel
theorem dX1_stepCost_116 : decode cX1_stepCost 116 = .ok (.iaload, 1) := by decide +kernel
theorem dX1_stepCost_117 : decode cX1_stepCost 117 = .ok (.iload 5, 2) := by decide +kernel
theorem dX1_stepCost_119 : decode cX1_stepCost 119 = .ok (.iadd, 1) := by decide +kernel
theorem dX1_stepCost_120 : decode cX1_stepCost 120 = .ok (.goto 5, 3) := by decide +kernel
theorem dX1_stepCost_123 : decode cX1_stepCost 123 = .ok (.iload 5, 2) := by decide +kernel
theorem dX1_stepCost_125 : decode cX1_stepCost 125 = .ok (.ireturn, 1) := by decide +kernel
theorem dX1_weigh_0 : decode cX1_weigh 0 = .ok (.aload_n 0, 1) := by decide +kernel
theorem dX1_weigh_1 : decode cX1_weigh 1 = .ok (.getfield 14, 3) := by decide +kernel
theorem dX1_weigh_4 : decode cX1_weigh 4 = .ok (.getfield 77, 3) := by decide +kernel
theorem dX1_weigh_7 : decode cX1_weigh 7 = .ok (.istore_n 1, 1) := by decide +kernel
theorem dX1_weigh_8 : decode cX1_weigh 8 = .ok (.iload_n 1, 1) := by decide +kernel
theorem dX1_weigh_9 : decode cX1_weigh 9 = .ok (.iconst 1, 1) := by decide +kernel
theorem dX1_weigh_10 : decode cX1_weigh 10 = .ok (.if_icmp .lt 42, 3) := by decide +kernel
theorem dX1_weigh_13 : decode cX1_weigh 13 = .ok (.aload_n 0, 1) := by decide +kernel
theorem dX1_weigh_14 : decode cX1_weigh 14 = .ok (.getfield 20, 3) := by decide +kernel
theorem dX1_weigh_17 : decode cX1_weigh 17 = .ok (.getfield 77, 3) := by decide +kernel
theorem dX1_weigh_20 : decode cX1_weigh 20 = .ok (.istore_n 2, 1) := by decide +kernel
theorem dX1_weigh_21 : decode cX1_weigh 21 = .ok (.iload_n 2, 1) := by decide +kernel
theorem dX1_weigh_22 : decode cX1_weigh 22 = .ok (.iconst 1, 1) := by decide +kernel
theorem dX1_weigh_23 : decode cX1_weigh 23 = .ok (.if_icmp .lt 23, 3) := by decide +kernel
theorem dX1_weigh_26 : decode cX1_weigh 26 = .ok (.aload_n 0, 1) := by decide +kernel
theorem dX1_weigh_27 : decode cX1_weigh 27 = .ok (.getfield 29, 3) := by decide +kernel
theorem dX1_weigh_30 : decode cX1_weigh 30 = .ok (.iload_n 1, 1) := by decide +kernel
theorem dX1_weigh_31 : decode cX1_weigh 31 = .ok (.aaload, 1) := by decide +kernel
theorem dX1_weigh_32 : decode cX1_weigh 32 = .ok (.iload_n 2, 1) := by decide +kernel
theorem dX1_weigh_33 : decode cX1_weigh 33 = .ok (.aload_n 0, 1) := by decide +kernel
theorem dX1_weigh_34 : decode cX1_weigh 34 = .ok (.iload_n 1, 1) := by decide +kernel
theorem dX1_weigh_35 : decode cX1_weigh 35 = .ok (.iload_n 2, 1) := by decide +kernel
theorem dX1_weigh_36 : decode cX1_weigh 36 = .ok (.invokevirtual 144, 3) := by decide +kernel
theorem dX1_weigh_39 : decode cX1_weigh 39 = .ok (.iastore, 1) := by decide +kernel
theorem dX1_weigh_40 : decode cX1_weigh 40 = .ok (.iinc 2 (-1), 3) := by decide +kernel
theorem dX1_weigh_43 : decode cX1_weigh 43 = .ok (.goto (-22), 3) := by decide +kernel
theorem dX1_weigh_46 : decode cX1_weigh 46 = .ok (.iinc 1 (-1), 3) := by decide +kernel
theorem dX1_weigh_49 : decode cX1_weigh 49 = .ok (.goto (-41), 3) := by decide +kernel
theorem dX1_weigh_52 : decode cX1_weigh 52 = .ok (.aload_n 0, 1) := by decide +kernel
theorem dX1_weigh_53 : decode cX1_weigh 53 = .ok (.getfield 29, 3) := by decide +kernel
theorem dX1_weigh_56 : decode cX1_weigh 56 = .ok (.iconst 0, 1) := by decide +kernel
theorem dX1_weigh_57 : decode cX1_weigh 57 = .ok (.aaload, 1) := by decide +kernel
theorem dX1_weigh_58 : decode cX1_weigh 58 = .ok (.iconst 0, 1) := by decide +kernel
theorem dX1_weigh_59 : decode cX1_weigh 59 = .ok (.aload_n 0, 1) := by decide +kernel
theorem dX1_weigh_60 : decode cX1_weigh 60 = .ok (.iconst 0, 1) := by decide +kernel
theorem dX1_weigh_61 : decode cX1_weigh 61 = .ok (.iconst 0, 1) := by decide +kernel
theorem dX1_weigh_62 : decode cX1_weigh 62 = .ok (.invokevirtual 144, 3) := by decide +kernel
theorem dX1_weigh_65 : decode cX1_weigh 65 = .ok (.iastore, 1) := by decide +kernel
theorem dX1_weigh_66 : decode cX1_weigh 66 = .ok (.return_, 1) := by decide +kernel
theorem dX1_leastAt_0 : decode cX1_leastAt 0 = .ok (.aload_n 0, 1) := by decide +kernel
theorem dX1_leastAt_1 : decode cX1_leastAt 1 = .ok (.iload_n 1, 1) := by decide +kernel
theorem dX1_leastAt_2 : decode cX1_leastAt 2 = .ok (.iload_n 2, 1) := by decide +kernel
theorem dX1_leastAt_3 : decode cX1_leastAt 3 = .ok (.invokevirtual 111, 3) := by decide +kernel
theorem dX1_leastAt_6 : decode cX1_leastAt 6 = .ok (.ifCond .eq 7, 3) := by decide +kernel
theorem dX1_leastAt_9 : decode cX1_leastAt 9 = .ok (.iconst 0, 1) := by decide +kernel
theorem dX1_leastAt_10 : decode cX1_leastAt 10 = .ok (.goto 5, 3) := by decide +kernel
theorem dX1_leastAt_13 : decode cX1_leastAt 13 = .ok (.bipush (-6), 2) := by decide +kernel
theorem dX1_leastAt_15 : decode cX1_leastAt 15 = .ok (.istore_n 3, 1) := by decide +kernel
theorem dX1_leastAt_16 : decode cX1_leastAt 16 = .ok (.iconst 0, 1) := by decide +kernel
theorem dX1_leastAt_17 : decode cX1_leastAt 17 = .ok (.istore 4, 2) := by decide +kernel
theorem dX1_leastAt_19 : decode cX1_leastAt 19 = .ok (.iload 4, 2) := by decide +kernel
theorem dX1_leastAt_21 : decode cX1_leastAt 21 = .ok (.iconst 3, 1) := by decide +kernel
theorem dX1_leastAt_22 : decode cX1_leastAt 22 = .ok (.if_icmp .ge 73, 3) := by decide +kernel
theorem dX1_leastAt_25 : decode cX1_leastAt 25 = .ok (.aload_n 0, 1) := by decide +kernel
theorem dX1_leastAt_26 : decode cX1_leastAt 26 = .ok (.iload 4, 2) := by decide +kernel
theorem dX1_leastAt_28 : decode cX1_leastAt 28 = .ok (.iload_n 1, 1) := by decide +kernel
theorem dX1_leastAt_29 : decode cX1_leastAt 29 = .ok (.iload_n 2, 1) := by decide +kernel
theorem dX1_leastAt_30 : decode cX1_leastAt 30 = .ok (.invokevirtual 98, 3) := by decide +kernel
theorem dX1_leastAt_33 : decode cX1_leastAt 33 = .ok (.ifCond .eq 56, 3) := by decide +kernel
theorem dX1_leastAt_36 : decode cX1_leastAt 36 = .ok (.aload_n 0, 1) := by decide +kernel
theorem dX1_leastAt_37 : decode cX1_leastAt 37 = .ok (.getfield 29, 3) := by decide +kernel
theorem dX1_leastAt_40 : decode cX1_leastAt 40 = .ok (.iload_n 1, 1) := by decide +kernel
theorem dX1_leastAt_41 : decode cX1_leastAt 41 = .ok (.getstatic 105, 3) := by decide +kernel
theorem dX1_leastAt_44 : decode cX1_leastAt 44 = .ok (.iload 4, 2) := by decide +kernel
theorem dX1_leastAt_46 : decode cX1_leastAt 46 = .ok (.iaload, 1) := by decide +kernel
theorem dX1_leastAt_47 : decode cX1_leastAt 47 = .ok (.iadd, 1) := by decide +kernel
theorem dX1_leastAt_48 : decode cX1_leastAt 48 = .ok (.aaload, 1) := by decide +kernel
theorem dX1_leastAt_49 : decode cX1_leastAt 49 = .ok (.iload_n 2, 1) := by decide +kernel
theorem dX1_leastAt_50 : decode cX1_leastAt 50 = .ok (.getstatic 108, 3) := by decide +kernel
theorem dX1_leastAt_53 : decode cX1_leastAt 53 = .ok (.iload 4, 2) := by decide +kernel
theorem dX1_leastAt_55 : decode cX1_leastAt 55 = .ok (.iaload, 1) := by decide +kernel
theorem dX1_leastAt_56 : decode cX1_leastAt 56 = .ok (.iadd, 1) := by decide +kernel
theorem dX1_leastAt_57 : decode cX1_leastAt 57 = .ok (.iaload, 1) := by decide +kernel
theorem dX1_leastAt_58 : decode cX1_leastAt 58 = .ok (.istore 5, 2) := by decide +kernel
theorem dX1_leastAt_60 : decode cX1_leastAt 60 = .ok (.aload_n 0, 1) := by decide +kernel
theorem dX1_leastAt_61 : decode cX1_leastAt 61 = .ok (.iload 4, 2) := by decide +kernel
theorem dX1_leastAt_63 : decode cX1_leastAt 63 = .ok (.iload_n 1, 1) := by decide +kernel
theorem dX1_leastAt_64 : decode cX1_leastAt 64 = .ok (.iload_n 2, 1) := by decide +kernel
theorem dX1_leastAt_65 : decode cX1_leastAt 65 = .ok (.invokevirtual 101, 3) := by decide +kernel
theorem dX1_leastAt_68 : decode cX1_leastAt 68 = .ok (.iload 5, 2) := by decide +kernel
theorem dX1_leastAt_70 : decode cX1_leastAt 70 = .ok (.iadd, 1) := by decide +kernel
theorem dX1_leastAt_71 : decode cX1_leastAt 71 = .ok (.istore 6, 2) := by decide +kernel
theorem dX1_leastAt_73 : decode cX1_leastAt 73 = .ok (.iload 6, 2) := by decide +kernel
theorem dX1_leastAt_75 : decode cX1_leastAt 75 = .ok (.iload_n 3, 1) := by decide +kernel
theorem dX1_leastAt_76 : decode cX1_leastAt 76 = .ok (.invokestatic 148, 3) := by decide +kernel
theorem dX1_leastAt_79 : decode cX1_leastAt 79 = .ok (.ifCond .eq 8, 3) := by decide +kernel
theorem dX1_leastAt_82 : decode cX1_leastAt 82 = .ok (.iload 6, 2) := by decide +kernel
theorem dX1_leastAt_84 : decode cX1_leastAt 84 = .ok (.goto 4, 3) := by decide +kernel
theorem dX1_leastAt_87 : decode cX1_leastAt 87 = .ok (.iload_n 3, 1) := by decide +kernel
theorem dX1_leastAt_88 : decode cX1_leastAt 88 = .ok (.istore_n 3, 1) := by decide +kernel
theorem dX1_leastAt_89 : decode cX1_leastAt 89 = .ok (.iinc 4 1, 3) := by decide +kernel
theorem dX1_leastAt_92 : decode cX1_leastAt 92 = .ok (.goto (-73), 3) := by decide +kernel
theorem dX1_leastAt_95 : decode cX1_leastAt 95 = .ok (.iload_n 3, 1) := by decide +kernel
theorem dX1_leastAt_96 : decode cX1_leastAt 96 = .ok (.ireturn, 1) := by decide +kernel
theorem dX1_tally_0 : decode cX1_tally 0 = .ok (.aload_n 0, 1) := by decide +kernel
theorem dX1_tally_1 : decode cX1_tally 1 = .ok (.getfield 14, 3) := by decide +kernel
theorem dX1_tally_4 : decode cX1_tally 4 = .ok (.getfield 77, 3) := by decide +kernel
theorem dX1_tally_7 : decode cX1_tally 7 = .ok (.istore_n 1, 1) := by decide +kernel
theorem dX1_tally_8 : decode cX1_tally 8 = .ok (.iload_n 1, 1) := by decide +kernel
theorem dX1_tally_9 : decode cX1_tally 9 = .ok (.iconst 1, 1) := by decide +kernel
theorem dX1_tally_10 : decode cX1_tally 10 = .ok (.if_icmp .lt 34, 3) := by decide +kernel
theorem dX1_tally_13 : decode cX1_tally 13 = .ok (.aload_n 0, 1) := by decide +kernel
theorem dX1_tally_14 : decode cX1_tally 14 = .ok (.getfield 20, 3) := by decide +kernel
theorem dX1_tally_17 : decode cX1_tally 17 = .ok (.getfield 77, 3) := by decide +kernel
theorem dX1_tally_20 : decode cX1_tally 20 = .ok (.istore_n 2, 1) := by decide +kernel
theorem dX1_tally_21 : decode cX1_tally 21 = .ok (.iload_n 2, 1) := by decide +kernel
theorem dX1_tally_22 : decode cX1_tally 22 = .ok (.iconst 1, 1) := by decide +kernel
theorem dX1_tally_23 : decode cX1_tally 23 = .ok (.if_icmp .lt 15, 3) := by decide +kernel
theorem dX1_tally_26 : decode cX1_tally 26 = .ok (.aload_n 0, 1) := by decide +kernel
theorem dX1_tally_27 : decode cX1_tally 27 = .ok (.iload_n 1, 1) := by decide +kernel
theorem dX1_tally_28 : decode cX1_tally 28 = .ok (.iload_n 2, 1) := by decide +kernel
theorem dX1_tally_29 : decode cX1_tally 29 = .ok (.invokevirtual 151, 3) := by decide +kernel
theorem dX1_tally_32 : decode cX1_tally 32 = .ok (.iinc 2 (-1), 3) := by decide +kernel
theorem dX1_tally_35 : decode cX1_tally 35 = .ok (.goto (-14), 3) := by decide +kernel
theorem dX1_tally_38 : decode cX1_tally 38 = .ok (.iinc 1 (-1), 3) := by decide +kernel
theorem dX1_tally_41 : decode cX1_tally 41 = .ok (.goto (-33), 3) := by decide +kernel
theorem dX1_tally_44 : decode cX1_tally 44 = .ok (.aload_n 0, 1) := by decide +kernel
theorem dX1_tally_45 : decode cX1_tally 45 = .ok (.iconst 0, 1) := by decide +kernel
theorem dX1_tally_46 : decode cX1_tally 46 = .ok (.iconst 0, 1) := by decide +kernel
theorem dX1_tally_47 : decode cX1_tally 47 = .ok (.invokevirtual 151, 3) := by decide +kernel
theorem dX1_tally_50 : decode cX1_tally 50 = .ok (.return_, 1) := by decide +kernel
theorem dX1_tallyPlace_0 : decode cX1_tallyPlace 0 = .ok (.iconst 0, 1) := by decide +kernel
theorem dX1_tallyPlace_1 : decode cX1_tallyPlace 1 = .ok (.istore_n 3, 1) := by decide +kernel
theorem dX1_tallyPlace_2 : decode cX1_tallyPlace 2 = .ok (.aload_n 0, 1) := by decide +kernel
theorem dX1_tallyPlace_3 : decode cX1_tallyPlace 3 = .ok (.iload_n 1, 1) := by decide +kernel
theorem dX1_tallyPlace_4 : decode cX1_tallyPlace 4 = .ok (.iload_n 2, 1) := by decide +kernel
theorem dX1_tallyPlace_5 : decode cX1_tallyPlace 5 = .ok (.invokevirtual 111, 3) := by decide +kernel
theorem dX1_tallyPlace_8 : decode cX1_tallyPlace 8 = .ok (.ifCond .eq 7, 3) := by decide +kernel
theorem dX1_tallyPlace_11 : decode cX1_tallyPlace 11 = .ok (.iconst 1, 1) := by decide +kernel
theorem dX1_tallyPlace_12 : decode cX1_tallyPlace 12 = .ok (.goto 4, 3) := by decide +kernel
theorem dX1_tallyPlace_15 : decode cX1_tallyPlace 15 = .ok (.iconst 0, 1) := by decide +kernel
theorem dX1_tallyPlace_16 : decode cX1_tallyPlace 16 = .ok (.istore 4, 2) := by decide +kernel
theorem dX1_tallyPlace_18 : decode cX1_tallyPlace 18 = .ok (.iload 4, 2) := by decide +kernel
theorem dX1_tallyPlace_20 : decode cX1_tallyPlace 20 = .ok (.istore 5, 2) := by decide +kernel
theorem dX1_tallyPlace_22 : decode cX1_tallyPlace 22 = .ok (.iconst 0, 1) := by decide +kernel
theorem dX1_tallyPlace_23 : decode cX1_tallyPlace 23 = .ok (.istore 6, 2) := by decide +kernel
theorem dX1_tallyPlace_25 : decode cX1_tallyPlace 25 = .ok (.iload 6, 2) := by decide +kernel
theorem dX1_tallyPlace_27 : decode cX1_tallyPlace 27 = .ok (.iconst 3, 1) := by decide +kernel
theorem dX1_tallyPlace_28 : decode cX1_tallyPlace 28 = .ok (.if_icmp .ge 122, 3) := by decide +kernel
theorem dX1_tallyPlace_31 : decode cX1_tallyPlace 31 = .ok (.aload_n 0, 1) := by decide +kernel
theorem dX1_tallyPlace_32 : decode cX1_tallyPlace 32 = .ok (.iload 6, 2) := by decide +kernel
theorem dX1_tallyPlace_34 : decode cX1_tallyPlace 34 = .ok (.iload_n 1, 1) := by decide +kernel
theorem dX1_tallyPlace_35 : decode cX1_tallyPlace 35 = .ok (.iload_n 2, 1) := by decide +kernel
theorem dX1_tallyPlace_36 : decode cX1_tallyPlace 36 = .ok (.invokevirtual 98, 3) := by decide +kernel
theorem dX1_tallyPlace_39 : decode cX1_tallyPlace 39 = .ok (.ifCond .eq 105, 3) := by decide +kernel
theorem dX1_tallyPlace_42 : decode cX1_tallyPlace 42 = .ok (.iload_n 1, 1) := by decide +kernel
theorem dX1_tallyPlace_43 : decode cX1_tallyPlace 43 = .ok (.getstatic 105, 3) := by decide +kernel
theorem dX1_tallyPlace_46 : decode cX1_tallyPlace 46 = .ok (.iload 6, 2) := by decide +kernel
theorem dX1_tallyPlace_48 : decode cX1_tallyPlace 48 = .ok (.iaload, 1) := by decide +kernel
theorem dX1_tallyPlace_49 : decode cX1_tallyPlace 49 = .ok (.iadd, 1) := by decide +kernel
theorem dX1_tallyPlace_50 : decode cX1_tallyPlace 50 = .ok (.istore 7, 2) := by decide +kernel
theorem dX1_tallyPlace_52 : decode cX1_tallyPlace 52 = .ok (.iload_n 2, 1) := by decide +kernel
theorem dX1_tallyPlace_53 : decode cX1_tallyPlace 53 = .ok (.getstatic 108, 3) := by decide +kernel
theorem dX1_tallyPlace_56 : decode cX1_tallyPlace 56 = .ok (.iload 6, 2) := by decide +kernel
theorem dX1_tallyPlace_58 : decode cX1_tallyPlace 58 = .ok (.iaload, 1) := by decide +kernel
theorem dX1_tallyPlace_59 : decode cX1_tallyPlace 59 = .ok (.iadd, 1) := by decide +kernel
theorem dX1_tallyPlace_60 : decode cX1_tallyPlace 60 = .ok (.istore 8, 2) := by decide +kernel
theorem dX1_tallyPlace_62 : decode cX1_tallyPlace 62 = .ok (.aload_n 0, 1) := by decide +kernel
theorem dX1_tallyPlace_63 : decode cX1_tallyPlace 63 = .ok (.iload 6, 2) := by decide +kernel
theorem dX1_tallyPlace_65 : decode cX1_tallyPlace 65 = .ok (.iload_n 1, 1) := by decide +kernel
theorem dX1_tallyPlace_66 : decode cX1_tallyPlace 66 = .ok (.iload_n 2, 1) := by decide +kernel
theorem dX1_tallyPlace_67 : decode cX1_tallyPlace 67 = .ok (.invokevirtual 101, 3) := by decide +kernel
theorem dX1_tallyPlace_70 : decode cX1_tallyPlace 70 = .ok (.istore 9, 2) := by decide +kernel
theorem dX1_tallyPlace_72 : decode cX1_tallyPlace 72 = .ok (.iload_n 3, 1) := by decide +kernel
theorem dX1_tallyPlace_73 : decode cX1_tallyPlace 73 = .ok (.iload 9, 2) := by decide +kernel
theorem dX1_tallyPlace_75 : decode cX1_tallyPlace 75 = .ok (.aload_n 0, 1) := by decide +kernel
theorem dX1_tallyPlace_76 : decode cX1_tallyPlace 76 = .ok (.getfield 32, 3) := by decide +kernel
theorem dX1_tallyPlace_79 : decode cX1_tallyPlace 79 = .ok (.iload 7, 2) := by decide +kernel
theorem dX1_tallyPlace_81 : decode cX1_tallyPlace 81 = .ok (.aaload, 1) := by decide +kernel
theorem dX1_tallyPlace_82 : decode cX1_tallyPlace 82 = .ok (.iload 8, 2) := by decide +kernel
theorem dX1_tallyPlace_84 : decode cX1_tallyPlace 84 = .ok (.iaload, 1) := by decide +kernel
theorem dX1_tallyPlace_85 : decode cX1_tallyPlace 85 = .ok (.iadd, 1) := by decide +kernel
theorem dX1_tallyPlace_86 : decode cX1_tallyPlace 86 = .ok (.invokestatic 155, 3) := by decide +kernel
theorem dX1_tallyPlace_89 : decode cX1_tallyPlace 89 = .ok (.istore_n 3, 1) := by decide +kernel
theorem dX1_tallyPlace_90 : decode cX1_tallyPlace 90 = .ok (.iload 4, 2) := by decide +kernel
theorem dX1_tallyPlace_92 : decode cX1_tallyPlace 92 = .ok (.aload_n 0, 1) := by decide +kernel
theorem dX1_tallyPlace_93 : decode cX1_tallyPlace 93 = .ok (.getfield 35, 3) := by decide +kernel
theorem dX1_tallyPlace_96 : decode cX1_tallyPlace 96 = .ok (.iload 7, 2) := by decide +kernel
theorem dX1_tallyPlace_98 : decode cX1_tallyPlace 98 = .ok (.aaload, 1) := by decide +kernel
theorem dX1_tallyPlace_99 : decode cX1_tallyPlace 99 = .ok (.iload 8, 2) := by decide +kernel
theorem dX1_tallyPlace_101 : decode cX1_tallyPlace 101 = .ok (.iaload, 1) := by decide +kernel
theorem dX1_tallyPlace_102 : decode cX1_tallyPlace 102 = .ok (.iadd, 1) := by decide +kernel
theorem dX1_tallyPlace_103 : decode cX1_tallyPlace 103 = .ok (.istore 4, 2) := by decide +kernel
theorem dX1_tallyPlace_105 : decode cX1_tallyPlace 105 = .ok (.iload 9, 2) := by decide +kernel
theorem dX1_tallyPlace_107 : decode cX1_tallyPlace 107 = .ok (.aload_n 0, 1) := by decide +kernel
theorem dX1_tallyPlace_108 : decode cX1_tallyPlace 108 = .ok (.getfield 29, 3) := by decide +kernel
theorem dX1_tallyPlace_111 : decode cX1_tallyPlace 111 = .ok (.iload 7, 2) := by decide +kernel
theorem dX1_tallyPlace_113 : decode cX1_tallyPlace 113 = .ok (.aaload, 1) := by decide +kernel
theorem dX1_tallyPlace_114 : decode cX1_tallyPlace 114 = .ok (.iload 8, 2) := by decide +kernel
theorem dX1_tallyPlace_116 : decode cX1_tallyPlace 116 = .ok (.iaload, 1) := by decide +kernel
theorem dX1_tallyPlace_117 : decode cX1_tallyPlace 117 = .ok (.iadd, 1) := by decide +kernel
theorem dX1_tallyPlace_118 : decode cX1_tallyPlace 118 = .ok (.aload_n 0, 1) := by decide +kernel
theorem dX1_tallyPlace_119 : decode cX1_tallyPlace 119 = .ok (.getfield 29, 3) := by decide +kernel
theorem dX1_tallyPlace_122 : decode cX1_tallyPlace 122 = .ok (.iload_n 1, 1) := by decide +kernel
theorem dX1_tallyPlace_123 : decode cX1_tallyPlace 123 = .ok (.aaload, 1) := by decide +kernel
theorem dX1_tallyPlace_124 : decode cX1_tallyPlace 124 = .ok (.iload_n 2, 1) := by decide +kernel
theorem dX1_tallyPlace_125 : decode cX1_tallyPlace 125 = .ok (.iaload, 1) := by decide +kernel
theorem dX1_tallyPlace_126 : decode cX1_tallyPlace 126 = .ok (.if_icmp .ne 18, 3) := by decide +kernel
theorem dX1_tallyPlace_129 : decode cX1_tallyPlace 129 = .ok (.iload 5, 2) := by decide +kernel
theorem dX1_tallyPlace_131 : decode cX1_tallyPlace 131 = .ok (.aload_n 0, 1) := by decide +kernel
theorem dX1_tallyPlace_132 : decode cX1_tallyPlace 132 = .ok (.getfield 38, 3) := by decide +kernel
theorem dX1_tallyPlace_135 : decode cX1_tallyPlace 135 = .ok (.iload 7, 2) := by decide +kernel
theorem dX1_tallyPlace_137 : decode cX1_tallyPlace 137 = .ok (.aaload, 1) := by decide +kernel
theorem dX1_tallyPlace_138 : decode cX1_tallyPlace 138 = .ok (.iload 8, 2) := by decide +kernel
theorem dX1_tallyPlace_140 : decode cX1_tallyPlace 140 = .ok (.iaload, 1) := by decide +kernel
theorem dX1_tallyPlace_141 : decode cX1_tallyPlace 141 = .ok (.iadd, 1) := by decide +kernel
theorem dX1_tallyPlace_142 : decode cX1_tallyPlace 142 = .ok (.istore 5, 2) := by decide +kernel
theorem dX1_tallyPlace_144 : decode cX1_tallyPlace 144 = .ok (.iinc 6 1, 3) := by decide +kernel
theorem dX1_tallyPlace_147 : decode cX1_tallyPlace 147 = .ok (.goto (-122), 3) := by decide +kernel
theorem dX1_tallyPlace_150 : decode cX1_tallyPlace 150 = .ok (.aload_n 0, 1) := by decide +kernel
theorem dX1_tallyPlace_151 : decode cX1_tallyPlace 151 = .ok (.getfield 32, 3) := by decide +kernel
theorem dX1_tallyPlace_154 : decode cX1_tallyPlace 154 = .ok (.iload_n 1, 1) := by decide +kernel
theorem dX1_tallyPlace_155 : decode cX1_tallyPlace 155 = .ok (.aaload, 1) := by decide +kernel
theorem dX1_tallyPlace_156 : decode cX1_tallyPlace 156 = .ok (.iload_n 2, 1) := by decide +kernel
theorem dX1_tallyPlace_157 : decode cX1_tallyPlace 157 = .ok (.iload_n 3, 1) := by decide +kernel
theorem dX1_tallyPlace_158 : decode cX1_tallyPlace 158 = .ok (.iastore, 1) := by decide +kernel
theorem dX1_tallyPlace_159 : decode cX1_tallyPlace 159 = .ok (.aload_n 0, 1) := by decide +kernel
theorem dX1_tallyPlace_160 : decode cX1_tallyPlace 160 = .ok (.getfield 35, 3) := by decide +kernel
theorem dX1_tallyPlace_163 : decode cX1_tallyPlace 163 = .ok (.iload_n 1, 1) := by decide +kernel
theorem dX1_tallyPlace_164 : decode cX1_tallyPlace 164 = .ok (.aaload, 1) := by decide +kernel
theorem dX1_tallyPlace_165 : decode cX1_tallyPlace 165 = .ok (.iload_n 2, 1) := by decide +kernel
theorem dX1_tallyPlace_166 : decode cX1_tallyPlace 166 = .ok (.iload 4, 2) := by decide +kernel
theorem dX1_tallyPlace_168 : decode cX1_tallyPlace 168 = .ok (.iastore, 1) := by decide +kernel
theorem dX1_tallyPlace_169 : decode cX1_tallyPlace 169 = .ok (.aload_n 0, 1) := by decide +kernel
theorem dX1_tallyPlace_170 : decode cX1_tallyPlace 170 = .ok (.getfield 38, 3) := by decide +kernel
theorem dX1_tallyPlace_173 : decode cX1_tallyPlace 173 = .ok (.iload_n 1, 1) := by decide +kernel
theorem dX1_tallyPlace_174 : decode cX1_tallyPlace 174 = .ok (.aaload, 1) := by decide +kernel
theorem dX1_tallyPlace_175 : decode cX1_tallyPlace 175 = .ok (.iload_n 2, 1) := by decide +kernel
theorem dX1_tallyPlace_176 : decode cX1_tallyPlace 176 = .ok (.iload 5, 2) := by decide +kernel
theorem dX1_tallyPlace_178 : decode cX1_tallyPlace 178 = .ok (.iastore, 1) := by decide +kernel
theorem dX1_tallyPlace_179 : decode cX1_tallyPlace 179 = .ok (.return_, 1) := by decide +kernel
theorem dX1_trace_0 : decode cX1_trace 0 = .ok (.iconst 0, 1) := by decide +kernel
theorem dX1_trace_1 : decode cX1_trace 1 = .ok (.istore_n 1, 1) := by decide +kernel
theorem dX1_trace_2 : decode cX1_trace 2 = .ok (.iload_n 1, 1) := by decide +kernel
theorem dX1_trace_3 : decode cX1_trace 3 = .ok (.bipush 11, 2) := by decide +kernel
theorem dX1_trace_5 : decode cX1_trace 5 = .ok (.if_icmp .ge 24, 3) := by decide +kernel
theorem dX1_trace_8 : decode cX1_trace 8 = .ok (.aload_n 0, 1) := by decide +kernel
theorem dX1_trace_9 : decode cX1_trace 9 = .ok (.getfield 48, 3) := by decide +kernel
theorem dX1_trace_12 : decode cX1_trace 12 = .ok (.iload_n 1, 1) := by decide +kernel
theorem dX1_trace_13 : decode cX1_trace 13 = .ok (.bipush (-6), 2) := by decide +kernel
theorem dX1_trace_15 : decode cX1_trace 15 = .ok (.iastore, 1) := by decide +kernel
theorem dX1_trace_16 : decode cX1_trace 16 = .ok (.aload_n 0, 1) := by decide +kernel
theorem dX1_trace_17 : decode cX1_trace 17 = .ok (.getfield 51, 3) := by decide +kernel
theorem dX1_trace_20 : decode cX1_trace 20 = .ok (.iload_n 1, 1) := by decide +kernel
theorem dX1_trace_21 : decode cX1_trace 21 = .ok (.iconst 0, 1) := by decide +kernel
theorem dX1_trace_22 : decode cX1_trace 22 = .ok (.iastore, 1) := by decide +kernel
theorem dX1_trace_23 : decode cX1_trace 23 = .ok (.iinc 1 1, 3) := by decide +kernel
theorem dX1_trace_26 : decode cX1_trace 26 = .ok (.goto (-24), 3) := by decide +kernel
theorem dX1_trace_29 : decode cX1_trace 29 = .ok (.aload_n 0, 1) := by decide +kernel
theorem dX1_trace_30 : decode cX1_trace 30 = .ok (.iconst 0, 1) := by decide +kernel
theorem dX1_trace_31 : decode cX1_trace 31 = .ok (.putfield 44, 3) := by decide +kernel
theorem dX1_trace_34 : decode cX1_trace 34 = .ok (.iconst 0, 1) := by decide +kernel
theorem dX1_trace_35 : decode cX1_trace 35 = .ok (.istore_n 1, 1) := by decide +kernel
theorem dX1_trace_36 : decode cX1_trace 36 = .ok (.iconst 0, 1) := by decide +kernel
theorem dX1_trace_37 : decode cX1_trace 37 = .ok (.istore_n 2, 1) := by decide +kernel
theorem dX1_trace_38 : decode cX1_trace 38 = .ok (.iconst 0, 1) := by decide +kernel
theorem dX1_trace_39 : decode cX1_trace 39 = .ok (.istore_n 3, 1) := by decide +kernel
theorem dX1_trace_40 : decode cX1_trace 40 = .ok (.iload_n 3, 1) := by decide +kernel
theorem dX1_trace_41 : decode cX1_trace 41 = .ok (.bipush 20, 2) := by decide +kernel
theorem dX1_trace_43 : decode cX1_trace 43 = .ok (.if_icmp .ge 96, 3) := by decide +kernel
theorem dX1_trace_46 : decode cX1_trace 46 = .ok (.aload_n 0, 1) := by decide +kernel
theorem dX1_trace_47 : decode cX1_trace 47 = .ok (.iload_n 1, 1) := by decide +kernel
theorem dX1_trace_48 : decode cX1_trace 48 = .ok (.iload_n 2, 1) := by decide +kernel
theorem dX1_trace_49 : decode cX1_trace 49 = .ok (.invokevirtual 158, 3) := by decide +kernel
theorem dX1_trace_52 : decode cX1_trace 52 = .ok (.istore 4, 2) := by decide +kernel
theorem dX1_trace_54 : decode cX1_trace 54 = .ok (.iload 4, 2) := by decide +kernel
theorem dX1_trace_56 : decode cX1_trace 56 = .ok (.iconst (-1), 1) := by decide +kernel
theorem dX1_trace_57 : decode cX1_trace 57 = .ok (.if_icmp .ne 4, 3) := by decide +kernel
theorem dX1_trace_60 : decode cX1_trace 60 = .ok (.return_, 1) := by decide +kernel
theorem dX1_trace_61 : decode cX1_trace 61 = .ok (.iload_n 1, 1) := by decide +kernel
theorem dX1_trace_62 : decode cX1_trace 62 = .ok (.getstatic 105, 3) := by decide +kernel
theorem dX1_trace_65 : decode cX1_trace 65 = .ok (.iload 4, 2) := by decide +kernel
theorem dX1_trace_67 : decode cX1_trace 67 = .ok (.iaload, 1) := by decide +kernel
theorem dX1_trace_68 : decode cX1_trace 68 = .ok (.iadd, 1) := by decide +kernel
theorem dX1_trace_69 : decode cX1_trace 69 = .ok (.istore_n 1, 1) := by decide +kernel
theorem dX1_trace_70 : decode cX1_trace 70 = .ok (.iload_n 2, 1) := by decide +kernel
theorem dX1_trace_71 : decode cX1_trace 71 = .ok (.getstatic 108, 3) := by decide +kernel
theorem dX1_trace_74 : decode cX1_trace 74 = .ok (.iload 4, 2) := by decide +kernel
theorem dX1_trace_76 : decode cX1_trace 76 = .ok (.iaload, 1) := by decide +kernel
theorem dX1_trace_77 : decode cX1_trace 77 = .ok (.iadd, 1) := by decide +kernel
theorem dX1_trace_78 : decode cX1_trace 78 = .ok (.istore_n 2, 1) := by decide +kernel
theorem dX1_trace_79 : decode cX1_trace 79 = .ok (.aload_n 0, 1) := by decide +kernel
theorem dX1_trace_80 : decode cX1_trace 80 = .ok (.getfield 41, 3) := by decide +kernel
theorem dX1_trace_83 : decode cX1_trace 83 = .ok (.iload_n 3, 1) := by decide +kernel
theorem dX1_trace_84 : decode cX1_trace 84 = .ok (.iload 4, 2) := by decide +kernel
theorem dX1_trace_86 : decode cX1_trace 86 = .ok (.iastore, 1) := by decide +kernel
theorem dX1_trace_87 : decode cX1_trace 87 = .ok (.aload_n 0, 1) := by decide +kernel
theorem dX1_trace_88 : decode cX1_trace 88 = .ok (.dup, 1) := by decide +kernel
theorem dX1_trace_89 : decode cX1_trace 89 = .ok (.getfield 44, 3) := by decide +kernel
theorem dX1_trace_92 : decode cX1_trace 92 = .ok (.iconst 1, 1) := by decide +kernel
theorem dX1_trace_93 : decode cX1_trace 93 = .ok (.iadd, 1) := by decide +kernel
theorem dX1_trace_94 : decode cX1_trace 94 = .ok (.putfield 44, 3) := by decide +kernel
theorem dX1_trace_97 : decode cX1_trace 97 = .ok (.aload_n 0, 1) := by decide +kernel
theorem dX1_trace_98 : decode cX1_trace 98 = .ok (.getfield 48, 3) := by decide +kernel
theorem dX1_trace_101 : decode cX1_trace 101 = .ok (.iload_n 2, 1) := by decide +kernel
theorem dX1_trace_102 : decode cX1_trace 102 = .ok (.iconst 1, 1) := by decide +kernel
theorem dX1_trace_103 : decode cX1_trace 103 = .ok (.isub, 1) := by decide +kernel
theorem dX1_trace_104 : decode cX1_trace 104 = .ok (.iaload, 1) := by decide +kernel
theorem dX1_trace_105 : decode cX1_trace 105 = .ok (.bipush (-6), 2) := by decide +kernel
theorem dX1_trace_107 : decode cX1_trace 107 = .ok (.if_icmp .ne 14, 3) := by decide +kernel
theorem dX1_trace_110 : decode cX1_trace 110 = .ok (.aload_n 0, 1) := by decide +kernel
theorem dX1_trace_111 : decode cX1_trace 111 = .ok (.getfield 48, 3) := by decide +kernel
theorem dX1_trace_114 : decode cX1_trace 114 = .ok (.iload_n 2, 1) := by decide +kernel
theorem dX1_trace_115 : decode cX1_trace 115 = .ok (.iconst 1, 1) := by decide +kernel
theorem dX1_trace_116 : decode cX1_trace 116 = .ok (.isub, 1) := by decide +kernel
theorem dX1_trace_117 : decode cX1_trace 117 = .ok (.iload_n 1, 1) := by decide +kernel
theorem dX1_trace_118 : decode cX1_trace 118 = .ok (.iconst 1, 1) := by decide +kernel
theorem dX1_trace_119 : decode cX1_trace 119 = .ok (.isub, 1) := by decide +kernel
theorem dX1_trace_120 : decode cX1_trace 120 = .ok (.iastore, 1) := by decide +kernel
theorem dX1_trace_121 : decode cX1_trace 121 = .ok (.aload_n 0, 1) := by decide +kernel
theorem dX1_trace_122 : decode cX1_trace 122 = .ok (.getfield 51, 3) := by decide +kernel
theorem dX1_trace_125 : decode cX1_trace 125 = .ok (.iload_n 2, 1) := by decide +kernel
theorem dX1_trace_126 : decode cX1_trace 126 = .ok (.iconst 1, 1) := by decide +kernel
theorem dX1_trace_127 : decode cX1_trace 127 = .ok (.isub, 1) := by decide +kernel
theorem dX1_trace_128 : decode cX1_trace 128 = .ok (.dup2, 1) := by decide +kernel
theorem dX1_trace_129 : decode cX1_trace 129 = .ok (.iaload, 1) := by decide +kernel
theorem dX1_trace_130 : decode cX1_trace 130 = .ok (.iconst 1, 1) := by decide +kernel
theorem dX1_trace_131 : decode cX1_trace 131 = .ok (.iadd, 1) := by decide +kernel
theorem dX1_trace_132 : decode cX1_trace 132 = .ok (.iastore, 1) := by decide +kernel
theorem dX1_trace_133 : decode cX1_trace 133 = .ok (.iinc 3 1, 3) := by decide +kernel
theorem dX1_trace_136 : decode cX1_trace 136 = .ok (.goto (-96), 3) := by decide +kernel
theorem dX1_trace_139 : decode cX1_trace 139 = .ok (.return_, 1) := by decide +kernel
theorem dX1_leastStepFrom_0 : decode cX1_leastStepFrom 0 = .ok (.iconst 0, 1) := by decide +kernel
theorem dX1_leastStepFrom_1 : decode cX1_leastStepFrom 1 = .ok (.istore_n 3, 1) := by decide +kernel
theorem dX1_leastStepFrom_2 : decode cX1_leastStepFrom 2 = .ok (.iload_n 3, 1) := by decide +kernel
theorem dX1_leastStepFrom_3 : decode cX1_leastStepFrom 3 = .ok (.iconst 3, 1) := by decide +kernel
theorem dX1_leastStepFrom_4 : decode cX1_leastStepFrom 4 = .ok (.if_icmp .ge 64, 3) := by decide +kernel
theorem dX1_leastStepFrom_7 : decode cX1_leastStepFrom 7 = .ok (.aload_n 0, 1) := by decide +kernel
theorem dX1_leastStepFrom_8 : decode cX1_leastStepFrom 8 = .ok (.iload_n 3, 1) := by decide +kernel
theorem dX1_leastStepFrom_9 : decode cX1_leastStepFrom 9 = .ok (.iload_n 1, 1) := by decide +kernel
theorem dX1_leastStepFrom_10 : decode cX1_leastStepFrom 10 = .ok (.iload_n 2, 1) := by decide +kernel
theorem dX1_leastStepFrom_11 : decode cX1_leastStepFrom 11 = .ok (.invokevirtual 98, 3) := by decide +kernel
theorem dX1_leastStepFrom_14 : decode cX1_leastStepFrom 14 = .ok (.ifCond .eq 48, 3) := by decide +kernel
theorem dX1_leastStepFrom_17 : decode cX1_leastStepFrom 17 = .ok (.aload_n 0, 1) := by decide +kernel
theorem dX1_leastStepFrom_18 : decode cX1_leastStepFrom 18 = .ok (.getfield 29, 3) := by decide +kernel
theorem dX1_leastStepFrom_21 : decode cX1_leastStepFrom 21 = .ok (.iload_n 1, 1) := by decide +kernel
theorem dX1_leastStepFrom_22 : decode cX1_leastStepFrom 22 = .ok (.getstatic 105, 3) := by decide +kernel
theorem dX1_leastStepFrom_25 : decode cX1_leastStepFrom 25 = .ok (.iload_n 3, 1) := by decide +kernel
theorem dX1_leastStepFrom_26 : decode cX1_leastStepFrom 26 = .ok (.iaload, 1) := by decide +kernel
theorem dX1_leastStepFrom_27 : decode cX1_leastStepFrom 27 = .ok (.iadd, 1) := by decide +kernel
theorem dX1_leastStepFrom_28 : decode cX1_leastStepFrom 28 = .ok (.aaload, 1) := by decide +kernel
theorem dX1_leastStepFrom_29 : decode cX1_leastStepFrom 29 = .ok (.iload_n 2, 1) := by decide +kernel
theorem dX1_leastStepFrom_30 : decode cX1_leastStepFrom 30 = .ok (.getstatic 108, 3) := by decide +kernel
theorem dX1_leastStepFrom_33 : decode cX1_leastStepFrom 33 = .ok (.iload_n 3, 1) := by decide +kernel
theorem dX1_leastStepFrom_34 : decode cX1_leastStepFrom 34 = .ok (.iaload, 1) := by decide +kernel
theorem dX1_leastStepFrom_35 : decode cX1_leastStepFrom 35 = .ok (.iadd, 1) := by decide +kernel
theorem dX1_leastStepFrom_36 : decode cX1_leastStepFrom 36 = .ok (.iaload, 1) := by decide +kernel
theorem dX1_leastStepFrom_37 : decode cX1_leastStepFrom 37 = .ok (.istore 4, 2) := by decide +kernel
theorem dX1_leastStepFrom_39 : decode cX1_leastStepFrom 39 = .ok (.aload_n 0, 1) := by decide +kernel
theorem dX1_leastStepFrom_40 : decode cX1_leastStepFrom 40 = .ok (.iload_n 3, 1) := by decide +kernel
theorem dX1_leastStepFrom_41 : decode cX1_leastStepFrom 41 = .ok (.iload_n 1, 1) := by decide +kernel
theorem dX1_leastStepFrom_42 : decode cX1_leastStepFrom 42 = .ok (.iload_n 2, 1) := by decide +kernel
theorem dX1_leastStepFrom_43 : decode cX1_leastStepFrom 43 = .ok (.invokevirtual 101, 3) := by decide +kernel
theorem dX1_leastStepFrom_46 : decode cX1_leastStepFrom 46 = .ok (.iload 4, 2) := by decide +kernel
theorem dX1_leastStepFrom_48 : decode cX1_leastStepFrom 48 = .ok (.iadd, 1) := by decide +kernel
theorem dX1_leastStepFrom_49 : decode cX1_leastStepFrom 49 = .ok (.aload_n 0, 1) := by decide +kernel
theorem dX1_leastStepFrom_50 : decode cX1_leastStepFrom 50 = .ok (.getfield 29, 3) := by decide +kernel
theorem dX1_leastStepFrom_53 : decode cX1_leastStepFrom 53 = .ok (.iload_n 1, 1) := by decide +kernel
theorem dX1_leastStepFrom_54 : decode cX1_leastStepFrom 54 = .ok (.aaload, 1) := by decide +kernel
theorem dX1_leastStepFrom_55 : decode cX1_leastStepFrom 55 = .ok (.iload_n 2, 1) := by decide +kernel
theorem dX1_leastStepFrom_56 : decode cX1_leastStepFrom 56 = .ok (.iaload, 1) := by decide +kernel
theorem dX1_leastStepFrom_57 : decode cX1_leastStepFrom 57 = .ok (.if_icmp .ne 5, 3) := by decide +kernel
theorem dX1_leastStepFrom_60 : decode cX1_leastStepFrom 60 = .ok (.iload_n 3, 1) := by decide +kernel
theorem dX1_leastStepFrom_61 : decode cX1_leastStepFrom 61 = .ok (.ireturn, 1) := by decide +kernel
theorem dX1_leastStepFrom_62 : decode cX1_leastStepFrom 62 = .ok (.iinc 3 1, 3) := by decide +kernel
theorem dX1_leastStepFrom_65 : decode cX1_leastStepFrom 65 = .ok (.goto (-63), 3) := by decide +kernel
theorem dX1_leastStepFrom_68 : decode cX1_leastStepFrom 68 = .ok (.iconst (-1), 1) := by decide +kernel
theorem dX1_leastStepFrom_69 : decode cX1_leastStepFrom 69 = .ok (.ireturn, 1) := by decide +kernel
