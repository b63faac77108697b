theorem dX0_init_0 : decode cX0_init 0 = .ok (.aload_n 0, 1) := by decide +kernel
theorem dX0_init_1 : decode cX0_init 1 = .ok (.invokespecial 3, 3) := by decide +kernel
theorem dX0_init_4 : decode cX0_init 4 = .ok (.aload_n 0, 1) := by decide +kernel
theorem dX0_init_5 : decode cX0_init 5 = .ok (.iconst 3, 1) := by decide +kernel
theorem dX0_init_6 : decode cX0_init 6 = .ok (.anewarray 9, 3) := by decide +kernel
theorem dX0_init_9 : decode cX0_init 9 = .ok (.putfield 11, 3) := by decide +kernel
theorem dX0_init_12 : decode cX0_init 12 = .ok (.aload_n 0, 1) := by decide +kernel
theorem dX0_init_13 : decode cX0_init 13 = .ok (.iconst 4, 1) := by decide +kernel
theorem dX0_init_14 : decode cX0_init 14 = .ok (.anewarray 9, 3) := by decide +kernel
theorem dX0_init_17 : decode cX0_init 17 = .ok (.putfield 17, 3) := by decide +kernel
theorem dX0_init_20 : decode cX0_init 20 = .ok (.aload_n 0, 1) := by decide +kernel
theorem dX0_init_21 : decode cX0_init 21 = .ok (.iconst 4, 1) := by decide +kernel
theorem dX0_init_22 : decode cX0_init 22 = .ok (.newarray .int, 2) := by decide +kernel
theorem dX0_init_24 : decode cX0_init 24 = .ok (.dup, 1) := by decide +kernel
theorem dX0_init_25 : decode cX0_init 25 = .ok (.iconst 0, 1) := by decide +kernel
theorem dX0_init_26 : decode cX0_init 26 = .ok (.iconst 3, 1) := by decide +kernel
theorem dX0_init_27 : decode cX0_init 27 = .ok (.iastore, 1) := by decide +kernel
theorem dX0_init_28 : decode cX0_init 28 = .ok (.dup, 1) := by decide +kernel
theorem dX0_init_29 : decode cX0_init 29 = .ok (.iconst 1, 1) := by decide +kernel
theorem dX0_init_30 : decode cX0_init 30 = .ok (.iconst 2, 1) := by decide +kernel
theorem dX0_init_31 : decode cX0_init 31 = .ok (.iastore, 1) := by decide +kernel
theorem dX0_init_32 : decode cX0_init 32 = .ok (.dup, 1) := by decide +kernel
theorem dX0_init_33 : decode cX0_init 33 = .ok (.iconst 2, 1) := by decide +kernel
theorem dX0_init_34 : decode cX0_init 34 = .ok (.iconst 4, 1) := by decide +kernel
theorem dX0_init_35 : decode cX0_init 35 = .ok (.iastore, 1) := by decide +kernel
theorem dX0_init_36 : decode cX0_init 36 = .ok (.dup, 1) := by decide +kernel
theorem dX0_init_37 : decode cX0_init 37 = .ok (.iconst 3, 1) := by decide +kernel
theorem dX0_init_38 : decode cX0_init 38 = .ok (.iconst 2, 1) := by decide +kernel
theorem dX0_init_39 : decode cX0_init 39 = .ok (.iastore, 1) := by decide +kernel
theorem dX0_init_40 : decode cX0_init 40 = .ok (.putfield 20, 3) := by decide +kernel
theorem dX0_init_43 : decode cX0_init 43 = .ok (.iconst 0, 1) := by decide +kernel
theorem dX0_init_44 : decode cX0_init 44 = .ok (.istore_n 1, 1) := by decide +kernel
theorem dX0_init_45 : decode cX0_init 45 = .ok (.iload_n 1, 1) := by decide +kernel
theorem dX0_init_46 : decode cX0_init 46 = .ok (.iconst 3, 1) := by decide +kernel
theorem dX0_init_47 : decode cX0_init 47 = .ok (.if_icmp .ge 24, 3) := by decide +kernel
theorem dX0_init_50 : decode cX0_init 50 = .ok (.aload_n 0, 1) := by decide +kernel
theorem dX0_init_51 : decode cX0_init 51 = .ok (.getfield 11, 3) := by decide +kernel
theorem dX0_init_54 : decode cX0_init 54 = .ok (.iload_n 1, 1) := by decide +kernel
theorem dX0_init_55 : decode cX0_init 55 = .ok (.new 9, 3) := by decide +kernel
theorem dX0_init_58 : decode cX0_init 58 = .ok (.dup, 1) := by decide +kernel
theorem dX0_init_59 : decode cX0_init 59 = .ok (.bipush 9, 2) := by decide +kernel
theorem dX0_init_61 : decode cX0_init 61 = .ok (.invokespecial 24, 3) := by decide +kernel
theorem dX0_init_64 : decode cX0_init 64 = .ok (.aastore, 1) := by decide +kernel
theorem dX0_init_65 : decode cX0_init 65 = .ok (.iinc 1 1, 3) := by decide +kernel
theorem dX0_init_68 : decode cX0_init 68 = .ok (.goto (-23), 3) := by decide +kernel
theorem dX0_init_71 : decode cX0_init 71 = .ok (.iconst 0, 1) := by decide +kernel
theorem dX0_init_72 : decode cX0_init 72 = .ok (.istore_n 1, 1) := by decide +kernel
theorem dX0_init_73 : decode cX0_init 73 = .ok (.iload_n 1, 1) := by decide +kernel
theorem dX0_init_74 : decode cX0_init 74 = .ok (.iconst 4, 1) := by decide +kernel
theorem dX0_init_75 : decode cX0_init 75 = .ok (.if_icmp .ge 24, 3) := by decide +kernel
theorem dX0_init_78 : decode cX0_init 78 = .ok (.aload_n 0, 1) := by decide +kernel
theorem dX0_init_79 : decode cX0_init 79 = .ok (.getfield 17, 3) := by decide +kernel
theorem dX0_init_82 : decode cX0_init 82 = .ok (.iload_n 1, 1) := by decide +kernel
theorem dX0_init_83 : decode cX0_init 83 = .ok (.new 9, 3) := by decide +kernel
theorem dX0_init_86 : decode cX0_init 86 = .ok (.dup, 1) := by decide +kernel
theorem dX0_init_87 : decode cX0_init 87 = .ok (.bipush 11, 2) := by decide +kernel
theorem dX0_init_89 : decode cX0_init 89 = .ok (.invokespecial 24, 3) := by decide +kernel
theorem dX0_init_92 : decode cX0_init 92 = .ok (.aastore, 1) := by decide +kernel
theorem dX0_init_93 : decode cX0_init 93 = .ok (.iinc 1 1, 3) := by decide +kernel
theorem dX0_init_96 : decode cX0_init 96 = .ok (.goto (-23), 3) := by decide +kernel
theorem dX0_init_99 : decode cX0_init 99 = .ok (.return_, 1) := by decide +kernel
theorem dX0_copyFrom_0 : decode cX0_copyFrom 0 = .ok (.iconst 0, 1) := by decide +kernel
theorem dX0_copyFrom_1 : decode cX0_copyFrom 1 = .ok (.istore_n 2, 1) := by decide +kernel
theorem dX0_copyFrom_2 : decode cX0_copyFrom 2 = .ok (.iload_n 2, 1) := by decide +kernel
theorem dX0_copyFrom_3 : decode cX0_copyFrom 3 = .ok (.iconst 3, 1) := by decide +kernel
theorem dX0_copyFrom_4 : decode cX0_copyFrom 4 = .ok (.if_icmp .ge 24, 3) := by decide +kernel
theorem dX0_copyFrom_7 : decode cX0_copyFrom 7 = .ok (.aload_n 0, 1) := by decide +kernel
theorem dX0_copyFrom_8 : decode cX0_copyFrom 8 = .ok (.getfield 11, 3) := by decide +kernel
theorem dX0_copyFrom_11 : decode cX0_copyFrom 11 = .ok (.iload_n 2, 1) := by decide +kernel
theorem dX0_copyFrom_12 : decode cX0_copyFrom 12 = .ok (.aaload, 1) := by decide +kernel
theorem dX0_copyFrom_13 : decode cX0_copyFrom 13 = .ok (.aload_n 1, 1) := by decide +kernel
theorem dX0_copyFrom_14 : decode cX0_copyFrom 14 = .ok (.getfield 11, 3) := by decide +kernel
theorem dX0_copyFrom_17 : decode cX0_copyFrom 17 = .ok (.iload_n 2, 1) := by decide +kernel
theorem dX0_copyFrom_18 : decode cX0_copyFrom 18 = .ok (.aaload, 1) := by decide +kernel
theorem dX0_copyFrom_19 : decode cX0_copyFrom 19 = .ok (.invokevirtual 27, 3) := by decide +kernel
theorem dX0_copyFrom_22 : decode cX0_copyFrom 22 = .ok (.iinc 2 1, 3) := by decide +kernel
theorem dX0_copyFrom_25 : decode cX0_copyFrom 25 = .ok (.goto (-23), 3) := by decide +kernel
theorem dX0_copyFrom_28 : decode cX0_copyFrom 28 = .ok (.iconst 0, 1) := by decide +kernel
theorem dX0_copyFrom_29 : decode cX0_copyFrom 29 = .ok (.istore_n 2, 1) := by decide +kernel
theorem dX0_copyFrom_30 : decode cX0_copyFrom 30 = .ok (.iload_n 2, 1) := by decide +kernel
theorem dX0_copyFrom_31 : decode cX0_copyFrom 31 = .ok (.iconst 4, 1) := by decide +kernel
theorem dX0_copyFrom_32 : decode cX0_copyFrom 32 = .ok (.if_icmp .ge 24, 3) := by decide +kernel
theorem dX0_copyFrom_35 : decode cX0_copyFrom 35 = .ok (.aload_n 0, 1) := by decide +kernel
theorem dX0_copyFrom_36 : decode cX0_copyFrom 36 = .ok (.getfield 17, 3) := by decide +kernel
theorem dX0_copyFrom_39 : decode cX0_copyFrom 39 = .ok (.iload_n 2, 1) := by decide +kernel
theorem dX0_copyFrom_40 : decode cX0_copyFrom 40 = .ok (.aaload, 1) := by decide +kernel
theorem dX0_copyFrom_41 : decode cX0_copyFrom 41 = .ok (.aload_n 1, 1) := by decide +kernel
theorem dX0_copyFrom_42 : decode cX0_copyFrom 42 = .ok (.getfield 17, 3) := by decide +kernel
theorem dX0_copyFrom_45 : decode cX0_copyFrom 45 = .ok (.iload_n 2, 1) := by decide +kernel
theorem dX0_copyFrom_46 : decode cX0_copyFrom 46 = .ok (.aaload, 1) := by decide +kernel
theorem dX0_copyFrom_47 : decode cX0_copyFrom 47 = .ok (.invokevirtual 27, 3) := by decide +kernel
theorem dX0_copyFrom_50 : decode cX0_copyFrom 50 = .ok (.iinc 2 1, 3) := by decide +kernel
theorem dX0_copyFrom_53 : decode cX0_copyFrom 53 = .ok (.goto (-23), 3) := by decide +kernel
theorem dX0_copyFrom_56 : decode cX0_copyFrom 56 = .ok (.aload_n 1, 1) := by decide +kernel
theorem dX0_copyFrom_57 : decode cX0_copyFrom 57 = .ok (.getfield 20, 3) := by decide +kernel
theorem dX0_copyFrom_60 : decode cX0_copyFrom 60 = .ok (.iconst 0, 1) := by decide +kernel
theorem dX0_copyFrom_61 : decode cX0_copyFrom 61 = .ok (.aload_n 0, 1) := by decide +kernel
theorem dX0_copyFrom_62 : decode cX0_copyFrom 62 = .ok (.getfield 20, 3) := by decide +kernel
theorem dX0_copyFrom_65 : decode cX0_copyFrom 65 = .ok (.iconst 0, 1) := by decide +kernel
theorem dX0_copyFrom_66 : decode cX0_copyFrom 66 = .ok (.iconst 4, 1) := by decide +kernel
theorem dX0_copyFrom_67 : decode cX0_copyFrom 67 = .ok (.invokestatic 31, 3) := by decide +kernel
theorem dX0_copyFrom_70 : decode cX0_copyFrom 70 = .ok (.return_, 1) := by decide +kernel
theorem dX0_syllablesInAll_0 : decode cX0_syllablesInAll 0 = .ok (.iconst 0, 1) := by decide +kernel
theorem dX0_syllablesInAll_1 : decode cX0_syllablesInAll 1 = .ok (.istore_n 1, 1) := by decide +kernel
theorem dX0_syllablesInAll_2 : decode cX0_syllablesInAll 2 = .ok (.iconst 0, 1) := by decide +kernel
theorem dX0_syllablesInAll_3 : decode cX0_syllablesInAll 3 = .ok (.istore_n 2, 1) := by decide +kernel
theorem dX0_syllablesInAll_4 : decode cX0_syllablesInAll 4 = .ok (.iload_n 2, 1) := by decide +kernel
theorem dX0_syllablesInAll_5 : decode cX0_syllablesInAll 5 = .ok (.iconst 3, 1) := by decide +kernel
theorem dX0_syllablesInAll_6 : decode cX0_syllablesInAll 6 = .ok (.if_icmp .ge 21, 3) := by decide +kernel
theorem dX0_syllablesInAll_9 : decode cX0_syllablesInAll 9 = .ok (.iload_n 1, 1) := by decide +kernel
theorem dX0_syllablesInAll_10 : decode cX0_syllablesInAll 10 = .ok (.aload_n 0, 1) := by decide +kernel
theorem dX0_syllablesInAll_11 : decode cX0_syllablesInAll 11 = .ok (.getfield 11, 3) := by decide +kernel
theorem dX0_syllablesInAll_14 : decode cX0_syllablesInAll 14 = .ok (.iload_n 2, 1) := by decide +kernel
theorem dX0_syllablesInAll_15 : decode cX0_syllablesInAll 15 = .ok (.aaload, 1) := by decide +kernel
theorem dX0_syllablesInAll_16 : decode cX0_syllablesInAll 16 = .ok (.getfield 37, 3) := by decide +kernel
theorem dX0_syllablesInAll_19 : decode cX0_syllablesInAll 19 = .ok (.iadd, 1) := by decide +kernel
theorem dX0_syllablesInAll_20 : decode cX0_syllablesInAll 20 = .ok (.istore_n 1, 1) := by decide +kernel
theorem dX0_syllablesInAll_21 : decode cX0_syllablesInAll 21 = .ok (.iinc 2 1, 3) := by decide +kernel
theorem dX0_syllablesInAll_24 : decode cX0_syllablesInAll 24 = .ok (.goto (-20), 3) := by decide +kernel
theorem dX0_syllablesInAll_27 : decode cX0_syllablesInAll 27 = .ok (.iload_n 1, 1) := by decide +kernel
theorem dX0_syllablesInAll_28 : decode cX0_syllablesInAll 28 = .ok (.ireturn, 1) := by decide +kernel
theorem dX0_notesInAll_0 : decode cX0_notesInAll 0 = .ok (.iconst 0, 1) := by decide +kernel
theorem dX0_notesInAll_1 : decode cX0_notesInAll 1 = .ok (.istore_n 1, 1) := by decide +kernel
theorem dX0_notesInAll_2 : decode cX0_notesInAll 2 = .ok (.iconst 0, 1) := by decide +kernel
theorem dX0_notesInAll_3 : decode cX0_notesInAll 3 = .ok (.istore_n 2, 1) := by decide +kernel
theorem dX0_notesInAll_4 : decode cX0_notesInAll 4 = .ok (.iload_n 2, 1) := by decide +kernel
theorem dX0_notesInAll_5 : decode cX0_notesInAll 5 = .ok (.iconst 4, 1) := by decide +kernel
theorem dX0_notesInAll_6 : decode cX0_notesInAll 6 = .ok (.if_icmp .ge 21, 3) := by decide +kernel
theorem dX0_notesInAll_9 : decode cX0_notesInAll 9 = .ok (.iload_n 1, 1) := by decide +kernel
theorem dX0_notesInAll_10 : decode cX0_notesInAll 10 = .ok (.aload_n 0, 1) := by decide +kernel
theorem dX0_notesInAll_11 : decode cX0_notesInAll 11 = .ok (.getfield 17, 3) := by decide +kernel
theorem dX0_notesInAll_14 : decode cX0_notesInAll 14 = .ok (.iload_n 2, 1) := by decide +kernel
theorem dX0_notesInAll_15 : decode cX0_notesInAll 15 = .ok (.aaload, 1) := by decide +kernel
theorem dX0_notesInAll_16 : decode cX0_notesInAll 16 = .ok (.getfield 37, 3) := by decide +kernel
theorem dX0_notesInAll_19 : decode cX0_notesInAll 19 = .ok (.iadd, 1) := by decide +kernel
theorem dX0_notesInAll_20 : decode cX0_notesInAll 20 = .ok (.istore_n 1, 1) := by decide +kernel
theorem dX0_notesInAll_21 : decode cX0_notesInAll 21 = .ok (.iinc 2 1, 3) := by decide +kernel
theorem dX0_notesInAll_24 : decode cX0_notesInAll 24 = .ok (.goto (-20), 3) := by decide +kernel
theorem dX0_notesInAll_27 : decode cX0_notesInAll 27 = .ok (.iload_n 1, 1) := by decide +kernel
theorem dX0_notesInAll_28 : decode cX0_notesInAll 28 = .ok (.ireturn, 1) := by decide +kernel
theorem dX0_lengthsInAll_0 : decode cX0_lengthsInAll 0 = .ok (.iconst 0, 1) := by decide +kernel
theorem dX0_lengthsInAll_1 : decode cX0_lengthsInAll 1 = .ok (.istore_n 1, 1) := by decide +kernel
theorem dX0_lengthsInAll_2 : decode cX0_lengthsInAll 2 = .ok (.iconst 0, 1) := by decide +kernel
theorem dX0_lengthsInAll_3 : decode cX0_lengthsInAll 3 = .ok (.istore_n 2, 1) := by decide +kernel
theorem dX0_lengthsInAll_4 : decode cX0_lengthsInAll 4 = .ok (.iload_n 2, 1) := by decide +kernel
theorem dX0_lengthsInAll_5 : decode cX0_lengthsInAll 5 = .ok (.iconst 4, 1) := by decide +kernel
theorem dX0_lengthsInAll_6 : decode cX0_lengthsInAll 6 = .ok (.if_icmp .ge 21, 3) := by decide +kernel
theorem dX0_lengthsInAll_9 : decode cX0_lengthsInAll 9 = .ok (.iload_n 1, 1) := by decide +kernel
theorem dX0_lengthsInAll_10 : decode cX0_lengthsInAll 10 = .ok (.aload_n 0, 1) := by decide +kernel
theorem dX0_lengthsInAll_11 : decode cX0_lengthsInAll 11 = .ok (.getfield 17, 3) := by decide +kernel
theorem dX0_lengthsInAll_14 : decode cX0_lengthsInAll 14 = .ok (.iload_n 2, 1) := by decide +kernel
theorem dX0_lengthsInAll_15 : decode cX0_lengthsInAll 15 = .ok (.aaload, 1) := by decide +kernel
theorem dX0_lengthsInAll_16 : decode cX0_lengthsInAll 16 = .ok (.invokevirtual 41, 3) := by decide +kernel
theorem dX0_lengthsInAll_19 : decode cX0_lengthsInAll 19 = .ok (.iadd, 1) := by decide +kernel
theorem dX0_lengthsInAll_20 : decode cX0_lengthsInAll 20 = .ok (.istore_n 1, 1) := by decide +kernel
theorem dX0_lengthsInAll_21 : decode cX0_lengthsInAll 21 = .ok (.iinc 2 1, 3) := by decide +kernel
theorem dX0_lengthsInAll_24 : decode cX0_lengthsInAll 24 = .ok (.goto (-20), 3) := by decide +kernel
theorem dX0_lengthsInAll_27 : decode cX0_lengthsInAll 27 = .ok (.iload_n 1, 1) := by decide +kernel
theorem dX0_lengthsInAll_28 : decode cX0_lengthsInAll 28 = .ok (.ireturn, 1) := by decide +kernel
theorem dX2_init_0 : decode cX2_init 0 = .ok (.aload_n 0, 1) := by decide +kernel
theorem dX2_init_1 : decode cX2_init 1 = .ok (.invokespecial 3, 3) := by decide +kernel
theorem dX2_init_4 : decode cX2_init 4 = .ok (.aload_n 0, 1) := by decide +kernel
theorem dX2_init_5 : decode cX2_init 5 = .ok (.bipush 22, 2) := by decide +kernel
theorem dX2_init_7 : decode cX2_init 7 = .ok (.newarray .int, 2) := by decide +kernel
theorem dX2_init_9 : decode cX2_init 9 = .ok (.putfield 9, 3) := by decide +kernel
theorem dX2_init_12 : decode cX2_init 12 = .ok (.aload_n 0, 1) := by decide +kernel
theorem dX2_init_13 : decode cX2_init 13 = .ok (.iconst 0, 1) := by decide +kernel
theorem dX2_init_14 : decode cX2_init 14 = .ok (.putfield 15, 3) := by decide +kernel
theorem dX2_init_17 : decode cX2_init 17 = .ok (.return_, 1) := by decide +kernel
theorem dX2_put_0 : decode cX2_put 0 = .ok (.aload_n 0, 1) := by decide +kernel
theorem dX2_put_1 : decode cX2_put 1 = .ok (.getfield 15, 3) := by decide +kernel
theorem dX2_put_4 : decode cX2_put 4 = .ok (.bipush 22, 2) := by decide +kernel
theorem dX2_put_6 : decode cX2_put 6 = .ok (.if_icmp .ge 23, 3) := by decide +kernel
theorem dX2_put_9 : decode cX2_put 9 = .ok (.aload_n 0, 1) := by decide +kernel
theorem dX2_put_10 : decode cX2_put 10 = .ok (.getfield 9, 3) := by decide +kernel
theorem dX2_put_13 : decode cX2_put 13 = .ok (.aload_n 0, 1) := by decide +kernel
theorem dX2_put_14 : decode cX2_put 14 = .ok (.getfield 15, 3) := by decide +kernel
theorem dX2_put_17 : decode cX2_put 17 = .ok (.iload_n 1, 1) := by decide +kernel
theorem dX2_put_18 : decode cX2_put 18 = .ok (.iastore, 1) := by decide +kernel
theorem dX2_put_19 : decode cX2_put 19 = .ok (.aload_n 0, 1) := by decide +kernel
theorem dX2_put_20 : decode cX2_put 20 = .ok (.dup, 1) := by decide +kernel
theorem dX2_put_21 : decode cX2_put 21 = .ok (.getfield 15, 3) := by decide +kernel
theorem dX2_put_24 : decode cX2_put 24 = .ok (.iconst 1, 1) := by decide +kernel
theorem dX2_put_25 : decode cX2_put 25 = .ok (.iadd, 1) := by decide +kernel
theorem dX2_put_26 : decode cX2_put 26 = .ok (.putfield 15, 3) := by decide +kernel
theorem dX2_put_29 : decode cX2_put 29 = .ok (.return_, 1) := by decide +kernel
theorem dX2_clear_0 : decode cX2_clear 0 = .ok (.aload_n 0, 1) := by decide +kernel
theorem dX2_clear_1 : decode cX2_clear 1 = .ok (.iconst 0, 1) := by decide +kernel
theorem dX2_clear_2 : decode cX2_clear 2 = .ok (.putfield 15, 3) := by decide +kernel
theorem dX2_clear_5 : decode cX2_clear 5 = .ok (.return_, 1) := by decide +kernel
theorem dX2_faultAsLine_0 : decode cX2_faultAsLine 0 = .ok (.iconst 0, 1) := by decide +kernel
theorem dX2_faultAsLine_1 : decode cX2_faultAsLine 1 = .ok (.istore_n 1, 1) := by decide +kernel
theorem dX2_faultAsLine_2 : decode cX2_faultAsLine 2 = .ok (.iconst 0, 1) := by decide +kernel
theorem dX2_faultAsLine_3 : decode cX2_faultAsLine 3 = .ok (.istore_n 2, 1) := by decide +kernel
theorem dX2_faultAsLine_4 : decode cX2_faultAsLine 4 = .ok (.iconst 0, 1) := by decide +kernel
theorem dX2_faultAsLine_5 : decode cX2_faultAsLine 5 = .ok (.istore_n 3, 1) := by decide +kernel
theorem dX2_faultAsLine_6 : decode cX2_faultAsLine 6 = .ok (.iload_n 3, 1) := by decide +kernel
theorem dX2_faultAsLine_7 : decode cX2_faultAsLine 7 = .ok (.aload_n 0, 1) := by decide +kernel
theorem dX2_faultAsLine_8 : decode cX2_faultAsLine 8 = .ok (.getfield 15, 3) := by decide +kernel
theorem dX2_faultAsLine_11 : decode cX2_faultAsLine 11 = .ok (.if_icmp .ge 61, 3) := by decide +kernel
theorem dX2_faultAsLine_14 : decode cX2_faultAsLine 14 = .ok (.iload_n 2, 1) := by decide +kernel
theorem dX2_faultAsLine_15 : decode cX2_faultAsLine 15 = .ok (.ifCond .eq 19, 3) := by decide +kernel
theorem dX2_faultAsLine_18 : decode cX2_faultAsLine 18 = .ok (.aload_n 0, 1) := by decide +kernel
theorem dX2_faultAsLine_19 : decode cX2_faultAsLine 19 = .ok (.getfield 9, 3) := by decide +kernel
theorem dX2_faultAsLine_22 : decode cX2_faultAsLine 22 = .ok (.iload_n 3, 1) := by decide +kernel
theorem dX2_faultAsLine_23 : decode cX2_faultAsLine 23 = .ok (.iaload, 1) := by decide +kernel
theorem dX2_faultAsLine_24 : decode cX2_faultAsLine 24 = .ok (.bipush 45, 2) := by decide +kernel
theorem dX2_faultAsLine_26 : decode cX2_faultAsLine 26 = .ok (.if_icmp .ne 8, 3) := by decide +kernel
theorem dX2_faultAsLine_29 : decode cX2_faultAsLine 29 = .ok (.iconst 0, 1) := by decide +kernel
theorem dX2_faultAsLine_30 : decode cX2_faultAsLine 30 = .ok (.istore_n 2, 1) := by decide +kernel
theorem dX2_faultAsLine_31 : decode cX2_faultAsLine 31 = .ok (.goto 35, 3) := by decide +kernel
theorem dX2_faultAsLine_34 : decode cX2_faultAsLine 34 = .ok (.iload_n 1, 1) := by decide +kernel
theorem dX2_faultAsLine_35 : decode cX2_faultAsLine 35 = .ok (.bipush 9, 2) := by decide +kernel
theorem dX2_faultAsLine_37 : decode cX2_faultAsLine 37 = .ok (.if_icmp .ge 27, 3) := by decide +kernel
theorem dX2_faultAsLine_40 : decode cX2_faultAsLine 40 = .ok (.aload_n 0, 1) := by decide +kernel
theorem dX2_faultAsLine_41 : decode cX2_faultAsLine 41 = .ok (.getfield 9, 3) := by decide +kernel
theorem dX2_faultAsLine_44 : decode cX2_faultAsLine 44 = .ok (.iload_n 3, 1) := by decide +kernel
theorem dX2_faultAsLine_45 : decode cX2_faultAsLine 45 = .ok (.iaload, 1) := by decide +kernel
theorem dX2_faultAsLine_46 : decode cX2_faultAsLine 46 = .ok (.bipush 48, 2) := by decide +kernel
theorem dX2_faultAsLine_48 : decode cX2_faultAsLine 48 = .ok (.bipush 50, 2) := by decide +kernel
theorem dX2_faultAsLine_50 : decode cX2_faultAsLine 50 = .ok (.invokestatic 19, 3) := by decide +kernel
theorem dX2_faultAsLine_53 : decode cX2_faultAsLine 53 = .ok (.ifCond .eq 11, 3) := by decide +kernel
theorem dX2_faultAsLine_56 : decode cX2_faultAsLine 56 = .ok (.iinc 1 1, 3) := by decide +kernel
theorem dX2_faultAsLine_59 : decode cX2_faultAsLine 59 = .ok (.iconst 1, 1) := by decide +kernel
theorem dX2_faultAsLine_60 : decode cX2_faultAsLine 60 = .ok (.istore_n 2, 1) := by decide +kernel
theorem dX2_faultAsLine_61 : decode cX2_faultAsLine 61 = .ok (.goto 5, 3) := by decide +kernel
theorem dX2_faultAsLine_64 : decode cX2_faultAsLine 64 = .ok (.iload_n 3, 1) := by decide +kernel
theorem dX2_faultAsLine_65 : decode cX2_faultAsLine 65 = .ok (.ireturn, 1) := by decide +kernel
theorem dX2_faultAsLine_66 : decode cX2_faultAsLine 66 = .ok (.iinc 3 1, 3) := by decide +kernel
theorem dX2_faultAsLine_69 : decode cX2_faultAsLine 69 = .ok (.goto (-63), 3) := by decide +kernel
theorem dX2_faultAsLine_72 : decode cX2_faultAsLine 72 = .ok (.bipush (-6), 2) := by decide +kernel
theorem dX2_faultAsLine_74 : decode cX2_faultAsLine 74 = .ok (.ireturn, 1) := by decide +kernel
theorem dX2_faultAsTune_0 : decode cX2_faultAsTune 0 = .ok (.iconst 0, 1) := by decide +kernel
theorem dX2_faultAsTune_1 : decode cX2_faultAsTune 1 = .ok (.istore_n 1, 1) := by decide +kernel
theorem dX2_faultAsTune_2 : decode cX2_faultAsTune 2 = .ok (.iload_n 1, 1) := by decide +kernel
theorem dX2_faultAsTune_3 : decode cX2_faultAsTune 3 = .ok (.aload_n 0, 1) := by decide +kernel
theorem dX2_faultAsTune_4 : decode cX2_faultAsTune 4 = .ok (.getfield 15, 3) := by decide +kernel
theorem dX2_faultAsTune_7 : decode cX2_faultAsTune 7 = .ok (.if_icmp .ge 61, 3) := by decide +kernel
theorem dX2_faultAsTune_10 : decode cX2_faultAsTune 10 = .ok (.iload_n 1, 1) := by decide +kernel
theorem dX2_faultAsTune_11 : decode cX2_faultAsTune 11 = .ok (.iconst 2, 1) := by decide +kernel
theorem dX2_faultAsTune_12 : decode cX2_faultAsTune 12 = .ok (.irem, 1) := by decide +kernel
theorem dX2_faultAsTune_13 : decode cX2_faultAsTune 13 = .ok (.ifCond .ne 7, 3) := by decide +kernel
theorem dX2_faultAsTune_16 : decode cX2_faultAsTune 16 = .ok (.iconst 1, 1) := by decide +kernel
theorem dX2_faultAsTune_17 : decode cX2_faultAsTune 17 = .ok (.goto 4, 3) := by decide +kernel
theorem dX2_faultAsTune_20 : decode cX2_faultAsTune 20 = .ok (.iconst 0, 1) := by decide +kernel
theorem dX2_faultAsTune_21 : decode cX2_faultAsTune 21 = .ok (.istore_n 2, 1) := by decide +kernel
theorem dX2_faultAsTune_22 : decode cX2_faultAsTune 22 = .ok (.iload_n 2, 1) := by decide +kernel
theorem dX2_faultAsTune_23 : decode cX2_faultAsTune 23 = .ok (.ifCond .eq 19, 3) := by decide +kernel
theorem dX2_faultAsTune_26 : decode cX2_faultAsTune 26 = .ok (.aload_n 0, 1) := by decide +kernel
theorem dX2_faultAsTune_27 : decode cX2_faultAsTune 27 = .ok (.getfield 9, 3) := by decide +kernel
theorem dX2_faultAsTune_30 : decode cX2_faultAsTune 30 = .ok (.iload_n 1, 1) := by decide +kernel
theorem dX2_faultAsTune_31 : decode cX2_faultAsTune 31 = .ok (.iaload, 1) := by decide +kernel
theorem dX2_faultAsTune_32 : decode cX2_faultAsTune 32 = .ok (.bipush 48, 2) := by decide +kernel
theorem dX2_faultAsTune_34 : decode cX2_faultAsTune 34 = .ok (.bipush 50, 2) := by decide +kernel
theorem dX2_faultAsTune_36 : decode cX2_faultAsTune 36 = .ok (.invokestatic 19, 3) := by decide +kernel
theorem dX2_faultAsTune_39 : decode cX2_faultAsTune 39 = .ok (.goto 16, 3) := by decide +kernel
theorem dX2_faultAsTune_42 : decode cX2_faultAsTune 42 = .ok (.aload_n 0, 1) := by decide +kernel
theorem dX2_faultAsTune_43 : decode cX2_faultAsTune 43 = .ok (.getfield 9, 3) := by decide +kernel
theorem dX2_faultAsTune_46 : decode cX2_faultAsTune 46 = .ok (.iload_n 1, 1) := by decide +kernel
theorem dX2_faultAsTune_47 : decode cX2_faultAsTune 47 = .ok (.iaload, 1) := by decide +kernel
theorem dX2_faultAsTune_48 : decode cX2_faultAsTune 48 = .ok (.bipush 49, 2) := by decide +kernel
theorem dX2_faultAsTune_50 : decode cX2_faultAsTune 50 = .ok (.bipush 52, 2) := by decide +kernel
theorem dX2_faultAsTune_52 : decode cX2_faultAsTune 52 = .ok (.invokestatic 19, 3) := by decide +kernel
theorem dX2_faultAsTune_55 : decode cX2_faultAsTune 55 = .ok (.istore_n 3, 1) := by decide +kernel
theorem dX2_faultAsTune_56 : decode cX2_faultAsTune 56 = .ok (.iload_n 3, 1) := by decide +kernel
theorem dX2_faultAsTune_57 : decode cX2_faultAsTune 57 = .ok (.ifCond .ne 5, 3) := by decide +kernel
theorem dX2_faultAsTune_60 : decode cX2_faultAsTune 60 = .ok (.iload_n 1, 1) := by decide +kernel
theorem dX2_faultAsTune_61 : decode cX2_faultAsTune 61 = .ok (.ireturn, 1) := by decide +kernel
theorem dX2_faultAsTune_62 : decode cX2_faultAsTune 62 = .ok (.iinc 1 1, 3) := by decide +kernel
theorem dX2_faultAsTune_65 : decode cX2_faultAsTune 65 = .ok (.goto (-63), 3) := by decide +kernel
theorem dX2_faultAsTune_68 : decode cX2_faultAsTune 68 = .ok (.aload_n 0, 1) := by decide +kernel
theorem dX2_faultAsTune_69 : decode cX2_faultAsTune 69 = .ok (.getfield 15, 3) := by decide +kernel
theorem dX2_faultAsTune_72 : decode cX2_faultAsTune 72 = .ok (.iconst 2, 1) := by decide +kernel
theorem dX2_faultAsTune_73 : decode cX2_faultAsTune 73 = .ok (.irem, 1) := by decide +kernel
theorem dX2_faultAsTune_74 : decode cX2_faultAsTune 74 = .ok (.ifCond .ne 8, 3) := by decide +kernel
theorem dX2_faultAsTune_77 : decode cX2_faultAsTune 77 = .ok (.bipush (-6), 2) := by decide +kernel
theorem dX2_faultAsTune_79 : decode cX2_faultAsTune 79 = .ok (.goto 7, 3) := by decide +kernel
theorem dX2_faultAsTune_82 : decode cX2_faultAsTune 82 = .ok (.aload_n 0, 1) := by decide +kernel
theorem dX2_faultAsTune_83 : decode cX2_faultAsTune 83 = .ok (.getfield 15, 3) := by decide +kernel
theorem dX2_faultAsTune_86 : decode cX2_faultAsTune 86 = .ok (.ireturn, 1) := by decide +kernel
theorem dX2_readLine_0 : decode cX2_readLine 0 = .ok (.aload_n 1, 1) := by decide +kernel
theorem dX2_readLine_1 : decode cX2_readLine 1 = .ok (.invokevirtual 23, 3) := by decide +kernel
theorem dX2_readLine_4 : decode cX2_readLine 4 = .ok (.iconst 0, 1) := by decide +kernel
theorem dX2_readLine_5 : decode cX2_readLine 5 = .ok (.istore_n 2, 1) := by decide +kernel
theorem dX2_readLine_6 : decode cX2_readLine 6 = .ok (.iload_n 2, 1) := by decide +kernel
theorem dX2_readLine_7 : decode cX2_readLine 7 = .ok (.aload_n 0, 1) := by decide +kernel
theorem dX2_readLine_8 : decode cX2_readLine 8 = .ok (.getfield 15, 3) := by decide +kernel
theorem dX2_readLine_11 : decode cX2_readLine 11 = .ok (.if_icmp .ge 41, 3) := by decide +kernel
theorem dX2_readLine_14 : decode cX2_readLine 14 = .ok (.aload_n 0, 1) := by decide +kernel
theorem dX2_readLine_15 : decode cX2_readLine 15 = .ok (.getfield 9, 3) := by decide +kernel
theorem dX2_readLine_18 : decode cX2_readLine 18 = .ok (.iload_n 2, 1) := by decide +kernel
theorem dX2_readLine_19 : decode cX2_readLine 19 = .ok (.iaload, 1) := by decide +kernel
theorem dX2_readLine_20 : decode cX2_readLine 20 = .ok (.bipush 45, 2) := by decide +kernel
theorem dX2_readLine_22 : decode cX2_readLine 22 = .ok (.if_icmp .ne 10, 3) := by decide +kernel
theorem dX2_readLine_25 : decode cX2_readLine 25 = .ok (.aload_n 1, 1) := by decide +kernel
theorem dX2_readLine_26 : decode cX2_readLine 26 = .ok (.invokevirtual 28, 3) := by decide +kernel
theorem dX2_readLine_29 : decode cX2_readLine 29 = .ok (.goto 17, 3) := by decide +kernel
theorem dX2_readLine_32 : decode cX2_readLine 32 = .ok (.aload_n 1, 1) := by decide +kernel
theorem dX2_readLine_33 : decode cX2_readLine 33 = .ok (.aload_n 0, 1) := by decide +kernel
theorem dX2_readLine_34 : decode cX2_readLine 34 = .ok (.getfield 9, 3) := by decide +kernel
theorem dX2_readLine_37 : decode cX2_readLine 37 = .ok (.iload_n 2, 1) := by decide +kernel
theorem dX2_readLine_38 : decode cX2_readLine 38 = .ok (.iaload, 1) := by decide +kernel
theorem dX2_readLine_39 : decode cX2_readLine 39 = .ok (.bipush 48, 2) := by decide +kernel
theorem dX2_readLine_41 : decode cX2_readLine 41 = .ok (.isub, 1) := by decide +kernel
theorem dX2_readLine_42 : decode cX2_readLine 42 = .ok (.iconst 0, 1) := by decide +kernel
theorem dX2_readLine_43 : decode cX2_readLine 43 = .ok (.invokevirtual 31, 3) := by decide +kernel
theorem dX2_readLine_46 : decode cX2_readLine 46 = .ok (.iinc 2 1, 3) := by decide +kernel
theorem dX2_readLine_49 : decode cX2_readLine 49 = .ok (.goto (-43), 3) := by decide +kernel
theorem dX2_readLine_52 : decode cX2_readLine 52 = .ok (.return_, 1) := by decide +kernel
theorem dX2_readTune_0 : decode cX2_readTune 0 = .ok (.aload_n 1, 1) := by decide +kernel
theorem dX2_readTune_1 : decode cX2_readTune 1 = .ok (.invokevirtual 23, 3) := by decide +kernel
theorem dX2_readTune_4 : decode cX2_readTune 4 = .ok (.iconst 0, 1) := by decide +kernel
theorem dX2_readTune_5 : decode cX2_readTune 5 = .ok (.istore_n 2, 1) := by decide +kernel
theorem dX2_readTune_6 : decode cX2_readTune 6 = .ok (.iload_n 2, 1) := by decide +kernel
theorem dX2_readTune_7 : decode cX2_readTune 7 = .ok (.iconst 1, 1) := by decide +kernel
theorem dX2_readTune_8 : decode cX2_readTune 8 = .ok (.iadd, 1) := by decide +kernel
theorem dX2_readTune_9 : decode cX2_readTune 9 = .ok (.aload_n 0, 1) := by decide +kernel
theorem dX2_readTune_10 : decode cX2_readTune 10 = .ok (.getfield 15, 3) := by decide +kernel
theorem dX2_readTune_13 : decode cX2_readTune 13 = .ok (.if_icmp .ge 33, 3) := by decide +kernel
theorem dX2_readTune_16 : decode cX2_readTune 16 = .ok (.aload_n 1, 1) := by decide +kernel
theorem dX2_readTune_17 : decode cX2_readTune 17 = .ok (.aload_n 0, 1) := by decide +kernel
theorem dX2_readTune_18 : decode cX2_readTune 18 = .ok (.getfield 9, 3) := by decide +kernel
theorem dX2_readTune_21 : decode cX2_readTune 21 = .ok (.iload_n 2, 1) := by decide +kernel
theorem dX2_readTune_22 : decode cX2_readTune 22 = .ok (.iaload, 1) := by decide +kernel
theorem dX2_readTune_23 : decode cX2_readTune 23 = .ok (.bipush 48, 2) := by decide +kernel
theorem dX2_readTune_25 : decode cX2_readTune 25 = .ok (.isub, 1) := by decide +kernel
theorem dX2_readTune_26 : decode cX2_readTune 26 = .ok (.aload_n 0, 1) := by decide +kernel
theorem dX2_readTune_27 : decode cX2_readTune 27 = .ok (.getfield 9, 3) := by decide +kernel
theorem dX2_readTune_30 : decode cX2_readTune 30 = .ok (.iload_n 2, 1) := by decide +kernel
theorem dX2_readTune_31 : decode cX2_readTune 31 = .ok (.iconst 1, 1) := by decide +kernel
theorem dX2_readTune_32 : decode cX2_readTune 32 = .ok (.iadd, 1) := by decide +kernel
theorem dX2_readTune_33 : decode cX2_readTune 33 = .ok (.iaload, 1) := by decide +kernel
theorem dX2_readTune_34 : decode cX2_readTune 34 = .ok (.bipush 48, 2) := by decide +kernel
theorem dX2_readTune_36 : decode cX2_readTune 36 = .ok (.isub, 1) := by decide +kernel
theorem dX2_readTune_37 : decode cX2_readTune 37 = .ok (.invokevirtual 31, 3) := by decide +kernel
theorem dX2_readTune_40 : decode cX2_readTune 40 = .ok (.iinc 2 2, 3) := by decide +kernel
theorem dX2_readTune_43 : decode cX2_readTune 43 = .ok (.goto (-37), 3) := by decide +kernel
theorem dX2_readTune_46 : decode cX2_readTune 46 = .ok (.return_, 1) := by decide +kernel
theorem dX2_hasStepsOnly_0 : decode cX2_hasStepsOnly 0 = .ok (.iconst 0, 1) := by decide +kernel
theorem dX2_hasStepsOnly_1 : decode cX2_hasStepsOnly 1 = .ok (.istore_n 1, 1) := by decide +kernel
theorem dX2_hasStepsOnly_2 : decode cX2_hasStepsOnly 2 = .ok (.iload_n 1, 1) := by decide +kernel
theorem dX2_hasStepsOnly_3 : decode cX2_hasStepsOnly 3 = .ok (.aload_n 0, 1) := by decide +kernel
theorem dX2_hasStepsOnly_4 : decode cX2_hasStepsOnly 4 = .ok (.getfield 15, 3) := by decide +kernel
theorem dX2_hasStepsOnly_7 : decode cX2_hasStepsOnly 7 = .ok (.if_icmp .ge 20, 3) := by decide +kernel
theorem dX2_hasStepsOnly_10 : decode cX2_hasStepsOnly 10 = .ok (.aload_n 0, 1) := by decide +kernel
theorem dX2_hasStepsOnly_11 : decode cX2_hasStepsOnly 11 = .ok (.iload_n 1, 1) := by decide +kernel
theorem dX2_hasStepsOnly_12 : decode cX2_hasStepsOnly 12 = .ok (.invokevirtual 35, 3) := by decide +kernel
theorem dX2_hasStepsOnly_15 : decode cX2_hasStepsOnly 15 = .ok (.iconst (-1), 1) := by decide +kernel
theorem dX2_hasStepsOnly_16 : decode cX2_hasStepsOnly 16 = .ok (.if_icmp .ne 5, 3) := by decide +kernel
theorem dX2_hasStepsOnly_19 : decode cX2_hasStepsOnly 19 = .ok (.iconst 0, 1) := by decide +kernel
theorem dX2_hasStepsOnly_20 : decode cX2_hasStepsOnly 20 = .ok (.ireturn, 1) := by decide +kernel
theorem dX2_hasStepsOnly_21 : decode cX2_hasStepsOnly 21 = .ok (.iinc 1 1, 3) := by decide +kernel
theorem dX2_hasStepsOnly_24 : decode cX2_hasStepsOnly 24 = .ok (.goto (-22), 3) := by decide +kernel
theorem dX2_hasStepsOnly_27 : decode cX2_hasStepsOnly 27 = .ok (.iconst 1, 1) := by decide +kernel
theorem dX2_hasStepsOnly_28 : decode cX2_hasStepsOnly 28 = .ok (.ireturn, 1) := by decide +kernel
theorem dX2_stepAt_0 : decode cX2_stepAt 0 = .ok (.iload_n 1, 1) := by decide +kernel
theorem dX2_stepAt_1 : decode cX2_stepAt 1 = .ok (.iconst 0, 1) := by decide +kernel
theorem dX2_stepAt_2 : decode cX2_stepAt 2 = .ok (.aload_n 0, 1) := by decide +kernel
theorem dX2_stepAt_3 : decode cX2_stepAt 3 = .ok (.getfield 15, 3) := by decide +kernel
theorem dX2_stepAt_6 : decode cX2_stepAt 6 = .ok (.iconst 1, 1) := by decide +kernel
theorem dX2_stepAt_7 : decode cX2_stepAt 7 = .ok (.isub, 1) := by decide +kernel
theorem dX2_stepAt_8 : decode cX2_stepAt 8 = .ok (.invokestatic 19, 3) := by decide +kernel
theorem dX2_stepAt_11 : decode cX2_stepAt 11 = .ok (.ifCond .ne 5, 3) := by decide +kernel
theorem dX2_stepAt_14 : decode cX2_stepAt 14 = .ok (.iconst (-1), 1) := by decide +kernel
theorem dX2_stepAt_15 : decode cX2_stepAt 15 = .ok (.ireturn, 1) := by decide +kernel
theorem dX2_stepAt_16 : decode cX2_stepAt 16 = .ok (.aload_n 0, 1) := by decide +kernel
theorem dX2_stepAt_17 : decode cX2_stepAt 17 = .ok (.getfield 9, 3) := by decide +kernel
theorem dX2_stepAt_20 : decode cX2_stepAt 20 = .ok (.iload_n 1, 1) := by decide +kernel
theorem dX2_stepAt_21 : decode cX2_stepAt 21 = .ok (.iaload, 1) := by decide +kernel
theorem dX2_stepAt_22 : decode cX2_stepAt 22 = .ok (.lookupswitch 40 #[(104, 36), (111, 34), (115, 38)], 34) := by decide +kernel
theorem dX2_stepAt_56 : decode cX2_stepAt 56 = .ok (.iconst 0, 1) := by decide +kernel
theorem dX2_stepAt_57 : decode cX2_stepAt 57 = .ok (.ireturn, 1) := by decide +kernel
theorem dX2_stepAt_58 : decode cX2_stepAt 58 = .ok (.iconst 1, 1) := by decide +kernel
theorem dX2_stepAt_59 : decode cX2_stepAt 59 = .ok (.ireturn, 1) := by decide +kernel
theorem dX2_stepAt_60 : decode cX2_stepAt 60 = .ok (.iconst 2, 1) := by decide +kernel
theorem dX2_stepAt_61 : decode cX2_stepAt 61 = .ok (.ireturn, 1) := by decide +kernel
theorem dX2_stepAt_62 : decode cX2_stepAt 62 = .ok (.iconst (-1), 1) := by decide +kernel
theorem dX2_stepAt_63 : decode cX2_stepAt 63 = .ok (.ireturn, 1) := by decide +kernel
theorem dX3_init_0 : decode cX3_init 0 = .ok (.aload_n 0, 1) := by decide +kernel
theorem dX3_init_1 : decode cX3_init 1 = .ok (.invokespecial 1, 3) := by decide +kernel
theorem dX3_init_4 : decode cX3_init 4 = .ok (.aload_n 0, 1) := by decide +kernel
theorem dX3_init_5 : decode cX3_init 5 = .ok (.iconst 0, 1) := by decide +kernel
theorem dX3_init_6 : decode cX3_init 6 = .ok (.putfield 7, 3) := by decide +kernel
theorem dX3_init_9 : decode cX3_init 9 = .ok (.aload_n 0, 1) := by decide +kernel
theorem dX3_init_10 : decode cX3_init 10 = .ok (.iload_n 1, 1) := by decide +kernel
theorem dX3_init_11 : decode cX3_init 11 = .ok (.iconst 0, 1) := by decide +kernel
theorem dX3_init_12 : decode cX3_init 12 = .ok (.invokestatic 13, 3) := by decide +kernel
theorem dX3_init_15 : decode cX3_init 15 = .ok (.putfield 19, 3) := by decide +kernel
theorem dX3_init_18 : decode cX3_init 18 = .ok (.aload_n 0, 1) := by decide +kernel
theorem dX3_init_19 : decode cX3_init 19 = .ok (.aload_n 0, 1) := by decide +kernel
theorem dX3_init_20 : decode cX3_init 20 = .ok (.getfield 19, 3) := by decide +kernel
theorem dX3_init_23 : decode cX3_init 23 = .ok (.newarray .int, 2) := by decide +kernel
theorem dX3_init_25 : decode cX3_init 25 = .ok (.putfield 22, 3) := by decide +kernel
theorem dX3_init_28 : decode cX3_init 28 = .ok (.aload_n 0, 1) := by decide +kernel
theorem dX3_init_29 : decode cX3_init 29 = .ok (.aload_n 0, 1) := by decide +kernel
theorem dX3_init_30 : decode cX3_init 30 = .ok (.getfield 19, 3) := by decide +kernel
theorem dX3_init_33 : decode cX3_init 33 = .ok (.newarray .int, 2) := by decide +kernel
theorem dX3_init_35 : decode cX3_init 35 = .ok (.putfield 26, 3) := by decide +kernel
theorem dX3_init_38 : decode cX3_init 38 = .ok (.return_, 1) := by decide +kernel
theorem dX3_clear_0 : decode cX3_clear 0 = .ok (.aload_n 0, 1) := by decide +kernel
theorem dX3_clear_1 : decode cX3_clear 1 = .ok (.iconst 0, 1) := by decide +kernel
theorem dX3_clear_2 : decode cX3_clear 2 = .ok (.putfield 7, 3) := by decide +kernel
theorem dX3_clear_5 : decode cX3_clear 5 = .ok (.return_, 1) := by decide +kernel
theorem dX3_add_0 : decode cX3_add 0 = .ok (.aload_n 0, 1) := by decide +kernel
theorem dX3_add_1 : decode cX3_add 1 = .ok (.getfield 7, 3) := by decide +kernel
theorem dX3_add_4 : decode cX3_add 4 = .ok (.aload_n 0, 1) := by decide +kernel
theorem dX3_add_5 : decode cX3_add 5 = .ok (.getfield 19, 3) := by decide +kernel
theorem dX3_add_8 : decode cX3_add 8 = .ok (.if_icmp .ge 33, 3) := by decide +kernel
theorem dX3_add_11 : decode cX3_add 11 = .ok (.aload_n 0, 1) := by decide +kernel
theorem dX3_add_12 : decode cX3_add 12 = .ok (.getfield 22, 3) := by decide +kernel
theorem dX3_add_15 : decode cX3_add 15 = .ok (.aload_n 0, 1) := by decide +kernel
theorem dX3_add_16 : decode cX3_add 16 = .ok (.getfield 7, 3) := by decide +kernel
theorem dX3_add_19 : decode cX3_add 19 = .ok (.iload_n 1, 1) := by decide +kernel
theorem dX3_add_20 : decode cX3_add 20 = .ok (.iastore, 1) := by decide +kernel
theorem dX3_add_21 : decode cX3_add 21 = .ok (.aload_n 0, 1) := by decide +kernel
theorem dX3_add_22 : decode cX3_add 22 = .ok (.getfield 26, 3) := by decide +kernel
theorem dX3_add_25 : decode cX3_add 25 = .ok (.aload_n 0, 1) := by decide +kernel
theorem dX3_add_26 : decode cX3_add 26 = .ok (.getfield 7, 3) := by decide +kernel
theorem dX3_add_29 : decode cX3_add 29 = .ok (.iload_n 2, 1) := by decide +kernel
theorem dX3_add_30 : decode cX3_add 30 = .ok (.iastore, 1) := by decide +kernel
theorem dX3_add_31 : decode cX3_add 31 = .ok (.aload_n 0, 1) := by decide +kernel
theorem dX3_add_32 : decode cX3_add 32 = .ok (.dup, 1) := by decide +kernel
theorem dX3_add_33 : decode cX3_add 33 = .ok (.getfield 7, 3) := by decide +kernel
theorem dX3_add_36 : decode cX3_add 36 = .ok (.iconst 1, 1) := by decide +kernel
theorem dX3_add_37 : decode cX3_add 37 = .ok (.iadd, 1) := by decide +kernel
theorem dX3_add_38 : decode cX3_add 38 = .ok (.putfield 7, 3) := by decide +kernel
theorem dX3_add_41 : decode cX3_add 41 = .ok (.return_, 1) := by decide +kernel
theorem dX3_lengthenLast_0 : decode cX3_lengthenLast 0 = .ok (.aload_n 0, 1) := by decide +kernel
theorem dX3_lengthenLast_1 : decode cX3_lengthenLast 1 = .ok (.getfield 7, 3) := by decide +kernel
theorem dX3_lengthenLast_4 : decode cX3_lengthenLast 4 = .ok (.ifCond .le 15, 3) := by decide +kernel
theorem dX3_lengthenLast_7 : decode cX3_lengthenLast 7 = .ok (.aload_n 0, 1) := by decide +kernel
theorem dX3_lengthenLast_8 : decode cX3_lengthenLast 8 = .ok (.getfield 26, 3) := by decide +kernel
theorem dX3_lengthenLast_11 : decode cX3_lengthenLast 11 = .ok (.aload_n 0, 1) := by decide +kernel
theorem dX3_lengthenLast_12 : decode cX3_lengthenLast 12 = .ok (.getfield 7, 3) := by decide +kernel
theorem dX3_lengthenLast_15 : decode cX3_lengthenLast 15 = .ok (.iconst 1, 1) := by decide +kernel
theorem dX3_lengthenLast_16 : decode cX3_lengthenLast 16 = .ok (.isub, 1) := by decide +kernel
theorem dX3_lengthenLast_17 : decode cX3_lengthenLast 17 = .ok (.iconst 1, 1) := by decide +kernel
theorem dX3_lengthenLast_18 : decode cX3_lengthenLast 18 = .ok (.iastore, 1) := by decide +kernel
theorem dX3_lengthenLast_19 : decode cX3_lengthenLast 19 = .ok (.return_, 1) := by decide +kernel
theorem dX3_addPlaces_0 : decode cX3_addPlaces 0 = .ok (.iload_n 3, 1) := by decide +kernel
theorem dX3_addPlaces_1 : decode cX3_addPlaces 1 = .ok (.aload_n 1, 1) := by decide +kernel
theorem dX3_addPlaces_2 : decode cX3_addPlaces 2 = .ok (.getfield 7, 3) := by decide +kernel
theorem dX3_addPlaces_5 : decode cX3_addPlaces 5 = .ok (.invokestatic 29, 3) := by decide +kernel
theorem dX3_addPlaces_8 : decode cX3_addPlaces 8 = .ok (.istore 4, 2) := by decide +kernel
theorem dX3_addPlaces_10 : decode cX3_addPlaces 10 = .ok (.iload_n 2, 1) := by decide +kernel
theorem dX3_addPlaces_11 : decode cX3_addPlaces 11 = .ok (.iconst 0, 1) := by decide +kernel
theorem dX3_addPlaces_12 : decode cX3_addPlaces 12 = .ok (.invokestatic 13, 3) := by decide +kernel
theorem dX3_addPlaces_15 : decode cX3_addPlaces 15 = .ok (.istore 5, 2) := by decide +kernel
theorem dX3_addPlaces_17 : decode cX3_addPlaces 17 = .ok (.iload 5, 2) := by decide +kernel
theorem dX3_addPlaces_19 : decode cX3_addPlaces 19 = .ok (.iload 4, 2) := by decide +kernel
theorem dX3_addPlaces_21 : decode cX3_addPlaces 21 = .ok (.if_icmp .ge 27, 3) := by decide +kernel
theorem dX3_addPlaces_24 : decode cX3_addPlaces 24 = .ok (.aload_n 0, 1) := by decide +kernel
theorem dX3_addPlaces_25 : decode cX3_addPlaces 25 = .ok (.aload_n 1, 1) := by decide +kernel
theorem dX3_addPlaces_26 : decode cX3_addPlaces 26 = .ok (.getfield 22, 3) := by decide +kernel
theorem dX3_addPlaces_29 : decode cX3_addPlaces 29 = .ok (.iload 5, 2) := by decide +kernel
theorem dX3_addPlaces_31 : decode cX3_addPlaces 31 = .ok (.iaload, 1) := by decide +kernel
theorem dX3_addPlaces_32 : decode cX3_addPlaces 32 = .ok (.aload_n 1, 1) := by decide +kernel
theorem dX3_addPlaces_33 : decode cX3_addPlaces 33 = .ok (.getfield 26, 3) := by decide +kernel
theorem dX3_addPlaces_36 : decode cX3_addPlaces 36 = .ok (.iload 5, 2) := by decide +kernel
theorem dX3_addPlaces_38 : decode cX3_addPlaces 38 = .ok (.iaload, 1) := by decide +kernel
theorem dX3_addPlaces_39 : decode cX3_addPlaces 39 = .ok (.invokevirtual 32, 3) := by decide +kernel
theorem dX3_addPlaces_42 : decode cX3_addPlaces 42 = .ok (.iinc 5 1, 3) := by decide +kernel
theorem dX3_addPlaces_45 : decode cX3_addPlaces 45 = .ok (.goto (-28), 3) := by decide +kernel
theorem dX3_addPlaces_48 : decode cX3_addPlaces 48 = .ok (.return_, 1) := by decide +kernel
theorem dX3_copyFrom_0 : decode cX3_copyFrom 0 = .ok (.aload_n 0, 1) := by decide +kernel
theorem dX3_copyFrom_1 : decode cX3_copyFrom 1 = .ok (.invokevirtual 36, 3) := by decide +kernel
theorem dX3_copyFrom_4 : decode cX3_copyFrom 4 = .ok (.aload_n 0, 1) := by decide +kernel
theorem dX3_copyFrom_5 : decode cX3_copyFrom 5 = .ok (.aload_n 1, 1) := by decide +kernel
theorem dX3_copyFrom_6 : decode cX3_copyFrom 6 = .ok (.iconst 0, 1) := by decide +kernel
theorem dX3_copyFrom_7 : decode cX3_copyFrom 7 = .ok (.aload_n 1, 1) := by decide +kernel
theorem dX3_copyFrom_8 : decode cX3_copyFrom 8 = .ok (.getfield 7, 3) := by decide +kernel
theorem dX3_copyFrom_11 : decode cX3_copyFrom 11 = .ok (.invokevirtual 39, 3) := by decide +kernel
theorem dX3_copyFrom_14 : decode cX3_copyFrom 14 = .ok (.return_, 1) := by decide +kernel
theorem dX3_spansInAll_0 : decode cX3_spansInAll 0 = .ok (.iconst 0, 1) := by decide +kernel
theorem dX3_spansInAll_1 : decode cX3_spansInAll 1 = .ok (.istore_n 1, 1) := by decide +kernel
theorem dX3_spansInAll_2 : decode cX3_spansInAll 2 = .ok (.iconst 0, 1) := by decide +kernel
theorem dX3_spansInAll_3 : decode cX3_spansInAll 3 = .ok (.istore_n 2, 1) := by decide +kernel
theorem dX3_spansInAll_4 : decode cX3_spansInAll 4 = .ok (.iload_n 2, 1) := by decide +kernel
theorem dX3_spansInAll_5 : decode cX3_spansInAll 5 = .ok (.aload_n 0, 1) := by decide +kernel
theorem dX3_spansInAll_6 : decode cX3_spansInAll 6 = .ok (.getfield 7, 3) := by decide +kernel
theorem dX3_spansInAll_9 : decode cX3_spansInAll 9 = .ok (.if_icmp .ge 18, 3) := by decide +kernel
theorem dX3_spansInAll_12 : decode cX3_spansInAll 12 = .ok (.iload_n 1, 1) := by decide +kernel
theorem dX3_spansInAll_13 : decode cX3_spansInAll 13 = .ok (.aload_n 0, 1) := by decide +kernel
theorem dX3_spansInAll_14 : decode cX3_spansInAll 14 = .ok (.getfield 26, 3) := by decide +kernel
theorem dX3_spansInAll_17 : decode cX3_spansInAll 17 = .ok (.iload_n 2, 1) := by decide +kernel
theorem dX3_spansInAll_18 : decode cX3_spansInAll 18 = .ok (.iaload, 1) := by decide +kernel
theorem dX3_spansInAll_19 : decode cX3_spansInAll 19 = .ok (.iadd, 1) := by decide +kernel
theorem dX3_spansInAll_20 : decode cX3_spansInAll 20 = .ok (.istore_n 1, 1) := by decide +kernel
theorem dX3_spansInAll_21 : decode cX3_spansInAll 21 = .ok (.iinc 2 1, 3) := by decide +kernel
theorem dX3_spansInAll_24 : decode cX3_spansInAll 24 = .ok (.goto (-20), 3) := by decide +kernel
theorem dX3_spansInAll_27 : decode cX3_spansInAll 27 = .ok (.iload_n 1, 1) := by decide +kernel
theorem dX3_spansInAll_28 : decode cX3_spansInAll 28 = .ok (.ireturn, 1) := by decide +kernel
theorem dX4_init_0 : decode cX4_init 0 = .ok (.aload_n 0, 1) := by decide +kernel
theorem dX4_init_1 : decode cX4_init 1 = .ok (.invokespecial 3, 3) := by decide +kernel
theorem dX4_init_4 : decode cX4_init 4 = .ok (.aload_n 0, 1) := by decide +kernel
theorem dX4_init_5 : decode cX4_init 5 = .ok (.new 9, 3) := by decide +kernel
theorem dX4_init_8 : decode cX4_init 8 = .ok (.dup, 1) := by decide +kernel
theorem dX4_init_9 : decode cX4_init 9 = .ok (.invokespecial 11, 3) := by decide +kernel
theorem dX4_init_12 : decode cX4_init 12 = .ok (.putfield 12, 3) := by decide +kernel
theorem dX4_init_15 : decode cX4_init 15 = .ok (.aload_n 0, 1) := by decide +kernel
theorem dX4_init_16 : decode cX4_init 16 = .ok (.new 16, 3) := by decide +kernel
theorem dX4_init_19 : decode cX4_init 19 = .ok (.dup, 1) := by decide +kernel
theorem dX4_init_20 : decode cX4_init 20 = .ok (.invokespecial 18, 3) := by decide +kernel
theorem dX4_init_23 : decode cX4_init 23 = .ok (.putfield 19, 3) := by decide +kernel
theorem dX4_init_26 : decode cX4_init 26 = .ok (.aload_n 0, 1) := by decide +kernel
theorem dX4_init_27 : decode cX4_init 27 = .ok (.iconst 2, 1) := by decide +kernel
theorem dX4_init_28 : decode cX4_init 28 = .ok (.anewarray 16, 3) := by decide +kernel
theorem dX4_init_31 : decode cX4_init 31 = .ok (.dup, 1) := by decide +kernel
theorem dX4_init_32 : decode cX4_init 32 = .ok (.iconst 0, 1) := by decide +kernel
theorem dX4_init_33 : decode cX4_init 33 = .ok (.new 16, 3) := by decide +kernel
theorem dX4_init_36 : decode cX4_init 36 = .ok (.dup, 1) := by decide +kernel
theorem dX4_init_37 : decode cX4_init 37 = .ok (.invokespecial 18, 3) := by decide +kernel
theorem dX4_init_40 : decode cX4_init 40 = .ok (.aastore, 1) := by decide +kernel
theorem dX4_init_41 : decode cX4_init 41 = .ok (.dup, 1) := by decide +kernel
theorem dX4_init_42 : decode cX4_init 42 = .ok (.iconst 1, 1) := by decide +kernel
theorem dX4_init_43 : decode cX4_init 43 = .ok (.new 16, 3) := by decide +kernel
theorem dX4_init_46 : decode cX4_init 46 = .ok (.dup, 1) := by decide +kernel
theorem dX4_init_47 : decode cX4_init 47 = .ok (.invokespecial 18, 3) := by decide +kernel
theorem dX4_init_50 : decode cX4_init 50 = .ok (.aastore, 1) := by decide +kernel
theorem dX4_init_51 : decode cX4_init 51 = .ok (.putfield 23, 3) := by decide +kernel
theorem dX4_init_54 : decode cX4_init 54 = .ok (.aload_n 0, 1) := by decide +kernel
theorem dX4_init_55 : decode cX4_init 55 = .ok (.new 27, 3) := by decide +kernel
theorem dX4_init_58 : decode cX4_init 58 = .ok (.dup, 1) := by decide +kernel
theorem dX4_init_59 : decode cX4_init 59 = .ok (.invokespecial 29, 3) := by decide +kernel
theorem dX4_init_62 : decode cX4_init 62 = .ok (.putfield 30, 3) := by decide +kernel
theorem dX4_init_65 : decode cX4_init 65 = .ok (.aload_n 0, 1) := by decide +kernel
theorem dX4_init_66 : decode cX4_init 66 = .ok (.iconst 0, 1) := by decide +kernel
theorem dX4_init_67 : decode cX4_init 67 = .ok (.putfield 34, 3) := by decide +kernel
theorem dX4_init_70 : decode cX4_init 70 = .ok (.return_, 1) := by decide +kernel
theorem dX4_say_0 : decode cX4_say 0 = .ok (.iload_n 1, 1) := by decide +kernel
theorem dX4_say_1 : decode cX4_say 1 = .ok (.bipush 33, 2) := by decide +kernel
theorem dX4_say_3 : decode cX4_say 3 = .ok (.bipush 126, 2) := by decide +kernel
theorem dX4_say_5 : decode cX4_say 5 = .ok (.invokestatic 38, 3) := by decide +kernel
theorem dX4_say_8 : decode cX4_say 8 = .ok (.ifCond .ne 6, 3) := by decide +kernel
theorem dX4_say_11 : decode cX4_say 11 = .ok (.bipush (-2), 2) := by decide +kernel
theorem dX4_say_13 : decode cX4_say 13 = .ok (.ireturn, 1) := by decide +kernel
theorem dX4_say_14 : decode cX4_say 14 = .ok (.aload_n 0, 1) := by decide +kernel
theorem dX4_say_15 : decode cX4_say 15 = .ok (.getfield 12, 3) := by decide +kernel
theorem dX4_say_18 : decode cX4_say 18 = .ok (.getfield 42, 3) := by decide +kernel
theorem dX4_say_21 : decode cX4_say 21 = .ok (.bipush 22, 2) := by decide +kernel
theorem dX4_say_23 : decode cX4_say 23 = .ok (.if_icmp .lt 6, 3) := by decide +kernel
theorem dX4_say_26 : decode cX4_say 26 = .ok (.bipush (-4), 2) := by decide +kernel
theorem dX4_say_28 : decode cX4_say 28 = .ok (.ireturn, 1) := by decide +kernel
theorem dX4_say_29 : decode cX4_say 29 = .ok (.aload_n 0, 1) := by decide +kernel
theorem dX4_say_30 : decode cX4_say 30 = .ok (.getfield 12, 3) := by decide +kernel
theorem dX4_say_33 : decode cX4_say 33 = .ok (.iload_n 1, 1) := by decide +kernel
theorem dX4_say_34 : decode cX4_say 34 = .ok (.invokevirtual 45, 3) := by decide +kernel
theorem dX4_say_37 : decode cX4_say 37 = .ok (.aload_n 0, 1) := by decide +kernel
theorem dX4_say_38 : decode cX4_say 38 = .ok (.getfield 12, 3) := by decide +kernel
theorem dX4_say_41 : decode cX4_say 41 = .ok (.getfield 42, 3) := by decide +kernel
theorem dX4_say_44 : decode cX4_say 44 = .ok (.ireturn, 1) := by decide +kernel
theorem dX4_wipe_0 : decode cX4_wipe 0 = .ok (.aload_n 0, 1) := by decide +kernel
theorem dX4_wipe_1 : decode cX4_wipe 1 = .ok (.getfield 12, 3) := by decide +kernel
theorem dX4_wipe_4 : decode cX4_wipe 4 = .ok (.getfield 42, 3) := by decide +kernel
theorem dX4_wipe_7 : decode cX4_wipe 7 = .ok (.istore_n 1, 1) := by decide +kernel
theorem dX4_wipe_8 : decode cX4_wipe 8 = .ok (.aload_n 0, 1) := by decide +kernel
theorem dX4_wipe_9 : decode cX4_wipe 9 = .ok (.getfield 12, 3) := by decide +kernel
theorem dX4_wipe_12 : decode cX4_wipe 12 = .ok (.invokevirtual 49, 3) := by decide +kernel
theorem dX4_wipe_15 : decode cX4_wipe 15 = .ok (.iload_n 1, 1) := by decide +kernel
theorem dX4_wipe_16 : decode cX4_wipe 16 = .ok (.ireturn, 1) := by decide +kernel
theorem dX4_fault_0 : decode cX4_fault 0 = .ok (.iload_n 1, 1) := by decide +kernel
theorem dX4_fault_1 : decode cX4_fault 1 = .ok (.iconst 0, 1) := by decide +kernel
theorem dX4_fault_2 : decode cX4_fault 2 = .ok (.iconst 1, 1) := by decide +kernel
theorem dX4_fault_3 : decode cX4_fault 3 = .ok (.invokestatic 38, 3) := by decide +kernel
theorem dX4_fault_6 : decode cX4_fault 6 = .ok (.ifCond .ne 6, 3) := by decide +kernel
theorem dX4_fault_9 : decode cX4_fault 9 = .ok (.bipush (-2), 2) := by decide +kernel
theorem dX4_fault_11 : decode cX4_fault 11 = .ok (.ireturn, 1) := by decide +kernel
theorem dX4_fault_12 : decode cX4_fault 12 = .ok (.iload_n 1, 1) := by decide +kernel
theorem dX4_fault_13 : decode cX4_fault 13 = .ok (.ifCond .ne 13, 3) := by decide +kernel
theorem dX4_fault_16 : decode cX4_fault 16 = .ok (.aload_n 0, 1) := by decide +kernel
theorem dX4_fault_17 : decode cX4_fault 17 = .ok (.getfield 12, 3) := by decide +kernel
theorem dX4_fault_20 : decode cX4_fault 20 = .ok (.invokevirtual 52, 3) := by decide +kernel
theorem dX4_fault_23 : decode cX4_fault 23 = .ok (.goto 10, 3) := by decide +kernel
theorem dX4_fault_26 : decode cX4_fault 26 = .ok (.aload_n 0, 1) := by decide +kernel
theorem dX4_fault_27 : decode cX4_fault 27 = .ok (.getfield 12, 3) := by decide +kernel
theorem dX4_fault_30 : decode cX4_fault 30 = .ok (.invokevirtual 56, 3) := by decide +kernel
theorem dX4_fault_33 : decode cX4_fault 33 = .ok (.ireturn, 1) := by decide +kernel
theorem dX4_line_0 : decode cX4_line 0 = .ok (.iload_n 1, 1) := by decide +kernel
theorem dX4_line_1 : decode cX4_line 1 = .ok (.invokestatic 59, 3) := by decide +kernel
theorem dX4_line_4 : decode cX4_line 4 = .ok (.ifCond .ne 5, 3) := by decide +kernel
theorem dX4_line_7 : decode cX4_line 7 = .ok (.iconst (-1), 1) := by decide +kernel
theorem dX4_line_8 : decode cX4_line 8 = .ok (.ireturn, 1) := by decide +kernel
theorem dX4_line_9 : decode cX4_line 9 = .ok (.aload_n 0, 1) := by decide +kernel
theorem dX4_line_10 : decode cX4_line 10 = .ok (.getfield 12, 3) := by decide +kernel
theorem dX4_line_13 : decode cX4_line 13 = .ok (.invokevirtual 52, 3) := by decide +kernel
theorem dX4_line_16 : decode cX4_line 16 = .ok (.bipush (-6), 2) := by decide +kernel
theorem dX4_line_18 : decode cX4_line 18 = .ok (.if_icmp .eq 6, 3) := by decide +kernel
theorem dX4_line_21 : decode cX4_line 21 = .ok (.bipush (-7), 2) := by decide +kernel
theorem dX4_line_23 : decode cX4_line 23 = .ok (.ireturn, 1) := by decide +kernel
theorem dX4_line_24 : decode cX4_line 24 = .ok (.aload_n 0, 1) := by decide +kernel
theorem dX4_line_25 : decode cX4_line 25 = .ok (.getfield 19, 3) := by decide +kernel
theorem dX4_line_28 : decode cX4_line 28 = .ok (.getfield 63, 3) := by decide +kernel
theorem dX4_line_31 : decode cX4_line 31 = .ok (.iload_n 1, 1) := by decide +kernel
theorem dX4_line_32 : decode cX4_line 32 = .ok (.aaload, 1) := by decide +kernel
theorem dX4_line_33 : decode cX4_line 33 = .ok (.astore_n 2, 1) := by decide +kernel
theorem dX4_line_34 : decode cX4_line 34 = .ok (.aload_n 0, 1) := by decide +kernel
theorem dX4_line_35 : decode cX4_line 35 = .ok (.getfield 12, 3) := by decide +kernel
theorem dX4_line_38 : decode cX4_line 38 = .ok (.aload_n 2, 1) := by decide +kernel
theorem dX4_line_39 : decode cX4_line 39 = .ok (.invokevirtual 67, 3) := by decide +kernel
theorem dX4_line_42 : decode cX4_line 42 = .ok (.aload_n 0, 1) := by decide +kernel
theorem dX4_line_43 : decode cX4_line 43 = .ok (.getfield 12, 3) := by decide +kernel
theorem dX4_line_46 : decode cX4_line 46 = .ok (.invokevirtual 49, 3) := by decide +kernel
theorem dX4_line_49 : decode cX4_line 49 = .ok (.aload_n 2, 1) := by decide +kernel
theorem dX4_line_50 : decode cX4_line 50 = .ok (.getfield 71, 3) := by decide +kernel
theorem dX4_line_53 : decode cX4_line 53 = .ok (.ireturn, 1) := by decide +kernel
theorem dX4_tune_0 : decode cX4_tune 0 = .ok (.iload_n 1, 1) := by decide +kernel
theorem dX4_tune_1 : decode cX4_tune 1 = .ok (.invokestatic 74, 3) := by decide +kernel
theorem dX4_tune_4 : decode cX4_tune 4 = .ok (.ifCond .ne 5, 3) := by decide +kernel
theorem dX4_tune_7 : decode cX4_tune 7 = .ok (.iconst (-1), 1) := by decide +kernel
theorem dX4_tune_8 : decode cX4_tune 8 = .ok (.ireturn, 1) := by decide +kernel
theorem dX4_tune_9 : decode cX4_tune 9 = .ok (.aload_n 0, 1) := by decide +kernel
theorem dX4_tune_10 : decode cX4_tune 10 = .ok (.getfield 12, 3) := by decide +kernel
theorem dX4_tune_13 : decode cX4_tune 13 = .ok (.invokevirtual 56, 3) := by decide +kernel
theorem dX4_tune_16 : decode cX4_tune 16 = .ok (.bipush (-6), 2) := by decide +kernel
theorem dX4_tune_18 : decode cX4_tune 18 = .ok (.if_icmp .eq 6, 3) := by decide +kernel
theorem dX4_tune_21 : decode cX4_tune 21 = .ok (.bipush (-7), 2) := by decide +kernel
theorem dX4_tune_23 : decode cX4_tune 23 = .ok (.ireturn, 1) := by decide +kernel
theorem dX4_tune_24 : decode cX4_tune 24 = .ok (.aload_n 0, 1) := by decide +kernel
theorem dX4_tune_25 : decode cX4_tune 25 = .ok (.getfield 19, 3) := by decide +kernel
theorem dX4_tune_28 : decode cX4_tune 28 = .ok (.getfield 77, 3) := by decide +kernel
theorem dX4_tune_31 : decode cX4_tune 31 = .ok (.iload_n 1, 1) := by decide +kernel
theorem dX4_tune_32 : decode cX4_tune 32 = .ok (.aaload, 1) := by decide +kernel
theorem dX4_tune_33 : decode cX4_tune 33 = .ok (.astore_n 2, 1) := by decide +kernel
theorem dX4_tune_34 : decode cX4_tune 34 = .ok (.aload_n 0, 1) := by decide +kernel
theorem dX4_tune_35 : decode cX4_tune 35 = .ok (.getfield 12, 3) := by decide +kernel
theorem dX4_tune_38 : decode cX4_tune 38 = .ok (.aload_n 2, 1) := by decide +kernel
theorem dX4_tune_39 : decode cX4_tune 39 = .ok (.invokevirtual 80, 3) := by decide +kernel
theorem dX4_tune_42 : decode cX4_tune 42 = .ok (.aload_n 0, 1) := by decide +kernel
theorem dX4_tune_43 : decode cX4_tune 43 = .ok (.getfield 12, 3) := by decide +kernel
theorem dX4_tune_46 : decode cX4_tune 46 = .ok (.invokevirtual 49, 3) := by decide +kernel
theorem dX4_tune_49 : decode cX4_tune 49 = .ok (.aload_n 2, 1) := by decide +kernel
theorem dX4_tune_50 : decode cX4_tune 50 = .ok (.getfield 71, 3) := by decide +kernel
theorem dX4_tune_53 : decode cX4_tune 53 = .ok (.ireturn, 1) := by decide +kernel
theorem dX4_rule_0 : decode cX4_rule 0 = .ok (.iload_n 1, 1) := by decide +kernel
theorem dX4_rule_1 : decode cX4_rule 1 = .ok (.iconst 0, 1) := by decide +kernel
theorem dX4_rule_2 : decode cX4_rule 2 = .ok (.iconst 3, 1) := by decide +kernel
theorem dX4_rule_3 : decode cX4_rule 3 = .ok (.invokestatic 38, 3) := by decide +kernel
theorem dX4_rule_6 : decode cX4_rule 6 = .ok (.ifCond .eq 13, 3) := by decide +kernel
theorem dX4_rule_9 : decode cX4_rule 9 = .ok (.iload_n 2, 1) := by decide +kernel
theorem dX4_rule_10 : decode cX4_rule 10 = .ok (.iconst 0, 1) := by decide +kernel
theorem dX4_rule_11 : decode cX4_rule 11 = .ok (.bipush 9, 2) := by decide +kernel
theorem dX4_rule_13 : decode cX4_rule 13 = .ok (.invokestatic 38, 3) := by decide +kernel
theorem dX4_rule_16 : decode cX4_rule 16 = .ok (.ifCond .ne 6, 3) := by decide +kernel
theorem dX4_rule_19 : decode cX4_rule 19 = .ok (.bipush (-2), 2) := by decide +kernel
theorem dX4_rule_21 : decode cX4_rule 21 = .ok (.ireturn, 1) := by decide +kernel
theorem dX4_rule_22 : decode cX4_rule 22 = .ok (.aload_n 0, 1) := by decide +kernel
theorem dX4_rule_23 : decode cX4_rule 23 = .ok (.getfield 19, 3) := by decide +kernel
theorem dX4_rule_26 : decode cX4_rule 26 = .ok (.getfield 83, 3) := by decide +kernel
theorem dX4_rule_29 : decode cX4_rule 29 = .ok (.iload_n 1, 1) := by decide +kernel
theorem dX4_rule_30 : decode cX4_rule 30 = .ok (.iaload, 1) := by decide +kernel
theorem dX4_rule_31 : decode cX4_rule 31 = .ok (.istore_n 3, 1) := by decide +kernel
theorem dX4_rule_32 : decode cX4_rule 32 = .ok (.aload_n 0, 1) := by decide +kernel
theorem dX4_rule_33 : decode cX4_rule 33 = .ok (.getfield 19, 3) := by decide +kernel
theorem dX4_rule_36 : decode cX4_rule 36 = .ok (.getfield 83, 3) := by decide +kernel
theorem dX4_rule_39 : decode cX4_rule 39 = .ok (.iload_n 1, 1) := by decide +kernel
theorem dX4_rule_40 : decode cX4_rule 40 = .ok (.iload_n 2, 1) := by decide +kernel
theorem dX4_rule_41 : decode cX4_rule 41 = .ok (.iastore, 1) := by decide +kernel
theorem dX4_rule_42 : decode cX4_rule 42 = .ok (.iload_n 3, 1) := by decide +kernel
theorem dX4_rule_43 : decode cX4_rule 43 = .ok (.ireturn, 1) := by decide +kernel
theorem dX4_syllable_0 : decode cX4_syllable 0 = .ok (.iload_n 1, 1) := by decide +kernel
theorem dX4_syllable_1 : decode cX4_syllable 1 = .ok (.invokestatic 59, 3) := by decide +kernel
theorem dX4_syllable_4 : decode cX4_syllable 4 = .ok (.ifCond .eq 20, 3) := by decide +kernel
theorem dX4_syllable_7 : decode cX4_syllable 7 = .ok (.aload_n 0, 1) := by decide +kernel
theorem dX4_syllable_8 : decode cX4_syllable 8 = .ok (.getfield 19, 3) := by decide +kernel
theorem dX4_syllable_11 : decode cX4_syllable 11 = .ok (.getfield 63, 3) := by decide +kernel
theorem dX4_syllable_14 : decode cX4_syllable 14 = .ok (.iload_n 1, 1) := by decide +kernel
theorem dX4_syllable_15 : decode cX4_syllable 15 = .ok (.aaload, 1) := by decide +kernel
theorem dX4_syllable_16 : decode cX4_syllable 16 = .ok (.iload_n 2, 1) := by decide +kernel
theorem dX4_syllable_17 : decode cX4_syllable 17 = .ok (.iload_n 3, 1) := by decide +kernel
theorem dX4_syllable_18 : decode cX4_syllable 18 = .ok (.invokestatic 87, 3) := by decide +kernel
theorem dX4_syllable_21 : decode cX4_syllable 21 = .ok (.goto 4, 3) := by decide +kernel
theorem dX4_syllable_24 : decode cX4_syllable 24 = .ok (.iconst (-1), 1) := by decide +kernel
theorem dX4_syllable_25 : decode cX4_syllable 25 = .ok (.ireturn, 1) := by decide +kernel
theorem dX4_note_0 : decode cX4_note 0 = .ok (.iload_n 1, 1) := by decide +kernel
theorem dX4_note_1 : decode cX4_note 1 = .ok (.invokestatic 74, 3) := by decide +kernel
theorem dX4_note_4 : decode cX4_note 4 = .ok (.ifCond .eq 20, 3) := by decide +kernel
theorem dX4_note_7 : decode cX4_note 7 = .ok (.aload_n 0, 1) := by decide +kernel
theorem dX4_note_8 : decode cX4_note 8 = .ok (.getfield 19, 3) := by decide +kernel
theorem dX4_note_11 : decode cX4_note 11 = .ok (.getfield 77, 3) := by decide +kernel
theorem dX4_note_14 : decode cX4_note 14 = .ok (.iload_n 1, 1) := by decide +kernel
theorem dX4_note_15 : decode cX4_note 15 = .ok (.aaload, 1) := by decide +kernel
theorem dX4_note_16 : decode cX4_note 16 = .ok (.iload_n 2, 1) := by decide +kernel
theorem dX4_note_17 : decode cX4_note 17 = .ok (.iload_n 3, 1) := by decide +kernel
theorem dX4_note_18 : decode cX4_note 18 = .ok (.invokestatic 87, 3) := by decide +kernel
theorem dX4_note_21 : decode cX4_note 21 = .ok (.goto 4, 3) := by decide +kernel
theorem dX4_note_24 : decode cX4_note 24 = .ok (.iconst (-1), 1) := by decide +kernel
theorem dX4_note_25 : decode cX4_note 25 = .ok (.ireturn, 1) := by decide +kernel
theorem dX4_cost_0 : decode cX4_cost 0 = .ok (.iload_n 1, 1) := by decide +kernel
theorem dX4_cost_1 : decode cX4_cost 1 = .ok (.iload_n 2, 1) := by decide +kernel
theorem dX4_cost_2 : decode cX4_cost 2 = .ok (.invokestatic 91, 3) := by decide +kernel
theorem dX4_cost_5 : decode cX4_cost 5 = .ok (.ifCond .ne 5, 3) := by decide +kernel
theorem dX4_cost_8 : decode cX4_cost 8 = .ok (.iconst (-1), 1) := by decide +kernel
theorem dX4_cost_9 : decode cX4_cost 9 = .ok (.ireturn, 1) := by decide +kernel
theorem dX4_cost_10 : decode cX4_cost 10 = .ok (.aload_n 0, 1) := by decide +kernel
theorem dX4_cost_11 : decode cX4_cost 11 = .ok (.getfield 12, 3) := by decide +kernel
theorem dX4_cost_14 : decode cX4_cost 14 = .ok (.invokevirtual 95, 3) := by decide +kernel
theorem dX4_cost_17 : decode cX4_cost 17 = .ok (.ifCond .ne 6, 3) := by decide +kernel
theorem dX4_cost_20 : decode cX4_cost 20 = .ok (.bipush (-7), 2) := by decide +kernel
theorem dX4_cost_22 : decode cX4_cost 22 = .ok (.ireturn, 1) := by decide +kernel
theorem dX4_cost_23 : decode cX4_cost 23 = .ok (.aload_n 0, 1) := by decide +kernel
theorem dX4_cost_24 : decode cX4_cost 24 = .ok (.getfield 30, 3) := by decide +kernel
theorem dX4_cost_27 : decode cX4_cost 27 = .ok (.aload_n 0, 1) := by decide +kernel
theorem dX4_cost_28 : decode cX4_cost 28 = .ok (.getfield 19, 3) := by decide +kernel
theorem dX4_cost_31 : decode cX4_cost 31 = .ok (.iload_n 1, 1) := by decide +kernel
theorem dX4_cost_32 : decode cX4_cost 32 = .ok (.iload_n 2, 1) := by decide +kernel
theorem dX4_cost_33 : decode cX4_cost 33 = .ok (.invokevirtual 99, 3) := by decide +kernel
theorem dX4_cost_36 : decode cX4_cost 36 = .ok (.aload_n 0, 1) := by decide +kernel
theorem dX4_cost_37 : decode cX4_cost 37 = .ok (.getfield 30, 3) := by decide +kernel
theorem dX4_cost_40 : decode cX4_cost 40 = .ok (.aload_n 0, 1) := by decide +kernel
theorem dX4_cost_41 : decode cX4_cost 41 = .ok (.getfield 12, 3) := by decide +kernel
theorem dX4_cost_44 : decode cX4_cost 44 = .ok (.invokevirtual 103, 3) := by decide +kernel
theorem dX4_cost_47 : decode cX4_cost 47 = .ok (.ireturn, 1) := by decide +kernel
theorem dX4_least_0 : decode cX4_least 0 = .ok (.iload_n 1, 1) := by decide +kernel
theorem dX4_least_1 : decode cX4_least 1 = .ok (.iload_n 2, 1) := by decide +kernel
theorem dX4_least_2 : decode cX4_least 2 = .ok (.invokestatic 91, 3) := by decide +kernel
theorem dX4_least_5 : decode cX4_least 5 = .ok (.ifCond .ne 5, 3) := by decide +kernel
theorem dX4_least_8 : decode cX4_least 8 = .ok (.iconst (-1), 1) := by decide +kernel
theorem dX4_least_9 : decode cX4_least 9 = .ok (.ireturn, 1) := by decide +kernel
theorem dX4_least_10 : decode cX4_least 10 = .ok (.iload_n 3, 1) := by decide +kernel
theorem dX4_least_11 : decode cX4_least 11 = .ok (.iconst (-1), 1) := by decide +kernel
theorem dX4_least_12 : decode cX4_least 12 = .ok (.if_icmp .ge 6, 3) := by decide +kernel
theorem dX4_least_15 : decode cX4_least 15 = .ok (.bipush (-2), 2) := by decide +kernel
theorem dX4_least_17 : decode cX4_least 17 = .ok (.ireturn, 1) := by decide +kernel
theorem dX4_least_18 : decode cX4_least 18 = .ok (.aload_n 0, 1) := by decide +kernel
theorem dX4_least_19 : decode cX4_least 19 = .ok (.getfield 30, 3) := by decide +kernel
theorem dX4_least_22 : decode cX4_least 22 = .ok (.aload_n 0, 1) := by decide +kernel
theorem dX4_least_23 : decode cX4_least 23 = .ok (.getfield 19, 3) := by decide +kernel
theorem dX4_least_26 : decode cX4_least 26 = .ok (.iload_n 1, 1) := by decide +kernel
theorem dX4_least_27 : decode cX4_least 27 = .ok (.iload_n 2, 1) := by decide +kernel
theorem dX4_least_28 : decode cX4_least 28 = .ok (.invokevirtual 99, 3) := by decide +kernel
theorem dX4_least_31 : decode cX4_least 31 = .ok (.iload_n 3, 1) := by decide +kernel
theorem dX4_least_32 : decode cX4_least 32 = .ok (.iconst (-1), 1) := by decide +kernel
theorem dX4_least_33 : decode cX4_least 33 = .ok (.if_icmp .ne 13, 3) := by decide +kernel
theorem dX4_least_36 : decode cX4_least 36 = .ok (.aload_n 0, 1) := by decide +kernel
theorem dX4_least_37 : decode cX4_least 37 = .ok (.getfield 30, 3) := by decide +kernel
theorem dX4_least_40 : decode cX4_least 40 = .ok (.invokevirtual 107, 3) := by decide +kernel
theorem dX4_least_43 : decode cX4_least 43 = .ok (.goto 11, 3) := by decide +kernel
theorem dX4_least_46 : decode cX4_least 46 = .ok (.aload_n 0, 1) := by decide +kernel
theorem dX4_least_47 : decode cX4_least 47 = .ok (.getfield 30, 3) := by decide +kernel
theorem dX4_least_50 : decode cX4_least 50 = .ok (.iload_n 3, 1) := by decide +kernel
theorem dX4_least_51 : decode cX4_least 51 = .ok (.invokevirtual 110, 3) := by decide +kernel
theorem dX4_least_54 : decode cX4_least 54 = .ok (.ireturn, 1) := by decide +kernel
theorem dX4_ways_0 : decode cX4_ways 0 = .ok (.iload_n 1, 1) := by decide +kernel
theorem dX4_ways_1 : decode cX4_ways 1 = .ok (.iload_n 2, 1) := by decide +kernel
theorem dX4_ways_2 : decode cX4_ways 2 = .ok (.invokestatic 91, 3) := by decide +kernel
theorem dX4_ways_5 : decode cX4_ways 5 = .ok (.ifCond .ne 5, 3) := by decide +kernel
theorem dX4_ways_8 : decode cX4_ways 8 = .ok (.iconst (-1), 1) := by decide +kernel
theorem dX4_ways_9 : decode cX4_ways 9 = .ok (.ireturn, 1) := by decide +kernel
theorem dX4_ways_10 : decode cX4_ways 10 = .ok (.iload_n 3, 1) := by decide +kernel
theorem dX4_ways_11 : decode cX4_ways 11 = .ok (.iconst 0, 1) := by decide +kernel
theorem dX4_ways_12 : decode cX4_ways 12 = .ok (.iconst 2, 1) := by decide +kernel
theorem dX4_ways_13 : decode cX4_ways 13 = .ok (.invokestatic 38, 3) := by decide +kernel
theorem dX4_ways_16 : decode cX4_ways 16 = .ok (.ifCond .ne 6, 3) := by decide +kernel
theorem dX4_ways_19 : decode cX4_ways 19 = .ok (.bipush (-2), 2) := by decide +kernel
theorem dX4_ways_21 : decode cX4_ways 21 = .ok (.ireturn, 1) := by decide +kernel
theorem dX4_ways_22 : decode cX4_ways 22 = .ok (.aload_n 0, 1) := by decide +kernel
theorem dX4_ways_23 : decode cX4_ways 23 = .ok (.getfield 30, 3) := by decide +kernel
theorem dX4_ways_26 : decode cX4_ways 26 = .ok (.aload_n 0, 1) := by decide +kernel
theorem dX4_ways_27 : decode cX4_ways 27 = .ok (.getfield 19, 3) := by decide +kernel
theorem dX4_ways_30 : decode cX4_ways 30 = .ok (.iload_n 1, 1) := by decide +kernel
theorem dX4_ways_31 : decode cX4_ways 31 = .ok (.iload_n 2, 1) := by decide +kernel
theorem dX4_ways_32 : decode cX4_ways 32 = .ok (.invokevirtual 99, 3) := by decide +kernel
theorem dX4_ways_35 : decode cX4_ways 35 = .ok (.iload_n 3, 1) := by decide +kernel
theorem dX4_ways_36 : decode cX4_ways 36 = .ok (.lookupswitch 44 #[(0, 28), (1, 36)], 28) := by decide +kernel
theorem dX4_ways_64 : decode cX4_ways 64 = .ok (.aload_n 0, 1) := by decide +kernel
theorem dX4_ways_65 : decode cX4_ways 65 = .ok (.getfield 30, 3) := by decide +kernel
theorem dX4_ways_68 : decode cX4_ways 68 = .ok (.invokevirtual 114, 3) := by decide +kernel
theorem dX4_ways_71 : decode cX4_ways 71 = .ok (.ireturn, 1) := by decide +kernel
theorem dX4_ways_72 : decode cX4_ways 72 = .ok (.aload_n 0, 1) := by decide +kernel
theorem dX4_ways_73 : decode cX4_ways 73 = .ok (.getfield 30, 3) := by decide +kernel
theorem dX4_ways_76 : decode cX4_ways 76 = .ok (.invokevirtual 117, 3) := by decide +kernel
theorem dX4_ways_79 : decode cX4_ways 79 = .ok (.ireturn, 1) := by decide +kernel
theorem dX4_ways_80 : decode cX4_ways 80 = .ok (.aload_n 0, 1) := by decide +kernel
theorem dX4_ways_81 : decode cX4_ways 81 = .ok (.getfield 30, 3) := by decide +kernel
theorem dX4_ways_84 : decode cX4_ways 84 = .ok (.invokevirtual 120, 3) := by decide +kernel
theorem dX4_ways_87 : decode cX4_ways 87 = .ok (.ireturn, 1) := by decide +kernel
theorem dX4_sung_0 : decode cX4_sung 0 = .ok (.iload_n 1, 1) := by decide +kernel
theorem dX4_sung_1 : decode cX4_sung 1 = .ok (.iload_n 2, 1) := by decide +kernel
theorem dX4_sung_2 : decode cX4_sung 2 = .ok (.invokestatic 91, 3) := by decide +kernel
theorem dX4_sung_5 : decode cX4_sung 5 = .ok (.ifCond .ne 5, 3) := by decide +kernel
theorem dX4_sung_8 : decode cX4_sung 8 = .ok (.iconst (-1), 1) := by decide +kernel
theorem dX4_sung_9 : decode cX4_sung 9 = .ok (.ireturn, 1) := by decide +kernel
theorem dX4_sung_10 : decode cX4_sung 10 = .ok (.iload_n 3, 1) := by decide +kernel
theorem dX4_sung_11 : decode cX4_sung 11 = .ok (.iconst 0, 1) := by decide +kernel
theorem dX4_sung_12 : decode cX4_sung 12 = .ok (.aload_n 0, 1) := by decide +kernel
theorem dX4_sung_13 : decode cX4_sung 13 = .ok (.getfield 19, 3) := by decide +kernel
theorem dX4_sung_16 : decode cX4_sung 16 = .ok (.getfield 77, 3) := by decide +kernel
theorem dX4_sung_19 : decode cX4_sung 19 = .ok (.iload_n 2, 1) := by decide +kernel
theorem dX4_sung_20 : decode cX4_sung 20 = .ok (.aaload, 1) := by decide +kernel
theorem dX4_sung_21 : decode cX4_sung 21 = .ok (.getfield 71, 3) := by decide +kernel
theorem dX4_sung_24 : decode cX4_sung 24 = .ok (.iconst 1, 1) := by decide +kernel
theorem dX4_sung_25 : decode cX4_sung 25 = .ok (.isub, 1) := by decide +kernel
theorem dX4_sung_26 : decode cX4_sung 26 = .ok (.invokestatic 38, 3) := by decide +kernel
theorem dX4_sung_29 : decode cX4_sung 29 = .ok (.ifCond .eq 13, 3) := by decide +kernel
theorem dX4_sung_32 : decode cX4_sung 32 = .ok (.iload 4, 2) := by decide +kernel
theorem dX4_sung_34 : decode cX4_sung 34 = .ok (.iconst 0, 1) := by decide +kernel
theorem dX4_sung_35 : decode cX4_sung 35 = .ok (.iconst 1, 1) := by decide +kernel
theorem dX4_sung_36 : decode cX4_sung 36 = .ok (.invokestatic 38, 3) := by decide +kernel
theorem dX4_sung_39 : decode cX4_sung 39 = .ok (.ifCond .ne 6, 3) := by decide +kernel
theorem dX4_sung_42 : decode cX4_sung 42 = .ok (.bipush (-2), 2) := by decide +kernel
theorem dX4_sung_44 : decode cX4_sung 44 = .ok (.ireturn, 1) := by decide +kernel
theorem dX4_sung_45 : decode cX4_sung 45 = .ok (.aload_n 0, 1) := by decide +kernel
theorem dX4_sung_46 : decode cX4_sung 46 = .ok (.getfield 30, 3) := by decide +kernel
theorem dX4_sung_49 : decode cX4_sung 49 = .ok (.aload_n 0, 1) := by decide +kernel
theorem dX4_sung_50 : decode cX4_sung 50 = .ok (.getfield 19, 3) := by decide +kernel
theorem dX4_sung_53 : decode cX4_sung 53 = .ok (.iload_n 1, 1) := by decide +kernel
theorem dX4_sung_54 : decode cX4_sung 54 = .ok (.iload_n 2, 1) := by decide +kernel
theorem dX4_sung_55 : decode cX4_sung 55 = .ok (.invokevirtual 99, 3) := by decide +kernel
theorem dX4_sung_58 : decode cX4_sung 58 = .ok (.iload 4, 2) := by decide +kernel
theorem dX4_sung_60 : decode cX4_sung 60 = .ok (.ifCond .ne 14, 3) := by decide +kernel
theorem dX4_sung_63 : decode cX4_sung 63 = .ok (.aload_n 0, 1) := by decide +kernel
theorem dX4_sung_64 : decode cX4_sung 64 = .ok (.getfield 30, 3) := by decide +kernel
theorem dX4_sung_67 : decode cX4_sung 67 = .ok (.iload_n 3, 1) := by decide +kernel
theorem dX4_sung_68 : decode cX4_sung 68 = .ok (.invokevirtual 123, 3) := by decide +kernel
theorem dX4_sung_71 : decode cX4_sung 71 = .ok (.goto 11, 3) := by decide +kernel
theorem dX4_sung_74 : decode cX4_sung 74 = .ok (.aload_n 0, 1) := by decide +kernel
theorem dX4_sung_75 : decode cX4_sung 75 = .ok (.getfield 30, 3) := by decide +kernel
theorem dX4_sung_78 : decode cX4_sung 78 = .ok (.iload_n 3, 1) := by decide +kernel
theorem dX4_sung_79 : decode cX4_sung 79 = .ok (.invokevirtual 126, 3) := by decide +kernel
theorem dX4_sung_82 : decode cX4_sung 82 = .ok (.ireturn, 1) := by decide +kernel
theorem dX4_verse_0 : decode cX4_verse 0 = .ok (.iload_n 1, 1) := by decide +kernel
theorem dX4_verse_1 : decode cX4_verse 1 = .ok (.invokestatic 74, 3) := by decide +kernel
theorem dX4_verse_4 : decode cX4_verse 4 = .ok (.ifCond .eq 11, 3) := by decide +kernel
theorem dX4_verse_7 : decode cX4_verse 7 = .ok (.aload_n 0, 1) := by decide +kernel
theorem dX4_verse_8 : decode cX4_verse 8 = .ok (.iload_n 1, 1) := by decide +kernel
theorem dX4_verse_9 : decode cX4_verse 9 = .ok (.invokevirtual 129, 3) := by decide +kernel
theorem dX4_verse_12 : decode cX4_verse 12 = .ok (.goto 4, 3) := by decide +kernel
theorem dX4_verse_15 : decode cX4_verse 15 = .ok (.iconst (-1), 1) := by decide +kernel
theorem dX4_verse_16 : decode cX4_verse 16 = .ok (.ireturn, 1) := by decide +kernel
theorem dX4_best_0 : decode cX4_best 0 = .ok (.iload_n 1, 1) := by decide +kernel
theorem dX4_best_1 : decode cX4_best 1 = .ok (.iconst 0, 1) := by decide +kernel
theorem dX4_best_2 : decode cX4_best 2 = .ok (.iconst 1, 1) := by decide +kernel
theorem dX4_best_3 : decode cX4_best 3 = .ok (.invokestatic 38, 3) := by decide +kernel
theorem dX4_best_6 : decode cX4_best 6 = .ok (.ifCond .ne 6, 3) := by decide +kernel
theorem dX4_best_9 : decode cX4_best 9 = .ok (.bipush (-2), 2) := by decide +kernel
theorem dX4_best_11 : decode cX4_best 11 = .ok (.ireturn, 1) := by decide +kernel
theorem dX4_best_12 : decode cX4_best 12 = .ok (.bipush (-6), 2) := by decide +kernel
theorem dX4_best_14 : decode cX4_best 14 = .ok (.istore_n 2, 1) := by decide +kernel
theorem dX4_best_15 : decode cX4_best 15 = .ok (.bipush (-6), 2) := by decide +kernel
theorem dX4_best_17 : decode cX4_best 17 = .ok (.istore_n 3, 1) := by decide +kernel
theorem dX4_best_18 : decode cX4_best 18 = .ok (.iconst 0, 1) := by decide +kernel
theorem dX4_best_19 : decode cX4_best 19 = .ok (.istore 4, 2) := by decide +kernel
theorem dX4_best_21 : decode cX4_best 21 = .ok (.iload 4, 2) := by decide +kernel
theorem dX4_best_23 : decode cX4_best 23 = .ok (.iconst 4, 1) := by decide +kernel
theorem dX4_best_24 : decode cX4_best 24 = .ok (.if_icmp .ge 32, 3) := by decide +kernel
theorem dX4_best_27 : decode cX4_best 27 = .ok (.aload_n 0, 1) := by decide +kernel
theorem dX4_best_28 : decode cX4_best 28 = .ok (.iload 4, 2) := by decide +kernel
theorem dX4_best_30 : decode cX4_best 30 = .ok (.invokevirtual 129, 3) := by decide +kernel
theorem dX4_best_33 : decode cX4_best 33 = .ok (.istore 5, 2) := by decide +kernel
theorem dX4_best_35 : decode cX4_best 35 = .ok (.iload 5, 2) := by decide +kernel
theorem dX4_best_37 : decode cX4_best 37 = .ok (.iload_n 3, 1) := by decide +kernel
theorem dX4_best_38 : decode cX4_best 38 = .ok (.invokestatic 132, 3) := by decide +kernel
theorem dX4_best_41 : decode cX4_best 41 = .ok (.ifCond .eq 9, 3) := by decide +kernel
theorem dX4_best_44 : decode cX4_best 44 = .ok (.iload 4, 2) := by decide +kernel
theorem dX4_best_46 : decode cX4_best 46 = .ok (.istore_n 2, 1) := by decide +kernel
theorem dX4_best_47 : decode cX4_best 47 = .ok (.iload 5, 2) := by decide +kernel
theorem dX4_best_49 : decode cX4_best 49 = .ok (.istore_n 3, 1) := by decide +kernel
theorem dX4_best_50 : decode cX4_best 50 = .ok (.iinc 4 1, 3) := by decide +kernel
theorem dX4_best_53 : decode cX4_best 53 = .ok (.goto (-32), 3) := by decide +kernel
theorem dX4_best_56 : decode cX4_best 56 = .ok (.iload_n 1, 1) := by decide +kernel
theorem dX4_best_57 : decode cX4_best 57 = .ok (.ifCond .ne 7, 3) := by decide +kernel
theorem dX4_best_60 : decode cX4_best 60 = .ok (.iload_n 2, 1) := by decide +kernel
theorem dX4_best_61 : decode cX4_best 61 = .ok (.goto 4, 3) := by decide +kernel
theorem dX4_best_64 : decode cX4_best 64 = .ok (.iload_n 3, 1) := by decide +kernel
theorem dX4_best_65 : decode cX4_best 65 = .ok (.ireturn, 1) := by decide +kernel
theorem dX4_turned_0 : decode cX4_turned 0 = .ok (.iload_n 1, 1) := by decide +kernel
theorem dX4_turned_1 : decode cX4_turned 1 = .ok (.iload_n 2, 1) := by decide +kernel
theorem dX4_turned_2 : decode cX4_turned 2 = .ok (.invokestatic 91, 3) := by decide +kernel
theorem dX4_turned_5 : decode cX4_turned 5 = .ok (.ifCond .ne 5, 3) := by decide +kernel
theorem dX4_turned_8 : decode cX4_turned 8 = .ok (.iconst (-1), 1) := by decide +kernel
theorem dX4_turned_9 : decode cX4_turned 9 = .ok (.ireturn, 1) := by decide +kernel
theorem dX4_turned_10 : decode cX4_turned 10 = .ok (.iload_n 3, 1) := by decide +kernel
theorem dX4_turned_11 : decode cX4_turned 11 = .ok (.iconst 0, 1) := by decide +kernel
theorem dX4_turned_12 : decode cX4_turned 12 = .ok (.iconst 1, 1) := by decide +kernel
theorem dX4_turned_13 : decode cX4_turned 13 = .ok (.invokestatic 38, 3) := by decide +kernel
theorem dX4_turned_16 : decode cX4_turned 16 = .ok (.ifCond .ne 6, 3) := by decide +kernel
theorem dX4_turned_19 : decode cX4_turned 19 = .ok (.bipush (-2), 2) := by decide +kernel
theorem dX4_turned_21 : decode cX4_turned 21 = .ok (.ireturn, 1) := by decide +kernel
theorem dX4_turned_22 : decode cX4_turned 22 = .ok (.bipush (-6), 2) := by decide +kernel
theorem dX4_turned_24 : decode cX4_turned 24 = .ok (.istore 4, 2) := by decide +kernel
theorem dX4_turned_26 : decode cX4_turned 26 = .ok (.bipush (-6), 2) := by decide +kernel
theorem dX4_turned_28 : decode cX4_turned 28 = .ok (.istore 5, 2) := by decide +kernel
theorem dX4_turned_30 : decode cX4_turned 30 = .ok (.aload_n 0, 1) := by decide +kernel
theorem dX4_turned_31 : decode cX4_turned 31 = .ok (.getfield 19, 3) := by decide +kernel
theorem dX4_turned_34 : decode cX4_turned 34 = .ok (.getfield 77, 3) := by decide +kernel
theorem dX4_turned_37 : decode cX4_turned 37 = .ok (.iload_n 2, 1) := by decide +kernel
theorem dX4_turned_38 : decode cX4_turned 38 = .ok (.aaload, 1) := by decide +kernel
theorem dX4_turned_39 : decode cX4_turned 39 = .ok (.getfield 71, 3) := by decide +kernel
theorem dX4_turned_42 : decode cX4_turned 42 = .ok (.istore 6, 2) := by decide +kernel
theorem dX4_turned_44 : decode cX4_turned 44 = .ok (.iconst 0, 1) := by decide +kernel
theorem dX4_turned_45 : decode cX4_turned 45 = .ok (.istore 7, 2) := by decide +kernel
theorem dX4_turned_47 : decode cX4_turned 47 = .ok (.iload 7, 2) := by decide +kernel
theorem dX4_turned_49 : decode cX4_turned 49 = .ok (.iload 6, 2) := by decide +kernel
theorem dX4_turned_51 : decode cX4_turned 51 = .ok (.if_icmp .ge 67, 3) := by decide +kernel
theorem dX4_turned_54 : decode cX4_turned 54 = .ok (.aload_n 0, 1) := by decide +kernel
theorem dX4_turned_55 : decode cX4_turned 55 = .ok (.getfield 30, 3) := by decide +kernel
theorem dX4_turned_58 : decode cX4_turned 58 = .ok (.aload_n 0, 1) := by decide +kernel
theorem dX4_turned_59 : decode cX4_turned 59 = .ok (.getfield 19, 3) := by decide +kernel
theorem dX4_turned_62 : decode cX4_turned 62 = .ok (.iload_n 1, 1) := by decide +kernel
theorem dX4_turned_63 : decode cX4_turned 63 = .ok (.iload_n 2, 1) := by decide +kernel
theorem dX4_turned_64 : decode cX4_turned 64 = .ok (.invokevirtual 99, 3) := by decide +kernel
theorem dX4_turned_67 : decode cX4_turned 67 = .ok (.aload_n 0, 1) := by decide +kernel
theorem dX4_turned_68 : decode cX4_turned 68 = .ok (.getfield 30, 3) := by decide +kernel
theorem dX4_turned_71 : decode cX4_turned 71 = .ok (.aload_n 0, 1) := by decide +kernel
theorem dX4_turned_72 : decode cX4_turned 72 = .ok (.getfield 19, 3) := by decide +kernel
theorem dX4_turned_75 : decode cX4_turned 75 = .ok (.getfield 77, 3) := by decide +kernel
theorem dX4_turned_78 : decode cX4_turned 78 = .ok (.iload_n 2, 1) := by decide +kernel
theorem dX4_turned_79 : decode cX4_turned 79 = .ok (.aaload, 1) := by decide +kernel
theorem dX4_turned_80 : decode cX4_turned 80 = .ok (.iload 7, 2) := by decide +kernel
theorem dX4_turned_82 : decode cX4_turned 82 = .ok (.invokevirtual 135, 3) := by decide +kernel
theorem dX4_turned_85 : decode cX4_turned 85 = .ok (.aload_n 0, 1) := by decide +kernel
theorem dX4_turned_86 : decode cX4_turned 86 = .ok (.getfield 30, 3) := by decide +kernel
theorem dX4_turned_89 : decode cX4_turned 89 = .ok (.invokevirtual 107, 3) := by decide +kernel
theorem dX4_turned_92 : decode cX4_turned 92 = .ok (.istore 8, 2) := by decide +kernel
theorem dX4_turned_94 : decode cX4_turned 94 = .ok (.iload 8, 2) := by decide +kernel
theorem dX4_turned_96 : decode cX4_turned 96 = .ok (.iload 5, 2) := by decide +kernel
theorem dX4_turned_98 : decode cX4_turned 98 = .ok (.invokestatic 132, 3) := by decide +kernel
theorem dX4_turned_101 : decode cX4_turned 101 = .ok (.ifCond .eq 11, 3) := by decide +kernel
theorem dX4_turned_104 : decode cX4_turned 104 = .ok (.iload 7, 2) := by decide +kernel
theorem dX4_turned_106 : decode cX4_turned 106 = .ok (.istore 4, 2) := by decide +kernel
theorem dX4_turned_108 : decode cX4_turned 108 = .ok (.iload 8, 2) := by decide +kernel
theorem dX4_turned_110 : decode cX4_turned 110 = .ok (.istore 5, 2) := by decide +kernel
theorem dX4_turned_112 : decode cX4_turned 112 = .ok (.iinc 7 1, 3) := by decide +kernel
theorem dX4_turned_115 : decode cX4_turned 115 = .ok (.goto (-68), 3) := by decide +kernel
theorem dX4_turned_118 : decode cX4_turned 118 = .ok (.iload_n 3, 1) := by decide +kernel
theorem dX4_turned_119 : decode cX4_turned 119 = .ok (.ifCond .ne 8, 3) := by decide +kernel
theorem dX4_turned_122 : decode cX4_turned 122 = .ok (.iload 4, 2) := by decide +kernel
theorem dX4_turned_124 : decode cX4_turned 124 = .ok (.goto 5, 3) := by decide +kernel
theorem dX4_turned_127 : decode cX4_turned 127 = .ok (.iload 5, 2) := by decide +kernel
theorem dX4_turned_129 : decode cX4_turned 129 = .ok (.ireturn, 1) := by decide +kernel
theorem dX4_anew_0 : decode cX4_anew 0 = .ok (.iload_n 1, 1) := by decide +kernel
theorem dX4_anew_1 : decode cX4_anew 1 = .ok (.iload_n 2, 1) := by decide +kernel
theorem dX4_anew_2 : decode cX4_anew 2 = .ok (.invokestatic 91, 3) := by decide +kernel
theorem dX4_anew_5 : decode cX4_anew 5 = .ok (.ifCond .ne 5, 3) := by decide +kernel
theorem dX4_anew_8 : decode cX4_anew 8 = .ok (.iconst (-1), 1) := by decide +kernel
theorem dX4_anew_9 : decode cX4_anew 9 = .ok (.ireturn, 1) := by decide +kernel
theorem dX4_anew_10 : decode cX4_anew 10 = .ok (.iload_n 3, 1) := by decide +kernel
theorem dX4_anew_11 : decode cX4_anew 11 = .ok (.iconst 0, 1) := by decide +kernel
theorem dX4_anew_12 : decode cX4_anew 12 = .ok (.iconst 2, 1) := by decide +kernel
theorem dX4_anew_13 : decode cX4_anew 13 = .ok (.invokestatic 38, 3) := by decide +kernel
theorem dX4_anew_16 : decode cX4_anew 16 = .ok (.ifCond .ne 6, 3) := by decide +kernel
theorem dX4_anew_19 : decode cX4_anew 19 = .ok (.bipush (-2), 2) := by decide +kernel
theorem dX4_anew_21 : decode cX4_anew 21 = .ok (.ireturn, 1) := by decide +kernel
theorem dX4_anew_22 : decode cX4_anew 22 = .ok (.bipush (-6), 2) := by decide +kernel
theorem dX4_anew_24 : decode cX4_anew 24 = .ok (.istore 4, 2) := by decide +kernel
theorem dX4_anew_26 : decode cX4_anew 26 = .ok (.bipush (-6), 2) := by decide +kernel
theorem dX4_anew_28 : decode cX4_anew 28 = .ok (.istore 5, 2) := by decide +kernel
theorem dX4_anew_30 : decode cX4_anew 30 = .ok (.aload_n 0, 1) := by decide +kernel
theorem dX4_anew_31 : decode cX4_anew 31 = .ok (.getfield 30, 3) := by decide +kernel
theorem dX4_anew_34 : decode cX4_anew 34 = .ok (.aload_n 0, 1) := by decide +kernel
theorem dX4_anew_35 : decode cX4_anew 35 = .ok (.getfield 19, 3) := by decide +kernel
theorem dX4_anew_38 : decode cX4_anew 38 = .ok (.iload_n 1, 1) := by decide +kernel
theorem dX4_anew_39 : decode cX4_anew 39 = .ok (.iload_n 2, 1) := by decide +kernel
theorem dX4_anew_40 : decode cX4_anew 40 = .ok (.invokevirtual 99, 3) := by decide +kernel
theorem dX4_anew_43 : decode cX4_anew 43 = .ok (.aload_n 0, 1) := by decide +kernel
theorem dX4_anew_44 : decode cX4_anew 44 = .ok (.getfield 30, 3) := by decide +kernel
theorem dX4_anew_47 : decode cX4_anew 47 = .ok (.invokevirtual 107, 3) := by decide +kernel
theorem dX4_anew_50 : decode cX4_anew 50 = .ok (.istore 6, 2) := by decide +kernel
theorem dX4_anew_52 : decode cX4_anew 52 = .ok (.aload_n 0, 1) := by decide +kernel
theorem dX4_anew_53 : decode cX4_anew 53 = .ok (.getfield 19, 3) := by decide +kernel
theorem dX4_anew_56 : decode cX4_anew 56 = .ok (.getfield 63, 3) := by decide +kernel
theorem dX4_anew_59 : decode cX4_anew 59 = .ok (.iload_n 1, 1) := by decide +kernel
theorem dX4_anew_60 : decode cX4_anew 60 = .ok (.aaload, 1) := by decide +kernel
theorem dX4_anew_61 : decode cX4_anew 61 = .ok (.getfield 71, 3) := by decide +kernel
theorem dX4_anew_64 : decode cX4_anew 64 = .ok (.istore 7, 2) := by decide +kernel
theorem dX4_anew_66 : decode cX4_anew 66 = .ok (.iconst 0, 1) := by decide +kernel
theorem dX4_anew_67 : decode cX4_anew 67 = .ok (.istore 8, 2) := by decide +kernel
theorem dX4_anew_69 : decode cX4_anew 69 = .ok (.iload 8, 2) := by decide +kernel
theorem dX4_anew_71 : decode cX4_anew 71 = .ok (.iload 7, 2) := by decide +kernel
theorem dX4_anew_73 : decode cX4_anew 73 = .ok (.if_icmp .ge 79, 3) := by decide +kernel
theorem dX4_anew_76 : decode cX4_anew 76 = .ok (.iconst 0, 1) := by decide +kernel
theorem dX4_anew_77 : decode cX4_anew 77 = .ok (.istore 9, 2) := by decide +kernel
theorem dX4_anew_79 : decode cX4_anew 79 = .ok (.iload 9, 2) := by decide +kernel
theorem dX4_anew_81 : decode cX4_anew 81 = .ok (.iconst 2, 1) := by decide +kernel
theorem dX4_anew_82 : decode cX4_anew 82 = .ok (.if_icmp .gt 64, 3) := by decide +kernel
theorem dX4_anew_85 : decode cX4_anew 85 = .ok (.aload_n 0, 1) := by decide +kernel
theorem dX4_anew_86 : decode cX4_anew 86 = .ok (.getfield 30, 3) := by decide +kernel
theorem dX4_anew_89 : decode cX4_anew 89 = .ok (.aload_n 0, 1) := by decide +kernel
theorem dX4_anew_90 : decode cX4_anew 90 = .ok (.getfield 19, 3) := by decide +kernel
theorem dX4_anew_93 : decode cX4_anew 93 = .ok (.iload_n 1, 1) := by decide +kernel
theorem dX4_anew_94 : decode cX4_anew 94 = .ok (.iload_n 2, 1) := by decide +kernel
theorem dX4_anew_95 : decode cX4_anew 95 = .ok (.invokevirtual 99, 3) := by decide +kernel
theorem dX4_anew_98 : decode cX4_anew 98 = .ok (.aload_n 0, 1) := by decide +kernel
theorem dX4_anew_99 : decode cX4_anew 99 = .ok (.getfield 30, 3) := by decide +kernel
theorem dX4_anew_102 : decode cX4_anew 102 = .ok (.iload 8, 2) := by decide +kernel
theorem dX4_anew_104 : decode cX4_anew 104 = .ok (.iload 9, 2) := by decide +kernel
theorem dX4_anew_106 : decode cX4_anew 106 = .ok (.invokevirtual 139, 3) := by decide +kernel
theorem dX4_anew_109 : decode cX4_anew 109 = .ok (.aload_n 0, 1) := by decide +kernel
theorem dX4_anew_110 : decode cX4_anew 110 = .ok (.getfield 30, 3) := by decide +kernel
theorem dX4_anew_113 : decode cX4_anew 113 = .ok (.invokevirtual 107, 3) := by decide +kernel
theorem dX4_anew_116 : decode cX4_anew 116 = .ok (.istore 10, 2) := by decide +kernel
theorem dX4_anew_118 : decode cX4_anew 118 = .ok (.iload 10, 2) := by decide +kernel
theorem dX4_anew_120 : decode cX4_anew 120 = .ok (.iload 6, 2) := by decide +kernel
theorem dX4_anew_122 : decode cX4_anew 122 = .ok (.invokestatic 132, 3) := by decide +kernel
theorem dX4_anew_125 : decode cX4_anew 125 = .ok (.ifCond .eq 15, 3) := by decide +kernel
theorem dX4_anew_128 : decode cX4_anew 128 = .ok (.iload 8, 2) := by decide +kernel
theorem dX4_anew_130 : decode cX4_anew 130 = .ok (.istore 4, 2) := by decide +kernel
theorem dX4_anew_132 : decode cX4_anew 132 = .ok (.iload 9, 2) := by decide +kernel
theorem dX4_anew_134 : decode cX4_anew 134 = .ok (.istore 5, 2) := by decide +kernel
theorem dX4_anew_136 : decode cX4_anew 136 = .ok (.iload 10, 2) := by decide +kernel
theorem dX4_anew_138 : decode cX4_anew 138 = .ok (.istore 6, 2) := by decide +kernel
theorem dX4_anew_140 : decode cX4_anew 140 = .ok (.iinc 9 1, 3) := by decide +kernel
theorem dX4_anew_143 : decode cX4_anew 143 = .ok (.goto (-64), 3) := by decide +kernel
theorem dX4_anew_146 : decode cX4_anew 146 = .ok (.iinc 8 1, 3) := by decide +kernel
theorem dX4_anew_149 : decode cX4_anew 149 = .ok (.goto (-80), 3) := by decide +kernel
theorem dX4_anew_152 : decode cX4_anew 152 = .ok (.iload_n 3, 1) := by decide +kernel
theorem dX4_anew_153 : decode cX4_anew 153 = .ok (.iconst 2, 1) := by decide +kernel
theorem dX4_anew_154 : decode cX4_anew 154 = .ok (.if_icmp .ne 18, 3) := by decide +kernel
theorem dX4_anew_157 : decode cX4_anew 157 = .ok (.iload 4, 2) := by decide +kernel
theorem dX4_anew_159 : decode cX4_anew 159 = .ok (.bipush (-6), 2) := by decide +kernel
theorem dX4_anew_161 : decode cX4_anew 161 = .ok (.if_icmp .ne 8, 3) := by decide +kernel
theorem dX4_anew_164 : decode cX4_anew 164 = .ok (.bipush (-6), 2) := by decide +kernel
theorem dX4_anew_166 : decode cX4_anew 166 = .ok (.goto 5, 3) := by decide +kernel
theorem dX4_anew_169 : decode cX4_anew 169 = .ok (.iload 6, 2) := by decide +kernel
theorem dX4_anew_171 : decode cX4_anew 171 = .ok (.ireturn, 1) := by decide +kernel
theorem dX4_anew_172 : decode cX4_anew 172 = .ok (.iload_n 3, 1) := by decide +kernel
theorem dX4_anew_173 : decode cX4_anew 173 = .ok (.ifCond .ne 8, 3) := by decide +kernel
theorem dX4_anew_176 : decode cX4_anew 176 = .ok (.iload 4, 2) := by decide +kernel
theorem dX4_anew_178 : decode cX4_anew 178 = .ok (.goto 5, 3) := by decide +kernel
theorem dX4_anew_181 : decode cX4_anew 181 = .ok (.iload 5, 2) := by decide +kernel
theorem dX4_anew_183 : decode cX4_anew 183 = .ok (.ireturn, 1) := by decide +kernel
theorem dX4_image_0 : decode cX4_image 0 = .ok (.iload_n 1, 1) := by decide +kernel
theorem dX4_image_1 : decode cX4_image 1 = .ok (.iconst 0, 1) := by decide +kernel
theorem dX4_image_2 : decode cX4_image 2 = .ok (.iconst 1, 1) := by decide +kernel
theorem dX4_image_3 : decode cX4_image 3 = .ok (.invokestatic 38, 3) := by decide +kernel
theorem dX4_image_6 : decode cX4_image 6 = .ok (.ifCond .ne 6, 3) := by decide +kernel
theorem dX4_image_9 : decode cX4_image 9 = .ok (.bipush (-2), 2) := by decide +kernel
theorem dX4_image_11 : decode cX4_image 11 = .ok (.ireturn, 1) := by decide +kernel
theorem dX4_image_12 : decode cX4_image 12 = .ok (.aload_n 0, 1) := by decide +kernel
theorem dX4_image_13 : decode cX4_image 13 = .ok (.getfield 23, 3) := by decide +kernel
theorem dX4_image_16 : decode cX4_image 16 = .ok (.iload_n 1, 1) := by decide +kernel
theorem dX4_image_17 : decode cX4_image 17 = .ok (.aaload, 1) := by decide +kernel
theorem dX4_image_18 : decode cX4_image 18 = .ok (.aload_n 0, 1) := by decide +kernel
theorem dX4_image_19 : decode cX4_image 19 = .ok (.getfield 19, 3) := by decide +kernel
theorem dX4_image_22 : decode cX4_image 22 = .ok (.invokevirtual 143, 3) := by decide +kernel
theorem dX4_image_25 : decode cX4_image 25 = .ok (.aload_n 0, 1) := by decide +kernel
theorem dX4_image_26 : decode cX4_image 26 = .ok (.dup, 1) := by decide +kernel
theorem dX4_image_27 : decode cX4_image 27 = .ok (.getfield 34, 3) := by decide +kernel
theorem dX4_image_30 : decode cX4_image 30 = .ok (.iconst 1, 1) := by decide +kernel
theorem dX4_image_31 : decode cX4_image 31 = .ok (.iload_n 1, 1) := by decide +kernel
theorem dX4_image_32 : decode cX4_image 32 = .ok (.ishl, 1) := by decide +kernel
theorem dX4_image_33 : decode cX4_image 33 = .ok (.ior, 1) := by decide +kernel
theorem dX4_image_34 : decode cX4_image 34 = .ok (.putfield 34, 3) := by decide +kernel
theorem dX4_image_37 : decode cX4_image 37 = .ok (.iconst 1, 1) := by decide +kernel
theorem dX4_image_38 : decode cX4_image 38 = .ok (.ireturn, 1) := by decide +kernel
theorem dX4_restore_0 : decode cX4_restore 0 = .ok (.iload_n 1, 1) := by decide +kernel
theorem dX4_restore_1 : decode cX4_restore 1 = .ok (.iconst 0, 1) := by decide +kernel
theorem dX4_restore_2 : decode cX4_restore 2 = .ok (.iconst 1, 1) := by decide +kernel
theorem dX4_restore_3 : decode cX4_restore 3 = .ok (.invokestatic 38, 3) := by decide +kernel
theorem dX4_restore_6 : decode cX4_restore 6 = .ok (.ifCond .ne 6, 3) := by decide +kernel
theorem dX4_restore_9 : decode cX4_restore 9 = .ok (.bipush (-2), 2) := by decide +kernel
theorem dX4_restore_11 : decode cX4_restore 11 = .ok (.ireturn, 1) := by decide +kernel
theorem dX4_restore_12 : decode cX4_restore 12 = .ok (.aload_n 0, 1) := by decide +kernel
theorem dX4_restore_13 : decode cX4_restore 13 = .ok (.getfield 34, 3) := by decide +kernel
theorem dX4_restore_16 : decode cX4_restore 16 = .ok (.iload_n 1, 1) := by decide +kernel
theorem dX4_restore_17 : decode cX4_restore 17 = .ok (.ishr, 1) := by decide +kernel
theorem dX4_restore_18 : decode cX4_restore 18 = .ok (.iconst 1, 1) := by decide +kernel
theorem dX4_restore_19 : decode cX4_restore 19 = .ok (.iand, 1) := by decide +kernel
theorem dX4_restore_20 : decode cX4_restore 20 = .ok (.ifCond .ne 6, 3) := by decide +kernel
theorem dX4_restore_23 : decode cX4_restore 23 = .ok (.bipush (-3), 2) := by decide +kernel
theorem dX4_restore_25 : decode cX4_restore 25 = .ok (.ireturn, 1) := by decide +kernel
theorem dX4_restore_26 : decode cX4_restore 26 = .ok (.aload_n 0, 1) := by decide +kernel
theorem dX4_restore_27 : decode cX4_restore 27 = .ok (.getfield 19, 3) := by decide +kernel
theorem dX4_restore_30 : decode cX4_restore 30 = .ok (.aload_n 0, 1) := by decide +kernel
theorem dX4_restore_31 : decode cX4_restore 31 = .ok (.getfield 23, 3) := by decide +kernel
theorem dX4_restore_34 : decode cX4_restore 34 = .ok (.iload_n 1, 1) := by decide +kernel
theorem dX4_restore_35 : decode cX4_restore 35 = .ok (.aaload, 1) := by decide +kernel
theorem dX4_restore_36 : decode cX4_restore 36 = .ok (.invokevirtual 143, 3) := by decide +kernel
theorem dX4_restore_39 : decode cX4_restore 39 = .ok (.iconst 1, 1) := by decide +kernel
theorem dX4_restore_40 : decode cX4_restore 40 = .ok (.ireturn, 1) := by decide +kernel
theorem dX4_count_0 : decode cX4_count 0 = .ok (.iload_n 1, 1) := by decide +kernel
theorem dX4_count_1 : decode cX4_count 1 = .ok (.bipush 10, 2) := by decide +kernel
theorem dX4_count_3 : decode cX4_count 3 = .ok (.bipush 13, 2) := by decide +kernel
theorem dX4_count_5 : decode cX4_count 5 = .ok (.invokestatic 38, 3) := by decide +kernel
theorem dX4_count_8 : decode cX4_count 8 = .ok (.ifCond .eq 16, 3) := by decide +kernel
theorem dX4_count_11 : decode cX4_count 11 = .ok (.aload_n 0, 1) := by decide +kernel
theorem dX4_count_12 : decode cX4_count 12 = .ok (.getfield 19, 3) := by decide +kernel
theorem dX4_count_15 : decode cX4_count 15 = .ok (.getfield 83, 3) := by decide +kernel
theorem dX4_count_18 : decode cX4_count 18 = .ok (.iload_n 1, 1) := by decide +kernel
theorem dX4_count_19 : decode cX4_count 19 = .ok (.bipush 10, 2) := by decide +kernel
theorem dX4_count_21 : decode cX4_count 21 = .ok (.isub, 1) := by decide +kernel
theorem dX4_count_22 : decode cX4_count 22 = .ok (.iaload, 1) := by decide +kernel
theorem dX4_count_23 : decode cX4_count 23 = .ok (.ireturn, 1) := by decide +kernel
theorem dX4_count_24 : decode cX4_count 24 = .ok (.iload_n 1, 1) := by decide +kernel
theorem dX4_count_25 : decode cX4_count 25 = .ok (.tableswitch 72 0 4 #[35, 43, 51, 59, 67], 35) := by decide +kernel
theorem dX4_count_60 : decode cX4_count 60 = .ok (.aload_n 0, 1) := by decide +kernel
theorem dX4_count_61 : decode cX4_count 61 = .ok (.getfield 19, 3) := by decide +kernel
theorem dX4_count_64 : decode cX4_count 64 = .ok (.invokevirtual 147, 3) := by decide +kernel
theorem dX4_count_67 : decode cX4_count 67 = .ok (.ireturn, 1) := by decide +kernel
theorem dX4_count_68 : decode cX4_count 68 = .ok (.aload_n 0, 1) := by decide +kernel
theorem dX4_count_69 : decode cX4_count 69 = .ok (.getfield 19, 3) := by decide +kernel
theorem dX4_count_72 : decode cX4_count 72 = .ok (.invokevirtual 150, 3) := by decide +kernel
theorem dX4_count_75 : decode cX4_count 75 = .ok (.ireturn, 1) := by decide +kernel
theorem dX4_count_76 : decode cX4_count 76 = .ok (.aload_n 0, 1) := by decide +kernel
theorem dX4_count_77 : decode cX4_count 77 = .ok (.getfield 12, 3) := by decide +kernel
theorem dX4_count_80 : decode cX4_count 80 = .ok (.getfield 42, 3) := by decide +kernel
theorem dX4_count_83 : decode cX4_count 83 = .ok (.ireturn, 1) := by decide +kernel
theorem dX4_count_84 : decode cX4_count 84 = .ok (.aload_n 0, 1) := by decide +kernel
theorem dX4_count_85 : decode cX4_count 85 = .ok (.getfield 19, 3) := by decide +kernel
theorem dX4_count_88 : decode cX4_count 88 = .ok (.invokevirtual 153, 3) := by decide +kernel
theorem dX4_count_91 : decode cX4_count 91 = .ok (.ireturn, 1) := by decide +kernel
theorem dX4_count_92 : decode cX4_count 92 = .ok (.aload_n 0, 1) := by decide +kernel
theorem dX4_count_93 : decode cX4_count 93 = .ok (.getfield 34, 3) := by decide +kernel
theorem dX4_count_96 : decode cX4_count 96 = .ok (.ireturn, 1) := by decide +kernel
theorem dX4_count_97 : decode cX4_count 97 = .ok (.bipush (-2), 2) := by decide +kernel
theorem dX4_count_99 : decode cX4_count 99 = .ok (.ireturn, 1) := by decide +kernel
theorem dX4_isWithin_0 : decode cX4_isWithin 0 = .ok (.iload_n 0, 1) := by decide +kernel
theorem dX4_isWithin_1 : decode cX4_isWithin 1 = .ok (.iload_n 1, 1) := by decide +kernel
theorem dX4_isWithin_2 : decode cX4_isWithin 2 = .ok (.if_icmp .lt 12, 3) := by decide +kernel
theorem dX4_isWithin_5 : decode cX4_isWithin 5 = .ok (.iload_n 0, 1) := by decide +kernel
theorem dX4_isWithin_6 : decode cX4_isWithin 6 = .ok (.iload_n 2, 1) := by decide +kernel
theorem dX4_isWithin_7 : decode cX4_isWithin 7 = .ok (.if_icmp .gt 7, 3) := by decide +kernel
theorem dX4_isWithin_10 : decode cX4_isWithin 10 = .ok (.iconst 1, 1) := by decide +kernel
theorem dX4_isWithin_11 : decode cX4_isWithin 11 = .ok (.goto 4, 3) := by decide +kernel
theorem dX4_isWithin_14 : decode cX4_isWithin 14 = .ok (.iconst 0, 1) := by decide +kernel
theorem dX4_isWithin_15 : decode cX4_isWithin 15 = .ok (.ireturn, 1) := by decide +kernel
theorem dX4_isLine_0 : decode cX4_isLine 0 = .ok (.iload_n 0, 1) := by decide +kernel
theorem dX4_isLine_1 : decode cX4_isLine 1 = .ok (.iconst 0, 1) := by decide +kernel
theorem dX4_isLine_2 : decode cX4_isLine 2 = .ok (.iconst 2, 1) := by decide +kernel
theorem dX4_isLine_3 : decode cX4_isLine 3 = .ok (.invokestatic 38, 3) := by decide +kernel
theorem dX4_isLine_6 : decode cX4_isLine 6 = .ok (.ireturn, 1) := by decide +kernel
theorem dX4_isTune_0 : decode cX4_isTune 0 = .ok (.iload_n 0, 1) := by decide +kernel
theorem dX4_isTune_1 : decode cX4_isTune 1 = .ok (.iconst 0, 1) := by decide +kernel
theorem dX4_isTune_2 : decode cX4_isTune 2 = .ok (.iconst 3, 1) := by decide +kernel
theorem dX4_isTune_3 : decode cX4_isTune 3 = .ok (.invokestatic 38, 3) := by decide +kernel
theorem dX4_isTune_6 : decode cX4_isTune 6 = .ok (.ireturn, 1) := by decide +kernel
theorem dX4_areKnown_0 : decode cX4_areKnown 0 = .ok (.iload_n 0, 1) := by decide +kernel
theorem dX4_areKnown_1 : decode cX4_areKnown 1 = .ok (.invokestatic 59, 3) := by decide +kernel
theorem dX4_areKnown_4 : decode cX4_areKnown 4 = .ok (.ifCond .eq 14, 3) := by decide +kernel
theorem dX4_areKnown_7 : decode cX4_areKnown 7 = .ok (.iload_n 1, 1) := by decide +kernel
theorem dX4_areKnown_8 : decode cX4_areKnown 8 = .ok (.invokestatic 74, 3) := by decide +kernel
theorem dX4_areKnown_11 : decode cX4_areKnown 11 = .ok (.ifCond .eq 7, 3) := by decide +kernel
theorem dX4_areKnown_14 : decode cX4_areKnown 14 = .ok (.iconst 1, 1) := by decide +kernel
theorem dX4_areKnown_15 : decode cX4_areKnown 15 = .ok (.goto 4, 3) := by decide +kernel
theorem dX4_areKnown_18 : decode cX4_areKnown 18 = .ok (.iconst 0, 1) := by decide +kernel
theorem dX4_areKnown_19 : decode cX4_areKnown 19 = .ok (.ireturn, 1) := by decide +kernel
theorem dX4_isCheaper_0 : decode cX4_isCheaper 0 = .ok (.iload_n 0, 1) := by decide +kernel
theorem dX4_isCheaper_1 : decode cX4_isCheaper 1 = .ok (.bipush (-6), 2) := by decide +kernel
theorem dX4_isCheaper_3 : decode cX4_isCheaper 3 = .ok (.if_icmp .eq 18, 3) := by decide +kernel
theorem dX4_isCheaper_6 : decode cX4_isCheaper 6 = .ok (.iload_n 1, 1) := by decide +kernel
theorem dX4_isCheaper_7 : decode cX4_isCheaper 7 = .ok (.bipush (-6), 2) := by decide +kernel
theorem dX4_isCheaper_9 : decode cX4_isCheaper 9 = .ok (.if_icmp .eq 8, 3) := by decide +kernel
theorem dX4_isCheaper_12 : decode cX4_isCheaper 12 = .ok (.iload_n 0, 1) := by decide +kernel
theorem dX4_isCheaper_13 : decode cX4_isCheaper 13 = .ok (.iload_n 1, 1) := by decide +kernel
theorem dX4_isCheaper_14 : decode cX4_isCheaper 14 = .ok (.if_icmp .ge 7, 3) := by decide +kernel
theorem dX4_isCheaper_17 : decode cX4_isCheaper 17 = .ok (.iconst 1, 1) := by decide +kernel
theorem dX4_isCheaper_18 : decode cX4_isCheaper 18 = .ok (.goto 4, 3) := by decide +kernel
theorem dX4_isCheaper_21 : decode cX4_isCheaper 21 = .ok (.iconst 0, 1) := by decide +kernel
theorem dX4_isCheaper_22 : decode cX4_isCheaper 22 = .ok (.ireturn, 1) := by decide +kernel
theorem dX4_partOf_0 : decode cX4_partOf 0 = .ok (.iload_n 2, 1) := by decide +kernel
theorem dX4_partOf_1 : decode cX4_partOf 1 = .ok (.iconst 0, 1) := by decide +kernel
theorem dX4_partOf_2 : decode cX4_partOf 2 = .ok (.iconst 1, 1) := by decide +kernel
theorem dX4_partOf_3 : decode cX4_partOf 3 = .ok (.invokestatic 38, 3) := by decide +kernel
theorem dX4_partOf_6 : decode cX4_partOf 6 = .ok (.ifCond .ne 6, 3) := by decide +kernel
theorem dX4_partOf_9 : decode cX4_partOf 9 = .ok (.bipush (-2), 2) := by decide +kernel
theorem dX4_partOf_11 : decode cX4_partOf 11 = .ok (.ireturn, 1) := by decide +kernel
theorem dX4_partOf_12 : decode cX4_partOf 12 = .ok (.iload_n 1, 1) := by decide +kernel
theorem dX4_partOf_13 : decode cX4_partOf 13 = .ok (.iconst (-1), 1) := by decide +kernel
theorem dX4_partOf_14 : decode cX4_partOf 14 = .ok (.if_icmp .ne 8, 3) := by decide +kernel
theorem dX4_partOf_17 : decode cX4_partOf 17 = .ok (.aload_n 0, 1) := by decide +kernel
theorem dX4_partOf_18 : decode cX4_partOf 18 = .ok (.getfield 71, 3) := by decide +kernel
theorem dX4_partOf_21 : decode cX4_partOf 21 = .ok (.ireturn, 1) := by decide +kernel
theorem dX4_partOf_22 : decode cX4_partOf 22 = .ok (.iload_n 1, 1) := by decide +kernel
theorem dX4_partOf_23 : decode cX4_partOf 23 = .ok (.iconst 0, 1) := by decide +kernel
theorem dX4_partOf_24 : decode cX4_partOf 24 = .ok (.aload_n 0, 1) := by decide +kernel
theorem dX4_partOf_25 : decode cX4_partOf 25 = .ok (.getfield 71, 3) := by decide +kernel
theorem dX4_partOf_28 : decode cX4_partOf 28 = .ok (.iconst 1, 1) := by decide +kernel
theorem dX4_partOf_29 : decode cX4_partOf 29 = .ok (.isub, 1) := by decide +kernel
theorem dX4_partOf_30 : decode cX4_partOf 30 = .ok (.invokestatic 38, 3) := by decide +kernel
theorem dX4_partOf_33 : decode cX4_partOf 33 = .ok (.ifCond .ne 6, 3) := by decide +kernel
theorem dX4_partOf_36 : decode cX4_partOf 36 = .ok (.bipush (-6), 2) := by decide +kernel
theorem dX4_partOf_38 : decode cX4_partOf 38 = .ok (.ireturn, 1) := by decide +kernel
theorem dX4_partOf_39 : decode cX4_partOf 39 = .ok (.iload_n 2, 1) := by decide +kernel
theorem dX4_partOf_40 : decode cX4_partOf 40 = .ok (.ifCond .ne 12, 3) := by decide +kernel
theorem dX4_partOf_43 : decode cX4_partOf 43 = .ok (.aload_n 0, 1) := by decide +kernel
theorem dX4_partOf_44 : decode cX4_partOf 44 = .ok (.getfield 156, 3) := by decide +kernel
theorem dX4_partOf_47 : decode cX4_partOf 47 = .ok (.iload_n 1, 1) := by decide +kernel
theorem dX4_partOf_48 : decode cX4_partOf 48 = .ok (.iaload, 1) := by decide +kernel
theorem dX4_partOf_49 : decode cX4_partOf 49 = .ok (.goto 9, 3) := by decide +kernel
theorem dX4_partOf_52 : decode cX4_partOf 52 = .ok (.aload_n 0, 1) := by decide +kernel
theorem dX4_partOf_53 : decode cX4_partOf 53 = .ok (.getfield 159, 3) := by decide +kernel
theorem dX4_partOf_56 : decode cX4_partOf 56 = .ok (.iload_n 1, 1) := by decide +kernel
theorem dX4_partOf_57 : decode cX4_partOf 57 = .ok (.iaload, 1) := by decide +kernel
theorem dX4_partOf_58 : decode cX4_partOf 58 = .ok (.ireturn, 1) := by decide +kernel
theorem dX4_verseOf_0 : decode cX4_verseOf 0 = .ok (.aload_n 0, 1) := by decide +kernel
theorem dX4_verseOf_1 : decode cX4_verseOf 1 = .ok (.getfield 19, 3) := by decide +kernel
theorem dX4_verseOf_4 : decode cX4_verseOf 4 = .ok (.getfield 77, 3) := by decide +kernel
theorem dX4_verseOf_7 : decode cX4_verseOf 7 = .ok (.iload_n 1, 1) := by decide +kernel
theorem dX4_verseOf_8 : decode cX4_verseOf 8 = .ok (.aaload, 1) := by decide +kernel
theorem dX4_verseOf_9 : decode cX4_verseOf 9 = .ok (.getfield 71, 3) := by decide +kernel
theorem dX4_verseOf_12 : decode cX4_verseOf 12 = .ok (.ifCond .eq 13, 3) := by decide +kernel
theorem dX4_verseOf_15 : decode cX4_verseOf 15 = .ok (.aload_n 0, 1) := by decide +kernel
theorem dX4_verseOf_16 : decode cX4_verseOf 16 = .ok (.getfield 19, 3) := by decide +kernel
theorem dX4_verseOf_19 : decode cX4_verseOf 19 = .ok (.invokevirtual 147, 3) := by decide +kernel
theorem dX4_verseOf_22 : decode cX4_verseOf 22 = .ok (.ifCond .ne 6, 3) := by decide +kernel
theorem dX4_verseOf_25 : decode cX4_verseOf 25 = .ok (.bipush (-6), 2) := by decide +kernel
theorem dX4_verseOf_27 : decode cX4_verseOf 27 = .ok (.ireturn, 1) := by decide +kernel
theorem dX4_verseOf_28 : decode cX4_verseOf 28 = .ok (.iconst 0, 1) := by decide +kernel
theorem dX4_verseOf_29 : decode cX4_verseOf 29 = .ok (.istore_n 2, 1) := by decide +kernel
theorem dX4_verseOf_30 : decode cX4_verseOf 30 = .ok (.iconst 0, 1) := by decide +kernel
theorem dX4_verseOf_31 : decode cX4_verseOf 31 = .ok (.istore_n 3, 1) := by decide +kernel
theorem dX4_verseOf_32 : decode cX4_verseOf 32 = .ok (.iload_n 3, 1) := by decide +kernel
theorem dX4_verseOf_33 : decode cX4_verseOf 33 = .ok (.iconst 3, 1) := by decide +kernel
theorem dX4_verseOf_34 : decode cX4_verseOf 34 = .ok (.if_icmp .ge 47, 3) := by decide +kernel
theorem dX4_verseOf_37 : decode cX4_verseOf 37 = .ok (.aload_n 0, 1) := by decide +kernel
theorem dX4_verseOf_38 : decode cX4_verseOf 38 = .ok (.getfield 19, 3) := by decide +kernel
theorem dX4_verseOf_41 : decode cX4_verseOf 41 = .ok (.getfield 63, 3) := by decide +kernel
theorem dX4_verseOf_44 : decode cX4_verseOf 44 = .ok (.iload_n 3, 1) := by decide +kernel
theorem dX4_verseOf_45 : decode cX4_verseOf 45 = .ok (.aaload, 1) := by decide +kernel
theorem dX4_verseOf_46 : decode cX4_verseOf 46 = .ok (.getfield 71, 3) := by decide +kernel
theorem dX4_verseOf_49 : decode cX4_verseOf 49 = .ok (.ifCond .le 26, 3) := by decide +kernel
theorem dX4_verseOf_52 : decode cX4_verseOf 52 = .ok (.aload_n 0, 1) := by decide +kernel
theorem dX4_verseOf_53 : decode cX4_verseOf 53 = .ok (.getfield 30, 3) := by decide +kernel
theorem dX4_verseOf_56 : decode cX4_verseOf 56 = .ok (.aload_n 0, 1) := by decide +kernel
theorem dX4_verseOf_57 : decode cX4_verseOf 57 = .ok (.getfield 19, 3) := by decide +kernel
theorem dX4_verseOf_60 : decode cX4_verseOf 60 = .ok (.iload_n 3, 1) := by decide +kernel
theorem dX4_verseOf_61 : decode cX4_verseOf 61 = .ok (.iload_n 1, 1) := by decide +kernel
theorem dX4_verseOf_62 : decode cX4_verseOf 62 = .ok (.invokevirtual 99, 3) := by decide +kernel
theorem dX4_verseOf_65 : decode cX4_verseOf 65 = .ok (.iload_n 2, 1) := by decide +kernel
theorem dX4_verseOf_66 : decode cX4_verseOf 66 = .ok (.aload_n 0, 1) := by decide +kernel
theorem dX4_verseOf_67 : decode cX4_verseOf 67 = .ok (.getfield 30, 3) := by decide +kernel
theorem dX4_verseOf_70 : decode cX4_verseOf 70 = .ok (.invokevirtual 107, 3) := by decide +kernel
theorem dX4_verseOf_73 : decode cX4_verseOf 73 = .ok (.iadd, 1) := by decide +kernel
theorem dX4_verseOf_74 : decode cX4_verseOf 74 = .ok (.istore_n 2, 1) := by decide +kernel
theorem dX4_verseOf_75 : decode cX4_verseOf 75 = .ok (.iinc 3 1, 3) := by decide +kernel
theorem dX4_verseOf_78 : decode cX4_verseOf 78 = .ok (.goto (-46), 3) := by decide +kernel
theorem dX4_verseOf_81 : decode cX4_verseOf 81 = .ok (.iload_n 2, 1) := by decide +kernel
theorem dX4_verseOf_82 : decode cX4_verseOf 82 = .ok (.ireturn, 1) := by decide +kernel
