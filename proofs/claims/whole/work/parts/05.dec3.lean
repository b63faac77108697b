theorem dX5_init_0 : decode cX5_init 0 = .ok (.aload_n 0, 1) := by decide +kernel
theorem dX5_init_1 : decode cX5_init 1 = .ok (.invokespecial 1, 3) := by decide +kernel
theorem dX5_init_4 : decode cX5_init 4 = .ok (.aload_n 0, 1) := by decide +kernel
theorem dX5_init_5 : decode cX5_init 5 = .ok (.sipush 153, 3) := by decide +kernel
theorem dX5_init_8 : decode cX5_init 8 = .ok (.newarray .int, 2) := by decide +kernel
theorem dX5_init_10 : decode cX5_init 10 = .ok (.putfield 7, 3) := by decide +kernel
theorem dX5_init_13 : decode cX5_init 13 = .ok (.aload_n 0, 1) := by decide +kernel
theorem dX5_init_14 : decode cX5_init 14 = .ok (.sipush 306, 3) := by decide +kernel
theorem dX5_init_17 : decode cX5_init 17 = .ok (.newarray .int, 2) := by decide +kernel
theorem dX5_init_19 : decode cX5_init 19 = .ok (.putfield 13, 3) := by decide +kernel
theorem dX5_init_22 : decode cX5_init 22 = .ok (.aload_n 0, 1) := by decide +kernel
theorem dX5_init_23 : decode cX5_init 23 = .ok (.iconst 2, 1) := by decide +kernel
theorem dX5_init_24 : decode cX5_init 24 = .ok (.newarray .boolean, 2) := by decide +kernel
theorem dX5_init_26 : decode cX5_init 26 = .ok (.putfield 16, 3) := by decide +kernel
theorem dX5_init_29 : decode cX5_init 29 = .ok (.aload_n 0, 1) := by decide +kernel
theorem dX5_init_30 : decode cX5_init 30 = .ok (.bipush 22, 2) := by decide +kernel
theorem dX5_init_32 : decode cX5_init 32 = .ok (.newarray .int, 2) := by decide +kernel
theorem dX5_init_34 : decode cX5_init 34 = .ok (.putfield 20, 3) := by decide +kernel
theorem dX5_init_37 : decode cX5_init 37 = .ok (.aload_n 0, 1) := by decide +kernel
theorem dX5_init_38 : decode cX5_init 38 = .ok (.bipush 9, 2) := by decide +kernel
theorem dX5_init_40 : decode cX5_init 40 = .ok (.newarray .int, 2) := by decide +kernel
theorem dX5_init_42 : decode cX5_init 42 = .ok (.putfield 23, 3) := by decide +kernel
theorem dX5_init_45 : decode cX5_init 45 = .ok (.aload_n 0, 1) := by decide +kernel
theorem dX5_init_46 : decode cX5_init 46 = .ok (.bipush 9, 2) := by decide +kernel
theorem dX5_init_48 : decode cX5_init 48 = .ok (.newarray .int, 2) := by decide +kernel
theorem dX5_init_50 : decode cX5_init 50 = .ok (.putfield 26, 3) := by decide +kernel
theorem dX5_init_53 : decode cX5_init 53 = .ok (.aload_n 0, 1) := by decide +kernel
theorem dX5_init_54 : decode cX5_init 54 = .ok (.bipush 11, 2) := by decide +kernel
theorem dX5_init_56 : decode cX5_init 56 = .ok (.newarray .int, 2) := by decide +kernel
theorem dX5_init_58 : decode cX5_init 58 = .ok (.putfield 29, 3) := by decide +kernel
theorem dX5_init_61 : decode cX5_init 61 = .ok (.aload_n 0, 1) := by decide +kernel
theorem dX5_init_62 : decode cX5_init 62 = .ok (.bipush 11, 2) := by decide +kernel
theorem dX5_init_64 : decode cX5_init 64 = .ok (.newarray .int, 2) := by decide +kernel
theorem dX5_init_66 : decode cX5_init 66 = .ok (.putfield 32, 3) := by decide +kernel
theorem dX5_init_69 : decode cX5_init 69 = .ok (.aload_n 0, 1) := by decide +kernel
theorem dX5_init_70 : decode cX5_init 70 = .ok (.bipush 120, 2) := by decide +kernel
theorem dX5_init_72 : decode cX5_init 72 = .ok (.newarray .int, 2) := by decide +kernel
theorem dX5_init_74 : decode cX5_init 74 = .ok (.putfield 35, 3) := by decide +kernel
theorem dX5_init_77 : decode cX5_init 77 = .ok (.aload_n 0, 1) := by decide +kernel
theorem dX5_init_78 : decode cX5_init 78 = .ok (.bipush 120, 2) := by decide +kernel
theorem dX5_init_80 : decode cX5_init 80 = .ok (.newarray .int, 2) := by decide +kernel
theorem dX5_init_82 : decode cX5_init 82 = .ok (.putfield 38, 3) := by decide +kernel
theorem dX5_init_85 : decode cX5_init 85 = .ok (.aload_n 0, 1) := by decide +kernel
theorem dX5_init_86 : decode cX5_init 86 = .ok (.bipush 120, 2) := by decide +kernel
theorem dX5_init_88 : decode cX5_init 88 = .ok (.newarray .int, 2) := by decide +kernel
theorem dX5_init_90 : decode cX5_init 90 = .ok (.putfield 41, 3) := by decide +kernel
theorem dX5_init_93 : decode cX5_init 93 = .ok (.aload_n 0, 1) := by decide +kernel
theorem dX5_init_94 : decode cX5_init 94 = .ok (.bipush 120, 2) := by decide +kernel
theorem dX5_init_96 : decode cX5_init 96 = .ok (.newarray .int, 2) := by decide +kernel
theorem dX5_init_98 : decode cX5_init 98 = .ok (.putfield 44, 3) := by decide +kernel
theorem dX5_init_101 : decode cX5_init 101 = .ok (.aload_n 0, 1) := by decide +kernel
theorem dX5_init_102 : decode cX5_init 102 = .ok (.bipush 20, 2) := by decide +kernel
theorem dX5_init_104 : decode cX5_init 104 = .ok (.newarray .int, 2) := by decide +kernel
theorem dX5_init_106 : decode cX5_init 106 = .ok (.putfield 47, 3) := by decide +kernel
theorem dX5_init_109 : decode cX5_init 109 = .ok (.aload_n 0, 1) := by decide +kernel
theorem dX5_init_110 : decode cX5_init 110 = .ok (.getfield 7, 3) := by decide +kernel
theorem dX5_init_113 : decode cX5_init 113 = .ok (.sipush 149, 3) := by decide +kernel
theorem dX5_init_116 : decode cX5_init 116 = .ok (.iconst 3, 1) := by decide +kernel
theorem dX5_init_117 : decode cX5_init 117 = .ok (.iastore, 1) := by decide +kernel
theorem dX5_init_118 : decode cX5_init 118 = .ok (.aload_n 0, 1) := by decide +kernel
theorem dX5_init_119 : decode cX5_init 119 = .ok (.getfield 7, 3) := by decide +kernel
theorem dX5_init_122 : decode cX5_init 122 = .ok (.sipush 150, 3) := by decide +kernel
theorem dX5_init_125 : decode cX5_init 125 = .ok (.iconst 2, 1) := by decide +kernel
theorem dX5_init_126 : decode cX5_init 126 = .ok (.iastore, 1) := by decide +kernel
theorem dX5_init_127 : decode cX5_init 127 = .ok (.aload_n 0, 1) := by decide +kernel
theorem dX5_init_128 : decode cX5_init 128 = .ok (.getfield 7, 3) := by decide +kernel
theorem dX5_init_131 : decode cX5_init 131 = .ok (.sipush 151, 3) := by decide +kernel
theorem dX5_init_134 : decode cX5_init 134 = .ok (.iconst 4, 1) := by decide +kernel
theorem dX5_init_135 : decode cX5_init 135 = .ok (.iastore, 1) := by decide +kernel
theorem dX5_init_136 : decode cX5_init 136 = .ok (.aload_n 0, 1) := by decide +kernel
theorem dX5_init_137 : decode cX5_init 137 = .ok (.getfield 7, 3) := by decide +kernel
theorem dX5_init_140 : decode cX5_init 140 = .ok (.sipush 152, 3) := by decide +kernel
theorem dX5_init_143 : decode cX5_init 143 = .ok (.iconst 2, 1) := by decide +kernel
theorem dX5_init_144 : decode cX5_init 144 = .ok (.iastore, 1) := by decide +kernel
theorem dX5_init_145 : decode cX5_init 145 = .ok (.return_, 1) := by decide +kernel
theorem dX5_in_0 : decode cX5_in 0 = .ok (.iload_n 0, 1) := by decide +kernel
theorem dX5_in_1 : decode cX5_in 1 = .ok (.iload_n 1, 1) := by decide +kernel
theorem dX5_in_2 : decode cX5_in 2 = .ok (.if_icmp .lt 12, 3) := by decide +kernel
theorem dX5_in_5 : decode cX5_in 5 = .ok (.iload_n 0, 1) := by decide +kernel
theorem dX5_in_6 : decode cX5_in 6 = .ok (.iload_n 2, 1) := by decide +kernel
theorem dX5_in_7 : decode cX5_in 7 = .ok (.if_icmp .gt 7, 3) := by decide +kernel
theorem dX5_in_10 : decode cX5_in 10 = .ok (.iconst 1, 1) := by decide +kernel
theorem dX5_in_11 : decode cX5_in 11 = .ok (.goto 4, 3) := by decide +kernel
theorem dX5_in_14 : decode cX5_in 14 = .ok (.iconst 0, 1) := by decide +kernel
theorem dX5_in_15 : decode cX5_in 15 = .ok (.ireturn, 1) := by decide +kernel
theorem dX5_isLine_0 : decode cX5_isLine 0 = .ok (.iload_n 0, 1) := by decide +kernel
theorem dX5_isLine_1 : decode cX5_isLine 1 = .ok (.iconst 0, 1) := by decide +kernel
theorem dX5_isLine_2 : decode cX5_isLine 2 = .ok (.iconst 2, 1) := by decide +kernel
theorem dX5_isLine_3 : decode cX5_isLine 3 = .ok (.invokestatic 50, 3) := by decide +kernel
theorem dX5_isLine_6 : decode cX5_isLine 6 = .ok (.ireturn, 1) := by decide +kernel
theorem dX5_isTune_0 : decode cX5_isTune 0 = .ok (.iload_n 0, 1) := by decide +kernel
theorem dX5_isTune_1 : decode cX5_isTune 1 = .ok (.iconst 0, 1) := by decide +kernel
theorem dX5_isTune_2 : decode cX5_isTune 2 = .ok (.iconst 3, 1) := by decide +kernel
theorem dX5_isTune_3 : decode cX5_isTune 3 = .ok (.invokestatic 50, 3) := by decide +kernel
theorem dX5_isTune_6 : decode cX5_isTune 6 = .ok (.ireturn, 1) := by decide +kernel
theorem dX5_say_0 : decode cX5_say 0 = .ok (.iload_n 1, 1) := by decide +kernel
theorem dX5_say_1 : decode cX5_say 1 = .ok (.bipush 33, 2) := by decide +kernel
theorem dX5_say_3 : decode cX5_say 3 = .ok (.bipush 126, 2) := by decide +kernel
theorem dX5_say_5 : decode cX5_say 5 = .ok (.invokestatic 50, 3) := by decide +kernel
theorem dX5_say_8 : decode cX5_say 8 = .ok (.ifCond .ne 6, 3) := by decide +kernel
theorem dX5_say_11 : decode cX5_say 11 = .ok (.bipush (-2), 2) := by decide +kernel
theorem dX5_say_13 : decode cX5_say 13 = .ok (.ireturn, 1) := by decide +kernel
theorem dX5_say_14 : decode cX5_say 14 = .ok (.aload_n 0, 1) := by decide +kernel
theorem dX5_say_15 : decode cX5_say 15 = .ok (.getfield 54, 3) := by decide +kernel
theorem dX5_say_18 : decode cX5_say 18 = .ok (.bipush 22, 2) := by decide +kernel
theorem dX5_say_20 : decode cX5_say 20 = .ok (.if_icmp .ne 6, 3) := by decide +kernel
theorem dX5_say_23 : decode cX5_say 23 = .ok (.bipush (-4), 2) := by decide +kernel
theorem dX5_say_25 : decode cX5_say 25 = .ok (.ireturn, 1) := by decide +kernel
theorem dX5_say_26 : decode cX5_say 26 = .ok (.aload_n 0, 1) := by decide +kernel
theorem dX5_say_27 : decode cX5_say 27 = .ok (.getfield 20, 3) := by decide +kernel
theorem dX5_say_30 : decode cX5_say 30 = .ok (.aload_n 0, 1) := by decide +kernel
theorem dX5_say_31 : decode cX5_say 31 = .ok (.getfield 54, 3) := by decide +kernel
theorem dX5_say_34 : decode cX5_say 34 = .ok (.iload_n 1, 1) := by decide +kernel
theorem dX5_say_35 : decode cX5_say 35 = .ok (.iastore, 1) := by decide +kernel
theorem dX5_say_36 : decode cX5_say 36 = .ok (.aload_n 0, 1) := by decide +kernel
theorem dX5_say_37 : decode cX5_say 37 = .ok (.dup, 1) := by decide +kernel
theorem dX5_say_38 : decode cX5_say 38 = .ok (.getfield 54, 3) := by decide +kernel
theorem dX5_say_41 : decode cX5_say 41 = .ok (.iconst 1, 1) := by decide +kernel
theorem dX5_say_42 : decode cX5_say 42 = .ok (.iadd, 1) := by decide +kernel
theorem dX5_say_43 : decode cX5_say 43 = .ok (.putfield 54, 3) := by decide +kernel
theorem dX5_say_46 : decode cX5_say 46 = .ok (.aload_n 0, 1) := by decide +kernel
theorem dX5_say_47 : decode cX5_say 47 = .ok (.getfield 54, 3) := by decide +kernel
theorem dX5_say_50 : decode cX5_say 50 = .ok (.ireturn, 1) := by decide +kernel
theorem dX5_wipe_0 : decode cX5_wipe 0 = .ok (.aload_n 0, 1) := by decide +kernel
theorem dX5_wipe_1 : decode cX5_wipe 1 = .ok (.getfield 54, 3) := by decide +kernel
theorem dX5_wipe_4 : decode cX5_wipe 4 = .ok (.istore_n 1, 1) := by decide +kernel
theorem dX5_wipe_5 : decode cX5_wipe 5 = .ok (.aload_n 0, 1) := by decide +kernel
theorem dX5_wipe_6 : decode cX5_wipe 6 = .ok (.iconst 0, 1) := by decide +kernel
theorem dX5_wipe_7 : decode cX5_wipe 7 = .ok (.putfield 54, 3) := by decide +kernel
theorem dX5_wipe_10 : decode cX5_wipe 10 = .ok (.iload_n 1, 1) := by decide +kernel
theorem dX5_wipe_11 : decode cX5_wipe 11 = .ok (.ireturn, 1) := by decide +kernel
theorem dX5_isFigure_0 : decode cX5_isFigure 0 = .ok (.aload_n 0, 1) := by decide +kernel
theorem dX5_isFigure_1 : decode cX5_isFigure 1 = .ok (.getfield 20, 3) := by decide +kernel
theorem dX5_isFigure_4 : decode cX5_isFigure 4 = .ok (.iload_n 1, 1) := by decide +kernel
theorem dX5_isFigure_5 : decode cX5_isFigure 5 = .ok (.iaload, 1) := by decide +kernel
theorem dX5_isFigure_6 : decode cX5_isFigure 6 = .ok (.bipush 48, 2) := by decide +kernel
theorem dX5_isFigure_8 : decode cX5_isFigure 8 = .ok (.iload_n 2, 1) := by decide +kernel
theorem dX5_isFigure_9 : decode cX5_isFigure 9 = .ok (.iadd, 1) := by decide +kernel
theorem dX5_isFigure_10 : decode cX5_isFigure 10 = .ok (.bipush 48, 2) := by decide +kernel
theorem dX5_isFigure_12 : decode cX5_isFigure 12 = .ok (.iload_n 3, 1) := by decide +kernel
theorem dX5_isFigure_13 : decode cX5_isFigure 13 = .ok (.iadd, 1) := by decide +kernel
theorem dX5_isFigure_14 : decode cX5_isFigure 14 = .ok (.invokestatic 50, 3) := by decide +kernel
theorem dX5_isFigure_17 : decode cX5_isFigure 17 = .ok (.ireturn, 1) := by decide +kernel
theorem dX5_lineFault_0 : decode cX5_lineFault 0 = .ok (.iconst 0, 1) := by decide +kernel
theorem dX5_lineFault_1 : decode cX5_lineFault 1 = .ok (.istore_n 1, 1) := by decide +kernel
theorem dX5_lineFault_2 : decode cX5_lineFault 2 = .ok (.iconst 0, 1) := by decide +kernel
theorem dX5_lineFault_3 : decode cX5_lineFault 3 = .ok (.istore_n 2, 1) := by decide +kernel
theorem dX5_lineFault_4 : decode cX5_lineFault 4 = .ok (.iload_n 2, 1) := by decide +kernel
theorem dX5_lineFault_5 : decode cX5_lineFault 5 = .ok (.aload_n 0, 1) := by decide +kernel
theorem dX5_lineFault_6 : decode cX5_lineFault 6 = .ok (.getfield 54, 3) := by decide +kernel
theorem dX5_lineFault_9 : decode cX5_lineFault 9 = .ok (.if_icmp .ge 90, 3) := by decide +kernel
theorem dX5_lineFault_12 : decode cX5_lineFault 12 = .ok (.aload_n 0, 1) := by decide +kernel
theorem dX5_lineFault_13 : decode cX5_lineFault 13 = .ok (.getfield 20, 3) := by decide +kernel
theorem dX5_lineFault_16 : decode cX5_lineFault 16 = .ok (.iload_n 2, 1) := by decide +kernel
theorem dX5_lineFault_17 : decode cX5_lineFault 17 = .ok (.iaload, 1) := by decide +kernel
theorem dX5_lineFault_18 : decode cX5_lineFault 18 = .ok (.bipush 45, 2) := by decide +kernel
theorem dX5_lineFault_20 : decode cX5_lineFault 20 = .ok (.if_icmp .ne 24, 3) := by decide +kernel
theorem dX5_lineFault_23 : decode cX5_lineFault 23 = .ok (.iload_n 2, 1) := by decide +kernel
theorem dX5_lineFault_24 : decode cX5_lineFault 24 = .ok (.ifCond .le 20, 3) := by decide +kernel
theorem dX5_lineFault_27 : decode cX5_lineFault 27 = .ok (.aload_n 0, 1) := by decide +kernel
theorem dX5_lineFault_28 : decode cX5_lineFault 28 = .ok (.getfield 20, 3) := by decide +kernel
theorem dX5_lineFault_31 : decode cX5_lineFault 31 = .ok (.iload_n 2, 1) := by decide +kernel
theorem dX5_lineFault_32 : decode cX5_lineFault 32 = .ok (.iconst 1, 1) := by decide +kernel
theorem dX5_lineFault_33 : decode cX5_lineFault 33 = .ok (.isub, 1) := by decide +kernel
theorem dX5_lineFault_34 : decode cX5_lineFault 34 = .ok (.iaload, 1) := by decide +kernel
theorem dX5_lineFault_35 : decode cX5_lineFault 35 = .ok (.bipush 45, 2) := by decide +kernel
theorem dX5_lineFault_37 : decode cX5_lineFault 37 = .ok (.if_icmp .eq 7, 3) := by decide +kernel
theorem dX5_lineFault_40 : decode cX5_lineFault 40 = .ok (.iconst 1, 1) := by decide +kernel
theorem dX5_lineFault_41 : decode cX5_lineFault 41 = .ok (.goto 4, 3) := by decide +kernel
theorem dX5_lineFault_44 : decode cX5_lineFault 44 = .ok (.iconst 0, 1) := by decide +kernel
theorem dX5_lineFault_45 : decode cX5_lineFault 45 = .ok (.istore_n 3, 1) := by decide +kernel
theorem dX5_lineFault_46 : decode cX5_lineFault 46 = .ok (.aload_n 0, 1) := by decide +kernel
theorem dX5_lineFault_47 : decode cX5_lineFault 47 = .ok (.iload_n 2, 1) := by decide +kernel
theorem dX5_lineFault_48 : decode cX5_lineFault 48 = .ok (.iconst 0, 1) := by decide +kernel
theorem dX5_lineFault_49 : decode cX5_lineFault 49 = .ok (.iconst 2, 1) := by decide +kernel
theorem dX5_lineFault_50 : decode cX5_lineFault 50 = .ok (.invokevirtual 58, 3) := by decide +kernel
theorem dX5_lineFault_53 : decode cX5_lineFault 53 = .ok (.ifCond .eq 13, 3) := by decide +kernel
theorem dX5_lineFault_56 : decode cX5_lineFault 56 = .ok (.iload_n 1, 1) := by decide +kernel
theorem dX5_lineFault_57 : decode cX5_lineFault 57 = .ok (.bipush 9, 2) := by decide +kernel
theorem dX5_lineFault_59 : decode cX5_lineFault 59 = .ok (.if_icmp .ge 7, 3) := by decide +kernel
theorem dX5_lineFault_62 : decode cX5_lineFault 62 = .ok (.iconst 1, 1) := by decide +kernel
theorem dX5_lineFault_63 : decode cX5_lineFault 63 = .ok (.goto 4, 3) := by decide +kernel
theorem dX5_lineFault_66 : decode cX5_lineFault 66 = .ok (.iconst 0, 1) := by decide +kernel
theorem dX5_lineFault_67 : decode cX5_lineFault 67 = .ok (.istore 4, 2) := by decide +kernel
theorem dX5_lineFault_69 : decode cX5_lineFault 69 = .ok (.iload_n 3, 1) := by decide +kernel
theorem dX5_lineFault_70 : decode cX5_lineFault 70 = .ok (.ifCond .ne 10, 3) := by decide +kernel
theorem dX5_lineFault_73 : decode cX5_lineFault 73 = .ok (.iload 4, 2) := by decide +kernel
theorem dX5_lineFault_75 : decode cX5_lineFault 75 = .ok (.ifCond .ne 5, 3) := by decide +kernel
theorem dX5_lineFault_78 : decode cX5_lineFault 78 = .ok (.iload_n 2, 1) := by decide +kernel
theorem dX5_lineFault_79 : decode cX5_lineFault 79 = .ok (.ireturn, 1) := by decide +kernel
theorem dX5_lineFault_80 : decode cX5_lineFault 80 = .ok (.iload_n 1, 1) := by decide +kernel
theorem dX5_lineFault_81 : decode cX5_lineFault 81 = .ok (.iload 4, 2) := by decide +kernel
theorem dX5_lineFault_83 : decode cX5_lineFault 83 = .ok (.ifCond .eq 7, 3) := by decide +kernel
theorem dX5_lineFault_86 : decode cX5_lineFault 86 = .ok (.iconst 1, 1) := by decide +kernel
theorem dX5_lineFault_87 : decode cX5_lineFault 87 = .ok (.goto 4, 3) := by decide +kernel
theorem dX5_lineFault_90 : decode cX5_lineFault 90 = .ok (.iconst 0, 1) := by decide +kernel
theorem dX5_lineFault_91 : decode cX5_lineFault 91 = .ok (.iadd, 1) := by decide +kernel
theorem dX5_lineFault_92 : decode cX5_lineFault 92 = .ok (.istore_n 1, 1) := by decide +kernel
theorem dX5_lineFault_93 : decode cX5_lineFault 93 = .ok (.iinc 2 1, 3) := by decide +kernel
theorem dX5_lineFault_96 : decode cX5_lineFault 96 = .ok (.goto (-92), 3) := by decide +kernel
theorem dX5_lineFault_99 : decode cX5_lineFault 99 = .ok (.bipush (-6), 2) := by decide +kernel
theorem dX5_lineFault_101 : decode cX5_lineFault 101 = .ok (.ireturn, 1) := by decide +kernel
theorem dX5_tuneFault_0 : decode cX5_tuneFault 0 = .ok (.iconst 0, 1) := by decide +kernel
theorem dX5_tuneFault_1 : decode cX5_tuneFault 1 = .ok (.istore_n 1, 1) := by decide +kernel
theorem dX5_tuneFault_2 : decode cX5_tuneFault 2 = .ok (.iload_n 1, 1) := by decide +kernel
theorem dX5_tuneFault_3 : decode cX5_tuneFault 3 = .ok (.aload_n 0, 1) := by decide +kernel
theorem dX5_tuneFault_4 : decode cX5_tuneFault 4 = .ok (.getfield 54, 3) := by decide +kernel
theorem dX5_tuneFault_7 : decode cX5_tuneFault 7 = .ok (.if_icmp .ge 53, 3) := by decide +kernel
theorem dX5_tuneFault_10 : decode cX5_tuneFault 10 = .ok (.iload_n 1, 1) := by decide +kernel
theorem dX5_tuneFault_11 : decode cX5_tuneFault 11 = .ok (.iconst 2, 1) := by decide +kernel
theorem dX5_tuneFault_12 : decode cX5_tuneFault 12 = .ok (.irem, 1) := by decide +kernel
theorem dX5_tuneFault_13 : decode cX5_tuneFault 13 = .ok (.ifCond .ne 27, 3) := by decide +kernel
theorem dX5_tuneFault_16 : decode cX5_tuneFault 16 = .ok (.aload_n 0, 1) := by decide +kernel
theorem dX5_tuneFault_17 : decode cX5_tuneFault 17 = .ok (.iload_n 1, 1) := by decide +kernel
theorem dX5_tuneFault_18 : decode cX5_tuneFault 18 = .ok (.iconst 0, 1) := by decide +kernel
theorem dX5_tuneFault_19 : decode cX5_tuneFault 19 = .ok (.iconst 2, 1) := by decide +kernel
theorem dX5_tuneFault_20 : decode cX5_tuneFault 20 = .ok (.invokevirtual 58, 3) := by decide +kernel
theorem dX5_tuneFault_23 : decode cX5_tuneFault 23 = .ok (.ifCond .eq 13, 3) := by decide +kernel
theorem dX5_tuneFault_26 : decode cX5_tuneFault 26 = .ok (.iload_n 1, 1) := by decide +kernel
theorem dX5_tuneFault_27 : decode cX5_tuneFault 27 = .ok (.bipush 22, 2) := by decide +kernel
theorem dX5_tuneFault_29 : decode cX5_tuneFault 29 = .ok (.if_icmp .ge 7, 3) := by decide +kernel
theorem dX5_tuneFault_32 : decode cX5_tuneFault 32 = .ok (.iconst 1, 1) := by decide +kernel
theorem dX5_tuneFault_33 : decode cX5_tuneFault 33 = .ok (.goto 14, 3) := by decide +kernel
theorem dX5_tuneFault_36 : decode cX5_tuneFault 36 = .ok (.iconst 0, 1) := by decide +kernel
theorem dX5_tuneFault_37 : decode cX5_tuneFault 37 = .ok (.goto 10, 3) := by decide +kernel
theorem dX5_tuneFault_40 : decode cX5_tuneFault 40 = .ok (.aload_n 0, 1) := by decide +kernel
theorem dX5_tuneFault_41 : decode cX5_tuneFault 41 = .ok (.iload_n 1, 1) := by decide +kernel
theorem dX5_tuneFault_42 : decode cX5_tuneFault 42 = .ok (.iconst 1, 1) := by decide +kernel
theorem dX5_tuneFault_43 : decode cX5_tuneFault 43 = .ok (.iconst 4, 1) := by decide +kernel
theorem dX5_tuneFault_44 : decode cX5_tuneFault 44 = .ok (.invokevirtual 58, 3) := by decide +kernel
theorem dX5_tuneFault_47 : decode cX5_tuneFault 47 = .ok (.istore_n 2, 1) := by decide +kernel
theorem dX5_tuneFault_48 : decode cX5_tuneFault 48 = .ok (.iload_n 2, 1) := by decide +kernel
theorem dX5_tuneFault_49 : decode cX5_tuneFault 49 = .ok (.ifCond .ne 5, 3) := by decide +kernel
theorem dX5_tuneFault_52 : decode cX5_tuneFault 52 = .ok (.iload_n 1, 1) := by decide +kernel
theorem dX5_tuneFault_53 : decode cX5_tuneFault 53 = .ok (.ireturn, 1) := by decide +kernel
theorem dX5_tuneFault_54 : decode cX5_tuneFault 54 = .ok (.iinc 1 1, 3) := by decide +kernel
theorem dX5_tuneFault_57 : decode cX5_tuneFault 57 = .ok (.goto (-55), 3) := by decide +kernel
theorem dX5_tuneFault_60 : decode cX5_tuneFault 60 = .ok (.aload_n 0, 1) := by decide +kernel
theorem dX5_tuneFault_61 : decode cX5_tuneFault 61 = .ok (.getfield 54, 3) := by decide +kernel
theorem dX5_tuneFault_64 : decode cX5_tuneFault 64 = .ok (.iconst 2, 1) := by decide +kernel
theorem dX5_tuneFault_65 : decode cX5_tuneFault 65 = .ok (.irem, 1) := by decide +kernel
theorem dX5_tuneFault_66 : decode cX5_tuneFault 66 = .ok (.ifCond .ne 8, 3) := by decide +kernel
theorem dX5_tuneFault_69 : decode cX5_tuneFault 69 = .ok (.bipush (-6), 2) := by decide +kernel
theorem dX5_tuneFault_71 : decode cX5_tuneFault 71 = .ok (.goto 7, 3) := by decide +kernel
theorem dX5_tuneFault_74 : decode cX5_tuneFault 74 = .ok (.aload_n 0, 1) := by decide +kernel
theorem dX5_tuneFault_75 : decode cX5_tuneFault 75 = .ok (.getfield 54, 3) := by decide +kernel
theorem dX5_tuneFault_78 : decode cX5_tuneFault 78 = .ok (.ireturn, 1) := by decide +kernel
theorem dX5_fault_0 : decode cX5_fault 0 = .ok (.iload_n 1, 1) := by decide +kernel
theorem dX5_fault_1 : decode cX5_fault 1 = .ok (.ifCond .ne 10, 3) := by decide +kernel
theorem dX5_fault_4 : decode cX5_fault 4 = .ok (.aload_n 0, 1) := by decide +kernel
theorem dX5_fault_5 : decode cX5_fault 5 = .ok (.invokevirtual 61, 3) := by decide +kernel
theorem dX5_fault_8 : decode cX5_fault 8 = .ok (.goto 17, 3) := by decide +kernel
theorem dX5_fault_11 : decode cX5_fault 11 = .ok (.iload_n 1, 1) := by decide +kernel
theorem dX5_fault_12 : decode cX5_fault 12 = .ok (.iconst 1, 1) := by decide +kernel
theorem dX5_fault_13 : decode cX5_fault 13 = .ok (.if_icmp .ne 10, 3) := by decide +kernel
theorem dX5_fault_16 : decode cX5_fault 16 = .ok (.aload_n 0, 1) := by decide +kernel
theorem dX5_fault_17 : decode cX5_fault 17 = .ok (.invokevirtual 65, 3) := by decide +kernel
theorem dX5_fault_20 : decode cX5_fault 20 = .ok (.goto 5, 3) := by decide +kernel
theorem dX5_fault_23 : decode cX5_fault 23 = .ok (.bipush (-2), 2) := by decide +kernel
theorem dX5_fault_25 : decode cX5_fault 25 = .ok (.ireturn, 1) := by decide +kernel
theorem dX5_line_0 : decode cX5_line 0 = .ok (.iload_n 1, 1) := by decide +kernel
theorem dX5_line_1 : decode cX5_line 1 = .ok (.invokestatic 68, 3) := by decide +kernel
theorem dX5_line_4 : decode cX5_line 4 = .ok (.ifCond .ne 5, 3) := by decide +kernel
theorem dX5_line_7 : decode cX5_line 7 = .ok (.iconst (-1), 1) := by decide +kernel
theorem dX5_line_8 : decode cX5_line 8 = .ok (.ireturn, 1) := by decide +kernel
theorem dX5_line_9 : decode cX5_line 9 = .ok (.aload_n 0, 1) := by decide +kernel
theorem dX5_line_10 : decode cX5_line 10 = .ok (.invokevirtual 61, 3) := by decide +kernel
theorem dX5_line_13 : decode cX5_line 13 = .ok (.ifCond .lt 6, 3) := by decide +kernel
theorem dX5_line_16 : decode cX5_line 16 = .ok (.bipush (-7), 2) := by decide +kernel
theorem dX5_line_18 : decode cX5_line 18 = .ok (.ireturn, 1) := by decide +kernel
theorem dX5_line_19 : decode cX5_line 19 = .ok (.iconst 0, 1) := by decide +kernel
theorem dX5_line_20 : decode cX5_line 20 = .ok (.istore_n 2, 1) := by decide +kernel
theorem dX5_line_21 : decode cX5_line 21 = .ok (.iconst 0, 1) := by decide +kernel
theorem dX5_line_22 : decode cX5_line 22 = .ok (.istore_n 3, 1) := by decide +kernel
theorem dX5_line_23 : decode cX5_line 23 = .ok (.iload_n 3, 1) := by decide +kernel
theorem dX5_line_24 : decode cX5_line 24 = .ok (.aload_n 0, 1) := by decide +kernel
theorem dX5_line_25 : decode cX5_line 25 = .ok (.getfield 54, 3) := by decide +kernel
theorem dX5_line_28 : decode cX5_line 28 = .ok (.if_icmp .ge 80, 3) := by decide +kernel
theorem dX5_line_31 : decode cX5_line 31 = .ok (.aload_n 0, 1) := by decide +kernel
theorem dX5_line_32 : decode cX5_line 32 = .ok (.getfield 20, 3) := by decide +kernel
theorem dX5_line_35 : decode cX5_line 35 = .ok (.iload_n 3, 1) := by decide +kernel
theorem dX5_line_36 : decode cX5_line 36 = .ok (.iaload, 1) := by decide +kernel
theorem dX5_line_37 : decode cX5_line 37 = .ok (.bipush 45, 2) := by decide +kernel
theorem dX5_line_39 : decode cX5_line 39 = .ok (.if_icmp .ne 23, 3) := by decide +kernel
theorem dX5_line_42 : decode cX5_line 42 = .ok (.aload_n 0, 1) := by decide +kernel
theorem dX5_line_43 : decode cX5_line 43 = .ok (.getfield 7, 3) := by decide +kernel
theorem dX5_line_46 : decode cX5_line 46 = .ok (.bipush 30, 2) := by decide +kernel
theorem dX5_line_48 : decode cX5_line 48 = .ok (.bipush 9, 2) := by decide +kernel
theorem dX5_line_50 : decode cX5_line 50 = .ok (.iload_n 1, 1) := by decide +kernel
theorem dX5_line_51 : decode cX5_line 51 = .ok (.imul, 1) := by decide +kernel
theorem dX5_line_52 : decode cX5_line 52 = .ok (.iadd, 1) := by decide +kernel
theorem dX5_line_53 : decode cX5_line 53 = .ok (.iload_n 2, 1) := by decide +kernel
theorem dX5_line_54 : decode cX5_line 54 = .ok (.iadd, 1) := by decide +kernel
theorem dX5_line_55 : decode cX5_line 55 = .ok (.iconst 1, 1) := by decide +kernel
theorem dX5_line_56 : decode cX5_line 56 = .ok (.isub, 1) := by decide +kernel
theorem dX5_line_57 : decode cX5_line 57 = .ok (.iconst 1, 1) := by decide +kernel
theorem dX5_line_58 : decode cX5_line 58 = .ok (.iastore, 1) := by decide +kernel
theorem dX5_line_59 : decode cX5_line 59 = .ok (.goto 43, 3) := by decide +kernel
theorem dX5_line_62 : decode cX5_line 62 = .ok (.aload_n 0, 1) := by decide +kernel
theorem dX5_line_63 : decode cX5_line 63 = .ok (.getfield 7, 3) := by decide +kernel
theorem dX5_line_66 : decode cX5_line 66 = .ok (.iconst 3, 1) := by decide +kernel
theorem dX5_line_67 : decode cX5_line 67 = .ok (.bipush 9, 2) := by decide +kernel
theorem dX5_line_69 : decode cX5_line 69 = .ok (.iload_n 1, 1) := by decide +kernel
theorem dX5_line_70 : decode cX5_line 70 = .ok (.imul, 1) := by decide +kernel
theorem dX5_line_71 : decode cX5_line 71 = .ok (.iadd, 1) := by decide +kernel
theorem dX5_line_72 : decode cX5_line 72 = .ok (.iload_n 2, 1) := by decide +kernel
theorem dX5_line_73 : decode cX5_line 73 = .ok (.iadd, 1) := by decide +kernel
theorem dX5_line_74 : decode cX5_line 74 = .ok (.aload_n 0, 1) := by decide +kernel
theorem dX5_line_75 : decode cX5_line 75 = .ok (.getfield 20, 3) := by decide +kernel
theorem dX5_line_78 : decode cX5_line 78 = .ok (.iload_n 3, 1) := by decide +kernel
theorem dX5_line_79 : decode cX5_line 79 = .ok (.iaload, 1) := by decide +kernel
theorem dX5_line_80 : decode cX5_line 80 = .ok (.bipush 48, 2) := by decide +kernel
theorem dX5_line_82 : decode cX5_line 82 = .ok (.isub, 1) := by decide +kernel
theorem dX5_line_83 : decode cX5_line 83 = .ok (.iastore, 1) := by decide +kernel
theorem dX5_line_84 : decode cX5_line 84 = .ok (.aload_n 0, 1) := by decide +kernel
theorem dX5_line_85 : decode cX5_line 85 = .ok (.getfield 7, 3) := by decide +kernel
theorem dX5_line_88 : decode cX5_line 88 = .ok (.bipush 30, 2) := by decide +kernel
theorem dX5_line_90 : decode cX5_line 90 = .ok (.bipush 9, 2) := by decide +kernel
theorem dX5_line_92 : decode cX5_line 92 = .ok (.iload_n 1, 1) := by decide +kernel
theorem dX5_line_93 : decode cX5_line 93 = .ok (.imul, 1) := by decide +kernel
theorem dX5_line_94 : decode cX5_line 94 = .ok (.iadd, 1) := by decide +kernel
theorem dX5_line_95 : decode cX5_line 95 = .ok (.iload_n 2, 1) := by decide +kernel
theorem dX5_line_96 : decode cX5_line 96 = .ok (.iadd, 1) := by decide +kernel
theorem dX5_line_97 : decode cX5_line 97 = .ok (.iconst 0, 1) := by decide +kernel
theorem dX5_line_98 : decode cX5_line 98 = .ok (.iastore, 1) := by decide +kernel
theorem dX5_line_99 : decode cX5_line 99 = .ok (.iinc 2 1, 3) := by decide +kernel
theorem dX5_line_102 : decode cX5_line 102 = .ok (.iinc 3 1, 3) := by decide +kernel
theorem dX5_line_105 : decode cX5_line 105 = .ok (.goto (-82), 3) := by decide +kernel
theorem dX5_line_108 : decode cX5_line 108 = .ok (.aload_n 0, 1) := by decide +kernel
theorem dX5_line_109 : decode cX5_line 109 = .ok (.getfield 7, 3) := by decide +kernel
theorem dX5_line_112 : decode cX5_line 112 = .ok (.iconst 0, 1) := by decide +kernel
theorem dX5_line_113 : decode cX5_line 113 = .ok (.iload_n 1, 1) := by decide +kernel
theorem dX5_line_114 : decode cX5_line 114 = .ok (.iadd, 1) := by decide +kernel
theorem dX5_line_115 : decode cX5_line 115 = .ok (.iload_n 2, 1) := by decide +kernel
theorem dX5_line_116 : decode cX5_line 116 = .ok (.iastore, 1) := by decide +kernel
theorem dX5_line_117 : decode cX5_line 117 = .ok (.aload_n 0, 1) := by decide +kernel
theorem dX5_line_118 : decode cX5_line 118 = .ok (.iconst 0, 1) := by decide +kernel
theorem dX5_line_119 : decode cX5_line 119 = .ok (.putfield 54, 3) := by decide +kernel
theorem dX5_line_122 : decode cX5_line 122 = .ok (.iload_n 2, 1) := by decide +kernel
theorem dX5_line_123 : decode cX5_line 123 = .ok (.ireturn, 1) := by decide +kernel
theorem dX5_tune_0 : decode cX5_tune 0 = .ok (.iload_n 1, 1) := by decide +kernel
theorem dX5_tune_1 : decode cX5_tune 1 = .ok (.invokestatic 72, 3) := by decide +kernel
theorem dX5_tune_4 : decode cX5_tune 4 = .ok (.ifCond .ne 5, 3) := by decide +kernel
theorem dX5_tune_7 : decode cX5_tune 7 = .ok (.iconst (-1), 1) := by decide +kernel
theorem dX5_tune_8 : decode cX5_tune 8 = .ok (.ireturn, 1) := by decide +kernel
theorem dX5_tune_9 : decode cX5_tune 9 = .ok (.aload_n 0, 1) := by decide +kernel
theorem dX5_tune_10 : decode cX5_tune 10 = .ok (.invokevirtual 65, 3) := by decide +kernel
theorem dX5_tune_13 : decode cX5_tune 13 = .ok (.ifCond .lt 6, 3) := by decide +kernel
theorem dX5_tune_16 : decode cX5_tune 16 = .ok (.bipush (-7), 2) := by decide +kernel
theorem dX5_tune_18 : decode cX5_tune 18 = .ok (.ireturn, 1) := by decide +kernel
theorem dX5_tune_19 : decode cX5_tune 19 = .ok (.aload_n 0, 1) := by decide +kernel
theorem dX5_tune_20 : decode cX5_tune 20 = .ok (.getfield 54, 3) := by decide +kernel
theorem dX5_tune_23 : decode cX5_tune 23 = .ok (.iconst 2, 1) := by decide +kernel
theorem dX5_tune_24 : decode cX5_tune 24 = .ok (.idiv, 1) := by decide +kernel
theorem dX5_tune_25 : decode cX5_tune 25 = .ok (.istore_n 2, 1) := by decide +kernel
theorem dX5_tune_26 : decode cX5_tune 26 = .ok (.iconst 0, 1) := by decide +kernel
theorem dX5_tune_27 : decode cX5_tune 27 = .ok (.istore_n 3, 1) := by decide +kernel
theorem dX5_tune_28 : decode cX5_tune 28 = .ok (.iload_n 3, 1) := by decide +kernel
theorem dX5_tune_29 : decode cX5_tune 29 = .ok (.iload_n 2, 1) := by decide +kernel
theorem dX5_tune_30 : decode cX5_tune 30 = .ok (.if_icmp .ge 61, 3) := by decide +kernel
theorem dX5_tune_33 : decode cX5_tune 33 = .ok (.aload_n 0, 1) := by decide +kernel
theorem dX5_tune_34 : decode cX5_tune 34 = .ok (.getfield 7, 3) := by decide +kernel
theorem dX5_tune_37 : decode cX5_tune 37 = .ok (.bipush 61, 2) := by decide +kernel
theorem dX5_tune_39 : decode cX5_tune 39 = .ok (.bipush 11, 2) := by decide +kernel
theorem dX5_tune_41 : decode cX5_tune 41 = .ok (.iload_n 1, 1) := by decide +kernel
theorem dX5_tune_42 : decode cX5_tune 42 = .ok (.imul, 1) := by decide +kernel
theorem dX5_tune_43 : decode cX5_tune 43 = .ok (.iadd, 1) := by decide +kernel
theorem dX5_tune_44 : decode cX5_tune 44 = .ok (.iload_n 3, 1) := by decide +kernel
theorem dX5_tune_45 : decode cX5_tune 45 = .ok (.iadd, 1) := by decide +kernel
theorem dX5_tune_46 : decode cX5_tune 46 = .ok (.aload_n 0, 1) := by decide +kernel
theorem dX5_tune_47 : decode cX5_tune 47 = .ok (.getfield 20, 3) := by decide +kernel
theorem dX5_tune_50 : decode cX5_tune 50 = .ok (.iconst 2, 1) := by decide +kernel
theorem dX5_tune_51 : decode cX5_tune 51 = .ok (.iload_n 3, 1) := by decide +kernel
theorem dX5_tune_52 : decode cX5_tune 52 = .ok (.imul, 1) := by decide +kernel
theorem dX5_tune_53 : decode cX5_tune 53 = .ok (.iaload, 1) := by decide +kernel
theorem dX5_tune_54 : decode cX5_tune 54 = .ok (.bipush 48, 2) := by decide +kernel
theorem dX5_tune_56 : decode cX5_tune 56 = .ok (.isub, 1) := by decide +kernel
theorem dX5_tune_57 : decode cX5_tune 57 = .ok (.iastore, 1) := by decide +kernel
theorem dX5_tune_58 : decode cX5_tune 58 = .ok (.aload_n 0, 1) := by decide +kernel
theorem dX5_tune_59 : decode cX5_tune 59 = .ok (.getfield 7, 3) := by decide +kernel
theorem dX5_tune_62 : decode cX5_tune 62 = .ok (.bipush 105, 2) := by decide +kernel
theorem dX5_tune_64 : decode cX5_tune 64 = .ok (.bipush 11, 2) := by decide +kernel
theorem dX5_tune_66 : decode cX5_tune 66 = .ok (.iload_n 1, 1) := by decide +kernel
theorem dX5_tune_67 : decode cX5_tune 67 = .ok (.imul, 1) := by decide +kernel
theorem dX5_tune_68 : decode cX5_tune 68 = .ok (.iadd, 1) := by decide +kernel
theorem dX5_tune_69 : decode cX5_tune 69 = .ok (.iload_n 3, 1) := by decide +kernel
theorem dX5_tune_70 : decode cX5_tune 70 = .ok (.iadd, 1) := by decide +kernel
theorem dX5_tune_71 : decode cX5_tune 71 = .ok (.aload_n 0, 1) := by decide +kernel
theorem dX5_tune_72 : decode cX5_tune 72 = .ok (.getfield 20, 3) := by decide +kernel
theorem dX5_tune_75 : decode cX5_tune 75 = .ok (.iconst 2, 1) := by decide +kernel
theorem dX5_tune_76 : decode cX5_tune 76 = .ok (.iload_n 3, 1) := by decide +kernel
theorem dX5_tune_77 : decode cX5_tune 77 = .ok (.imul, 1) := by decide +kernel
theorem dX5_tune_78 : decode cX5_tune 78 = .ok (.iconst 1, 1) := by decide +kernel
theorem dX5_tune_79 : decode cX5_tune 79 = .ok (.iadd, 1) := by decide +kernel
theorem dX5_tune_80 : decode cX5_tune 80 = .ok (.iaload, 1) := by decide +kernel
theorem dX5_tune_81 : decode cX5_tune 81 = .ok (.bipush 48, 2) := by decide +kernel
theorem dX5_tune_83 : decode cX5_tune 83 = .ok (.isub, 1) := by decide +kernel
theorem dX5_tune_84 : decode cX5_tune 84 = .ok (.iastore, 1) := by decide +kernel
theorem dX5_tune_85 : decode cX5_tune 85 = .ok (.iinc 3 1, 3) := by decide +kernel
theorem dX5_tune_88 : decode cX5_tune 88 = .ok (.goto (-60), 3) := by decide +kernel
theorem dX5_tune_91 : decode cX5_tune 91 = .ok (.aload_n 0, 1) := by decide +kernel
theorem dX5_tune_92 : decode cX5_tune 92 = .ok (.getfield 7, 3) := by decide +kernel
theorem dX5_tune_95 : decode cX5_tune 95 = .ok (.bipush 57, 2) := by decide +kernel
theorem dX5_tune_97 : decode cX5_tune 97 = .ok (.iload_n 1, 1) := by decide +kernel
theorem dX5_tune_98 : decode cX5_tune 98 = .ok (.iadd, 1) := by decide +kernel
theorem dX5_tune_99 : decode cX5_tune 99 = .ok (.iload_n 2, 1) := by decide +kernel
theorem dX5_tune_100 : decode cX5_tune 100 = .ok (.iastore, 1) := by decide +kernel
theorem dX5_tune_101 : decode cX5_tune 101 = .ok (.aload_n 0, 1) := by decide +kernel
theorem dX5_tune_102 : decode cX5_tune 102 = .ok (.iconst 0, 1) := by decide +kernel
theorem dX5_tune_103 : decode cX5_tune 103 = .ok (.putfield 54, 3) := by decide +kernel
theorem dX5_tune_106 : decode cX5_tune 106 = .ok (.iload_n 2, 1) := by decide +kernel
theorem dX5_tune_107 : decode cX5_tune 107 = .ok (.ireturn, 1) := by decide +kernel
theorem dX5_rule_0 : decode cX5_rule 0 = .ok (.iload_n 1, 1) := by decide +kernel
theorem dX5_rule_1 : decode cX5_rule 1 = .ok (.iconst 0, 1) := by decide +kernel
theorem dX5_rule_2 : decode cX5_rule 2 = .ok (.iconst 3, 1) := by decide +kernel
theorem dX5_rule_3 : decode cX5_rule 3 = .ok (.invokestatic 50, 3) := by decide +kernel
theorem dX5_rule_6 : decode cX5_rule 6 = .ok (.ifCond .eq 13, 3) := by decide +kernel
theorem dX5_rule_9 : decode cX5_rule 9 = .ok (.iload_n 2, 1) := by decide +kernel
theorem dX5_rule_10 : decode cX5_rule 10 = .ok (.iconst 0, 1) := by decide +kernel
theorem dX5_rule_11 : decode cX5_rule 11 = .ok (.bipush 9, 2) := by decide +kernel
theorem dX5_rule_13 : decode cX5_rule 13 = .ok (.invokestatic 50, 3) := by decide +kernel
theorem dX5_rule_16 : decode cX5_rule 16 = .ok (.ifCond .ne 6, 3) := by decide +kernel
theorem dX5_rule_19 : decode cX5_rule 19 = .ok (.bipush (-2), 2) := by decide +kernel
theorem dX5_rule_21 : decode cX5_rule 21 = .ok (.ireturn, 1) := by decide +kernel
theorem dX5_rule_22 : decode cX5_rule 22 = .ok (.aload_n 0, 1) := by decide +kernel
theorem dX5_rule_23 : decode cX5_rule 23 = .ok (.getfield 7, 3) := by decide +kernel
theorem dX5_rule_26 : decode cX5_rule 26 = .ok (.sipush 149, 3) := by decide +kernel
theorem dX5_rule_29 : decode cX5_rule 29 = .ok (.iload_n 1, 1) := by decide +kernel
theorem dX5_rule_30 : decode cX5_rule 30 = .ok (.iadd, 1) := by decide +kernel
theorem dX5_rule_31 : decode cX5_rule 31 = .ok (.iaload, 1) := by decide +kernel
theorem dX5_rule_32 : decode cX5_rule 32 = .ok (.istore_n 3, 1) := by decide +kernel
theorem dX5_rule_33 : decode cX5_rule 33 = .ok (.aload_n 0, 1) := by decide +kernel
theorem dX5_rule_34 : decode cX5_rule 34 = .ok (.getfield 7, 3) := by decide +kernel
theorem dX5_rule_37 : decode cX5_rule 37 = .ok (.sipush 149, 3) := by decide +kernel
theorem dX5_rule_40 : decode cX5_rule 40 = .ok (.iload_n 1, 1) := by decide +kernel
theorem dX5_rule_41 : decode cX5_rule 41 = .ok (.iadd, 1) := by decide +kernel
theorem dX5_rule_42 : decode cX5_rule 42 = .ok (.iload_n 2, 1) := by decide +kernel
theorem dX5_rule_43 : decode cX5_rule 43 = .ok (.iastore, 1) := by decide +kernel
theorem dX5_rule_44 : decode cX5_rule 44 = .ok (.iload_n 3, 1) := by decide +kernel
theorem dX5_rule_45 : decode cX5_rule 45 = .ok (.ireturn, 1) := by decide +kernel
theorem dX5_syllable_0 : decode cX5_syllable 0 = .ok (.iload_n 1, 1) := by decide +kernel
theorem dX5_syllable_1 : decode cX5_syllable 1 = .ok (.invokestatic 68, 3) := by decide +kernel
theorem dX5_syllable_4 : decode cX5_syllable 4 = .ok (.ifCond .ne 5, 3) := by decide +kernel
theorem dX5_syllable_7 : decode cX5_syllable 7 = .ok (.iconst (-1), 1) := by decide +kernel
theorem dX5_syllable_8 : decode cX5_syllable 8 = .ok (.ireturn, 1) := by decide +kernel
theorem dX5_syllable_9 : decode cX5_syllable 9 = .ok (.iload_n 3, 1) := by decide +kernel
theorem dX5_syllable_10 : decode cX5_syllable 10 = .ok (.iconst 0, 1) := by decide +kernel
theorem dX5_syllable_11 : decode cX5_syllable 11 = .ok (.iconst 1, 1) := by decide +kernel
theorem dX5_syllable_12 : decode cX5_syllable 12 = .ok (.invokestatic 50, 3) := by decide +kernel
theorem dX5_syllable_15 : decode cX5_syllable 15 = .ok (.ifCond .ne 6, 3) := by decide +kernel
theorem dX5_syllable_18 : decode cX5_syllable 18 = .ok (.bipush (-2), 2) := by decide +kernel
theorem dX5_syllable_20 : decode cX5_syllable 20 = .ok (.ireturn, 1) := by decide +kernel
theorem dX5_syllable_21 : decode cX5_syllable 21 = .ok (.iload_n 2, 1) := by decide +kernel
theorem dX5_syllable_22 : decode cX5_syllable 22 = .ok (.iconst (-1), 1) := by decide +kernel
theorem dX5_syllable_23 : decode cX5_syllable 23 = .ok (.if_icmp .ne 12, 3) := by decide +kernel
theorem dX5_syllable_26 : decode cX5_syllable 26 = .ok (.aload_n 0, 1) := by decide +kernel
theorem dX5_syllable_27 : decode cX5_syllable 27 = .ok (.getfield 7, 3) := by decide +kernel
theorem dX5_syllable_30 : decode cX5_syllable 30 = .ok (.iconst 0, 1) := by decide +kernel
theorem dX5_syllable_31 : decode cX5_syllable 31 = .ok (.iload_n 1, 1) := by decide +kernel
theorem dX5_syllable_32 : decode cX5_syllable 32 = .ok (.iadd, 1) := by decide +kernel
theorem dX5_syllable_33 : decode cX5_syllable 33 = .ok (.iaload, 1) := by decide +kernel
theorem dX5_syllable_34 : decode cX5_syllable 34 = .ok (.ireturn, 1) := by decide +kernel
theorem dX5_syllable_35 : decode cX5_syllable 35 = .ok (.iload_n 2, 1) := by decide +kernel
theorem dX5_syllable_36 : decode cX5_syllable 36 = .ok (.iconst 0, 1) := by decide +kernel
theorem dX5_syllable_37 : decode cX5_syllable 37 = .ok (.aload_n 0, 1) := by decide +kernel
theorem dX5_syllable_38 : decode cX5_syllable 38 = .ok (.getfield 7, 3) := by decide +kernel
theorem dX5_syllable_41 : decode cX5_syllable 41 = .ok (.iconst 0, 1) := by decide +kernel
theorem dX5_syllable_42 : decode cX5_syllable 42 = .ok (.iload_n 1, 1) := by decide +kernel
theorem dX5_syllable_43 : decode cX5_syllable 43 = .ok (.iadd, 1) := by decide +kernel
theorem dX5_syllable_44 : decode cX5_syllable 44 = .ok (.iaload, 1) := by decide +kernel
theorem dX5_syllable_45 : decode cX5_syllable 45 = .ok (.iconst 1, 1) := by decide +kernel
theorem dX5_syllable_46 : decode cX5_syllable 46 = .ok (.isub, 1) := by decide +kernel
theorem dX5_syllable_47 : decode cX5_syllable 47 = .ok (.invokestatic 50, 3) := by decide +kernel
theorem dX5_syllable_50 : decode cX5_syllable 50 = .ok (.ifCond .eq 28, 3) := by decide +kernel
theorem dX5_syllable_53 : decode cX5_syllable 53 = .ok (.aload_n 0, 1) := by decide +kernel
theorem dX5_syllable_54 : decode cX5_syllable 54 = .ok (.getfield 7, 3) := by decide +kernel
theorem dX5_syllable_57 : decode cX5_syllable 57 = .ok (.iload_n 3, 1) := by decide +kernel
theorem dX5_syllable_58 : decode cX5_syllable 58 = .ok (.ifCond .ne 7, 3) := by decide +kernel
theorem dX5_syllable_61 : decode cX5_syllable 61 = .ok (.iconst 3, 1) := by decide +kernel
theorem dX5_syllable_62 : decode cX5_syllable 62 = .ok (.goto 5, 3) := by decide +kernel
theorem dX5_syllable_65 : decode cX5_syllable 65 = .ok (.bipush 30, 2) := by decide +kernel
theorem dX5_syllable_67 : decode cX5_syllable 67 = .ok (.bipush 9, 2) := by decide +kernel
theorem dX5_syllable_69 : decode cX5_syllable 69 = .ok (.iload_n 1, 1) := by decide +kernel
theorem dX5_syllable_70 : decode cX5_syllable 70 = .ok (.imul, 1) := by decide +kernel
theorem dX5_syllable_71 : decode cX5_syllable 71 = .ok (.iadd, 1) := by decide +kernel
theorem dX5_syllable_72 : decode cX5_syllable 72 = .ok (.iload_n 2, 1) := by decide +kernel
theorem dX5_syllable_73 : decode cX5_syllable 73 = .ok (.iadd, 1) := by decide +kernel
theorem dX5_syllable_74 : decode cX5_syllable 74 = .ok (.iaload, 1) := by decide +kernel
theorem dX5_syllable_75 : decode cX5_syllable 75 = .ok (.goto 5, 3) := by decide +kernel
theorem dX5_syllable_78 : decode cX5_syllable 78 = .ok (.bipush (-6), 2) := by decide +kernel
theorem dX5_syllable_80 : decode cX5_syllable 80 = .ok (.ireturn, 1) := by decide +kernel
theorem dX5_note_0 : decode cX5_note 0 = .ok (.iload_n 1, 1) := by decide +kernel
theorem dX5_note_1 : decode cX5_note 1 = .ok (.invokestatic 72, 3) := by decide +kernel
theorem dX5_note_4 : decode cX5_note 4 = .ok (.ifCond .ne 5, 3) := by decide +kernel
theorem dX5_note_7 : decode cX5_note 7 = .ok (.iconst (-1), 1) := by decide +kernel
theorem dX5_note_8 : decode cX5_note 8 = .ok (.ireturn, 1) := by decide +kernel
theorem dX5_note_9 : decode cX5_note 9 = .ok (.iload_n 3, 1) := by decide +kernel
theorem dX5_note_10 : decode cX5_note 10 = .ok (.iconst 0, 1) := by decide +kernel
theorem dX5_note_11 : decode cX5_note 11 = .ok (.iconst 1, 1) := by decide +kernel
theorem dX5_note_12 : decode cX5_note 12 = .ok (.invokestatic 50, 3) := by decide +kernel
theorem dX5_note_15 : decode cX5_note 15 = .ok (.ifCond .ne 6, 3) := by decide +kernel
theorem dX5_note_18 : decode cX5_note 18 = .ok (.bipush (-2), 2) := by decide +kernel
theorem dX5_note_20 : decode cX5_note 20 = .ok (.ireturn, 1) := by decide +kernel
theorem dX5_note_21 : decode cX5_note 21 = .ok (.iload_n 2, 1) := by decide +kernel
theorem dX5_note_22 : decode cX5_note 22 = .ok (.iconst (-1), 1) := by decide +kernel
theorem dX5_note_23 : decode cX5_note 23 = .ok (.if_icmp .ne 13, 3) := by decide +kernel
theorem dX5_note_26 : decode cX5_note 26 = .ok (.aload_n 0, 1) := by decide +kernel
theorem dX5_note_27 : decode cX5_note 27 = .ok (.getfield 7, 3) := by decide +kernel
theorem dX5_note_30 : decode cX5_note 30 = .ok (.bipush 57, 2) := by decide +kernel
theorem dX5_note_32 : decode cX5_note 32 = .ok (.iload_n 1, 1) := by decide +kernel
theorem dX5_note_33 : decode cX5_note 33 = .ok (.iadd, 1) := by decide +kernel
theorem dX5_note_34 : decode cX5_note 34 = .ok (.iaload, 1) := by decide +kernel
theorem dX5_note_35 : decode cX5_note 35 = .ok (.ireturn, 1) := by decide +kernel
theorem dX5_note_36 : decode cX5_note 36 = .ok (.iload_n 2, 1) := by decide +kernel
theorem dX5_note_37 : decode cX5_note 37 = .ok (.iconst 0, 1) := by decide +kernel
theorem dX5_note_38 : decode cX5_note 38 = .ok (.aload_n 0, 1) := by decide +kernel
theorem dX5_note_39 : decode cX5_note 39 = .ok (.getfield 7, 3) := by decide +kernel
theorem dX5_note_42 : decode cX5_note 42 = .ok (.bipush 57, 2) := by decide +kernel
theorem dX5_note_44 : decode cX5_note 44 = .ok (.iload_n 1, 1) := by decide +kernel
theorem dX5_note_45 : decode cX5_note 45 = .ok (.iadd, 1) := by decide +kernel
theorem dX5_note_46 : decode cX5_note 46 = .ok (.iaload, 1) := by decide +kernel
theorem dX5_note_47 : decode cX5_note 47 = .ok (.iconst 1, 1) := by decide +kernel
theorem dX5_note_48 : decode cX5_note 48 = .ok (.isub, 1) := by decide +kernel
theorem dX5_note_49 : decode cX5_note 49 = .ok (.invokestatic 50, 3) := by decide +kernel
theorem dX5_note_52 : decode cX5_note 52 = .ok (.ifCond .eq 29, 3) := by decide +kernel
theorem dX5_note_55 : decode cX5_note 55 = .ok (.aload_n 0, 1) := by decide +kernel
theorem dX5_note_56 : decode cX5_note 56 = .ok (.getfield 7, 3) := by decide +kernel
theorem dX5_note_59 : decode cX5_note 59 = .ok (.iload_n 3, 1) := by decide +kernel
theorem dX5_note_60 : decode cX5_note 60 = .ok (.ifCond .ne 8, 3) := by decide +kernel
theorem dX5_note_63 : decode cX5_note 63 = .ok (.bipush 61, 2) := by decide +kernel
theorem dX5_note_65 : decode cX5_note 65 = .ok (.goto 5, 3) := by decide +kernel
theorem dX5_note_68 : decode cX5_note 68 = .ok (.bipush 105, 2) := by decide +kernel
theorem dX5_note_70 : decode cX5_note 70 = .ok (.bipush 11, 2) := by decide +kernel
theorem dX5_note_72 : decode cX5_note 72 = .ok (.iload_n 1, 1) := by decide +kernel
theorem dX5_note_73 : decode cX5_note 73 = .ok (.imul, 1) := by decide +kernel
theorem dX5_note_74 : decode cX5_note 74 = .ok (.iadd, 1) := by decide +kernel
theorem dX5_note_75 : decode cX5_note 75 = .ok (.iload_n 2, 1) := by decide +kernel
theorem dX5_note_76 : decode cX5_note 76 = .ok (.iadd, 1) := by decide +kernel
theorem dX5_note_77 : decode cX5_note 77 = .ok (.iaload, 1) := by decide +kernel
theorem dX5_note_78 : decode cX5_note 78 = .ok (.goto 5, 3) := by decide +kernel
theorem dX5_note_81 : decode cX5_note 81 = .ok (.bipush (-6), 2) := by decide +kernel
theorem dX5_note_83 : decode cX5_note 83 = .ok (.ireturn, 1) := by decide +kernel
theorem dX5_lay_0 : decode cX5_lay 0 = .ok (.aload_n 0, 1) := by decide +kernel
theorem dX5_lay_1 : decode cX5_lay 1 = .ok (.aload_n 0, 1) := by decide +kernel
theorem dX5_lay_2 : decode cX5_lay 2 = .ok (.getfield 7, 3) := by decide +kernel
theorem dX5_lay_5 : decode cX5_lay 5 = .ok (.iconst 0, 1) := by decide +kernel
theorem dX5_lay_6 : decode cX5_lay 6 = .ok (.iload_n 1, 1) := by decide +kernel
theorem dX5_lay_7 : decode cX5_lay 7 = .ok (.iadd, 1) := by decide +kernel
theorem dX5_lay_8 : decode cX5_lay 8 = .ok (.iaload, 1) := by decide +kernel
theorem dX5_lay_9 : decode cX5_lay 9 = .ok (.putfield 75, 3) := by decide +kernel
theorem dX5_lay_12 : decode cX5_lay 12 = .ok (.aload_n 0, 1) := by decide +kernel
theorem dX5_lay_13 : decode cX5_lay 13 = .ok (.aload_n 0, 1) := by decide +kernel
theorem dX5_lay_14 : decode cX5_lay 14 = .ok (.getfield 7, 3) := by decide +kernel
theorem dX5_lay_17 : decode cX5_lay 17 = .ok (.bipush 57, 2) := by decide +kernel
theorem dX5_lay_19 : decode cX5_lay 19 = .ok (.iload_n 2, 1) := by decide +kernel
theorem dX5_lay_20 : decode cX5_lay 20 = .ok (.iadd, 1) := by decide +kernel
theorem dX5_lay_21 : decode cX5_lay 21 = .ok (.iaload, 1) := by decide +kernel
theorem dX5_lay_22 : decode cX5_lay 22 = .ok (.putfield 78, 3) := by decide +kernel
theorem dX5_lay_25 : decode cX5_lay 25 = .ok (.iconst 0, 1) := by decide +kernel
theorem dX5_lay_26 : decode cX5_lay 26 = .ok (.istore 4, 2) := by decide +kernel
theorem dX5_lay_28 : decode cX5_lay 28 = .ok (.iload 4, 2) := by decide +kernel
theorem dX5_lay_30 : decode cX5_lay 30 = .ok (.aload_n 0, 1) := by decide +kernel
theorem dX5_lay_31 : decode cX5_lay 31 = .ok (.getfield 75, 3) := by decide +kernel
theorem dX5_lay_34 : decode cX5_lay 34 = .ok (.if_icmp .ge 52, 3) := by decide +kernel
theorem dX5_lay_37 : decode cX5_lay 37 = .ok (.aload_n 0, 1) := by decide +kernel
theorem dX5_lay_38 : decode cX5_lay 38 = .ok (.getfield 23, 3) := by decide +kernel
theorem dX5_lay_41 : decode cX5_lay 41 = .ok (.iload 4, 2) := by decide +kernel
theorem dX5_lay_43 : decode cX5_lay 43 = .ok (.aload_n 0, 1) := by decide +kernel
theorem dX5_lay_44 : decode cX5_lay 44 = .ok (.getfield 7, 3) := by decide +kernel
theorem dX5_lay_47 : decode cX5_lay 47 = .ok (.iconst 3, 1) := by decide +kernel
theorem dX5_lay_48 : decode cX5_lay 48 = .ok (.bipush 9, 2) := by decide +kernel
theorem dX5_lay_50 : decode cX5_lay 50 = .ok (.iload_n 1, 1) := by decide +kernel
theorem dX5_lay_51 : decode cX5_lay 51 = .ok (.imul, 1) := by decide +kernel
theorem dX5_lay_52 : decode cX5_lay 52 = .ok (.iadd, 1) := by decide +kernel
theorem dX5_lay_53 : decode cX5_lay 53 = .ok (.iload 4, 2) := by decide +kernel
theorem dX5_lay_55 : decode cX5_lay 55 = .ok (.iadd, 1) := by decide +kernel
theorem dX5_lay_56 : decode cX5_lay 56 = .ok (.iaload, 1) := by decide +kernel
theorem dX5_lay_57 : decode cX5_lay 57 = .ok (.iastore, 1) := by decide +kernel
theorem dX5_lay_58 : decode cX5_lay 58 = .ok (.aload_n 0, 1) := by decide +kernel
theorem dX5_lay_59 : decode cX5_lay 59 = .ok (.getfield 26, 3) := by decide +kernel
theorem dX5_lay_62 : decode cX5_lay 62 = .ok (.iload 4, 2) := by decide +kernel
theorem dX5_lay_64 : decode cX5_lay 64 = .ok (.aload_n 0, 1) := by decide +kernel
theorem dX5_lay_65 : decode cX5_lay 65 = .ok (.getfield 7, 3) := by decide +kernel
theorem dX5_lay_68 : decode cX5_lay 68 = .ok (.bipush 30, 2) := by decide +kernel
theorem dX5_lay_70 : decode cX5_lay 70 = .ok (.bipush 9, 2) := by decide +kernel
theorem dX5_lay_72 : decode cX5_lay 72 = .ok (.iload_n 1, 1) := by decide +kernel
theorem dX5_lay_73 : decode cX5_lay 73 = .ok (.imul, 1) := by decide +kernel
theorem dX5_lay_74 : decode cX5_lay 74 = .ok (.iadd, 1) := by decide +kernel
theorem dX5_lay_75 : decode cX5_lay 75 = .ok (.iload 4, 2) := by decide +kernel
theorem dX5_lay_77 : decode cX5_lay 77 = .ok (.iadd, 1) := by decide +kernel
theorem dX5_lay_78 : decode cX5_lay 78 = .ok (.iaload, 1) := by decide +kernel
theorem dX5_lay_79 : decode cX5_lay 79 = .ok (.iastore, 1) := by decide +kernel
theorem dX5_lay_80 : decode cX5_lay 80 = .ok (.iinc 4 1, 3) := by decide +kernel
theorem dX5_lay_83 : decode cX5_lay 83 = .ok (.goto (-55), 3) := by decide +kernel
theorem dX5_lay_86 : decode cX5_lay 86 = .ok (.iconst 0, 1) := by decide +kernel
theorem dX5_lay_87 : decode cX5_lay 87 = .ok (.istore 4, 2) := by decide +kernel
theorem dX5_lay_89 : decode cX5_lay 89 = .ok (.iload 4, 2) := by decide +kernel
theorem dX5_lay_91 : decode cX5_lay 91 = .ok (.aload_n 0, 1) := by decide +kernel
theorem dX5_lay_92 : decode cX5_lay 92 = .ok (.getfield 78, 3) := by decide +kernel
theorem dX5_lay_95 : decode cX5_lay 95 = .ok (.if_icmp .ge 59, 3) := by decide +kernel
theorem dX5_lay_98 : decode cX5_lay 98 = .ok (.bipush 11, 2) := by decide +kernel
theorem dX5_lay_100 : decode cX5_lay 100 = .ok (.iload_n 2, 1) := by decide +kernel
theorem dX5_lay_101 : decode cX5_lay 101 = .ok (.imul, 1) := by decide +kernel
theorem dX5_lay_102 : decode cX5_lay 102 = .ok (.iload 4, 2) := by decide +kernel
theorem dX5_lay_104 : decode cX5_lay 104 = .ok (.iload_n 3, 1) := by decide +kernel
theorem dX5_lay_105 : decode cX5_lay 105 = .ok (.iadd, 1) := by decide +kernel
theorem dX5_lay_106 : decode cX5_lay 106 = .ok (.aload_n 0, 1) := by decide +kernel
theorem dX5_lay_107 : decode cX5_lay 107 = .ok (.getfield 78, 3) := by decide +kernel
theorem dX5_lay_110 : decode cX5_lay 110 = .ok (.irem, 1) := by decide +kernel
theorem dX5_lay_111 : decode cX5_lay 111 = .ok (.iadd, 1) := by decide +kernel
theorem dX5_lay_112 : decode cX5_lay 112 = .ok (.istore 5, 2) := by decide +kernel
theorem dX5_lay_114 : decode cX5_lay 114 = .ok (.aload_n 0, 1) := by decide +kernel
theorem dX5_lay_115 : decode cX5_lay 115 = .ok (.getfield 29, 3) := by decide +kernel
theorem dX5_lay_118 : decode cX5_lay 118 = .ok (.iload 4, 2) := by decide +kernel
theorem dX5_lay_120 : decode cX5_lay 120 = .ok (.aload_n 0, 1) := by decide +kernel
theorem dX5_lay_121 : decode cX5_lay 121 = .ok (.getfield 7, 3) := by decide +kernel
theorem dX5_lay_124 : decode cX5_lay 124 = .ok (.bipush 61, 2) := by decide +kernel
theorem dX5_lay_126 : decode cX5_lay 126 = .ok (.iload 5, 2) := by decide +kernel
theorem dX5_lay_128 : decode cX5_lay 128 = .ok (.iadd, 1) := by decide +kernel
theorem dX5_lay_129 : decode cX5_lay 129 = .ok (.iaload, 1) := by decide +kernel
theorem dX5_lay_130 : decode cX5_lay 130 = .ok (.iastore, 1) := by decide +kernel
theorem dX5_lay_131 : decode cX5_lay 131 = .ok (.aload_n 0, 1) := by decide +kernel
theorem dX5_lay_132 : decode cX5_lay 132 = .ok (.getfield 32, 3) := by decide +kernel
theorem dX5_lay_135 : decode cX5_lay 135 = .ok (.iload 4, 2) := by decide +kernel
theorem dX5_lay_137 : decode cX5_lay 137 = .ok (.aload_n 0, 1) := by decide +kernel
theorem dX5_lay_138 : decode cX5_lay 138 = .ok (.getfield 7, 3) := by decide +kernel
theorem dX5_lay_141 : decode cX5_lay 141 = .ok (.bipush 105, 2) := by decide +kernel
theorem dX5_lay_143 : decode cX5_lay 143 = .ok (.iload 5, 2) := by decide +kernel
theorem dX5_lay_145 : decode cX5_lay 145 = .ok (.iadd, 1) := by decide +kernel
theorem dX5_lay_146 : decode cX5_lay 146 = .ok (.iaload, 1) := by decide +kernel
theorem dX5_lay_147 : decode cX5_lay 147 = .ok (.iastore, 1) := by decide +kernel
theorem dX5_lay_148 : decode cX5_lay 148 = .ok (.iinc 4 1, 3) := by decide +kernel
theorem dX5_lay_151 : decode cX5_lay 151 = .ok (.goto (-62), 3) := by decide +kernel
theorem dX5_lay_154 : decode cX5_lay 154 = .ok (.return_, 1) := by decide +kernel
theorem dX5_fit_0 : decode cX5_fit 0 = .ok (.aload_n 0, 1) := by decide +kernel
theorem dX5_fit_1 : decode cX5_fit 1 = .ok (.getfield 23, 3) := by decide +kernel
theorem dX5_fit_4 : decode cX5_fit 4 = .ok (.iload_n 1, 1) := by decide +kernel
theorem dX5_fit_5 : decode cX5_fit 5 = .ok (.iaload, 1) := by decide +kernel
theorem dX5_fit_6 : decode cX5_fit 6 = .ok (.aload_n 0, 1) := by decide +kernel
theorem dX5_fit_7 : decode cX5_fit 7 = .ok (.getfield 29, 3) := by decide +kernel
theorem dX5_fit_10 : decode cX5_fit 10 = .ok (.iload_n 2, 1) := by decide +kernel
theorem dX5_fit_11 : decode cX5_fit 11 = .ok (.iaload, 1) := by decide +kernel
theorem dX5_fit_12 : decode cX5_fit 12 = .ok (.isub, 1) := by decide +kernel
theorem dX5_fit_13 : decode cX5_fit 13 = .ok (.istore_n 3, 1) := by decide +kernel
theorem dX5_fit_14 : decode cX5_fit 14 = .ok (.aload_n 0, 1) := by decide +kernel
theorem dX5_fit_15 : decode cX5_fit 15 = .ok (.getfield 7, 3) := by decide +kernel
theorem dX5_fit_18 : decode cX5_fit 18 = .ok (.sipush 149, 3) := by decide +kernel
theorem dX5_fit_21 : decode cX5_fit 21 = .ok (.iaload, 1) := by decide +kernel
theorem dX5_fit_22 : decode cX5_fit 22 = .ok (.iload_n 3, 1) := by decide +kernel
theorem dX5_fit_23 : decode cX5_fit 23 = .ok (.ifCond .ge 8, 3) := by decide +kernel
theorem dX5_fit_26 : decode cX5_fit 26 = .ok (.iload_n 3, 1) := by decide +kernel
theorem dX5_fit_27 : decode cX5_fit 27 = .ok (.ineg, 1) := by decide +kernel
theorem dX5_fit_28 : decode cX5_fit 28 = .ok (.goto 4, 3) := by decide +kernel
theorem dX5_fit_31 : decode cX5_fit 31 = .ok (.iload_n 3, 1) := by decide +kernel
theorem dX5_fit_32 : decode cX5_fit 32 = .ok (.imul, 1) := by decide +kernel
theorem dX5_fit_33 : decode cX5_fit 33 = .ok (.ireturn, 1) := by decide +kernel
theorem dX5_costOf_0 : decode cX5_costOf 0 = .ok (.iload_n 1, 1) := by decide +kernel
theorem dX5_costOf_1 : decode cX5_costOf 1 = .ok (.lookupswitch 76 #[(0, 27), (1, 67)], 27) := by decide +kernel
theorem dX5_costOf_28 : decode cX5_costOf 28 = .ok (.aload_n 0, 1) := by decide +kernel
theorem dX5_costOf_29 : decode cX5_costOf 29 = .ok (.iload_n 2, 1) := by decide +kernel
theorem dX5_costOf_30 : decode cX5_costOf 30 = .ok (.iload_n 3, 1) := by decide +kernel
theorem dX5_costOf_31 : decode cX5_costOf 31 = .ok (.invokevirtual 81, 3) := by decide +kernel
theorem dX5_costOf_34 : decode cX5_costOf 34 = .ok (.aload_n 0, 1) := by decide +kernel
theorem dX5_costOf_35 : decode cX5_costOf 35 = .ok (.getfield 26, 3) := by decide +kernel
theorem dX5_costOf_38 : decode cX5_costOf 38 = .ok (.iload_n 2, 1) := by decide +kernel
theorem dX5_costOf_39 : decode cX5_costOf 39 = .ok (.iaload, 1) := by decide +kernel
theorem dX5_costOf_40 : decode cX5_costOf 40 = .ok (.iconst 1, 1) := by decide +kernel
theorem dX5_costOf_41 : decode cX5_costOf 41 = .ok (.if_icmp .ne 24, 3) := by decide +kernel
theorem dX5_costOf_44 : decode cX5_costOf 44 = .ok (.aload_n 0, 1) := by decide +kernel
theorem dX5_costOf_45 : decode cX5_costOf 45 = .ok (.getfield 32, 3) := by decide +kernel
theorem dX5_costOf_48 : decode cX5_costOf 48 = .ok (.iload_n 3, 1) := by decide +kernel
theorem dX5_costOf_49 : decode cX5_costOf 49 = .ok (.iaload, 1) := by decide +kernel
theorem dX5_costOf_50 : decode cX5_costOf 50 = .ok (.iconst 1, 1) := by decide +kernel
theorem dX5_costOf_51 : decode cX5_costOf 51 = .ok (.if_icmp .ne 14, 3) := by decide +kernel
theorem dX5_costOf_54 : decode cX5_costOf 54 = .ok (.aload_n 0, 1) := by decide +kernel
theorem dX5_costOf_55 : decode cX5_costOf 55 = .ok (.getfield 7, 3) := by decide +kernel
theorem dX5_costOf_58 : decode cX5_costOf 58 = .ok (.sipush 152, 3) := by decide +kernel
theorem dX5_costOf_61 : decode cX5_costOf 61 = .ok (.iaload, 1) := by decide +kernel
theorem dX5_costOf_62 : decode cX5_costOf 62 = .ok (.goto 4, 3) := by decide +kernel
theorem dX5_costOf_65 : decode cX5_costOf 65 = .ok (.iconst 0, 1) := by decide +kernel
theorem dX5_costOf_66 : decode cX5_costOf 66 = .ok (.iadd, 1) := by decide +kernel
theorem dX5_costOf_67 : decode cX5_costOf 67 = .ok (.ireturn, 1) := by decide +kernel
theorem dX5_costOf_68 : decode cX5_costOf 68 = .ok (.aload_n 0, 1) := by decide +kernel
theorem dX5_costOf_69 : decode cX5_costOf 69 = .ok (.getfield 7, 3) := by decide +kernel
theorem dX5_costOf_72 : decode cX5_costOf 72 = .ok (.sipush 150, 3) := by decide +kernel
theorem dX5_costOf_75 : decode cX5_costOf 75 = .ok (.iaload, 1) := by decide +kernel
theorem dX5_costOf_76 : decode cX5_costOf 76 = .ok (.ireturn, 1) := by decide +kernel
theorem dX5_costOf_77 : decode cX5_costOf 77 = .ok (.aload_n 0, 1) := by decide +kernel
theorem dX5_costOf_78 : decode cX5_costOf 78 = .ok (.iload_n 2, 1) := by decide +kernel
theorem dX5_costOf_79 : decode cX5_costOf 79 = .ok (.iload_n 3, 1) := by decide +kernel
theorem dX5_costOf_80 : decode cX5_costOf 80 = .ok (.iconst 1, 1) := by decide +kernel
theorem dX5_costOf_81 : decode cX5_costOf 81 = .ok (.isub, 1) := by decide +kernel
theorem dX5_costOf_82 : decode cX5_costOf 82 = .ok (.invokevirtual 81, 3) := by decide +kernel
theorem dX5_costOf_85 : decode cX5_costOf 85 = .ok (.aload_n 0, 1) := by decide +kernel
theorem dX5_costOf_86 : decode cX5_costOf 86 = .ok (.getfield 7, 3) := by decide +kernel
theorem dX5_costOf_89 : decode cX5_costOf 89 = .ok (.sipush 151, 3) := by decide +kernel
theorem dX5_costOf_92 : decode cX5_costOf 92 = .ok (.iaload, 1) := by decide +kernel
theorem dX5_costOf_93 : decode cX5_costOf 93 = .ok (.iadd, 1) := by decide +kernel
theorem dX5_costOf_94 : decode cX5_costOf 94 = .ok (.ireturn, 1) := by decide +kernel
theorem dX5_canStep_0 : decode cX5_canStep 0 = .ok (.iload_n 1, 1) := by decide +kernel
theorem dX5_canStep_1 : decode cX5_canStep 1 = .ok (.lookupswitch 67 #[(0, 27), (1, 49)], 27) := by decide +kernel
theorem dX5_canStep_28 : decode cX5_canStep 28 = .ok (.iload_n 2, 1) := by decide +kernel
theorem dX5_canStep_29 : decode cX5_canStep 29 = .ok (.aload_n 0, 1) := by decide +kernel
theorem dX5_canStep_30 : decode cX5_canStep 30 = .ok (.getfield 75, 3) := by decide +kernel
theorem dX5_canStep_33 : decode cX5_canStep 33 = .ok (.if_icmp .ge 15, 3) := by decide +kernel
theorem dX5_canStep_36 : decode cX5_canStep 36 = .ok (.iload_n 3, 1) := by decide +kernel
theorem dX5_canStep_37 : decode cX5_canStep 37 = .ok (.aload_n 0, 1) := by decide +kernel
theorem dX5_canStep_38 : decode cX5_canStep 38 = .ok (.getfield 78, 3) := by decide +kernel
theorem dX5_canStep_41 : decode cX5_canStep 41 = .ok (.if_icmp .ge 7, 3) := by decide +kernel
theorem dX5_canStep_44 : decode cX5_canStep 44 = .ok (.iconst 1, 1) := by decide +kernel
theorem dX5_canStep_45 : decode cX5_canStep 45 = .ok (.goto 4, 3) := by decide +kernel
theorem dX5_canStep_48 : decode cX5_canStep 48 = .ok (.iconst 0, 1) := by decide +kernel
theorem dX5_canStep_49 : decode cX5_canStep 49 = .ok (.ireturn, 1) := by decide +kernel
theorem dX5_canStep_50 : decode cX5_canStep 50 = .ok (.iload_n 2, 1) := by decide +kernel
theorem dX5_canStep_51 : decode cX5_canStep 51 = .ok (.ifCond .le 15, 3) := by decide +kernel
theorem dX5_canStep_54 : decode cX5_canStep 54 = .ok (.iload_n 3, 1) := by decide +kernel
theorem dX5_canStep_55 : decode cX5_canStep 55 = .ok (.aload_n 0, 1) := by decide +kernel
theorem dX5_canStep_56 : decode cX5_canStep 56 = .ok (.getfield 78, 3) := by decide +kernel
theorem dX5_canStep_59 : decode cX5_canStep 59 = .ok (.if_icmp .ge 7, 3) := by decide +kernel
theorem dX5_canStep_62 : decode cX5_canStep 62 = .ok (.iconst 1, 1) := by decide +kernel
theorem dX5_canStep_63 : decode cX5_canStep 63 = .ok (.goto 4, 3) := by decide +kernel
theorem dX5_canStep_66 : decode cX5_canStep 66 = .ok (.iconst 0, 1) := by decide +kernel
theorem dX5_canStep_67 : decode cX5_canStep 67 = .ok (.ireturn, 1) := by decide +kernel
theorem dX5_canStep_68 : decode cX5_canStep 68 = .ok (.iload_n 3, 1) := by decide +kernel
theorem dX5_canStep_69 : decode cX5_canStep 69 = .ok (.ifCond .le 15, 3) := by decide +kernel
theorem dX5_canStep_72 : decode cX5_canStep 72 = .ok (.iload_n 2, 1) := by decide +kernel
theorem dX5_canStep_73 : decode cX5_canStep 73 = .ok (.aload_n 0, 1) := by decide +kernel
theorem dX5_canStep_74 : decode cX5_canStep 74 = .ok (.getfield 75, 3) := by decide +kernel
theorem dX5_canStep_77 : decode cX5_canStep 77 = .ok (.if_icmp .ge 7, 3) := by decide +kernel
theorem dX5_canStep_80 : decode cX5_canStep 80 = .ok (.iconst 1, 1) := by decide +kernel
theorem dX5_canStep_81 : decode cX5_canStep 81 = .ok (.goto 4, 3) := by decide +kernel
theorem dX5_canStep_84 : decode cX5_canStep 84 = .ok (.iconst 0, 1) := by decide +kernel
theorem dX5_canStep_85 : decode cX5_canStep 85 = .ok (.ireturn, 1) := by decide +kernel
theorem dX5_syllablesOf_0 : decode cX5_syllablesOf 0 = .ok (.iload_n 0, 1) := by decide +kernel
theorem dX5_syllablesOf_1 : decode cX5_syllablesOf 1 = .ok (.iconst 1, 1) := by decide +kernel
theorem dX5_syllablesOf_2 : decode cX5_syllablesOf 2 = .ok (.if_icmp .ne 7, 3) := by decide +kernel
theorem dX5_syllablesOf_5 : decode cX5_syllablesOf 5 = .ok (.iconst 0, 1) := by decide +kernel
theorem dX5_syllablesOf_6 : decode cX5_syllablesOf 6 = .ok (.goto 4, 3) := by decide +kernel
theorem dX5_syllablesOf_9 : decode cX5_syllablesOf 9 = .ok (.iconst 1, 1) := by decide +kernel
theorem dX5_syllablesOf_10 : decode cX5_syllablesOf 10 = .ok (.ireturn, 1) := by decide +kernel
theorem dX5_notesOf_0 : decode cX5_notesOf 0 = .ok (.iload_n 0, 1) := by decide +kernel
theorem dX5_notesOf_1 : decode cX5_notesOf 1 = .ok (.iconst 2, 1) := by decide +kernel
theorem dX5_notesOf_2 : decode cX5_notesOf 2 = .ok (.if_icmp .ne 7, 3) := by decide +kernel
theorem dX5_notesOf_5 : decode cX5_notesOf 5 = .ok (.iconst 0, 1) := by decide +kernel
theorem dX5_notesOf_6 : decode cX5_notesOf 6 = .ok (.goto 4, 3) := by decide +kernel
theorem dX5_notesOf_9 : decode cX5_notesOf 9 = .ok (.iconst 1, 1) := by decide +kernel
theorem dX5_notesOf_10 : decode cX5_notesOf 10 = .ok (.ireturn, 1) := by decide +kernel
theorem dX5_at_0 : decode cX5_at 0 = .ok (.bipush 12, 2) := by decide +kernel
theorem dX5_at_2 : decode cX5_at 2 = .ok (.iload_n 0, 1) := by decide +kernel
theorem dX5_at_3 : decode cX5_at 3 = .ok (.imul, 1) := by decide +kernel
theorem dX5_at_4 : decode cX5_at 4 = .ok (.iload_n 1, 1) := by decide +kernel
theorem dX5_at_5 : decode cX5_at 5 = .ok (.iadd, 1) := by decide +kernel
theorem dX5_at_6 : decode cX5_at 6 = .ok (.ireturn, 1) := by decide +kernel
theorem dX5_take_0 : decode cX5_take 0 = .ok (.iload_n 2, 1) := by decide +kernel
theorem dX5_take_1 : decode cX5_take 1 = .ok (.iload_n 3, 1) := by decide +kernel
theorem dX5_take_2 : decode cX5_take 2 = .ok (.invokestatic 85, 3) := by decide +kernel
theorem dX5_take_5 : decode cX5_take 5 = .ok (.istore 4, 2) := by decide +kernel
theorem dX5_take_7 : decode cX5_take 7 = .ok (.iload_n 2, 1) := by decide +kernel
theorem dX5_take_8 : decode cX5_take 8 = .ok (.iload_n 1, 1) := by decide +kernel
theorem dX5_take_9 : decode cX5_take 9 = .ok (.invokestatic 88, 3) := by decide +kernel
theorem dX5_take_12 : decode cX5_take 12 = .ok (.iadd, 1) := by decide +kernel
theorem dX5_take_13 : decode cX5_take 13 = .ok (.iload_n 3, 1) := by decide +kernel
theorem dX5_take_14 : decode cX5_take 14 = .ok (.iload_n 1, 1) := by decide +kernel
theorem dX5_take_15 : decode cX5_take 15 = .ok (.invokestatic 92, 3) := by decide +kernel
theorem dX5_take_18 : decode cX5_take 18 = .ok (.iadd, 1) := by decide +kernel
theorem dX5_take_19 : decode cX5_take 19 = .ok (.invokestatic 85, 3) := by decide +kernel
theorem dX5_take_22 : decode cX5_take 22 = .ok (.istore 5, 2) := by decide +kernel
theorem dX5_take_24 : decode cX5_take 24 = .ok (.aload_n 0, 1) := by decide +kernel
theorem dX5_take_25 : decode cX5_take 25 = .ok (.getfield 41, 3) := by decide +kernel
theorem dX5_take_28 : decode cX5_take 28 = .ok (.iload 5, 2) := by decide +kernel
theorem dX5_take_30 : decode cX5_take 30 = .ok (.iaload, 1) := by decide +kernel
theorem dX5_take_31 : decode cX5_take 31 = .ok (.ifCond .ne 4, 3) := by decide +kernel
theorem dX5_take_34 : decode cX5_take 34 = .ok (.return_, 1) := by decide +kernel
theorem dX5_take_35 : decode cX5_take 35 = .ok (.aload_n 0, 1) := by decide +kernel
theorem dX5_take_36 : decode cX5_take 36 = .ok (.iload_n 1, 1) := by decide +kernel
theorem dX5_take_37 : decode cX5_take 37 = .ok (.iload_n 2, 1) := by decide +kernel
theorem dX5_take_38 : decode cX5_take 38 = .ok (.iload_n 3, 1) := by decide +kernel
theorem dX5_take_39 : decode cX5_take 39 = .ok (.invokevirtual 95, 3) := by decide +kernel
theorem dX5_take_42 : decode cX5_take 42 = .ok (.istore 6, 2) := by decide +kernel
theorem dX5_take_44 : decode cX5_take 44 = .ok (.aload_n 0, 1) := by decide +kernel
theorem dX5_take_45 : decode cX5_take 45 = .ok (.getfield 41, 3) := by decide +kernel
theorem dX5_take_48 : decode cX5_take 48 = .ok (.iload 4, 2) := by decide +kernel
theorem dX5_take_50 : decode cX5_take 50 = .ok (.iaload, 1) := by decide +kernel
theorem dX5_take_51 : decode cX5_take 51 = .ok (.ifCond .eq 23, 3) := by decide +kernel
theorem dX5_take_54 : decode cX5_take 54 = .ok (.iload 6, 2) := by decide +kernel
theorem dX5_take_56 : decode cX5_take 56 = .ok (.aload_n 0, 1) := by decide +kernel
theorem dX5_take_57 : decode cX5_take 57 = .ok (.getfield 35, 3) := by decide +kernel
theorem dX5_take_60 : decode cX5_take 60 = .ok (.iload 5, 2) := by decide +kernel
theorem dX5_take_62 : decode cX5_take 62 = .ok (.iaload, 1) := by decide +kernel
theorem dX5_take_63 : decode cX5_take 63 = .ok (.iadd, 1) := by decide +kernel
theorem dX5_take_64 : decode cX5_take 64 = .ok (.aload_n 0, 1) := by decide +kernel
theorem dX5_take_65 : decode cX5_take 65 = .ok (.getfield 35, 3) := by decide +kernel
theorem dX5_take_68 : decode cX5_take 68 = .ok (.iload 4, 2) := by decide +kernel
theorem dX5_take_70 : decode cX5_take 70 = .ok (.iaload, 1) := by decide +kernel
theorem dX5_take_71 : decode cX5_take 71 = .ok (.if_icmp .ge 28, 3) := by decide +kernel
theorem dX5_take_74 : decode cX5_take 74 = .ok (.aload_n 0, 1) := by decide +kernel
theorem dX5_take_75 : decode cX5_take 75 = .ok (.getfield 35, 3) := by decide +kernel
theorem dX5_take_78 : decode cX5_take 78 = .ok (.iload 4, 2) := by decide +kernel
theorem dX5_take_80 : decode cX5_take 80 = .ok (.iload 6, 2) := by decide +kernel
theorem dX5_take_82 : decode cX5_take 82 = .ok (.aload_n 0, 1) := by decide +kernel
theorem dX5_take_83 : decode cX5_take 83 = .ok (.getfield 35, 3) := by decide +kernel
theorem dX5_take_86 : decode cX5_take 86 = .ok (.iload 5, 2) := by decide +kernel
theorem dX5_take_88 : decode cX5_take 88 = .ok (.iaload, 1) := by decide +kernel
theorem dX5_take_89 : decode cX5_take 89 = .ok (.iadd, 1) := by decide +kernel
theorem dX5_take_90 : decode cX5_take 90 = .ok (.iastore, 1) := by decide +kernel
theorem dX5_take_91 : decode cX5_take 91 = .ok (.aload_n 0, 1) := by decide +kernel
theorem dX5_take_92 : decode cX5_take 92 = .ok (.getfield 44, 3) := by decide +kernel
theorem dX5_take_95 : decode cX5_take 95 = .ok (.iload 4, 2) := by decide +kernel
theorem dX5_take_97 : decode cX5_take 97 = .ok (.iconst 0, 1) := by decide +kernel
theorem dX5_take_98 : decode cX5_take 98 = .ok (.iastore, 1) := by decide +kernel
theorem dX5_take_99 : decode cX5_take 99 = .ok (.aload_n 0, 1) := by decide +kernel
theorem dX5_take_100 : decode cX5_take 100 = .ok (.getfield 44, 3) := by decide +kernel
theorem dX5_take_103 : decode cX5_take 103 = .ok (.iload 4, 2) := by decide +kernel
theorem dX5_take_105 : decode cX5_take 105 = .ok (.dup2, 1) := by decide +kernel
theorem dX5_take_106 : decode cX5_take 106 = .ok (.iaload, 1) := by decide +kernel
theorem dX5_take_107 : decode cX5_take 107 = .ok (.iload 6, 2) := by decide +kernel
theorem dX5_take_109 : decode cX5_take 109 = .ok (.aload_n 0, 1) := by decide +kernel
theorem dX5_take_110 : decode cX5_take 110 = .ok (.getfield 35, 3) := by decide +kernel
theorem dX5_take_113 : decode cX5_take 113 = .ok (.iload 5, 2) := by decide +kernel
theorem dX5_take_115 : decode cX5_take 115 = .ok (.iaload, 1) := by decide +kernel
theorem dX5_take_116 : decode cX5_take 116 = .ok (.iadd, 1) := by decide +kernel
theorem dX5_take_117 : decode cX5_take 117 = .ok (.aload_n 0, 1) := by decide +kernel
theorem dX5_take_118 : decode cX5_take 118 = .ok (.getfield 35, 3) := by decide +kernel
theorem dX5_take_121 : decode cX5_take 121 = .ok (.iload 4, 2) := by decide +kernel
theorem dX5_take_123 : decode cX5_take 123 = .ok (.iaload, 1) := by decide +kernel
theorem dX5_take_124 : decode cX5_take 124 = .ok (.if_icmp .ne 13, 3) := by decide +kernel
theorem dX5_take_127 : decode cX5_take 127 = .ok (.aload_n 0, 1) := by decide +kernel
theorem dX5_take_128 : decode cX5_take 128 = .ok (.getfield 44, 3) := by decide +kernel
theorem dX5_take_131 : decode cX5_take 131 = .ok (.iload 5, 2) := by decide +kernel
theorem dX5_take_133 : decode cX5_take 133 = .ok (.iaload, 1) := by decide +kernel
theorem dX5_take_134 : decode cX5_take 134 = .ok (.goto 4, 3) := by decide +kernel
theorem dX5_take_137 : decode cX5_take 137 = .ok (.iconst 0, 1) := by decide +kernel
theorem dX5_take_138 : decode cX5_take 138 = .ok (.iadd, 1) := by decide +kernel
theorem dX5_take_139 : decode cX5_take 139 = .ok (.iastore, 1) := by decide +kernel
theorem dX5_take_140 : decode cX5_take 140 = .ok (.aload_n 0, 1) := by decide +kernel
theorem dX5_take_141 : decode cX5_take 141 = .ok (.getfield 38, 3) := by decide +kernel
theorem dX5_take_144 : decode cX5_take 144 = .ok (.iload 4, 2) := by decide +kernel
theorem dX5_take_146 : decode cX5_take 146 = .ok (.aload_n 0, 1) := by decide +kernel
theorem dX5_take_147 : decode cX5_take 147 = .ok (.getfield 41, 3) := by decide +kernel
theorem dX5_take_150 : decode cX5_take 150 = .ok (.iload 4, 2) := by decide +kernel
theorem dX5_take_152 : decode cX5_take 152 = .ok (.iaload, 1) := by decide +kernel
theorem dX5_take_153 : decode cX5_take 153 = .ok (.ifCond .eq 23, 3) := by decide +kernel
theorem dX5_take_156 : decode cX5_take 156 = .ok (.iload 6, 2) := by decide +kernel
theorem dX5_take_158 : decode cX5_take 158 = .ok (.aload_n 0, 1) := by decide +kernel
theorem dX5_take_159 : decode cX5_take 159 = .ok (.getfield 38, 3) := by decide +kernel
theorem dX5_take_162 : decode cX5_take 162 = .ok (.iload 5, 2) := by decide +kernel
theorem dX5_take_164 : decode cX5_take 164 = .ok (.iaload, 1) := by decide +kernel
theorem dX5_take_165 : decode cX5_take 165 = .ok (.iadd, 1) := by decide +kernel
theorem dX5_take_166 : decode cX5_take 166 = .ok (.aload_n 0, 1) := by decide +kernel
theorem dX5_take_167 : decode cX5_take 167 = .ok (.getfield 38, 3) := by decide +kernel
theorem dX5_take_170 : decode cX5_take 170 = .ok (.iload 4, 2) := by decide +kernel
theorem dX5_take_172 : decode cX5_take 172 = .ok (.iaload, 1) := by decide +kernel
theorem dX5_take_173 : decode cX5_take 173 = .ok (.if_icmp .le 16, 3) := by decide +kernel
theorem dX5_take_176 : decode cX5_take 176 = .ok (.iload 6, 2) := by decide +kernel
theorem dX5_take_178 : decode cX5_take 178 = .ok (.aload_n 0, 1) := by decide +kernel
theorem dX5_take_179 : decode cX5_take 179 = .ok (.getfield 38, 3) := by decide +kernel
theorem dX5_take_182 : decode cX5_take 182 = .ok (.iload 5, 2) := by decide +kernel
theorem dX5_take_184 : decode cX5_take 184 = .ok (.iaload, 1) := by decide +kernel
theorem dX5_take_185 : decode cX5_take 185 = .ok (.iadd, 1) := by decide +kernel
theorem dX5_take_186 : decode cX5_take 186 = .ok (.goto 10, 3) := by decide +kernel
theorem dX5_take_189 : decode cX5_take 189 = .ok (.aload_n 0, 1) := by decide +kernel
theorem dX5_take_190 : decode cX5_take 190 = .ok (.getfield 38, 3) := by decide +kernel
theorem dX5_take_193 : decode cX5_take 193 = .ok (.iload 4, 2) := by decide +kernel
theorem dX5_take_195 : decode cX5_take 195 = .ok (.iaload, 1) := by decide +kernel
theorem dX5_take_196 : decode cX5_take 196 = .ok (.iastore, 1) := by decide +kernel
theorem dX5_take_197 : decode cX5_take 197 = .ok (.aload_n 0, 1) := by decide +kernel
theorem dX5_take_198 : decode cX5_take 198 = .ok (.getfield 41, 3) := by decide +kernel
theorem dX5_take_201 : decode cX5_take 201 = .ok (.iload 4, 2) := by decide +kernel
theorem dX5_take_203 : decode cX5_take 203 = .ok (.dup2, 1) := by decide +kernel
theorem dX5_take_204 : decode cX5_take 204 = .ok (.iaload, 1) := by decide +kernel
theorem dX5_take_205 : decode cX5_take 205 = .ok (.aload_n 0, 1) := by decide +kernel
theorem dX5_take_206 : decode cX5_take 206 = .ok (.getfield 41, 3) := by decide +kernel
theorem dX5_take_209 : decode cX5_take 209 = .ok (.iload 5, 2) := by decide +kernel
theorem dX5_take_211 : decode cX5_take 211 = .ok (.iaload, 1) := by decide +kernel
theorem dX5_take_212 : decode cX5_take 212 = .ok (.iadd, 1) := by decide +kernel
theorem dX5_take_213 : decode cX5_take 213 = .ok (.iastore, 1) := by decide +kernel
theorem dX5_take_214 : decode cX5_take 214 = .ok (.return_, 1) := by decide +kernel
theorem dX5_layTable_0 : decode cX5_layTable 0 = .ok (.aload_n 0, 1) := by decide +kernel
theorem dX5_layTable_1 : decode cX5_layTable 1 = .ok (.getfield 75, 3) := by decide +kernel
theorem dX5_layTable_4 : decode cX5_layTable 4 = .ok (.istore_n 1, 1) := by decide +kernel
theorem dX5_layTable_5 : decode cX5_layTable 5 = .ok (.iload_n 1, 1) := by decide +kernel
theorem dX5_layTable_6 : decode cX5_layTable 6 = .ok (.ifCond .lt 140, 3) := by decide +kernel
theorem dX5_layTable_9 : decode cX5_layTable 9 = .ok (.aload_n 0, 1) := by decide +kernel
theorem dX5_layTable_10 : decode cX5_layTable 10 = .ok (.getfield 78, 3) := by decide +kernel
theorem dX5_layTable_13 : decode cX5_layTable 13 = .ok (.istore_n 2, 1) := by decide +kernel
theorem dX5_layTable_14 : decode cX5_layTable 14 = .ok (.iload_n 2, 1) := by decide +kernel
theorem dX5_layTable_15 : decode cX5_layTable 15 = .ok (.ifCond .lt 125, 3) := by decide +kernel
theorem dX5_layTable_18 : decode cX5_layTable 18 = .ok (.iload_n 1, 1) := by decide +kernel
theorem dX5_layTable_19 : decode cX5_layTable 19 = .ok (.aload_n 0, 1) := by decide +kernel
theorem dX5_layTable_20 : decode cX5_layTable 20 = .ok (.getfield 75, 3) := by decide +kernel
theorem dX5_layTable_23 : decode cX5_layTable 23 = .ok (.if_icmp .ne 15, 3) := by decide +kernel
theorem dX5_layTable_26 : decode cX5_layTable 26 = .ok (.iload_n 2, 1) := by decide +kernel
theorem dX5_layTable_27 : decode cX5_layTable 27 = .ok (.aload_n 0, 1) := by decide +kernel
theorem dX5_layTable_28 : decode cX5_layTable 28 = .ok (.getfield 78, 3) := by decide +kernel
theorem dX5_layTable_31 : decode cX5_layTable 31 = .ok (.if_icmp .ne 7, 3) := by decide +kernel
theorem dX5_layTable_34 : decode cX5_layTable 34 = .ok (.iconst 1, 1) := by decide +kernel
theorem dX5_layTable_35 : decode cX5_layTable 35 = .ok (.goto 4, 3) := by decide +kernel
theorem dX5_layTable_38 : decode cX5_layTable 38 = .ok (.iconst 0, 1) := by decide +kernel
theorem dX5_layTable_39 : decode cX5_layTable 39 = .ok (.istore_n 3, 1) := by decide +kernel
theorem dX5_layTable_40 : decode cX5_layTable 40 = .ok (.aload_n 0, 1) := by decide +kernel
theorem dX5_layTable_41 : decode cX5_layTable 41 = .ok (.getfield 35, 3) := by decide +kernel
theorem dX5_layTable_44 : decode cX5_layTable 44 = .ok (.iload_n 1, 1) := by decide +kernel
theorem dX5_layTable_45 : decode cX5_layTable 45 = .ok (.iload_n 2, 1) := by decide +kernel
theorem dX5_layTable_46 : decode cX5_layTable 46 = .ok (.invokestatic 85, 3) := by decide +kernel
theorem dX5_layTable_49 : decode cX5_layTable 49 = .ok (.iconst 0, 1) := by decide +kernel
theorem dX5_layTable_50 : decode cX5_layTable 50 = .ok (.iastore, 1) := by decide +kernel
theorem dX5_layTable_51 : decode cX5_layTable 51 = .ok (.aload_n 0, 1) := by decide +kernel
theorem dX5_layTable_52 : decode cX5_layTable 52 = .ok (.getfield 38, 3) := by decide +kernel
theorem dX5_layTable_55 : decode cX5_layTable 55 = .ok (.iload_n 1, 1) := by decide +kernel
theorem dX5_layTable_56 : decode cX5_layTable 56 = .ok (.iload_n 2, 1) := by decide +kernel
theorem dX5_layTable_57 : decode cX5_layTable 57 = .ok (.invokestatic 85, 3) := by decide +kernel
theorem dX5_layTable_60 : decode cX5_layTable 60 = .ok (.iconst 0, 1) := by decide +kernel
theorem dX5_layTable_61 : decode cX5_layTable 61 = .ok (.iastore, 1) := by decide +kernel
theorem dX5_layTable_62 : decode cX5_layTable 62 = .ok (.aload_n 0, 1) := by decide +kernel
theorem dX5_layTable_63 : decode cX5_layTable 63 = .ok (.getfield 41, 3) := by decide +kernel
theorem dX5_layTable_66 : decode cX5_layTable 66 = .ok (.iload_n 1, 1) := by decide +kernel
theorem dX5_layTable_67 : decode cX5_layTable 67 = .ok (.iload_n 2, 1) := by decide +kernel
theorem dX5_layTable_68 : decode cX5_layTable 68 = .ok (.invokestatic 85, 3) := by decide +kernel
theorem dX5_layTable_71 : decode cX5_layTable 71 = .ok (.iload_n 3, 1) := by decide +kernel
theorem dX5_layTable_72 : decode cX5_layTable 72 = .ok (.ifCond .eq 7, 3) := by decide +kernel
theorem dX5_layTable_75 : decode cX5_layTable 75 = .ok (.iconst 1, 1) := by decide +kernel
theorem dX5_layTable_76 : decode cX5_layTable 76 = .ok (.goto 4, 3) := by decide +kernel
theorem dX5_layTable_79 : decode cX5_layTable 79 = .ok (.iconst 0, 1) := by decide +kernel
theorem dX5_layTable_80 : decode cX5_layTable 80 = .ok (.iastore, 1) := by decide +kernel
theorem dX5_layTable_81 : decode cX5_layTable 81 = .ok (.aload_n 0, 1) := by decide +kernel
theorem dX5_layTable_82 : decode cX5_layTable 82 = .ok (.getfield 44, 3) := by decide +kernel
theorem dX5_layTable_85 : decode cX5_layTable 85 = .ok (.iload_n 1, 1) := by decide +kernel
theorem dX5_layTable_86 : decode cX5_layTable 86 = .ok (.iload_n 2, 1) := by decide +kernel
theorem dX5_layTable_87 : decode cX5_layTable 87 = .ok (.invokestatic 85, 3) := by decide +kernel
theorem dX5_layTable_90 : decode cX5_layTable 90 = .ok (.iload_n 3, 1) := by decide +kernel
theorem dX5_layTable_91 : decode cX5_layTable 91 = .ok (.ifCond .eq 7, 3) := by decide +kernel
theorem dX5_layTable_94 : decode cX5_layTable 94 = .ok (.iconst 1, 1) := by decide +kernel
theorem dX5_layTable_95 : decode cX5_layTable 95 = .ok (.goto 4, 3) := by decide +kernel
theorem dX5_layTable_98 : decode cX5_layTable 98 = .ok (.iconst 0, 1) := by decide +kernel
theorem dX5_layTable_99 : decode cX5_layTable 99 = .ok (.iastore, 1) := by decide +kernel
theorem dX5_layTable_100 : decode cX5_layTable 100 = .ok (.iconst 0, 1) := by decide +kernel
theorem dX5_layTable_101 : decode cX5_layTable 101 = .ok (.istore 4, 2) := by decide +kernel
theorem dX5_layTable_103 : decode cX5_layTable 103 = .ok (.iload 4, 2) := by decide +kernel
theorem dX5_layTable_105 : decode cX5_layTable 105 = .ok (.iconst 3, 1) := by decide +kernel
theorem dX5_layTable_106 : decode cX5_layTable 106 = .ok (.if_icmp .ge 28, 3) := by decide +kernel
theorem dX5_layTable_109 : decode cX5_layTable 109 = .ok (.aload_n 0, 1) := by decide +kernel
theorem dX5_layTable_110 : decode cX5_layTable 110 = .ok (.iload 4, 2) := by decide +kernel
theorem dX5_layTable_112 : decode cX5_layTable 112 = .ok (.iload_n 1, 1) := by decide +kernel
theorem dX5_layTable_113 : decode cX5_layTable 113 = .ok (.iload_n 2, 1) := by decide +kernel
theorem dX5_layTable_114 : decode cX5_layTable 114 = .ok (.invokevirtual 99, 3) := by decide +kernel
theorem dX5_layTable_117 : decode cX5_layTable 117 = .ok (.ifCond .eq 11, 3) := by decide +kernel
theorem dX5_layTable_120 : decode cX5_layTable 120 = .ok (.aload_n 0, 1) := by decide +kernel
theorem dX5_layTable_121 : decode cX5_layTable 121 = .ok (.iload 4, 2) := by decide +kernel
theorem dX5_layTable_123 : decode cX5_layTable 123 = .ok (.iload_n 1, 1) := by decide +kernel
theorem dX5_layTable_124 : decode cX5_layTable 124 = .ok (.iload_n 2, 1) := by decide +kernel
theorem dX5_layTable_125 : decode cX5_layTable 125 = .ok (.invokevirtual 102, 3) := by decide +kernel
theorem dX5_layTable_128 : decode cX5_layTable 128 = .ok (.iinc 4 1, 3) := by decide +kernel
theorem dX5_layTable_131 : decode cX5_layTable 131 = .ok (.goto (-28), 3) := by decide +kernel
theorem dX5_layTable_134 : decode cX5_layTable 134 = .ok (.iinc 2 (-1), 3) := by decide +kernel
theorem dX5_layTable_137 : decode cX5_layTable 137 = .ok (.goto (-123), 3) := by decide +kernel
theorem dX5_layTable_140 : decode cX5_layTable 140 = .ok (.iinc 1 (-1), 3) := by decide +kernel
theorem dX5_layTable_143 : decode cX5_layTable 143 = .ok (.goto (-138), 3) := by decide +kernel
theorem dX5_layTable_146 : decode cX5_layTable 146 = .ok (.return_, 1) := by decide +kernel
theorem dX5_go_0 : decode cX5_go 0 = .ok (.aload_n 0, 1) := by decide +kernel
theorem dX5_go_1 : decode cX5_go 1 = .ok (.iload_n 1, 1) := by decide +kernel
theorem dX5_go_2 : decode cX5_go 2 = .ok (.iload_n 2, 1) := by decide +kernel
theorem dX5_go_3 : decode cX5_go 3 = .ok (.iload_n 3, 1) := by decide +kernel
theorem dX5_go_4 : decode cX5_go 4 = .ok (.invokevirtual 106, 3) := by decide +kernel
theorem dX5_go_7 : decode cX5_go 7 = .ok (.aload_n 0, 1) := by decide +kernel
theorem dX5_go_8 : decode cX5_go 8 = .ok (.invokevirtual 109, 3) := by decide +kernel
theorem dX5_go_11 : decode cX5_go 11 = .ok (.return_, 1) := by decide +kernel
theorem dX5_stepOf_0 : decode cX5_stepOf 0 = .ok (.iload_n 0, 1) := by decide +kernel
theorem dX5_stepOf_1 : decode cX5_stepOf 1 = .ok (.bipush 111, 2) := by decide +kernel
theorem dX5_stepOf_3 : decode cX5_stepOf 3 = .ok (.if_icmp .ne 7, 3) := by decide +kernel
theorem dX5_stepOf_6 : decode cX5_stepOf 6 = .ok (.iconst 0, 1) := by decide +kernel
theorem dX5_stepOf_7 : decode cX5_stepOf 7 = .ok (.goto 25, 3) := by decide +kernel
theorem dX5_stepOf_10 : decode cX5_stepOf 10 = .ok (.iload_n 0, 1) := by decide +kernel
theorem dX5_stepOf_11 : decode cX5_stepOf 11 = .ok (.bipush 104, 2) := by decide +kernel
theorem dX5_stepOf_13 : decode cX5_stepOf 13 = .ok (.if_icmp .ne 7, 3) := by decide +kernel
theorem dX5_stepOf_16 : decode cX5_stepOf 16 = .ok (.iconst 1, 1) := by decide +kernel
theorem dX5_stepOf_17 : decode cX5_stepOf 17 = .ok (.goto 15, 3) := by decide +kernel
theorem dX5_stepOf_20 : decode cX5_stepOf 20 = .ok (.iload_n 0, 1) := by decide +kernel
theorem dX5_stepOf_21 : decode cX5_stepOf 21 = .ok (.bipush 115, 2) := by decide +kernel
theorem dX5_stepOf_23 : decode cX5_stepOf 23 = .ok (.if_icmp .ne 7, 3) := by decide +kernel
theorem dX5_stepOf_26 : decode cX5_stepOf 26 = .ok (.iconst 2, 1) := by decide +kernel
theorem dX5_stepOf_27 : decode cX5_stepOf 27 = .ok (.goto 5, 3) := by decide +kernel
theorem dX5_stepOf_30 : decode cX5_stepOf 30 = .ok (.bipush (-6), 2) := by decide +kernel
theorem dX5_stepOf_32 : decode cX5_stepOf 32 = .ok (.ireturn, 1) := by decide +kernel
theorem dX5_cost_0 : decode cX5_cost 0 = .ok (.iload_n 1, 1) := by decide +kernel
theorem dX5_cost_1 : decode cX5_cost 1 = .ok (.invokestatic 68, 3) := by decide +kernel
theorem dX5_cost_4 : decode cX5_cost 4 = .ok (.ifCond .eq 10, 3) := by decide +kernel
theorem dX5_cost_7 : decode cX5_cost 7 = .ok (.iload_n 2, 1) := by decide +kernel
theorem dX5_cost_8 : decode cX5_cost 8 = .ok (.invokestatic 72, 3) := by decide +kernel
theorem dX5_cost_11 : decode cX5_cost 11 = .ok (.ifCond .ne 5, 3) := by decide +kernel
theorem dX5_cost_14 : decode cX5_cost 14 = .ok (.iconst (-1), 1) := by decide +kernel
theorem dX5_cost_15 : decode cX5_cost 15 = .ok (.ireturn, 1) := by decide +kernel
theorem dX5_cost_16 : decode cX5_cost 16 = .ok (.iconst 0, 1) := by decide +kernel
theorem dX5_cost_17 : decode cX5_cost 17 = .ok (.istore_n 3, 1) := by decide +kernel
theorem dX5_cost_18 : decode cX5_cost 18 = .ok (.iload_n 3, 1) := by decide +kernel
theorem dX5_cost_19 : decode cX5_cost 19 = .ok (.aload_n 0, 1) := by decide +kernel
theorem dX5_cost_20 : decode cX5_cost 20 = .ok (.getfield 54, 3) := by decide +kernel
theorem dX5_cost_23 : decode cX5_cost 23 = .ok (.if_icmp .ge 24, 3) := by decide +kernel
theorem dX5_cost_26 : decode cX5_cost 26 = .ok (.aload_n 0, 1) := by decide +kernel
theorem dX5_cost_27 : decode cX5_cost 27 = .ok (.getfield 20, 3) := by decide +kernel
theorem dX5_cost_30 : decode cX5_cost 30 = .ok (.iload_n 3, 1) := by decide +kernel
theorem dX5_cost_31 : decode cX5_cost 31 = .ok (.iaload, 1) := by decide +kernel
theorem dX5_cost_32 : decode cX5_cost 32 = .ok (.invokestatic 112, 3) := by decide +kernel
theorem dX5_cost_35 : decode cX5_cost 35 = .ok (.ifCond .ge 6, 3) := by decide +kernel
theorem dX5_cost_38 : decode cX5_cost 38 = .ok (.bipush (-7), 2) := by decide +kernel
theorem dX5_cost_40 : decode cX5_cost 40 = .ok (.ireturn, 1) := by decide +kernel
theorem dX5_cost_41 : decode cX5_cost 41 = .ok (.iinc 3 1, 3) := by decide +kernel
theorem dX5_cost_44 : decode cX5_cost 44 = .ok (.goto (-26), 3) := by decide +kernel
theorem dX5_cost_47 : decode cX5_cost 47 = .ok (.aload_n 0, 1) := by decide +kernel
theorem dX5_cost_48 : decode cX5_cost 48 = .ok (.iload_n 1, 1) := by decide +kernel
theorem dX5_cost_49 : decode cX5_cost 49 = .ok (.iload_n 2, 1) := by decide +kernel
theorem dX5_cost_50 : decode cX5_cost 50 = .ok (.iconst 0, 1) := by decide +kernel
theorem dX5_cost_51 : decode cX5_cost 51 = .ok (.invokevirtual 106, 3) := by decide +kernel
theorem dX5_cost_54 : decode cX5_cost 54 = .ok (.iconst 0, 1) := by decide +kernel
theorem dX5_cost_55 : decode cX5_cost 55 = .ok (.istore_n 3, 1) := by decide +kernel
theorem dX5_cost_56 : decode cX5_cost 56 = .ok (.iconst 0, 1) := by decide +kernel
theorem dX5_cost_57 : decode cX5_cost 57 = .ok (.istore 4, 2) := by decide +kernel
theorem dX5_cost_59 : decode cX5_cost 59 = .ok (.iconst 0, 1) := by decide +kernel
theorem dX5_cost_60 : decode cX5_cost 60 = .ok (.istore 5, 2) := by decide +kernel
theorem dX5_cost_62 : decode cX5_cost 62 = .ok (.iconst 0, 1) := by decide +kernel
theorem dX5_cost_63 : decode cX5_cost 63 = .ok (.istore 6, 2) := by decide +kernel
theorem dX5_cost_65 : decode cX5_cost 65 = .ok (.iload 6, 2) := by decide +kernel
theorem dX5_cost_67 : decode cX5_cost 67 = .ok (.aload_n 0, 1) := by decide +kernel
theorem dX5_cost_68 : decode cX5_cost 68 = .ok (.getfield 54, 3) := by decide +kernel
theorem dX5_cost_71 : decode cX5_cost 71 = .ok (.if_icmp .ge 68, 3) := by decide +kernel
theorem dX5_cost_74 : decode cX5_cost 74 = .ok (.aload_n 0, 1) := by decide +kernel
theorem dX5_cost_75 : decode cX5_cost 75 = .ok (.getfield 20, 3) := by decide +kernel
theorem dX5_cost_78 : decode cX5_cost 78 = .ok (.iload 6, 2) := by decide +kernel
theorem dX5_cost_80 : decode cX5_cost 80 = .ok (.iaload, 1) := by decide +kernel
theorem dX5_cost_81 : decode cX5_cost 81 = .ok (.invokestatic 112, 3) := by decide +kernel
theorem dX5_cost_84 : decode cX5_cost 84 = .ok (.istore 7, 2) := by decide +kernel
theorem dX5_cost_86 : decode cX5_cost 86 = .ok (.aload_n 0, 1) := by decide +kernel
theorem dX5_cost_87 : decode cX5_cost 87 = .ok (.iload 7, 2) := by decide +kernel
theorem dX5_cost_89 : decode cX5_cost 89 = .ok (.iload_n 3, 1) := by decide +kernel
theorem dX5_cost_90 : decode cX5_cost 90 = .ok (.iload 4, 2) := by decide +kernel
theorem dX5_cost_92 : decode cX5_cost 92 = .ok (.invokevirtual 99, 3) := by decide +kernel
theorem dX5_cost_95 : decode cX5_cost 95 = .ok (.ifCond .ne 6, 3) := by decide +kernel
theorem dX5_cost_98 : decode cX5_cost 98 = .ok (.bipush (-5), 2) := by decide +kernel
theorem dX5_cost_100 : decode cX5_cost 100 = .ok (.ireturn, 1) := by decide +kernel
theorem dX5_cost_101 : decode cX5_cost 101 = .ok (.iload 5, 2) := by decide +kernel
theorem dX5_cost_103 : decode cX5_cost 103 = .ok (.aload_n 0, 1) := by decide +kernel
theorem dX5_cost_104 : decode cX5_cost 104 = .ok (.iload 7, 2) := by decide +kernel
theorem dX5_cost_106 : decode cX5_cost 106 = .ok (.iload_n 3, 1) := by decide +kernel
theorem dX5_cost_107 : decode cX5_cost 107 = .ok (.iload 4, 2) := by decide +kernel
theorem dX5_cost_109 : decode cX5_cost 109 = .ok (.invokevirtual 95, 3) := by decide +kernel
theorem dX5_cost_112 : decode cX5_cost 112 = .ok (.iadd, 1) := by decide +kernel
theorem dX5_cost_113 : decode cX5_cost 113 = .ok (.istore 5, 2) := by decide +kernel
theorem dX5_cost_115 : decode cX5_cost 115 = .ok (.iload_n 3, 1) := by decide +kernel
theorem dX5_cost_116 : decode cX5_cost 116 = .ok (.iload 7, 2) := by decide +kernel
theorem dX5_cost_118 : decode cX5_cost 118 = .ok (.invokestatic 88, 3) := by decide +kernel
theorem dX5_cost_121 : decode cX5_cost 121 = .ok (.iadd, 1) := by decide +kernel
theorem dX5_cost_122 : decode cX5_cost 122 = .ok (.istore_n 3, 1) := by decide +kernel
theorem dX5_cost_123 : decode cX5_cost 123 = .ok (.iload 4, 2) := by decide +kernel
theorem dX5_cost_125 : decode cX5_cost 125 = .ok (.iload 7, 2) := by decide +kernel
theorem dX5_cost_127 : decode cX5_cost 127 = .ok (.invokestatic 92, 3) := by decide +kernel
theorem dX5_cost_130 : decode cX5_cost 130 = .ok (.iadd, 1) := by decide +kernel
theorem dX5_cost_131 : decode cX5_cost 131 = .ok (.istore 4, 2) := by decide +kernel
theorem dX5_cost_133 : decode cX5_cost 133 = .ok (.iinc 6 1, 3) := by decide +kernel
theorem dX5_cost_136 : decode cX5_cost 136 = .ok (.goto (-71), 3) := by decide +kernel
theorem dX5_cost_139 : decode cX5_cost 139 = .ok (.iload_n 3, 1) := by decide +kernel
theorem dX5_cost_140 : decode cX5_cost 140 = .ok (.aload_n 0, 1) := by decide +kernel
theorem dX5_cost_141 : decode cX5_cost 141 = .ok (.getfield 75, 3) := by decide +kernel
theorem dX5_cost_144 : decode cX5_cost 144 = .ok (.if_icmp .ne 17, 3) := by decide +kernel
theorem dX5_cost_147 : decode cX5_cost 147 = .ok (.iload 4, 2) := by decide +kernel
theorem dX5_cost_149 : decode cX5_cost 149 = .ok (.aload_n 0, 1) := by decide +kernel
theorem dX5_cost_150 : decode cX5_cost 150 = .ok (.getfield 78, 3) := by decide +kernel
theorem dX5_cost_153 : decode cX5_cost 153 = .ok (.if_icmp .ne 8, 3) := by decide +kernel
theorem dX5_cost_156 : decode cX5_cost 156 = .ok (.iload 5, 2) := by decide +kernel
theorem dX5_cost_158 : decode cX5_cost 158 = .ok (.goto 5, 3) := by decide +kernel
theorem dX5_cost_161 : decode cX5_cost 161 = .ok (.bipush (-5), 2) := by decide +kernel
theorem dX5_cost_163 : decode cX5_cost 163 = .ok (.ireturn, 1) := by decide +kernel
theorem dX5_nextStep_0 : decode cX5_nextStep 0 = .ok (.iconst 0, 1) := by decide +kernel
theorem dX5_nextStep_1 : decode cX5_nextStep 1 = .ok (.istore_n 3, 1) := by decide +kernel
theorem dX5_nextStep_2 : decode cX5_nextStep 2 = .ok (.iload_n 3, 1) := by decide +kernel
theorem dX5_nextStep_3 : decode cX5_nextStep 3 = .ok (.iconst 3, 1) := by decide +kernel
theorem dX5_nextStep_4 : decode cX5_nextStep 4 = .ok (.if_icmp .ge 76, 3) := by decide +kernel
theorem dX5_nextStep_7 : decode cX5_nextStep 7 = .ok (.aload_n 0, 1) := by decide +kernel
theorem dX5_nextStep_8 : decode cX5_nextStep 8 = .ok (.iload_n 3, 1) := by decide +kernel
theorem dX5_nextStep_9 : decode cX5_nextStep 9 = .ok (.iload_n 1, 1) := by decide +kernel
theorem dX5_nextStep_10 : decode cX5_nextStep 10 = .ok (.iload_n 2, 1) := by decide +kernel
theorem dX5_nextStep_11 : decode cX5_nextStep 11 = .ok (.invokevirtual 99, 3) := by decide +kernel
theorem dX5_nextStep_14 : decode cX5_nextStep 14 = .ok (.ifCond .eq 60, 3) := by decide +kernel
theorem dX5_nextStep_17 : decode cX5_nextStep 17 = .ok (.iload_n 1, 1) := by decide +kernel
theorem dX5_nextStep_18 : decode cX5_nextStep 18 = .ok (.iload_n 3, 1) := by decide +kernel
theorem dX5_nextStep_19 : decode cX5_nextStep 19 = .ok (.invokestatic 88, 3) := by decide +kernel
theorem dX5_nextStep_22 : decode cX5_nextStep 22 = .ok (.iadd, 1) := by decide +kernel
theorem dX5_nextStep_23 : decode cX5_nextStep 23 = .ok (.iload_n 2, 1) := by decide +kernel
theorem dX5_nextStep_24 : decode cX5_nextStep 24 = .ok (.iload_n 3, 1) := by decide +kernel
theorem dX5_nextStep_25 : decode cX5_nextStep 25 = .ok (.invokestatic 92, 3) := by decide +kernel
theorem dX5_nextStep_28 : decode cX5_nextStep 28 = .ok (.iadd, 1) := by decide +kernel
theorem dX5_nextStep_29 : decode cX5_nextStep 29 = .ok (.invokestatic 85, 3) := by decide +kernel
theorem dX5_nextStep_32 : decode cX5_nextStep 32 = .ok (.istore 4, 2) := by decide +kernel
theorem dX5_nextStep_34 : decode cX5_nextStep 34 = .ok (.aload_n 0, 1) := by decide +kernel
theorem dX5_nextStep_35 : decode cX5_nextStep 35 = .ok (.getfield 41, 3) := by decide +kernel
theorem dX5_nextStep_38 : decode cX5_nextStep 38 = .ok (.iload 4, 2) := by decide +kernel
theorem dX5_nextStep_40 : decode cX5_nextStep 40 = .ok (.iaload, 1) := by decide +kernel
theorem dX5_nextStep_41 : decode cX5_nextStep 41 = .ok (.ifCond .le 33, 3) := by decide +kernel
theorem dX5_nextStep_44 : decode cX5_nextStep 44 = .ok (.aload_n 0, 1) := by decide +kernel
theorem dX5_nextStep_45 : decode cX5_nextStep 45 = .ok (.iload_n 3, 1) := by decide +kernel
theorem dX5_nextStep_46 : decode cX5_nextStep 46 = .ok (.iload_n 1, 1) := by decide +kernel
theorem dX5_nextStep_47 : decode cX5_nextStep 47 = .ok (.iload_n 2, 1) := by decide +kernel
theorem dX5_nextStep_48 : decode cX5_nextStep 48 = .ok (.invokevirtual 95, 3) := by decide +kernel
theorem dX5_nextStep_51 : decode cX5_nextStep 51 = .ok (.aload_n 0, 1) := by decide +kernel
theorem dX5_nextStep_52 : decode cX5_nextStep 52 = .ok (.getfield 35, 3) := by decide +kernel
theorem dX5_nextStep_55 : decode cX5_nextStep 55 = .ok (.iload 4, 2) := by decide +kernel
theorem dX5_nextStep_57 : decode cX5_nextStep 57 = .ok (.iaload, 1) := by decide +kernel
theorem dX5_nextStep_58 : decode cX5_nextStep 58 = .ok (.iadd, 1) := by decide +kernel
theorem dX5_nextStep_59 : decode cX5_nextStep 59 = .ok (.aload_n 0, 1) := by decide +kernel
theorem dX5_nextStep_60 : decode cX5_nextStep 60 = .ok (.getfield 35, 3) := by decide +kernel
theorem dX5_nextStep_63 : decode cX5_nextStep 63 = .ok (.iload_n 1, 1) := by decide +kernel
theorem dX5_nextStep_64 : decode cX5_nextStep 64 = .ok (.iload_n 2, 1) := by decide +kernel
theorem dX5_nextStep_65 : decode cX5_nextStep 65 = .ok (.invokestatic 85, 3) := by decide +kernel
theorem dX5_nextStep_68 : decode cX5_nextStep 68 = .ok (.iaload, 1) := by decide +kernel
theorem dX5_nextStep_69 : decode cX5_nextStep 69 = .ok (.if_icmp .ne 5, 3) := by decide +kernel
theorem dX5_nextStep_72 : decode cX5_nextStep 72 = .ok (.iload_n 3, 1) := by decide +kernel
theorem dX5_nextStep_73 : decode cX5_nextStep 73 = .ok (.ireturn, 1) := by decide +kernel
theorem dX5_nextStep_74 : decode cX5_nextStep 74 = .ok (.iinc 3 1, 3) := by decide +kernel
theorem dX5_nextStep_77 : decode cX5_nextStep 77 = .ok (.goto (-75), 3) := by decide +kernel
theorem dX5_nextStep_80 : decode cX5_nextStep 80 = .ok (.bipush (-6), 2) := by decide +kernel
theorem dX5_nextStep_82 : decode cX5_nextStep 82 = .ok (.ireturn, 1) := by decide +kernel
theorem dX5_laySteps_0 : decode cX5_laySteps 0 = .ok (.iconst 0, 1) := by decide +kernel
theorem dX5_laySteps_1 : decode cX5_laySteps 1 = .ok (.istore_n 1, 1) := by decide +kernel
theorem dX5_laySteps_2 : decode cX5_laySteps 2 = .ok (.iconst 0, 1) := by decide +kernel
theorem dX5_laySteps_3 : decode cX5_laySteps 3 = .ok (.istore_n 2, 1) := by decide +kernel
theorem dX5_laySteps_4 : decode cX5_laySteps 4 = .ok (.aload_n 0, 1) := by decide +kernel
theorem dX5_laySteps_5 : decode cX5_laySteps 5 = .ok (.iconst 0, 1) := by decide +kernel
theorem dX5_laySteps_6 : decode cX5_laySteps 6 = .ok (.putfield 115, 3) := by decide +kernel
theorem dX5_laySteps_9 : decode cX5_laySteps 9 = .ok (.iload_n 1, 1) := by decide +kernel
theorem dX5_laySteps_10 : decode cX5_laySteps 10 = .ok (.aload_n 0, 1) := by decide +kernel
theorem dX5_laySteps_11 : decode cX5_laySteps 11 = .ok (.getfield 75, 3) := by decide +kernel
theorem dX5_laySteps_14 : decode cX5_laySteps 14 = .ok (.if_icmp .lt 11, 3) := by decide +kernel
theorem dX5_laySteps_17 : decode cX5_laySteps 17 = .ok (.iload_n 2, 1) := by decide +kernel
theorem dX5_laySteps_18 : decode cX5_laySteps 18 = .ok (.aload_n 0, 1) := by decide +kernel
theorem dX5_laySteps_19 : decode cX5_laySteps 19 = .ok (.getfield 78, 3) := by decide +kernel
theorem dX5_laySteps_22 : decode cX5_laySteps 22 = .ok (.if_icmp .ge 47, 3) := by decide +kernel
theorem dX5_laySteps_25 : decode cX5_laySteps 25 = .ok (.aload_n 0, 1) := by decide +kernel
theorem dX5_laySteps_26 : decode cX5_laySteps 26 = .ok (.iload_n 1, 1) := by decide +kernel
theorem dX5_laySteps_27 : decode cX5_laySteps 27 = .ok (.iload_n 2, 1) := by decide +kernel
theorem dX5_laySteps_28 : decode cX5_laySteps 28 = .ok (.invokevirtual 118, 3) := by decide +kernel
theorem dX5_laySteps_31 : decode cX5_laySteps 31 = .ok (.istore_n 3, 1) := by decide +kernel
theorem dX5_laySteps_32 : decode cX5_laySteps 32 = .ok (.aload_n 0, 1) := by decide +kernel
theorem dX5_laySteps_33 : decode cX5_laySteps 33 = .ok (.getfield 47, 3) := by decide +kernel
theorem dX5_laySteps_36 : decode cX5_laySteps 36 = .ok (.aload_n 0, 1) := by decide +kernel
theorem dX5_laySteps_37 : decode cX5_laySteps 37 = .ok (.getfield 115, 3) := by decide +kernel
theorem dX5_laySteps_40 : decode cX5_laySteps 40 = .ok (.iload_n 3, 1) := by decide +kernel
theorem dX5_laySteps_41 : decode cX5_laySteps 41 = .ok (.iastore, 1) := by decide +kernel
theorem dX5_laySteps_42 : decode cX5_laySteps 42 = .ok (.aload_n 0, 1) := by decide +kernel
theorem dX5_laySteps_43 : decode cX5_laySteps 43 = .ok (.dup, 1) := by decide +kernel
theorem dX5_laySteps_44 : decode cX5_laySteps 44 = .ok (.getfield 115, 3) := by decide +kernel
theorem dX5_laySteps_47 : decode cX5_laySteps 47 = .ok (.iconst 1, 1) := by decide +kernel
theorem dX5_laySteps_48 : decode cX5_laySteps 48 = .ok (.iadd, 1) := by decide +kernel
theorem dX5_laySteps_49 : decode cX5_laySteps 49 = .ok (.putfield 115, 3) := by decide +kernel
theorem dX5_laySteps_52 : decode cX5_laySteps 52 = .ok (.iload_n 1, 1) := by decide +kernel
theorem dX5_laySteps_53 : decode cX5_laySteps 53 = .ok (.iload_n 3, 1) := by decide +kernel
theorem dX5_laySteps_54 : decode cX5_laySteps 54 = .ok (.invokestatic 88, 3) := by decide +kernel
theorem dX5_laySteps_57 : decode cX5_laySteps 57 = .ok (.iadd, 1) := by decide +kernel
theorem dX5_laySteps_58 : decode cX5_laySteps 58 = .ok (.istore_n 1, 1) := by decide +kernel
theorem dX5_laySteps_59 : decode cX5_laySteps 59 = .ok (.iload_n 2, 1) := by decide +kernel
theorem dX5_laySteps_60 : decode cX5_laySteps 60 = .ok (.iload_n 3, 1) := by decide +kernel
theorem dX5_laySteps_61 : decode cX5_laySteps 61 = .ok (.invokestatic 92, 3) := by decide +kernel
theorem dX5_laySteps_64 : decode cX5_laySteps 64 = .ok (.iadd, 1) := by decide +kernel
theorem dX5_laySteps_65 : decode cX5_laySteps 65 = .ok (.istore_n 2, 1) := by decide +kernel
theorem dX5_laySteps_66 : decode cX5_laySteps 66 = .ok (.goto (-57), 3) := by decide +kernel
theorem dX5_laySteps_69 : decode cX5_laySteps 69 = .ok (.return_, 1) := by decide +kernel
theorem dX5_least_0 : decode cX5_least 0 = .ok (.iload_n 1, 1) := by decide +kernel
theorem dX5_least_1 : decode cX5_least 1 = .ok (.invokestatic 68, 3) := by decide +kernel
theorem dX5_least_4 : decode cX5_least 4 = .ok (.ifCond .eq 10, 3) := by decide +kernel
theorem dX5_least_7 : decode cX5_least 7 = .ok (.iload_n 2, 1) := by decide +kernel
theorem dX5_least_8 : decode cX5_least 8 = .ok (.invokestatic 72, 3) := by decide +kernel
theorem dX5_least_11 : decode cX5_least 11 = .ok (.ifCond .ne 5, 3) := by decide +kernel
theorem dX5_least_14 : decode cX5_least 14 = .ok (.iconst (-1), 1) := by decide +kernel
theorem dX5_least_15 : decode cX5_least 15 = .ok (.ireturn, 1) := by decide +kernel
theorem dX5_least_16 : decode cX5_least 16 = .ok (.iload_n 3, 1) := by decide +kernel
theorem dX5_least_17 : decode cX5_least 17 = .ok (.iconst (-1), 1) := by decide +kernel
theorem dX5_least_18 : decode cX5_least 18 = .ok (.if_icmp .ge 6, 3) := by decide +kernel
theorem dX5_least_21 : decode cX5_least 21 = .ok (.bipush (-2), 2) := by decide +kernel
theorem dX5_least_23 : decode cX5_least 23 = .ok (.ireturn, 1) := by decide +kernel
theorem dX5_least_24 : decode cX5_least 24 = .ok (.aload_n 0, 1) := by decide +kernel
theorem dX5_least_25 : decode cX5_least 25 = .ok (.iload_n 1, 1) := by decide +kernel
theorem dX5_least_26 : decode cX5_least 26 = .ok (.iload_n 2, 1) := by decide +kernel
theorem dX5_least_27 : decode cX5_least 27 = .ok (.iconst 0, 1) := by decide +kernel
theorem dX5_least_28 : decode cX5_least 28 = .ok (.invokevirtual 121, 3) := by decide +kernel
theorem dX5_least_31 : decode cX5_least 31 = .ok (.aload_n 0, 1) := by decide +kernel
theorem dX5_least_32 : decode cX5_least 32 = .ok (.getfield 41, 3) := by decide +kernel
theorem dX5_least_35 : decode cX5_least 35 = .ok (.iconst 0, 1) := by decide +kernel
theorem dX5_least_36 : decode cX5_least 36 = .ok (.iaload, 1) := by decide +kernel
theorem dX5_least_37 : decode cX5_least 37 = .ok (.ifCond .ne 6, 3) := by decide +kernel
theorem dX5_least_40 : decode cX5_least 40 = .ok (.bipush (-6), 2) := by decide +kernel
theorem dX5_least_42 : decode cX5_least 42 = .ok (.ireturn, 1) := by decide +kernel
theorem dX5_least_43 : decode cX5_least 43 = .ok (.iload_n 3, 1) := by decide +kernel
theorem dX5_least_44 : decode cX5_least 44 = .ok (.iconst (-1), 1) := by decide +kernel
theorem dX5_least_45 : decode cX5_least 45 = .ok (.if_icmp .ne 10, 3) := by decide +kernel
theorem dX5_least_48 : decode cX5_least 48 = .ok (.aload_n 0, 1) := by decide +kernel
theorem dX5_least_49 : decode cX5_least 49 = .ok (.getfield 35, 3) := by decide +kernel
theorem dX5_least_52 : decode cX5_least 52 = .ok (.iconst 0, 1) := by decide +kernel
theorem dX5_least_53 : decode cX5_least 53 = .ok (.iaload, 1) := by decide +kernel
theorem dX5_least_54 : decode cX5_least 54 = .ok (.ireturn, 1) := by decide +kernel
theorem dX5_least_55 : decode cX5_least 55 = .ok (.aload_n 0, 1) := by decide +kernel
theorem dX5_least_56 : decode cX5_least 56 = .ok (.invokevirtual 124, 3) := by decide +kernel
theorem dX5_least_59 : decode cX5_least 59 = .ok (.iload_n 3, 1) := by decide +kernel
theorem dX5_least_60 : decode cX5_least 60 = .ok (.aload_n 0, 1) := by decide +kernel
theorem dX5_least_61 : decode cX5_least 61 = .ok (.getfield 115, 3) := by decide +kernel
theorem dX5_least_64 : decode cX5_least 64 = .ok (.if_icmp .ge 12, 3) := by decide +kernel
theorem dX5_least_67 : decode cX5_least 67 = .ok (.aload_n 0, 1) := by decide +kernel
theorem dX5_least_68 : decode cX5_least 68 = .ok (.getfield 47, 3) := by decide +kernel
theorem dX5_least_71 : decode cX5_least 71 = .ok (.iload_n 3, 1) := by decide +kernel
theorem dX5_least_72 : decode cX5_least 72 = .ok (.iaload, 1) := by decide +kernel
theorem dX5_least_73 : decode cX5_least 73 = .ok (.goto 5, 3) := by decide +kernel
theorem dX5_least_76 : decode cX5_least 76 = .ok (.bipush (-6), 2) := by decide +kernel
theorem dX5_least_78 : decode cX5_least 78 = .ok (.ireturn, 1) := by decide +kernel
theorem dX5_ways_0 : decode cX5_ways 0 = .ok (.iload_n 1, 1) := by decide +kernel
theorem dX5_ways_1 : decode cX5_ways 1 = .ok (.invokestatic 68, 3) := by decide +kernel
theorem dX5_ways_4 : decode cX5_ways 4 = .ok (.ifCond .eq 10, 3) := by decide +kernel
theorem dX5_ways_7 : decode cX5_ways 7 = .ok (.iload_n 2, 1) := by decide +kernel
theorem dX5_ways_8 : decode cX5_ways 8 = .ok (.invokestatic 72, 3) := by decide +kernel
theorem dX5_ways_11 : decode cX5_ways 11 = .ok (.ifCond .ne 5, 3) := by decide +kernel
theorem dX5_ways_14 : decode cX5_ways 14 = .ok (.iconst (-1), 1) := by decide +kernel
theorem dX5_ways_15 : decode cX5_ways 15 = .ok (.ireturn, 1) := by decide +kernel
theorem dX5_ways_16 : decode cX5_ways 16 = .ok (.iload_n 3, 1) := by decide +kernel
theorem dX5_ways_17 : decode cX5_ways 17 = .ok (.iconst 0, 1) := by decide +kernel
theorem dX5_ways_18 : decode cX5_ways 18 = .ok (.iconst 2, 1) := by decide +kernel
theorem dX5_ways_19 : decode cX5_ways 19 = .ok (.invokestatic 50, 3) := by decide +kernel
theorem dX5_ways_22 : decode cX5_ways 22 = .ok (.ifCond .ne 6, 3) := by decide +kernel
theorem dX5_ways_25 : decode cX5_ways 25 = .ok (.bipush (-2), 2) := by decide +kernel
theorem dX5_ways_27 : decode cX5_ways 27 = .ok (.ireturn, 1) := by decide +kernel
theorem dX5_ways_28 : decode cX5_ways 28 = .ok (.aload_n 0, 1) := by decide +kernel
theorem dX5_ways_29 : decode cX5_ways 29 = .ok (.iload_n 1, 1) := by decide +kernel
theorem dX5_ways_30 : decode cX5_ways 30 = .ok (.iload_n 2, 1) := by decide +kernel
theorem dX5_ways_31 : decode cX5_ways 31 = .ok (.iconst 0, 1) := by decide +kernel
theorem dX5_ways_32 : decode cX5_ways 32 = .ok (.invokevirtual 121, 3) := by decide +kernel
theorem dX5_ways_35 : decode cX5_ways 35 = .ok (.iload_n 3, 1) := by decide +kernel
theorem dX5_ways_36 : decode cX5_ways 36 = .ok (.ifCond .ne 12, 3) := by decide +kernel
theorem dX5_ways_39 : decode cX5_ways 39 = .ok (.aload_n 0, 1) := by decide +kernel
theorem dX5_ways_40 : decode cX5_ways 40 = .ok (.getfield 41, 3) := by decide +kernel
theorem dX5_ways_43 : decode cX5_ways 43 = .ok (.iconst 0, 1) := by decide +kernel
theorem dX5_ways_44 : decode cX5_ways 44 = .ok (.iaload, 1) := by decide +kernel
theorem dX5_ways_45 : decode cX5_ways 45 = .ok (.goto 37, 3) := by decide +kernel
theorem dX5_ways_48 : decode cX5_ways 48 = .ok (.iload_n 3, 1) := by decide +kernel
theorem dX5_ways_49 : decode cX5_ways 49 = .ok (.iconst 1, 1) := by decide +kernel
theorem dX5_ways_50 : decode cX5_ways 50 = .ok (.if_icmp .ne 12, 3) := by decide +kernel
theorem dX5_ways_53 : decode cX5_ways 53 = .ok (.aload_n 0, 1) := by decide +kernel
theorem dX5_ways_54 : decode cX5_ways 54 = .ok (.getfield 44, 3) := by decide +kernel
theorem dX5_ways_57 : decode cX5_ways 57 = .ok (.iconst 0, 1) := by decide +kernel
theorem dX5_ways_58 : decode cX5_ways 58 = .ok (.iaload, 1) := by decide +kernel
theorem dX5_ways_59 : decode cX5_ways 59 = .ok (.goto 23, 3) := by decide +kernel
theorem dX5_ways_62 : decode cX5_ways 62 = .ok (.aload_n 0, 1) := by decide +kernel
theorem dX5_ways_63 : decode cX5_ways 63 = .ok (.getfield 41, 3) := by decide +kernel
theorem dX5_ways_66 : decode cX5_ways 66 = .ok (.iconst 0, 1) := by decide +kernel
theorem dX5_ways_67 : decode cX5_ways 67 = .ok (.iaload, 1) := by decide +kernel
theorem dX5_ways_68 : decode cX5_ways 68 = .ok (.ifCond .ne 8, 3) := by decide +kernel
theorem dX5_ways_71 : decode cX5_ways 71 = .ok (.bipush (-6), 2) := by decide +kernel
theorem dX5_ways_73 : decode cX5_ways 73 = .ok (.goto 9, 3) := by decide +kernel
theorem dX5_ways_76 : decode cX5_ways 76 = .ok (.aload_n 0, 1) := by decide +kernel
theorem dX5_ways_77 : decode cX5_ways 77 = .ok (.getfield 38, 3) := by decide +kernel
theorem dX5_ways_80 : decode cX5_ways 80 = .ok (.iconst 0, 1) := by decide +kernel
theorem dX5_ways_81 : decode cX5_ways 81 = .ok (.iaload, 1) := by decide +kernel
theorem dX5_ways_82 : decode cX5_ways 82 = .ok (.ireturn, 1) := by decide +kernel
theorem dX5_sung_0 : decode cX5_sung 0 = .ok (.iload_n 1, 1) := by decide +kernel
theorem dX5_sung_1 : decode cX5_sung 1 = .ok (.invokestatic 68, 3) := by decide +kernel
theorem dX5_sung_4 : decode cX5_sung 4 = .ok (.ifCond .eq 10, 3) := by decide +kernel
theorem dX5_sung_7 : decode cX5_sung 7 = .ok (.iload_n 2, 1) := by decide +kernel
theorem dX5_sung_8 : decode cX5_sung 8 = .ok (.invokestatic 72, 3) := by decide +kernel
theorem dX5_sung_11 : decode cX5_sung 11 = .ok (.ifCond .ne 5, 3) := by decide +kernel
theorem dX5_sung_14 : decode cX5_sung 14 = .ok (.iconst (-1), 1) := by decide +kernel
theorem dX5_sung_15 : decode cX5_sung 15 = .ok (.ireturn, 1) := by decide +kernel
theorem dX5_sung_16 : decode cX5_sung 16 = .ok (.iload_n 3, 1) := by decide +kernel
theorem dX5_sung_17 : decode cX5_sung 17 = .ok (.iconst 0, 1) := by decide +kernel
theorem dX5_sung_18 : decode cX5_sung 18 = .ok (.aload_n 0, 1) := by decide +kernel
theorem dX5_sung_19 : decode cX5_sung 19 = .ok (.getfield 7, 3) := by decide +kernel
theorem dX5_sung_22 : decode cX5_sung 22 = .ok (.bipush 57, 2) := by decide +kernel
theorem dX5_sung_24 : decode cX5_sung 24 = .ok (.iload_n 2, 1) := by decide +kernel
theorem dX5_sung_25 : decode cX5_sung 25 = .ok (.iadd, 1) := by decide +kernel
theorem dX5_sung_26 : decode cX5_sung 26 = .ok (.iaload, 1) := by decide +kernel
theorem dX5_sung_27 : decode cX5_sung 27 = .ok (.iconst 1, 1) := by decide +kernel
theorem dX5_sung_28 : decode cX5_sung 28 = .ok (.isub, 1) := by decide +kernel
theorem dX5_sung_29 : decode cX5_sung 29 = .ok (.invokestatic 50, 3) := by decide +kernel
theorem dX5_sung_32 : decode cX5_sung 32 = .ok (.ifCond .eq 13, 3) := by decide +kernel
theorem dX5_sung_35 : decode cX5_sung 35 = .ok (.iload 4, 2) := by decide +kernel
theorem dX5_sung_37 : decode cX5_sung 37 = .ok (.iconst 0, 1) := by decide +kernel
theorem dX5_sung_38 : decode cX5_sung 38 = .ok (.iconst 1, 1) := by decide +kernel
theorem dX5_sung_39 : decode cX5_sung 39 = .ok (.invokestatic 50, 3) := by decide +kernel
theorem dX5_sung_42 : decode cX5_sung 42 = .ok (.ifCond .ne 6, 3) := by decide +kernel
theorem dX5_sung_45 : decode cX5_sung 45 = .ok (.bipush (-2), 2) := by decide +kernel
theorem dX5_sung_47 : decode cX5_sung 47 = .ok (.ireturn, 1) := by decide +kernel
theorem dX5_sung_48 : decode cX5_sung 48 = .ok (.aload_n 0, 1) := by decide +kernel
theorem dX5_sung_49 : decode cX5_sung 49 = .ok (.iload_n 1, 1) := by decide +kernel
theorem dX5_sung_50 : decode cX5_sung 50 = .ok (.iload_n 2, 1) := by decide +kernel
theorem dX5_sung_51 : decode cX5_sung 51 = .ok (.iconst 0, 1) := by decide +kernel
theorem dX5_sung_52 : decode cX5_sung 52 = .ok (.invokevirtual 121, 3) := by decide +kernel
theorem dX5_sung_55 : decode cX5_sung 55 = .ok (.aload_n 0, 1) := by decide +kernel
theorem dX5_sung_56 : decode cX5_sung 56 = .ok (.getfield 41, 3) := by decide +kernel
theorem dX5_sung_59 : decode cX5_sung 59 = .ok (.iconst 0, 1) := by decide +kernel
theorem dX5_sung_60 : decode cX5_sung 60 = .ok (.iaload, 1) := by decide +kernel
theorem dX5_sung_61 : decode cX5_sung 61 = .ok (.ifCond .ne 6, 3) := by decide +kernel
theorem dX5_sung_64 : decode cX5_sung 64 = .ok (.bipush (-6), 2) := by decide +kernel
theorem dX5_sung_66 : decode cX5_sung 66 = .ok (.ireturn, 1) := by decide +kernel
theorem dX5_sung_67 : decode cX5_sung 67 = .ok (.aload_n 0, 1) := by decide +kernel
theorem dX5_sung_68 : decode cX5_sung 68 = .ok (.invokevirtual 124, 3) := by decide +kernel
theorem dX5_sung_71 : decode cX5_sung 71 = .ok (.iconst (-1), 1) := by decide +kernel
theorem dX5_sung_72 : decode cX5_sung 72 = .ok (.istore 5, 2) := by decide +kernel
theorem dX5_sung_74 : decode cX5_sung 74 = .ok (.iconst (-1), 1) := by decide +kernel
theorem dX5_sung_75 : decode cX5_sung 75 = .ok (.istore 6, 2) := by decide +kernel
theorem dX5_sung_77 : decode cX5_sung 77 = .ok (.bipush (-6), 2) := by decide +kernel
theorem dX5_sung_79 : decode cX5_sung 79 = .ok (.istore 7, 2) := by decide +kernel
theorem dX5_sung_81 : decode cX5_sung 81 = .ok (.iconst 0, 1) := by decide +kernel
theorem dX5_sung_82 : decode cX5_sung 82 = .ok (.istore 8, 2) := by decide +kernel
theorem dX5_sung_84 : decode cX5_sung 84 = .ok (.iconst 0, 1) := by decide +kernel
theorem dX5_sung_85 : decode cX5_sung 85 = .ok (.istore 9, 2) := by decide +kernel
theorem dX5_sung_87 : decode cX5_sung 87 = .ok (.iload 9, 2) := by decide +kernel
theorem dX5_sung_89 : decode cX5_sung 89 = .ok (.aload_n 0, 1) := by decide +kernel
theorem dX5_sung_90 : decode cX5_sung 90 = .ok (.getfield 115, 3) := by decide +kernel
theorem dX5_sung_93 : decode cX5_sung 93 = .ok (.if_icmp .ge 62, 3) := by decide +kernel
theorem dX5_sung_96 : decode cX5_sung 96 = .ok (.iload 5, 2) := by decide +kernel
theorem dX5_sung_98 : decode cX5_sung 98 = .ok (.aload_n 0, 1) := by decide +kernel
theorem dX5_sung_99 : decode cX5_sung 99 = .ok (.getfield 47, 3) := by decide +kernel
theorem dX5_sung_102 : decode cX5_sung 102 = .ok (.iload 9, 2) := by decide +kernel
theorem dX5_sung_104 : decode cX5_sung 104 = .ok (.iaload, 1) := by decide +kernel
theorem dX5_sung_105 : decode cX5_sung 105 = .ok (.invokestatic 88, 3) := by decide +kernel
theorem dX5_sung_108 : decode cX5_sung 108 = .ok (.iadd, 1) := by decide +kernel
theorem dX5_sung_109 : decode cX5_sung 109 = .ok (.istore 5, 2) := by decide +kernel
theorem dX5_sung_111 : decode cX5_sung 111 = .ok (.iload 6, 2) := by decide +kernel
theorem dX5_sung_113 : decode cX5_sung 113 = .ok (.aload_n 0, 1) := by decide +kernel
theorem dX5_sung_114 : decode cX5_sung 114 = .ok (.getfield 47, 3) := by decide +kernel
theorem dX5_sung_117 : decode cX5_sung 117 = .ok (.iload 9, 2) := by decide +kernel
theorem dX5_sung_119 : decode cX5_sung 119 = .ok (.iaload, 1) := by decide +kernel
theorem dX5_sung_120 : decode cX5_sung 120 = .ok (.invokestatic 92, 3) := by decide +kernel
theorem dX5_sung_123 : decode cX5_sung 123 = .ok (.iadd, 1) := by decide +kernel
theorem dX5_sung_124 : decode cX5_sung 124 = .ok (.istore 6, 2) := by decide +kernel
theorem dX5_sung_126 : decode cX5_sung 126 = .ok (.iload 6, 2) := by decide +kernel
theorem dX5_sung_128 : decode cX5_sung 128 = .ok (.iload_n 3, 1) := by decide +kernel
theorem dX5_sung_129 : decode cX5_sung 129 = .ok (.if_icmp .ne 20, 3) := by decide +kernel
theorem dX5_sung_132 : decode cX5_sung 132 = .ok (.iload 8, 2) := by decide +kernel
theorem dX5_sung_134 : decode cX5_sung 134 = .ok (.ifCond .ne 8, 3) := by decide +kernel
theorem dX5_sung_137 : decode cX5_sung 137 = .ok (.iload 5, 2) := by decide +kernel
theorem dX5_sung_139 : decode cX5_sung 139 = .ok (.goto 5, 3) := by decide +kernel
theorem dX5_sung_142 : decode cX5_sung 142 = .ok (.iload 7, 2) := by decide +kernel
theorem dX5_sung_144 : decode cX5_sung 144 = .ok (.istore 7, 2) := by decide +kernel
theorem dX5_sung_146 : decode cX5_sung 146 = .ok (.iinc 8 1, 3) := by decide +kernel
theorem dX5_sung_149 : decode cX5_sung 149 = .ok (.iinc 9 1, 3) := by decide +kernel
theorem dX5_sung_152 : decode cX5_sung 152 = .ok (.goto (-65), 3) := by decide +kernel
theorem dX5_sung_155 : decode cX5_sung 155 = .ok (.iload 4, 2) := by decide +kernel
theorem dX5_sung_157 : decode cX5_sung 157 = .ok (.ifCond .ne 8, 3) := by decide +kernel
theorem dX5_sung_160 : decode cX5_sung 160 = .ok (.iload 7, 2) := by decide +kernel
theorem dX5_sung_162 : decode cX5_sung 162 = .ok (.goto 5, 3) := by decide +kernel
theorem dX5_sung_165 : decode cX5_sung 165 = .ok (.iload 8, 2) := by decide +kernel
theorem dX5_sung_167 : decode cX5_sung 167 = .ok (.ireturn, 1) := by decide +kernel
theorem dX5_verseOf_0 : decode cX5_verseOf 0 = .ok (.iconst 0, 1) := by decide +kernel
theorem dX5_verseOf_1 : decode cX5_verseOf 1 = .ok (.istore_n 2, 1) := by decide +kernel
theorem dX5_verseOf_2 : decode cX5_verseOf 2 = .ok (.iconst 0, 1) := by decide +kernel
theorem dX5_verseOf_3 : decode cX5_verseOf 3 = .ok (.istore_n 3, 1) := by decide +kernel
theorem dX5_verseOf_4 : decode cX5_verseOf 4 = .ok (.iconst 0, 1) := by decide +kernel
theorem dX5_verseOf_5 : decode cX5_verseOf 5 = .ok (.istore 4, 2) := by decide +kernel
theorem dX5_verseOf_7 : decode cX5_verseOf 7 = .ok (.iload 4, 2) := by decide +kernel
theorem dX5_verseOf_9 : decode cX5_verseOf 9 = .ok (.iconst 3, 1) := by decide +kernel
theorem dX5_verseOf_10 : decode cX5_verseOf 10 = .ok (.if_icmp .ge 40, 3) := by decide +kernel
theorem dX5_verseOf_13 : decode cX5_verseOf 13 = .ok (.aload_n 0, 1) := by decide +kernel
theorem dX5_verseOf_14 : decode cX5_verseOf 14 = .ok (.getfield 7, 3) := by decide +kernel
theorem dX5_verseOf_17 : decode cX5_verseOf 17 = .ok (.iconst 0, 1) := by decide +kernel
theorem dX5_verseOf_18 : decode cX5_verseOf 18 = .ok (.iload 4, 2) := by decide +kernel
theorem dX5_verseOf_20 : decode cX5_verseOf 20 = .ok (.iadd, 1) := by decide +kernel
theorem dX5_verseOf_21 : decode cX5_verseOf 21 = .ok (.iaload, 1) := by decide +kernel
theorem dX5_verseOf_22 : decode cX5_verseOf 22 = .ok (.ifCond .le 22, 3) := by decide +kernel
theorem dX5_verseOf_25 : decode cX5_verseOf 25 = .ok (.aload_n 0, 1) := by decide +kernel
theorem dX5_verseOf_26 : decode cX5_verseOf 26 = .ok (.iload 4, 2) := by decide +kernel
theorem dX5_verseOf_28 : decode cX5_verseOf 28 = .ok (.iload_n 1, 1) := by decide +kernel
theorem dX5_verseOf_29 : decode cX5_verseOf 29 = .ok (.iconst 0, 1) := by decide +kernel
theorem dX5_verseOf_30 : decode cX5_verseOf 30 = .ok (.invokevirtual 121, 3) := by decide +kernel
theorem dX5_verseOf_33 : decode cX5_verseOf 33 = .ok (.iload_n 2, 1) := by decide +kernel
theorem dX5_verseOf_34 : decode cX5_verseOf 34 = .ok (.aload_n 0, 1) := by decide +kernel
theorem dX5_verseOf_35 : decode cX5_verseOf 35 = .ok (.getfield 35, 3) := by decide +kernel
theorem dX5_verseOf_38 : decode cX5_verseOf 38 = .ok (.iconst 0, 1) := by decide +kernel
theorem dX5_verseOf_39 : decode cX5_verseOf 39 = .ok (.iaload, 1) := by decide +kernel
theorem dX5_verseOf_40 : decode cX5_verseOf 40 = .ok (.iadd, 1) := by decide +kernel
theorem dX5_verseOf_41 : decode cX5_verseOf 41 = .ok (.istore_n 2, 1) := by decide +kernel
theorem dX5_verseOf_42 : decode cX5_verseOf 42 = .ok (.iconst 1, 1) := by decide +kernel
theorem dX5_verseOf_43 : decode cX5_verseOf 43 = .ok (.istore_n 3, 1) := by decide +kernel
theorem dX5_verseOf_44 : decode cX5_verseOf 44 = .ok (.iinc 4 1, 3) := by decide +kernel
theorem dX5_verseOf_47 : decode cX5_verseOf 47 = .ok (.goto (-40), 3) := by decide +kernel
theorem dX5_verseOf_50 : decode cX5_verseOf 50 = .ok (.iload_n 3, 1) := by decide +kernel
theorem dX5_verseOf_51 : decode cX5_verseOf 51 = .ok (.ifCond .eq 19, 3) := by decide +kernel
theorem dX5_verseOf_54 : decode cX5_verseOf 54 = .ok (.aload_n 0, 1) := by decide +kernel
theorem dX5_verseOf_55 : decode cX5_verseOf 55 = .ok (.getfield 7, 3) := by decide +kernel
theorem dX5_verseOf_58 : decode cX5_verseOf 58 = .ok (.bipush 57, 2) := by decide +kernel
theorem dX5_verseOf_60 : decode cX5_verseOf 60 = .ok (.iload_n 1, 1) := by decide +kernel
theorem dX5_verseOf_61 : decode cX5_verseOf 61 = .ok (.iadd, 1) := by decide +kernel
theorem dX5_verseOf_62 : decode cX5_verseOf 62 = .ok (.iaload, 1) := by decide +kernel
theorem dX5_verseOf_63 : decode cX5_verseOf 63 = .ok (.ifCond .le 7, 3) := by decide +kernel
theorem dX5_verseOf_66 : decode cX5_verseOf 66 = .ok (.iload_n 2, 1) := by decide +kernel
theorem dX5_verseOf_67 : decode cX5_verseOf 67 = .ok (.goto 5, 3) := by decide +kernel
theorem dX5_verseOf_70 : decode cX5_verseOf 70 = .ok (.bipush (-6), 2) := by decide +kernel
theorem dX5_verseOf_72 : decode cX5_verseOf 72 = .ok (.ireturn, 1) := by decide +kernel
theorem dX5_verse_0 : decode cX5_verse 0 = .ok (.iload_n 1, 1) := by decide +kernel
theorem dX5_verse_1 : decode cX5_verse 1 = .ok (.invokestatic 72, 3) := by decide +kernel
theorem dX5_verse_4 : decode cX5_verse 4 = .ok (.ifCond .eq 11, 3) := by decide +kernel
theorem dX5_verse_7 : decode cX5_verse 7 = .ok (.aload_n 0, 1) := by decide +kernel
theorem dX5_verse_8 : decode cX5_verse 8 = .ok (.iload_n 1, 1) := by decide +kernel
theorem dX5_verse_9 : decode cX5_verse 9 = .ok (.invokevirtual 127, 3) := by decide +kernel
theorem dX5_verse_12 : decode cX5_verse 12 = .ok (.goto 4, 3) := by decide +kernel
theorem dX5_verse_15 : decode cX5_verse 15 = .ok (.iconst (-1), 1) := by decide +kernel
theorem dX5_verse_16 : decode cX5_verse 16 = .ok (.ireturn, 1) := by decide +kernel
theorem dX5_best_0 : decode cX5_best 0 = .ok (.iload_n 1, 1) := by decide +kernel
theorem dX5_best_1 : decode cX5_best 1 = .ok (.iconst 0, 1) := by decide +kernel
theorem dX5_best_2 : decode cX5_best 2 = .ok (.iconst 1, 1) := by decide +kernel
theorem dX5_best_3 : decode cX5_best 3 = .ok (.invokestatic 50, 3) := by decide +kernel
theorem dX5_best_6 : decode cX5_best 6 = .ok (.ifCond .ne 6, 3) := by decide +kernel
theorem dX5_best_9 : decode cX5_best 9 = .ok (.bipush (-2), 2) := by decide +kernel
theorem dX5_best_11 : decode cX5_best 11 = .ok (.ireturn, 1) := by decide +kernel
theorem dX5_best_12 : decode cX5_best 12 = .ok (.bipush (-6), 2) := by decide +kernel
theorem dX5_best_14 : decode cX5_best 14 = .ok (.istore_n 2, 1) := by decide +kernel
theorem dX5_best_15 : decode cX5_best 15 = .ok (.bipush (-6), 2) := by decide +kernel
theorem dX5_best_17 : decode cX5_best 17 = .ok (.istore_n 3, 1) := by decide +kernel
theorem dX5_best_18 : decode cX5_best 18 = .ok (.iconst 0, 1) := by decide +kernel
theorem dX5_best_19 : decode cX5_best 19 = .ok (.istore 4, 2) := by decide +kernel
theorem dX5_best_21 : decode cX5_best 21 = .ok (.iload 4, 2) := by decide +kernel
theorem dX5_best_23 : decode cX5_best 23 = .ok (.iconst 4, 1) := by decide +kernel
theorem dX5_best_24 : decode cX5_best 24 = .ok (.if_icmp .ge 38, 3) := by decide +kernel
theorem dX5_best_27 : decode cX5_best 27 = .ok (.aload_n 0, 1) := by decide +kernel
theorem dX5_best_28 : decode cX5_best 28 = .ok (.iload 4, 2) := by decide +kernel
theorem dX5_best_30 : decode cX5_best 30 = .ok (.invokevirtual 127, 3) := by decide +kernel
theorem dX5_best_33 : decode cX5_best 33 = .ok (.istore 5, 2) := by decide +kernel
theorem dX5_best_35 : decode cX5_best 35 = .ok (.iload 5, 2) := by decide +kernel
theorem dX5_best_37 : decode cX5_best 37 = .ok (.ifCond .lt 19, 3) := by decide +kernel
theorem dX5_best_40 : decode cX5_best 40 = .ok (.iload_n 2, 1) := by decide +kernel
theorem dX5_best_41 : decode cX5_best 41 = .ok (.ifCond .lt 9, 3) := by decide +kernel
theorem dX5_best_44 : decode cX5_best 44 = .ok (.iload 5, 2) := by decide +kernel
theorem dX5_best_46 : decode cX5_best 46 = .ok (.iload_n 3, 1) := by decide +kernel
theorem dX5_best_47 : decode cX5_best 47 = .ok (.if_icmp .ge 9, 3) := by decide +kernel
theorem dX5_best_50 : decode cX5_best 50 = .ok (.iload 4, 2) := by decide +kernel
theorem dX5_best_52 : decode cX5_best 52 = .ok (.istore_n 2, 1) := by decide +kernel
theorem dX5_best_53 : decode cX5_best 53 = .ok (.iload 5, 2) := by decide +kernel
theorem dX5_best_55 : decode cX5_best 55 = .ok (.istore_n 3, 1) := by decide +kernel
theorem dX5_best_56 : decode cX5_best 56 = .ok (.iinc 4 1, 3) := by decide +kernel
theorem dX5_best_59 : decode cX5_best 59 = .ok (.goto (-38), 3) := by decide +kernel
theorem dX5_best_62 : decode cX5_best 62 = .ok (.iload_n 1, 1) := by decide +kernel
theorem dX5_best_63 : decode cX5_best 63 = .ok (.ifCond .ne 7, 3) := by decide +kernel
theorem dX5_best_66 : decode cX5_best 66 = .ok (.iload_n 2, 1) := by decide +kernel
theorem dX5_best_67 : decode cX5_best 67 = .ok (.goto 4, 3) := by decide +kernel
theorem dX5_best_70 : decode cX5_best 70 = .ok (.iload_n 3, 1) := by decide +kernel
theorem dX5_best_71 : decode cX5_best 71 = .ok (.ireturn, 1) := by decide +kernel
theorem dX5_turned_0 : decode cX5_turned 0 = .ok (.iload_n 1, 1) := by decide +kernel
theorem dX5_turned_1 : decode cX5_turned 1 = .ok (.invokestatic 68, 3) := by decide +kernel
theorem dX5_turned_4 : decode cX5_turned 4 = .ok (.ifCond .eq 10, 3) := by decide +kernel
theorem dX5_turned_7 : decode cX5_turned 7 = .ok (.iload_n 2, 1) := by decide +kernel
theorem dX5_turned_8 : decode cX5_turned 8 = .ok (.invokestatic 72, 3) := by decide +kernel
theorem dX5_turned_11 : decode cX5_turned 11 = .ok (.ifCond .ne 5, 3) := by decide +kernel
theorem dX5_turned_14 : decode cX5_turned 14 = .ok (.iconst (-1), 1) := by decide +kernel
theorem dX5_turned_15 : decode cX5_turned 15 = .ok (.ireturn, 1) := by decide +kernel
theorem dX5_turned_16 : decode cX5_turned 16 = .ok (.iload_n 3, 1) := by decide +kernel
theorem dX5_turned_17 : decode cX5_turned 17 = .ok (.iconst 0, 1) := by decide +kernel
theorem dX5_turned_18 : decode cX5_turned 18 = .ok (.iconst 1, 1) := by decide +kernel
theorem dX5_turned_19 : decode cX5_turned 19 = .ok (.invokestatic 50, 3) := by decide +kernel
theorem dX5_turned_22 : decode cX5_turned 22 = .ok (.ifCond .ne 6, 3) := by decide +kernel
theorem dX5_turned_25 : decode cX5_turned 25 = .ok (.bipush (-2), 2) := by decide +kernel
theorem dX5_turned_27 : decode cX5_turned 27 = .ok (.ireturn, 1) := by decide +kernel
theorem dX5_turned_28 : decode cX5_turned 28 = .ok (.bipush (-6), 2) := by decide +kernel
theorem dX5_turned_30 : decode cX5_turned 30 = .ok (.istore 4, 2) := by decide +kernel
theorem dX5_turned_32 : decode cX5_turned 32 = .ok (.bipush (-6), 2) := by decide +kernel
theorem dX5_turned_34 : decode cX5_turned 34 = .ok (.istore 5, 2) := by decide +kernel
theorem dX5_turned_36 : decode cX5_turned 36 = .ok (.iconst 0, 1) := by decide +kernel
theorem dX5_turned_37 : decode cX5_turned 37 = .ok (.istore 6, 2) := by decide +kernel
theorem dX5_turned_39 : decode cX5_turned 39 = .ok (.iload 6, 2) := by decide +kernel
theorem dX5_turned_41 : decode cX5_turned 41 = .ok (.aload_n 0, 1) := by decide +kernel
theorem dX5_turned_42 : decode cX5_turned 42 = .ok (.getfield 7, 3) := by decide +kernel
theorem dX5_turned_45 : decode cX5_turned 45 = .ok (.bipush 57, 2) := by decide +kernel
theorem dX5_turned_47 : decode cX5_turned 47 = .ok (.iload_n 2, 1) := by decide +kernel
theorem dX5_turned_48 : decode cX5_turned 48 = .ok (.iadd, 1) := by decide +kernel
theorem dX5_turned_49 : decode cX5_turned 49 = .ok (.iaload, 1) := by decide +kernel
theorem dX5_turned_50 : decode cX5_turned 50 = .ok (.if_icmp .ge 54, 3) := by decide +kernel
theorem dX5_turned_53 : decode cX5_turned 53 = .ok (.aload_n 0, 1) := by decide +kernel
theorem dX5_turned_54 : decode cX5_turned 54 = .ok (.iload_n 1, 1) := by decide +kernel
theorem dX5_turned_55 : decode cX5_turned 55 = .ok (.iload_n 2, 1) := by decide +kernel
theorem dX5_turned_56 : decode cX5_turned 56 = .ok (.iload 6, 2) := by decide +kernel
theorem dX5_turned_58 : decode cX5_turned 58 = .ok (.invokevirtual 121, 3) := by decide +kernel
theorem dX5_turned_61 : decode cX5_turned 61 = .ok (.aload_n 0, 1) := by decide +kernel
theorem dX5_turned_62 : decode cX5_turned 62 = .ok (.getfield 41, 3) := by decide +kernel
theorem dX5_turned_65 : decode cX5_turned 65 = .ok (.iconst 0, 1) := by decide +kernel
theorem dX5_turned_66 : decode cX5_turned 66 = .ok (.iaload, 1) := by decide +kernel
theorem dX5_turned_67 : decode cX5_turned 67 = .ok (.ifCond .le 31, 3) := by decide +kernel
theorem dX5_turned_70 : decode cX5_turned 70 = .ok (.iload 4, 2) := by decide +kernel
theorem dX5_turned_72 : decode cX5_turned 72 = .ok (.ifCond .lt 14, 3) := by decide +kernel
theorem dX5_turned_75 : decode cX5_turned 75 = .ok (.aload_n 0, 1) := by decide +kernel
theorem dX5_turned_76 : decode cX5_turned 76 = .ok (.getfield 35, 3) := by decide +kernel
theorem dX5_turned_79 : decode cX5_turned 79 = .ok (.iconst 0, 1) := by decide +kernel
theorem dX5_turned_80 : decode cX5_turned 80 = .ok (.iaload, 1) := by decide +kernel
theorem dX5_turned_81 : decode cX5_turned 81 = .ok (.iload 5, 2) := by decide +kernel
theorem dX5_turned_83 : decode cX5_turned 83 = .ok (.if_icmp .ge 15, 3) := by decide +kernel
theorem dX5_turned_86 : decode cX5_turned 86 = .ok (.iload 6, 2) := by decide +kernel
theorem dX5_turned_88 : decode cX5_turned 88 = .ok (.istore 4, 2) := by decide +kernel
theorem dX5_turned_90 : decode cX5_turned 90 = .ok (.aload_n 0, 1) := by decide +kernel
theorem dX5_turned_91 : decode cX5_turned 91 = .ok (.getfield 35, 3) := by decide +kernel
theorem dX5_turned_94 : decode cX5_turned 94 = .ok (.iconst 0, 1) := by decide +kernel
theorem dX5_turned_95 : decode cX5_turned 95 = .ok (.iaload, 1) := by decide +kernel
theorem dX5_turned_96 : decode cX5_turned 96 = .ok (.istore 5, 2) := by decide +kernel
theorem dX5_turned_98 : decode cX5_turned 98 = .ok (.iinc 6 1, 3) := by decide +kernel
theorem dX5_turned_101 : decode cX5_turned 101 = .ok (.goto (-62), 3) := by decide +kernel
theorem dX5_turned_104 : decode cX5_turned 104 = .ok (.iload_n 3, 1) := by decide +kernel
theorem dX5_turned_105 : decode cX5_turned 105 = .ok (.ifCond .ne 8, 3) := by decide +kernel
theorem dX5_turned_108 : decode cX5_turned 108 = .ok (.iload 4, 2) := by decide +kernel
theorem dX5_turned_110 : decode cX5_turned 110 = .ok (.goto 5, 3) := by decide +kernel
theorem dX5_turned_113 : decode cX5_turned 113 = .ok (.iload 5, 2) := by decide +kernel
theorem dX5_turned_115 : decode cX5_turned 115 = .ok (.ireturn, 1) := by decide +kernel
theorem dX5_anew_0 : decode cX5_anew 0 = .ok (.iload_n 1, 1) := by decide +kernel
theorem dX5_anew_1 : decode cX5_anew 1 = .ok (.invokestatic 68, 3) := by decide +kernel
theorem dX5_anew_4 : decode cX5_anew 4 = .ok (.ifCond .eq 10, 3) := by decide +kernel
theorem dX5_anew_7 : decode cX5_anew 7 = .ok (.iload_n 2, 1) := by decide +kernel
theorem dX5_anew_8 : decode cX5_anew 8 = .ok (.invokestatic 72, 3) := by decide +kernel
theorem dX5_anew_11 : decode cX5_anew 11 = .ok (.ifCond .ne 5, 3) := by decide +kernel
theorem dX5_anew_14 : decode cX5_anew 14 = .ok (.iconst (-1), 1) := by decide +kernel
theorem dX5_anew_15 : decode cX5_anew 15 = .ok (.ireturn, 1) := by decide +kernel
theorem dX5_anew_16 : decode cX5_anew 16 = .ok (.iload_n 3, 1) := by decide +kernel
theorem dX5_anew_17 : decode cX5_anew 17 = .ok (.iconst 0, 1) := by decide +kernel
theorem dX5_anew_18 : decode cX5_anew 18 = .ok (.iconst 2, 1) := by decide +kernel
theorem dX5_anew_19 : decode cX5_anew 19 = .ok (.invokestatic 50, 3) := by decide +kernel
theorem dX5_anew_22 : decode cX5_anew 22 = .ok (.ifCond .ne 6, 3) := by decide +kernel
theorem dX5_anew_25 : decode cX5_anew 25 = .ok (.bipush (-2), 2) := by decide +kernel
theorem dX5_anew_27 : decode cX5_anew 27 = .ok (.ireturn, 1) := by decide +kernel
theorem dX5_anew_28 : decode cX5_anew 28 = .ok (.aload_n 0, 1) := by decide +kernel
theorem dX5_anew_29 : decode cX5_anew 29 = .ok (.iload_n 1, 1) := by decide +kernel
theorem dX5_anew_30 : decode cX5_anew 30 = .ok (.iload_n 2, 1) := by decide +kernel
theorem dX5_anew_31 : decode cX5_anew 31 = .ok (.iconst 0, 1) := by decide +kernel
theorem dX5_anew_32 : decode cX5_anew 32 = .ok (.invokevirtual 121, 3) := by decide +kernel
theorem dX5_anew_35 : decode cX5_anew 35 = .ok (.aload_n 0, 1) := by decide +kernel
theorem dX5_anew_36 : decode cX5_anew 36 = .ok (.getfield 41, 3) := by decide +kernel
theorem dX5_anew_39 : decode cX5_anew 39 = .ok (.iconst 0, 1) := by decide +kernel
theorem dX5_anew_40 : decode cX5_anew 40 = .ok (.iaload, 1) := by decide +kernel
theorem dX5_anew_41 : decode cX5_anew 41 = .ok (.ifCond .ne 6, 3) := by decide +kernel
theorem dX5_anew_44 : decode cX5_anew 44 = .ok (.bipush (-6), 2) := by decide +kernel
theorem dX5_anew_46 : decode cX5_anew 46 = .ok (.ireturn, 1) := by decide +kernel
theorem dX5_anew_47 : decode cX5_anew 47 = .ok (.aload_n 0, 1) := by decide +kernel
theorem dX5_anew_48 : decode cX5_anew 48 = .ok (.getfield 35, 3) := by decide +kernel
theorem dX5_anew_51 : decode cX5_anew 51 = .ok (.iconst 0, 1) := by decide +kernel
theorem dX5_anew_52 : decode cX5_anew 52 = .ok (.iaload, 1) := by decide +kernel
theorem dX5_anew_53 : decode cX5_anew 53 = .ok (.istore 4, 2) := by decide +kernel
theorem dX5_anew_55 : decode cX5_anew 55 = .ok (.bipush (-6), 2) := by decide +kernel
theorem dX5_anew_57 : decode cX5_anew 57 = .ok (.istore 5, 2) := by decide +kernel
theorem dX5_anew_59 : decode cX5_anew 59 = .ok (.bipush (-6), 2) := by decide +kernel
theorem dX5_anew_61 : decode cX5_anew 61 = .ok (.istore 6, 2) := by decide +kernel
theorem dX5_anew_63 : decode cX5_anew 63 = .ok (.iconst 0, 1) := by decide +kernel
theorem dX5_anew_64 : decode cX5_anew 64 = .ok (.istore 7, 2) := by decide +kernel
theorem dX5_anew_66 : decode cX5_anew 66 = .ok (.iload 7, 2) := by decide +kernel
theorem dX5_anew_68 : decode cX5_anew 68 = .ok (.aload_n 0, 1) := by decide +kernel
theorem dX5_anew_69 : decode cX5_anew 69 = .ok (.getfield 75, 3) := by decide +kernel
theorem dX5_anew_72 : decode cX5_anew 72 = .ok (.if_icmp .ge 82, 3) := by decide +kernel
theorem dX5_anew_75 : decode cX5_anew 75 = .ok (.aload_n 0, 1) := by decide +kernel
theorem dX5_anew_76 : decode cX5_anew 76 = .ok (.getfield 23, 3) := by decide +kernel
theorem dX5_anew_79 : decode cX5_anew 79 = .ok (.iload 7, 2) := by decide +kernel
theorem dX5_anew_81 : decode cX5_anew 81 = .ok (.iaload, 1) := by decide +kernel
theorem dX5_anew_82 : decode cX5_anew 82 = .ok (.istore 8, 2) := by decide +kernel
theorem dX5_anew_84 : decode cX5_anew 84 = .ok (.iconst 0, 1) := by decide +kernel
theorem dX5_anew_85 : decode cX5_anew 85 = .ok (.istore 9, 2) := by decide +kernel
theorem dX5_anew_87 : decode cX5_anew 87 = .ok (.iload 9, 2) := by decide +kernel
theorem dX5_anew_89 : decode cX5_anew 89 = .ok (.iconst 3, 1) := by decide +kernel
theorem dX5_anew_90 : decode cX5_anew 90 = .ok (.if_icmp .ge 49, 3) := by decide +kernel
theorem dX5_anew_93 : decode cX5_anew 93 = .ok (.aload_n 0, 1) := by decide +kernel
theorem dX5_anew_94 : decode cX5_anew 94 = .ok (.getfield 23, 3) := by decide +kernel
theorem dX5_anew_97 : decode cX5_anew 97 = .ok (.iload 7, 2) := by decide +kernel
theorem dX5_anew_99 : decode cX5_anew 99 = .ok (.iload 9, 2) := by decide +kernel
theorem dX5_anew_101 : decode cX5_anew 101 = .ok (.iastore, 1) := by decide +kernel
theorem dX5_anew_102 : decode cX5_anew 102 = .ok (.aload_n 0, 1) := by decide +kernel
theorem dX5_anew_103 : decode cX5_anew 103 = .ok (.invokevirtual 109, 3) := by decide +kernel
theorem dX5_anew_106 : decode cX5_anew 106 = .ok (.aload_n 0, 1) := by decide +kernel
theorem dX5_anew_107 : decode cX5_anew 107 = .ok (.getfield 35, 3) := by decide +kernel
theorem dX5_anew_110 : decode cX5_anew 110 = .ok (.iconst 0, 1) := by decide +kernel
theorem dX5_anew_111 : decode cX5_anew 111 = .ok (.iaload, 1) := by decide +kernel
theorem dX5_anew_112 : decode cX5_anew 112 = .ok (.iload 4, 2) := by decide +kernel
theorem dX5_anew_114 : decode cX5_anew 114 = .ok (.if_icmp .ge 19, 3) := by decide +kernel
theorem dX5_anew_117 : decode cX5_anew 117 = .ok (.aload_n 0, 1) := by decide +kernel
theorem dX5_anew_118 : decode cX5_anew 118 = .ok (.getfield 35, 3) := by decide +kernel
theorem dX5_anew_121 : decode cX5_anew 121 = .ok (.iconst 0, 1) := by decide +kernel
theorem dX5_anew_122 : decode cX5_anew 122 = .ok (.iaload, 1) := by decide +kernel
theorem dX5_anew_123 : decode cX5_anew 123 = .ok (.istore 4, 2) := by decide +kernel
theorem dX5_anew_125 : decode cX5_anew 125 = .ok (.iload 7, 2) := by decide +kernel
theorem dX5_anew_127 : decode cX5_anew 127 = .ok (.istore 5, 2) := by decide +kernel
theorem dX5_anew_129 : decode cX5_anew 129 = .ok (.iload 9, 2) := by decide +kernel
theorem dX5_anew_131 : decode cX5_anew 131 = .ok (.istore 6, 2) := by decide +kernel
theorem dX5_anew_133 : decode cX5_anew 133 = .ok (.iinc 9 1, 3) := by decide +kernel
theorem dX5_anew_136 : decode cX5_anew 136 = .ok (.goto (-49), 3) := by decide +kernel
theorem dX5_anew_139 : decode cX5_anew 139 = .ok (.aload_n 0, 1) := by decide +kernel
theorem dX5_anew_140 : decode cX5_anew 140 = .ok (.getfield 23, 3) := by decide +kernel
theorem dX5_anew_143 : decode cX5_anew 143 = .ok (.iload 7, 2) := by decide +kernel
theorem dX5_anew_145 : decode cX5_anew 145 = .ok (.iload 8, 2) := by decide +kernel
theorem dX5_anew_147 : decode cX5_anew 147 = .ok (.iastore, 1) := by decide +kernel
theorem dX5_anew_148 : decode cX5_anew 148 = .ok (.iinc 7 1, 3) := by decide +kernel
theorem dX5_anew_151 : decode cX5_anew 151 = .ok (.goto (-85), 3) := by decide +kernel
theorem dX5_anew_154 : decode cX5_anew 154 = .ok (.iload 5, 2) := by decide +kernel
theorem dX5_anew_156 : decode cX5_anew 156 = .ok (.ifCond .lt 7, 3) := by decide +kernel
theorem dX5_anew_159 : decode cX5_anew 159 = .ok (.iload_n 3, 1) := by decide +kernel
theorem dX5_anew_160 : decode cX5_anew 160 = .ok (.ifCond .ne 8, 3) := by decide +kernel
theorem dX5_anew_163 : decode cX5_anew 163 = .ok (.iload 5, 2) := by decide +kernel
theorem dX5_anew_165 : decode cX5_anew 165 = .ok (.goto 15, 3) := by decide +kernel
theorem dX5_anew_168 : decode cX5_anew 168 = .ok (.iload_n 3, 1) := by decide +kernel
theorem dX5_anew_169 : decode cX5_anew 169 = .ok (.iconst 1, 1) := by decide +kernel
theorem dX5_anew_170 : decode cX5_anew 170 = .ok (.if_icmp .ne 8, 3) := by decide +kernel
theorem dX5_anew_173 : decode cX5_anew 173 = .ok (.iload 6, 2) := by decide +kernel
theorem dX5_anew_175 : decode cX5_anew 175 = .ok (.goto 5, 3) := by decide +kernel
theorem dX5_anew_178 : decode cX5_anew 178 = .ok (.iload 4, 2) := by decide +kernel
theorem dX5_anew_180 : decode cX5_anew 180 = .ok (.ireturn, 1) := by decide +kernel
theorem dX5_image_0 : decode cX5_image 0 = .ok (.iload_n 1, 1) := by decide +kernel
theorem dX5_image_1 : decode cX5_image 1 = .ok (.iconst 0, 1) := by decide +kernel
theorem dX5_image_2 : decode cX5_image 2 = .ok (.iconst 1, 1) := by decide +kernel
theorem dX5_image_3 : decode cX5_image 3 = .ok (.invokestatic 50, 3) := by decide +kernel
theorem dX5_image_6 : decode cX5_image 6 = .ok (.ifCond .ne 6, 3) := by decide +kernel
theorem dX5_image_9 : decode cX5_image 9 = .ok (.bipush (-2), 2) := by decide +kernel
theorem dX5_image_11 : decode cX5_image 11 = .ok (.ireturn, 1) := by decide +kernel
theorem dX5_image_12 : decode cX5_image 12 = .ok (.iconst 0, 1) := by decide +kernel
theorem dX5_image_13 : decode cX5_image 13 = .ok (.istore_n 2, 1) := by decide +kernel
theorem dX5_image_14 : decode cX5_image 14 = .ok (.iload_n 2, 1) := by decide +kernel
theorem dX5_image_15 : decode cX5_image 15 = .ok (.sipush 153, 3) := by decide +kernel
theorem dX5_image_18 : decode cX5_image 18 = .ok (.if_icmp .ge 27, 3) := by decide +kernel
theorem dX5_image_21 : decode cX5_image 21 = .ok (.aload_n 0, 1) := by decide +kernel
theorem dX5_image_22 : decode cX5_image 22 = .ok (.getfield 13, 3) := by decide +kernel
theorem dX5_image_25 : decode cX5_image 25 = .ok (.sipush 153, 3) := by decide +kernel
theorem dX5_image_28 : decode cX5_image 28 = .ok (.iload_n 1, 1) := by decide +kernel
theorem dX5_image_29 : decode cX5_image 29 = .ok (.imul, 1) := by decide +kernel
theorem dX5_image_30 : decode cX5_image 30 = .ok (.iload_n 2, 1) := by decide +kernel
theorem dX5_image_31 : decode cX5_image 31 = .ok (.iadd, 1) := by decide +kernel
theorem dX5_image_32 : decode cX5_image 32 = .ok (.aload_n 0, 1) := by decide +kernel
theorem dX5_image_33 : decode cX5_image 33 = .ok (.getfield 7, 3) := by decide +kernel
theorem dX5_image_36 : decode cX5_image 36 = .ok (.iload_n 2, 1) := by decide +kernel
theorem dX5_image_37 : decode cX5_image 37 = .ok (.iaload, 1) := by decide +kernel
theorem dX5_image_38 : decode cX5_image 38 = .ok (.iastore, 1) := by decide +kernel
theorem dX5_image_39 : decode cX5_image 39 = .ok (.iinc 2 1, 3) := by decide +kernel
theorem dX5_image_42 : decode cX5_image 42 = .ok (.goto (-28), 3) := by decide +kernel
theorem dX5_image_45 : decode cX5_image 45 = .ok (.aload_n 0, 1) := by decide +kernel
theorem dX5_image_46 : decode cX5_image 46 = .ok (.getfield 16, 3) := by decide +kernel
theorem dX5_image_49 : decode cX5_image 49 = .ok (.iload_n 1, 1) := by decide +kernel
theorem dX5_image_50 : decode cX5_image 50 = .ok (.iconst 1, 1) := by decide +kernel
theorem dX5_image_51 : decode cX5_image 51 = .ok (.bastore, 1) := by decide +kernel
theorem dX5_image_52 : decode cX5_image 52 = .ok (.iconst 1, 1) := by decide +kernel
theorem dX5_image_53 : decode cX5_image 53 = .ok (.ireturn, 1) := by decide +kernel
theorem dX5_restore_0 : decode cX5_restore 0 = .ok (.iload_n 1, 1) := by decide +kernel
theorem dX5_restore_1 : decode cX5_restore 1 = .ok (.iconst 0, 1) := by decide +kernel
theorem dX5_restore_2 : decode cX5_restore 2 = .ok (.iconst 1, 1) := by decide +kernel
theorem dX5_restore_3 : decode cX5_restore 3 = .ok (.invokestatic 50, 3) := by decide +kernel
theorem dX5_restore_6 : decode cX5_restore 6 = .ok (.ifCond .ne 6, 3) := by decide +kernel
theorem dX5_restore_9 : decode cX5_restore 9 = .ok (.bipush (-2), 2) := by decide +kernel
theorem dX5_restore_11 : decode cX5_restore 11 = .ok (.ireturn, 1) := by decide +kernel
theorem dX5_restore_12 : decode cX5_restore 12 = .ok (.aload_n 0, 1) := by decide +kernel
theorem dX5_restore_13 : decode cX5_restore 13 = .ok (.getfield 16, 3) := by decide +kernel
theorem dX5_restore_16 : decode cX5_restore 16 = .ok (.iload_n 1, 1) := by decide +kernel
theorem dX5_restore_17 : decode cX5_restore 17 = .ok (.baload, 1) := by decide +kernel
theorem dX5_restore_18 : decode cX5_restore 18 = .ok (.ifCond .ne 6, 3) := by decide +kernel
theorem dX5_restore_21 : decode cX5_restore 21 = .ok (.bipush (-3), 2) := by decide +kernel
theorem dX5_restore_23 : decode cX5_restore 23 = .ok (.ireturn, 1) := by decide +kernel
theorem dX5_restore_24 : decode cX5_restore 24 = .ok (.iconst 0, 1) := by decide +kernel
theorem dX5_restore_25 : decode cX5_restore 25 = .ok (.istore_n 2, 1) := by decide +kernel
theorem dX5_restore_26 : decode cX5_restore 26 = .ok (.iload_n 2, 1) := by decide +kernel
theorem dX5_restore_27 : decode cX5_restore 27 = .ok (.sipush 153, 3) := by decide +kernel
theorem dX5_restore_30 : decode cX5_restore 30 = .ok (.if_icmp .ge 27, 3) := by decide +kernel
theorem dX5_restore_33 : decode cX5_restore 33 = .ok (.aload_n 0, 1) := by decide +kernel
theorem dX5_restore_34 : decode cX5_restore 34 = .ok (.getfield 7, 3) := by decide +kernel
theorem dX5_restore_37 : decode cX5_restore 37 = .ok (.iload_n 2, 1) := by decide +kernel
theorem dX5_restore_38 : decode cX5_restore 38 = .ok (.aload_n 0, 1) := by decide +kernel
theorem dX5_restore_39 : decode cX5_restore 39 = .ok (.getfield 13, 3) := by decide +kernel
theorem dX5_restore_42 : decode cX5_restore 42 = .ok (.sipush 153, 3) := by decide +kernel
theorem dX5_restore_45 : decode cX5_restore 45 = .ok (.iload_n 1, 1) := by decide +kernel
theorem dX5_restore_46 : decode cX5_restore 46 = .ok (.imul, 1) := by decide +kernel
theorem dX5_restore_47 : decode cX5_restore 47 = .ok (.iload_n 2, 1) := by decide +kernel
theorem dX5_restore_48 : decode cX5_restore 48 = .ok (.iadd, 1) := by decide +kernel
theorem dX5_restore_49 : decode cX5_restore 49 = .ok (.iaload, 1) := by decide +kernel
theorem dX5_restore_50 : decode cX5_restore 50 = .ok (.iastore, 1) := by decide +kernel
theorem dX5_restore_51 : decode cX5_restore 51 = .ok (.iinc 2 1, 3) := by decide +kernel
theorem dX5_restore_54 : decode cX5_restore 54 = .ok (.goto (-28), 3) := by decide +kernel
theorem dX5_restore_57 : decode cX5_restore 57 = .ok (.iconst 1, 1) := by decide +kernel
theorem dX5_restore_58 : decode cX5_restore 58 = .ok (.ireturn, 1) := by decide +kernel
theorem dX5_sumOf_0 : decode cX5_sumOf 0 = .ok (.iconst 0, 1) := by decide +kernel
theorem dX5_sumOf_1 : decode cX5_sumOf 1 = .ok (.istore_n 3, 1) := by decide +kernel
theorem dX5_sumOf_2 : decode cX5_sumOf 2 = .ok (.iconst 0, 1) := by decide +kernel
theorem dX5_sumOf_3 : decode cX5_sumOf 3 = .ok (.istore 4, 2) := by decide +kernel
theorem dX5_sumOf_5 : decode cX5_sumOf 5 = .ok (.iload 4, 2) := by decide +kernel
theorem dX5_sumOf_7 : decode cX5_sumOf 7 = .ok (.iload_n 2, 1) := by decide +kernel
theorem dX5_sumOf_8 : decode cX5_sumOf 8 = .ok (.if_icmp .ge 21, 3) := by decide +kernel
theorem dX5_sumOf_11 : decode cX5_sumOf 11 = .ok (.iload_n 3, 1) := by decide +kernel
theorem dX5_sumOf_12 : decode cX5_sumOf 12 = .ok (.aload_n 0, 1) := by decide +kernel
theorem dX5_sumOf_13 : decode cX5_sumOf 13 = .ok (.getfield 7, 3) := by decide +kernel
theorem dX5_sumOf_16 : decode cX5_sumOf 16 = .ok (.iload_n 1, 1) := by decide +kernel
theorem dX5_sumOf_17 : decode cX5_sumOf 17 = .ok (.iload 4, 2) := by decide +kernel
theorem dX5_sumOf_19 : decode cX5_sumOf 19 = .ok (.iadd, 1) := by decide +kernel
theorem dX5_sumOf_20 : decode cX5_sumOf 20 = .ok (.iaload, 1) := by decide +kernel
theorem dX5_sumOf_21 : decode cX5_sumOf 21 = .ok (.iadd, 1) := by decide +kernel
theorem dX5_sumOf_22 : decode cX5_sumOf 22 = .ok (.istore_n 3, 1) := by decide +kernel
theorem dX5_sumOf_23 : decode cX5_sumOf 23 = .ok (.iinc 4 1, 3) := by decide +kernel
theorem dX5_sumOf_26 : decode cX5_sumOf 26 = .ok (.goto (-21), 3) := by decide +kernel
theorem dX5_sumOf_29 : decode cX5_sumOf 29 = .ok (.iload_n 3, 1) := by decide +kernel
theorem dX5_sumOf_30 : decode cX5_sumOf 30 = .ok (.ireturn, 1) := by decide +kernel
theorem dX5_lengths_0 : decode cX5_lengths 0 = .ok (.iconst 0, 1) := by decide +kernel
theorem dX5_lengths_1 : decode cX5_lengths 1 = .ok (.istore_n 1, 1) := by decide +kernel
theorem dX5_lengths_2 : decode cX5_lengths 2 = .ok (.iconst 0, 1) := by decide +kernel
theorem dX5_lengths_3 : decode cX5_lengths 3 = .ok (.istore_n 2, 1) := by decide +kernel
theorem dX5_lengths_4 : decode cX5_lengths 4 = .ok (.iload_n 2, 1) := by decide +kernel
theorem dX5_lengths_5 : decode cX5_lengths 5 = .ok (.iconst 4, 1) := by decide +kernel
theorem dX5_lengths_6 : decode cX5_lengths 6 = .ok (.if_icmp .ge 32, 3) := by decide +kernel
theorem dX5_lengths_9 : decode cX5_lengths 9 = .ok (.iload_n 1, 1) := by decide +kernel
theorem dX5_lengths_10 : decode cX5_lengths 10 = .ok (.aload_n 0, 1) := by decide +kernel
theorem dX5_lengths_11 : decode cX5_lengths 11 = .ok (.bipush 105, 2) := by decide +kernel
theorem dX5_lengths_13 : decode cX5_lengths 13 = .ok (.bipush 11, 2) := by decide +kernel
theorem dX5_lengths_15 : decode cX5_lengths 15 = .ok (.iload_n 2, 1) := by decide +kernel
theorem dX5_lengths_16 : decode cX5_lengths 16 = .ok (.imul, 1) := by decide +kernel
theorem dX5_lengths_17 : decode cX5_lengths 17 = .ok (.iadd, 1) := by decide +kernel
theorem dX5_lengths_18 : decode cX5_lengths 18 = .ok (.aload_n 0, 1) := by decide +kernel
theorem dX5_lengths_19 : decode cX5_lengths 19 = .ok (.getfield 7, 3) := by decide +kernel
theorem dX5_lengths_22 : decode cX5_lengths 22 = .ok (.bipush 57, 2) := by decide +kernel
theorem dX5_lengths_24 : decode cX5_lengths 24 = .ok (.iload_n 2, 1) := by decide +kernel
theorem dX5_lengths_25 : decode cX5_lengths 25 = .ok (.iadd, 1) := by decide +kernel
theorem dX5_lengths_26 : decode cX5_lengths 26 = .ok (.iaload, 1) := by decide +kernel
theorem dX5_lengths_27 : decode cX5_lengths 27 = .ok (.invokevirtual 130, 3) := by decide +kernel
theorem dX5_lengths_30 : decode cX5_lengths 30 = .ok (.iadd, 1) := by decide +kernel
theorem dX5_lengths_31 : decode cX5_lengths 31 = .ok (.istore_n 1, 1) := by decide +kernel
theorem dX5_lengths_32 : decode cX5_lengths 32 = .ok (.iinc 2 1, 3) := by decide +kernel
theorem dX5_lengths_35 : decode cX5_lengths 35 = .ok (.goto (-31), 3) := by decide +kernel
theorem dX5_lengths_38 : decode cX5_lengths 38 = .ok (.iload_n 1, 1) := by decide +kernel
theorem dX5_lengths_39 : decode cX5_lengths 39 = .ok (.ireturn, 1) := by decide +kernel
theorem dX5_count_0 : decode cX5_count 0 = .ok (.iload_n 1, 1) := by decide +kernel
theorem dX5_count_1 : decode cX5_count 1 = .ok (.bipush 10, 2) := by decide +kernel
theorem dX5_count_3 : decode cX5_count 3 = .ok (.bipush 13, 2) := by decide +kernel
theorem dX5_count_5 : decode cX5_count 5 = .ok (.invokestatic 50, 3) := by decide +kernel
theorem dX5_count_8 : decode cX5_count 8 = .ok (.ifCond .eq 17, 3) := by decide +kernel
theorem dX5_count_11 : decode cX5_count 11 = .ok (.aload_n 0, 1) := by decide +kernel
theorem dX5_count_12 : decode cX5_count 12 = .ok (.getfield 7, 3) := by decide +kernel
theorem dX5_count_15 : decode cX5_count 15 = .ok (.sipush 149, 3) := by decide +kernel
theorem dX5_count_18 : decode cX5_count 18 = .ok (.iload_n 1, 1) := by decide +kernel
theorem dX5_count_19 : decode cX5_count 19 = .ok (.iadd, 1) := by decide +kernel
theorem dX5_count_20 : decode cX5_count 20 = .ok (.bipush 10, 2) := by decide +kernel
theorem dX5_count_22 : decode cX5_count 22 = .ok (.isub, 1) := by decide +kernel
theorem dX5_count_23 : decode cX5_count 23 = .ok (.iaload, 1) := by decide +kernel
theorem dX5_count_24 : decode cX5_count 24 = .ok (.ireturn, 1) := by decide +kernel
theorem dX5_count_25 : decode cX5_count 25 = .ok (.iload_n 1, 1) := by decide +kernel
theorem dX5_count_26 : decode cX5_count 26 = .ok (.tableswitch 89 0 4 #[34, 41, 49, 54, 59], 34) := by decide +kernel
theorem dX5_count_60 : decode cX5_count 60 = .ok (.aload_n 0, 1) := by decide +kernel
theorem dX5_count_61 : decode cX5_count 61 = .ok (.iconst 0, 1) := by decide +kernel
theorem dX5_count_62 : decode cX5_count 62 = .ok (.iconst 3, 1) := by decide +kernel
theorem dX5_count_63 : decode cX5_count 63 = .ok (.invokevirtual 130, 3) := by decide +kernel
theorem dX5_count_66 : decode cX5_count 66 = .ok (.ireturn, 1) := by decide +kernel
theorem dX5_count_67 : decode cX5_count 67 = .ok (.aload_n 0, 1) := by decide +kernel
theorem dX5_count_68 : decode cX5_count 68 = .ok (.bipush 57, 2) := by decide +kernel
theorem dX5_count_70 : decode cX5_count 70 = .ok (.iconst 4, 1) := by decide +kernel
theorem dX5_count_71 : decode cX5_count 71 = .ok (.invokevirtual 130, 3) := by decide +kernel
theorem dX5_count_74 : decode cX5_count 74 = .ok (.ireturn, 1) := by decide +kernel
theorem dX5_count_75 : decode cX5_count 75 = .ok (.aload_n 0, 1) := by decide +kernel
theorem dX5_count_76 : decode cX5_count 76 = .ok (.getfield 54, 3) := by decide +kernel
theorem dX5_count_79 : decode cX5_count 79 = .ok (.ireturn, 1) := by decide +kernel
theorem dX5_count_80 : decode cX5_count 80 = .ok (.aload_n 0, 1) := by decide +kernel
theorem dX5_count_81 : decode cX5_count 81 = .ok (.invokevirtual 133, 3) := by decide +kernel
theorem dX5_count_84 : decode cX5_count 84 = .ok (.ireturn, 1) := by decide +kernel
theorem dX5_count_85 : decode cX5_count 85 = .ok (.aload_n 0, 1) := by decide +kernel
theorem dX5_count_86 : decode cX5_count 86 = .ok (.getfield 16, 3) := by decide +kernel
theorem dX5_count_89 : decode cX5_count 89 = .ok (.iconst 0, 1) := by decide +kernel
theorem dX5_count_90 : decode cX5_count 90 = .ok (.baload, 1) := by decide +kernel
theorem dX5_count_91 : decode cX5_count 91 = .ok (.ifCond .eq 7, 3) := by decide +kernel
theorem dX5_count_94 : decode cX5_count 94 = .ok (.iconst 1, 1) := by decide +kernel
theorem dX5_count_95 : decode cX5_count 95 = .ok (.goto 4, 3) := by decide +kernel
theorem dX5_count_98 : decode cX5_count 98 = .ok (.iconst 0, 1) := by decide +kernel
theorem dX5_count_99 : decode cX5_count 99 = .ok (.aload_n 0, 1) := by decide +kernel
theorem dX5_count_100 : decode cX5_count 100 = .ok (.getfield 16, 3) := by decide +kernel
theorem dX5_count_103 : decode cX5_count 103 = .ok (.iconst 1, 1) := by decide +kernel
theorem dX5_count_104 : decode cX5_count 104 = .ok (.baload, 1) := by decide +kernel
theorem dX5_count_105 : decode cX5_count 105 = .ok (.ifCond .eq 7, 3) := by decide +kernel
theorem dX5_count_108 : decode cX5_count 108 = .ok (.iconst 2, 1) := by decide +kernel
theorem dX5_count_109 : decode cX5_count 109 = .ok (.goto 4, 3) := by decide +kernel
theorem dX5_count_112 : decode cX5_count 112 = .ok (.iconst 0, 1) := by decide +kernel
theorem dX5_count_113 : decode cX5_count 113 = .ok (.iadd, 1) := by decide +kernel
theorem dX5_count_114 : decode cX5_count 114 = .ok (.ireturn, 1) := by decide +kernel
theorem dX5_count_115 : decode cX5_count 115 = .ok (.bipush (-2), 2) := by decide +kernel
theorem dX5_count_117 : decode cX5_count 117 = .ok (.ireturn, 1) := by decide +kernel
