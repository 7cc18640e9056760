theorem dX0_init_0 : decode cX0_init 0 = .ok (.aload_n 0, 1) := by decide +kernel
theorem dX0_init_1 : decode cX0_init 1 = .ok (.invokespecial 3, 3) := by decide +kernel
theorem dX0_init_4 : decode cX0_init 4 = .ok (.aload_n 0, 1) := by decide +kernel
theorem dX0_init_5 : decode cX0_init 5 = .ok (.bipush 12, 2) := by decide +kernel
theorem dX0_init_7 : decode cX0_init 7 = .ok (.newarray .int, 2) := by decide +kernel
theorem dX0_init_9 : decode cX0_init 9 = .ok (.putfield 9, 3) := by decide +kernel
theorem dX0_init_12 : decode cX0_init 12 = .ok (.return_, 1) := by decide +kernel
theorem dX0_become_0 : decode cX0_become 0 = .ok (.aload_n 0, 1) := by decide +kernel
theorem dX0_become_1 : decode cX0_become 1 = .ok (.aload_n 1, 1) := by decide +kernel
theorem dX0_become_2 : decode cX0_become 2 = .ok (.getfield 15, 3) := by decide +kernel
theorem dX0_become_5 : decode cX0_become 5 = .ok (.putfield 15, 3) := by decide +kernel
theorem dX0_become_8 : decode cX0_become 8 = .ok (.iconst 0, 1) := by decide +kernel
theorem dX0_become_9 : decode cX0_become 9 = .ok (.istore_n 2, 1) := by decide +kernel
theorem dX0_become_10 : decode cX0_become 10 = .ok (.iload_n 2, 1) := by decide +kernel
theorem dX0_become_11 : decode cX0_become 11 = .ok (.aload_n 0, 1) := by decide +kernel
theorem dX0_become_12 : decode cX0_become 12 = .ok (.getfield 15, 3) := by decide +kernel
theorem dX0_become_15 : decode cX0_become 15 = .ok (.if_icmp .ge 21, 3) := by decide +kernel
theorem dX0_become_18 : decode cX0_become 18 = .ok (.aload_n 0, 1) := by decide +kernel
theorem dX0_become_19 : decode cX0_become 19 = .ok (.getfield 9, 3) := by decide +kernel
theorem dX0_become_22 : decode cX0_become 22 = .ok (.iload_n 2, 1) := by decide +kernel
theorem dX0_become_23 : decode cX0_become 23 = .ok (.aload_n 1, 1) := by decide +kernel
theorem dX0_become_24 : decode cX0_become 24 = .ok (.getfield 9, 3) := by decide +kernel
theorem dX0_become_27 : decode cX0_become 27 = .ok (.iload_n 2, 1) := by decide +kernel
theorem dX0_become_28 : decode cX0_become 28 = .ok (.iaload, 1) := by decide +kernel
theorem dX0_become_29 : decode cX0_become 29 = .ok (.iastore, 1) := by decide +kernel
theorem dX0_become_30 : decode cX0_become 30 = .ok (.iinc 2 1, 3) := by decide +kernel
theorem dX0_become_33 : decode cX0_become 33 = .ok (.goto (-23), 3) := by decide +kernel
theorem dX0_become_36 : decode cX0_become 36 = .ok (.return_, 1) := by decide +kernel
theorem dX0_timesOf_0 : decode cX0_timesOf 0 = .ok (.iconst 0, 1) := by decide +kernel
theorem dX0_timesOf_1 : decode cX0_timesOf 1 = .ok (.istore_n 2, 1) := by decide +kernel
theorem dX0_timesOf_2 : decode cX0_timesOf 2 = .ok (.iconst 0, 1) := by decide +kernel
theorem dX0_timesOf_3 : decode cX0_timesOf 3 = .ok (.istore_n 3, 1) := by decide +kernel
theorem dX0_timesOf_4 : decode cX0_timesOf 4 = .ok (.iload_n 3, 1) := by decide +kernel
theorem dX0_timesOf_5 : decode cX0_timesOf 5 = .ok (.aload_n 0, 1) := by decide +kernel
theorem dX0_timesOf_6 : decode cX0_timesOf 6 = .ok (.getfield 15, 3) := by decide +kernel
theorem dX0_timesOf_9 : decode cX0_timesOf 9 = .ok (.if_icmp .ge 53, 3) := by decide +kernel
theorem dX0_timesOf_12 : decode cX0_timesOf 12 = .ok (.aload_n 0, 1) := by decide +kernel
theorem dX0_timesOf_13 : decode cX0_timesOf 13 = .ok (.getfield 9, 3) := by decide +kernel
theorem dX0_timesOf_16 : decode cX0_timesOf 16 = .ok (.iload_n 3, 1) := by decide +kernel
theorem dX0_timesOf_17 : decode cX0_timesOf 17 = .ok (.iaload, 1) := by decide +kernel
theorem dX0_timesOf_18 : decode cX0_timesOf 18 = .ok (.istore 4, 2) := by decide +kernel
theorem dX0_timesOf_20 : decode cX0_timesOf 20 = .ok (.iconst 0, 1) := by decide +kernel
theorem dX0_timesOf_21 : decode cX0_timesOf 21 = .ok (.istore 5, 2) := by decide +kernel
theorem dX0_timesOf_23 : decode cX0_timesOf 23 = .ok (.iload 5, 2) := by decide +kernel
theorem dX0_timesOf_25 : decode cX0_timesOf 25 = .ok (.iconst 3, 1) := by decide +kernel
theorem dX0_timesOf_26 : decode cX0_timesOf 26 = .ok (.if_icmp .ge 30, 3) := by decide +kernel
theorem dX0_timesOf_29 : decode cX0_timesOf 29 = .ok (.iload 4, 2) := by decide +kernel
theorem dX0_timesOf_31 : decode cX0_timesOf 31 = .ok (.bipush 10, 2) := by decide +kernel
theorem dX0_timesOf_33 : decode cX0_timesOf 33 = .ok (.irem, 1) := by decide +kernel
theorem dX0_timesOf_34 : decode cX0_timesOf 34 = .ok (.iload_n 1, 1) := by decide +kernel
theorem dX0_timesOf_35 : decode cX0_timesOf 35 = .ok (.iconst 1, 1) := by decide +kernel
theorem dX0_timesOf_36 : decode cX0_timesOf 36 = .ok (.iadd, 1) := by decide +kernel
theorem dX0_timesOf_37 : decode cX0_timesOf 37 = .ok (.if_icmp .ne 6, 3) := by decide +kernel
theorem dX0_timesOf_40 : decode cX0_timesOf 40 = .ok (.iinc 2 1, 3) := by decide +kernel
theorem dX0_timesOf_43 : decode cX0_timesOf 43 = .ok (.iload 4, 2) := by decide +kernel
theorem dX0_timesOf_45 : decode cX0_timesOf 45 = .ok (.bipush 10, 2) := by decide +kernel
theorem dX0_timesOf_47 : decode cX0_timesOf 47 = .ok (.idiv, 1) := by decide +kernel
theorem dX0_timesOf_48 : decode cX0_timesOf 48 = .ok (.istore 4, 2) := by decide +kernel
theorem dX0_timesOf_50 : decode cX0_timesOf 50 = .ok (.iinc 5 1, 3) := by decide +kernel
theorem dX0_timesOf_53 : decode cX0_timesOf 53 = .ok (.goto (-30), 3) := by decide +kernel
theorem dX0_timesOf_56 : decode cX0_timesOf 56 = .ok (.iinc 3 1, 3) := by decide +kernel
theorem dX0_timesOf_59 : decode cX0_timesOf 59 = .ok (.goto (-55), 3) := by decide +kernel
theorem dX0_timesOf_62 : decode cX0_timesOf 62 = .ok (.iload_n 2, 1) := by decide +kernel
theorem dX0_timesOf_63 : decode cX0_timesOf 63 = .ok (.ireturn, 1) := by decide +kernel
theorem dX1_init_0 : decode cX1_init 0 = .ok (.aload_n 0, 1) := by decide +kernel
theorem dX1_init_1 : decode cX1_init 1 = .ok (.invokespecial 3, 3) := by decide +kernel
theorem dX1_init_4 : decode cX1_init 4 = .ok (.aload_n 0, 1) := by decide +kernel
theorem dX1_init_5 : decode cX1_init 5 = .ok (.sipush 1000, 3) := by decide +kernel
theorem dX1_init_8 : decode cX1_init 8 = .ok (.newarray .boolean, 2) := by decide +kernel
theorem dX1_init_10 : decode cX1_init 10 = .ok (.putfield 9, 3) := by decide +kernel
theorem dX1_init_13 : decode cX1_init 13 = .ok (.aload_n 0, 1) := by decide +kernel
theorem dX1_init_14 : decode cX1_init 14 = .ok (.sipush 1000, 3) := by decide +kernel
theorem dX1_init_17 : decode cX1_init 17 = .ok (.newarray .int, 2) := by decide +kernel
theorem dX1_init_19 : decode cX1_init 19 = .ok (.putfield 15, 3) := by decide +kernel
theorem dX1_init_22 : decode cX1_init 22 = .ok (.aload_n 0, 1) := by decide +kernel
theorem dX1_init_23 : decode cX1_init 23 = .ok (.sipush 1000, 3) := by decide +kernel
theorem dX1_init_26 : decode cX1_init 26 = .ok (.newarray .int, 2) := by decide +kernel
theorem dX1_init_28 : decode cX1_init 28 = .ok (.putfield 19, 3) := by decide +kernel
theorem dX1_init_31 : decode cX1_init 31 = .ok (.aload_n 0, 1) := by decide +kernel
theorem dX1_init_32 : decode cX1_init 32 = .ok (.sipush 1000, 3) := by decide +kernel
theorem dX1_init_35 : decode cX1_init 35 = .ok (.newarray .int, 2) := by decide +kernel
theorem dX1_init_37 : decode cX1_init 37 = .ok (.putfield 22, 3) := by decide +kernel
theorem dX1_init_40 : decode cX1_init 40 = .ok (.aload_n 0, 1) := by decide +kernel
theorem dX1_init_41 : decode cX1_init 41 = .ok (.sipush 1000, 3) := by decide +kernel
theorem dX1_init_44 : decode cX1_init 44 = .ok (.newarray .int, 2) := by decide +kernel
theorem dX1_init_46 : decode cX1_init 46 = .ok (.putfield 25, 3) := by decide +kernel
theorem dX1_init_49 : decode cX1_init 49 = .ok (.aload_n 0, 1) := by decide +kernel
theorem dX1_init_50 : decode cX1_init 50 = .ok (.sipush 1000, 3) := by decide +kernel
theorem dX1_init_53 : decode cX1_init 53 = .ok (.newarray .long, 2) := by decide +kernel
theorem dX1_init_55 : decode cX1_init 55 = .ok (.putfield 28, 3) := by decide +kernel
theorem dX1_init_58 : decode cX1_init 58 = .ok (.aload_n 0, 1) := by decide +kernel
theorem dX1_init_59 : decode cX1_init 59 = .ok (.sipush 1000, 3) := by decide +kernel
theorem dX1_init_62 : decode cX1_init 62 = .ok (.newarray .int, 2) := by decide +kernel
theorem dX1_init_64 : decode cX1_init 64 = .ok (.putfield 32, 3) := by decide +kernel
theorem dX1_init_67 : decode cX1_init 67 = .ok (.aload_n 0, 1) := by decide +kernel
theorem dX1_init_68 : decode cX1_init 68 = .ok (.sipush 1000, 3) := by decide +kernel
theorem dX1_init_71 : decode cX1_init 71 = .ok (.newarray .int, 2) := by decide +kernel
theorem dX1_init_73 : decode cX1_init 73 = .ok (.putfield 35, 3) := by decide +kernel
theorem dX1_init_76 : decode cX1_init 76 = .ok (.aload_n 0, 1) := by decide +kernel
theorem dX1_init_77 : decode cX1_init 77 = .ok (.sipush 256, 3) := by decide +kernel
theorem dX1_init_80 : decode cX1_init 80 = .ok (.newarray .int, 2) := by decide +kernel
theorem dX1_init_82 : decode cX1_init 82 = .ok (.putfield 38, 3) := by decide +kernel
theorem dX1_init_85 : decode cX1_init 85 = .ok (.aload_n 0, 1) := by decide +kernel
theorem dX1_init_86 : decode cX1_init 86 = .ok (.sipush 1000, 3) := by decide +kernel
theorem dX1_init_89 : decode cX1_init 89 = .ok (.newarray .int, 2) := by decide +kernel
theorem dX1_init_91 : decode cX1_init 91 = .ok (.putfield 41, 3) := by decide +kernel
theorem dX1_init_94 : decode cX1_init 94 = .ok (.aload_n 0, 1) := by decide +kernel
theorem dX1_init_95 : decode cX1_init 95 = .ok (.sipush 1000, 3) := by decide +kernel
theorem dX1_init_98 : decode cX1_init 98 = .ok (.newarray .int, 2) := by decide +kernel
theorem dX1_init_100 : decode cX1_init 100 = .ok (.putfield 44, 3) := by decide +kernel
theorem dX1_init_103 : decode cX1_init 103 = .ok (.aload_n 0, 1) := by decide +kernel
theorem dX1_init_104 : decode cX1_init 104 = .ok (.sipush 1000, 3) := by decide +kernel
theorem dX1_init_107 : decode cX1_init 107 = .ok (.newarray .int, 2) := by decide +kernel
theorem dX1_init_109 : decode cX1_init 109 = .ok (.putfield 47, 3) := by decide +kernel
theorem dX1_init_112 : decode cX1_init 112 = .ok (.return_, 1) := by decide +kernel
theorem dX1_fill_0 : decode cX1_fill 0 = .ok (.iconst 0, 1) := by decide +kernel
theorem dX1_fill_1 : decode cX1_fill 1 = .ok (.istore_n 2, 1) := by decide +kernel
theorem dX1_fill_2 : decode cX1_fill 2 = .ok (.iload_n 2, 1) := by decide +kernel
theorem dX1_fill_3 : decode cX1_fill 3 = .ok (.sipush 256, 3) := by decide +kernel
theorem dX1_fill_6 : decode cX1_fill 6 = .ok (.if_icmp .ge 16, 3) := by decide +kernel
theorem dX1_fill_9 : decode cX1_fill 9 = .ok (.aload_n 0, 1) := by decide +kernel
theorem dX1_fill_10 : decode cX1_fill 10 = .ok (.getfield 38, 3) := by decide +kernel
theorem dX1_fill_13 : decode cX1_fill 13 = .ok (.iload_n 2, 1) := by decide +kernel
theorem dX1_fill_14 : decode cX1_fill 14 = .ok (.iconst 0, 1) := by decide +kernel
theorem dX1_fill_15 : decode cX1_fill 15 = .ok (.iastore, 1) := by decide +kernel
theorem dX1_fill_16 : decode cX1_fill 16 = .ok (.iinc 2 1, 3) := by decide +kernel
theorem dX1_fill_19 : decode cX1_fill 19 = .ok (.goto (-17), 3) := by decide +kernel
theorem dX1_fill_22 : decode cX1_fill 22 = .ok (.aload_n 0, 1) := by decide +kernel
theorem dX1_fill_23 : decode cX1_fill 23 = .ok (.iconst 0, 1) := by decide +kernel
theorem dX1_fill_24 : decode cX1_fill 24 = .ok (.putfield 50, 3) := by decide +kernel
theorem dX1_fill_27 : decode cX1_fill 27 = .ok (.aload_n 0, 1) := by decide +kernel
theorem dX1_fill_28 : decode cX1_fill 28 = .ok (.iconst 0, 1) := by decide +kernel
theorem dX1_fill_29 : decode cX1_fill 29 = .ok (.putfield 54, 3) := by decide +kernel
theorem dX1_fill_32 : decode cX1_fill 32 = .ok (.iconst 1, 1) := by decide +kernel
theorem dX1_fill_33 : decode cX1_fill 33 = .ok (.istore_n 2, 1) := by decide +kernel
theorem dX1_fill_34 : decode cX1_fill 34 = .ok (.iload_n 2, 1) := by decide +kernel
theorem dX1_fill_35 : decode cX1_fill 35 = .ok (.sipush 1000, 3) := by decide +kernel
theorem dX1_fill_38 : decode cX1_fill 38 = .ok (.if_icmp .ge 54, 3) := by decide +kernel
theorem dX1_fill_41 : decode cX1_fill 41 = .ok (.aload_n 0, 1) := by decide +kernel
theorem dX1_fill_42 : decode cX1_fill 42 = .ok (.iload_n 2, 1) := by decide +kernel
theorem dX1_fill_43 : decode cX1_fill 43 = .ok (.aload_n 1, 1) := by decide +kernel
theorem dX1_fill_44 : decode cX1_fill 44 = .ok (.invokevirtual 57, 3) := by decide +kernel
theorem dX1_fill_47 : decode cX1_fill 47 = .ok (.aload_n 0, 1) := by decide +kernel
theorem dX1_fill_48 : decode cX1_fill 48 = .ok (.getfield 9, 3) := by decide +kernel
theorem dX1_fill_51 : decode cX1_fill 51 = .ok (.iload_n 2, 1) := by decide +kernel
theorem dX1_fill_52 : decode cX1_fill 52 = .ok (.baload, 1) := by decide +kernel
theorem dX1_fill_53 : decode cX1_fill 53 = .ok (.ifCond .eq 33, 3) := by decide +kernel
theorem dX1_fill_56 : decode cX1_fill 56 = .ok (.aload_n 0, 1) := by decide +kernel
theorem dX1_fill_57 : decode cX1_fill 57 = .ok (.dup, 1) := by decide +kernel
theorem dX1_fill_58 : decode cX1_fill 58 = .ok (.getfield 50, 3) := by decide +kernel
theorem dX1_fill_61 : decode cX1_fill 61 = .ok (.iconst 1, 1) := by decide +kernel
theorem dX1_fill_62 : decode cX1_fill 62 = .ok (.iadd, 1) := by decide +kernel
theorem dX1_fill_63 : decode cX1_fill 63 = .ok (.putfield 50, 3) := by decide +kernel
theorem dX1_fill_66 : decode cX1_fill 66 = .ok (.aload_n 0, 1) := by decide +kernel
theorem dX1_fill_67 : decode cX1_fill 67 = .ok (.getfield 38, 3) := by decide +kernel
theorem dX1_fill_70 : decode cX1_fill 70 = .ok (.aload_n 0, 1) := by decide +kernel
theorem dX1_fill_71 : decode cX1_fill 71 = .ok (.getfield 32, 3) := by decide +kernel
theorem dX1_fill_74 : decode cX1_fill 74 = .ok (.iload_n 2, 1) := by decide +kernel
theorem dX1_fill_75 : decode cX1_fill 75 = .ok (.iaload, 1) := by decide +kernel
theorem dX1_fill_76 : decode cX1_fill 76 = .ok (.dup2, 1) := by decide +kernel
theorem dX1_fill_77 : decode cX1_fill 77 = .ok (.iaload, 1) := by decide +kernel
theorem dX1_fill_78 : decode cX1_fill 78 = .ok (.iconst 1, 1) := by decide +kernel
theorem dX1_fill_79 : decode cX1_fill 79 = .ok (.iadd, 1) := by decide +kernel
theorem dX1_fill_80 : decode cX1_fill 80 = .ok (.iastore, 1) := by decide +kernel
theorem dX1_fill_81 : decode cX1_fill 81 = .ok (.aload_n 0, 1) := by decide +kernel
theorem dX1_fill_82 : decode cX1_fill 82 = .ok (.iload_n 2, 1) := by decide +kernel
theorem dX1_fill_83 : decode cX1_fill 83 = .ok (.invokevirtual 61, 3) := by decide +kernel
theorem dX1_fill_86 : decode cX1_fill 86 = .ok (.iinc 2 1, 3) := by decide +kernel
theorem dX1_fill_89 : decode cX1_fill 89 = .ok (.goto (-55), 3) := by decide +kernel
theorem dX1_fill_92 : decode cX1_fill 92 = .ok (.iconst 1, 1) := by decide +kernel
theorem dX1_fill_93 : decode cX1_fill 93 = .ok (.istore_n 2, 1) := by decide +kernel
theorem dX1_fill_94 : decode cX1_fill 94 = .ok (.iload_n 2, 1) := by decide +kernel
theorem dX1_fill_95 : decode cX1_fill 95 = .ok (.sipush 1000, 3) := by decide +kernel
theorem dX1_fill_98 : decode cX1_fill 98 = .ok (.if_icmp .ge 56, 3) := by decide +kernel
theorem dX1_fill_101 : decode cX1_fill 101 = .ok (.aload_n 0, 1) := by decide +kernel
theorem dX1_fill_102 : decode cX1_fill 102 = .ok (.getfield 9, 3) := by decide +kernel
theorem dX1_fill_105 : decode cX1_fill 105 = .ok (.iload_n 2, 1) := by decide +kernel
theorem dX1_fill_106 : decode cX1_fill 106 = .ok (.baload, 1) := by decide +kernel
theorem dX1_fill_107 : decode cX1_fill 107 = .ok (.ifCond .eq 41, 3) := by decide +kernel
theorem dX1_fill_110 : decode cX1_fill 110 = .ok (.aload_n 0, 1) := by decide +kernel
theorem dX1_fill_111 : decode cX1_fill 111 = .ok (.getfield 47, 3) := by decide +kernel
theorem dX1_fill_114 : decode cX1_fill 114 = .ok (.iload_n 2, 1) := by decide +kernel
theorem dX1_fill_115 : decode cX1_fill 115 = .ok (.iaload, 1) := by decide +kernel
theorem dX1_fill_116 : decode cX1_fill 116 = .ok (.istore_n 3, 1) := by decide +kernel
theorem dX1_fill_117 : decode cX1_fill 117 = .ok (.aload_n 0, 1) := by decide +kernel
theorem dX1_fill_118 : decode cX1_fill 118 = .ok (.getfield 35, 3) := by decide +kernel
theorem dX1_fill_121 : decode cX1_fill 121 = .ok (.iload_n 2, 1) := by decide +kernel
theorem dX1_fill_122 : decode cX1_fill 122 = .ok (.aload_n 0, 1) := by decide +kernel
theorem dX1_fill_123 : decode cX1_fill 123 = .ok (.getfield 41, 3) := by decide +kernel
theorem dX1_fill_126 : decode cX1_fill 126 = .ok (.iload_n 3, 1) := by decide +kernel
theorem dX1_fill_127 : decode cX1_fill 127 = .ok (.iaload, 1) := by decide +kernel
theorem dX1_fill_128 : decode cX1_fill 128 = .ok (.iload_n 2, 1) := by decide +kernel
theorem dX1_fill_129 : decode cX1_fill 129 = .ok (.if_icmp .ne 12, 3) := by decide +kernel
theorem dX1_fill_132 : decode cX1_fill 132 = .ok (.aload_n 0, 1) := by decide +kernel
theorem dX1_fill_133 : decode cX1_fill 133 = .ok (.getfield 44, 3) := by decide +kernel
theorem dX1_fill_136 : decode cX1_fill 136 = .ok (.iload_n 3, 1) := by decide +kernel
theorem dX1_fill_137 : decode cX1_fill 137 = .ok (.iaload, 1) := by decide +kernel
theorem dX1_fill_138 : decode cX1_fill 138 = .ok (.goto 9, 3) := by decide +kernel
theorem dX1_fill_141 : decode cX1_fill 141 = .ok (.aload_n 0, 1) := by decide +kernel
theorem dX1_fill_142 : decode cX1_fill 142 = .ok (.getfield 41, 3) := by decide +kernel
theorem dX1_fill_145 : decode cX1_fill 145 = .ok (.iload_n 3, 1) := by decide +kernel
theorem dX1_fill_146 : decode cX1_fill 146 = .ok (.iaload, 1) := by decide +kernel
theorem dX1_fill_147 : decode cX1_fill 147 = .ok (.iastore, 1) := by decide +kernel
theorem dX1_fill_148 : decode cX1_fill 148 = .ok (.iinc 2 1, 3) := by decide +kernel
theorem dX1_fill_151 : decode cX1_fill 151 = .ok (.goto (-57), 3) := by decide +kernel
theorem dX1_fill_154 : decode cX1_fill 154 = .ok (.return_, 1) := by decide +kernel
theorem dX1_fillRow_0 : decode cX1_fillRow 0 = .ok (.iload_n 1, 1) := by decide +kernel
theorem dX1_fillRow_1 : decode cX1_fillRow 1 = .ok (.bipush 10, 2) := by decide +kernel
theorem dX1_fillRow_3 : decode cX1_fillRow 3 = .ok (.idiv, 1) := by decide +kernel
theorem dX1_fillRow_4 : decode cX1_fillRow 4 = .ok (.istore_n 3, 1) := by decide +kernel
theorem dX1_fillRow_5 : decode cX1_fillRow 5 = .ok (.iload_n 1, 1) := by decide +kernel
theorem dX1_fillRow_6 : decode cX1_fillRow 6 = .ok (.bipush 10, 2) := by decide +kernel
theorem dX1_fillRow_8 : decode cX1_fillRow 8 = .ok (.irem, 1) := by decide +kernel
theorem dX1_fillRow_9 : decode cX1_fillRow 9 = .ok (.iconst 1, 1) := by decide +kernel
theorem dX1_fillRow_10 : decode cX1_fillRow 10 = .ok (.isub, 1) := by decide +kernel
theorem dX1_fillRow_11 : decode cX1_fillRow 11 = .ok (.istore 4, 2) := by decide +kernel
theorem dX1_fillRow_13 : decode cX1_fillRow 13 = .ok (.aload_n 0, 1) := by decide +kernel
theorem dX1_fillRow_14 : decode cX1_fillRow 14 = .ok (.getfield 9, 3) := by decide +kernel
theorem dX1_fillRow_17 : decode cX1_fillRow 17 = .ok (.iload_n 1, 1) := by decide +kernel
theorem dX1_fillRow_18 : decode cX1_fillRow 18 = .ok (.iconst 0, 1) := by decide +kernel
theorem dX1_fillRow_19 : decode cX1_fillRow 19 = .ok (.bastore, 1) := by decide +kernel
theorem dX1_fillRow_20 : decode cX1_fillRow 20 = .ok (.aload_n 0, 1) := by decide +kernel
theorem dX1_fillRow_21 : decode cX1_fillRow 21 = .ok (.getfield 15, 3) := by decide +kernel
theorem dX1_fillRow_24 : decode cX1_fillRow 24 = .ok (.iload_n 1, 1) := by decide +kernel
theorem dX1_fillRow_25 : decode cX1_fillRow 25 = .ok (.iconst 0, 1) := by decide +kernel
theorem dX1_fillRow_26 : decode cX1_fillRow 26 = .ok (.iastore, 1) := by decide +kernel
theorem dX1_fillRow_27 : decode cX1_fillRow 27 = .ok (.iload 4, 2) := by decide +kernel
theorem dX1_fillRow_29 : decode cX1_fillRow 29 = .ok (.ifCond .lt 29, 3) := by decide +kernel
theorem dX1_fillRow_32 : decode cX1_fillRow 32 = .ok (.iload 4, 2) := by decide +kernel
theorem dX1_fillRow_34 : decode cX1_fillRow 34 = .ok (.aload_n 2, 1) := by decide +kernel
theorem dX1_fillRow_35 : decode cX1_fillRow 35 = .ok (.getfield 65, 3) := by decide +kernel
theorem dX1_fillRow_38 : decode cX1_fillRow 38 = .ok (.if_icmp .ge 20, 3) := by decide +kernel
theorem dX1_fillRow_41 : decode cX1_fillRow 41 = .ok (.iload_n 3, 1) := by decide +kernel
theorem dX1_fillRow_42 : decode cX1_fillRow 42 = .ok (.ifCond .eq 12, 3) := by decide +kernel
theorem dX1_fillRow_45 : decode cX1_fillRow 45 = .ok (.aload_n 0, 1) := by decide +kernel
theorem dX1_fillRow_46 : decode cX1_fillRow 46 = .ok (.getfield 15, 3) := by decide +kernel
theorem dX1_fillRow_49 : decode cX1_fillRow 49 = .ok (.iload_n 3, 1) := by decide +kernel
theorem dX1_fillRow_50 : decode cX1_fillRow 50 = .ok (.iaload, 1) := by decide +kernel
theorem dX1_fillRow_51 : decode cX1_fillRow 51 = .ok (.ifCond .eq 7, 3) := by decide +kernel
theorem dX1_fillRow_54 : decode cX1_fillRow 54 = .ok (.iconst 1, 1) := by decide +kernel
theorem dX1_fillRow_55 : decode cX1_fillRow 55 = .ok (.goto 4, 3) := by decide +kernel
theorem dX1_fillRow_58 : decode cX1_fillRow 58 = .ok (.iconst 0, 1) := by decide +kernel
theorem dX1_fillRow_59 : decode cX1_fillRow 59 = .ok (.istore 5, 2) := by decide +kernel
theorem dX1_fillRow_61 : decode cX1_fillRow 61 = .ok (.iload 5, 2) := by decide +kernel
theorem dX1_fillRow_63 : decode cX1_fillRow 63 = .ok (.ifCond .ne 4, 3) := by decide +kernel
theorem dX1_fillRow_66 : decode cX1_fillRow 66 = .ok (.return_, 1) := by decide +kernel
theorem dX1_fillRow_67 : decode cX1_fillRow 67 = .ok (.aload_n 2, 1) := by decide +kernel
theorem dX1_fillRow_68 : decode cX1_fillRow 68 = .ok (.getfield 70, 3) := by decide +kernel
theorem dX1_fillRow_71 : decode cX1_fillRow 71 = .ok (.iload 4, 2) := by decide +kernel
theorem dX1_fillRow_73 : decode cX1_fillRow 73 = .ok (.aaload, 1) := by decide +kernel
theorem dX1_fillRow_74 : decode cX1_fillRow 74 = .ok (.astore 6, 2) := by decide +kernel
theorem dX1_fillRow_76 : decode cX1_fillRow 76 = .ok (.aload_n 0, 1) := by decide +kernel
theorem dX1_fillRow_77 : decode cX1_fillRow 77 = .ok (.getfield 15, 3) := by decide +kernel
theorem dX1_fillRow_80 : decode cX1_fillRow 80 = .ok (.iload_n 1, 1) := by decide +kernel
theorem dX1_fillRow_81 : decode cX1_fillRow 81 = .ok (.aload_n 0, 1) := by decide +kernel
theorem dX1_fillRow_82 : decode cX1_fillRow 82 = .ok (.getfield 15, 3) := by decide +kernel
theorem dX1_fillRow_85 : decode cX1_fillRow 85 = .ok (.iload_n 3, 1) := by decide +kernel
theorem dX1_fillRow_86 : decode cX1_fillRow 86 = .ok (.iaload, 1) := by decide +kernel
theorem dX1_fillRow_87 : decode cX1_fillRow 87 = .ok (.aload 6, 2) := by decide +kernel
theorem dX1_fillRow_89 : decode cX1_fillRow 89 = .ok (.getfield 74, 3) := by decide +kernel
theorem dX1_fillRow_92 : decode cX1_fillRow 92 = .ok (.invokestatic 79, 3) := by decide +kernel
theorem dX1_fillRow_95 : decode cX1_fillRow 95 = .ok (.iastore, 1) := by decide +kernel
theorem dX1_fillRow_96 : decode cX1_fillRow 96 = .ok (.aload_n 0, 1) := by decide +kernel
theorem dX1_fillRow_97 : decode cX1_fillRow 97 = .ok (.getfield 19, 3) := by decide +kernel
theorem dX1_fillRow_100 : decode cX1_fillRow 100 = .ok (.iload_n 1, 1) := by decide +kernel
theorem dX1_fillRow_101 : decode cX1_fillRow 101 = .ok (.aload_n 0, 1) := by decide +kernel
theorem dX1_fillRow_102 : decode cX1_fillRow 102 = .ok (.getfield 19, 3) := by decide +kernel
theorem dX1_fillRow_105 : decode cX1_fillRow 105 = .ok (.iload_n 3, 1) := by decide +kernel
theorem dX1_fillRow_106 : decode cX1_fillRow 106 = .ok (.iaload, 1) := by decide +kernel
theorem dX1_fillRow_107 : decode cX1_fillRow 107 = .ok (.aload 6, 2) := by decide +kernel
theorem dX1_fillRow_109 : decode cX1_fillRow 109 = .ok (.getfield 85, 3) := by decide +kernel
theorem dX1_fillRow_112 : decode cX1_fillRow 112 = .ok (.iadd, 1) := by decide +kernel
theorem dX1_fillRow_113 : decode cX1_fillRow 113 = .ok (.iastore, 1) := by decide +kernel
theorem dX1_fillRow_114 : decode cX1_fillRow 114 = .ok (.aload_n 0, 1) := by decide +kernel
theorem dX1_fillRow_115 : decode cX1_fillRow 115 = .ok (.getfield 22, 3) := by decide +kernel
theorem dX1_fillRow_118 : decode cX1_fillRow 118 = .ok (.iload_n 1, 1) := by decide +kernel
theorem dX1_fillRow_119 : decode cX1_fillRow 119 = .ok (.aload_n 0, 1) := by decide +kernel
theorem dX1_fillRow_120 : decode cX1_fillRow 120 = .ok (.getfield 22, 3) := by decide +kernel
theorem dX1_fillRow_123 : decode cX1_fillRow 123 = .ok (.iload_n 3, 1) := by decide +kernel
theorem dX1_fillRow_124 : decode cX1_fillRow 124 = .ok (.iaload, 1) := by decide +kernel
theorem dX1_fillRow_125 : decode cX1_fillRow 125 = .ok (.aload 6, 2) := by decide +kernel
theorem dX1_fillRow_127 : decode cX1_fillRow 127 = .ok (.getfield 87, 3) := by decide +kernel
theorem dX1_fillRow_130 : decode cX1_fillRow 130 = .ok (.iadd, 1) := by decide +kernel
theorem dX1_fillRow_131 : decode cX1_fillRow 131 = .ok (.iastore, 1) := by decide +kernel
theorem dX1_fillRow_132 : decode cX1_fillRow 132 = .ok (.aload_n 0, 1) := by decide +kernel
theorem dX1_fillRow_133 : decode cX1_fillRow 133 = .ok (.getfield 25, 3) := by decide +kernel
theorem dX1_fillRow_136 : decode cX1_fillRow 136 = .ok (.iload_n 1, 1) := by decide +kernel
theorem dX1_fillRow_137 : decode cX1_fillRow 137 = .ok (.aload_n 0, 1) := by decide +kernel
theorem dX1_fillRow_138 : decode cX1_fillRow 138 = .ok (.getfield 25, 3) := by decide +kernel
theorem dX1_fillRow_141 : decode cX1_fillRow 141 = .ok (.iload_n 3, 1) := by decide +kernel
theorem dX1_fillRow_142 : decode cX1_fillRow 142 = .ok (.iaload, 1) := by decide +kernel
theorem dX1_fillRow_143 : decode cX1_fillRow 143 = .ok (.aload 6, 2) := by decide +kernel
theorem dX1_fillRow_145 : decode cX1_fillRow 145 = .ok (.getfield 89, 3) := by decide +kernel
theorem dX1_fillRow_148 : decode cX1_fillRow 148 = .ok (.iadd, 1) := by decide +kernel
theorem dX1_fillRow_149 : decode cX1_fillRow 149 = .ok (.iastore, 1) := by decide +kernel
theorem dX1_fillRow_150 : decode cX1_fillRow 150 = .ok (.aload_n 0, 1) := by decide +kernel
theorem dX1_fillRow_151 : decode cX1_fillRow 151 = .ok (.getfield 28, 3) := by decide +kernel
theorem dX1_fillRow_154 : decode cX1_fillRow 154 = .ok (.iload_n 1, 1) := by decide +kernel
theorem dX1_fillRow_155 : decode cX1_fillRow 155 = .ok (.aload_n 0, 1) := by decide +kernel
theorem dX1_fillRow_156 : decode cX1_fillRow 156 = .ok (.getfield 28, 3) := by decide +kernel
theorem dX1_fillRow_159 : decode cX1_fillRow 159 = .ok (.iload_n 3, 1) := by decide +kernel
theorem dX1_fillRow_160 : decode cX1_fillRow 160 = .ok (.laload, 1) := by decide +kernel
theorem dX1_fillRow_161 : decode cX1_fillRow 161 = .ok (.lastore, 1) := by decide +kernel
theorem dX1_fillRow_162 : decode cX1_fillRow 162 = .ok (.aload_n 0, 1) := by decide +kernel
theorem dX1_fillRow_163 : decode cX1_fillRow 163 = .ok (.getfield 32, 3) := by decide +kernel
theorem dX1_fillRow_166 : decode cX1_fillRow 166 = .ok (.iload_n 1, 1) := by decide +kernel
theorem dX1_fillRow_167 : decode cX1_fillRow 167 = .ok (.aload_n 0, 1) := by decide +kernel
theorem dX1_fillRow_168 : decode cX1_fillRow 168 = .ok (.getfield 32, 3) := by decide +kernel
theorem dX1_fillRow_171 : decode cX1_fillRow 171 = .ok (.iload_n 3, 1) := by decide +kernel
theorem dX1_fillRow_172 : decode cX1_fillRow 172 = .ok (.iaload, 1) := by decide +kernel
theorem dX1_fillRow_173 : decode cX1_fillRow 173 = .ok (.iastore, 1) := by decide +kernel
theorem dX1_fillRow_174 : decode cX1_fillRow 174 = .ok (.iconst 0, 1) := by decide +kernel
theorem dX1_fillRow_175 : decode cX1_fillRow 175 = .ok (.istore 7, 2) := by decide +kernel
theorem dX1_fillRow_177 : decode cX1_fillRow 177 = .ok (.iload 7, 2) := by decide +kernel
theorem dX1_fillRow_179 : decode cX1_fillRow 179 = .ok (.aload 6, 2) := by decide +kernel
theorem dX1_fillRow_181 : decode cX1_fillRow 181 = .ok (.getfield 89, 3) := by decide +kernel
theorem dX1_fillRow_184 : decode cX1_fillRow 184 = .ok (.if_icmp .ge 50, 3) := by decide +kernel
theorem dX1_fillRow_187 : decode cX1_fillRow 187 = .ok (.aload_n 0, 1) := by decide +kernel
theorem dX1_fillRow_188 : decode cX1_fillRow 188 = .ok (.getfield 28, 3) := by decide +kernel
theorem dX1_fillRow_191 : decode cX1_fillRow 191 = .ok (.iload_n 1, 1) := by decide +kernel
theorem dX1_fillRow_192 : decode cX1_fillRow 192 = .ok (.dup2, 1) := by decide +kernel
theorem dX1_fillRow_193 : decode cX1_fillRow 193 = .ok (.laload, 1) := by decide +kernel
theorem dX1_fillRow_194 : decode cX1_fillRow 194 = .ok (.lconst 1, 1) := by decide +kernel
theorem dX1_fillRow_195 : decode cX1_fillRow 195 = .ok (.bipush 8, 2) := by decide +kernel
theorem dX1_fillRow_197 : decode cX1_fillRow 197 = .ok (.aload 6, 2) := by decide +kernel
theorem dX1_fillRow_199 : decode cX1_fillRow 199 = .ok (.getfield 91, 3) := by decide +kernel
theorem dX1_fillRow_202 : decode cX1_fillRow 202 = .ok (.iload 7, 2) := by decide +kernel
theorem dX1_fillRow_204 : decode cX1_fillRow 204 = .ok (.iaload, 1) := by decide +kernel
theorem dX1_fillRow_205 : decode cX1_fillRow 205 = .ok (.imul, 1) := by decide +kernel
theorem dX1_fillRow_206 : decode cX1_fillRow 206 = .ok (.lshl, 1) := by decide +kernel
theorem dX1_fillRow_207 : decode cX1_fillRow 207 = .ok (.ladd, 1) := by decide +kernel
theorem dX1_fillRow_208 : decode cX1_fillRow 208 = .ok (.lastore, 1) := by decide +kernel
theorem dX1_fillRow_209 : decode cX1_fillRow 209 = .ok (.aload_n 0, 1) := by decide +kernel
theorem dX1_fillRow_210 : decode cX1_fillRow 210 = .ok (.getfield 32, 3) := by decide +kernel
theorem dX1_fillRow_213 : decode cX1_fillRow 213 = .ok (.iload_n 1, 1) := by decide +kernel
theorem dX1_fillRow_214 : decode cX1_fillRow 214 = .ok (.dup2, 1) := by decide +kernel
theorem dX1_fillRow_215 : decode cX1_fillRow 215 = .ok (.iaload, 1) := by decide +kernel
theorem dX1_fillRow_216 : decode cX1_fillRow 216 = .ok (.iconst 1, 1) := by decide +kernel
theorem dX1_fillRow_217 : decode cX1_fillRow 217 = .ok (.aload 6, 2) := by decide +kernel
theorem dX1_fillRow_219 : decode cX1_fillRow 219 = .ok (.getfield 91, 3) := by decide +kernel
theorem dX1_fillRow_222 : decode cX1_fillRow 222 = .ok (.iload 7, 2) := by decide +kernel
theorem dX1_fillRow_224 : decode cX1_fillRow 224 = .ok (.iaload, 1) := by decide +kernel
theorem dX1_fillRow_225 : decode cX1_fillRow 225 = .ok (.ishl, 1) := by decide +kernel
theorem dX1_fillRow_226 : decode cX1_fillRow 226 = .ok (.ior, 1) := by decide +kernel
theorem dX1_fillRow_227 : decode cX1_fillRow 227 = .ok (.iastore, 1) := by decide +kernel
theorem dX1_fillRow_228 : decode cX1_fillRow 228 = .ok (.iinc 7 1, 3) := by decide +kernel
theorem dX1_fillRow_231 : decode cX1_fillRow 231 = .ok (.goto (-54), 3) := by decide +kernel
theorem dX1_fillRow_234 : decode cX1_fillRow 234 = .ok (.iconst 0, 1) := by decide +kernel
theorem dX1_fillRow_235 : decode cX1_fillRow 235 = .ok (.istore 7, 2) := by decide +kernel
theorem dX1_fillRow_237 : decode cX1_fillRow 237 = .ok (.iload 7, 2) := by decide +kernel
theorem dX1_fillRow_239 : decode cX1_fillRow 239 = .ok (.aload_n 2, 1) := by decide +kernel
theorem dX1_fillRow_240 : decode cX1_fillRow 240 = .ok (.getfield 94, 3) := by decide +kernel
theorem dX1_fillRow_243 : decode cX1_fillRow 243 = .ok (.if_icmp .ge 48, 3) := by decide +kernel
theorem dX1_fillRow_246 : decode cX1_fillRow 246 = .ok (.aload_n 0, 1) := by decide +kernel
theorem dX1_fillRow_247 : decode cX1_fillRow 247 = .ok (.getfield 9, 3) := by decide +kernel
theorem dX1_fillRow_250 : decode cX1_fillRow 250 = .ok (.iload_n 1, 1) := by decide +kernel
theorem dX1_fillRow_251 : decode cX1_fillRow 251 = .ok (.aload_n 0, 1) := by decide +kernel
theorem dX1_fillRow_252 : decode cX1_fillRow 252 = .ok (.getfield 9, 3) := by decide +kernel
theorem dX1_fillRow_255 : decode cX1_fillRow 255 = .ok (.iload_n 1, 1) := by decide +kernel
theorem dX1_fillRow_256 : decode cX1_fillRow 256 = .ok (.baload, 1) := by decide +kernel
theorem dX1_fillRow_257 : decode cX1_fillRow 257 = .ok (.ifCond .ne 22, 3) := by decide +kernel
theorem dX1_fillRow_260 : decode cX1_fillRow 260 = .ok (.aload_n 2, 1) := by decide +kernel
theorem dX1_fillRow_261 : decode cX1_fillRow 261 = .ok (.getfield 97, 3) := by decide +kernel
theorem dX1_fillRow_264 : decode cX1_fillRow 264 = .ok (.iload 7, 2) := by decide +kernel
theorem dX1_fillRow_266 : decode cX1_fillRow 266 = .ok (.aaload, 1) := by decide +kernel
theorem dX1_fillRow_267 : decode cX1_fillRow 267 = .ok (.invokevirtual 101, 3) := by decide +kernel
theorem dX1_fillRow_270 : decode cX1_fillRow 270 = .ok (.aload_n 0, 1) := by decide +kernel
theorem dX1_fillRow_271 : decode cX1_fillRow 271 = .ok (.getfield 15, 3) := by decide +kernel
theorem dX1_fillRow_274 : decode cX1_fillRow 274 = .ok (.iload_n 1, 1) := by decide +kernel
theorem dX1_fillRow_275 : decode cX1_fillRow 275 = .ok (.iaload, 1) := by decide +kernel
theorem dX1_fillRow_276 : decode cX1_fillRow 276 = .ok (.if_icmp .ne 7, 3) := by decide +kernel
theorem dX1_fillRow_279 : decode cX1_fillRow 279 = .ok (.iconst 1, 1) := by decide +kernel
theorem dX1_fillRow_280 : decode cX1_fillRow 280 = .ok (.goto 4, 3) := by decide +kernel
theorem dX1_fillRow_283 : decode cX1_fillRow 283 = .ok (.iconst 0, 1) := by decide +kernel
theorem dX1_fillRow_284 : decode cX1_fillRow 284 = .ok (.bastore, 1) := by decide +kernel
theorem dX1_fillRow_285 : decode cX1_fillRow 285 = .ok (.iinc 7 1, 3) := by decide +kernel
theorem dX1_fillRow_288 : decode cX1_fillRow 288 = .ok (.goto (-51), 3) := by decide +kernel
theorem dX1_fillRow_291 : decode cX1_fillRow 291 = .ok (.return_, 1) := by decide +kernel
theorem dX1_putIntoGroup_0 : decode cX1_putIntoGroup 0 = .ok (.iconst 0, 1) := by decide +kernel
theorem dX1_putIntoGroup_1 : decode cX1_putIntoGroup 1 = .ok (.istore_n 2, 1) := by decide +kernel
theorem dX1_putIntoGroup_2 : decode cX1_putIntoGroup 2 = .ok (.iload_n 2, 1) := by decide +kernel
theorem dX1_putIntoGroup_3 : decode cX1_putIntoGroup 3 = .ok (.aload_n 0, 1) := by decide +kernel
theorem dX1_putIntoGroup_4 : decode cX1_putIntoGroup 4 = .ok (.getfield 54, 3) := by decide +kernel
theorem dX1_putIntoGroup_7 : decode cX1_putIntoGroup 7 = .ok (.if_icmp .ge 30, 3) := by decide +kernel
theorem dX1_putIntoGroup_10 : decode cX1_putIntoGroup 10 = .ok (.aload_n 0, 1) := by decide +kernel
theorem dX1_putIntoGroup_11 : decode cX1_putIntoGroup 11 = .ok (.getfield 28, 3) := by decide +kernel
theorem dX1_putIntoGroup_14 : decode cX1_putIntoGroup 14 = .ok (.aload_n 0, 1) := by decide +kernel
theorem dX1_putIntoGroup_15 : decode cX1_putIntoGroup 15 = .ok (.getfield 41, 3) := by decide +kernel
theorem dX1_putIntoGroup_18 : decode cX1_putIntoGroup 18 = .ok (.iload_n 2, 1) := by decide +kernel
theorem dX1_putIntoGroup_19 : decode cX1_putIntoGroup 19 = .ok (.iaload, 1) := by decide +kernel
theorem dX1_putIntoGroup_20 : decode cX1_putIntoGroup 20 = .ok (.laload, 1) := by decide +kernel
theorem dX1_putIntoGroup_21 : decode cX1_putIntoGroup 21 = .ok (.aload_n 0, 1) := by decide +kernel
theorem dX1_putIntoGroup_22 : decode cX1_putIntoGroup 22 = .ok (.getfield 28, 3) := by decide +kernel
theorem dX1_putIntoGroup_25 : decode cX1_putIntoGroup 25 = .ok (.iload_n 1, 1) := by decide +kernel
theorem dX1_putIntoGroup_26 : decode cX1_putIntoGroup 26 = .ok (.laload, 1) := by decide +kernel
theorem dX1_putIntoGroup_27 : decode cX1_putIntoGroup 27 = .ok (.lcmp, 1) := by decide +kernel
theorem dX1_putIntoGroup_28 : decode cX1_putIntoGroup 28 = .ok (.ifCond .eq 9, 3) := by decide +kernel
theorem dX1_putIntoGroup_31 : decode cX1_putIntoGroup 31 = .ok (.iinc 2 1, 3) := by decide +kernel
theorem dX1_putIntoGroup_34 : decode cX1_putIntoGroup 34 = .ok (.goto (-32), 3) := by decide +kernel
theorem dX1_putIntoGroup_37 : decode cX1_putIntoGroup 37 = .ok (.aload_n 0, 1) := by decide +kernel
theorem dX1_putIntoGroup_38 : decode cX1_putIntoGroup 38 = .ok (.getfield 47, 3) := by decide +kernel
theorem dX1_putIntoGroup_41 : decode cX1_putIntoGroup 41 = .ok (.iload_n 1, 1) := by decide +kernel
theorem dX1_putIntoGroup_42 : decode cX1_putIntoGroup 42 = .ok (.iload_n 2, 1) := by decide +kernel
theorem dX1_putIntoGroup_43 : decode cX1_putIntoGroup 43 = .ok (.iastore, 1) := by decide +kernel
theorem dX1_putIntoGroup_44 : decode cX1_putIntoGroup 44 = .ok (.iload_n 2, 1) := by decide +kernel
theorem dX1_putIntoGroup_45 : decode cX1_putIntoGroup 45 = .ok (.aload_n 0, 1) := by decide +kernel
theorem dX1_putIntoGroup_46 : decode cX1_putIntoGroup 46 = .ok (.getfield 54, 3) := by decide +kernel
theorem dX1_putIntoGroup_49 : decode cX1_putIntoGroup 49 = .ok (.if_icmp .ne 30, 3) := by decide +kernel
theorem dX1_putIntoGroup_52 : decode cX1_putIntoGroup 52 = .ok (.aload_n 0, 1) := by decide +kernel
theorem dX1_putIntoGroup_53 : decode cX1_putIntoGroup 53 = .ok (.dup, 1) := by decide +kernel
theorem dX1_putIntoGroup_54 : decode cX1_putIntoGroup 54 = .ok (.getfield 54, 3) := by decide +kernel
theorem dX1_putIntoGroup_57 : decode cX1_putIntoGroup 57 = .ok (.iconst 1, 1) := by decide +kernel
theorem dX1_putIntoGroup_58 : decode cX1_putIntoGroup 58 = .ok (.iadd, 1) := by decide +kernel
theorem dX1_putIntoGroup_59 : decode cX1_putIntoGroup 59 = .ok (.putfield 54, 3) := by decide +kernel
theorem dX1_putIntoGroup_62 : decode cX1_putIntoGroup 62 = .ok (.aload_n 0, 1) := by decide +kernel
theorem dX1_putIntoGroup_63 : decode cX1_putIntoGroup 63 = .ok (.getfield 41, 3) := by decide +kernel
theorem dX1_putIntoGroup_66 : decode cX1_putIntoGroup 66 = .ok (.iload_n 2, 1) := by decide +kernel
theorem dX1_putIntoGroup_67 : decode cX1_putIntoGroup 67 = .ok (.iload_n 1, 1) := by decide +kernel
theorem dX1_putIntoGroup_68 : decode cX1_putIntoGroup 68 = .ok (.iastore, 1) := by decide +kernel
theorem dX1_putIntoGroup_69 : decode cX1_putIntoGroup 69 = .ok (.aload_n 0, 1) := by decide +kernel
theorem dX1_putIntoGroup_70 : decode cX1_putIntoGroup 70 = .ok (.getfield 44, 3) := by decide +kernel
theorem dX1_putIntoGroup_73 : decode cX1_putIntoGroup 73 = .ok (.iload_n 2, 1) := by decide +kernel
theorem dX1_putIntoGroup_74 : decode cX1_putIntoGroup 74 = .ok (.iconst 0, 1) := by decide +kernel
theorem dX1_putIntoGroup_75 : decode cX1_putIntoGroup 75 = .ok (.iastore, 1) := by decide +kernel
theorem dX1_putIntoGroup_76 : decode cX1_putIntoGroup 76 = .ok (.goto 81, 3) := by decide +kernel
theorem dX1_putIntoGroup_79 : decode cX1_putIntoGroup 79 = .ok (.aload_n 0, 1) := by decide +kernel
theorem dX1_putIntoGroup_80 : decode cX1_putIntoGroup 80 = .ok (.getfield 19, 3) := by decide +kernel
theorem dX1_putIntoGroup_83 : decode cX1_putIntoGroup 83 = .ok (.iload_n 1, 1) := by decide +kernel
theorem dX1_putIntoGroup_84 : decode cX1_putIntoGroup 84 = .ok (.iaload, 1) := by decide +kernel
theorem dX1_putIntoGroup_85 : decode cX1_putIntoGroup 85 = .ok (.aload_n 0, 1) := by decide +kernel
theorem dX1_putIntoGroup_86 : decode cX1_putIntoGroup 86 = .ok (.getfield 19, 3) := by decide +kernel
theorem dX1_putIntoGroup_89 : decode cX1_putIntoGroup 89 = .ok (.aload_n 0, 1) := by decide +kernel
theorem dX1_putIntoGroup_90 : decode cX1_putIntoGroup 90 = .ok (.getfield 41, 3) := by decide +kernel
theorem dX1_putIntoGroup_93 : decode cX1_putIntoGroup 93 = .ok (.iload_n 2, 1) := by decide +kernel
theorem dX1_putIntoGroup_94 : decode cX1_putIntoGroup 94 = .ok (.iaload, 1) := by decide +kernel
theorem dX1_putIntoGroup_95 : decode cX1_putIntoGroup 95 = .ok (.iaload, 1) := by decide +kernel
theorem dX1_putIntoGroup_96 : decode cX1_putIntoGroup 96 = .ok (.if_icmp .le 25, 3) := by decide +kernel
theorem dX1_putIntoGroup_99 : decode cX1_putIntoGroup 99 = .ok (.aload_n 0, 1) := by decide +kernel
theorem dX1_putIntoGroup_100 : decode cX1_putIntoGroup 100 = .ok (.getfield 44, 3) := by decide +kernel
theorem dX1_putIntoGroup_103 : decode cX1_putIntoGroup 103 = .ok (.iload_n 2, 1) := by decide +kernel
theorem dX1_putIntoGroup_104 : decode cX1_putIntoGroup 104 = .ok (.aload_n 0, 1) := by decide +kernel
theorem dX1_putIntoGroup_105 : decode cX1_putIntoGroup 105 = .ok (.getfield 41, 3) := by decide +kernel
theorem dX1_putIntoGroup_108 : decode cX1_putIntoGroup 108 = .ok (.iload_n 2, 1) := by decide +kernel
theorem dX1_putIntoGroup_109 : decode cX1_putIntoGroup 109 = .ok (.iaload, 1) := by decide +kernel
theorem dX1_putIntoGroup_110 : decode cX1_putIntoGroup 110 = .ok (.iastore, 1) := by decide +kernel
theorem dX1_putIntoGroup_111 : decode cX1_putIntoGroup 111 = .ok (.aload_n 0, 1) := by decide +kernel
theorem dX1_putIntoGroup_112 : decode cX1_putIntoGroup 112 = .ok (.getfield 41, 3) := by decide +kernel
theorem dX1_putIntoGroup_115 : decode cX1_putIntoGroup 115 = .ok (.iload_n 2, 1) := by decide +kernel
theorem dX1_putIntoGroup_116 : decode cX1_putIntoGroup 116 = .ok (.iload_n 1, 1) := by decide +kernel
theorem dX1_putIntoGroup_117 : decode cX1_putIntoGroup 117 = .ok (.iastore, 1) := by decide +kernel
theorem dX1_putIntoGroup_118 : decode cX1_putIntoGroup 118 = .ok (.goto 39, 3) := by decide +kernel
theorem dX1_putIntoGroup_121 : decode cX1_putIntoGroup 121 = .ok (.aload_n 0, 1) := by decide +kernel
theorem dX1_putIntoGroup_122 : decode cX1_putIntoGroup 122 = .ok (.getfield 44, 3) := by decide +kernel
theorem dX1_putIntoGroup_125 : decode cX1_putIntoGroup 125 = .ok (.iload_n 2, 1) := by decide +kernel
theorem dX1_putIntoGroup_126 : decode cX1_putIntoGroup 126 = .ok (.iaload, 1) := by decide +kernel
theorem dX1_putIntoGroup_127 : decode cX1_putIntoGroup 127 = .ok (.ifCond .eq 23, 3) := by decide +kernel
theorem dX1_putIntoGroup_130 : decode cX1_putIntoGroup 130 = .ok (.aload_n 0, 1) := by decide +kernel
theorem dX1_putIntoGroup_131 : decode cX1_putIntoGroup 131 = .ok (.getfield 19, 3) := by decide +kernel
theorem dX1_putIntoGroup_134 : decode cX1_putIntoGroup 134 = .ok (.iload_n 1, 1) := by decide +kernel
theorem dX1_putIntoGroup_135 : decode cX1_putIntoGroup 135 = .ok (.iaload, 1) := by decide +kernel
theorem dX1_putIntoGroup_136 : decode cX1_putIntoGroup 136 = .ok (.aload_n 0, 1) := by decide +kernel
theorem dX1_putIntoGroup_137 : decode cX1_putIntoGroup 137 = .ok (.getfield 19, 3) := by decide +kernel
theorem dX1_putIntoGroup_140 : decode cX1_putIntoGroup 140 = .ok (.aload_n 0, 1) := by decide +kernel
theorem dX1_putIntoGroup_141 : decode cX1_putIntoGroup 141 = .ok (.getfield 44, 3) := by decide +kernel
theorem dX1_putIntoGroup_144 : decode cX1_putIntoGroup 144 = .ok (.iload_n 2, 1) := by decide +kernel
theorem dX1_putIntoGroup_145 : decode cX1_putIntoGroup 145 = .ok (.iaload, 1) := by decide +kernel
theorem dX1_putIntoGroup_146 : decode cX1_putIntoGroup 146 = .ok (.iaload, 1) := by decide +kernel
theorem dX1_putIntoGroup_147 : decode cX1_putIntoGroup 147 = .ok (.if_icmp .le 10, 3) := by decide +kernel
theorem dX1_putIntoGroup_150 : decode cX1_putIntoGroup 150 = .ok (.aload_n 0, 1) := by decide +kernel
theorem dX1_putIntoGroup_151 : decode cX1_putIntoGroup 151 = .ok (.getfield 44, 3) := by decide +kernel
theorem dX1_putIntoGroup_154 : decode cX1_putIntoGroup 154 = .ok (.iload_n 2, 1) := by decide +kernel
theorem dX1_putIntoGroup_155 : decode cX1_putIntoGroup 155 = .ok (.iload_n 1, 1) := by decide +kernel
theorem dX1_putIntoGroup_156 : decode cX1_putIntoGroup 156 = .ok (.iastore, 1) := by decide +kernel
theorem dX1_putIntoGroup_157 : decode cX1_putIntoGroup 157 = .ok (.return_, 1) := by decide +kernel
theorem dX1_canBeSaid_0 : decode cX1_canBeSaid 0 = .ok (.iload_n 1, 1) := by decide +kernel
theorem dX1_canBeSaid_1 : decode cX1_canBeSaid 1 = .ok (.ifCond .le 23, 3) := by decide +kernel
theorem dX1_canBeSaid_4 : decode cX1_canBeSaid 4 = .ok (.iload_n 1, 1) := by decide +kernel
theorem dX1_canBeSaid_5 : decode cX1_canBeSaid 5 = .ok (.sipush 1000, 3) := by decide +kernel
theorem dX1_canBeSaid_8 : decode cX1_canBeSaid 8 = .ok (.if_icmp .ge 16, 3) := by decide +kernel
theorem dX1_canBeSaid_11 : decode cX1_canBeSaid 11 = .ok (.aload_n 0, 1) := by decide +kernel
theorem dX1_canBeSaid_12 : decode cX1_canBeSaid 12 = .ok (.getfield 9, 3) := by decide +kernel
theorem dX1_canBeSaid_15 : decode cX1_canBeSaid 15 = .ok (.iload_n 1, 1) := by decide +kernel
theorem dX1_canBeSaid_16 : decode cX1_canBeSaid 16 = .ok (.baload, 1) := by decide +kernel
theorem dX1_canBeSaid_17 : decode cX1_canBeSaid 17 = .ok (.ifCond .eq 7, 3) := by decide +kernel
theorem dX1_canBeSaid_20 : decode cX1_canBeSaid 20 = .ok (.iconst 1, 1) := by decide +kernel
theorem dX1_canBeSaid_21 : decode cX1_canBeSaid 21 = .ok (.goto 4, 3) := by decide +kernel
theorem dX1_canBeSaid_24 : decode cX1_canBeSaid 24 = .ok (.iconst 0, 1) := by decide +kernel
theorem dX1_canBeSaid_25 : decode cX1_canBeSaid 25 = .ok (.ireturn, 1) := by decide +kernel
theorem dX1_countOf_0 : decode cX1_countOf 0 = .ok (.aload_n 0, 1) := by decide +kernel
theorem dX1_countOf_1 : decode cX1_countOf 1 = .ok (.getfield 28, 3) := by decide +kernel
theorem dX1_countOf_4 : decode cX1_countOf 4 = .ok (.iload_n 1, 1) := by decide +kernel
theorem dX1_countOf_5 : decode cX1_countOf 5 = .ok (.laload, 1) := by decide +kernel
theorem dX1_countOf_6 : decode cX1_countOf 6 = .ok (.bipush 8, 2) := by decide +kernel
theorem dX1_countOf_8 : decode cX1_countOf 8 = .ok (.iload_n 2, 1) := by decide +kernel
theorem dX1_countOf_9 : decode cX1_countOf 9 = .ok (.imul, 1) := by decide +kernel
theorem dX1_countOf_10 : decode cX1_countOf 10 = .ok (.lushr, 1) := by decide +kernel
theorem dX1_countOf_11 : decode cX1_countOf 11 = .ok (.l2i, 1) := by decide +kernel
theorem dX1_countOf_12 : decode cX1_countOf 12 = .ok (.sipush 255, 3) := by decide +kernel
theorem dX1_countOf_15 : decode cX1_countOf 15 = .ok (.iand, 1) := by decide +kernel
theorem dX1_countOf_16 : decode cX1_countOf 16 = .ok (.ireturn, 1) := by decide +kernel
theorem dX1_isAnswer_0 : decode cX1_isAnswer 0 = .ok (.aload_n 0, 1) := by decide +kernel
theorem dX1_isAnswer_1 : decode cX1_isAnswer 1 = .ok (.getfield 9, 3) := by decide +kernel
theorem dX1_isAnswer_4 : decode cX1_isAnswer 4 = .ok (.iload_n 2, 1) := by decide +kernel
theorem dX1_isAnswer_5 : decode cX1_isAnswer 5 = .ok (.baload, 1) := by decide +kernel
theorem dX1_isAnswer_6 : decode cX1_isAnswer 6 = .ok (.ifCond .eq 28, 3) := by decide +kernel
theorem dX1_isAnswer_9 : decode cX1_isAnswer 9 = .ok (.iload_n 2, 1) := by decide +kernel
theorem dX1_isAnswer_10 : decode cX1_isAnswer 10 = .ok (.iload_n 1, 1) := by decide +kernel
theorem dX1_isAnswer_11 : decode cX1_isAnswer 11 = .ok (.if_icmp .eq 23, 3) := by decide +kernel
theorem dX1_isAnswer_14 : decode cX1_isAnswer 14 = .ok (.aload_n 0, 1) := by decide +kernel
theorem dX1_isAnswer_15 : decode cX1_isAnswer 15 = .ok (.getfield 28, 3) := by decide +kernel
theorem dX1_isAnswer_18 : decode cX1_isAnswer 18 = .ok (.iload_n 2, 1) := by decide +kernel
theorem dX1_isAnswer_19 : decode cX1_isAnswer 19 = .ok (.laload, 1) := by decide +kernel
theorem dX1_isAnswer_20 : decode cX1_isAnswer 20 = .ok (.aload_n 0, 1) := by decide +kernel
theorem dX1_isAnswer_21 : decode cX1_isAnswer 21 = .ok (.getfield 28, 3) := by decide +kernel
theorem dX1_isAnswer_24 : decode cX1_isAnswer 24 = .ok (.iload_n 1, 1) := by decide +kernel
theorem dX1_isAnswer_25 : decode cX1_isAnswer 25 = .ok (.laload, 1) := by decide +kernel
theorem dX1_isAnswer_26 : decode cX1_isAnswer 26 = .ok (.lcmp, 1) := by decide +kernel
theorem dX1_isAnswer_27 : decode cX1_isAnswer 27 = .ok (.ifCond .ne 7, 3) := by decide +kernel
theorem dX1_isAnswer_30 : decode cX1_isAnswer 30 = .ok (.iconst 1, 1) := by decide +kernel
theorem dX1_isAnswer_31 : decode cX1_isAnswer 31 = .ok (.goto 4, 3) := by decide +kernel
theorem dX1_isAnswer_34 : decode cX1_isAnswer 34 = .ok (.iconst 0, 1) := by decide +kernel
theorem dX1_isAnswer_35 : decode cX1_isAnswer 35 = .ok (.ireturn, 1) := by decide +kernel
theorem dX1_isNear_0 : decode cX1_isNear 0 = .ok (.aload_n 0, 1) := by decide +kernel
theorem dX1_isNear_1 : decode cX1_isNear 1 = .ok (.getfield 9, 3) := by decide +kernel
theorem dX1_isNear_4 : decode cX1_isNear 4 = .ok (.iload_n 2, 1) := by decide +kernel
theorem dX1_isNear_5 : decode cX1_isNear 5 = .ok (.baload, 1) := by decide +kernel
theorem dX1_isNear_6 : decode cX1_isNear 6 = .ok (.ifCond .eq 22, 3) := by decide +kernel
theorem dX1_isNear_9 : decode cX1_isNear 9 = .ok (.iload_n 2, 1) := by decide +kernel
theorem dX1_isNear_10 : decode cX1_isNear 10 = .ok (.iload_n 1, 1) := by decide +kernel
theorem dX1_isNear_11 : decode cX1_isNear 11 = .ok (.if_icmp .eq 17, 3) := by decide +kernel
theorem dX1_isNear_14 : decode cX1_isNear 14 = .ok (.aload_n 0, 1) := by decide +kernel
theorem dX1_isNear_15 : decode cX1_isNear 15 = .ok (.iload_n 1, 1) := by decide +kernel
theorem dX1_isNear_16 : decode cX1_isNear 16 = .ok (.iload_n 2, 1) := by decide +kernel
theorem dX1_isNear_17 : decode cX1_isNear 17 = .ok (.invokevirtual 105, 3) := by decide +kernel
theorem dX1_isNear_20 : decode cX1_isNear 20 = .ok (.iload_n 3, 1) := by decide +kernel
theorem dX1_isNear_21 : decode cX1_isNear 21 = .ok (.if_icmp .gt 7, 3) := by decide +kernel
theorem dX1_isNear_24 : decode cX1_isNear 24 = .ok (.iconst 1, 1) := by decide +kernel
theorem dX1_isNear_25 : decode cX1_isNear 25 = .ok (.goto 4, 3) := by decide +kernel
theorem dX1_isNear_28 : decode cX1_isNear 28 = .ok (.iconst 0, 1) := by decide +kernel
theorem dX1_isNear_29 : decode cX1_isNear 29 = .ok (.ireturn, 1) := by decide +kernel
theorem dX1_difference_0 : decode cX1_difference 0 = .ok (.iconst 0, 1) := by decide +kernel
theorem dX1_difference_1 : decode cX1_difference 1 = .ok (.istore_n 3, 1) := by decide +kernel
theorem dX1_difference_2 : decode cX1_difference 2 = .ok (.iconst 0, 1) := by decide +kernel
theorem dX1_difference_3 : decode cX1_difference 3 = .ok (.istore 4, 2) := by decide +kernel
theorem dX1_difference_5 : decode cX1_difference 5 = .ok (.iload 4, 2) := by decide +kernel
theorem dX1_difference_7 : decode cX1_difference 7 = .ok (.bipush 8, 2) := by decide +kernel
theorem dX1_difference_9 : decode cX1_difference 9 = .ok (.if_icmp .ge 30, 3) := by decide +kernel
theorem dX1_difference_12 : decode cX1_difference 12 = .ok (.iload_n 3, 1) := by decide +kernel
theorem dX1_difference_13 : decode cX1_difference 13 = .ok (.aload_n 0, 1) := by decide +kernel
theorem dX1_difference_14 : decode cX1_difference 14 = .ok (.iload_n 1, 1) := by decide +kernel
theorem dX1_difference_15 : decode cX1_difference 15 = .ok (.iload 4, 2) := by decide +kernel
theorem dX1_difference_17 : decode cX1_difference 17 = .ok (.invokevirtual 108, 3) := by decide +kernel
theorem dX1_difference_20 : decode cX1_difference 20 = .ok (.aload_n 0, 1) := by decide +kernel
theorem dX1_difference_21 : decode cX1_difference 21 = .ok (.iload_n 2, 1) := by decide +kernel
theorem dX1_difference_22 : decode cX1_difference 22 = .ok (.iload 4, 2) := by decide +kernel
theorem dX1_difference_24 : decode cX1_difference 24 = .ok (.invokevirtual 108, 3) := by decide +kernel
theorem dX1_difference_27 : decode cX1_difference 27 = .ok (.isub, 1) := by decide +kernel
theorem dX1_difference_28 : decode cX1_difference 28 = .ok (.invokestatic 111, 3) := by decide +kernel
theorem dX1_difference_31 : decode cX1_difference 31 = .ok (.iadd, 1) := by decide +kernel
theorem dX1_difference_32 : decode cX1_difference 32 = .ok (.istore_n 3, 1) := by decide +kernel
theorem dX1_difference_33 : decode cX1_difference 33 = .ok (.iinc 4 1, 3) := by decide +kernel
theorem dX1_difference_36 : decode cX1_difference 36 = .ok (.goto (-31), 3) := by decide +kernel
theorem dX1_difference_39 : decode cX1_difference 39 = .ok (.iload_n 3, 1) := by decide +kernel
theorem dX1_difference_40 : decode cX1_difference 40 = .ok (.ireturn, 1) := by decide +kernel
theorem dX1_mostOwn_0 : decode cX1_mostOwn 0 = .ok (.bipush (-9), 2) := by decide +kernel
theorem dX1_mostOwn_2 : decode cX1_mostOwn 2 = .ok (.istore_n 1, 1) := by decide +kernel
theorem dX1_mostOwn_3 : decode cX1_mostOwn 3 = .ok (.iconst 1, 1) := by decide +kernel
theorem dX1_mostOwn_4 : decode cX1_mostOwn 4 = .ok (.istore_n 2, 1) := by decide +kernel
theorem dX1_mostOwn_5 : decode cX1_mostOwn 5 = .ok (.iload_n 2, 1) := by decide +kernel
theorem dX1_mostOwn_6 : decode cX1_mostOwn 6 = .ok (.sipush 1000, 3) := by decide +kernel
theorem dX1_mostOwn_9 : decode cX1_mostOwn 9 = .ok (.if_icmp .ge 29, 3) := by decide +kernel
theorem dX1_mostOwn_12 : decode cX1_mostOwn 12 = .ok (.aload_n 0, 1) := by decide +kernel
theorem dX1_mostOwn_13 : decode cX1_mostOwn 13 = .ok (.getfield 9, 3) := by decide +kernel
theorem dX1_mostOwn_16 : decode cX1_mostOwn 16 = .ok (.iload_n 2, 1) := by decide +kernel
theorem dX1_mostOwn_17 : decode cX1_mostOwn 17 = .ok (.baload, 1) := by decide +kernel
theorem dX1_mostOwn_18 : decode cX1_mostOwn 18 = .ok (.ifCond .eq 14, 3) := by decide +kernel
theorem dX1_mostOwn_21 : decode cX1_mostOwn 21 = .ok (.iload_n 1, 1) := by decide +kernel
theorem dX1_mostOwn_22 : decode cX1_mostOwn 22 = .ok (.aload_n 0, 1) := by decide +kernel
theorem dX1_mostOwn_23 : decode cX1_mostOwn 23 = .ok (.getfield 19, 3) := by decide +kernel
theorem dX1_mostOwn_26 : decode cX1_mostOwn 26 = .ok (.iload_n 2, 1) := by decide +kernel
theorem dX1_mostOwn_27 : decode cX1_mostOwn 27 = .ok (.iaload, 1) := by decide +kernel
theorem dX1_mostOwn_28 : decode cX1_mostOwn 28 = .ok (.invokestatic 117, 3) := by decide +kernel
theorem dX1_mostOwn_31 : decode cX1_mostOwn 31 = .ok (.istore_n 1, 1) := by decide +kernel
theorem dX1_mostOwn_32 : decode cX1_mostOwn 32 = .ok (.iinc 2 1, 3) := by decide +kernel
theorem dX1_mostOwn_35 : decode cX1_mostOwn 35 = .ok (.goto (-30), 3) := by decide +kernel
theorem dX1_mostOwn_38 : decode cX1_mostOwn 38 = .ok (.iload_n 1, 1) := by decide +kernel
theorem dX1_mostOwn_39 : decode cX1_mostOwn 39 = .ok (.ireturn, 1) := by decide +kernel
theorem dX1_numberAt_0 : decode cX1_numberAt 0 = .ok (.iconst 0, 1) := by decide +kernel
theorem dX1_numberAt_1 : decode cX1_numberAt 1 = .ok (.istore_n 2, 1) := by decide +kernel
theorem dX1_numberAt_2 : decode cX1_numberAt 2 = .ok (.iconst 1, 1) := by decide +kernel
theorem dX1_numberAt_3 : decode cX1_numberAt 3 = .ok (.istore_n 3, 1) := by decide +kernel
theorem dX1_numberAt_4 : decode cX1_numberAt 4 = .ok (.iload_n 3, 1) := by decide +kernel
theorem dX1_numberAt_5 : decode cX1_numberAt 5 = .ok (.sipush 1000, 3) := by decide +kernel
theorem dX1_numberAt_8 : decode cX1_numberAt 8 = .ok (.if_icmp .ge 28, 3) := by decide +kernel
theorem dX1_numberAt_11 : decode cX1_numberAt 11 = .ok (.aload_n 0, 1) := by decide +kernel
theorem dX1_numberAt_12 : decode cX1_numberAt 12 = .ok (.getfield 9, 3) := by decide +kernel
theorem dX1_numberAt_15 : decode cX1_numberAt 15 = .ok (.iload_n 3, 1) := by decide +kernel
theorem dX1_numberAt_16 : decode cX1_numberAt 16 = .ok (.baload, 1) := by decide +kernel
theorem dX1_numberAt_17 : decode cX1_numberAt 17 = .ok (.ifCond .eq 13, 3) := by decide +kernel
theorem dX1_numberAt_20 : decode cX1_numberAt 20 = .ok (.iload_n 2, 1) := by decide +kernel
theorem dX1_numberAt_21 : decode cX1_numberAt 21 = .ok (.iload_n 1, 1) := by decide +kernel
theorem dX1_numberAt_22 : decode cX1_numberAt 22 = .ok (.if_icmp .ne 5, 3) := by decide +kernel
theorem dX1_numberAt_25 : decode cX1_numberAt 25 = .ok (.iload_n 3, 1) := by decide +kernel
theorem dX1_numberAt_26 : decode cX1_numberAt 26 = .ok (.ireturn, 1) := by decide +kernel
theorem dX1_numberAt_27 : decode cX1_numberAt 27 = .ok (.iinc 2 1, 3) := by decide +kernel
theorem dX1_numberAt_30 : decode cX1_numberAt 30 = .ok (.iinc 3 1, 3) := by decide +kernel
theorem dX1_numberAt_33 : decode cX1_numberAt 33 = .ok (.goto (-29), 3) := by decide +kernel
theorem dX1_numberAt_36 : decode cX1_numberAt 36 = .ok (.bipush (-5), 2) := by decide +kernel
theorem dX1_numberAt_38 : decode cX1_numberAt 38 = .ok (.ireturn, 1) := by decide +kernel
theorem dX1_countAnswers_0 : decode cX1_countAnswers 0 = .ok (.iconst 0, 1) := by decide +kernel
theorem dX1_countAnswers_1 : decode cX1_countAnswers 1 = .ok (.istore_n 3, 1) := by decide +kernel
theorem dX1_countAnswers_2 : decode cX1_countAnswers 2 = .ok (.iconst 1, 1) := by decide +kernel
theorem dX1_countAnswers_3 : decode cX1_countAnswers 3 = .ok (.istore 4, 2) := by decide +kernel
theorem dX1_countAnswers_5 : decode cX1_countAnswers 5 = .ok (.iload 4, 2) := by decide +kernel
theorem dX1_countAnswers_7 : decode cX1_countAnswers 7 = .ok (.sipush 1000, 3) := by decide +kernel
theorem dX1_countAnswers_10 : decode cX1_countAnswers 10 = .ok (.if_icmp .ge 23, 3) := by decide +kernel
theorem dX1_countAnswers_13 : decode cX1_countAnswers 13 = .ok (.aload_n 0, 1) := by decide +kernel
theorem dX1_countAnswers_14 : decode cX1_countAnswers 14 = .ok (.iload_n 1, 1) := by decide +kernel
theorem dX1_countAnswers_15 : decode cX1_countAnswers 15 = .ok (.iload 4, 2) := by decide +kernel
theorem dX1_countAnswers_17 : decode cX1_countAnswers 17 = .ok (.iload_n 2, 1) := by decide +kernel
theorem dX1_countAnswers_18 : decode cX1_countAnswers 18 = .ok (.invokevirtual 120, 3) := by decide +kernel
theorem dX1_countAnswers_21 : decode cX1_countAnswers 21 = .ok (.ifCond .eq 6, 3) := by decide +kernel
theorem dX1_countAnswers_24 : decode cX1_countAnswers 24 = .ok (.iinc 3 1, 3) := by decide +kernel
theorem dX1_countAnswers_27 : decode cX1_countAnswers 27 = .ok (.iinc 4 1, 3) := by decide +kernel
theorem dX1_countAnswers_30 : decode cX1_countAnswers 30 = .ok (.goto (-25), 3) := by decide +kernel
theorem dX1_countAnswers_33 : decode cX1_countAnswers 33 = .ok (.iload_n 3, 1) := by decide +kernel
theorem dX1_countAnswers_34 : decode cX1_countAnswers 34 = .ok (.ireturn, 1) := by decide +kernel
theorem dX1_findBest_0 : decode cX1_findBest 0 = .ok (.bipush (-9), 2) := by decide +kernel
theorem dX1_findBest_2 : decode cX1_findBest 2 = .ok (.istore_n 3, 1) := by decide +kernel
theorem dX1_findBest_3 : decode cX1_findBest 3 = .ok (.iconst (-1), 1) := by decide +kernel
theorem dX1_findBest_4 : decode cX1_findBest 4 = .ok (.istore 4, 2) := by decide +kernel
theorem dX1_findBest_6 : decode cX1_findBest 6 = .ok (.iconst 1, 1) := by decide +kernel
theorem dX1_findBest_7 : decode cX1_findBest 7 = .ok (.istore 5, 2) := by decide +kernel
theorem dX1_findBest_9 : decode cX1_findBest 9 = .ok (.iload 5, 2) := by decide +kernel
theorem dX1_findBest_11 : decode cX1_findBest 11 = .ok (.sipush 1000, 3) := by decide +kernel
theorem dX1_findBest_14 : decode cX1_findBest 14 = .ok (.if_icmp .ge 44, 3) := by decide +kernel
theorem dX1_findBest_17 : decode cX1_findBest 17 = .ok (.aload_n 0, 1) := by decide +kernel
theorem dX1_findBest_18 : decode cX1_findBest 18 = .ok (.iload_n 1, 1) := by decide +kernel
theorem dX1_findBest_19 : decode cX1_findBest 19 = .ok (.iload 5, 2) := by decide +kernel
theorem dX1_findBest_21 : decode cX1_findBest 21 = .ok (.iload_n 2, 1) := by decide +kernel
theorem dX1_findBest_22 : decode cX1_findBest 22 = .ok (.invokevirtual 120, 3) := by decide +kernel
theorem dX1_findBest_25 : decode cX1_findBest 25 = .ok (.ifCond .eq 27, 3) := by decide +kernel
theorem dX1_findBest_28 : decode cX1_findBest 28 = .ok (.aload_n 0, 1) := by decide +kernel
theorem dX1_findBest_29 : decode cX1_findBest 29 = .ok (.getfield 19, 3) := by decide +kernel
theorem dX1_findBest_32 : decode cX1_findBest 32 = .ok (.iload 5, 2) := by decide +kernel
theorem dX1_findBest_34 : decode cX1_findBest 34 = .ok (.iaload, 1) := by decide +kernel
theorem dX1_findBest_35 : decode cX1_findBest 35 = .ok (.iload 4, 2) := by decide +kernel
theorem dX1_findBest_37 : decode cX1_findBest 37 = .ok (.if_icmp .le 15, 3) := by decide +kernel
theorem dX1_findBest_40 : decode cX1_findBest 40 = .ok (.iload 5, 2) := by decide +kernel
theorem dX1_findBest_42 : decode cX1_findBest 42 = .ok (.istore_n 3, 1) := by decide +kernel
theorem dX1_findBest_43 : decode cX1_findBest 43 = .ok (.aload_n 0, 1) := by decide +kernel
theorem dX1_findBest_44 : decode cX1_findBest 44 = .ok (.getfield 19, 3) := by decide +kernel
theorem dX1_findBest_47 : decode cX1_findBest 47 = .ok (.iload 5, 2) := by decide +kernel
theorem dX1_findBest_49 : decode cX1_findBest 49 = .ok (.iaload, 1) := by decide +kernel
theorem dX1_findBest_50 : decode cX1_findBest 50 = .ok (.istore 4, 2) := by decide +kernel
theorem dX1_findBest_52 : decode cX1_findBest 52 = .ok (.iinc 5 1, 3) := by decide +kernel
theorem dX1_findBest_55 : decode cX1_findBest 55 = .ok (.goto (-46), 3) := by decide +kernel
theorem dX1_findBest_58 : decode cX1_findBest 58 = .ok (.iload_n 3, 1) := by decide +kernel
theorem dX1_findBest_59 : decode cX1_findBest 59 = .ok (.ireturn, 1) := by decide +kernel
theorem dX1_countMute_0 : decode cX1_countMute 0 = .ok (.iconst 0, 1) := by decide +kernel
theorem dX1_countMute_1 : decode cX1_countMute 1 = .ok (.istore_n 1, 1) := by decide +kernel
theorem dX1_countMute_2 : decode cX1_countMute 2 = .ok (.iconst 1, 1) := by decide +kernel
theorem dX1_countMute_3 : decode cX1_countMute 3 = .ok (.istore_n 2, 1) := by decide +kernel
theorem dX1_countMute_4 : decode cX1_countMute 4 = .ok (.iload_n 2, 1) := by decide +kernel
theorem dX1_countMute_5 : decode cX1_countMute 5 = .ok (.sipush 1000, 3) := by decide +kernel
theorem dX1_countMute_8 : decode cX1_countMute 8 = .ok (.if_icmp .ge 30, 3) := by decide +kernel
theorem dX1_countMute_11 : decode cX1_countMute 11 = .ok (.aload_n 0, 1) := by decide +kernel
theorem dX1_countMute_12 : decode cX1_countMute 12 = .ok (.getfield 9, 3) := by decide +kernel
theorem dX1_countMute_15 : decode cX1_countMute 15 = .ok (.iload_n 2, 1) := by decide +kernel
theorem dX1_countMute_16 : decode cX1_countMute 16 = .ok (.baload, 1) := by decide +kernel
theorem dX1_countMute_17 : decode cX1_countMute 17 = .ok (.ifCond .eq 15, 3) := by decide +kernel
theorem dX1_countMute_20 : decode cX1_countMute 20 = .ok (.aload_n 0, 1) := by decide +kernel
theorem dX1_countMute_21 : decode cX1_countMute 21 = .ok (.getfield 35, 3) := by decide +kernel
theorem dX1_countMute_24 : decode cX1_countMute 24 = .ok (.iload_n 2, 1) := by decide +kernel
theorem dX1_countMute_25 : decode cX1_countMute 25 = .ok (.iaload, 1) := by decide +kernel
theorem dX1_countMute_26 : decode cX1_countMute 26 = .ok (.ifCond .ne 6, 3) := by decide +kernel
theorem dX1_countMute_29 : decode cX1_countMute 29 = .ok (.iinc 1 1, 3) := by decide +kernel
theorem dX1_countMute_32 : decode cX1_countMute 32 = .ok (.iinc 2 1, 3) := by decide +kernel
theorem dX1_countMute_35 : decode cX1_countMute 35 = .ok (.goto (-31), 3) := by decide +kernel
theorem dX1_countMute_38 : decode cX1_countMute 38 = .ok (.iload_n 1, 1) := by decide +kernel
theorem dX1_countMute_39 : decode cX1_countMute 39 = .ok (.ireturn, 1) := by decide +kernel
theorem dX1_firstMute_0 : decode cX1_firstMute 0 = .ok (.iconst 1, 1) := by decide +kernel
theorem dX1_firstMute_1 : decode cX1_firstMute 1 = .ok (.istore_n 1, 1) := by decide +kernel
theorem dX1_firstMute_2 : decode cX1_firstMute 2 = .ok (.iload_n 1, 1) := by decide +kernel
theorem dX1_firstMute_3 : decode cX1_firstMute 3 = .ok (.sipush 1000, 3) := by decide +kernel
theorem dX1_firstMute_6 : decode cX1_firstMute 6 = .ok (.if_icmp .ge 29, 3) := by decide +kernel
theorem dX1_firstMute_9 : decode cX1_firstMute 9 = .ok (.aload_n 0, 1) := by decide +kernel
theorem dX1_firstMute_10 : decode cX1_firstMute 10 = .ok (.getfield 9, 3) := by decide +kernel
theorem dX1_firstMute_13 : decode cX1_firstMute 13 = .ok (.iload_n 1, 1) := by decide +kernel
theorem dX1_firstMute_14 : decode cX1_firstMute 14 = .ok (.baload, 1) := by decide +kernel
theorem dX1_firstMute_15 : decode cX1_firstMute 15 = .ok (.ifCond .eq 14, 3) := by decide +kernel
theorem dX1_firstMute_18 : decode cX1_firstMute 18 = .ok (.aload_n 0, 1) := by decide +kernel
theorem dX1_firstMute_19 : decode cX1_firstMute 19 = .ok (.getfield 35, 3) := by decide +kernel
theorem dX1_firstMute_22 : decode cX1_firstMute 22 = .ok (.iload_n 1, 1) := by decide +kernel
theorem dX1_firstMute_23 : decode cX1_firstMute 23 = .ok (.iaload, 1) := by decide +kernel
theorem dX1_firstMute_24 : decode cX1_firstMute 24 = .ok (.ifCond .ne 5, 3) := by decide +kernel
theorem dX1_firstMute_27 : decode cX1_firstMute 27 = .ok (.iload_n 1, 1) := by decide +kernel
theorem dX1_firstMute_28 : decode cX1_firstMute 28 = .ok (.ireturn, 1) := by decide +kernel
theorem dX1_firstMute_29 : decode cX1_firstMute 29 = .ok (.iinc 1 1, 3) := by decide +kernel
theorem dX1_firstMute_32 : decode cX1_firstMute 32 = .ok (.goto (-30), 3) := by decide +kernel
theorem dX1_firstMute_35 : decode cX1_firstMute 35 = .ok (.bipush (-9), 2) := by decide +kernel
theorem dX1_firstMute_37 : decode cX1_firstMute 37 = .ok (.ireturn, 1) := by decide +kernel
theorem dX1_bestToWrite_0 : decode cX1_bestToWrite 0 = .ok (.iconst 0, 1) := by decide +kernel
theorem dX1_bestToWrite_1 : decode cX1_bestToWrite 1 = .ok (.istore_n 1, 1) := by decide +kernel
theorem dX1_bestToWrite_2 : decode cX1_bestToWrite 2 = .ok (.iconst (-1), 1) := by decide +kernel
theorem dX1_bestToWrite_3 : decode cX1_bestToWrite 3 = .ok (.istore_n 2, 1) := by decide +kernel
theorem dX1_bestToWrite_4 : decode cX1_bestToWrite 4 = .ok (.iconst 1, 1) := by decide +kernel
theorem dX1_bestToWrite_5 : decode cX1_bestToWrite 5 = .ok (.istore_n 3, 1) := by decide +kernel
theorem dX1_bestToWrite_6 : decode cX1_bestToWrite 6 = .ok (.iload_n 3, 1) := by decide +kernel
theorem dX1_bestToWrite_7 : decode cX1_bestToWrite 7 = .ok (.sipush 1000, 3) := by decide +kernel
theorem dX1_bestToWrite_10 : decode cX1_bestToWrite 10 = .ok (.if_icmp .ge 56, 3) := by decide +kernel
theorem dX1_bestToWrite_13 : decode cX1_bestToWrite 13 = .ok (.aload_n 0, 1) := by decide +kernel
theorem dX1_bestToWrite_14 : decode cX1_bestToWrite 14 = .ok (.getfield 9, 3) := by decide +kernel
theorem dX1_bestToWrite_17 : decode cX1_bestToWrite 17 = .ok (.iload_n 3, 1) := by decide +kernel
theorem dX1_bestToWrite_18 : decode cX1_bestToWrite 18 = .ok (.baload, 1) := by decide +kernel
theorem dX1_bestToWrite_19 : decode cX1_bestToWrite 19 = .ok (.ifCond .eq 41, 3) := by decide +kernel
theorem dX1_bestToWrite_22 : decode cX1_bestToWrite 22 = .ok (.aload_n 0, 1) := by decide +kernel
theorem dX1_bestToWrite_23 : decode cX1_bestToWrite 23 = .ok (.getfield 35, 3) := by decide +kernel
theorem dX1_bestToWrite_26 : decode cX1_bestToWrite 26 = .ok (.iload_n 3, 1) := by decide +kernel
theorem dX1_bestToWrite_27 : decode cX1_bestToWrite 27 = .ok (.iaload, 1) := by decide +kernel
theorem dX1_bestToWrite_28 : decode cX1_bestToWrite 28 = .ok (.ifCond .eq 32, 3) := by decide +kernel
theorem dX1_bestToWrite_31 : decode cX1_bestToWrite 31 = .ok (.aload_n 0, 1) := by decide +kernel
theorem dX1_bestToWrite_32 : decode cX1_bestToWrite 32 = .ok (.getfield 22, 3) := by decide +kernel
theorem dX1_bestToWrite_35 : decode cX1_bestToWrite 35 = .ok (.aload_n 0, 1) := by decide +kernel
theorem dX1_bestToWrite_36 : decode cX1_bestToWrite 36 = .ok (.getfield 35, 3) := by decide +kernel
theorem dX1_bestToWrite_39 : decode cX1_bestToWrite 39 = .ok (.iload_n 3, 1) := by decide +kernel
theorem dX1_bestToWrite_40 : decode cX1_bestToWrite 40 = .ok (.iaload, 1) := by decide +kernel
theorem dX1_bestToWrite_41 : decode cX1_bestToWrite 41 = .ok (.iaload, 1) := by decide +kernel
theorem dX1_bestToWrite_42 : decode cX1_bestToWrite 42 = .ok (.iload_n 2, 1) := by decide +kernel
theorem dX1_bestToWrite_43 : decode cX1_bestToWrite 43 = .ok (.if_icmp .le 17, 3) := by decide +kernel
theorem dX1_bestToWrite_46 : decode cX1_bestToWrite 46 = .ok (.iload_n 3, 1) := by decide +kernel
theorem dX1_bestToWrite_47 : decode cX1_bestToWrite 47 = .ok (.istore_n 1, 1) := by decide +kernel
theorem dX1_bestToWrite_48 : decode cX1_bestToWrite 48 = .ok (.aload_n 0, 1) := by decide +kernel
theorem dX1_bestToWrite_49 : decode cX1_bestToWrite 49 = .ok (.getfield 22, 3) := by decide +kernel
theorem dX1_bestToWrite_52 : decode cX1_bestToWrite 52 = .ok (.aload_n 0, 1) := by decide +kernel
theorem dX1_bestToWrite_53 : decode cX1_bestToWrite 53 = .ok (.getfield 35, 3) := by decide +kernel
theorem dX1_bestToWrite_56 : decode cX1_bestToWrite 56 = .ok (.iload_n 3, 1) := by decide +kernel
theorem dX1_bestToWrite_57 : decode cX1_bestToWrite 57 = .ok (.iaload, 1) := by decide +kernel
theorem dX1_bestToWrite_58 : decode cX1_bestToWrite 58 = .ok (.iaload, 1) := by decide +kernel
theorem dX1_bestToWrite_59 : decode cX1_bestToWrite 59 = .ok (.istore_n 2, 1) := by decide +kernel
theorem dX1_bestToWrite_60 : decode cX1_bestToWrite 60 = .ok (.iinc 3 1, 3) := by decide +kernel
theorem dX1_bestToWrite_63 : decode cX1_bestToWrite 63 = .ok (.goto (-57), 3) := by decide +kernel
theorem dX1_bestToWrite_66 : decode cX1_bestToWrite 66 = .ok (.iload_n 1, 1) := by decide +kernel
theorem dX1_bestToWrite_67 : decode cX1_bestToWrite 67 = .ok (.ireturn, 1) := by decide +kernel
theorem dX1_leastCommonSign_0 : decode cX1_leastCommonSign 0 = .ok (.sipush 255, 3) := by decide +kernel
theorem dX1_leastCommonSign_3 : decode cX1_leastCommonSign 3 = .ok (.istore_n 3, 1) := by decide +kernel
theorem dX1_leastCommonSign_4 : decode cX1_leastCommonSign 4 = .ok (.iconst 1, 1) := by decide +kernel
theorem dX1_leastCommonSign_5 : decode cX1_leastCommonSign 5 = .ok (.istore 4, 2) := by decide +kernel
theorem dX1_leastCommonSign_7 : decode cX1_leastCommonSign 7 = .ok (.iconst 1, 1) := by decide +kernel
theorem dX1_leastCommonSign_8 : decode cX1_leastCommonSign 8 = .ok (.istore 5, 2) := by decide +kernel
theorem dX1_leastCommonSign_10 : decode cX1_leastCommonSign 10 = .ok (.iload 5, 2) := by decide +kernel
theorem dX1_leastCommonSign_12 : decode cX1_leastCommonSign 12 = .ok (.sipush 1000, 3) := by decide +kernel
theorem dX1_leastCommonSign_15 : decode cX1_leastCommonSign 15 = .ok (.if_icmp .ge 33, 3) := by decide +kernel
theorem dX1_leastCommonSign_18 : decode cX1_leastCommonSign 18 = .ok (.aload_n 0, 1) := by decide +kernel
theorem dX1_leastCommonSign_19 : decode cX1_leastCommonSign 19 = .ok (.iload_n 1, 1) := by decide +kernel
theorem dX1_leastCommonSign_20 : decode cX1_leastCommonSign 20 = .ok (.iload 5, 2) := by decide +kernel
theorem dX1_leastCommonSign_22 : decode cX1_leastCommonSign 22 = .ok (.iload_n 2, 1) := by decide +kernel
theorem dX1_leastCommonSign_23 : decode cX1_leastCommonSign 23 = .ok (.invokevirtual 120, 3) := by decide +kernel
theorem dX1_leastCommonSign_26 : decode cX1_leastCommonSign 26 = .ok (.ifCond .eq 16, 3) := by decide +kernel
theorem dX1_leastCommonSign_29 : decode cX1_leastCommonSign 29 = .ok (.iload_n 3, 1) := by decide +kernel
theorem dX1_leastCommonSign_30 : decode cX1_leastCommonSign 30 = .ok (.aload_n 0, 1) := by decide +kernel
theorem dX1_leastCommonSign_31 : decode cX1_leastCommonSign 31 = .ok (.getfield 32, 3) := by decide +kernel
theorem dX1_leastCommonSign_34 : decode cX1_leastCommonSign 34 = .ok (.iload 5, 2) := by decide +kernel
theorem dX1_leastCommonSign_36 : decode cX1_leastCommonSign 36 = .ok (.iaload, 1) := by decide +kernel
theorem dX1_leastCommonSign_37 : decode cX1_leastCommonSign 37 = .ok (.iand, 1) := by decide +kernel
theorem dX1_leastCommonSign_38 : decode cX1_leastCommonSign 38 = .ok (.istore_n 3, 1) := by decide +kernel
theorem dX1_leastCommonSign_39 : decode cX1_leastCommonSign 39 = .ok (.iconst 0, 1) := by decide +kernel
theorem dX1_leastCommonSign_40 : decode cX1_leastCommonSign 40 = .ok (.istore 4, 2) := by decide +kernel
theorem dX1_leastCommonSign_42 : decode cX1_leastCommonSign 42 = .ok (.iinc 5 1, 3) := by decide +kernel
theorem dX1_leastCommonSign_45 : decode cX1_leastCommonSign 45 = .ok (.goto (-35), 3) := by decide +kernel
theorem dX1_leastCommonSign_48 : decode cX1_leastCommonSign 48 = .ok (.iload 4, 2) := by decide +kernel
theorem dX1_leastCommonSign_50 : decode cX1_leastCommonSign 50 = .ok (.ifCond .eq 6, 3) := by decide +kernel
theorem dX1_leastCommonSign_53 : decode cX1_leastCommonSign 53 = .ok (.bipush (-5), 2) := by decide +kernel
theorem dX1_leastCommonSign_55 : decode cX1_leastCommonSign 55 = .ok (.ireturn, 1) := by decide +kernel
theorem dX1_leastCommonSign_56 : decode cX1_leastCommonSign 56 = .ok (.iconst 0, 1) := by decide +kernel
theorem dX1_leastCommonSign_57 : decode cX1_leastCommonSign 57 = .ok (.istore 5, 2) := by decide +kernel
theorem dX1_leastCommonSign_59 : decode cX1_leastCommonSign 59 = .ok (.iload 5, 2) := by decide +kernel
theorem dX1_leastCommonSign_61 : decode cX1_leastCommonSign 61 = .ok (.bipush 8, 2) := by decide +kernel
theorem dX1_leastCommonSign_63 : decode cX1_leastCommonSign 63 = .ok (.if_icmp .ge 22, 3) := by decide +kernel
theorem dX1_leastCommonSign_66 : decode cX1_leastCommonSign 66 = .ok (.iload_n 3, 1) := by decide +kernel
theorem dX1_leastCommonSign_67 : decode cX1_leastCommonSign 67 = .ok (.iload 5, 2) := by decide +kernel
theorem dX1_leastCommonSign_69 : decode cX1_leastCommonSign 69 = .ok (.ishr, 1) := by decide +kernel
theorem dX1_leastCommonSign_70 : decode cX1_leastCommonSign 70 = .ok (.iconst 1, 1) := by decide +kernel
theorem dX1_leastCommonSign_71 : decode cX1_leastCommonSign 71 = .ok (.iand, 1) := by decide +kernel
theorem dX1_leastCommonSign_72 : decode cX1_leastCommonSign 72 = .ok (.iconst 1, 1) := by decide +kernel
theorem dX1_leastCommonSign_73 : decode cX1_leastCommonSign 73 = .ok (.if_icmp .ne 6, 3) := by decide +kernel
theorem dX1_leastCommonSign_76 : decode cX1_leastCommonSign 76 = .ok (.iload 5, 2) := by decide +kernel
theorem dX1_leastCommonSign_78 : decode cX1_leastCommonSign 78 = .ok (.ireturn, 1) := by decide +kernel
theorem dX1_leastCommonSign_79 : decode cX1_leastCommonSign 79 = .ok (.iinc 5 1, 3) := by decide +kernel
theorem dX1_leastCommonSign_82 : decode cX1_leastCommonSign 82 = .ok (.goto (-23), 3) := by decide +kernel
theorem dX1_leastCommonSign_85 : decode cX1_leastCommonSign 85 = .ok (.bipush (-9), 2) := by decide +kernel
theorem dX1_leastCommonSign_87 : decode cX1_leastCommonSign 87 = .ok (.ireturn, 1) := by decide +kernel
theorem dX1_follow_0 : decode cX1_follow 0 = .ok (.iload_n 1, 1) := by decide +kernel
theorem dX1_follow_1 : decode cX1_follow 1 = .ok (.istore_n 3, 1) := by decide +kernel
theorem dX1_follow_2 : decode cX1_follow 2 = .ok (.iconst 0, 1) := by decide +kernel
theorem dX1_follow_3 : decode cX1_follow 3 = .ok (.istore 4, 2) := by decide +kernel
theorem dX1_follow_5 : decode cX1_follow 5 = .ok (.iload 4, 2) := by decide +kernel
theorem dX1_follow_7 : decode cX1_follow 7 = .ok (.iload_n 2, 1) := by decide +kernel
theorem dX1_follow_8 : decode cX1_follow 8 = .ok (.if_icmp .ge 23, 3) := by decide +kernel
theorem dX1_follow_11 : decode cX1_follow 11 = .ok (.aload_n 0, 1) := by decide +kernel
theorem dX1_follow_12 : decode cX1_follow 12 = .ok (.getfield 35, 3) := by decide +kernel
theorem dX1_follow_15 : decode cX1_follow 15 = .ok (.iload_n 3, 1) := by decide +kernel
theorem dX1_follow_16 : decode cX1_follow 16 = .ok (.iaload, 1) := by decide +kernel
theorem dX1_follow_17 : decode cX1_follow 17 = .ok (.istore_n 3, 1) := by decide +kernel
theorem dX1_follow_18 : decode cX1_follow 18 = .ok (.iload_n 3, 1) := by decide +kernel
theorem dX1_follow_19 : decode cX1_follow 19 = .ok (.ifCond .ne 6, 3) := by decide +kernel
theorem dX1_follow_22 : decode cX1_follow 22 = .ok (.bipush (-9), 2) := by decide +kernel
theorem dX1_follow_24 : decode cX1_follow 24 = .ok (.ireturn, 1) := by decide +kernel
theorem dX1_follow_25 : decode cX1_follow 25 = .ok (.iinc 4 1, 3) := by decide +kernel
theorem dX1_follow_28 : decode cX1_follow 28 = .ok (.goto (-23), 3) := by decide +kernel
theorem dX1_follow_31 : decode cX1_follow 31 = .ok (.iload_n 3, 1) := by decide +kernel
theorem dX1_follow_32 : decode cX1_follow 32 = .ok (.ireturn, 1) := by decide +kernel
theorem dX1_stepsToRing_0 : decode cX1_stepsToRing 0 = .ok (.iload_n 1, 1) := by decide +kernel
theorem dX1_stepsToRing_1 : decode cX1_stepsToRing 1 = .ok (.istore_n 2, 1) := by decide +kernel
theorem dX1_stepsToRing_2 : decode cX1_stepsToRing 2 = .ok (.iconst 1, 1) := by decide +kernel
theorem dX1_stepsToRing_3 : decode cX1_stepsToRing 3 = .ok (.istore_n 3, 1) := by decide +kernel
theorem dX1_stepsToRing_4 : decode cX1_stepsToRing 4 = .ok (.iload_n 3, 1) := by decide +kernel
theorem dX1_stepsToRing_5 : decode cX1_stepsToRing 5 = .ok (.bipush 99, 2) := by decide +kernel
theorem dX1_stepsToRing_7 : decode cX1_stepsToRing 7 = .ok (.if_icmp .gt 58, 3) := by decide +kernel
theorem dX1_stepsToRing_10 : decode cX1_stepsToRing 10 = .ok (.aload_n 0, 1) := by decide +kernel
theorem dX1_stepsToRing_11 : decode cX1_stepsToRing 11 = .ok (.getfield 35, 3) := by decide +kernel
theorem dX1_stepsToRing_14 : decode cX1_stepsToRing 14 = .ok (.iload_n 2, 1) := by decide +kernel
theorem dX1_stepsToRing_15 : decode cX1_stepsToRing 15 = .ok (.iaload, 1) := by decide +kernel
theorem dX1_stepsToRing_16 : decode cX1_stepsToRing 16 = .ok (.istore_n 2, 1) := by decide +kernel
theorem dX1_stepsToRing_17 : decode cX1_stepsToRing 17 = .ok (.iload_n 2, 1) := by decide +kernel
theorem dX1_stepsToRing_18 : decode cX1_stepsToRing 18 = .ok (.ifCond .ne 6, 3) := by decide +kernel
theorem dX1_stepsToRing_21 : decode cX1_stepsToRing 21 = .ok (.bipush (-9), 2) := by decide +kernel
theorem dX1_stepsToRing_23 : decode cX1_stepsToRing 23 = .ok (.ireturn, 1) := by decide +kernel
theorem dX1_stepsToRing_24 : decode cX1_stepsToRing 24 = .ok (.iload_n 1, 1) := by decide +kernel
theorem dX1_stepsToRing_25 : decode cX1_stepsToRing 25 = .ok (.istore 4, 2) := by decide +kernel
theorem dX1_stepsToRing_27 : decode cX1_stepsToRing 27 = .ok (.iconst 0, 1) := by decide +kernel
theorem dX1_stepsToRing_28 : decode cX1_stepsToRing 28 = .ok (.istore 5, 2) := by decide +kernel
theorem dX1_stepsToRing_30 : decode cX1_stepsToRing 30 = .ok (.iload 5, 2) := by decide +kernel
theorem dX1_stepsToRing_32 : decode cX1_stepsToRing 32 = .ok (.iload_n 3, 1) := by decide +kernel
theorem dX1_stepsToRing_33 : decode cX1_stepsToRing 33 = .ok (.if_icmp .ge 26, 3) := by decide +kernel
theorem dX1_stepsToRing_36 : decode cX1_stepsToRing 36 = .ok (.iload 4, 2) := by decide +kernel
theorem dX1_stepsToRing_38 : decode cX1_stepsToRing 38 = .ok (.iload_n 2, 1) := by decide +kernel
theorem dX1_stepsToRing_39 : decode cX1_stepsToRing 39 = .ok (.if_icmp .ne 5, 3) := by decide +kernel
theorem dX1_stepsToRing_42 : decode cX1_stepsToRing 42 = .ok (.iload_n 3, 1) := by decide +kernel
theorem dX1_stepsToRing_43 : decode cX1_stepsToRing 43 = .ok (.ireturn, 1) := by decide +kernel
theorem dX1_stepsToRing_44 : decode cX1_stepsToRing 44 = .ok (.aload_n 0, 1) := by decide +kernel
theorem dX1_stepsToRing_45 : decode cX1_stepsToRing 45 = .ok (.getfield 35, 3) := by decide +kernel
theorem dX1_stepsToRing_48 : decode cX1_stepsToRing 48 = .ok (.iload 4, 2) := by decide +kernel
theorem dX1_stepsToRing_50 : decode cX1_stepsToRing 50 = .ok (.iaload, 1) := by decide +kernel
theorem dX1_stepsToRing_51 : decode cX1_stepsToRing 51 = .ok (.istore 4, 2) := by decide +kernel
theorem dX1_stepsToRing_53 : decode cX1_stepsToRing 53 = .ok (.iinc 5 1, 3) := by decide +kernel
theorem dX1_stepsToRing_56 : decode cX1_stepsToRing 56 = .ok (.goto (-26), 3) := by decide +kernel
theorem dX1_stepsToRing_59 : decode cX1_stepsToRing 59 = .ok (.iinc 3 1, 3) := by decide +kernel
theorem dX1_stepsToRing_62 : decode cX1_stepsToRing 62 = .ok (.goto (-58), 3) := by decide +kernel
theorem dX1_stepsToRing_65 : decode cX1_stepsToRing 65 = .ok (.bipush (-9), 2) := by decide +kernel
theorem dX1_stepsToRing_67 : decode cX1_stepsToRing 67 = .ok (.ireturn, 1) := by decide +kernel
theorem dX1_bestSet_0 : decode cX1_bestSet 0 = .ok (.iconst 0, 1) := by decide +kernel
theorem dX1_bestSet_1 : decode cX1_bestSet 1 = .ok (.istore_n 2, 1) := by decide +kernel
theorem dX1_bestSet_2 : decode cX1_bestSet 2 = .ok (.iconst (-1), 1) := by decide +kernel
theorem dX1_bestSet_3 : decode cX1_bestSet 3 = .ok (.istore_n 3, 1) := by decide +kernel
theorem dX1_bestSet_4 : decode cX1_bestSet 4 = .ok (.iconst 0, 1) := by decide +kernel
theorem dX1_bestSet_5 : decode cX1_bestSet 5 = .ok (.istore 4, 2) := by decide +kernel
theorem dX1_bestSet_7 : decode cX1_bestSet 7 = .ok (.iload 4, 2) := by decide +kernel
theorem dX1_bestSet_9 : decode cX1_bestSet 9 = .ok (.sipush 256, 3) := by decide +kernel
theorem dX1_bestSet_12 : decode cX1_bestSet 12 = .ok (.if_icmp .ge 38, 3) := by decide +kernel
theorem dX1_bestSet_15 : decode cX1_bestSet 15 = .ok (.iload 4, 2) := by decide +kernel
theorem dX1_bestSet_17 : decode cX1_bestSet 17 = .ok (.invokestatic 124, 3) := by decide +kernel
theorem dX1_bestSet_20 : decode cX1_bestSet 20 = .ok (.iload_n 1, 1) := by decide +kernel
theorem dX1_bestSet_21 : decode cX1_bestSet 21 = .ok (.if_icmp .ne 23, 3) := by decide +kernel
theorem dX1_bestSet_24 : decode cX1_bestSet 24 = .ok (.aload_n 0, 1) := by decide +kernel
theorem dX1_bestSet_25 : decode cX1_bestSet 25 = .ok (.iload 4, 2) := by decide +kernel
theorem dX1_bestSet_27 : decode cX1_bestSet 27 = .ok (.invokevirtual 129, 3) := by decide +kernel
theorem dX1_bestSet_30 : decode cX1_bestSet 30 = .ok (.istore 5, 2) := by decide +kernel
theorem dX1_bestSet_32 : decode cX1_bestSet 32 = .ok (.iload 5, 2) := by decide +kernel
theorem dX1_bestSet_34 : decode cX1_bestSet 34 = .ok (.iload_n 3, 1) := by decide +kernel
theorem dX1_bestSet_35 : decode cX1_bestSet 35 = .ok (.if_icmp .le 9, 3) := by decide +kernel
theorem dX1_bestSet_38 : decode cX1_bestSet 38 = .ok (.iload 4, 2) := by decide +kernel
theorem dX1_bestSet_40 : decode cX1_bestSet 40 = .ok (.istore_n 2, 1) := by decide +kernel
theorem dX1_bestSet_41 : decode cX1_bestSet 41 = .ok (.iload 5, 2) := by decide +kernel
theorem dX1_bestSet_43 : decode cX1_bestSet 43 = .ok (.istore_n 3, 1) := by decide +kernel
theorem dX1_bestSet_44 : decode cX1_bestSet 44 = .ok (.iinc 4 1, 3) := by decide +kernel
theorem dX1_bestSet_47 : decode cX1_bestSet 47 = .ok (.goto (-40), 3) := by decide +kernel
theorem dX1_bestSet_50 : decode cX1_bestSet 50 = .ok (.iload_n 2, 1) := by decide +kernel
theorem dX1_bestSet_51 : decode cX1_bestSet 51 = .ok (.ireturn, 1) := by decide +kernel
theorem dX1_countWithin_0 : decode cX1_countWithin 0 = .ok (.iconst 0, 1) := by decide +kernel
theorem dX1_countWithin_1 : decode cX1_countWithin 1 = .ok (.istore_n 2, 1) := by decide +kernel
theorem dX1_countWithin_2 : decode cX1_countWithin 2 = .ok (.iconst 0, 1) := by decide +kernel
theorem dX1_countWithin_3 : decode cX1_countWithin 3 = .ok (.istore_n 3, 1) := by decide +kernel
theorem dX1_countWithin_4 : decode cX1_countWithin 4 = .ok (.iload_n 3, 1) := by decide +kernel
theorem dX1_countWithin_5 : decode cX1_countWithin 5 = .ok (.sipush 256, 3) := by decide +kernel
theorem dX1_countWithin_8 : decode cX1_countWithin 8 = .ok (.if_icmp .ge 26, 3) := by decide +kernel
theorem dX1_countWithin_11 : decode cX1_countWithin 11 = .ok (.iload_n 3, 1) := by decide +kernel
theorem dX1_countWithin_12 : decode cX1_countWithin 12 = .ok (.iload_n 1, 1) := by decide +kernel
theorem dX1_countWithin_13 : decode cX1_countWithin 13 = .ok (.iconst (-1), 1) := by decide +kernel
theorem dX1_countWithin_14 : decode cX1_countWithin 14 = .ok (.ixor, 1) := by decide +kernel
theorem dX1_countWithin_15 : decode cX1_countWithin 15 = .ok (.iand, 1) := by decide +kernel
theorem dX1_countWithin_16 : decode cX1_countWithin 16 = .ok (.ifCond .ne 12, 3) := by decide +kernel
theorem dX1_countWithin_19 : decode cX1_countWithin 19 = .ok (.iload_n 2, 1) := by decide +kernel
theorem dX1_countWithin_20 : decode cX1_countWithin 20 = .ok (.aload_n 0, 1) := by decide +kernel
theorem dX1_countWithin_21 : decode cX1_countWithin 21 = .ok (.getfield 38, 3) := by decide +kernel
theorem dX1_countWithin_24 : decode cX1_countWithin 24 = .ok (.iload_n 3, 1) := by decide +kernel
theorem dX1_countWithin_25 : decode cX1_countWithin 25 = .ok (.iaload, 1) := by decide +kernel
theorem dX1_countWithin_26 : decode cX1_countWithin 26 = .ok (.iadd, 1) := by decide +kernel
theorem dX1_countWithin_27 : decode cX1_countWithin 27 = .ok (.istore_n 2, 1) := by decide +kernel
theorem dX1_countWithin_28 : decode cX1_countWithin 28 = .ok (.iinc 3 1, 3) := by decide +kernel
theorem dX1_countWithin_31 : decode cX1_countWithin 31 = .ok (.goto (-27), 3) := by decide +kernel
theorem dX1_countWithin_34 : decode cX1_countWithin 34 = .ok (.iload_n 2, 1) := by decide +kernel
theorem dX1_countWithin_35 : decode cX1_countWithin 35 = .ok (.ireturn, 1) := by decide +kernel
theorem dX1_countAsked_0 : decode cX1_countAsked 0 = .ok (.iconst 0, 1) := by decide +kernel
theorem dX1_countAsked_1 : decode cX1_countAsked 1 = .ok (.istore_n 3, 1) := by decide +kernel
theorem dX1_countAsked_2 : decode cX1_countAsked 2 = .ok (.iconst 1, 1) := by decide +kernel
theorem dX1_countAsked_3 : decode cX1_countAsked 3 = .ok (.istore 4, 2) := by decide +kernel
theorem dX1_countAsked_5 : decode cX1_countAsked 5 = .ok (.iload 4, 2) := by decide +kernel
theorem dX1_countAsked_7 : decode cX1_countAsked 7 = .ok (.sipush 1000, 3) := by decide +kernel
theorem dX1_countAsked_10 : decode cX1_countAsked 10 = .ok (.if_icmp .ge 33, 3) := by decide +kernel
theorem dX1_countAsked_13 : decode cX1_countAsked 13 = .ok (.aload_n 0, 1) := by decide +kernel
theorem dX1_countAsked_14 : decode cX1_countAsked 14 = .ok (.iload_n 1, 1) := by decide +kernel
theorem dX1_countAsked_15 : decode cX1_countAsked 15 = .ok (.iload 4, 2) := by decide +kernel
theorem dX1_countAsked_17 : decode cX1_countAsked 17 = .ok (.invokevirtual 132, 3) := by decide +kernel
theorem dX1_countAsked_20 : decode cX1_countAsked 20 = .ok (.ifCond .eq 17, 3) := by decide +kernel
theorem dX1_countAsked_23 : decode cX1_countAsked 23 = .ok (.aload_n 0, 1) := by decide +kernel
theorem dX1_countAsked_24 : decode cX1_countAsked 24 = .ok (.getfield 15, 3) := by decide +kernel
theorem dX1_countAsked_27 : decode cX1_countAsked 27 = .ok (.iload 4, 2) := by decide +kernel
theorem dX1_countAsked_29 : decode cX1_countAsked 29 = .ok (.iaload, 1) := by decide +kernel
theorem dX1_countAsked_30 : decode cX1_countAsked 30 = .ok (.iload_n 2, 1) := by decide +kernel
theorem dX1_countAsked_31 : decode cX1_countAsked 31 = .ok (.if_icmp .ne 6, 3) := by decide +kernel
theorem dX1_countAsked_34 : decode cX1_countAsked 34 = .ok (.iinc 3 1, 3) := by decide +kernel
theorem dX1_countAsked_37 : decode cX1_countAsked 37 = .ok (.iinc 4 1, 3) := by decide +kernel
theorem dX1_countAsked_40 : decode cX1_countAsked 40 = .ok (.goto (-35), 3) := by decide +kernel
theorem dX1_countAsked_43 : decode cX1_countAsked 43 = .ok (.iload_n 3, 1) := by decide +kernel
theorem dX1_countAsked_44 : decode cX1_countAsked 44 = .ok (.ireturn, 1) := by decide +kernel
theorem dX2_init_0 : decode cX2_init 0 = .ok (.aload_n 0, 1) := by decide +kernel
theorem dX2_init_1 : decode cX2_init 1 = .ok (.invokespecial 3, 3) := by decide +kernel
theorem dX2_init_4 : decode cX2_init 4 = .ok (.aload_n 0, 1) := by decide +kernel
theorem dX2_init_5 : decode cX2_init 5 = .ok (.iconst 3, 1) := by decide +kernel
theorem dX2_init_6 : decode cX2_init 6 = .ok (.newarray .int, 2) := by decide +kernel
theorem dX2_init_8 : decode cX2_init 8 = .ok (.putfield 9, 3) := by decide +kernel
theorem dX2_init_11 : decode cX2_init 11 = .ok (.return_, 1) := by decide +kernel
theorem dX2_row_0 : decode cX2_row 0 = .ok (.iconst 0, 1) := by decide +kernel
theorem dX2_row_1 : decode cX2_row 1 = .ok (.istore_n 1, 1) := by decide +kernel
theorem dX2_row_2 : decode cX2_row 2 = .ok (.iconst 0, 1) := by decide +kernel
theorem dX2_row_3 : decode cX2_row 3 = .ok (.istore_n 2, 1) := by decide +kernel
theorem dX2_row_4 : decode cX2_row 4 = .ok (.iload_n 2, 1) := by decide +kernel
theorem dX2_row_5 : decode cX2_row 5 = .ok (.aload_n 0, 1) := by decide +kernel
theorem dX2_row_6 : decode cX2_row 6 = .ok (.getfield 15, 3) := by decide +kernel
theorem dX2_row_9 : decode cX2_row 9 = .ok (.if_icmp .ge 20, 3) := by decide +kernel
theorem dX2_row_12 : decode cX2_row 12 = .ok (.iload_n 1, 1) := by decide +kernel
theorem dX2_row_13 : decode cX2_row 13 = .ok (.aload_n 0, 1) := by decide +kernel
theorem dX2_row_14 : decode cX2_row 14 = .ok (.getfield 9, 3) := by decide +kernel
theorem dX2_row_17 : decode cX2_row 17 = .ok (.iload_n 2, 1) := by decide +kernel
theorem dX2_row_18 : decode cX2_row 18 = .ok (.iaload, 1) := by decide +kernel
theorem dX2_row_19 : decode cX2_row 19 = .ok (.invokestatic 19, 3) := by decide +kernel
theorem dX2_row_22 : decode cX2_row 22 = .ok (.istore_n 1, 1) := by decide +kernel
theorem dX2_row_23 : decode cX2_row 23 = .ok (.iinc 2 1, 3) := by decide +kernel
theorem dX2_row_26 : decode cX2_row 26 = .ok (.goto (-22), 3) := by decide +kernel
theorem dX2_row_29 : decode cX2_row 29 = .ok (.iload_n 1, 1) := by decide +kernel
theorem dX2_row_30 : decode cX2_row 30 = .ok (.ireturn, 1) := by decide +kernel
theorem dX2_lengthened_0 : decode cX2_lengthened 0 = .ok (.iload_n 0, 1) := by decide +kernel
theorem dX2_lengthened_1 : decode cX2_lengthened 1 = .ok (.iconst 4, 1) := by decide +kernel
theorem dX2_lengthened_2 : decode cX2_lengthened 2 = .ok (.imul, 1) := by decide +kernel
theorem dX2_lengthened_3 : decode cX2_lengthened 3 = .ok (.iload_n 1, 1) := by decide +kernel
theorem dX2_lengthened_4 : decode cX2_lengthened 4 = .ok (.iadd, 1) := by decide +kernel
theorem dX2_lengthened_5 : decode cX2_lengthened 5 = .ok (.iconst 1, 1) := by decide +kernel
theorem dX2_lengthened_6 : decode cX2_lengthened 6 = .ok (.iadd, 1) := by decide +kernel
theorem dX2_lengthened_7 : decode cX2_lengthened 7 = .ok (.ireturn, 1) := by decide +kernel
theorem dX3_init_0 : decode cX3_init 0 = .ok (.aload_n 0, 1) := by decide +kernel
theorem dX3_init_1 : decode cX3_init 1 = .ok (.invokespecial 3, 3) := by decide +kernel
theorem dX3_init_4 : decode cX3_init 4 = .ok (.aload_n 0, 1) := by decide +kernel
theorem dX3_init_5 : decode cX3_init 5 = .ok (.sipush 200, 3) := by decide +kernel
theorem dX3_init_8 : decode cX3_init 8 = .ok (.newarray .int, 2) := by decide +kernel
theorem dX3_init_10 : decode cX3_init 10 = .ok (.putfield 9, 3) := by decide +kernel
theorem dX3_init_13 : decode cX3_init 13 = .ok (.return_, 1) := by decide +kernel
theorem dX3_add_0 : decode cX3_add 0 = .ok (.aload_n 0, 1) := by decide +kernel
theorem dX3_add_1 : decode cX3_add 1 = .ok (.getfield 15, 3) := by decide +kernel
theorem dX3_add_4 : decode cX3_add 4 = .ok (.sipush 200, 3) := by decide +kernel
theorem dX3_add_7 : decode cX3_add 7 = .ok (.if_icmp .ge 23, 3) := by decide +kernel
theorem dX3_add_10 : decode cX3_add 10 = .ok (.aload_n 0, 1) := by decide +kernel
theorem dX3_add_11 : decode cX3_add 11 = .ok (.getfield 9, 3) := by decide +kernel
theorem dX3_add_14 : decode cX3_add 14 = .ok (.aload_n 0, 1) := by decide +kernel
theorem dX3_add_15 : decode cX3_add 15 = .ok (.getfield 15, 3) := by decide +kernel
theorem dX3_add_18 : decode cX3_add 18 = .ok (.iload_n 1, 1) := by decide +kernel
theorem dX3_add_19 : decode cX3_add 19 = .ok (.iastore, 1) := by decide +kernel
theorem dX3_add_20 : decode cX3_add 20 = .ok (.aload_n 0, 1) := by decide +kernel
theorem dX3_add_21 : decode cX3_add 21 = .ok (.dup, 1) := by decide +kernel
theorem dX3_add_22 : decode cX3_add 22 = .ok (.getfield 15, 3) := by decide +kernel
theorem dX3_add_25 : decode cX3_add 25 = .ok (.iconst 1, 1) := by decide +kernel
theorem dX3_add_26 : decode cX3_add 26 = .ok (.iadd, 1) := by decide +kernel
theorem dX3_add_27 : decode cX3_add 27 = .ok (.putfield 15, 3) := by decide +kernel
theorem dX3_add_30 : decode cX3_add 30 = .ok (.return_, 1) := by decide +kernel
theorem dX3_rewind_0 : decode cX3_rewind 0 = .ok (.aload_n 0, 1) := by decide +kernel
theorem dX3_rewind_1 : decode cX3_rewind 1 = .ok (.iconst 0, 1) := by decide +kernel
theorem dX3_rewind_2 : decode cX3_rewind 2 = .ok (.putfield 19, 3) := by decide +kernel
theorem dX3_rewind_5 : decode cX3_rewind 5 = .ok (.return_, 1) := by decide +kernel
theorem dX3_advance_0 : decode cX3_advance 0 = .ok (.aload_n 0, 1) := by decide +kernel
theorem dX3_advance_1 : decode cX3_advance 1 = .ok (.aload_n 0, 1) := by decide +kernel
theorem dX3_advance_2 : decode cX3_advance 2 = .ok (.getfield 19, 3) := by decide +kernel
theorem dX3_advance_5 : decode cX3_advance 5 = .ok (.putfield 22, 3) := by decide +kernel
theorem dX3_advance_8 : decode cX3_advance 8 = .ok (.aload_n 0, 1) := by decide +kernel
theorem dX3_advance_9 : decode cX3_advance 9 = .ok (.getfield 22, 3) := by decide +kernel
theorem dX3_advance_12 : decode cX3_advance 12 = .ok (.aload_n 0, 1) := by decide +kernel
theorem dX3_advance_13 : decode cX3_advance 13 = .ok (.getfield 15, 3) := by decide +kernel
theorem dX3_advance_16 : decode cX3_advance 16 = .ok (.if_icmp .ge 30, 3) := by decide +kernel
theorem dX3_advance_19 : decode cX3_advance 19 = .ok (.aload_n 0, 1) := by decide +kernel
theorem dX3_advance_20 : decode cX3_advance 20 = .ok (.getfield 9, 3) := by decide +kernel
theorem dX3_advance_23 : decode cX3_advance 23 = .ok (.aload_n 0, 1) := by decide +kernel
theorem dX3_advance_24 : decode cX3_advance 24 = .ok (.getfield 22, 3) := by decide +kernel
theorem dX3_advance_27 : decode cX3_advance 27 = .ok (.iaload, 1) := by decide +kernel
theorem dX3_advance_28 : decode cX3_advance 28 = .ok (.bipush 32, 2) := by decide +kernel
theorem dX3_advance_30 : decode cX3_advance 30 = .ok (.if_icmp .ne 16, 3) := by decide +kernel
theorem dX3_advance_33 : decode cX3_advance 33 = .ok (.aload_n 0, 1) := by decide +kernel
theorem dX3_advance_34 : decode cX3_advance 34 = .ok (.dup, 1) := by decide +kernel
theorem dX3_advance_35 : decode cX3_advance 35 = .ok (.getfield 22, 3) := by decide +kernel
theorem dX3_advance_38 : decode cX3_advance 38 = .ok (.iconst 1, 1) := by decide +kernel
theorem dX3_advance_39 : decode cX3_advance 39 = .ok (.iadd, 1) := by decide +kernel
theorem dX3_advance_40 : decode cX3_advance 40 = .ok (.putfield 22, 3) := by decide +kernel
theorem dX3_advance_43 : decode cX3_advance 43 = .ok (.goto (-35), 3) := by decide +kernel
theorem dX3_advance_46 : decode cX3_advance 46 = .ok (.aload_n 0, 1) := by decide +kernel
theorem dX3_advance_47 : decode cX3_advance 47 = .ok (.aload_n 0, 1) := by decide +kernel
theorem dX3_advance_48 : decode cX3_advance 48 = .ok (.getfield 22, 3) := by decide +kernel
theorem dX3_advance_51 : decode cX3_advance 51 = .ok (.putfield 19, 3) := by decide +kernel
theorem dX3_advance_54 : decode cX3_advance 54 = .ok (.aload_n 0, 1) := by decide +kernel
theorem dX3_advance_55 : decode cX3_advance 55 = .ok (.getfield 22, 3) := by decide +kernel
theorem dX3_advance_58 : decode cX3_advance 58 = .ok (.aload_n 0, 1) := by decide +kernel
theorem dX3_advance_59 : decode cX3_advance 59 = .ok (.getfield 15, 3) := by decide +kernel
theorem dX3_advance_62 : decode cX3_advance 62 = .ok (.if_icmp .lt 11, 3) := by decide +kernel
theorem dX3_advance_65 : decode cX3_advance 65 = .ok (.aload_n 0, 1) := by decide +kernel
theorem dX3_advance_66 : decode cX3_advance 66 = .ok (.iconst 0, 1) := by decide +kernel
theorem dX3_advance_67 : decode cX3_advance 67 = .ok (.putfield 25, 3) := by decide +kernel
theorem dX3_advance_70 : decode cX3_advance 70 = .ok (.goto 80, 3) := by decide +kernel
theorem dX3_advance_73 : decode cX3_advance 73 = .ok (.aload_n 0, 1) := by decide +kernel
theorem dX3_advance_74 : decode cX3_advance 74 = .ok (.aload_n 0, 1) := by decide +kernel
theorem dX3_advance_75 : decode cX3_advance 75 = .ok (.getfield 22, 3) := by decide +kernel
theorem dX3_advance_78 : decode cX3_advance 78 = .ok (.bipush 97, 2) := by decide +kernel
theorem dX3_advance_80 : decode cX3_advance 80 = .ok (.bipush 122, 2) := by decide +kernel
theorem dX3_advance_82 : decode cX3_advance 82 = .ok (.invokevirtual 28, 3) := by decide +kernel
theorem dX3_advance_85 : decode cX3_advance 85 = .ok (.ifCond .eq 10, 3) := by decide +kernel
theorem dX3_advance_88 : decode cX3_advance 88 = .ok (.aload_n 0, 1) := by decide +kernel
theorem dX3_advance_89 : decode cX3_advance 89 = .ok (.invokevirtual 32, 3) := by decide +kernel
theorem dX3_advance_92 : decode cX3_advance 92 = .ok (.goto 58, 3) := by decide +kernel
theorem dX3_advance_95 : decode cX3_advance 95 = .ok (.aload_n 0, 1) := by decide +kernel
theorem dX3_advance_96 : decode cX3_advance 96 = .ok (.aload_n 0, 1) := by decide +kernel
theorem dX3_advance_97 : decode cX3_advance 97 = .ok (.getfield 22, 3) := by decide +kernel
theorem dX3_advance_100 : decode cX3_advance 100 = .ok (.bipush 48, 2) := by decide +kernel
theorem dX3_advance_102 : decode cX3_advance 102 = .ok (.bipush 57, 2) := by decide +kernel
theorem dX3_advance_104 : decode cX3_advance 104 = .ok (.invokevirtual 28, 3) := by decide +kernel
theorem dX3_advance_107 : decode cX3_advance 107 = .ok (.ifCond .eq 10, 3) := by decide +kernel
theorem dX3_advance_110 : decode cX3_advance 110 = .ok (.aload_n 0, 1) := by decide +kernel
theorem dX3_advance_111 : decode cX3_advance 111 = .ok (.invokevirtual 35, 3) := by decide +kernel
theorem dX3_advance_114 : decode cX3_advance 114 = .ok (.goto 36, 3) := by decide +kernel
theorem dX3_advance_117 : decode cX3_advance 117 = .ok (.aload_n 0, 1) := by decide +kernel
theorem dX3_advance_118 : decode cX3_advance 118 = .ok (.dup, 1) := by decide +kernel
theorem dX3_advance_119 : decode cX3_advance 119 = .ok (.getfield 19, 3) := by decide +kernel
theorem dX3_advance_122 : decode cX3_advance 122 = .ok (.iconst 1, 1) := by decide +kernel
theorem dX3_advance_123 : decode cX3_advance 123 = .ok (.iadd, 1) := by decide +kernel
theorem dX3_advance_124 : decode cX3_advance 124 = .ok (.putfield 19, 3) := by decide +kernel
theorem dX3_advance_127 : decode cX3_advance 127 = .ok (.aload_n 0, 1) := by decide +kernel
theorem dX3_advance_128 : decode cX3_advance 128 = .ok (.aload_n 0, 1) := by decide +kernel
theorem dX3_advance_129 : decode cX3_advance 129 = .ok (.getfield 9, 3) := by decide +kernel
theorem dX3_advance_132 : decode cX3_advance 132 = .ok (.aload_n 0, 1) := by decide +kernel
theorem dX3_advance_133 : decode cX3_advance 133 = .ok (.getfield 22, 3) := by decide +kernel
theorem dX3_advance_136 : decode cX3_advance 136 = .ok (.iaload, 1) := by decide +kernel
theorem dX3_advance_137 : decode cX3_advance 137 = .ok (.bipush 59, 2) := by decide +kernel
theorem dX3_advance_139 : decode cX3_advance 139 = .ok (.if_icmp .ne 7, 3) := by decide +kernel
theorem dX3_advance_142 : decode cX3_advance 142 = .ok (.iconst 2, 1) := by decide +kernel
theorem dX3_advance_143 : decode cX3_advance 143 = .ok (.goto 4, 3) := by decide +kernel
theorem dX3_advance_146 : decode cX3_advance 146 = .ok (.iconst 1, 1) := by decide +kernel
theorem dX3_advance_147 : decode cX3_advance 147 = .ok (.putfield 25, 3) := by decide +kernel
theorem dX3_advance_150 : decode cX3_advance 150 = .ok (.return_, 1) := by decide +kernel
theorem dX3_isIn_0 : decode cX3_isIn 0 = .ok (.aload_n 0, 1) := by decide +kernel
theorem dX3_isIn_1 : decode cX3_isIn 1 = .ok (.getfield 9, 3) := by decide +kernel
theorem dX3_isIn_4 : decode cX3_isIn 4 = .ok (.iload_n 1, 1) := by decide +kernel
theorem dX3_isIn_5 : decode cX3_isIn 5 = .ok (.iaload, 1) := by decide +kernel
theorem dX3_isIn_6 : decode cX3_isIn 6 = .ok (.iload_n 2, 1) := by decide +kernel
theorem dX3_isIn_7 : decode cX3_isIn 7 = .ok (.if_icmp .lt 17, 3) := by decide +kernel
theorem dX3_isIn_10 : decode cX3_isIn 10 = .ok (.aload_n 0, 1) := by decide +kernel
theorem dX3_isIn_11 : decode cX3_isIn 11 = .ok (.getfield 9, 3) := by decide +kernel
theorem dX3_isIn_14 : decode cX3_isIn 14 = .ok (.iload_n 1, 1) := by decide +kernel
theorem dX3_isIn_15 : decode cX3_isIn 15 = .ok (.iaload, 1) := by decide +kernel
theorem dX3_isIn_16 : decode cX3_isIn 16 = .ok (.iload_n 3, 1) := by decide +kernel
theorem dX3_isIn_17 : decode cX3_isIn 17 = .ok (.if_icmp .gt 7, 3) := by decide +kernel
theorem dX3_isIn_20 : decode cX3_isIn 20 = .ok (.iconst 1, 1) := by decide +kernel
theorem dX3_isIn_21 : decode cX3_isIn 21 = .ok (.goto 4, 3) := by decide +kernel
theorem dX3_isIn_24 : decode cX3_isIn 24 = .ok (.iconst 0, 1) := by decide +kernel
theorem dX3_isIn_25 : decode cX3_isIn 25 = .ok (.ireturn, 1) := by decide +kernel
theorem dX3_takeLetters_0 : decode cX3_takeLetters 0 = .ok (.iconst 1, 1) := by decide +kernel
theorem dX3_takeLetters_1 : decode cX3_takeLetters 1 = .ok (.istore_n 1, 1) := by decide +kernel
theorem dX3_takeLetters_2 : decode cX3_takeLetters 2 = .ok (.aload_n 0, 1) := by decide +kernel
theorem dX3_takeLetters_3 : decode cX3_takeLetters 3 = .ok (.getfield 19, 3) := by decide +kernel
theorem dX3_takeLetters_6 : decode cX3_takeLetters 6 = .ok (.aload_n 0, 1) := by decide +kernel
theorem dX3_takeLetters_7 : decode cX3_takeLetters 7 = .ok (.getfield 15, 3) := by decide +kernel
theorem dX3_takeLetters_10 : decode cX3_takeLetters 10 = .ok (.if_icmp .ge 56, 3) := by decide +kernel
theorem dX3_takeLetters_13 : decode cX3_takeLetters 13 = .ok (.aload_n 0, 1) := by decide +kernel
theorem dX3_takeLetters_14 : decode cX3_takeLetters 14 = .ok (.aload_n 0, 1) := by decide +kernel
theorem dX3_takeLetters_15 : decode cX3_takeLetters 15 = .ok (.getfield 19, 3) := by decide +kernel
theorem dX3_takeLetters_18 : decode cX3_takeLetters 18 = .ok (.bipush 97, 2) := by decide +kernel
theorem dX3_takeLetters_20 : decode cX3_takeLetters 20 = .ok (.bipush 122, 2) := by decide +kernel
theorem dX3_takeLetters_22 : decode cX3_takeLetters 22 = .ok (.invokevirtual 28, 3) := by decide +kernel
theorem dX3_takeLetters_25 : decode cX3_takeLetters 25 = .ok (.ifCond .eq 41, 3) := by decide +kernel
theorem dX3_takeLetters_28 : decode cX3_takeLetters 28 = .ok (.iload_n 1, 1) := by decide +kernel
theorem dX3_takeLetters_29 : decode cX3_takeLetters 29 = .ok (.ifCond .eq 22, 3) := by decide +kernel
theorem dX3_takeLetters_32 : decode cX3_takeLetters 32 = .ok (.aload_n 0, 1) := by decide +kernel
theorem dX3_takeLetters_33 : decode cX3_takeLetters 33 = .ok (.aload_n 0, 1) := by decide +kernel
theorem dX3_takeLetters_34 : decode cX3_takeLetters 34 = .ok (.getfield 19, 3) := by decide +kernel
theorem dX3_takeLetters_37 : decode cX3_takeLetters 37 = .ok (.bipush 97, 2) := by decide +kernel
theorem dX3_takeLetters_39 : decode cX3_takeLetters 39 = .ok (.bipush 104, 2) := by decide +kernel
theorem dX3_takeLetters_41 : decode cX3_takeLetters 41 = .ok (.invokevirtual 28, 3) := by decide +kernel
theorem dX3_takeLetters_44 : decode cX3_takeLetters 44 = .ok (.ifCond .eq 7, 3) := by decide +kernel
theorem dX3_takeLetters_47 : decode cX3_takeLetters 47 = .ok (.iconst 1, 1) := by decide +kernel
theorem dX3_takeLetters_48 : decode cX3_takeLetters 48 = .ok (.goto 4, 3) := by decide +kernel
theorem dX3_takeLetters_51 : decode cX3_takeLetters 51 = .ok (.iconst 0, 1) := by decide +kernel
theorem dX3_takeLetters_52 : decode cX3_takeLetters 52 = .ok (.istore_n 1, 1) := by decide +kernel
theorem dX3_takeLetters_53 : decode cX3_takeLetters 53 = .ok (.aload_n 0, 1) := by decide +kernel
theorem dX3_takeLetters_54 : decode cX3_takeLetters 54 = .ok (.dup, 1) := by decide +kernel
theorem dX3_takeLetters_55 : decode cX3_takeLetters 55 = .ok (.getfield 19, 3) := by decide +kernel
theorem dX3_takeLetters_58 : decode cX3_takeLetters 58 = .ok (.iconst 1, 1) := by decide +kernel
theorem dX3_takeLetters_59 : decode cX3_takeLetters 59 = .ok (.iadd, 1) := by decide +kernel
theorem dX3_takeLetters_60 : decode cX3_takeLetters 60 = .ok (.putfield 19, 3) := by decide +kernel
theorem dX3_takeLetters_63 : decode cX3_takeLetters 63 = .ok (.goto (-61), 3) := by decide +kernel
theorem dX3_takeLetters_66 : decode cX3_takeLetters 66 = .ok (.aload_n 0, 1) := by decide +kernel
theorem dX3_takeLetters_67 : decode cX3_takeLetters 67 = .ok (.ldc 38, 2) := by decide +kernel
theorem dX3_takeLetters_69 : decode cX3_takeLetters 69 = .ok (.invokevirtual 40, 3) := by decide +kernel
theorem dX3_takeLetters_72 : decode cX3_takeLetters 72 = .ok (.ifCond .eq 11, 3) := by decide +kernel
theorem dX3_takeLetters_75 : decode cX3_takeLetters 75 = .ok (.aload_n 0, 1) := by decide +kernel
theorem dX3_takeLetters_76 : decode cX3_takeLetters 76 = .ok (.iconst 5, 1) := by decide +kernel
theorem dX3_takeLetters_77 : decode cX3_takeLetters 77 = .ok (.putfield 25, 3) := by decide +kernel
theorem dX3_takeLetters_80 : decode cX3_takeLetters 80 = .ok (.goto 47, 3) := by decide +kernel
theorem dX3_takeLetters_83 : decode cX3_takeLetters 83 = .ok (.aload_n 0, 1) := by decide +kernel
theorem dX3_takeLetters_84 : decode cX3_takeLetters 84 = .ok (.ldc 44, 2) := by decide +kernel
theorem dX3_takeLetters_86 : decode cX3_takeLetters 86 = .ok (.invokevirtual 40, 3) := by decide +kernel
theorem dX3_takeLetters_89 : decode cX3_takeLetters 89 = .ok (.ifCond .eq 12, 3) := by decide +kernel
theorem dX3_takeLetters_92 : decode cX3_takeLetters 92 = .ok (.aload_n 0, 1) := by decide +kernel
theorem dX3_takeLetters_93 : decode cX3_takeLetters 93 = .ok (.bipush 6, 2) := by decide +kernel
theorem dX3_takeLetters_95 : decode cX3_takeLetters 95 = .ok (.putfield 25, 3) := by decide +kernel
theorem dX3_takeLetters_98 : decode cX3_takeLetters 98 = .ok (.goto 29, 3) := by decide +kernel
theorem dX3_takeLetters_101 : decode cX3_takeLetters 101 = .ok (.aload_n 0, 1) := by decide +kernel
theorem dX3_takeLetters_102 : decode cX3_takeLetters 102 = .ok (.iload_n 1, 1) := by decide +kernel
theorem dX3_takeLetters_103 : decode cX3_takeLetters 103 = .ok (.ifCond .eq 20, 3) := by decide +kernel
theorem dX3_takeLetters_106 : decode cX3_takeLetters 106 = .ok (.aload_n 0, 1) := by decide +kernel
theorem dX3_takeLetters_107 : decode cX3_takeLetters 107 = .ok (.getfield 19, 3) := by decide +kernel
theorem dX3_takeLetters_110 : decode cX3_takeLetters 110 = .ok (.aload_n 0, 1) := by decide +kernel
theorem dX3_takeLetters_111 : decode cX3_takeLetters 111 = .ok (.getfield 22, 3) := by decide +kernel
theorem dX3_takeLetters_114 : decode cX3_takeLetters 114 = .ok (.isub, 1) := by decide +kernel
theorem dX3_takeLetters_115 : decode cX3_takeLetters 115 = .ok (.iconst 5, 1) := by decide +kernel
theorem dX3_takeLetters_116 : decode cX3_takeLetters 116 = .ok (.if_icmp .gt 7, 3) := by decide +kernel
theorem dX3_takeLetters_119 : decode cX3_takeLetters 119 = .ok (.iconst 4, 1) := by decide +kernel
theorem dX3_takeLetters_120 : decode cX3_takeLetters 120 = .ok (.goto 4, 3) := by decide +kernel
theorem dX3_takeLetters_123 : decode cX3_takeLetters 123 = .ok (.iconst 1, 1) := by decide +kernel
theorem dX3_takeLetters_124 : decode cX3_takeLetters 124 = .ok (.putfield 25, 3) := by decide +kernel
theorem dX3_takeLetters_127 : decode cX3_takeLetters 127 = .ok (.return_, 1) := by decide +kernel
theorem dX3_isName_0 : decode cX3_isName 0 = .ok (.aload_n 0, 1) := by decide +kernel
theorem dX3_isName_1 : decode cX3_isName 1 = .ok (.getfield 19, 3) := by decide +kernel
theorem dX3_isName_4 : decode cX3_isName 4 = .ok (.aload_n 0, 1) := by decide +kernel
theorem dX3_isName_5 : decode cX3_isName 5 = .ok (.getfield 22, 3) := by decide +kernel
theorem dX3_isName_8 : decode cX3_isName 8 = .ok (.isub, 1) := by decide +kernel
theorem dX3_isName_9 : decode cX3_isName 9 = .ok (.aload_n 1, 1) := by decide +kernel
theorem dX3_isName_10 : decode cX3_isName 10 = .ok (.invokevirtual 46, 3) := by decide +kernel
theorem dX3_isName_13 : decode cX3_isName 13 = .ok (.if_icmp .eq 5, 3) := by decide +kernel
theorem dX3_isName_16 : decode cX3_isName 16 = .ok (.iconst 0, 1) := by decide +kernel
theorem dX3_isName_17 : decode cX3_isName 17 = .ok (.ireturn, 1) := by decide +kernel
theorem dX3_isName_18 : decode cX3_isName 18 = .ok (.iconst 0, 1) := by decide +kernel
theorem dX3_isName_19 : decode cX3_isName 19 = .ok (.istore_n 2, 1) := by decide +kernel
theorem dX3_isName_20 : decode cX3_isName 20 = .ok (.iload_n 2, 1) := by decide +kernel
theorem dX3_isName_21 : decode cX3_isName 21 = .ok (.aload_n 1, 1) := by decide +kernel
theorem dX3_isName_22 : decode cX3_isName 22 = .ok (.invokevirtual 46, 3) := by decide +kernel
theorem dX3_isName_25 : decode cX3_isName 25 = .ok (.if_icmp .ge 30, 3) := by decide +kernel
theorem dX3_isName_28 : decode cX3_isName 28 = .ok (.aload_n 0, 1) := by decide +kernel
theorem dX3_isName_29 : decode cX3_isName 29 = .ok (.getfield 9, 3) := by decide +kernel
theorem dX3_isName_32 : decode cX3_isName 32 = .ok (.aload_n 0, 1) := by decide +kernel
theorem dX3_isName_33 : decode cX3_isName 33 = .ok (.getfield 22, 3) := by decide +kernel
theorem dX3_isName_36 : decode cX3_isName 36 = .ok (.iload_n 2, 1) := by decide +kernel
theorem dX3_isName_37 : decode cX3_isName 37 = .ok (.iadd, 1) := by decide +kernel
theorem dX3_isName_38 : decode cX3_isName 38 = .ok (.iaload, 1) := by decide +kernel
theorem dX3_isName_39 : decode cX3_isName 39 = .ok (.aload_n 1, 1) := by decide +kernel
theorem dX3_isName_40 : decode cX3_isName 40 = .ok (.iload_n 2, 1) := by decide +kernel
theorem dX3_isName_41 : decode cX3_isName 41 = .ok (.invokevirtual 51, 3) := by decide +kernel
theorem dX3_isName_44 : decode cX3_isName 44 = .ok (.if_icmp .eq 5, 3) := by decide +kernel
theorem dX3_isName_47 : decode cX3_isName 47 = .ok (.iconst 0, 1) := by decide +kernel
theorem dX3_isName_48 : decode cX3_isName 48 = .ok (.ireturn, 1) := by decide +kernel
theorem dX3_isName_49 : decode cX3_isName 49 = .ok (.iinc 2 1, 3) := by decide +kernel
theorem dX3_isName_52 : decode cX3_isName 52 = .ok (.goto (-32), 3) := by decide +kernel
theorem dX3_isName_55 : decode cX3_isName 55 = .ok (.iconst 1, 1) := by decide +kernel
theorem dX3_isName_56 : decode cX3_isName 56 = .ok (.ireturn, 1) := by decide +kernel
theorem dX3_takeNumber_0 : decode cX3_takeNumber 0 = .ok (.aload_n 0, 1) := by decide +kernel
theorem dX3_takeNumber_1 : decode cX3_takeNumber 1 = .ok (.iconst 0, 1) := by decide +kernel
theorem dX3_takeNumber_2 : decode cX3_takeNumber 2 = .ok (.putfield 55, 3) := by decide +kernel
theorem dX3_takeNumber_5 : decode cX3_takeNumber 5 = .ok (.aload_n 0, 1) := by decide +kernel
theorem dX3_takeNumber_6 : decode cX3_takeNumber 6 = .ok (.getfield 19, 3) := by decide +kernel
theorem dX3_takeNumber_9 : decode cX3_takeNumber 9 = .ok (.aload_n 0, 1) := by decide +kernel
theorem dX3_takeNumber_10 : decode cX3_takeNumber 10 = .ok (.getfield 15, 3) := by decide +kernel
theorem dX3_takeNumber_13 : decode cX3_takeNumber 13 = .ok (.if_icmp .ge 60, 3) := by decide +kernel
theorem dX3_takeNumber_16 : decode cX3_takeNumber 16 = .ok (.aload_n 0, 1) := by decide +kernel
theorem dX3_takeNumber_17 : decode cX3_takeNumber 17 = .ok (.aload_n 0, 1) := by decide +kernel
theorem dX3_takeNumber_18 : decode cX3_takeNumber 18 = .ok (.getfield 19, 3) := by decide +kernel
theorem dX3_takeNumber_21 : decode cX3_takeNumber 21 = .ok (.bipush 48, 2) := by decide +kernel
theorem dX3_takeNumber_23 : decode cX3_takeNumber 23 = .ok (.bipush 57, 2) := by decide +kernel
theorem dX3_takeNumber_25 : decode cX3_takeNumber 25 = .ok (.invokevirtual 28, 3) := by decide +kernel
theorem dX3_takeNumber_28 : decode cX3_takeNumber 28 = .ok (.ifCond .eq 45, 3) := by decide +kernel
theorem dX3_takeNumber_31 : decode cX3_takeNumber 31 = .ok (.aload_n 0, 1) := by decide +kernel
theorem dX3_takeNumber_32 : decode cX3_takeNumber 32 = .ok (.aload_n 0, 1) := by decide +kernel
theorem dX3_takeNumber_33 : decode cX3_takeNumber 33 = .ok (.getfield 55, 3) := by decide +kernel
theorem dX3_takeNumber_36 : decode cX3_takeNumber 36 = .ok (.bipush 10, 2) := by decide +kernel
theorem dX3_takeNumber_38 : decode cX3_takeNumber 38 = .ok (.imul, 1) := by decide +kernel
theorem dX3_takeNumber_39 : decode cX3_takeNumber 39 = .ok (.aload_n 0, 1) := by decide +kernel
theorem dX3_takeNumber_40 : decode cX3_takeNumber 40 = .ok (.getfield 9, 3) := by decide +kernel
theorem dX3_takeNumber_43 : decode cX3_takeNumber 43 = .ok (.aload_n 0, 1) := by decide +kernel
theorem dX3_takeNumber_44 : decode cX3_takeNumber 44 = .ok (.getfield 19, 3) := by decide +kernel
theorem dX3_takeNumber_47 : decode cX3_takeNumber 47 = .ok (.iaload, 1) := by decide +kernel
theorem dX3_takeNumber_48 : decode cX3_takeNumber 48 = .ok (.iadd, 1) := by decide +kernel
theorem dX3_takeNumber_49 : decode cX3_takeNumber 49 = .ok (.bipush 48, 2) := by decide +kernel
theorem dX3_takeNumber_51 : decode cX3_takeNumber 51 = .ok (.isub, 1) := by decide +kernel
theorem dX3_takeNumber_52 : decode cX3_takeNumber 52 = .ok (.bipush 100, 2) := by decide +kernel
theorem dX3_takeNumber_54 : decode cX3_takeNumber 54 = .ok (.invokestatic 58, 3) := by decide +kernel
theorem dX3_takeNumber_57 : decode cX3_takeNumber 57 = .ok (.putfield 55, 3) := by decide +kernel
theorem dX3_takeNumber_60 : decode cX3_takeNumber 60 = .ok (.aload_n 0, 1) := by decide +kernel
theorem dX3_takeNumber_61 : decode cX3_takeNumber 61 = .ok (.dup, 1) := by decide +kernel
theorem dX3_takeNumber_62 : decode cX3_takeNumber 62 = .ok (.getfield 19, 3) := by decide +kernel
theorem dX3_takeNumber_65 : decode cX3_takeNumber 65 = .ok (.iconst 1, 1) := by decide +kernel
theorem dX3_takeNumber_66 : decode cX3_takeNumber 66 = .ok (.iadd, 1) := by decide +kernel
theorem dX3_takeNumber_67 : decode cX3_takeNumber 67 = .ok (.putfield 19, 3) := by decide +kernel
theorem dX3_takeNumber_70 : decode cX3_takeNumber 70 = .ok (.goto (-65), 3) := by decide +kernel
theorem dX3_takeNumber_73 : decode cX3_takeNumber 73 = .ok (.aload_n 0, 1) := by decide +kernel
theorem dX3_takeNumber_74 : decode cX3_takeNumber 74 = .ok (.getfield 9, 3) := by decide +kernel
theorem dX3_takeNumber_77 : decode cX3_takeNumber 77 = .ok (.aload_n 0, 1) := by decide +kernel
theorem dX3_takeNumber_78 : decode cX3_takeNumber 78 = .ok (.getfield 22, 3) := by decide +kernel
theorem dX3_takeNumber_81 : decode cX3_takeNumber 81 = .ok (.iaload, 1) := by decide +kernel
theorem dX3_takeNumber_82 : decode cX3_takeNumber 82 = .ok (.bipush 48, 2) := by decide +kernel
theorem dX3_takeNumber_84 : decode cX3_takeNumber 84 = .ok (.if_icmp .ne 20, 3) := by decide +kernel
theorem dX3_takeNumber_87 : decode cX3_takeNumber 87 = .ok (.aload_n 0, 1) := by decide +kernel
theorem dX3_takeNumber_88 : decode cX3_takeNumber 88 = .ok (.getfield 19, 3) := by decide +kernel
theorem dX3_takeNumber_91 : decode cX3_takeNumber 91 = .ok (.aload_n 0, 1) := by decide +kernel
theorem dX3_takeNumber_92 : decode cX3_takeNumber 92 = .ok (.getfield 22, 3) := by decide +kernel
theorem dX3_takeNumber_95 : decode cX3_takeNumber 95 = .ok (.isub, 1) := by decide +kernel
theorem dX3_takeNumber_96 : decode cX3_takeNumber 96 = .ok (.iconst 1, 1) := by decide +kernel
theorem dX3_takeNumber_97 : decode cX3_takeNumber 97 = .ok (.if_icmp .le 7, 3) := by decide +kernel
theorem dX3_takeNumber_100 : decode cX3_takeNumber 100 = .ok (.iconst 1, 1) := by decide +kernel
theorem dX3_takeNumber_101 : decode cX3_takeNumber 101 = .ok (.goto 4, 3) := by decide +kernel
theorem dX3_takeNumber_104 : decode cX3_takeNumber 104 = .ok (.iconst 0, 1) := by decide +kernel
theorem dX3_takeNumber_105 : decode cX3_takeNumber 105 = .ok (.istore_n 1, 1) := by decide +kernel
theorem dX3_takeNumber_106 : decode cX3_takeNumber 106 = .ok (.aload_n 0, 1) := by decide +kernel
theorem dX3_takeNumber_107 : decode cX3_takeNumber 107 = .ok (.iload_n 1, 1) := by decide +kernel
theorem dX3_takeNumber_108 : decode cX3_takeNumber 108 = .ok (.ifCond .ne 12, 3) := by decide +kernel
theorem dX3_takeNumber_111 : decode cX3_takeNumber 111 = .ok (.aload_n 0, 1) := by decide +kernel
theorem dX3_takeNumber_112 : decode cX3_takeNumber 112 = .ok (.getfield 55, 3) := by decide +kernel
theorem dX3_takeNumber_115 : decode cX3_takeNumber 115 = .ok (.bipush 99, 2) := by decide +kernel
theorem dX3_takeNumber_117 : decode cX3_takeNumber 117 = .ok (.if_icmp .le 7, 3) := by decide +kernel
theorem dX3_takeNumber_120 : decode cX3_takeNumber 120 = .ok (.iconst 1, 1) := by decide +kernel
theorem dX3_takeNumber_121 : decode cX3_takeNumber 121 = .ok (.goto 4, 3) := by decide +kernel
theorem dX3_takeNumber_124 : decode cX3_takeNumber 124 = .ok (.iconst 3, 1) := by decide +kernel
theorem dX3_takeNumber_125 : decode cX3_takeNumber 125 = .ok (.putfield 25, 3) := by decide +kernel
theorem dX3_takeNumber_128 : decode cX3_takeNumber 128 = .ok (.return_, 1) := by decide +kernel
theorem dX4_init_0 : decode cX4_init 0 = .ok (.aload_n 0, 1) := by decide +kernel
theorem dX4_init_1 : decode cX4_init 1 = .ok (.invokespecial 3, 3) := by decide +kernel
theorem dX4_init_4 : decode cX4_init 4 = .ok (.aload_n 0, 1) := by decide +kernel
theorem dX4_init_5 : decode cX4_init 5 = .ok (.bipush 9, 2) := by decide +kernel
theorem dX4_init_7 : decode cX4_init 7 = .ok (.anewarray 9, 3) := by decide +kernel
theorem dX4_init_10 : decode cX4_init 10 = .ok (.putfield 11, 3) := by decide +kernel
theorem dX4_init_13 : decode cX4_init 13 = .ok (.aload_n 0, 1) := by decide +kernel
theorem dX4_init_14 : decode cX4_init 14 = .ok (.iconst 4, 1) := by decide +kernel
theorem dX4_init_15 : decode cX4_init 15 = .ok (.anewarray 17, 3) := by decide +kernel
theorem dX4_init_18 : decode cX4_init 18 = .ok (.putfield 19, 3) := by decide +kernel
theorem dX4_init_21 : decode cX4_init 21 = .ok (.iconst 0, 1) := by decide +kernel
theorem dX4_init_22 : decode cX4_init 22 = .ok (.istore_n 1, 1) := by decide +kernel
theorem dX4_init_23 : decode cX4_init 23 = .ok (.iload_n 1, 1) := by decide +kernel
theorem dX4_init_24 : decode cX4_init 24 = .ok (.bipush 9, 2) := by decide +kernel
theorem dX4_init_26 : decode cX4_init 26 = .ok (.if_icmp .ge 22, 3) := by decide +kernel
theorem dX4_init_29 : decode cX4_init 29 = .ok (.aload_n 0, 1) := by decide +kernel
theorem dX4_init_30 : decode cX4_init 30 = .ok (.getfield 11, 3) := by decide +kernel
theorem dX4_init_33 : decode cX4_init 33 = .ok (.iload_n 1, 1) := by decide +kernel
theorem dX4_init_34 : decode cX4_init 34 = .ok (.new 9, 3) := by decide +kernel
theorem dX4_init_37 : decode cX4_init 37 = .ok (.dup, 1) := by decide +kernel
theorem dX4_init_38 : decode cX4_init 38 = .ok (.invokespecial 23, 3) := by decide +kernel
theorem dX4_init_41 : decode cX4_init 41 = .ok (.aastore, 1) := by decide +kernel
theorem dX4_init_42 : decode cX4_init 42 = .ok (.iinc 1 1, 3) := by decide +kernel
theorem dX4_init_45 : decode cX4_init 45 = .ok (.goto (-22), 3) := by decide +kernel
theorem dX4_init_48 : decode cX4_init 48 = .ok (.iconst 0, 1) := by decide +kernel
theorem dX4_init_49 : decode cX4_init 49 = .ok (.istore_n 1, 1) := by decide +kernel
theorem dX4_init_50 : decode cX4_init 50 = .ok (.iload_n 1, 1) := by decide +kernel
theorem dX4_init_51 : decode cX4_init 51 = .ok (.iconst 4, 1) := by decide +kernel
theorem dX4_init_52 : decode cX4_init 52 = .ok (.if_icmp .ge 22, 3) := by decide +kernel
theorem dX4_init_55 : decode cX4_init 55 = .ok (.aload_n 0, 1) := by decide +kernel
theorem dX4_init_56 : decode cX4_init 56 = .ok (.getfield 19, 3) := by decide +kernel
theorem dX4_init_59 : decode cX4_init 59 = .ok (.iload_n 1, 1) := by decide +kernel
theorem dX4_init_60 : decode cX4_init 60 = .ok (.new 17, 3) := by decide +kernel
theorem dX4_init_63 : decode cX4_init 63 = .ok (.dup, 1) := by decide +kernel
theorem dX4_init_64 : decode cX4_init 64 = .ok (.invokespecial 24, 3) := by decide +kernel
theorem dX4_init_67 : decode cX4_init 67 = .ok (.aastore, 1) := by decide +kernel
theorem dX4_init_68 : decode cX4_init 68 = .ok (.iinc 1 1, 3) := by decide +kernel
theorem dX4_init_71 : decode cX4_init 71 = .ok (.goto (-21), 3) := by decide +kernel
theorem dX4_init_74 : decode cX4_init 74 = .ok (.return_, 1) := by decide +kernel
theorem dX4_readAll_0 : decode cX4_readAll 0 = .ok (.aload_n 0, 1) := by decide +kernel
theorem dX4_readAll_1 : decode cX4_readAll 1 = .ok (.iconst 0, 1) := by decide +kernel
theorem dX4_readAll_2 : decode cX4_readAll 2 = .ok (.putfield 25, 3) := by decide +kernel
theorem dX4_readAll_5 : decode cX4_readAll 5 = .ok (.aload_n 0, 1) := by decide +kernel
theorem dX4_readAll_6 : decode cX4_readAll 6 = .ok (.iconst 0, 1) := by decide +kernel
theorem dX4_readAll_7 : decode cX4_readAll 7 = .ok (.putfield 29, 3) := by decide +kernel
theorem dX4_readAll_10 : decode cX4_readAll 10 = .ok (.aload_n 1, 1) := by decide +kernel
theorem dX4_readAll_11 : decode cX4_readAll 11 = .ok (.invokevirtual 32, 3) := by decide +kernel
theorem dX4_readAll_14 : decode cX4_readAll 14 = .ok (.iconst 0, 1) := by decide +kernel
theorem dX4_readAll_15 : decode cX4_readAll 15 = .ok (.istore_n 2, 1) := by decide +kernel
theorem dX4_readAll_16 : decode cX4_readAll 16 = .ok (.iload_n 2, 1) := by decide +kernel
theorem dX4_readAll_17 : decode cX4_readAll 17 = .ok (.bipush 13, 2) := by decide +kernel
theorem dX4_readAll_19 : decode cX4_readAll 19 = .ok (.if_icmp .gt 67, 3) := by decide +kernel
theorem dX4_readAll_22 : decode cX4_readAll 22 = .ok (.aload_n 1, 1) := by decide +kernel
theorem dX4_readAll_23 : decode cX4_readAll 23 = .ok (.invokevirtual 37, 3) := by decide +kernel
theorem dX4_readAll_26 : decode cX4_readAll 26 = .ok (.aload_n 1, 1) := by decide +kernel
theorem dX4_readAll_27 : decode cX4_readAll 27 = .ok (.getfield 40, 3) := by decide +kernel
theorem dX4_readAll_30 : decode cX4_readAll 30 = .ok (.ifCond .ne 5, 3) := by decide +kernel
theorem dX4_readAll_33 : decode cX4_readAll 33 = .ok (.iconst 1, 1) := by decide +kernel
theorem dX4_readAll_34 : decode cX4_readAll 34 = .ok (.ireturn, 1) := by decide +kernel
theorem dX4_readAll_35 : decode cX4_readAll 35 = .ok (.aload_n 1, 1) := by decide +kernel
theorem dX4_readAll_36 : decode cX4_readAll 36 = .ok (.getfield 40, 3) := by decide +kernel
theorem dX4_readAll_39 : decode cX4_readAll 39 = .ok (.iconst 5, 1) := by decide +kernel
theorem dX4_readAll_40 : decode cX4_readAll 40 = .ok (.if_icmp .ne 11, 3) := by decide +kernel
theorem dX4_readAll_43 : decode cX4_readAll 43 = .ok (.aload_n 0, 1) := by decide +kernel
theorem dX4_readAll_44 : decode cX4_readAll 44 = .ok (.aload_n 1, 1) := by decide +kernel
theorem dX4_readAll_45 : decode cX4_readAll 45 = .ok (.invokevirtual 43, 3) := by decide +kernel
theorem dX4_readAll_48 : decode cX4_readAll 48 = .ok (.goto 25, 3) := by decide +kernel
theorem dX4_readAll_51 : decode cX4_readAll 51 = .ok (.aload_n 1, 1) := by decide +kernel
theorem dX4_readAll_52 : decode cX4_readAll 52 = .ok (.getfield 40, 3) := by decide +kernel
theorem dX4_readAll_55 : decode cX4_readAll 55 = .ok (.bipush 6, 2) := by decide +kernel
theorem dX4_readAll_57 : decode cX4_readAll 57 = .ok (.if_icmp .ne 15, 3) := by decide +kernel
theorem dX4_readAll_60 : decode cX4_readAll 60 = .ok (.aload_n 0, 1) := by decide +kernel
theorem dX4_readAll_61 : decode cX4_readAll 61 = .ok (.aload_n 1, 1) := by decide +kernel
theorem dX4_readAll_62 : decode cX4_readAll 62 = .ok (.invokevirtual 47, 3) := by decide +kernel
theorem dX4_readAll_65 : decode cX4_readAll 65 = .ok (.ifCond .eq 7, 3) := by decide +kernel
theorem dX4_readAll_68 : decode cX4_readAll 68 = .ok (.iconst 1, 1) := by decide +kernel
theorem dX4_readAll_69 : decode cX4_readAll 69 = .ok (.goto 4, 3) := by decide +kernel
theorem dX4_readAll_72 : decode cX4_readAll 72 = .ok (.iconst 0, 1) := by decide +kernel
theorem dX4_readAll_73 : decode cX4_readAll 73 = .ok (.istore_n 3, 1) := by decide +kernel
theorem dX4_readAll_74 : decode cX4_readAll 74 = .ok (.iload_n 3, 1) := by decide +kernel
theorem dX4_readAll_75 : decode cX4_readAll 75 = .ok (.ifCond .ne 5, 3) := by decide +kernel
theorem dX4_readAll_78 : decode cX4_readAll 78 = .ok (.iconst 0, 1) := by decide +kernel
theorem dX4_readAll_79 : decode cX4_readAll 79 = .ok (.ireturn, 1) := by decide +kernel
theorem dX4_readAll_80 : decode cX4_readAll 80 = .ok (.iinc 2 1, 3) := by decide +kernel
theorem dX4_readAll_83 : decode cX4_readAll 83 = .ok (.goto (-67), 3) := by decide +kernel
theorem dX4_readAll_86 : decode cX4_readAll 86 = .ok (.iconst 0, 1) := by decide +kernel
theorem dX4_readAll_87 : decode cX4_readAll 87 = .ok (.ireturn, 1) := by decide +kernel
theorem dX4_readWord_0 : decode cX4_readWord 0 = .ok (.aload_n 0, 1) := by decide +kernel
theorem dX4_readWord_1 : decode cX4_readWord 1 = .ok (.getfield 25, 3) := by decide +kernel
theorem dX4_readWord_4 : decode cX4_readWord 4 = .ok (.bipush 9, 2) := by decide +kernel
theorem dX4_readWord_6 : decode cX4_readWord 6 = .ok (.if_icmp .lt 5, 3) := by decide +kernel
theorem dX4_readWord_9 : decode cX4_readWord 9 = .ok (.iconst 0, 1) := by decide +kernel
theorem dX4_readWord_10 : decode cX4_readWord 10 = .ok (.ireturn, 1) := by decide +kernel
theorem dX4_readWord_11 : decode cX4_readWord 11 = .ok (.aload_n 0, 1) := by decide +kernel
theorem dX4_readWord_12 : decode cX4_readWord 12 = .ok (.getfield 11, 3) := by decide +kernel
theorem dX4_readWord_15 : decode cX4_readWord 15 = .ok (.aload_n 0, 1) := by decide +kernel
theorem dX4_readWord_16 : decode cX4_readWord 16 = .ok (.getfield 25, 3) := by decide +kernel
theorem dX4_readWord_19 : decode cX4_readWord 19 = .ok (.aaload, 1) := by decide +kernel
theorem dX4_readWord_20 : decode cX4_readWord 20 = .ok (.astore_n 2, 1) := by decide +kernel
theorem dX4_readWord_21 : decode cX4_readWord 21 = .ok (.aload_n 1, 1) := by decide +kernel
theorem dX4_readWord_22 : decode cX4_readWord 22 = .ok (.aload_n 2, 1) := by decide +kernel
theorem dX4_readWord_23 : decode cX4_readWord 23 = .ok (.invokestatic 50, 3) := by decide +kernel
theorem dX4_readWord_26 : decode cX4_readWord 26 = .ok (.ifCond .eq 11, 3) := by decide +kernel
theorem dX4_readWord_29 : decode cX4_readWord 29 = .ok (.aload_n 1, 1) := by decide +kernel
theorem dX4_readWord_30 : decode cX4_readWord 30 = .ok (.iconst 2, 1) := by decide +kernel
theorem dX4_readWord_31 : decode cX4_readWord 31 = .ok (.invokestatic 54, 3) := by decide +kernel
theorem dX4_readWord_34 : decode cX4_readWord 34 = .ok (.ifCond .ne 5, 3) := by decide +kernel
theorem dX4_readWord_37 : decode cX4_readWord 37 = .ok (.iconst 0, 1) := by decide +kernel
theorem dX4_readWord_38 : decode cX4_readWord 38 = .ok (.ireturn, 1) := by decide +kernel
theorem dX4_readWord_39 : decode cX4_readWord 39 = .ok (.aload_n 2, 1) := by decide +kernel
theorem dX4_readWord_40 : decode cX4_readWord 40 = .ok (.aload_n 1, 1) := by decide +kernel
theorem dX4_readWord_41 : decode cX4_readWord 41 = .ok (.getfield 58, 3) := by decide +kernel
theorem dX4_readWord_44 : decode cX4_readWord 44 = .ok (.putfield 61, 3) := by decide +kernel
theorem dX4_readWord_47 : decode cX4_readWord 47 = .ok (.aload_n 1, 1) := by decide +kernel
theorem dX4_readWord_48 : decode cX4_readWord 48 = .ok (.bipush 9, 2) := by decide +kernel
theorem dX4_readWord_50 : decode cX4_readWord 50 = .ok (.invokestatic 54, 3) := by decide +kernel
theorem dX4_readWord_53 : decode cX4_readWord 53 = .ok (.ifCond .ne 5, 3) := by decide +kernel
theorem dX4_readWord_56 : decode cX4_readWord 56 = .ok (.iconst 0, 1) := by decide +kernel
theorem dX4_readWord_57 : decode cX4_readWord 57 = .ok (.ireturn, 1) := by decide +kernel
theorem dX4_readWord_58 : decode cX4_readWord 58 = .ok (.aload_n 2, 1) := by decide +kernel
theorem dX4_readWord_59 : decode cX4_readWord 59 = .ok (.aload_n 1, 1) := by decide +kernel
theorem dX4_readWord_60 : decode cX4_readWord 60 = .ok (.getfield 58, 3) := by decide +kernel
theorem dX4_readWord_63 : decode cX4_readWord 63 = .ok (.putfield 64, 3) := by decide +kernel
theorem dX4_readWord_66 : decode cX4_readWord 66 = .ok (.aload_n 1, 1) := by decide +kernel
theorem dX4_readWord_67 : decode cX4_readWord 67 = .ok (.bipush 9, 2) := by decide +kernel
theorem dX4_readWord_69 : decode cX4_readWord 69 = .ok (.invokestatic 54, 3) := by decide +kernel
theorem dX4_readWord_72 : decode cX4_readWord 72 = .ok (.ifCond .ne 5, 3) := by decide +kernel
theorem dX4_readWord_75 : decode cX4_readWord 75 = .ok (.iconst 0, 1) := by decide +kernel
theorem dX4_readWord_76 : decode cX4_readWord 76 = .ok (.ireturn, 1) := by decide +kernel
theorem dX4_readWord_77 : decode cX4_readWord 77 = .ok (.aload_n 2, 1) := by decide +kernel
theorem dX4_readWord_78 : decode cX4_readWord 78 = .ok (.aload_n 1, 1) := by decide +kernel
theorem dX4_readWord_79 : decode cX4_readWord 79 = .ok (.getfield 58, 3) := by decide +kernel
theorem dX4_readWord_82 : decode cX4_readWord 82 = .ok (.putfield 67, 3) := by decide +kernel
theorem dX4_readWord_85 : decode cX4_readWord 85 = .ok (.aload_n 0, 1) := by decide +kernel
theorem dX4_readWord_86 : decode cX4_readWord 86 = .ok (.dup, 1) := by decide +kernel
theorem dX4_readWord_87 : decode cX4_readWord 87 = .ok (.getfield 25, 3) := by decide +kernel
theorem dX4_readWord_90 : decode cX4_readWord 90 = .ok (.iconst 1, 1) := by decide +kernel
theorem dX4_readWord_91 : decode cX4_readWord 91 = .ok (.iadd, 1) := by decide +kernel
theorem dX4_readWord_92 : decode cX4_readWord 92 = .ok (.putfield 25, 3) := by decide +kernel
theorem dX4_readWord_95 : decode cX4_readWord 95 = .ok (.aload_n 1, 1) := by decide +kernel
theorem dX4_readWord_96 : decode cX4_readWord 96 = .ok (.invokestatic 70, 3) := by decide +kernel
theorem dX4_readWord_99 : decode cX4_readWord 99 = .ok (.ireturn, 1) := by decide +kernel
theorem dX4_readShape_0 : decode cX4_readShape 0 = .ok (.aload_n 0, 1) := by decide +kernel
theorem dX4_readShape_1 : decode cX4_readShape 1 = .ok (.getfield 29, 3) := by decide +kernel
theorem dX4_readShape_4 : decode cX4_readShape 4 = .ok (.iconst 4, 1) := by decide +kernel
theorem dX4_readShape_5 : decode cX4_readShape 5 = .ok (.if_icmp .ge 11, 3) := by decide +kernel
theorem dX4_readShape_8 : decode cX4_readShape 8 = .ok (.aload_n 1, 1) := by decide +kernel
theorem dX4_readShape_9 : decode cX4_readShape 9 = .ok (.iconst 2, 1) := by decide +kernel
theorem dX4_readShape_10 : decode cX4_readShape 10 = .ok (.invokestatic 54, 3) := by decide +kernel
theorem dX4_readShape_13 : decode cX4_readShape 13 = .ok (.ifCond .ne 5, 3) := by decide +kernel
theorem dX4_readShape_16 : decode cX4_readShape 16 = .ok (.iconst 0, 1) := by decide +kernel
theorem dX4_readShape_17 : decode cX4_readShape 17 = .ok (.ireturn, 1) := by decide +kernel
theorem dX4_readShape_18 : decode cX4_readShape 18 = .ok (.aload_n 0, 1) := by decide +kernel
theorem dX4_readShape_19 : decode cX4_readShape 19 = .ok (.getfield 19, 3) := by decide +kernel
theorem dX4_readShape_22 : decode cX4_readShape 22 = .ok (.aload_n 0, 1) := by decide +kernel
theorem dX4_readShape_23 : decode cX4_readShape 23 = .ok (.getfield 29, 3) := by decide +kernel
theorem dX4_readShape_26 : decode cX4_readShape 26 = .ok (.aaload, 1) := by decide +kernel
theorem dX4_readShape_27 : decode cX4_readShape 27 = .ok (.astore_n 2, 1) := by decide +kernel
theorem dX4_readShape_28 : decode cX4_readShape 28 = .ok (.aload_n 2, 1) := by decide +kernel
theorem dX4_readShape_29 : decode cX4_readShape 29 = .ok (.getfield 73, 3) := by decide +kernel
theorem dX4_readShape_32 : decode cX4_readShape 32 = .ok (.iconst 0, 1) := by decide +kernel
theorem dX4_readShape_33 : decode cX4_readShape 33 = .ok (.aload_n 1, 1) := by decide +kernel
theorem dX4_readShape_34 : decode cX4_readShape 34 = .ok (.getfield 58, 3) := by decide +kernel
theorem dX4_readShape_37 : decode cX4_readShape 37 = .ok (.iastore, 1) := by decide +kernel
theorem dX4_readShape_38 : decode cX4_readShape 38 = .ok (.aload_n 2, 1) := by decide +kernel
theorem dX4_readShape_39 : decode cX4_readShape 39 = .ok (.iconst 1, 1) := by decide +kernel
theorem dX4_readShape_40 : decode cX4_readShape 40 = .ok (.putfield 77, 3) := by decide +kernel
theorem dX4_readShape_43 : decode cX4_readShape 43 = .ok (.aload_n 0, 1) := by decide +kernel
theorem dX4_readShape_44 : decode cX4_readShape 44 = .ok (.dup, 1) := by decide +kernel
theorem dX4_readShape_45 : decode cX4_readShape 45 = .ok (.getfield 29, 3) := by decide +kernel
theorem dX4_readShape_48 : decode cX4_readShape 48 = .ok (.iconst 1, 1) := by decide +kernel
theorem dX4_readShape_49 : decode cX4_readShape 49 = .ok (.iadd, 1) := by decide +kernel
theorem dX4_readShape_50 : decode cX4_readShape 50 = .ok (.putfield 29, 3) := by decide +kernel
theorem dX4_readShape_53 : decode cX4_readShape 53 = .ok (.iconst 1, 1) := by decide +kernel
theorem dX4_readShape_54 : decode cX4_readShape 54 = .ok (.istore_n 3, 1) := by decide +kernel
theorem dX4_readShape_55 : decode cX4_readShape 55 = .ok (.iload_n 3, 1) := by decide +kernel
theorem dX4_readShape_56 : decode cX4_readShape 56 = .ok (.iconst 3, 1) := by decide +kernel
theorem dX4_readShape_57 : decode cX4_readShape 57 = .ok (.if_icmp .ge 48, 3) := by decide +kernel
theorem dX4_readShape_60 : decode cX4_readShape 60 = .ok (.aload_n 1, 1) := by decide +kernel
theorem dX4_readShape_61 : decode cX4_readShape 61 = .ok (.iconst 2, 1) := by decide +kernel
theorem dX4_readShape_62 : decode cX4_readShape 62 = .ok (.invokestatic 54, 3) := by decide +kernel
theorem dX4_readShape_65 : decode cX4_readShape 65 = .ok (.ifCond .ne 17, 3) := by decide +kernel
theorem dX4_readShape_68 : decode cX4_readShape 68 = .ok (.aload_n 1, 1) := by decide +kernel
theorem dX4_readShape_69 : decode cX4_readShape 69 = .ok (.getfield 40, 3) := by decide +kernel
theorem dX4_readShape_72 : decode cX4_readShape 72 = .ok (.iconst 2, 1) := by decide +kernel
theorem dX4_readShape_73 : decode cX4_readShape 73 = .ok (.if_icmp .ne 7, 3) := by decide +kernel
theorem dX4_readShape_76 : decode cX4_readShape 76 = .ok (.iconst 1, 1) := by decide +kernel
theorem dX4_readShape_77 : decode cX4_readShape 77 = .ok (.goto 4, 3) := by decide +kernel
theorem dX4_readShape_80 : decode cX4_readShape 80 = .ok (.iconst 0, 1) := by decide +kernel
theorem dX4_readShape_81 : decode cX4_readShape 81 = .ok (.ireturn, 1) := by decide +kernel
theorem dX4_readShape_82 : decode cX4_readShape 82 = .ok (.aload_n 2, 1) := by decide +kernel
theorem dX4_readShape_83 : decode cX4_readShape 83 = .ok (.getfield 73, 3) := by decide +kernel
theorem dX4_readShape_86 : decode cX4_readShape 86 = .ok (.iload_n 3, 1) := by decide +kernel
theorem dX4_readShape_87 : decode cX4_readShape 87 = .ok (.aload_n 1, 1) := by decide +kernel
theorem dX4_readShape_88 : decode cX4_readShape 88 = .ok (.getfield 58, 3) := by decide +kernel
theorem dX4_readShape_91 : decode cX4_readShape 91 = .ok (.iastore, 1) := by decide +kernel
theorem dX4_readShape_92 : decode cX4_readShape 92 = .ok (.aload_n 2, 1) := by decide +kernel
theorem dX4_readShape_93 : decode cX4_readShape 93 = .ok (.iload_n 3, 1) := by decide +kernel
theorem dX4_readShape_94 : decode cX4_readShape 94 = .ok (.iconst 1, 1) := by decide +kernel
theorem dX4_readShape_95 : decode cX4_readShape 95 = .ok (.iadd, 1) := by decide +kernel
theorem dX4_readShape_96 : decode cX4_readShape 96 = .ok (.putfield 77, 3) := by decide +kernel
theorem dX4_readShape_99 : decode cX4_readShape 99 = .ok (.iinc 3 1, 3) := by decide +kernel
theorem dX4_readShape_102 : decode cX4_readShape 102 = .ok (.goto (-47), 3) := by decide +kernel
theorem dX4_readShape_105 : decode cX4_readShape 105 = .ok (.aload_n 1, 1) := by decide +kernel
theorem dX4_readShape_106 : decode cX4_readShape 106 = .ok (.invokestatic 70, 3) := by decide +kernel
theorem dX4_readShape_109 : decode cX4_readShape 109 = .ok (.ireturn, 1) := by decide +kernel
theorem dX4_readSigns_0 : decode cX4_readSigns 0 = .ok (.aload_n 0, 1) := by decide +kernel
theorem dX4_readSigns_1 : decode cX4_readSigns 1 = .ok (.invokevirtual 37, 3) := by decide +kernel
theorem dX4_readSigns_4 : decode cX4_readSigns 4 = .ok (.aload_n 0, 1) := by decide +kernel
theorem dX4_readSigns_5 : decode cX4_readSigns 5 = .ok (.getfield 40, 3) := by decide +kernel
theorem dX4_readSigns_8 : decode cX4_readSigns 8 = .ok (.iconst 4, 1) := by decide +kernel
theorem dX4_readSigns_9 : decode cX4_readSigns 9 = .ok (.if_icmp .eq 5, 3) := by decide +kernel
theorem dX4_readSigns_12 : decode cX4_readSigns 12 = .ok (.iconst 0, 1) := by decide +kernel
theorem dX4_readSigns_13 : decode cX4_readSigns 13 = .ok (.ireturn, 1) := by decide +kernel
theorem dX4_readSigns_14 : decode cX4_readSigns 14 = .ok (.aload_n 1, 1) := by decide +kernel
theorem dX4_readSigns_15 : decode cX4_readSigns 15 = .ok (.aload_n 0, 1) := by decide +kernel
theorem dX4_readSigns_16 : decode cX4_readSigns 16 = .ok (.getfield 80, 3) := by decide +kernel
theorem dX4_readSigns_19 : decode cX4_readSigns 19 = .ok (.aload_n 0, 1) := by decide +kernel
theorem dX4_readSigns_20 : decode cX4_readSigns 20 = .ok (.getfield 83, 3) := by decide +kernel
theorem dX4_readSigns_23 : decode cX4_readSigns 23 = .ok (.isub, 1) := by decide +kernel
theorem dX4_readSigns_24 : decode cX4_readSigns 24 = .ok (.iconst 5, 1) := by decide +kernel
theorem dX4_readSigns_25 : decode cX4_readSigns 25 = .ok (.invokestatic 86, 3) := by decide +kernel
theorem dX4_readSigns_28 : decode cX4_readSigns 28 = .ok (.putfield 92, 3) := by decide +kernel
theorem dX4_readSigns_31 : decode cX4_readSigns 31 = .ok (.iconst 0, 1) := by decide +kernel
theorem dX4_readSigns_32 : decode cX4_readSigns 32 = .ok (.istore_n 2, 1) := by decide +kernel
theorem dX4_readSigns_33 : decode cX4_readSigns 33 = .ok (.iload_n 2, 1) := by decide +kernel
theorem dX4_readSigns_34 : decode cX4_readSigns 34 = .ok (.aload_n 1, 1) := by decide +kernel
theorem dX4_readSigns_35 : decode cX4_readSigns 35 = .ok (.getfield 92, 3) := by decide +kernel
theorem dX4_readSigns_38 : decode cX4_readSigns 38 = .ok (.if_icmp .ge 29, 3) := by decide +kernel
theorem dX4_readSigns_41 : decode cX4_readSigns 41 = .ok (.aload_n 1, 1) := by decide +kernel
theorem dX4_readSigns_42 : decode cX4_readSigns 42 = .ok (.getfield 93, 3) := by decide +kernel
theorem dX4_readSigns_45 : decode cX4_readSigns 45 = .ok (.iload_n 2, 1) := by decide +kernel
theorem dX4_readSigns_46 : decode cX4_readSigns 46 = .ok (.aload_n 0, 1) := by decide +kernel
theorem dX4_readSigns_47 : decode cX4_readSigns 47 = .ok (.getfield 96, 3) := by decide +kernel
theorem dX4_readSigns_50 : decode cX4_readSigns 50 = .ok (.aload_n 0, 1) := by decide +kernel
theorem dX4_readSigns_51 : decode cX4_readSigns 51 = .ok (.getfield 83, 3) := by decide +kernel
theorem dX4_readSigns_54 : decode cX4_readSigns 54 = .ok (.iload_n 2, 1) := by decide +kernel
theorem dX4_readSigns_55 : decode cX4_readSigns 55 = .ok (.iadd, 1) := by decide +kernel
theorem dX4_readSigns_56 : decode cX4_readSigns 56 = .ok (.iaload, 1) := by decide +kernel
theorem dX4_readSigns_57 : decode cX4_readSigns 57 = .ok (.bipush 97, 2) := by decide +kernel
theorem dX4_readSigns_59 : decode cX4_readSigns 59 = .ok (.isub, 1) := by decide +kernel
theorem dX4_readSigns_60 : decode cX4_readSigns 60 = .ok (.iastore, 1) := by decide +kernel
theorem dX4_readSigns_61 : decode cX4_readSigns 61 = .ok (.iinc 2 1, 3) := by decide +kernel
theorem dX4_readSigns_64 : decode cX4_readSigns 64 = .ok (.goto (-31), 3) := by decide +kernel
theorem dX4_readSigns_67 : decode cX4_readSigns 67 = .ok (.iconst 1, 1) := by decide +kernel
theorem dX4_readSigns_68 : decode cX4_readSigns 68 = .ok (.ireturn, 1) := by decide +kernel
theorem dX4_readNumber_0 : decode cX4_readNumber 0 = .ok (.aload_n 0, 1) := by decide +kernel
theorem dX4_readNumber_1 : decode cX4_readNumber 1 = .ok (.invokevirtual 37, 3) := by decide +kernel
theorem dX4_readNumber_4 : decode cX4_readNumber 4 = .ok (.aload_n 0, 1) := by decide +kernel
theorem dX4_readNumber_5 : decode cX4_readNumber 5 = .ok (.getfield 40, 3) := by decide +kernel
theorem dX4_readNumber_8 : decode cX4_readNumber 8 = .ok (.iconst 3, 1) := by decide +kernel
theorem dX4_readNumber_9 : decode cX4_readNumber 9 = .ok (.if_icmp .ne 15, 3) := by decide +kernel
theorem dX4_readNumber_12 : decode cX4_readNumber 12 = .ok (.aload_n 0, 1) := by decide +kernel
theorem dX4_readNumber_13 : decode cX4_readNumber 13 = .ok (.getfield 58, 3) := by decide +kernel
theorem dX4_readNumber_16 : decode cX4_readNumber 16 = .ok (.iload_n 1, 1) := by decide +kernel
theorem dX4_readNumber_17 : decode cX4_readNumber 17 = .ok (.if_icmp .gt 7, 3) := by decide +kernel
theorem dX4_readNumber_20 : decode cX4_readNumber 20 = .ok (.iconst 1, 1) := by decide +kernel
theorem dX4_readNumber_21 : decode cX4_readNumber 21 = .ok (.goto 4, 3) := by decide +kernel
theorem dX4_readNumber_24 : decode cX4_readNumber 24 = .ok (.iconst 0, 1) := by decide +kernel
theorem dX4_readNumber_25 : decode cX4_readNumber 25 = .ok (.ireturn, 1) := by decide +kernel
theorem dX4_readEnd_0 : decode cX4_readEnd 0 = .ok (.aload_n 0, 1) := by decide +kernel
theorem dX4_readEnd_1 : decode cX4_readEnd 1 = .ok (.invokevirtual 37, 3) := by decide +kernel
theorem dX4_readEnd_4 : decode cX4_readEnd 4 = .ok (.aload_n 0, 1) := by decide +kernel
theorem dX4_readEnd_5 : decode cX4_readEnd 5 = .ok (.getfield 40, 3) := by decide +kernel
theorem dX4_readEnd_8 : decode cX4_readEnd 8 = .ok (.iconst 2, 1) := by decide +kernel
theorem dX4_readEnd_9 : decode cX4_readEnd 9 = .ok (.if_icmp .ne 7, 3) := by decide +kernel
theorem dX4_readEnd_12 : decode cX4_readEnd 12 = .ok (.iconst 1, 1) := by decide +kernel
theorem dX4_readEnd_13 : decode cX4_readEnd 13 = .ok (.goto 4, 3) := by decide +kernel
theorem dX4_readEnd_16 : decode cX4_readEnd 16 = .ok (.iconst 0, 1) := by decide +kernel
theorem dX4_readEnd_17 : decode cX4_readEnd 17 = .ok (.ireturn, 1) := by decide +kernel
theorem dX5_init_0 : decode cX5_init 0 = .ok (.aload_n 0, 1) := by decide +kernel
theorem dX5_init_1 : decode cX5_init 1 = .ok (.invokespecial 3, 3) := by decide +kernel
theorem dX5_init_4 : decode cX5_init 4 = .ok (.aload_n 0, 1) := by decide +kernel
theorem dX5_init_5 : decode cX5_init 5 = .ok (.iconst 5, 1) := by decide +kernel
theorem dX5_init_6 : decode cX5_init 6 = .ok (.newarray .int, 2) := by decide +kernel
theorem dX5_init_8 : decode cX5_init 8 = .ok (.putfield 9, 3) := by decide +kernel
theorem dX5_init_11 : decode cX5_init 11 = .ok (.return_, 1) := by decide +kernel
theorem dX6_init_0 : decode cX6_init 0 = .ok (.aload_n 0, 1) := by decide +kernel
theorem dX6_init_1 : decode cX6_init 1 = .ok (.invokespecial 3, 3) := by decide +kernel
theorem dX6_init_4 : decode cX6_init 4 = .ok (.aload_n 0, 1) := by decide +kernel
theorem dX6_init_5 : decode cX6_init 5 = .ok (.new 9, 3) := by decide +kernel
theorem dX6_init_8 : decode cX6_init 8 = .ok (.dup, 1) := by decide +kernel
theorem dX6_init_9 : decode cX6_init 9 = .ok (.invokespecial 11, 3) := by decide +kernel
theorem dX6_init_12 : decode cX6_init 12 = .ok (.putfield 12, 3) := by decide +kernel
theorem dX6_init_15 : decode cX6_init 15 = .ok (.aload_n 0, 1) := by decide +kernel
theorem dX6_init_16 : decode cX6_init 16 = .ok (.new 16, 3) := by decide +kernel
theorem dX6_init_19 : decode cX6_init 19 = .ok (.dup, 1) := by decide +kernel
theorem dX6_init_20 : decode cX6_init 20 = .ok (.invokespecial 18, 3) := by decide +kernel
theorem dX6_init_23 : decode cX6_init 23 = .ok (.putfield 19, 3) := by decide +kernel
theorem dX6_init_26 : decode cX6_init 26 = .ok (.aload_n 0, 1) := by decide +kernel
theorem dX6_init_27 : decode cX6_init 27 = .ok (.new 23, 3) := by decide +kernel
theorem dX6_init_30 : decode cX6_init 30 = .ok (.dup, 1) := by decide +kernel
theorem dX6_init_31 : decode cX6_init 31 = .ok (.invokespecial 25, 3) := by decide +kernel
theorem dX6_init_34 : decode cX6_init 34 = .ok (.putfield 26, 3) := by decide +kernel
theorem dX6_init_37 : decode cX6_init 37 = .ok (.aload_n 0, 1) := by decide +kernel
theorem dX6_init_38 : decode cX6_init 38 = .ok (.iconst 2, 1) := by decide +kernel
theorem dX6_init_39 : decode cX6_init 39 = .ok (.anewarray 23, 3) := by decide +kernel
theorem dX6_init_42 : decode cX6_init 42 = .ok (.putfield 30, 3) := by decide +kernel
theorem dX6_init_45 : decode cX6_init 45 = .ok (.iconst 0, 1) := by decide +kernel
theorem dX6_init_46 : decode cX6_init 46 = .ok (.istore_n 1, 1) := by decide +kernel
theorem dX6_init_47 : decode cX6_init 47 = .ok (.iload_n 1, 1) := by decide +kernel
theorem dX6_init_48 : decode cX6_init 48 = .ok (.iconst 2, 1) := by decide +kernel
theorem dX6_init_49 : decode cX6_init 49 = .ok (.if_icmp .ge 22, 3) := by decide +kernel
theorem dX6_init_52 : decode cX6_init 52 = .ok (.aload_n 0, 1) := by decide +kernel
theorem dX6_init_53 : decode cX6_init 53 = .ok (.getfield 30, 3) := by decide +kernel
theorem dX6_init_56 : decode cX6_init 56 = .ok (.iload_n 1, 1) := by decide +kernel
theorem dX6_init_57 : decode cX6_init 57 = .ok (.new 23, 3) := by decide +kernel
theorem dX6_init_60 : decode cX6_init 60 = .ok (.dup, 1) := by decide +kernel
theorem dX6_init_61 : decode cX6_init 61 = .ok (.invokespecial 25, 3) := by decide +kernel
theorem dX6_init_64 : decode cX6_init 64 = .ok (.aastore, 1) := by decide +kernel
theorem dX6_init_65 : decode cX6_init 65 = .ok (.iinc 1 1, 3) := by decide +kernel
theorem dX6_init_68 : decode cX6_init 68 = .ok (.goto (-21), 3) := by decide +kernel
theorem dX6_init_71 : decode cX6_init 71 = .ok (.aload_n 0, 1) := by decide +kernel
theorem dX6_init_72 : decode cX6_init 72 = .ok (.new 34, 3) := by decide +kernel
theorem dX6_init_75 : decode cX6_init 75 = .ok (.dup, 1) := by decide +kernel
theorem dX6_init_76 : decode cX6_init 76 = .ok (.invokespecial 36, 3) := by decide +kernel
theorem dX6_init_79 : decode cX6_init 79 = .ok (.putfield 37, 3) := by decide +kernel
theorem dX6_init_82 : decode cX6_init 82 = .ok (.aload_n 0, 1) := by decide +kernel
theorem dX6_init_83 : decode cX6_init 83 = .ok (.new 34, 3) := by decide +kernel
theorem dX6_init_86 : decode cX6_init 86 = .ok (.dup, 1) := by decide +kernel
theorem dX6_init_87 : decode cX6_init 87 = .ok (.invokespecial 36, 3) := by decide +kernel
theorem dX6_init_90 : decode cX6_init 90 = .ok (.putfield 41, 3) := by decide +kernel
theorem dX6_init_93 : decode cX6_init 93 = .ok (.aload_n 0, 1) := by decide +kernel
theorem dX6_init_94 : decode cX6_init 94 = .ok (.lconst 0, 1) := by decide +kernel
theorem dX6_init_95 : decode cX6_init 95 = .ok (.putfield 44, 3) := by decide +kernel
theorem dX6_init_98 : decode cX6_init 98 = .ok (.return_, 1) := by decide +kernel
theorem dX6_type_0 : decode cX6_type 0 = .ok (.iload_n 3, 1) := by decide +kernel
theorem dX6_type_1 : decode cX6_type 1 = .ok (.iconst 1, 1) := by decide +kernel
theorem dX6_type_2 : decode cX6_type 2 = .ok (.if_icmp .lt 9, 3) := by decide +kernel
theorem dX6_type_5 : decode cX6_type 5 = .ok (.iload_n 3, 1) := by decide +kernel
theorem dX6_type_6 : decode cX6_type 6 = .ok (.bipush 8, 2) := by decide +kernel
theorem dX6_type_8 : decode cX6_type 8 = .ok (.if_icmp .le 5, 3) := by decide +kernel
theorem dX6_type_11 : decode cX6_type 11 = .ok (.iconst (-1), 1) := by decide +kernel
theorem dX6_type_12 : decode cX6_type 12 = .ok (.ireturn, 1) := by decide +kernel
theorem dX6_type_13 : decode cX6_type 13 = .ok (.aload_n 0, 1) := by decide +kernel
theorem dX6_type_14 : decode cX6_type 14 = .ok (.getfield 12, 3) := by decide +kernel
theorem dX6_type_17 : decode cX6_type 17 = .ok (.getfield 48, 3) := by decide +kernel
theorem dX6_type_20 : decode cX6_type 20 = .ok (.iload_n 3, 1) := by decide +kernel
theorem dX6_type_21 : decode cX6_type 21 = .ok (.iadd, 1) := by decide +kernel
theorem dX6_type_22 : decode cX6_type 22 = .ok (.sipush 200, 3) := by decide +kernel
theorem dX6_type_25 : decode cX6_type 25 = .ok (.if_icmp .le 6, 3) := by decide +kernel
theorem dX6_type_28 : decode cX6_type 28 = .ok (.bipush (-3), 2) := by decide +kernel
theorem dX6_type_30 : decode cX6_type 30 = .ok (.ireturn, 1) := by decide +kernel
theorem dX6_type_31 : decode cX6_type 31 = .ok (.iload_n 3, 1) := by decide +kernel
theorem dX6_type_32 : decode cX6_type 32 = .ok (.iconst 1, 1) := by decide +kernel
theorem dX6_type_33 : decode cX6_type 33 = .ok (.isub, 1) := by decide +kernel
theorem dX6_type_34 : decode cX6_type 34 = .ok (.istore 4, 2) := by decide +kernel
theorem dX6_type_36 : decode cX6_type 36 = .ok (.iload 4, 2) := by decide +kernel
theorem dX6_type_38 : decode cX6_type 38 = .ok (.ifCond .lt 28, 3) := by decide +kernel
theorem dX6_type_41 : decode cX6_type 41 = .ok (.aload_n 0, 1) := by decide +kernel
theorem dX6_type_42 : decode cX6_type 42 = .ok (.getfield 12, 3) := by decide +kernel
theorem dX6_type_45 : decode cX6_type 45 = .ok (.lload_n 1, 1) := by decide +kernel
theorem dX6_type_46 : decode cX6_type 46 = .ok (.bipush 8, 2) := by decide +kernel
theorem dX6_type_48 : decode cX6_type 48 = .ok (.iload 4, 2) := by decide +kernel
theorem dX6_type_50 : decode cX6_type 50 = .ok (.imul, 1) := by decide +kernel
theorem dX6_type_51 : decode cX6_type 51 = .ok (.lushr, 1) := by decide +kernel
theorem dX6_type_52 : decode cX6_type 52 = .ok (.l2i, 1) := by decide +kernel
theorem dX6_type_53 : decode cX6_type 53 = .ok (.sipush 255, 3) := by decide +kernel
theorem dX6_type_56 : decode cX6_type 56 = .ok (.iand, 1) := by decide +kernel
theorem dX6_type_57 : decode cX6_type 57 = .ok (.invokevirtual 52, 3) := by decide +kernel
theorem dX6_type_60 : decode cX6_type 60 = .ok (.iinc 4 (-1), 3) := by decide +kernel
theorem dX6_type_63 : decode cX6_type 63 = .ok (.goto (-27), 3) := by decide +kernel
theorem dX6_type_66 : decode cX6_type 66 = .ok (.aload_n 0, 1) := by decide +kernel
theorem dX6_type_67 : decode cX6_type 67 = .ok (.getfield 12, 3) := by decide +kernel
theorem dX6_type_70 : decode cX6_type 70 = .ok (.getfield 48, 3) := by decide +kernel
theorem dX6_type_73 : decode cX6_type 73 = .ok (.ireturn, 1) := by decide +kernel
theorem dX6_clear_0 : decode cX6_clear 0 = .ok (.aload_n 0, 1) := by decide +kernel
theorem dX6_clear_1 : decode cX6_clear 1 = .ok (.getfield 12, 3) := by decide +kernel
theorem dX6_clear_4 : decode cX6_clear 4 = .ok (.getfield 48, 3) := by decide +kernel
theorem dX6_clear_7 : decode cX6_clear 7 = .ok (.istore_n 1, 1) := by decide +kernel
theorem dX6_clear_8 : decode cX6_clear 8 = .ok (.aload_n 0, 1) := by decide +kernel
theorem dX6_clear_9 : decode cX6_clear 9 = .ok (.getfield 12, 3) := by decide +kernel
theorem dX6_clear_12 : decode cX6_clear 12 = .ok (.iconst 0, 1) := by decide +kernel
theorem dX6_clear_13 : decode cX6_clear 13 = .ok (.putfield 48, 3) := by decide +kernel
theorem dX6_clear_16 : decode cX6_clear 16 = .ok (.iload_n 1, 1) := by decide +kernel
theorem dX6_clear_17 : decode cX6_clear 17 = .ok (.ireturn, 1) := by decide +kernel
theorem dX6_tongue_0 : decode cX6_tongue 0 = .ok (.aload_n 0, 1) := by decide +kernel
theorem dX6_tongue_1 : decode cX6_tongue 1 = .ok (.getfield 41, 3) := by decide +kernel
theorem dX6_tongue_4 : decode cX6_tongue 4 = .ok (.aload_n 0, 1) := by decide +kernel
theorem dX6_tongue_5 : decode cX6_tongue 5 = .ok (.getfield 12, 3) := by decide +kernel
theorem dX6_tongue_8 : decode cX6_tongue 8 = .ok (.invokevirtual 56, 3) := by decide +kernel
theorem dX6_tongue_11 : decode cX6_tongue 11 = .ok (.ifCond .ne 14, 3) := by decide +kernel
theorem dX6_tongue_14 : decode cX6_tongue 14 = .ok (.bipush (-10), 2) := by decide +kernel
theorem dX6_tongue_16 : decode cX6_tongue 16 = .ok (.aload_n 0, 1) := by decide +kernel
theorem dX6_tongue_17 : decode cX6_tongue 17 = .ok (.getfield 12, 3) := by decide +kernel
theorem dX6_tongue_20 : decode cX6_tongue 20 = .ok (.getfield 60, 3) := by decide +kernel
theorem dX6_tongue_23 : decode cX6_tongue 23 = .ok (.isub, 1) := by decide +kernel
theorem dX6_tongue_24 : decode cX6_tongue 24 = .ok (.ireturn, 1) := by decide +kernel
theorem dX6_tongue_25 : decode cX6_tongue 25 = .ok (.aload_n 0, 1) := by decide +kernel
theorem dX6_tongue_26 : decode cX6_tongue 26 = .ok (.getfield 37, 3) := by decide +kernel
theorem dX6_tongue_29 : decode cX6_tongue 29 = .ok (.astore_n 1, 1) := by decide +kernel
theorem dX6_tongue_30 : decode cX6_tongue 30 = .ok (.aload_n 0, 1) := by decide +kernel
theorem dX6_tongue_31 : decode cX6_tongue 31 = .ok (.aload_n 0, 1) := by decide +kernel
theorem dX6_tongue_32 : decode cX6_tongue 32 = .ok (.getfield 41, 3) := by decide +kernel
theorem dX6_tongue_35 : decode cX6_tongue 35 = .ok (.putfield 37, 3) := by decide +kernel
theorem dX6_tongue_38 : decode cX6_tongue 38 = .ok (.aload_n 0, 1) := by decide +kernel
theorem dX6_tongue_39 : decode cX6_tongue 39 = .ok (.aload_n 1, 1) := by decide +kernel
theorem dX6_tongue_40 : decode cX6_tongue 40 = .ok (.putfield 41, 3) := by decide +kernel
theorem dX6_tongue_43 : decode cX6_tongue 43 = .ok (.aload_n 0, 1) := by decide +kernel
theorem dX6_tongue_44 : decode cX6_tongue 44 = .ok (.getfield 12, 3) := by decide +kernel
theorem dX6_tongue_47 : decode cX6_tongue 47 = .ok (.iconst 0, 1) := by decide +kernel
theorem dX6_tongue_48 : decode cX6_tongue 48 = .ok (.putfield 48, 3) := by decide +kernel
theorem dX6_tongue_51 : decode cX6_tongue 51 = .ok (.aload_n 0, 1) := by decide +kernel
theorem dX6_tongue_52 : decode cX6_tongue 52 = .ok (.getfield 19, 3) := by decide +kernel
theorem dX6_tongue_55 : decode cX6_tongue 55 = .ok (.aload_n 0, 1) := by decide +kernel
theorem dX6_tongue_56 : decode cX6_tongue 56 = .ok (.getfield 37, 3) := by decide +kernel
theorem dX6_tongue_59 : decode cX6_tongue 59 = .ok (.invokevirtual 63, 3) := by decide +kernel
theorem dX6_tongue_62 : decode cX6_tongue 62 = .ok (.aload_n 0, 1) := by decide +kernel
theorem dX6_tongue_63 : decode cX6_tongue 63 = .ok (.getfield 26, 3) := by decide +kernel
theorem dX6_tongue_66 : decode cX6_tongue 66 = .ok (.iconst 0, 1) := by decide +kernel
theorem dX6_tongue_67 : decode cX6_tongue 67 = .ok (.putfield 67, 3) := by decide +kernel
theorem dX6_tongue_70 : decode cX6_tongue 70 = .ok (.iconst 0, 1) := by decide +kernel
theorem dX6_tongue_71 : decode cX6_tongue 71 = .ok (.istore_n 2, 1) := by decide +kernel
theorem dX6_tongue_72 : decode cX6_tongue 72 = .ok (.iload_n 2, 1) := by decide +kernel
theorem dX6_tongue_73 : decode cX6_tongue 73 = .ok (.iconst 2, 1) := by decide +kernel
theorem dX6_tongue_74 : decode cX6_tongue 74 = .ok (.if_icmp .ge 19, 3) := by decide +kernel
theorem dX6_tongue_77 : decode cX6_tongue 77 = .ok (.aload_n 0, 1) := by decide +kernel
theorem dX6_tongue_78 : decode cX6_tongue 78 = .ok (.getfield 30, 3) := by decide +kernel
theorem dX6_tongue_81 : decode cX6_tongue 81 = .ok (.iload_n 2, 1) := by decide +kernel
theorem dX6_tongue_82 : decode cX6_tongue 82 = .ok (.aaload, 1) := by decide +kernel
theorem dX6_tongue_83 : decode cX6_tongue 83 = .ok (.iconst 0, 1) := by decide +kernel
theorem dX6_tongue_84 : decode cX6_tongue 84 = .ok (.putfield 70, 3) := by decide +kernel
theorem dX6_tongue_87 : decode cX6_tongue 87 = .ok (.iinc 2 1, 3) := by decide +kernel
theorem dX6_tongue_90 : decode cX6_tongue 90 = .ok (.goto (-18), 3) := by decide +kernel
theorem dX6_tongue_93 : decode cX6_tongue 93 = .ok (.aload_n 0, 1) := by decide +kernel
theorem dX6_tongue_94 : decode cX6_tongue 94 = .ok (.getfield 37, 3) := by decide +kernel
theorem dX6_tongue_97 : decode cX6_tongue 97 = .ok (.getfield 74, 3) := by decide +kernel
theorem dX6_tongue_100 : decode cX6_tongue 100 = .ok (.aload_n 0, 1) := by decide +kernel
theorem dX6_tongue_101 : decode cX6_tongue 101 = .ok (.getfield 37, 3) := by decide +kernel
theorem dX6_tongue_104 : decode cX6_tongue 104 = .ok (.getfield 77, 3) := by decide +kernel
theorem dX6_tongue_107 : decode cX6_tongue 107 = .ok (.iadd, 1) := by decide +kernel
theorem dX6_tongue_108 : decode cX6_tongue 108 = .ok (.ireturn, 1) := by decide +kernel
theorem dX6_word_0 : decode cX6_word 0 = .ok (.aload_n 0, 1) := by decide +kernel
theorem dX6_word_1 : decode cX6_word 1 = .ok (.iload_n 1, 1) := by decide +kernel
theorem dX6_word_2 : decode cX6_word 2 = .ok (.invokevirtual 80, 3) := by decide +kernel
theorem dX6_word_5 : decode cX6_word 5 = .ok (.ifCond .ne 5, 3) := by decide +kernel
theorem dX6_word_8 : decode cX6_word 8 = .ok (.iconst (-1), 1) := by decide +kernel
theorem dX6_word_9 : decode cX6_word 9 = .ok (.ireturn, 1) := by decide +kernel
theorem dX6_word_10 : decode cX6_word 10 = .ok (.aload_n 0, 1) := by decide +kernel
theorem dX6_word_11 : decode cX6_word 11 = .ok (.getfield 37, 3) := by decide +kernel
theorem dX6_word_14 : decode cX6_word 14 = .ok (.getfield 84, 3) := by decide +kernel
theorem dX6_word_17 : decode cX6_word 17 = .ok (.iload_n 1, 1) := by decide +kernel
theorem dX6_word_18 : decode cX6_word 18 = .ok (.aaload, 1) := by decide +kernel
theorem dX6_word_19 : decode cX6_word 19 = .ok (.astore_n 3, 1) := by decide +kernel
theorem dX6_word_20 : decode cX6_word 20 = .ok (.iload_n 2, 1) := by decide +kernel
theorem dX6_word_21 : decode cX6_word 21 = .ok (.tableswitch 51 0 3 #[31, 36, 41, 46], 31) := by decide +kernel
theorem dX6_word_52 : decode cX6_word 52 = .ok (.aload_n 3, 1) := by decide +kernel
theorem dX6_word_53 : decode cX6_word 53 = .ok (.getfield 88, 3) := by decide +kernel
theorem dX6_word_56 : decode cX6_word 56 = .ok (.ireturn, 1) := by decide +kernel
theorem dX6_word_57 : decode cX6_word 57 = .ok (.aload_n 3, 1) := by decide +kernel
theorem dX6_word_58 : decode cX6_word 58 = .ok (.getfield 91, 3) := by decide +kernel
theorem dX6_word_61 : decode cX6_word 61 = .ok (.ireturn, 1) := by decide +kernel
theorem dX6_word_62 : decode cX6_word 62 = .ok (.aload_n 3, 1) := by decide +kernel
theorem dX6_word_63 : decode cX6_word 63 = .ok (.getfield 94, 3) := by decide +kernel
theorem dX6_word_66 : decode cX6_word 66 = .ok (.ireturn, 1) := by decide +kernel
theorem dX6_word_67 : decode cX6_word 67 = .ok (.aload_n 3, 1) := by decide +kernel
theorem dX6_word_68 : decode cX6_word 68 = .ok (.getfield 97, 3) := by decide +kernel
theorem dX6_word_71 : decode cX6_word 71 = .ok (.ireturn, 1) := by decide +kernel
theorem dX6_word_72 : decode cX6_word 72 = .ok (.iconst (-1), 1) := by decide +kernel
theorem dX6_word_73 : decode cX6_word 73 = .ok (.ireturn, 1) := by decide +kernel
theorem dX6_spell_0 : decode cX6_spell 0 = .ok (.aload_n 0, 1) := by decide +kernel
theorem dX6_spell_1 : decode cX6_spell 1 = .ok (.iload_n 1, 1) := by decide +kernel
theorem dX6_spell_2 : decode cX6_spell 2 = .ok (.invokevirtual 80, 3) := by decide +kernel
theorem dX6_spell_5 : decode cX6_spell 5 = .ok (.ifCond .eq 7, 3) := by decide +kernel
theorem dX6_spell_8 : decode cX6_spell 8 = .ok (.iload_n 2, 1) := by decide +kernel
theorem dX6_spell_9 : decode cX6_spell 9 = .ok (.ifCond .ge 5, 3) := by decide +kernel
theorem dX6_spell_12 : decode cX6_spell 12 = .ok (.iconst (-1), 1) := by decide +kernel
theorem dX6_spell_13 : decode cX6_spell 13 = .ok (.ireturn, 1) := by decide +kernel
theorem dX6_spell_14 : decode cX6_spell 14 = .ok (.aload_n 0, 1) := by decide +kernel
theorem dX6_spell_15 : decode cX6_spell 15 = .ok (.getfield 37, 3) := by decide +kernel
theorem dX6_spell_18 : decode cX6_spell 18 = .ok (.getfield 84, 3) := by decide +kernel
theorem dX6_spell_21 : decode cX6_spell 21 = .ok (.iload_n 1, 1) := by decide +kernel
theorem dX6_spell_22 : decode cX6_spell 22 = .ok (.aaload, 1) := by decide +kernel
theorem dX6_spell_23 : decode cX6_spell 23 = .ok (.astore_n 3, 1) := by decide +kernel
theorem dX6_spell_24 : decode cX6_spell 24 = .ok (.iload_n 2, 1) := by decide +kernel
theorem dX6_spell_25 : decode cX6_spell 25 = .ok (.aload_n 3, 1) := by decide +kernel
theorem dX6_spell_26 : decode cX6_spell 26 = .ok (.getfield 88, 3) := by decide +kernel
theorem dX6_spell_29 : decode cX6_spell 29 = .ok (.if_icmp .ge 12, 3) := by decide +kernel
theorem dX6_spell_32 : decode cX6_spell 32 = .ok (.aload_n 3, 1) := by decide +kernel
theorem dX6_spell_33 : decode cX6_spell 33 = .ok (.getfield 100, 3) := by decide +kernel
theorem dX6_spell_36 : decode cX6_spell 36 = .ok (.iload_n 2, 1) := by decide +kernel
theorem dX6_spell_37 : decode cX6_spell 37 = .ok (.iaload, 1) := by decide +kernel
theorem dX6_spell_38 : decode cX6_spell 38 = .ok (.goto 5, 3) := by decide +kernel
theorem dX6_spell_41 : decode cX6_spell 41 = .ok (.bipush (-5), 2) := by decide +kernel
theorem dX6_spell_43 : decode cX6_spell 43 = .ok (.ireturn, 1) := by decide +kernel
theorem dX6_shape_0 : decode cX6_shape 0 = .ok (.aload_n 0, 1) := by decide +kernel
theorem dX6_shape_1 : decode cX6_shape 1 = .ok (.iload_n 1, 1) := by decide +kernel
theorem dX6_shape_2 : decode cX6_shape 2 = .ok (.invokevirtual 104, 3) := by decide +kernel
theorem dX6_shape_5 : decode cX6_shape 5 = .ok (.ifCond .eq 7, 3) := by decide +kernel
theorem dX6_shape_8 : decode cX6_shape 8 = .ok (.iload_n 2, 1) := by decide +kernel
theorem dX6_shape_9 : decode cX6_shape 9 = .ok (.ifCond .ge 5, 3) := by decide +kernel
theorem dX6_shape_12 : decode cX6_shape 12 = .ok (.iconst (-1), 1) := by decide +kernel
theorem dX6_shape_13 : decode cX6_shape 13 = .ok (.ireturn, 1) := by decide +kernel
theorem dX6_shape_14 : decode cX6_shape 14 = .ok (.aload_n 0, 1) := by decide +kernel
theorem dX6_shape_15 : decode cX6_shape 15 = .ok (.getfield 37, 3) := by decide +kernel
theorem dX6_shape_18 : decode cX6_shape 18 = .ok (.getfield 107, 3) := by decide +kernel
theorem dX6_shape_21 : decode cX6_shape 21 = .ok (.iload_n 1, 1) := by decide +kernel
theorem dX6_shape_22 : decode cX6_shape 22 = .ok (.aaload, 1) := by decide +kernel
theorem dX6_shape_23 : decode cX6_shape 23 = .ok (.astore_n 3, 1) := by decide +kernel
theorem dX6_shape_24 : decode cX6_shape 24 = .ok (.iload_n 2, 1) := by decide +kernel
theorem dX6_shape_25 : decode cX6_shape 25 = .ok (.aload_n 3, 1) := by decide +kernel
theorem dX6_shape_26 : decode cX6_shape 26 = .ok (.getfield 111, 3) := by decide +kernel
theorem dX6_shape_29 : decode cX6_shape 29 = .ok (.if_icmp .ge 12, 3) := by decide +kernel
theorem dX6_shape_32 : decode cX6_shape 32 = .ok (.aload_n 3, 1) := by decide +kernel
theorem dX6_shape_33 : decode cX6_shape 33 = .ok (.getfield 114, 3) := by decide +kernel
theorem dX6_shape_36 : decode cX6_shape 36 = .ok (.iload_n 2, 1) := by decide +kernel
theorem dX6_shape_37 : decode cX6_shape 37 = .ok (.iaload, 1) := by decide +kernel
theorem dX6_shape_38 : decode cX6_shape 38 = .ok (.goto 5, 3) := by decide +kernel
theorem dX6_shape_41 : decode cX6_shape 41 = .ok (.bipush (-5), 2) := by decide +kernel
theorem dX6_shape_43 : decode cX6_shape 43 = .ok (.ireturn, 1) := by decide +kernel
theorem dX6_letter_0 : decode cX6_letter 0 = .ok (.aload_n 0, 1) := by decide +kernel
theorem dX6_letter_1 : decode cX6_letter 1 = .ok (.getfield 19, 3) := by decide +kernel
