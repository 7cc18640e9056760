theorem dX7_wrote_8 : decode cX7_wrote 8 = .ok (.getfield 19, 3) := by decide +kernel
theorem dX7_wrote_11 : decode cX7_wrote 11 = .ok (.iconst 0, 1) := by decide +kernel
theorem dX7_wrote_12 : decode cX7_wrote 12 = .ok (.iaload, 1) := by decide +kernel
theorem dX7_wrote_13 : decode cX7_wrote 13 = .ok (.if_icmp .ge 14, 3) := by decide +kernel
theorem dX7_wrote_16 : decode cX7_wrote 16 = .ok (.aload_n 0, 1) := by decide +kernel
theorem dX7_wrote_17 : decode cX7_wrote 17 = .ok (.getfield 19, 3) := by decide +kernel
theorem dX7_wrote_20 : decode cX7_wrote 20 = .ok (.iload_n 1, 1) := by decide +kernel
theorem dX7_wrote_21 : decode cX7_wrote 21 = .ok (.iconst 1, 1) := by decide +kernel
theorem dX7_wrote_22 : decode cX7_wrote 22 = .ok (.iadd, 1) := by decide +kernel
theorem dX7_wrote_23 : decode cX7_wrote 23 = .ok (.iaload, 1) := by decide +kernel
theorem dX7_wrote_24 : decode cX7_wrote 24 = .ok (.goto 5, 3) := by decide +kernel
theorem dX7_wrote_27 : decode cX7_wrote 27 = .ok (.bipush (-5), 2) := by decide +kernel
theorem dX7_wrote_29 : decode cX7_wrote 29 = .ok (.ireturn, 1) := by decide +kernel
theorem dX7_side_0 : decode cX7_side 0 = .ok (.iload_n 1, 1) := by decide +kernel
theorem dX7_side_1 : decode cX7_side 1 = .ok (.iconst 0, 1) := by decide +kernel
theorem dX7_side_2 : decode cX7_side 2 = .ok (.iconst 1, 1) := by decide +kernel
theorem dX7_side_3 : decode cX7_side 3 = .ok (.invokestatic 47, 3) := by decide +kernel
theorem dX7_side_6 : decode cX7_side 6 = .ok (.ifCond .ne 5, 3) := by decide +kernel
theorem dX7_side_9 : decode cX7_side 9 = .ok (.iconst (-1), 1) := by decide +kernel
theorem dX7_side_10 : decode cX7_side 10 = .ok (.ireturn, 1) := by decide +kernel
theorem dX7_side_11 : decode cX7_side 11 = .ok (.iconst 0, 1) := by decide +kernel
theorem dX7_side_12 : decode cX7_side 12 = .ok (.istore_n 2, 1) := by decide +kernel
theorem dX7_side_13 : decode cX7_side 13 = .ok (.iconst 0, 1) := by decide +kernel
theorem dX7_side_14 : decode cX7_side 14 = .ok (.istore_n 3, 1) := by decide +kernel
theorem dX7_side_15 : decode cX7_side 15 = .ok (.iload_n 3, 1) := by decide +kernel
theorem dX7_side_16 : decode cX7_side 16 = .ok (.aload_n 0, 1) := by decide +kernel
theorem dX7_side_17 : decode cX7_side 17 = .ok (.getfield 19, 3) := by decide +kernel
theorem dX7_side_20 : decode cX7_side 20 = .ok (.iconst 0, 1) := by decide +kernel
theorem dX7_side_21 : decode cX7_side 21 = .ok (.iaload, 1) := by decide +kernel
theorem dX7_side_22 : decode cX7_side 22 = .ok (.if_icmp .ge 50, 3) := by decide +kernel
theorem dX7_side_25 : decode cX7_side 25 = .ok (.aload_n 0, 1) := by decide +kernel
theorem dX7_side_26 : decode cX7_side 26 = .ok (.aload_n 0, 1) := by decide +kernel
theorem dX7_side_27 : decode cX7_side 27 = .ok (.getfield 19, 3) := by decide +kernel
theorem dX7_side_30 : decode cX7_side 30 = .ok (.iload_n 3, 1) := by decide +kernel
theorem dX7_side_31 : decode cX7_side 31 = .ok (.iconst 1, 1) := by decide +kernel
theorem dX7_side_32 : decode cX7_side 32 = .ok (.iadd, 1) := by decide +kernel
theorem dX7_side_33 : decode cX7_side 33 = .ok (.iaload, 1) := by decide +kernel
theorem dX7_side_34 : decode cX7_side 34 = .ok (.invokevirtual 136, 3) := by decide +kernel
theorem dX7_side_37 : decode cX7_side 37 = .ok (.istore 4, 2) := by decide +kernel
theorem dX7_side_39 : decode cX7_side 39 = .ok (.iload_n 2, 1) := by decide +kernel
theorem dX7_side_40 : decode cX7_side 40 = .ok (.iload_n 3, 1) := by decide +kernel
theorem dX7_side_41 : decode cX7_side 41 = .ok (.iconst 2, 1) := by decide +kernel
theorem dX7_side_42 : decode cX7_side 42 = .ok (.irem, 1) := by decide +kernel
theorem dX7_side_43 : decode cX7_side 43 = .ok (.iload_n 1, 1) := by decide +kernel
theorem dX7_side_44 : decode cX7_side 44 = .ok (.if_icmp .ne 13, 3) := by decide +kernel
theorem dX7_side_47 : decode cX7_side 47 = .ok (.aload_n 0, 1) := by decide +kernel
theorem dX7_side_48 : decode cX7_side 48 = .ok (.getfield 35, 3) := by decide +kernel
theorem dX7_side_51 : decode cX7_side 51 = .ok (.iload 4, 2) := by decide +kernel
theorem dX7_side_53 : decode cX7_side 53 = .ok (.iaload, 1) := by decide +kernel
theorem dX7_side_54 : decode cX7_side 54 = .ok (.goto 10, 3) := by decide +kernel
theorem dX7_side_57 : decode cX7_side 57 = .ok (.aload_n 0, 1) := by decide +kernel
theorem dX7_side_58 : decode cX7_side 58 = .ok (.getfield 38, 3) := by decide +kernel
theorem dX7_side_61 : decode cX7_side 61 = .ok (.iload 4, 2) := by decide +kernel
theorem dX7_side_63 : decode cX7_side 63 = .ok (.iaload, 1) := by decide +kernel
theorem dX7_side_64 : decode cX7_side 64 = .ok (.iadd, 1) := by decide +kernel
theorem dX7_side_65 : decode cX7_side 65 = .ok (.istore_n 2, 1) := by decide +kernel
theorem dX7_side_66 : decode cX7_side 66 = .ok (.iinc 3 1, 3) := by decide +kernel
theorem dX7_side_69 : decode cX7_side 69 = .ok (.goto (-54), 3) := by decide +kernel
theorem dX7_side_72 : decode cX7_side 72 = .ok (.iload_n 2, 1) := by decide +kernel
theorem dX7_side_73 : decode cX7_side 73 = .ok (.ireturn, 1) := by decide +kernel
theorem dX7_says_0 : decode cX7_says 0 = .ok (.iload_n 1, 1) := by decide +kernel
theorem dX7_says_1 : decode cX7_says 1 = .ok (.bipush (-2), 2) := by decide +kernel
theorem dX7_says_3 : decode cX7_says 3 = .ok (.if_icmp .ge 5, 3) := by decide +kernel
theorem dX7_says_6 : decode cX7_says 6 = .ok (.iconst (-1), 1) := by decide +kernel
theorem dX7_says_7 : decode cX7_says 7 = .ok (.ireturn, 1) := by decide +kernel
theorem dX7_says_8 : decode cX7_says 8 = .ok (.iload_n 1, 1) := by decide +kernel
theorem dX7_says_9 : decode cX7_says 9 = .ok (.iconst (-1), 1) := by decide +kernel
theorem dX7_says_10 : decode cX7_says 10 = .ok (.if_icmp .ne 8, 3) := by decide +kernel
theorem dX7_says_13 : decode cX7_says 13 = .ok (.aload_n 0, 1) := by decide +kernel
theorem dX7_says_14 : decode cX7_says 14 = .ok (.getfield 123, 3) := by decide +kernel
theorem dX7_says_17 : decode cX7_says 17 = .ok (.ireturn, 1) := by decide +kernel
theorem dX7_says_18 : decode cX7_says 18 = .ok (.bipush (-9), 2) := by decide +kernel
theorem dX7_says_20 : decode cX7_says 20 = .ok (.istore_n 2, 1) := by decide +kernel
theorem dX7_says_21 : decode cX7_says 21 = .ok (.iconst 0, 1) := by decide +kernel
theorem dX7_says_22 : decode cX7_says 22 = .ok (.istore_n 3, 1) := by decide +kernel
theorem dX7_says_23 : decode cX7_says 23 = .ok (.iload_n 3, 1) := by decide +kernel
theorem dX7_says_24 : decode cX7_says 24 = .ok (.aload_n 0, 1) := by decide +kernel
theorem dX7_says_25 : decode cX7_says 25 = .ok (.getfield 123, 3) := by decide +kernel
theorem dX7_says_28 : decode cX7_says 28 = .ok (.if_icmp .ge 30, 3) := by decide +kernel
theorem dX7_says_31 : decode cX7_says 31 = .ok (.aload_n 0, 1) := by decide +kernel
theorem dX7_says_32 : decode cX7_says 32 = .ok (.getfield 35, 3) := by decide +kernel
theorem dX7_says_35 : decode cX7_says 35 = .ok (.iload_n 3, 1) := by decide +kernel
theorem dX7_says_36 : decode cX7_says 36 = .ok (.iaload, 1) := by decide +kernel
theorem dX7_says_37 : decode cX7_says 37 = .ok (.iload_n 2, 1) := by decide +kernel
theorem dX7_says_38 : decode cX7_says 38 = .ok (.if_icmp .le 12, 3) := by decide +kernel
theorem dX7_says_41 : decode cX7_says 41 = .ok (.aload_n 0, 1) := by decide +kernel
theorem dX7_says_42 : decode cX7_says 42 = .ok (.getfield 35, 3) := by decide +kernel
theorem dX7_says_45 : decode cX7_says 45 = .ok (.iload_n 3, 1) := by decide +kernel
theorem dX7_says_46 : decode cX7_says 46 = .ok (.iaload, 1) := by decide +kernel
theorem dX7_says_47 : decode cX7_says 47 = .ok (.goto 4, 3) := by decide +kernel
theorem dX7_says_50 : decode cX7_says 50 = .ok (.iload_n 2, 1) := by decide +kernel
theorem dX7_says_51 : decode cX7_says 51 = .ok (.istore_n 2, 1) := by decide +kernel
theorem dX7_says_52 : decode cX7_says 52 = .ok (.iinc 3 1, 3) := by decide +kernel
theorem dX7_says_55 : decode cX7_says 55 = .ok (.goto (-32), 3) := by decide +kernel
theorem dX7_says_58 : decode cX7_says 58 = .ok (.iload_n 1, 1) := by decide +kernel
theorem dX7_says_59 : decode cX7_says 59 = .ok (.bipush (-2), 2) := by decide +kernel
theorem dX7_says_61 : decode cX7_says 61 = .ok (.if_icmp .ne 7, 3) := by decide +kernel
theorem dX7_says_64 : decode cX7_says 64 = .ok (.iload_n 2, 1) := by decide +kernel
theorem dX7_says_65 : decode cX7_says 65 = .ok (.goto 22, 3) := by decide +kernel
theorem dX7_says_68 : decode cX7_says 68 = .ok (.iload_n 1, 1) := by decide +kernel
theorem dX7_says_69 : decode cX7_says 69 = .ok (.aload_n 0, 1) := by decide +kernel
theorem dX7_says_70 : decode cX7_says 70 = .ok (.getfield 123, 3) := by decide +kernel
theorem dX7_says_73 : decode cX7_says 73 = .ok (.if_icmp .ge 12, 3) := by decide +kernel
theorem dX7_says_76 : decode cX7_says 76 = .ok (.aload_n 0, 1) := by decide +kernel
theorem dX7_says_77 : decode cX7_says 77 = .ok (.getfield 29, 3) := by decide +kernel
theorem dX7_says_80 : decode cX7_says 80 = .ok (.iload_n 1, 1) := by decide +kernel
theorem dX7_says_81 : decode cX7_says 81 = .ok (.iaload, 1) := by decide +kernel
theorem dX7_says_82 : decode cX7_says 82 = .ok (.goto 5, 3) := by decide +kernel
theorem dX7_says_85 : decode cX7_says 85 = .ok (.bipush (-5), 2) := by decide +kernel
theorem dX7_says_87 : decode cX7_says 87 = .ok (.ireturn, 1) := by decide +kernel
theorem dX7_apart_0 : decode cX7_apart 0 = .ok (.iconst 0, 1) := by decide +kernel
theorem dX7_apart_1 : decode cX7_apart 1 = .ok (.istore_n 2, 1) := by decide +kernel
theorem dX7_apart_2 : decode cX7_apart 2 = .ok (.iconst 0, 1) := by decide +kernel
theorem dX7_apart_3 : decode cX7_apart 3 = .ok (.istore_n 3, 1) := by decide +kernel
theorem dX7_apart_4 : decode cX7_apart 4 = .ok (.iload_n 3, 1) := by decide +kernel
theorem dX7_apart_5 : decode cX7_apart 5 = .ok (.bipush 8, 2) := by decide +kernel
theorem dX7_apart_7 : decode cX7_apart 7 = .ok (.if_icmp .ge 38, 3) := by decide +kernel
theorem dX7_apart_10 : decode cX7_apart 10 = .ok (.iload_n 0, 1) := by decide +kernel
theorem dX7_apart_11 : decode cX7_apart 11 = .ok (.iload_n 3, 1) := by decide +kernel
theorem dX7_apart_12 : decode cX7_apart 12 = .ok (.invokestatic 139, 3) := by decide +kernel
theorem dX7_apart_15 : decode cX7_apart 15 = .ok (.iload_n 1, 1) := by decide +kernel
theorem dX7_apart_16 : decode cX7_apart 16 = .ok (.iload_n 3, 1) := by decide +kernel
theorem dX7_apart_17 : decode cX7_apart 17 = .ok (.invokestatic 139, 3) := by decide +kernel
theorem dX7_apart_20 : decode cX7_apart 20 = .ok (.isub, 1) := by decide +kernel
theorem dX7_apart_21 : decode cX7_apart 21 = .ok (.istore 4, 2) := by decide +kernel
theorem dX7_apart_23 : decode cX7_apart 23 = .ok (.iload_n 2, 1) := by decide +kernel
theorem dX7_apart_24 : decode cX7_apart 24 = .ok (.iload 4, 2) := by decide +kernel
theorem dX7_apart_26 : decode cX7_apart 26 = .ok (.ifCond .ge 9, 3) := by decide +kernel
theorem dX7_apart_29 : decode cX7_apart 29 = .ok (.iload 4, 2) := by decide +kernel
theorem dX7_apart_31 : decode cX7_apart 31 = .ok (.ineg, 1) := by decide +kernel
theorem dX7_apart_32 : decode cX7_apart 32 = .ok (.goto 5, 3) := by decide +kernel
theorem dX7_apart_35 : decode cX7_apart 35 = .ok (.iload 4, 2) := by decide +kernel
theorem dX7_apart_37 : decode cX7_apart 37 = .ok (.iadd, 1) := by decide +kernel
theorem dX7_apart_38 : decode cX7_apart 38 = .ok (.istore_n 2, 1) := by decide +kernel
theorem dX7_apart_39 : decode cX7_apart 39 = .ok (.iinc 3 1, 3) := by decide +kernel
theorem dX7_apart_42 : decode cX7_apart 42 = .ok (.goto (-38), 3) := by decide +kernel
theorem dX7_apart_45 : decode cX7_apart 45 = .ok (.iload_n 2, 1) := by decide +kernel
theorem dX7_apart_46 : decode cX7_apart 46 = .ok (.ireturn, 1) := by decide +kernel
theorem dX7_isAnswer_0 : decode cX7_isAnswer 0 = .ok (.iload_n 2, 1) := by decide +kernel
theorem dX7_isAnswer_1 : decode cX7_isAnswer 1 = .ok (.iload_n 1, 1) := by decide +kernel
theorem dX7_isAnswer_2 : decode cX7_isAnswer 2 = .ok (.if_icmp .eq 45, 3) := by decide +kernel
theorem dX7_isAnswer_5 : decode cX7_isAnswer 5 = .ok (.aload_n 0, 1) := by decide +kernel
theorem dX7_isAnswer_6 : decode cX7_isAnswer 6 = .ok (.getfield 32, 3) := by decide +kernel
theorem dX7_isAnswer_9 : decode cX7_isAnswer 9 = .ok (.iload_n 2, 1) := by decide +kernel
theorem dX7_isAnswer_10 : decode cX7_isAnswer 10 = .ok (.iaload, 1) := by decide +kernel
theorem dX7_isAnswer_11 : decode cX7_isAnswer 11 = .ok (.aload_n 0, 1) := by decide +kernel
theorem dX7_isAnswer_12 : decode cX7_isAnswer 12 = .ok (.getfield 32, 3) := by decide +kernel
theorem dX7_isAnswer_15 : decode cX7_isAnswer 15 = .ok (.iload_n 1, 1) := by decide +kernel
theorem dX7_isAnswer_16 : decode cX7_isAnswer 16 = .ok (.iaload, 1) := by decide +kernel
theorem dX7_isAnswer_17 : decode cX7_isAnswer 17 = .ok (.if_icmp .eq 26, 3) := by decide +kernel
theorem dX7_isAnswer_20 : decode cX7_isAnswer 20 = .ok (.iload_n 3, 1) := by decide +kernel
theorem dX7_isAnswer_21 : decode cX7_isAnswer 21 = .ok (.ifCond .le 26, 3) := by decide +kernel
theorem dX7_isAnswer_24 : decode cX7_isAnswer 24 = .ok (.aload_n 0, 1) := by decide +kernel
theorem dX7_isAnswer_25 : decode cX7_isAnswer 25 = .ok (.getfield 32, 3) := by decide +kernel
theorem dX7_isAnswer_28 : decode cX7_isAnswer 28 = .ok (.iload_n 2, 1) := by decide +kernel
theorem dX7_isAnswer_29 : decode cX7_isAnswer 29 = .ok (.iaload, 1) := by decide +kernel
theorem dX7_isAnswer_30 : decode cX7_isAnswer 30 = .ok (.aload_n 0, 1) := by decide +kernel
theorem dX7_isAnswer_31 : decode cX7_isAnswer 31 = .ok (.getfield 32, 3) := by decide +kernel
theorem dX7_isAnswer_34 : decode cX7_isAnswer 34 = .ok (.iload_n 1, 1) := by decide +kernel
theorem dX7_isAnswer_35 : decode cX7_isAnswer 35 = .ok (.iaload, 1) := by decide +kernel
theorem dX7_isAnswer_36 : decode cX7_isAnswer 36 = .ok (.invokestatic 142, 3) := by decide +kernel
theorem dX7_isAnswer_39 : decode cX7_isAnswer 39 = .ok (.iload_n 3, 1) := by decide +kernel
theorem dX7_isAnswer_40 : decode cX7_isAnswer 40 = .ok (.if_icmp .gt 7, 3) := by decide +kernel
theorem dX7_isAnswer_43 : decode cX7_isAnswer 43 = .ok (.iconst 1, 1) := by decide +kernel
theorem dX7_isAnswer_44 : decode cX7_isAnswer 44 = .ok (.goto 4, 3) := by decide +kernel
theorem dX7_isAnswer_47 : decode cX7_isAnswer 47 = .ok (.iconst 0, 1) := by decide +kernel
theorem dX7_isAnswer_48 : decode cX7_isAnswer 48 = .ok (.ireturn, 1) := by decide +kernel
theorem dX7_bestOf_0 : decode cX7_bestOf 0 = .ok (.bipush (-9), 2) := by decide +kernel
theorem dX7_bestOf_2 : decode cX7_bestOf 2 = .ok (.istore_n 3, 1) := by decide +kernel
theorem dX7_bestOf_3 : decode cX7_bestOf 3 = .ok (.iconst 0, 1) := by decide +kernel
theorem dX7_bestOf_4 : decode cX7_bestOf 4 = .ok (.istore 4, 2) := by decide +kernel
theorem dX7_bestOf_6 : decode cX7_bestOf 6 = .ok (.iload 4, 2) := by decide +kernel
theorem dX7_bestOf_8 : decode cX7_bestOf 8 = .ok (.aload_n 0, 1) := by decide +kernel
theorem dX7_bestOf_9 : decode cX7_bestOf 9 = .ok (.getfield 123, 3) := by decide +kernel
theorem dX7_bestOf_12 : decode cX7_bestOf 12 = .ok (.if_icmp .ge 57, 3) := by decide +kernel
theorem dX7_bestOf_15 : decode cX7_bestOf 15 = .ok (.aload_n 0, 1) := by decide +kernel
theorem dX7_bestOf_16 : decode cX7_bestOf 16 = .ok (.iload_n 1, 1) := by decide +kernel
theorem dX7_bestOf_17 : decode cX7_bestOf 17 = .ok (.iload 4, 2) := by decide +kernel
theorem dX7_bestOf_19 : decode cX7_bestOf 19 = .ok (.iload_n 2, 1) := by decide +kernel
theorem dX7_bestOf_20 : decode cX7_bestOf 20 = .ok (.invokevirtual 145, 3) := by decide +kernel
theorem dX7_bestOf_23 : decode cX7_bestOf 23 = .ok (.ifCond .eq 38, 3) := by decide +kernel
theorem dX7_bestOf_26 : decode cX7_bestOf 26 = .ok (.iload_n 3, 1) := by decide +kernel
theorem dX7_bestOf_27 : decode cX7_bestOf 27 = .ok (.bipush (-9), 2) := by decide +kernel
theorem dX7_bestOf_29 : decode cX7_bestOf 29 = .ok (.if_icmp .eq 27, 3) := by decide +kernel
theorem dX7_bestOf_32 : decode cX7_bestOf 32 = .ok (.aload_n 0, 1) := by decide +kernel
theorem dX7_bestOf_33 : decode cX7_bestOf 33 = .ok (.getfield 35, 3) := by decide +kernel
theorem dX7_bestOf_36 : decode cX7_bestOf 36 = .ok (.iload 4, 2) := by decide +kernel
theorem dX7_bestOf_38 : decode cX7_bestOf 38 = .ok (.iaload, 1) := by decide +kernel
theorem dX7_bestOf_39 : decode cX7_bestOf 39 = .ok (.aload_n 0, 1) := by decide +kernel
theorem dX7_bestOf_40 : decode cX7_bestOf 40 = .ok (.getfield 35, 3) := by decide +kernel
theorem dX7_bestOf_43 : decode cX7_bestOf 43 = .ok (.iload_n 3, 1) := by decide +kernel
theorem dX7_bestOf_44 : decode cX7_bestOf 44 = .ok (.ifCond .ge 7, 3) := by decide +kernel
theorem dX7_bestOf_47 : decode cX7_bestOf 47 = .ok (.iconst 0, 1) := by decide +kernel
theorem dX7_bestOf_48 : decode cX7_bestOf 48 = .ok (.goto 4, 3) := by decide +kernel
theorem dX7_bestOf_51 : decode cX7_bestOf 51 = .ok (.iload_n 3, 1) := by decide +kernel
theorem dX7_bestOf_52 : decode cX7_bestOf 52 = .ok (.iaload, 1) := by decide +kernel
theorem dX7_bestOf_53 : decode cX7_bestOf 53 = .ok (.if_icmp .le 8, 3) := by decide +kernel
theorem dX7_bestOf_56 : decode cX7_bestOf 56 = .ok (.iload 4, 2) := by decide +kernel
theorem dX7_bestOf_58 : decode cX7_bestOf 58 = .ok (.goto 4, 3) := by decide +kernel
theorem dX7_bestOf_61 : decode cX7_bestOf 61 = .ok (.iload_n 3, 1) := by decide +kernel
theorem dX7_bestOf_62 : decode cX7_bestOf 62 = .ok (.istore_n 3, 1) := by decide +kernel
theorem dX7_bestOf_63 : decode cX7_bestOf 63 = .ok (.iinc 4 1, 3) := by decide +kernel
theorem dX7_bestOf_66 : decode cX7_bestOf 66 = .ok (.goto (-60), 3) := by decide +kernel
theorem dX7_bestOf_69 : decode cX7_bestOf 69 = .ok (.iload_n 3, 1) := by decide +kernel
theorem dX7_bestOf_70 : decode cX7_bestOf 70 = .ok (.ireturn, 1) := by decide +kernel
theorem dX7_answers_0 : decode cX7_answers 0 = .ok (.aload_n 0, 1) := by decide +kernel
theorem dX7_answers_1 : decode cX7_answers 1 = .ok (.iload_n 1, 1) := by decide +kernel
theorem dX7_answers_2 : decode cX7_answers 2 = .ok (.invokevirtual 136, 3) := by decide +kernel
theorem dX7_answers_5 : decode cX7_answers 5 = .ok (.istore 4, 2) := by decide +kernel
theorem dX7_answers_7 : decode cX7_answers 7 = .ok (.iload 4, 2) := by decide +kernel
theorem dX7_answers_9 : decode cX7_answers 9 = .ok (.bipush (-9), 2) := by decide +kernel
theorem dX7_answers_11 : decode cX7_answers 11 = .ok (.if_icmp .eq 21, 3) := by decide +kernel
theorem dX7_answers_14 : decode cX7_answers 14 = .ok (.iload_n 2, 1) := by decide +kernel
theorem dX7_answers_15 : decode cX7_answers 15 = .ok (.iconst 0, 1) := by decide +kernel
theorem dX7_answers_16 : decode cX7_answers 16 = .ok (.iconst 2, 1) := by decide +kernel
theorem dX7_answers_17 : decode cX7_answers 17 = .ok (.invokestatic 47, 3) := by decide +kernel
theorem dX7_answers_20 : decode cX7_answers 20 = .ok (.ifCond .eq 12, 3) := by decide +kernel
theorem dX7_answers_23 : decode cX7_answers 23 = .ok (.iload_n 3, 1) := by decide +kernel
theorem dX7_answers_24 : decode cX7_answers 24 = .ok (.iconst 0, 1) := by decide +kernel
theorem dX7_answers_25 : decode cX7_answers 25 = .ok (.iconst 1, 1) := by decide +kernel
theorem dX7_answers_26 : decode cX7_answers 26 = .ok (.invokestatic 47, 3) := by decide +kernel
theorem dX7_answers_29 : decode cX7_answers 29 = .ok (.ifCond .ne 5, 3) := by decide +kernel
theorem dX7_answers_32 : decode cX7_answers 32 = .ok (.iconst (-1), 1) := by decide +kernel
theorem dX7_answers_33 : decode cX7_answers 33 = .ok (.ireturn, 1) := by decide +kernel
theorem dX7_answers_34 : decode cX7_answers 34 = .ok (.iconst 0, 1) := by decide +kernel
theorem dX7_answers_35 : decode cX7_answers 35 = .ok (.istore 5, 2) := by decide +kernel
theorem dX7_answers_37 : decode cX7_answers 37 = .ok (.iconst 0, 1) := by decide +kernel
theorem dX7_answers_38 : decode cX7_answers 38 = .ok (.istore 6, 2) := by decide +kernel
theorem dX7_answers_40 : decode cX7_answers 40 = .ok (.iload 6, 2) := by decide +kernel
theorem dX7_answers_42 : decode cX7_answers 42 = .ok (.aload_n 0, 1) := by decide +kernel
theorem dX7_answers_43 : decode cX7_answers 43 = .ok (.getfield 123, 3) := by decide +kernel
theorem dX7_answers_46 : decode cX7_answers 46 = .ok (.if_icmp .ge 31, 3) := by decide +kernel
theorem dX7_answers_49 : decode cX7_answers 49 = .ok (.iload 5, 2) := by decide +kernel
theorem dX7_answers_51 : decode cX7_answers 51 = .ok (.aload_n 0, 1) := by decide +kernel
theorem dX7_answers_52 : decode cX7_answers 52 = .ok (.iload 4, 2) := by decide +kernel
theorem dX7_answers_54 : decode cX7_answers 54 = .ok (.iload 6, 2) := by decide +kernel
theorem dX7_answers_56 : decode cX7_answers 56 = .ok (.iload_n 2, 1) := by decide +kernel
theorem dX7_answers_57 : decode cX7_answers 57 = .ok (.invokevirtual 145, 3) := by decide +kernel
theorem dX7_answers_60 : decode cX7_answers 60 = .ok (.ifCond .eq 7, 3) := by decide +kernel
theorem dX7_answers_63 : decode cX7_answers 63 = .ok (.iconst 1, 1) := by decide +kernel
theorem dX7_answers_64 : decode cX7_answers 64 = .ok (.goto 4, 3) := by decide +kernel
theorem dX7_answers_67 : decode cX7_answers 67 = .ok (.iconst 0, 1) := by decide +kernel
theorem dX7_answers_68 : decode cX7_answers 68 = .ok (.iadd, 1) := by decide +kernel
theorem dX7_answers_69 : decode cX7_answers 69 = .ok (.istore 5, 2) := by decide +kernel
theorem dX7_answers_71 : decode cX7_answers 71 = .ok (.iinc 6 1, 3) := by decide +kernel
theorem dX7_answers_74 : decode cX7_answers 74 = .ok (.goto (-34), 3) := by decide +kernel
theorem dX7_answers_77 : decode cX7_answers 77 = .ok (.aload_n 0, 1) := by decide +kernel
theorem dX7_answers_78 : decode cX7_answers 78 = .ok (.iload 4, 2) := by decide +kernel
theorem dX7_answers_80 : decode cX7_answers 80 = .ok (.iload_n 2, 1) := by decide +kernel
theorem dX7_answers_81 : decode cX7_answers 81 = .ok (.invokevirtual 148, 3) := by decide +kernel
theorem dX7_answers_84 : decode cX7_answers 84 = .ok (.istore 6, 2) := by decide +kernel
theorem dX7_answers_86 : decode cX7_answers 86 = .ok (.iload_n 3, 1) := by decide +kernel
theorem dX7_answers_87 : decode cX7_answers 87 = .ok (.ifCond .ne 8, 3) := by decide +kernel
theorem dX7_answers_90 : decode cX7_answers 90 = .ok (.iload 5, 2) := by decide +kernel
theorem dX7_answers_92 : decode cX7_answers 92 = .ok (.goto 22, 3) := by decide +kernel
theorem dX7_answers_95 : decode cX7_answers 95 = .ok (.iload 6, 2) := by decide +kernel
theorem dX7_answers_97 : decode cX7_answers 97 = .ok (.bipush (-9), 2) := by decide +kernel
theorem dX7_answers_99 : decode cX7_answers 99 = .ok (.if_icmp .ne 8, 3) := by decide +kernel
theorem dX7_answers_102 : decode cX7_answers 102 = .ok (.bipush (-9), 2) := by decide +kernel
theorem dX7_answers_104 : decode cX7_answers 104 = .ok (.goto 10, 3) := by decide +kernel
theorem dX7_answers_107 : decode cX7_answers 107 = .ok (.aload_n 0, 1) := by decide +kernel
theorem dX7_answers_108 : decode cX7_answers 108 = .ok (.getfield 29, 3) := by decide +kernel
theorem dX7_answers_111 : decode cX7_answers 111 = .ok (.iload 6, 2) := by decide +kernel
theorem dX7_answers_113 : decode cX7_answers 113 = .ok (.iaload, 1) := by decide +kernel
theorem dX7_answers_114 : decode cX7_answers 114 = .ok (.ireturn, 1) := by decide +kernel
theorem dX7_mute_0 : decode cX7_mute 0 = .ok (.iload_n 1, 1) := by decide +kernel
theorem dX7_mute_1 : decode cX7_mute 1 = .ok (.iconst 0, 1) := by decide +kernel
theorem dX7_mute_2 : decode cX7_mute 2 = .ok (.iconst 1, 1) := by decide +kernel
theorem dX7_mute_3 : decode cX7_mute 3 = .ok (.invokestatic 47, 3) := by decide +kernel
theorem dX7_mute_6 : decode cX7_mute 6 = .ok (.ifCond .ne 5, 3) := by decide +kernel
theorem dX7_mute_9 : decode cX7_mute 9 = .ok (.iconst (-1), 1) := by decide +kernel
theorem dX7_mute_10 : decode cX7_mute 10 = .ok (.ireturn, 1) := by decide +kernel
theorem dX7_mute_11 : decode cX7_mute 11 = .ok (.iconst 0, 1) := by decide +kernel
theorem dX7_mute_12 : decode cX7_mute 12 = .ok (.istore_n 2, 1) := by decide +kernel
theorem dX7_mute_13 : decode cX7_mute 13 = .ok (.bipush (-9), 2) := by decide +kernel
theorem dX7_mute_15 : decode cX7_mute 15 = .ok (.istore_n 3, 1) := by decide +kernel
theorem dX7_mute_16 : decode cX7_mute 16 = .ok (.iconst 0, 1) := by decide +kernel
theorem dX7_mute_17 : decode cX7_mute 17 = .ok (.istore 4, 2) := by decide +kernel
theorem dX7_mute_19 : decode cX7_mute 19 = .ok (.iload 4, 2) := by decide +kernel
theorem dX7_mute_21 : decode cX7_mute 21 = .ok (.aload_n 0, 1) := by decide +kernel
theorem dX7_mute_22 : decode cX7_mute 22 = .ok (.getfield 123, 3) := by decide +kernel
theorem dX7_mute_25 : decode cX7_mute 25 = .ok (.if_icmp .ge 62, 3) := by decide +kernel
theorem dX7_mute_28 : decode cX7_mute 28 = .ok (.aload_n 0, 1) := by decide +kernel
theorem dX7_mute_29 : decode cX7_mute 29 = .ok (.iload 4, 2) := by decide +kernel
theorem dX7_mute_31 : decode cX7_mute 31 = .ok (.iconst 0, 1) := by decide +kernel
theorem dX7_mute_32 : decode cX7_mute 32 = .ok (.invokevirtual 148, 3) := by decide +kernel
theorem dX7_mute_35 : decode cX7_mute 35 = .ok (.bipush (-9), 2) := by decide +kernel
theorem dX7_mute_37 : decode cX7_mute 37 = .ok (.if_icmp .ne 7, 3) := by decide +kernel
theorem dX7_mute_40 : decode cX7_mute 40 = .ok (.iconst 1, 1) := by decide +kernel
theorem dX7_mute_41 : decode cX7_mute 41 = .ok (.goto 4, 3) := by decide +kernel
theorem dX7_mute_44 : decode cX7_mute 44 = .ok (.iconst 0, 1) := by decide +kernel
theorem dX7_mute_45 : decode cX7_mute 45 = .ok (.istore 5, 2) := by decide +kernel
theorem dX7_mute_47 : decode cX7_mute 47 = .ok (.iload 5, 2) := by decide +kernel
theorem dX7_mute_49 : decode cX7_mute 49 = .ok (.ifCond .eq 17, 3) := by decide +kernel
theorem dX7_mute_52 : decode cX7_mute 52 = .ok (.iload_n 2, 1) := by decide +kernel
theorem dX7_mute_53 : decode cX7_mute 53 = .ok (.ifCond .ne 13, 3) := by decide +kernel
theorem dX7_mute_56 : decode cX7_mute 56 = .ok (.aload_n 0, 1) := by decide +kernel
theorem dX7_mute_57 : decode cX7_mute 57 = .ok (.getfield 29, 3) := by decide +kernel
theorem dX7_mute_60 : decode cX7_mute 60 = .ok (.iload 4, 2) := by decide +kernel
theorem dX7_mute_62 : decode cX7_mute 62 = .ok (.iaload, 1) := by decide +kernel
theorem dX7_mute_63 : decode cX7_mute 63 = .ok (.goto 4, 3) := by decide +kernel
theorem dX7_mute_66 : decode cX7_mute 66 = .ok (.iload_n 3, 1) := by decide +kernel
theorem dX7_mute_67 : decode cX7_mute 67 = .ok (.istore_n 3, 1) := by decide +kernel
theorem dX7_mute_68 : decode cX7_mute 68 = .ok (.iload_n 2, 1) := by decide +kernel
theorem dX7_mute_69 : decode cX7_mute 69 = .ok (.iload 5, 2) := by decide +kernel
theorem dX7_mute_71 : decode cX7_mute 71 = .ok (.ifCond .eq 7, 3) := by decide +kernel
theorem dX7_mute_74 : decode cX7_mute 74 = .ok (.iconst 1, 1) := by decide +kernel
theorem dX7_mute_75 : decode cX7_mute 75 = .ok (.goto 4, 3) := by decide +kernel
theorem dX7_mute_78 : decode cX7_mute 78 = .ok (.iconst 0, 1) := by decide +kernel
theorem dX7_mute_79 : decode cX7_mute 79 = .ok (.iadd, 1) := by decide +kernel
theorem dX7_mute_80 : decode cX7_mute 80 = .ok (.istore_n 2, 1) := by decide +kernel
theorem dX7_mute_81 : decode cX7_mute 81 = .ok (.iinc 4 1, 3) := by decide +kernel
theorem dX7_mute_84 : decode cX7_mute 84 = .ok (.goto (-65), 3) := by decide +kernel
theorem dX7_mute_87 : decode cX7_mute 87 = .ok (.iload_n 1, 1) := by decide +kernel
theorem dX7_mute_88 : decode cX7_mute 88 = .ok (.ifCond .ne 7, 3) := by decide +kernel
theorem dX7_mute_91 : decode cX7_mute 91 = .ok (.iload_n 2, 1) := by decide +kernel
theorem dX7_mute_92 : decode cX7_mute 92 = .ok (.goto 4, 3) := by decide +kernel
theorem dX7_mute_95 : decode cX7_mute 95 = .ok (.iload_n 3, 1) := by decide +kernel
theorem dX7_mute_96 : decode cX7_mute 96 = .ok (.ireturn, 1) := by decide +kernel
theorem dX7_best_0 : decode cX7_best 0 = .ok (.iload_n 1, 1) := by decide +kernel
theorem dX7_best_1 : decode cX7_best 1 = .ok (.iconst 0, 1) := by decide +kernel
theorem dX7_best_2 : decode cX7_best 2 = .ok (.iconst 1, 1) := by decide +kernel
theorem dX7_best_3 : decode cX7_best 3 = .ok (.invokestatic 47, 3) := by decide +kernel
theorem dX7_best_6 : decode cX7_best 6 = .ok (.ifCond .ne 5, 3) := by decide +kernel
theorem dX7_best_9 : decode cX7_best 9 = .ok (.iconst (-1), 1) := by decide +kernel
theorem dX7_best_10 : decode cX7_best 10 = .ok (.ireturn, 1) := by decide +kernel
theorem dX7_best_11 : decode cX7_best 11 = .ok (.bipush (-9), 2) := by decide +kernel
theorem dX7_best_13 : decode cX7_best 13 = .ok (.istore_n 2, 1) := by decide +kernel
theorem dX7_best_14 : decode cX7_best 14 = .ok (.bipush (-9), 2) := by decide +kernel
theorem dX7_best_16 : decode cX7_best 16 = .ok (.istore_n 3, 1) := by decide +kernel
theorem dX7_best_17 : decode cX7_best 17 = .ok (.iconst 0, 1) := by decide +kernel
theorem dX7_best_18 : decode cX7_best 18 = .ok (.istore 4, 2) := by decide +kernel
theorem dX7_best_20 : decode cX7_best 20 = .ok (.iload 4, 2) := by decide +kernel
theorem dX7_best_22 : decode cX7_best 22 = .ok (.aload_n 0, 1) := by decide +kernel
theorem dX7_best_23 : decode cX7_best 23 = .ok (.getfield 123, 3) := by decide +kernel
theorem dX7_best_26 : decode cX7_best 26 = .ok (.if_icmp .ge 70, 3) := by decide +kernel
theorem dX7_best_29 : decode cX7_best 29 = .ok (.aload_n 0, 1) := by decide +kernel
theorem dX7_best_30 : decode cX7_best 30 = .ok (.iload 4, 2) := by decide +kernel
theorem dX7_best_32 : decode cX7_best 32 = .ok (.iconst 0, 1) := by decide +kernel
theorem dX7_best_33 : decode cX7_best 33 = .ok (.invokevirtual 148, 3) := by decide +kernel
theorem dX7_best_36 : decode cX7_best 36 = .ok (.istore 5, 2) := by decide +kernel
theorem dX7_best_38 : decode cX7_best 38 = .ok (.iload 5, 2) := by decide +kernel
theorem dX7_best_40 : decode cX7_best 40 = .ok (.bipush (-9), 2) := by decide +kernel
theorem dX7_best_42 : decode cX7_best 42 = .ok (.if_icmp .ne 8, 3) := by decide +kernel
theorem dX7_best_45 : decode cX7_best 45 = .ok (.bipush (-9), 2) := by decide +kernel
theorem dX7_best_47 : decode cX7_best 47 = .ok (.goto 10, 3) := by decide +kernel
theorem dX7_best_50 : decode cX7_best 50 = .ok (.aload_n 0, 1) := by decide +kernel
theorem dX7_best_51 : decode cX7_best 51 = .ok (.getfield 38, 3) := by decide +kernel
theorem dX7_best_54 : decode cX7_best 54 = .ok (.iload 5, 2) := by decide +kernel
theorem dX7_best_56 : decode cX7_best 56 = .ok (.iaload, 1) := by decide +kernel
theorem dX7_best_57 : decode cX7_best 57 = .ok (.istore 6, 2) := by decide +kernel
theorem dX7_best_59 : decode cX7_best 59 = .ok (.iload 6, 2) := by decide +kernel
theorem dX7_best_61 : decode cX7_best 61 = .ok (.iload_n 2, 1) := by decide +kernel
theorem dX7_best_62 : decode cX7_best 62 = .ok (.if_icmp .le 13, 3) := by decide +kernel
theorem dX7_best_65 : decode cX7_best 65 = .ok (.aload_n 0, 1) := by decide +kernel
theorem dX7_best_66 : decode cX7_best 66 = .ok (.getfield 29, 3) := by decide +kernel
theorem dX7_best_69 : decode cX7_best 69 = .ok (.iload 4, 2) := by decide +kernel
theorem dX7_best_71 : decode cX7_best 71 = .ok (.iaload, 1) := by decide +kernel
theorem dX7_best_72 : decode cX7_best 72 = .ok (.goto 4, 3) := by decide +kernel
theorem dX7_best_75 : decode cX7_best 75 = .ok (.iload_n 3, 1) := by decide +kernel
theorem dX7_best_76 : decode cX7_best 76 = .ok (.istore_n 3, 1) := by decide +kernel
theorem dX7_best_77 : decode cX7_best 77 = .ok (.iload 6, 2) := by decide +kernel
theorem dX7_best_79 : decode cX7_best 79 = .ok (.iload_n 2, 1) := by decide +kernel
theorem dX7_best_80 : decode cX7_best 80 = .ok (.if_icmp .le 8, 3) := by decide +kernel
theorem dX7_best_83 : decode cX7_best 83 = .ok (.iload 6, 2) := by decide +kernel
theorem dX7_best_85 : decode cX7_best 85 = .ok (.goto 4, 3) := by decide +kernel
theorem dX7_best_88 : decode cX7_best 88 = .ok (.iload_n 2, 1) := by decide +kernel
theorem dX7_best_89 : decode cX7_best 89 = .ok (.istore_n 2, 1) := by decide +kernel
theorem dX7_best_90 : decode cX7_best 90 = .ok (.iinc 4 1, 3) := by decide +kernel
theorem dX7_best_93 : decode cX7_best 93 = .ok (.goto (-73), 3) := by decide +kernel
theorem dX7_best_96 : decode cX7_best 96 = .ok (.iload_n 1, 1) := by decide +kernel
theorem dX7_best_97 : decode cX7_best 97 = .ok (.ifCond .ne 7, 3) := by decide +kernel
theorem dX7_best_100 : decode cX7_best 100 = .ok (.iload_n 3, 1) := by decide +kernel
theorem dX7_best_101 : decode cX7_best 101 = .ok (.goto 4, 3) := by decide +kernel
theorem dX7_best_104 : decode cX7_best 104 = .ok (.iload_n 2, 1) := by decide +kernel
theorem dX7_best_105 : decode cX7_best 105 = .ok (.ireturn, 1) := by decide +kernel
theorem dX7_bar_0 : decode cX7_bar 0 = .ok (.aload_n 0, 1) := by decide +kernel
theorem dX7_bar_1 : decode cX7_bar 1 = .ok (.iload_n 1, 1) := by decide +kernel
theorem dX7_bar_2 : decode cX7_bar 2 = .ok (.invokevirtual 136, 3) := by decide +kernel
theorem dX7_bar_5 : decode cX7_bar 5 = .ok (.istore_n 3, 1) := by decide +kernel
theorem dX7_bar_6 : decode cX7_bar 6 = .ok (.iload_n 3, 1) := by decide +kernel
theorem dX7_bar_7 : decode cX7_bar 7 = .ok (.bipush (-9), 2) := by decide +kernel
theorem dX7_bar_9 : decode cX7_bar 9 = .ok (.if_icmp .eq 12, 3) := by decide +kernel
theorem dX7_bar_12 : decode cX7_bar 12 = .ok (.iload_n 2, 1) := by decide +kernel
theorem dX7_bar_13 : decode cX7_bar 13 = .ok (.iconst 0, 1) := by decide +kernel
theorem dX7_bar_14 : decode cX7_bar 14 = .ok (.iconst 2, 1) := by decide +kernel
theorem dX7_bar_15 : decode cX7_bar 15 = .ok (.invokestatic 47, 3) := by decide +kernel
theorem dX7_bar_18 : decode cX7_bar 18 = .ok (.ifCond .ne 5, 3) := by decide +kernel
theorem dX7_bar_21 : decode cX7_bar 21 = .ok (.iconst (-1), 1) := by decide +kernel
theorem dX7_bar_22 : decode cX7_bar 22 = .ok (.ireturn, 1) := by decide +kernel
theorem dX7_bar_23 : decode cX7_bar 23 = .ok (.sipush 255, 3) := by decide +kernel
theorem dX7_bar_26 : decode cX7_bar 26 = .ok (.istore 4, 2) := by decide +kernel
theorem dX7_bar_28 : decode cX7_bar 28 = .ok (.iconst 0, 1) := by decide +kernel
theorem dX7_bar_29 : decode cX7_bar 29 = .ok (.istore 5, 2) := by decide +kernel
theorem dX7_bar_31 : decode cX7_bar 31 = .ok (.iconst 0, 1) := by decide +kernel
theorem dX7_bar_32 : decode cX7_bar 32 = .ok (.istore 6, 2) := by decide +kernel
theorem dX7_bar_34 : decode cX7_bar 34 = .ok (.iload 6, 2) := by decide +kernel
theorem dX7_bar_36 : decode cX7_bar 36 = .ok (.aload_n 0, 1) := by decide +kernel
theorem dX7_bar_37 : decode cX7_bar 37 = .ok (.getfield 123, 3) := by decide +kernel
theorem dX7_bar_40 : decode cX7_bar 40 = .ok (.if_icmp .ge 87, 3) := by decide +kernel
theorem dX7_bar_43 : decode cX7_bar 43 = .ok (.aload_n 0, 1) := by decide +kernel
theorem dX7_bar_44 : decode cX7_bar 44 = .ok (.iload_n 3, 1) := by decide +kernel
theorem dX7_bar_45 : decode cX7_bar 45 = .ok (.iload 6, 2) := by decide +kernel
theorem dX7_bar_47 : decode cX7_bar 47 = .ok (.iload_n 2, 1) := by decide +kernel
theorem dX7_bar_48 : decode cX7_bar 48 = .ok (.invokevirtual 145, 3) := by decide +kernel
theorem dX7_bar_51 : decode cX7_bar 51 = .ok (.istore 7, 2) := by decide +kernel
theorem dX7_bar_53 : decode cX7_bar 53 = .ok (.iload 5, 2) := by decide +kernel
theorem dX7_bar_55 : decode cX7_bar 55 = .ok (.iload 7, 2) := by decide +kernel
theorem dX7_bar_57 : decode cX7_bar 57 = .ok (.ifCond .eq 7, 3) := by decide +kernel
theorem dX7_bar_60 : decode cX7_bar 60 = .ok (.iconst 1, 1) := by decide +kernel
theorem dX7_bar_61 : decode cX7_bar 61 = .ok (.goto 4, 3) := by decide +kernel
theorem dX7_bar_64 : decode cX7_bar 64 = .ok (.iconst 0, 1) := by decide +kernel
theorem dX7_bar_65 : decode cX7_bar 65 = .ok (.iadd, 1) := by decide +kernel
theorem dX7_bar_66 : decode cX7_bar 66 = .ok (.istore 5, 2) := by decide +kernel
theorem dX7_bar_68 : decode cX7_bar 68 = .ok (.iconst 0, 1) := by decide +kernel
theorem dX7_bar_69 : decode cX7_bar 69 = .ok (.istore 8, 2) := by decide +kernel
theorem dX7_bar_71 : decode cX7_bar 71 = .ok (.iload 8, 2) := by decide +kernel
theorem dX7_bar_73 : decode cX7_bar 73 = .ok (.bipush 8, 2) := by decide +kernel
theorem dX7_bar_75 : decode cX7_bar 75 = .ok (.if_icmp .ge 46, 3) := by decide +kernel
theorem dX7_bar_78 : decode cX7_bar 78 = .ok (.iload 7, 2) := by decide +kernel
theorem dX7_bar_80 : decode cX7_bar 80 = .ok (.ifCond .eq 41, 3) := by decide +kernel
theorem dX7_bar_83 : decode cX7_bar 83 = .ok (.iload 4, 2) := by decide +kernel
theorem dX7_bar_85 : decode cX7_bar 85 = .ok (.aload_n 0, 1) := by decide +kernel
theorem dX7_bar_86 : decode cX7_bar 86 = .ok (.getfield 32, 3) := by decide +kernel
theorem dX7_bar_89 : decode cX7_bar 89 = .ok (.iload 6, 2) := by decide +kernel
theorem dX7_bar_91 : decode cX7_bar 91 = .ok (.iaload, 1) := by decide +kernel
theorem dX7_bar_92 : decode cX7_bar 92 = .ok (.iload 8, 2) := by decide +kernel
theorem dX7_bar_94 : decode cX7_bar 94 = .ok (.invokestatic 139, 3) := by decide +kernel
theorem dX7_bar_97 : decode cX7_bar 97 = .ok (.ifCond .le 9, 3) := by decide +kernel
theorem dX7_bar_100 : decode cX7_bar 100 = .ok (.sipush 255, 3) := by decide +kernel
theorem dX7_bar_103 : decode cX7_bar 103 = .ok (.goto 9, 3) := by decide +kernel
theorem dX7_bar_106 : decode cX7_bar 106 = .ok (.iconst 1, 1) := by decide +kernel
theorem dX7_bar_107 : decode cX7_bar 107 = .ok (.iload 8, 2) := by decide +kernel
theorem dX7_bar_109 : decode cX7_bar 109 = .ok (.ishl, 1) := by decide +kernel
theorem dX7_bar_110 : decode cX7_bar 110 = .ok (.iconst (-1), 1) := by decide +kernel
theorem dX7_bar_111 : decode cX7_bar 111 = .ok (.ixor, 1) := by decide +kernel
theorem dX7_bar_112 : decode cX7_bar 112 = .ok (.iand, 1) := by decide +kernel
theorem dX7_bar_113 : decode cX7_bar 113 = .ok (.istore 4, 2) := by decide +kernel
theorem dX7_bar_115 : decode cX7_bar 115 = .ok (.iinc 8 1, 3) := by decide +kernel
theorem dX7_bar_118 : decode cX7_bar 118 = .ok (.goto (-47), 3) := by decide +kernel
theorem dX7_bar_121 : decode cX7_bar 121 = .ok (.iinc 6 1, 3) := by decide +kernel
theorem dX7_bar_124 : decode cX7_bar 124 = .ok (.goto (-90), 3) := by decide +kernel
theorem dX7_bar_127 : decode cX7_bar 127 = .ok (.bipush (-9), 2) := by decide +kernel
theorem dX7_bar_129 : decode cX7_bar 129 = .ok (.istore 6, 2) := by decide +kernel
theorem dX7_bar_131 : decode cX7_bar 131 = .ok (.bipush 7, 2) := by decide +kernel
theorem dX7_bar_133 : decode cX7_bar 133 = .ok (.istore 7, 2) := by decide +kernel
theorem dX7_bar_135 : decode cX7_bar 135 = .ok (.iload 7, 2) := by decide +kernel
theorem dX7_bar_137 : decode cX7_bar 137 = .ok (.ifCond .lt 29, 3) := by decide +kernel
theorem dX7_bar_140 : decode cX7_bar 140 = .ok (.iload 4, 2) := by decide +kernel
theorem dX7_bar_142 : decode cX7_bar 142 = .ok (.iload 7, 2) := by decide +kernel
theorem dX7_bar_144 : decode cX7_bar 144 = .ok (.ishr, 1) := by decide +kernel
theorem dX7_bar_145 : decode cX7_bar 145 = .ok (.iconst 1, 1) := by decide +kernel
theorem dX7_bar_146 : decode cX7_bar 146 = .ok (.iand, 1) := by decide +kernel
theorem dX7_bar_147 : decode cX7_bar 147 = .ok (.iconst 1, 1) := by decide +kernel
theorem dX7_bar_148 : decode cX7_bar 148 = .ok (.if_icmp .ne 8, 3) := by decide +kernel
theorem dX7_bar_151 : decode cX7_bar 151 = .ok (.iload 7, 2) := by decide +kernel
theorem dX7_bar_153 : decode cX7_bar 153 = .ok (.goto 5, 3) := by decide +kernel
theorem dX7_bar_156 : decode cX7_bar 156 = .ok (.iload 6, 2) := by decide +kernel
theorem dX7_bar_158 : decode cX7_bar 158 = .ok (.istore 6, 2) := by decide +kernel
theorem dX7_bar_160 : decode cX7_bar 160 = .ok (.iinc 7 (-1), 3) := by decide +kernel
theorem dX7_bar_163 : decode cX7_bar 163 = .ok (.goto (-28), 3) := by decide +kernel
theorem dX7_bar_166 : decode cX7_bar 166 = .ok (.iload 5, 2) := by decide +kernel
theorem dX7_bar_168 : decode cX7_bar 168 = .ok (.ifCond .ne 8, 3) := by decide +kernel
theorem dX7_bar_171 : decode cX7_bar 171 = .ok (.bipush (-5), 2) := by decide +kernel
theorem dX7_bar_173 : decode cX7_bar 173 = .ok (.goto 5, 3) := by decide +kernel
theorem dX7_bar_176 : decode cX7_bar 176 = .ok (.iload 6, 2) := by decide +kernel
theorem dX7_bar_178 : decode cX7_bar 178 = .ok (.ireturn, 1) := by decide +kernel
theorem dX7_lays_0 : decode cX7_lays 0 = .ok (.aload_n 0, 1) := by decide +kernel
theorem dX7_lays_1 : decode cX7_lays 1 = .ok (.getfield 41, 3) := by decide +kernel
theorem dX7_lays_4 : decode cX7_lays 4 = .ok (.iconst 0, 1) := by decide +kernel
theorem dX7_lays_5 : decode cX7_lays 5 = .ok (.iload_n 1, 1) := by decide +kernel
theorem dX7_lays_6 : decode cX7_lays 6 = .ok (.iastore, 1) := by decide +kernel
theorem dX7_lays_7 : decode cX7_lays 7 = .ok (.iconst 1, 1) := by decide +kernel
theorem dX7_lays_8 : decode cX7_lays 8 = .ok (.istore_n 2, 1) := by decide +kernel
theorem dX7_lays_9 : decode cX7_lays 9 = .ok (.iload_n 2, 1) := by decide +kernel
theorem dX7_lays_10 : decode cX7_lays 10 = .ok (.bipush 100, 2) := by decide +kernel
theorem dX7_lays_12 : decode cX7_lays 12 = .ok (.if_icmp .ge 46, 3) := by decide +kernel
theorem dX7_lays_15 : decode cX7_lays 15 = .ok (.aload_n 0, 1) := by decide +kernel
theorem dX7_lays_16 : decode cX7_lays 16 = .ok (.aload_n 0, 1) := by decide +kernel
theorem dX7_lays_17 : decode cX7_lays 17 = .ok (.getfield 41, 3) := by decide +kernel
theorem dX7_lays_20 : decode cX7_lays 20 = .ok (.iload_n 2, 1) := by decide +kernel
theorem dX7_lays_21 : decode cX7_lays 21 = .ok (.iconst 1, 1) := by decide +kernel
theorem dX7_lays_22 : decode cX7_lays 22 = .ok (.isub, 1) := by decide +kernel
theorem dX7_lays_23 : decode cX7_lays 23 = .ok (.iaload, 1) := by decide +kernel
theorem dX7_lays_24 : decode cX7_lays 24 = .ok (.iconst 0, 1) := by decide +kernel
theorem dX7_lays_25 : decode cX7_lays 25 = .ok (.invokevirtual 148, 3) := by decide +kernel
theorem dX7_lays_28 : decode cX7_lays 28 = .ok (.bipush (-9), 2) := by decide +kernel
theorem dX7_lays_30 : decode cX7_lays 30 = .ok (.if_icmp .eq 28, 3) := by decide +kernel
theorem dX7_lays_33 : decode cX7_lays 33 = .ok (.aload_n 0, 1) := by decide +kernel
theorem dX7_lays_34 : decode cX7_lays 34 = .ok (.getfield 41, 3) := by decide +kernel
theorem dX7_lays_37 : decode cX7_lays 37 = .ok (.iload_n 2, 1) := by decide +kernel
theorem dX7_lays_38 : decode cX7_lays 38 = .ok (.aload_n 0, 1) := by decide +kernel
theorem dX7_lays_39 : decode cX7_lays 39 = .ok (.aload_n 0, 1) := by decide +kernel
theorem dX7_lays_40 : decode cX7_lays 40 = .ok (.getfield 41, 3) := by decide +kernel
theorem dX7_lays_43 : decode cX7_lays 43 = .ok (.iload_n 2, 1) := by decide +kernel
theorem dX7_lays_44 : decode cX7_lays 44 = .ok (.iconst 1, 1) := by decide +kernel
theorem dX7_lays_45 : decode cX7_lays 45 = .ok (.isub, 1) := by decide +kernel
theorem dX7_lays_46 : decode cX7_lays 46 = .ok (.iaload, 1) := by decide +kernel
theorem dX7_lays_47 : decode cX7_lays 47 = .ok (.iconst 0, 1) := by decide +kernel
theorem dX7_lays_48 : decode cX7_lays 48 = .ok (.invokevirtual 148, 3) := by decide +kernel
theorem dX7_lays_51 : decode cX7_lays 51 = .ok (.iastore, 1) := by decide +kernel
theorem dX7_lays_52 : decode cX7_lays 52 = .ok (.iinc 2 1, 3) := by decide +kernel
theorem dX7_lays_55 : decode cX7_lays 55 = .ok (.goto (-46), 3) := by decide +kernel
theorem dX7_lays_58 : decode cX7_lays 58 = .ok (.iload_n 2, 1) := by decide +kernel
theorem dX7_lays_59 : decode cX7_lays 59 = .ok (.ireturn, 1) := by decide +kernel
theorem dX7_chain_0 : decode cX7_chain 0 = .ok (.aload_n 0, 1) := by decide +kernel
theorem dX7_chain_1 : decode cX7_chain 1 = .ok (.iload_n 1, 1) := by decide +kernel
theorem dX7_chain_2 : decode cX7_chain 2 = .ok (.invokevirtual 136, 3) := by decide +kernel
theorem dX7_chain_5 : decode cX7_chain 5 = .ok (.istore_n 3, 1) := by decide +kernel
theorem dX7_chain_6 : decode cX7_chain 6 = .ok (.iload_n 3, 1) := by decide +kernel
theorem dX7_chain_7 : decode cX7_chain 7 = .ok (.bipush (-9), 2) := by decide +kernel
theorem dX7_chain_9 : decode cX7_chain 9 = .ok (.if_icmp .eq 13, 3) := by decide +kernel
theorem dX7_chain_12 : decode cX7_chain 12 = .ok (.iload_n 2, 1) := by decide +kernel
theorem dX7_chain_13 : decode cX7_chain 13 = .ok (.iconst 0, 1) := by decide +kernel
theorem dX7_chain_14 : decode cX7_chain 14 = .ok (.bipush 99, 2) := by decide +kernel
theorem dX7_chain_16 : decode cX7_chain 16 = .ok (.invokestatic 47, 3) := by decide +kernel
theorem dX7_chain_19 : decode cX7_chain 19 = .ok (.ifCond .ne 5, 3) := by decide +kernel
theorem dX7_chain_22 : decode cX7_chain 22 = .ok (.iconst (-1), 1) := by decide +kernel
theorem dX7_chain_23 : decode cX7_chain 23 = .ok (.ireturn, 1) := by decide +kernel
theorem dX7_chain_24 : decode cX7_chain 24 = .ok (.iload_n 2, 1) := by decide +kernel
theorem dX7_chain_25 : decode cX7_chain 25 = .ok (.aload_n 0, 1) := by decide +kernel
theorem dX7_chain_26 : decode cX7_chain 26 = .ok (.iload_n 3, 1) := by decide +kernel
theorem dX7_chain_27 : decode cX7_chain 27 = .ok (.invokevirtual 151, 3) := by decide +kernel
theorem dX7_chain_30 : decode cX7_chain 30 = .ok (.if_icmp .ge 17, 3) := by decide +kernel
theorem dX7_chain_33 : decode cX7_chain 33 = .ok (.aload_n 0, 1) := by decide +kernel
theorem dX7_chain_34 : decode cX7_chain 34 = .ok (.getfield 29, 3) := by decide +kernel
theorem dX7_chain_37 : decode cX7_chain 37 = .ok (.aload_n 0, 1) := by decide +kernel
theorem dX7_chain_38 : decode cX7_chain 38 = .ok (.getfield 41, 3) := by decide +kernel
theorem dX7_chain_41 : decode cX7_chain 41 = .ok (.iload_n 2, 1) := by decide +kernel
theorem dX7_chain_42 : decode cX7_chain 42 = .ok (.iaload, 1) := by decide +kernel
theorem dX7_chain_43 : decode cX7_chain 43 = .ok (.iaload, 1) := by decide +kernel
theorem dX7_chain_44 : decode cX7_chain 44 = .ok (.goto 5, 3) := by decide +kernel
theorem dX7_chain_47 : decode cX7_chain 47 = .ok (.bipush (-9), 2) := by decide +kernel
theorem dX7_chain_49 : decode cX7_chain 49 = .ok (.ireturn, 1) := by decide +kernel
theorem dX7_ring_0 : decode cX7_ring 0 = .ok (.aload_n 0, 1) := by decide +kernel
theorem dX7_ring_1 : decode cX7_ring 1 = .ok (.iload_n 1, 1) := by decide +kernel
theorem dX7_ring_2 : decode cX7_ring 2 = .ok (.invokevirtual 136, 3) := by decide +kernel
theorem dX7_ring_5 : decode cX7_ring 5 = .ok (.istore_n 2, 1) := by decide +kernel
theorem dX7_ring_6 : decode cX7_ring 6 = .ok (.iload_n 2, 1) := by decide +kernel
theorem dX7_ring_7 : decode cX7_ring 7 = .ok (.bipush (-9), 2) := by decide +kernel
theorem dX7_ring_9 : decode cX7_ring 9 = .ok (.if_icmp .ne 5, 3) := by decide +kernel
theorem dX7_ring_12 : decode cX7_ring 12 = .ok (.iconst (-1), 1) := by decide +kernel
theorem dX7_ring_13 : decode cX7_ring 13 = .ok (.ireturn, 1) := by decide +kernel
theorem dX7_ring_14 : decode cX7_ring 14 = .ok (.aload_n 0, 1) := by decide +kernel
theorem dX7_ring_15 : decode cX7_ring 15 = .ok (.iload_n 2, 1) := by decide +kernel
theorem dX7_ring_16 : decode cX7_ring 16 = .ok (.invokevirtual 151, 3) := by decide +kernel
theorem dX7_ring_19 : decode cX7_ring 19 = .ok (.istore_n 3, 1) := by decide +kernel
theorem dX7_ring_20 : decode cX7_ring 20 = .ok (.iconst 1, 1) := by decide +kernel
theorem dX7_ring_21 : decode cX7_ring 21 = .ok (.istore 4, 2) := by decide +kernel
theorem dX7_ring_23 : decode cX7_ring 23 = .ok (.iload 4, 2) := by decide +kernel
theorem dX7_ring_25 : decode cX7_ring 25 = .ok (.iload_n 3, 1) := by decide +kernel
theorem dX7_ring_26 : decode cX7_ring 26 = .ok (.if_icmp .ge 45, 3) := by decide +kernel
theorem dX7_ring_29 : decode cX7_ring 29 = .ok (.iconst 0, 1) := by decide +kernel
theorem dX7_ring_30 : decode cX7_ring 30 = .ok (.istore 5, 2) := by decide +kernel
theorem dX7_ring_32 : decode cX7_ring 32 = .ok (.iload 5, 2) := by decide +kernel
theorem dX7_ring_34 : decode cX7_ring 34 = .ok (.iload 4, 2) := by decide +kernel
theorem dX7_ring_36 : decode cX7_ring 36 = .ok (.if_icmp .ge 29, 3) := by decide +kernel
theorem dX7_ring_39 : decode cX7_ring 39 = .ok (.aload_n 0, 1) := by decide +kernel
theorem dX7_ring_40 : decode cX7_ring 40 = .ok (.getfield 41, 3) := by decide +kernel
theorem dX7_ring_43 : decode cX7_ring 43 = .ok (.iload 5, 2) := by decide +kernel
theorem dX7_ring_45 : decode cX7_ring 45 = .ok (.iaload, 1) := by decide +kernel
theorem dX7_ring_46 : decode cX7_ring 46 = .ok (.aload_n 0, 1) := by decide +kernel
theorem dX7_ring_47 : decode cX7_ring 47 = .ok (.getfield 41, 3) := by decide +kernel
theorem dX7_ring_50 : decode cX7_ring 50 = .ok (.iload 4, 2) := by decide +kernel
theorem dX7_ring_52 : decode cX7_ring 52 = .ok (.iaload, 1) := by decide +kernel
theorem dX7_ring_53 : decode cX7_ring 53 = .ok (.if_icmp .ne 6, 3) := by decide +kernel
theorem dX7_ring_56 : decode cX7_ring 56 = .ok (.iload 4, 2) := by decide +kernel
theorem dX7_ring_58 : decode cX7_ring 58 = .ok (.ireturn, 1) := by decide +kernel
theorem dX7_ring_59 : decode cX7_ring 59 = .ok (.iinc 5 1, 3) := by decide +kernel
theorem dX7_ring_62 : decode cX7_ring 62 = .ok (.goto (-30), 3) := by decide +kernel
theorem dX7_ring_65 : decode cX7_ring 65 = .ok (.iinc 4 1, 3) := by decide +kernel
theorem dX7_ring_68 : decode cX7_ring 68 = .ok (.goto (-45), 3) := by decide +kernel
theorem dX7_ring_71 : decode cX7_ring 71 = .ok (.bipush (-9), 2) := by decide +kernel
theorem dX7_ring_73 : decode cX7_ring 73 = .ok (.ireturn, 1) := by decide +kernel
theorem dX7_ones_0 : decode cX7_ones 0 = .ok (.iconst 0, 1) := by decide +kernel
theorem dX7_ones_1 : decode cX7_ones 1 = .ok (.istore_n 1, 1) := by decide +kernel
theorem dX7_ones_2 : decode cX7_ones 2 = .ok (.iconst 0, 1) := by decide +kernel
theorem dX7_ones_3 : decode cX7_ones 3 = .ok (.istore_n 2, 1) := by decide +kernel
theorem dX7_ones_4 : decode cX7_ones 4 = .ok (.iload_n 2, 1) := by decide +kernel
theorem dX7_ones_5 : decode cX7_ones 5 = .ok (.bipush 8, 2) := by decide +kernel
theorem dX7_ones_7 : decode cX7_ones 7 = .ok (.if_icmp .ge 17, 3) := by decide +kernel
theorem dX7_ones_10 : decode cX7_ones 10 = .ok (.iload_n 1, 1) := by decide +kernel
theorem dX7_ones_11 : decode cX7_ones 11 = .ok (.iload_n 0, 1) := by decide +kernel
theorem dX7_ones_12 : decode cX7_ones 12 = .ok (.iload_n 2, 1) := by decide +kernel
theorem dX7_ones_13 : decode cX7_ones 13 = .ok (.ishr, 1) := by decide +kernel
theorem dX7_ones_14 : decode cX7_ones 14 = .ok (.iconst 1, 1) := by decide +kernel
theorem dX7_ones_15 : decode cX7_ones 15 = .ok (.iand, 1) := by decide +kernel
theorem dX7_ones_16 : decode cX7_ones 16 = .ok (.iadd, 1) := by decide +kernel
theorem dX7_ones_17 : decode cX7_ones 17 = .ok (.istore_n 1, 1) := by decide +kernel
theorem dX7_ones_18 : decode cX7_ones 18 = .ok (.iinc 2 1, 3) := by decide +kernel
theorem dX7_ones_21 : decode cX7_ones 21 = .ok (.goto (-17), 3) := by decide +kernel
theorem dX7_ones_24 : decode cX7_ones 24 = .ok (.iload_n 1, 1) := by decide +kernel
theorem dX7_ones_25 : decode cX7_ones 25 = .ok (.ireturn, 1) := by decide +kernel
theorem dX7_alphabet_0 : decode cX7_alphabet 0 = .ok (.iload_n 1, 1) := by decide +kernel
theorem dX7_alphabet_1 : decode cX7_alphabet 1 = .ok (.iconst 1, 1) := by decide +kernel
theorem dX7_alphabet_2 : decode cX7_alphabet 2 = .ok (.bipush 8, 2) := by decide +kernel
theorem dX7_alphabet_4 : decode cX7_alphabet 4 = .ok (.invokestatic 47, 3) := by decide +kernel
theorem dX7_alphabet_7 : decode cX7_alphabet 7 = .ok (.ifCond .eq 12, 3) := by decide +kernel
theorem dX7_alphabet_10 : decode cX7_alphabet 10 = .ok (.iload_n 2, 1) := by decide +kernel
theorem dX7_alphabet_11 : decode cX7_alphabet 11 = .ok (.iconst 0, 1) := by decide +kernel
theorem dX7_alphabet_12 : decode cX7_alphabet 12 = .ok (.iconst 1, 1) := by decide +kernel
theorem dX7_alphabet_13 : decode cX7_alphabet 13 = .ok (.invokestatic 47, 3) := by decide +kernel
theorem dX7_alphabet_16 : decode cX7_alphabet 16 = .ok (.ifCond .ne 5, 3) := by decide +kernel
theorem dX7_alphabet_19 : decode cX7_alphabet 19 = .ok (.iconst (-1), 1) := by decide +kernel
theorem dX7_alphabet_20 : decode cX7_alphabet 20 = .ok (.ireturn, 1) := by decide +kernel
theorem dX7_alphabet_21 : decode cX7_alphabet 21 = .ok (.bipush (-9), 2) := by decide +kernel
theorem dX7_alphabet_23 : decode cX7_alphabet 23 = .ok (.istore_n 3, 1) := by decide +kernel
theorem dX7_alphabet_24 : decode cX7_alphabet 24 = .ok (.iconst 0, 1) := by decide +kernel
theorem dX7_alphabet_25 : decode cX7_alphabet 25 = .ok (.istore 4, 2) := by decide +kernel
theorem dX7_alphabet_27 : decode cX7_alphabet 27 = .ok (.iconst 0, 1) := by decide +kernel
theorem dX7_alphabet_28 : decode cX7_alphabet 28 = .ok (.istore 5, 2) := by decide +kernel
theorem dX7_alphabet_30 : decode cX7_alphabet 30 = .ok (.iload 5, 2) := by decide +kernel
theorem dX7_alphabet_32 : decode cX7_alphabet 32 = .ok (.sipush 256, 3) := by decide +kernel
theorem dX7_alphabet_35 : decode cX7_alphabet 35 = .ok (.if_icmp .ge 59, 3) := by decide +kernel
theorem dX7_alphabet_38 : decode cX7_alphabet 38 = .ok (.iload 5, 2) := by decide +kernel
theorem dX7_alphabet_40 : decode cX7_alphabet 40 = .ok (.invokestatic 154, 3) := by decide +kernel
theorem dX7_alphabet_43 : decode cX7_alphabet 43 = .ok (.iload_n 1, 1) := by decide +kernel
theorem dX7_alphabet_44 : decode cX7_alphabet 44 = .ok (.if_icmp .ne 12, 3) := by decide +kernel
theorem dX7_alphabet_47 : decode cX7_alphabet 47 = .ok (.aload_n 0, 1) := by decide +kernel
theorem dX7_alphabet_48 : decode cX7_alphabet 48 = .ok (.iload 5, 2) := by decide +kernel
theorem dX7_alphabet_50 : decode cX7_alphabet 50 = .ok (.invokevirtual 157, 3) := by decide +kernel
theorem dX7_alphabet_53 : decode cX7_alphabet 53 = .ok (.goto 5, 3) := by decide +kernel
theorem dX7_alphabet_56 : decode cX7_alphabet 56 = .ok (.bipush (-9), 2) := by decide +kernel
theorem dX7_alphabet_58 : decode cX7_alphabet 58 = .ok (.istore 6, 2) := by decide +kernel
theorem dX7_alphabet_60 : decode cX7_alphabet 60 = .ok (.iload 6, 2) := by decide +kernel
theorem dX7_alphabet_62 : decode cX7_alphabet 62 = .ok (.iload_n 3, 1) := by decide +kernel
theorem dX7_alphabet_63 : decode cX7_alphabet 63 = .ok (.if_icmp .le 8, 3) := by decide +kernel
theorem dX7_alphabet_66 : decode cX7_alphabet 66 = .ok (.iload 5, 2) := by decide +kernel
theorem dX7_alphabet_68 : decode cX7_alphabet 68 = .ok (.goto 5, 3) := by decide +kernel
theorem dX7_alphabet_71 : decode cX7_alphabet 71 = .ok (.iload 4, 2) := by decide +kernel
theorem dX7_alphabet_73 : decode cX7_alphabet 73 = .ok (.istore 4, 2) := by decide +kernel
theorem dX7_alphabet_75 : decode cX7_alphabet 75 = .ok (.iload 6, 2) := by decide +kernel
theorem dX7_alphabet_77 : decode cX7_alphabet 77 = .ok (.iload_n 3, 1) := by decide +kernel
theorem dX7_alphabet_78 : decode cX7_alphabet 78 = .ok (.if_icmp .le 8, 3) := by decide +kernel
theorem dX7_alphabet_81 : decode cX7_alphabet 81 = .ok (.iload 6, 2) := by decide +kernel
theorem dX7_alphabet_83 : decode cX7_alphabet 83 = .ok (.goto 4, 3) := by decide +kernel
theorem dX7_alphabet_86 : decode cX7_alphabet 86 = .ok (.iload_n 3, 1) := by decide +kernel
theorem dX7_alphabet_87 : decode cX7_alphabet 87 = .ok (.istore_n 3, 1) := by decide +kernel
theorem dX7_alphabet_88 : decode cX7_alphabet 88 = .ok (.iinc 5 1, 3) := by decide +kernel
theorem dX7_alphabet_91 : decode cX7_alphabet 91 = .ok (.goto (-61), 3) := by decide +kernel
theorem dX7_alphabet_94 : decode cX7_alphabet 94 = .ok (.iload_n 2, 1) := by decide +kernel
theorem dX7_alphabet_95 : decode cX7_alphabet 95 = .ok (.ifCond .ne 8, 3) := by decide +kernel
theorem dX7_alphabet_98 : decode cX7_alphabet 98 = .ok (.iload 4, 2) := by decide +kernel
theorem dX7_alphabet_100 : decode cX7_alphabet 100 = .ok (.goto 4, 3) := by decide +kernel
theorem dX7_alphabet_103 : decode cX7_alphabet 103 = .ok (.iload_n 3, 1) := by decide +kernel
theorem dX7_alphabet_104 : decode cX7_alphabet 104 = .ok (.ireturn, 1) := by decide +kernel
theorem dX7_writtenIn_0 : decode cX7_writtenIn 0 = .ok (.iconst 0, 1) := by decide +kernel
theorem dX7_writtenIn_1 : decode cX7_writtenIn 1 = .ok (.istore_n 2, 1) := by decide +kernel
theorem dX7_writtenIn_2 : decode cX7_writtenIn 2 = .ok (.iconst 0, 1) := by decide +kernel
theorem dX7_writtenIn_3 : decode cX7_writtenIn 3 = .ok (.istore_n 3, 1) := by decide +kernel
theorem dX7_writtenIn_4 : decode cX7_writtenIn 4 = .ok (.iload_n 3, 1) := by decide +kernel
theorem dX7_writtenIn_5 : decode cX7_writtenIn 5 = .ok (.bipush 8, 2) := by decide +kernel
theorem dX7_writtenIn_7 : decode cX7_writtenIn 7 = .ok (.if_icmp .ge 31, 3) := by decide +kernel
theorem dX7_writtenIn_10 : decode cX7_writtenIn 10 = .ok (.iload_n 2, 1) := by decide +kernel
theorem dX7_writtenIn_11 : decode cX7_writtenIn 11 = .ok (.iload_n 1, 1) := by decide +kernel
theorem dX7_writtenIn_12 : decode cX7_writtenIn 12 = .ok (.iload_n 3, 1) := by decide +kernel
theorem dX7_writtenIn_13 : decode cX7_writtenIn 13 = .ok (.ishr, 1) := by decide +kernel
theorem dX7_writtenIn_14 : decode cX7_writtenIn 14 = .ok (.iconst 1, 1) := by decide +kernel
theorem dX7_writtenIn_15 : decode cX7_writtenIn 15 = .ok (.iand, 1) := by decide +kernel
theorem dX7_writtenIn_16 : decode cX7_writtenIn 16 = .ok (.iconst 1, 1) := by decide +kernel
theorem dX7_writtenIn_17 : decode cX7_writtenIn 17 = .ok (.if_icmp .ne 12, 3) := by decide +kernel
theorem dX7_writtenIn_20 : decode cX7_writtenIn 20 = .ok (.bipush 15, 2) := by decide +kernel
theorem dX7_writtenIn_22 : decode cX7_writtenIn 22 = .ok (.iconst 4, 1) := by decide +kernel
theorem dX7_writtenIn_23 : decode cX7_writtenIn 23 = .ok (.iload_n 3, 1) := by decide +kernel
theorem dX7_writtenIn_24 : decode cX7_writtenIn 24 = .ok (.imul, 1) := by decide +kernel
theorem dX7_writtenIn_25 : decode cX7_writtenIn 25 = .ok (.ishl, 1) := by decide +kernel
theorem dX7_writtenIn_26 : decode cX7_writtenIn 26 = .ok (.goto 4, 3) := by decide +kernel
theorem dX7_writtenIn_29 : decode cX7_writtenIn 29 = .ok (.iconst 0, 1) := by decide +kernel
theorem dX7_writtenIn_30 : decode cX7_writtenIn 30 = .ok (.ior, 1) := by decide +kernel
theorem dX7_writtenIn_31 : decode cX7_writtenIn 31 = .ok (.istore_n 2, 1) := by decide +kernel
theorem dX7_writtenIn_32 : decode cX7_writtenIn 32 = .ok (.iinc 3 1, 3) := by decide +kernel
theorem dX7_writtenIn_35 : decode cX7_writtenIn 35 = .ok (.goto (-31), 3) := by decide +kernel
theorem dX7_writtenIn_38 : decode cX7_writtenIn 38 = .ok (.iconst 0, 1) := by decide +kernel
theorem dX7_writtenIn_39 : decode cX7_writtenIn 39 = .ok (.istore_n 3, 1) := by decide +kernel
theorem dX7_writtenIn_40 : decode cX7_writtenIn 40 = .ok (.iconst 0, 1) := by decide +kernel
theorem dX7_writtenIn_41 : decode cX7_writtenIn 41 = .ok (.istore 4, 2) := by decide +kernel
theorem dX7_writtenIn_43 : decode cX7_writtenIn 43 = .ok (.iload 4, 2) := by decide +kernel
theorem dX7_writtenIn_45 : decode cX7_writtenIn 45 = .ok (.aload_n 0, 1) := by decide +kernel
theorem dX7_writtenIn_46 : decode cX7_writtenIn 46 = .ok (.getfield 123, 3) := by decide +kernel
theorem dX7_writtenIn_49 : decode cX7_writtenIn 49 = .ok (.if_icmp .ge 31, 3) := by decide +kernel
theorem dX7_writtenIn_52 : decode cX7_writtenIn 52 = .ok (.iload_n 3, 1) := by decide +kernel
theorem dX7_writtenIn_53 : decode cX7_writtenIn 53 = .ok (.aload_n 0, 1) := by decide +kernel
theorem dX7_writtenIn_54 : decode cX7_writtenIn 54 = .ok (.getfield 32, 3) := by decide +kernel
theorem dX7_writtenIn_57 : decode cX7_writtenIn 57 = .ok (.iload 4, 2) := by decide +kernel
theorem dX7_writtenIn_59 : decode cX7_writtenIn 59 = .ok (.iaload, 1) := by decide +kernel
theorem dX7_writtenIn_60 : decode cX7_writtenIn 60 = .ok (.iload_n 2, 1) := by decide +kernel
theorem dX7_writtenIn_61 : decode cX7_writtenIn 61 = .ok (.iconst (-1), 1) := by decide +kernel
theorem dX7_writtenIn_62 : decode cX7_writtenIn 62 = .ok (.ixor, 1) := by decide +kernel
theorem dX7_writtenIn_63 : decode cX7_writtenIn 63 = .ok (.iand, 1) := by decide +kernel
theorem dX7_writtenIn_64 : decode cX7_writtenIn 64 = .ok (.ifCond .ne 7, 3) := by decide +kernel
theorem dX7_writtenIn_67 : decode cX7_writtenIn 67 = .ok (.iconst 1, 1) := by decide +kernel
theorem dX7_writtenIn_68 : decode cX7_writtenIn 68 = .ok (.goto 4, 3) := by decide +kernel
theorem dX7_writtenIn_71 : decode cX7_writtenIn 71 = .ok (.iconst 0, 1) := by decide +kernel
theorem dX7_writtenIn_72 : decode cX7_writtenIn 72 = .ok (.iadd, 1) := by decide +kernel
theorem dX7_writtenIn_73 : decode cX7_writtenIn 73 = .ok (.istore_n 3, 1) := by decide +kernel
theorem dX7_writtenIn_74 : decode cX7_writtenIn 74 = .ok (.iinc 4 1, 3) := by decide +kernel
theorem dX7_writtenIn_77 : decode cX7_writtenIn 77 = .ok (.goto (-34), 3) := by decide +kernel
theorem dX7_writtenIn_80 : decode cX7_writtenIn 80 = .ok (.iload_n 3, 1) := by decide +kernel
theorem dX7_writtenIn_81 : decode cX7_writtenIn 81 = .ok (.ireturn, 1) := by decide +kernel
theorem dX7_asked_0 : decode cX7_asked 0 = .ok (.aload_n 0, 1) := by decide +kernel
theorem dX7_asked_1 : decode cX7_asked 1 = .ok (.iload_n 1, 1) := by decide +kernel
theorem dX7_asked_2 : decode cX7_asked 2 = .ok (.invokevirtual 136, 3) := by decide +kernel
theorem dX7_asked_5 : decode cX7_asked 5 = .ok (.istore_n 3, 1) := by decide +kernel
theorem dX7_asked_6 : decode cX7_asked 6 = .ok (.iload_n 3, 1) := by decide +kernel
theorem dX7_asked_7 : decode cX7_asked 7 = .ok (.bipush (-9), 2) := by decide +kernel
theorem dX7_asked_9 : decode cX7_asked 9 = .ok (.if_icmp .eq 11, 3) := by decide +kernel
theorem dX7_asked_12 : decode cX7_asked 12 = .ok (.aload_n 0, 1) := by decide +kernel
theorem dX7_asked_13 : decode cX7_asked 13 = .ok (.iload_n 2, 1) := by decide +kernel
theorem dX7_asked_14 : decode cX7_asked 14 = .ok (.invokevirtual 133, 3) := by decide +kernel
theorem dX7_asked_17 : decode cX7_asked 17 = .ok (.ifCond .ne 5, 3) := by decide +kernel
theorem dX7_asked_20 : decode cX7_asked 20 = .ok (.iconst (-1), 1) := by decide +kernel
theorem dX7_asked_21 : decode cX7_asked 21 = .ok (.ireturn, 1) := by decide +kernel
theorem dX7_asked_22 : decode cX7_asked 22 = .ok (.iconst 0, 1) := by decide +kernel
theorem dX7_asked_23 : decode cX7_asked 23 = .ok (.istore 4, 2) := by decide +kernel
theorem dX7_asked_25 : decode cX7_asked 25 = .ok (.iconst 0, 1) := by decide +kernel
theorem dX7_asked_26 : decode cX7_asked 26 = .ok (.istore 5, 2) := by decide +kernel
theorem dX7_asked_28 : decode cX7_asked 28 = .ok (.iload 5, 2) := by decide +kernel
theorem dX7_asked_30 : decode cX7_asked 30 = .ok (.aload_n 0, 1) := by decide +kernel
theorem dX7_asked_31 : decode cX7_asked 31 = .ok (.getfield 123, 3) := by decide +kernel
theorem dX7_asked_34 : decode cX7_asked 34 = .ok (.if_icmp .ge 45, 3) := by decide +kernel
theorem dX7_asked_37 : decode cX7_asked 37 = .ok (.iload 4, 2) := by decide +kernel
theorem dX7_asked_39 : decode cX7_asked 39 = .ok (.aload_n 0, 1) := by decide +kernel
theorem dX7_asked_40 : decode cX7_asked 40 = .ok (.iload_n 3, 1) := by decide +kernel
theorem dX7_asked_41 : decode cX7_asked 41 = .ok (.iload 5, 2) := by decide +kernel
theorem dX7_asked_43 : decode cX7_asked 43 = .ok (.iconst 0, 1) := by decide +kernel
theorem dX7_asked_44 : decode cX7_asked 44 = .ok (.invokevirtual 145, 3) := by decide +kernel
theorem dX7_asked_47 : decode cX7_asked 47 = .ok (.ifCond .eq 22, 3) := by decide +kernel
theorem dX7_asked_50 : decode cX7_asked 50 = .ok (.aload_n 0, 1) := by decide +kernel
theorem dX7_asked_51 : decode cX7_asked 51 = .ok (.aload_n 0, 1) := by decide +kernel
theorem dX7_asked_52 : decode cX7_asked 52 = .ok (.getfield 29, 3) := by decide +kernel
theorem dX7_asked_55 : decode cX7_asked 55 = .ok (.iload 5, 2) := by decide +kernel
theorem dX7_asked_57 : decode cX7_asked 57 = .ok (.iaload, 1) := by decide +kernel
theorem dX7_asked_58 : decode cX7_asked 58 = .ok (.iload_n 2, 1) := by decide +kernel
theorem dX7_asked_59 : decode cX7_asked 59 = .ok (.invokevirtual 120, 3) := by decide +kernel
theorem dX7_asked_62 : decode cX7_asked 62 = .ok (.ifCond .eq 7, 3) := by decide +kernel
theorem dX7_asked_65 : decode cX7_asked 65 = .ok (.iconst 1, 1) := by decide +kernel
theorem dX7_asked_66 : decode cX7_asked 66 = .ok (.goto 4, 3) := by decide +kernel
theorem dX7_asked_69 : decode cX7_asked 69 = .ok (.iconst 0, 1) := by decide +kernel
theorem dX7_asked_70 : decode cX7_asked 70 = .ok (.iadd, 1) := by decide +kernel
theorem dX7_asked_71 : decode cX7_asked 71 = .ok (.istore 4, 2) := by decide +kernel
theorem dX7_asked_73 : decode cX7_asked 73 = .ok (.iinc 5 1, 3) := by decide +kernel
theorem dX7_asked_76 : decode cX7_asked 76 = .ok (.goto (-48), 3) := by decide +kernel
theorem dX7_asked_79 : decode cX7_asked 79 = .ok (.iload 4, 2) := by decide +kernel
theorem dX7_asked_81 : decode cX7_asked 81 = .ok (.ireturn, 1) := by decide +kernel
theorem dX7_written_0 : decode cX7_written 0 = .ok (.iconst 0, 1) := by decide +kernel
theorem dX7_written_1 : decode cX7_written 1 = .ok (.istore_n 2, 1) := by decide +kernel
theorem dX7_written_2 : decode cX7_written 2 = .ok (.iconst 0, 1) := by decide +kernel
theorem dX7_written_3 : decode cX7_written 3 = .ok (.istore_n 3, 1) := by decide +kernel
theorem dX7_written_4 : decode cX7_written 4 = .ok (.iload_n 3, 1) := by decide +kernel
theorem dX7_written_5 : decode cX7_written 5 = .ok (.aload_n 0, 1) := by decide +kernel
theorem dX7_written_6 : decode cX7_written 6 = .ok (.getfield 19, 3) := by decide +kernel
theorem dX7_written_9 : decode cX7_written 9 = .ok (.iconst 0, 1) := by decide +kernel
theorem dX7_written_10 : decode cX7_written 10 = .ok (.iaload, 1) := by decide +kernel
theorem dX7_written_11 : decode cX7_written 11 = .ok (.if_icmp .ge 57, 3) := by decide +kernel
theorem dX7_written_14 : decode cX7_written 14 = .ok (.aload_n 0, 1) := by decide +kernel
theorem dX7_written_15 : decode cX7_written 15 = .ok (.getfield 19, 3) := by decide +kernel
theorem dX7_written_18 : decode cX7_written 18 = .ok (.iload_n 3, 1) := by decide +kernel
theorem dX7_written_19 : decode cX7_written 19 = .ok (.iconst 1, 1) := by decide +kernel
theorem dX7_written_20 : decode cX7_written 20 = .ok (.iadd, 1) := by decide +kernel
theorem dX7_written_21 : decode cX7_written 21 = .ok (.iaload, 1) := by decide +kernel
theorem dX7_written_22 : decode cX7_written 22 = .ok (.istore 4, 2) := by decide +kernel
theorem dX7_written_24 : decode cX7_written 24 = .ok (.iconst 0, 1) := by decide +kernel
theorem dX7_written_25 : decode cX7_written 25 = .ok (.istore 5, 2) := by decide +kernel
theorem dX7_written_27 : decode cX7_written 27 = .ok (.iload 5, 2) := by decide +kernel
theorem dX7_written_29 : decode cX7_written 29 = .ok (.iload 4, 2) := by decide +kernel
theorem dX7_written_31 : decode cX7_written 31 = .ok (.invokestatic 110, 3) := by decide +kernel
theorem dX7_written_34 : decode cX7_written 34 = .ok (.if_icmp .ge 28, 3) := by decide +kernel
theorem dX7_written_37 : decode cX7_written 37 = .ok (.iload_n 2, 1) := by decide +kernel
theorem dX7_written_38 : decode cX7_written 38 = .ok (.iload 4, 2) := by decide +kernel
theorem dX7_written_40 : decode cX7_written 40 = .ok (.iload 5, 2) := by decide +kernel
theorem dX7_written_42 : decode cX7_written 42 = .ok (.invokestatic 113, 3) := by decide +kernel
theorem dX7_written_45 : decode cX7_written 45 = .ok (.iload_n 1, 1) := by decide +kernel
theorem dX7_written_46 : decode cX7_written 46 = .ok (.if_icmp .ne 7, 3) := by decide +kernel
theorem dX7_written_49 : decode cX7_written 49 = .ok (.iconst 1, 1) := by decide +kernel
theorem dX7_written_50 : decode cX7_written 50 = .ok (.goto 4, 3) := by decide +kernel
theorem dX7_written_53 : decode cX7_written 53 = .ok (.iconst 0, 1) := by decide +kernel
theorem dX7_written_54 : decode cX7_written 54 = .ok (.iadd, 1) := by decide +kernel
theorem dX7_written_55 : decode cX7_written 55 = .ok (.istore_n 2, 1) := by decide +kernel
theorem dX7_written_56 : decode cX7_written 56 = .ok (.iinc 5 1, 3) := by decide +kernel
theorem dX7_written_59 : decode cX7_written 59 = .ok (.goto (-32), 3) := by decide +kernel
theorem dX7_written_62 : decode cX7_written 62 = .ok (.iinc 3 1, 3) := by decide +kernel
theorem dX7_written_65 : decode cX7_written 65 = .ok (.goto (-61), 3) := by decide +kernel
theorem dX7_written_68 : decode cX7_written 68 = .ok (.iload_n 2, 1) := by decide +kernel
theorem dX7_written_69 : decode cX7_written 69 = .ok (.ireturn, 1) := by decide +kernel
theorem dX7_rate_0 : decode cX7_rate 0 = .ok (.iload_n 1, 1) := by decide +kernel
theorem dX7_rate_1 : decode cX7_rate 1 = .ok (.iconst 0, 1) := by decide +kernel
theorem dX7_rate_2 : decode cX7_rate 2 = .ok (.iconst 5, 1) := by decide +kernel
theorem dX7_rate_3 : decode cX7_rate 3 = .ok (.invokestatic 47, 3) := by decide +kernel
theorem dX7_rate_6 : decode cX7_rate 6 = .ok (.ifCond .eq 11, 3) := by decide +kernel
theorem dX7_rate_9 : decode cX7_rate 9 = .ok (.aload_n 0, 1) := by decide +kernel
theorem dX7_rate_10 : decode cX7_rate 10 = .ok (.iload_n 2, 1) := by decide +kernel
theorem dX7_rate_11 : decode cX7_rate 11 = .ok (.invokevirtual 117, 3) := by decide +kernel
theorem dX7_rate_14 : decode cX7_rate 14 = .ok (.ifCond .ne 6, 3) := by decide +kernel
theorem dX7_rate_17 : decode cX7_rate 17 = .ok (.ldc 160, 2) := by decide +kernel
theorem dX7_rate_19 : decode cX7_rate 19 = .ok (.ireturn, 1) := by decide +kernel
theorem dX7_rate_20 : decode cX7_rate 20 = .ok (.aload_n 0, 1) := by decide +kernel
theorem dX7_rate_21 : decode cX7_rate 21 = .ok (.dup, 1) := by decide +kernel
theorem dX7_rate_22 : decode cX7_rate 22 = .ok (.getfield 161, 3) := by decide +kernel
theorem dX7_rate_25 : decode cX7_rate 25 = .ok (.iload_n 1, 1) := by decide +kernel
theorem dX7_rate_26 : decode cX7_rate 26 = .ok (.ifCond .ne 7, 3) := by decide +kernel
theorem dX7_rate_29 : decode cX7_rate 29 = .ok (.lconst 1, 1) := by decide +kernel
theorem dX7_rate_30 : decode cX7_rate 30 = .ok (.goto 50, 3) := by decide +kernel
theorem dX7_rate_33 : decode cX7_rate 33 = .ok (.iload_n 1, 1) := by decide +kernel
theorem dX7_rate_34 : decode cX7_rate 34 = .ok (.iconst 1, 1) := by decide +kernel
theorem dX7_rate_35 : decode cX7_rate 35 = .ok (.if_icmp .ne 9, 3) := by decide +kernel
theorem dX7_rate_38 : decode cX7_rate 38 = .ok (.ldc2_w 165, 3) := by decide +kernel
theorem dX7_rate_41 : decode cX7_rate 41 = .ok (.goto 39, 3) := by decide +kernel
theorem dX7_rate_44 : decode cX7_rate 44 = .ok (.iload_n 1, 1) := by decide +kernel
theorem dX7_rate_45 : decode cX7_rate 45 = .ok (.iconst 2, 1) := by decide +kernel
theorem dX7_rate_46 : decode cX7_rate 46 = .ok (.if_icmp .ne 9, 3) := by decide +kernel
theorem dX7_rate_49 : decode cX7_rate 49 = .ok (.ldc2_w 167, 3) := by decide +kernel
theorem dX7_rate_52 : decode cX7_rate 52 = .ok (.goto 28, 3) := by decide +kernel
theorem dX7_rate_55 : decode cX7_rate 55 = .ok (.iload_n 1, 1) := by decide +kernel
theorem dX7_rate_56 : decode cX7_rate 56 = .ok (.iconst 3, 1) := by decide +kernel
theorem dX7_rate_57 : decode cX7_rate 57 = .ok (.if_icmp .ne 9, 3) := by decide +kernel
theorem dX7_rate_60 : decode cX7_rate 60 = .ok (.ldc2_w 169, 3) := by decide +kernel
theorem dX7_rate_63 : decode cX7_rate 63 = .ok (.goto 17, 3) := by decide +kernel
theorem dX7_rate_66 : decode cX7_rate 66 = .ok (.iload_n 1, 1) := by decide +kernel
theorem dX7_rate_67 : decode cX7_rate 67 = .ok (.iconst 4, 1) := by decide +kernel
theorem dX7_rate_68 : decode cX7_rate 68 = .ok (.if_icmp .ne 9, 3) := by decide +kernel
theorem dX7_rate_71 : decode cX7_rate 71 = .ok (.ldc2_w 171, 3) := by decide +kernel
theorem dX7_rate_74 : decode cX7_rate 74 = .ok (.goto 6, 3) := by decide +kernel
theorem dX7_rate_77 : decode cX7_rate 77 = .ok (.ldc2_w 173, 3) := by decide +kernel
theorem dX7_rate_80 : decode cX7_rate 80 = .ok (.ladd, 1) := by decide +kernel
theorem dX7_rate_81 : decode cX7_rate 81 = .ok (.putfield 161, 3) := by decide +kernel
theorem dX7_rate_84 : decode cX7_rate 84 = .ok (.aload_n 0, 1) := by decide +kernel
theorem dX7_rate_85 : decode cX7_rate 85 = .ok (.getfield 13, 3) := by decide +kernel
theorem dX7_rate_88 : decode cX7_rate 88 = .ok (.bipush 12, 2) := by decide +kernel
theorem dX7_rate_90 : decode cX7_rate 90 = .ok (.iload_n 2, 1) := by decide +kernel
theorem dX7_rate_91 : decode cX7_rate 91 = .ok (.iadd, 1) := by decide +kernel
theorem dX7_rate_92 : decode cX7_rate 92 = .ok (.iaload, 1) := by decide +kernel
theorem dX7_rate_93 : decode cX7_rate 93 = .ok (.istore_n 3, 1) := by decide +kernel
theorem dX7_rate_94 : decode cX7_rate 94 = .ok (.iload_n 3, 1) := by decide +kernel
theorem dX7_rate_95 : decode cX7_rate 95 = .ok (.aload_n 0, 1) := by decide +kernel
theorem dX7_rate_96 : decode cX7_rate 96 = .ok (.getfield 13, 3) := by decide +kernel
theorem dX7_rate_99 : decode cX7_rate 99 = .ok (.bipush 30, 2) := by decide +kernel
theorem dX7_rate_101 : decode cX7_rate 101 = .ok (.iload_n 2, 1) := by decide +kernel
theorem dX7_rate_102 : decode cX7_rate 102 = .ok (.iadd, 1) := by decide +kernel
theorem dX7_rate_103 : decode cX7_rate 103 = .ok (.iaload, 1) := by decide +kernel
theorem dX7_rate_104 : decode cX7_rate 104 = .ok (.iadd, 1) := by decide +kernel
theorem dX7_rate_105 : decode cX7_rate 105 = .ok (.istore 4, 2) := by decide +kernel
theorem dX7_rate_107 : decode cX7_rate 107 = .ok (.iload_n 3, 1) := by decide +kernel
theorem dX7_rate_108 : decode cX7_rate 108 = .ok (.aload_n 0, 1) := by decide +kernel
theorem dX7_rate_109 : decode cX7_rate 109 = .ok (.getfield 13, 3) := by decide +kernel
theorem dX7_rate_112 : decode cX7_rate 112 = .ok (.bipush 21, 2) := by decide +kernel
theorem dX7_rate_114 : decode cX7_rate 114 = .ok (.iload_n 2, 1) := by decide +kernel
theorem dX7_rate_115 : decode cX7_rate 115 = .ok (.iadd, 1) := by decide +kernel
theorem dX7_rate_116 : decode cX7_rate 116 = .ok (.iaload, 1) := by decide +kernel
theorem dX7_rate_117 : decode cX7_rate 117 = .ok (.isub, 1) := by decide +kernel
theorem dX7_rate_118 : decode cX7_rate 118 = .ok (.istore 5, 2) := by decide +kernel
theorem dX7_rate_120 : decode cX7_rate 120 = .ok (.iload_n 1, 1) := by decide +kernel
theorem dX7_rate_121 : decode cX7_rate 121 = .ok (.ifCond .ne 7, 3) := by decide +kernel
theorem dX7_rate_124 : decode cX7_rate 124 = .ok (.iload_n 3, 1) := by decide +kernel
theorem dX7_rate_125 : decode cX7_rate 125 = .ok (.goto 54, 3) := by decide +kernel
theorem dX7_rate_128 : decode cX7_rate 128 = .ok (.iload_n 1, 1) := by decide +kernel
theorem dX7_rate_129 : decode cX7_rate 129 = .ok (.iconst 1, 1) := by decide +kernel
theorem dX7_rate_130 : decode cX7_rate 130 = .ok (.if_icmp .ne 8, 3) := by decide +kernel
theorem dX7_rate_133 : decode cX7_rate 133 = .ok (.iload 4, 2) := by decide +kernel
theorem dX7_rate_135 : decode cX7_rate 135 = .ok (.goto 44, 3) := by decide +kernel
theorem dX7_rate_138 : decode cX7_rate 138 = .ok (.iload_n 1, 1) := by decide +kernel
theorem dX7_rate_139 : decode cX7_rate 139 = .ok (.iconst 2, 1) := by decide +kernel
theorem dX7_rate_140 : decode cX7_rate 140 = .ok (.if_icmp .ne 8, 3) := by decide +kernel
theorem dX7_rate_143 : decode cX7_rate 143 = .ok (.iload 5, 2) := by decide +kernel
theorem dX7_rate_145 : decode cX7_rate 145 = .ok (.goto 34, 3) := by decide +kernel
theorem dX7_rate_148 : decode cX7_rate 148 = .ok (.iload_n 1, 1) := by decide +kernel
theorem dX7_rate_149 : decode cX7_rate 149 = .ok (.iconst 3, 1) := by decide +kernel
theorem dX7_rate_150 : decode cX7_rate 150 = .ok (.if_icmp .ne 10, 3) := by decide +kernel
theorem dX7_rate_153 : decode cX7_rate 153 = .ok (.iconst 2, 1) := by decide +kernel
theorem dX7_rate_154 : decode cX7_rate 154 = .ok (.iload 4, 2) := by decide +kernel
theorem dX7_rate_156 : decode cX7_rate 156 = .ok (.imul, 1) := by decide +kernel
theorem dX7_rate_157 : decode cX7_rate 157 = .ok (.goto 22, 3) := by decide +kernel
theorem dX7_rate_160 : decode cX7_rate 160 = .ok (.iload_n 1, 1) := by decide +kernel
theorem dX7_rate_161 : decode cX7_rate 161 = .ok (.iconst 4, 1) := by decide +kernel
theorem dX7_rate_162 : decode cX7_rate 162 = .ok (.if_icmp .ne 10, 3) := by decide +kernel
theorem dX7_rate_165 : decode cX7_rate 165 = .ok (.iload 5, 2) := by decide +kernel
theorem dX7_rate_167 : decode cX7_rate 167 = .ok (.iload_n 2, 1) := by decide +kernel
theorem dX7_rate_168 : decode cX7_rate 168 = .ok (.iadd, 1) := by decide +kernel
theorem dX7_rate_169 : decode cX7_rate 169 = .ok (.goto 10, 3) := by decide +kernel
theorem dX7_rate_172 : decode cX7_rate 172 = .ok (.iload_n 3, 1) := by decide +kernel
theorem dX7_rate_173 : decode cX7_rate 173 = .ok (.aload_n 0, 1) := by decide +kernel
theorem dX7_rate_174 : decode cX7_rate 174 = .ok (.iload_n 2, 1) := by decide +kernel
theorem dX7_rate_175 : decode cX7_rate 175 = .ok (.invokevirtual 175, 3) := by decide +kernel
theorem dX7_rate_178 : decode cX7_rate 178 = .ok (.iadd, 1) := by decide +kernel
theorem dX7_rate_179 : decode cX7_rate 179 = .ok (.ireturn, 1) := by decide +kernel
theorem dX7_keep_0 : decode cX7_keep 0 = .ok (.iload_n 1, 1) := by decide +kernel
theorem dX7_keep_1 : decode cX7_keep 1 = .ok (.iconst 0, 1) := by decide +kernel
theorem dX7_keep_2 : decode cX7_keep 2 = .ok (.iconst 1, 1) := by decide +kernel
theorem dX7_keep_3 : decode cX7_keep 3 = .ok (.invokestatic 47, 3) := by decide +kernel
theorem dX7_keep_6 : decode cX7_keep 6 = .ok (.ifCond .ne 5, 3) := by decide +kernel
theorem dX7_keep_9 : decode cX7_keep 9 = .ok (.iconst (-1), 1) := by decide +kernel
theorem dX7_keep_10 : decode cX7_keep 10 = .ok (.ireturn, 1) := by decide +kernel
theorem dX7_keep_11 : decode cX7_keep 11 = .ok (.iconst 0, 1) := by decide +kernel
theorem dX7_keep_12 : decode cX7_keep 12 = .ok (.istore_n 2, 1) := by decide +kernel
theorem dX7_keep_13 : decode cX7_keep 13 = .ok (.iload_n 2, 1) := by decide +kernel
theorem dX7_keep_14 : decode cX7_keep 14 = .ok (.bipush 13, 2) := by decide +kernel
theorem dX7_keep_16 : decode cX7_keep 16 = .ok (.if_icmp .ge 26, 3) := by decide +kernel
theorem dX7_keep_19 : decode cX7_keep 19 = .ok (.aload_n 0, 1) := by decide +kernel
theorem dX7_keep_20 : decode cX7_keep 20 = .ok (.getfield 22, 3) := by decide +kernel
theorem dX7_keep_23 : decode cX7_keep 23 = .ok (.bipush 13, 2) := by decide +kernel
theorem dX7_keep_25 : decode cX7_keep 25 = .ok (.iload_n 1, 1) := by decide +kernel
theorem dX7_keep_26 : decode cX7_keep 26 = .ok (.imul, 1) := by decide +kernel
theorem dX7_keep_27 : decode cX7_keep 27 = .ok (.iload_n 2, 1) := by decide +kernel
theorem dX7_keep_28 : decode cX7_keep 28 = .ok (.iadd, 1) := by decide +kernel
theorem dX7_keep_29 : decode cX7_keep 29 = .ok (.aload_n 0, 1) := by decide +kernel
theorem dX7_keep_30 : decode cX7_keep 30 = .ok (.getfield 19, 3) := by decide +kernel
theorem dX7_keep_33 : decode cX7_keep 33 = .ok (.iload_n 2, 1) := by decide +kernel
theorem dX7_keep_34 : decode cX7_keep 34 = .ok (.iaload, 1) := by decide +kernel
theorem dX7_keep_35 : decode cX7_keep 35 = .ok (.iastore, 1) := by decide +kernel
theorem dX7_keep_36 : decode cX7_keep 36 = .ok (.iinc 2 1, 3) := by decide +kernel
theorem dX7_keep_39 : decode cX7_keep 39 = .ok (.goto (-26), 3) := by decide +kernel
theorem dX7_keep_42 : decode cX7_keep 42 = .ok (.aload_n 0, 1) := by decide +kernel
theorem dX7_keep_43 : decode cX7_keep 43 = .ok (.getfield 25, 3) := by decide +kernel
theorem dX7_keep_46 : decode cX7_keep 46 = .ok (.iload_n 1, 1) := by decide +kernel
theorem dX7_keep_47 : decode cX7_keep 47 = .ok (.iconst 1, 1) := by decide +kernel
theorem dX7_keep_48 : decode cX7_keep 48 = .ok (.bastore, 1) := by decide +kernel
theorem dX7_keep_49 : decode cX7_keep 49 = .ok (.aload_n 0, 1) := by decide +kernel
theorem dX7_keep_50 : decode cX7_keep 50 = .ok (.getfield 19, 3) := by decide +kernel
theorem dX7_keep_53 : decode cX7_keep 53 = .ok (.iconst 0, 1) := by decide +kernel
theorem dX7_keep_54 : decode cX7_keep 54 = .ok (.iaload, 1) := by decide +kernel
theorem dX7_keep_55 : decode cX7_keep 55 = .ok (.ireturn, 1) := by decide +kernel
theorem dX7_back_0 : decode cX7_back 0 = .ok (.iload_n 1, 1) := by decide +kernel
theorem dX7_back_1 : decode cX7_back 1 = .ok (.iconst 0, 1) := by decide +kernel
theorem dX7_back_2 : decode cX7_back 2 = .ok (.iconst 1, 1) := by decide +kernel
theorem dX7_back_3 : decode cX7_back 3 = .ok (.invokestatic 47, 3) := by decide +kernel
theorem dX7_back_6 : decode cX7_back 6 = .ok (.ifCond .ne 5, 3) := by decide +kernel
theorem dX7_back_9 : decode cX7_back 9 = .ok (.iconst (-1), 1) := by decide +kernel
theorem dX7_back_10 : decode cX7_back 10 = .ok (.ireturn, 1) := by decide +kernel
theorem dX7_back_11 : decode cX7_back 11 = .ok (.aload_n 0, 1) := by decide +kernel
theorem dX7_back_12 : decode cX7_back 12 = .ok (.getfield 25, 3) := by decide +kernel
theorem dX7_back_15 : decode cX7_back 15 = .ok (.iload_n 1, 1) := by decide +kernel
theorem dX7_back_16 : decode cX7_back 16 = .ok (.baload, 1) := by decide +kernel
theorem dX7_back_17 : decode cX7_back 17 = .ok (.ifCond .ne 6, 3) := by decide +kernel
theorem dX7_back_20 : decode cX7_back 20 = .ok (.bipush (-2), 2) := by decide +kernel
theorem dX7_back_22 : decode cX7_back 22 = .ok (.ireturn, 1) := by decide +kernel
theorem dX7_back_23 : decode cX7_back 23 = .ok (.iconst 0, 1) := by decide +kernel
theorem dX7_back_24 : decode cX7_back 24 = .ok (.istore_n 2, 1) := by decide +kernel
theorem dX7_back_25 : decode cX7_back 25 = .ok (.iload_n 2, 1) := by decide +kernel
theorem dX7_back_26 : decode cX7_back 26 = .ok (.bipush 13, 2) := by decide +kernel
theorem dX7_back_28 : decode cX7_back 28 = .ok (.if_icmp .ge 26, 3) := by decide +kernel
theorem dX7_back_31 : decode cX7_back 31 = .ok (.aload_n 0, 1) := by decide +kernel
theorem dX7_back_32 : decode cX7_back 32 = .ok (.getfield 19, 3) := by decide +kernel
theorem dX7_back_35 : decode cX7_back 35 = .ok (.iload_n 2, 1) := by decide +kernel
theorem dX7_back_36 : decode cX7_back 36 = .ok (.aload_n 0, 1) := by decide +kernel
theorem dX7_back_37 : decode cX7_back 37 = .ok (.getfield 22, 3) := by decide +kernel
theorem dX7_back_40 : decode cX7_back 40 = .ok (.bipush 13, 2) := by decide +kernel
theorem dX7_back_42 : decode cX7_back 42 = .ok (.iload_n 1, 1) := by decide +kernel
theorem dX7_back_43 : decode cX7_back 43 = .ok (.imul, 1) := by decide +kernel
theorem dX7_back_44 : decode cX7_back 44 = .ok (.iload_n 2, 1) := by decide +kernel
theorem dX7_back_45 : decode cX7_back 45 = .ok (.iadd, 1) := by decide +kernel
theorem dX7_back_46 : decode cX7_back 46 = .ok (.iaload, 1) := by decide +kernel
theorem dX7_back_47 : decode cX7_back 47 = .ok (.iastore, 1) := by decide +kernel
theorem dX7_back_48 : decode cX7_back 48 = .ok (.iinc 2 1, 3) := by decide +kernel
theorem dX7_back_51 : decode cX7_back 51 = .ok (.goto (-26), 3) := by decide +kernel
theorem dX7_back_54 : decode cX7_back 54 = .ok (.aload_n 0, 1) := by decide +kernel
theorem dX7_back_55 : decode cX7_back 55 = .ok (.getfield 19, 3) := by decide +kernel
theorem dX7_back_58 : decode cX7_back 58 = .ok (.iconst 0, 1) := by decide +kernel
theorem dX7_back_59 : decode cX7_back 59 = .ok (.iaload, 1) := by decide +kernel
theorem dX7_back_60 : decode cX7_back 60 = .ok (.ireturn, 1) := by decide +kernel
theorem dX7_count_0 : decode cX7_count 0 = .ok (.iload_n 1, 1) := by decide +kernel
theorem dX7_count_1 : decode cX7_count 1 = .ok (.iconst 0, 1) := by decide +kernel
theorem dX7_count_2 : decode cX7_count 2 = .ok (.iconst 3, 1) := by decide +kernel
theorem dX7_count_3 : decode cX7_count 3 = .ok (.invokestatic 47, 3) := by decide +kernel
theorem dX7_count_6 : decode cX7_count 6 = .ok (.ifCond .ne 5, 3) := by decide +kernel
theorem dX7_count_9 : decode cX7_count 9 = .ok (.iconst (-1), 1) := by decide +kernel
theorem dX7_count_10 : decode cX7_count 10 = .ok (.ireturn, 1) := by decide +kernel
theorem dX7_count_11 : decode cX7_count 11 = .ok (.iload_n 1, 1) := by decide +kernel
theorem dX7_count_12 : decode cX7_count 12 = .ok (.ifCond .ne 12, 3) := by decide +kernel
theorem dX7_count_15 : decode cX7_count 15 = .ok (.aload_n 0, 1) := by decide +kernel
theorem dX7_count_16 : decode cX7_count 16 = .ok (.getfield 13, 3) := by decide +kernel
theorem dX7_count_19 : decode cX7_count 19 = .ok (.iconst 0, 1) := by decide +kernel
theorem dX7_count_20 : decode cX7_count 20 = .ok (.iaload, 1) := by decide +kernel
theorem dX7_count_21 : decode cX7_count 21 = .ok (.goto 35, 3) := by decide +kernel
theorem dX7_count_24 : decode cX7_count 24 = .ok (.iload_n 1, 1) := by decide +kernel
theorem dX7_count_25 : decode cX7_count 25 = .ok (.iconst 1, 1) := by decide +kernel
theorem dX7_count_26 : decode cX7_count 26 = .ok (.if_icmp .ne 12, 3) := by decide +kernel
theorem dX7_count_29 : decode cX7_count 29 = .ok (.aload_n 0, 1) := by decide +kernel
theorem dX7_count_30 : decode cX7_count 30 = .ok (.getfield 13, 3) := by decide +kernel
theorem dX7_count_33 : decode cX7_count 33 = .ok (.iconst 1, 1) := by decide +kernel
theorem dX7_count_34 : decode cX7_count 34 = .ok (.iaload, 1) := by decide +kernel
theorem dX7_count_35 : decode cX7_count 35 = .ok (.goto 21, 3) := by decide +kernel
theorem dX7_count_38 : decode cX7_count 38 = .ok (.iload_n 1, 1) := by decide +kernel
theorem dX7_count_39 : decode cX7_count 39 = .ok (.iconst 2, 1) := by decide +kernel
theorem dX7_count_40 : decode cX7_count 40 = .ok (.if_icmp .ne 12, 3) := by decide +kernel
theorem dX7_count_43 : decode cX7_count 43 = .ok (.aload_n 0, 1) := by decide +kernel
theorem dX7_count_44 : decode cX7_count 44 = .ok (.getfield 19, 3) := by decide +kernel
theorem dX7_count_47 : decode cX7_count 47 = .ok (.iconst 0, 1) := by decide +kernel
theorem dX7_count_48 : decode cX7_count 48 = .ok (.iaload, 1) := by decide +kernel
theorem dX7_count_49 : decode cX7_count 49 = .ok (.goto 7, 3) := by decide +kernel
theorem dX7_count_52 : decode cX7_count 52 = .ok (.aload_n 0, 1) := by decide +kernel
theorem dX7_count_53 : decode cX7_count 53 = .ok (.getfield 51, 3) := by decide +kernel
theorem dX7_count_56 : decode cX7_count 56 = .ok (.ireturn, 1) := by decide +kernel
theorem dX7_trace_0 : decode cX7_trace 0 = .ok (.aload_n 0, 1) := by decide +kernel
theorem dX7_trace_1 : decode cX7_trace 1 = .ok (.getfield 161, 3) := by decide +kernel
theorem dX7_trace_4 : decode cX7_trace 4 = .ok (.lreturn, 1) := by decide +kernel
theorem dJ6_bitCount_0f7a4_0 : decode cJ6_bitCount_0f7a4 0 = .ok (.iload_n 0, 1) := by decide +kernel
theorem dJ6_bitCount_0f7a4_1 : decode cJ6_bitCount_0f7a4 1 = .ok (.iload_n 0, 1) := by decide +kernel
theorem dJ6_bitCount_0f7a4_2 : decode cJ6_bitCount_0f7a4 2 = .ok (.iconst 1, 1) := by decide +kernel
theorem dJ6_bitCount_0f7a4_3 : decode cJ6_bitCount_0f7a4 3 = .ok (.iushr, 1) := by decide +kernel
theorem dJ6_bitCount_0f7a4_4 : decode cJ6_bitCount_0f7a4 4 = .ok (.ldc_w 265, 3) := by decide +kernel
theorem dJ6_bitCount_0f7a4_7 : decode cJ6_bitCount_0f7a4 7 = .ok (.iand, 1) := by decide +kernel
theorem dJ6_bitCount_0f7a4_8 : decode cJ6_bitCount_0f7a4 8 = .ok (.isub, 1) := by decide +kernel
theorem dJ6_bitCount_0f7a4_9 : decode cJ6_bitCount_0f7a4 9 = .ok (.istore_n 0, 1) := by decide +kernel
theorem dJ6_bitCount_0f7a4_10 : decode cJ6_bitCount_0f7a4 10 = .ok (.iload_n 0, 1) := by decide +kernel
theorem dJ6_bitCount_0f7a4_11 : decode cJ6_bitCount_0f7a4 11 = .ok (.ldc_w 266, 3) := by decide +kernel
theorem dJ6_bitCount_0f7a4_14 : decode cJ6_bitCount_0f7a4 14 = .ok (.iand, 1) := by decide +kernel
theorem dJ6_bitCount_0f7a4_15 : decode cJ6_bitCount_0f7a4 15 = .ok (.iload_n 0, 1) := by decide +kernel
theorem dJ6_bitCount_0f7a4_16 : decode cJ6_bitCount_0f7a4 16 = .ok (.iconst 2, 1) := by decide +kernel
theorem dJ6_bitCount_0f7a4_17 : decode cJ6_bitCount_0f7a4 17 = .ok (.iushr, 1) := by decide +kernel
theorem dJ6_bitCount_0f7a4_18 : decode cJ6_bitCount_0f7a4 18 = .ok (.ldc_w 266, 3) := by decide +kernel
theorem dJ6_bitCount_0f7a4_21 : decode cJ6_bitCount_0f7a4 21 = .ok (.iand, 1) := by decide +kernel
theorem dJ6_bitCount_0f7a4_22 : decode cJ6_bitCount_0f7a4 22 = .ok (.iadd, 1) := by decide +kernel
theorem dJ6_bitCount_0f7a4_23 : decode cJ6_bitCount_0f7a4 23 = .ok (.istore_n 0, 1) := by decide +kernel
theorem dJ6_bitCount_0f7a4_24 : decode cJ6_bitCount_0f7a4 24 = .ok (.iload_n 0, 1) := by decide +kernel
theorem dJ6_bitCount_0f7a4_25 : decode cJ6_bitCount_0f7a4 25 = .ok (.iload_n 0, 1) := by decide +kernel
theorem dJ6_bitCount_0f7a4_26 : decode cJ6_bitCount_0f7a4 26 = .ok (.iconst 4, 1) := by decide +kernel
theorem dJ6_bitCount_0f7a4_27 : decode cJ6_bitCount_0f7a4 27 = .ok (.iushr, 1) := by decide +kernel
theorem dJ6_bitCount_0f7a4_28 : decode cJ6_bitCount_0f7a4 28 = .ok (.iadd, 1) := by decide +kernel
theorem dJ6_bitCount_0f7a4_29 : decode cJ6_bitCount_0f7a4 29 = .ok (.ldc_w 267, 3) := by decide +kernel
theorem dJ6_bitCount_0f7a4_32 : decode cJ6_bitCount_0f7a4 32 = .ok (.iand, 1) := by decide +kernel
theorem dJ6_bitCount_0f7a4_33 : decode cJ6_bitCount_0f7a4 33 = .ok (.istore_n 0, 1) := by decide +kernel
theorem dJ6_bitCount_0f7a4_34 : decode cJ6_bitCount_0f7a4 34 = .ok (.iload_n 0, 1) := by decide +kernel
theorem dJ6_bitCount_0f7a4_35 : decode cJ6_bitCount_0f7a4 35 = .ok (.iload_n 0, 1) := by decide +kernel
theorem dJ6_bitCount_0f7a4_36 : decode cJ6_bitCount_0f7a4 36 = .ok (.bipush 8, 2) := by decide +kernel
theorem dJ6_bitCount_0f7a4_38 : decode cJ6_bitCount_0f7a4 38 = .ok (.iushr, 1) := by decide +kernel
theorem dJ6_bitCount_0f7a4_39 : decode cJ6_bitCount_0f7a4 39 = .ok (.iadd, 1) := by decide +kernel
theorem dJ6_bitCount_0f7a4_40 : decode cJ6_bitCount_0f7a4 40 = .ok (.istore_n 0, 1) := by decide +kernel
theorem dJ6_bitCount_0f7a4_41 : decode cJ6_bitCount_0f7a4 41 = .ok (.iload_n 0, 1) := by decide +kernel
theorem dJ6_bitCount_0f7a4_42 : decode cJ6_bitCount_0f7a4 42 = .ok (.iload_n 0, 1) := by decide +kernel
theorem dJ6_bitCount_0f7a4_43 : decode cJ6_bitCount_0f7a4 43 = .ok (.bipush 16, 2) := by decide +kernel
theorem dJ6_bitCount_0f7a4_45 : decode cJ6_bitCount_0f7a4 45 = .ok (.iushr, 1) := by decide +kernel
theorem dJ6_bitCount_0f7a4_46 : decode cJ6_bitCount_0f7a4 46 = .ok (.iadd, 1) := by decide +kernel
theorem dJ6_bitCount_0f7a4_47 : decode cJ6_bitCount_0f7a4 47 = .ok (.istore_n 0, 1) := by decide +kernel
theorem dJ6_bitCount_0f7a4_48 : decode cJ6_bitCount_0f7a4 48 = .ok (.iload_n 0, 1) := by decide +kernel
theorem dJ6_bitCount_0f7a4_49 : decode cJ6_bitCount_0f7a4 49 = .ok (.bipush 63, 2) := by decide +kernel
theorem dJ6_bitCount_0f7a4_51 : decode cJ6_bitCount_0f7a4 51 = .ok (.iand, 1) := by decide +kernel
theorem dJ6_bitCount_0f7a4_52 : decode cJ6_bitCount_0f7a4 52 = .ok (.ireturn, 1) := by decide +kernel
theorem dJ9_abs_0f7a4_0 : decode cJ9_abs_0f7a4 0 = .ok (.iload_n 0, 1) := by decide +kernel
theorem dJ9_abs_0f7a4_1 : decode cJ9_abs_0f7a4 1 = .ok (.ifCond .ge 8, 3) := by decide +kernel
theorem dJ9_abs_0f7a4_4 : decode cJ9_abs_0f7a4 4 = .ok (.iload_n 0, 1) := by decide +kernel
theorem dJ9_abs_0f7a4_5 : decode cJ9_abs_0f7a4 5 = .ok (.ineg, 1) := by decide +kernel
theorem dJ9_abs_0f7a4_6 : decode cJ9_abs_0f7a4 6 = .ok (.goto 4, 3) := by decide +kernel
theorem dJ9_abs_0f7a4_9 : decode cJ9_abs_0f7a4 9 = .ok (.iload_n 0, 1) := by decide +kernel
theorem dJ9_abs_0f7a4_10 : decode cJ9_abs_0f7a4 10 = .ok (.ireturn, 1) := by decide +kernel
theorem dJ9_max_7cf53_0 : decode cJ9_max_7cf53 0 = .ok (.iload_n 0, 1) := by decide +kernel
theorem dJ9_max_7cf53_1 : decode cJ9_max_7cf53 1 = .ok (.iload_n 1, 1) := by decide +kernel
theorem dJ9_max_7cf53_2 : decode cJ9_max_7cf53 2 = .ok (.if_icmp .lt 7, 3) := by decide +kernel
theorem dJ9_max_7cf53_5 : decode cJ9_max_7cf53 5 = .ok (.iload_n 0, 1) := by decide +kernel
theorem dJ9_max_7cf53_6 : decode cJ9_max_7cf53 6 = .ok (.goto 4, 3) := by decide +kernel
theorem dJ9_max_7cf53_9 : decode cJ9_max_7cf53 9 = .ok (.iload_n 1, 1) := by decide +kernel
theorem dJ9_max_7cf53_10 : decode cJ9_max_7cf53 10 = .ok (.ireturn, 1) := by decide +kernel
theorem dJ9_min_7cf53_0 : decode cJ9_min_7cf53 0 = .ok (.iload_n 0, 1) := by decide +kernel
theorem dJ9_min_7cf53_1 : decode cJ9_min_7cf53 1 = .ok (.iload_n 1, 1) := by decide +kernel
theorem dJ9_min_7cf53_2 : decode cJ9_min_7cf53 2 = .ok (.if_icmp .gt 7, 3) := by decide +kernel
theorem dJ9_min_7cf53_5 : decode cJ9_min_7cf53 5 = .ok (.iload_n 0, 1) := by decide +kernel
theorem dJ9_min_7cf53_6 : decode cJ9_min_7cf53 6 = .ok (.goto 4, 3) := by decide +kernel
theorem dJ9_min_7cf53_9 : decode cJ9_min_7cf53 9 = .ok (.iload_n 1, 1) := by decide +kernel
theorem dJ9_min_7cf53_10 : decode cJ9_min_7cf53 10 = .ok (.ireturn, 1) := by decide +kernel
theorem dJ0_length_8abf5_0 : decode cJ0_length_8abf5 0 = .ok (.aload_n 0, 1) := by decide +kernel
theorem dJ0_length_8abf5_1 : decode cJ0_length_8abf5 1 = .ok (.getfield 9, 3) := by decide +kernel
theorem dJ0_length_8abf5_4 : decode cJ0_length_8abf5 4 = .ok (.arraylength, 1) := by decide +kernel
theorem dJ0_length_8abf5_5 : decode cJ0_length_8abf5 5 = .ok (.aload_n 0, 1) := by decide +kernel
theorem dJ0_length_8abf5_6 : decode cJ0_length_8abf5 6 = .ok (.invokevirtual 335, 3) := by decide +kernel
theorem dJ0_length_8abf5_9 : decode cJ0_length_8abf5 9 = .ok (.ishr, 1) := by decide +kernel
theorem dJ0_length_8abf5_10 : decode cJ0_length_8abf5 10 = .ok (.ireturn, 1) := by decide +kernel
theorem dJ0_charAt_5068e_0 : decode cJ0_charAt_5068e 0 = .ok (.aload_n 0, 1) := by decide +kernel
theorem dJ0_charAt_5068e_1 : decode cJ0_charAt_5068e 1 = .ok (.invokevirtual 492, 3) := by decide +kernel
theorem dJ0_charAt_5068e_4 : decode cJ0_charAt_5068e 4 = .ok (.ifCond .eq 12, 3) := by decide +kernel
theorem dJ0_charAt_5068e_7 : decode cJ0_charAt_5068e 7 = .ok (.aload_n 0, 1) := by decide +kernel
theorem dJ0_charAt_5068e_8 : decode cJ0_charAt_5068e 8 = .ok (.getfield 9, 3) := by decide +kernel
theorem dJ0_charAt_5068e_11 : decode cJ0_charAt_5068e 11 = .ok (.iload_n 1, 1) := by decide +kernel
theorem dJ0_charAt_5068e_12 : decode cJ0_charAt_5068e 12 = .ok (.invokestatic 495, 3) := by decide +kernel
theorem dJ0_charAt_5068e_15 : decode cJ0_charAt_5068e 15 = .ok (.ireturn, 1) := by decide +kernel
theorem dJ0_charAt_5068e_16 : decode cJ0_charAt_5068e 16 = .ok (.aload_n 0, 1) := by decide +kernel
theorem dJ0_charAt_5068e_17 : decode cJ0_charAt_5068e 17 = .ok (.getfield 9, 3) := by decide +kernel
theorem dJ0_charAt_5068e_20 : decode cJ0_charAt_5068e 20 = .ok (.iload_n 1, 1) := by decide +kernel
theorem dJ0_charAt_5068e_21 : decode cJ0_charAt_5068e 21 = .ok (.invokestatic 498, 3) := by decide +kernel
theorem dJ0_charAt_5068e_24 : decode cJ0_charAt_5068e 24 = .ok (.ireturn, 1) := by decide +kernel
theorem dJ0_coder_7d493_0 : decode cJ0_coder_7d493 0 = .ok (.getstatic 38, 3) := by decide +kernel
theorem dJ0_coder_7d493_3 : decode cJ0_coder_7d493 3 = .ok (.ifCond .eq 10, 3) := by decide +kernel
theorem dJ0_coder_7d493_6 : decode cJ0_coder_7d493 6 = .ok (.aload_n 0, 1) := by decide +kernel
theorem dJ0_coder_7d493_7 : decode cJ0_coder_7d493 7 = .ok (.getfield 15, 3) := by decide +kernel
theorem dJ0_coder_7d493_10 : decode cJ0_coder_7d493 10 = .ok (.goto 4, 3) := by decide +kernel
theorem dJ0_coder_7d493_13 : decode cJ0_coder_7d493 13 = .ok (.iconst 1, 1) := by decide +kernel
theorem dJ0_coder_7d493_14 : decode cJ0_coder_7d493 14 = .ok (.ireturn, 1) := by decide +kernel
theorem dJ0_isLatin1_aae02_0 : decode cJ0_isLatin1_aae02 0 = .ok (.getstatic 38, 3) := by decide +kernel
theorem dJ0_isLatin1_aae02_3 : decode cJ0_isLatin1_aae02 3 = .ok (.ifCond .eq 14, 3) := by decide +kernel
theorem dJ0_isLatin1_aae02_6 : decode cJ0_isLatin1_aae02 6 = .ok (.aload_n 0, 1) := by decide +kernel
theorem dJ0_isLatin1_aae02_7 : decode cJ0_isLatin1_aae02 7 = .ok (.getfield 15, 3) := by decide +kernel
theorem dJ0_isLatin1_aae02_10 : decode cJ0_isLatin1_aae02 10 = .ok (.ifCond .ne 7, 3) := by decide +kernel
theorem dJ0_isLatin1_aae02_13 : decode cJ0_isLatin1_aae02 13 = .ok (.iconst 1, 1) := by decide +kernel
theorem dJ0_isLatin1_aae02_14 : decode cJ0_isLatin1_aae02 14 = .ok (.goto 4, 3) := by decide +kernel
theorem dJ0_isLatin1_aae02_17 : decode cJ0_isLatin1_aae02 17 = .ok (.iconst 0, 1) := by decide +kernel
theorem dJ0_isLatin1_aae02_18 : decode cJ0_isLatin1_aae02 18 = .ok (.ireturn, 1) := by decide +kernel
theorem dJ0_checkIndex_df160_0 : decode cJ0_checkIndex_df160 0 = .ok (.iload_n 0, 1) := by decide +kernel
theorem dJ0_checkIndex_df160_1 : decode cJ0_checkIndex_df160 1 = .ok (.iload_n 1, 1) := by decide +kernel
theorem dJ0_checkIndex_df160_2 : decode cJ0_checkIndex_df160 2 = .ok (.getstatic 1053, 3) := by decide +kernel
theorem dJ0_checkIndex_df160_5 : decode cJ0_checkIndex_df160 5 = .ok (.invokestatic 1059, 3) := by decide +kernel
theorem dJ0_checkIndex_df160_8 : decode cJ0_checkIndex_df160 8 = .ok (.pop, 1) := by decide +kernel
theorem dJ0_checkIndex_df160_9 : decode cJ0_checkIndex_df160 9 = .ok (.return_, 1) := by decide +kernel
theorem dJ1_charAt_3b067_0 : decode cJ1_charAt_3b067 0 = .ok (.iload_n 1, 1) := by decide +kernel
theorem dJ1_charAt_3b067_1 : decode cJ1_charAt_3b067 1 = .ok (.aload_n 0, 1) := by decide +kernel
theorem dJ1_charAt_3b067_2 : decode cJ1_charAt_3b067 2 = .ok (.arraylength, 1) := by decide +kernel
theorem dJ1_charAt_3b067_3 : decode cJ1_charAt_3b067 3 = .ok (.invokestatic 9, 3) := by decide +kernel
theorem dJ1_charAt_3b067_6 : decode cJ1_charAt_3b067 6 = .ok (.aload_n 0, 1) := by decide +kernel
theorem dJ1_charAt_3b067_7 : decode cJ1_charAt_3b067 7 = .ok (.iload_n 1, 1) := by decide +kernel
theorem dJ1_charAt_3b067_8 : decode cJ1_charAt_3b067 8 = .ok (.baload, 1) := by decide +kernel
theorem dJ1_charAt_3b067_9 : decode cJ1_charAt_3b067 9 = .ok (.sipush 255, 3) := by decide +kernel
theorem dJ1_charAt_3b067_12 : decode cJ1_charAt_3b067 12 = .ok (.iand, 1) := by decide +kernel
theorem dJ1_charAt_3b067_13 : decode cJ1_charAt_3b067 13 = .ok (.i2c, 1) := by decide +kernel
theorem dJ1_charAt_3b067_14 : decode cJ1_charAt_3b067 14 = .ok (.ireturn, 1) := by decide +kernel
theorem dJ2_getChar_3b067_0 : decode cJ2_getChar_3b067 0 = .ok (.getstatic 44, 3) := by decide +kernel
theorem dJ2_getChar_3b067_3 : decode cJ2_getChar_3b067 3 = .ok (.ifCond .ne 25, 3) := by decide +kernel
theorem dJ2_getChar_3b067_6 : decode cJ2_getChar_3b067 6 = .ok (.iload_n 1, 1) := by decide +kernel
theorem dJ2_getChar_3b067_7 : decode cJ2_getChar_3b067 7 = .ok (.ifCond .lt 11, 3) := by decide +kernel
theorem dJ2_getChar_3b067_10 : decode cJ2_getChar_3b067 10 = .ok (.iload_n 1, 1) := by decide +kernel
theorem dJ2_getChar_3b067_11 : decode cJ2_getChar_3b067 11 = .ok (.aload_n 0, 1) := by decide +kernel
theorem dJ2_getChar_3b067_12 : decode cJ2_getChar_3b067 12 = .ok (.invokestatic 48, 3) := by decide +kernel
theorem dJ2_getChar_3b067_15 : decode cJ2_getChar_3b067 15 = .ok (.if_icmp .lt 13, 3) := by decide +kernel
theorem dJ2_getChar_3b067_18 : decode cJ2_getChar_3b067 18 = .ok (.new 52, 3) := by decide +kernel
theorem dJ2_getChar_3b067_21 : decode cJ2_getChar_3b067 21 = .ok (.dup, 1) := by decide +kernel
theorem dJ2_getChar_3b067_22 : decode cJ2_getChar_3b067 22 = .ok (.ldc 54, 2) := by decide +kernel
theorem dJ2_getChar_3b067_24 : decode cJ2_getChar_3b067 24 = .ok (.invokespecial 56, 3) := by decide +kernel
theorem dJ2_getChar_3b067_27 : decode cJ2_getChar_3b067 27 = .ok (.athrow, 1) := by decide +kernel
theorem dJ2_getChar_3b067_28 : decode cJ2_getChar_3b067 28 = .ok (.iload_n 1, 1) := by decide +kernel
theorem dJ2_getChar_3b067_29 : decode cJ2_getChar_3b067 29 = .ok (.iconst 1, 1) := by decide +kernel
theorem dJ2_getChar_3b067_30 : decode cJ2_getChar_3b067 30 = .ok (.ishl, 1) := by decide +kernel
theorem dJ2_getChar_3b067_31 : decode cJ2_getChar_3b067 31 = .ok (.istore_n 1, 1) := by decide +kernel
theorem dJ2_getChar_3b067_32 : decode cJ2_getChar_3b067 32 = .ok (.aload_n 0, 1) := by decide +kernel
theorem dJ2_getChar_3b067_33 : decode cJ2_getChar_3b067 33 = .ok (.iload_n 1, 1) := by decide +kernel
theorem dJ2_getChar_3b067_34 : decode cJ2_getChar_3b067 34 = .ok (.iinc 1 1, 3) := by decide +kernel
theorem dJ2_getChar_3b067_37 : decode cJ2_getChar_3b067 37 = .ok (.baload, 1) := by decide +kernel
theorem dJ2_getChar_3b067_38 : decode cJ2_getChar_3b067 38 = .ok (.sipush 255, 3) := by decide +kernel
theorem dJ2_getChar_3b067_41 : decode cJ2_getChar_3b067 41 = .ok (.iand, 1) := by decide +kernel
theorem dJ2_getChar_3b067_42 : decode cJ2_getChar_3b067 42 = .ok (.getstatic 59, 3) := by decide +kernel
theorem dJ2_getChar_3b067_45 : decode cJ2_getChar_3b067 45 = .ok (.ishl, 1) := by decide +kernel
theorem dJ2_getChar_3b067_46 : decode cJ2_getChar_3b067 46 = .ok (.aload_n 0, 1) := by decide +kernel
theorem dJ2_getChar_3b067_47 : decode cJ2_getChar_3b067 47 = .ok (.iload_n 1, 1) := by decide +kernel
theorem dJ2_getChar_3b067_48 : decode cJ2_getChar_3b067 48 = .ok (.baload, 1) := by decide +kernel
theorem dJ2_getChar_3b067_49 : decode cJ2_getChar_3b067 49 = .ok (.sipush 255, 3) := by decide +kernel
theorem dJ2_getChar_3b067_52 : decode cJ2_getChar_3b067 52 = .ok (.iand, 1) := by decide +kernel
theorem dJ2_getChar_3b067_53 : decode cJ2_getChar_3b067 53 = .ok (.getstatic 63, 3) := by decide +kernel
theorem dJ2_getChar_3b067_56 : decode cJ2_getChar_3b067 56 = .ok (.ishl, 1) := by decide +kernel
theorem dJ2_getChar_3b067_57 : decode cJ2_getChar_3b067 57 = .ok (.ior, 1) := by decide +kernel
theorem dJ2_getChar_3b067_58 : decode cJ2_getChar_3b067 58 = .ok (.i2c, 1) := by decide +kernel
theorem dJ2_getChar_3b067_59 : decode cJ2_getChar_3b067 59 = .ok (.ireturn, 1) := by decide +kernel
theorem dJ2_length_9d52b_0 : decode cJ2_length_9d52b 0 = .ok (.aload_n 0, 1) := by decide +kernel
theorem dJ2_length_9d52b_1 : decode cJ2_length_9d52b 1 = .ok (.arraylength, 1) := by decide +kernel
theorem dJ2_length_9d52b_2 : decode cJ2_length_9d52b 2 = .ok (.iconst 1, 1) := by decide +kernel
theorem dJ2_length_9d52b_3 : decode cJ2_length_9d52b 3 = .ok (.ishr, 1) := by decide +kernel
theorem dJ2_length_9d52b_4 : decode cJ2_length_9d52b 4 = .ok (.ireturn, 1) := by decide +kernel
theorem dJ2_charAt_3b067_0 : decode cJ2_charAt_3b067 0 = .ok (.iload_n 1, 1) := by decide +kernel
theorem dJ2_charAt_3b067_1 : decode cJ2_charAt_3b067 1 = .ok (.aload_n 0, 1) := by decide +kernel
theorem dJ2_charAt_3b067_2 : decode cJ2_charAt_3b067 2 = .ok (.invokestatic 67, 3) := by decide +kernel
theorem dJ2_charAt_3b067_5 : decode cJ2_charAt_3b067 5 = .ok (.aload_n 0, 1) := by decide +kernel
theorem dJ2_charAt_3b067_6 : decode cJ2_charAt_3b067 6 = .ok (.iload_n 1, 1) := by decide +kernel
theorem dJ2_charAt_3b067_7 : decode cJ2_charAt_3b067 7 = .ok (.invokestatic 71, 3) := by decide +kernel
theorem dJ2_charAt_3b067_10 : decode cJ2_charAt_3b067 10 = .ok (.ireturn, 1) := by decide +kernel
theorem dJ2_checkIndex_2214a_0 : decode cJ2_checkIndex_2214a 0 = .ok (.iload_n 0, 1) := by decide +kernel
theorem dJ2_checkIndex_2214a_1 : decode cJ2_checkIndex_2214a 1 = .ok (.aload_n 1, 1) := by decide +kernel
theorem dJ2_checkIndex_2214a_2 : decode cJ2_checkIndex_2214a 2 = .ok (.invokestatic 48, 3) := by decide +kernel
theorem dJ2_checkIndex_2214a_5 : decode cJ2_checkIndex_2214a 5 = .ok (.invokestatic 414, 3) := by decide +kernel
theorem dJ2_checkIndex_2214a_8 : decode cJ2_checkIndex_2214a 8 = .ok (.return_, 1) := by decide +kernel
theorem dJ3_checkIndex_8e157_0 : decode cJ3_checkIndex_8e157 0 = .ok (.iload_n 0, 1) := by decide +kernel
theorem dJ3_checkIndex_8e157_1 : decode cJ3_checkIndex_8e157 1 = .ok (.ifCond .lt 8, 3) := by decide +kernel
theorem dJ3_checkIndex_8e157_4 : decode cJ3_checkIndex_8e157 4 = .ok (.iload_n 0, 1) := by decide +kernel
theorem dJ3_checkIndex_8e157_5 : decode cJ3_checkIndex_8e157 5 = .ok (.iload_n 1, 1) := by decide +kernel
theorem dJ3_checkIndex_8e157_6 : decode cJ3_checkIndex_8e157 6 = .ok (.if_icmp .lt 10, 3) := by decide +kernel
theorem dJ3_checkIndex_8e157_9 : decode cJ3_checkIndex_8e157 9 = .ok (.aload_n 2, 1) := by decide +kernel
theorem dJ3_checkIndex_8e157_10 : decode cJ3_checkIndex_8e157 10 = .ok (.iload_n 0, 1) := by decide +kernel
theorem dJ3_checkIndex_8e157_11 : decode cJ3_checkIndex_8e157 11 = .ok (.iload_n 1, 1) := by decide +kernel
theorem dJ3_checkIndex_8e157_12 : decode cJ3_checkIndex_8e157 12 = .ok (.invokestatic 95, 3) := by decide +kernel
theorem dJ3_checkIndex_8e157_15 : decode cJ3_checkIndex_8e157 15 = .ok (.athrow, 1) := by decide +kernel
theorem dJ3_checkIndex_8e157_16 : decode cJ3_checkIndex_8e157 16 = .ok (.iload_n 0, 1) := by decide +kernel
theorem dJ3_checkIndex_8e157_17 : decode cJ3_checkIndex_8e157 17 = .ok (.ireturn, 1) := by decide +kernel
theorem dL_law_0 : decode cL_law 0 = .ok (.new 7, 3) := by decide +kernel
theorem dL_law_3 : decode cL_law 3 = .ok (.dup, 1) := by decide +kernel
theorem dL_law_4 : decode cL_law 4 = .ok (.invokespecial 9, 3) := by decide +kernel
theorem dL_law_7 : decode cL_law 7 = .ok (.astore_n 1, 1) := by decide +kernel
theorem dL_law_8 : decode cL_law 8 = .ok (.new 10, 3) := by decide +kernel
theorem dL_law_11 : decode cL_law 11 = .ok (.dup, 1) := by decide +kernel
theorem dL_law_12 : decode cL_law 12 = .ok (.invokespecial 12, 3) := by decide +kernel
theorem dL_law_15 : decode cL_law 15 = .ok (.astore_n 2, 1) := by decide +kernel
theorem dL_law_16 : decode cL_law 16 = .ok (.iconst 0, 1) := by decide +kernel
theorem dL_law_17 : decode cL_law 17 = .ok (.istore_n 3, 1) := by decide +kernel
theorem dL_law_18 : decode cL_law 18 = .ok (.iload_n 3, 1) := by decide +kernel
theorem dL_law_19 : decode cL_law 19 = .ok (.aload_n 0, 1) := by decide +kernel
theorem dL_law_20 : decode cL_law 20 = .ok (.arraylength, 1) := by decide +kernel
theorem dL_law_21 : decode cL_law 21 = .ok (.iconst 4, 1) := by decide +kernel
theorem dL_law_22 : decode cL_law 22 = .ok (.isub, 1) := by decide +kernel
theorem dL_law_23 : decode cL_law 23 = .ok (.if_icmp .gt 854, 3) := by decide +kernel
theorem dL_law_26 : decode cL_law 26 = .ok (.aload_n 0, 1) := by decide +kernel
theorem dL_law_27 : decode cL_law 27 = .ok (.iload_n 3, 1) := by decide +kernel
theorem dL_law_28 : decode cL_law 28 = .ok (.iaload, 1) := by decide +kernel
theorem dL_law_29 : decode cL_law 29 = .ok (.bipush 31, 2) := by decide +kernel
theorem dL_law_31 : decode cL_law 31 = .ok (.iand, 1) := by decide +kernel
theorem dL_law_32 : decode cL_law 32 = .ok (.tableswitch 839 0 25 #[120, 183, 196, 209, 242, 275, 308, 341, 374, 397, 410, 433, 456, 479, 522, 545, 568, 601, 634, 657, 690, 723, 756, 779, 802, 825], 120) := by decide +kernel
theorem dL_law_152 : decode cL_law 152 = .ok (.aload_n 1, 1) := by decide +kernel
theorem dL_law_153 : decode cL_law 153 = .ok (.aload_n 0, 1) := by decide +kernel
theorem dL_law_154 : decode cL_law 154 = .ok (.iload_n 3, 1) := by decide +kernel
theorem dL_law_155 : decode cL_law 155 = .ok (.iconst 1, 1) := by decide +kernel
theorem dL_law_156 : decode cL_law 156 = .ok (.iadd, 1) := by decide +kernel
theorem dL_law_157 : decode cL_law 157 = .ok (.iaload, 1) := by decide +kernel
theorem dL_law_158 : decode cL_law 158 = .ok (.i2l, 1) := by decide +kernel
theorem dL_law_159 : decode cL_law 159 = .ok (.bipush 32, 2) := by decide +kernel
theorem dL_law_161 : decode cL_law 161 = .ok (.lshl, 1) := by decide +kernel
theorem dL_law_162 : decode cL_law 162 = .ok (.aload_n 0, 1) := by decide +kernel
theorem dL_law_163 : decode cL_law 163 = .ok (.iload_n 3, 1) := by decide +kernel
theorem dL_law_164 : decode cL_law 164 = .ok (.iconst 2, 1) := by decide +kernel
theorem dL_law_165 : decode cL_law 165 = .ok (.iadd, 1) := by decide +kernel
theorem dL_law_166 : decode cL_law 166 = .ok (.iaload, 1) := by decide +kernel
theorem dL_law_167 : decode cL_law 167 = .ok (.i2l, 1) := by decide +kernel
theorem dL_law_168 : decode cL_law 168 = .ok (.ldc2_w 13, 3) := by decide +kernel
theorem dL_law_171 : decode cL_law 171 = .ok (.land, 1) := by decide +kernel
theorem dL_law_172 : decode cL_law 172 = .ok (.lor, 1) := by decide +kernel
theorem dL_law_173 : decode cL_law 173 = .ok (.aload_n 0, 1) := by decide +kernel
theorem dL_law_174 : decode cL_law 174 = .ok (.iload_n 3, 1) := by decide +kernel
theorem dL_law_175 : decode cL_law 175 = .ok (.iconst 3, 1) := by decide +kernel
theorem dL_law_176 : decode cL_law 176 = .ok (.iadd, 1) := by decide +kernel
theorem dL_law_177 : decode cL_law 177 = .ok (.iaload, 1) := by decide +kernel
theorem dL_law_178 : decode cL_law 178 = .ok (.invokevirtual 15, 3) := by decide +kernel
theorem dL_law_181 : decode cL_law 181 = .ok (.aload_n 2, 1) := by decide +kernel
theorem dL_law_182 : decode cL_law 182 = .ok (.aload_n 0, 1) := by decide +kernel
theorem dL_law_183 : decode cL_law 183 = .ok (.iload_n 3, 1) := by decide +kernel
theorem dL_law_184 : decode cL_law 184 = .ok (.iconst 1, 1) := by decide +kernel
theorem dL_law_185 : decode cL_law 185 = .ok (.iadd, 1) := by decide +kernel
theorem dL_law_186 : decode cL_law 186 = .ok (.iaload, 1) := by decide +kernel
theorem dL_law_187 : decode cL_law 187 = .ok (.i2l, 1) := by decide +kernel
theorem dL_law_188 : decode cL_law 188 = .ok (.bipush 32, 2) := by decide +kernel
theorem dL_law_190 : decode cL_law 190 = .ok (.lshl, 1) := by decide +kernel
theorem dL_law_191 : decode cL_law 191 = .ok (.aload_n 0, 1) := by decide +kernel
theorem dL_law_192 : decode cL_law 192 = .ok (.iload_n 3, 1) := by decide +kernel
theorem dL_law_193 : decode cL_law 193 = .ok (.iconst 2, 1) := by decide +kernel
theorem dL_law_194 : decode cL_law 194 = .ok (.iadd, 1) := by decide +kernel
theorem dL_law_195 : decode cL_law 195 = .ok (.iaload, 1) := by decide +kernel
theorem dL_law_196 : decode cL_law 196 = .ok (.i2l, 1) := by decide +kernel
theorem dL_law_197 : decode cL_law 197 = .ok (.ldc2_w 13, 3) := by decide +kernel
theorem dL_law_200 : decode cL_law 200 = .ok (.land, 1) := by decide +kernel
theorem dL_law_201 : decode cL_law 201 = .ok (.lor, 1) := by decide +kernel
theorem dL_law_202 : decode cL_law 202 = .ok (.aload_n 0, 1) := by decide +kernel
theorem dL_law_203 : decode cL_law 203 = .ok (.iload_n 3, 1) := by decide +kernel
theorem dL_law_204 : decode cL_law 204 = .ok (.iconst 3, 1) := by decide +kernel
theorem dL_law_205 : decode cL_law 205 = .ok (.iadd, 1) := by decide +kernel
theorem dL_law_206 : decode cL_law 206 = .ok (.iaload, 1) := by decide +kernel
theorem dL_law_207 : decode cL_law 207 = .ok (.invokevirtual 19, 3) := by decide +kernel
theorem dL_law_210 : decode cL_law 210 = .ok (.if_icmp .eq 661, 3) := by decide +kernel
theorem dL_law_213 : decode cL_law 213 = .ok (.iconst 0, 1) := by decide +kernel
theorem dL_law_214 : decode cL_law 214 = .ok (.ireturn, 1) := by decide +kernel
theorem dL_law_215 : decode cL_law 215 = .ok (.aload_n 1, 1) := by decide +kernel
theorem dL_law_216 : decode cL_law 216 = .ok (.invokevirtual 20, 3) := by decide +kernel
theorem dL_law_219 : decode cL_law 219 = .ok (.aload_n 2, 1) := by decide +kernel
theorem dL_law_220 : decode cL_law 220 = .ok (.invokevirtual 24, 3) := by decide +kernel
theorem dL_law_223 : decode cL_law 223 = .ok (.if_icmp .eq 648, 3) := by decide +kernel
theorem dL_law_226 : decode cL_law 226 = .ok (.iconst 0, 1) := by decide +kernel
theorem dL_law_227 : decode cL_law 227 = .ok (.ireturn, 1) := by decide +kernel
theorem dL_law_228 : decode cL_law 228 = .ok (.aload_n 1, 1) := by decide +kernel
theorem dL_law_229 : decode cL_law 229 = .ok (.invokevirtual 25, 3) := by decide +kernel
theorem dL_law_232 : decode cL_law 232 = .ok (.aload_n 2, 1) := by decide +kernel
theorem dL_law_233 : decode cL_law 233 = .ok (.invokevirtual 28, 3) := by decide +kernel
theorem dL_law_236 : decode cL_law 236 = .ok (.if_icmp .eq 635, 3) := by decide +kernel
theorem dL_law_239 : decode cL_law 239 = .ok (.iconst 0, 1) := by decide +kernel
theorem dL_law_240 : decode cL_law 240 = .ok (.ireturn, 1) := by decide +kernel
theorem dL_law_241 : decode cL_law 241 = .ok (.aload_n 1, 1) := by decide +kernel
theorem dL_law_242 : decode cL_law 242 = .ok (.aload_n 0, 1) := by decide +kernel
theorem dL_law_243 : decode cL_law 243 = .ok (.iload_n 3, 1) := by decide +kernel
theorem dL_law_244 : decode cL_law 244 = .ok (.iconst 1, 1) := by decide +kernel
theorem dL_law_245 : decode cL_law 245 = .ok (.iadd, 1) := by decide +kernel
theorem dL_law_246 : decode cL_law 246 = .ok (.iaload, 1) := by decide +kernel
theorem dL_law_247 : decode cL_law 247 = .ok (.aload_n 0, 1) := by decide +kernel
theorem dL_law_248 : decode cL_law 248 = .ok (.iload_n 3, 1) := by decide +kernel
theorem dL_law_249 : decode cL_law 249 = .ok (.iconst 2, 1) := by decide +kernel
theorem dL_law_250 : decode cL_law 250 = .ok (.iadd, 1) := by decide +kernel
theorem dL_law_251 : decode cL_law 251 = .ok (.iaload, 1) := by decide +kernel
theorem dL_law_252 : decode cL_law 252 = .ok (.invokevirtual 29, 3) := by decide +kernel
theorem dL_law_255 : decode cL_law 255 = .ok (.aload_n 2, 1) := by decide +kernel
theorem dL_law_256 : decode cL_law 256 = .ok (.aload_n 0, 1) := by decide +kernel
theorem dL_law_257 : decode cL_law 257 = .ok (.iload_n 3, 1) := by decide +kernel
theorem dL_law_258 : decode cL_law 258 = .ok (.iconst 1, 1) := by decide +kernel
theorem dL_law_259 : decode cL_law 259 = .ok (.iadd, 1) := by decide +kernel
theorem dL_law_260 : decode cL_law 260 = .ok (.iaload, 1) := by decide +kernel
theorem dL_law_261 : decode cL_law 261 = .ok (.aload_n 0, 1) := by decide +kernel
theorem dL_law_262 : decode cL_law 262 = .ok (.iload_n 3, 1) := by decide +kernel
theorem dL_law_263 : decode cL_law 263 = .ok (.iconst 2, 1) := by decide +kernel
theorem dL_law_264 : decode cL_law 264 = .ok (.iadd, 1) := by decide +kernel
theorem dL_law_265 : decode cL_law 265 = .ok (.iaload, 1) := by decide +kernel
theorem dL_law_266 : decode cL_law 266 = .ok (.invokevirtual 33, 3) := by decide +kernel
theorem dL_law_269 : decode cL_law 269 = .ok (.if_icmp .eq 602, 3) := by decide +kernel
theorem dL_law_272 : decode cL_law 272 = .ok (.iconst 0, 1) := by decide +kernel
theorem dL_law_273 : decode cL_law 273 = .ok (.ireturn, 1) := by decide +kernel
theorem dL_law_274 : decode cL_law 274 = .ok (.aload_n 1, 1) := by decide +kernel
theorem dL_law_275 : decode cL_law 275 = .ok (.aload_n 0, 1) := by decide +kernel
theorem dL_law_276 : decode cL_law 276 = .ok (.iload_n 3, 1) := by decide +kernel
theorem dL_law_277 : decode cL_law 277 = .ok (.iconst 1, 1) := by decide +kernel
theorem dL_law_278 : decode cL_law 278 = .ok (.iadd, 1) := by decide +kernel
theorem dL_law_279 : decode cL_law 279 = .ok (.iaload, 1) := by decide +kernel
theorem dL_law_280 : decode cL_law 280 = .ok (.aload_n 0, 1) := by decide +kernel
theorem dL_law_281 : decode cL_law 281 = .ok (.iload_n 3, 1) := by decide +kernel
theorem dL_law_282 : decode cL_law 282 = .ok (.iconst 2, 1) := by decide +kernel
theorem dL_law_283 : decode cL_law 283 = .ok (.iadd, 1) := by decide +kernel
theorem dL_law_284 : decode cL_law 284 = .ok (.iaload, 1) := by decide +kernel
theorem dL_law_285 : decode cL_law 285 = .ok (.invokevirtual 34, 3) := by decide +kernel
theorem dL_law_288 : decode cL_law 288 = .ok (.aload_n 2, 1) := by decide +kernel
theorem dL_law_289 : decode cL_law 289 = .ok (.aload_n 0, 1) := by decide +kernel
theorem dL_law_290 : decode cL_law 290 = .ok (.iload_n 3, 1) := by decide +kernel
theorem dL_law_291 : decode cL_law 291 = .ok (.iconst 1, 1) := by decide +kernel
theorem dL_law_292 : decode cL_law 292 = .ok (.iadd, 1) := by decide +kernel
theorem dL_law_293 : decode cL_law 293 = .ok (.iaload, 1) := by decide +kernel
theorem dL_law_294 : decode cL_law 294 = .ok (.aload_n 0, 1) := by decide +kernel
theorem dL_law_295 : decode cL_law 295 = .ok (.iload_n 3, 1) := by decide +kernel
theorem dL_law_296 : decode cL_law 296 = .ok (.iconst 2, 1) := by decide +kernel
theorem dL_law_297 : decode cL_law 297 = .ok (.iadd, 1) := by decide +kernel
theorem dL_law_298 : decode cL_law 298 = .ok (.iaload, 1) := by decide +kernel
theorem dL_law_299 : decode cL_law 299 = .ok (.invokevirtual 37, 3) := by decide +kernel
theorem dL_law_302 : decode cL_law 302 = .ok (.if_icmp .eq 569, 3) := by decide +kernel
theorem dL_law_305 : decode cL_law 305 = .ok (.iconst 0, 1) := by decide +kernel
theorem dL_law_306 : decode cL_law 306 = .ok (.ireturn, 1) := by decide +kernel
theorem dL_law_307 : decode cL_law 307 = .ok (.aload_n 1, 1) := by decide +kernel
theorem dL_law_308 : decode cL_law 308 = .ok (.aload_n 0, 1) := by decide +kernel
theorem dL_law_309 : decode cL_law 309 = .ok (.iload_n 3, 1) := by decide +kernel
theorem dL_law_310 : decode cL_law 310 = .ok (.iconst 1, 1) := by decide +kernel
theorem dL_law_311 : decode cL_law 311 = .ok (.iadd, 1) := by decide +kernel
theorem dL_law_312 : decode cL_law 312 = .ok (.iaload, 1) := by decide +kernel
theorem dL_law_313 : decode cL_law 313 = .ok (.aload_n 0, 1) := by decide +kernel
theorem dL_law_314 : decode cL_law 314 = .ok (.iload_n 3, 1) := by decide +kernel
theorem dL_law_315 : decode cL_law 315 = .ok (.iconst 2, 1) := by decide +kernel
theorem dL_law_316 : decode cL_law 316 = .ok (.iadd, 1) := by decide +kernel
theorem dL_law_317 : decode cL_law 317 = .ok (.iaload, 1) := by decide +kernel
theorem dL_law_318 : decode cL_law 318 = .ok (.invokevirtual 38, 3) := by decide +kernel
theorem dL_law_321 : decode cL_law 321 = .ok (.aload_n 2, 1) := by decide +kernel
theorem dL_law_322 : decode cL_law 322 = .ok (.aload_n 0, 1) := by decide +kernel
theorem dL_law_323 : decode cL_law 323 = .ok (.iload_n 3, 1) := by decide +kernel
theorem dL_law_324 : decode cL_law 324 = .ok (.iconst 1, 1) := by decide +kernel
theorem dL_law_325 : decode cL_law 325 = .ok (.iadd, 1) := by decide +kernel
theorem dL_law_326 : decode cL_law 326 = .ok (.iaload, 1) := by decide +kernel
theorem dL_law_327 : decode cL_law 327 = .ok (.aload_n 0, 1) := by decide +kernel
theorem dL_law_328 : decode cL_law 328 = .ok (.iload_n 3, 1) := by decide +kernel
theorem dL_law_329 : decode cL_law 329 = .ok (.iconst 2, 1) := by decide +kernel
theorem dL_law_330 : decode cL_law 330 = .ok (.iadd, 1) := by decide +kernel
theorem dL_law_331 : decode cL_law 331 = .ok (.iaload, 1) := by decide +kernel
theorem dL_law_332 : decode cL_law 332 = .ok (.invokevirtual 41, 3) := by decide +kernel
theorem dL_law_335 : decode cL_law 335 = .ok (.if_icmp .eq 536, 3) := by decide +kernel
theorem dL_law_338 : decode cL_law 338 = .ok (.iconst 0, 1) := by decide +kernel
theorem dL_law_339 : decode cL_law 339 = .ok (.ireturn, 1) := by decide +kernel
theorem dL_law_340 : decode cL_law 340 = .ok (.aload_n 1, 1) := by decide +kernel
theorem dL_law_341 : decode cL_law 341 = .ok (.aload_n 0, 1) := by decide +kernel
theorem dL_law_342 : decode cL_law 342 = .ok (.iload_n 3, 1) := by decide +kernel
theorem dL_law_343 : decode cL_law 343 = .ok (.iconst 1, 1) := by decide +kernel
theorem dL_law_344 : decode cL_law 344 = .ok (.iadd, 1) := by decide +kernel
theorem dL_law_345 : decode cL_law 345 = .ok (.iaload, 1) := by decide +kernel
theorem dL_law_346 : decode cL_law 346 = .ok (.aload_n 0, 1) := by decide +kernel
theorem dL_law_347 : decode cL_law 347 = .ok (.iload_n 3, 1) := by decide +kernel
theorem dL_law_348 : decode cL_law 348 = .ok (.iconst 2, 1) := by decide +kernel
theorem dL_law_349 : decode cL_law 349 = .ok (.iadd, 1) := by decide +kernel
theorem dL_law_350 : decode cL_law 350 = .ok (.iaload, 1) := by decide +kernel
theorem dL_law_351 : decode cL_law 351 = .ok (.invokevirtual 42, 3) := by decide +kernel
theorem dL_law_354 : decode cL_law 354 = .ok (.aload_n 2, 1) := by decide +kernel
theorem dL_law_355 : decode cL_law 355 = .ok (.aload_n 0, 1) := by decide +kernel
theorem dL_law_356 : decode cL_law 356 = .ok (.iload_n 3, 1) := by decide +kernel
theorem dL_law_357 : decode cL_law 357 = .ok (.iconst 1, 1) := by decide +kernel
theorem dL_law_358 : decode cL_law 358 = .ok (.iadd, 1) := by decide +kernel
theorem dL_law_359 : decode cL_law 359 = .ok (.iaload, 1) := by decide +kernel
theorem dL_law_360 : decode cL_law 360 = .ok (.aload_n 0, 1) := by decide +kernel
theorem dL_law_361 : decode cL_law 361 = .ok (.iload_n 3, 1) := by decide +kernel
theorem dL_law_362 : decode cL_law 362 = .ok (.iconst 2, 1) := by decide +kernel
theorem dL_law_363 : decode cL_law 363 = .ok (.iadd, 1) := by decide +kernel
theorem dL_law_364 : decode cL_law 364 = .ok (.iaload, 1) := by decide +kernel
theorem dL_law_365 : decode cL_law 365 = .ok (.invokevirtual 45, 3) := by decide +kernel
theorem dL_law_368 : decode cL_law 368 = .ok (.if_icmp .eq 503, 3) := by decide +kernel
theorem dL_law_371 : decode cL_law 371 = .ok (.iconst 0, 1) := by decide +kernel
theorem dL_law_372 : decode cL_law 372 = .ok (.ireturn, 1) := by decide +kernel
theorem dL_law_373 : decode cL_law 373 = .ok (.aload_n 1, 1) := by decide +kernel
theorem dL_law_374 : decode cL_law 374 = .ok (.aload_n 0, 1) := by decide +kernel
theorem dL_law_375 : decode cL_law 375 = .ok (.iload_n 3, 1) := by decide +kernel
theorem dL_law_376 : decode cL_law 376 = .ok (.iconst 1, 1) := by decide +kernel
theorem dL_law_377 : decode cL_law 377 = .ok (.iadd, 1) := by decide +kernel
theorem dL_law_378 : decode cL_law 378 = .ok (.iaload, 1) := by decide +kernel
theorem dL_law_379 : decode cL_law 379 = .ok (.aload_n 0, 1) := by decide +kernel
theorem dL_law_380 : decode cL_law 380 = .ok (.iload_n 3, 1) := by decide +kernel
theorem dL_law_381 : decode cL_law 381 = .ok (.iconst 2, 1) := by decide +kernel
theorem dL_law_382 : decode cL_law 382 = .ok (.iadd, 1) := by decide +kernel
theorem dL_law_383 : decode cL_law 383 = .ok (.iaload, 1) := by decide +kernel
theorem dL_law_384 : decode cL_law 384 = .ok (.invokevirtual 46, 3) := by decide +kernel
theorem dL_law_387 : decode cL_law 387 = .ok (.aload_n 2, 1) := by decide +kernel
theorem dL_law_388 : decode cL_law 388 = .ok (.aload_n 0, 1) := by decide +kernel
theorem dL_law_389 : decode cL_law 389 = .ok (.iload_n 3, 1) := by decide +kernel
theorem dL_law_390 : decode cL_law 390 = .ok (.iconst 1, 1) := by decide +kernel
theorem dL_law_391 : decode cL_law 391 = .ok (.iadd, 1) := by decide +kernel
theorem dL_law_392 : decode cL_law 392 = .ok (.iaload, 1) := by decide +kernel
theorem dL_law_393 : decode cL_law 393 = .ok (.aload_n 0, 1) := by decide +kernel
theorem dL_law_394 : decode cL_law 394 = .ok (.iload_n 3, 1) := by decide +kernel
theorem dL_law_395 : decode cL_law 395 = .ok (.iconst 2, 1) := by decide +kernel
theorem dL_law_396 : decode cL_law 396 = .ok (.iadd, 1) := by decide +kernel
theorem dL_law_397 : decode cL_law 397 = .ok (.iaload, 1) := by decide +kernel
theorem dL_law_398 : decode cL_law 398 = .ok (.invokevirtual 49, 3) := by decide +kernel
theorem dL_law_401 : decode cL_law 401 = .ok (.if_icmp .eq 470, 3) := by decide +kernel
theorem dL_law_404 : decode cL_law 404 = .ok (.iconst 0, 1) := by decide +kernel
theorem dL_law_405 : decode cL_law 405 = .ok (.ireturn, 1) := by decide +kernel
theorem dL_law_406 : decode cL_law 406 = .ok (.aload_n 1, 1) := by decide +kernel
theorem dL_law_407 : decode cL_law 407 = .ok (.aload_n 0, 1) := by decide +kernel
theorem dL_law_408 : decode cL_law 408 = .ok (.iload_n 3, 1) := by decide +kernel
theorem dL_law_409 : decode cL_law 409 = .ok (.iconst 1, 1) := by decide +kernel
theorem dL_law_410 : decode cL_law 410 = .ok (.iadd, 1) := by decide +kernel
theorem dL_law_411 : decode cL_law 411 = .ok (.iaload, 1) := by decide +kernel
theorem dL_law_412 : decode cL_law 412 = .ok (.invokevirtual 50, 3) := by decide +kernel
theorem dL_law_415 : decode cL_law 415 = .ok (.aload_n 2, 1) := by decide +kernel
theorem dL_law_416 : decode cL_law 416 = .ok (.aload_n 0, 1) := by decide +kernel
theorem dL_law_417 : decode cL_law 417 = .ok (.iload_n 3, 1) := by decide +kernel
theorem dL_law_418 : decode cL_law 418 = .ok (.iconst 1, 1) := by decide +kernel
theorem dL_law_419 : decode cL_law 419 = .ok (.iadd, 1) := by decide +kernel
theorem dL_law_420 : decode cL_law 420 = .ok (.iaload, 1) := by decide +kernel
theorem dL_law_421 : decode cL_law 421 = .ok (.invokevirtual 54, 3) := by decide +kernel
theorem dL_law_424 : decode cL_law 424 = .ok (.if_icmp .eq 447, 3) := by decide +kernel
theorem dL_law_427 : decode cL_law 427 = .ok (.iconst 0, 1) := by decide +kernel
theorem dL_law_428 : decode cL_law 428 = .ok (.ireturn, 1) := by decide +kernel
theorem dL_law_429 : decode cL_law 429 = .ok (.aload_n 1, 1) := by decide +kernel
theorem dL_law_430 : decode cL_law 430 = .ok (.invokevirtual 55, 3) := by decide +kernel
theorem dL_law_433 : decode cL_law 433 = .ok (.aload_n 2, 1) := by decide +kernel
theorem dL_law_434 : decode cL_law 434 = .ok (.invokevirtual 58, 3) := by decide +kernel
theorem dL_law_437 : decode cL_law 437 = .ok (.if_icmp .eq 434, 3) := by decide +kernel
theorem dL_law_440 : decode cL_law 440 = .ok (.iconst 0, 1) := by decide +kernel
theorem dL_law_441 : decode cL_law 441 = .ok (.ireturn, 1) := by decide +kernel
theorem dL_law_442 : decode cL_law 442 = .ok (.aload_n 1, 1) := by decide +kernel
theorem dL_law_443 : decode cL_law 443 = .ok (.aload_n 0, 1) := by decide +kernel
theorem dL_law_444 : decode cL_law 444 = .ok (.iload_n 3, 1) := by decide +kernel
theorem dL_law_445 : decode cL_law 445 = .ok (.iconst 1, 1) := by decide +kernel
theorem dL_law_446 : decode cL_law 446 = .ok (.iadd, 1) := by decide +kernel
theorem dL_law_447 : decode cL_law 447 = .ok (.iaload, 1) := by decide +kernel
theorem dL_law_448 : decode cL_law 448 = .ok (.invokevirtual 59, 3) := by decide +kernel
theorem dL_law_451 : decode cL_law 451 = .ok (.aload_n 2, 1) := by decide +kernel
theorem dL_law_452 : decode cL_law 452 = .ok (.aload_n 0, 1) := by decide +kernel
theorem dL_law_453 : decode cL_law 453 = .ok (.iload_n 3, 1) := by decide +kernel
theorem dL_law_454 : decode cL_law 454 = .ok (.iconst 1, 1) := by decide +kernel
theorem dL_law_455 : decode cL_law 455 = .ok (.iadd, 1) := by decide +kernel
theorem dL_law_456 : decode cL_law 456 = .ok (.iaload, 1) := by decide +kernel
theorem dL_law_457 : decode cL_law 457 = .ok (.invokevirtual 62, 3) := by decide +kernel
theorem dL_law_460 : decode cL_law 460 = .ok (.if_icmp .eq 411, 3) := by decide +kernel
theorem dL_law_463 : decode cL_law 463 = .ok (.iconst 0, 1) := by decide +kernel
theorem dL_law_464 : decode cL_law 464 = .ok (.ireturn, 1) := by decide +kernel
theorem dL_law_465 : decode cL_law 465 = .ok (.aload_n 1, 1) := by decide +kernel
theorem dL_law_466 : decode cL_law 466 = .ok (.aload_n 0, 1) := by decide +kernel
theorem dL_law_467 : decode cL_law 467 = .ok (.iload_n 3, 1) := by decide +kernel
theorem dL_law_468 : decode cL_law 468 = .ok (.iconst 1, 1) := by decide +kernel
theorem dL_law_469 : decode cL_law 469 = .ok (.iadd, 1) := by decide +kernel
theorem dL_law_470 : decode cL_law 470 = .ok (.iaload, 1) := by decide +kernel
theorem dL_law_471 : decode cL_law 471 = .ok (.invokevirtual 63, 3) := by decide +kernel
theorem dL_law_474 : decode cL_law 474 = .ok (.aload_n 2, 1) := by decide +kernel
theorem dL_law_475 : decode cL_law 475 = .ok (.aload_n 0, 1) := by decide +kernel
theorem dL_law_476 : decode cL_law 476 = .ok (.iload_n 3, 1) := by decide +kernel
theorem dL_law_477 : decode cL_law 477 = .ok (.iconst 1, 1) := by decide +kernel
theorem dL_law_478 : decode cL_law 478 = .ok (.iadd, 1) := by decide +kernel
theorem dL_law_479 : decode cL_law 479 = .ok (.iaload, 1) := by decide +kernel
theorem dL_law_480 : decode cL_law 480 = .ok (.invokevirtual 66, 3) := by decide +kernel
theorem dL_law_483 : decode cL_law 483 = .ok (.if_icmp .eq 388, 3) := by decide +kernel
theorem dL_law_486 : decode cL_law 486 = .ok (.iconst 0, 1) := by decide +kernel
theorem dL_law_487 : decode cL_law 487 = .ok (.ireturn, 1) := by decide +kernel
theorem dL_law_488 : decode cL_law 488 = .ok (.aload_n 1, 1) := by decide +kernel
theorem dL_law_489 : decode cL_law 489 = .ok (.aload_n 0, 1) := by decide +kernel
theorem dL_law_490 : decode cL_law 490 = .ok (.iload_n 3, 1) := by decide +kernel
theorem dL_law_491 : decode cL_law 491 = .ok (.iconst 1, 1) := by decide +kernel
theorem dL_law_492 : decode cL_law 492 = .ok (.iadd, 1) := by decide +kernel
theorem dL_law_493 : decode cL_law 493 = .ok (.iaload, 1) := by decide +kernel
theorem dL_law_494 : decode cL_law 494 = .ok (.invokevirtual 67, 3) := by decide +kernel
theorem dL_law_497 : decode cL_law 497 = .ok (.aload_n 2, 1) := by decide +kernel
theorem dL_law_498 : decode cL_law 498 = .ok (.aload_n 0, 1) := by decide +kernel
theorem dL_law_499 : decode cL_law 499 = .ok (.iload_n 3, 1) := by decide +kernel
theorem dL_law_500 : decode cL_law 500 = .ok (.iconst 1, 1) := by decide +kernel
theorem dL_law_501 : decode cL_law 501 = .ok (.iadd, 1) := by decide +kernel
theorem dL_law_502 : decode cL_law 502 = .ok (.iaload, 1) := by decide +kernel
theorem dL_law_503 : decode cL_law 503 = .ok (.invokevirtual 70, 3) := by decide +kernel
theorem dL_law_506 : decode cL_law 506 = .ok (.if_icmp .eq 365, 3) := by decide +kernel
theorem dL_law_509 : decode cL_law 509 = .ok (.iconst 0, 1) := by decide +kernel
theorem dL_law_510 : decode cL_law 510 = .ok (.ireturn, 1) := by decide +kernel
theorem dL_law_511 : decode cL_law 511 = .ok (.aload_n 1, 1) := by decide +kernel
theorem dL_law_512 : decode cL_law 512 = .ok (.aload_n 0, 1) := by decide +kernel
theorem dL_law_513 : decode cL_law 513 = .ok (.iload_n 3, 1) := by decide +kernel
theorem dL_law_514 : decode cL_law 514 = .ok (.iconst 1, 1) := by decide +kernel
theorem dL_law_515 : decode cL_law 515 = .ok (.iadd, 1) := by decide +kernel
theorem dL_law_516 : decode cL_law 516 = .ok (.iaload, 1) := by decide +kernel
theorem dL_law_517 : decode cL_law 517 = .ok (.aload_n 0, 1) := by decide +kernel
theorem dL_law_518 : decode cL_law 518 = .ok (.iload_n 3, 1) := by decide +kernel
theorem dL_law_519 : decode cL_law 519 = .ok (.iconst 2, 1) := by decide +kernel
theorem dL_law_520 : decode cL_law 520 = .ok (.iadd, 1) := by decide +kernel
theorem dL_law_521 : decode cL_law 521 = .ok (.iaload, 1) := by decide +kernel
theorem dL_law_522 : decode cL_law 522 = .ok (.aload_n 0, 1) := by decide +kernel
theorem dL_law_523 : decode cL_law 523 = .ok (.iload_n 3, 1) := by decide +kernel
theorem dL_law_524 : decode cL_law 524 = .ok (.iconst 3, 1) := by decide +kernel
theorem dL_law_525 : decode cL_law 525 = .ok (.iadd, 1) := by decide +kernel
theorem dL_law_526 : decode cL_law 526 = .ok (.iaload, 1) := by decide +kernel
theorem dL_law_527 : decode cL_law 527 = .ok (.invokevirtual 71, 3) := by decide +kernel
theorem dL_law_530 : decode cL_law 530 = .ok (.aload_n 2, 1) := by decide +kernel
theorem dL_law_531 : decode cL_law 531 = .ok (.aload_n 0, 1) := by decide +kernel
theorem dL_law_532 : decode cL_law 532 = .ok (.iload_n 3, 1) := by decide +kernel
theorem dL_law_533 : decode cL_law 533 = .ok (.iconst 1, 1) := by decide +kernel
theorem dL_law_534 : decode cL_law 534 = .ok (.iadd, 1) := by decide +kernel
theorem dL_law_535 : decode cL_law 535 = .ok (.iaload, 1) := by decide +kernel
theorem dL_law_536 : decode cL_law 536 = .ok (.aload_n 0, 1) := by decide +kernel
theorem dL_law_537 : decode cL_law 537 = .ok (.iload_n 3, 1) := by decide +kernel
theorem dL_law_538 : decode cL_law 538 = .ok (.iconst 2, 1) := by decide +kernel
theorem dL_law_539 : decode cL_law 539 = .ok (.iadd, 1) := by decide +kernel
theorem dL_law_540 : decode cL_law 540 = .ok (.iaload, 1) := by decide +kernel
theorem dL_law_541 : decode cL_law 541 = .ok (.aload_n 0, 1) := by decide +kernel
theorem dL_law_542 : decode cL_law 542 = .ok (.iload_n 3, 1) := by decide +kernel
theorem dL_law_543 : decode cL_law 543 = .ok (.iconst 3, 1) := by decide +kernel
theorem dL_law_544 : decode cL_law 544 = .ok (.iadd, 1) := by decide +kernel
theorem dL_law_545 : decode cL_law 545 = .ok (.iaload, 1) := by decide +kernel
theorem dL_law_546 : decode cL_law 546 = .ok (.invokevirtual 75, 3) := by decide +kernel
theorem dL_law_549 : decode cL_law 549 = .ok (.if_icmp .eq 322, 3) := by decide +kernel
theorem dL_law_552 : decode cL_law 552 = .ok (.iconst 0, 1) := by decide +kernel
theorem dL_law_553 : decode cL_law 553 = .ok (.ireturn, 1) := by decide +kernel
theorem dL_law_554 : decode cL_law 554 = .ok (.aload_n 1, 1) := by decide +kernel
theorem dL_law_555 : decode cL_law 555 = .ok (.aload_n 0, 1) := by decide +kernel
theorem dL_law_556 : decode cL_law 556 = .ok (.iload_n 3, 1) := by decide +kernel
theorem dL_law_557 : decode cL_law 557 = .ok (.iconst 1, 1) := by decide +kernel
theorem dL_law_558 : decode cL_law 558 = .ok (.iadd, 1) := by decide +kernel
theorem dL_law_559 : decode cL_law 559 = .ok (.iaload, 1) := by decide +kernel
theorem dL_law_560 : decode cL_law 560 = .ok (.invokevirtual 76, 3) := by decide +kernel
theorem dL_law_563 : decode cL_law 563 = .ok (.aload_n 2, 1) := by decide +kernel
theorem dL_law_564 : decode cL_law 564 = .ok (.aload_n 0, 1) := by decide +kernel
theorem dL_law_565 : decode cL_law 565 = .ok (.iload_n 3, 1) := by decide +kernel
theorem dL_law_566 : decode cL_law 566 = .ok (.iconst 1, 1) := by decide +kernel
theorem dL_law_567 : decode cL_law 567 = .ok (.iadd, 1) := by decide +kernel
theorem dL_law_568 : decode cL_law 568 = .ok (.iaload, 1) := by decide +kernel
theorem dL_law_569 : decode cL_law 569 = .ok (.invokevirtual 79, 3) := by decide +kernel
theorem dL_law_572 : decode cL_law 572 = .ok (.if_icmp .eq 299, 3) := by decide +kernel
theorem dL_law_575 : decode cL_law 575 = .ok (.iconst 0, 1) := by decide +kernel
theorem dL_law_576 : decode cL_law 576 = .ok (.ireturn, 1) := by decide +kernel
theorem dL_law_577 : decode cL_law 577 = .ok (.aload_n 1, 1) := by decide +kernel
theorem dL_law_578 : decode cL_law 578 = .ok (.aload_n 0, 1) := by decide +kernel
theorem dL_law_579 : decode cL_law 579 = .ok (.iload_n 3, 1) := by decide +kernel
theorem dL_law_580 : decode cL_law 580 = .ok (.iconst 1, 1) := by decide +kernel
theorem dL_law_581 : decode cL_law 581 = .ok (.iadd, 1) := by decide +kernel
theorem dL_law_582 : decode cL_law 582 = .ok (.iaload, 1) := by decide +kernel
theorem dL_law_583 : decode cL_law 583 = .ok (.invokevirtual 80, 3) := by decide +kernel
theorem dL_law_586 : decode cL_law 586 = .ok (.aload_n 2, 1) := by decide +kernel
theorem dL_law_587 : decode cL_law 587 = .ok (.aload_n 0, 1) := by decide +kernel
theorem dL_law_588 : decode cL_law 588 = .ok (.iload_n 3, 1) := by decide +kernel
theorem dL_law_589 : decode cL_law 589 = .ok (.iconst 1, 1) := by decide +kernel
theorem dL_law_590 : decode cL_law 590 = .ok (.iadd, 1) := by decide +kernel
theorem dL_law_591 : decode cL_law 591 = .ok (.iaload, 1) := by decide +kernel
theorem dL_law_592 : decode cL_law 592 = .ok (.invokevirtual 83, 3) := by decide +kernel
theorem dL_law_595 : decode cL_law 595 = .ok (.if_icmp .eq 276, 3) := by decide +kernel
theorem dL_law_598 : decode cL_law 598 = .ok (.iconst 0, 1) := by decide +kernel
theorem dL_law_599 : decode cL_law 599 = .ok (.ireturn, 1) := by decide +kernel
theorem dL_law_600 : decode cL_law 600 = .ok (.aload_n 1, 1) := by decide +kernel
theorem dL_law_601 : decode cL_law 601 = .ok (.aload_n 0, 1) := by decide +kernel
theorem dL_law_602 : decode cL_law 602 = .ok (.iload_n 3, 1) := by decide +kernel
theorem dL_law_603 : decode cL_law 603 = .ok (.iconst 1, 1) := by decide +kernel
theorem dL_law_604 : decode cL_law 604 = .ok (.iadd, 1) := by decide +kernel
theorem dL_law_605 : decode cL_law 605 = .ok (.iaload, 1) := by decide +kernel
theorem dL_law_606 : decode cL_law 606 = .ok (.aload_n 0, 1) := by decide +kernel
theorem dL_law_607 : decode cL_law 607 = .ok (.iload_n 3, 1) := by decide +kernel
theorem dL_law_608 : decode cL_law 608 = .ok (.iconst 2, 1) := by decide +kernel
theorem dL_law_609 : decode cL_law 609 = .ok (.iadd, 1) := by decide +kernel
theorem dL_law_610 : decode cL_law 610 = .ok (.iaload, 1) := by decide +kernel
theorem dL_law_611 : decode cL_law 611 = .ok (.invokevirtual 84, 3) := by decide +kernel
theorem dL_law_614 : decode cL_law 614 = .ok (.aload_n 2, 1) := by decide +kernel
theorem dL_law_615 : decode cL_law 615 = .ok (.aload_n 0, 1) := by decide +kernel
theorem dL_law_616 : decode cL_law 616 = .ok (.iload_n 3, 1) := by decide +kernel
theorem dL_law_617 : decode cL_law 617 = .ok (.iconst 1, 1) := by decide +kernel
theorem dL_law_618 : decode cL_law 618 = .ok (.iadd, 1) := by decide +kernel
theorem dL_law_619 : decode cL_law 619 = .ok (.iaload, 1) := by decide +kernel
theorem dL_law_620 : decode cL_law 620 = .ok (.aload_n 0, 1) := by decide +kernel
theorem dL_law_621 : decode cL_law 621 = .ok (.iload_n 3, 1) := by decide +kernel
theorem dL_law_622 : decode cL_law 622 = .ok (.iconst 2, 1) := by decide +kernel
theorem dL_law_623 : decode cL_law 623 = .ok (.iadd, 1) := by decide +kernel
theorem dL_law_624 : decode cL_law 624 = .ok (.iaload, 1) := by decide +kernel
theorem dL_law_625 : decode cL_law 625 = .ok (.invokevirtual 87, 3) := by decide +kernel
theorem dL_law_628 : decode cL_law 628 = .ok (.if_icmp .eq 243, 3) := by decide +kernel
theorem dL_law_631 : decode cL_law 631 = .ok (.iconst 0, 1) := by decide +kernel
theorem dL_law_632 : decode cL_law 632 = .ok (.ireturn, 1) := by decide +kernel
theorem dL_law_633 : decode cL_law 633 = .ok (.aload_n 1, 1) := by decide +kernel
theorem dL_law_634 : decode cL_law 634 = .ok (.aload_n 0, 1) := by decide +kernel
theorem dL_law_635 : decode cL_law 635 = .ok (.iload_n 3, 1) := by decide +kernel
theorem dL_law_636 : decode cL_law 636 = .ok (.iconst 1, 1) := by decide +kernel
theorem dL_law_637 : decode cL_law 637 = .ok (.iadd, 1) := by decide +kernel
theorem dL_law_638 : decode cL_law 638 = .ok (.iaload, 1) := by decide +kernel
theorem dL_law_639 : decode cL_law 639 = .ok (.aload_n 0, 1) := by decide +kernel
theorem dL_law_640 : decode cL_law 640 = .ok (.iload_n 3, 1) := by decide +kernel
theorem dL_law_641 : decode cL_law 641 = .ok (.iconst 2, 1) := by decide +kernel
theorem dL_law_642 : decode cL_law 642 = .ok (.iadd, 1) := by decide +kernel
theorem dL_law_643 : decode cL_law 643 = .ok (.iaload, 1) := by decide +kernel
theorem dL_law_644 : decode cL_law 644 = .ok (.invokevirtual 88, 3) := by decide +kernel
theorem dL_law_647 : decode cL_law 647 = .ok (.aload_n 2, 1) := by decide +kernel
theorem dL_law_648 : decode cL_law 648 = .ok (.aload_n 0, 1) := by decide +kernel
theorem dL_law_649 : decode cL_law 649 = .ok (.iload_n 3, 1) := by decide +kernel
theorem dL_law_650 : decode cL_law 650 = .ok (.iconst 1, 1) := by decide +kernel
theorem dL_law_651 : decode cL_law 651 = .ok (.iadd, 1) := by decide +kernel
theorem dL_law_652 : decode cL_law 652 = .ok (.iaload, 1) := by decide +kernel
theorem dL_law_653 : decode cL_law 653 = .ok (.aload_n 0, 1) := by decide +kernel
theorem dL_law_654 : decode cL_law 654 = .ok (.iload_n 3, 1) := by decide +kernel
theorem dL_law_655 : decode cL_law 655 = .ok (.iconst 2, 1) := by decide +kernel
theorem dL_law_656 : decode cL_law 656 = .ok (.iadd, 1) := by decide +kernel
theorem dL_law_657 : decode cL_law 657 = .ok (.iaload, 1) := by decide +kernel
theorem dL_law_658 : decode cL_law 658 = .ok (.invokevirtual 91, 3) := by decide +kernel
theorem dL_law_661 : decode cL_law 661 = .ok (.if_icmp .eq 210, 3) := by decide +kernel
theorem dL_law_664 : decode cL_law 664 = .ok (.iconst 0, 1) := by decide +kernel
theorem dL_law_665 : decode cL_law 665 = .ok (.ireturn, 1) := by decide +kernel
theorem dL_law_666 : decode cL_law 666 = .ok (.aload_n 1, 1) := by decide +kernel
theorem dL_law_667 : decode cL_law 667 = .ok (.aload_n 0, 1) := by decide +kernel
theorem dL_law_668 : decode cL_law 668 = .ok (.iload_n 3, 1) := by decide +kernel
theorem dL_law_669 : decode cL_law 669 = .ok (.iconst 1, 1) := by decide +kernel
theorem dL_law_670 : decode cL_law 670 = .ok (.iadd, 1) := by decide +kernel
theorem dL_law_671 : decode cL_law 671 = .ok (.iaload, 1) := by decide +kernel
theorem dL_law_672 : decode cL_law 672 = .ok (.invokevirtual 92, 3) := by decide +kernel
theorem dL_law_675 : decode cL_law 675 = .ok (.aload_n 2, 1) := by decide +kernel
theorem dL_law_676 : decode cL_law 676 = .ok (.aload_n 0, 1) := by decide +kernel
theorem dL_law_677 : decode cL_law 677 = .ok (.iload_n 3, 1) := by decide +kernel
theorem dL_law_678 : decode cL_law 678 = .ok (.iconst 1, 1) := by decide +kernel
theorem dL_law_679 : decode cL_law 679 = .ok (.iadd, 1) := by decide +kernel
theorem dL_law_680 : decode cL_law 680 = .ok (.iaload, 1) := by decide +kernel
theorem dL_law_681 : decode cL_law 681 = .ok (.invokevirtual 95, 3) := by decide +kernel
theorem dL_law_684 : decode cL_law 684 = .ok (.if_icmp .eq 187, 3) := by decide +kernel
theorem dL_law_687 : decode cL_law 687 = .ok (.iconst 0, 1) := by decide +kernel
theorem dL_law_688 : decode cL_law 688 = .ok (.ireturn, 1) := by decide +kernel
theorem dL_law_689 : decode cL_law 689 = .ok (.aload_n 1, 1) := by decide +kernel
theorem dL_law_690 : decode cL_law 690 = .ok (.aload_n 0, 1) := by decide +kernel
theorem dL_law_691 : decode cL_law 691 = .ok (.iload_n 3, 1) := by decide +kernel
theorem dL_law_692 : decode cL_law 692 = .ok (.iconst 1, 1) := by decide +kernel
theorem dL_law_693 : decode cL_law 693 = .ok (.iadd, 1) := by decide +kernel
theorem dL_law_694 : decode cL_law 694 = .ok (.iaload, 1) := by decide +kernel
theorem dL_law_695 : decode cL_law 695 = .ok (.aload_n 0, 1) := by decide +kernel
theorem dL_law_696 : decode cL_law 696 = .ok (.iload_n 3, 1) := by decide +kernel
theorem dL_law_697 : decode cL_law 697 = .ok (.iconst 2, 1) := by decide +kernel
theorem dL_law_698 : decode cL_law 698 = .ok (.iadd, 1) := by decide +kernel
theorem dL_law_699 : decode cL_law 699 = .ok (.iaload, 1) := by decide +kernel
theorem dL_law_700 : decode cL_law 700 = .ok (.invokevirtual 96, 3) := by decide +kernel
theorem dL_law_703 : decode cL_law 703 = .ok (.aload_n 2, 1) := by decide +kernel
theorem dL_law_704 : decode cL_law 704 = .ok (.aload_n 0, 1) := by decide +kernel
theorem dL_law_705 : decode cL_law 705 = .ok (.iload_n 3, 1) := by decide +kernel
theorem dL_law_706 : decode cL_law 706 = .ok (.iconst 1, 1) := by decide +kernel
theorem dL_law_707 : decode cL_law 707 = .ok (.iadd, 1) := by decide +kernel
theorem dL_law_708 : decode cL_law 708 = .ok (.iaload, 1) := by decide +kernel
theorem dL_law_709 : decode cL_law 709 = .ok (.aload_n 0, 1) := by decide +kernel
theorem dL_law_710 : decode cL_law 710 = .ok (.iload_n 3, 1) := by decide +kernel
theorem dL_law_711 : decode cL_law 711 = .ok (.iconst 2, 1) := by decide +kernel
theorem dL_law_712 : decode cL_law 712 = .ok (.iadd, 1) := by decide +kernel
theorem dL_law_713 : decode cL_law 713 = .ok (.iaload, 1) := by decide +kernel
theorem dL_law_714 : decode cL_law 714 = .ok (.invokevirtual 99, 3) := by decide +kernel
theorem dL_law_717 : decode cL_law 717 = .ok (.if_icmp .eq 154, 3) := by decide +kernel
theorem dL_law_720 : decode cL_law 720 = .ok (.iconst 0, 1) := by decide +kernel
theorem dL_law_721 : decode cL_law 721 = .ok (.ireturn, 1) := by decide +kernel
theorem dL_law_722 : decode cL_law 722 = .ok (.aload_n 1, 1) := by decide +kernel
theorem dL_law_723 : decode cL_law 723 = .ok (.aload_n 0, 1) := by decide +kernel
theorem dL_law_724 : decode cL_law 724 = .ok (.iload_n 3, 1) := by decide +kernel
theorem dL_law_725 : decode cL_law 725 = .ok (.iconst 1, 1) := by decide +kernel
theorem dL_law_726 : decode cL_law 726 = .ok (.iadd, 1) := by decide +kernel
theorem dL_law_727 : decode cL_law 727 = .ok (.iaload, 1) := by decide +kernel
theorem dL_law_728 : decode cL_law 728 = .ok (.aload_n 0, 1) := by decide +kernel
theorem dL_law_729 : decode cL_law 729 = .ok (.iload_n 3, 1) := by decide +kernel
theorem dL_law_730 : decode cL_law 730 = .ok (.iconst 2, 1) := by decide +kernel
theorem dL_law_731 : decode cL_law 731 = .ok (.iadd, 1) := by decide +kernel
theorem dL_law_732 : decode cL_law 732 = .ok (.iaload, 1) := by decide +kernel
theorem dL_law_733 : decode cL_law 733 = .ok (.invokevirtual 100, 3) := by decide +kernel
theorem dL_law_736 : decode cL_law 736 = .ok (.aload_n 2, 1) := by decide +kernel
theorem dL_law_737 : decode cL_law 737 = .ok (.aload_n 0, 1) := by decide +kernel
theorem dL_law_738 : decode cL_law 738 = .ok (.iload_n 3, 1) := by decide +kernel
theorem dL_law_739 : decode cL_law 739 = .ok (.iconst 1, 1) := by decide +kernel
theorem dL_law_740 : decode cL_law 740 = .ok (.iadd, 1) := by decide +kernel
theorem dL_law_741 : decode cL_law 741 = .ok (.iaload, 1) := by decide +kernel
theorem dL_law_742 : decode cL_law 742 = .ok (.aload_n 0, 1) := by decide +kernel
theorem dL_law_743 : decode cL_law 743 = .ok (.iload_n 3, 1) := by decide +kernel
theorem dL_law_744 : decode cL_law 744 = .ok (.iconst 2, 1) := by decide +kernel
theorem dL_law_745 : decode cL_law 745 = .ok (.iadd, 1) := by decide +kernel
theorem dL_law_746 : decode cL_law 746 = .ok (.iaload, 1) := by decide +kernel
theorem dL_law_747 : decode cL_law 747 = .ok (.invokevirtual 103, 3) := by decide +kernel
theorem dL_law_750 : decode cL_law 750 = .ok (.if_icmp .eq 121, 3) := by decide +kernel
theorem dL_law_753 : decode cL_law 753 = .ok (.iconst 0, 1) := by decide +kernel
theorem dL_law_754 : decode cL_law 754 = .ok (.ireturn, 1) := by decide +kernel
theorem dL_law_755 : decode cL_law 755 = .ok (.aload_n 1, 1) := by decide +kernel
theorem dL_law_756 : decode cL_law 756 = .ok (.aload_n 0, 1) := by decide +kernel
theorem dL_law_757 : decode cL_law 757 = .ok (.iload_n 3, 1) := by decide +kernel
theorem dL_law_758 : decode cL_law 758 = .ok (.iconst 1, 1) := by decide +kernel
theorem dL_law_759 : decode cL_law 759 = .ok (.iadd, 1) := by decide +kernel
theorem dL_law_760 : decode cL_law 760 = .ok (.iaload, 1) := by decide +kernel
theorem dL_law_761 : decode cL_law 761 = .ok (.aload_n 0, 1) := by decide +kernel
theorem dL_law_762 : decode cL_law 762 = .ok (.iload_n 3, 1) := by decide +kernel
theorem dL_law_763 : decode cL_law 763 = .ok (.iconst 2, 1) := by decide +kernel
theorem dL_law_764 : decode cL_law 764 = .ok (.iadd, 1) := by decide +kernel
theorem dL_law_765 : decode cL_law 765 = .ok (.iaload, 1) := by decide +kernel
theorem dL_law_766 : decode cL_law 766 = .ok (.invokevirtual 104, 3) := by decide +kernel
theorem dL_law_769 : decode cL_law 769 = .ok (.aload_n 2, 1) := by decide +kernel
theorem dL_law_770 : decode cL_law 770 = .ok (.aload_n 0, 1) := by decide +kernel
theorem dL_law_771 : decode cL_law 771 = .ok (.iload_n 3, 1) := by decide +kernel
theorem dL_law_772 : decode cL_law 772 = .ok (.iconst 1, 1) := by decide +kernel
theorem dL_law_773 : decode cL_law 773 = .ok (.iadd, 1) := by decide +kernel
theorem dL_law_774 : decode cL_law 774 = .ok (.iaload, 1) := by decide +kernel
theorem dL_law_775 : decode cL_law 775 = .ok (.aload_n 0, 1) := by decide +kernel
theorem dL_law_776 : decode cL_law 776 = .ok (.iload_n 3, 1) := by decide +kernel
theorem dL_law_777 : decode cL_law 777 = .ok (.iconst 2, 1) := by decide +kernel
theorem dL_law_778 : decode cL_law 778 = .ok (.iadd, 1) := by decide +kernel
theorem dL_law_779 : decode cL_law 779 = .ok (.iaload, 1) := by decide +kernel
theorem dL_law_780 : decode cL_law 780 = .ok (.invokevirtual 107, 3) := by decide +kernel
theorem dL_law_783 : decode cL_law 783 = .ok (.if_icmp .eq 88, 3) := by decide +kernel
theorem dL_law_786 : decode cL_law 786 = .ok (.iconst 0, 1) := by decide +kernel
theorem dL_law_787 : decode cL_law 787 = .ok (.ireturn, 1) := by decide +kernel
theorem dL_law_788 : decode cL_law 788 = .ok (.aload_n 1, 1) := by decide +kernel
theorem dL_law_789 : decode cL_law 789 = .ok (.aload_n 0, 1) := by decide +kernel
theorem dL_law_790 : decode cL_law 790 = .ok (.iload_n 3, 1) := by decide +kernel
theorem dL_law_791 : decode cL_law 791 = .ok (.iconst 1, 1) := by decide +kernel
theorem dL_law_792 : decode cL_law 792 = .ok (.iadd, 1) := by decide +kernel
theorem dL_law_793 : decode cL_law 793 = .ok (.iaload, 1) := by decide +kernel
theorem dL_law_794 : decode cL_law 794 = .ok (.invokevirtual 108, 3) := by decide +kernel
theorem dL_law_797 : decode cL_law 797 = .ok (.aload_n 2, 1) := by decide +kernel
theorem dL_law_798 : decode cL_law 798 = .ok (.aload_n 0, 1) := by decide +kernel
theorem dL_law_799 : decode cL_law 799 = .ok (.iload_n 3, 1) := by decide +kernel
theorem dL_law_800 : decode cL_law 800 = .ok (.iconst 1, 1) := by decide +kernel
theorem dL_law_801 : decode cL_law 801 = .ok (.iadd, 1) := by decide +kernel
theorem dL_law_802 : decode cL_law 802 = .ok (.iaload, 1) := by decide +kernel
theorem dL_law_803 : decode cL_law 803 = .ok (.invokevirtual 111, 3) := by decide +kernel
theorem dL_law_806 : decode cL_law 806 = .ok (.if_icmp .eq 65, 3) := by decide +kernel
theorem dL_law_809 : decode cL_law 809 = .ok (.iconst 0, 1) := by decide +kernel
theorem dL_law_810 : decode cL_law 810 = .ok (.ireturn, 1) := by decide +kernel
theorem dL_law_811 : decode cL_law 811 = .ok (.aload_n 1, 1) := by decide +kernel
theorem dL_law_812 : decode cL_law 812 = .ok (.aload_n 0, 1) := by decide +kernel
theorem dL_law_813 : decode cL_law 813 = .ok (.iload_n 3, 1) := by decide +kernel
theorem dL_law_814 : decode cL_law 814 = .ok (.iconst 1, 1) := by decide +kernel
theorem dL_law_815 : decode cL_law 815 = .ok (.iadd, 1) := by decide +kernel
theorem dL_law_816 : decode cL_law 816 = .ok (.iaload, 1) := by decide +kernel
theorem dL_law_817 : decode cL_law 817 = .ok (.invokevirtual 112, 3) := by decide +kernel
theorem dL_law_820 : decode cL_law 820 = .ok (.aload_n 2, 1) := by decide +kernel
theorem dL_law_821 : decode cL_law 821 = .ok (.aload_n 0, 1) := by decide +kernel
theorem dL_law_822 : decode cL_law 822 = .ok (.iload_n 3, 1) := by decide +kernel
theorem dL_law_823 : decode cL_law 823 = .ok (.iconst 1, 1) := by decide +kernel
theorem dL_law_824 : decode cL_law 824 = .ok (.iadd, 1) := by decide +kernel
theorem dL_law_825 : decode cL_law 825 = .ok (.iaload, 1) := by decide +kernel
theorem dL_law_826 : decode cL_law 826 = .ok (.invokevirtual 115, 3) := by decide +kernel
theorem dL_law_829 : decode cL_law 829 = .ok (.if_icmp .eq 42, 3) := by decide +kernel
theorem dL_law_832 : decode cL_law 832 = .ok (.iconst 0, 1) := by decide +kernel
theorem dL_law_833 : decode cL_law 833 = .ok (.ireturn, 1) := by decide +kernel
theorem dL_law_834 : decode cL_law 834 = .ok (.aload_n 1, 1) := by decide +kernel
theorem dL_law_835 : decode cL_law 835 = .ok (.aload_n 0, 1) := by decide +kernel
theorem dL_law_836 : decode cL_law 836 = .ok (.iload_n 3, 1) := by decide +kernel
theorem dL_law_837 : decode cL_law 837 = .ok (.iconst 1, 1) := by decide +kernel
theorem dL_law_838 : decode cL_law 838 = .ok (.iadd, 1) := by decide +kernel
theorem dL_law_839 : decode cL_law 839 = .ok (.iaload, 1) := by decide +kernel
theorem dL_law_840 : decode cL_law 840 = .ok (.invokevirtual 116, 3) := by decide +kernel
theorem dL_law_843 : decode cL_law 843 = .ok (.aload_n 2, 1) := by decide +kernel
theorem dL_law_844 : decode cL_law 844 = .ok (.aload_n 0, 1) := by decide +kernel
theorem dL_law_845 : decode cL_law 845 = .ok (.iload_n 3, 1) := by decide +kernel
theorem dL_law_846 : decode cL_law 846 = .ok (.iconst 1, 1) := by decide +kernel
theorem dL_law_847 : decode cL_law 847 = .ok (.iadd, 1) := by decide +kernel
theorem dL_law_848 : decode cL_law 848 = .ok (.iaload, 1) := by decide +kernel
theorem dL_law_849 : decode cL_law 849 = .ok (.invokevirtual 119, 3) := by decide +kernel
theorem dL_law_852 : decode cL_law 852 = .ok (.if_icmp .eq 19, 3) := by decide +kernel
theorem dL_law_855 : decode cL_law 855 = .ok (.iconst 0, 1) := by decide +kernel
theorem dL_law_856 : decode cL_law 856 = .ok (.ireturn, 1) := by decide +kernel
theorem dL_law_857 : decode cL_law 857 = .ok (.aload_n 1, 1) := by decide +kernel
theorem dL_law_858 : decode cL_law 858 = .ok (.invokevirtual 120, 3) := by decide +kernel
theorem dL_law_861 : decode cL_law 861 = .ok (.aload_n 2, 1) := by decide +kernel
theorem dL_law_862 : decode cL_law 862 = .ok (.invokevirtual 124, 3) := by decide +kernel
theorem dL_law_865 : decode cL_law 865 = .ok (.lcmp, 1) := by decide +kernel
theorem dL_law_866 : decode cL_law 866 = .ok (.ifCond .eq 5, 3) := by decide +kernel
theorem dL_law_869 : decode cL_law 869 = .ok (.iconst 0, 1) := by decide +kernel
theorem dL_law_870 : decode cL_law 870 = .ok (.ireturn, 1) := by decide +kernel
theorem dL_law_871 : decode cL_law 871 = .ok (.iinc 3 4, 3) := by decide +kernel
theorem dL_law_874 : decode cL_law 874 = .ok (.goto (-856), 3) := by decide +kernel
theorem dL_law_877 : decode cL_law 877 = .ok (.iconst 1, 1) := by decide +kernel
theorem dL_law_878 : decode cL_law 878 = .ok (.ireturn, 1) := by decide +kernel
