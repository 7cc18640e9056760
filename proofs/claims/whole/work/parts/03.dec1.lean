theorem dX6_letter_4 : decode cX6_letter 4 = .ok (.iload_n 1, 1) := by decide +kernel
theorem dX6_letter_5 : decode cX6_letter 5 = .ok (.invokevirtual 117, 3) := by decide +kernel
theorem dX6_letter_8 : decode cX6_letter 8 = .ok (.ifCond .ne 5, 3) := by decide +kernel
theorem dX6_letter_11 : decode cX6_letter 11 = .ok (.iconst (-1), 1) := by decide +kernel
theorem dX6_letter_12 : decode cX6_letter 12 = .ok (.ireturn, 1) := by decide +kernel
theorem dX6_letter_13 : decode cX6_letter 13 = .ok (.iload_n 2, 1) := by decide +kernel
theorem dX6_letter_14 : decode cX6_letter 14 = .ok (.tableswitch 56 0 2 #[26, 36, 46], 26) := by decide +kernel
theorem dX6_letter_40 : decode cX6_letter 40 = .ok (.aload_n 0, 1) := by decide +kernel
theorem dX6_letter_41 : decode cX6_letter 41 = .ok (.getfield 19, 3) := by decide +kernel
theorem dX6_letter_44 : decode cX6_letter 44 = .ok (.getfield 120, 3) := by decide +kernel
theorem dX6_letter_47 : decode cX6_letter 47 = .ok (.iload_n 1, 1) := by decide +kernel
theorem dX6_letter_48 : decode cX6_letter 48 = .ok (.iaload, 1) := by decide +kernel
theorem dX6_letter_49 : decode cX6_letter 49 = .ok (.ireturn, 1) := by decide +kernel
theorem dX6_letter_50 : decode cX6_letter 50 = .ok (.aload_n 0, 1) := by decide +kernel
theorem dX6_letter_51 : decode cX6_letter 51 = .ok (.getfield 19, 3) := by decide +kernel
theorem dX6_letter_54 : decode cX6_letter 54 = .ok (.getfield 122, 3) := by decide +kernel
theorem dX6_letter_57 : decode cX6_letter 57 = .ok (.iload_n 1, 1) := by decide +kernel
theorem dX6_letter_58 : decode cX6_letter 58 = .ok (.iaload, 1) := by decide +kernel
theorem dX6_letter_59 : decode cX6_letter 59 = .ok (.ireturn, 1) := by decide +kernel
theorem dX6_letter_60 : decode cX6_letter 60 = .ok (.aload_n 0, 1) := by decide +kernel
theorem dX6_letter_61 : decode cX6_letter 61 = .ok (.getfield 19, 3) := by decide +kernel
theorem dX6_letter_64 : decode cX6_letter 64 = .ok (.getfield 124, 3) := by decide +kernel
theorem dX6_letter_67 : decode cX6_letter 67 = .ok (.iload_n 1, 1) := by decide +kernel
theorem dX6_letter_68 : decode cX6_letter 68 = .ok (.iaload, 1) := by decide +kernel
theorem dX6_letter_69 : decode cX6_letter 69 = .ok (.ireturn, 1) := by decide +kernel
theorem dX6_letter_70 : decode cX6_letter 70 = .ok (.iconst (-1), 1) := by decide +kernel
theorem dX6_letter_71 : decode cX6_letter 71 = .ok (.ireturn, 1) := by decide +kernel
theorem dX6_has_0 : decode cX6_has 0 = .ok (.aload_n 0, 1) := by decide +kernel
theorem dX6_has_1 : decode cX6_has 1 = .ok (.getfield 19, 3) := by decide +kernel
theorem dX6_has_4 : decode cX6_has 4 = .ok (.iload_n 1, 1) := by decide +kernel
theorem dX6_has_5 : decode cX6_has 5 = .ok (.invokevirtual 117, 3) := by decide +kernel
theorem dX6_has_8 : decode cX6_has 8 = .ok (.ifCond .eq 13, 3) := by decide +kernel
theorem dX6_has_11 : decode cX6_has 11 = .ok (.iload_n 2, 1) := by decide +kernel
theorem dX6_has_12 : decode cX6_has 12 = .ok (.ifCond .lt 9, 3) := by decide +kernel
theorem dX6_has_15 : decode cX6_has 15 = .ok (.iload_n 2, 1) := by decide +kernel
theorem dX6_has_16 : decode cX6_has 16 = .ok (.bipush 8, 2) := by decide +kernel
theorem dX6_has_18 : decode cX6_has 18 = .ok (.if_icmp .lt 5, 3) := by decide +kernel
theorem dX6_has_21 : decode cX6_has 21 = .ok (.iconst (-1), 1) := by decide +kernel
theorem dX6_has_22 : decode cX6_has 22 = .ok (.ireturn, 1) := by decide +kernel
theorem dX6_has_23 : decode cX6_has 23 = .ok (.aload_n 0, 1) := by decide +kernel
theorem dX6_has_24 : decode cX6_has 24 = .ok (.getfield 19, 3) := by decide +kernel
theorem dX6_has_27 : decode cX6_has 27 = .ok (.iload_n 1, 1) := by decide +kernel
theorem dX6_has_28 : decode cX6_has 28 = .ok (.iload_n 2, 1) := by decide +kernel
theorem dX6_has_29 : decode cX6_has 29 = .ok (.invokevirtual 126, 3) := by decide +kernel
theorem dX6_has_32 : decode cX6_has 32 = .ok (.ireturn, 1) := by decide +kernel
theorem dX6_write_0 : decode cX6_write 0 = .ok (.aload_n 0, 1) := by decide +kernel
theorem dX6_write_1 : decode cX6_write 1 = .ok (.getfield 19, 3) := by decide +kernel
theorem dX6_write_4 : decode cX6_write 4 = .ok (.iload_n 1, 1) := by decide +kernel
theorem dX6_write_5 : decode cX6_write 5 = .ok (.invokevirtual 117, 3) := by decide +kernel
theorem dX6_write_8 : decode cX6_write 8 = .ok (.ifCond .ne 5, 3) := by decide +kernel
theorem dX6_write_11 : decode cX6_write 11 = .ok (.iconst (-1), 1) := by decide +kernel
theorem dX6_write_12 : decode cX6_write 12 = .ok (.ireturn, 1) := by decide +kernel
theorem dX6_write_13 : decode cX6_write 13 = .ok (.aload_n 0, 1) := by decide +kernel
theorem dX6_write_14 : decode cX6_write 14 = .ok (.getfield 26, 3) := by decide +kernel
theorem dX6_write_17 : decode cX6_write 17 = .ok (.getfield 67, 3) := by decide +kernel
theorem dX6_write_20 : decode cX6_write 20 = .ok (.ifCond .le 34, 3) := by decide +kernel
theorem dX6_write_23 : decode cX6_write 23 = .ok (.aload_n 0, 1) := by decide +kernel
theorem dX6_write_24 : decode cX6_write 24 = .ok (.getfield 19, 3) := by decide +kernel
theorem dX6_write_27 : decode cX6_write 27 = .ok (.aload_n 0, 1) := by decide +kernel
theorem dX6_write_28 : decode cX6_write 28 = .ok (.getfield 26, 3) := by decide +kernel
theorem dX6_write_31 : decode cX6_write 31 = .ok (.getfield 130, 3) := by decide +kernel
theorem dX6_write_34 : decode cX6_write 34 = .ok (.aload_n 0, 1) := by decide +kernel
theorem dX6_write_35 : decode cX6_write 35 = .ok (.getfield 26, 3) := by decide +kernel
theorem dX6_write_38 : decode cX6_write 38 = .ok (.getfield 67, 3) := by decide +kernel
theorem dX6_write_41 : decode cX6_write 41 = .ok (.iconst 1, 1) := by decide +kernel
theorem dX6_write_42 : decode cX6_write 42 = .ok (.isub, 1) := by decide +kernel
theorem dX6_write_43 : decode cX6_write 43 = .ok (.iaload, 1) := by decide +kernel
theorem dX6_write_44 : decode cX6_write 44 = .ok (.iload_n 1, 1) := by decide +kernel
theorem dX6_write_45 : decode cX6_write 45 = .ok (.invokevirtual 133, 3) := by decide +kernel
theorem dX6_write_48 : decode cX6_write 48 = .ok (.ifCond .ne 6, 3) := by decide +kernel
theorem dX6_write_51 : decode cX6_write 51 = .ok (.bipush (-2), 2) := by decide +kernel
theorem dX6_write_53 : decode cX6_write 53 = .ok (.ireturn, 1) := by decide +kernel
theorem dX6_write_54 : decode cX6_write 54 = .ok (.aload_n 0, 1) := by decide +kernel
theorem dX6_write_55 : decode cX6_write 55 = .ok (.getfield 26, 3) := by decide +kernel
theorem dX6_write_58 : decode cX6_write 58 = .ok (.getfield 67, 3) := by decide +kernel
theorem dX6_write_61 : decode cX6_write 61 = .ok (.bipush 12, 2) := by decide +kernel
theorem dX6_write_63 : decode cX6_write 63 = .ok (.if_icmp .lt 6, 3) := by decide +kernel
theorem dX6_write_66 : decode cX6_write 66 = .ok (.bipush (-3), 2) := by decide +kernel
theorem dX6_write_68 : decode cX6_write 68 = .ok (.ireturn, 1) := by decide +kernel
theorem dX6_write_69 : decode cX6_write 69 = .ok (.aload_n 0, 1) := by decide +kernel
theorem dX6_write_70 : decode cX6_write 70 = .ok (.getfield 26, 3) := by decide +kernel
theorem dX6_write_73 : decode cX6_write 73 = .ok (.getfield 130, 3) := by decide +kernel
theorem dX6_write_76 : decode cX6_write 76 = .ok (.aload_n 0, 1) := by decide +kernel
theorem dX6_write_77 : decode cX6_write 77 = .ok (.getfield 26, 3) := by decide +kernel
theorem dX6_write_80 : decode cX6_write 80 = .ok (.getfield 67, 3) := by decide +kernel
theorem dX6_write_83 : decode cX6_write 83 = .ok (.iload_n 1, 1) := by decide +kernel
theorem dX6_write_84 : decode cX6_write 84 = .ok (.iastore, 1) := by decide +kernel
theorem dX6_write_85 : decode cX6_write 85 = .ok (.aload_n 0, 1) := by decide +kernel
theorem dX6_write_86 : decode cX6_write 86 = .ok (.getfield 26, 3) := by decide +kernel
theorem dX6_write_89 : decode cX6_write 89 = .ok (.dup, 1) := by decide +kernel
theorem dX6_write_90 : decode cX6_write 90 = .ok (.getfield 67, 3) := by decide +kernel
theorem dX6_write_93 : decode cX6_write 93 = .ok (.iconst 1, 1) := by decide +kernel
theorem dX6_write_94 : decode cX6_write 94 = .ok (.iadd, 1) := by decide +kernel
theorem dX6_write_95 : decode cX6_write 95 = .ok (.putfield 67, 3) := by decide +kernel
theorem dX6_write_98 : decode cX6_write 98 = .ok (.aload_n 0, 1) := by decide +kernel
theorem dX6_write_99 : decode cX6_write 99 = .ok (.getfield 26, 3) := by decide +kernel
theorem dX6_write_102 : decode cX6_write 102 = .ok (.getfield 67, 3) := by decide +kernel
theorem dX6_write_105 : decode cX6_write 105 = .ok (.ireturn, 1) := by decide +kernel
theorem dX6_undo_0 : decode cX6_undo 0 = .ok (.aload_n 0, 1) := by decide +kernel
theorem dX6_undo_1 : decode cX6_undo 1 = .ok (.getfield 26, 3) := by decide +kernel
theorem dX6_undo_4 : decode cX6_undo 4 = .ok (.getfield 67, 3) := by decide +kernel
theorem dX6_undo_7 : decode cX6_undo 7 = .ok (.ifCond .gt 6, 3) := by decide +kernel
theorem dX6_undo_10 : decode cX6_undo 10 = .ok (.bipush (-2), 2) := by decide +kernel
theorem dX6_undo_12 : decode cX6_undo 12 = .ok (.ireturn, 1) := by decide +kernel
theorem dX6_undo_13 : decode cX6_undo 13 = .ok (.aload_n 0, 1) := by decide +kernel
theorem dX6_undo_14 : decode cX6_undo 14 = .ok (.getfield 26, 3) := by decide +kernel
theorem dX6_undo_17 : decode cX6_undo 17 = .ok (.dup, 1) := by decide +kernel
theorem dX6_undo_18 : decode cX6_undo 18 = .ok (.getfield 67, 3) := by decide +kernel
theorem dX6_undo_21 : decode cX6_undo 21 = .ok (.iconst 1, 1) := by decide +kernel
theorem dX6_undo_22 : decode cX6_undo 22 = .ok (.isub, 1) := by decide +kernel
theorem dX6_undo_23 : decode cX6_undo 23 = .ok (.putfield 67, 3) := by decide +kernel
theorem dX6_undo_26 : decode cX6_undo 26 = .ok (.aload_n 0, 1) := by decide +kernel
theorem dX6_undo_27 : decode cX6_undo 27 = .ok (.getfield 26, 3) := by decide +kernel
theorem dX6_undo_30 : decode cX6_undo 30 = .ok (.getfield 67, 3) := by decide +kernel
theorem dX6_undo_33 : decode cX6_undo 33 = .ok (.ireturn, 1) := by decide +kernel
theorem dX6_wrote_0 : decode cX6_wrote 0 = .ok (.iload_n 1, 1) := by decide +kernel
theorem dX6_wrote_1 : decode cX6_wrote 1 = .ok (.ifCond .ge 5, 3) := by decide +kernel
theorem dX6_wrote_4 : decode cX6_wrote 4 = .ok (.iconst (-1), 1) := by decide +kernel
theorem dX6_wrote_5 : decode cX6_wrote 5 = .ok (.ireturn, 1) := by decide +kernel
theorem dX6_wrote_6 : decode cX6_wrote 6 = .ok (.iload_n 1, 1) := by decide +kernel
theorem dX6_wrote_7 : decode cX6_wrote 7 = .ok (.aload_n 0, 1) := by decide +kernel
theorem dX6_wrote_8 : decode cX6_wrote 8 = .ok (.getfield 26, 3) := by decide +kernel
theorem dX6_wrote_11 : decode cX6_wrote 11 = .ok (.getfield 67, 3) := by decide +kernel
theorem dX6_wrote_14 : decode cX6_wrote 14 = .ok (.if_icmp .ge 15, 3) := by decide +kernel
theorem dX6_wrote_17 : decode cX6_wrote 17 = .ok (.aload_n 0, 1) := by decide +kernel
theorem dX6_wrote_18 : decode cX6_wrote 18 = .ok (.getfield 26, 3) := by decide +kernel
theorem dX6_wrote_21 : decode cX6_wrote 21 = .ok (.getfield 130, 3) := by decide +kernel
theorem dX6_wrote_24 : decode cX6_wrote 24 = .ok (.iload_n 1, 1) := by decide +kernel
theorem dX6_wrote_25 : decode cX6_wrote 25 = .ok (.iaload, 1) := by decide +kernel
theorem dX6_wrote_26 : decode cX6_wrote 26 = .ok (.goto 5, 3) := by decide +kernel
theorem dX6_wrote_29 : decode cX6_wrote 29 = .ok (.bipush (-5), 2) := by decide +kernel
theorem dX6_wrote_31 : decode cX6_wrote 31 = .ok (.ireturn, 1) := by decide +kernel
theorem dX6_side_0 : decode cX6_side 0 = .ok (.iload_n 1, 1) := by decide +kernel
theorem dX6_side_1 : decode cX6_side 1 = .ok (.ifCond .lt 8, 3) := by decide +kernel
theorem dX6_side_4 : decode cX6_side 4 = .ok (.iload_n 1, 1) := by decide +kernel
theorem dX6_side_5 : decode cX6_side 5 = .ok (.iconst 2, 1) := by decide +kernel
theorem dX6_side_6 : decode cX6_side 6 = .ok (.if_icmp .lt 5, 3) := by decide +kernel
theorem dX6_side_9 : decode cX6_side 9 = .ok (.iconst (-1), 1) := by decide +kernel
theorem dX6_side_10 : decode cX6_side 10 = .ok (.ireturn, 1) := by decide +kernel
theorem dX6_side_11 : decode cX6_side 11 = .ok (.iconst 0, 1) := by decide +kernel
theorem dX6_side_12 : decode cX6_side 12 = .ok (.istore_n 2, 1) := by decide +kernel
theorem dX6_side_13 : decode cX6_side 13 = .ok (.iconst 0, 1) := by decide +kernel
theorem dX6_side_14 : decode cX6_side 14 = .ok (.istore_n 3, 1) := by decide +kernel
theorem dX6_side_15 : decode cX6_side 15 = .ok (.iload_n 3, 1) := by decide +kernel
theorem dX6_side_16 : decode cX6_side 16 = .ok (.aload_n 0, 1) := by decide +kernel
theorem dX6_side_17 : decode cX6_side 17 = .ok (.getfield 26, 3) := by decide +kernel
theorem dX6_side_20 : decode cX6_side 20 = .ok (.getfield 67, 3) := by decide +kernel
theorem dX6_side_23 : decode cX6_side 23 = .ok (.if_icmp .ge 53, 3) := by decide +kernel
theorem dX6_side_26 : decode cX6_side 26 = .ok (.aload_n 0, 1) := by decide +kernel
theorem dX6_side_27 : decode cX6_side 27 = .ok (.getfield 26, 3) := by decide +kernel
theorem dX6_side_30 : decode cX6_side 30 = .ok (.getfield 130, 3) := by decide +kernel
theorem dX6_side_33 : decode cX6_side 33 = .ok (.iload_n 3, 1) := by decide +kernel
theorem dX6_side_34 : decode cX6_side 34 = .ok (.iaload, 1) := by decide +kernel
theorem dX6_side_35 : decode cX6_side 35 = .ok (.istore 4, 2) := by decide +kernel
theorem dX6_side_37 : decode cX6_side 37 = .ok (.iload_n 2, 1) := by decide +kernel
theorem dX6_side_38 : decode cX6_side 38 = .ok (.iload_n 3, 1) := by decide +kernel
theorem dX6_side_39 : decode cX6_side 39 = .ok (.iconst 2, 1) := by decide +kernel
theorem dX6_side_40 : decode cX6_side 40 = .ok (.irem, 1) := by decide +kernel
theorem dX6_side_41 : decode cX6_side 41 = .ok (.iload_n 1, 1) := by decide +kernel
theorem dX6_side_42 : decode cX6_side 42 = .ok (.if_icmp .ne 16, 3) := by decide +kernel
theorem dX6_side_45 : decode cX6_side 45 = .ok (.aload_n 0, 1) := by decide +kernel
theorem dX6_side_46 : decode cX6_side 46 = .ok (.getfield 19, 3) := by decide +kernel
theorem dX6_side_49 : decode cX6_side 49 = .ok (.getfield 120, 3) := by decide +kernel
theorem dX6_side_52 : decode cX6_side 52 = .ok (.iload 4, 2) := by decide +kernel
theorem dX6_side_54 : decode cX6_side 54 = .ok (.iaload, 1) := by decide +kernel
theorem dX6_side_55 : decode cX6_side 55 = .ok (.goto 13, 3) := by decide +kernel
theorem dX6_side_58 : decode cX6_side 58 = .ok (.aload_n 0, 1) := by decide +kernel
theorem dX6_side_59 : decode cX6_side 59 = .ok (.getfield 19, 3) := by decide +kernel
theorem dX6_side_62 : decode cX6_side 62 = .ok (.getfield 122, 3) := by decide +kernel
theorem dX6_side_65 : decode cX6_side 65 = .ok (.iload 4, 2) := by decide +kernel
theorem dX6_side_67 : decode cX6_side 67 = .ok (.iaload, 1) := by decide +kernel
theorem dX6_side_68 : decode cX6_side 68 = .ok (.iadd, 1) := by decide +kernel
theorem dX6_side_69 : decode cX6_side 69 = .ok (.istore_n 2, 1) := by decide +kernel
theorem dX6_side_70 : decode cX6_side 70 = .ok (.iinc 3 1, 3) := by decide +kernel
theorem dX6_side_73 : decode cX6_side 73 = .ok (.goto (-58), 3) := by decide +kernel
theorem dX6_side_76 : decode cX6_side 76 = .ok (.iload_n 2, 1) := by decide +kernel
theorem dX6_side_77 : decode cX6_side 77 = .ok (.ireturn, 1) := by decide +kernel
theorem dX6_says_0 : decode cX6_says 0 = .ok (.iload_n 1, 1) := by decide +kernel
theorem dX6_says_1 : decode cX6_says 1 = .ok (.bipush (-2), 2) := by decide +kernel
theorem dX6_says_3 : decode cX6_says 3 = .ok (.if_icmp .ge 5, 3) := by decide +kernel
theorem dX6_says_6 : decode cX6_says 6 = .ok (.iconst (-1), 1) := by decide +kernel
theorem dX6_says_7 : decode cX6_says 7 = .ok (.ireturn, 1) := by decide +kernel
theorem dX6_says_8 : decode cX6_says 8 = .ok (.iload_n 1, 1) := by decide +kernel
theorem dX6_says_9 : decode cX6_says 9 = .ok (.bipush (-2), 2) := by decide +kernel
theorem dX6_says_11 : decode cX6_says 11 = .ok (.if_icmp .ne 11, 3) := by decide +kernel
theorem dX6_says_14 : decode cX6_says 14 = .ok (.aload_n 0, 1) := by decide +kernel
theorem dX6_says_15 : decode cX6_says 15 = .ok (.getfield 19, 3) := by decide +kernel
theorem dX6_says_18 : decode cX6_says 18 = .ok (.invokevirtual 137, 3) := by decide +kernel
theorem dX6_says_21 : decode cX6_says 21 = .ok (.ireturn, 1) := by decide +kernel
theorem dX6_says_22 : decode cX6_says 22 = .ok (.iload_n 1, 1) := by decide +kernel
theorem dX6_says_23 : decode cX6_says 23 = .ok (.iconst (-1), 1) := by decide +kernel
theorem dX6_says_24 : decode cX6_says 24 = .ok (.if_icmp .ne 13, 3) := by decide +kernel
theorem dX6_says_27 : decode cX6_says 27 = .ok (.aload_n 0, 1) := by decide +kernel
theorem dX6_says_28 : decode cX6_says 28 = .ok (.getfield 19, 3) := by decide +kernel
theorem dX6_says_31 : decode cX6_says 31 = .ok (.getfield 141, 3) := by decide +kernel
theorem dX6_says_34 : decode cX6_says 34 = .ok (.goto 11, 3) := by decide +kernel
theorem dX6_says_37 : decode cX6_says 37 = .ok (.aload_n 0, 1) := by decide +kernel
theorem dX6_says_38 : decode cX6_says 38 = .ok (.getfield 19, 3) := by decide +kernel
theorem dX6_says_41 : decode cX6_says 41 = .ok (.iload_n 1, 1) := by decide +kernel
theorem dX6_says_42 : decode cX6_says 42 = .ok (.invokevirtual 144, 3) := by decide +kernel
theorem dX6_says_45 : decode cX6_says 45 = .ok (.ireturn, 1) := by decide +kernel
theorem dX6_answers_0 : decode cX6_answers 0 = .ok (.aload_n 0, 1) := by decide +kernel
theorem dX6_answers_1 : decode cX6_answers 1 = .ok (.getfield 19, 3) := by decide +kernel
theorem dX6_answers_4 : decode cX6_answers 4 = .ok (.iload_n 1, 1) := by decide +kernel
theorem dX6_answers_5 : decode cX6_answers 5 = .ok (.invokevirtual 117, 3) := by decide +kernel
theorem dX6_answers_8 : decode cX6_answers 8 = .ok (.ifCond .eq 19, 3) := by decide +kernel
theorem dX6_answers_11 : decode cX6_answers 11 = .ok (.iload_n 2, 1) := by decide +kernel
theorem dX6_answers_12 : decode cX6_answers 12 = .ok (.invokestatic 148, 3) := by decide +kernel
theorem dX6_answers_15 : decode cX6_answers 15 = .ok (.ifCond .eq 12, 3) := by decide +kernel
theorem dX6_answers_18 : decode cX6_answers 18 = .ok (.iload_n 3, 1) := by decide +kernel
theorem dX6_answers_19 : decode cX6_answers 19 = .ok (.ifCond .lt 8, 3) := by decide +kernel
theorem dX6_answers_22 : decode cX6_answers 22 = .ok (.iload_n 3, 1) := by decide +kernel
theorem dX6_answers_23 : decode cX6_answers 23 = .ok (.iconst 1, 1) := by decide +kernel
theorem dX6_answers_24 : decode cX6_answers 24 = .ok (.if_icmp .le 5, 3) := by decide +kernel
theorem dX6_answers_27 : decode cX6_answers 27 = .ok (.iconst (-1), 1) := by decide +kernel
theorem dX6_answers_28 : decode cX6_answers 28 = .ok (.ireturn, 1) := by decide +kernel
theorem dX6_answers_29 : decode cX6_answers 29 = .ok (.iload_n 3, 1) := by decide +kernel
theorem dX6_answers_30 : decode cX6_answers 30 = .ok (.ifCond .ne 15, 3) := by decide +kernel
theorem dX6_answers_33 : decode cX6_answers 33 = .ok (.aload_n 0, 1) := by decide +kernel
theorem dX6_answers_34 : decode cX6_answers 34 = .ok (.getfield 19, 3) := by decide +kernel
theorem dX6_answers_37 : decode cX6_answers 37 = .ok (.iload_n 1, 1) := by decide +kernel
theorem dX6_answers_38 : decode cX6_answers 38 = .ok (.iload_n 2, 1) := by decide +kernel
theorem dX6_answers_39 : decode cX6_answers 39 = .ok (.invokevirtual 151, 3) := by decide +kernel
theorem dX6_answers_42 : decode cX6_answers 42 = .ok (.goto 12, 3) := by decide +kernel
theorem dX6_answers_45 : decode cX6_answers 45 = .ok (.aload_n 0, 1) := by decide +kernel
theorem dX6_answers_46 : decode cX6_answers 46 = .ok (.getfield 19, 3) := by decide +kernel
theorem dX6_answers_49 : decode cX6_answers 49 = .ok (.iload_n 1, 1) := by decide +kernel
theorem dX6_answers_50 : decode cX6_answers 50 = .ok (.iload_n 2, 1) := by decide +kernel
theorem dX6_answers_51 : decode cX6_answers 51 = .ok (.invokevirtual 154, 3) := by decide +kernel
theorem dX6_answers_54 : decode cX6_answers 54 = .ok (.ireturn, 1) := by decide +kernel
theorem dX6_mute_0 : decode cX6_mute 0 = .ok (.iload_n 1, 1) := by decide +kernel
theorem dX6_mute_1 : decode cX6_mute 1 = .ok (.ifCond .lt 8, 3) := by decide +kernel
theorem dX6_mute_4 : decode cX6_mute 4 = .ok (.iload_n 1, 1) := by decide +kernel
theorem dX6_mute_5 : decode cX6_mute 5 = .ok (.iconst 1, 1) := by decide +kernel
theorem dX6_mute_6 : decode cX6_mute 6 = .ok (.if_icmp .le 5, 3) := by decide +kernel
theorem dX6_mute_9 : decode cX6_mute 9 = .ok (.iconst (-1), 1) := by decide +kernel
theorem dX6_mute_10 : decode cX6_mute 10 = .ok (.ireturn, 1) := by decide +kernel
theorem dX6_mute_11 : decode cX6_mute 11 = .ok (.iload_n 1, 1) := by decide +kernel
theorem dX6_mute_12 : decode cX6_mute 12 = .ok (.ifCond .ne 13, 3) := by decide +kernel
theorem dX6_mute_15 : decode cX6_mute 15 = .ok (.aload_n 0, 1) := by decide +kernel
theorem dX6_mute_16 : decode cX6_mute 16 = .ok (.getfield 19, 3) := by decide +kernel
theorem dX6_mute_19 : decode cX6_mute 19 = .ok (.invokevirtual 157, 3) := by decide +kernel
theorem dX6_mute_22 : decode cX6_mute 22 = .ok (.goto 10, 3) := by decide +kernel
theorem dX6_mute_25 : decode cX6_mute 25 = .ok (.aload_n 0, 1) := by decide +kernel
theorem dX6_mute_26 : decode cX6_mute 26 = .ok (.getfield 19, 3) := by decide +kernel
theorem dX6_mute_29 : decode cX6_mute 29 = .ok (.invokevirtual 160, 3) := by decide +kernel
theorem dX6_mute_32 : decode cX6_mute 32 = .ok (.ireturn, 1) := by decide +kernel
theorem dX6_best_0 : decode cX6_best 0 = .ok (.iload_n 1, 1) := by decide +kernel
theorem dX6_best_1 : decode cX6_best 1 = .ok (.ifCond .lt 8, 3) := by decide +kernel
theorem dX6_best_4 : decode cX6_best 4 = .ok (.iload_n 1, 1) := by decide +kernel
theorem dX6_best_5 : decode cX6_best 5 = .ok (.iconst 1, 1) := by decide +kernel
theorem dX6_best_6 : decode cX6_best 6 = .ok (.if_icmp .le 5, 3) := by decide +kernel
theorem dX6_best_9 : decode cX6_best 9 = .ok (.iconst (-1), 1) := by decide +kernel
theorem dX6_best_10 : decode cX6_best 10 = .ok (.ireturn, 1) := by decide +kernel
theorem dX6_best_11 : decode cX6_best 11 = .ok (.aload_n 0, 1) := by decide +kernel
theorem dX6_best_12 : decode cX6_best 12 = .ok (.getfield 19, 3) := by decide +kernel
theorem dX6_best_15 : decode cX6_best 15 = .ok (.invokevirtual 163, 3) := by decide +kernel
theorem dX6_best_18 : decode cX6_best 18 = .ok (.istore_n 2, 1) := by decide +kernel
theorem dX6_best_19 : decode cX6_best 19 = .ok (.iload_n 2, 1) := by decide +kernel
theorem dX6_best_20 : decode cX6_best 20 = .ok (.ifCond .ne 6, 3) := by decide +kernel
theorem dX6_best_23 : decode cX6_best 23 = .ok (.bipush (-9), 2) := by decide +kernel
theorem dX6_best_25 : decode cX6_best 25 = .ok (.ireturn, 1) := by decide +kernel
theorem dX6_best_26 : decode cX6_best 26 = .ok (.iload_n 1, 1) := by decide +kernel
theorem dX6_best_27 : decode cX6_best 27 = .ok (.ifCond .ne 7, 3) := by decide +kernel
theorem dX6_best_30 : decode cX6_best 30 = .ok (.iload_n 2, 1) := by decide +kernel
theorem dX6_best_31 : decode cX6_best 31 = .ok (.goto 20, 3) := by decide +kernel
theorem dX6_best_34 : decode cX6_best 34 = .ok (.aload_n 0, 1) := by decide +kernel
theorem dX6_best_35 : decode cX6_best 35 = .ok (.getfield 19, 3) := by decide +kernel
theorem dX6_best_38 : decode cX6_best 38 = .ok (.getfield 122, 3) := by decide +kernel
theorem dX6_best_41 : decode cX6_best 41 = .ok (.aload_n 0, 1) := by decide +kernel
theorem dX6_best_42 : decode cX6_best 42 = .ok (.getfield 19, 3) := by decide +kernel
theorem dX6_best_45 : decode cX6_best 45 = .ok (.getfield 166, 3) := by decide +kernel
theorem dX6_best_48 : decode cX6_best 48 = .ok (.iload_n 2, 1) := by decide +kernel
theorem dX6_best_49 : decode cX6_best 49 = .ok (.iaload, 1) := by decide +kernel
theorem dX6_best_50 : decode cX6_best 50 = .ok (.iaload, 1) := by decide +kernel
theorem dX6_best_51 : decode cX6_best 51 = .ok (.ireturn, 1) := by decide +kernel
theorem dX6_bar_0 : decode cX6_bar 0 = .ok (.aload_n 0, 1) := by decide +kernel
theorem dX6_bar_1 : decode cX6_bar 1 = .ok (.getfield 19, 3) := by decide +kernel
theorem dX6_bar_4 : decode cX6_bar 4 = .ok (.iload_n 1, 1) := by decide +kernel
theorem dX6_bar_5 : decode cX6_bar 5 = .ok (.invokevirtual 117, 3) := by decide +kernel
theorem dX6_bar_8 : decode cX6_bar 8 = .ok (.ifCond .eq 10, 3) := by decide +kernel
theorem dX6_bar_11 : decode cX6_bar 11 = .ok (.iload_n 2, 1) := by decide +kernel
theorem dX6_bar_12 : decode cX6_bar 12 = .ok (.invokestatic 148, 3) := by decide +kernel
theorem dX6_bar_15 : decode cX6_bar 15 = .ok (.ifCond .ne 5, 3) := by decide +kernel
theorem dX6_bar_18 : decode cX6_bar 18 = .ok (.iconst (-1), 1) := by decide +kernel
theorem dX6_bar_19 : decode cX6_bar 19 = .ok (.ireturn, 1) := by decide +kernel
theorem dX6_bar_20 : decode cX6_bar 20 = .ok (.aload_n 0, 1) := by decide +kernel
theorem dX6_bar_21 : decode cX6_bar 21 = .ok (.getfield 19, 3) := by decide +kernel
theorem dX6_bar_24 : decode cX6_bar 24 = .ok (.iload_n 1, 1) := by decide +kernel
theorem dX6_bar_25 : decode cX6_bar 25 = .ok (.iload_n 2, 1) := by decide +kernel
theorem dX6_bar_26 : decode cX6_bar 26 = .ok (.invokevirtual 169, 3) := by decide +kernel
theorem dX6_bar_29 : decode cX6_bar 29 = .ok (.ireturn, 1) := by decide +kernel
theorem dX6_chain_0 : decode cX6_chain 0 = .ok (.aload_n 0, 1) := by decide +kernel
theorem dX6_chain_1 : decode cX6_chain 1 = .ok (.getfield 19, 3) := by decide +kernel
theorem dX6_chain_4 : decode cX6_chain 4 = .ok (.iload_n 1, 1) := by decide +kernel
theorem dX6_chain_5 : decode cX6_chain 5 = .ok (.invokevirtual 117, 3) := by decide +kernel
theorem dX6_chain_8 : decode cX6_chain 8 = .ok (.ifCond .eq 13, 3) := by decide +kernel
theorem dX6_chain_11 : decode cX6_chain 11 = .ok (.iload_n 2, 1) := by decide +kernel
theorem dX6_chain_12 : decode cX6_chain 12 = .ok (.ifCond .lt 9, 3) := by decide +kernel
theorem dX6_chain_15 : decode cX6_chain 15 = .ok (.iload_n 2, 1) := by decide +kernel
theorem dX6_chain_16 : decode cX6_chain 16 = .ok (.bipush 99, 2) := by decide +kernel
theorem dX6_chain_18 : decode cX6_chain 18 = .ok (.if_icmp .le 5, 3) := by decide +kernel
theorem dX6_chain_21 : decode cX6_chain 21 = .ok (.iconst (-1), 1) := by decide +kernel
theorem dX6_chain_22 : decode cX6_chain 22 = .ok (.ireturn, 1) := by decide +kernel
theorem dX6_chain_23 : decode cX6_chain 23 = .ok (.aload_n 0, 1) := by decide +kernel
theorem dX6_chain_24 : decode cX6_chain 24 = .ok (.getfield 19, 3) := by decide +kernel
theorem dX6_chain_27 : decode cX6_chain 27 = .ok (.iload_n 1, 1) := by decide +kernel
theorem dX6_chain_28 : decode cX6_chain 28 = .ok (.iload_n 2, 1) := by decide +kernel
theorem dX6_chain_29 : decode cX6_chain 29 = .ok (.invokevirtual 172, 3) := by decide +kernel
theorem dX6_chain_32 : decode cX6_chain 32 = .ok (.ireturn, 1) := by decide +kernel
theorem dX6_ring_0 : decode cX6_ring 0 = .ok (.aload_n 0, 1) := by decide +kernel
theorem dX6_ring_1 : decode cX6_ring 1 = .ok (.getfield 19, 3) := by decide +kernel
theorem dX6_ring_4 : decode cX6_ring 4 = .ok (.iload_n 1, 1) := by decide +kernel
theorem dX6_ring_5 : decode cX6_ring 5 = .ok (.invokevirtual 117, 3) := by decide +kernel
theorem dX6_ring_8 : decode cX6_ring 8 = .ok (.ifCond .ne 5, 3) := by decide +kernel
theorem dX6_ring_11 : decode cX6_ring 11 = .ok (.iconst (-1), 1) := by decide +kernel
theorem dX6_ring_12 : decode cX6_ring 12 = .ok (.ireturn, 1) := by decide +kernel
theorem dX6_ring_13 : decode cX6_ring 13 = .ok (.aload_n 0, 1) := by decide +kernel
theorem dX6_ring_14 : decode cX6_ring 14 = .ok (.getfield 19, 3) := by decide +kernel
theorem dX6_ring_17 : decode cX6_ring 17 = .ok (.iload_n 1, 1) := by decide +kernel
theorem dX6_ring_18 : decode cX6_ring 18 = .ok (.invokevirtual 175, 3) := by decide +kernel
theorem dX6_ring_21 : decode cX6_ring 21 = .ok (.ireturn, 1) := by decide +kernel
theorem dX6_alphabet_0 : decode cX6_alphabet 0 = .ok (.iload_n 1, 1) := by decide +kernel
theorem dX6_alphabet_1 : decode cX6_alphabet 1 = .ok (.iconst 1, 1) := by decide +kernel
theorem dX6_alphabet_2 : decode cX6_alphabet 2 = .ok (.if_icmp .lt 18, 3) := by decide +kernel
theorem dX6_alphabet_5 : decode cX6_alphabet 5 = .ok (.iload_n 1, 1) := by decide +kernel
theorem dX6_alphabet_6 : decode cX6_alphabet 6 = .ok (.bipush 8, 2) := by decide +kernel
theorem dX6_alphabet_8 : decode cX6_alphabet 8 = .ok (.if_icmp .gt 12, 3) := by decide +kernel
theorem dX6_alphabet_11 : decode cX6_alphabet 11 = .ok (.iload_n 2, 1) := by decide +kernel
theorem dX6_alphabet_12 : decode cX6_alphabet 12 = .ok (.ifCond .lt 8, 3) := by decide +kernel
theorem dX6_alphabet_15 : decode cX6_alphabet 15 = .ok (.iload_n 2, 1) := by decide +kernel
theorem dX6_alphabet_16 : decode cX6_alphabet 16 = .ok (.iconst 1, 1) := by decide +kernel
theorem dX6_alphabet_17 : decode cX6_alphabet 17 = .ok (.if_icmp .le 5, 3) := by decide +kernel
theorem dX6_alphabet_20 : decode cX6_alphabet 20 = .ok (.iconst (-1), 1) := by decide +kernel
theorem dX6_alphabet_21 : decode cX6_alphabet 21 = .ok (.ireturn, 1) := by decide +kernel
theorem dX6_alphabet_22 : decode cX6_alphabet 22 = .ok (.aload_n 0, 1) := by decide +kernel
theorem dX6_alphabet_23 : decode cX6_alphabet 23 = .ok (.getfield 19, 3) := by decide +kernel
theorem dX6_alphabet_26 : decode cX6_alphabet 26 = .ok (.iload_n 1, 1) := by decide +kernel
theorem dX6_alphabet_27 : decode cX6_alphabet 27 = .ok (.invokevirtual 178, 3) := by decide +kernel
theorem dX6_alphabet_30 : decode cX6_alphabet 30 = .ok (.istore_n 3, 1) := by decide +kernel
theorem dX6_alphabet_31 : decode cX6_alphabet 31 = .ok (.iload_n 2, 1) := by decide +kernel
theorem dX6_alphabet_32 : decode cX6_alphabet 32 = .ok (.ifCond .ne 7, 3) := by decide +kernel
theorem dX6_alphabet_35 : decode cX6_alphabet 35 = .ok (.iload_n 3, 1) := by decide +kernel
theorem dX6_alphabet_36 : decode cX6_alphabet 36 = .ok (.goto 11, 3) := by decide +kernel
theorem dX6_alphabet_39 : decode cX6_alphabet 39 = .ok (.aload_n 0, 1) := by decide +kernel
theorem dX6_alphabet_40 : decode cX6_alphabet 40 = .ok (.getfield 19, 3) := by decide +kernel
theorem dX6_alphabet_43 : decode cX6_alphabet 43 = .ok (.iload_n 3, 1) := by decide +kernel
theorem dX6_alphabet_44 : decode cX6_alphabet 44 = .ok (.invokevirtual 181, 3) := by decide +kernel
theorem dX6_alphabet_47 : decode cX6_alphabet 47 = .ok (.ireturn, 1) := by decide +kernel
theorem dX6_asked_0 : decode cX6_asked 0 = .ok (.aload_n 0, 1) := by decide +kernel
theorem dX6_asked_1 : decode cX6_asked 1 = .ok (.getfield 19, 3) := by decide +kernel
theorem dX6_asked_4 : decode cX6_asked 4 = .ok (.iload_n 1, 1) := by decide +kernel
theorem dX6_asked_5 : decode cX6_asked 5 = .ok (.invokevirtual 117, 3) := by decide +kernel
theorem dX6_asked_8 : decode cX6_asked 8 = .ok (.ifCond .eq 11, 3) := by decide +kernel
theorem dX6_asked_11 : decode cX6_asked 11 = .ok (.aload_n 0, 1) := by decide +kernel
theorem dX6_asked_12 : decode cX6_asked 12 = .ok (.iload_n 2, 1) := by decide +kernel
theorem dX6_asked_13 : decode cX6_asked 13 = .ok (.invokevirtual 104, 3) := by decide +kernel
theorem dX6_asked_16 : decode cX6_asked 16 = .ok (.ifCond .ne 5, 3) := by decide +kernel
theorem dX6_asked_19 : decode cX6_asked 19 = .ok (.iconst (-1), 1) := by decide +kernel
theorem dX6_asked_20 : decode cX6_asked 20 = .ok (.ireturn, 1) := by decide +kernel
theorem dX6_asked_21 : decode cX6_asked 21 = .ok (.aload_n 0, 1) := by decide +kernel
theorem dX6_asked_22 : decode cX6_asked 22 = .ok (.getfield 19, 3) := by decide +kernel
theorem dX6_asked_25 : decode cX6_asked 25 = .ok (.iload_n 1, 1) := by decide +kernel
theorem dX6_asked_26 : decode cX6_asked 26 = .ok (.aload_n 0, 1) := by decide +kernel
theorem dX6_asked_27 : decode cX6_asked 27 = .ok (.getfield 37, 3) := by decide +kernel
theorem dX6_asked_30 : decode cX6_asked 30 = .ok (.getfield 107, 3) := by decide +kernel
theorem dX6_asked_33 : decode cX6_asked 33 = .ok (.iload_n 2, 1) := by decide +kernel
theorem dX6_asked_34 : decode cX6_asked 34 = .ok (.aaload, 1) := by decide +kernel
theorem dX6_asked_35 : decode cX6_asked 35 = .ok (.invokevirtual 184, 3) := by decide +kernel
theorem dX6_asked_38 : decode cX6_asked 38 = .ok (.invokevirtual 187, 3) := by decide +kernel
theorem dX6_asked_41 : decode cX6_asked 41 = .ok (.ireturn, 1) := by decide +kernel
theorem dX6_rate_0 : decode cX6_rate 0 = .ok (.aload_n 0, 1) := by decide +kernel
theorem dX6_rate_1 : decode cX6_rate 1 = .ok (.iload_n 2, 1) := by decide +kernel
theorem dX6_rate_2 : decode cX6_rate 2 = .ok (.invokevirtual 80, 3) := by decide +kernel
theorem dX6_rate_5 : decode cX6_rate 5 = .ok (.ifCond .ne 6, 3) := by decide +kernel
theorem dX6_rate_8 : decode cX6_rate 8 = .ok (.ldc 190, 2) := by decide +kernel
theorem dX6_rate_10 : decode cX6_rate 10 = .ok (.ireturn, 1) := by decide +kernel
theorem dX6_rate_11 : decode cX6_rate 11 = .ok (.iload_n 1, 1) := by decide +kernel
theorem dX6_rate_12 : decode cX6_rate 12 = .ok (.tableswitch 76 0 5 #[40, 46, 52, 58, 64, 70], 40) := by decide +kernel
theorem dX6_rate_52 : decode cX6_rate 52 = .ok (.aload_n 0, 1) := by decide +kernel
theorem dX6_rate_53 : decode cX6_rate 53 = .ok (.iload_n 2, 1) := by decide +kernel
theorem dX6_rate_54 : decode cX6_rate 54 = .ok (.invokevirtual 191, 3) := by decide +kernel
theorem dX6_rate_57 : decode cX6_rate 57 = .ok (.ireturn, 1) := by decide +kernel
theorem dX6_rate_58 : decode cX6_rate 58 = .ok (.aload_n 0, 1) := by decide +kernel
theorem dX6_rate_59 : decode cX6_rate 59 = .ok (.iload_n 2, 1) := by decide +kernel
theorem dX6_rate_60 : decode cX6_rate 60 = .ok (.invokevirtual 194, 3) := by decide +kernel
theorem dX6_rate_63 : decode cX6_rate 63 = .ok (.ireturn, 1) := by decide +kernel
theorem dX6_rate_64 : decode cX6_rate 64 = .ok (.aload_n 0, 1) := by decide +kernel
theorem dX6_rate_65 : decode cX6_rate 65 = .ok (.iload_n 2, 1) := by decide +kernel
theorem dX6_rate_66 : decode cX6_rate 66 = .ok (.invokevirtual 197, 3) := by decide +kernel
theorem dX6_rate_69 : decode cX6_rate 69 = .ok (.ireturn, 1) := by decide +kernel
theorem dX6_rate_70 : decode cX6_rate 70 = .ok (.aload_n 0, 1) := by decide +kernel
theorem dX6_rate_71 : decode cX6_rate 71 = .ok (.iload_n 2, 1) := by decide +kernel
theorem dX6_rate_72 : decode cX6_rate 72 = .ok (.invokevirtual 200, 3) := by decide +kernel
theorem dX6_rate_75 : decode cX6_rate 75 = .ok (.ireturn, 1) := by decide +kernel
theorem dX6_rate_76 : decode cX6_rate 76 = .ok (.aload_n 0, 1) := by decide +kernel
theorem dX6_rate_77 : decode cX6_rate 77 = .ok (.iload_n 2, 1) := by decide +kernel
theorem dX6_rate_78 : decode cX6_rate 78 = .ok (.invokevirtual 203, 3) := by decide +kernel
theorem dX6_rate_81 : decode cX6_rate 81 = .ok (.ireturn, 1) := by decide +kernel
theorem dX6_rate_82 : decode cX6_rate 82 = .ok (.aload_n 0, 1) := by decide +kernel
theorem dX6_rate_83 : decode cX6_rate 83 = .ok (.iload_n 2, 1) := by decide +kernel
theorem dX6_rate_84 : decode cX6_rate 84 = .ok (.invokevirtual 206, 3) := by decide +kernel
theorem dX6_rate_87 : decode cX6_rate 87 = .ok (.ireturn, 1) := by decide +kernel
theorem dX6_rate_88 : decode cX6_rate 88 = .ok (.ldc 190, 2) := by decide +kernel
theorem dX6_rate_90 : decode cX6_rate 90 = .ok (.ireturn, 1) := by decide +kernel
theorem dX6_keep_0 : decode cX6_keep 0 = .ok (.iload_n 1, 1) := by decide +kernel
theorem dX6_keep_1 : decode cX6_keep 1 = .ok (.ifCond .lt 8, 3) := by decide +kernel
theorem dX6_keep_4 : decode cX6_keep 4 = .ok (.iload_n 1, 1) := by decide +kernel
theorem dX6_keep_5 : decode cX6_keep 5 = .ok (.iconst 2, 1) := by decide +kernel
theorem dX6_keep_6 : decode cX6_keep 6 = .ok (.if_icmp .lt 5, 3) := by decide +kernel
theorem dX6_keep_9 : decode cX6_keep 9 = .ok (.iconst (-1), 1) := by decide +kernel
theorem dX6_keep_10 : decode cX6_keep 10 = .ok (.ireturn, 1) := by decide +kernel
theorem dX6_keep_11 : decode cX6_keep 11 = .ok (.aload_n 0, 1) := by decide +kernel
theorem dX6_keep_12 : decode cX6_keep 12 = .ok (.getfield 30, 3) := by decide +kernel
theorem dX6_keep_15 : decode cX6_keep 15 = .ok (.iload_n 1, 1) := by decide +kernel
theorem dX6_keep_16 : decode cX6_keep 16 = .ok (.aaload, 1) := by decide +kernel
theorem dX6_keep_17 : decode cX6_keep 17 = .ok (.aload_n 0, 1) := by decide +kernel
theorem dX6_keep_18 : decode cX6_keep 18 = .ok (.getfield 26, 3) := by decide +kernel
theorem dX6_keep_21 : decode cX6_keep 21 = .ok (.invokevirtual 209, 3) := by decide +kernel
theorem dX6_keep_24 : decode cX6_keep 24 = .ok (.aload_n 0, 1) := by decide +kernel
theorem dX6_keep_25 : decode cX6_keep 25 = .ok (.getfield 30, 3) := by decide +kernel
theorem dX6_keep_28 : decode cX6_keep 28 = .ok (.iload_n 1, 1) := by decide +kernel
theorem dX6_keep_29 : decode cX6_keep 29 = .ok (.aaload, 1) := by decide +kernel
theorem dX6_keep_30 : decode cX6_keep 30 = .ok (.iconst 1, 1) := by decide +kernel
theorem dX6_keep_31 : decode cX6_keep 31 = .ok (.putfield 70, 3) := by decide +kernel
theorem dX6_keep_34 : decode cX6_keep 34 = .ok (.aload_n 0, 1) := by decide +kernel
theorem dX6_keep_35 : decode cX6_keep 35 = .ok (.getfield 26, 3) := by decide +kernel
theorem dX6_keep_38 : decode cX6_keep 38 = .ok (.getfield 67, 3) := by decide +kernel
theorem dX6_keep_41 : decode cX6_keep 41 = .ok (.ireturn, 1) := by decide +kernel
theorem dX6_back_0 : decode cX6_back 0 = .ok (.iload_n 1, 1) := by decide +kernel
theorem dX6_back_1 : decode cX6_back 1 = .ok (.ifCond .lt 8, 3) := by decide +kernel
theorem dX6_back_4 : decode cX6_back 4 = .ok (.iload_n 1, 1) := by decide +kernel
theorem dX6_back_5 : decode cX6_back 5 = .ok (.iconst 2, 1) := by decide +kernel
theorem dX6_back_6 : decode cX6_back 6 = .ok (.if_icmp .lt 5, 3) := by decide +kernel
theorem dX6_back_9 : decode cX6_back 9 = .ok (.iconst (-1), 1) := by decide +kernel
theorem dX6_back_10 : decode cX6_back 10 = .ok (.ireturn, 1) := by decide +kernel
theorem dX6_back_11 : decode cX6_back 11 = .ok (.aload_n 0, 1) := by decide +kernel
theorem dX6_back_12 : decode cX6_back 12 = .ok (.getfield 30, 3) := by decide +kernel
theorem dX6_back_15 : decode cX6_back 15 = .ok (.iload_n 1, 1) := by decide +kernel
theorem dX6_back_16 : decode cX6_back 16 = .ok (.aaload, 1) := by decide +kernel
theorem dX6_back_17 : decode cX6_back 17 = .ok (.getfield 70, 3) := by decide +kernel
theorem dX6_back_20 : decode cX6_back 20 = .ok (.ifCond .ne 6, 3) := by decide +kernel
theorem dX6_back_23 : decode cX6_back 23 = .ok (.bipush (-2), 2) := by decide +kernel
theorem dX6_back_25 : decode cX6_back 25 = .ok (.ireturn, 1) := by decide +kernel
theorem dX6_back_26 : decode cX6_back 26 = .ok (.aload_n 0, 1) := by decide +kernel
theorem dX6_back_27 : decode cX6_back 27 = .ok (.getfield 26, 3) := by decide +kernel
theorem dX6_back_30 : decode cX6_back 30 = .ok (.aload_n 0, 1) := by decide +kernel
theorem dX6_back_31 : decode cX6_back 31 = .ok (.getfield 30, 3) := by decide +kernel
theorem dX6_back_34 : decode cX6_back 34 = .ok (.iload_n 1, 1) := by decide +kernel
theorem dX6_back_35 : decode cX6_back 35 = .ok (.aaload, 1) := by decide +kernel
theorem dX6_back_36 : decode cX6_back 36 = .ok (.invokevirtual 209, 3) := by decide +kernel
theorem dX6_back_39 : decode cX6_back 39 = .ok (.aload_n 0, 1) := by decide +kernel
theorem dX6_back_40 : decode cX6_back 40 = .ok (.getfield 26, 3) := by decide +kernel
theorem dX6_back_43 : decode cX6_back 43 = .ok (.getfield 67, 3) := by decide +kernel
theorem dX6_back_46 : decode cX6_back 46 = .ok (.ireturn, 1) := by decide +kernel
theorem dX6_count_0 : decode cX6_count 0 = .ok (.iload_n 1, 1) := by decide +kernel
theorem dX6_count_1 : decode cX6_count 1 = .ok (.tableswitch 63 0 3 #[31, 39, 47, 55], 31) := by decide +kernel
theorem dX6_count_32 : decode cX6_count 32 = .ok (.aload_n 0, 1) := by decide +kernel
theorem dX6_count_33 : decode cX6_count 33 = .ok (.getfield 37, 3) := by decide +kernel
theorem dX6_count_36 : decode cX6_count 36 = .ok (.getfield 74, 3) := by decide +kernel
theorem dX6_count_39 : decode cX6_count 39 = .ok (.ireturn, 1) := by decide +kernel
theorem dX6_count_40 : decode cX6_count 40 = .ok (.aload_n 0, 1) := by decide +kernel
theorem dX6_count_41 : decode cX6_count 41 = .ok (.getfield 37, 3) := by decide +kernel
theorem dX6_count_44 : decode cX6_count 44 = .ok (.getfield 77, 3) := by decide +kernel
theorem dX6_count_47 : decode cX6_count 47 = .ok (.ireturn, 1) := by decide +kernel
theorem dX6_count_48 : decode cX6_count 48 = .ok (.aload_n 0, 1) := by decide +kernel
theorem dX6_count_49 : decode cX6_count 49 = .ok (.getfield 26, 3) := by decide +kernel
theorem dX6_count_52 : decode cX6_count 52 = .ok (.getfield 67, 3) := by decide +kernel
theorem dX6_count_55 : decode cX6_count 55 = .ok (.ireturn, 1) := by decide +kernel
theorem dX6_count_56 : decode cX6_count 56 = .ok (.aload_n 0, 1) := by decide +kernel
theorem dX6_count_57 : decode cX6_count 57 = .ok (.getfield 12, 3) := by decide +kernel
theorem dX6_count_60 : decode cX6_count 60 = .ok (.getfield 48, 3) := by decide +kernel
theorem dX6_count_63 : decode cX6_count 63 = .ok (.ireturn, 1) := by decide +kernel
theorem dX6_count_64 : decode cX6_count 64 = .ok (.iconst (-1), 1) := by decide +kernel
theorem dX6_count_65 : decode cX6_count 65 = .ok (.ireturn, 1) := by decide +kernel
theorem dX6_trace_0 : decode cX6_trace 0 = .ok (.aload_n 0, 1) := by decide +kernel
theorem dX6_trace_1 : decode cX6_trace 1 = .ok (.getfield 44, 3) := by decide +kernel
theorem dX6_trace_4 : decode cX6_trace 4 = .ok (.lreturn, 1) := by decide +kernel
theorem dX6_isWord_0 : decode cX6_isWord 0 = .ok (.iload_n 1, 1) := by decide +kernel
theorem dX6_isWord_1 : decode cX6_isWord 1 = .ok (.ifCond .lt 18, 3) := by decide +kernel
theorem dX6_isWord_4 : decode cX6_isWord 4 = .ok (.iload_n 1, 1) := by decide +kernel
theorem dX6_isWord_5 : decode cX6_isWord 5 = .ok (.aload_n 0, 1) := by decide +kernel
theorem dX6_isWord_6 : decode cX6_isWord 6 = .ok (.getfield 37, 3) := by decide +kernel
theorem dX6_isWord_9 : decode cX6_isWord 9 = .ok (.getfield 74, 3) := by decide +kernel
theorem dX6_isWord_12 : decode cX6_isWord 12 = .ok (.if_icmp .ge 7, 3) := by decide +kernel
theorem dX6_isWord_15 : decode cX6_isWord 15 = .ok (.iconst 1, 1) := by decide +kernel
theorem dX6_isWord_16 : decode cX6_isWord 16 = .ok (.goto 4, 3) := by decide +kernel
theorem dX6_isWord_19 : decode cX6_isWord 19 = .ok (.iconst 0, 1) := by decide +kernel
theorem dX6_isWord_20 : decode cX6_isWord 20 = .ok (.ireturn, 1) := by decide +kernel
theorem dX6_isShape_0 : decode cX6_isShape 0 = .ok (.iload_n 1, 1) := by decide +kernel
theorem dX6_isShape_1 : decode cX6_isShape 1 = .ok (.ifCond .lt 18, 3) := by decide +kernel
theorem dX6_isShape_4 : decode cX6_isShape 4 = .ok (.iload_n 1, 1) := by decide +kernel
theorem dX6_isShape_5 : decode cX6_isShape 5 = .ok (.aload_n 0, 1) := by decide +kernel
theorem dX6_isShape_6 : decode cX6_isShape 6 = .ok (.getfield 37, 3) := by decide +kernel
theorem dX6_isShape_9 : decode cX6_isShape 9 = .ok (.getfield 77, 3) := by decide +kernel
theorem dX6_isShape_12 : decode cX6_isShape 12 = .ok (.if_icmp .ge 7, 3) := by decide +kernel
theorem dX6_isShape_15 : decode cX6_isShape 15 = .ok (.iconst 1, 1) := by decide +kernel
theorem dX6_isShape_16 : decode cX6_isShape 16 = .ok (.goto 4, 3) := by decide +kernel
theorem dX6_isShape_19 : decode cX6_isShape 19 = .ok (.iconst 0, 1) := by decide +kernel
theorem dX6_isShape_20 : decode cX6_isShape 20 = .ok (.ireturn, 1) := by decide +kernel
theorem dX6_isSlack_0 : decode cX6_isSlack 0 = .ok (.iload_n 0, 1) := by decide +kernel
theorem dX6_isSlack_1 : decode cX6_isSlack 1 = .ok (.ifCond .lt 12, 3) := by decide +kernel
theorem dX6_isSlack_4 : decode cX6_isSlack 4 = .ok (.iload_n 0, 1) := by decide +kernel
theorem dX6_isSlack_5 : decode cX6_isSlack 5 = .ok (.iconst 2, 1) := by decide +kernel
theorem dX6_isSlack_6 : decode cX6_isSlack 6 = .ok (.if_icmp .gt 7, 3) := by decide +kernel
theorem dX6_isSlack_9 : decode cX6_isSlack 9 = .ok (.iconst 1, 1) := by decide +kernel
theorem dX6_isSlack_10 : decode cX6_isSlack 10 = .ok (.goto 4, 3) := by decide +kernel
theorem dX6_isSlack_13 : decode cX6_isSlack 13 = .ok (.iconst 0, 1) := by decide +kernel
theorem dX6_isSlack_14 : decode cX6_isSlack 14 = .ok (.ireturn, 1) := by decide +kernel
theorem dX6_rateWord_0 : decode cX6_rateWord 0 = .ok (.aload_n 0, 1) := by decide +kernel
theorem dX6_rateWord_1 : decode cX6_rateWord 1 = .ok (.dup, 1) := by decide +kernel
theorem dX6_rateWord_2 : decode cX6_rateWord 2 = .ok (.getfield 44, 3) := by decide +kernel
theorem dX6_rateWord_5 : decode cX6_rateWord 5 = .ok (.lconst 1, 1) := by decide +kernel
theorem dX6_rateWord_6 : decode cX6_rateWord 6 = .ok (.ladd, 1) := by decide +kernel
theorem dX6_rateWord_7 : decode cX6_rateWord 7 = .ok (.putfield 44, 3) := by decide +kernel
theorem dX6_rateWord_10 : decode cX6_rateWord 10 = .ok (.aload_n 0, 1) := by decide +kernel
theorem dX6_rateWord_11 : decode cX6_rateWord 11 = .ok (.getfield 37, 3) := by decide +kernel
theorem dX6_rateWord_14 : decode cX6_rateWord 14 = .ok (.getfield 84, 3) := by decide +kernel
theorem dX6_rateWord_17 : decode cX6_rateWord 17 = .ok (.iload_n 1, 1) := by decide +kernel
theorem dX6_rateWord_18 : decode cX6_rateWord 18 = .ok (.aaload, 1) := by decide +kernel
theorem dX6_rateWord_19 : decode cX6_rateWord 19 = .ok (.getfield 94, 3) := by decide +kernel
theorem dX6_rateWord_22 : decode cX6_rateWord 22 = .ok (.ireturn, 1) := by decide +kernel
theorem dX6_rateVow_0 : decode cX6_rateVow 0 = .ok (.aload_n 0, 1) := by decide +kernel
theorem dX6_rateVow_1 : decode cX6_rateVow 1 = .ok (.dup, 1) := by decide +kernel
theorem dX6_rateVow_2 : decode cX6_rateVow 2 = .ok (.getfield 44, 3) := by decide +kernel
theorem dX6_rateVow_5 : decode cX6_rateVow 5 = .ok (.ldc2_w 213, 3) := by decide +kernel
theorem dX6_rateVow_8 : decode cX6_rateVow 8 = .ok (.ladd, 1) := by decide +kernel
theorem dX6_rateVow_9 : decode cX6_rateVow 9 = .ok (.putfield 44, 3) := by decide +kernel
theorem dX6_rateVow_12 : decode cX6_rateVow 12 = .ok (.aload_n 0, 1) := by decide +kernel
theorem dX6_rateVow_13 : decode cX6_rateVow 13 = .ok (.iload_n 1, 1) := by decide +kernel
theorem dX6_rateVow_14 : decode cX6_rateVow 14 = .ok (.invokevirtual 191, 3) := by decide +kernel
theorem dX6_rateVow_17 : decode cX6_rateVow 17 = .ok (.aload_n 0, 1) := by decide +kernel
theorem dX6_rateVow_18 : decode cX6_rateVow 18 = .ok (.getfield 37, 3) := by decide +kernel
theorem dX6_rateVow_21 : decode cX6_rateVow 21 = .ok (.getfield 84, 3) := by decide +kernel
theorem dX6_rateVow_24 : decode cX6_rateVow 24 = .ok (.iload_n 1, 1) := by decide +kernel
theorem dX6_rateVow_25 : decode cX6_rateVow 25 = .ok (.aaload, 1) := by decide +kernel
theorem dX6_rateVow_26 : decode cX6_rateVow 26 = .ok (.getfield 88, 3) := by decide +kernel
theorem dX6_rateVow_29 : decode cX6_rateVow 29 = .ok (.iadd, 1) := by decide +kernel
theorem dX6_rateVow_30 : decode cX6_rateVow 30 = .ok (.ireturn, 1) := by decide +kernel
theorem dX6_rateBill_0 : decode cX6_rateBill 0 = .ok (.aload_n 0, 1) := by decide +kernel
theorem dX6_rateBill_1 : decode cX6_rateBill 1 = .ok (.dup, 1) := by decide +kernel
theorem dX6_rateBill_2 : decode cX6_rateBill 2 = .ok (.getfield 44, 3) := by decide +kernel
theorem dX6_rateBill_5 : decode cX6_rateBill 5 = .ok (.ldc2_w 215, 3) := by decide +kernel
theorem dX6_rateBill_8 : decode cX6_rateBill 8 = .ok (.ladd, 1) := by decide +kernel
theorem dX6_rateBill_9 : decode cX6_rateBill 9 = .ok (.putfield 44, 3) := by decide +kernel
theorem dX6_rateBill_12 : decode cX6_rateBill 12 = .ok (.aload_n 0, 1) := by decide +kernel
theorem dX6_rateBill_13 : decode cX6_rateBill 13 = .ok (.iload_n 1, 1) := by decide +kernel
theorem dX6_rateBill_14 : decode cX6_rateBill 14 = .ok (.invokevirtual 191, 3) := by decide +kernel
theorem dX6_rateBill_17 : decode cX6_rateBill 17 = .ok (.aload_n 0, 1) := by decide +kernel
theorem dX6_rateBill_18 : decode cX6_rateBill 18 = .ok (.getfield 37, 3) := by decide +kernel
theorem dX6_rateBill_21 : decode cX6_rateBill 21 = .ok (.getfield 84, 3) := by decide +kernel
theorem dX6_rateBill_24 : decode cX6_rateBill 24 = .ok (.iload_n 1, 1) := by decide +kernel
theorem dX6_rateBill_25 : decode cX6_rateBill 25 = .ok (.aaload, 1) := by decide +kernel
theorem dX6_rateBill_26 : decode cX6_rateBill 26 = .ok (.getfield 97, 3) := by decide +kernel
theorem dX6_rateBill_29 : decode cX6_rateBill 29 = .ok (.isub, 1) := by decide +kernel
theorem dX6_rateBill_30 : decode cX6_rateBill 30 = .ok (.ireturn, 1) := by decide +kernel
theorem dX6_rateVerse_0 : decode cX6_rateVerse 0 = .ok (.aload_n 0, 1) := by decide +kernel
theorem dX6_rateVerse_1 : decode cX6_rateVerse 1 = .ok (.dup, 1) := by decide +kernel
theorem dX6_rateVerse_2 : decode cX6_rateVerse 2 = .ok (.getfield 44, 3) := by decide +kernel
theorem dX6_rateVerse_5 : decode cX6_rateVerse 5 = .ok (.ldc2_w 217, 3) := by decide +kernel
theorem dX6_rateVerse_8 : decode cX6_rateVerse 8 = .ok (.ladd, 1) := by decide +kernel
theorem dX6_rateVerse_9 : decode cX6_rateVerse 9 = .ok (.putfield 44, 3) := by decide +kernel
theorem dX6_rateVerse_12 : decode cX6_rateVerse 12 = .ok (.iconst 2, 1) := by decide +kernel
theorem dX6_rateVerse_13 : decode cX6_rateVerse 13 = .ok (.aload_n 0, 1) := by decide +kernel
theorem dX6_rateVerse_14 : decode cX6_rateVerse 14 = .ok (.iload_n 1, 1) := by decide +kernel
theorem dX6_rateVerse_15 : decode cX6_rateVerse 15 = .ok (.invokevirtual 194, 3) := by decide +kernel
theorem dX6_rateVerse_18 : decode cX6_rateVerse 18 = .ok (.imul, 1) := by decide +kernel
theorem dX6_rateVerse_19 : decode cX6_rateVerse 19 = .ok (.ireturn, 1) := by decide +kernel
theorem dX6_rateInsult_0 : decode cX6_rateInsult 0 = .ok (.aload_n 0, 1) := by decide +kernel
theorem dX6_rateInsult_1 : decode cX6_rateInsult 1 = .ok (.dup, 1) := by decide +kernel
theorem dX6_rateInsult_2 : decode cX6_rateInsult 2 = .ok (.getfield 44, 3) := by decide +kernel
theorem dX6_rateInsult_5 : decode cX6_rateInsult 5 = .ok (.ldc2_w 219, 3) := by decide +kernel
theorem dX6_rateInsult_8 : decode cX6_rateInsult 8 = .ok (.ladd, 1) := by decide +kernel
theorem dX6_rateInsult_9 : decode cX6_rateInsult 9 = .ok (.putfield 44, 3) := by decide +kernel
theorem dX6_rateInsult_12 : decode cX6_rateInsult 12 = .ok (.aload_n 0, 1) := by decide +kernel
theorem dX6_rateInsult_13 : decode cX6_rateInsult 13 = .ok (.iload_n 1, 1) := by decide +kernel
theorem dX6_rateInsult_14 : decode cX6_rateInsult 14 = .ok (.invokevirtual 197, 3) := by decide +kernel
theorem dX6_rateInsult_17 : decode cX6_rateInsult 17 = .ok (.iload_n 1, 1) := by decide +kernel
theorem dX6_rateInsult_18 : decode cX6_rateInsult 18 = .ok (.iadd, 1) := by decide +kernel
theorem dX6_rateInsult_19 : decode cX6_rateInsult 19 = .ok (.ireturn, 1) := by decide +kernel
theorem dX6_rateThreat_0 : decode cX6_rateThreat 0 = .ok (.aload_n 0, 1) := by decide +kernel
theorem dX6_rateThreat_1 : decode cX6_rateThreat 1 = .ok (.dup, 1) := by decide +kernel
theorem dX6_rateThreat_2 : decode cX6_rateThreat 2 = .ok (.getfield 44, 3) := by decide +kernel
theorem dX6_rateThreat_5 : decode cX6_rateThreat 5 = .ok (.ldc2_w 221, 3) := by decide +kernel
theorem dX6_rateThreat_8 : decode cX6_rateThreat 8 = .ok (.ladd, 1) := by decide +kernel
theorem dX6_rateThreat_9 : decode cX6_rateThreat 9 = .ok (.putfield 44, 3) := by decide +kernel
theorem dX6_rateThreat_12 : decode cX6_rateThreat 12 = .ok (.aload_n 0, 1) := by decide +kernel
theorem dX6_rateThreat_13 : decode cX6_rateThreat 13 = .ok (.iload_n 1, 1) := by decide +kernel
theorem dX6_rateThreat_14 : decode cX6_rateThreat 14 = .ok (.invokevirtual 191, 3) := by decide +kernel
theorem dX6_rateThreat_17 : decode cX6_rateThreat 17 = .ok (.aload_n 0, 1) := by decide +kernel
theorem dX6_rateThreat_18 : decode cX6_rateThreat 18 = .ok (.getfield 26, 3) := by decide +kernel
theorem dX6_rateThreat_21 : decode cX6_rateThreat 21 = .ok (.iload_n 1, 1) := by decide +kernel
theorem dX6_rateThreat_22 : decode cX6_rateThreat 22 = .ok (.invokevirtual 223, 3) := by decide +kernel
theorem dX6_rateThreat_25 : decode cX6_rateThreat 25 = .ok (.iadd, 1) := by decide +kernel
theorem dX6_rateThreat_26 : decode cX6_rateThreat 26 = .ok (.ireturn, 1) := by decide +kernel
theorem dX7_init_0 : decode cX7_init 0 = .ok (.aload_n 0, 1) := by decide +kernel
theorem dX7_init_1 : decode cX7_init 1 = .ok (.invokespecial 1, 3) := by decide +kernel
theorem dX7_init_4 : decode cX7_init 4 = .ok (.aload_n 0, 1) := by decide +kernel
theorem dX7_init_5 : decode cX7_init 5 = .ok (.sipush 200, 3) := by decide +kernel
theorem dX7_init_8 : decode cX7_init 8 = .ok (.newarray .int, 2) := by decide +kernel
theorem dX7_init_10 : decode cX7_init 10 = .ok (.putfield 7, 3) := by decide +kernel
theorem dX7_init_13 : decode cX7_init 13 = .ok (.aload_n 0, 1) := by decide +kernel
theorem dX7_init_14 : decode cX7_init 14 = .ok (.bipush 110, 2) := by decide +kernel
theorem dX7_init_16 : decode cX7_init 16 = .ok (.newarray .int, 2) := by decide +kernel
theorem dX7_init_18 : decode cX7_init 18 = .ok (.putfield 13, 3) := by decide +kernel
theorem dX7_init_21 : decode cX7_init 21 = .ok (.aload_n 0, 1) := by decide +kernel
theorem dX7_init_22 : decode cX7_init 22 = .ok (.bipush 110, 2) := by decide +kernel
theorem dX7_init_24 : decode cX7_init 24 = .ok (.newarray .int, 2) := by decide +kernel
theorem dX7_init_26 : decode cX7_init 26 = .ok (.putfield 16, 3) := by decide +kernel
theorem dX7_init_29 : decode cX7_init 29 = .ok (.aload_n 0, 1) := by decide +kernel
theorem dX7_init_30 : decode cX7_init 30 = .ok (.bipush 13, 2) := by decide +kernel
theorem dX7_init_32 : decode cX7_init 32 = .ok (.newarray .int, 2) := by decide +kernel
theorem dX7_init_34 : decode cX7_init 34 = .ok (.putfield 19, 3) := by decide +kernel
theorem dX7_init_37 : decode cX7_init 37 = .ok (.aload_n 0, 1) := by decide +kernel
theorem dX7_init_38 : decode cX7_init 38 = .ok (.bipush 26, 2) := by decide +kernel
theorem dX7_init_40 : decode cX7_init 40 = .ok (.newarray .int, 2) := by decide +kernel
theorem dX7_init_42 : decode cX7_init 42 = .ok (.putfield 22, 3) := by decide +kernel
theorem dX7_init_45 : decode cX7_init 45 = .ok (.aload_n 0, 1) := by decide +kernel
theorem dX7_init_46 : decode cX7_init 46 = .ok (.iconst 2, 1) := by decide +kernel
theorem dX7_init_47 : decode cX7_init 47 = .ok (.newarray .boolean, 2) := by decide +kernel
theorem dX7_init_49 : decode cX7_init 49 = .ok (.putfield 25, 3) := by decide +kernel
theorem dX7_init_52 : decode cX7_init 52 = .ok (.aload_n 0, 1) := by decide +kernel
theorem dX7_init_53 : decode cX7_init 53 = .ok (.sipush 820, 3) := by decide +kernel
theorem dX7_init_56 : decode cX7_init 56 = .ok (.newarray .int, 2) := by decide +kernel
theorem dX7_init_58 : decode cX7_init 58 = .ok (.putfield 29, 3) := by decide +kernel
theorem dX7_init_61 : decode cX7_init 61 = .ok (.aload_n 0, 1) := by decide +kernel
theorem dX7_init_62 : decode cX7_init 62 = .ok (.sipush 820, 3) := by decide +kernel
theorem dX7_init_65 : decode cX7_init 65 = .ok (.newarray .int, 2) := by decide +kernel
theorem dX7_init_67 : decode cX7_init 67 = .ok (.putfield 32, 3) := by decide +kernel
theorem dX7_init_70 : decode cX7_init 70 = .ok (.aload_n 0, 1) := by decide +kernel
theorem dX7_init_71 : decode cX7_init 71 = .ok (.sipush 820, 3) := by decide +kernel
theorem dX7_init_74 : decode cX7_init 74 = .ok (.newarray .int, 2) := by decide +kernel
theorem dX7_init_76 : decode cX7_init 76 = .ok (.putfield 35, 3) := by decide +kernel
theorem dX7_init_79 : decode cX7_init 79 = .ok (.aload_n 0, 1) := by decide +kernel
theorem dX7_init_80 : decode cX7_init 80 = .ok (.sipush 820, 3) := by decide +kernel
theorem dX7_init_83 : decode cX7_init 83 = .ok (.newarray .int, 2) := by decide +kernel
theorem dX7_init_85 : decode cX7_init 85 = .ok (.putfield 38, 3) := by decide +kernel
theorem dX7_init_88 : decode cX7_init 88 = .ok (.aload_n 0, 1) := by decide +kernel
theorem dX7_init_89 : decode cX7_init 89 = .ok (.bipush 100, 2) := by decide +kernel
theorem dX7_init_91 : decode cX7_init 91 = .ok (.newarray .int, 2) := by decide +kernel
theorem dX7_init_93 : decode cX7_init 93 = .ok (.putfield 41, 3) := by decide +kernel
theorem dX7_init_96 : decode cX7_init 96 = .ok (.aload_n 0, 1) := by decide +kernel
theorem dX7_init_97 : decode cX7_init 97 = .ok (.invokevirtual 44, 3) := by decide +kernel
theorem dX7_init_100 : decode cX7_init 100 = .ok (.return_, 1) := by decide +kernel
theorem dX7_in_0 : decode cX7_in 0 = .ok (.iload_n 0, 1) := by decide +kernel
theorem dX7_in_1 : decode cX7_in 1 = .ok (.iload_n 1, 1) := by decide +kernel
theorem dX7_in_2 : decode cX7_in 2 = .ok (.if_icmp .lt 12, 3) := by decide +kernel
theorem dX7_in_5 : decode cX7_in 5 = .ok (.iload_n 0, 1) := by decide +kernel
theorem dX7_in_6 : decode cX7_in 6 = .ok (.iload_n 2, 1) := by decide +kernel
theorem dX7_in_7 : decode cX7_in 7 = .ok (.if_icmp .gt 7, 3) := by decide +kernel
theorem dX7_in_10 : decode cX7_in 10 = .ok (.iconst 1, 1) := by decide +kernel
theorem dX7_in_11 : decode cX7_in 11 = .ok (.goto 4, 3) := by decide +kernel
theorem dX7_in_14 : decode cX7_in 14 = .ok (.iconst 0, 1) := by decide +kernel
theorem dX7_in_15 : decode cX7_in 15 = .ok (.ireturn, 1) := by decide +kernel
theorem dX7_isWord_0 : decode cX7_isWord 0 = .ok (.iload_n 1, 1) := by decide +kernel
theorem dX7_isWord_1 : decode cX7_isWord 1 = .ok (.iconst 0, 1) := by decide +kernel
theorem dX7_isWord_2 : decode cX7_isWord 2 = .ok (.aload_n 0, 1) := by decide +kernel
theorem dX7_isWord_3 : decode cX7_isWord 3 = .ok (.getfield 13, 3) := by decide +kernel
theorem dX7_isWord_6 : decode cX7_isWord 6 = .ok (.iconst 0, 1) := by decide +kernel
theorem dX7_isWord_7 : decode cX7_isWord 7 = .ok (.iaload, 1) := by decide +kernel
theorem dX7_isWord_8 : decode cX7_isWord 8 = .ok (.iconst 1, 1) := by decide +kernel
theorem dX7_isWord_9 : decode cX7_isWord 9 = .ok (.isub, 1) := by decide +kernel
theorem dX7_isWord_10 : decode cX7_isWord 10 = .ok (.invokestatic 47, 3) := by decide +kernel
theorem dX7_isWord_13 : decode cX7_isWord 13 = .ok (.ireturn, 1) := by decide +kernel
theorem dX7_isShape_0 : decode cX7_isShape 0 = .ok (.iload_n 1, 1) := by decide +kernel
theorem dX7_isShape_1 : decode cX7_isShape 1 = .ok (.iconst 0, 1) := by decide +kernel
theorem dX7_isShape_2 : decode cX7_isShape 2 = .ok (.aload_n 0, 1) := by decide +kernel
theorem dX7_isShape_3 : decode cX7_isShape 3 = .ok (.getfield 13, 3) := by decide +kernel
theorem dX7_isShape_6 : decode cX7_isShape 6 = .ok (.iconst 1, 1) := by decide +kernel
theorem dX7_isShape_7 : decode cX7_isShape 7 = .ok (.iaload, 1) := by decide +kernel
theorem dX7_isShape_8 : decode cX7_isShape 8 = .ok (.iconst 1, 1) := by decide +kernel
theorem dX7_isShape_9 : decode cX7_isShape 9 = .ok (.isub, 1) := by decide +kernel
theorem dX7_isShape_10 : decode cX7_isShape 10 = .ok (.invokestatic 47, 3) := by decide +kernel
theorem dX7_isShape_13 : decode cX7_isShape 13 = .ok (.ireturn, 1) := by decide +kernel
theorem dX7_type_0 : decode cX7_type 0 = .ok (.iload_n 3, 1) := by decide +kernel
theorem dX7_type_1 : decode cX7_type 1 = .ok (.iconst 1, 1) := by decide +kernel
theorem dX7_type_2 : decode cX7_type 2 = .ok (.bipush 8, 2) := by decide +kernel
theorem dX7_type_4 : decode cX7_type 4 = .ok (.invokestatic 47, 3) := by decide +kernel
theorem dX7_type_7 : decode cX7_type 7 = .ok (.ifCond .ne 5, 3) := by decide +kernel
theorem dX7_type_10 : decode cX7_type 10 = .ok (.iconst (-1), 1) := by decide +kernel
theorem dX7_type_11 : decode cX7_type 11 = .ok (.ireturn, 1) := by decide +kernel
theorem dX7_type_12 : decode cX7_type 12 = .ok (.aload_n 0, 1) := by decide +kernel
theorem dX7_type_13 : decode cX7_type 13 = .ok (.getfield 51, 3) := by decide +kernel
theorem dX7_type_16 : decode cX7_type 16 = .ok (.iload_n 3, 1) := by decide +kernel
theorem dX7_type_17 : decode cX7_type 17 = .ok (.iadd, 1) := by decide +kernel
theorem dX7_type_18 : decode cX7_type 18 = .ok (.sipush 200, 3) := by decide +kernel
theorem dX7_type_21 : decode cX7_type 21 = .ok (.if_icmp .le 6, 3) := by decide +kernel
theorem dX7_type_24 : decode cX7_type 24 = .ok (.bipush (-3), 2) := by decide +kernel
theorem dX7_type_26 : decode cX7_type 26 = .ok (.ireturn, 1) := by decide +kernel
theorem dX7_type_27 : decode cX7_type 27 = .ok (.iload_n 3, 1) := by decide +kernel
theorem dX7_type_28 : decode cX7_type 28 = .ok (.iconst 1, 1) := by decide +kernel
theorem dX7_type_29 : decode cX7_type 29 = .ok (.isub, 1) := by decide +kernel
theorem dX7_type_30 : decode cX7_type 30 = .ok (.istore 4, 2) := by decide +kernel
theorem dX7_type_32 : decode cX7_type 32 = .ok (.iload 4, 2) := by decide +kernel
theorem dX7_type_34 : decode cX7_type 34 = .ok (.ifCond .lt 40, 3) := by decide +kernel
theorem dX7_type_37 : decode cX7_type 37 = .ok (.aload_n 0, 1) := by decide +kernel
theorem dX7_type_38 : decode cX7_type 38 = .ok (.getfield 7, 3) := by decide +kernel
theorem dX7_type_41 : decode cX7_type 41 = .ok (.aload_n 0, 1) := by decide +kernel
theorem dX7_type_42 : decode cX7_type 42 = .ok (.getfield 51, 3) := by decide +kernel
theorem dX7_type_45 : decode cX7_type 45 = .ok (.lload_n 1, 1) := by decide +kernel
theorem dX7_type_46 : decode cX7_type 46 = .ok (.bipush 8, 2) := by decide +kernel
theorem dX7_type_48 : decode cX7_type 48 = .ok (.iload 4, 2) := by decide +kernel
theorem dX7_type_50 : decode cX7_type 50 = .ok (.imul, 1) := by decide +kernel
theorem dX7_type_51 : decode cX7_type 51 = .ok (.lshr, 1) := by decide +kernel
theorem dX7_type_52 : decode cX7_type 52 = .ok (.ldc2_w 55, 3) := by decide +kernel
theorem dX7_type_55 : decode cX7_type 55 = .ok (.land, 1) := by decide +kernel
theorem dX7_type_56 : decode cX7_type 56 = .ok (.l2i, 1) := by decide +kernel
theorem dX7_type_57 : decode cX7_type 57 = .ok (.iastore, 1) := by decide +kernel
theorem dX7_type_58 : decode cX7_type 58 = .ok (.aload_n 0, 1) := by decide +kernel
theorem dX7_type_59 : decode cX7_type 59 = .ok (.dup, 1) := by decide +kernel
theorem dX7_type_60 : decode cX7_type 60 = .ok (.getfield 51, 3) := by decide +kernel
theorem dX7_type_63 : decode cX7_type 63 = .ok (.iconst 1, 1) := by decide +kernel
theorem dX7_type_64 : decode cX7_type 64 = .ok (.iadd, 1) := by decide +kernel
theorem dX7_type_65 : decode cX7_type 65 = .ok (.putfield 51, 3) := by decide +kernel
theorem dX7_type_68 : decode cX7_type 68 = .ok (.iinc 4 (-1), 3) := by decide +kernel
theorem dX7_type_71 : decode cX7_type 71 = .ok (.goto (-39), 3) := by decide +kernel
theorem dX7_type_74 : decode cX7_type 74 = .ok (.aload_n 0, 1) := by decide +kernel
theorem dX7_type_75 : decode cX7_type 75 = .ok (.getfield 51, 3) := by decide +kernel
theorem dX7_type_78 : decode cX7_type 78 = .ok (.ireturn, 1) := by decide +kernel
theorem dX7_clear_0 : decode cX7_clear 0 = .ok (.aload_n 0, 1) := by decide +kernel
theorem dX7_clear_1 : decode cX7_clear 1 = .ok (.getfield 51, 3) := by decide +kernel
theorem dX7_clear_4 : decode cX7_clear 4 = .ok (.istore_n 1, 1) := by decide +kernel
theorem dX7_clear_5 : decode cX7_clear 5 = .ok (.aload_n 0, 1) := by decide +kernel
theorem dX7_clear_6 : decode cX7_clear 6 = .ok (.iconst 0, 1) := by decide +kernel
theorem dX7_clear_7 : decode cX7_clear 7 = .ok (.putfield 51, 3) := by decide +kernel
theorem dX7_clear_10 : decode cX7_clear 10 = .ok (.iload_n 1, 1) := by decide +kernel
theorem dX7_clear_11 : decode cX7_clear 11 = .ok (.ireturn, 1) := by decide +kernel
theorem dX7_byteAt_0 : decode cX7_byteAt 0 = .ok (.iload_n 1, 1) := by decide +kernel
theorem dX7_byteAt_1 : decode cX7_byteAt 1 = .ok (.aload_n 0, 1) := by decide +kernel
theorem dX7_byteAt_2 : decode cX7_byteAt 2 = .ok (.getfield 51, 3) := by decide +kernel
theorem dX7_byteAt_5 : decode cX7_byteAt 5 = .ok (.if_icmp .ge 12, 3) := by decide +kernel
theorem dX7_byteAt_8 : decode cX7_byteAt 8 = .ok (.aload_n 0, 1) := by decide +kernel
theorem dX7_byteAt_9 : decode cX7_byteAt 9 = .ok (.getfield 7, 3) := by decide +kernel
theorem dX7_byteAt_12 : decode cX7_byteAt 12 = .ok (.iload_n 1, 1) := by decide +kernel
theorem dX7_byteAt_13 : decode cX7_byteAt 13 = .ok (.iaload, 1) := by decide +kernel
theorem dX7_byteAt_14 : decode cX7_byteAt 14 = .ok (.goto 4, 3) := by decide +kernel
theorem dX7_byteAt_17 : decode cX7_byteAt 17 = .ok (.iconst (-1), 1) := by decide +kernel
theorem dX7_byteAt_18 : decode cX7_byteAt 18 = .ok (.ireturn, 1) := by decide +kernel
theorem dX7_sortOf_0 : decode cX7_sortOf 0 = .ok (.iload_n 0, 1) := by decide +kernel
theorem dX7_sortOf_1 : decode cX7_sortOf 1 = .ok (.ifCond .ge 7, 3) := by decide +kernel
theorem dX7_sortOf_4 : decode cX7_sortOf 4 = .ok (.iconst 0, 1) := by decide +kernel
theorem dX7_sortOf_5 : decode cX7_sortOf 5 = .ok (.goto 44, 3) := by decide +kernel
theorem dX7_sortOf_8 : decode cX7_sortOf 8 = .ok (.iload_n 0, 1) := by decide +kernel
theorem dX7_sortOf_9 : decode cX7_sortOf 9 = .ok (.bipush 97, 2) := by decide +kernel
theorem dX7_sortOf_11 : decode cX7_sortOf 11 = .ok (.bipush 122, 2) := by decide +kernel
theorem dX7_sortOf_13 : decode cX7_sortOf 13 = .ok (.invokestatic 47, 3) := by decide +kernel
theorem dX7_sortOf_16 : decode cX7_sortOf 16 = .ok (.ifCond .eq 7, 3) := by decide +kernel
theorem dX7_sortOf_19 : decode cX7_sortOf 19 = .ok (.iconst 1, 1) := by decide +kernel
theorem dX7_sortOf_20 : decode cX7_sortOf 20 = .ok (.goto 29, 3) := by decide +kernel
theorem dX7_sortOf_23 : decode cX7_sortOf 23 = .ok (.iload_n 0, 1) := by decide +kernel
theorem dX7_sortOf_24 : decode cX7_sortOf 24 = .ok (.bipush 48, 2) := by decide +kernel
theorem dX7_sortOf_26 : decode cX7_sortOf 26 = .ok (.bipush 57, 2) := by decide +kernel
theorem dX7_sortOf_28 : decode cX7_sortOf 28 = .ok (.invokestatic 47, 3) := by decide +kernel
theorem dX7_sortOf_31 : decode cX7_sortOf 31 = .ok (.ifCond .eq 7, 3) := by decide +kernel
theorem dX7_sortOf_34 : decode cX7_sortOf 34 = .ok (.iconst 2, 1) := by decide +kernel
theorem dX7_sortOf_35 : decode cX7_sortOf 35 = .ok (.goto 14, 3) := by decide +kernel
theorem dX7_sortOf_38 : decode cX7_sortOf 38 = .ok (.iload_n 0, 1) := by decide +kernel
theorem dX7_sortOf_39 : decode cX7_sortOf 39 = .ok (.bipush 59, 2) := by decide +kernel
theorem dX7_sortOf_41 : decode cX7_sortOf 41 = .ok (.if_icmp .ne 7, 3) := by decide +kernel
theorem dX7_sortOf_44 : decode cX7_sortOf 44 = .ok (.iconst 3, 1) := by decide +kernel
theorem dX7_sortOf_45 : decode cX7_sortOf 45 = .ok (.goto 4, 3) := by decide +kernel
theorem dX7_sortOf_48 : decode cX7_sortOf 48 = .ok (.iconst 4, 1) := by decide +kernel
theorem dX7_sortOf_49 : decode cX7_sortOf 49 = .ok (.ireturn, 1) := by decide +kernel
theorem dX7_token_0 : decode cX7_token 0 = .ok (.aload_n 0, 1) := by decide +kernel
theorem dX7_token_1 : decode cX7_token 1 = .ok (.aload_n 0, 1) := by decide +kernel
theorem dX7_token_2 : decode cX7_token 2 = .ok (.getfield 57, 3) := by decide +kernel
theorem dX7_token_5 : decode cX7_token 5 = .ok (.invokevirtual 60, 3) := by decide +kernel
theorem dX7_token_8 : decode cX7_token 8 = .ok (.bipush 32, 2) := by decide +kernel
theorem dX7_token_10 : decode cX7_token 10 = .ok (.if_icmp .ne 16, 3) := by decide +kernel
theorem dX7_token_13 : decode cX7_token 13 = .ok (.aload_n 0, 1) := by decide +kernel
theorem dX7_token_14 : decode cX7_token 14 = .ok (.dup, 1) := by decide +kernel
theorem dX7_token_15 : decode cX7_token 15 = .ok (.getfield 57, 3) := by decide +kernel
theorem dX7_token_18 : decode cX7_token 18 = .ok (.iconst 1, 1) := by decide +kernel
theorem dX7_token_19 : decode cX7_token 19 = .ok (.iadd, 1) := by decide +kernel
theorem dX7_token_20 : decode cX7_token 20 = .ok (.putfield 57, 3) := by decide +kernel
theorem dX7_token_23 : decode cX7_token 23 = .ok (.goto (-23), 3) := by decide +kernel
theorem dX7_token_26 : decode cX7_token 26 = .ok (.aload_n 0, 1) := by decide +kernel
theorem dX7_token_27 : decode cX7_token 27 = .ok (.aload_n 0, 1) := by decide +kernel
theorem dX7_token_28 : decode cX7_token 28 = .ok (.getfield 57, 3) := by decide +kernel
theorem dX7_token_31 : decode cX7_token 31 = .ok (.putfield 64, 3) := by decide +kernel
theorem dX7_token_34 : decode cX7_token 34 = .ok (.aload_n 0, 1) := by decide +kernel
theorem dX7_token_35 : decode cX7_token 35 = .ok (.aload_n 0, 1) := by decide +kernel
theorem dX7_token_36 : decode cX7_token 36 = .ok (.aload_n 0, 1) := by decide +kernel
theorem dX7_token_37 : decode cX7_token 37 = .ok (.getfield 57, 3) := by decide +kernel
theorem dX7_token_40 : decode cX7_token 40 = .ok (.invokevirtual 60, 3) := by decide +kernel
theorem dX7_token_43 : decode cX7_token 43 = .ok (.invokestatic 67, 3) := by decide +kernel
theorem dX7_token_46 : decode cX7_token 46 = .ok (.putfield 70, 3) := by decide +kernel
theorem dX7_token_49 : decode cX7_token 49 = .ok (.aload_n 0, 1) := by decide +kernel
theorem dX7_token_50 : decode cX7_token 50 = .ok (.iconst 0, 1) := by decide +kernel
theorem dX7_token_51 : decode cX7_token 51 = .ok (.putfield 73, 3) := by decide +kernel
theorem dX7_token_54 : decode cX7_token 54 = .ok (.aload_n 0, 1) := by decide +kernel
theorem dX7_token_55 : decode cX7_token 55 = .ok (.getfield 73, 3) := by decide +kernel
theorem dX7_token_58 : decode cX7_token 58 = .ok (.ifCond .ne 10, 3) := by decide +kernel
theorem dX7_token_61 : decode cX7_token 61 = .ok (.aload_n 0, 1) := by decide +kernel
theorem dX7_token_62 : decode cX7_token 62 = .ok (.getfield 70, 3) := by decide +kernel
theorem dX7_token_65 : decode cX7_token 65 = .ok (.ifCond .ne 37, 3) := by decide +kernel
theorem dX7_token_68 : decode cX7_token 68 = .ok (.aload_n 0, 1) := by decide +kernel
theorem dX7_token_69 : decode cX7_token 69 = .ok (.getfield 70, 3) := by decide +kernel
theorem dX7_token_72 : decode cX7_token 72 = .ok (.iconst 1, 1) := by decide +kernel
theorem dX7_token_73 : decode cX7_token 73 = .ok (.if_icmp .eq 11, 3) := by decide +kernel
theorem dX7_token_76 : decode cX7_token 76 = .ok (.aload_n 0, 1) := by decide +kernel
theorem dX7_token_77 : decode cX7_token 77 = .ok (.getfield 70, 3) := by decide +kernel
theorem dX7_token_80 : decode cX7_token 80 = .ok (.iconst 2, 1) := by decide +kernel
theorem dX7_token_81 : decode cX7_token 81 = .ok (.if_icmp .ne 44, 3) := by decide +kernel
theorem dX7_token_84 : decode cX7_token 84 = .ok (.aload_n 0, 1) := by decide +kernel
theorem dX7_token_85 : decode cX7_token 85 = .ok (.aload_n 0, 1) := by decide +kernel
theorem dX7_token_86 : decode cX7_token 86 = .ok (.getfield 57, 3) := by decide +kernel
theorem dX7_token_89 : decode cX7_token 89 = .ok (.invokevirtual 60, 3) := by decide +kernel
theorem dX7_token_92 : decode cX7_token 92 = .ok (.invokestatic 67, 3) := by decide +kernel
theorem dX7_token_95 : decode cX7_token 95 = .ok (.aload_n 0, 1) := by decide +kernel
theorem dX7_token_96 : decode cX7_token 96 = .ok (.getfield 70, 3) := by decide +kernel
theorem dX7_token_99 : decode cX7_token 99 = .ok (.if_icmp .ne 26, 3) := by decide +kernel
theorem dX7_token_102 : decode cX7_token 102 = .ok (.aload_n 0, 1) := by decide +kernel
theorem dX7_token_103 : decode cX7_token 103 = .ok (.dup, 1) := by decide +kernel
theorem dX7_token_104 : decode cX7_token 104 = .ok (.getfield 57, 3) := by decide +kernel
theorem dX7_token_107 : decode cX7_token 107 = .ok (.iconst 1, 1) := by decide +kernel
theorem dX7_token_108 : decode cX7_token 108 = .ok (.iadd, 1) := by decide +kernel
theorem dX7_token_109 : decode cX7_token 109 = .ok (.putfield 57, 3) := by decide +kernel
theorem dX7_token_112 : decode cX7_token 112 = .ok (.aload_n 0, 1) := by decide +kernel
theorem dX7_token_113 : decode cX7_token 113 = .ok (.dup, 1) := by decide +kernel
theorem dX7_token_114 : decode cX7_token 114 = .ok (.getfield 73, 3) := by decide +kernel
theorem dX7_token_117 : decode cX7_token 117 = .ok (.iconst 1, 1) := by decide +kernel
theorem dX7_token_118 : decode cX7_token 118 = .ok (.iadd, 1) := by decide +kernel
theorem dX7_token_119 : decode cX7_token 119 = .ok (.putfield 73, 3) := by decide +kernel
theorem dX7_token_122 : decode cX7_token 122 = .ok (.goto (-68), 3) := by decide +kernel
theorem dX7_token_125 : decode cX7_token 125 = .ok (.return_, 1) := by decide +kernel
theorem dX7_verb_0 : decode cX7_verb 0 = .ok (.lconst 0, 1) := by decide +kernel
theorem dX7_verb_1 : decode cX7_verb 1 = .ok (.lstore_n 1, 1) := by decide +kernel
theorem dX7_verb_2 : decode cX7_verb 2 = .ok (.iconst 0, 1) := by decide +kernel
theorem dX7_verb_3 : decode cX7_verb 3 = .ok (.istore_n 3, 1) := by decide +kernel
theorem dX7_verb_4 : decode cX7_verb 4 = .ok (.iload_n 3, 1) := by decide +kernel
theorem dX7_verb_5 : decode cX7_verb 5 = .ok (.aload_n 0, 1) := by decide +kernel
theorem dX7_verb_6 : decode cX7_verb 6 = .ok (.getfield 73, 3) := by decide +kernel
theorem dX7_verb_9 : decode cX7_verb 9 = .ok (.if_icmp .ge 44, 3) := by decide +kernel
theorem dX7_verb_12 : decode cX7_verb 12 = .ok (.aload_n 0, 1) := by decide +kernel
theorem dX7_verb_13 : decode cX7_verb 13 = .ok (.getfield 73, 3) := by decide +kernel
theorem dX7_verb_16 : decode cX7_verb 16 = .ok (.bipush 6, 2) := by decide +kernel
theorem dX7_verb_18 : decode cX7_verb 18 = .ok (.if_icmp .ge 35, 3) := by decide +kernel
theorem dX7_verb_21 : decode cX7_verb 21 = .ok (.aload_n 0, 1) := by decide +kernel
theorem dX7_verb_22 : decode cX7_verb 22 = .ok (.getfield 70, 3) := by decide +kernel
theorem dX7_verb_25 : decode cX7_verb 25 = .ok (.iconst 1, 1) := by decide +kernel
theorem dX7_verb_26 : decode cX7_verb 26 = .ok (.if_icmp .ne 27, 3) := by decide +kernel
theorem dX7_verb_29 : decode cX7_verb 29 = .ok (.ldc2_w 76, 3) := by decide +kernel
theorem dX7_verb_32 : decode cX7_verb 32 = .ok (.lload_n 1, 1) := by decide +kernel
theorem dX7_verb_33 : decode cX7_verb 33 = .ok (.lmul, 1) := by decide +kernel
theorem dX7_verb_34 : decode cX7_verb 34 = .ok (.aload_n 0, 1) := by decide +kernel
theorem dX7_verb_35 : decode cX7_verb 35 = .ok (.aload_n 0, 1) := by decide +kernel
theorem dX7_verb_36 : decode cX7_verb 36 = .ok (.getfield 64, 3) := by decide +kernel
theorem dX7_verb_39 : decode cX7_verb 39 = .ok (.iload_n 3, 1) := by decide +kernel
theorem dX7_verb_40 : decode cX7_verb 40 = .ok (.iadd, 1) := by decide +kernel
theorem dX7_verb_41 : decode cX7_verb 41 = .ok (.invokevirtual 60, 3) := by decide +kernel
theorem dX7_verb_44 : decode cX7_verb 44 = .ok (.i2l, 1) := by decide +kernel
theorem dX7_verb_45 : decode cX7_verb 45 = .ok (.ladd, 1) := by decide +kernel
theorem dX7_verb_46 : decode cX7_verb 46 = .ok (.lstore_n 1, 1) := by decide +kernel
theorem dX7_verb_47 : decode cX7_verb 47 = .ok (.iinc 3 1, 3) := by decide +kernel
theorem dX7_verb_50 : decode cX7_verb 50 = .ok (.goto (-46), 3) := by decide +kernel
theorem dX7_verb_53 : decode cX7_verb 53 = .ok (.lload_n 1, 1) := by decide +kernel
theorem dX7_verb_54 : decode cX7_verb 54 = .ok (.ldc2_w 78, 3) := by decide +kernel
theorem dX7_verb_57 : decode cX7_verb 57 = .ok (.lcmp, 1) := by decide +kernel
theorem dX7_verb_58 : decode cX7_verb 58 = .ok (.ifCond .ne 7, 3) := by decide +kernel
theorem dX7_verb_61 : decode cX7_verb 61 = .ok (.iconst 0, 1) := by decide +kernel
theorem dX7_verb_62 : decode cX7_verb 62 = .ok (.goto 17, 3) := by decide +kernel
theorem dX7_verb_65 : decode cX7_verb 65 = .ok (.lload_n 1, 1) := by decide +kernel
theorem dX7_verb_66 : decode cX7_verb 66 = .ok (.ldc2_w 80, 3) := by decide +kernel
theorem dX7_verb_69 : decode cX7_verb 69 = .ok (.lcmp, 1) := by decide +kernel
theorem dX7_verb_70 : decode cX7_verb 70 = .ok (.ifCond .ne 7, 3) := by decide +kernel
theorem dX7_verb_73 : decode cX7_verb 73 = .ok (.iconst 1, 1) := by decide +kernel
theorem dX7_verb_74 : decode cX7_verb 74 = .ok (.goto 5, 3) := by decide +kernel
theorem dX7_verb_77 : decode cX7_verb 77 = .ok (.bipush (-9), 2) := by decide +kernel
theorem dX7_verb_79 : decode cX7_verb 79 = .ok (.ireturn, 1) := by decide +kernel
theorem dX7_figure_0 : decode cX7_figure 0 = .ok (.aload_n 0, 1) := by decide +kernel
theorem dX7_figure_1 : decode cX7_figure 1 = .ok (.aload_n 0, 1) := by decide +kernel
theorem dX7_figure_2 : decode cX7_figure 2 = .ok (.getfield 64, 3) := by decide +kernel
theorem dX7_figure_5 : decode cX7_figure 5 = .ok (.invokevirtual 60, 3) := by decide +kernel
theorem dX7_figure_8 : decode cX7_figure 8 = .ok (.bipush 48, 2) := by decide +kernel
theorem dX7_figure_10 : decode cX7_figure 10 = .ok (.isub, 1) := by decide +kernel
theorem dX7_figure_11 : decode cX7_figure 11 = .ok (.istore_n 2, 1) := by decide +kernel
theorem dX7_figure_12 : decode cX7_figure 12 = .ok (.aload_n 0, 1) := by decide +kernel
theorem dX7_figure_13 : decode cX7_figure 13 = .ok (.getfield 70, 3) := by decide +kernel
theorem dX7_figure_16 : decode cX7_figure 16 = .ok (.iconst 2, 1) := by decide +kernel
theorem dX7_figure_17 : decode cX7_figure 17 = .ok (.if_icmp .ne 20, 3) := by decide +kernel
theorem dX7_figure_20 : decode cX7_figure 20 = .ok (.aload_n 0, 1) := by decide +kernel
theorem dX7_figure_21 : decode cX7_figure 21 = .ok (.getfield 73, 3) := by decide +kernel
theorem dX7_figure_24 : decode cX7_figure 24 = .ok (.iconst 1, 1) := by decide +kernel
theorem dX7_figure_25 : decode cX7_figure 25 = .ok (.if_icmp .ne 12, 3) := by decide +kernel
theorem dX7_figure_28 : decode cX7_figure 28 = .ok (.iload_n 2, 1) := by decide +kernel
theorem dX7_figure_29 : decode cX7_figure 29 = .ok (.iload_n 1, 1) := by decide +kernel
theorem dX7_figure_30 : decode cX7_figure 30 = .ok (.if_icmp .gt 7, 3) := by decide +kernel
theorem dX7_figure_33 : decode cX7_figure 33 = .ok (.iload_n 2, 1) := by decide +kernel
theorem dX7_figure_34 : decode cX7_figure 34 = .ok (.goto 5, 3) := by decide +kernel
theorem dX7_figure_37 : decode cX7_figure 37 = .ok (.bipush (-9), 2) := by decide +kernel
theorem dX7_figure_39 : decode cX7_figure 39 = .ok (.ireturn, 1) := by decide +kernel
theorem dX7_readsSigns_0 : decode cX7_readsSigns 0 = .ok (.aload_n 0, 1) := by decide +kernel
theorem dX7_readsSigns_1 : decode cX7_readsSigns 1 = .ok (.invokevirtual 82, 3) := by decide +kernel
theorem dX7_readsSigns_4 : decode cX7_readsSigns 4 = .ok (.aload_n 0, 1) := by decide +kernel
theorem dX7_readsSigns_5 : decode cX7_readsSigns 5 = .ok (.getfield 70, 3) := by decide +kernel
theorem dX7_readsSigns_8 : decode cX7_readsSigns 8 = .ok (.iconst 1, 1) := by decide +kernel
theorem dX7_readsSigns_9 : decode cX7_readsSigns 9 = .ok (.if_icmp .ne 16, 3) := by decide +kernel
theorem dX7_readsSigns_12 : decode cX7_readsSigns 12 = .ok (.aload_n 0, 1) := by decide +kernel
theorem dX7_readsSigns_13 : decode cX7_readsSigns 13 = .ok (.getfield 73, 3) := by decide +kernel
theorem dX7_readsSigns_16 : decode cX7_readsSigns 16 = .ok (.bipush 6, 2) := by decide +kernel
theorem dX7_readsSigns_18 : decode cX7_readsSigns 18 = .ok (.if_icmp .ge 7, 3) := by decide +kernel
theorem dX7_readsSigns_21 : decode cX7_readsSigns 21 = .ok (.iconst 1, 1) := by decide +kernel
theorem dX7_readsSigns_22 : decode cX7_readsSigns 22 = .ok (.goto 4, 3) := by decide +kernel
theorem dX7_readsSigns_25 : decode cX7_readsSigns 25 = .ok (.iconst 0, 1) := by decide +kernel
theorem dX7_readsSigns_26 : decode cX7_readsSigns 26 = .ok (.istore_n 2, 1) := by decide +kernel
theorem dX7_readsSigns_27 : decode cX7_readsSigns 27 = .ok (.iconst 0, 1) := by decide +kernel
theorem dX7_readsSigns_28 : decode cX7_readsSigns 28 = .ok (.istore_n 3, 1) := by decide +kernel
theorem dX7_readsSigns_29 : decode cX7_readsSigns 29 = .ok (.iload_n 3, 1) := by decide +kernel
theorem dX7_readsSigns_30 : decode cX7_readsSigns 30 = .ok (.aload_n 0, 1) := by decide +kernel
theorem dX7_readsSigns_31 : decode cX7_readsSigns 31 = .ok (.getfield 73, 3) := by decide +kernel
theorem dX7_readsSigns_34 : decode cX7_readsSigns 34 = .ok (.if_icmp .ge 60, 3) := by decide +kernel
theorem dX7_readsSigns_37 : decode cX7_readsSigns 37 = .ok (.iload_n 2, 1) := by decide +kernel
theorem dX7_readsSigns_38 : decode cX7_readsSigns 38 = .ok (.ifCond .eq 56, 3) := by decide +kernel
theorem dX7_readsSigns_41 : decode cX7_readsSigns 41 = .ok (.aload_n 0, 1) := by decide +kernel
theorem dX7_readsSigns_42 : decode cX7_readsSigns 42 = .ok (.getfield 16, 3) := by decide +kernel
theorem dX7_readsSigns_45 : decode cX7_readsSigns 45 = .ok (.bipush 39, 2) := by decide +kernel
theorem dX7_readsSigns_47 : decode cX7_readsSigns 47 = .ok (.iconst 5, 1) := by decide +kernel
theorem dX7_readsSigns_48 : decode cX7_readsSigns 48 = .ok (.iload_n 1, 1) := by decide +kernel
theorem dX7_readsSigns_49 : decode cX7_readsSigns 49 = .ok (.imul, 1) := by decide +kernel
theorem dX7_readsSigns_50 : decode cX7_readsSigns 50 = .ok (.iadd, 1) := by decide +kernel
theorem dX7_readsSigns_51 : decode cX7_readsSigns 51 = .ok (.iload_n 3, 1) := by decide +kernel
theorem dX7_readsSigns_52 : decode cX7_readsSigns 52 = .ok (.iadd, 1) := by decide +kernel
theorem dX7_readsSigns_53 : decode cX7_readsSigns 53 = .ok (.aload_n 0, 1) := by decide +kernel
theorem dX7_readsSigns_54 : decode cX7_readsSigns 54 = .ok (.aload_n 0, 1) := by decide +kernel
theorem dX7_readsSigns_55 : decode cX7_readsSigns 55 = .ok (.getfield 64, 3) := by decide +kernel
theorem dX7_readsSigns_58 : decode cX7_readsSigns 58 = .ok (.iload_n 3, 1) := by decide +kernel
theorem dX7_readsSigns_59 : decode cX7_readsSigns 59 = .ok (.iadd, 1) := by decide +kernel
theorem dX7_readsSigns_60 : decode cX7_readsSigns 60 = .ok (.invokevirtual 60, 3) := by decide +kernel
theorem dX7_readsSigns_63 : decode cX7_readsSigns 63 = .ok (.bipush 97, 2) := by decide +kernel
theorem dX7_readsSigns_65 : decode cX7_readsSigns 65 = .ok (.isub, 1) := by decide +kernel
theorem dX7_readsSigns_66 : decode cX7_readsSigns 66 = .ok (.iastore, 1) := by decide +kernel
theorem dX7_readsSigns_67 : decode cX7_readsSigns 67 = .ok (.aload_n 0, 1) := by decide +kernel
theorem dX7_readsSigns_68 : decode cX7_readsSigns 68 = .ok (.aload_n 0, 1) := by decide +kernel
theorem dX7_readsSigns_69 : decode cX7_readsSigns 69 = .ok (.getfield 64, 3) := by decide +kernel
theorem dX7_readsSigns_72 : decode cX7_readsSigns 72 = .ok (.iload_n 3, 1) := by decide +kernel
theorem dX7_readsSigns_73 : decode cX7_readsSigns 73 = .ok (.iadd, 1) := by decide +kernel
theorem dX7_readsSigns_74 : decode cX7_readsSigns 74 = .ok (.invokevirtual 60, 3) := by decide +kernel
theorem dX7_readsSigns_77 : decode cX7_readsSigns 77 = .ok (.bipush 104, 2) := by decide +kernel
theorem dX7_readsSigns_79 : decode cX7_readsSigns 79 = .ok (.if_icmp .gt 7, 3) := by decide +kernel
theorem dX7_readsSigns_82 : decode cX7_readsSigns 82 = .ok (.iconst 1, 1) := by decide +kernel
theorem dX7_readsSigns_83 : decode cX7_readsSigns 83 = .ok (.goto 4, 3) := by decide +kernel
theorem dX7_readsSigns_86 : decode cX7_readsSigns 86 = .ok (.iconst 0, 1) := by decide +kernel
theorem dX7_readsSigns_87 : decode cX7_readsSigns 87 = .ok (.istore_n 2, 1) := by decide +kernel
theorem dX7_readsSigns_88 : decode cX7_readsSigns 88 = .ok (.iinc 3 1, 3) := by decide +kernel
theorem dX7_readsSigns_91 : decode cX7_readsSigns 91 = .ok (.goto (-62), 3) := by decide +kernel
theorem dX7_readsSigns_94 : decode cX7_readsSigns 94 = .ok (.aload_n 0, 1) := by decide +kernel
theorem dX7_readsSigns_95 : decode cX7_readsSigns 95 = .ok (.getfield 16, 3) := by decide +kernel
theorem dX7_readsSigns_98 : decode cX7_readsSigns 98 = .ok (.bipush 30, 2) := by decide +kernel
theorem dX7_readsSigns_100 : decode cX7_readsSigns 100 = .ok (.iload_n 1, 1) := by decide +kernel
theorem dX7_readsSigns_101 : decode cX7_readsSigns 101 = .ok (.iadd, 1) := by decide +kernel
theorem dX7_readsSigns_102 : decode cX7_readsSigns 102 = .ok (.iload_n 2, 1) := by decide +kernel
theorem dX7_readsSigns_103 : decode cX7_readsSigns 103 = .ok (.ifCond .eq 10, 3) := by decide +kernel
theorem dX7_readsSigns_106 : decode cX7_readsSigns 106 = .ok (.aload_n 0, 1) := by decide +kernel
theorem dX7_readsSigns_107 : decode cX7_readsSigns 107 = .ok (.getfield 73, 3) := by decide +kernel
theorem dX7_readsSigns_110 : decode cX7_readsSigns 110 = .ok (.goto 4, 3) := by decide +kernel
theorem dX7_readsSigns_113 : decode cX7_readsSigns 113 = .ok (.iconst 0, 1) := by decide +kernel
theorem dX7_readsSigns_114 : decode cX7_readsSigns 114 = .ok (.iastore, 1) := by decide +kernel
theorem dX7_readsSigns_115 : decode cX7_readsSigns 115 = .ok (.iload_n 2, 1) := by decide +kernel
theorem dX7_readsSigns_116 : decode cX7_readsSigns 116 = .ok (.ireturn, 1) := by decide +kernel
theorem dX7_readsNumber_0 : decode cX7_readsNumber 0 = .ok (.aload_n 0, 1) := by decide +kernel
theorem dX7_readsNumber_1 : decode cX7_readsNumber 1 = .ok (.invokevirtual 82, 3) := by decide +kernel
theorem dX7_readsNumber_4 : decode cX7_readsNumber 4 = .ok (.aload_n 0, 1) := by decide +kernel
theorem dX7_readsNumber_5 : decode cX7_readsNumber 5 = .ok (.iload_n 2, 1) := by decide +kernel
theorem dX7_readsNumber_6 : decode cX7_readsNumber 6 = .ok (.invokevirtual 85, 3) := by decide +kernel
theorem dX7_readsNumber_9 : decode cX7_readsNumber 9 = .ok (.istore_n 3, 1) := by decide +kernel
theorem dX7_readsNumber_10 : decode cX7_readsNumber 10 = .ok (.aload_n 0, 1) := by decide +kernel
theorem dX7_readsNumber_11 : decode cX7_readsNumber 11 = .ok (.getfield 16, 3) := by decide +kernel
theorem dX7_readsNumber_14 : decode cX7_readsNumber 14 = .ok (.iload_n 1, 1) := by decide +kernel
theorem dX7_readsNumber_15 : decode cX7_readsNumber 15 = .ok (.iload_n 3, 1) := by decide +kernel
theorem dX7_readsNumber_16 : decode cX7_readsNumber 16 = .ok (.iastore, 1) := by decide +kernel
theorem dX7_readsNumber_17 : decode cX7_readsNumber 17 = .ok (.iload_n 3, 1) := by decide +kernel
theorem dX7_readsNumber_18 : decode cX7_readsNumber 18 = .ok (.bipush (-9), 2) := by decide +kernel
theorem dX7_readsNumber_20 : decode cX7_readsNumber 20 = .ok (.if_icmp .eq 7, 3) := by decide +kernel
theorem dX7_readsNumber_23 : decode cX7_readsNumber 23 = .ok (.iconst 1, 1) := by decide +kernel
theorem dX7_readsNumber_24 : decode cX7_readsNumber 24 = .ok (.goto 4, 3) := by decide +kernel
theorem dX7_readsNumber_27 : decode cX7_readsNumber 27 = .ok (.iconst 0, 1) := by decide +kernel
theorem dX7_readsNumber_28 : decode cX7_readsNumber 28 = .ok (.ireturn, 1) := by decide +kernel
theorem dX7_readsWord_0 : decode cX7_readsWord 0 = .ok (.aload_n 0, 1) := by decide +kernel
theorem dX7_readsWord_1 : decode cX7_readsWord 1 = .ok (.getfield 16, 3) := by decide +kernel
theorem dX7_readsWord_4 : decode cX7_readsWord 4 = .ok (.iconst 0, 1) := by decide +kernel
theorem dX7_readsWord_5 : decode cX7_readsWord 5 = .ok (.iaload, 1) := by decide +kernel
theorem dX7_readsWord_6 : decode cX7_readsWord 6 = .ok (.istore_n 1, 1) := by decide +kernel
theorem dX7_readsWord_7 : decode cX7_readsWord 7 = .ok (.iload_n 1, 1) := by decide +kernel
theorem dX7_readsWord_8 : decode cX7_readsWord 8 = .ok (.bipush 9, 2) := by decide +kernel
theorem dX7_readsWord_10 : decode cX7_readsWord 10 = .ok (.if_icmp .eq 48, 3) := by decide +kernel
theorem dX7_readsWord_13 : decode cX7_readsWord 13 = .ok (.aload_n 0, 1) := by decide +kernel
theorem dX7_readsWord_14 : decode cX7_readsWord 14 = .ok (.iload_n 1, 1) := by decide +kernel
theorem dX7_readsWord_15 : decode cX7_readsWord 15 = .ok (.invokevirtual 88, 3) := by decide +kernel
theorem dX7_readsWord_18 : decode cX7_readsWord 18 = .ok (.ifCond .eq 40, 3) := by decide +kernel
theorem dX7_readsWord_21 : decode cX7_readsWord 21 = .ok (.aload_n 0, 1) := by decide +kernel
theorem dX7_readsWord_22 : decode cX7_readsWord 22 = .ok (.iconst 3, 1) := by decide +kernel
theorem dX7_readsWord_23 : decode cX7_readsWord 23 = .ok (.iload_n 1, 1) := by decide +kernel
theorem dX7_readsWord_24 : decode cX7_readsWord 24 = .ok (.iadd, 1) := by decide +kernel
theorem dX7_readsWord_25 : decode cX7_readsWord 25 = .ok (.iconst 2, 1) := by decide +kernel
theorem dX7_readsWord_26 : decode cX7_readsWord 26 = .ok (.invokevirtual 92, 3) := by decide +kernel
theorem dX7_readsWord_29 : decode cX7_readsWord 29 = .ok (.ifCond .eq 29, 3) := by decide +kernel
theorem dX7_readsWord_32 : decode cX7_readsWord 32 = .ok (.aload_n 0, 1) := by decide +kernel
theorem dX7_readsWord_33 : decode cX7_readsWord 33 = .ok (.bipush 12, 2) := by decide +kernel
theorem dX7_readsWord_35 : decode cX7_readsWord 35 = .ok (.iload_n 1, 1) := by decide +kernel
theorem dX7_readsWord_36 : decode cX7_readsWord 36 = .ok (.iadd, 1) := by decide +kernel
theorem dX7_readsWord_37 : decode cX7_readsWord 37 = .ok (.bipush 9, 2) := by decide +kernel
theorem dX7_readsWord_39 : decode cX7_readsWord 39 = .ok (.invokevirtual 92, 3) := by decide +kernel
theorem dX7_readsWord_42 : decode cX7_readsWord 42 = .ok (.ifCond .eq 16, 3) := by decide +kernel
theorem dX7_readsWord_45 : decode cX7_readsWord 45 = .ok (.aload_n 0, 1) := by decide +kernel
theorem dX7_readsWord_46 : decode cX7_readsWord 46 = .ok (.bipush 21, 2) := by decide +kernel
theorem dX7_readsWord_48 : decode cX7_readsWord 48 = .ok (.iload_n 1, 1) := by decide +kernel
theorem dX7_readsWord_49 : decode cX7_readsWord 49 = .ok (.iadd, 1) := by decide +kernel
theorem dX7_readsWord_50 : decode cX7_readsWord 50 = .ok (.bipush 9, 2) := by decide +kernel
theorem dX7_readsWord_52 : decode cX7_readsWord 52 = .ok (.invokevirtual 92, 3) := by decide +kernel
theorem dX7_readsWord_55 : decode cX7_readsWord 55 = .ok (.ifCond .ne 5, 3) := by decide +kernel
theorem dX7_readsWord_58 : decode cX7_readsWord 58 = .ok (.iconst 0, 1) := by decide +kernel
theorem dX7_readsWord_59 : decode cX7_readsWord 59 = .ok (.ireturn, 1) := by decide +kernel
theorem dX7_readsWord_60 : decode cX7_readsWord 60 = .ok (.aload_n 0, 1) := by decide +kernel
theorem dX7_readsWord_61 : decode cX7_readsWord 61 = .ok (.getfield 16, 3) := by decide +kernel
theorem dX7_readsWord_64 : decode cX7_readsWord 64 = .ok (.iconst 0, 1) := by decide +kernel
theorem dX7_readsWord_65 : decode cX7_readsWord 65 = .ok (.dup2, 1) := by decide +kernel
theorem dX7_readsWord_66 : decode cX7_readsWord 66 = .ok (.iaload, 1) := by decide +kernel
theorem dX7_readsWord_67 : decode cX7_readsWord 67 = .ok (.iconst 1, 1) := by decide +kernel
theorem dX7_readsWord_68 : decode cX7_readsWord 68 = .ok (.iadd, 1) := by decide +kernel
theorem dX7_readsWord_69 : decode cX7_readsWord 69 = .ok (.iastore, 1) := by decide +kernel
theorem dX7_readsWord_70 : decode cX7_readsWord 70 = .ok (.aload_n 0, 1) := by decide +kernel
theorem dX7_readsWord_71 : decode cX7_readsWord 71 = .ok (.invokevirtual 82, 3) := by decide +kernel
theorem dX7_readsWord_74 : decode cX7_readsWord 74 = .ok (.iconst 1, 1) := by decide +kernel
theorem dX7_readsWord_75 : decode cX7_readsWord 75 = .ok (.ireturn, 1) := by decide +kernel
theorem dX7_readsShape_0 : decode cX7_readsShape 0 = .ok (.aload_n 0, 1) := by decide +kernel
theorem dX7_readsShape_1 : decode cX7_readsShape 1 = .ok (.getfield 16, 3) := by decide +kernel
theorem dX7_readsShape_4 : decode cX7_readsShape 4 = .ok (.iconst 1, 1) := by decide +kernel
theorem dX7_readsShape_5 : decode cX7_readsShape 5 = .ok (.iaload, 1) := by decide +kernel
theorem dX7_readsShape_6 : decode cX7_readsShape 6 = .ok (.istore_n 1, 1) := by decide +kernel
theorem dX7_readsShape_7 : decode cX7_readsShape 7 = .ok (.iload_n 1, 1) := by decide +kernel
theorem dX7_readsShape_8 : decode cX7_readsShape 8 = .ok (.iconst 4, 1) := by decide +kernel
theorem dX7_readsShape_9 : decode cX7_readsShape 9 = .ok (.if_icmp .eq 17, 3) := by decide +kernel
theorem dX7_readsShape_12 : decode cX7_readsShape 12 = .ok (.aload_n 0, 1) := by decide +kernel
theorem dX7_readsShape_13 : decode cX7_readsShape 13 = .ok (.bipush 88, 2) := by decide +kernel
theorem dX7_readsShape_15 : decode cX7_readsShape 15 = .ok (.iconst 3, 1) := by decide +kernel
theorem dX7_readsShape_16 : decode cX7_readsShape 16 = .ok (.iload_n 1, 1) := by decide +kernel
theorem dX7_readsShape_17 : decode cX7_readsShape 17 = .ok (.imul, 1) := by decide +kernel
theorem dX7_readsShape_18 : decode cX7_readsShape 18 = .ok (.iadd, 1) := by decide +kernel
theorem dX7_readsShape_19 : decode cX7_readsShape 19 = .ok (.iconst 2, 1) := by decide +kernel
theorem dX7_readsShape_20 : decode cX7_readsShape 20 = .ok (.invokevirtual 92, 3) := by decide +kernel
theorem dX7_readsShape_23 : decode cX7_readsShape 23 = .ok (.ifCond .ne 5, 3) := by decide +kernel
theorem dX7_readsShape_26 : decode cX7_readsShape 26 = .ok (.iconst 0, 1) := by decide +kernel
theorem dX7_readsShape_27 : decode cX7_readsShape 27 = .ok (.ireturn, 1) := by decide +kernel
theorem dX7_readsShape_28 : decode cX7_readsShape 28 = .ok (.iconst 1, 1) := by decide +kernel
theorem dX7_readsShape_29 : decode cX7_readsShape 29 = .ok (.istore_n 2, 1) := by decide +kernel
theorem dX7_readsShape_30 : decode cX7_readsShape 30 = .ok (.aload_n 0, 1) := by decide +kernel
theorem dX7_readsShape_31 : decode cX7_readsShape 31 = .ok (.invokevirtual 82, 3) := by decide +kernel
theorem dX7_readsShape_34 : decode cX7_readsShape 34 = .ok (.iload_n 2, 1) := by decide +kernel
theorem dX7_readsShape_35 : decode cX7_readsShape 35 = .ok (.iconst 3, 1) := by decide +kernel
theorem dX7_readsShape_36 : decode cX7_readsShape 36 = .ok (.if_icmp .ge 49, 3) := by decide +kernel
theorem dX7_readsShape_39 : decode cX7_readsShape 39 = .ok (.aload_n 0, 1) := by decide +kernel
theorem dX7_readsShape_40 : decode cX7_readsShape 40 = .ok (.getfield 70, 3) := by decide +kernel
theorem dX7_readsShape_43 : decode cX7_readsShape 43 = .ok (.iconst 2, 1) := by decide +kernel
theorem dX7_readsShape_44 : decode cX7_readsShape 44 = .ok (.if_icmp .ne 41, 3) := by decide +kernel
theorem dX7_readsShape_47 : decode cX7_readsShape 47 = .ok (.aload_n 0, 1) := by decide +kernel
theorem dX7_readsShape_48 : decode cX7_readsShape 48 = .ok (.iconst 2, 1) := by decide +kernel
theorem dX7_readsShape_49 : decode cX7_readsShape 49 = .ok (.invokevirtual 85, 3) := by decide +kernel
theorem dX7_readsShape_52 : decode cX7_readsShape 52 = .ok (.istore_n 3, 1) := by decide +kernel
theorem dX7_readsShape_53 : decode cX7_readsShape 53 = .ok (.iload_n 3, 1) := by decide +kernel
theorem dX7_readsShape_54 : decode cX7_readsShape 54 = .ok (.bipush (-9), 2) := by decide +kernel
theorem dX7_readsShape_56 : decode cX7_readsShape 56 = .ok (.if_icmp .ne 5, 3) := by decide +kernel
theorem dX7_readsShape_59 : decode cX7_readsShape 59 = .ok (.iconst 0, 1) := by decide +kernel
theorem dX7_readsShape_60 : decode cX7_readsShape 60 = .ok (.ireturn, 1) := by decide +kernel
theorem dX7_readsShape_61 : decode cX7_readsShape 61 = .ok (.aload_n 0, 1) := by decide +kernel
theorem dX7_readsShape_62 : decode cX7_readsShape 62 = .ok (.getfield 16, 3) := by decide +kernel
theorem dX7_readsShape_65 : decode cX7_readsShape 65 = .ok (.bipush 88, 2) := by decide +kernel
theorem dX7_readsShape_67 : decode cX7_readsShape 67 = .ok (.iconst 3, 1) := by decide +kernel
theorem dX7_readsShape_68 : decode cX7_readsShape 68 = .ok (.iload_n 1, 1) := by decide +kernel
theorem dX7_readsShape_69 : decode cX7_readsShape 69 = .ok (.imul, 1) := by decide +kernel
theorem dX7_readsShape_70 : decode cX7_readsShape 70 = .ok (.iadd, 1) := by decide +kernel
theorem dX7_readsShape_71 : decode cX7_readsShape 71 = .ok (.iload_n 2, 1) := by decide +kernel
theorem dX7_readsShape_72 : decode cX7_readsShape 72 = .ok (.iadd, 1) := by decide +kernel
theorem dX7_readsShape_73 : decode cX7_readsShape 73 = .ok (.iload_n 3, 1) := by decide +kernel
theorem dX7_readsShape_74 : decode cX7_readsShape 74 = .ok (.iastore, 1) := by decide +kernel
theorem dX7_readsShape_75 : decode cX7_readsShape 75 = .ok (.iinc 2 1, 3) := by decide +kernel
theorem dX7_readsShape_78 : decode cX7_readsShape 78 = .ok (.aload_n 0, 1) := by decide +kernel
theorem dX7_readsShape_79 : decode cX7_readsShape 79 = .ok (.invokevirtual 82, 3) := by decide +kernel
theorem dX7_readsShape_82 : decode cX7_readsShape 82 = .ok (.goto (-48), 3) := by decide +kernel
theorem dX7_readsShape_85 : decode cX7_readsShape 85 = .ok (.aload_n 0, 1) := by decide +kernel
theorem dX7_readsShape_86 : decode cX7_readsShape 86 = .ok (.getfield 16, 3) := by decide +kernel
theorem dX7_readsShape_89 : decode cX7_readsShape 89 = .ok (.bipush 84, 2) := by decide +kernel
theorem dX7_readsShape_91 : decode cX7_readsShape 91 = .ok (.iload_n 1, 1) := by decide +kernel
theorem dX7_readsShape_92 : decode cX7_readsShape 92 = .ok (.iadd, 1) := by decide +kernel
theorem dX7_readsShape_93 : decode cX7_readsShape 93 = .ok (.iload_n 2, 1) := by decide +kernel
theorem dX7_readsShape_94 : decode cX7_readsShape 94 = .ok (.iastore, 1) := by decide +kernel
theorem dX7_readsShape_95 : decode cX7_readsShape 95 = .ok (.aload_n 0, 1) := by decide +kernel
theorem dX7_readsShape_96 : decode cX7_readsShape 96 = .ok (.getfield 16, 3) := by decide +kernel
theorem dX7_readsShape_99 : decode cX7_readsShape 99 = .ok (.iconst 1, 1) := by decide +kernel
theorem dX7_readsShape_100 : decode cX7_readsShape 100 = .ok (.dup2, 1) := by decide +kernel
theorem dX7_readsShape_101 : decode cX7_readsShape 101 = .ok (.iaload, 1) := by decide +kernel
theorem dX7_readsShape_102 : decode cX7_readsShape 102 = .ok (.iconst 1, 1) := by decide +kernel
theorem dX7_readsShape_103 : decode cX7_readsShape 103 = .ok (.iadd, 1) := by decide +kernel
theorem dX7_readsShape_104 : decode cX7_readsShape 104 = .ok (.iastore, 1) := by decide +kernel
theorem dX7_readsShape_105 : decode cX7_readsShape 105 = .ok (.iconst 1, 1) := by decide +kernel
theorem dX7_readsShape_106 : decode cX7_readsShape 106 = .ok (.ireturn, 1) := by decide +kernel
theorem dX7_reads_0 : decode cX7_reads 0 = .ok (.iconst 0, 1) := by decide +kernel
theorem dX7_reads_1 : decode cX7_reads 1 = .ok (.istore_n 1, 1) := by decide +kernel
theorem dX7_reads_2 : decode cX7_reads 2 = .ok (.iload_n 1, 1) := by decide +kernel
theorem dX7_reads_3 : decode cX7_reads 3 = .ok (.bipush 110, 2) := by decide +kernel
theorem dX7_reads_5 : decode cX7_reads 5 = .ok (.if_icmp .ge 16, 3) := by decide +kernel
theorem dX7_reads_8 : decode cX7_reads 8 = .ok (.aload_n 0, 1) := by decide +kernel
theorem dX7_reads_9 : decode cX7_reads 9 = .ok (.getfield 16, 3) := by decide +kernel
theorem dX7_reads_12 : decode cX7_reads 12 = .ok (.iload_n 1, 1) := by decide +kernel
theorem dX7_reads_13 : decode cX7_reads 13 = .ok (.iconst 0, 1) := by decide +kernel
theorem dX7_reads_14 : decode cX7_reads 14 = .ok (.iastore, 1) := by decide +kernel
theorem dX7_reads_15 : decode cX7_reads 15 = .ok (.iinc 1 1, 3) := by decide +kernel
theorem dX7_reads_18 : decode cX7_reads 18 = .ok (.goto (-16), 3) := by decide +kernel
theorem dX7_reads_21 : decode cX7_reads 21 = .ok (.aload_n 0, 1) := by decide +kernel
theorem dX7_reads_22 : decode cX7_reads 22 = .ok (.iconst 0, 1) := by decide +kernel
theorem dX7_reads_23 : decode cX7_reads 23 = .ok (.putfield 57, 3) := by decide +kernel
theorem dX7_reads_26 : decode cX7_reads 26 = .ok (.aload_n 0, 1) := by decide +kernel
theorem dX7_reads_27 : decode cX7_reads 27 = .ok (.invokevirtual 82, 3) := by decide +kernel
theorem dX7_reads_30 : decode cX7_reads 30 = .ok (.aload_n 0, 1) := by decide +kernel
theorem dX7_reads_31 : decode cX7_reads 31 = .ok (.getfield 70, 3) := by decide +kernel
theorem dX7_reads_34 : decode cX7_reads 34 = .ok (.ifCond .eq 68, 3) := by decide +kernel
theorem dX7_reads_37 : decode cX7_reads 37 = .ok (.aload_n 0, 1) := by decide +kernel
theorem dX7_reads_38 : decode cX7_reads 38 = .ok (.invokevirtual 96, 3) := by decide +kernel
theorem dX7_reads_41 : decode cX7_reads 41 = .ok (.istore_n 1, 1) := by decide +kernel
theorem dX7_reads_42 : decode cX7_reads 42 = .ok (.iload_n 1, 1) := by decide +kernel
theorem dX7_reads_43 : decode cX7_reads 43 = .ok (.ifCond .ne 10, 3) := by decide +kernel
theorem dX7_reads_46 : decode cX7_reads 46 = .ok (.aload_n 0, 1) := by decide +kernel
theorem dX7_reads_47 : decode cX7_reads 47 = .ok (.invokevirtual 100, 3) := by decide +kernel
theorem dX7_reads_50 : decode cX7_reads 50 = .ok (.goto 20, 3) := by decide +kernel
theorem dX7_reads_53 : decode cX7_reads 53 = .ok (.iload_n 1, 1) := by decide +kernel
theorem dX7_reads_54 : decode cX7_reads 54 = .ok (.iconst 1, 1) := by decide +kernel
theorem dX7_reads_55 : decode cX7_reads 55 = .ok (.if_icmp .ne 14, 3) := by decide +kernel
theorem dX7_reads_58 : decode cX7_reads 58 = .ok (.aload_n 0, 1) := by decide +kernel
theorem dX7_reads_59 : decode cX7_reads 59 = .ok (.invokevirtual 104, 3) := by decide +kernel
theorem dX7_reads_62 : decode cX7_reads 62 = .ok (.ifCond .eq 7, 3) := by decide +kernel
theorem dX7_reads_65 : decode cX7_reads 65 = .ok (.iconst 1, 1) := by decide +kernel
theorem dX7_reads_66 : decode cX7_reads 66 = .ok (.goto 4, 3) := by decide +kernel
theorem dX7_reads_69 : decode cX7_reads 69 = .ok (.iconst 0, 1) := by decide +kernel
theorem dX7_reads_70 : decode cX7_reads 70 = .ok (.istore_n 2, 1) := by decide +kernel
theorem dX7_reads_71 : decode cX7_reads 71 = .ok (.iload_n 2, 1) := by decide +kernel
theorem dX7_reads_72 : decode cX7_reads 72 = .ok (.ifCond .eq 11, 3) := by decide +kernel
theorem dX7_reads_75 : decode cX7_reads 75 = .ok (.aload_n 0, 1) := by decide +kernel
theorem dX7_reads_76 : decode cX7_reads 76 = .ok (.getfield 70, 3) := by decide +kernel
theorem dX7_reads_79 : decode cX7_reads 79 = .ok (.iconst 3, 1) := by decide +kernel
theorem dX7_reads_80 : decode cX7_reads 80 = .ok (.if_icmp .eq 5, 3) := by decide +kernel
theorem dX7_reads_83 : decode cX7_reads 83 = .ok (.iconst 0, 1) := by decide +kernel
theorem dX7_reads_84 : decode cX7_reads 84 = .ok (.ireturn, 1) := by decide +kernel
theorem dX7_reads_85 : decode cX7_reads 85 = .ok (.aload_n 0, 1) := by decide +kernel
theorem dX7_reads_86 : decode cX7_reads 86 = .ok (.getfield 16, 3) := by decide +kernel
theorem dX7_reads_89 : decode cX7_reads 89 = .ok (.iconst 2, 1) := by decide +kernel
theorem dX7_reads_90 : decode cX7_reads 90 = .ok (.dup2, 1) := by decide +kernel
theorem dX7_reads_91 : decode cX7_reads 91 = .ok (.iaload, 1) := by decide +kernel
theorem dX7_reads_92 : decode cX7_reads 92 = .ok (.iconst 1, 1) := by decide +kernel
theorem dX7_reads_93 : decode cX7_reads 93 = .ok (.iadd, 1) := by decide +kernel
theorem dX7_reads_94 : decode cX7_reads 94 = .ok (.iastore, 1) := by decide +kernel
theorem dX7_reads_95 : decode cX7_reads 95 = .ok (.aload_n 0, 1) := by decide +kernel
theorem dX7_reads_96 : decode cX7_reads 96 = .ok (.invokevirtual 82, 3) := by decide +kernel
theorem dX7_reads_99 : decode cX7_reads 99 = .ok (.goto (-69), 3) := by decide +kernel
theorem dX7_reads_102 : decode cX7_reads 102 = .ok (.iconst 1, 1) := by decide +kernel
theorem dX7_reads_103 : decode cX7_reads 103 = .ok (.ireturn, 1) := by decide +kernel
theorem dX7_tongue_0 : decode cX7_tongue 0 = .ok (.aload_n 0, 1) := by decide +kernel
theorem dX7_tongue_1 : decode cX7_tongue 1 = .ok (.invokevirtual 107, 3) := by decide +kernel
theorem dX7_tongue_4 : decode cX7_tongue 4 = .ok (.ifCond .ne 11, 3) := by decide +kernel
theorem dX7_tongue_7 : decode cX7_tongue 7 = .ok (.bipush (-10), 2) := by decide +kernel
theorem dX7_tongue_9 : decode cX7_tongue 9 = .ok (.aload_n 0, 1) := by decide +kernel
theorem dX7_tongue_10 : decode cX7_tongue 10 = .ok (.getfield 64, 3) := by decide +kernel
theorem dX7_tongue_13 : decode cX7_tongue 13 = .ok (.isub, 1) := by decide +kernel
theorem dX7_tongue_14 : decode cX7_tongue 14 = .ok (.ireturn, 1) := by decide +kernel
theorem dX7_tongue_15 : decode cX7_tongue 15 = .ok (.iconst 0, 1) := by decide +kernel
theorem dX7_tongue_16 : decode cX7_tongue 16 = .ok (.istore_n 1, 1) := by decide +kernel
theorem dX7_tongue_17 : decode cX7_tongue 17 = .ok (.iload_n 1, 1) := by decide +kernel
theorem dX7_tongue_18 : decode cX7_tongue 18 = .ok (.bipush 110, 2) := by decide +kernel
theorem dX7_tongue_20 : decode cX7_tongue 20 = .ok (.if_icmp .ge 21, 3) := by decide +kernel
theorem dX7_tongue_23 : decode cX7_tongue 23 = .ok (.aload_n 0, 1) := by decide +kernel
theorem dX7_tongue_24 : decode cX7_tongue 24 = .ok (.getfield 13, 3) := by decide +kernel
theorem dX7_tongue_27 : decode cX7_tongue 27 = .ok (.iload_n 1, 1) := by decide +kernel
theorem dX7_tongue_28 : decode cX7_tongue 28 = .ok (.aload_n 0, 1) := by decide +kernel
theorem dX7_tongue_29 : decode cX7_tongue 29 = .ok (.getfield 16, 3) := by decide +kernel
theorem dX7_tongue_32 : decode cX7_tongue 32 = .ok (.iload_n 1, 1) := by decide +kernel
theorem dX7_tongue_33 : decode cX7_tongue 33 = .ok (.iaload, 1) := by decide +kernel
theorem dX7_tongue_34 : decode cX7_tongue 34 = .ok (.iastore, 1) := by decide +kernel
theorem dX7_tongue_35 : decode cX7_tongue 35 = .ok (.iinc 1 1, 3) := by decide +kernel
theorem dX7_tongue_38 : decode cX7_tongue 38 = .ok (.goto (-21), 3) := by decide +kernel
theorem dX7_tongue_41 : decode cX7_tongue 41 = .ok (.aload_n 0, 1) := by decide +kernel
theorem dX7_tongue_42 : decode cX7_tongue 42 = .ok (.getfield 19, 3) := by decide +kernel
theorem dX7_tongue_45 : decode cX7_tongue 45 = .ok (.iconst 0, 1) := by decide +kernel
theorem dX7_tongue_46 : decode cX7_tongue 46 = .ok (.iconst 0, 1) := by decide +kernel
theorem dX7_tongue_47 : decode cX7_tongue 47 = .ok (.iastore, 1) := by decide +kernel
theorem dX7_tongue_48 : decode cX7_tongue 48 = .ok (.aload_n 0, 1) := by decide +kernel
theorem dX7_tongue_49 : decode cX7_tongue 49 = .ok (.getfield 25, 3) := by decide +kernel
theorem dX7_tongue_52 : decode cX7_tongue 52 = .ok (.iconst 0, 1) := by decide +kernel
theorem dX7_tongue_53 : decode cX7_tongue 53 = .ok (.iconst 0, 1) := by decide +kernel
theorem dX7_tongue_54 : decode cX7_tongue 54 = .ok (.bastore, 1) := by decide +kernel
theorem dX7_tongue_55 : decode cX7_tongue 55 = .ok (.aload_n 0, 1) := by decide +kernel
theorem dX7_tongue_56 : decode cX7_tongue 56 = .ok (.getfield 25, 3) := by decide +kernel
theorem dX7_tongue_59 : decode cX7_tongue 59 = .ok (.iconst 1, 1) := by decide +kernel
theorem dX7_tongue_60 : decode cX7_tongue 60 = .ok (.iconst 0, 1) := by decide +kernel
theorem dX7_tongue_61 : decode cX7_tongue 61 = .ok (.bastore, 1) := by decide +kernel
theorem dX7_tongue_62 : decode cX7_tongue 62 = .ok (.aload_n 0, 1) := by decide +kernel
theorem dX7_tongue_63 : decode cX7_tongue 63 = .ok (.iconst 0, 1) := by decide +kernel
theorem dX7_tongue_64 : decode cX7_tongue 64 = .ok (.putfield 51, 3) := by decide +kernel
theorem dX7_tongue_67 : decode cX7_tongue 67 = .ok (.aload_n 0, 1) := by decide +kernel
theorem dX7_tongue_68 : decode cX7_tongue 68 = .ok (.invokevirtual 44, 3) := by decide +kernel
theorem dX7_tongue_71 : decode cX7_tongue 71 = .ok (.aload_n 0, 1) := by decide +kernel
theorem dX7_tongue_72 : decode cX7_tongue 72 = .ok (.getfield 13, 3) := by decide +kernel
theorem dX7_tongue_75 : decode cX7_tongue 75 = .ok (.iconst 2, 1) := by decide +kernel
theorem dX7_tongue_76 : decode cX7_tongue 76 = .ok (.iaload, 1) := by decide +kernel
theorem dX7_tongue_77 : decode cX7_tongue 77 = .ok (.ireturn, 1) := by decide +kernel
theorem dX7_length_0 : decode cX7_length 0 = .ok (.iload_n 0, 1) := by decide +kernel
theorem dX7_length_1 : decode cX7_length 1 = .ok (.bipush 10, 2) := by decide +kernel
theorem dX7_length_3 : decode cX7_length 3 = .ok (.if_icmp .ge 7, 3) := by decide +kernel
theorem dX7_length_6 : decode cX7_length 6 = .ok (.iconst 1, 1) := by decide +kernel
theorem dX7_length_7 : decode cX7_length 7 = .ok (.goto 14, 3) := by decide +kernel
theorem dX7_length_10 : decode cX7_length 10 = .ok (.iload_n 0, 1) := by decide +kernel
theorem dX7_length_11 : decode cX7_length 11 = .ok (.bipush 100, 2) := by decide +kernel
theorem dX7_length_13 : decode cX7_length 13 = .ok (.if_icmp .ge 7, 3) := by decide +kernel
theorem dX7_length_16 : decode cX7_length 16 = .ok (.iconst 2, 1) := by decide +kernel
theorem dX7_length_17 : decode cX7_length 17 = .ok (.goto 4, 3) := by decide +kernel
theorem dX7_length_20 : decode cX7_length 20 = .ok (.iconst 3, 1) := by decide +kernel
theorem dX7_length_21 : decode cX7_length 21 = .ok (.ireturn, 1) := by decide +kernel
theorem dX7_wordOf_0 : decode cX7_wordOf 0 = .ok (.iload_n 0, 1) := by decide +kernel
theorem dX7_wordOf_1 : decode cX7_wordOf 1 = .ok (.istore_n 2, 1) := by decide +kernel
theorem dX7_wordOf_2 : decode cX7_wordOf 2 = .ok (.iload_n 0, 1) := by decide +kernel
theorem dX7_wordOf_3 : decode cX7_wordOf 3 = .ok (.invokestatic 110, 3) := by decide +kernel
theorem dX7_wordOf_6 : decode cX7_wordOf 6 = .ok (.iconst 1, 1) := by decide +kernel
theorem dX7_wordOf_7 : decode cX7_wordOf 7 = .ok (.isub, 1) := by decide +kernel
theorem dX7_wordOf_8 : decode cX7_wordOf 8 = .ok (.istore_n 3, 1) := by decide +kernel
theorem dX7_wordOf_9 : decode cX7_wordOf 9 = .ok (.iload_n 3, 1) := by decide +kernel
theorem dX7_wordOf_10 : decode cX7_wordOf 10 = .ok (.iload_n 1, 1) := by decide +kernel
theorem dX7_wordOf_11 : decode cX7_wordOf 11 = .ok (.if_icmp .le 14, 3) := by decide +kernel
theorem dX7_wordOf_14 : decode cX7_wordOf 14 = .ok (.iload_n 2, 1) := by decide +kernel
theorem dX7_wordOf_15 : decode cX7_wordOf 15 = .ok (.bipush 10, 2) := by decide +kernel
theorem dX7_wordOf_17 : decode cX7_wordOf 17 = .ok (.idiv, 1) := by decide +kernel
theorem dX7_wordOf_18 : decode cX7_wordOf 18 = .ok (.istore_n 2, 1) := by decide +kernel
theorem dX7_wordOf_19 : decode cX7_wordOf 19 = .ok (.iinc 3 (-1), 3) := by decide +kernel
theorem dX7_wordOf_22 : decode cX7_wordOf 22 = .ok (.goto (-13), 3) := by decide +kernel
theorem dX7_wordOf_25 : decode cX7_wordOf 25 = .ok (.iload_n 2, 1) := by decide +kernel
theorem dX7_wordOf_26 : decode cX7_wordOf 26 = .ok (.bipush 10, 2) := by decide +kernel
theorem dX7_wordOf_28 : decode cX7_wordOf 28 = .ok (.irem, 1) := by decide +kernel
theorem dX7_wordOf_29 : decode cX7_wordOf 29 = .ok (.iconst 1, 1) := by decide +kernel
theorem dX7_wordOf_30 : decode cX7_wordOf 30 = .ok (.isub, 1) := by decide +kernel
theorem dX7_wordOf_31 : decode cX7_wordOf 31 = .ok (.ireturn, 1) := by decide +kernel
theorem dX7_isOf_0 : decode cX7_isOf 0 = .ok (.aload_n 0, 1) := by decide +kernel
theorem dX7_isOf_1 : decode cX7_isOf 1 = .ok (.getfield 13, 3) := by decide +kernel
theorem dX7_isOf_4 : decode cX7_isOf 4 = .ok (.bipush 84, 2) := by decide +kernel
theorem dX7_isOf_6 : decode cX7_isOf 6 = .ok (.iload_n 2, 1) := by decide +kernel
theorem dX7_isOf_7 : decode cX7_isOf 7 = .ok (.iadd, 1) := by decide +kernel
theorem dX7_isOf_8 : decode cX7_isOf 8 = .ok (.iaload, 1) := by decide +kernel
theorem dX7_isOf_9 : decode cX7_isOf 9 = .ok (.iload_n 1, 1) := by decide +kernel
theorem dX7_isOf_10 : decode cX7_isOf 10 = .ok (.invokestatic 110, 3) := by decide +kernel
theorem dX7_isOf_13 : decode cX7_isOf 13 = .ok (.if_icmp .ne 7, 3) := by decide +kernel
theorem dX7_isOf_16 : decode cX7_isOf 16 = .ok (.iconst 1, 1) := by decide +kernel
theorem dX7_isOf_17 : decode cX7_isOf 17 = .ok (.goto 4, 3) := by decide +kernel
theorem dX7_isOf_20 : decode cX7_isOf 20 = .ok (.iconst 0, 1) := by decide +kernel
theorem dX7_isOf_21 : decode cX7_isOf 21 = .ok (.istore_n 3, 1) := by decide +kernel
theorem dX7_isOf_22 : decode cX7_isOf 22 = .ok (.iconst 0, 1) := by decide +kernel
theorem dX7_isOf_23 : decode cX7_isOf 23 = .ok (.istore 4, 2) := by decide +kernel
theorem dX7_isOf_25 : decode cX7_isOf 25 = .ok (.iload 4, 2) := by decide +kernel
theorem dX7_isOf_27 : decode cX7_isOf 27 = .ok (.iload_n 1, 1) := by decide +kernel
theorem dX7_isOf_28 : decode cX7_isOf 28 = .ok (.invokestatic 110, 3) := by decide +kernel
theorem dX7_isOf_31 : decode cX7_isOf 31 = .ok (.if_icmp .ge 49, 3) := by decide +kernel
theorem dX7_isOf_34 : decode cX7_isOf 34 = .ok (.iload_n 3, 1) := by decide +kernel
theorem dX7_isOf_35 : decode cX7_isOf 35 = .ok (.ifCond .eq 45, 3) := by decide +kernel
theorem dX7_isOf_38 : decode cX7_isOf 38 = .ok (.aload_n 0, 1) := by decide +kernel
theorem dX7_isOf_39 : decode cX7_isOf 39 = .ok (.getfield 13, 3) := by decide +kernel
theorem dX7_isOf_42 : decode cX7_isOf 42 = .ok (.bipush 88, 2) := by decide +kernel
theorem dX7_isOf_44 : decode cX7_isOf 44 = .ok (.iconst 3, 1) := by decide +kernel
theorem dX7_isOf_45 : decode cX7_isOf 45 = .ok (.iload_n 2, 1) := by decide +kernel
theorem dX7_isOf_46 : decode cX7_isOf 46 = .ok (.imul, 1) := by decide +kernel
theorem dX7_isOf_47 : decode cX7_isOf 47 = .ok (.iadd, 1) := by decide +kernel
theorem dX7_isOf_48 : decode cX7_isOf 48 = .ok (.iload 4, 2) := by decide +kernel
theorem dX7_isOf_50 : decode cX7_isOf 50 = .ok (.iadd, 1) := by decide +kernel
theorem dX7_isOf_51 : decode cX7_isOf 51 = .ok (.iaload, 1) := by decide +kernel
theorem dX7_isOf_52 : decode cX7_isOf 52 = .ok (.aload_n 0, 1) := by decide +kernel
theorem dX7_isOf_53 : decode cX7_isOf 53 = .ok (.getfield 13, 3) := by decide +kernel
theorem dX7_isOf_56 : decode cX7_isOf 56 = .ok (.iconst 3, 1) := by decide +kernel
theorem dX7_isOf_57 : decode cX7_isOf 57 = .ok (.iload_n 1, 1) := by decide +kernel
theorem dX7_isOf_58 : decode cX7_isOf 58 = .ok (.iload 4, 2) := by decide +kernel
theorem dX7_isOf_60 : decode cX7_isOf 60 = .ok (.invokestatic 113, 3) := by decide +kernel
theorem dX7_isOf_63 : decode cX7_isOf 63 = .ok (.iadd, 1) := by decide +kernel
theorem dX7_isOf_64 : decode cX7_isOf 64 = .ok (.iaload, 1) := by decide +kernel
theorem dX7_isOf_65 : decode cX7_isOf 65 = .ok (.if_icmp .ne 7, 3) := by decide +kernel
theorem dX7_isOf_68 : decode cX7_isOf 68 = .ok (.iconst 1, 1) := by decide +kernel
theorem dX7_isOf_69 : decode cX7_isOf 69 = .ok (.goto 4, 3) := by decide +kernel
theorem dX7_isOf_72 : decode cX7_isOf 72 = .ok (.iconst 0, 1) := by decide +kernel
theorem dX7_isOf_73 : decode cX7_isOf 73 = .ok (.istore_n 3, 1) := by decide +kernel
theorem dX7_isOf_74 : decode cX7_isOf 74 = .ok (.iinc 4 1, 3) := by decide +kernel
theorem dX7_isOf_77 : decode cX7_isOf 77 = .ok (.goto (-52), 3) := by decide +kernel
theorem dX7_isOf_80 : decode cX7_isOf 80 = .ok (.iload_n 3, 1) := by decide +kernel
theorem dX7_isOf_81 : decode cX7_isOf 81 = .ok (.ireturn, 1) := by decide +kernel
theorem dX7_isSaid_0 : decode cX7_isSaid 0 = .ok (.iconst 1, 1) := by decide +kernel
theorem dX7_isSaid_1 : decode cX7_isSaid 1 = .ok (.istore_n 2, 1) := by decide +kernel
theorem dX7_isSaid_2 : decode cX7_isSaid 2 = .ok (.iconst 0, 1) := by decide +kernel
theorem dX7_isSaid_3 : decode cX7_isSaid 3 = .ok (.istore_n 3, 1) := by decide +kernel
theorem dX7_isSaid_4 : decode cX7_isSaid 4 = .ok (.iload_n 3, 1) := by decide +kernel
theorem dX7_isSaid_5 : decode cX7_isSaid 5 = .ok (.iload_n 1, 1) := by decide +kernel
theorem dX7_isSaid_6 : decode cX7_isSaid 6 = .ok (.invokestatic 110, 3) := by decide +kernel
theorem dX7_isSaid_9 : decode cX7_isSaid 9 = .ok (.if_icmp .ge 31, 3) := by decide +kernel
theorem dX7_isSaid_12 : decode cX7_isSaid 12 = .ok (.iload_n 2, 1) := by decide +kernel
theorem dX7_isSaid_13 : decode cX7_isSaid 13 = .ok (.ifCond .eq 19, 3) := by decide +kernel
theorem dX7_isSaid_16 : decode cX7_isSaid 16 = .ok (.aload_n 0, 1) := by decide +kernel
theorem dX7_isSaid_17 : decode cX7_isSaid 17 = .ok (.iload_n 1, 1) := by decide +kernel
theorem dX7_isSaid_18 : decode cX7_isSaid 18 = .ok (.iload_n 3, 1) := by decide +kernel
theorem dX7_isSaid_19 : decode cX7_isSaid 19 = .ok (.invokestatic 113, 3) := by decide +kernel
theorem dX7_isSaid_22 : decode cX7_isSaid 22 = .ok (.invokevirtual 117, 3) := by decide +kernel
theorem dX7_isSaid_25 : decode cX7_isSaid 25 = .ok (.ifCond .eq 7, 3) := by decide +kernel
theorem dX7_isSaid_28 : decode cX7_isSaid 28 = .ok (.iconst 1, 1) := by decide +kernel
theorem dX7_isSaid_29 : decode cX7_isSaid 29 = .ok (.goto 4, 3) := by decide +kernel
theorem dX7_isSaid_32 : decode cX7_isSaid 32 = .ok (.iconst 0, 1) := by decide +kernel
theorem dX7_isSaid_33 : decode cX7_isSaid 33 = .ok (.istore_n 2, 1) := by decide +kernel
theorem dX7_isSaid_34 : decode cX7_isSaid 34 = .ok (.iinc 3 1, 3) := by decide +kernel
theorem dX7_isSaid_37 : decode cX7_isSaid 37 = .ok (.goto (-33), 3) := by decide +kernel
theorem dX7_isSaid_40 : decode cX7_isSaid 40 = .ok (.iconst 0, 1) := by decide +kernel
theorem dX7_isSaid_41 : decode cX7_isSaid 41 = .ok (.istore_n 3, 1) := by decide +kernel
theorem dX7_isSaid_42 : decode cX7_isSaid 42 = .ok (.iconst 0, 1) := by decide +kernel
theorem dX7_isSaid_43 : decode cX7_isSaid 43 = .ok (.istore 4, 2) := by decide +kernel
theorem dX7_isSaid_45 : decode cX7_isSaid 45 = .ok (.iload 4, 2) := by decide +kernel
theorem dX7_isSaid_47 : decode cX7_isSaid 47 = .ok (.aload_n 0, 1) := by decide +kernel
theorem dX7_isSaid_48 : decode cX7_isSaid 48 = .ok (.getfield 13, 3) := by decide +kernel
theorem dX7_isSaid_51 : decode cX7_isSaid 51 = .ok (.iconst 1, 1) := by decide +kernel
theorem dX7_isSaid_52 : decode cX7_isSaid 52 = .ok (.iaload, 1) := by decide +kernel
theorem dX7_isSaid_53 : decode cX7_isSaid 53 = .ok (.if_icmp .ge 33, 3) := by decide +kernel
theorem dX7_isSaid_56 : decode cX7_isSaid 56 = .ok (.iload_n 2, 1) := by decide +kernel
theorem dX7_isSaid_57 : decode cX7_isSaid 57 = .ok (.ifCond .eq 29, 3) := by decide +kernel
theorem dX7_isSaid_60 : decode cX7_isSaid 60 = .ok (.iload_n 3, 1) := by decide +kernel
theorem dX7_isSaid_61 : decode cX7_isSaid 61 = .ok (.ifCond .ne 13, 3) := by decide +kernel
theorem dX7_isSaid_64 : decode cX7_isSaid 64 = .ok (.aload_n 0, 1) := by decide +kernel
theorem dX7_isSaid_65 : decode cX7_isSaid 65 = .ok (.iload_n 1, 1) := by decide +kernel
theorem dX7_isSaid_66 : decode cX7_isSaid 66 = .ok (.iload 4, 2) := by decide +kernel
theorem dX7_isSaid_68 : decode cX7_isSaid 68 = .ok (.invokevirtual 120, 3) := by decide +kernel
theorem dX7_isSaid_71 : decode cX7_isSaid 71 = .ok (.ifCond .eq 7, 3) := by decide +kernel
theorem dX7_isSaid_74 : decode cX7_isSaid 74 = .ok (.iconst 1, 1) := by decide +kernel
theorem dX7_isSaid_75 : decode cX7_isSaid 75 = .ok (.goto 4, 3) := by decide +kernel
theorem dX7_isSaid_78 : decode cX7_isSaid 78 = .ok (.iconst 0, 1) := by decide +kernel
theorem dX7_isSaid_79 : decode cX7_isSaid 79 = .ok (.istore_n 3, 1) := by decide +kernel
theorem dX7_isSaid_80 : decode cX7_isSaid 80 = .ok (.iinc 4 1, 3) := by decide +kernel
theorem dX7_isSaid_83 : decode cX7_isSaid 83 = .ok (.goto (-38), 3) := by decide +kernel
theorem dX7_isSaid_86 : decode cX7_isSaid 86 = .ok (.iload_n 3, 1) := by decide +kernel
theorem dX7_isSaid_87 : decode cX7_isSaid 87 = .ok (.ireturn, 1) := by decide +kernel
theorem dX7_lists_0 : decode cX7_lists 0 = .ok (.aload_n 0, 1) := by decide +kernel
theorem dX7_lists_1 : decode cX7_lists 1 = .ok (.iconst 0, 1) := by decide +kernel
theorem dX7_lists_2 : decode cX7_lists 2 = .ok (.putfield 123, 3) := by decide +kernel
theorem dX7_lists_5 : decode cX7_lists 5 = .ok (.iconst 1, 1) := by decide +kernel
theorem dX7_lists_6 : decode cX7_lists 6 = .ok (.istore_n 1, 1) := by decide +kernel
theorem dX7_lists_7 : decode cX7_lists 7 = .ok (.iload_n 1, 1) := by decide +kernel
theorem dX7_lists_8 : decode cX7_lists 8 = .ok (.sipush 1000, 3) := by decide +kernel
theorem dX7_lists_11 : decode cX7_lists 11 = .ok (.if_icmp .ge 92, 3) := by decide +kernel
theorem dX7_lists_14 : decode cX7_lists 14 = .ok (.aload_n 0, 1) := by decide +kernel
theorem dX7_lists_15 : decode cX7_lists 15 = .ok (.iload_n 1, 1) := by decide +kernel
theorem dX7_lists_16 : decode cX7_lists 16 = .ok (.invokevirtual 126, 3) := by decide +kernel
theorem dX7_lists_19 : decode cX7_lists 19 = .ok (.ifCond .eq 78, 3) := by decide +kernel
theorem dX7_lists_22 : decode cX7_lists 22 = .ok (.aload_n 0, 1) := by decide +kernel
theorem dX7_lists_23 : decode cX7_lists 23 = .ok (.getfield 29, 3) := by decide +kernel
theorem dX7_lists_26 : decode cX7_lists 26 = .ok (.aload_n 0, 1) := by decide +kernel
theorem dX7_lists_27 : decode cX7_lists 27 = .ok (.getfield 123, 3) := by decide +kernel
theorem dX7_lists_30 : decode cX7_lists 30 = .ok (.iload_n 1, 1) := by decide +kernel
theorem dX7_lists_31 : decode cX7_lists 31 = .ok (.iastore, 1) := by decide +kernel
theorem dX7_lists_32 : decode cX7_lists 32 = .ok (.aload_n 0, 1) := by decide +kernel
theorem dX7_lists_33 : decode cX7_lists 33 = .ok (.getfield 32, 3) := by decide +kernel
theorem dX7_lists_36 : decode cX7_lists 36 = .ok (.aload_n 0, 1) := by decide +kernel
theorem dX7_lists_37 : decode cX7_lists 37 = .ok (.getfield 123, 3) := by decide +kernel
theorem dX7_lists_40 : decode cX7_lists 40 = .ok (.iconst 0, 1) := by decide +kernel
theorem dX7_lists_41 : decode cX7_lists 41 = .ok (.iastore, 1) := by decide +kernel
theorem dX7_lists_42 : decode cX7_lists 42 = .ok (.aload_n 0, 1) := by decide +kernel
theorem dX7_lists_43 : decode cX7_lists 43 = .ok (.getfield 35, 3) := by decide +kernel
theorem dX7_lists_46 : decode cX7_lists 46 = .ok (.aload_n 0, 1) := by decide +kernel
theorem dX7_lists_47 : decode cX7_lists 47 = .ok (.getfield 123, 3) := by decide +kernel
theorem dX7_lists_50 : decode cX7_lists 50 = .ok (.iconst 0, 1) := by decide +kernel
theorem dX7_lists_51 : decode cX7_lists 51 = .ok (.iastore, 1) := by decide +kernel
theorem dX7_lists_52 : decode cX7_lists 52 = .ok (.aload_n 0, 1) := by decide +kernel
theorem dX7_lists_53 : decode cX7_lists 53 = .ok (.getfield 38, 3) := by decide +kernel
theorem dX7_lists_56 : decode cX7_lists 56 = .ok (.aload_n 0, 1) := by decide +kernel
theorem dX7_lists_57 : decode cX7_lists 57 = .ok (.getfield 123, 3) := by decide +kernel
theorem dX7_lists_60 : decode cX7_lists 60 = .ok (.iconst 0, 1) := by decide +kernel
theorem dX7_lists_61 : decode cX7_lists 61 = .ok (.iastore, 1) := by decide +kernel
theorem dX7_lists_62 : decode cX7_lists 62 = .ok (.iconst 0, 1) := by decide +kernel
theorem dX7_lists_63 : decode cX7_lists 63 = .ok (.istore_n 2, 1) := by decide +kernel
theorem dX7_lists_64 : decode cX7_lists 64 = .ok (.iload_n 2, 1) := by decide +kernel
theorem dX7_lists_65 : decode cX7_lists 65 = .ok (.iload_n 1, 1) := by decide +kernel
theorem dX7_lists_66 : decode cX7_lists 66 = .ok (.invokestatic 110, 3) := by decide +kernel
theorem dX7_lists_69 : decode cX7_lists 69 = .ok (.if_icmp .ge 18, 3) := by decide +kernel
theorem dX7_lists_72 : decode cX7_lists 72 = .ok (.aload_n 0, 1) := by decide +kernel
theorem dX7_lists_73 : decode cX7_lists 73 = .ok (.iload_n 1, 1) := by decide +kernel
theorem dX7_lists_74 : decode cX7_lists 74 = .ok (.iload_n 2, 1) := by decide +kernel
theorem dX7_lists_75 : decode cX7_lists 75 = .ok (.invokestatic 113, 3) := by decide +kernel
theorem dX7_lists_78 : decode cX7_lists 78 = .ok (.invokevirtual 129, 3) := by decide +kernel
theorem dX7_lists_81 : decode cX7_lists 81 = .ok (.iinc 2 1, 3) := by decide +kernel
theorem dX7_lists_84 : decode cX7_lists 84 = .ok (.goto (-20), 3) := by decide +kernel
theorem dX7_lists_87 : decode cX7_lists 87 = .ok (.aload_n 0, 1) := by decide +kernel
theorem dX7_lists_88 : decode cX7_lists 88 = .ok (.dup, 1) := by decide +kernel
theorem dX7_lists_89 : decode cX7_lists 89 = .ok (.getfield 123, 3) := by decide +kernel
theorem dX7_lists_92 : decode cX7_lists 92 = .ok (.iconst 1, 1) := by decide +kernel
theorem dX7_lists_93 : decode cX7_lists 93 = .ok (.iadd, 1) := by decide +kernel
theorem dX7_lists_94 : decode cX7_lists 94 = .ok (.putfield 123, 3) := by decide +kernel
theorem dX7_lists_97 : decode cX7_lists 97 = .ok (.iinc 1 1, 3) := by decide +kernel
theorem dX7_lists_100 : decode cX7_lists 100 = .ok (.goto (-93), 3) := by decide +kernel
theorem dX7_lists_103 : decode cX7_lists 103 = .ok (.return_, 1) := by decide +kernel
theorem dX7_adds_0 : decode cX7_adds 0 = .ok (.aload_n 0, 1) := by decide +kernel
theorem dX7_adds_1 : decode cX7_adds 1 = .ok (.getfield 35, 3) := by decide +kernel
theorem dX7_adds_4 : decode cX7_adds 4 = .ok (.aload_n 0, 1) := by decide +kernel
theorem dX7_adds_5 : decode cX7_adds 5 = .ok (.getfield 123, 3) := by decide +kernel
theorem dX7_adds_8 : decode cX7_adds 8 = .ok (.dup2, 1) := by decide +kernel
theorem dX7_adds_9 : decode cX7_adds 9 = .ok (.iaload, 1) := by decide +kernel
theorem dX7_adds_10 : decode cX7_adds 10 = .ok (.aload_n 0, 1) := by decide +kernel
theorem dX7_adds_11 : decode cX7_adds 11 = .ok (.getfield 13, 3) := by decide +kernel
theorem dX7_adds_14 : decode cX7_adds 14 = .ok (.bipush 12, 2) := by decide +kernel
theorem dX7_adds_16 : decode cX7_adds 16 = .ok (.iload_n 1, 1) := by decide +kernel
theorem dX7_adds_17 : decode cX7_adds 17 = .ok (.iadd, 1) := by decide +kernel
theorem dX7_adds_18 : decode cX7_adds 18 = .ok (.iaload, 1) := by decide +kernel
theorem dX7_adds_19 : decode cX7_adds 19 = .ok (.iadd, 1) := by decide +kernel
theorem dX7_adds_20 : decode cX7_adds 20 = .ok (.iastore, 1) := by decide +kernel
theorem dX7_adds_21 : decode cX7_adds 21 = .ok (.aload_n 0, 1) := by decide +kernel
theorem dX7_adds_22 : decode cX7_adds 22 = .ok (.getfield 38, 3) := by decide +kernel
theorem dX7_adds_25 : decode cX7_adds 25 = .ok (.aload_n 0, 1) := by decide +kernel
theorem dX7_adds_26 : decode cX7_adds 26 = .ok (.getfield 123, 3) := by decide +kernel
theorem dX7_adds_29 : decode cX7_adds 29 = .ok (.dup2, 1) := by decide +kernel
theorem dX7_adds_30 : decode cX7_adds 30 = .ok (.iaload, 1) := by decide +kernel
theorem dX7_adds_31 : decode cX7_adds 31 = .ok (.aload_n 0, 1) := by decide +kernel
theorem dX7_adds_32 : decode cX7_adds 32 = .ok (.getfield 13, 3) := by decide +kernel
theorem dX7_adds_35 : decode cX7_adds 35 = .ok (.bipush 21, 2) := by decide +kernel
theorem dX7_adds_37 : decode cX7_adds 37 = .ok (.iload_n 1, 1) := by decide +kernel
theorem dX7_adds_38 : decode cX7_adds 38 = .ok (.iadd, 1) := by decide +kernel
theorem dX7_adds_39 : decode cX7_adds 39 = .ok (.iaload, 1) := by decide +kernel
theorem dX7_adds_40 : decode cX7_adds 40 = .ok (.iadd, 1) := by decide +kernel
theorem dX7_adds_41 : decode cX7_adds 41 = .ok (.iastore, 1) := by decide +kernel
theorem dX7_adds_42 : decode cX7_adds 42 = .ok (.iconst 0, 1) := by decide +kernel
theorem dX7_adds_43 : decode cX7_adds 43 = .ok (.istore_n 2, 1) := by decide +kernel
theorem dX7_adds_44 : decode cX7_adds 44 = .ok (.iload_n 2, 1) := by decide +kernel
theorem dX7_adds_45 : decode cX7_adds 45 = .ok (.aload_n 0, 1) := by decide +kernel
theorem dX7_adds_46 : decode cX7_adds 46 = .ok (.getfield 13, 3) := by decide +kernel
theorem dX7_adds_49 : decode cX7_adds 49 = .ok (.bipush 30, 2) := by decide +kernel
theorem dX7_adds_51 : decode cX7_adds 51 = .ok (.iload_n 1, 1) := by decide +kernel
theorem dX7_adds_52 : decode cX7_adds 52 = .ok (.iadd, 1) := by decide +kernel
theorem dX7_adds_53 : decode cX7_adds 53 = .ok (.iaload, 1) := by decide +kernel
theorem dX7_adds_54 : decode cX7_adds 54 = .ok (.if_icmp .ge 38, 3) := by decide +kernel
theorem dX7_adds_57 : decode cX7_adds 57 = .ok (.aload_n 0, 1) := by decide +kernel
theorem dX7_adds_58 : decode cX7_adds 58 = .ok (.getfield 32, 3) := by decide +kernel
theorem dX7_adds_61 : decode cX7_adds 61 = .ok (.aload_n 0, 1) := by decide +kernel
theorem dX7_adds_62 : decode cX7_adds 62 = .ok (.getfield 123, 3) := by decide +kernel
theorem dX7_adds_65 : decode cX7_adds 65 = .ok (.dup2, 1) := by decide +kernel
theorem dX7_adds_66 : decode cX7_adds 66 = .ok (.iaload, 1) := by decide +kernel
theorem dX7_adds_67 : decode cX7_adds 67 = .ok (.iconst 1, 1) := by decide +kernel
theorem dX7_adds_68 : decode cX7_adds 68 = .ok (.iconst 4, 1) := by decide +kernel
theorem dX7_adds_69 : decode cX7_adds 69 = .ok (.aload_n 0, 1) := by decide +kernel
theorem dX7_adds_70 : decode cX7_adds 70 = .ok (.getfield 13, 3) := by decide +kernel
theorem dX7_adds_73 : decode cX7_adds 73 = .ok (.bipush 39, 2) := by decide +kernel
theorem dX7_adds_75 : decode cX7_adds 75 = .ok (.iconst 5, 1) := by decide +kernel
theorem dX7_adds_76 : decode cX7_adds 76 = .ok (.iload_n 1, 1) := by decide +kernel
theorem dX7_adds_77 : decode cX7_adds 77 = .ok (.imul, 1) := by decide +kernel
theorem dX7_adds_78 : decode cX7_adds 78 = .ok (.iadd, 1) := by decide +kernel
theorem dX7_adds_79 : decode cX7_adds 79 = .ok (.iload_n 2, 1) := by decide +kernel
theorem dX7_adds_80 : decode cX7_adds 80 = .ok (.iadd, 1) := by decide +kernel
theorem dX7_adds_81 : decode cX7_adds 81 = .ok (.iaload, 1) := by decide +kernel
theorem dX7_adds_82 : decode cX7_adds 82 = .ok (.imul, 1) := by decide +kernel
theorem dX7_adds_83 : decode cX7_adds 83 = .ok (.ishl, 1) := by decide +kernel
theorem dX7_adds_84 : decode cX7_adds 84 = .ok (.iadd, 1) := by decide +kernel
theorem dX7_adds_85 : decode cX7_adds 85 = .ok (.iastore, 1) := by decide +kernel
theorem dX7_adds_86 : decode cX7_adds 86 = .ok (.iinc 2 1, 3) := by decide +kernel
theorem dX7_adds_89 : decode cX7_adds 89 = .ok (.goto (-45), 3) := by decide +kernel
theorem dX7_adds_92 : decode cX7_adds 92 = .ok (.return_, 1) := by decide +kernel
theorem dX7_placeOf_0 : decode cX7_placeOf 0 = .ok (.bipush (-9), 2) := by decide +kernel
theorem dX7_placeOf_2 : decode cX7_placeOf 2 = .ok (.istore_n 2, 1) := by decide +kernel
theorem dX7_placeOf_3 : decode cX7_placeOf 3 = .ok (.iconst 0, 1) := by decide +kernel
theorem dX7_placeOf_4 : decode cX7_placeOf 4 = .ok (.istore_n 3, 1) := by decide +kernel
theorem dX7_placeOf_5 : decode cX7_placeOf 5 = .ok (.iload_n 3, 1) := by decide +kernel
theorem dX7_placeOf_6 : decode cX7_placeOf 6 = .ok (.aload_n 0, 1) := by decide +kernel
theorem dX7_placeOf_7 : decode cX7_placeOf 7 = .ok (.getfield 123, 3) := by decide +kernel
theorem dX7_placeOf_10 : decode cX7_placeOf 10 = .ok (.if_icmp .ge 25, 3) := by decide +kernel
theorem dX7_placeOf_13 : decode cX7_placeOf 13 = .ok (.aload_n 0, 1) := by decide +kernel
theorem dX7_placeOf_14 : decode cX7_placeOf 14 = .ok (.getfield 29, 3) := by decide +kernel
theorem dX7_placeOf_17 : decode cX7_placeOf 17 = .ok (.iload_n 3, 1) := by decide +kernel
theorem dX7_placeOf_18 : decode cX7_placeOf 18 = .ok (.iaload, 1) := by decide +kernel
theorem dX7_placeOf_19 : decode cX7_placeOf 19 = .ok (.iload_n 1, 1) := by decide +kernel
theorem dX7_placeOf_20 : decode cX7_placeOf 20 = .ok (.if_icmp .ne 7, 3) := by decide +kernel
theorem dX7_placeOf_23 : decode cX7_placeOf 23 = .ok (.iload_n 3, 1) := by decide +kernel
theorem dX7_placeOf_24 : decode cX7_placeOf 24 = .ok (.goto 4, 3) := by decide +kernel
theorem dX7_placeOf_27 : decode cX7_placeOf 27 = .ok (.iload_n 2, 1) := by decide +kernel
theorem dX7_placeOf_28 : decode cX7_placeOf 28 = .ok (.istore_n 2, 1) := by decide +kernel
theorem dX7_placeOf_29 : decode cX7_placeOf 29 = .ok (.iinc 3 1, 3) := by decide +kernel
theorem dX7_placeOf_32 : decode cX7_placeOf 32 = .ok (.goto (-27), 3) := by decide +kernel
theorem dX7_placeOf_35 : decode cX7_placeOf 35 = .ok (.iload_n 2, 1) := by decide +kernel
theorem dX7_placeOf_36 : decode cX7_placeOf 36 = .ok (.ireturn, 1) := by decide +kernel
theorem dX7_countOf_0 : decode cX7_countOf 0 = .ok (.iload_n 0, 1) := by decide +kernel
theorem dX7_countOf_1 : decode cX7_countOf 1 = .ok (.iconst 4, 1) := by decide +kernel
theorem dX7_countOf_2 : decode cX7_countOf 2 = .ok (.iload_n 1, 1) := by decide +kernel
theorem dX7_countOf_3 : decode cX7_countOf 3 = .ok (.imul, 1) := by decide +kernel
theorem dX7_countOf_4 : decode cX7_countOf 4 = .ok (.ishr, 1) := by decide +kernel
theorem dX7_countOf_5 : decode cX7_countOf 5 = .ok (.bipush 15, 2) := by decide +kernel
theorem dX7_countOf_7 : decode cX7_countOf 7 = .ok (.iand, 1) := by decide +kernel
theorem dX7_countOf_8 : decode cX7_countOf 8 = .ok (.ireturn, 1) := by decide +kernel
theorem dX7_word_0 : decode cX7_word 0 = .ok (.aload_n 0, 1) := by decide +kernel
theorem dX7_word_1 : decode cX7_word 1 = .ok (.iload_n 1, 1) := by decide +kernel
theorem dX7_word_2 : decode cX7_word 2 = .ok (.invokevirtual 117, 3) := by decide +kernel
theorem dX7_word_5 : decode cX7_word 5 = .ok (.ifCond .eq 12, 3) := by decide +kernel
theorem dX7_word_8 : decode cX7_word 8 = .ok (.iload_n 2, 1) := by decide +kernel
theorem dX7_word_9 : decode cX7_word 9 = .ok (.iconst 0, 1) := by decide +kernel
theorem dX7_word_10 : decode cX7_word 10 = .ok (.iconst 3, 1) := by decide +kernel
theorem dX7_word_11 : decode cX7_word 11 = .ok (.invokestatic 47, 3) := by decide +kernel
theorem dX7_word_14 : decode cX7_word 14 = .ok (.ifCond .ne 5, 3) := by decide +kernel
theorem dX7_word_17 : decode cX7_word 17 = .ok (.iconst (-1), 1) := by decide +kernel
theorem dX7_word_18 : decode cX7_word 18 = .ok (.ireturn, 1) := by decide +kernel
theorem dX7_word_19 : decode cX7_word 19 = .ok (.iload_n 2, 1) := by decide +kernel
theorem dX7_word_20 : decode cX7_word 20 = .ok (.ifCond .ne 15, 3) := by decide +kernel
theorem dX7_word_23 : decode cX7_word 23 = .ok (.aload_n 0, 1) := by decide +kernel
theorem dX7_word_24 : decode cX7_word 24 = .ok (.getfield 13, 3) := by decide +kernel
theorem dX7_word_27 : decode cX7_word 27 = .ok (.bipush 30, 2) := by decide +kernel
theorem dX7_word_29 : decode cX7_word 29 = .ok (.iload_n 1, 1) := by decide +kernel
theorem dX7_word_30 : decode cX7_word 30 = .ok (.iadd, 1) := by decide +kernel
theorem dX7_word_31 : decode cX7_word 31 = .ok (.iaload, 1) := by decide +kernel
theorem dX7_word_32 : decode cX7_word 32 = .ok (.goto 45, 3) := by decide +kernel
theorem dX7_word_35 : decode cX7_word 35 = .ok (.iload_n 2, 1) := by decide +kernel
theorem dX7_word_36 : decode cX7_word 36 = .ok (.iconst 1, 1) := by decide +kernel
theorem dX7_word_37 : decode cX7_word 37 = .ok (.if_icmp .ne 14, 3) := by decide +kernel
theorem dX7_word_40 : decode cX7_word 40 = .ok (.aload_n 0, 1) := by decide +kernel
theorem dX7_word_41 : decode cX7_word 41 = .ok (.getfield 13, 3) := by decide +kernel
theorem dX7_word_44 : decode cX7_word 44 = .ok (.iconst 3, 1) := by decide +kernel
theorem dX7_word_45 : decode cX7_word 45 = .ok (.iload_n 1, 1) := by decide +kernel
theorem dX7_word_46 : decode cX7_word 46 = .ok (.iadd, 1) := by decide +kernel
theorem dX7_word_47 : decode cX7_word 47 = .ok (.iaload, 1) := by decide +kernel
theorem dX7_word_48 : decode cX7_word 48 = .ok (.goto 29, 3) := by decide +kernel
theorem dX7_word_51 : decode cX7_word 51 = .ok (.iload_n 2, 1) := by decide +kernel
theorem dX7_word_52 : decode cX7_word 52 = .ok (.iconst 2, 1) := by decide +kernel
theorem dX7_word_53 : decode cX7_word 53 = .ok (.if_icmp .ne 15, 3) := by decide +kernel
theorem dX7_word_56 : decode cX7_word 56 = .ok (.aload_n 0, 1) := by decide +kernel
theorem dX7_word_57 : decode cX7_word 57 = .ok (.getfield 13, 3) := by decide +kernel
theorem dX7_word_60 : decode cX7_word 60 = .ok (.bipush 12, 2) := by decide +kernel
theorem dX7_word_62 : decode cX7_word 62 = .ok (.iload_n 1, 1) := by decide +kernel
theorem dX7_word_63 : decode cX7_word 63 = .ok (.iadd, 1) := by decide +kernel
theorem dX7_word_64 : decode cX7_word 64 = .ok (.iaload, 1) := by decide +kernel
theorem dX7_word_65 : decode cX7_word 65 = .ok (.goto 12, 3) := by decide +kernel
theorem dX7_word_68 : decode cX7_word 68 = .ok (.aload_n 0, 1) := by decide +kernel
theorem dX7_word_69 : decode cX7_word 69 = .ok (.getfield 13, 3) := by decide +kernel
theorem dX7_word_72 : decode cX7_word 72 = .ok (.bipush 21, 2) := by decide +kernel
theorem dX7_word_74 : decode cX7_word 74 = .ok (.iload_n 1, 1) := by decide +kernel
theorem dX7_word_75 : decode cX7_word 75 = .ok (.iadd, 1) := by decide +kernel
theorem dX7_word_76 : decode cX7_word 76 = .ok (.iaload, 1) := by decide +kernel
theorem dX7_word_77 : decode cX7_word 77 = .ok (.ireturn, 1) := by decide +kernel
theorem dX7_spell_0 : decode cX7_spell 0 = .ok (.aload_n 0, 1) := by decide +kernel
theorem dX7_spell_1 : decode cX7_spell 1 = .ok (.iload_n 1, 1) := by decide +kernel
theorem dX7_spell_2 : decode cX7_spell 2 = .ok (.invokevirtual 117, 3) := by decide +kernel
theorem dX7_spell_5 : decode cX7_spell 5 = .ok (.ifCond .eq 7, 3) := by decide +kernel
theorem dX7_spell_8 : decode cX7_spell 8 = .ok (.iload_n 2, 1) := by decide +kernel
theorem dX7_spell_9 : decode cX7_spell 9 = .ok (.ifCond .ge 5, 3) := by decide +kernel
theorem dX7_spell_12 : decode cX7_spell 12 = .ok (.iconst (-1), 1) := by decide +kernel
theorem dX7_spell_13 : decode cX7_spell 13 = .ok (.ireturn, 1) := by decide +kernel
theorem dX7_spell_14 : decode cX7_spell 14 = .ok (.iload_n 2, 1) := by decide +kernel
theorem dX7_spell_15 : decode cX7_spell 15 = .ok (.aload_n 0, 1) := by decide +kernel
theorem dX7_spell_16 : decode cX7_spell 16 = .ok (.getfield 13, 3) := by decide +kernel
theorem dX7_spell_19 : decode cX7_spell 19 = .ok (.bipush 30, 2) := by decide +kernel
theorem dX7_spell_21 : decode cX7_spell 21 = .ok (.iload_n 1, 1) := by decide +kernel
theorem dX7_spell_22 : decode cX7_spell 22 = .ok (.iadd, 1) := by decide +kernel
theorem dX7_spell_23 : decode cX7_spell 23 = .ok (.iaload, 1) := by decide +kernel
theorem dX7_spell_24 : decode cX7_spell 24 = .ok (.if_icmp .ge 19, 3) := by decide +kernel
theorem dX7_spell_27 : decode cX7_spell 27 = .ok (.aload_n 0, 1) := by decide +kernel
theorem dX7_spell_28 : decode cX7_spell 28 = .ok (.getfield 13, 3) := by decide +kernel
theorem dX7_spell_31 : decode cX7_spell 31 = .ok (.bipush 39, 2) := by decide +kernel
theorem dX7_spell_33 : decode cX7_spell 33 = .ok (.iconst 5, 1) := by decide +kernel
theorem dX7_spell_34 : decode cX7_spell 34 = .ok (.iload_n 1, 1) := by decide +kernel
theorem dX7_spell_35 : decode cX7_spell 35 = .ok (.imul, 1) := by decide +kernel
theorem dX7_spell_36 : decode cX7_spell 36 = .ok (.iadd, 1) := by decide +kernel
theorem dX7_spell_37 : decode cX7_spell 37 = .ok (.iload_n 2, 1) := by decide +kernel
theorem dX7_spell_38 : decode cX7_spell 38 = .ok (.iadd, 1) := by decide +kernel
theorem dX7_spell_39 : decode cX7_spell 39 = .ok (.iaload, 1) := by decide +kernel
theorem dX7_spell_40 : decode cX7_spell 40 = .ok (.goto 5, 3) := by decide +kernel
theorem dX7_spell_43 : decode cX7_spell 43 = .ok (.bipush (-5), 2) := by decide +kernel
theorem dX7_spell_45 : decode cX7_spell 45 = .ok (.ireturn, 1) := by decide +kernel
theorem dX7_shape_0 : decode cX7_shape 0 = .ok (.aload_n 0, 1) := by decide +kernel
theorem dX7_shape_1 : decode cX7_shape 1 = .ok (.iload_n 1, 1) := by decide +kernel
theorem dX7_shape_2 : decode cX7_shape 2 = .ok (.invokevirtual 133, 3) := by decide +kernel
theorem dX7_shape_5 : decode cX7_shape 5 = .ok (.ifCond .eq 7, 3) := by decide +kernel
theorem dX7_shape_8 : decode cX7_shape 8 = .ok (.iload_n 2, 1) := by decide +kernel
theorem dX7_shape_9 : decode cX7_shape 9 = .ok (.ifCond .ge 5, 3) := by decide +kernel
theorem dX7_shape_12 : decode cX7_shape 12 = .ok (.iconst (-1), 1) := by decide +kernel
theorem dX7_shape_13 : decode cX7_shape 13 = .ok (.ireturn, 1) := by decide +kernel
theorem dX7_shape_14 : decode cX7_shape 14 = .ok (.iload_n 2, 1) := by decide +kernel
theorem dX7_shape_15 : decode cX7_shape 15 = .ok (.aload_n 0, 1) := by decide +kernel
theorem dX7_shape_16 : decode cX7_shape 16 = .ok (.getfield 13, 3) := by decide +kernel
theorem dX7_shape_19 : decode cX7_shape 19 = .ok (.bipush 84, 2) := by decide +kernel
theorem dX7_shape_21 : decode cX7_shape 21 = .ok (.iload_n 1, 1) := by decide +kernel
theorem dX7_shape_22 : decode cX7_shape 22 = .ok (.iadd, 1) := by decide +kernel
theorem dX7_shape_23 : decode cX7_shape 23 = .ok (.iaload, 1) := by decide +kernel
theorem dX7_shape_24 : decode cX7_shape 24 = .ok (.if_icmp .ge 19, 3) := by decide +kernel
theorem dX7_shape_27 : decode cX7_shape 27 = .ok (.aload_n 0, 1) := by decide +kernel
theorem dX7_shape_28 : decode cX7_shape 28 = .ok (.getfield 13, 3) := by decide +kernel
theorem dX7_shape_31 : decode cX7_shape 31 = .ok (.bipush 88, 2) := by decide +kernel
theorem dX7_shape_33 : decode cX7_shape 33 = .ok (.iconst 3, 1) := by decide +kernel
theorem dX7_shape_34 : decode cX7_shape 34 = .ok (.iload_n 1, 1) := by decide +kernel
theorem dX7_shape_35 : decode cX7_shape 35 = .ok (.imul, 1) := by decide +kernel
theorem dX7_shape_36 : decode cX7_shape 36 = .ok (.iadd, 1) := by decide +kernel
theorem dX7_shape_37 : decode cX7_shape 37 = .ok (.iload_n 2, 1) := by decide +kernel
theorem dX7_shape_38 : decode cX7_shape 38 = .ok (.iadd, 1) := by decide +kernel
theorem dX7_shape_39 : decode cX7_shape 39 = .ok (.iaload, 1) := by decide +kernel
theorem dX7_shape_40 : decode cX7_shape 40 = .ok (.goto 5, 3) := by decide +kernel
theorem dX7_shape_43 : decode cX7_shape 43 = .ok (.bipush (-5), 2) := by decide +kernel
theorem dX7_shape_45 : decode cX7_shape 45 = .ok (.ireturn, 1) := by decide +kernel
theorem dX7_letter_0 : decode cX7_letter 0 = .ok (.aload_n 0, 1) := by decide +kernel
theorem dX7_letter_1 : decode cX7_letter 1 = .ok (.iload_n 1, 1) := by decide +kernel
theorem dX7_letter_2 : decode cX7_letter 2 = .ok (.invokevirtual 136, 3) := by decide +kernel
theorem dX7_letter_5 : decode cX7_letter 5 = .ok (.istore_n 3, 1) := by decide +kernel
theorem dX7_letter_6 : decode cX7_letter 6 = .ok (.iload_n 3, 1) := by decide +kernel
theorem dX7_letter_7 : decode cX7_letter 7 = .ok (.bipush (-9), 2) := by decide +kernel
theorem dX7_letter_9 : decode cX7_letter 9 = .ok (.if_icmp .eq 12, 3) := by decide +kernel
theorem dX7_letter_12 : decode cX7_letter 12 = .ok (.iload_n 2, 1) := by decide +kernel
theorem dX7_letter_13 : decode cX7_letter 13 = .ok (.iconst 0, 1) := by decide +kernel
theorem dX7_letter_14 : decode cX7_letter 14 = .ok (.iconst 2, 1) := by decide +kernel
theorem dX7_letter_15 : decode cX7_letter 15 = .ok (.invokestatic 47, 3) := by decide +kernel
theorem dX7_letter_18 : decode cX7_letter 18 = .ok (.ifCond .ne 5, 3) := by decide +kernel
theorem dX7_letter_21 : decode cX7_letter 21 = .ok (.iconst (-1), 1) := by decide +kernel
theorem dX7_letter_22 : decode cX7_letter 22 = .ok (.ireturn, 1) := by decide +kernel
theorem dX7_letter_23 : decode cX7_letter 23 = .ok (.iconst 0, 1) := by decide +kernel
theorem dX7_letter_24 : decode cX7_letter 24 = .ok (.istore 4, 2) := by decide +kernel
theorem dX7_letter_26 : decode cX7_letter 26 = .ok (.iconst 0, 1) := by decide +kernel
theorem dX7_letter_27 : decode cX7_letter 27 = .ok (.istore 5, 2) := by decide +kernel
theorem dX7_letter_29 : decode cX7_letter 29 = .ok (.iload 5, 2) := by decide +kernel
theorem dX7_letter_31 : decode cX7_letter 31 = .ok (.bipush 8, 2) := by decide +kernel
theorem dX7_letter_33 : decode cX7_letter 33 = .ok (.if_icmp .ge 25, 3) := by decide +kernel
theorem dX7_letter_36 : decode cX7_letter 36 = .ok (.iload 4, 2) := by decide +kernel
theorem dX7_letter_38 : decode cX7_letter 38 = .ok (.aload_n 0, 1) := by decide +kernel
theorem dX7_letter_39 : decode cX7_letter 39 = .ok (.getfield 32, 3) := by decide +kernel
theorem dX7_letter_42 : decode cX7_letter 42 = .ok (.iload_n 3, 1) := by decide +kernel
theorem dX7_letter_43 : decode cX7_letter 43 = .ok (.iaload, 1) := by decide +kernel
theorem dX7_letter_44 : decode cX7_letter 44 = .ok (.iload 5, 2) := by decide +kernel
theorem dX7_letter_46 : decode cX7_letter 46 = .ok (.invokestatic 139, 3) := by decide +kernel
theorem dX7_letter_49 : decode cX7_letter 49 = .ok (.iadd, 1) := by decide +kernel
theorem dX7_letter_50 : decode cX7_letter 50 = .ok (.istore 4, 2) := by decide +kernel
theorem dX7_letter_52 : decode cX7_letter 52 = .ok (.iinc 5 1, 3) := by decide +kernel
theorem dX7_letter_55 : decode cX7_letter 55 = .ok (.goto (-26), 3) := by decide +kernel
theorem dX7_letter_58 : decode cX7_letter 58 = .ok (.iload_n 2, 1) := by decide +kernel
theorem dX7_letter_59 : decode cX7_letter 59 = .ok (.ifCond .ne 12, 3) := by decide +kernel
theorem dX7_letter_62 : decode cX7_letter 62 = .ok (.aload_n 0, 1) := by decide +kernel
theorem dX7_letter_63 : decode cX7_letter 63 = .ok (.getfield 35, 3) := by decide +kernel
theorem dX7_letter_66 : decode cX7_letter 66 = .ok (.iload_n 3, 1) := by decide +kernel
theorem dX7_letter_67 : decode cX7_letter 67 = .ok (.iaload, 1) := by decide +kernel
theorem dX7_letter_68 : decode cX7_letter 68 = .ok (.goto 19, 3) := by decide +kernel
theorem dX7_letter_71 : decode cX7_letter 71 = .ok (.iload_n 2, 1) := by decide +kernel
theorem dX7_letter_72 : decode cX7_letter 72 = .ok (.iconst 1, 1) := by decide +kernel
theorem dX7_letter_73 : decode cX7_letter 73 = .ok (.if_icmp .ne 12, 3) := by decide +kernel
theorem dX7_letter_76 : decode cX7_letter 76 = .ok (.aload_n 0, 1) := by decide +kernel
theorem dX7_letter_77 : decode cX7_letter 77 = .ok (.getfield 38, 3) := by decide +kernel
theorem dX7_letter_80 : decode cX7_letter 80 = .ok (.iload_n 3, 1) := by decide +kernel
theorem dX7_letter_81 : decode cX7_letter 81 = .ok (.iaload, 1) := by decide +kernel
theorem dX7_letter_82 : decode cX7_letter 82 = .ok (.goto 5, 3) := by decide +kernel
theorem dX7_letter_85 : decode cX7_letter 85 = .ok (.iload 4, 2) := by decide +kernel
theorem dX7_letter_87 : decode cX7_letter 87 = .ok (.ireturn, 1) := by decide +kernel
theorem dX7_has_0 : decode cX7_has 0 = .ok (.aload_n 0, 1) := by decide +kernel
theorem dX7_has_1 : decode cX7_has 1 = .ok (.iload_n 1, 1) := by decide +kernel
theorem dX7_has_2 : decode cX7_has 2 = .ok (.invokevirtual 136, 3) := by decide +kernel
theorem dX7_has_5 : decode cX7_has 5 = .ok (.istore_n 3, 1) := by decide +kernel
theorem dX7_has_6 : decode cX7_has 6 = .ok (.iload_n 3, 1) := by decide +kernel
theorem dX7_has_7 : decode cX7_has 7 = .ok (.bipush (-9), 2) := by decide +kernel
theorem dX7_has_9 : decode cX7_has 9 = .ok (.if_icmp .eq 13, 3) := by decide +kernel
theorem dX7_has_12 : decode cX7_has 12 = .ok (.iload_n 2, 1) := by decide +kernel
theorem dX7_has_13 : decode cX7_has 13 = .ok (.iconst 0, 1) := by decide +kernel
theorem dX7_has_14 : decode cX7_has 14 = .ok (.bipush 7, 2) := by decide +kernel
theorem dX7_has_16 : decode cX7_has 16 = .ok (.invokestatic 47, 3) := by decide +kernel
theorem dX7_has_19 : decode cX7_has 19 = .ok (.ifCond .ne 7, 3) := by decide +kernel
theorem dX7_has_22 : decode cX7_has 22 = .ok (.iconst (-1), 1) := by decide +kernel
theorem dX7_has_23 : decode cX7_has 23 = .ok (.goto 13, 3) := by decide +kernel
theorem dX7_has_26 : decode cX7_has 26 = .ok (.aload_n 0, 1) := by decide +kernel
theorem dX7_has_27 : decode cX7_has 27 = .ok (.getfield 32, 3) := by decide +kernel
theorem dX7_has_30 : decode cX7_has 30 = .ok (.iload_n 3, 1) := by decide +kernel
theorem dX7_has_31 : decode cX7_has 31 = .ok (.iaload, 1) := by decide +kernel
theorem dX7_has_32 : decode cX7_has 32 = .ok (.iload_n 2, 1) := by decide +kernel
theorem dX7_has_33 : decode cX7_has 33 = .ok (.invokestatic 139, 3) := by decide +kernel
theorem dX7_has_36 : decode cX7_has 36 = .ok (.ireturn, 1) := by decide +kernel
theorem dX7_write_0 : decode cX7_write 0 = .ok (.aload_n 0, 1) := by decide +kernel
theorem dX7_write_1 : decode cX7_write 1 = .ok (.iload_n 1, 1) := by decide +kernel
theorem dX7_write_2 : decode cX7_write 2 = .ok (.invokevirtual 136, 3) := by decide +kernel
theorem dX7_write_5 : decode cX7_write 5 = .ok (.istore_n 2, 1) := by decide +kernel
theorem dX7_write_6 : decode cX7_write 6 = .ok (.iload_n 2, 1) := by decide +kernel
theorem dX7_write_7 : decode cX7_write 7 = .ok (.bipush (-9), 2) := by decide +kernel
theorem dX7_write_9 : decode cX7_write 9 = .ok (.if_icmp .ne 5, 3) := by decide +kernel
theorem dX7_write_12 : decode cX7_write 12 = .ok (.iconst (-1), 1) := by decide +kernel
theorem dX7_write_13 : decode cX7_write 13 = .ok (.ireturn, 1) := by decide +kernel
theorem dX7_write_14 : decode cX7_write 14 = .ok (.aload_n 0, 1) := by decide +kernel
theorem dX7_write_15 : decode cX7_write 15 = .ok (.getfield 19, 3) := by decide +kernel
theorem dX7_write_18 : decode cX7_write 18 = .ok (.iconst 0, 1) := by decide +kernel
theorem dX7_write_19 : decode cX7_write 19 = .ok (.iaload, 1) := by decide +kernel
theorem dX7_write_20 : decode cX7_write 20 = .ok (.ifCond .le 50, 3) := by decide +kernel
theorem dX7_write_23 : decode cX7_write 23 = .ok (.aload_n 0, 1) := by decide +kernel
theorem dX7_write_24 : decode cX7_write 24 = .ok (.getfield 19, 3) := by decide +kernel
theorem dX7_write_27 : decode cX7_write 27 = .ok (.aload_n 0, 1) := by decide +kernel
theorem dX7_write_28 : decode cX7_write 28 = .ok (.getfield 19, 3) := by decide +kernel
theorem dX7_write_31 : decode cX7_write 31 = .ok (.iconst 0, 1) := by decide +kernel
theorem dX7_write_32 : decode cX7_write 32 = .ok (.iaload, 1) := by decide +kernel
theorem dX7_write_33 : decode cX7_write 33 = .ok (.iaload, 1) := by decide +kernel
theorem dX7_write_34 : decode cX7_write 34 = .ok (.iload_n 1, 1) := by decide +kernel
theorem dX7_write_35 : decode cX7_write 35 = .ok (.if_icmp .eq 32, 3) := by decide +kernel
theorem dX7_write_38 : decode cX7_write 38 = .ok (.aload_n 0, 1) := by decide +kernel
theorem dX7_write_39 : decode cX7_write 39 = .ok (.getfield 32, 3) := by decide +kernel
theorem dX7_write_42 : decode cX7_write 42 = .ok (.aload_n 0, 1) := by decide +kernel
theorem dX7_write_43 : decode cX7_write 43 = .ok (.aload_n 0, 1) := by decide +kernel
theorem dX7_write_44 : decode cX7_write 44 = .ok (.getfield 19, 3) := by decide +kernel
theorem dX7_write_47 : decode cX7_write 47 = .ok (.aload_n 0, 1) := by decide +kernel
theorem dX7_write_48 : decode cX7_write 48 = .ok (.getfield 19, 3) := by decide +kernel
theorem dX7_write_51 : decode cX7_write 51 = .ok (.iconst 0, 1) := by decide +kernel
theorem dX7_write_52 : decode cX7_write 52 = .ok (.iaload, 1) := by decide +kernel
theorem dX7_write_53 : decode cX7_write 53 = .ok (.iaload, 1) := by decide +kernel
theorem dX7_write_54 : decode cX7_write 54 = .ok (.invokevirtual 136, 3) := by decide +kernel
theorem dX7_write_57 : decode cX7_write 57 = .ok (.iaload, 1) := by decide +kernel
theorem dX7_write_58 : decode cX7_write 58 = .ok (.aload_n 0, 1) := by decide +kernel
theorem dX7_write_59 : decode cX7_write 59 = .ok (.getfield 32, 3) := by decide +kernel
theorem dX7_write_62 : decode cX7_write 62 = .ok (.iload_n 2, 1) := by decide +kernel
theorem dX7_write_63 : decode cX7_write 63 = .ok (.iaload, 1) := by decide +kernel
theorem dX7_write_64 : decode cX7_write 64 = .ok (.if_icmp .eq 6, 3) := by decide +kernel
theorem dX7_write_67 : decode cX7_write 67 = .ok (.bipush (-2), 2) := by decide +kernel
theorem dX7_write_69 : decode cX7_write 69 = .ok (.ireturn, 1) := by decide +kernel
theorem dX7_write_70 : decode cX7_write 70 = .ok (.aload_n 0, 1) := by decide +kernel
theorem dX7_write_71 : decode cX7_write 71 = .ok (.getfield 19, 3) := by decide +kernel
theorem dX7_write_74 : decode cX7_write 74 = .ok (.iconst 0, 1) := by decide +kernel
theorem dX7_write_75 : decode cX7_write 75 = .ok (.iaload, 1) := by decide +kernel
theorem dX7_write_76 : decode cX7_write 76 = .ok (.bipush 12, 2) := by decide +kernel
theorem dX7_write_78 : decode cX7_write 78 = .ok (.if_icmp .ne 6, 3) := by decide +kernel
theorem dX7_write_81 : decode cX7_write 81 = .ok (.bipush (-3), 2) := by decide +kernel
theorem dX7_write_83 : decode cX7_write 83 = .ok (.ireturn, 1) := by decide +kernel
theorem dX7_write_84 : decode cX7_write 84 = .ok (.aload_n 0, 1) := by decide +kernel
theorem dX7_write_85 : decode cX7_write 85 = .ok (.getfield 19, 3) := by decide +kernel
theorem dX7_write_88 : decode cX7_write 88 = .ok (.iconst 0, 1) := by decide +kernel
theorem dX7_write_89 : decode cX7_write 89 = .ok (.dup2, 1) := by decide +kernel
theorem dX7_write_90 : decode cX7_write 90 = .ok (.iaload, 1) := by decide +kernel
theorem dX7_write_91 : decode cX7_write 91 = .ok (.iconst 1, 1) := by decide +kernel
theorem dX7_write_92 : decode cX7_write 92 = .ok (.iadd, 1) := by decide +kernel
theorem dX7_write_93 : decode cX7_write 93 = .ok (.iastore, 1) := by decide +kernel
theorem dX7_write_94 : decode cX7_write 94 = .ok (.aload_n 0, 1) := by decide +kernel
theorem dX7_write_95 : decode cX7_write 95 = .ok (.getfield 19, 3) := by decide +kernel
theorem dX7_write_98 : decode cX7_write 98 = .ok (.aload_n 0, 1) := by decide +kernel
theorem dX7_write_99 : decode cX7_write 99 = .ok (.getfield 19, 3) := by decide +kernel
theorem dX7_write_102 : decode cX7_write 102 = .ok (.iconst 0, 1) := by decide +kernel
theorem dX7_write_103 : decode cX7_write 103 = .ok (.iaload, 1) := by decide +kernel
theorem dX7_write_104 : decode cX7_write 104 = .ok (.iload_n 1, 1) := by decide +kernel
theorem dX7_write_105 : decode cX7_write 105 = .ok (.iastore, 1) := by decide +kernel
theorem dX7_write_106 : decode cX7_write 106 = .ok (.aload_n 0, 1) := by decide +kernel
theorem dX7_write_107 : decode cX7_write 107 = .ok (.getfield 19, 3) := by decide +kernel
theorem dX7_write_110 : decode cX7_write 110 = .ok (.iconst 0, 1) := by decide +kernel
theorem dX7_write_111 : decode cX7_write 111 = .ok (.iaload, 1) := by decide +kernel
theorem dX7_write_112 : decode cX7_write 112 = .ok (.ireturn, 1) := by decide +kernel
theorem dX7_undo_0 : decode cX7_undo 0 = .ok (.aload_n 0, 1) := by decide +kernel
theorem dX7_undo_1 : decode cX7_undo 1 = .ok (.getfield 19, 3) := by decide +kernel
theorem dX7_undo_4 : decode cX7_undo 4 = .ok (.iconst 0, 1) := by decide +kernel
theorem dX7_undo_5 : decode cX7_undo 5 = .ok (.iaload, 1) := by decide +kernel
theorem dX7_undo_6 : decode cX7_undo 6 = .ok (.ifCond .ne 6, 3) := by decide +kernel
theorem dX7_undo_9 : decode cX7_undo 9 = .ok (.bipush (-2), 2) := by decide +kernel
theorem dX7_undo_11 : decode cX7_undo 11 = .ok (.ireturn, 1) := by decide +kernel
theorem dX7_undo_12 : decode cX7_undo 12 = .ok (.aload_n 0, 1) := by decide +kernel
theorem dX7_undo_13 : decode cX7_undo 13 = .ok (.getfield 19, 3) := by decide +kernel
theorem dX7_undo_16 : decode cX7_undo 16 = .ok (.iconst 0, 1) := by decide +kernel
theorem dX7_undo_17 : decode cX7_undo 17 = .ok (.dup2, 1) := by decide +kernel
theorem dX7_undo_18 : decode cX7_undo 18 = .ok (.iaload, 1) := by decide +kernel
theorem dX7_undo_19 : decode cX7_undo 19 = .ok (.iconst 1, 1) := by decide +kernel
theorem dX7_undo_20 : decode cX7_undo 20 = .ok (.isub, 1) := by decide +kernel
theorem dX7_undo_21 : decode cX7_undo 21 = .ok (.iastore, 1) := by decide +kernel
theorem dX7_undo_22 : decode cX7_undo 22 = .ok (.aload_n 0, 1) := by decide +kernel
theorem dX7_undo_23 : decode cX7_undo 23 = .ok (.getfield 19, 3) := by decide +kernel
theorem dX7_undo_26 : decode cX7_undo 26 = .ok (.iconst 0, 1) := by decide +kernel
theorem dX7_undo_27 : decode cX7_undo 27 = .ok (.iaload, 1) := by decide +kernel
theorem dX7_undo_28 : decode cX7_undo 28 = .ok (.ireturn, 1) := by decide +kernel
theorem dX7_wrote_0 : decode cX7_wrote 0 = .ok (.iload_n 1, 1) := by decide +kernel
theorem dX7_wrote_1 : decode cX7_wrote 1 = .ok (.ifCond .ge 5, 3) := by decide +kernel
theorem dX7_wrote_4 : decode cX7_wrote 4 = .ok (.iconst (-1), 1) := by decide +kernel
theorem dX7_wrote_5 : decode cX7_wrote 5 = .ok (.ireturn, 1) := by decide +kernel
theorem dX7_wrote_6 : decode cX7_wrote 6 = .ok (.iload_n 1, 1) := by decide +kernel
theorem dX7_wrote_7 : decode cX7_wrote 7 = .ok (.aload_n 0, 1) := by decide +kernel
