theorem dL_part_0 : decode cL_part 0 = .ok (.iload_n 1, 1) := by decide +kernel
theorem dL_part_1 : decode cL_part 1 = .ok (.aload_n 0, 1) := by decide +kernel
theorem dL_part_2 : decode cL_part 2 = .ok (.arraylength, 1) := by decide +kernel
theorem dL_part_3 : decode cL_part 3 = .ok (.if_icmp .ge 9, 3) := by decide +kernel
theorem dL_part_6 : decode cL_part 6 = .ok (.aload_n 0, 1) := by decide +kernel
theorem dL_part_7 : decode cL_part 7 = .ok (.iload_n 1, 1) := by decide +kernel
theorem dL_part_8 : decode cL_part 8 = .ok (.iaload, 1) := by decide +kernel
theorem dL_part_9 : decode cL_part 9 = .ok (.goto 16, 3) := by decide +kernel
theorem dL_part_12 : decode cL_part 12 = .ok (.sipush 599, 3) := by decide +kernel
theorem dL_part_15 : decode cL_part 15 = .ok (.iload_n 1, 1) := by decide +kernel
theorem dL_part_16 : decode cL_part 16 = .ok (.imul, 1) := by decide +kernel
theorem dL_part_17 : decode cL_part 17 = .ok (.sipush 449, 3) := by decide +kernel
theorem dL_part_20 : decode cL_part 20 = .ok (.iload_n 1, 1) := by decide +kernel
theorem dL_part_21 : decode cL_part 21 = .ok (.imul, 1) := by decide +kernel
theorem dL_part_22 : decode cL_part 22 = .ok (.iload_n 1, 1) := by decide +kernel
theorem dL_part_23 : decode cL_part 23 = .ok (.imul, 1) := by decide +kernel
theorem dL_part_24 : decode cL_part 24 = .ok (.iadd, 1) := by decide +kernel
theorem dL_part_25 : decode cL_part 25 = .ok (.istore_n 3, 1) := by decide +kernel
theorem dL_part_26 : decode cL_part 26 = .ok (.iload_n 3, 1) := by decide +kernel
theorem dL_part_27 : decode cL_part 27 = .ok (.ldc 7, 2) := by decide +kernel
theorem dL_part_29 : decode cL_part 29 = .ok (.iand, 1) := by decide +kernel
theorem dL_part_30 : decode cL_part 30 = .ok (.iload_n 2, 1) := by decide +kernel
theorem dL_part_31 : decode cL_part 31 = .ok (.irem, 1) := by decide +kernel
theorem dL_part_32 : decode cL_part 32 = .ok (.ireturn, 1) := by decide +kernel
theorem dL_does_0 : decode cL_does 0 = .ok (.iload_n 1, 1) := by decide +kernel
theorem dL_does_1 : decode cL_does 1 = .ok (.ifCond .ne 11, 3) := by decide +kernel
theorem dL_does_4 : decode cL_does 4 = .ok (.aload_n 0, 1) := by decide +kernel
theorem dL_does_5 : decode cL_does 5 = .ok (.iload_n 2, 1) := by decide +kernel
theorem dL_does_6 : decode cL_does 6 = .ok (.invokevirtual 8, 3) := by decide +kernel
theorem dL_does_9 : decode cL_does 9 = .ok (.goto 72, 3) := by decide +kernel
theorem dL_does_12 : decode cL_does 12 = .ok (.iload_n 1, 1) := by decide +kernel
theorem dL_does_13 : decode cL_does 13 = .ok (.iconst 1, 1) := by decide +kernel
theorem dL_does_14 : decode cL_does 14 = .ok (.if_icmp .ne 16, 3) := by decide +kernel
theorem dL_does_17 : decode cL_does 17 = .ok (.aload_n 0, 1) := by decide +kernel
theorem dL_does_18 : decode cL_does 18 = .ok (.iload_n 2, 1) := by decide +kernel
theorem dL_does_19 : decode cL_does 19 = .ok (.iload_n 3, 1) := by decide +kernel
theorem dL_does_20 : decode cL_does 20 = .ok (.iload 4, 2) := by decide +kernel
theorem dL_does_22 : decode cL_does 22 = .ok (.iload 5, 2) := by decide +kernel
theorem dL_does_24 : decode cL_does 24 = .ok (.invokevirtual 14, 3) := by decide +kernel
theorem dL_does_27 : decode cL_does 27 = .ok (.goto 54, 3) := by decide +kernel
theorem dL_does_30 : decode cL_does 30 = .ok (.iload_n 1, 1) := by decide +kernel
theorem dL_does_31 : decode cL_does 31 = .ok (.iconst 2, 1) := by decide +kernel
theorem dL_does_32 : decode cL_does 32 = .ok (.if_icmp .ne 12, 3) := by decide +kernel
theorem dL_does_35 : decode cL_does 35 = .ok (.aload_n 0, 1) := by decide +kernel
theorem dL_does_36 : decode cL_does 36 = .ok (.iload_n 2, 1) := by decide +kernel
theorem dL_does_37 : decode cL_does 37 = .ok (.iload_n 3, 1) := by decide +kernel
theorem dL_does_38 : decode cL_does 38 = .ok (.invokevirtual 18, 3) := by decide +kernel
theorem dL_does_41 : decode cL_does 41 = .ok (.goto 40, 3) := by decide +kernel
theorem dL_does_44 : decode cL_does 44 = .ok (.iload_n 1, 1) := by decide +kernel
theorem dL_does_45 : decode cL_does 45 = .ok (.iconst 3, 1) := by decide +kernel
theorem dL_does_46 : decode cL_does 46 = .ok (.if_icmp .ne 16, 3) := by decide +kernel
theorem dL_does_49 : decode cL_does 49 = .ok (.aload_n 0, 1) := by decide +kernel
theorem dL_does_50 : decode cL_does 50 = .ok (.iload_n 2, 1) := by decide +kernel
theorem dL_does_51 : decode cL_does 51 = .ok (.iload_n 3, 1) := by decide +kernel
theorem dL_does_52 : decode cL_does 52 = .ok (.iload 4, 2) := by decide +kernel
theorem dL_does_54 : decode cL_does 54 = .ok (.iload 5, 2) := by decide +kernel
theorem dL_does_56 : decode cL_does 56 = .ok (.invokevirtual 22, 3) := by decide +kernel
theorem dL_does_59 : decode cL_does 59 = .ok (.goto 22, 3) := by decide +kernel
theorem dL_does_62 : decode cL_does 62 = .ok (.iload_n 1, 1) := by decide +kernel
theorem dL_does_63 : decode cL_does 63 = .ok (.iconst 4, 1) := by decide +kernel
theorem dL_does_64 : decode cL_does 64 = .ok (.if_icmp .ne 12, 3) := by decide +kernel
theorem dL_does_67 : decode cL_does 67 = .ok (.aload_n 0, 1) := by decide +kernel
theorem dL_does_68 : decode cL_does 68 = .ok (.iload_n 2, 1) := by decide +kernel
theorem dL_does_69 : decode cL_does 69 = .ok (.iload_n 3, 1) := by decide +kernel
theorem dL_does_70 : decode cL_does 70 = .ok (.invokevirtual 25, 3) := by decide +kernel
theorem dL_does_73 : decode cL_does 73 = .ok (.goto 8, 3) := by decide +kernel
theorem dL_does_76 : decode cL_does 76 = .ok (.aload_n 0, 1) := by decide +kernel
theorem dL_does_77 : decode cL_does 77 = .ok (.iload_n 2, 1) := by decide +kernel
theorem dL_does_78 : decode cL_does 78 = .ok (.invokevirtual 28, 3) := by decide +kernel
theorem dL_does_81 : decode cL_does 81 = .ok (.ireturn, 1) := by decide +kernel
theorem dL_does_82 : decode cL_does 82 = .ok (.astore 6, 2) := by decide +kernel
theorem dL_does_84 : decode cL_does 84 = .ok (.sipush (-300), 3) := by decide +kernel
theorem dL_does_87 : decode cL_does 87 = .ok (.ireturn, 1) := by decide +kernel
theorem dL_does_88 : decode cL_does 88 = .ok (.astore 6, 2) := by decide +kernel
theorem dL_does_90 : decode cL_does 90 = .ok (.sipush (-200), 3) := by decide +kernel
theorem dL_does_93 : decode cL_does 93 = .ok (.ireturn, 1) := by decide +kernel
theorem dL_does_94 : decode cL_does 94 = .ok (.astore 6, 2) := by decide +kernel
theorem dL_does_96 : decode cL_does 96 = .ok (.bipush (-100), 2) := by decide +kernel
theorem dL_does_98 : decode cL_does 98 = .ok (.ireturn, 1) := by decide +kernel
theorem dL_asks_0 : decode cL_asks 0 = .ok (.iload_n 1, 1) := by decide +kernel
theorem dL_asks_1 : decode cL_asks 1 = .ok (.ifCond .ne 12, 3) := by decide +kernel
theorem dL_asks_4 : decode cL_asks 4 = .ok (.aload_n 0, 1) := by decide +kernel
theorem dL_asks_5 : decode cL_asks 5 = .ok (.iload_n 2, 1) := by decide +kernel
theorem dL_asks_6 : decode cL_asks 6 = .ok (.iload_n 3, 1) := by decide +kernel
theorem dL_asks_7 : decode cL_asks 7 = .ok (.invokevirtual 37, 3) := by decide +kernel
theorem dL_asks_10 : decode cL_asks 10 = .ok (.goto 117, 3) := by decide +kernel
theorem dL_asks_13 : decode cL_asks 13 = .ok (.iload_n 1, 1) := by decide +kernel
theorem dL_asks_14 : decode cL_asks 14 = .ok (.iconst 1, 1) := by decide +kernel
theorem dL_asks_15 : decode cL_asks 15 = .ok (.if_icmp .ne 16, 3) := by decide +kernel
theorem dL_asks_18 : decode cL_asks 18 = .ok (.aload_n 0, 1) := by decide +kernel
theorem dL_asks_19 : decode cL_asks 19 = .ok (.iload_n 2, 1) := by decide +kernel
theorem dL_asks_20 : decode cL_asks 20 = .ok (.iload_n 3, 1) := by decide +kernel
theorem dL_asks_21 : decode cL_asks 21 = .ok (.iload 4, 2) := by decide +kernel
theorem dL_asks_23 : decode cL_asks 23 = .ok (.iload 5, 2) := by decide +kernel
theorem dL_asks_25 : decode cL_asks 25 = .ok (.invokevirtual 40, 3) := by decide +kernel
theorem dL_asks_28 : decode cL_asks 28 = .ok (.goto 99, 3) := by decide +kernel
theorem dL_asks_31 : decode cL_asks 31 = .ok (.iload_n 1, 1) := by decide +kernel
theorem dL_asks_32 : decode cL_asks 32 = .ok (.iconst 2, 1) := by decide +kernel
theorem dL_asks_33 : decode cL_asks 33 = .ok (.if_icmp .ne 16, 3) := by decide +kernel
theorem dL_asks_36 : decode cL_asks 36 = .ok (.aload_n 0, 1) := by decide +kernel
theorem dL_asks_37 : decode cL_asks 37 = .ok (.iload_n 2, 1) := by decide +kernel
theorem dL_asks_38 : decode cL_asks 38 = .ok (.iload_n 3, 1) := by decide +kernel
theorem dL_asks_39 : decode cL_asks 39 = .ok (.iload 4, 2) := by decide +kernel
theorem dL_asks_41 : decode cL_asks 41 = .ok (.iload 5, 2) := by decide +kernel
theorem dL_asks_43 : decode cL_asks 43 = .ok (.invokevirtual 43, 3) := by decide +kernel
theorem dL_asks_46 : decode cL_asks 46 = .ok (.goto 81, 3) := by decide +kernel
theorem dL_asks_49 : decode cL_asks 49 = .ok (.iload_n 1, 1) := by decide +kernel
theorem dL_asks_50 : decode cL_asks 50 = .ok (.iconst 3, 1) := by decide +kernel
theorem dL_asks_51 : decode cL_asks 51 = .ok (.if_icmp .ne 14, 3) := by decide +kernel
theorem dL_asks_54 : decode cL_asks 54 = .ok (.aload_n 0, 1) := by decide +kernel
theorem dL_asks_55 : decode cL_asks 55 = .ok (.iload_n 2, 1) := by decide +kernel
theorem dL_asks_56 : decode cL_asks 56 = .ok (.iload_n 3, 1) := by decide +kernel
theorem dL_asks_57 : decode cL_asks 57 = .ok (.iload 4, 2) := by decide +kernel
theorem dL_asks_59 : decode cL_asks 59 = .ok (.invokevirtual 46, 3) := by decide +kernel
theorem dL_asks_62 : decode cL_asks 62 = .ok (.goto 65, 3) := by decide +kernel
theorem dL_asks_65 : decode cL_asks 65 = .ok (.iload_n 1, 1) := by decide +kernel
theorem dL_asks_66 : decode cL_asks 66 = .ok (.iconst 4, 1) := by decide +kernel
theorem dL_asks_67 : decode cL_asks 67 = .ok (.if_icmp .ne 16, 3) := by decide +kernel
theorem dL_asks_70 : decode cL_asks 70 = .ok (.aload_n 0, 1) := by decide +kernel
theorem dL_asks_71 : decode cL_asks 71 = .ok (.iload_n 2, 1) := by decide +kernel
theorem dL_asks_72 : decode cL_asks 72 = .ok (.iload_n 3, 1) := by decide +kernel
theorem dL_asks_73 : decode cL_asks 73 = .ok (.iload 4, 2) := by decide +kernel
theorem dL_asks_75 : decode cL_asks 75 = .ok (.iload 5, 2) := by decide +kernel
theorem dL_asks_77 : decode cL_asks 77 = .ok (.invokevirtual 50, 3) := by decide +kernel
theorem dL_asks_80 : decode cL_asks 80 = .ok (.goto 47, 3) := by decide +kernel
theorem dL_asks_83 : decode cL_asks 83 = .ok (.iload_n 1, 1) := by decide +kernel
theorem dL_asks_84 : decode cL_asks 84 = .ok (.iconst 5, 1) := by decide +kernel
theorem dL_asks_85 : decode cL_asks 85 = .ok (.if_icmp .ne 12, 3) := by decide +kernel
theorem dL_asks_88 : decode cL_asks 88 = .ok (.aload_n 0, 1) := by decide +kernel
theorem dL_asks_89 : decode cL_asks 89 = .ok (.iload_n 2, 1) := by decide +kernel
theorem dL_asks_90 : decode cL_asks 90 = .ok (.iload_n 3, 1) := by decide +kernel
theorem dL_asks_91 : decode cL_asks 91 = .ok (.invokevirtual 53, 3) := by decide +kernel
theorem dL_asks_94 : decode cL_asks 94 = .ok (.goto 33, 3) := by decide +kernel
theorem dL_asks_97 : decode cL_asks 97 = .ok (.iload_n 1, 1) := by decide +kernel
theorem dL_asks_98 : decode cL_asks 98 = .ok (.bipush 6, 2) := by decide +kernel
theorem dL_asks_100 : decode cL_asks 100 = .ok (.if_icmp .ne 11, 3) := by decide +kernel
theorem dL_asks_103 : decode cL_asks 103 = .ok (.aload_n 0, 1) := by decide +kernel
theorem dL_asks_104 : decode cL_asks 104 = .ok (.iload_n 2, 1) := by decide +kernel
theorem dL_asks_105 : decode cL_asks 105 = .ok (.invokevirtual 56, 3) := by decide +kernel
theorem dL_asks_108 : decode cL_asks 108 = .ok (.goto 19, 3) := by decide +kernel
theorem dL_asks_111 : decode cL_asks 111 = .ok (.aload_n 0, 1) := by decide +kernel
theorem dL_asks_112 : decode cL_asks 112 = .ok (.iload_n 2, 1) := by decide +kernel
theorem dL_asks_113 : decode cL_asks 113 = .ok (.iload_n 3, 1) := by decide +kernel
theorem dL_asks_114 : decode cL_asks 114 = .ok (.invokevirtual 59, 3) := by decide +kernel
theorem dL_asks_117 : decode cL_asks 117 = .ok (.fconst 0, 1) := by decide +kernel
theorem dL_asks_118 : decode cL_asks 118 = .ok (.fcmp .l, 1) := by decide +kernel
theorem dL_asks_119 : decode cL_asks 119 = .ok (.ifCond .lt 7, 3) := by decide +kernel
theorem dL_asks_122 : decode cL_asks 122 = .ok (.iconst 1, 1) := by decide +kernel
theorem dL_asks_123 : decode cL_asks 123 = .ok (.goto 4, 3) := by decide +kernel
theorem dL_asks_126 : decode cL_asks 126 = .ok (.iconst 0, 1) := by decide +kernel
theorem dL_asks_127 : decode cL_asks 127 = .ok (.ireturn, 1) := by decide +kernel
theorem dL_asks_128 : decode cL_asks 128 = .ok (.astore 6, 2) := by decide +kernel
theorem dL_asks_130 : decode cL_asks 130 = .ok (.sipush (-300), 3) := by decide +kernel
theorem dL_asks_133 : decode cL_asks 133 = .ok (.ireturn, 1) := by decide +kernel
theorem dL_at_0 : decode cL_at 0 = .ok (.bipush 8, 2) := by decide +kernel
theorem dL_at_2 : decode cL_at 2 = .ok (.iload_n 0, 1) := by decide +kernel
theorem dL_at_3 : decode cL_at 3 = .ok (.imul, 1) := by decide +kernel
theorem dL_at_4 : decode cL_at 4 = .ok (.iconst 4, 1) := by decide +kernel
theorem dL_at_5 : decode cL_at 5 = .ok (.iload_n 1, 1) := by decide +kernel
theorem dL_at_6 : decode cL_at 6 = .ok (.imul, 1) := by decide +kernel
theorem dL_at_7 : decode cL_at 7 = .ok (.iadd, 1) := by decide +kernel
theorem dL_at_8 : decode cL_at 8 = .ok (.iload_n 2, 1) := by decide +kernel
theorem dL_at_9 : decode cL_at 9 = .ok (.iadd, 1) := by decide +kernel
theorem dL_at_10 : decode cL_at 10 = .ok (.ireturn, 1) := by decide +kernel
theorem dL_get_0 : decode cL_get 0 = .ok (.lload_n 0, 1) := by decide +kernel
theorem dL_get_1 : decode cL_get 1 = .ok (.bipush 6, 2) := by decide +kernel
theorem dL_get_3 : decode cL_get 3 = .ok (.iload_n 2, 1) := by decide +kernel
theorem dL_get_4 : decode cL_get 4 = .ok (.imul, 1) := by decide +kernel
theorem dL_get_5 : decode cL_get 5 = .ok (.lshr, 1) := by decide +kernel
theorem dL_get_6 : decode cL_get 6 = .ok (.ldc2_w 63, 3) := by decide +kernel
theorem dL_get_9 : decode cL_get 9 = .ok (.land, 1) := by decide +kernel
theorem dL_get_10 : decode cL_get 10 = .ok (.l2i, 1) := by decide +kernel
theorem dL_get_11 : decode cL_get 11 = .ok (.ireturn, 1) := by decide +kernel
theorem dL_greater_0 : decode cL_greater 0 = .ok (.lconst 0, 1) := by decide +kernel
theorem dL_greater_1 : decode cL_greater 1 = .ok (.lstore 4, 2) := by decide +kernel
theorem dL_greater_3 : decode cL_greater 3 = .ok (.iconst 0, 1) := by decide +kernel
theorem dL_greater_4 : decode cL_greater 4 = .ok (.istore 6, 2) := by decide +kernel
theorem dL_greater_6 : decode cL_greater 6 = .ok (.iload 6, 2) := by decide +kernel
theorem dL_greater_8 : decode cL_greater 8 = .ok (.bipush 6, 2) := by decide +kernel
theorem dL_greater_10 : decode cL_greater 10 = .ok (.if_icmp .ge 51, 3) := by decide +kernel
theorem dL_greater_13 : decode cL_greater 13 = .ok (.lload 4, 2) := by decide +kernel
theorem dL_greater_15 : decode cL_greater 15 = .ok (.lload_n 0, 1) := by decide +kernel
theorem dL_greater_16 : decode cL_greater 16 = .ok (.iload 6, 2) := by decide +kernel
theorem dL_greater_18 : decode cL_greater 18 = .ok (.invokestatic 65, 3) := by decide +kernel
theorem dL_greater_21 : decode cL_greater 21 = .ok (.lload_n 2, 1) := by decide +kernel
theorem dL_greater_22 : decode cL_greater 22 = .ok (.iload 6, 2) := by decide +kernel
theorem dL_greater_24 : decode cL_greater 24 = .ok (.invokestatic 65, 3) := by decide +kernel
theorem dL_greater_27 : decode cL_greater 27 = .ok (.if_icmp .le 12, 3) := by decide +kernel
theorem dL_greater_30 : decode cL_greater 30 = .ok (.lload_n 0, 1) := by decide +kernel
theorem dL_greater_31 : decode cL_greater 31 = .ok (.iload 6, 2) := by decide +kernel
theorem dL_greater_33 : decode cL_greater 33 = .ok (.invokestatic 65, 3) := by decide +kernel
theorem dL_greater_36 : decode cL_greater 36 = .ok (.goto 9, 3) := by decide +kernel
theorem dL_greater_39 : decode cL_greater 39 = .ok (.lload_n 2, 1) := by decide +kernel
theorem dL_greater_40 : decode cL_greater 40 = .ok (.iload 6, 2) := by decide +kernel
theorem dL_greater_42 : decode cL_greater 42 = .ok (.invokestatic 65, 3) := by decide +kernel
theorem dL_greater_45 : decode cL_greater 45 = .ok (.i2l, 1) := by decide +kernel
theorem dL_greater_46 : decode cL_greater 46 = .ok (.bipush 6, 2) := by decide +kernel
theorem dL_greater_48 : decode cL_greater 48 = .ok (.iload 6, 2) := by decide +kernel
theorem dL_greater_50 : decode cL_greater 50 = .ok (.imul, 1) := by decide +kernel
theorem dL_greater_51 : decode cL_greater 51 = .ok (.lshl, 1) := by decide +kernel
theorem dL_greater_52 : decode cL_greater 52 = .ok (.lor, 1) := by decide +kernel
theorem dL_greater_53 : decode cL_greater 53 = .ok (.lstore 4, 2) := by decide +kernel
theorem dL_greater_55 : decode cL_greater 55 = .ok (.iinc 6 1, 3) := by decide +kernel
theorem dL_greater_58 : decode cL_greater 58 = .ok (.goto (-52), 3) := by decide +kernel
theorem dL_greater_61 : decode cL_greater 61 = .ok (.lload 4, 2) := by decide +kernel
theorem dL_greater_63 : decode cL_greater 63 = .ok (.lreturn, 1) := by decide +kernel
theorem dL_covers_0 : decode cL_covers 0 = .ok (.iconst 1, 1) := by decide +kernel
theorem dL_covers_1 : decode cL_covers 1 = .ok (.istore 4, 2) := by decide +kernel
theorem dL_covers_3 : decode cL_covers 3 = .ok (.iconst 0, 1) := by decide +kernel
theorem dL_covers_4 : decode cL_covers 4 = .ok (.istore 5, 2) := by decide +kernel
theorem dL_covers_6 : decode cL_covers 6 = .ok (.iload 5, 2) := by decide +kernel
theorem dL_covers_8 : decode cL_covers 8 = .ok (.bipush 6, 2) := by decide +kernel
theorem dL_covers_10 : decode cL_covers 10 = .ok (.if_icmp .ge 36, 3) := by decide +kernel
theorem dL_covers_13 : decode cL_covers 13 = .ok (.iload 4, 2) := by decide +kernel
theorem dL_covers_15 : decode cL_covers 15 = .ok (.ifCond .eq 22, 3) := by decide +kernel
theorem dL_covers_18 : decode cL_covers 18 = .ok (.lload_n 2, 1) := by decide +kernel
theorem dL_covers_19 : decode cL_covers 19 = .ok (.iload 5, 2) := by decide +kernel
theorem dL_covers_21 : decode cL_covers 21 = .ok (.invokestatic 65, 3) := by decide +kernel
theorem dL_covers_24 : decode cL_covers 24 = .ok (.lload_n 0, 1) := by decide +kernel
theorem dL_covers_25 : decode cL_covers 25 = .ok (.iload 5, 2) := by decide +kernel
theorem dL_covers_27 : decode cL_covers 27 = .ok (.invokestatic 65, 3) := by decide +kernel
theorem dL_covers_30 : decode cL_covers 30 = .ok (.if_icmp .gt 7, 3) := by decide +kernel
theorem dL_covers_33 : decode cL_covers 33 = .ok (.iconst 1, 1) := by decide +kernel
theorem dL_covers_34 : decode cL_covers 34 = .ok (.goto 4, 3) := by decide +kernel
theorem dL_covers_37 : decode cL_covers 37 = .ok (.iconst 0, 1) := by decide +kernel
theorem dL_covers_38 : decode cL_covers 38 = .ok (.istore 4, 2) := by decide +kernel
theorem dL_covers_40 : decode cL_covers 40 = .ok (.iinc 5 1, 3) := by decide +kernel
theorem dL_covers_43 : decode cL_covers 43 = .ok (.goto (-37), 3) := by decide +kernel
theorem dL_covers_46 : decode cL_covers 46 = .ok (.iload 4, 2) := by decide +kernel
theorem dL_covers_48 : decode cL_covers 48 = .ok (.ireturn, 1) := by decide +kernel
theorem dL_count_0 : decode cL_count 0 = .ok (.iconst 0, 1) := by decide +kernel
theorem dL_count_1 : decode cL_count 1 = .ok (.istore_n 2, 1) := by decide +kernel
theorem dL_count_2 : decode cL_count 2 = .ok (.iconst 0, 1) := by decide +kernel
theorem dL_count_3 : decode cL_count 3 = .ok (.istore_n 3, 1) := by decide +kernel
theorem dL_count_4 : decode cL_count 4 = .ok (.iload_n 3, 1) := by decide +kernel
theorem dL_count_5 : decode cL_count 5 = .ok (.bipush 6, 2) := by decide +kernel
theorem dL_count_7 : decode cL_count 7 = .ok (.if_icmp .ge 25, 3) := by decide +kernel
theorem dL_count_10 : decode cL_count 10 = .ok (.iload_n 2, 1) := by decide +kernel
theorem dL_count_11 : decode cL_count 11 = .ok (.lload_n 0, 1) := by decide +kernel
theorem dL_count_12 : decode cL_count 12 = .ok (.iload_n 3, 1) := by decide +kernel
theorem dL_count_13 : decode cL_count 13 = .ok (.invokestatic 65, 3) := by decide +kernel
theorem dL_count_16 : decode cL_count 16 = .ok (.ifCond .le 7, 3) := by decide +kernel
theorem dL_count_19 : decode cL_count 19 = .ok (.iconst 1, 1) := by decide +kernel
theorem dL_count_20 : decode cL_count 20 = .ok (.goto 4, 3) := by decide +kernel
theorem dL_count_23 : decode cL_count 23 = .ok (.iconst 0, 1) := by decide +kernel
theorem dL_count_24 : decode cL_count 24 = .ok (.iadd, 1) := by decide +kernel
theorem dL_count_25 : decode cL_count 25 = .ok (.istore_n 2, 1) := by decide +kernel
theorem dL_count_26 : decode cL_count 26 = .ok (.iinc 3 1, 3) := by decide +kernel
theorem dL_count_29 : decode cL_count 29 = .ok (.goto (-25), 3) := by decide +kernel
theorem dL_count_32 : decode cL_count 32 = .ok (.iload_n 2, 1) := by decide +kernel
theorem dL_count_33 : decode cL_count 33 = .ok (.ireturn, 1) := by decide +kernel
theorem dL_all_0 : decode cL_all 0 = .ok (.iconst 0, 1) := by decide +kernel
theorem dL_all_1 : decode cL_all 1 = .ok (.istore_n 3, 1) := by decide +kernel
theorem dL_all_2 : decode cL_all 2 = .ok (.iconst 0, 1) := by decide +kernel
theorem dL_all_3 : decode cL_all 3 = .ok (.istore 4, 2) := by decide +kernel
theorem dL_all_5 : decode cL_all 5 = .ok (.iload 4, 2) := by decide +kernel
theorem dL_all_7 : decode cL_all 7 = .ok (.iconst 4, 1) := by decide +kernel
theorem dL_all_8 : decode cL_all 8 = .ok (.if_icmp .ge 24, 3) := by decide +kernel
theorem dL_all_11 : decode cL_all 11 = .ok (.iload_n 3, 1) := by decide +kernel
theorem dL_all_12 : decode cL_all 12 = .ok (.aload_n 0, 1) := by decide +kernel
theorem dL_all_13 : decode cL_all 13 = .ok (.iload_n 1, 1) := by decide +kernel
theorem dL_all_14 : decode cL_all 14 = .ok (.iload_n 2, 1) := by decide +kernel
theorem dL_all_15 : decode cL_all 15 = .ok (.iload 4, 2) := by decide +kernel
theorem dL_all_17 : decode cL_all 17 = .ok (.invokestatic 71, 3) := by decide +kernel
theorem dL_all_20 : decode cL_all 20 = .ok (.laload, 1) := by decide +kernel
theorem dL_all_21 : decode cL_all 21 = .ok (.invokestatic 74, 3) := by decide +kernel
theorem dL_all_24 : decode cL_all 24 = .ok (.iadd, 1) := by decide +kernel
theorem dL_all_25 : decode cL_all 25 = .ok (.istore_n 3, 1) := by decide +kernel
theorem dL_all_26 : decode cL_all 26 = .ok (.iinc 4 1, 3) := by decide +kernel
theorem dL_all_29 : decode cL_all 29 = .ok (.goto (-24), 3) := by decide +kernel
theorem dL_all_32 : decode cL_all 32 = .ok (.iload_n 3, 1) := by decide +kernel
theorem dL_all_33 : decode cL_all 33 = .ok (.ireturn, 1) := by decide +kernel
theorem dL_value_0 : decode cL_value 0 = .ok (.bipush 100, 2) := by decide +kernel
theorem dL_value_2 : decode cL_value 2 = .ok (.iload_n 0, 1) := by decide +kernel
theorem dL_value_3 : decode cL_value 3 = .ok (.imul, 1) := by decide +kernel
theorem dL_value_4 : decode cL_value 4 = .ok (.bipush 37, 2) := by decide +kernel
theorem dL_value_6 : decode cL_value 6 = .ok (.iload_n 1, 1) := by decide +kernel
theorem dL_value_7 : decode cL_value 7 = .ok (.imul, 1) := by decide +kernel
theorem dL_value_8 : decode cL_value 8 = .ok (.iadd, 1) := by decide +kernel
theorem dL_value_9 : decode cL_value 9 = .ok (.sipush 1000, 3) := by decide +kernel
theorem dL_value_12 : decode cL_value 12 = .ok (.irem, 1) := by decide +kernel
theorem dL_value_13 : decode cL_value 13 = .ok (.ireturn, 1) := by decide +kernel
theorem dL_may_0 : decode cL_may 0 = .ok (.aload_n 0, 1) := by decide +kernel
theorem dL_may_1 : decode cL_may 1 = .ok (.iconst 4, 1) := by decide +kernel
theorem dL_may_2 : decode cL_may 2 = .ok (.iload_n 2, 1) := by decide +kernel
theorem dL_may_3 : decode cL_may 3 = .ok (.imul, 1) := by decide +kernel
theorem dL_may_4 : decode cL_may 4 = .ok (.iaload, 1) := by decide +kernel
theorem dL_may_5 : decode cL_may 5 = .ok (.iload_n 1, 1) := by decide +kernel
theorem dL_may_6 : decode cL_may 6 = .ok (.iconst 2, 1) := by decide +kernel
theorem dL_may_7 : decode cL_may 7 = .ok (.idiv, 1) := by decide +kernel
theorem dL_may_8 : decode cL_may 8 = .ok (.if_icmp .eq 22, 3) := by decide +kernel
theorem dL_may_11 : decode cL_may 11 = .ok (.aload_n 0, 1) := by decide +kernel
theorem dL_may_12 : decode cL_may 12 = .ok (.iconst 4, 1) := by decide +kernel
theorem dL_may_13 : decode cL_may 13 = .ok (.iload_n 2, 1) := by decide +kernel
theorem dL_may_14 : decode cL_may 14 = .ok (.imul, 1) := by decide +kernel
theorem dL_may_15 : decode cL_may 15 = .ok (.iconst 1, 1) := by decide +kernel
theorem dL_may_16 : decode cL_may 16 = .ok (.iadd, 1) := by decide +kernel
theorem dL_may_17 : decode cL_may 17 = .ok (.iload_n 1, 1) := by decide +kernel
theorem dL_may_18 : decode cL_may 18 = .ok (.iconst 2, 1) := by decide +kernel
theorem dL_may_19 : decode cL_may 19 = .ok (.idiv, 1) := by decide +kernel
theorem dL_may_20 : decode cL_may 20 = .ok (.iadd, 1) := by decide +kernel
theorem dL_may_21 : decode cL_may 21 = .ok (.iaload, 1) := by decide +kernel
theorem dL_may_22 : decode cL_may 22 = .ok (.iload_n 3, 1) := by decide +kernel
theorem dL_may_23 : decode cL_may 23 = .ok (.ishr, 1) := by decide +kernel
theorem dL_may_24 : decode cL_may 24 = .ok (.iconst 1, 1) := by decide +kernel
theorem dL_may_25 : decode cL_may 25 = .ok (.iand, 1) := by decide +kernel
theorem dL_may_26 : decode cL_may 26 = .ok (.iconst 1, 1) := by decide +kernel
theorem dL_may_27 : decode cL_may 27 = .ok (.if_icmp .ne 7, 3) := by decide +kernel
theorem dL_may_30 : decode cL_may 30 = .ok (.iconst 1, 1) := by decide +kernel
theorem dL_may_31 : decode cL_may 31 = .ok (.goto 4, 3) := by decide +kernel
theorem dL_may_34 : decode cL_may 34 = .ok (.iconst 0, 1) := by decide +kernel
theorem dL_may_35 : decode cL_may 35 = .ok (.ireturn, 1) := by decide +kernel
theorem dL_isCovered_0 : decode cL_isCovered 0 = .ok (.iconst 0, 1) := by decide +kernel
theorem dL_isCovered_1 : decode cL_isCovered 1 = .ok (.istore 7, 2) := by decide +kernel
theorem dL_isCovered_3 : decode cL_isCovered 3 = .ok (.iconst 0, 1) := by decide +kernel
theorem dL_isCovered_4 : decode cL_isCovered 4 = .ok (.istore 8, 2) := by decide +kernel
theorem dL_isCovered_6 : decode cL_isCovered 6 = .ok (.iload 8, 2) := by decide +kernel
theorem dL_isCovered_8 : decode cL_isCovered 8 = .ok (.aload 4, 2) := by decide +kernel
theorem dL_isCovered_10 : decode cL_isCovered 10 = .ok (.iconst 2, 1) := by decide +kernel
theorem dL_isCovered_11 : decode cL_isCovered 11 = .ok (.iaload, 1) := by decide +kernel
theorem dL_isCovered_12 : decode cL_isCovered 12 = .ok (.if_icmp .ge 108, 3) := by decide +kernel
theorem dL_isCovered_15 : decode cL_isCovered 15 = .ok (.aload_n 3, 1) := by decide +kernel
theorem dL_isCovered_16 : decode cL_isCovered 16 = .ok (.iload 8, 2) := by decide +kernel
theorem dL_isCovered_18 : decode cL_isCovered 18 = .ok (.iaload, 1) := by decide +kernel
theorem dL_isCovered_19 : decode cL_isCovered 19 = .ok (.iload 6, 2) := by decide +kernel
theorem dL_isCovered_21 : decode cL_isCovered 21 = .ok (.if_icmp .ne 20, 3) := by decide +kernel
theorem dL_isCovered_24 : decode cL_isCovered 24 = .ok (.aload_n 2, 1) := by decide +kernel
theorem dL_isCovered_25 : decode cL_isCovered 25 = .ok (.bipush 6, 2) := by decide +kernel
theorem dL_isCovered_27 : decode cL_isCovered 27 = .ok (.iload 8, 2) := by decide +kernel
theorem dL_isCovered_29 : decode cL_isCovered 29 = .ok (.imul, 1) := by decide +kernel
theorem dL_isCovered_30 : decode cL_isCovered 30 = .ok (.iload 5, 2) := by decide +kernel
theorem dL_isCovered_32 : decode cL_isCovered 32 = .ok (.iadd, 1) := by decide +kernel
theorem dL_isCovered_33 : decode cL_isCovered 33 = .ok (.iaload, 1) := by decide +kernel
theorem dL_isCovered_34 : decode cL_isCovered 34 = .ok (.ifCond .le 7, 3) := by decide +kernel
theorem dL_isCovered_37 : decode cL_isCovered 37 = .ok (.iconst 1, 1) := by decide +kernel
theorem dL_isCovered_38 : decode cL_isCovered 38 = .ok (.goto 4, 3) := by decide +kernel
theorem dL_isCovered_41 : decode cL_isCovered 41 = .ok (.iconst 0, 1) := by decide +kernel
theorem dL_isCovered_42 : decode cL_isCovered 42 = .ok (.istore 9, 2) := by decide +kernel
theorem dL_isCovered_44 : decode cL_isCovered 44 = .ok (.iconst 0, 1) := by decide +kernel
theorem dL_isCovered_45 : decode cL_isCovered 45 = .ok (.istore 10, 2) := by decide +kernel
theorem dL_isCovered_47 : decode cL_isCovered 47 = .ok (.iload 10, 2) := by decide +kernel
theorem dL_isCovered_49 : decode cL_isCovered 49 = .ok (.iconst 4, 1) := by decide +kernel
theorem dL_isCovered_50 : decode cL_isCovered 50 = .ok (.if_icmp .ge 47, 3) := by decide +kernel
theorem dL_isCovered_53 : decode cL_isCovered 53 = .ok (.iload 9, 2) := by decide +kernel
theorem dL_isCovered_55 : decode cL_isCovered 55 = .ok (.ifCond .eq 33, 3) := by decide +kernel
theorem dL_isCovered_58 : decode cL_isCovered 58 = .ok (.aload_n 1, 1) := by decide +kernel
theorem dL_isCovered_59 : decode cL_isCovered 59 = .ok (.iconst 4, 1) := by decide +kernel
theorem dL_isCovered_60 : decode cL_isCovered 60 = .ok (.iload 8, 2) := by decide +kernel
theorem dL_isCovered_62 : decode cL_isCovered 62 = .ok (.imul, 1) := by decide +kernel
theorem dL_isCovered_63 : decode cL_isCovered 63 = .ok (.iload 10, 2) := by decide +kernel
theorem dL_isCovered_65 : decode cL_isCovered 65 = .ok (.iadd, 1) := by decide +kernel
theorem dL_isCovered_66 : decode cL_isCovered 66 = .ok (.laload, 1) := by decide +kernel
theorem dL_isCovered_67 : decode cL_isCovered 67 = .ok (.aload_n 0, 1) := by decide +kernel
theorem dL_isCovered_68 : decode cL_isCovered 68 = .ok (.iload 5, 2) := by decide +kernel
theorem dL_isCovered_70 : decode cL_isCovered 70 = .ok (.iload 6, 2) := by decide +kernel
theorem dL_isCovered_72 : decode cL_isCovered 72 = .ok (.iload 10, 2) := by decide +kernel
theorem dL_isCovered_74 : decode cL_isCovered 74 = .ok (.invokestatic 71, 3) := by decide +kernel
theorem dL_isCovered_77 : decode cL_isCovered 77 = .ok (.laload, 1) := by decide +kernel
theorem dL_isCovered_78 : decode cL_isCovered 78 = .ok (.invokestatic 78, 3) := by decide +kernel
theorem dL_isCovered_81 : decode cL_isCovered 81 = .ok (.ifCond .eq 7, 3) := by decide +kernel
theorem dL_isCovered_84 : decode cL_isCovered 84 = .ok (.iconst 1, 1) := by decide +kernel
theorem dL_isCovered_85 : decode cL_isCovered 85 = .ok (.goto 4, 3) := by decide +kernel
theorem dL_isCovered_88 : decode cL_isCovered 88 = .ok (.iconst 0, 1) := by decide +kernel
theorem dL_isCovered_89 : decode cL_isCovered 89 = .ok (.istore 9, 2) := by decide +kernel
theorem dL_isCovered_91 : decode cL_isCovered 91 = .ok (.iinc 10 1, 3) := by decide +kernel
theorem dL_isCovered_94 : decode cL_isCovered 94 = .ok (.goto (-47), 3) := by decide +kernel
theorem dL_isCovered_97 : decode cL_isCovered 97 = .ok (.iload 7, 2) := by decide +kernel
theorem dL_isCovered_99 : decode cL_isCovered 99 = .ok (.ifCond .ne 8, 3) := by decide +kernel
theorem dL_isCovered_102 : decode cL_isCovered 102 = .ok (.iload 9, 2) := by decide +kernel
theorem dL_isCovered_104 : decode cL_isCovered 104 = .ok (.ifCond .eq 7, 3) := by decide +kernel
theorem dL_isCovered_107 : decode cL_isCovered 107 = .ok (.iconst 1, 1) := by decide +kernel
theorem dL_isCovered_108 : decode cL_isCovered 108 = .ok (.goto 4, 3) := by decide +kernel
theorem dL_isCovered_111 : decode cL_isCovered 111 = .ok (.iconst 0, 1) := by decide +kernel
theorem dL_isCovered_112 : decode cL_isCovered 112 = .ok (.istore 7, 2) := by decide +kernel
theorem dL_isCovered_114 : decode cL_isCovered 114 = .ok (.iinc 8 1, 3) := by decide +kernel
theorem dL_isCovered_117 : decode cL_isCovered 117 = .ok (.goto (-111), 3) := by decide +kernel
theorem dL_isCovered_120 : decode cL_isCovered 120 = .ok (.iload 7, 2) := by decide +kernel
theorem dL_isCovered_122 : decode cL_isCovered 122 = .ok (.ireturn, 1) := by decide +kernel
theorem dL_state_0 : decode cL_state 0 = .ok (.aload_n 1, 1) := by decide +kernel
theorem dL_state_1 : decode cL_state 1 = .ok (.iconst 2, 1) := by decide +kernel
theorem dL_state_2 : decode cL_state 2 = .ok (.iload 6, 2) := by decide +kernel
theorem dL_state_4 : decode cL_state 4 = .ok (.imul, 1) := by decide +kernel
theorem dL_state_5 : decode cL_state 5 = .ok (.iload 7, 2) := by decide +kernel
theorem dL_state_7 : decode cL_state 7 = .ok (.iadd, 1) := by decide +kernel
theorem dL_state_8 : decode cL_state 8 = .ok (.iaload, 1) := by decide +kernel
theorem dL_state_9 : decode cL_state 9 = .ok (.iconst 2, 1) := by decide +kernel
theorem dL_state_10 : decode cL_state 10 = .ok (.irem, 1) := by decide +kernel
theorem dL_state_11 : decode cL_state 11 = .ok (.ifCond .ne 5, 3) := by decide +kernel
theorem dL_state_14 : decode cL_state 14 = .ok (.iconst 0, 1) := by decide +kernel
theorem dL_state_15 : decode cL_state 15 = .ok (.ireturn, 1) := by decide +kernel
theorem dL_state_16 : decode cL_state 16 = .ok (.aload_n 0, 1) := by decide +kernel
theorem dL_state_17 : decode cL_state 17 = .ok (.aload_n 2, 1) := by decide +kernel
theorem dL_state_18 : decode cL_state 18 = .ok (.aload_n 3, 1) := by decide +kernel
theorem dL_state_19 : decode cL_state 19 = .ok (.aload 4, 2) := by decide +kernel
theorem dL_state_21 : decode cL_state 21 = .ok (.aload 5, 2) := by decide +kernel
theorem dL_state_23 : decode cL_state 23 = .ok (.iload 6, 2) := by decide +kernel
theorem dL_state_25 : decode cL_state 25 = .ok (.iload 7, 2) := by decide +kernel
theorem dL_state_27 : decode cL_state 27 = .ok (.invokestatic 82, 3) := by decide +kernel
theorem dL_state_30 : decode cL_state 30 = .ok (.istore 8, 2) := by decide +kernel
theorem dL_state_32 : decode cL_state 32 = .ok (.aload_n 0, 1) := by decide +kernel
theorem dL_state_33 : decode cL_state 33 = .ok (.iload 6, 2) := by decide +kernel
theorem dL_state_35 : decode cL_state 35 = .ok (.iload 7, 2) := by decide +kernel
theorem dL_state_37 : decode cL_state 37 = .ok (.invokestatic 86, 3) := by decide +kernel
theorem dL_state_40 : decode cL_state 40 = .ok (.istore 9, 2) := by decide +kernel
theorem dL_state_42 : decode cL_state 42 = .ok (.iload 9, 2) := by decide +kernel
theorem dL_state_44 : decode cL_state 44 = .ok (.ifCond .le 12, 3) := by decide +kernel
theorem dL_state_47 : decode cL_state 47 = .ok (.iload 8, 2) := by decide +kernel
theorem dL_state_49 : decode cL_state 49 = .ok (.ifCond .ne 7, 3) := by decide +kernel
theorem dL_state_52 : decode cL_state 52 = .ok (.iconst 1, 1) := by decide +kernel
theorem dL_state_53 : decode cL_state 53 = .ok (.goto 13, 3) := by decide +kernel
theorem dL_state_56 : decode cL_state 56 = .ok (.iload 8, 2) := by decide +kernel
theorem dL_state_58 : decode cL_state 58 = .ok (.ifCond .eq 7, 3) := by decide +kernel
theorem dL_state_61 : decode cL_state 61 = .ok (.iconst 2, 1) := by decide +kernel
theorem dL_state_62 : decode cL_state 62 = .ok (.goto 4, 3) := by decide +kernel
theorem dL_state_65 : decode cL_state 65 = .ok (.iconst 3, 1) := by decide +kernel
theorem dL_state_66 : decode cL_state 66 = .ok (.ireturn, 1) := by decide +kernel
theorem dL_isDevice_0 : decode cL_isDevice 0 = .ok (.iconst 0, 1) := by decide +kernel
theorem dL_isDevice_1 : decode cL_isDevice 1 = .ok (.istore 11, 2) := by decide +kernel
theorem dL_isDevice_3 : decode cL_isDevice 3 = .ok (.iconst 1, 1) := by decide +kernel
theorem dL_isDevice_4 : decode cL_isDevice 4 = .ok (.istore 12, 2) := by decide +kernel
theorem dL_isDevice_6 : decode cL_isDevice 6 = .ok (.iconst 0, 1) := by decide +kernel
theorem dL_isDevice_7 : decode cL_isDevice 7 = .ok (.istore 13, 2) := by decide +kernel
theorem dL_isDevice_9 : decode cL_isDevice 9 = .ok (.iload 13, 2) := by decide +kernel
theorem dL_isDevice_11 : decode cL_isDevice 11 = .ok (.aload 8, 2) := by decide +kernel
theorem dL_isDevice_13 : decode cL_isDevice 13 = .ok (.iconst 0, 1) := by decide +kernel
theorem dL_isDevice_14 : decode cL_isDevice 14 = .ok (.iaload, 1) := by decide +kernel
theorem dL_isDevice_15 : decode cL_isDevice 15 = .ok (.if_icmp .ge 571, 3) := by decide +kernel
theorem dL_isDevice_18 : decode cL_isDevice 18 = .ok (.iload 12, 2) := by decide +kernel
theorem dL_isDevice_20 : decode cL_isDevice 20 = .ok (.ifCond .eq 566, 3) := by decide +kernel
theorem dL_isDevice_23 : decode cL_isDevice 23 = .ok (.aload_n 1, 1) := by decide +kernel
theorem dL_isDevice_24 : decode cL_isDevice 24 = .ok (.aload_n 3, 1) := by decide +kernel
theorem dL_isDevice_25 : decode cL_isDevice 25 = .ok (.aload 5, 2) := by decide +kernel
theorem dL_isDevice_27 : decode cL_isDevice 27 = .ok (.aload 6, 2) := by decide +kernel
theorem dL_isDevice_29 : decode cL_isDevice 29 = .ok (.aload 7, 2) := by decide +kernel
theorem dL_isDevice_31 : decode cL_isDevice 31 = .ok (.aload 8, 2) := by decide +kernel
theorem dL_isDevice_33 : decode cL_isDevice 33 = .ok (.iload 9, 2) := by decide +kernel
theorem dL_isDevice_35 : decode cL_isDevice 35 = .ok (.iload 13, 2) := by decide +kernel
theorem dL_isDevice_37 : decode cL_isDevice 37 = .ok (.invokestatic 90, 3) := by decide +kernel
theorem dL_isDevice_40 : decode cL_isDevice 40 = .ok (.istore 14, 2) := by decide +kernel
theorem dL_isDevice_42 : decode cL_isDevice 42 = .ok (.aload_n 0, 1) := by decide +kernel
theorem dL_isDevice_43 : decode cL_isDevice 43 = .ok (.iload 9, 2) := by decide +kernel
theorem dL_isDevice_45 : decode cL_isDevice 45 = .ok (.iload 13, 2) := by decide +kernel
theorem dL_isDevice_47 : decode cL_isDevice 47 = .ok (.invokevirtual 37, 3) := by decide +kernel
theorem dL_isDevice_50 : decode cL_isDevice 50 = .ok (.iload 14, 2) := by decide +kernel
theorem dL_isDevice_52 : decode cL_isDevice 52 = .ok (.if_icmp .ne 80, 3) := by decide +kernel
theorem dL_isDevice_55 : decode cL_isDevice 55 = .ok (.iload 14, 2) := by decide +kernel
theorem dL_isDevice_57 : decode cL_isDevice 57 = .ok (.ifCond .gt 71, 3) := by decide +kernel
theorem dL_isDevice_60 : decode cL_isDevice 60 = .ok (.aload_n 0, 1) := by decide +kernel
theorem dL_isDevice_61 : decode cL_isDevice 61 = .ok (.iconst 3, 1) := by decide +kernel
theorem dL_isDevice_62 : decode cL_isDevice 62 = .ok (.iload 9, 2) := by decide +kernel
theorem dL_isDevice_64 : decode cL_isDevice 64 = .ok (.iload 13, 2) := by decide +kernel
theorem dL_isDevice_66 : decode cL_isDevice 66 = .ok (.iconst 0, 1) := by decide +kernel
theorem dL_isDevice_67 : decode cL_isDevice 67 = .ok (.iconst 0, 1) := by decide +kernel
theorem dL_isDevice_68 : decode cL_isDevice 68 = .ok (.invokestatic 93, 3) := by decide +kernel
theorem dL_isDevice_71 : decode cL_isDevice 71 = .ok (.sipush (-300), 3) := by decide +kernel
theorem dL_isDevice_74 : decode cL_isDevice 74 = .ok (.if_icmp .ne 58, 3) := by decide +kernel
theorem dL_isDevice_77 : decode cL_isDevice 77 = .ok (.aload_n 0, 1) := by decide +kernel
theorem dL_isDevice_78 : decode cL_isDevice 78 = .ok (.iconst 4, 1) := by decide +kernel
theorem dL_isDevice_79 : decode cL_isDevice 79 = .ok (.iload 9, 2) := by decide +kernel
theorem dL_isDevice_81 : decode cL_isDevice 81 = .ok (.iload 13, 2) := by decide +kernel
theorem dL_isDevice_83 : decode cL_isDevice 83 = .ok (.iconst 0, 1) := by decide +kernel
theorem dL_isDevice_84 : decode cL_isDevice 84 = .ok (.iconst 0, 1) := by decide +kernel
theorem dL_isDevice_85 : decode cL_isDevice 85 = .ok (.invokestatic 93, 3) := by decide +kernel
theorem dL_isDevice_88 : decode cL_isDevice 88 = .ok (.sipush (-300), 3) := by decide +kernel
theorem dL_isDevice_91 : decode cL_isDevice 91 = .ok (.if_icmp .ne 41, 3) := by decide +kernel
theorem dL_isDevice_94 : decode cL_isDevice 94 = .ok (.aload_n 0, 1) := by decide +kernel
theorem dL_isDevice_95 : decode cL_isDevice 95 = .ok (.iconst 5, 1) := by decide +kernel
theorem dL_isDevice_96 : decode cL_isDevice 96 = .ok (.iload 9, 2) := by decide +kernel
theorem dL_isDevice_98 : decode cL_isDevice 98 = .ok (.iload 13, 2) := by decide +kernel
theorem dL_isDevice_100 : decode cL_isDevice 100 = .ok (.iconst 0, 1) := by decide +kernel
theorem dL_isDevice_101 : decode cL_isDevice 101 = .ok (.iconst 0, 1) := by decide +kernel
theorem dL_isDevice_102 : decode cL_isDevice 102 = .ok (.invokestatic 93, 3) := by decide +kernel
theorem dL_isDevice_105 : decode cL_isDevice 105 = .ok (.sipush (-300), 3) := by decide +kernel
theorem dL_isDevice_108 : decode cL_isDevice 108 = .ok (.if_icmp .ne 24, 3) := by decide +kernel
theorem dL_isDevice_111 : decode cL_isDevice 111 = .ok (.aload_n 0, 1) := by decide +kernel
theorem dL_isDevice_112 : decode cL_isDevice 112 = .ok (.iconst 1, 1) := by decide +kernel
theorem dL_isDevice_113 : decode cL_isDevice 113 = .ok (.iload 9, 2) := by decide +kernel
theorem dL_isDevice_115 : decode cL_isDevice 115 = .ok (.iload 13, 2) := by decide +kernel
theorem dL_isDevice_117 : decode cL_isDevice 117 = .ok (.iconst 0, 1) := by decide +kernel
theorem dL_isDevice_118 : decode cL_isDevice 118 = .ok (.iconst 0, 1) := by decide +kernel
theorem dL_isDevice_119 : decode cL_isDevice 119 = .ok (.invokestatic 93, 3) := by decide +kernel
theorem dL_isDevice_122 : decode cL_isDevice 122 = .ok (.sipush (-300), 3) := by decide +kernel
theorem dL_isDevice_125 : decode cL_isDevice 125 = .ok (.if_icmp .ne 7, 3) := by decide +kernel
theorem dL_isDevice_128 : decode cL_isDevice 128 = .ok (.iconst 1, 1) := by decide +kernel
theorem dL_isDevice_129 : decode cL_isDevice 129 = .ok (.goto 4, 3) := by decide +kernel
theorem dL_isDevice_132 : decode cL_isDevice 132 = .ok (.iconst 0, 1) := by decide +kernel
theorem dL_isDevice_133 : decode cL_isDevice 133 = .ok (.istore 12, 2) := by decide +kernel
theorem dL_isDevice_135 : decode cL_isDevice 135 = .ok (.iconst 0, 1) := by decide +kernel
theorem dL_isDevice_136 : decode cL_isDevice 136 = .ok (.istore 15, 2) := by decide +kernel
theorem dL_isDevice_138 : decode cL_isDevice 138 = .ok (.iload 15, 2) := by decide +kernel
theorem dL_isDevice_140 : decode cL_isDevice 140 = .ok (.iconst 4, 1) := by decide +kernel
theorem dL_isDevice_141 : decode cL_isDevice 141 = .ok (.if_icmp .ge 282, 3) := by decide +kernel
theorem dL_isDevice_144 : decode cL_isDevice 144 = .ok (.iload 12, 2) := by decide +kernel
theorem dL_isDevice_146 : decode cL_isDevice 146 = .ok (.ifCond .eq 277, 3) := by decide +kernel
theorem dL_isDevice_149 : decode cL_isDevice 149 = .ok (.iload 14, 2) := by decide +kernel
theorem dL_isDevice_151 : decode cL_isDevice 151 = .ok (.ifCond .le 272, 3) := by decide +kernel
theorem dL_isDevice_154 : decode cL_isDevice 154 = .ok (.aload_n 1, 1) := by decide +kernel
theorem dL_isDevice_155 : decode cL_isDevice 155 = .ok (.iload 9, 2) := by decide +kernel
theorem dL_isDevice_157 : decode cL_isDevice 157 = .ok (.iload 13, 2) := by decide +kernel
theorem dL_isDevice_159 : decode cL_isDevice 159 = .ok (.iload 15, 2) := by decide +kernel
theorem dL_isDevice_161 : decode cL_isDevice 161 = .ok (.invokestatic 71, 3) := by decide +kernel
theorem dL_isDevice_164 : decode cL_isDevice 164 = .ok (.laload, 1) := by decide +kernel
theorem dL_isDevice_165 : decode cL_isDevice 165 = .ok (.lstore 16, 2) := by decide +kernel
theorem dL_isDevice_167 : decode cL_isDevice 167 = .ok (.iconst 0, 1) := by decide +kernel
theorem dL_isDevice_168 : decode cL_isDevice 168 = .ok (.istore 18, 2) := by decide +kernel
theorem dL_isDevice_170 : decode cL_isDevice 170 = .ok (.iconst 0, 1) := by decide +kernel
theorem dL_isDevice_171 : decode cL_isDevice 171 = .ok (.istore 19, 2) := by decide +kernel
theorem dL_isDevice_173 : decode cL_isDevice 173 = .ok (.iload 19, 2) := by decide +kernel
theorem dL_isDevice_175 : decode cL_isDevice 175 = .ok (.bipush 6, 2) := by decide +kernel
theorem dL_isDevice_177 : decode cL_isDevice 177 = .ok (.if_icmp .ge 142, 3) := by decide +kernel
theorem dL_isDevice_180 : decode cL_isDevice 180 = .ok (.iload 12, 2) := by decide +kernel
theorem dL_isDevice_182 : decode cL_isDevice 182 = .ok (.ifCond .eq 137, 3) := by decide +kernel
theorem dL_isDevice_185 : decode cL_isDevice 185 = .ok (.lload 16, 2) := by decide +kernel
theorem dL_isDevice_187 : decode cL_isDevice 187 = .ok (.iload 19, 2) := by decide +kernel
theorem dL_isDevice_189 : decode cL_isDevice 189 = .ok (.invokestatic 65, 3) := by decide +kernel
theorem dL_isDevice_192 : decode cL_isDevice 192 = .ok (.ifCond .le 78, 3) := by decide +kernel
theorem dL_isDevice_195 : decode cL_isDevice 195 = .ok (.iload 19, 2) := by decide +kernel
theorem dL_isDevice_197 : decode cL_isDevice 197 = .ok (.lload 16, 2) := by decide +kernel
theorem dL_isDevice_199 : decode cL_isDevice 199 = .ok (.iload 19, 2) := by decide +kernel
theorem dL_isDevice_201 : decode cL_isDevice 201 = .ok (.invokestatic 65, 3) := by decide +kernel
theorem dL_isDevice_204 : decode cL_isDevice 204 = .ok (.invokestatic 97, 3) := by decide +kernel
theorem dL_isDevice_207 : decode cL_isDevice 207 = .ok (.istore 20, 2) := by decide +kernel
theorem dL_isDevice_209 : decode cL_isDevice 209 = .ok (.aload_n 0, 1) := by decide +kernel
theorem dL_isDevice_210 : decode cL_isDevice 210 = .ok (.iload 9, 2) := by decide +kernel
theorem dL_isDevice_212 : decode cL_isDevice 212 = .ok (.iload 13, 2) := by decide +kernel
theorem dL_isDevice_214 : decode cL_isDevice 214 = .ok (.iload 15, 2) := by decide +kernel
theorem dL_isDevice_216 : decode cL_isDevice 216 = .ok (.iload 18, 2) := by decide +kernel
theorem dL_isDevice_218 : decode cL_isDevice 218 = .ok (.invokevirtual 40, 3) := by decide +kernel
theorem dL_isDevice_221 : decode cL_isDevice 221 = .ok (.iload 20, 2) := by decide +kernel
theorem dL_isDevice_223 : decode cL_isDevice 223 = .ok (.if_icmp .ne 41, 3) := by decide +kernel
theorem dL_isDevice_226 : decode cL_isDevice 226 = .ok (.iconst 4, 1) := by decide +kernel
theorem dL_isDevice_227 : decode cL_isDevice 227 = .ok (.iload 13, 2) := by decide +kernel
theorem dL_isDevice_229 : decode cL_isDevice 229 = .ok (.imul, 1) := by decide +kernel
theorem dL_isDevice_230 : decode cL_isDevice 230 = .ok (.iload 15, 2) := by decide +kernel
theorem dL_isDevice_232 : decode cL_isDevice 232 = .ok (.iadd, 1) := by decide +kernel
theorem dL_isDevice_233 : decode cL_isDevice 233 = .ok (.iload 10, 2) := by decide +kernel
theorem dL_isDevice_235 : decode cL_isDevice 235 = .ok (.if_icmp .ne 25, 3) := by decide +kernel
theorem dL_isDevice_238 : decode cL_isDevice 238 = .ok (.iload 18, 2) := by decide +kernel
theorem dL_isDevice_240 : decode cL_isDevice 240 = .ok (.ifCond .gt 20, 3) := by decide +kernel
theorem dL_isDevice_243 : decode cL_isDevice 243 = .ok (.aload_n 0, 1) := by decide +kernel
theorem dL_isDevice_244 : decode cL_isDevice 244 = .ok (.iload 9, 2) := by decide +kernel
theorem dL_isDevice_246 : decode cL_isDevice 246 = .ok (.iload 13, 2) := by decide +kernel
theorem dL_isDevice_248 : decode cL_isDevice 248 = .ok (.iload 15, 2) := by decide +kernel
theorem dL_isDevice_250 : decode cL_isDevice 250 = .ok (.iload 18, 2) := by decide +kernel
theorem dL_isDevice_252 : decode cL_isDevice 252 = .ok (.invokevirtual 43, 3) := by decide +kernel
theorem dL_isDevice_255 : decode cL_isDevice 255 = .ok (.iload 20, 2) := by decide +kernel
theorem dL_isDevice_257 : decode cL_isDevice 257 = .ok (.if_icmp .ne 7, 3) := by decide +kernel
theorem dL_isDevice_260 : decode cL_isDevice 260 = .ok (.iconst 1, 1) := by decide +kernel
theorem dL_isDevice_261 : decode cL_isDevice 261 = .ok (.goto 4, 3) := by decide +kernel
theorem dL_isDevice_264 : decode cL_isDevice 264 = .ok (.iconst 0, 1) := by decide +kernel
theorem dL_isDevice_265 : decode cL_isDevice 265 = .ok (.istore 12, 2) := by decide +kernel
theorem dL_isDevice_267 : decode cL_isDevice 267 = .ok (.iinc 18 1, 3) := by decide +kernel
theorem dL_isDevice_270 : decode cL_isDevice 270 = .ok (.iload 12, 2) := by decide +kernel
theorem dL_isDevice_272 : decode cL_isDevice 272 = .ok (.ifCond .eq 38, 3) := by decide +kernel
theorem dL_isDevice_275 : decode cL_isDevice 275 = .ok (.aload_n 0, 1) := by decide +kernel
theorem dL_isDevice_276 : decode cL_isDevice 276 = .ok (.iload 9, 2) := by decide +kernel
theorem dL_isDevice_278 : decode cL_isDevice 278 = .ok (.iload 13, 2) := by decide +kernel
theorem dL_isDevice_280 : decode cL_isDevice 280 = .ok (.iload 15, 2) := by decide +kernel
theorem dL_isDevice_282 : decode cL_isDevice 282 = .ok (.iload 19, 2) := by decide +kernel
theorem dL_isDevice_284 : decode cL_isDevice 284 = .ok (.invokevirtual 50, 3) := by decide +kernel
theorem dL_isDevice_287 : decode cL_isDevice 287 = .ok (.aload_n 2, 1) := by decide +kernel
theorem dL_isDevice_288 : decode cL_isDevice 288 = .ok (.iload 9, 2) := by decide +kernel
theorem dL_isDevice_290 : decode cL_isDevice 290 = .ok (.iload 13, 2) := by decide +kernel
theorem dL_isDevice_292 : decode cL_isDevice 292 = .ok (.iload 15, 2) := by decide +kernel
theorem dL_isDevice_294 : decode cL_isDevice 294 = .ok (.invokestatic 71, 3) := by decide +kernel
theorem dL_isDevice_297 : decode cL_isDevice 297 = .ok (.laload, 1) := by decide +kernel
theorem dL_isDevice_298 : decode cL_isDevice 298 = .ok (.iload 19, 2) := by decide +kernel
theorem dL_isDevice_300 : decode cL_isDevice 300 = .ok (.invokestatic 65, 3) := by decide +kernel
theorem dL_isDevice_303 : decode cL_isDevice 303 = .ok (.if_icmp .ne 7, 3) := by decide +kernel
theorem dL_isDevice_306 : decode cL_isDevice 306 = .ok (.iconst 1, 1) := by decide +kernel
theorem dL_isDevice_307 : decode cL_isDevice 307 = .ok (.goto 4, 3) := by decide +kernel
theorem dL_isDevice_310 : decode cL_isDevice 310 = .ok (.iconst 0, 1) := by decide +kernel
theorem dL_isDevice_311 : decode cL_isDevice 311 = .ok (.istore 12, 2) := by decide +kernel
theorem dL_isDevice_313 : decode cL_isDevice 313 = .ok (.iinc 19 1, 3) := by decide +kernel
theorem dL_isDevice_316 : decode cL_isDevice 316 = .ok (.goto (-143), 3) := by decide +kernel
theorem dL_isDevice_319 : decode cL_isDevice 319 = .ok (.iload 11, 2) := by decide +kernel
theorem dL_isDevice_321 : decode cL_isDevice 321 = .ok (.iload 14, 2) := by decide +kernel
theorem dL_isDevice_323 : decode cL_isDevice 323 = .ok (.iconst 1, 1) := by decide +kernel
theorem dL_isDevice_324 : decode cL_isDevice 324 = .ok (.if_icmp .ne 13, 3) := by decide +kernel
theorem dL_isDevice_327 : decode cL_isDevice 327 = .ok (.iload 18, 2) := by decide +kernel
theorem dL_isDevice_329 : decode cL_isDevice 329 = .ok (.iconst 1, 1) := by decide +kernel
theorem dL_isDevice_330 : decode cL_isDevice 330 = .ok (.if_icmp .le 7, 3) := by decide +kernel
theorem dL_isDevice_333 : decode cL_isDevice 333 = .ok (.iconst 1, 1) := by decide +kernel
theorem dL_isDevice_334 : decode cL_isDevice 334 = .ok (.goto 4, 3) := by decide +kernel
theorem dL_isDevice_337 : decode cL_isDevice 337 = .ok (.iconst 0, 1) := by decide +kernel
theorem dL_isDevice_338 : decode cL_isDevice 338 = .ok (.iadd, 1) := by decide +kernel
theorem dL_isDevice_339 : decode cL_isDevice 339 = .ok (.istore 11, 2) := by decide +kernel
theorem dL_isDevice_341 : decode cL_isDevice 341 = .ok (.iload 12, 2) := by decide +kernel
theorem dL_isDevice_343 : decode cL_isDevice 343 = .ok (.ifCond .eq 71, 3) := by decide +kernel
theorem dL_isDevice_346 : decode cL_isDevice 346 = .ok (.aload_n 0, 1) := by decide +kernel
theorem dL_isDevice_347 : decode cL_isDevice 347 = .ok (.iload 9, 2) := by decide +kernel
theorem dL_isDevice_349 : decode cL_isDevice 349 = .ok (.iload 13, 2) := by decide +kernel
theorem dL_isDevice_351 : decode cL_isDevice 351 = .ok (.iload 15, 2) := by decide +kernel
theorem dL_isDevice_353 : decode cL_isDevice 353 = .ok (.invokevirtual 46, 3) := by decide +kernel
theorem dL_isDevice_356 : decode cL_isDevice 356 = .ok (.iload 18, 2) := by decide +kernel
theorem dL_isDevice_358 : decode cL_isDevice 358 = .ok (.if_icmp .ne 56, 3) := by decide +kernel
theorem dL_isDevice_361 : decode cL_isDevice 361 = .ok (.aload_n 0, 1) := by decide +kernel
theorem dL_isDevice_362 : decode cL_isDevice 362 = .ok (.iconst 1, 1) := by decide +kernel
theorem dL_isDevice_363 : decode cL_isDevice 363 = .ok (.iload 9, 2) := by decide +kernel
theorem dL_isDevice_365 : decode cL_isDevice 365 = .ok (.iload 13, 2) := by decide +kernel
theorem dL_isDevice_367 : decode cL_isDevice 367 = .ok (.iload 15, 2) := by decide +kernel
theorem dL_isDevice_369 : decode cL_isDevice 369 = .ok (.iload 18, 2) := by decide +kernel
theorem dL_isDevice_371 : decode cL_isDevice 371 = .ok (.invokestatic 93, 3) := by decide +kernel
theorem dL_isDevice_374 : decode cL_isDevice 374 = .ok (.sipush (-300), 3) := by decide +kernel
theorem dL_isDevice_377 : decode cL_isDevice 377 = .ok (.if_icmp .ne 37, 3) := by decide +kernel
theorem dL_isDevice_380 : decode cL_isDevice 380 = .ok (.iconst 4, 1) := by decide +kernel
theorem dL_isDevice_381 : decode cL_isDevice 381 = .ok (.iload 13, 2) := by decide +kernel
theorem dL_isDevice_383 : decode cL_isDevice 383 = .ok (.imul, 1) := by decide +kernel
theorem dL_isDevice_384 : decode cL_isDevice 384 = .ok (.iload 15, 2) := by decide +kernel
theorem dL_isDevice_386 : decode cL_isDevice 386 = .ok (.iadd, 1) := by decide +kernel
theorem dL_isDevice_387 : decode cL_isDevice 387 = .ok (.iload 10, 2) := by decide +kernel
theorem dL_isDevice_389 : decode cL_isDevice 389 = .ok (.if_icmp .ne 21, 3) := by decide +kernel
theorem dL_isDevice_392 : decode cL_isDevice 392 = .ok (.aload_n 0, 1) := by decide +kernel
theorem dL_isDevice_393 : decode cL_isDevice 393 = .ok (.iconst 2, 1) := by decide +kernel
theorem dL_isDevice_394 : decode cL_isDevice 394 = .ok (.iload 9, 2) := by decide +kernel
theorem dL_isDevice_396 : decode cL_isDevice 396 = .ok (.iload 13, 2) := by decide +kernel
theorem dL_isDevice_398 : decode cL_isDevice 398 = .ok (.iload 15, 2) := by decide +kernel
theorem dL_isDevice_400 : decode cL_isDevice 400 = .ok (.iconst (-1), 1) := by decide +kernel
theorem dL_isDevice_401 : decode cL_isDevice 401 = .ok (.invokestatic 93, 3) := by decide +kernel
theorem dL_isDevice_404 : decode cL_isDevice 404 = .ok (.sipush (-300), 3) := by decide +kernel
theorem dL_isDevice_407 : decode cL_isDevice 407 = .ok (.if_icmp .ne 7, 3) := by decide +kernel
theorem dL_isDevice_410 : decode cL_isDevice 410 = .ok (.iconst 1, 1) := by decide +kernel
theorem dL_isDevice_411 : decode cL_isDevice 411 = .ok (.goto 4, 3) := by decide +kernel
theorem dL_isDevice_414 : decode cL_isDevice 414 = .ok (.iconst 0, 1) := by decide +kernel
theorem dL_isDevice_415 : decode cL_isDevice 415 = .ok (.istore 12, 2) := by decide +kernel
theorem dL_isDevice_417 : decode cL_isDevice 417 = .ok (.iinc 15 1, 3) := by decide +kernel
theorem dL_isDevice_420 : decode cL_isDevice 420 = .ok (.goto (-282), 3) := by decide +kernel
theorem dL_isDevice_423 : decode cL_isDevice 423 = .ok (.iconst 0, 1) := by decide +kernel
theorem dL_isDevice_424 : decode cL_isDevice 424 = .ok (.istore 15, 2) := by decide +kernel
theorem dL_isDevice_426 : decode cL_isDevice 426 = .ok (.iconst 0, 1) := by decide +kernel
theorem dL_isDevice_427 : decode cL_isDevice 427 = .ok (.istore 16, 2) := by decide +kernel
