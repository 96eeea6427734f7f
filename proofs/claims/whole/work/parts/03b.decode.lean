theorem dX7_init_0 : decode cX7_init 0 = .ok (.aload_n 0, 1) := by decide +kernel
theorem dX7_init_1 : decode cX7_init 1 = .ok (.invokespecial 1, 3) := by decide +kernel
theorem dX7_init_4 : decode cX7_init 4 = .ok (.aload_n 0, 1) := by decide +kernel
theorem dX7_init_5 : decode cX7_init 5 = .ok (.bipush 6, 2) := by decide +kernel
theorem dX7_init_7 : decode cX7_init 7 = .ok (.newarray .int, 2) := by decide +kernel
theorem dX7_init_9 : decode cX7_init 9 = .ok (.putfield 7, 3) := by decide +kernel
theorem dX7_init_12 : decode cX7_init 12 = .ok (.aload_n 0, 1) := by decide +kernel
theorem dX7_init_13 : decode cX7_init 13 = .ok (.bipush 10, 2) := by decide +kernel
theorem dX7_init_15 : decode cX7_init 15 = .ok (.newarray .int, 2) := by decide +kernel
theorem dX7_init_17 : decode cX7_init 17 = .ok (.putfield 13, 3) := by decide +kernel
theorem dX7_init_20 : decode cX7_init 20 = .ok (.aload_n 0, 1) := by decide +kernel
theorem dX7_init_21 : decode cX7_init 21 = .ok (.bipush 30, 2) := by decide +kernel
theorem dX7_init_23 : decode cX7_init 23 = .ok (.newarray .int, 2) := by decide +kernel
theorem dX7_init_25 : decode cX7_init 25 = .ok (.putfield 16, 3) := by decide +kernel
theorem dX7_init_28 : decode cX7_init 28 = .ok (.aload_n 0, 1) := by decide +kernel
theorem dX7_init_29 : decode cX7_init 29 = .ok (.bipush 60, 2) := by decide +kernel
theorem dX7_init_31 : decode cX7_init 31 = .ok (.newarray .boolean, 2) := by decide +kernel
theorem dX7_init_33 : decode cX7_init 33 = .ok (.putfield 19, 3) := by decide +kernel
theorem dX7_init_36 : decode cX7_init 36 = .ok (.aload_n 0, 1) := by decide +kernel
theorem dX7_init_37 : decode cX7_init 37 = .ok (.sipush 1440, 3) := by decide +kernel
theorem dX7_init_40 : decode cX7_init 40 = .ok (.newarray .int, 2) := by decide +kernel
theorem dX7_init_42 : decode cX7_init 42 = .ok (.putfield 23, 3) := by decide +kernel
theorem dX7_init_45 : decode cX7_init 45 = .ok (.aload_n 0, 1) := by decide +kernel
theorem dX7_init_46 : decode cX7_init 46 = .ok (.sipush 1440, 3) := by decide +kernel
theorem dX7_init_49 : decode cX7_init 49 = .ok (.newarray .int, 2) := by decide +kernel
theorem dX7_init_51 : decode cX7_init 51 = .ok (.putfield 26, 3) := by decide +kernel
theorem dX7_init_54 : decode cX7_init 54 = .ok (.aload_n 0, 1) := by decide +kernel
theorem dX7_init_55 : decode cX7_init 55 = .ok (.sipush 1440, 3) := by decide +kernel
theorem dX7_init_58 : decode cX7_init 58 = .ok (.newarray .int, 2) := by decide +kernel
theorem dX7_init_60 : decode cX7_init 60 = .ok (.putfield 29, 3) := by decide +kernel
theorem dX7_init_63 : decode cX7_init 63 = .ok (.aload_n 0, 1) := by decide +kernel
theorem dX7_init_64 : decode cX7_init 64 = .ok (.bipush 60, 2) := by decide +kernel
theorem dX7_init_66 : decode cX7_init 66 = .ok (.newarray .boolean, 2) := by decide +kernel
theorem dX7_init_68 : decode cX7_init 68 = .ok (.putfield 32, 3) := by decide +kernel
theorem dX7_init_71 : decode cX7_init 71 = .ok (.aload_n 0, 1) := by decide +kernel
theorem dX7_init_72 : decode cX7_init 72 = .ok (.sipush 1440, 3) := by decide +kernel
theorem dX7_init_75 : decode cX7_init 75 = .ok (.newarray .int, 2) := by decide +kernel
theorem dX7_init_77 : decode cX7_init 77 = .ok (.putfield 35, 3) := by decide +kernel
theorem dX7_init_80 : decode cX7_init 80 = .ok (.aload_n 0, 1) := by decide +kernel
theorem dX7_init_81 : decode cX7_init 81 = .ok (.sipush 1024, 3) := by decide +kernel
theorem dX7_init_84 : decode cX7_init 84 = .ok (.newarray .int, 2) := by decide +kernel
theorem dX7_init_86 : decode cX7_init 86 = .ok (.putfield 38, 3) := by decide +kernel
theorem dX7_init_89 : decode cX7_init 89 = .ok (.aload_n 0, 1) := by decide +kernel
theorem dX7_init_90 : decode cX7_init 90 = .ok (.sipush 24576, 3) := by decide +kernel
theorem dX7_init_93 : decode cX7_init 93 = .ok (.newarray .int, 2) := by decide +kernel
theorem dX7_init_95 : decode cX7_init 95 = .ok (.putfield 41, 3) := by decide +kernel
theorem dX7_init_98 : decode cX7_init 98 = .ok (.aload_n 0, 1) := by decide +kernel
theorem dX7_init_99 : decode cX7_init 99 = .ok (.sipush 6144, 3) := by decide +kernel
theorem dX7_init_102 : decode cX7_init 102 = .ok (.newarray .int, 2) := by decide +kernel
theorem dX7_init_104 : decode cX7_init 104 = .ok (.putfield 44, 3) := by decide +kernel
theorem dX7_init_107 : decode cX7_init 107 = .ok (.return_, 1) := by decide +kernel
theorem dX7_thrown_0 : decode cX7_thrown 0 = .ok (.aload_n 0, 1) := by decide +kernel
theorem dX7_thrown_1 : decode cX7_thrown 1 = .ok (.getfield 47, 3) := by decide +kernel
theorem dX7_thrown_4 : decode cX7_thrown 4 = .ok (.ireturn, 1) := by decide +kernel
theorem dX7_fails_0 : decode cX7_fails 0 = .ok (.aload_n 0, 1) := by decide +kernel
theorem dX7_fails_1 : decode cX7_fails 1 = .ok (.iload_n 1, 1) := by decide +kernel
theorem dX7_fails_2 : decode cX7_fails 2 = .ok (.putfield 47, 3) := by decide +kernel
theorem dX7_fails_5 : decode cX7_fails 5 = .ok (.iload_n 1, 1) := by decide +kernel
theorem dX7_fails_6 : decode cX7_fails 6 = .ok (.ifCond .le 7, 3) := by decide +kernel
theorem dX7_fails_9 : decode cX7_fails 9 = .ok (.iconst 1, 1) := by decide +kernel
theorem dX7_fails_10 : decode cX7_fails 10 = .ok (.goto 4, 3) := by decide +kernel
theorem dX7_fails_13 : decode cX7_fails 13 = .ok (.iconst 0, 1) := by decide +kernel
theorem dX7_fails_14 : decode cX7_fails 14 = .ok (.ireturn, 1) := by decide +kernel
theorem dX7_isIn_0 : decode cX7_isIn 0 = .ok (.iload_n 0, 1) := by decide +kernel
theorem dX7_isIn_1 : decode cX7_isIn 1 = .ok (.iload_n 1, 1) := by decide +kernel
theorem dX7_isIn_2 : decode cX7_isIn 2 = .ok (.if_icmp .lt 12, 3) := by decide +kernel
theorem dX7_isIn_5 : decode cX7_isIn 5 = .ok (.iload_n 0, 1) := by decide +kernel
theorem dX7_isIn_6 : decode cX7_isIn 6 = .ok (.iload_n 2, 1) := by decide +kernel
theorem dX7_isIn_7 : decode cX7_isIn 7 = .ok (.if_icmp .gt 7, 3) := by decide +kernel
theorem dX7_isIn_10 : decode cX7_isIn 10 = .ok (.iconst 1, 1) := by decide +kernel
theorem dX7_isIn_11 : decode cX7_isIn 11 = .ok (.goto 4, 3) := by decide +kernel
theorem dX7_isIn_14 : decode cX7_isIn 14 = .ok (.iconst 0, 1) := by decide +kernel
theorem dX7_isIn_15 : decode cX7_isIn 15 = .ok (.ireturn, 1) := by decide +kernel
theorem dX7_isDevice_0 : decode cX7_isDevice 0 = .ok (.iload_n 0, 1) := by decide +kernel
theorem dX7_isDevice_1 : decode cX7_isDevice 1 = .ok (.iconst 0, 1) := by decide +kernel
theorem dX7_isDevice_2 : decode cX7_isDevice 2 = .ok (.iconst 5, 1) := by decide +kernel
theorem dX7_isDevice_3 : decode cX7_isDevice 3 = .ok (.invokestatic 51, 3) := by decide +kernel
theorem dX7_isDevice_6 : decode cX7_isDevice 6 = .ok (.ireturn, 1) := by decide +kernel
theorem dX7_isField_0 : decode cX7_isField 0 = .ok (.iload_n 0, 1) := by decide +kernel
theorem dX7_isField_1 : decode cX7_isField 1 = .ok (.iconst 0, 1) := by decide +kernel
theorem dX7_isField_2 : decode cX7_isField 2 = .ok (.iconst 3, 1) := by decide +kernel
theorem dX7_isField_3 : decode cX7_isField 3 = .ok (.invokestatic 51, 3) := by decide +kernel
theorem dX7_isField_6 : decode cX7_isField 6 = .ok (.ireturn, 1) := by decide +kernel
theorem dX7_isEntry_0 : decode cX7_isEntry 0 = .ok (.iload_n 1, 1) := by decide +kernel
theorem dX7_isEntry_1 : decode cX7_isEntry 1 = .ok (.iconst 0, 1) := by decide +kernel
theorem dX7_isEntry_2 : decode cX7_isEntry 2 = .ok (.aload_n 0, 1) := by decide +kernel
theorem dX7_isEntry_3 : decode cX7_isEntry 3 = .ok (.getfield 55, 3) := by decide +kernel
theorem dX7_isEntry_6 : decode cX7_isEntry 6 = .ok (.iconst 1, 1) := by decide +kernel
theorem dX7_isEntry_7 : decode cX7_isEntry 7 = .ok (.isub, 1) := by decide +kernel
theorem dX7_isEntry_8 : decode cX7_isEntry 8 = .ok (.invokestatic 51, 3) := by decide +kernel
theorem dX7_isEntry_11 : decode cX7_isEntry 11 = .ok (.ireturn, 1) := by decide +kernel
theorem dX7_pair_0 : decode cX7_pair 0 = .ok (.bipush 10, 2) := by decide +kernel
theorem dX7_pair_2 : decode cX7_pair 2 = .ok (.iload_n 0, 1) := by decide +kernel
theorem dX7_pair_3 : decode cX7_pair 3 = .ok (.imul, 1) := by decide +kernel
theorem dX7_pair_4 : decode cX7_pair 4 = .ok (.iload_n 1, 1) := by decide +kernel
theorem dX7_pair_5 : decode cX7_pair 5 = .ok (.iadd, 1) := by decide +kernel
theorem dX7_pair_6 : decode cX7_pair 6 = .ok (.ireturn, 1) := by decide +kernel
theorem dX7_place_0 : decode cX7_place 0 = .ok (.bipush 24, 2) := by decide +kernel
theorem dX7_place_2 : decode cX7_place 2 = .ok (.bipush 10, 2) := by decide +kernel
theorem dX7_place_4 : decode cX7_place 4 = .ok (.iload_n 0, 1) := by decide +kernel
theorem dX7_place_5 : decode cX7_place 5 = .ok (.imul, 1) := by decide +kernel
theorem dX7_place_6 : decode cX7_place 6 = .ok (.iload_n 1, 1) := by decide +kernel
theorem dX7_place_7 : decode cX7_place 7 = .ok (.iadd, 1) := by decide +kernel
theorem dX7_place_8 : decode cX7_place 8 = .ok (.imul, 1) := by decide +kernel
theorem dX7_place_9 : decode cX7_place 9 = .ok (.bipush 6, 2) := by decide +kernel
theorem dX7_place_11 : decode cX7_place 11 = .ok (.iload_n 2, 1) := by decide +kernel
theorem dX7_place_12 : decode cX7_place 12 = .ok (.imul, 1) := by decide +kernel
theorem dX7_place_13 : decode cX7_place 13 = .ok (.iadd, 1) := by decide +kernel
theorem dX7_place_14 : decode cX7_place 14 = .ok (.iload_n 3, 1) := by decide +kernel
theorem dX7_place_15 : decode cX7_place 15 = .ok (.iadd, 1) := by decide +kernel
theorem dX7_place_16 : decode cX7_place 16 = .ok (.ireturn, 1) := by decide +kernel
theorem dX7_isKnown_0 : decode cX7_isKnown 0 = .ok (.iload_n 1, 1) := by decide +kernel
theorem dX7_isKnown_1 : decode cX7_isKnown 1 = .ok (.invokestatic 58, 3) := by decide +kernel
theorem dX7_isKnown_4 : decode cX7_isKnown 4 = .ok (.ifCond .eq 28, 3) := by decide +kernel
theorem dX7_isKnown_7 : decode cX7_isKnown 7 = .ok (.aload_n 0, 1) := by decide +kernel
theorem dX7_isKnown_8 : decode cX7_isKnown 8 = .ok (.iload_n 2, 1) := by decide +kernel
theorem dX7_isKnown_9 : decode cX7_isKnown 9 = .ok (.invokevirtual 62, 3) := by decide +kernel
theorem dX7_isKnown_12 : decode cX7_isKnown 12 = .ok (.ifCond .eq 20, 3) := by decide +kernel
theorem dX7_isKnown_15 : decode cX7_isKnown 15 = .ok (.aload_n 0, 1) := by decide +kernel
theorem dX7_isKnown_16 : decode cX7_isKnown 16 = .ok (.getfield 19, 3) := by decide +kernel
theorem dX7_isKnown_19 : decode cX7_isKnown 19 = .ok (.iload_n 1, 1) := by decide +kernel
theorem dX7_isKnown_20 : decode cX7_isKnown 20 = .ok (.iload_n 2, 1) := by decide +kernel
theorem dX7_isKnown_21 : decode cX7_isKnown 21 = .ok (.invokestatic 65, 3) := by decide +kernel
theorem dX7_isKnown_24 : decode cX7_isKnown 24 = .ok (.baload, 1) := by decide +kernel
theorem dX7_isKnown_25 : decode cX7_isKnown 25 = .ok (.ifCond .eq 7, 3) := by decide +kernel
theorem dX7_isKnown_28 : decode cX7_isKnown 28 = .ok (.iconst 1, 1) := by decide +kernel
theorem dX7_isKnown_29 : decode cX7_isKnown 29 = .ok (.goto 4, 3) := by decide +kernel
theorem dX7_isKnown_32 : decode cX7_isKnown 32 = .ok (.iconst 0, 1) := by decide +kernel
theorem dX7_isKnown_33 : decode cX7_isKnown 33 = .ok (.ireturn, 1) := by decide +kernel
theorem dX7_may_0 : decode cX7_may 0 = .ok (.aload_n 0, 1) := by decide +kernel
theorem dX7_may_1 : decode cX7_may 1 = .ok (.getfield 13, 3) := by decide +kernel
theorem dX7_may_4 : decode cX7_may 4 = .ok (.iload_n 2, 1) := by decide +kernel
theorem dX7_may_5 : decode cX7_may 5 = .ok (.iaload, 1) := by decide +kernel
theorem dX7_may_6 : decode cX7_may 6 = .ok (.iload_n 1, 1) := by decide +kernel
theorem dX7_may_7 : decode cX7_may 7 = .ok (.iconst 2, 1) := by decide +kernel
theorem dX7_may_8 : decode cX7_may 8 = .ok (.idiv, 1) := by decide +kernel
theorem dX7_may_9 : decode cX7_may 9 = .ok (.if_icmp .eq 23, 3) := by decide +kernel
theorem dX7_may_12 : decode cX7_may 12 = .ok (.aload_n 0, 1) := by decide +kernel
theorem dX7_may_13 : decode cX7_may 13 = .ok (.getfield 16, 3) := by decide +kernel
theorem dX7_may_16 : decode cX7_may 16 = .ok (.iconst 3, 1) := by decide +kernel
theorem dX7_may_17 : decode cX7_may 17 = .ok (.iload_n 2, 1) := by decide +kernel
theorem dX7_may_18 : decode cX7_may 18 = .ok (.imul, 1) := by decide +kernel
theorem dX7_may_19 : decode cX7_may 19 = .ok (.iload_n 1, 1) := by decide +kernel
theorem dX7_may_20 : decode cX7_may 20 = .ok (.iconst 2, 1) := by decide +kernel
theorem dX7_may_21 : decode cX7_may 21 = .ok (.idiv, 1) := by decide +kernel
theorem dX7_may_22 : decode cX7_may 22 = .ok (.iadd, 1) := by decide +kernel
theorem dX7_may_23 : decode cX7_may 23 = .ok (.iaload, 1) := by decide +kernel
theorem dX7_may_24 : decode cX7_may 24 = .ok (.iload_n 3, 1) := by decide +kernel
theorem dX7_may_25 : decode cX7_may 25 = .ok (.ishr, 1) := by decide +kernel
theorem dX7_may_26 : decode cX7_may 26 = .ok (.iconst 1, 1) := by decide +kernel
theorem dX7_may_27 : decode cX7_may 27 = .ok (.iand, 1) := by decide +kernel
theorem dX7_may_28 : decode cX7_may 28 = .ok (.iconst 1, 1) := by decide +kernel
theorem dX7_may_29 : decode cX7_may 29 = .ok (.if_icmp .ne 7, 3) := by decide +kernel
theorem dX7_may_32 : decode cX7_may 32 = .ok (.iconst 1, 1) := by decide +kernel
theorem dX7_may_33 : decode cX7_may 33 = .ok (.goto 4, 3) := by decide +kernel
theorem dX7_may_36 : decode cX7_may 36 = .ok (.iconst 0, 1) := by decide +kernel
theorem dX7_may_37 : decode cX7_may 37 = .ok (.ireturn, 1) := by decide +kernel
theorem dX7_entry_0 : decode cX7_entry 0 = .ok (.iload_n 1, 1) := by decide +kernel
theorem dX7_entry_1 : decode cX7_entry 1 = .ok (.invokestatic 58, 3) := by decide +kernel
theorem dX7_entry_4 : decode cX7_entry 4 = .ok (.istore_n 2, 1) := by decide +kernel
theorem dX7_entry_5 : decode cX7_entry 5 = .ok (.aload_n 0, 1) := by decide +kernel
theorem dX7_entry_6 : decode cX7_entry 6 = .ok (.iload_n 2, 1) := by decide +kernel
theorem dX7_entry_7 : decode cX7_entry 7 = .ok (.ifCond .ne 7, 3) := by decide +kernel
theorem dX7_entry_10 : decode cX7_entry 10 = .ok (.iconst 1, 1) := by decide +kernel
theorem dX7_entry_11 : decode cX7_entry 11 = .ok (.goto 17, 3) := by decide +kernel
theorem dX7_entry_14 : decode cX7_entry 14 = .ok (.aload_n 0, 1) := by decide +kernel
theorem dX7_entry_15 : decode cX7_entry 15 = .ok (.getfield 55, 3) := by decide +kernel
theorem dX7_entry_18 : decode cX7_entry 18 = .ok (.bipush 10, 2) := by decide +kernel
theorem dX7_entry_20 : decode cX7_entry 20 = .ok (.if_icmp .ne 7, 3) := by decide +kernel
theorem dX7_entry_23 : decode cX7_entry 23 = .ok (.iconst 2, 1) := by decide +kernel
theorem dX7_entry_24 : decode cX7_entry 24 = .ok (.goto 4, 3) := by decide +kernel
theorem dX7_entry_27 : decode cX7_entry 27 = .ok (.iconst 0, 1) := by decide +kernel
theorem dX7_entry_28 : decode cX7_entry 28 = .ok (.invokevirtual 69, 3) := by decide +kernel
theorem dX7_entry_31 : decode cX7_entry 31 = .ok (.ifCond .eq 5, 3) := by decide +kernel
theorem dX7_entry_34 : decode cX7_entry 34 = .ok (.iconst 0, 1) := by decide +kernel
theorem dX7_entry_35 : decode cX7_entry 35 = .ok (.ireturn, 1) := by decide +kernel
theorem dX7_entry_36 : decode cX7_entry 36 = .ok (.aload_n 0, 1) := by decide +kernel
theorem dX7_entry_37 : decode cX7_entry 37 = .ok (.getfield 13, 3) := by decide +kernel
theorem dX7_entry_40 : decode cX7_entry 40 = .ok (.aload_n 0, 1) := by decide +kernel
theorem dX7_entry_41 : decode cX7_entry 41 = .ok (.getfield 55, 3) := by decide +kernel
theorem dX7_entry_44 : decode cX7_entry 44 = .ok (.iload_n 1, 1) := by decide +kernel
theorem dX7_entry_45 : decode cX7_entry 45 = .ok (.iconst 2, 1) := by decide +kernel
theorem dX7_entry_46 : decode cX7_entry 46 = .ok (.idiv, 1) := by decide +kernel
theorem dX7_entry_47 : decode cX7_entry 47 = .ok (.iastore, 1) := by decide +kernel
theorem dX7_entry_48 : decode cX7_entry 48 = .ok (.aload_n 0, 1) := by decide +kernel
theorem dX7_entry_49 : decode cX7_entry 49 = .ok (.getfield 19, 3) := by decide +kernel
theorem dX7_entry_52 : decode cX7_entry 52 = .ok (.iload_n 1, 1) := by decide +kernel
theorem dX7_entry_53 : decode cX7_entry 53 = .ok (.aload_n 0, 1) := by decide +kernel
theorem dX7_entry_54 : decode cX7_entry 54 = .ok (.getfield 55, 3) := by decide +kernel
theorem dX7_entry_57 : decode cX7_entry 57 = .ok (.invokestatic 65, 3) := by decide +kernel
theorem dX7_entry_60 : decode cX7_entry 60 = .ok (.iconst 1, 1) := by decide +kernel
theorem dX7_entry_61 : decode cX7_entry 61 = .ok (.bastore, 1) := by decide +kernel
theorem dX7_entry_62 : decode cX7_entry 62 = .ok (.aload_n 0, 1) := by decide +kernel
theorem dX7_entry_63 : decode cX7_entry 63 = .ok (.dup, 1) := by decide +kernel
theorem dX7_entry_64 : decode cX7_entry 64 = .ok (.getfield 55, 3) := by decide +kernel
theorem dX7_entry_67 : decode cX7_entry 67 = .ok (.iconst 1, 1) := by decide +kernel
theorem dX7_entry_68 : decode cX7_entry 68 = .ok (.iadd, 1) := by decide +kernel
theorem dX7_entry_69 : decode cX7_entry 69 = .ok (.putfield 55, 3) := by decide +kernel
theorem dX7_entry_72 : decode cX7_entry 72 = .ok (.aload_n 0, 1) := by decide +kernel
theorem dX7_entry_73 : decode cX7_entry 73 = .ok (.getfield 55, 3) := by decide +kernel
theorem dX7_entry_76 : decode cX7_entry 76 = .ok (.iconst 1, 1) := by decide +kernel
theorem dX7_entry_77 : decode cX7_entry 77 = .ok (.isub, 1) := by decide +kernel
theorem dX7_entry_78 : decode cX7_entry 78 = .ok (.ireturn, 1) := by decide +kernel
theorem dX7_count_0 : decode cX7_count 0 = .ok (.iconst 0, 1) := by decide +kernel
theorem dX7_count_1 : decode cX7_count 1 = .ok (.istore 4, 2) := by decide +kernel
theorem dX7_count_3 : decode cX7_count 3 = .ok (.iconst 0, 1) := by decide +kernel
theorem dX7_count_4 : decode cX7_count 4 = .ok (.istore 5, 2) := by decide +kernel
theorem dX7_count_6 : decode cX7_count 6 = .ok (.iload 5, 2) := by decide +kernel
theorem dX7_count_8 : decode cX7_count 8 = .ok (.bipush 6, 2) := by decide +kernel
theorem dX7_count_10 : decode cX7_count 10 = .ok (.if_icmp .ge 35, 3) := by decide +kernel
theorem dX7_count_13 : decode cX7_count 13 = .ok (.iload 4, 2) := by decide +kernel
theorem dX7_count_15 : decode cX7_count 15 = .ok (.aload_n 0, 1) := by decide +kernel
theorem dX7_count_16 : decode cX7_count 16 = .ok (.getfield 23, 3) := by decide +kernel
theorem dX7_count_19 : decode cX7_count 19 = .ok (.iload_n 1, 1) := by decide +kernel
theorem dX7_count_20 : decode cX7_count 20 = .ok (.iload_n 2, 1) := by decide +kernel
theorem dX7_count_21 : decode cX7_count 21 = .ok (.iload_n 3, 1) := by decide +kernel
theorem dX7_count_22 : decode cX7_count 22 = .ok (.iload 5, 2) := by decide +kernel
theorem dX7_count_24 : decode cX7_count 24 = .ok (.invokestatic 72, 3) := by decide +kernel
theorem dX7_count_27 : decode cX7_count 27 = .ok (.iaload, 1) := by decide +kernel
theorem dX7_count_28 : decode cX7_count 28 = .ok (.ifCond .le 7, 3) := by decide +kernel
theorem dX7_count_31 : decode cX7_count 31 = .ok (.iconst 1, 1) := by decide +kernel
theorem dX7_count_32 : decode cX7_count 32 = .ok (.goto 4, 3) := by decide +kernel
theorem dX7_count_35 : decode cX7_count 35 = .ok (.iconst 0, 1) := by decide +kernel
theorem dX7_count_36 : decode cX7_count 36 = .ok (.iadd, 1) := by decide +kernel
theorem dX7_count_37 : decode cX7_count 37 = .ok (.istore 4, 2) := by decide +kernel
theorem dX7_count_39 : decode cX7_count 39 = .ok (.iinc 5 1, 3) := by decide +kernel
theorem dX7_count_42 : decode cX7_count 42 = .ok (.goto (-36), 3) := by decide +kernel
theorem dX7_count_45 : decode cX7_count 45 = .ok (.iload 4, 2) := by decide +kernel
theorem dX7_count_47 : decode cX7_count 47 = .ok (.ireturn, 1) := by decide +kernel
theorem dX7_all_0 : decode cX7_all 0 = .ok (.iconst 0, 1) := by decide +kernel
theorem dX7_all_1 : decode cX7_all 1 = .ok (.istore_n 3, 1) := by decide +kernel
theorem dX7_all_2 : decode cX7_all 2 = .ok (.iconst 0, 1) := by decide +kernel
theorem dX7_all_3 : decode cX7_all 3 = .ok (.istore 4, 2) := by decide +kernel
theorem dX7_all_5 : decode cX7_all 5 = .ok (.iload 4, 2) := by decide +kernel
theorem dX7_all_7 : decode cX7_all 7 = .ok (.iconst 4, 1) := by decide +kernel
theorem dX7_all_8 : decode cX7_all 8 = .ok (.if_icmp .ge 20, 3) := by decide +kernel
theorem dX7_all_11 : decode cX7_all 11 = .ok (.iload_n 3, 1) := by decide +kernel
theorem dX7_all_12 : decode cX7_all 12 = .ok (.aload_n 0, 1) := by decide +kernel
theorem dX7_all_13 : decode cX7_all 13 = .ok (.iload_n 1, 1) := by decide +kernel
theorem dX7_all_14 : decode cX7_all 14 = .ok (.iload_n 2, 1) := by decide +kernel
theorem dX7_all_15 : decode cX7_all 15 = .ok (.iload 4, 2) := by decide +kernel
theorem dX7_all_17 : decode cX7_all 17 = .ok (.invokevirtual 76, 3) := by decide +kernel
theorem dX7_all_20 : decode cX7_all 20 = .ok (.iadd, 1) := by decide +kernel
theorem dX7_all_21 : decode cX7_all 21 = .ok (.istore_n 3, 1) := by decide +kernel
theorem dX7_all_22 : decode cX7_all 22 = .ok (.iinc 4 1, 3) := by decide +kernel
theorem dX7_all_25 : decode cX7_all 25 = .ok (.goto (-20), 3) := by decide +kernel
theorem dX7_all_28 : decode cX7_all 28 = .ok (.iload_n 3, 1) := by decide +kernel
theorem dX7_all_29 : decode cX7_all 29 = .ok (.ireturn, 1) := by decide +kernel
theorem dX7_tell_0 : decode cX7_tell 0 = .ok (.aload_n 0, 1) := by decide +kernel
theorem dX7_tell_1 : decode cX7_tell 1 = .ok (.iload_n 1, 1) := by decide +kernel
theorem dX7_tell_2 : decode cX7_tell 2 = .ok (.iload_n 2, 1) := by decide +kernel
theorem dX7_tell_3 : decode cX7_tell 3 = .ok (.invokevirtual 80, 3) := by decide +kernel
theorem dX7_tell_6 : decode cX7_tell 6 = .ok (.ifCond .eq 14, 3) := by decide +kernel
theorem dX7_tell_9 : decode cX7_tell 9 = .ok (.iload_n 3, 1) := by decide +kernel
theorem dX7_tell_10 : decode cX7_tell 10 = .ok (.invokestatic 84, 3) := by decide +kernel
theorem dX7_tell_13 : decode cX7_tell 13 = .ok (.ifCond .eq 7, 3) := by decide +kernel
theorem dX7_tell_16 : decode cX7_tell 16 = .ok (.iconst 1, 1) := by decide +kernel
theorem dX7_tell_17 : decode cX7_tell 17 = .ok (.goto 4, 3) := by decide +kernel
theorem dX7_tell_20 : decode cX7_tell 20 = .ok (.iconst 0, 1) := by decide +kernel
theorem dX7_tell_21 : decode cX7_tell 21 = .ok (.istore 5, 2) := by decide +kernel
theorem dX7_tell_23 : decode cX7_tell 23 = .ok (.aload_n 0, 1) := by decide +kernel
theorem dX7_tell_24 : decode cX7_tell 24 = .ok (.iload 5, 2) := by decide +kernel
theorem dX7_tell_26 : decode cX7_tell 26 = .ok (.ifCond .ne 7, 3) := by decide +kernel
theorem dX7_tell_29 : decode cX7_tell 29 = .ok (.iconst 1, 1) := by decide +kernel
theorem dX7_tell_30 : decode cX7_tell 30 = .ok (.goto 34, 3) := by decide +kernel
theorem dX7_tell_33 : decode cX7_tell 33 = .ok (.iload 4, 2) := by decide +kernel
theorem dX7_tell_35 : decode cX7_tell 35 = .ok (.iconst (-1), 1) := by decide +kernel
theorem dX7_tell_36 : decode cX7_tell 36 = .ok (.sipush 999, 3) := by decide +kernel
theorem dX7_tell_39 : decode cX7_tell 39 = .ok (.invokestatic 51, 3) := by decide +kernel
theorem dX7_tell_42 : decode cX7_tell 42 = .ok (.ifCond .ne 7, 3) := by decide +kernel
theorem dX7_tell_45 : decode cX7_tell 45 = .ok (.iconst 2, 1) := by decide +kernel
theorem dX7_tell_46 : decode cX7_tell 46 = .ok (.goto 18, 3) := by decide +kernel
theorem dX7_tell_49 : decode cX7_tell 49 = .ok (.aload_n 0, 1) := by decide +kernel
theorem dX7_tell_50 : decode cX7_tell 50 = .ok (.iload_n 1, 1) := by decide +kernel
theorem dX7_tell_51 : decode cX7_tell 51 = .ok (.iload_n 2, 1) := by decide +kernel
theorem dX7_tell_52 : decode cX7_tell 52 = .ok (.iload_n 3, 1) := by decide +kernel
theorem dX7_tell_53 : decode cX7_tell 53 = .ok (.invokevirtual 87, 3) := by decide +kernel
theorem dX7_tell_56 : decode cX7_tell 56 = .ok (.ifCond .eq 7, 3) := by decide +kernel
theorem dX7_tell_59 : decode cX7_tell 59 = .ok (.iconst 0, 1) := by decide +kernel
theorem dX7_tell_60 : decode cX7_tell 60 = .ok (.goto 4, 3) := by decide +kernel
theorem dX7_tell_63 : decode cX7_tell 63 = .ok (.iconst 3, 1) := by decide +kernel
theorem dX7_tell_64 : decode cX7_tell 64 = .ok (.invokevirtual 69, 3) := by decide +kernel
theorem dX7_tell_67 : decode cX7_tell 67 = .ok (.ifCond .eq 5, 3) := by decide +kernel
theorem dX7_tell_70 : decode cX7_tell 70 = .ok (.iconst 0, 1) := by decide +kernel
theorem dX7_tell_71 : decode cX7_tell 71 = .ok (.ireturn, 1) := by decide +kernel
theorem dX7_tell_72 : decode cX7_tell 72 = .ok (.aload_n 0, 1) := by decide +kernel
theorem dX7_tell_73 : decode cX7_tell 73 = .ok (.iload_n 1, 1) := by decide +kernel
theorem dX7_tell_74 : decode cX7_tell 74 = .ok (.iload_n 2, 1) := by decide +kernel
theorem dX7_tell_75 : decode cX7_tell 75 = .ok (.iload_n 3, 1) := by decide +kernel
theorem dX7_tell_76 : decode cX7_tell 76 = .ok (.invokevirtual 76, 3) := by decide +kernel
theorem dX7_tell_79 : decode cX7_tell 79 = .ok (.istore 6, 2) := by decide +kernel
theorem dX7_tell_81 : decode cX7_tell 81 = .ok (.iconst 0, 1) := by decide +kernel
theorem dX7_tell_82 : decode cX7_tell 82 = .ok (.istore 7, 2) := by decide +kernel
theorem dX7_tell_84 : decode cX7_tell 84 = .ok (.iload 7, 2) := by decide +kernel
theorem dX7_tell_86 : decode cX7_tell 86 = .ok (.bipush 6, 2) := by decide +kernel
theorem dX7_tell_88 : decode cX7_tell 88 = .ok (.if_icmp .ge 23, 3) := by decide +kernel
theorem dX7_tell_91 : decode cX7_tell 91 = .ok (.aload_n 0, 1) := by decide +kernel
theorem dX7_tell_92 : decode cX7_tell 92 = .ok (.getfield 23, 3) := by decide +kernel
theorem dX7_tell_95 : decode cX7_tell 95 = .ok (.iload_n 1, 1) := by decide +kernel
theorem dX7_tell_96 : decode cX7_tell 96 = .ok (.iload_n 2, 1) := by decide +kernel
theorem dX7_tell_97 : decode cX7_tell 97 = .ok (.iload_n 3, 1) := by decide +kernel
theorem dX7_tell_98 : decode cX7_tell 98 = .ok (.iload 7, 2) := by decide +kernel
theorem dX7_tell_100 : decode cX7_tell 100 = .ok (.invokestatic 72, 3) := by decide +kernel
theorem dX7_tell_103 : decode cX7_tell 103 = .ok (.iconst 0, 1) := by decide +kernel
theorem dX7_tell_104 : decode cX7_tell 104 = .ok (.iastore, 1) := by decide +kernel
theorem dX7_tell_105 : decode cX7_tell 105 = .ok (.iinc 7 1, 3) := by decide +kernel
theorem dX7_tell_108 : decode cX7_tell 108 = .ok (.goto (-24), 3) := by decide +kernel
theorem dX7_tell_111 : decode cX7_tell 111 = .ok (.aload_n 0, 1) := by decide +kernel
theorem dX7_tell_112 : decode cX7_tell 112 = .ok (.getfield 7, 3) := by decide +kernel
theorem dX7_tell_115 : decode cX7_tell 115 = .ok (.iload_n 1, 1) := by decide +kernel
theorem dX7_tell_116 : decode cX7_tell 116 = .ok (.dup2, 1) := by decide +kernel
theorem dX7_tell_117 : decode cX7_tell 117 = .ok (.iaload, 1) := by decide +kernel
theorem dX7_tell_118 : decode cX7_tell 118 = .ok (.iconst 1, 1) := by decide +kernel
theorem dX7_tell_119 : decode cX7_tell 119 = .ok (.iadd, 1) := by decide +kernel
theorem dX7_tell_120 : decode cX7_tell 120 = .ok (.iastore, 1) := by decide +kernel
theorem dX7_tell_121 : decode cX7_tell 121 = .ok (.iload_n 1, 1) := by decide +kernel
theorem dX7_tell_122 : decode cX7_tell 122 = .ok (.iload_n 2, 1) := by decide +kernel
theorem dX7_tell_123 : decode cX7_tell 123 = .ok (.iload_n 3, 1) := by decide +kernel
theorem dX7_tell_124 : decode cX7_tell 124 = .ok (.iload_n 1, 1) := by decide +kernel
theorem dX7_tell_125 : decode cX7_tell 125 = .ok (.invokestatic 72, 3) := by decide +kernel
theorem dX7_tell_128 : decode cX7_tell 128 = .ok (.istore 7, 2) := by decide +kernel
theorem dX7_tell_130 : decode cX7_tell 130 = .ok (.aload_n 0, 1) := by decide +kernel
theorem dX7_tell_131 : decode cX7_tell 131 = .ok (.getfield 29, 3) := by decide +kernel
theorem dX7_tell_134 : decode cX7_tell 134 = .ok (.iload 7, 2) := by decide +kernel
theorem dX7_tell_136 : decode cX7_tell 136 = .ok (.aload_n 0, 1) := by decide +kernel
theorem dX7_tell_137 : decode cX7_tell 137 = .ok (.getfield 7, 3) := by decide +kernel
theorem dX7_tell_140 : decode cX7_tell 140 = .ok (.iload_n 1, 1) := by decide +kernel
theorem dX7_tell_141 : decode cX7_tell 141 = .ok (.iaload, 1) := by decide +kernel
theorem dX7_tell_142 : decode cX7_tell 142 = .ok (.iastore, 1) := by decide +kernel
theorem dX7_tell_143 : decode cX7_tell 143 = .ok (.iload 4, 2) := by decide +kernel
theorem dX7_tell_145 : decode cX7_tell 145 = .ok (.ifCond .lt 25, 3) := by decide +kernel
theorem dX7_tell_148 : decode cX7_tell 148 = .ok (.aload_n 0, 1) := by decide +kernel
theorem dX7_tell_149 : decode cX7_tell 149 = .ok (.getfield 23, 3) := by decide +kernel
theorem dX7_tell_152 : decode cX7_tell 152 = .ok (.iload 7, 2) := by decide +kernel
theorem dX7_tell_154 : decode cX7_tell 154 = .ok (.aload_n 0, 1) := by decide +kernel
theorem dX7_tell_155 : decode cX7_tell 155 = .ok (.getfield 7, 3) := by decide +kernel
theorem dX7_tell_158 : decode cX7_tell 158 = .ok (.iload_n 1, 1) := by decide +kernel
theorem dX7_tell_159 : decode cX7_tell 159 = .ok (.iaload, 1) := by decide +kernel
theorem dX7_tell_160 : decode cX7_tell 160 = .ok (.iastore, 1) := by decide +kernel
theorem dX7_tell_161 : decode cX7_tell 161 = .ok (.aload_n 0, 1) := by decide +kernel
theorem dX7_tell_162 : decode cX7_tell 162 = .ok (.getfield 26, 3) := by decide +kernel
theorem dX7_tell_165 : decode cX7_tell 165 = .ok (.iload 7, 2) := by decide +kernel
theorem dX7_tell_167 : decode cX7_tell 167 = .ok (.iload 4, 2) := by decide +kernel
theorem dX7_tell_169 : decode cX7_tell 169 = .ok (.iastore, 1) := by decide +kernel
theorem dX7_tell_170 : decode cX7_tell 170 = .ok (.iload 6, 2) := by decide +kernel
theorem dX7_tell_172 : decode cX7_tell 172 = .ok (.ireturn, 1) := by decide +kernel
theorem dX7_isKnownMark_0 : decode cX7_isKnownMark 0 = .ok (.aload_n 0, 1) := by decide +kernel
theorem dX7_isKnownMark_1 : decode cX7_isKnownMark 1 = .ok (.getfield 44, 3) := by decide +kernel
theorem dX7_isKnownMark_4 : decode cX7_isKnownMark 4 = .ok (.bipush 6, 2) := by decide +kernel
theorem dX7_isKnownMark_6 : decode cX7_isKnownMark 6 = .ok (.iload_n 2, 1) := by decide +kernel
theorem dX7_isKnownMark_7 : decode cX7_isKnownMark 7 = .ok (.imul, 1) := by decide +kernel
theorem dX7_isKnownMark_8 : decode cX7_isKnownMark 8 = .ok (.iload_n 1, 1) := by decide +kernel
theorem dX7_isKnownMark_9 : decode cX7_isKnownMark 9 = .ok (.iadd, 1) := by decide +kernel
theorem dX7_isKnownMark_10 : decode cX7_isKnownMark 10 = .ok (.iaload, 1) := by decide +kernel
theorem dX7_isKnownMark_11 : decode cX7_isKnownMark 11 = .ok (.ifCond .le 7, 3) := by decide +kernel
theorem dX7_isKnownMark_14 : decode cX7_isKnownMark 14 = .ok (.iconst 1, 1) := by decide +kernel
theorem dX7_isKnownMark_15 : decode cX7_isKnownMark 15 = .ok (.goto 4, 3) := by decide +kernel
theorem dX7_isKnownMark_18 : decode cX7_isKnownMark 18 = .ok (.iconst 0, 1) := by decide +kernel
theorem dX7_isKnownMark_19 : decode cX7_isKnownMark 19 = .ok (.ireturn, 1) := by decide +kernel
theorem dX7_covers_0 : decode cX7_covers 0 = .ok (.iconst 1, 1) := by decide +kernel
theorem dX7_covers_1 : decode cX7_covers 1 = .ok (.istore 4, 2) := by decide +kernel
theorem dX7_covers_3 : decode cX7_covers 3 = .ok (.iconst 0, 1) := by decide +kernel
theorem dX7_covers_4 : decode cX7_covers 4 = .ok (.istore 5, 2) := by decide +kernel
theorem dX7_covers_6 : decode cX7_covers 6 = .ok (.iload 5, 2) := by decide +kernel
theorem dX7_covers_8 : decode cX7_covers 8 = .ok (.bipush 24, 2) := by decide +kernel
theorem dX7_covers_10 : decode cX7_covers 10 = .ok (.if_icmp .ge 52, 3) := by decide +kernel
theorem dX7_covers_13 : decode cX7_covers 13 = .ok (.iload 4, 2) := by decide +kernel
theorem dX7_covers_15 : decode cX7_covers 15 = .ok (.ifCond .eq 38, 3) := by decide +kernel
theorem dX7_covers_18 : decode cX7_covers 18 = .ok (.aload_n 0, 1) := by decide +kernel
theorem dX7_covers_19 : decode cX7_covers 19 = .ok (.getfield 23, 3) := by decide +kernel
theorem dX7_covers_22 : decode cX7_covers 22 = .ok (.bipush 24, 2) := by decide +kernel
theorem dX7_covers_24 : decode cX7_covers 24 = .ok (.iload_n 2, 1) := by decide +kernel
theorem dX7_covers_25 : decode cX7_covers 25 = .ok (.iload_n 3, 1) := by decide +kernel
theorem dX7_covers_26 : decode cX7_covers 26 = .ok (.invokestatic 65, 3) := by decide +kernel
theorem dX7_covers_29 : decode cX7_covers 29 = .ok (.imul, 1) := by decide +kernel
theorem dX7_covers_30 : decode cX7_covers 30 = .ok (.iload 5, 2) := by decide +kernel
theorem dX7_covers_32 : decode cX7_covers 32 = .ok (.iadd, 1) := by decide +kernel
theorem dX7_covers_33 : decode cX7_covers 33 = .ok (.iaload, 1) := by decide +kernel
theorem dX7_covers_34 : decode cX7_covers 34 = .ok (.aload_n 0, 1) := by decide +kernel
theorem dX7_covers_35 : decode cX7_covers 35 = .ok (.getfield 41, 3) := by decide +kernel
theorem dX7_covers_38 : decode cX7_covers 38 = .ok (.bipush 24, 2) := by decide +kernel
theorem dX7_covers_40 : decode cX7_covers 40 = .ok (.iload_n 1, 1) := by decide +kernel
theorem dX7_covers_41 : decode cX7_covers 41 = .ok (.imul, 1) := by decide +kernel
theorem dX7_covers_42 : decode cX7_covers 42 = .ok (.iload 5, 2) := by decide +kernel
theorem dX7_covers_44 : decode cX7_covers 44 = .ok (.iadd, 1) := by decide +kernel
theorem dX7_covers_45 : decode cX7_covers 45 = .ok (.iaload, 1) := by decide +kernel
theorem dX7_covers_46 : decode cX7_covers 46 = .ok (.if_icmp .gt 7, 3) := by decide +kernel
theorem dX7_covers_49 : decode cX7_covers 49 = .ok (.iconst 1, 1) := by decide +kernel
theorem dX7_covers_50 : decode cX7_covers 50 = .ok (.goto 4, 3) := by decide +kernel
theorem dX7_covers_53 : decode cX7_covers 53 = .ok (.iconst 0, 1) := by decide +kernel
theorem dX7_covers_54 : decode cX7_covers 54 = .ok (.istore 4, 2) := by decide +kernel
theorem dX7_covers_56 : decode cX7_covers 56 = .ok (.iinc 5 1, 3) := by decide +kernel
theorem dX7_covers_59 : decode cX7_covers 59 = .ok (.goto (-53), 3) := by decide +kernel
theorem dX7_covers_62 : decode cX7_covers 62 = .ok (.iload 4, 2) := by decide +kernel
theorem dX7_covers_64 : decode cX7_covers 64 = .ok (.ireturn, 1) := by decide +kernel
theorem dX7_isCovered_0 : decode cX7_isCovered 0 = .ok (.iconst 0, 1) := by decide +kernel
theorem dX7_isCovered_1 : decode cX7_isCovered 1 = .ok (.istore_n 3, 1) := by decide +kernel
theorem dX7_isCovered_2 : decode cX7_isCovered 2 = .ok (.iconst 0, 1) := by decide +kernel
theorem dX7_isCovered_3 : decode cX7_isCovered 3 = .ok (.istore 4, 2) := by decide +kernel
theorem dX7_isCovered_5 : decode cX7_isCovered 5 = .ok (.iload 4, 2) := by decide +kernel
theorem dX7_isCovered_7 : decode cX7_isCovered 7 = .ok (.aload_n 0, 1) := by decide +kernel
theorem dX7_isCovered_8 : decode cX7_isCovered 8 = .ok (.getfield 90, 3) := by decide +kernel
theorem dX7_isCovered_11 : decode cX7_isCovered 11 = .ok (.if_icmp .ge 51, 3) := by decide +kernel
theorem dX7_isCovered_14 : decode cX7_isCovered 14 = .ok (.iload_n 3, 1) := by decide +kernel
theorem dX7_isCovered_15 : decode cX7_isCovered 15 = .ok (.ifCond .ne 35, 3) := by decide +kernel
theorem dX7_isCovered_18 : decode cX7_isCovered 18 = .ok (.aload_n 0, 1) := by decide +kernel
theorem dX7_isCovered_19 : decode cX7_isCovered 19 = .ok (.getfield 38, 3) := by decide +kernel
theorem dX7_isCovered_22 : decode cX7_isCovered 22 = .ok (.iload 4, 2) := by decide +kernel
theorem dX7_isCovered_24 : decode cX7_isCovered 24 = .ok (.iaload, 1) := by decide +kernel
theorem dX7_isCovered_25 : decode cX7_isCovered 25 = .ok (.iload_n 2, 1) := by decide +kernel
theorem dX7_isCovered_26 : decode cX7_isCovered 26 = .ok (.if_icmp .ne 28, 3) := by decide +kernel
theorem dX7_isCovered_29 : decode cX7_isCovered 29 = .ok (.aload_n 0, 1) := by decide +kernel
theorem dX7_isCovered_30 : decode cX7_isCovered 30 = .ok (.iload_n 1, 1) := by decide +kernel
theorem dX7_isCovered_31 : decode cX7_isCovered 31 = .ok (.iload 4, 2) := by decide +kernel
theorem dX7_isCovered_33 : decode cX7_isCovered 33 = .ok (.invokevirtual 93, 3) := by decide +kernel
theorem dX7_isCovered_36 : decode cX7_isCovered 36 = .ok (.ifCond .eq 18, 3) := by decide +kernel
theorem dX7_isCovered_39 : decode cX7_isCovered 39 = .ok (.aload_n 0, 1) := by decide +kernel
theorem dX7_isCovered_40 : decode cX7_isCovered 40 = .ok (.iload 4, 2) := by decide +kernel
theorem dX7_isCovered_42 : decode cX7_isCovered 42 = .ok (.iload_n 1, 1) := by decide +kernel
theorem dX7_isCovered_43 : decode cX7_isCovered 43 = .ok (.iload_n 2, 1) := by decide +kernel
theorem dX7_isCovered_44 : decode cX7_isCovered 44 = .ok (.invokevirtual 96, 3) := by decide +kernel
theorem dX7_isCovered_47 : decode cX7_isCovered 47 = .ok (.ifCond .eq 7, 3) := by decide +kernel
theorem dX7_isCovered_50 : decode cX7_isCovered 50 = .ok (.iconst 1, 1) := by decide +kernel
theorem dX7_isCovered_51 : decode cX7_isCovered 51 = .ok (.goto 4, 3) := by decide +kernel
theorem dX7_isCovered_54 : decode cX7_isCovered 54 = .ok (.iconst 0, 1) := by decide +kernel
theorem dX7_isCovered_55 : decode cX7_isCovered 55 = .ok (.istore_n 3, 1) := by decide +kernel
theorem dX7_isCovered_56 : decode cX7_isCovered 56 = .ok (.iinc 4 1, 3) := by decide +kernel
theorem dX7_isCovered_59 : decode cX7_isCovered 59 = .ok (.goto (-54), 3) := by decide +kernel
theorem dX7_isCovered_62 : decode cX7_isCovered 62 = .ok (.iload_n 3, 1) := by decide +kernel
theorem dX7_isCovered_63 : decode cX7_isCovered 63 = .ok (.ireturn, 1) := by decide +kernel
theorem dX7_isThere_0 : decode cX7_isThere 0 = .ok (.aload_n 0, 1) := by decide +kernel
theorem dX7_isThere_1 : decode cX7_isThere 1 = .ok (.getfield 19, 3) := by decide +kernel
theorem dX7_isThere_4 : decode cX7_isThere 4 = .ok (.iload_n 1, 1) := by decide +kernel
theorem dX7_isThere_5 : decode cX7_isThere 5 = .ok (.iload_n 2, 1) := by decide +kernel
theorem dX7_isThere_6 : decode cX7_isThere 6 = .ok (.invokestatic 65, 3) := by decide +kernel
theorem dX7_isThere_9 : decode cX7_isThere 9 = .ok (.baload, 1) := by decide +kernel
theorem dX7_isThere_10 : decode cX7_isThere 10 = .ok (.ifCond .eq 25, 3) := by decide +kernel
theorem dX7_isThere_13 : decode cX7_isThere 13 = .ok (.aload_n 0, 1) := by decide +kernel
theorem dX7_isThere_14 : decode cX7_isThere 14 = .ok (.iload_n 1, 1) := by decide +kernel
theorem dX7_isThere_15 : decode cX7_isThere 15 = .ok (.iload_n 2, 1) := by decide +kernel
theorem dX7_isThere_16 : decode cX7_isThere 16 = .ok (.invokevirtual 99, 3) := by decide +kernel
theorem dX7_isThere_19 : decode cX7_isThere 19 = .ok (.ifCond .le 16, 3) := by decide +kernel
theorem dX7_isThere_22 : decode cX7_isThere 22 = .ok (.aload_n 0, 1) := by decide +kernel
theorem dX7_isThere_23 : decode cX7_isThere 23 = .ok (.iload_n 1, 1) := by decide +kernel
theorem dX7_isThere_24 : decode cX7_isThere 24 = .ok (.iload_n 2, 1) := by decide +kernel
theorem dX7_isThere_25 : decode cX7_isThere 25 = .ok (.invokevirtual 102, 3) := by decide +kernel
theorem dX7_isThere_28 : decode cX7_isThere 28 = .ok (.ifCond .ne 7, 3) := by decide +kernel
theorem dX7_isThere_31 : decode cX7_isThere 31 = .ok (.iconst 1, 1) := by decide +kernel
theorem dX7_isThere_32 : decode cX7_isThere 32 = .ok (.goto 4, 3) := by decide +kernel
theorem dX7_isThere_35 : decode cX7_isThere 35 = .ok (.iconst 0, 1) := by decide +kernel
theorem dX7_isThere_36 : decode cX7_isThere 36 = .ok (.ireturn, 1) := by decide +kernel
theorem dX7_delete_0 : decode cX7_delete 0 = .ok (.aload_n 0, 1) := by decide +kernel
theorem dX7_delete_1 : decode cX7_delete 1 = .ok (.iload_n 1, 1) := by decide +kernel
theorem dX7_delete_2 : decode cX7_delete 2 = .ok (.iload_n 2, 1) := by decide +kernel
theorem dX7_delete_3 : decode cX7_delete 3 = .ok (.invokevirtual 80, 3) := by decide +kernel
theorem dX7_delete_6 : decode cX7_delete 6 = .ok (.istore_n 3, 1) := by decide +kernel
theorem dX7_delete_7 : decode cX7_delete 7 = .ok (.aload_n 0, 1) := by decide +kernel
theorem dX7_delete_8 : decode cX7_delete 8 = .ok (.iload_n 3, 1) := by decide +kernel
theorem dX7_delete_9 : decode cX7_delete 9 = .ok (.ifCond .ne 7, 3) := by decide +kernel
theorem dX7_delete_12 : decode cX7_delete 12 = .ok (.iconst 1, 1) := by decide +kernel
theorem dX7_delete_13 : decode cX7_delete 13 = .ok (.goto 29, 3) := by decide +kernel
theorem dX7_delete_16 : decode cX7_delete 16 = .ok (.aload_n 0, 1) := by decide +kernel
theorem dX7_delete_17 : decode cX7_delete 17 = .ok (.getfield 13, 3) := by decide +kernel
theorem dX7_delete_20 : decode cX7_delete 20 = .ok (.iload_n 2, 1) := by decide +kernel
theorem dX7_delete_21 : decode cX7_delete 21 = .ok (.iaload, 1) := by decide +kernel
theorem dX7_delete_22 : decode cX7_delete 22 = .ok (.iload_n 1, 1) := by decide +kernel
theorem dX7_delete_23 : decode cX7_delete 23 = .ok (.iconst 2, 1) := by decide +kernel
theorem dX7_delete_24 : decode cX7_delete 24 = .ok (.idiv, 1) := by decide +kernel
theorem dX7_delete_25 : decode cX7_delete 25 = .ok (.if_icmp .ne 16, 3) := by decide +kernel
theorem dX7_delete_28 : decode cX7_delete 28 = .ok (.aload_n 0, 1) := by decide +kernel
theorem dX7_delete_29 : decode cX7_delete 29 = .ok (.iload_n 1, 1) := by decide +kernel
theorem dX7_delete_30 : decode cX7_delete 30 = .ok (.iload_n 2, 1) := by decide +kernel
theorem dX7_delete_31 : decode cX7_delete 31 = .ok (.invokevirtual 105, 3) := by decide +kernel
theorem dX7_delete_34 : decode cX7_delete 34 = .ok (.ifCond .eq 7, 3) := by decide +kernel
theorem dX7_delete_37 : decode cX7_delete 37 = .ok (.iconst 0, 1) := by decide +kernel
theorem dX7_delete_38 : decode cX7_delete 38 = .ok (.goto 4, 3) := by decide +kernel
theorem dX7_delete_41 : decode cX7_delete 41 = .ok (.iconst 2, 1) := by decide +kernel
theorem dX7_delete_42 : decode cX7_delete 42 = .ok (.invokevirtual 69, 3) := by decide +kernel
theorem dX7_delete_45 : decode cX7_delete 45 = .ok (.ifCond .eq 5, 3) := by decide +kernel
theorem dX7_delete_48 : decode cX7_delete 48 = .ok (.iconst 0, 1) := by decide +kernel
theorem dX7_delete_49 : decode cX7_delete 49 = .ok (.ireturn, 1) := by decide +kernel
theorem dX7_delete_50 : decode cX7_delete 50 = .ok (.aload_n 0, 1) := by decide +kernel
theorem dX7_delete_51 : decode cX7_delete 51 = .ok (.getfield 7, 3) := by decide +kernel
theorem dX7_delete_54 : decode cX7_delete 54 = .ok (.iload_n 1, 1) := by decide +kernel
theorem dX7_delete_55 : decode cX7_delete 55 = .ok (.dup2, 1) := by decide +kernel
theorem dX7_delete_56 : decode cX7_delete 56 = .ok (.iaload, 1) := by decide +kernel
theorem dX7_delete_57 : decode cX7_delete 57 = .ok (.iconst 1, 1) := by decide +kernel
theorem dX7_delete_58 : decode cX7_delete 58 = .ok (.iadd, 1) := by decide +kernel
theorem dX7_delete_59 : decode cX7_delete 59 = .ok (.iastore, 1) := by decide +kernel
theorem dX7_delete_60 : decode cX7_delete 60 = .ok (.aload_n 0, 1) := by decide +kernel
theorem dX7_delete_61 : decode cX7_delete 61 = .ok (.getfield 38, 3) := by decide +kernel
theorem dX7_delete_64 : decode cX7_delete 64 = .ok (.aload_n 0, 1) := by decide +kernel
theorem dX7_delete_65 : decode cX7_delete 65 = .ok (.getfield 90, 3) := by decide +kernel
theorem dX7_delete_68 : decode cX7_delete 68 = .ok (.iload_n 2, 1) := by decide +kernel
theorem dX7_delete_69 : decode cX7_delete 69 = .ok (.iastore, 1) := by decide +kernel
theorem dX7_delete_70 : decode cX7_delete 70 = .ok (.iconst 0, 1) := by decide +kernel
theorem dX7_delete_71 : decode cX7_delete 71 = .ok (.istore 4, 2) := by decide +kernel
theorem dX7_delete_73 : decode cX7_delete 73 = .ok (.iload 4, 2) := by decide +kernel
theorem dX7_delete_75 : decode cX7_delete 75 = .ok (.bipush 24, 2) := by decide +kernel
theorem dX7_delete_77 : decode cX7_delete 77 = .ok (.if_icmp .ge 40, 3) := by decide +kernel
theorem dX7_delete_80 : decode cX7_delete 80 = .ok (.aload_n 0, 1) := by decide +kernel
theorem dX7_delete_81 : decode cX7_delete 81 = .ok (.getfield 41, 3) := by decide +kernel
theorem dX7_delete_84 : decode cX7_delete 84 = .ok (.bipush 24, 2) := by decide +kernel
theorem dX7_delete_86 : decode cX7_delete 86 = .ok (.aload_n 0, 1) := by decide +kernel
theorem dX7_delete_87 : decode cX7_delete 87 = .ok (.getfield 90, 3) := by decide +kernel
theorem dX7_delete_90 : decode cX7_delete 90 = .ok (.imul, 1) := by decide +kernel
theorem dX7_delete_91 : decode cX7_delete 91 = .ok (.iload 4, 2) := by decide +kernel
theorem dX7_delete_93 : decode cX7_delete 93 = .ok (.iadd, 1) := by decide +kernel
theorem dX7_delete_94 : decode cX7_delete 94 = .ok (.aload_n 0, 1) := by decide +kernel
theorem dX7_delete_95 : decode cX7_delete 95 = .ok (.getfield 29, 3) := by decide +kernel
theorem dX7_delete_98 : decode cX7_delete 98 = .ok (.bipush 24, 2) := by decide +kernel
theorem dX7_delete_100 : decode cX7_delete 100 = .ok (.iload_n 1, 1) := by decide +kernel
theorem dX7_delete_101 : decode cX7_delete 101 = .ok (.iload_n 2, 1) := by decide +kernel
theorem dX7_delete_102 : decode cX7_delete 102 = .ok (.invokestatic 65, 3) := by decide +kernel
theorem dX7_delete_105 : decode cX7_delete 105 = .ok (.imul, 1) := by decide +kernel
theorem dX7_delete_106 : decode cX7_delete 106 = .ok (.iload 4, 2) := by decide +kernel
theorem dX7_delete_108 : decode cX7_delete 108 = .ok (.iadd, 1) := by decide +kernel
theorem dX7_delete_109 : decode cX7_delete 109 = .ok (.iaload, 1) := by decide +kernel
theorem dX7_delete_110 : decode cX7_delete 110 = .ok (.iastore, 1) := by decide +kernel
theorem dX7_delete_111 : decode cX7_delete 111 = .ok (.iinc 4 1, 3) := by decide +kernel
theorem dX7_delete_114 : decode cX7_delete 114 = .ok (.goto (-41), 3) := by decide +kernel
theorem dX7_delete_117 : decode cX7_delete 117 = .ok (.aload_n 0, 1) := by decide +kernel
theorem dX7_delete_118 : decode cX7_delete 118 = .ok (.getfield 44, 3) := by decide +kernel
theorem dX7_delete_121 : decode cX7_delete 121 = .ok (.bipush 6, 2) := by decide +kernel
theorem dX7_delete_123 : decode cX7_delete 123 = .ok (.aload_n 0, 1) := by decide +kernel
theorem dX7_delete_124 : decode cX7_delete 124 = .ok (.getfield 90, 3) := by decide +kernel
theorem dX7_delete_127 : decode cX7_delete 127 = .ok (.imul, 1) := by decide +kernel
theorem dX7_delete_128 : decode cX7_delete 128 = .ok (.iload_n 1, 1) := by decide +kernel
theorem dX7_delete_129 : decode cX7_delete 129 = .ok (.iadd, 1) := by decide +kernel
theorem dX7_delete_130 : decode cX7_delete 130 = .ok (.aload_n 0, 1) := by decide +kernel
theorem dX7_delete_131 : decode cX7_delete 131 = .ok (.getfield 108, 3) := by decide +kernel
theorem dX7_delete_134 : decode cX7_delete 134 = .ok (.iconst 1, 1) := by decide +kernel
theorem dX7_delete_135 : decode cX7_delete 135 = .ok (.iadd, 1) := by decide +kernel
theorem dX7_delete_136 : decode cX7_delete 136 = .ok (.iastore, 1) := by decide +kernel
theorem dX7_delete_137 : decode cX7_delete 137 = .ok (.aload_n 0, 1) := by decide +kernel
theorem dX7_delete_138 : decode cX7_delete 138 = .ok (.dup, 1) := by decide +kernel
theorem dX7_delete_139 : decode cX7_delete 139 = .ok (.getfield 90, 3) := by decide +kernel
theorem dX7_delete_142 : decode cX7_delete 142 = .ok (.iconst 1, 1) := by decide +kernel
theorem dX7_delete_143 : decode cX7_delete 143 = .ok (.iadd, 1) := by decide +kernel
theorem dX7_delete_144 : decode cX7_delete 144 = .ok (.putfield 90, 3) := by decide +kernel
theorem dX7_delete_147 : decode cX7_delete 147 = .ok (.aload_n 0, 1) := by decide +kernel
theorem dX7_delete_148 : decode cX7_delete 148 = .ok (.iload_n 1, 1) := by decide +kernel
theorem dX7_delete_149 : decode cX7_delete 149 = .ok (.iload_n 2, 1) := by decide +kernel
theorem dX7_delete_150 : decode cX7_delete 150 = .ok (.invokevirtual 99, 3) := by decide +kernel
theorem dX7_delete_153 : decode cX7_delete 153 = .ok (.ireturn, 1) := by decide +kernel
theorem dX7_share_0 : decode cX7_share 0 = .ok (.aload_n 0, 1) := by decide +kernel
theorem dX7_share_1 : decode cX7_share 1 = .ok (.iload_n 1, 1) := by decide +kernel
theorem dX7_share_2 : decode cX7_share 2 = .ok (.iload_n 2, 1) := by decide +kernel
theorem dX7_share_3 : decode cX7_share 3 = .ok (.invokevirtual 80, 3) := by decide +kernel
theorem dX7_share_6 : decode cX7_share 6 = .ok (.ifCond .eq 16, 3) := by decide +kernel
theorem dX7_share_9 : decode cX7_share 9 = .ok (.iload_n 3, 1) := by decide +kernel
theorem dX7_share_10 : decode cX7_share 10 = .ok (.iconst 0, 1) := by decide +kernel
theorem dX7_share_11 : decode cX7_share 11 = .ok (.iconst 2, 1) := by decide +kernel
theorem dX7_share_12 : decode cX7_share 12 = .ok (.invokestatic 51, 3) := by decide +kernel
theorem dX7_share_15 : decode cX7_share 15 = .ok (.ifCond .eq 7, 3) := by decide +kernel
theorem dX7_share_18 : decode cX7_share 18 = .ok (.iconst 1, 1) := by decide +kernel
theorem dX7_share_19 : decode cX7_share 19 = .ok (.goto 4, 3) := by decide +kernel
theorem dX7_share_22 : decode cX7_share 22 = .ok (.iconst 0, 1) := by decide +kernel
theorem dX7_share_23 : decode cX7_share 23 = .ok (.istore 5, 2) := by decide +kernel
theorem dX7_share_25 : decode cX7_share 25 = .ok (.iload 4, 2) := by decide +kernel
theorem dX7_share_27 : decode cX7_share 27 = .ok (.iconst 0, 1) := by decide +kernel
theorem dX7_share_28 : decode cX7_share 28 = .ok (.bipush 15, 2) := by decide +kernel
theorem dX7_share_30 : decode cX7_share 30 = .ok (.invokestatic 51, 3) := by decide +kernel
theorem dX7_share_33 : decode cX7_share 33 = .ok (.istore 6, 2) := by decide +kernel
theorem dX7_share_35 : decode cX7_share 35 = .ok (.aload_n 0, 1) := by decide +kernel
theorem dX7_share_36 : decode cX7_share 36 = .ok (.iload 5, 2) := by decide +kernel
theorem dX7_share_38 : decode cX7_share 38 = .ok (.ifCond .ne 7, 3) := by decide +kernel
theorem dX7_share_41 : decode cX7_share 41 = .ok (.iconst 1, 1) := by decide +kernel
theorem dX7_share_42 : decode cX7_share 42 = .ok (.goto 39, 3) := by decide +kernel
theorem dX7_share_45 : decode cX7_share 45 = .ok (.iload 6, 2) := by decide +kernel
theorem dX7_share_47 : decode cX7_share 47 = .ok (.ifCond .ne 7, 3) := by decide +kernel
theorem dX7_share_50 : decode cX7_share 50 = .ok (.iconst 2, 1) := by decide +kernel
theorem dX7_share_51 : decode cX7_share 51 = .ok (.goto 30, 3) := by decide +kernel
theorem dX7_share_54 : decode cX7_share 54 = .ok (.aload_n 0, 1) := by decide +kernel
theorem dX7_share_55 : decode cX7_share 55 = .ok (.getfield 13, 3) := by decide +kernel
theorem dX7_share_58 : decode cX7_share 58 = .ok (.iload_n 2, 1) := by decide +kernel
theorem dX7_share_59 : decode cX7_share 59 = .ok (.iaload, 1) := by decide +kernel
theorem dX7_share_60 : decode cX7_share 60 = .ok (.iload_n 1, 1) := by decide +kernel
theorem dX7_share_61 : decode cX7_share 61 = .ok (.iconst 2, 1) := by decide +kernel
theorem dX7_share_62 : decode cX7_share 62 = .ok (.idiv, 1) := by decide +kernel
theorem dX7_share_63 : decode cX7_share 63 = .ok (.if_icmp .ne 13, 3) := by decide +kernel
theorem dX7_share_66 : decode cX7_share 66 = .ok (.iload_n 3, 1) := by decide +kernel
theorem dX7_share_67 : decode cX7_share 67 = .ok (.aload_n 0, 1) := by decide +kernel
theorem dX7_share_68 : decode cX7_share 68 = .ok (.getfield 13, 3) := by decide +kernel
theorem dX7_share_71 : decode cX7_share 71 = .ok (.iload_n 2, 1) := by decide +kernel
theorem dX7_share_72 : decode cX7_share 72 = .ok (.iaload, 1) := by decide +kernel
theorem dX7_share_73 : decode cX7_share 73 = .ok (.if_icmp .ne 7, 3) := by decide +kernel
theorem dX7_share_76 : decode cX7_share 76 = .ok (.iconst 3, 1) := by decide +kernel
theorem dX7_share_77 : decode cX7_share 77 = .ok (.goto 4, 3) := by decide +kernel
theorem dX7_share_80 : decode cX7_share 80 = .ok (.iconst 0, 1) := by decide +kernel
theorem dX7_share_81 : decode cX7_share 81 = .ok (.invokevirtual 69, 3) := by decide +kernel
theorem dX7_share_84 : decode cX7_share 84 = .ok (.ifCond .eq 5, 3) := by decide +kernel
theorem dX7_share_87 : decode cX7_share 87 = .ok (.iconst 0, 1) := by decide +kernel
theorem dX7_share_88 : decode cX7_share 88 = .ok (.ireturn, 1) := by decide +kernel
theorem dX7_share_89 : decode cX7_share 89 = .ok (.aload_n 0, 1) := by decide +kernel
theorem dX7_share_90 : decode cX7_share 90 = .ok (.getfield 16, 3) := by decide +kernel
theorem dX7_share_93 : decode cX7_share 93 = .ok (.iconst 3, 1) := by decide +kernel
theorem dX7_share_94 : decode cX7_share 94 = .ok (.iload_n 2, 1) := by decide +kernel
theorem dX7_share_95 : decode cX7_share 95 = .ok (.imul, 1) := by decide +kernel
theorem dX7_share_96 : decode cX7_share 96 = .ok (.iload_n 3, 1) := by decide +kernel
theorem dX7_share_97 : decode cX7_share 97 = .ok (.iadd, 1) := by decide +kernel
theorem dX7_share_98 : decode cX7_share 98 = .ok (.iaload, 1) := by decide +kernel
theorem dX7_share_99 : decode cX7_share 99 = .ok (.istore 7, 2) := by decide +kernel
theorem dX7_share_101 : decode cX7_share 101 = .ok (.aload_n 0, 1) := by decide +kernel
theorem dX7_share_102 : decode cX7_share 102 = .ok (.getfield 16, 3) := by decide +kernel
theorem dX7_share_105 : decode cX7_share 105 = .ok (.iconst 3, 1) := by decide +kernel
theorem dX7_share_106 : decode cX7_share 106 = .ok (.iload_n 2, 1) := by decide +kernel
theorem dX7_share_107 : decode cX7_share 107 = .ok (.imul, 1) := by decide +kernel
theorem dX7_share_108 : decode cX7_share 108 = .ok (.iload_n 3, 1) := by decide +kernel
theorem dX7_share_109 : decode cX7_share 109 = .ok (.iadd, 1) := by decide +kernel
theorem dX7_share_110 : decode cX7_share 110 = .ok (.iload 4, 2) := by decide +kernel
theorem dX7_share_112 : decode cX7_share 112 = .ok (.iastore, 1) := by decide +kernel
theorem dX7_share_113 : decode cX7_share 113 = .ok (.iconst 2, 1) := by decide +kernel
theorem dX7_share_114 : decode cX7_share 114 = .ok (.iload_n 3, 1) := by decide +kernel
theorem dX7_share_115 : decode cX7_share 115 = .ok (.imul, 1) := by decide +kernel
theorem dX7_share_116 : decode cX7_share 116 = .ok (.istore 8, 2) := by decide +kernel
theorem dX7_share_118 : decode cX7_share 118 = .ok (.iload 8, 2) := by decide +kernel
theorem dX7_share_120 : decode cX7_share 120 = .ok (.iconst 2, 1) := by decide +kernel
theorem dX7_share_121 : decode cX7_share 121 = .ok (.iload_n 3, 1) := by decide +kernel
theorem dX7_share_122 : decode cX7_share 122 = .ok (.imul, 1) := by decide +kernel
theorem dX7_share_123 : decode cX7_share 123 = .ok (.iconst 2, 1) := by decide +kernel
theorem dX7_share_124 : decode cX7_share 124 = .ok (.iadd, 1) := by decide +kernel
theorem dX7_share_125 : decode cX7_share 125 = .ok (.if_icmp .ge 74, 3) := by decide +kernel
theorem dX7_share_128 : decode cX7_share 128 = .ok (.iconst 0, 1) := by decide +kernel
theorem dX7_share_129 : decode cX7_share 129 = .ok (.istore 9, 2) := by decide +kernel
theorem dX7_share_131 : decode cX7_share 131 = .ok (.iload 9, 2) := by decide +kernel
theorem dX7_share_133 : decode cX7_share 133 = .ok (.bipush 24, 2) := by decide +kernel
theorem dX7_share_135 : decode cX7_share 135 = .ok (.if_icmp .ge 58, 3) := by decide +kernel
theorem dX7_share_138 : decode cX7_share 138 = .ok (.iload 4, 2) := by decide +kernel
theorem dX7_share_140 : decode cX7_share 140 = .ok (.iload 9, 2) := by decide +kernel
theorem dX7_share_142 : decode cX7_share 142 = .ok (.bipush 6, 2) := by decide +kernel
theorem dX7_share_144 : decode cX7_share 144 = .ok (.idiv, 1) := by decide +kernel
theorem dX7_share_145 : decode cX7_share 145 = .ok (.ishr, 1) := by decide +kernel
theorem dX7_share_146 : decode cX7_share 146 = .ok (.iconst 1, 1) := by decide +kernel
theorem dX7_share_147 : decode cX7_share 147 = .ok (.iand, 1) := by decide +kernel
theorem dX7_share_148 : decode cX7_share 148 = .ok (.ifCond .ne 39, 3) := by decide +kernel
theorem dX7_share_151 : decode cX7_share 151 = .ok (.aload_n 0, 1) := by decide +kernel
theorem dX7_share_152 : decode cX7_share 152 = .ok (.getfield 23, 3) := by decide +kernel
theorem dX7_share_155 : decode cX7_share 155 = .ok (.bipush 24, 2) := by decide +kernel
theorem dX7_share_157 : decode cX7_share 157 = .ok (.iload 8, 2) := by decide +kernel
theorem dX7_share_159 : decode cX7_share 159 = .ok (.iload_n 2, 1) := by decide +kernel
theorem dX7_share_160 : decode cX7_share 160 = .ok (.invokestatic 65, 3) := by decide +kernel
theorem dX7_share_163 : decode cX7_share 163 = .ok (.imul, 1) := by decide +kernel
theorem dX7_share_164 : decode cX7_share 164 = .ok (.iload 9, 2) := by decide +kernel
theorem dX7_share_166 : decode cX7_share 166 = .ok (.iadd, 1) := by decide +kernel
theorem dX7_share_167 : decode cX7_share 167 = .ok (.iconst 0, 1) := by decide +kernel
theorem dX7_share_168 : decode cX7_share 168 = .ok (.iastore, 1) := by decide +kernel
theorem dX7_share_169 : decode cX7_share 169 = .ok (.aload_n 0, 1) := by decide +kernel
theorem dX7_share_170 : decode cX7_share 170 = .ok (.getfield 29, 3) := by decide +kernel
theorem dX7_share_173 : decode cX7_share 173 = .ok (.bipush 24, 2) := by decide +kernel
theorem dX7_share_175 : decode cX7_share 175 = .ok (.iload 8, 2) := by decide +kernel
theorem dX7_share_177 : decode cX7_share 177 = .ok (.iload_n 2, 1) := by decide +kernel
theorem dX7_share_178 : decode cX7_share 178 = .ok (.invokestatic 65, 3) := by decide +kernel
theorem dX7_share_181 : decode cX7_share 181 = .ok (.imul, 1) := by decide +kernel
theorem dX7_share_182 : decode cX7_share 182 = .ok (.iload 9, 2) := by decide +kernel
theorem dX7_share_184 : decode cX7_share 184 = .ok (.iadd, 1) := by decide +kernel
theorem dX7_share_185 : decode cX7_share 185 = .ok (.iconst 0, 1) := by decide +kernel
theorem dX7_share_186 : decode cX7_share 186 = .ok (.iastore, 1) := by decide +kernel
theorem dX7_share_187 : decode cX7_share 187 = .ok (.iinc 9 1, 3) := by decide +kernel
theorem dX7_share_190 : decode cX7_share 190 = .ok (.goto (-59), 3) := by decide +kernel
theorem dX7_share_193 : decode cX7_share 193 = .ok (.iinc 8 1, 3) := by decide +kernel
theorem dX7_share_196 : decode cX7_share 196 = .ok (.goto (-78), 3) := by decide +kernel
theorem dX7_share_199 : decode cX7_share 199 = .ok (.iload 7, 2) := by decide +kernel
theorem dX7_share_201 : decode cX7_share 201 = .ok (.ireturn, 1) := by decide +kernel
theorem dX7_greater_0 : decode cX7_greater 0 = .ok (.iload_n 0, 1) := by decide +kernel
theorem dX7_greater_1 : decode cX7_greater 1 = .ok (.iload_n 1, 1) := by decide +kernel
theorem dX7_greater_2 : decode cX7_greater 2 = .ok (.if_icmp .le 7, 3) := by decide +kernel
theorem dX7_greater_5 : decode cX7_greater 5 = .ok (.iload_n 0, 1) := by decide +kernel
theorem dX7_greater_6 : decode cX7_greater 6 = .ok (.goto 4, 3) := by decide +kernel
theorem dX7_greater_9 : decode cX7_greater 9 = .ok (.iload_n 1, 1) := by decide +kernel
theorem dX7_greater_10 : decode cX7_greater 10 = .ok (.ireturn, 1) := by decide +kernel
theorem dX7_forgets_0 : decode cX7_forgets 0 = .ok (.bipush 24, 2) := by decide +kernel
theorem dX7_forgets_2 : decode cX7_forgets 2 = .ok (.iload_n 1, 1) := by decide +kernel
theorem dX7_forgets_3 : decode cX7_forgets 3 = .ok (.iload_n 2, 1) := by decide +kernel
theorem dX7_forgets_4 : decode cX7_forgets 4 = .ok (.invokestatic 65, 3) := by decide +kernel
theorem dX7_forgets_7 : decode cX7_forgets 7 = .ok (.imul, 1) := by decide +kernel
theorem dX7_forgets_8 : decode cX7_forgets 8 = .ok (.istore_n 3, 1) := by decide +kernel
theorem dX7_forgets_9 : decode cX7_forgets 9 = .ok (.iconst 0, 1) := by decide +kernel
theorem dX7_forgets_10 : decode cX7_forgets 10 = .ok (.istore 4, 2) := by decide +kernel
theorem dX7_forgets_12 : decode cX7_forgets 12 = .ok (.iload 4, 2) := by decide +kernel
theorem dX7_forgets_14 : decode cX7_forgets 14 = .ok (.bipush 24, 2) := by decide +kernel
theorem dX7_forgets_16 : decode cX7_forgets 16 = .ok (.if_icmp .ge 59, 3) := by decide +kernel
theorem dX7_forgets_19 : decode cX7_forgets 19 = .ok (.aload_n 0, 1) := by decide +kernel
theorem dX7_forgets_20 : decode cX7_forgets 20 = .ok (.getfield 35, 3) := by decide +kernel
theorem dX7_forgets_23 : decode cX7_forgets 23 = .ok (.iload_n 3, 1) := by decide +kernel
theorem dX7_forgets_24 : decode cX7_forgets 24 = .ok (.iload 4, 2) := by decide +kernel
theorem dX7_forgets_26 : decode cX7_forgets 26 = .ok (.iadd, 1) := by decide +kernel
theorem dX7_forgets_27 : decode cX7_forgets 27 = .ok (.aload_n 0, 1) := by decide +kernel
theorem dX7_forgets_28 : decode cX7_forgets 28 = .ok (.getfield 35, 3) := by decide +kernel
theorem dX7_forgets_31 : decode cX7_forgets 31 = .ok (.iload_n 3, 1) := by decide +kernel
theorem dX7_forgets_32 : decode cX7_forgets 32 = .ok (.iload 4, 2) := by decide +kernel
theorem dX7_forgets_34 : decode cX7_forgets 34 = .ok (.iadd, 1) := by decide +kernel
theorem dX7_forgets_35 : decode cX7_forgets 35 = .ok (.iaload, 1) := by decide +kernel
theorem dX7_forgets_36 : decode cX7_forgets 36 = .ok (.aload_n 0, 1) := by decide +kernel
theorem dX7_forgets_37 : decode cX7_forgets 37 = .ok (.getfield 29, 3) := by decide +kernel
theorem dX7_forgets_40 : decode cX7_forgets 40 = .ok (.iload_n 3, 1) := by decide +kernel
theorem dX7_forgets_41 : decode cX7_forgets 41 = .ok (.iload 4, 2) := by decide +kernel
theorem dX7_forgets_43 : decode cX7_forgets 43 = .ok (.iadd, 1) := by decide +kernel
theorem dX7_forgets_44 : decode cX7_forgets 44 = .ok (.iaload, 1) := by decide +kernel
theorem dX7_forgets_45 : decode cX7_forgets 45 = .ok (.invokestatic 111, 3) := by decide +kernel
theorem dX7_forgets_48 : decode cX7_forgets 48 = .ok (.iastore, 1) := by decide +kernel
theorem dX7_forgets_49 : decode cX7_forgets 49 = .ok (.aload_n 0, 1) := by decide +kernel
theorem dX7_forgets_50 : decode cX7_forgets 50 = .ok (.getfield 23, 3) := by decide +kernel
theorem dX7_forgets_53 : decode cX7_forgets 53 = .ok (.iload_n 3, 1) := by decide +kernel
theorem dX7_forgets_54 : decode cX7_forgets 54 = .ok (.iload 4, 2) := by decide +kernel
theorem dX7_forgets_56 : decode cX7_forgets 56 = .ok (.iadd, 1) := by decide +kernel
theorem dX7_forgets_57 : decode cX7_forgets 57 = .ok (.iconst 0, 1) := by decide +kernel
theorem dX7_forgets_58 : decode cX7_forgets 58 = .ok (.iastore, 1) := by decide +kernel
theorem dX7_forgets_59 : decode cX7_forgets 59 = .ok (.aload_n 0, 1) := by decide +kernel
theorem dX7_forgets_60 : decode cX7_forgets 60 = .ok (.getfield 29, 3) := by decide +kernel
theorem dX7_forgets_63 : decode cX7_forgets 63 = .ok (.iload_n 3, 1) := by decide +kernel
theorem dX7_forgets_64 : decode cX7_forgets 64 = .ok (.iload 4, 2) := by decide +kernel
theorem dX7_forgets_66 : decode cX7_forgets 66 = .ok (.iadd, 1) := by decide +kernel
theorem dX7_forgets_67 : decode cX7_forgets 67 = .ok (.iconst 0, 1) := by decide +kernel
theorem dX7_forgets_68 : decode cX7_forgets 68 = .ok (.iastore, 1) := by decide +kernel
theorem dX7_forgets_69 : decode cX7_forgets 69 = .ok (.iinc 4 1, 3) := by decide +kernel
theorem dX7_forgets_72 : decode cX7_forgets 72 = .ok (.goto (-60), 3) := by decide +kernel
theorem dX7_forgets_75 : decode cX7_forgets 75 = .ok (.iconst 0, 1) := by decide +kernel
theorem dX7_forgets_76 : decode cX7_forgets 76 = .ok (.istore 4, 2) := by decide +kernel
theorem dX7_forgets_78 : decode cX7_forgets 78 = .ok (.iload 4, 2) := by decide +kernel
theorem dX7_forgets_80 : decode cX7_forgets 80 = .ok (.aload_n 0, 1) := by decide +kernel
theorem dX7_forgets_81 : decode cX7_forgets 81 = .ok (.getfield 90, 3) := by decide +kernel
theorem dX7_forgets_84 : decode cX7_forgets 84 = .ok (.if_icmp .ge 93, 3) := by decide +kernel
theorem dX7_forgets_87 : decode cX7_forgets 87 = .ok (.aload_n 0, 1) := by decide +kernel
theorem dX7_forgets_88 : decode cX7_forgets 88 = .ok (.getfield 38, 3) := by decide +kernel
theorem dX7_forgets_91 : decode cX7_forgets 91 = .ok (.iload 4, 2) := by decide +kernel
theorem dX7_forgets_93 : decode cX7_forgets 93 = .ok (.iaload, 1) := by decide +kernel
theorem dX7_forgets_94 : decode cX7_forgets 94 = .ok (.iload_n 2, 1) := by decide +kernel
theorem dX7_forgets_95 : decode cX7_forgets 95 = .ok (.if_icmp .ne 76, 3) := by decide +kernel
theorem dX7_forgets_98 : decode cX7_forgets 98 = .ok (.aload_n 0, 1) := by decide +kernel
theorem dX7_forgets_99 : decode cX7_forgets 99 = .ok (.iload_n 1, 1) := by decide +kernel
theorem dX7_forgets_100 : decode cX7_forgets 100 = .ok (.iload 4, 2) := by decide +kernel
theorem dX7_forgets_102 : decode cX7_forgets 102 = .ok (.invokevirtual 93, 3) := by decide +kernel
theorem dX7_forgets_105 : decode cX7_forgets 105 = .ok (.ifCond .eq 66, 3) := by decide +kernel
theorem dX7_forgets_108 : decode cX7_forgets 108 = .ok (.iconst 0, 1) := by decide +kernel
theorem dX7_forgets_109 : decode cX7_forgets 109 = .ok (.istore 5, 2) := by decide +kernel
theorem dX7_forgets_111 : decode cX7_forgets 111 = .ok (.iload 5, 2) := by decide +kernel
theorem dX7_forgets_113 : decode cX7_forgets 113 = .ok (.bipush 24, 2) := by decide +kernel
theorem dX7_forgets_115 : decode cX7_forgets 115 = .ok (.if_icmp .ge 43, 3) := by decide +kernel
theorem dX7_forgets_118 : decode cX7_forgets 118 = .ok (.aload_n 0, 1) := by decide +kernel
theorem dX7_forgets_119 : decode cX7_forgets 119 = .ok (.getfield 35, 3) := by decide +kernel
theorem dX7_forgets_122 : decode cX7_forgets 122 = .ok (.iload_n 3, 1) := by decide +kernel
theorem dX7_forgets_123 : decode cX7_forgets 123 = .ok (.iload 5, 2) := by decide +kernel
theorem dX7_forgets_125 : decode cX7_forgets 125 = .ok (.iadd, 1) := by decide +kernel
theorem dX7_forgets_126 : decode cX7_forgets 126 = .ok (.aload_n 0, 1) := by decide +kernel
theorem dX7_forgets_127 : decode cX7_forgets 127 = .ok (.getfield 35, 3) := by decide +kernel
theorem dX7_forgets_130 : decode cX7_forgets 130 = .ok (.iload_n 3, 1) := by decide +kernel
theorem dX7_forgets_131 : decode cX7_forgets 131 = .ok (.iload 5, 2) := by decide +kernel
theorem dX7_forgets_133 : decode cX7_forgets 133 = .ok (.iadd, 1) := by decide +kernel
theorem dX7_forgets_134 : decode cX7_forgets 134 = .ok (.iaload, 1) := by decide +kernel
theorem dX7_forgets_135 : decode cX7_forgets 135 = .ok (.aload_n 0, 1) := by decide +kernel
theorem dX7_forgets_136 : decode cX7_forgets 136 = .ok (.getfield 41, 3) := by decide +kernel
theorem dX7_forgets_139 : decode cX7_forgets 139 = .ok (.bipush 24, 2) := by decide +kernel
theorem dX7_forgets_141 : decode cX7_forgets 141 = .ok (.iload 4, 2) := by decide +kernel
theorem dX7_forgets_143 : decode cX7_forgets 143 = .ok (.imul, 1) := by decide +kernel
theorem dX7_forgets_144 : decode cX7_forgets 144 = .ok (.iload 5, 2) := by decide +kernel
theorem dX7_forgets_146 : decode cX7_forgets 146 = .ok (.iadd, 1) := by decide +kernel
theorem dX7_forgets_147 : decode cX7_forgets 147 = .ok (.iaload, 1) := by decide +kernel
theorem dX7_forgets_148 : decode cX7_forgets 148 = .ok (.invokestatic 111, 3) := by decide +kernel
theorem dX7_forgets_151 : decode cX7_forgets 151 = .ok (.iastore, 1) := by decide +kernel
theorem dX7_forgets_152 : decode cX7_forgets 152 = .ok (.iinc 5 1, 3) := by decide +kernel
theorem dX7_forgets_155 : decode cX7_forgets 155 = .ok (.goto (-44), 3) := by decide +kernel
theorem dX7_forgets_158 : decode cX7_forgets 158 = .ok (.aload_n 0, 1) := by decide +kernel
theorem dX7_forgets_159 : decode cX7_forgets 159 = .ok (.getfield 44, 3) := by decide +kernel
theorem dX7_forgets_162 : decode cX7_forgets 162 = .ok (.bipush 6, 2) := by decide +kernel
theorem dX7_forgets_164 : decode cX7_forgets 164 = .ok (.iload 4, 2) := by decide +kernel
theorem dX7_forgets_166 : decode cX7_forgets 166 = .ok (.imul, 1) := by decide +kernel
theorem dX7_forgets_167 : decode cX7_forgets 167 = .ok (.iload_n 1, 1) := by decide +kernel
theorem dX7_forgets_168 : decode cX7_forgets 168 = .ok (.iadd, 1) := by decide +kernel
theorem dX7_forgets_169 : decode cX7_forgets 169 = .ok (.iconst 0, 1) := by decide +kernel
theorem dX7_forgets_170 : decode cX7_forgets 170 = .ok (.iastore, 1) := by decide +kernel
theorem dX7_forgets_171 : decode cX7_forgets 171 = .ok (.iinc 4 1, 3) := by decide +kernel
theorem dX7_forgets_174 : decode cX7_forgets 174 = .ok (.goto (-96), 3) := by decide +kernel
theorem dX7_forgets_177 : decode cX7_forgets 177 = .ok (.aload_n 0, 1) := by decide +kernel
theorem dX7_forgets_178 : decode cX7_forgets 178 = .ok (.getfield 32, 3) := by decide +kernel
theorem dX7_forgets_181 : decode cX7_forgets 181 = .ok (.iload_n 1, 1) := by decide +kernel
theorem dX7_forgets_182 : decode cX7_forgets 182 = .ok (.iload_n 2, 1) := by decide +kernel
theorem dX7_forgets_183 : decode cX7_forgets 183 = .ok (.invokestatic 65, 3) := by decide +kernel
theorem dX7_forgets_186 : decode cX7_forgets 186 = .ok (.iconst 1, 1) := by decide +kernel
theorem dX7_forgets_187 : decode cX7_forgets 187 = .ok (.bastore, 1) := by decide +kernel
theorem dX7_forgets_188 : decode cX7_forgets 188 = .ok (.aload_n 0, 1) := by decide +kernel
theorem dX7_forgets_189 : decode cX7_forgets 189 = .ok (.getfield 19, 3) := by decide +kernel
theorem dX7_forgets_192 : decode cX7_forgets 192 = .ok (.iload_n 1, 1) := by decide +kernel
theorem dX7_forgets_193 : decode cX7_forgets 193 = .ok (.iload_n 2, 1) := by decide +kernel
theorem dX7_forgets_194 : decode cX7_forgets 194 = .ok (.invokestatic 65, 3) := by decide +kernel
theorem dX7_forgets_197 : decode cX7_forgets 197 = .ok (.iconst 0, 1) := by decide +kernel
theorem dX7_forgets_198 : decode cX7_forgets 198 = .ok (.bastore, 1) := by decide +kernel
theorem dX7_forgets_199 : decode cX7_forgets 199 = .ok (.return_, 1) := by decide +kernel
theorem dX7_isOld_0 : decode cX7_isOld 0 = .ok (.aload_n 0, 1) := by decide +kernel
theorem dX7_isOld_1 : decode cX7_isOld 1 = .ok (.getfield 32, 3) := by decide +kernel
theorem dX7_isOld_4 : decode cX7_isOld 4 = .ok (.iload_n 1, 1) := by decide +kernel
theorem dX7_isOld_5 : decode cX7_isOld 5 = .ok (.iload_n 3, 1) := by decide +kernel
theorem dX7_isOld_6 : decode cX7_isOld 6 = .ok (.invokestatic 65, 3) := by decide +kernel
theorem dX7_isOld_9 : decode cX7_isOld 9 = .ok (.baload, 1) := by decide +kernel
theorem dX7_isOld_10 : decode cX7_isOld 10 = .ok (.istore 4, 2) := by decide +kernel
theorem dX7_isOld_12 : decode cX7_isOld 12 = .ok (.iconst 0, 1) := by decide +kernel
theorem dX7_isOld_13 : decode cX7_isOld 13 = .ok (.istore 5, 2) := by decide +kernel
theorem dX7_isOld_15 : decode cX7_isOld 15 = .ok (.iload 5, 2) := by decide +kernel
theorem dX7_isOld_17 : decode cX7_isOld 17 = .ok (.bipush 24, 2) := by decide +kernel
theorem dX7_isOld_19 : decode cX7_isOld 19 = .ok (.if_icmp .ge 56, 3) := by decide +kernel
theorem dX7_isOld_22 : decode cX7_isOld 22 = .ok (.iload 4, 2) := by decide +kernel
theorem dX7_isOld_24 : decode cX7_isOld 24 = .ok (.ifCond .eq 42, 3) := by decide +kernel
theorem dX7_isOld_27 : decode cX7_isOld 27 = .ok (.aload_n 0, 1) := by decide +kernel
theorem dX7_isOld_28 : decode cX7_isOld 28 = .ok (.getfield 23, 3) := by decide +kernel
theorem dX7_isOld_31 : decode cX7_isOld 31 = .ok (.bipush 24, 2) := by decide +kernel
theorem dX7_isOld_33 : decode cX7_isOld 33 = .ok (.iload_n 2, 1) := by decide +kernel
theorem dX7_isOld_34 : decode cX7_isOld 34 = .ok (.iload_n 3, 1) := by decide +kernel
theorem dX7_isOld_35 : decode cX7_isOld 35 = .ok (.invokestatic 65, 3) := by decide +kernel
theorem dX7_isOld_38 : decode cX7_isOld 38 = .ok (.imul, 1) := by decide +kernel
theorem dX7_isOld_39 : decode cX7_isOld 39 = .ok (.iload 5, 2) := by decide +kernel
theorem dX7_isOld_41 : decode cX7_isOld 41 = .ok (.iadd, 1) := by decide +kernel
theorem dX7_isOld_42 : decode cX7_isOld 42 = .ok (.iaload, 1) := by decide +kernel
theorem dX7_isOld_43 : decode cX7_isOld 43 = .ok (.aload_n 0, 1) := by decide +kernel
theorem dX7_isOld_44 : decode cX7_isOld 44 = .ok (.getfield 35, 3) := by decide +kernel
theorem dX7_isOld_47 : decode cX7_isOld 47 = .ok (.bipush 24, 2) := by decide +kernel
theorem dX7_isOld_49 : decode cX7_isOld 49 = .ok (.iload_n 1, 1) := by decide +kernel
theorem dX7_isOld_50 : decode cX7_isOld 50 = .ok (.iload_n 3, 1) := by decide +kernel
theorem dX7_isOld_51 : decode cX7_isOld 51 = .ok (.invokestatic 65, 3) := by decide +kernel
theorem dX7_isOld_54 : decode cX7_isOld 54 = .ok (.imul, 1) := by decide +kernel
theorem dX7_isOld_55 : decode cX7_isOld 55 = .ok (.iload 5, 2) := by decide +kernel
theorem dX7_isOld_57 : decode cX7_isOld 57 = .ok (.iadd, 1) := by decide +kernel
theorem dX7_isOld_58 : decode cX7_isOld 58 = .ok (.iaload, 1) := by decide +kernel
theorem dX7_isOld_59 : decode cX7_isOld 59 = .ok (.if_icmp .gt 7, 3) := by decide +kernel
theorem dX7_isOld_62 : decode cX7_isOld 62 = .ok (.iconst 1, 1) := by decide +kernel
theorem dX7_isOld_63 : decode cX7_isOld 63 = .ok (.goto 4, 3) := by decide +kernel
theorem dX7_isOld_66 : decode cX7_isOld 66 = .ok (.iconst 0, 1) := by decide +kernel
theorem dX7_isOld_67 : decode cX7_isOld 67 = .ok (.istore 4, 2) := by decide +kernel
theorem dX7_isOld_69 : decode cX7_isOld 69 = .ok (.iinc 5 1, 3) := by decide +kernel
theorem dX7_isOld_72 : decode cX7_isOld 72 = .ok (.goto (-57), 3) := by decide +kernel
theorem dX7_isOld_75 : decode cX7_isOld 75 = .ok (.iload 4, 2) := by decide +kernel
theorem dX7_isOld_77 : decode cX7_isOld 77 = .ok (.ireturn, 1) := by decide +kernel
theorem dX7_areShared_0 : decode cX7_areShared 0 = .ok (.iconst 0, 1) := by decide +kernel
theorem dX7_areShared_1 : decode cX7_areShared 1 = .ok (.istore 4, 2) := by decide +kernel
theorem dX7_areShared_3 : decode cX7_areShared 3 = .ok (.iconst 0, 1) := by decide +kernel
theorem dX7_areShared_4 : decode cX7_areShared 4 = .ok (.istore 5, 2) := by decide +kernel
theorem dX7_areShared_6 : decode cX7_areShared 6 = .ok (.iload 5, 2) := by decide +kernel
theorem dX7_areShared_8 : decode cX7_areShared 8 = .ok (.iconst 4, 1) := by decide +kernel
theorem dX7_areShared_9 : decode cX7_areShared 9 = .ok (.if_icmp .ge 43, 3) := by decide +kernel
theorem dX7_areShared_12 : decode cX7_areShared 12 = .ok (.iload 4, 2) := by decide +kernel
theorem dX7_areShared_14 : decode cX7_areShared 14 = .ok (.ifCond .ne 25, 3) := by decide +kernel
theorem dX7_areShared_17 : decode cX7_areShared 17 = .ok (.aload_n 0, 1) := by decide +kernel
theorem dX7_areShared_18 : decode cX7_areShared 18 = .ok (.iload_n 1, 1) := by decide +kernel
theorem dX7_areShared_19 : decode cX7_areShared 19 = .ok (.iload_n 3, 1) := by decide +kernel
theorem dX7_areShared_20 : decode cX7_areShared 20 = .ok (.iload 5, 2) := by decide +kernel
theorem dX7_areShared_22 : decode cX7_areShared 22 = .ok (.invokevirtual 87, 3) := by decide +kernel
theorem dX7_areShared_25 : decode cX7_areShared 25 = .ok (.ifCond .eq 18, 3) := by decide +kernel
theorem dX7_areShared_28 : decode cX7_areShared 28 = .ok (.aload_n 0, 1) := by decide +kernel
theorem dX7_areShared_29 : decode cX7_areShared 29 = .ok (.iload_n 2, 1) := by decide +kernel
theorem dX7_areShared_30 : decode cX7_areShared 30 = .ok (.iload_n 3, 1) := by decide +kernel
theorem dX7_areShared_31 : decode cX7_areShared 31 = .ok (.iload 5, 2) := by decide +kernel
theorem dX7_areShared_33 : decode cX7_areShared 33 = .ok (.invokevirtual 87, 3) := by decide +kernel
theorem dX7_areShared_36 : decode cX7_areShared 36 = .ok (.ifCond .eq 7, 3) := by decide +kernel
theorem dX7_areShared_39 : decode cX7_areShared 39 = .ok (.iconst 1, 1) := by decide +kernel
theorem dX7_areShared_40 : decode cX7_areShared 40 = .ok (.goto 4, 3) := by decide +kernel
theorem dX7_areShared_43 : decode cX7_areShared 43 = .ok (.iconst 0, 1) := by decide +kernel
theorem dX7_areShared_44 : decode cX7_areShared 44 = .ok (.istore 4, 2) := by decide +kernel
theorem dX7_areShared_46 : decode cX7_areShared 46 = .ok (.iinc 5 1, 3) := by decide +kernel
theorem dX7_areShared_49 : decode cX7_areShared 49 = .ok (.goto (-43), 3) := by decide +kernel
theorem dX7_areShared_52 : decode cX7_areShared 52 = .ok (.iload 4, 2) := by decide +kernel
theorem dX7_areShared_54 : decode cX7_areShared 54 = .ok (.ireturn, 1) := by decide +kernel
theorem dX7_merges_0 : decode cX7_merges 0 = .ok (.aload_n 0, 1) := by decide +kernel
theorem dX7_merges_1 : decode cX7_merges 1 = .ok (.getfield 23, 3) := by decide +kernel
theorem dX7_merges_4 : decode cX7_merges 4 = .ok (.iload_n 1, 1) := by decide +kernel
theorem dX7_merges_5 : decode cX7_merges 5 = .ok (.iaload, 1) := by decide +kernel
theorem dX7_merges_6 : decode cX7_merges 6 = .ok (.istore_n 3, 1) := by decide +kernel
theorem dX7_merges_7 : decode cX7_merges 7 = .ok (.aload_n 0, 1) := by decide +kernel
theorem dX7_merges_8 : decode cX7_merges 8 = .ok (.getfield 23, 3) := by decide +kernel
theorem dX7_merges_11 : decode cX7_merges 11 = .ok (.iload_n 2, 1) := by decide +kernel
theorem dX7_merges_12 : decode cX7_merges 12 = .ok (.iaload, 1) := by decide +kernel
theorem dX7_merges_13 : decode cX7_merges 13 = .ok (.istore 4, 2) := by decide +kernel
theorem dX7_merges_15 : decode cX7_merges 15 = .ok (.iload_n 3, 1) := by decide +kernel
theorem dX7_merges_16 : decode cX7_merges 16 = .ok (.ifCond .le 23, 3) := by decide +kernel
theorem dX7_merges_19 : decode cX7_merges 19 = .ok (.iload_n 3, 1) := by decide +kernel
theorem dX7_merges_20 : decode cX7_merges 20 = .ok (.iload 4, 2) := by decide +kernel
theorem dX7_merges_22 : decode cX7_merges 22 = .ok (.if_icmp .eq 13, 3) := by decide +kernel
theorem dX7_merges_25 : decode cX7_merges 25 = .ok (.iload_n 3, 1) := by decide +kernel
theorem dX7_merges_26 : decode cX7_merges 26 = .ok (.aload_n 0, 1) := by decide +kernel
theorem dX7_merges_27 : decode cX7_merges 27 = .ok (.getfield 29, 3) := by decide +kernel
theorem dX7_merges_30 : decode cX7_merges 30 = .ok (.iload_n 2, 1) := by decide +kernel
theorem dX7_merges_31 : decode cX7_merges 31 = .ok (.iaload, 1) := by decide +kernel
theorem dX7_merges_32 : decode cX7_merges 32 = .ok (.if_icmp .le 7, 3) := by decide +kernel
theorem dX7_merges_35 : decode cX7_merges 35 = .ok (.iconst 1, 1) := by decide +kernel
theorem dX7_merges_36 : decode cX7_merges 36 = .ok (.goto 4, 3) := by decide +kernel
theorem dX7_merges_39 : decode cX7_merges 39 = .ok (.iconst 0, 1) := by decide +kernel
theorem dX7_merges_40 : decode cX7_merges 40 = .ok (.istore 5, 2) := by decide +kernel
theorem dX7_merges_42 : decode cX7_merges 42 = .ok (.iload 4, 2) := by decide +kernel
theorem dX7_merges_44 : decode cX7_merges 44 = .ok (.ifCond .le 24, 3) := by decide +kernel
theorem dX7_merges_47 : decode cX7_merges 47 = .ok (.iload_n 3, 1) := by decide +kernel
theorem dX7_merges_48 : decode cX7_merges 48 = .ok (.iload 4, 2) := by decide +kernel
theorem dX7_merges_50 : decode cX7_merges 50 = .ok (.if_icmp .eq 14, 3) := by decide +kernel
theorem dX7_merges_53 : decode cX7_merges 53 = .ok (.iload 4, 2) := by decide +kernel
theorem dX7_merges_55 : decode cX7_merges 55 = .ok (.aload_n 0, 1) := by decide +kernel
theorem dX7_merges_56 : decode cX7_merges 56 = .ok (.getfield 29, 3) := by decide +kernel
theorem dX7_merges_59 : decode cX7_merges 59 = .ok (.iload_n 1, 1) := by decide +kernel
theorem dX7_merges_60 : decode cX7_merges 60 = .ok (.iaload, 1) := by decide +kernel
theorem dX7_merges_61 : decode cX7_merges 61 = .ok (.if_icmp .le 7, 3) := by decide +kernel
theorem dX7_merges_64 : decode cX7_merges 64 = .ok (.iconst 1, 1) := by decide +kernel
theorem dX7_merges_65 : decode cX7_merges 65 = .ok (.goto 4, 3) := by decide +kernel
theorem dX7_merges_68 : decode cX7_merges 68 = .ok (.iconst 0, 1) := by decide +kernel
theorem dX7_merges_69 : decode cX7_merges 69 = .ok (.istore 6, 2) := by decide +kernel
theorem dX7_merges_71 : decode cX7_merges 71 = .ok (.iload 5, 2) := by decide +kernel
theorem dX7_merges_73 : decode cX7_merges 73 = .ok (.ifCond .eq 7, 3) := by decide +kernel
theorem dX7_merges_76 : decode cX7_merges 76 = .ok (.iload_n 3, 1) := by decide +kernel
theorem dX7_merges_77 : decode cX7_merges 77 = .ok (.goto 14, 3) := by decide +kernel
theorem dX7_merges_80 : decode cX7_merges 80 = .ok (.iload 6, 2) := by decide +kernel
theorem dX7_merges_82 : decode cX7_merges 82 = .ok (.ifCond .eq 8, 3) := by decide +kernel
theorem dX7_merges_85 : decode cX7_merges 85 = .ok (.iload 4, 2) := by decide +kernel
theorem dX7_merges_87 : decode cX7_merges 87 = .ok (.goto 4, 3) := by decide +kernel
theorem dX7_merges_90 : decode cX7_merges 90 = .ok (.iconst 0, 1) := by decide +kernel
theorem dX7_merges_91 : decode cX7_merges 91 = .ok (.istore 7, 2) := by decide +kernel
theorem dX7_merges_93 : decode cX7_merges 93 = .ok (.iload 5, 2) := by decide +kernel
theorem dX7_merges_95 : decode cX7_merges 95 = .ok (.ifCond .eq 12, 3) := by decide +kernel
theorem dX7_merges_98 : decode cX7_merges 98 = .ok (.aload_n 0, 1) := by decide +kernel
theorem dX7_merges_99 : decode cX7_merges 99 = .ok (.getfield 26, 3) := by decide +kernel
theorem dX7_merges_102 : decode cX7_merges 102 = .ok (.iload_n 1, 1) := by decide +kernel
theorem dX7_merges_103 : decode cX7_merges 103 = .ok (.iaload, 1) := by decide +kernel
theorem dX7_merges_104 : decode cX7_merges 104 = .ok (.goto 9, 3) := by decide +kernel
theorem dX7_merges_107 : decode cX7_merges 107 = .ok (.aload_n 0, 1) := by decide +kernel
theorem dX7_merges_108 : decode cX7_merges 108 = .ok (.getfield 26, 3) := by decide +kernel
theorem dX7_merges_111 : decode cX7_merges 111 = .ok (.iload_n 2, 1) := by decide +kernel
theorem dX7_merges_112 : decode cX7_merges 112 = .ok (.iaload, 1) := by decide +kernel
theorem dX7_merges_113 : decode cX7_merges 113 = .ok (.istore 8, 2) := by decide +kernel
theorem dX7_merges_115 : decode cX7_merges 115 = .ok (.aload_n 0, 1) := by decide +kernel
theorem dX7_merges_116 : decode cX7_merges 116 = .ok (.dup, 1) := by decide +kernel
theorem dX7_merges_117 : decode cX7_merges 117 = .ok (.getfield 114, 3) := by decide +kernel
theorem dX7_merges_120 : decode cX7_merges 120 = .ok (.iload 7, 2) := by decide +kernel
theorem dX7_merges_122 : decode cX7_merges 122 = .ok (.ifCond .le 13, 3) := by decide +kernel
theorem dX7_merges_125 : decode cX7_merges 125 = .ok (.iload 7, 2) := by decide +kernel
theorem dX7_merges_127 : decode cX7_merges 127 = .ok (.iload_n 3, 1) := by decide +kernel
theorem dX7_merges_128 : decode cX7_merges 128 = .ok (.if_icmp .eq 7, 3) := by decide +kernel
theorem dX7_merges_131 : decode cX7_merges 131 = .ok (.iconst 1, 1) := by decide +kernel
theorem dX7_merges_132 : decode cX7_merges 132 = .ok (.goto 4, 3) := by decide +kernel
theorem dX7_merges_135 : decode cX7_merges 135 = .ok (.iconst 0, 1) := by decide +kernel
theorem dX7_merges_136 : decode cX7_merges 136 = .ok (.iadd, 1) := by decide +kernel
theorem dX7_merges_137 : decode cX7_merges 137 = .ok (.putfield 114, 3) := by decide +kernel
theorem dX7_merges_140 : decode cX7_merges 140 = .ok (.aload_n 0, 1) := by decide +kernel
theorem dX7_merges_141 : decode cX7_merges 141 = .ok (.dup, 1) := by decide +kernel
theorem dX7_merges_142 : decode cX7_merges 142 = .ok (.getfield 114, 3) := by decide +kernel
theorem dX7_merges_145 : decode cX7_merges 145 = .ok (.iload 7, 2) := by decide +kernel
theorem dX7_merges_147 : decode cX7_merges 147 = .ok (.ifCond .le 14, 3) := by decide +kernel
theorem dX7_merges_150 : decode cX7_merges 150 = .ok (.iload 7, 2) := by decide +kernel
theorem dX7_merges_152 : decode cX7_merges 152 = .ok (.iload 4, 2) := by decide +kernel
theorem dX7_merges_154 : decode cX7_merges 154 = .ok (.if_icmp .eq 7, 3) := by decide +kernel
theorem dX7_merges_157 : decode cX7_merges 157 = .ok (.iconst 1, 1) := by decide +kernel
theorem dX7_merges_158 : decode cX7_merges 158 = .ok (.goto 4, 3) := by decide +kernel
theorem dX7_merges_161 : decode cX7_merges 161 = .ok (.iconst 0, 1) := by decide +kernel
theorem dX7_merges_162 : decode cX7_merges 162 = .ok (.iadd, 1) := by decide +kernel
theorem dX7_merges_163 : decode cX7_merges 163 = .ok (.putfield 114, 3) := by decide +kernel
theorem dX7_merges_166 : decode cX7_merges 166 = .ok (.aload_n 0, 1) := by decide +kernel
theorem dX7_merges_167 : decode cX7_merges 167 = .ok (.getfield 23, 3) := by decide +kernel
theorem dX7_merges_170 : decode cX7_merges 170 = .ok (.iload_n 1, 1) := by decide +kernel
theorem dX7_merges_171 : decode cX7_merges 171 = .ok (.iload 7, 2) := by decide +kernel
theorem dX7_merges_173 : decode cX7_merges 173 = .ok (.iastore, 1) := by decide +kernel
theorem dX7_merges_174 : decode cX7_merges 174 = .ok (.aload_n 0, 1) := by decide +kernel
theorem dX7_merges_175 : decode cX7_merges 175 = .ok (.getfield 23, 3) := by decide +kernel
theorem dX7_merges_178 : decode cX7_merges 178 = .ok (.iload_n 2, 1) := by decide +kernel
theorem dX7_merges_179 : decode cX7_merges 179 = .ok (.iload 7, 2) := by decide +kernel
theorem dX7_merges_181 : decode cX7_merges 181 = .ok (.iastore, 1) := by decide +kernel
theorem dX7_merges_182 : decode cX7_merges 182 = .ok (.aload_n 0, 1) := by decide +kernel
theorem dX7_merges_183 : decode cX7_merges 183 = .ok (.getfield 26, 3) := by decide +kernel
theorem dX7_merges_186 : decode cX7_merges 186 = .ok (.iload_n 1, 1) := by decide +kernel
theorem dX7_merges_187 : decode cX7_merges 187 = .ok (.iload 8, 2) := by decide +kernel
theorem dX7_merges_189 : decode cX7_merges 189 = .ok (.iastore, 1) := by decide +kernel
theorem dX7_merges_190 : decode cX7_merges 190 = .ok (.aload_n 0, 1) := by decide +kernel
theorem dX7_merges_191 : decode cX7_merges 191 = .ok (.getfield 26, 3) := by decide +kernel
theorem dX7_merges_194 : decode cX7_merges 194 = .ok (.iload_n 2, 1) := by decide +kernel
theorem dX7_merges_195 : decode cX7_merges 195 = .ok (.iload 8, 2) := by decide +kernel
theorem dX7_merges_197 : decode cX7_merges 197 = .ok (.iastore, 1) := by decide +kernel
theorem dX7_merges_198 : decode cX7_merges 198 = .ok (.aload_n 0, 1) := by decide +kernel
theorem dX7_merges_199 : decode cX7_merges 199 = .ok (.getfield 29, 3) := by decide +kernel
theorem dX7_merges_202 : decode cX7_merges 202 = .ok (.iload_n 1, 1) := by decide +kernel
theorem dX7_merges_203 : decode cX7_merges 203 = .ok (.iaload, 1) := by decide +kernel
theorem dX7_merges_204 : decode cX7_merges 204 = .ok (.aload_n 0, 1) := by decide +kernel
theorem dX7_merges_205 : decode cX7_merges 205 = .ok (.getfield 29, 3) := by decide +kernel
theorem dX7_merges_208 : decode cX7_merges 208 = .ok (.iload_n 2, 1) := by decide +kernel
theorem dX7_merges_209 : decode cX7_merges 209 = .ok (.iaload, 1) := by decide +kernel
theorem dX7_merges_210 : decode cX7_merges 210 = .ok (.invokestatic 111, 3) := by decide +kernel
theorem dX7_merges_213 : decode cX7_merges 213 = .ok (.istore 9, 2) := by decide +kernel
theorem dX7_merges_215 : decode cX7_merges 215 = .ok (.aload_n 0, 1) := by decide +kernel
theorem dX7_merges_216 : decode cX7_merges 216 = .ok (.getfield 29, 3) := by decide +kernel
theorem dX7_merges_219 : decode cX7_merges 219 = .ok (.iload_n 1, 1) := by decide +kernel
theorem dX7_merges_220 : decode cX7_merges 220 = .ok (.iload 9, 2) := by decide +kernel
theorem dX7_merges_222 : decode cX7_merges 222 = .ok (.iastore, 1) := by decide +kernel
theorem dX7_merges_223 : decode cX7_merges 223 = .ok (.aload_n 0, 1) := by decide +kernel
theorem dX7_merges_224 : decode cX7_merges 224 = .ok (.getfield 29, 3) := by decide +kernel
theorem dX7_merges_227 : decode cX7_merges 227 = .ok (.iload_n 2, 1) := by decide +kernel
theorem dX7_merges_228 : decode cX7_merges 228 = .ok (.iload 9, 2) := by decide +kernel
theorem dX7_merges_230 : decode cX7_merges 230 = .ok (.iastore, 1) := by decide +kernel
theorem dX7_merges_231 : decode cX7_merges 231 = .ok (.return_, 1) := by decide +kernel
theorem dX7_joins_0 : decode cX7_joins 0 = .ok (.aload_n 0, 1) := by decide +kernel
theorem dX7_joins_1 : decode cX7_joins 1 = .ok (.getfield 19, 3) := by decide +kernel
theorem dX7_joins_4 : decode cX7_joins 4 = .ok (.iload_n 1, 1) := by decide +kernel
theorem dX7_joins_5 : decode cX7_joins 5 = .ok (.iload_n 3, 1) := by decide +kernel
theorem dX7_joins_6 : decode cX7_joins 6 = .ok (.invokestatic 65, 3) := by decide +kernel
theorem dX7_joins_9 : decode cX7_joins 9 = .ok (.iconst 1, 1) := by decide +kernel
theorem dX7_joins_10 : decode cX7_joins 10 = .ok (.bastore, 1) := by decide +kernel
theorem dX7_joins_11 : decode cX7_joins 11 = .ok (.aload_n 0, 1) := by decide +kernel
theorem dX7_joins_12 : decode cX7_joins 12 = .ok (.getfield 19, 3) := by decide +kernel
theorem dX7_joins_15 : decode cX7_joins 15 = .ok (.iload_n 2, 1) := by decide +kernel
theorem dX7_joins_16 : decode cX7_joins 16 = .ok (.iload_n 3, 1) := by decide +kernel
theorem dX7_joins_17 : decode cX7_joins 17 = .ok (.invokestatic 65, 3) := by decide +kernel
theorem dX7_joins_20 : decode cX7_joins 20 = .ok (.iconst 1, 1) := by decide +kernel
theorem dX7_joins_21 : decode cX7_joins 21 = .ok (.bastore, 1) := by decide +kernel
theorem dX7_joins_22 : decode cX7_joins 22 = .ok (.iconst 0, 1) := by decide +kernel
theorem dX7_joins_23 : decode cX7_joins 23 = .ok (.istore 4, 2) := by decide +kernel
theorem dX7_joins_25 : decode cX7_joins 25 = .ok (.iload 4, 2) := by decide +kernel
theorem dX7_joins_27 : decode cX7_joins 27 = .ok (.iconst 4, 1) := by decide +kernel
theorem dX7_joins_28 : decode cX7_joins 28 = .ok (.if_icmp .ge 69, 3) := by decide +kernel
theorem dX7_joins_31 : decode cX7_joins 31 = .ok (.iconst 0, 1) := by decide +kernel
theorem dX7_joins_32 : decode cX7_joins 32 = .ok (.istore 5, 2) := by decide +kernel
theorem dX7_joins_34 : decode cX7_joins 34 = .ok (.iload 5, 2) := by decide +kernel
theorem dX7_joins_36 : decode cX7_joins 36 = .ok (.bipush 6, 2) := by decide +kernel
theorem dX7_joins_38 : decode cX7_joins 38 = .ok (.if_icmp .ge 53, 3) := by decide +kernel
theorem dX7_joins_41 : decode cX7_joins 41 = .ok (.aload_n 0, 1) := by decide +kernel
theorem dX7_joins_42 : decode cX7_joins 42 = .ok (.iload_n 1, 1) := by decide +kernel
theorem dX7_joins_43 : decode cX7_joins 43 = .ok (.iload_n 3, 1) := by decide +kernel
theorem dX7_joins_44 : decode cX7_joins 44 = .ok (.iload 4, 2) := by decide +kernel
theorem dX7_joins_46 : decode cX7_joins 46 = .ok (.invokevirtual 87, 3) := by decide +kernel
theorem dX7_joins_49 : decode cX7_joins 49 = .ok (.ifCond .eq 42, 3) := by decide +kernel
theorem dX7_joins_52 : decode cX7_joins 52 = .ok (.aload_n 0, 1) := by decide +kernel
theorem dX7_joins_53 : decode cX7_joins 53 = .ok (.iload_n 2, 1) := by decide +kernel
theorem dX7_joins_54 : decode cX7_joins 54 = .ok (.iload_n 3, 1) := by decide +kernel
theorem dX7_joins_55 : decode cX7_joins 55 = .ok (.iload 4, 2) := by decide +kernel
theorem dX7_joins_57 : decode cX7_joins 57 = .ok (.invokevirtual 87, 3) := by decide +kernel
theorem dX7_joins_60 : decode cX7_joins 60 = .ok (.ifCond .eq 31, 3) := by decide +kernel
theorem dX7_joins_63 : decode cX7_joins 63 = .ok (.aload_n 0, 1) := by decide +kernel
theorem dX7_joins_64 : decode cX7_joins 64 = .ok (.iload_n 1, 1) := by decide +kernel
theorem dX7_joins_65 : decode cX7_joins 65 = .ok (.iload_n 3, 1) := by decide +kernel
theorem dX7_joins_66 : decode cX7_joins 66 = .ok (.iload 4, 2) := by decide +kernel
theorem dX7_joins_68 : decode cX7_joins 68 = .ok (.iload 5, 2) := by decide +kernel
theorem dX7_joins_70 : decode cX7_joins 70 = .ok (.invokestatic 72, 3) := by decide +kernel
theorem dX7_joins_73 : decode cX7_joins 73 = .ok (.iload_n 2, 1) := by decide +kernel
theorem dX7_joins_74 : decode cX7_joins 74 = .ok (.iload_n 3, 1) := by decide +kernel
theorem dX7_joins_75 : decode cX7_joins 75 = .ok (.iload 4, 2) := by decide +kernel
theorem dX7_joins_77 : decode cX7_joins 77 = .ok (.iload 5, 2) := by decide +kernel
theorem dX7_joins_79 : decode cX7_joins 79 = .ok (.invokestatic 72, 3) := by decide +kernel
theorem dX7_joins_82 : decode cX7_joins 82 = .ok (.invokevirtual 117, 3) := by decide +kernel
theorem dX7_joins_85 : decode cX7_joins 85 = .ok (.iinc 5 1, 3) := by decide +kernel
theorem dX7_joins_88 : decode cX7_joins 88 = .ok (.goto (-54), 3) := by decide +kernel
theorem dX7_joins_91 : decode cX7_joins 91 = .ok (.iinc 4 1, 3) := by decide +kernel
theorem dX7_joins_94 : decode cX7_joins 94 = .ok (.goto (-69), 3) := by decide +kernel
theorem dX7_joins_97 : decode cX7_joins 97 = .ok (.iconst 0, 1) := by decide +kernel
theorem dX7_joins_98 : decode cX7_joins 98 = .ok (.istore 4, 2) := by decide +kernel
theorem dX7_joins_100 : decode cX7_joins 100 = .ok (.iload 4, 2) := by decide +kernel
theorem dX7_joins_102 : decode cX7_joins 102 = .ok (.aload_n 0, 1) := by decide +kernel
theorem dX7_joins_103 : decode cX7_joins 103 = .ok (.getfield 90, 3) := by decide +kernel
theorem dX7_joins_106 : decode cX7_joins 106 = .ok (.if_icmp .ge 54, 3) := by decide +kernel
theorem dX7_joins_109 : decode cX7_joins 109 = .ok (.aload_n 0, 1) := by decide +kernel
theorem dX7_joins_110 : decode cX7_joins 110 = .ok (.getfield 38, 3) := by decide +kernel
theorem dX7_joins_113 : decode cX7_joins 113 = .ok (.iload 4, 2) := by decide +kernel
theorem dX7_joins_115 : decode cX7_joins 115 = .ok (.iaload, 1) := by decide +kernel
theorem dX7_joins_116 : decode cX7_joins 116 = .ok (.iload_n 3, 1) := by decide +kernel
theorem dX7_joins_117 : decode cX7_joins 117 = .ok (.if_icmp .ne 37, 3) := by decide +kernel
theorem dX7_joins_120 : decode cX7_joins 120 = .ok (.aload_n 0, 1) := by decide +kernel
theorem dX7_joins_121 : decode cX7_joins 121 = .ok (.iload_n 1, 1) := by decide +kernel
theorem dX7_joins_122 : decode cX7_joins 122 = .ok (.iload 4, 2) := by decide +kernel
theorem dX7_joins_124 : decode cX7_joins 124 = .ok (.invokevirtual 93, 3) := by decide +kernel
theorem dX7_joins_127 : decode cX7_joins 127 = .ok (.ifCond .ne 13, 3) := by decide +kernel
theorem dX7_joins_130 : decode cX7_joins 130 = .ok (.aload_n 0, 1) := by decide +kernel
theorem dX7_joins_131 : decode cX7_joins 131 = .ok (.iload_n 2, 1) := by decide +kernel
theorem dX7_joins_132 : decode cX7_joins 132 = .ok (.iload 4, 2) := by decide +kernel
theorem dX7_joins_134 : decode cX7_joins 134 = .ok (.invokevirtual 93, 3) := by decide +kernel
theorem dX7_joins_137 : decode cX7_joins 137 = .ok (.ifCond .eq 17, 3) := by decide +kernel
theorem dX7_joins_140 : decode cX7_joins 140 = .ok (.aload_n 0, 1) := by decide +kernel
theorem dX7_joins_141 : decode cX7_joins 141 = .ok (.iload_n 1, 1) := by decide +kernel
theorem dX7_joins_142 : decode cX7_joins 142 = .ok (.iload 4, 2) := by decide +kernel
theorem dX7_joins_144 : decode cX7_joins 144 = .ok (.invokevirtual 121, 3) := by decide +kernel
theorem dX7_joins_147 : decode cX7_joins 147 = .ok (.aload_n 0, 1) := by decide +kernel
theorem dX7_joins_148 : decode cX7_joins 148 = .ok (.iload_n 2, 1) := by decide +kernel
theorem dX7_joins_149 : decode cX7_joins 149 = .ok (.iload 4, 2) := by decide +kernel
theorem dX7_joins_151 : decode cX7_joins 151 = .ok (.invokevirtual 121, 3) := by decide +kernel
theorem dX7_joins_154 : decode cX7_joins 154 = .ok (.iinc 4 1, 3) := by decide +kernel
theorem dX7_joins_157 : decode cX7_joins 157 = .ok (.goto (-57), 3) := by decide +kernel
theorem dX7_joins_160 : decode cX7_joins 160 = .ok (.return_, 1) := by decide +kernel
theorem dX7_learns_0 : decode cX7_learns 0 = .ok (.aload_n 0, 1) := by decide +kernel
theorem dX7_learns_1 : decode cX7_learns 1 = .ok (.iload_n 1, 1) := by decide +kernel
theorem dX7_learns_2 : decode cX7_learns 2 = .ok (.iload_n 2, 1) := by decide +kernel
theorem dX7_learns_3 : decode cX7_learns 3 = .ok (.invokevirtual 93, 3) := by decide +kernel
theorem dX7_learns_6 : decode cX7_learns 6 = .ok (.ifCond .ne 20, 3) := by decide +kernel
theorem dX7_learns_9 : decode cX7_learns 9 = .ok (.aload_n 0, 1) := by decide +kernel
theorem dX7_learns_10 : decode cX7_learns 10 = .ok (.getfield 44, 3) := by decide +kernel
theorem dX7_learns_13 : decode cX7_learns 13 = .ok (.bipush 6, 2) := by decide +kernel
theorem dX7_learns_15 : decode cX7_learns 15 = .ok (.iload_n 2, 1) := by decide +kernel
theorem dX7_learns_16 : decode cX7_learns 16 = .ok (.imul, 1) := by decide +kernel
theorem dX7_learns_17 : decode cX7_learns 17 = .ok (.iload_n 1, 1) := by decide +kernel
theorem dX7_learns_18 : decode cX7_learns 18 = .ok (.iadd, 1) := by decide +kernel
theorem dX7_learns_19 : decode cX7_learns 19 = .ok (.aload_n 0, 1) := by decide +kernel
theorem dX7_learns_20 : decode cX7_learns 20 = .ok (.getfield 108, 3) := by decide +kernel
theorem dX7_learns_23 : decode cX7_learns 23 = .ok (.iconst 1, 1) := by decide +kernel
theorem dX7_learns_24 : decode cX7_learns 24 = .ok (.iadd, 1) := by decide +kernel
theorem dX7_learns_25 : decode cX7_learns 25 = .ok (.iastore, 1) := by decide +kernel
theorem dX7_learns_26 : decode cX7_learns 26 = .ok (.return_, 1) := by decide +kernel
theorem dX7_notes_0 : decode cX7_notes 0 = .ok (.aload_n 0, 1) := by decide +kernel
theorem dX7_notes_1 : decode cX7_notes 1 = .ok (.getfield 32, 3) := by decide +kernel
theorem dX7_notes_4 : decode cX7_notes 4 = .ok (.iload_n 1, 1) := by decide +kernel
theorem dX7_notes_5 : decode cX7_notes 5 = .ok (.iload_n 3, 1) := by decide +kernel
theorem dX7_notes_6 : decode cX7_notes 6 = .ok (.invokestatic 65, 3) := by decide +kernel
theorem dX7_notes_9 : decode cX7_notes 9 = .ok (.baload, 1) := by decide +kernel
theorem dX7_notes_10 : decode cX7_notes 10 = .ok (.ifCond .ne 16, 3) := by decide +kernel
theorem dX7_notes_13 : decode cX7_notes 13 = .ok (.aload_n 0, 1) := by decide +kernel
theorem dX7_notes_14 : decode cX7_notes 14 = .ok (.getfield 32, 3) := by decide +kernel
theorem dX7_notes_17 : decode cX7_notes 17 = .ok (.iload_n 2, 1) := by decide +kernel
theorem dX7_notes_18 : decode cX7_notes 18 = .ok (.iload_n 3, 1) := by decide +kernel
theorem dX7_notes_19 : decode cX7_notes 19 = .ok (.invokestatic 65, 3) := by decide +kernel
theorem dX7_notes_22 : decode cX7_notes 22 = .ok (.baload, 1) := by decide +kernel
theorem dX7_notes_23 : decode cX7_notes 23 = .ok (.ifCond .eq 7, 3) := by decide +kernel
theorem dX7_notes_26 : decode cX7_notes 26 = .ok (.iconst 1, 1) := by decide +kernel
theorem dX7_notes_27 : decode cX7_notes 27 = .ok (.goto 4, 3) := by decide +kernel
theorem dX7_notes_30 : decode cX7_notes 30 = .ok (.iconst 0, 1) := by decide +kernel
theorem dX7_notes_31 : decode cX7_notes 31 = .ok (.istore 4, 2) := by decide +kernel
theorem dX7_notes_33 : decode cX7_notes 33 = .ok (.iconst 0, 1) := by decide +kernel
theorem dX7_notes_34 : decode cX7_notes 34 = .ok (.istore 5, 2) := by decide +kernel
theorem dX7_notes_36 : decode cX7_notes 36 = .ok (.iload 5, 2) := by decide +kernel
theorem dX7_notes_38 : decode cX7_notes 38 = .ok (.bipush 24, 2) := by decide +kernel
theorem dX7_notes_40 : decode cX7_notes 40 = .ok (.if_icmp .ge 87, 3) := by decide +kernel
theorem dX7_notes_43 : decode cX7_notes 43 = .ok (.iload 4, 2) := by decide +kernel
theorem dX7_notes_45 : decode cX7_notes 45 = .ok (.ifCond .eq 82, 3) := by decide +kernel
theorem dX7_notes_48 : decode cX7_notes 48 = .ok (.aload_n 0, 1) := by decide +kernel
theorem dX7_notes_49 : decode cX7_notes 49 = .ok (.getfield 35, 3) := by decide +kernel
theorem dX7_notes_52 : decode cX7_notes 52 = .ok (.bipush 24, 2) := by decide +kernel
theorem dX7_notes_54 : decode cX7_notes 54 = .ok (.iload_n 1, 1) := by decide +kernel
theorem dX7_notes_55 : decode cX7_notes 55 = .ok (.iload_n 3, 1) := by decide +kernel
theorem dX7_notes_56 : decode cX7_notes 56 = .ok (.invokestatic 65, 3) := by decide +kernel
theorem dX7_notes_59 : decode cX7_notes 59 = .ok (.imul, 1) := by decide +kernel
theorem dX7_notes_60 : decode cX7_notes 60 = .ok (.iload 5, 2) := by decide +kernel
theorem dX7_notes_62 : decode cX7_notes 62 = .ok (.iadd, 1) := by decide +kernel
theorem dX7_notes_63 : decode cX7_notes 63 = .ok (.iaload, 1) := by decide +kernel
theorem dX7_notes_64 : decode cX7_notes 64 = .ok (.aload_n 0, 1) := by decide +kernel
theorem dX7_notes_65 : decode cX7_notes 65 = .ok (.getfield 35, 3) := by decide +kernel
theorem dX7_notes_68 : decode cX7_notes 68 = .ok (.bipush 24, 2) := by decide +kernel
theorem dX7_notes_70 : decode cX7_notes 70 = .ok (.iload_n 2, 1) := by decide +kernel
theorem dX7_notes_71 : decode cX7_notes 71 = .ok (.iload_n 3, 1) := by decide +kernel
theorem dX7_notes_72 : decode cX7_notes 72 = .ok (.invokestatic 65, 3) := by decide +kernel
theorem dX7_notes_75 : decode cX7_notes 75 = .ok (.imul, 1) := by decide +kernel
theorem dX7_notes_76 : decode cX7_notes 76 = .ok (.iload 5, 2) := by decide +kernel
theorem dX7_notes_78 : decode cX7_notes 78 = .ok (.iadd, 1) := by decide +kernel
theorem dX7_notes_79 : decode cX7_notes 79 = .ok (.iaload, 1) := by decide +kernel
theorem dX7_notes_80 : decode cX7_notes 80 = .ok (.invokestatic 111, 3) := by decide +kernel
theorem dX7_notes_83 : decode cX7_notes 83 = .ok (.istore 6, 2) := by decide +kernel
theorem dX7_notes_85 : decode cX7_notes 85 = .ok (.aload_n 0, 1) := by decide +kernel
theorem dX7_notes_86 : decode cX7_notes 86 = .ok (.getfield 35, 3) := by decide +kernel
theorem dX7_notes_89 : decode cX7_notes 89 = .ok (.bipush 24, 2) := by decide +kernel
theorem dX7_notes_91 : decode cX7_notes 91 = .ok (.iload_n 1, 1) := by decide +kernel
theorem dX7_notes_92 : decode cX7_notes 92 = .ok (.iload_n 3, 1) := by decide +kernel
theorem dX7_notes_93 : decode cX7_notes 93 = .ok (.invokestatic 65, 3) := by decide +kernel
theorem dX7_notes_96 : decode cX7_notes 96 = .ok (.imul, 1) := by decide +kernel
theorem dX7_notes_97 : decode cX7_notes 97 = .ok (.iload 5, 2) := by decide +kernel
theorem dX7_notes_99 : decode cX7_notes 99 = .ok (.iadd, 1) := by decide +kernel
theorem dX7_notes_100 : decode cX7_notes 100 = .ok (.iload 6, 2) := by decide +kernel
theorem dX7_notes_102 : decode cX7_notes 102 = .ok (.iastore, 1) := by decide +kernel
theorem dX7_notes_103 : decode cX7_notes 103 = .ok (.aload_n 0, 1) := by decide +kernel
theorem dX7_notes_104 : decode cX7_notes 104 = .ok (.getfield 35, 3) := by decide +kernel
theorem dX7_notes_107 : decode cX7_notes 107 = .ok (.bipush 24, 2) := by decide +kernel
theorem dX7_notes_109 : decode cX7_notes 109 = .ok (.iload_n 2, 1) := by decide +kernel
theorem dX7_notes_110 : decode cX7_notes 110 = .ok (.iload_n 3, 1) := by decide +kernel
theorem dX7_notes_111 : decode cX7_notes 111 = .ok (.invokestatic 65, 3) := by decide +kernel
theorem dX7_notes_114 : decode cX7_notes 114 = .ok (.imul, 1) := by decide +kernel
theorem dX7_notes_115 : decode cX7_notes 115 = .ok (.iload 5, 2) := by decide +kernel
theorem dX7_notes_117 : decode cX7_notes 117 = .ok (.iadd, 1) := by decide +kernel
theorem dX7_notes_118 : decode cX7_notes 118 = .ok (.iload 6, 2) := by decide +kernel
theorem dX7_notes_120 : decode cX7_notes 120 = .ok (.iastore, 1) := by decide +kernel
theorem dX7_notes_121 : decode cX7_notes 121 = .ok (.iinc 5 1, 3) := by decide +kernel
theorem dX7_notes_124 : decode cX7_notes 124 = .ok (.goto (-88), 3) := by decide +kernel
theorem dX7_notes_127 : decode cX7_notes 127 = .ok (.aload_n 0, 1) := by decide +kernel
theorem dX7_notes_128 : decode cX7_notes 128 = .ok (.getfield 32, 3) := by decide +kernel
theorem dX7_notes_131 : decode cX7_notes 131 = .ok (.iload_n 1, 1) := by decide +kernel
theorem dX7_notes_132 : decode cX7_notes 132 = .ok (.iload_n 3, 1) := by decide +kernel
theorem dX7_notes_133 : decode cX7_notes 133 = .ok (.invokestatic 65, 3) := by decide +kernel
theorem dX7_notes_136 : decode cX7_notes 136 = .ok (.iload 4, 2) := by decide +kernel
theorem dX7_notes_138 : decode cX7_notes 138 = .ok (.bastore, 1) := by decide +kernel
theorem dX7_notes_139 : decode cX7_notes 139 = .ok (.aload_n 0, 1) := by decide +kernel
theorem dX7_notes_140 : decode cX7_notes 140 = .ok (.getfield 32, 3) := by decide +kernel
theorem dX7_notes_143 : decode cX7_notes 143 = .ok (.iload_n 2, 1) := by decide +kernel
theorem dX7_notes_144 : decode cX7_notes 144 = .ok (.iload_n 3, 1) := by decide +kernel
theorem dX7_notes_145 : decode cX7_notes 145 = .ok (.invokestatic 65, 3) := by decide +kernel
theorem dX7_notes_148 : decode cX7_notes 148 = .ok (.iload 4, 2) := by decide +kernel
theorem dX7_notes_150 : decode cX7_notes 150 = .ok (.bastore, 1) := by decide +kernel
theorem dX7_notes_151 : decode cX7_notes 151 = .ok (.return_, 1) := by decide +kernel
theorem dX7_merge_0 : decode cX7_merge 0 = .ok (.iload_n 1, 1) := by decide +kernel
theorem dX7_merge_1 : decode cX7_merge 1 = .ok (.invokestatic 58, 3) := by decide +kernel
theorem dX7_merge_4 : decode cX7_merge 4 = .ok (.ifCond .eq 14, 3) := by decide +kernel
theorem dX7_merge_7 : decode cX7_merge 7 = .ok (.iload_n 2, 1) := by decide +kernel
theorem dX7_merge_8 : decode cX7_merge 8 = .ok (.invokestatic 58, 3) := by decide +kernel
theorem dX7_merge_11 : decode cX7_merge 11 = .ok (.ifCond .eq 7, 3) := by decide +kernel
theorem dX7_merge_14 : decode cX7_merge 14 = .ok (.iconst 1, 1) := by decide +kernel
theorem dX7_merge_15 : decode cX7_merge 15 = .ok (.goto 4, 3) := by decide +kernel
theorem dX7_merge_18 : decode cX7_merge 18 = .ok (.iconst 0, 1) := by decide +kernel
theorem dX7_merge_19 : decode cX7_merge 19 = .ok (.istore_n 3, 1) := by decide +kernel
theorem dX7_merge_20 : decode cX7_merge 20 = .ok (.aload_n 0, 1) := by decide +kernel
theorem dX7_merge_21 : decode cX7_merge 21 = .ok (.iload_n 3, 1) := by decide +kernel
theorem dX7_merge_22 : decode cX7_merge 22 = .ok (.ifCond .ne 7, 3) := by decide +kernel
theorem dX7_merge_25 : decode cX7_merge 25 = .ok (.iconst 1, 1) := by decide +kernel
theorem dX7_merge_26 : decode cX7_merge 26 = .ok (.goto 13, 3) := by decide +kernel
theorem dX7_merge_29 : decode cX7_merge 29 = .ok (.iload_n 1, 1) := by decide +kernel
theorem dX7_merge_30 : decode cX7_merge 30 = .ok (.iload_n 2, 1) := by decide +kernel
theorem dX7_merge_31 : decode cX7_merge 31 = .ok (.if_icmp .ne 7, 3) := by decide +kernel
theorem dX7_merge_34 : decode cX7_merge 34 = .ok (.iconst 2, 1) := by decide +kernel
theorem dX7_merge_35 : decode cX7_merge 35 = .ok (.goto 4, 3) := by decide +kernel
theorem dX7_merge_38 : decode cX7_merge 38 = .ok (.iconst 0, 1) := by decide +kernel
theorem dX7_merge_39 : decode cX7_merge 39 = .ok (.invokevirtual 69, 3) := by decide +kernel
theorem dX7_merge_42 : decode cX7_merge 42 = .ok (.ifCond .eq 5, 3) := by decide +kernel
theorem dX7_merge_45 : decode cX7_merge 45 = .ok (.iconst 0, 1) := by decide +kernel
theorem dX7_merge_46 : decode cX7_merge 46 = .ok (.ireturn, 1) := by decide +kernel
theorem dX7_merge_47 : decode cX7_merge 47 = .ok (.aload_n 0, 1) := by decide +kernel
theorem dX7_merge_48 : decode cX7_merge 48 = .ok (.iconst 0, 1) := by decide +kernel
theorem dX7_merge_49 : decode cX7_merge 49 = .ok (.putfield 114, 3) := by decide +kernel
theorem dX7_merge_52 : decode cX7_merge 52 = .ok (.iconst 0, 1) := by decide +kernel
theorem dX7_merge_53 : decode cX7_merge 53 = .ok (.istore 4, 2) := by decide +kernel
theorem dX7_merge_55 : decode cX7_merge 55 = .ok (.iconst 0, 1) := by decide +kernel
theorem dX7_merge_56 : decode cX7_merge 56 = .ok (.istore 5, 2) := by decide +kernel
theorem dX7_merge_58 : decode cX7_merge 58 = .ok (.iload 5, 2) := by decide +kernel
theorem dX7_merge_60 : decode cX7_merge 60 = .ok (.aload_n 0, 1) := by decide +kernel
theorem dX7_merge_61 : decode cX7_merge 61 = .ok (.getfield 55, 3) := by decide +kernel
theorem dX7_merge_64 : decode cX7_merge 64 = .ok (.if_icmp .ge 168, 3) := by decide +kernel
theorem dX7_merge_67 : decode cX7_merge 67 = .ok (.aload_n 0, 1) := by decide +kernel
theorem dX7_merge_68 : decode cX7_merge 68 = .ok (.iload_n 1, 1) := by decide +kernel
theorem dX7_merge_69 : decode cX7_merge 69 = .ok (.iload_n 2, 1) := by decide +kernel
theorem dX7_merge_70 : decode cX7_merge 70 = .ok (.iload 5, 2) := by decide +kernel
theorem dX7_merge_72 : decode cX7_merge 72 = .ok (.invokevirtual 124, 3) := by decide +kernel
theorem dX7_merge_75 : decode cX7_merge 75 = .ok (.ifCond .eq 151, 3) := by decide +kernel
theorem dX7_merge_78 : decode cX7_merge 78 = .ok (.aload_n 0, 1) := by decide +kernel
theorem dX7_merge_79 : decode cX7_merge 79 = .ok (.getfield 19, 3) := by decide +kernel
theorem dX7_merge_82 : decode cX7_merge 82 = .ok (.iload_n 1, 1) := by decide +kernel
theorem dX7_merge_83 : decode cX7_merge 83 = .ok (.iload 5, 2) := by decide +kernel
theorem dX7_merge_85 : decode cX7_merge 85 = .ok (.invokestatic 65, 3) := by decide +kernel
theorem dX7_merge_88 : decode cX7_merge 88 = .ok (.baload, 1) := by decide +kernel
theorem dX7_merge_89 : decode cX7_merge 89 = .ok (.istore 6, 2) := by decide +kernel
theorem dX7_merge_91 : decode cX7_merge 91 = .ok (.aload_n 0, 1) := by decide +kernel
theorem dX7_merge_92 : decode cX7_merge 92 = .ok (.getfield 19, 3) := by decide +kernel
theorem dX7_merge_95 : decode cX7_merge 95 = .ok (.iload_n 2, 1) := by decide +kernel
theorem dX7_merge_96 : decode cX7_merge 96 = .ok (.iload 5, 2) := by decide +kernel
theorem dX7_merge_98 : decode cX7_merge 98 = .ok (.invokestatic 65, 3) := by decide +kernel
theorem dX7_merge_101 : decode cX7_merge 101 = .ok (.baload, 1) := by decide +kernel
theorem dX7_merge_102 : decode cX7_merge 102 = .ok (.istore 7, 2) := by decide +kernel
theorem dX7_merge_104 : decode cX7_merge 104 = .ok (.iload 6, 2) := by decide +kernel
theorem dX7_merge_106 : decode cX7_merge 106 = .ok (.ifCond .eq 32, 3) := by decide +kernel
theorem dX7_merge_109 : decode cX7_merge 109 = .ok (.iload 7, 2) := by decide +kernel
theorem dX7_merge_111 : decode cX7_merge 111 = .ok (.ifCond .ne 27, 3) := by decide +kernel
theorem dX7_merge_114 : decode cX7_merge 114 = .ok (.aload_n 0, 1) := by decide +kernel
theorem dX7_merge_115 : decode cX7_merge 115 = .ok (.iload_n 2, 1) := by decide +kernel
theorem dX7_merge_116 : decode cX7_merge 116 = .ok (.iload_n 1, 1) := by decide +kernel
theorem dX7_merge_117 : decode cX7_merge 117 = .ok (.iload 5, 2) := by decide +kernel
theorem dX7_merge_119 : decode cX7_merge 119 = .ok (.invokevirtual 127, 3) := by decide +kernel
theorem dX7_merge_122 : decode cX7_merge 122 = .ok (.ifCond .eq 16, 3) := by decide +kernel
theorem dX7_merge_125 : decode cX7_merge 125 = .ok (.aload_n 0, 1) := by decide +kernel
theorem dX7_merge_126 : decode cX7_merge 126 = .ok (.iload_n 1, 1) := by decide +kernel
theorem dX7_merge_127 : decode cX7_merge 127 = .ok (.iload 5, 2) := by decide +kernel
theorem dX7_merge_129 : decode cX7_merge 129 = .ok (.invokevirtual 130, 3) := by decide +kernel
theorem dX7_merge_132 : decode cX7_merge 132 = .ok (.iinc 4 1, 3) := by decide +kernel
theorem dX7_merge_135 : decode cX7_merge 135 = .ok (.goto 55, 3) := by decide +kernel
theorem dX7_merge_138 : decode cX7_merge 138 = .ok (.iload 7, 2) := by decide +kernel
theorem dX7_merge_140 : decode cX7_merge 140 = .ok (.ifCond .eq 32, 3) := by decide +kernel
theorem dX7_merge_143 : decode cX7_merge 143 = .ok (.iload 6, 2) := by decide +kernel
theorem dX7_merge_145 : decode cX7_merge 145 = .ok (.ifCond .ne 27, 3) := by decide +kernel
theorem dX7_merge_148 : decode cX7_merge 148 = .ok (.aload_n 0, 1) := by decide +kernel
theorem dX7_merge_149 : decode cX7_merge 149 = .ok (.iload_n 1, 1) := by decide +kernel
theorem dX7_merge_150 : decode cX7_merge 150 = .ok (.iload_n 2, 1) := by decide +kernel
theorem dX7_merge_151 : decode cX7_merge 151 = .ok (.iload 5, 2) := by decide +kernel
theorem dX7_merge_153 : decode cX7_merge 153 = .ok (.invokevirtual 127, 3) := by decide +kernel
theorem dX7_merge_156 : decode cX7_merge 156 = .ok (.ifCond .eq 16, 3) := by decide +kernel
theorem dX7_merge_159 : decode cX7_merge 159 = .ok (.aload_n 0, 1) := by decide +kernel
theorem dX7_merge_160 : decode cX7_merge 160 = .ok (.iload_n 2, 1) := by decide +kernel
theorem dX7_merge_161 : decode cX7_merge 161 = .ok (.iload 5, 2) := by decide +kernel
theorem dX7_merge_163 : decode cX7_merge 163 = .ok (.invokevirtual 130, 3) := by decide +kernel
theorem dX7_merge_166 : decode cX7_merge 166 = .ok (.iinc 4 1, 3) := by decide +kernel
theorem dX7_merge_169 : decode cX7_merge 169 = .ok (.goto 21, 3) := by decide +kernel
theorem dX7_merge_172 : decode cX7_merge 172 = .ok (.iload 6, 2) := by decide +kernel
theorem dX7_merge_174 : decode cX7_merge 174 = .ok (.ifCond .ne 8, 3) := by decide +kernel
theorem dX7_merge_177 : decode cX7_merge 177 = .ok (.iload 7, 2) := by decide +kernel
theorem dX7_merge_179 : decode cX7_merge 179 = .ok (.ifCond .eq 11, 3) := by decide +kernel
theorem dX7_merge_182 : decode cX7_merge 182 = .ok (.aload_n 0, 1) := by decide +kernel
theorem dX7_merge_183 : decode cX7_merge 183 = .ok (.iload_n 1, 1) := by decide +kernel
theorem dX7_merge_184 : decode cX7_merge 184 = .ok (.iload_n 2, 1) := by decide +kernel
theorem dX7_merge_185 : decode cX7_merge 185 = .ok (.iload 5, 2) := by decide +kernel
theorem dX7_merge_187 : decode cX7_merge 187 = .ok (.invokevirtual 133, 3) := by decide +kernel
theorem dX7_merge_190 : decode cX7_merge 190 = .ok (.aload_n 0, 1) := by decide +kernel
theorem dX7_merge_191 : decode cX7_merge 191 = .ok (.getfield 19, 3) := by decide +kernel
theorem dX7_merge_194 : decode cX7_merge 194 = .ok (.iload_n 1, 1) := by decide +kernel
theorem dX7_merge_195 : decode cX7_merge 195 = .ok (.iload 5, 2) := by decide +kernel
theorem dX7_merge_197 : decode cX7_merge 197 = .ok (.invokestatic 65, 3) := by decide +kernel
theorem dX7_merge_200 : decode cX7_merge 200 = .ok (.baload, 1) := by decide +kernel
theorem dX7_merge_201 : decode cX7_merge 201 = .ok (.ifCond .ne 25, 3) := by decide +kernel
theorem dX7_merge_204 : decode cX7_merge 204 = .ok (.aload_n 0, 1) := by decide +kernel
theorem dX7_merge_205 : decode cX7_merge 205 = .ok (.getfield 19, 3) := by decide +kernel
theorem dX7_merge_208 : decode cX7_merge 208 = .ok (.iload_n 2, 1) := by decide +kernel
theorem dX7_merge_209 : decode cX7_merge 209 = .ok (.iload 5, 2) := by decide +kernel
theorem dX7_merge_211 : decode cX7_merge 211 = .ok (.invokestatic 65, 3) := by decide +kernel
theorem dX7_merge_214 : decode cX7_merge 214 = .ok (.baload, 1) := by decide +kernel
theorem dX7_merge_215 : decode cX7_merge 215 = .ok (.ifCond .ne 11, 3) := by decide +kernel
theorem dX7_merge_218 : decode cX7_merge 218 = .ok (.aload_n 0, 1) := by decide +kernel
theorem dX7_merge_219 : decode cX7_merge 219 = .ok (.iload_n 1, 1) := by decide +kernel
theorem dX7_merge_220 : decode cX7_merge 220 = .ok (.iload_n 2, 1) := by decide +kernel
theorem dX7_merge_221 : decode cX7_merge 221 = .ok (.iload 5, 2) := by decide +kernel
theorem dX7_merge_223 : decode cX7_merge 223 = .ok (.invokevirtual 137, 3) := by decide +kernel
theorem dX7_merge_226 : decode cX7_merge 226 = .ok (.iinc 5 1, 3) := by decide +kernel
theorem dX7_merge_229 : decode cX7_merge 229 = .ok (.goto (-171), 3) := by decide +kernel
theorem dX7_merge_232 : decode cX7_merge 232 = .ok (.bipush 100, 2) := by decide +kernel
theorem dX7_merge_234 : decode cX7_merge 234 = .ok (.iload 4, 2) := by decide +kernel
theorem dX7_merge_236 : decode cX7_merge 236 = .ok (.imul, 1) := by decide +kernel
theorem dX7_merge_237 : decode cX7_merge 237 = .ok (.aload_n 0, 1) := by decide +kernel
theorem dX7_merge_238 : decode cX7_merge 238 = .ok (.getfield 114, 3) := by decide +kernel
theorem dX7_merge_241 : decode cX7_merge 241 = .ok (.iadd, 1) := by decide +kernel
theorem dX7_merge_242 : decode cX7_merge 242 = .ok (.ireturn, 1) := by decide +kernel
theorem dX7_isAged_0 : decode cX7_isAged 0 = .ok (.iconst 0, 1) := by decide +kernel
theorem dX7_isAged_1 : decode cX7_isAged 1 = .ok (.istore_n 3, 1) := by decide +kernel
theorem dX7_isAged_2 : decode cX7_isAged 2 = .ok (.iconst 1, 1) := by decide +kernel
theorem dX7_isAged_3 : decode cX7_isAged 3 = .ok (.istore 4, 2) := by decide +kernel
theorem dX7_isAged_5 : decode cX7_isAged 5 = .ok (.iconst 0, 1) := by decide +kernel
theorem dX7_isAged_6 : decode cX7_isAged 6 = .ok (.istore 5, 2) := by decide +kernel
theorem dX7_isAged_8 : decode cX7_isAged 8 = .ok (.iload 5, 2) := by decide +kernel
theorem dX7_isAged_10 : decode cX7_isAged 10 = .ok (.aload_n 0, 1) := by decide +kernel
theorem dX7_isAged_11 : decode cX7_isAged 11 = .ok (.getfield 90, 3) := by decide +kernel
theorem dX7_isAged_14 : decode cX7_isAged 14 = .ok (.if_icmp .ge 69, 3) := by decide +kernel
theorem dX7_isAged_17 : decode cX7_isAged 17 = .ok (.aload_n 0, 1) := by decide +kernel
theorem dX7_isAged_18 : decode cX7_isAged 18 = .ok (.getfield 38, 3) := by decide +kernel
theorem dX7_isAged_21 : decode cX7_isAged 21 = .ok (.iload 5, 2) := by decide +kernel
theorem dX7_isAged_23 : decode cX7_isAged 23 = .ok (.iaload, 1) := by decide +kernel
theorem dX7_isAged_24 : decode cX7_isAged 24 = .ok (.iload_n 2, 1) := by decide +kernel
theorem dX7_isAged_25 : decode cX7_isAged 25 = .ok (.if_icmp .ne 52, 3) := by decide +kernel
theorem dX7_isAged_28 : decode cX7_isAged 28 = .ok (.aload_n 0, 1) := by decide +kernel
theorem dX7_isAged_29 : decode cX7_isAged 29 = .ok (.iload_n 1, 1) := by decide +kernel
theorem dX7_isAged_30 : decode cX7_isAged 30 = .ok (.iload 5, 2) := by decide +kernel
theorem dX7_isAged_32 : decode cX7_isAged 32 = .ok (.invokevirtual 93, 3) := by decide +kernel
theorem dX7_isAged_35 : decode cX7_isAged 35 = .ok (.ifCond .eq 42, 3) := by decide +kernel
theorem dX7_isAged_38 : decode cX7_isAged 38 = .ok (.iinc 3 1, 3) := by decide +kernel
theorem dX7_isAged_41 : decode cX7_isAged 41 = .ok (.iload 4, 2) := by decide +kernel
theorem dX7_isAged_43 : decode cX7_isAged 43 = .ok (.ifCond .eq 31, 3) := by decide +kernel
theorem dX7_isAged_46 : decode cX7_isAged 46 = .ok (.aload_n 0, 1) := by decide +kernel
theorem dX7_isAged_47 : decode cX7_isAged 47 = .ok (.getfield 108, 3) := by decide +kernel
theorem dX7_isAged_50 : decode cX7_isAged 50 = .ok (.iconst 1, 1) := by decide +kernel
theorem dX7_isAged_51 : decode cX7_isAged 51 = .ok (.iadd, 1) := by decide +kernel
theorem dX7_isAged_52 : decode cX7_isAged 52 = .ok (.aload_n 0, 1) := by decide +kernel
theorem dX7_isAged_53 : decode cX7_isAged 53 = .ok (.getfield 44, 3) := by decide +kernel
theorem dX7_isAged_56 : decode cX7_isAged 56 = .ok (.bipush 6, 2) := by decide +kernel
theorem dX7_isAged_58 : decode cX7_isAged 58 = .ok (.iload 5, 2) := by decide +kernel
theorem dX7_isAged_60 : decode cX7_isAged 60 = .ok (.imul, 1) := by decide +kernel
theorem dX7_isAged_61 : decode cX7_isAged 61 = .ok (.iload_n 1, 1) := by decide +kernel
theorem dX7_isAged_62 : decode cX7_isAged 62 = .ok (.iadd, 1) := by decide +kernel
theorem dX7_isAged_63 : decode cX7_isAged 63 = .ok (.iaload, 1) := by decide +kernel
theorem dX7_isAged_64 : decode cX7_isAged 64 = .ok (.isub, 1) := by decide +kernel
theorem dX7_isAged_65 : decode cX7_isAged 65 = .ok (.bipush 12, 2) := by decide +kernel
theorem dX7_isAged_67 : decode cX7_isAged 67 = .ok (.if_icmp .le 7, 3) := by decide +kernel
theorem dX7_isAged_70 : decode cX7_isAged 70 = .ok (.iconst 1, 1) := by decide +kernel
theorem dX7_isAged_71 : decode cX7_isAged 71 = .ok (.goto 4, 3) := by decide +kernel
theorem dX7_isAged_74 : decode cX7_isAged 74 = .ok (.iconst 0, 1) := by decide +kernel
theorem dX7_isAged_75 : decode cX7_isAged 75 = .ok (.istore 4, 2) := by decide +kernel
theorem dX7_isAged_77 : decode cX7_isAged 77 = .ok (.iinc 5 1, 3) := by decide +kernel
theorem dX7_isAged_80 : decode cX7_isAged 80 = .ok (.goto (-72), 3) := by decide +kernel
theorem dX7_isAged_83 : decode cX7_isAged 83 = .ok (.iload 4, 2) := by decide +kernel
theorem dX7_isAged_85 : decode cX7_isAged 85 = .ok (.ifCond .eq 11, 3) := by decide +kernel
theorem dX7_isAged_88 : decode cX7_isAged 88 = .ok (.iload_n 3, 1) := by decide +kernel
theorem dX7_isAged_89 : decode cX7_isAged 89 = .ok (.ifCond .le 7, 3) := by decide +kernel
theorem dX7_isAged_92 : decode cX7_isAged 92 = .ok (.iconst 1, 1) := by decide +kernel
theorem dX7_isAged_93 : decode cX7_isAged 93 = .ok (.goto 4, 3) := by decide +kernel
theorem dX7_isAged_96 : decode cX7_isAged 96 = .ok (.iconst 0, 1) := by decide +kernel
theorem dX7_isAged_97 : decode cX7_isAged 97 = .ok (.ireturn, 1) := by decide +kernel
theorem dX7_pass_0 : decode cX7_pass 0 = .ok (.aload_n 0, 1) := by decide +kernel
theorem dX7_pass_1 : decode cX7_pass 1 = .ok (.iload_n 1, 1) := by decide +kernel
theorem dX7_pass_2 : decode cX7_pass 2 = .ok (.iconst 1, 1) := by decide +kernel
theorem dX7_pass_3 : decode cX7_pass 3 = .ok (.bipush 24, 2) := by decide +kernel
theorem dX7_pass_5 : decode cX7_pass 5 = .ok (.invokestatic 51, 3) := by decide +kernel
theorem dX7_pass_8 : decode cX7_pass 8 = .ok (.ifCond .eq 7, 3) := by decide +kernel
theorem dX7_pass_11 : decode cX7_pass 11 = .ok (.iconst 0, 1) := by decide +kernel
theorem dX7_pass_12 : decode cX7_pass 12 = .ok (.goto 4, 3) := by decide +kernel
theorem dX7_pass_15 : decode cX7_pass 15 = .ok (.iconst 1, 1) := by decide +kernel
theorem dX7_pass_16 : decode cX7_pass 16 = .ok (.invokevirtual 69, 3) := by decide +kernel
theorem dX7_pass_19 : decode cX7_pass 19 = .ok (.ifCond .eq 5, 3) := by decide +kernel
theorem dX7_pass_22 : decode cX7_pass 22 = .ok (.iconst 0, 1) := by decide +kernel
theorem dX7_pass_23 : decode cX7_pass 23 = .ok (.ireturn, 1) := by decide +kernel
theorem dX7_pass_24 : decode cX7_pass 24 = .ok (.aload_n 0, 1) := by decide +kernel
theorem dX7_pass_25 : decode cX7_pass 25 = .ok (.dup, 1) := by decide +kernel
theorem dX7_pass_26 : decode cX7_pass 26 = .ok (.getfield 108, 3) := by decide +kernel
theorem dX7_pass_29 : decode cX7_pass 29 = .ok (.iload_n 1, 1) := by decide +kernel
theorem dX7_pass_30 : decode cX7_pass 30 = .ok (.iadd, 1) := by decide +kernel
theorem dX7_pass_31 : decode cX7_pass 31 = .ok (.putfield 108, 3) := by decide +kernel
theorem dX7_pass_34 : decode cX7_pass 34 = .ok (.iconst 0, 1) := by decide +kernel
theorem dX7_pass_35 : decode cX7_pass 35 = .ok (.istore_n 2, 1) := by decide +kernel
theorem dX7_pass_36 : decode cX7_pass 36 = .ok (.iconst 0, 1) := by decide +kernel
theorem dX7_pass_37 : decode cX7_pass 37 = .ok (.istore_n 3, 1) := by decide +kernel
theorem dX7_pass_38 : decode cX7_pass 38 = .ok (.iload_n 3, 1) := by decide +kernel
theorem dX7_pass_39 : decode cX7_pass 39 = .ok (.bipush 6, 2) := by decide +kernel
theorem dX7_pass_41 : decode cX7_pass 41 = .ok (.if_icmp .ge 71, 3) := by decide +kernel
theorem dX7_pass_44 : decode cX7_pass 44 = .ok (.iconst 0, 1) := by decide +kernel
theorem dX7_pass_45 : decode cX7_pass 45 = .ok (.istore 4, 2) := by decide +kernel
theorem dX7_pass_47 : decode cX7_pass 47 = .ok (.iload 4, 2) := by decide +kernel
theorem dX7_pass_49 : decode cX7_pass 49 = .ok (.aload_n 0, 1) := by decide +kernel
theorem dX7_pass_50 : decode cX7_pass 50 = .ok (.getfield 55, 3) := by decide +kernel
theorem dX7_pass_53 : decode cX7_pass 53 = .ok (.if_icmp .ge 53, 3) := by decide +kernel
theorem dX7_pass_56 : decode cX7_pass 56 = .ok (.aload_n 0, 1) := by decide +kernel
theorem dX7_pass_57 : decode cX7_pass 57 = .ok (.getfield 19, 3) := by decide +kernel
theorem dX7_pass_60 : decode cX7_pass 60 = .ok (.iload_n 3, 1) := by decide +kernel
theorem dX7_pass_61 : decode cX7_pass 61 = .ok (.iload 4, 2) := by decide +kernel
theorem dX7_pass_63 : decode cX7_pass 63 = .ok (.invokestatic 65, 3) := by decide +kernel
theorem dX7_pass_66 : decode cX7_pass 66 = .ok (.baload, 1) := by decide +kernel
theorem dX7_pass_67 : decode cX7_pass 67 = .ok (.ifCond .eq 33, 3) := by decide +kernel
theorem dX7_pass_70 : decode cX7_pass 70 = .ok (.aload_n 0, 1) := by decide +kernel
theorem dX7_pass_71 : decode cX7_pass 71 = .ok (.iload_n 3, 1) := by decide +kernel
theorem dX7_pass_72 : decode cX7_pass 72 = .ok (.iload 4, 2) := by decide +kernel
theorem dX7_pass_74 : decode cX7_pass 74 = .ok (.invokevirtual 105, 3) := by decide +kernel
theorem dX7_pass_77 : decode cX7_pass 77 = .ok (.ifCond .ne 23, 3) := by decide +kernel
theorem dX7_pass_80 : decode cX7_pass 80 = .ok (.aload_n 0, 1) := by decide +kernel
theorem dX7_pass_81 : decode cX7_pass 81 = .ok (.iload_n 3, 1) := by decide +kernel
theorem dX7_pass_82 : decode cX7_pass 82 = .ok (.iload 4, 2) := by decide +kernel
theorem dX7_pass_84 : decode cX7_pass 84 = .ok (.invokevirtual 140, 3) := by decide +kernel
theorem dX7_pass_87 : decode cX7_pass 87 = .ok (.ifCond .eq 13, 3) := by decide +kernel
theorem dX7_pass_90 : decode cX7_pass 90 = .ok (.aload_n 0, 1) := by decide +kernel
theorem dX7_pass_91 : decode cX7_pass 91 = .ok (.iload_n 3, 1) := by decide +kernel
theorem dX7_pass_92 : decode cX7_pass 92 = .ok (.iload 4, 2) := by decide +kernel
theorem dX7_pass_94 : decode cX7_pass 94 = .ok (.invokevirtual 130, 3) := by decide +kernel
theorem dX7_pass_97 : decode cX7_pass 97 = .ok (.iinc 2 1, 3) := by decide +kernel
theorem dX7_pass_100 : decode cX7_pass 100 = .ok (.iinc 4 1, 3) := by decide +kernel
theorem dX7_pass_103 : decode cX7_pass 103 = .ok (.goto (-56), 3) := by decide +kernel
theorem dX7_pass_106 : decode cX7_pass 106 = .ok (.iinc 3 1, 3) := by decide +kernel
theorem dX7_pass_109 : decode cX7_pass 109 = .ok (.goto (-71), 3) := by decide +kernel
theorem dX7_pass_112 : decode cX7_pass 112 = .ok (.iload_n 2, 1) := by decide +kernel
theorem dX7_pass_113 : decode cX7_pass 113 = .ok (.ireturn, 1) := by decide +kernel
theorem dX7_state_0 : decode cX7_state 0 = .ok (.iload_n 1, 1) := by decide +kernel
theorem dX7_state_1 : decode cX7_state 1 = .ok (.invokestatic 58, 3) := by decide +kernel
theorem dX7_state_4 : decode cX7_state 4 = .ok (.ifCond .eq 15, 3) := by decide +kernel
theorem dX7_state_7 : decode cX7_state 7 = .ok (.aload_n 0, 1) := by decide +kernel
theorem dX7_state_8 : decode cX7_state 8 = .ok (.iload_n 2, 1) := by decide +kernel
theorem dX7_state_9 : decode cX7_state 9 = .ok (.invokevirtual 62, 3) := by decide +kernel
theorem dX7_state_12 : decode cX7_state 12 = .ok (.ifCond .eq 7, 3) := by decide +kernel
theorem dX7_state_15 : decode cX7_state 15 = .ok (.iconst 1, 1) := by decide +kernel
theorem dX7_state_16 : decode cX7_state 16 = .ok (.goto 4, 3) := by decide +kernel
theorem dX7_state_19 : decode cX7_state 19 = .ok (.iconst 0, 1) := by decide +kernel
theorem dX7_state_20 : decode cX7_state 20 = .ok (.istore_n 3, 1) := by decide +kernel
theorem dX7_state_21 : decode cX7_state 21 = .ok (.aload_n 0, 1) := by decide +kernel
theorem dX7_state_22 : decode cX7_state 22 = .ok (.iload_n 3, 1) := by decide +kernel
theorem dX7_state_23 : decode cX7_state 23 = .ok (.ifCond .eq 7, 3) := by decide +kernel
theorem dX7_state_26 : decode cX7_state 26 = .ok (.iconst 0, 1) := by decide +kernel
theorem dX7_state_27 : decode cX7_state 27 = .ok (.goto 4, 3) := by decide +kernel
theorem dX7_state_30 : decode cX7_state 30 = .ok (.iconst 1, 1) := by decide +kernel
theorem dX7_state_31 : decode cX7_state 31 = .ok (.invokevirtual 69, 3) := by decide +kernel
theorem dX7_state_34 : decode cX7_state 34 = .ok (.ifCond .ne 16, 3) := by decide +kernel
theorem dX7_state_37 : decode cX7_state 37 = .ok (.aload_n 0, 1) := by decide +kernel
theorem dX7_state_38 : decode cX7_state 38 = .ok (.getfield 19, 3) := by decide +kernel
theorem dX7_state_41 : decode cX7_state 41 = .ok (.iload_n 1, 1) := by decide +kernel
theorem dX7_state_42 : decode cX7_state 42 = .ok (.iload_n 2, 1) := by decide +kernel
theorem dX7_state_43 : decode cX7_state 43 = .ok (.invokestatic 65, 3) := by decide +kernel
theorem dX7_state_46 : decode cX7_state 46 = .ok (.baload, 1) := by decide +kernel
theorem dX7_state_47 : decode cX7_state 47 = .ok (.ifCond .ne 5, 3) := by decide +kernel
theorem dX7_state_50 : decode cX7_state 50 = .ok (.iconst 0, 1) := by decide +kernel
theorem dX7_state_51 : decode cX7_state 51 = .ok (.ireturn, 1) := by decide +kernel
theorem dX7_state_52 : decode cX7_state 52 = .ok (.aload_n 0, 1) := by decide +kernel
theorem dX7_state_53 : decode cX7_state 53 = .ok (.iload_n 1, 1) := by decide +kernel
theorem dX7_state_54 : decode cX7_state 54 = .ok (.iload_n 2, 1) := by decide +kernel
theorem dX7_state_55 : decode cX7_state 55 = .ok (.invokevirtual 105, 3) := by decide +kernel
theorem dX7_state_58 : decode cX7_state 58 = .ok (.ifCond .eq 7, 3) := by decide +kernel
theorem dX7_state_61 : decode cX7_state 61 = .ok (.iconst 1, 1) := by decide +kernel
theorem dX7_state_62 : decode cX7_state 62 = .ok (.goto 17, 3) := by decide +kernel
theorem dX7_state_65 : decode cX7_state 65 = .ok (.aload_n 0, 1) := by decide +kernel
theorem dX7_state_66 : decode cX7_state 66 = .ok (.iload_n 1, 1) := by decide +kernel
theorem dX7_state_67 : decode cX7_state 67 = .ok (.iload_n 2, 1) := by decide +kernel
theorem dX7_state_68 : decode cX7_state 68 = .ok (.invokevirtual 102, 3) := by decide +kernel
theorem dX7_state_71 : decode cX7_state 71 = .ok (.ifCond .eq 7, 3) := by decide +kernel
theorem dX7_state_74 : decode cX7_state 74 = .ok (.iconst 2, 1) := by decide +kernel
theorem dX7_state_75 : decode cX7_state 75 = .ok (.goto 4, 3) := by decide +kernel
theorem dX7_state_78 : decode cX7_state 78 = .ok (.iconst 3, 1) := by decide +kernel
theorem dX7_state_79 : decode cX7_state 79 = .ok (.ireturn, 1) := by decide +kernel
theorem dX7_teller_0 : decode cX7_teller 0 = .ok (.iload 4, 2) := by decide +kernel
theorem dX7_teller_2 : decode cX7_teller 2 = .ok (.istore 5, 2) := by decide +kernel
theorem dX7_teller_4 : decode cX7_teller 4 = .ok (.iconst 0, 1) := by decide +kernel
theorem dX7_teller_5 : decode cX7_teller 5 = .ok (.istore 6, 2) := by decide +kernel
theorem dX7_teller_7 : decode cX7_teller 7 = .ok (.iload 6, 2) := by decide +kernel
theorem dX7_teller_9 : decode cX7_teller 9 = .ok (.bipush 6, 2) := by decide +kernel
theorem dX7_teller_11 : decode cX7_teller 11 = .ok (.if_icmp .ge 36, 3) := by decide +kernel
theorem dX7_teller_14 : decode cX7_teller 14 = .ok (.aload_n 0, 1) := by decide +kernel
theorem dX7_teller_15 : decode cX7_teller 15 = .ok (.getfield 23, 3) := by decide +kernel
theorem dX7_teller_18 : decode cX7_teller 18 = .ok (.iload_n 1, 1) := by decide +kernel
theorem dX7_teller_19 : decode cX7_teller 19 = .ok (.iload_n 2, 1) := by decide +kernel
theorem dX7_teller_20 : decode cX7_teller 20 = .ok (.iload_n 3, 1) := by decide +kernel
theorem dX7_teller_21 : decode cX7_teller 21 = .ok (.iload 6, 2) := by decide +kernel
theorem dX7_teller_23 : decode cX7_teller 23 = .ok (.invokestatic 72, 3) := by decide +kernel
theorem dX7_teller_26 : decode cX7_teller 26 = .ok (.iaload, 1) := by decide +kernel
theorem dX7_teller_27 : decode cX7_teller 27 = .ok (.ifCond .le 14, 3) := by decide +kernel
theorem dX7_teller_30 : decode cX7_teller 30 = .ok (.iload 5, 2) := by decide +kernel
theorem dX7_teller_32 : decode cX7_teller 32 = .ok (.ifCond .ne 6, 3) := by decide +kernel
theorem dX7_teller_35 : decode cX7_teller 35 = .ok (.iload 6, 2) := by decide +kernel
theorem dX7_teller_37 : decode cX7_teller 37 = .ok (.ireturn, 1) := by decide +kernel
theorem dX7_teller_38 : decode cX7_teller 38 = .ok (.iinc 5 (-1), 3) := by decide +kernel
theorem dX7_teller_41 : decode cX7_teller 41 = .ok (.iinc 6 1, 3) := by decide +kernel
theorem dX7_teller_44 : decode cX7_teller 44 = .ok (.goto (-37), 3) := by decide +kernel
theorem dX7_teller_47 : decode cX7_teller 47 = .ok (.bipush 6, 2) := by decide +kernel
theorem dX7_teller_49 : decode cX7_teller 49 = .ok (.ireturn, 1) := by decide +kernel
theorem dX7_valueOf_0 : decode cX7_valueOf 0 = .ok (.aload_n 0, 1) := by decide +kernel
theorem dX7_valueOf_1 : decode cX7_valueOf 1 = .ok (.iload_n 1, 1) := by decide +kernel
theorem dX7_valueOf_2 : decode cX7_valueOf 2 = .ok (.iload_n 2, 1) := by decide +kernel
theorem dX7_valueOf_3 : decode cX7_valueOf 3 = .ok (.invokevirtual 80, 3) := by decide +kernel
theorem dX7_valueOf_6 : decode cX7_valueOf 6 = .ok (.ifCond .eq 19, 3) := by decide +kernel
theorem dX7_valueOf_9 : decode cX7_valueOf 9 = .ok (.iload_n 3, 1) := by decide +kernel
theorem dX7_valueOf_10 : decode cX7_valueOf 10 = .ok (.invokestatic 84, 3) := by decide +kernel
theorem dX7_valueOf_13 : decode cX7_valueOf 13 = .ok (.ifCond .eq 12, 3) := by decide +kernel
theorem dX7_valueOf_16 : decode cX7_valueOf 16 = .ok (.iload 4, 2) := by decide +kernel
theorem dX7_valueOf_18 : decode cX7_valueOf 18 = .ok (.ifCond .lt 7, 3) := by decide +kernel
theorem dX7_valueOf_21 : decode cX7_valueOf 21 = .ok (.iconst 1, 1) := by decide +kernel
theorem dX7_valueOf_22 : decode cX7_valueOf 22 = .ok (.goto 4, 3) := by decide +kernel
theorem dX7_valueOf_25 : decode cX7_valueOf 25 = .ok (.iconst 0, 1) := by decide +kernel
theorem dX7_valueOf_26 : decode cX7_valueOf 26 = .ok (.istore 5, 2) := by decide +kernel
theorem dX7_valueOf_28 : decode cX7_valueOf 28 = .ok (.iload 5, 2) := by decide +kernel
theorem dX7_valueOf_30 : decode cX7_valueOf 30 = .ok (.ifCond .eq 15, 3) := by decide +kernel
theorem dX7_valueOf_33 : decode cX7_valueOf 33 = .ok (.aload_n 0, 1) := by decide +kernel
theorem dX7_valueOf_34 : decode cX7_valueOf 34 = .ok (.iload_n 1, 1) := by decide +kernel
theorem dX7_valueOf_35 : decode cX7_valueOf 35 = .ok (.iload_n 2, 1) := by decide +kernel
theorem dX7_valueOf_36 : decode cX7_valueOf 36 = .ok (.iload_n 3, 1) := by decide +kernel
theorem dX7_valueOf_37 : decode cX7_valueOf 37 = .ok (.iload 4, 2) := by decide +kernel
theorem dX7_valueOf_39 : decode cX7_valueOf 39 = .ok (.invokevirtual 143, 3) := by decide +kernel
theorem dX7_valueOf_42 : decode cX7_valueOf 42 = .ok (.goto 5, 3) := by decide +kernel
theorem dX7_valueOf_45 : decode cX7_valueOf 45 = .ok (.bipush 6, 2) := by decide +kernel
theorem dX7_valueOf_47 : decode cX7_valueOf 47 = .ok (.istore 6, 2) := by decide +kernel
theorem dX7_valueOf_49 : decode cX7_valueOf 49 = .ok (.aload_n 0, 1) := by decide +kernel
theorem dX7_valueOf_50 : decode cX7_valueOf 50 = .ok (.iload 6, 2) := by decide +kernel
theorem dX7_valueOf_52 : decode cX7_valueOf 52 = .ok (.bipush 6, 2) := by decide +kernel
theorem dX7_valueOf_54 : decode cX7_valueOf 54 = .ok (.if_icmp .ge 7, 3) := by decide +kernel
theorem dX7_valueOf_57 : decode cX7_valueOf 57 = .ok (.iconst 0, 1) := by decide +kernel
theorem dX7_valueOf_58 : decode cX7_valueOf 58 = .ok (.goto 4, 3) := by decide +kernel
theorem dX7_valueOf_61 : decode cX7_valueOf 61 = .ok (.iconst 1, 1) := by decide +kernel
theorem dX7_valueOf_62 : decode cX7_valueOf 62 = .ok (.invokevirtual 69, 3) := by decide +kernel
theorem dX7_valueOf_65 : decode cX7_valueOf 65 = .ok (.ifCond .eq 7, 3) := by decide +kernel
theorem dX7_valueOf_68 : decode cX7_valueOf 68 = .ok (.iconst 0, 1) := by decide +kernel
theorem dX7_valueOf_69 : decode cX7_valueOf 69 = .ok (.goto 16, 3) := by decide +kernel
theorem dX7_valueOf_72 : decode cX7_valueOf 72 = .ok (.aload_n 0, 1) := by decide +kernel
theorem dX7_valueOf_73 : decode cX7_valueOf 73 = .ok (.getfield 26, 3) := by decide +kernel
theorem dX7_valueOf_76 : decode cX7_valueOf 76 = .ok (.iload_n 1, 1) := by decide +kernel
theorem dX7_valueOf_77 : decode cX7_valueOf 77 = .ok (.iload_n 2, 1) := by decide +kernel
theorem dX7_valueOf_78 : decode cX7_valueOf 78 = .ok (.iload_n 3, 1) := by decide +kernel
theorem dX7_valueOf_79 : decode cX7_valueOf 79 = .ok (.iload 6, 2) := by decide +kernel
theorem dX7_valueOf_81 : decode cX7_valueOf 81 = .ok (.invokestatic 72, 3) := by decide +kernel
theorem dX7_valueOf_84 : decode cX7_valueOf 84 = .ok (.iaload, 1) := by decide +kernel
theorem dX7_valueOf_85 : decode cX7_valueOf 85 = .ok (.ireturn, 1) := by decide +kernel
theorem dX7_value_0 : decode cX7_value 0 = .ok (.aload_n 0, 1) := by decide +kernel
theorem dX7_value_1 : decode cX7_value 1 = .ok (.iload_n 1, 1) := by decide +kernel
theorem dX7_value_2 : decode cX7_value 2 = .ok (.iload_n 2, 1) := by decide +kernel
theorem dX7_value_3 : decode cX7_value 3 = .ok (.iload_n 3, 1) := by decide +kernel
theorem dX7_value_4 : decode cX7_value 4 = .ok (.iload 4, 2) := by decide +kernel
theorem dX7_value_6 : decode cX7_value 6 = .ok (.invokevirtual 146, 3) := by decide +kernel
theorem dX7_value_9 : decode cX7_value 9 = .ok (.ireturn, 1) := by decide +kernel
theorem dX7_valueAnew_0 : decode cX7_valueAnew 0 = .ok (.aload_n 0, 1) := by decide +kernel
theorem dX7_valueAnew_1 : decode cX7_valueAnew 1 = .ok (.iload_n 1, 1) := by decide +kernel
theorem dX7_valueAnew_2 : decode cX7_valueAnew 2 = .ok (.iload_n 2, 1) := by decide +kernel
theorem dX7_valueAnew_3 : decode cX7_valueAnew 3 = .ok (.iload_n 3, 1) := by decide +kernel
theorem dX7_valueAnew_4 : decode cX7_valueAnew 4 = .ok (.iload 4, 2) := by decide +kernel
theorem dX7_valueAnew_6 : decode cX7_valueAnew 6 = .ok (.invokevirtual 146, 3) := by decide +kernel
theorem dX7_valueAnew_9 : decode cX7_valueAnew 9 = .ok (.ireturn, 1) := by decide +kernel
theorem dX7_values_0 : decode cX7_values 0 = .ok (.aload_n 0, 1) := by decide +kernel
theorem dX7_values_1 : decode cX7_values 1 = .ok (.iload_n 1, 1) := by decide +kernel
theorem dX7_values_2 : decode cX7_values 2 = .ok (.iload_n 2, 1) := by decide +kernel
theorem dX7_values_3 : decode cX7_values 3 = .ok (.invokevirtual 80, 3) := by decide +kernel
theorem dX7_values_6 : decode cX7_values 6 = .ok (.ifCond .eq 14, 3) := by decide +kernel
theorem dX7_values_9 : decode cX7_values 9 = .ok (.iload_n 3, 1) := by decide +kernel
theorem dX7_values_10 : decode cX7_values 10 = .ok (.invokestatic 84, 3) := by decide +kernel
theorem dX7_values_13 : decode cX7_values 13 = .ok (.ifCond .eq 7, 3) := by decide +kernel
theorem dX7_values_16 : decode cX7_values 16 = .ok (.iconst 1, 1) := by decide +kernel
theorem dX7_values_17 : decode cX7_values 17 = .ok (.goto 4, 3) := by decide +kernel
theorem dX7_values_20 : decode cX7_values 20 = .ok (.iconst 0, 1) := by decide +kernel
theorem dX7_values_21 : decode cX7_values 21 = .ok (.istore 4, 2) := by decide +kernel
theorem dX7_values_23 : decode cX7_values 23 = .ok (.aload_n 0, 1) := by decide +kernel
theorem dX7_values_24 : decode cX7_values 24 = .ok (.iload 4, 2) := by decide +kernel
theorem dX7_values_26 : decode cX7_values 26 = .ok (.ifCond .eq 7, 3) := by decide +kernel
theorem dX7_values_29 : decode cX7_values 29 = .ok (.iconst 0, 1) := by decide +kernel
theorem dX7_values_30 : decode cX7_values 30 = .ok (.goto 4, 3) := by decide +kernel
theorem dX7_values_33 : decode cX7_values 33 = .ok (.iconst 1, 1) := by decide +kernel
theorem dX7_values_34 : decode cX7_values 34 = .ok (.invokevirtual 69, 3) := by decide +kernel
theorem dX7_values_37 : decode cX7_values 37 = .ok (.ifCond .eq 7, 3) := by decide +kernel
theorem dX7_values_40 : decode cX7_values 40 = .ok (.iconst 0, 1) := by decide +kernel
theorem dX7_values_41 : decode cX7_values 41 = .ok (.goto 10, 3) := by decide +kernel
theorem dX7_values_44 : decode cX7_values 44 = .ok (.aload_n 0, 1) := by decide +kernel
theorem dX7_values_45 : decode cX7_values 45 = .ok (.iload_n 1, 1) := by decide +kernel
theorem dX7_values_46 : decode cX7_values 46 = .ok (.iload_n 2, 1) := by decide +kernel
theorem dX7_values_47 : decode cX7_values 47 = .ok (.iload_n 3, 1) := by decide +kernel
theorem dX7_values_48 : decode cX7_values 48 = .ok (.invokevirtual 76, 3) := by decide +kernel
theorem dX7_values_51 : decode cX7_values 51 = .ok (.ireturn, 1) := by decide +kernel
theorem dX7_seen_0 : decode cX7_seen 0 = .ok (.aload_n 0, 1) := by decide +kernel
theorem dX7_seen_1 : decode cX7_seen 1 = .ok (.iload_n 1, 1) := by decide +kernel
theorem dX7_seen_2 : decode cX7_seen 2 = .ok (.iload_n 2, 1) := by decide +kernel
theorem dX7_seen_3 : decode cX7_seen 3 = .ok (.invokevirtual 80, 3) := by decide +kernel
theorem dX7_seen_6 : decode cX7_seen 6 = .ok (.ifCond .eq 22, 3) := by decide +kernel
theorem dX7_seen_9 : decode cX7_seen 9 = .ok (.iload_n 3, 1) := by decide +kernel
theorem dX7_seen_10 : decode cX7_seen 10 = .ok (.invokestatic 84, 3) := by decide +kernel
theorem dX7_seen_13 : decode cX7_seen 13 = .ok (.ifCond .eq 15, 3) := by decide +kernel
theorem dX7_seen_16 : decode cX7_seen 16 = .ok (.iload 4, 2) := by decide +kernel
theorem dX7_seen_18 : decode cX7_seen 18 = .ok (.invokestatic 58, 3) := by decide +kernel
theorem dX7_seen_21 : decode cX7_seen 21 = .ok (.ifCond .eq 7, 3) := by decide +kernel
theorem dX7_seen_24 : decode cX7_seen 24 = .ok (.iconst 1, 1) := by decide +kernel
theorem dX7_seen_25 : decode cX7_seen 25 = .ok (.goto 4, 3) := by decide +kernel
theorem dX7_seen_28 : decode cX7_seen 28 = .ok (.iconst 0, 1) := by decide +kernel
theorem dX7_seen_29 : decode cX7_seen 29 = .ok (.istore 5, 2) := by decide +kernel
theorem dX7_seen_31 : decode cX7_seen 31 = .ok (.aload_n 0, 1) := by decide +kernel
theorem dX7_seen_32 : decode cX7_seen 32 = .ok (.iload 5, 2) := by decide +kernel
theorem dX7_seen_34 : decode cX7_seen 34 = .ok (.ifCond .eq 7, 3) := by decide +kernel
theorem dX7_seen_37 : decode cX7_seen 37 = .ok (.iconst 0, 1) := by decide +kernel
theorem dX7_seen_38 : decode cX7_seen 38 = .ok (.goto 4, 3) := by decide +kernel
theorem dX7_seen_41 : decode cX7_seen 41 = .ok (.iconst 1, 1) := by decide +kernel
theorem dX7_seen_42 : decode cX7_seen 42 = .ok (.invokevirtual 69, 3) := by decide +kernel
theorem dX7_seen_45 : decode cX7_seen 45 = .ok (.ifCond .eq 7, 3) := by decide +kernel
theorem dX7_seen_48 : decode cX7_seen 48 = .ok (.iconst 0, 1) := by decide +kernel
theorem dX7_seen_49 : decode cX7_seen 49 = .ok (.goto 16, 3) := by decide +kernel
theorem dX7_seen_52 : decode cX7_seen 52 = .ok (.aload_n 0, 1) := by decide +kernel
theorem dX7_seen_53 : decode cX7_seen 53 = .ok (.getfield 29, 3) := by decide +kernel
theorem dX7_seen_56 : decode cX7_seen 56 = .ok (.iload_n 1, 1) := by decide +kernel
theorem dX7_seen_57 : decode cX7_seen 57 = .ok (.iload_n 2, 1) := by decide +kernel
theorem dX7_seen_58 : decode cX7_seen 58 = .ok (.iload_n 3, 1) := by decide +kernel
theorem dX7_seen_59 : decode cX7_seen 59 = .ok (.iload 4, 2) := by decide +kernel
theorem dX7_seen_61 : decode cX7_seen 61 = .ok (.invokestatic 72, 3) := by decide +kernel
theorem dX7_seen_64 : decode cX7_seen 64 = .ok (.iaload, 1) := by decide +kernel
theorem dX7_seen_65 : decode cX7_seen 65 = .ok (.ireturn, 1) := by decide +kernel
theorem dX7_marks_0 : decode cX7_marks 0 = .ok (.aload_n 0, 1) := by decide +kernel
theorem dX7_marks_1 : decode cX7_marks 1 = .ok (.aload_n 0, 1) := by decide +kernel
theorem dX7_marks_2 : decode cX7_marks 2 = .ok (.iload_n 1, 1) := by decide +kernel
theorem dX7_marks_3 : decode cX7_marks 3 = .ok (.iload_n 2, 1) := by decide +kernel
theorem dX7_marks_4 : decode cX7_marks 4 = .ok (.invokevirtual 80, 3) := by decide +kernel
theorem dX7_marks_7 : decode cX7_marks 7 = .ok (.ifCond .eq 7, 3) := by decide +kernel
theorem dX7_marks_10 : decode cX7_marks 10 = .ok (.iconst 0, 1) := by decide +kernel
theorem dX7_marks_11 : decode cX7_marks 11 = .ok (.goto 4, 3) := by decide +kernel
theorem dX7_marks_14 : decode cX7_marks 14 = .ok (.iconst 1, 1) := by decide +kernel
theorem dX7_marks_15 : decode cX7_marks 15 = .ok (.invokevirtual 69, 3) := by decide +kernel
theorem dX7_marks_18 : decode cX7_marks 18 = .ok (.ifCond .eq 5, 3) := by decide +kernel
theorem dX7_marks_21 : decode cX7_marks 21 = .ok (.iconst 0, 1) := by decide +kernel
theorem dX7_marks_22 : decode cX7_marks 22 = .ok (.ireturn, 1) := by decide +kernel
theorem dX7_marks_23 : decode cX7_marks 23 = .ok (.iconst 0, 1) := by decide +kernel
theorem dX7_marks_24 : decode cX7_marks 24 = .ok (.istore_n 3, 1) := by decide +kernel
theorem dX7_marks_25 : decode cX7_marks 25 = .ok (.iconst 0, 1) := by decide +kernel
theorem dX7_marks_26 : decode cX7_marks 26 = .ok (.istore 4, 2) := by decide +kernel
theorem dX7_marks_28 : decode cX7_marks 28 = .ok (.iconst 0, 1) := by decide +kernel
theorem dX7_marks_29 : decode cX7_marks 29 = .ok (.istore 5, 2) := by decide +kernel
theorem dX7_marks_31 : decode cX7_marks 31 = .ok (.iload 5, 2) := by decide +kernel
theorem dX7_marks_33 : decode cX7_marks 33 = .ok (.aload_n 0, 1) := by decide +kernel
theorem dX7_marks_34 : decode cX7_marks 34 = .ok (.getfield 90, 3) := by decide +kernel
theorem dX7_marks_37 : decode cX7_marks 37 = .ok (.if_icmp .ge 52, 3) := by decide +kernel
theorem dX7_marks_40 : decode cX7_marks 40 = .ok (.aload_n 0, 1) := by decide +kernel
theorem dX7_marks_41 : decode cX7_marks 41 = .ok (.getfield 38, 3) := by decide +kernel
theorem dX7_marks_44 : decode cX7_marks 44 = .ok (.iload 5, 2) := by decide +kernel
theorem dX7_marks_46 : decode cX7_marks 46 = .ok (.iaload, 1) := by decide +kernel
theorem dX7_marks_47 : decode cX7_marks 47 = .ok (.iload_n 2, 1) := by decide +kernel
theorem dX7_marks_48 : decode cX7_marks 48 = .ok (.if_icmp .ne 35, 3) := by decide +kernel
theorem dX7_marks_51 : decode cX7_marks 51 = .ok (.aload_n 0, 1) := by decide +kernel
theorem dX7_marks_52 : decode cX7_marks 52 = .ok (.iload_n 1, 1) := by decide +kernel
theorem dX7_marks_53 : decode cX7_marks 53 = .ok (.iload 5, 2) := by decide +kernel
theorem dX7_marks_55 : decode cX7_marks 55 = .ok (.invokevirtual 93, 3) := by decide +kernel
theorem dX7_marks_58 : decode cX7_marks 58 = .ok (.ifCond .eq 25, 3) := by decide +kernel
theorem dX7_marks_61 : decode cX7_marks 61 = .ok (.iinc 3 1, 3) := by decide +kernel
theorem dX7_marks_64 : decode cX7_marks 64 = .ok (.iload 4, 2) := by decide +kernel
theorem dX7_marks_66 : decode cX7_marks 66 = .ok (.aload_n 0, 1) := by decide +kernel
theorem dX7_marks_67 : decode cX7_marks 67 = .ok (.getfield 44, 3) := by decide +kernel
theorem dX7_marks_70 : decode cX7_marks 70 = .ok (.bipush 6, 2) := by decide +kernel
theorem dX7_marks_72 : decode cX7_marks 72 = .ok (.iload 5, 2) := by decide +kernel
theorem dX7_marks_74 : decode cX7_marks 74 = .ok (.imul, 1) := by decide +kernel
theorem dX7_marks_75 : decode cX7_marks 75 = .ok (.iload_n 1, 1) := by decide +kernel
theorem dX7_marks_76 : decode cX7_marks 76 = .ok (.iadd, 1) := by decide +kernel
theorem dX7_marks_77 : decode cX7_marks 77 = .ok (.iaload, 1) := by decide +kernel
theorem dX7_marks_78 : decode cX7_marks 78 = .ok (.invokestatic 111, 3) := by decide +kernel
theorem dX7_marks_81 : decode cX7_marks 81 = .ok (.istore 4, 2) := by decide +kernel
theorem dX7_marks_83 : decode cX7_marks 83 = .ok (.iinc 5 1, 3) := by decide +kernel
theorem dX7_marks_86 : decode cX7_marks 86 = .ok (.goto (-55), 3) := by decide +kernel
theorem dX7_marks_89 : decode cX7_marks 89 = .ok (.aload_n 0, 1) := by decide +kernel
theorem dX7_marks_90 : decode cX7_marks 90 = .ok (.getfield 108, 3) := by decide +kernel
theorem dX7_marks_93 : decode cX7_marks 93 = .ok (.iconst 1, 1) := by decide +kernel
theorem dX7_marks_94 : decode cX7_marks 94 = .ok (.iadd, 1) := by decide +kernel
theorem dX7_marks_95 : decode cX7_marks 95 = .ok (.iload 4, 2) := by decide +kernel
theorem dX7_marks_97 : decode cX7_marks 97 = .ok (.isub, 1) := by decide +kernel
theorem dX7_marks_98 : decode cX7_marks 98 = .ok (.istore 5, 2) := by decide +kernel
theorem dX7_marks_100 : decode cX7_marks 100 = .ok (.iload_n 3, 1) := by decide +kernel
theorem dX7_marks_101 : decode cX7_marks 101 = .ok (.ifCond .ne 7, 3) := by decide +kernel
theorem dX7_marks_104 : decode cX7_marks 104 = .ok (.iconst 0, 1) := by decide +kernel
theorem dX7_marks_105 : decode cX7_marks 105 = .ok (.goto 22, 3) := by decide +kernel
theorem dX7_marks_108 : decode cX7_marks 108 = .ok (.bipush 100, 2) := by decide +kernel
theorem dX7_marks_110 : decode cX7_marks 110 = .ok (.iload_n 3, 1) := by decide +kernel
theorem dX7_marks_111 : decode cX7_marks 111 = .ok (.imul, 1) := by decide +kernel
theorem dX7_marks_112 : decode cX7_marks 112 = .ok (.iload 5, 2) := by decide +kernel
theorem dX7_marks_114 : decode cX7_marks 114 = .ok (.bipush 99, 2) := by decide +kernel
theorem dX7_marks_116 : decode cX7_marks 116 = .ok (.if_icmp .le 8, 3) := by decide +kernel
theorem dX7_marks_119 : decode cX7_marks 119 = .ok (.bipush 99, 2) := by decide +kernel
theorem dX7_marks_121 : decode cX7_marks 121 = .ok (.goto 5, 3) := by decide +kernel
theorem dX7_marks_124 : decode cX7_marks 124 = .ok (.iload 5, 2) := by decide +kernel
theorem dX7_marks_126 : decode cX7_marks 126 = .ok (.iadd, 1) := by decide +kernel
theorem dX7_marks_127 : decode cX7_marks 127 = .ok (.ireturn, 1) := by decide +kernel
theorem dX7_clashes_0 : decode cX7_clashes 0 = .ok (.aload_n 0, 1) := by decide +kernel
theorem dX7_clashes_1 : decode cX7_clashes 1 = .ok (.iload_n 1, 1) := by decide +kernel
theorem dX7_clashes_2 : decode cX7_clashes 2 = .ok (.invokestatic 58, 3) := by decide +kernel
theorem dX7_clashes_5 : decode cX7_clashes 5 = .ok (.ifCond .eq 7, 3) := by decide +kernel
theorem dX7_clashes_8 : decode cX7_clashes 8 = .ok (.iconst 0, 1) := by decide +kernel
theorem dX7_clashes_9 : decode cX7_clashes 9 = .ok (.goto 4, 3) := by decide +kernel
theorem dX7_clashes_12 : decode cX7_clashes 12 = .ok (.iconst 1, 1) := by decide +kernel
theorem dX7_clashes_13 : decode cX7_clashes 13 = .ok (.invokevirtual 69, 3) := by decide +kernel
theorem dX7_clashes_16 : decode cX7_clashes 16 = .ok (.ifCond .eq 5, 3) := by decide +kernel
theorem dX7_clashes_19 : decode cX7_clashes 19 = .ok (.iconst 0, 1) := by decide +kernel
theorem dX7_clashes_20 : decode cX7_clashes 20 = .ok (.ireturn, 1) := by decide +kernel
theorem dX7_clashes_21 : decode cX7_clashes 21 = .ok (.iconst 0, 1) := by decide +kernel
theorem dX7_clashes_22 : decode cX7_clashes 22 = .ok (.istore_n 2, 1) := by decide +kernel
theorem dX7_clashes_23 : decode cX7_clashes 23 = .ok (.iconst 0, 1) := by decide +kernel
theorem dX7_clashes_24 : decode cX7_clashes 24 = .ok (.istore_n 3, 1) := by decide +kernel
theorem dX7_clashes_25 : decode cX7_clashes 25 = .ok (.iload_n 3, 1) := by decide +kernel
theorem dX7_clashes_26 : decode cX7_clashes 26 = .ok (.aload_n 0, 1) := by decide +kernel
theorem dX7_clashes_27 : decode cX7_clashes 27 = .ok (.getfield 55, 3) := by decide +kernel
theorem dX7_clashes_30 : decode cX7_clashes 30 = .ok (.if_icmp .ge 53, 3) := by decide +kernel
theorem dX7_clashes_33 : decode cX7_clashes 33 = .ok (.iconst 0, 1) := by decide +kernel
theorem dX7_clashes_34 : decode cX7_clashes 34 = .ok (.istore 4, 2) := by decide +kernel
theorem dX7_clashes_36 : decode cX7_clashes 36 = .ok (.iload 4, 2) := by decide +kernel
theorem dX7_clashes_38 : decode cX7_clashes 38 = .ok (.iconst 4, 1) := by decide +kernel
theorem dX7_clashes_39 : decode cX7_clashes 39 = .ok (.if_icmp .ge 38, 3) := by decide +kernel
theorem dX7_clashes_42 : decode cX7_clashes 42 = .ok (.iload_n 2, 1) := by decide +kernel
theorem dX7_clashes_43 : decode cX7_clashes 43 = .ok (.aload_n 0, 1) := by decide +kernel
theorem dX7_clashes_44 : decode cX7_clashes 44 = .ok (.iload_n 1, 1) := by decide +kernel
theorem dX7_clashes_45 : decode cX7_clashes 45 = .ok (.iload_n 3, 1) := by decide +kernel
theorem dX7_clashes_46 : decode cX7_clashes 46 = .ok (.invokevirtual 105, 3) := by decide +kernel
theorem dX7_clashes_49 : decode cX7_clashes 49 = .ok (.ifCond .eq 19, 3) := by decide +kernel
theorem dX7_clashes_52 : decode cX7_clashes 52 = .ok (.aload_n 0, 1) := by decide +kernel
theorem dX7_clashes_53 : decode cX7_clashes 53 = .ok (.iload_n 1, 1) := by decide +kernel
theorem dX7_clashes_54 : decode cX7_clashes 54 = .ok (.iload_n 3, 1) := by decide +kernel
theorem dX7_clashes_55 : decode cX7_clashes 55 = .ok (.iload 4, 2) := by decide +kernel
theorem dX7_clashes_57 : decode cX7_clashes 57 = .ok (.invokevirtual 76, 3) := by decide +kernel
theorem dX7_clashes_60 : decode cX7_clashes 60 = .ok (.iconst 1, 1) := by decide +kernel
theorem dX7_clashes_61 : decode cX7_clashes 61 = .ok (.if_icmp .le 7, 3) := by decide +kernel
theorem dX7_clashes_64 : decode cX7_clashes 64 = .ok (.iconst 1, 1) := by decide +kernel
theorem dX7_clashes_65 : decode cX7_clashes 65 = .ok (.goto 4, 3) := by decide +kernel
theorem dX7_clashes_68 : decode cX7_clashes 68 = .ok (.iconst 0, 1) := by decide +kernel
theorem dX7_clashes_69 : decode cX7_clashes 69 = .ok (.iadd, 1) := by decide +kernel
theorem dX7_clashes_70 : decode cX7_clashes 70 = .ok (.istore_n 2, 1) := by decide +kernel
theorem dX7_clashes_71 : decode cX7_clashes 71 = .ok (.iinc 4 1, 3) := by decide +kernel
theorem dX7_clashes_74 : decode cX7_clashes 74 = .ok (.goto (-38), 3) := by decide +kernel
theorem dX7_clashes_77 : decode cX7_clashes 77 = .ok (.iinc 3 1, 3) := by decide +kernel
theorem dX7_clashes_80 : decode cX7_clashes 80 = .ok (.goto (-55), 3) := by decide +kernel
theorem dX7_clashes_83 : decode cX7_clashes 83 = .ok (.iload_n 2, 1) := by decide +kernel
theorem dX7_clashes_84 : decode cX7_clashes 84 = .ok (.ireturn, 1) := by decide +kernel
theorem dX7_areSame_0 : decode cX7_areSame 0 = .ok (.iconst 1, 1) := by decide +kernel
theorem dX7_areSame_1 : decode cX7_areSame 1 = .ok (.istore 5, 2) := by decide +kernel
theorem dX7_areSame_3 : decode cX7_areSame 3 = .ok (.iconst 0, 1) := by decide +kernel
theorem dX7_areSame_4 : decode cX7_areSame 4 = .ok (.istore 6, 2) := by decide +kernel
theorem dX7_areSame_6 : decode cX7_areSame 6 = .ok (.iload 6, 2) := by decide +kernel
theorem dX7_areSame_8 : decode cX7_areSame 8 = .ok (.bipush 6, 2) := by decide +kernel
theorem dX7_areSame_10 : decode cX7_areSame 10 = .ok (.if_icmp .ge 52, 3) := by decide +kernel
theorem dX7_areSame_13 : decode cX7_areSame 13 = .ok (.iload 5, 2) := by decide +kernel
theorem dX7_areSame_15 : decode cX7_areSame 15 = .ok (.ifCond .eq 38, 3) := by decide +kernel
theorem dX7_areSame_18 : decode cX7_areSame 18 = .ok (.aload_n 0, 1) := by decide +kernel
theorem dX7_areSame_19 : decode cX7_areSame 19 = .ok (.getfield 23, 3) := by decide +kernel
theorem dX7_areSame_22 : decode cX7_areSame 22 = .ok (.iload_n 1, 1) := by decide +kernel
theorem dX7_areSame_23 : decode cX7_areSame 23 = .ok (.iload_n 3, 1) := by decide +kernel
theorem dX7_areSame_24 : decode cX7_areSame 24 = .ok (.iload 4, 2) := by decide +kernel
theorem dX7_areSame_26 : decode cX7_areSame 26 = .ok (.iload 6, 2) := by decide +kernel
theorem dX7_areSame_28 : decode cX7_areSame 28 = .ok (.invokestatic 72, 3) := by decide +kernel
theorem dX7_areSame_31 : decode cX7_areSame 31 = .ok (.iaload, 1) := by decide +kernel
theorem dX7_areSame_32 : decode cX7_areSame 32 = .ok (.aload_n 0, 1) := by decide +kernel
theorem dX7_areSame_33 : decode cX7_areSame 33 = .ok (.getfield 23, 3) := by decide +kernel
theorem dX7_areSame_36 : decode cX7_areSame 36 = .ok (.iload_n 2, 1) := by decide +kernel
theorem dX7_areSame_37 : decode cX7_areSame 37 = .ok (.iload_n 3, 1) := by decide +kernel
theorem dX7_areSame_38 : decode cX7_areSame 38 = .ok (.iload 4, 2) := by decide +kernel
theorem dX7_areSame_40 : decode cX7_areSame 40 = .ok (.iload 6, 2) := by decide +kernel
theorem dX7_areSame_42 : decode cX7_areSame 42 = .ok (.invokestatic 72, 3) := by decide +kernel
theorem dX7_areSame_45 : decode cX7_areSame 45 = .ok (.iaload, 1) := by decide +kernel
theorem dX7_areSame_46 : decode cX7_areSame 46 = .ok (.if_icmp .ne 7, 3) := by decide +kernel
theorem dX7_areSame_49 : decode cX7_areSame 49 = .ok (.iconst 1, 1) := by decide +kernel
theorem dX7_areSame_50 : decode cX7_areSame 50 = .ok (.goto 4, 3) := by decide +kernel
theorem dX7_areSame_53 : decode cX7_areSame 53 = .ok (.iconst 0, 1) := by decide +kernel
theorem dX7_areSame_54 : decode cX7_areSame 54 = .ok (.istore 5, 2) := by decide +kernel
theorem dX7_areSame_56 : decode cX7_areSame 56 = .ok (.iinc 6 1, 3) := by decide +kernel
theorem dX7_areSame_59 : decode cX7_areSame 59 = .ok (.goto (-53), 3) := by decide +kernel
theorem dX7_areSame_62 : decode cX7_areSame 62 = .ok (.iload 5, 2) := by decide +kernel
theorem dX7_areSame_64 : decode cX7_areSame 64 = .ok (.ireturn, 1) := by decide +kernel
theorem dX7_agreement_0 : decode cX7_agreement 0 = .ok (.iload_n 1, 1) := by decide +kernel
theorem dX7_agreement_1 : decode cX7_agreement 1 = .ok (.invokestatic 58, 3) := by decide +kernel
theorem dX7_agreement_4 : decode cX7_agreement 4 = .ok (.ifCond .eq 14, 3) := by decide +kernel
theorem dX7_agreement_7 : decode cX7_agreement 7 = .ok (.iload_n 2, 1) := by decide +kernel
theorem dX7_agreement_8 : decode cX7_agreement 8 = .ok (.invokestatic 58, 3) := by decide +kernel
theorem dX7_agreement_11 : decode cX7_agreement 11 = .ok (.ifCond .eq 7, 3) := by decide +kernel
theorem dX7_agreement_14 : decode cX7_agreement 14 = .ok (.iconst 1, 1) := by decide +kernel
theorem dX7_agreement_15 : decode cX7_agreement 15 = .ok (.goto 4, 3) := by decide +kernel
theorem dX7_agreement_18 : decode cX7_agreement 18 = .ok (.iconst 0, 1) := by decide +kernel
theorem dX7_agreement_19 : decode cX7_agreement 19 = .ok (.istore_n 3, 1) := by decide +kernel
theorem dX7_agreement_20 : decode cX7_agreement 20 = .ok (.aload_n 0, 1) := by decide +kernel
theorem dX7_agreement_21 : decode cX7_agreement 21 = .ok (.iload_n 3, 1) := by decide +kernel
theorem dX7_agreement_22 : decode cX7_agreement 22 = .ok (.ifCond .eq 7, 3) := by decide +kernel
theorem dX7_agreement_25 : decode cX7_agreement 25 = .ok (.iconst 0, 1) := by decide +kernel
theorem dX7_agreement_26 : decode cX7_agreement 26 = .ok (.goto 4, 3) := by decide +kernel
theorem dX7_agreement_29 : decode cX7_agreement 29 = .ok (.iconst 1, 1) := by decide +kernel
theorem dX7_agreement_30 : decode cX7_agreement 30 = .ok (.invokevirtual 69, 3) := by decide +kernel
theorem dX7_agreement_33 : decode cX7_agreement 33 = .ok (.ifCond .eq 5, 3) := by decide +kernel
theorem dX7_agreement_36 : decode cX7_agreement 36 = .ok (.fconst 0, 1) := by decide +kernel
theorem dX7_agreement_37 : decode cX7_agreement 37 = .ok (.freturn, 1) := by decide +kernel
theorem dX7_agreement_38 : decode cX7_agreement 38 = .ok (.iconst 0, 1) := by decide +kernel
theorem dX7_agreement_39 : decode cX7_agreement 39 = .ok (.istore 4, 2) := by decide +kernel
theorem dX7_agreement_41 : decode cX7_agreement 41 = .ok (.iconst 0, 1) := by decide +kernel
theorem dX7_agreement_42 : decode cX7_agreement 42 = .ok (.istore 5, 2) := by decide +kernel
theorem dX7_agreement_44 : decode cX7_agreement 44 = .ok (.iconst 0, 1) := by decide +kernel
theorem dX7_agreement_45 : decode cX7_agreement 45 = .ok (.istore 6, 2) := by decide +kernel
theorem dX7_agreement_47 : decode cX7_agreement 47 = .ok (.iload 6, 2) := by decide +kernel
theorem dX7_agreement_49 : decode cX7_agreement 49 = .ok (.aload_n 0, 1) := by decide +kernel
theorem dX7_agreement_50 : decode cX7_agreement 50 = .ok (.getfield 55, 3) := by decide +kernel
theorem dX7_agreement_53 : decode cX7_agreement 53 = .ok (.if_icmp .ge 94, 3) := by decide +kernel
theorem dX7_agreement_56 : decode cX7_agreement 56 = .ok (.iconst 0, 1) := by decide +kernel
theorem dX7_agreement_57 : decode cX7_agreement 57 = .ok (.istore 7, 2) := by decide +kernel
theorem dX7_agreement_59 : decode cX7_agreement 59 = .ok (.iload 7, 2) := by decide +kernel
theorem dX7_agreement_61 : decode cX7_agreement 61 = .ok (.iconst 4, 1) := by decide +kernel
theorem dX7_agreement_62 : decode cX7_agreement 62 = .ok (.if_icmp .ge 79, 3) := by decide +kernel
theorem dX7_agreement_65 : decode cX7_agreement 65 = .ok (.aload_n 0, 1) := by decide +kernel
theorem dX7_agreement_66 : decode cX7_agreement 66 = .ok (.iload_n 1, 1) := by decide +kernel
theorem dX7_agreement_67 : decode cX7_agreement 67 = .ok (.iload 6, 2) := by decide +kernel
theorem dX7_agreement_69 : decode cX7_agreement 69 = .ok (.iload 7, 2) := by decide +kernel
theorem dX7_agreement_71 : decode cX7_agreement 71 = .ok (.invokevirtual 87, 3) := by decide +kernel
theorem dX7_agreement_74 : decode cX7_agreement 74 = .ok (.ifCond .eq 61, 3) := by decide +kernel
theorem dX7_agreement_77 : decode cX7_agreement 77 = .ok (.aload_n 0, 1) := by decide +kernel
theorem dX7_agreement_78 : decode cX7_agreement 78 = .ok (.iload_n 2, 1) := by decide +kernel
theorem dX7_agreement_79 : decode cX7_agreement 79 = .ok (.iload 6, 2) := by decide +kernel
theorem dX7_agreement_81 : decode cX7_agreement 81 = .ok (.iload 7, 2) := by decide +kernel
theorem dX7_agreement_83 : decode cX7_agreement 83 = .ok (.invokevirtual 87, 3) := by decide +kernel
theorem dX7_agreement_86 : decode cX7_agreement 86 = .ok (.ifCond .eq 49, 3) := by decide +kernel
theorem dX7_agreement_89 : decode cX7_agreement 89 = .ok (.aload_n 0, 1) := by decide +kernel
theorem dX7_agreement_90 : decode cX7_agreement 90 = .ok (.iload_n 1, 1) := by decide +kernel
theorem dX7_agreement_91 : decode cX7_agreement 91 = .ok (.iload 6, 2) := by decide +kernel
theorem dX7_agreement_93 : decode cX7_agreement 93 = .ok (.invokevirtual 105, 3) := by decide +kernel
theorem dX7_agreement_96 : decode cX7_agreement 96 = .ok (.ifCond .ne 13, 3) := by decide +kernel
theorem dX7_agreement_99 : decode cX7_agreement 99 = .ok (.aload_n 0, 1) := by decide +kernel
theorem dX7_agreement_100 : decode cX7_agreement 100 = .ok (.iload_n 2, 1) := by decide +kernel
theorem dX7_agreement_101 : decode cX7_agreement 101 = .ok (.iload 6, 2) := by decide +kernel
theorem dX7_agreement_103 : decode cX7_agreement 103 = .ok (.invokevirtual 105, 3) := by decide +kernel
theorem dX7_agreement_106 : decode cX7_agreement 106 = .ok (.ifCond .eq 29, 3) := by decide +kernel
theorem dX7_agreement_109 : decode cX7_agreement 109 = .ok (.iinc 4 1, 3) := by decide +kernel
theorem dX7_agreement_112 : decode cX7_agreement 112 = .ok (.iload 5, 2) := by decide +kernel
theorem dX7_agreement_114 : decode cX7_agreement 114 = .ok (.aload_n 0, 1) := by decide +kernel
theorem dX7_agreement_115 : decode cX7_agreement 115 = .ok (.iload_n 1, 1) := by decide +kernel
theorem dX7_agreement_116 : decode cX7_agreement 116 = .ok (.iload_n 2, 1) := by decide +kernel
theorem dX7_agreement_117 : decode cX7_agreement 117 = .ok (.iload 6, 2) := by decide +kernel
theorem dX7_agreement_119 : decode cX7_agreement 119 = .ok (.iload 7, 2) := by decide +kernel
theorem dX7_agreement_121 : decode cX7_agreement 121 = .ok (.invokevirtual 149, 3) := by decide +kernel
theorem dX7_agreement_124 : decode cX7_agreement 124 = .ok (.ifCond .eq 7, 3) := by decide +kernel
theorem dX7_agreement_127 : decode cX7_agreement 127 = .ok (.iconst 1, 1) := by decide +kernel
theorem dX7_agreement_128 : decode cX7_agreement 128 = .ok (.goto 4, 3) := by decide +kernel
theorem dX7_agreement_131 : decode cX7_agreement 131 = .ok (.iconst 0, 1) := by decide +kernel
theorem dX7_agreement_132 : decode cX7_agreement 132 = .ok (.iadd, 1) := by decide +kernel
theorem dX7_agreement_133 : decode cX7_agreement 133 = .ok (.istore 5, 2) := by decide +kernel
theorem dX7_agreement_135 : decode cX7_agreement 135 = .ok (.iinc 7 1, 3) := by decide +kernel
theorem dX7_agreement_138 : decode cX7_agreement 138 = .ok (.goto (-79), 3) := by decide +kernel
theorem dX7_agreement_141 : decode cX7_agreement 141 = .ok (.iinc 6 1, 3) := by decide +kernel
theorem dX7_agreement_144 : decode cX7_agreement 144 = .ok (.goto (-97), 3) := by decide +kernel
theorem dX7_agreement_147 : decode cX7_agreement 147 = .ok (.iload 4, 2) := by decide +kernel
theorem dX7_agreement_149 : decode cX7_agreement 149 = .ok (.ifCond .ne 7, 3) := by decide +kernel
theorem dX7_agreement_152 : decode cX7_agreement 152 = .ok (.fconst 1, 1) := by decide +kernel
theorem dX7_agreement_153 : decode cX7_agreement 153 = .ok (.goto 10, 3) := by decide +kernel
theorem dX7_agreement_156 : decode cX7_agreement 156 = .ok (.iload 5, 2) := by decide +kernel
theorem dX7_agreement_158 : decode cX7_agreement 158 = .ok (.i2f, 1) := by decide +kernel
theorem dX7_agreement_159 : decode cX7_agreement 159 = .ok (.iload 4, 2) := by decide +kernel
theorem dX7_agreement_161 : decode cX7_agreement 161 = .ok (.i2f, 1) := by decide +kernel
theorem dX7_agreement_162 : decode cX7_agreement 162 = .ok (.fdiv, 1) := by decide +kernel
theorem dX7_agreement_163 : decode cX7_agreement 163 = .ok (.freturn, 1) := by decide +kernel
