theorem dX0_init_0 : decode cX0_init 0 = .ok (.aload_n 0, 1) := by decide +kernel
theorem dX0_init_1 : decode cX0_init 1 = .ok (.invokespecial 3, 3) := by decide +kernel
theorem dX0_init_4 : decode cX0_init 4 = .ok (.aload_n 0, 1) := by decide +kernel
theorem dX0_init_5 : decode cX0_init 5 = .ok (.bipush 6, 2) := by decide +kernel
theorem dX0_init_7 : decode cX0_init 7 = .ok (.newarray .int, 2) := by decide +kernel
theorem dX0_init_9 : decode cX0_init 9 = .ok (.putfield 9, 3) := by decide +kernel
theorem dX0_init_12 : decode cX0_init 12 = .ok (.aload_n 0, 1) := by decide +kernel
theorem dX0_init_13 : decode cX0_init 13 = .ok (.bipush 10, 2) := by decide +kernel
theorem dX0_init_15 : decode cX0_init 15 = .ok (.anewarray 15, 3) := by decide +kernel
theorem dX0_init_18 : decode cX0_init 18 = .ok (.putfield 17, 3) := by decide +kernel
theorem dX0_init_21 : decode cX0_init 21 = .ok (.iconst 0, 1) := by decide +kernel
theorem dX0_init_22 : decode cX0_init 22 = .ok (.istore_n 1, 1) := by decide +kernel
theorem dX0_init_23 : decode cX0_init 23 = .ok (.iload_n 1, 1) := by decide +kernel
theorem dX0_init_24 : decode cX0_init 24 = .ok (.bipush 10, 2) := by decide +kernel
theorem dX0_init_26 : decode cX0_init 26 = .ok (.if_icmp .ge 22, 3) := by decide +kernel
theorem dX0_init_29 : decode cX0_init 29 = .ok (.aload_n 0, 1) := by decide +kernel
theorem dX0_init_30 : decode cX0_init 30 = .ok (.getfield 17, 3) := by decide +kernel
theorem dX0_init_33 : decode cX0_init 33 = .ok (.iload_n 1, 1) := by decide +kernel
theorem dX0_init_34 : decode cX0_init 34 = .ok (.new 15, 3) := by decide +kernel
theorem dX0_init_37 : decode cX0_init 37 = .ok (.dup, 1) := by decide +kernel
theorem dX0_init_38 : decode cX0_init 38 = .ok (.invokespecial 21, 3) := by decide +kernel
theorem dX0_init_41 : decode cX0_init 41 = .ok (.aastore, 1) := by decide +kernel
theorem dX0_init_42 : decode cX0_init 42 = .ok (.iinc 1 1, 3) := by decide +kernel
theorem dX0_init_45 : decode cX0_init 45 = .ok (.goto (-22), 3) := by decide +kernel
theorem dX0_init_48 : decode cX0_init 48 = .ok (.return_, 1) := by decide +kernel
theorem dX0_clear_0 : decode cX0_clear 0 = .ok (.aload_n 0, 1) := by decide +kernel
theorem dX0_clear_1 : decode cX0_clear 1 = .ok (.iconst 0, 1) := by decide +kernel
theorem dX0_clear_2 : decode cX0_clear 2 = .ok (.putfield 22, 3) := by decide +kernel
theorem dX0_clear_5 : decode cX0_clear 5 = .ok (.aload_n 0, 1) := by decide +kernel
theorem dX0_clear_6 : decode cX0_clear 6 = .ok (.iconst 0, 1) := by decide +kernel
theorem dX0_clear_7 : decode cX0_clear 7 = .ok (.putfield 26, 3) := by decide +kernel
theorem dX0_clear_10 : decode cX0_clear 10 = .ok (.iconst 0, 1) := by decide +kernel
theorem dX0_clear_11 : decode cX0_clear 11 = .ok (.istore_n 1, 1) := by decide +kernel
theorem dX0_clear_12 : decode cX0_clear 12 = .ok (.iload_n 1, 1) := by decide +kernel
theorem dX0_clear_13 : decode cX0_clear 13 = .ok (.bipush 6, 2) := by decide +kernel
theorem dX0_clear_15 : decode cX0_clear 15 = .ok (.if_icmp .ge 16, 3) := by decide +kernel
theorem dX0_clear_18 : decode cX0_clear 18 = .ok (.aload_n 0, 1) := by decide +kernel
theorem dX0_clear_19 : decode cX0_clear 19 = .ok (.getfield 9, 3) := by decide +kernel
theorem dX0_clear_22 : decode cX0_clear 22 = .ok (.iload_n 1, 1) := by decide +kernel
theorem dX0_clear_23 : decode cX0_clear 23 = .ok (.iconst 0, 1) := by decide +kernel
theorem dX0_clear_24 : decode cX0_clear 24 = .ok (.iastore, 1) := by decide +kernel
theorem dX0_clear_25 : decode cX0_clear 25 = .ok (.iinc 1 1, 3) := by decide +kernel
theorem dX0_clear_28 : decode cX0_clear 28 = .ok (.goto (-16), 3) := by decide +kernel
theorem dX0_clear_31 : decode cX0_clear 31 = .ok (.iconst 0, 1) := by decide +kernel
theorem dX0_clear_32 : decode cX0_clear 32 = .ok (.istore_n 1, 1) := by decide +kernel
theorem dX0_clear_33 : decode cX0_clear 33 = .ok (.iload_n 1, 1) := by decide +kernel
theorem dX0_clear_34 : decode cX0_clear 34 = .ok (.bipush 10, 2) := by decide +kernel
theorem dX0_clear_36 : decode cX0_clear 36 = .ok (.if_icmp .ge 18, 3) := by decide +kernel
theorem dX0_clear_39 : decode cX0_clear 39 = .ok (.aload_n 0, 1) := by decide +kernel
theorem dX0_clear_40 : decode cX0_clear 40 = .ok (.getfield 17, 3) := by decide +kernel
theorem dX0_clear_43 : decode cX0_clear 43 = .ok (.iload_n 1, 1) := by decide +kernel
theorem dX0_clear_44 : decode cX0_clear 44 = .ok (.aaload, 1) := by decide +kernel
theorem dX0_clear_45 : decode cX0_clear 45 = .ok (.invokevirtual 29, 3) := by decide +kernel
theorem dX0_clear_48 : decode cX0_clear 48 = .ok (.iinc 1 1, 3) := by decide +kernel
theorem dX0_clear_51 : decode cX0_clear 51 = .ok (.goto (-18), 3) := by decide +kernel
theorem dX0_clear_54 : decode cX0_clear 54 = .ok (.return_, 1) := by decide +kernel
theorem dX0_find_0 : decode cX0_find 0 = .ok (.iload_n 1, 1) := by decide +kernel
theorem dX0_find_1 : decode cX0_find 1 = .ok (.ifCond .lt 17, 3) := by decide +kernel
theorem dX0_find_4 : decode cX0_find 4 = .ok (.iload_n 1, 1) := by decide +kernel
theorem dX0_find_5 : decode cX0_find 5 = .ok (.aload_n 0, 1) := by decide +kernel
theorem dX0_find_6 : decode cX0_find 6 = .ok (.getfield 26, 3) := by decide +kernel
theorem dX0_find_9 : decode cX0_find 9 = .ok (.if_icmp .ge 9, 3) := by decide +kernel
theorem dX0_find_12 : decode cX0_find 12 = .ok (.iload_n 1, 1) := by decide +kernel
theorem dX0_find_13 : decode cX0_find 13 = .ok (.bipush 10, 2) := by decide +kernel
theorem dX0_find_15 : decode cX0_find 15 = .ok (.if_icmp .lt 5, 3) := by decide +kernel
theorem dX0_find_18 : decode cX0_find 18 = .ok (.aconst_null, 1) := by decide +kernel
theorem dX0_find_19 : decode cX0_find 19 = .ok (.areturn, 1) := by decide +kernel
theorem dX0_find_20 : decode cX0_find 20 = .ok (.aload_n 0, 1) := by decide +kernel
theorem dX0_find_21 : decode cX0_find 21 = .ok (.getfield 17, 3) := by decide +kernel
theorem dX0_find_24 : decode cX0_find 24 = .ok (.iload_n 1, 1) := by decide +kernel
theorem dX0_find_25 : decode cX0_find 25 = .ok (.aaload, 1) := by decide +kernel
theorem dX0_find_26 : decode cX0_find 26 = .ok (.areturn, 1) := by decide +kernel
theorem dX0_nextAct_0 : decode cX0_nextAct 0 = .ok (.aload_n 0, 1) := by decide +kernel
theorem dX0_nextAct_1 : decode cX0_nextAct 1 = .ok (.getfield 9, 3) := by decide +kernel
theorem dX0_nextAct_4 : decode cX0_nextAct 4 = .ok (.iload_n 1, 1) := by decide +kernel
theorem dX0_nextAct_5 : decode cX0_nextAct 5 = .ok (.dup2, 1) := by decide +kernel
theorem dX0_nextAct_6 : decode cX0_nextAct 6 = .ok (.iaload, 1) := by decide +kernel
theorem dX0_nextAct_7 : decode cX0_nextAct 7 = .ok (.iconst 1, 1) := by decide +kernel
theorem dX0_nextAct_8 : decode cX0_nextAct 8 = .ok (.iadd, 1) := by decide +kernel
theorem dX0_nextAct_9 : decode cX0_nextAct 9 = .ok (.iastore, 1) := by decide +kernel
theorem dX0_nextAct_10 : decode cX0_nextAct 10 = .ok (.aload_n 0, 1) := by decide +kernel
theorem dX0_nextAct_11 : decode cX0_nextAct 11 = .ok (.getfield 9, 3) := by decide +kernel
theorem dX0_nextAct_14 : decode cX0_nextAct 14 = .ok (.iload_n 1, 1) := by decide +kernel
theorem dX0_nextAct_15 : decode cX0_nextAct 15 = .ok (.iaload, 1) := by decide +kernel
theorem dX0_nextAct_16 : decode cX0_nextAct 16 = .ok (.ireturn, 1) := by decide +kernel
theorem dX0_makeEntry_0 : decode cX0_makeEntry 0 = .ok (.aload_n 0, 1) := by decide +kernel
theorem dX0_makeEntry_1 : decode cX0_makeEntry 1 = .ok (.getfield 26, 3) := by decide +kernel
theorem dX0_makeEntry_4 : decode cX0_makeEntry 4 = .ok (.bipush 10, 2) := by decide +kernel
theorem dX0_makeEntry_6 : decode cX0_makeEntry 6 = .ok (.if_icmp .ge 10, 3) := by decide +kernel
theorem dX0_makeEntry_9 : decode cX0_makeEntry 9 = .ok (.iload_n 1, 1) := by decide +kernel
theorem dX0_makeEntry_10 : decode cX0_makeEntry 10 = .ok (.invokestatic 32, 3) := by decide +kernel
theorem dX0_makeEntry_13 : decode cX0_makeEntry 13 = .ok (.ifCond .ne 8, 3) := by decide +kernel
theorem dX0_makeEntry_16 : decode cX0_makeEntry 16 = .ok (.aload_n 0, 1) := by decide +kernel
theorem dX0_makeEntry_17 : decode cX0_makeEntry 17 = .ok (.getfield 26, 3) := by decide +kernel
theorem dX0_makeEntry_20 : decode cX0_makeEntry 20 = .ok (.ireturn, 1) := by decide +kernel
theorem dX0_makeEntry_21 : decode cX0_makeEntry 21 = .ok (.aload_n 0, 1) := by decide +kernel
theorem dX0_makeEntry_22 : decode cX0_makeEntry 22 = .ok (.getfield 26, 3) := by decide +kernel
theorem dX0_makeEntry_25 : decode cX0_makeEntry 25 = .ok (.istore_n 2, 1) := by decide +kernel
theorem dX0_makeEntry_26 : decode cX0_makeEntry 26 = .ok (.aload_n 0, 1) := by decide +kernel
theorem dX0_makeEntry_27 : decode cX0_makeEntry 27 = .ok (.dup, 1) := by decide +kernel
theorem dX0_makeEntry_28 : decode cX0_makeEntry 28 = .ok (.getfield 26, 3) := by decide +kernel
theorem dX0_makeEntry_31 : decode cX0_makeEntry 31 = .ok (.iconst 1, 1) := by decide +kernel
theorem dX0_makeEntry_32 : decode cX0_makeEntry 32 = .ok (.iadd, 1) := by decide +kernel
theorem dX0_makeEntry_33 : decode cX0_makeEntry 33 = .ok (.putfield 26, 3) := by decide +kernel
theorem dX0_makeEntry_36 : decode cX0_makeEntry 36 = .ok (.aload_n 0, 1) := by decide +kernel
theorem dX0_makeEntry_37 : decode cX0_makeEntry 37 = .ok (.getfield 17, 3) := by decide +kernel
theorem dX0_makeEntry_40 : decode cX0_makeEntry 40 = .ok (.iload_n 2, 1) := by decide +kernel
theorem dX0_makeEntry_41 : decode cX0_makeEntry 41 = .ok (.aaload, 1) := by decide +kernel
theorem dX0_makeEntry_42 : decode cX0_makeEntry 42 = .ok (.iload_n 1, 1) := by decide +kernel
theorem dX0_makeEntry_43 : decode cX0_makeEntry 43 = .ok (.invokestatic 36, 3) := by decide +kernel
theorem dX0_makeEntry_46 : decode cX0_makeEntry 46 = .ok (.putfield 40, 3) := by decide +kernel
theorem dX0_makeEntry_49 : decode cX0_makeEntry 49 = .ok (.aload_n 0, 1) := by decide +kernel
theorem dX0_makeEntry_50 : decode cX0_makeEntry 50 = .ok (.getfield 17, 3) := by decide +kernel
theorem dX0_makeEntry_53 : decode cX0_makeEntry 53 = .ok (.iload_n 2, 1) := by decide +kernel
theorem dX0_makeEntry_54 : decode cX0_makeEntry 54 = .ok (.aaload, 1) := by decide +kernel
theorem dX0_makeEntry_55 : decode cX0_makeEntry 55 = .ok (.getfield 43, 3) := by decide +kernel
theorem dX0_makeEntry_58 : decode cX0_makeEntry 58 = .ok (.iload_n 1, 1) := by decide +kernel
theorem dX0_makeEntry_59 : decode cX0_makeEntry 59 = .ok (.aaload, 1) := by decide +kernel
theorem dX0_makeEntry_60 : decode cX0_makeEntry 60 = .ok (.iconst 1, 1) := by decide +kernel
theorem dX0_makeEntry_61 : decode cX0_makeEntry 61 = .ok (.putfield 47, 3) := by decide +kernel
theorem dX0_makeEntry_64 : decode cX0_makeEntry 64 = .ok (.iload_n 2, 1) := by decide +kernel
theorem dX0_makeEntry_65 : decode cX0_makeEntry 65 = .ok (.ireturn, 1) := by decide +kernel
theorem dX0_tellValue_0 : decode cX0_tellValue 0 = .ok (.aload_n 0, 1) := by decide +kernel
theorem dX0_tellValue_1 : decode cX0_tellValue 1 = .ok (.iload_n 2, 1) := by decide +kernel
theorem dX0_tellValue_2 : decode cX0_tellValue 2 = .ok (.invokevirtual 53, 3) := by decide +kernel
theorem dX0_tellValue_5 : decode cX0_tellValue 5 = .ok (.astore 5, 2) := by decide +kernel
theorem dX0_tellValue_7 : decode cX0_tellValue 7 = .ok (.aload 5, 2) := by decide +kernel
theorem dX0_tellValue_9 : decode cX0_tellValue 9 = .ok (.ifnull 17, 3) := by decide +kernel
theorem dX0_tellValue_12 : decode cX0_tellValue 12 = .ok (.iload_n 1, 1) := by decide +kernel
theorem dX0_tellValue_13 : decode cX0_tellValue 13 = .ok (.invokestatic 32, 3) := by decide +kernel
theorem dX0_tellValue_16 : decode cX0_tellValue 16 = .ok (.ifCond .eq 10, 3) := by decide +kernel
theorem dX0_tellValue_19 : decode cX0_tellValue 19 = .ok (.iload_n 3, 1) := by decide +kernel
theorem dX0_tellValue_20 : decode cX0_tellValue 20 = .ok (.invokestatic 57, 3) := by decide +kernel
theorem dX0_tellValue_23 : decode cX0_tellValue 23 = .ok (.ifCond .ne 5, 3) := by decide +kernel
theorem dX0_tellValue_26 : decode cX0_tellValue 26 = .ok (.iconst 0, 1) := by decide +kernel
theorem dX0_tellValue_27 : decode cX0_tellValue 27 = .ok (.ireturn, 1) := by decide +kernel
theorem dX0_tellValue_28 : decode cX0_tellValue 28 = .ok (.aload 5, 2) := by decide +kernel
theorem dX0_tellValue_30 : decode cX0_tellValue 30 = .ok (.getfield 43, 3) := by decide +kernel
theorem dX0_tellValue_33 : decode cX0_tellValue 33 = .ok (.iload_n 1, 1) := by decide +kernel
theorem dX0_tellValue_34 : decode cX0_tellValue 34 = .ok (.aaload, 1) := by decide +kernel
theorem dX0_tellValue_35 : decode cX0_tellValue 35 = .ok (.astore 6, 2) := by decide +kernel
theorem dX0_tellValue_37 : decode cX0_tellValue 37 = .ok (.aload 6, 2) := by decide +kernel
theorem dX0_tellValue_39 : decode cX0_tellValue 39 = .ok (.iload_n 3, 1) := by decide +kernel
theorem dX0_tellValue_40 : decode cX0_tellValue 40 = .ok (.invokevirtual 60, 3) := by decide +kernel
theorem dX0_tellValue_43 : decode cX0_tellValue 43 = .ok (.istore 7, 2) := by decide +kernel
theorem dX0_tellValue_45 : decode cX0_tellValue 45 = .ok (.aload 6, 2) := by decide +kernel
theorem dX0_tellValue_47 : decode cX0_tellValue 47 = .ok (.iload_n 3, 1) := by decide +kernel
theorem dX0_tellValue_48 : decode cX0_tellValue 48 = .ok (.invokevirtual 63, 3) := by decide +kernel
theorem dX0_tellValue_51 : decode cX0_tellValue 51 = .ok (.aload_n 0, 1) := by decide +kernel
theorem dX0_tellValue_52 : decode cX0_tellValue 52 = .ok (.iload_n 1, 1) := by decide +kernel
theorem dX0_tellValue_53 : decode cX0_tellValue 53 = .ok (.invokevirtual 67, 3) := by decide +kernel
theorem dX0_tellValue_56 : decode cX0_tellValue 56 = .ok (.istore 8, 2) := by decide +kernel
theorem dX0_tellValue_58 : decode cX0_tellValue 58 = .ok (.iload_n 3, 1) := by decide +kernel
theorem dX0_tellValue_59 : decode cX0_tellValue 59 = .ok (.iload_n 1, 1) := by decide +kernel
theorem dX0_tellValue_60 : decode cX0_tellValue 60 = .ok (.invokestatic 70, 3) := by decide +kernel
theorem dX0_tellValue_63 : decode cX0_tellValue 63 = .ok (.istore 9, 2) := by decide +kernel
theorem dX0_tellValue_65 : decode cX0_tellValue 65 = .ok (.aload 6, 2) := by decide +kernel
theorem dX0_tellValue_67 : decode cX0_tellValue 67 = .ok (.getfield 74, 3) := by decide +kernel
theorem dX0_tellValue_70 : decode cX0_tellValue 70 = .ok (.getfield 78, 3) := by decide +kernel
theorem dX0_tellValue_73 : decode cX0_tellValue 73 = .ok (.iload 9, 2) := by decide +kernel
theorem dX0_tellValue_75 : decode cX0_tellValue 75 = .ok (.iload 8, 2) := by decide +kernel
theorem dX0_tellValue_77 : decode cX0_tellValue 77 = .ok (.iastore, 1) := by decide +kernel
theorem dX0_tellValue_78 : decode cX0_tellValue 78 = .ok (.iload 4, 2) := by decide +kernel
theorem dX0_tellValue_80 : decode cX0_tellValue 80 = .ok (.iconst (-1), 1) := by decide +kernel
theorem dX0_tellValue_81 : decode cX0_tellValue 81 = .ok (.if_icmp .eq 23, 3) := by decide +kernel
theorem dX0_tellValue_84 : decode cX0_tellValue 84 = .ok (.aload 6, 2) := by decide +kernel
theorem dX0_tellValue_86 : decode cX0_tellValue 86 = .ok (.getfield 83, 3) := by decide +kernel
theorem dX0_tellValue_89 : decode cX0_tellValue 89 = .ok (.iload 9, 2) := by decide +kernel
theorem dX0_tellValue_91 : decode cX0_tellValue 91 = .ok (.iload 8, 2) := by decide +kernel
theorem dX0_tellValue_93 : decode cX0_tellValue 93 = .ok (.iastore, 1) := by decide +kernel
theorem dX0_tellValue_94 : decode cX0_tellValue 94 = .ok (.aload 6, 2) := by decide +kernel
theorem dX0_tellValue_96 : decode cX0_tellValue 96 = .ok (.getfield 86, 3) := by decide +kernel
theorem dX0_tellValue_99 : decode cX0_tellValue 99 = .ok (.iload 9, 2) := by decide +kernel
theorem dX0_tellValue_101 : decode cX0_tellValue 101 = .ok (.iload 4, 2) := by decide +kernel
theorem dX0_tellValue_103 : decode cX0_tellValue 103 = .ok (.iastore, 1) := by decide +kernel
theorem dX0_tellValue_104 : decode cX0_tellValue 104 = .ok (.iload 7, 2) := by decide +kernel
theorem dX0_tellValue_106 : decode cX0_tellValue 106 = .ok (.ireturn, 1) := by decide +kernel
theorem dX0_setMark_0 : decode cX0_setMark 0 = .ok (.aload_n 0, 1) := by decide +kernel
theorem dX0_setMark_1 : decode cX0_setMark 1 = .ok (.iload_n 2, 1) := by decide +kernel
theorem dX0_setMark_2 : decode cX0_setMark 2 = .ok (.invokevirtual 53, 3) := by decide +kernel
theorem dX0_setMark_5 : decode cX0_setMark 5 = .ok (.astore_n 3, 1) := by decide +kernel
theorem dX0_setMark_6 : decode cX0_setMark 6 = .ok (.aload_n 3, 1) := by decide +kernel
theorem dX0_setMark_7 : decode cX0_setMark 7 = .ok (.ifnull 10, 3) := by decide +kernel
theorem dX0_setMark_10 : decode cX0_setMark 10 = .ok (.iload_n 1, 1) := by decide +kernel
theorem dX0_setMark_11 : decode cX0_setMark 11 = .ok (.invokestatic 32, 3) := by decide +kernel
theorem dX0_setMark_14 : decode cX0_setMark 14 = .ok (.ifCond .ne 5, 3) := by decide +kernel
theorem dX0_setMark_17 : decode cX0_setMark 17 = .ok (.iconst 0, 1) := by decide +kernel
theorem dX0_setMark_18 : decode cX0_setMark 18 = .ok (.ireturn, 1) := by decide +kernel
theorem dX0_setMark_19 : decode cX0_setMark 19 = .ok (.aload_n 0, 1) := by decide +kernel
theorem dX0_setMark_20 : decode cX0_setMark 20 = .ok (.iload_n 1, 1) := by decide +kernel
theorem dX0_setMark_21 : decode cX0_setMark 21 = .ok (.invokevirtual 67, 3) := by decide +kernel
theorem dX0_setMark_24 : decode cX0_setMark 24 = .ok (.pop, 1) := by decide +kernel
theorem dX0_setMark_25 : decode cX0_setMark 25 = .ok (.aload_n 3, 1) := by decide +kernel
theorem dX0_setMark_26 : decode cX0_setMark 26 = .ok (.iload_n 1, 1) := by decide +kernel
theorem dX0_setMark_27 : decode cX0_setMark 27 = .ok (.aload_n 0, 1) := by decide +kernel
theorem dX0_setMark_28 : decode cX0_setMark 28 = .ok (.getfield 22, 3) := by decide +kernel
theorem dX0_setMark_31 : decode cX0_setMark 31 = .ok (.invokevirtual 89, 3) := by decide +kernel
theorem dX0_setMark_34 : decode cX0_setMark 34 = .ok (.aload_n 3, 1) := by decide +kernel
theorem dX0_setMark_35 : decode cX0_setMark 35 = .ok (.getfield 43, 3) := by decide +kernel
theorem dX0_setMark_38 : decode cX0_setMark 38 = .ok (.iload_n 1, 1) := by decide +kernel
theorem dX0_setMark_39 : decode cX0_setMark 39 = .ok (.aaload, 1) := by decide +kernel
theorem dX0_setMark_40 : decode cX0_setMark 40 = .ok (.invokevirtual 93, 3) := by decide +kernel
theorem dX0_setMark_43 : decode cX0_setMark 43 = .ok (.ireturn, 1) := by decide +kernel
theorem dX0_shareFields_0 : decode cX0_shareFields 0 = .ok (.aload_n 0, 1) := by decide +kernel
theorem dX0_shareFields_1 : decode cX0_shareFields 1 = .ok (.iload_n 1, 1) := by decide +kernel
theorem dX0_shareFields_2 : decode cX0_shareFields 2 = .ok (.invokevirtual 53, 3) := by decide +kernel
theorem dX0_shareFields_5 : decode cX0_shareFields 5 = .ok (.astore 4, 2) := by decide +kernel
theorem dX0_shareFields_7 : decode cX0_shareFields 7 = .ok (.aload 4, 2) := by decide +kernel
theorem dX0_shareFields_9 : decode cX0_shareFields 9 = .ok (.ifnull 10, 3) := by decide +kernel
theorem dX0_shareFields_12 : decode cX0_shareFields 12 = .ok (.iload_n 2, 1) := by decide +kernel
theorem dX0_shareFields_13 : decode cX0_shareFields 13 = .ok (.invokestatic 97, 3) := by decide +kernel
theorem dX0_shareFields_16 : decode cX0_shareFields 16 = .ok (.ifCond .ne 5, 3) := by decide +kernel
theorem dX0_shareFields_19 : decode cX0_shareFields 19 = .ok (.iconst 0, 1) := by decide +kernel
theorem dX0_shareFields_20 : decode cX0_shareFields 20 = .ok (.ireturn, 1) := by decide +kernel
theorem dX0_shareFields_21 : decode cX0_shareFields 21 = .ok (.aload 4, 2) := by decide +kernel
theorem dX0_shareFields_23 : decode cX0_shareFields 23 = .ok (.getfield 100, 3) := by decide +kernel
theorem dX0_shareFields_26 : decode cX0_shareFields 26 = .ok (.iload_n 2, 1) := by decide +kernel
theorem dX0_shareFields_27 : decode cX0_shareFields 27 = .ok (.iaload, 1) := by decide +kernel
theorem dX0_shareFields_28 : decode cX0_shareFields 28 = .ok (.istore 5, 2) := by decide +kernel
theorem dX0_shareFields_30 : decode cX0_shareFields 30 = .ok (.aload 4, 2) := by decide +kernel
theorem dX0_shareFields_32 : decode cX0_shareFields 32 = .ok (.getfield 100, 3) := by decide +kernel
theorem dX0_shareFields_35 : decode cX0_shareFields 35 = .ok (.iload_n 2, 1) := by decide +kernel
theorem dX0_shareFields_36 : decode cX0_shareFields 36 = .ok (.iload_n 3, 1) := by decide +kernel
theorem dX0_shareFields_37 : decode cX0_shareFields 37 = .ok (.iastore, 1) := by decide +kernel
theorem dX0_shareFields_38 : decode cX0_shareFields 38 = .ok (.iconst 0, 1) := by decide +kernel
theorem dX0_shareFields_39 : decode cX0_shareFields 39 = .ok (.istore 6, 2) := by decide +kernel
theorem dX0_shareFields_41 : decode cX0_shareFields 41 = .ok (.iload 6, 2) := by decide +kernel
theorem dX0_shareFields_43 : decode cX0_shareFields 43 = .ok (.bipush 6, 2) := by decide +kernel
theorem dX0_shareFields_45 : decode cX0_shareFields 45 = .ok (.if_icmp .ge 30, 3) := by decide +kernel
theorem dX0_shareFields_48 : decode cX0_shareFields 48 = .ok (.iload 6, 2) := by decide +kernel
theorem dX0_shareFields_50 : decode cX0_shareFields 50 = .ok (.invokestatic 36, 3) := by decide +kernel
theorem dX0_shareFields_53 : decode cX0_shareFields 53 = .ok (.iload_n 2, 1) := by decide +kernel
theorem dX0_shareFields_54 : decode cX0_shareFields 54 = .ok (.if_icmp .ne 15, 3) := by decide +kernel
theorem dX0_shareFields_57 : decode cX0_shareFields 57 = .ok (.aload 4, 2) := by decide +kernel
theorem dX0_shareFields_59 : decode cX0_shareFields 59 = .ok (.getfield 43, 3) := by decide +kernel
theorem dX0_shareFields_62 : decode cX0_shareFields 62 = .ok (.iload 6, 2) := by decide +kernel
theorem dX0_shareFields_64 : decode cX0_shareFields 64 = .ok (.aaload, 1) := by decide +kernel
theorem dX0_shareFields_65 : decode cX0_shareFields 65 = .ok (.iload_n 3, 1) := by decide +kernel
theorem dX0_shareFields_66 : decode cX0_shareFields 66 = .ok (.invokevirtual 103, 3) := by decide +kernel
theorem dX0_shareFields_69 : decode cX0_shareFields 69 = .ok (.iinc 6 1, 3) := by decide +kernel
theorem dX0_shareFields_72 : decode cX0_shareFields 72 = .ok (.goto (-31), 3) := by decide +kernel
theorem dX0_shareFields_75 : decode cX0_shareFields 75 = .ok (.iload 5, 2) := by decide +kernel
theorem dX0_shareFields_77 : decode cX0_shareFields 77 = .ok (.ireturn, 1) := by decide +kernel
theorem dX0_mergeDevices_0 : decode cX0_mergeDevices 0 = .ok (.iconst 0, 1) := by decide +kernel
theorem dX0_mergeDevices_1 : decode cX0_mergeDevices 1 = .ok (.istore_n 3, 1) := by decide +kernel
theorem dX0_mergeDevices_2 : decode cX0_mergeDevices 2 = .ok (.iload_n 1, 1) := by decide +kernel
theorem dX0_mergeDevices_3 : decode cX0_mergeDevices 3 = .ok (.invokestatic 32, 3) := by decide +kernel
theorem dX0_mergeDevices_6 : decode cX0_mergeDevices 6 = .ok (.ifCond .eq 10, 3) := by decide +kernel
theorem dX0_mergeDevices_9 : decode cX0_mergeDevices 9 = .ok (.iload_n 2, 1) := by decide +kernel
theorem dX0_mergeDevices_10 : decode cX0_mergeDevices 10 = .ok (.invokestatic 32, 3) := by decide +kernel
theorem dX0_mergeDevices_13 : decode cX0_mergeDevices 13 = .ok (.ifCond .ne 5, 3) := by decide +kernel
theorem dX0_mergeDevices_16 : decode cX0_mergeDevices 16 = .ok (.iload_n 3, 1) := by decide +kernel
theorem dX0_mergeDevices_17 : decode cX0_mergeDevices 17 = .ok (.ireturn, 1) := by decide +kernel
theorem dX0_mergeDevices_18 : decode cX0_mergeDevices 18 = .ok (.iconst 0, 1) := by decide +kernel
theorem dX0_mergeDevices_19 : decode cX0_mergeDevices 19 = .ok (.istore 4, 2) := by decide +kernel
theorem dX0_mergeDevices_21 : decode cX0_mergeDevices 21 = .ok (.iload 4, 2) := by decide +kernel
theorem dX0_mergeDevices_23 : decode cX0_mergeDevices 23 = .ok (.bipush 10, 2) := by decide +kernel
theorem dX0_mergeDevices_25 : decode cX0_mergeDevices 25 = .ok (.if_icmp .ge 37, 3) := by decide +kernel
theorem dX0_mergeDevices_28 : decode cX0_mergeDevices 28 = .ok (.iload 4, 2) := by decide +kernel
theorem dX0_mergeDevices_30 : decode cX0_mergeDevices 30 = .ok (.aload_n 0, 1) := by decide +kernel
theorem dX0_mergeDevices_31 : decode cX0_mergeDevices 31 = .ok (.getfield 26, 3) := by decide +kernel
theorem dX0_mergeDevices_34 : decode cX0_mergeDevices 34 = .ok (.if_icmp .ge 28, 3) := by decide +kernel
theorem dX0_mergeDevices_37 : decode cX0_mergeDevices 37 = .ok (.iload_n 3, 1) := by decide +kernel
theorem dX0_mergeDevices_38 : decode cX0_mergeDevices 38 = .ok (.aload_n 0, 1) := by decide +kernel
theorem dX0_mergeDevices_39 : decode cX0_mergeDevices 39 = .ok (.getfield 17, 3) := by decide +kernel
theorem dX0_mergeDevices_42 : decode cX0_mergeDevices 42 = .ok (.iload 4, 2) := by decide +kernel
theorem dX0_mergeDevices_44 : decode cX0_mergeDevices 44 = .ok (.aaload, 1) := by decide +kernel
theorem dX0_mergeDevices_45 : decode cX0_mergeDevices 45 = .ok (.iload_n 1, 1) := by decide +kernel
theorem dX0_mergeDevices_46 : decode cX0_mergeDevices 46 = .ok (.iload_n 2, 1) := by decide +kernel
theorem dX0_mergeDevices_47 : decode cX0_mergeDevices 47 = .ok (.aload_n 0, 1) := by decide +kernel
theorem dX0_mergeDevices_48 : decode cX0_mergeDevices 48 = .ok (.getfield 22, 3) := by decide +kernel
theorem dX0_mergeDevices_51 : decode cX0_mergeDevices 51 = .ok (.invokevirtual 106, 3) := by decide +kernel
theorem dX0_mergeDevices_54 : decode cX0_mergeDevices 54 = .ok (.iadd, 1) := by decide +kernel
theorem dX0_mergeDevices_55 : decode cX0_mergeDevices 55 = .ok (.istore_n 3, 1) := by decide +kernel
theorem dX0_mergeDevices_56 : decode cX0_mergeDevices 56 = .ok (.iinc 4 1, 3) := by decide +kernel
theorem dX0_mergeDevices_59 : decode cX0_mergeDevices 59 = .ok (.goto (-38), 3) := by decide +kernel
theorem dX0_mergeDevices_62 : decode cX0_mergeDevices 62 = .ok (.iload_n 3, 1) := by decide +kernel
theorem dX0_mergeDevices_63 : decode cX0_mergeDevices 63 = .ok (.ireturn, 1) := by decide +kernel
theorem dX0_passMonths_0 : decode cX0_passMonths 0 = .ok (.aload_n 0, 1) := by decide +kernel
theorem dX0_passMonths_1 : decode cX0_passMonths 1 = .ok (.dup, 1) := by decide +kernel
theorem dX0_passMonths_2 : decode cX0_passMonths 2 = .ok (.getfield 22, 3) := by decide +kernel
theorem dX0_passMonths_5 : decode cX0_passMonths 5 = .ok (.iload_n 1, 1) := by decide +kernel
theorem dX0_passMonths_6 : decode cX0_passMonths 6 = .ok (.iadd, 1) := by decide +kernel
theorem dX0_passMonths_7 : decode cX0_passMonths 7 = .ok (.putfield 22, 3) := by decide +kernel
theorem dX0_passMonths_10 : decode cX0_passMonths 10 = .ok (.iconst 0, 1) := by decide +kernel
theorem dX0_passMonths_11 : decode cX0_passMonths 11 = .ok (.istore_n 2, 1) := by decide +kernel
theorem dX0_passMonths_12 : decode cX0_passMonths 12 = .ok (.iconst 0, 1) := by decide +kernel
theorem dX0_passMonths_13 : decode cX0_passMonths 13 = .ok (.istore_n 3, 1) := by decide +kernel
theorem dX0_passMonths_14 : decode cX0_passMonths 14 = .ok (.iload_n 3, 1) := by decide +kernel
theorem dX0_passMonths_15 : decode cX0_passMonths 15 = .ok (.bipush 10, 2) := by decide +kernel
theorem dX0_passMonths_17 : decode cX0_passMonths 17 = .ok (.if_icmp .ge 33, 3) := by decide +kernel
theorem dX0_passMonths_20 : decode cX0_passMonths 20 = .ok (.iload_n 3, 1) := by decide +kernel
theorem dX0_passMonths_21 : decode cX0_passMonths 21 = .ok (.aload_n 0, 1) := by decide +kernel
theorem dX0_passMonths_22 : decode cX0_passMonths 22 = .ok (.getfield 26, 3) := by decide +kernel
theorem dX0_passMonths_25 : decode cX0_passMonths 25 = .ok (.if_icmp .ge 25, 3) := by decide +kernel
theorem dX0_passMonths_28 : decode cX0_passMonths 28 = .ok (.iload_n 2, 1) := by decide +kernel
theorem dX0_passMonths_29 : decode cX0_passMonths 29 = .ok (.aload_n 0, 1) := by decide +kernel
theorem dX0_passMonths_30 : decode cX0_passMonths 30 = .ok (.getfield 17, 3) := by decide +kernel
theorem dX0_passMonths_33 : decode cX0_passMonths 33 = .ok (.iload_n 3, 1) := by decide +kernel
theorem dX0_passMonths_34 : decode cX0_passMonths 34 = .ok (.aaload, 1) := by decide +kernel
theorem dX0_passMonths_35 : decode cX0_passMonths 35 = .ok (.aload_n 0, 1) := by decide +kernel
theorem dX0_passMonths_36 : decode cX0_passMonths 36 = .ok (.getfield 22, 3) := by decide +kernel
theorem dX0_passMonths_39 : decode cX0_passMonths 39 = .ok (.invokevirtual 110, 3) := by decide +kernel
theorem dX0_passMonths_42 : decode cX0_passMonths 42 = .ok (.iadd, 1) := by decide +kernel
theorem dX0_passMonths_43 : decode cX0_passMonths 43 = .ok (.istore_n 2, 1) := by decide +kernel
theorem dX0_passMonths_44 : decode cX0_passMonths 44 = .ok (.iinc 3 1, 3) := by decide +kernel
theorem dX0_passMonths_47 : decode cX0_passMonths 47 = .ok (.goto (-33), 3) := by decide +kernel
theorem dX0_passMonths_50 : decode cX0_passMonths 50 = .ok (.iload_n 2, 1) := by decide +kernel
theorem dX0_passMonths_51 : decode cX0_passMonths 51 = .ok (.ireturn, 1) := by decide +kernel
theorem dX0_countClashes_0 : decode cX0_countClashes 0 = .ok (.iconst 0, 1) := by decide +kernel
theorem dX0_countClashes_1 : decode cX0_countClashes 1 = .ok (.istore_n 2, 1) := by decide +kernel
theorem dX0_countClashes_2 : decode cX0_countClashes 2 = .ok (.iconst 0, 1) := by decide +kernel
theorem dX0_countClashes_3 : decode cX0_countClashes 3 = .ok (.istore_n 3, 1) := by decide +kernel
theorem dX0_countClashes_4 : decode cX0_countClashes 4 = .ok (.iload_n 3, 1) := by decide +kernel
theorem dX0_countClashes_5 : decode cX0_countClashes 5 = .ok (.bipush 10, 2) := by decide +kernel
theorem dX0_countClashes_7 : decode cX0_countClashes 7 = .ok (.if_icmp .ge 48, 3) := by decide +kernel
theorem dX0_countClashes_10 : decode cX0_countClashes 10 = .ok (.iload_n 3, 1) := by decide +kernel
theorem dX0_countClashes_11 : decode cX0_countClashes 11 = .ok (.aload_n 0, 1) := by decide +kernel
theorem dX0_countClashes_12 : decode cX0_countClashes 12 = .ok (.getfield 26, 3) := by decide +kernel
theorem dX0_countClashes_15 : decode cX0_countClashes 15 = .ok (.if_icmp .ge 40, 3) := by decide +kernel
theorem dX0_countClashes_18 : decode cX0_countClashes 18 = .ok (.aload_n 0, 1) := by decide +kernel
theorem dX0_countClashes_19 : decode cX0_countClashes 19 = .ok (.getfield 17, 3) := by decide +kernel
theorem dX0_countClashes_22 : decode cX0_countClashes 22 = .ok (.iload_n 3, 1) := by decide +kernel
theorem dX0_countClashes_23 : decode cX0_countClashes 23 = .ok (.aaload, 1) := by decide +kernel
theorem dX0_countClashes_24 : decode cX0_countClashes 24 = .ok (.iload_n 1, 1) := by decide +kernel
theorem dX0_countClashes_25 : decode cX0_countClashes 25 = .ok (.invokevirtual 113, 3) := by decide +kernel
theorem dX0_countClashes_28 : decode cX0_countClashes 28 = .ok (.iconst 1, 1) := by decide +kernel
theorem dX0_countClashes_29 : decode cX0_countClashes 29 = .ok (.if_icmp .ne 20, 3) := by decide +kernel
theorem dX0_countClashes_32 : decode cX0_countClashes 32 = .ok (.iload_n 2, 1) := by decide +kernel
theorem dX0_countClashes_33 : decode cX0_countClashes 33 = .ok (.aload_n 0, 1) := by decide +kernel
theorem dX0_countClashes_34 : decode cX0_countClashes 34 = .ok (.getfield 17, 3) := by decide +kernel
theorem dX0_countClashes_37 : decode cX0_countClashes 37 = .ok (.iload_n 3, 1) := by decide +kernel
theorem dX0_countClashes_38 : decode cX0_countClashes 38 = .ok (.aaload, 1) := by decide +kernel
theorem dX0_countClashes_39 : decode cX0_countClashes 39 = .ok (.getfield 43, 3) := by decide +kernel
theorem dX0_countClashes_42 : decode cX0_countClashes 42 = .ok (.iload_n 1, 1) := by decide +kernel
theorem dX0_countClashes_43 : decode cX0_countClashes 43 = .ok (.aaload, 1) := by decide +kernel
theorem dX0_countClashes_44 : decode cX0_countClashes 44 = .ok (.invokevirtual 116, 3) := by decide +kernel
theorem dX0_countClashes_47 : decode cX0_countClashes 47 = .ok (.iadd, 1) := by decide +kernel
theorem dX0_countClashes_48 : decode cX0_countClashes 48 = .ok (.istore_n 2, 1) := by decide +kernel
theorem dX0_countClashes_49 : decode cX0_countClashes 49 = .ok (.iinc 3 1, 3) := by decide +kernel
theorem dX0_countClashes_52 : decode cX0_countClashes 52 = .ok (.goto (-48), 3) := by decide +kernel
theorem dX0_countClashes_55 : decode cX0_countClashes 55 = .ok (.iload_n 2, 1) := by decide +kernel
theorem dX0_countClashes_56 : decode cX0_countClashes 56 = .ok (.ireturn, 1) := by decide +kernel
theorem dX0_countCompared_0 : decode cX0_countCompared 0 = .ok (.iconst 0, 1) := by decide +kernel
theorem dX0_countCompared_1 : decode cX0_countCompared 1 = .ok (.istore_n 3, 1) := by decide +kernel
theorem dX0_countCompared_2 : decode cX0_countCompared 2 = .ok (.iconst 0, 1) := by decide +kernel
theorem dX0_countCompared_3 : decode cX0_countCompared 3 = .ok (.istore 4, 2) := by decide +kernel
theorem dX0_countCompared_5 : decode cX0_countCompared 5 = .ok (.iload 4, 2) := by decide +kernel
theorem dX0_countCompared_7 : decode cX0_countCompared 7 = .ok (.bipush 10, 2) := by decide +kernel
theorem dX0_countCompared_9 : decode cX0_countCompared 9 = .ok (.if_icmp .ge 36, 3) := by decide +kernel
theorem dX0_countCompared_12 : decode cX0_countCompared 12 = .ok (.iload 4, 2) := by decide +kernel
theorem dX0_countCompared_14 : decode cX0_countCompared 14 = .ok (.aload_n 0, 1) := by decide +kernel
theorem dX0_countCompared_15 : decode cX0_countCompared 15 = .ok (.getfield 26, 3) := by decide +kernel
theorem dX0_countCompared_18 : decode cX0_countCompared 18 = .ok (.if_icmp .ge 27, 3) := by decide +kernel
theorem dX0_countCompared_21 : decode cX0_countCompared 21 = .ok (.iload_n 3, 1) := by decide +kernel
theorem dX0_countCompared_22 : decode cX0_countCompared 22 = .ok (.aload_n 0, 1) := by decide +kernel
theorem dX0_countCompared_23 : decode cX0_countCompared 23 = .ok (.getfield 17, 3) := by decide +kernel
theorem dX0_countCompared_26 : decode cX0_countCompared 26 = .ok (.iload 4, 2) := by decide +kernel
theorem dX0_countCompared_28 : decode cX0_countCompared 28 = .ok (.aaload, 1) := by decide +kernel
theorem dX0_countCompared_29 : decode cX0_countCompared 29 = .ok (.iload_n 1, 1) := by decide +kernel
theorem dX0_countCompared_30 : decode cX0_countCompared 30 = .ok (.iload_n 2, 1) := by decide +kernel
theorem dX0_countCompared_31 : decode cX0_countCompared 31 = .ok (.invokevirtual 119, 3) := by decide +kernel
theorem dX0_countCompared_34 : decode cX0_countCompared 34 = .ok (.invokestatic 122, 3) := by decide +kernel
theorem dX0_countCompared_37 : decode cX0_countCompared 37 = .ok (.iadd, 1) := by decide +kernel
theorem dX0_countCompared_38 : decode cX0_countCompared 38 = .ok (.istore_n 3, 1) := by decide +kernel
theorem dX0_countCompared_39 : decode cX0_countCompared 39 = .ok (.iinc 4 1, 3) := by decide +kernel
theorem dX0_countCompared_42 : decode cX0_countCompared 42 = .ok (.goto (-37), 3) := by decide +kernel
theorem dX0_countCompared_45 : decode cX0_countCompared 45 = .ok (.iload_n 3, 1) := by decide +kernel
theorem dX0_countCompared_46 : decode cX0_countCompared 46 = .ok (.ireturn, 1) := by decide +kernel
theorem dX0_countSame_0 : decode cX0_countSame 0 = .ok (.iconst 0, 1) := by decide +kernel
theorem dX0_countSame_1 : decode cX0_countSame 1 = .ok (.istore_n 3, 1) := by decide +kernel
theorem dX0_countSame_2 : decode cX0_countSame 2 = .ok (.iconst 0, 1) := by decide +kernel
theorem dX0_countSame_3 : decode cX0_countSame 3 = .ok (.istore 4, 2) := by decide +kernel
theorem dX0_countSame_5 : decode cX0_countSame 5 = .ok (.iload 4, 2) := by decide +kernel
theorem dX0_countSame_7 : decode cX0_countSame 7 = .ok (.bipush 10, 2) := by decide +kernel
theorem dX0_countSame_9 : decode cX0_countSame 9 = .ok (.if_icmp .ge 33, 3) := by decide +kernel
theorem dX0_countSame_12 : decode cX0_countSame 12 = .ok (.iload 4, 2) := by decide +kernel
theorem dX0_countSame_14 : decode cX0_countSame 14 = .ok (.aload_n 0, 1) := by decide +kernel
theorem dX0_countSame_15 : decode cX0_countSame 15 = .ok (.getfield 26, 3) := by decide +kernel
theorem dX0_countSame_18 : decode cX0_countSame 18 = .ok (.if_icmp .ge 24, 3) := by decide +kernel
theorem dX0_countSame_21 : decode cX0_countSame 21 = .ok (.iload_n 3, 1) := by decide +kernel
theorem dX0_countSame_22 : decode cX0_countSame 22 = .ok (.aload_n 0, 1) := by decide +kernel
theorem dX0_countSame_23 : decode cX0_countSame 23 = .ok (.getfield 17, 3) := by decide +kernel
theorem dX0_countSame_26 : decode cX0_countSame 26 = .ok (.iload 4, 2) := by decide +kernel
theorem dX0_countSame_28 : decode cX0_countSame 28 = .ok (.aaload, 1) := by decide +kernel
theorem dX0_countSame_29 : decode cX0_countSame 29 = .ok (.iload_n 1, 1) := by decide +kernel
theorem dX0_countSame_30 : decode cX0_countSame 30 = .ok (.iload_n 2, 1) := by decide +kernel
theorem dX0_countSame_31 : decode cX0_countSame 31 = .ok (.invokevirtual 127, 3) := by decide +kernel
theorem dX0_countSame_34 : decode cX0_countSame 34 = .ok (.iadd, 1) := by decide +kernel
theorem dX0_countSame_35 : decode cX0_countSame 35 = .ok (.istore_n 3, 1) := by decide +kernel
theorem dX0_countSame_36 : decode cX0_countSame 36 = .ok (.iinc 4 1, 3) := by decide +kernel
theorem dX0_countSame_39 : decode cX0_countSame 39 = .ok (.goto (-34), 3) := by decide +kernel
theorem dX0_countSame_42 : decode cX0_countSame 42 = .ok (.iload_n 3, 1) := by decide +kernel
theorem dX0_countSame_43 : decode cX0_countSame 43 = .ok (.ireturn, 1) := by decide +kernel
theorem dX1_init_0 : decode cX1_init 0 = .ok (.aload_n 0, 1) := by decide +kernel
theorem dX1_init_1 : decode cX1_init 1 = .ok (.invokespecial 3, 3) := by decide +kernel
theorem dX1_init_4 : decode cX1_init 4 = .ok (.aload_n 0, 1) := by decide +kernel
theorem dX1_init_5 : decode cX1_init 5 = .ok (.bipush 24, 2) := by decide +kernel
theorem dX1_init_7 : decode cX1_init 7 = .ok (.newarray .int, 2) := by decide +kernel
theorem dX1_init_9 : decode cX1_init 9 = .ok (.putfield 9, 3) := by decide +kernel
theorem dX1_init_12 : decode cX1_init 12 = .ok (.aload_n 0, 1) := by decide +kernel
theorem dX1_init_13 : decode cX1_init 13 = .ok (.bipush 24, 2) := by decide +kernel
theorem dX1_init_15 : decode cX1_init 15 = .ok (.newarray .int, 2) := by decide +kernel
theorem dX1_init_17 : decode cX1_init 17 = .ok (.putfield 15, 3) := by decide +kernel
theorem dX1_init_20 : decode cX1_init 20 = .ok (.aload_n 0, 1) := by decide +kernel
theorem dX1_init_21 : decode cX1_init 21 = .ok (.new 18, 3) := by decide +kernel
theorem dX1_init_24 : decode cX1_init 24 = .ok (.dup, 1) := by decide +kernel
theorem dX1_init_25 : decode cX1_init 25 = .ok (.invokespecial 20, 3) := by decide +kernel
theorem dX1_init_28 : decode cX1_init 28 = .ok (.putfield 21, 3) := by decide +kernel
theorem dX1_init_31 : decode cX1_init 31 = .ok (.aload_n 0, 1) := by decide +kernel
theorem dX1_init_32 : decode cX1_init 32 = .ok (.new 18, 3) := by decide +kernel
theorem dX1_init_35 : decode cX1_init 35 = .ok (.dup, 1) := by decide +kernel
theorem dX1_init_36 : decode cX1_init 36 = .ok (.invokespecial 20, 3) := by decide +kernel
theorem dX1_init_39 : decode cX1_init 39 = .ok (.putfield 25, 3) := by decide +kernel
theorem dX1_init_42 : decode cX1_init 42 = .ok (.return_, 1) := by decide +kernel
theorem dX1_clear_0 : decode cX1_clear 0 = .ok (.aload_n 0, 1) := by decide +kernel
theorem dX1_clear_1 : decode cX1_clear 1 = .ok (.iconst 0, 1) := by decide +kernel
theorem dX1_clear_2 : decode cX1_clear 2 = .ok (.putfield 28, 3) := by decide +kernel
theorem dX1_clear_5 : decode cX1_clear 5 = .ok (.aload_n 0, 1) := by decide +kernel
theorem dX1_clear_6 : decode cX1_clear 6 = .ok (.iconst 0, 1) := by decide +kernel
theorem dX1_clear_7 : decode cX1_clear 7 = .ok (.putfield 32, 3) := by decide +kernel
theorem dX1_clear_10 : decode cX1_clear 10 = .ok (.aload_n 0, 1) := by decide +kernel
theorem dX1_clear_11 : decode cX1_clear 11 = .ok (.iconst 0, 1) := by decide +kernel
theorem dX1_clear_12 : decode cX1_clear 12 = .ok (.invokevirtual 35, 3) := by decide +kernel
theorem dX1_clear_15 : decode cX1_clear 15 = .ok (.aload_n 0, 1) := by decide +kernel
theorem dX1_clear_16 : decode cX1_clear 16 = .ok (.getfield 25, 3) := by decide +kernel
theorem dX1_clear_19 : decode cX1_clear 19 = .ok (.invokevirtual 39, 3) := by decide +kernel
theorem dX1_clear_22 : decode cX1_clear 22 = .ok (.return_, 1) := by decide +kernel
theorem dX1_countValues_0 : decode cX1_countValues 0 = .ok (.iconst 0, 1) := by decide +kernel
theorem dX1_countValues_1 : decode cX1_countValues 1 = .ok (.istore_n 2, 1) := by decide +kernel
theorem dX1_countValues_2 : decode cX1_countValues 2 = .ok (.iconst 0, 1) := by decide +kernel
theorem dX1_countValues_3 : decode cX1_countValues 3 = .ok (.istore_n 3, 1) := by decide +kernel
theorem dX1_countValues_4 : decode cX1_countValues 4 = .ok (.iload_n 3, 1) := by decide +kernel
theorem dX1_countValues_5 : decode cX1_countValues 5 = .ok (.bipush 6, 2) := by decide +kernel
theorem dX1_countValues_7 : decode cX1_countValues 7 = .ok (.if_icmp .ge 25, 3) := by decide +kernel
theorem dX1_countValues_10 : decode cX1_countValues 10 = .ok (.aload_n 0, 1) := by decide +kernel
theorem dX1_countValues_11 : decode cX1_countValues 11 = .ok (.getfield 9, 3) := by decide +kernel
theorem dX1_countValues_14 : decode cX1_countValues 14 = .ok (.iload_n 1, 1) := by decide +kernel
theorem dX1_countValues_15 : decode cX1_countValues 15 = .ok (.iload_n 3, 1) := by decide +kernel
theorem dX1_countValues_16 : decode cX1_countValues 16 = .ok (.invokestatic 42, 3) := by decide +kernel
theorem dX1_countValues_19 : decode cX1_countValues 19 = .ok (.iaload, 1) := by decide +kernel
theorem dX1_countValues_20 : decode cX1_countValues 20 = .ok (.ifCond .eq 6, 3) := by decide +kernel
theorem dX1_countValues_23 : decode cX1_countValues 23 = .ok (.iinc 2 1, 3) := by decide +kernel
theorem dX1_countValues_26 : decode cX1_countValues 26 = .ok (.iinc 3 1, 3) := by decide +kernel
theorem dX1_countValues_29 : decode cX1_countValues 29 = .ok (.goto (-25), 3) := by decide +kernel
theorem dX1_countValues_32 : decode cX1_countValues 32 = .ok (.iload_n 2, 1) := by decide +kernel
theorem dX1_countValues_33 : decode cX1_countValues 33 = .ok (.ireturn, 1) := by decide +kernel
theorem dX1_countAllValues_0 : decode cX1_countAllValues 0 = .ok (.iconst 0, 1) := by decide +kernel
theorem dX1_countAllValues_1 : decode cX1_countAllValues 1 = .ok (.istore_n 1, 1) := by decide +kernel
theorem dX1_countAllValues_2 : decode cX1_countAllValues 2 = .ok (.iconst 0, 1) := by decide +kernel
theorem dX1_countAllValues_3 : decode cX1_countAllValues 3 = .ok (.istore_n 2, 1) := by decide +kernel
theorem dX1_countAllValues_4 : decode cX1_countAllValues 4 = .ok (.iload_n 2, 1) := by decide +kernel
theorem dX1_countAllValues_5 : decode cX1_countAllValues 5 = .ok (.bipush 24, 2) := by decide +kernel
theorem dX1_countAllValues_7 : decode cX1_countAllValues 7 = .ok (.if_icmp .ge 21, 3) := by decide +kernel
theorem dX1_countAllValues_10 : decode cX1_countAllValues 10 = .ok (.aload_n 0, 1) := by decide +kernel
theorem dX1_countAllValues_11 : decode cX1_countAllValues 11 = .ok (.getfield 9, 3) := by decide +kernel
theorem dX1_countAllValues_14 : decode cX1_countAllValues 14 = .ok (.iload_n 2, 1) := by decide +kernel
theorem dX1_countAllValues_15 : decode cX1_countAllValues 15 = .ok (.iaload, 1) := by decide +kernel
theorem dX1_countAllValues_16 : decode cX1_countAllValues 16 = .ok (.ifCond .eq 6, 3) := by decide +kernel
theorem dX1_countAllValues_19 : decode cX1_countAllValues 19 = .ok (.iinc 1 1, 3) := by decide +kernel
theorem dX1_countAllValues_22 : decode cX1_countAllValues 22 = .ok (.iinc 2 1, 3) := by decide +kernel
theorem dX1_countAllValues_25 : decode cX1_countAllValues 25 = .ok (.goto (-21), 3) := by decide +kernel
theorem dX1_countAllValues_28 : decode cX1_countAllValues 28 = .ok (.iload_n 1, 1) := by decide +kernel
theorem dX1_countAllValues_29 : decode cX1_countAllValues 29 = .ok (.ireturn, 1) := by decide +kernel
theorem dX1_countClashes_0 : decode cX1_countClashes 0 = .ok (.iconst 0, 1) := by decide +kernel
theorem dX1_countClashes_1 : decode cX1_countClashes 1 = .ok (.istore_n 1, 1) := by decide +kernel
theorem dX1_countClashes_2 : decode cX1_countClashes 2 = .ok (.iconst 0, 1) := by decide +kernel
theorem dX1_countClashes_3 : decode cX1_countClashes 3 = .ok (.istore_n 2, 1) := by decide +kernel
theorem dX1_countClashes_4 : decode cX1_countClashes 4 = .ok (.iload_n 2, 1) := by decide +kernel
theorem dX1_countClashes_5 : decode cX1_countClashes 5 = .ok (.iconst 4, 1) := by decide +kernel
theorem dX1_countClashes_6 : decode cX1_countClashes 6 = .ok (.if_icmp .ge 21, 3) := by decide +kernel
theorem dX1_countClashes_9 : decode cX1_countClashes 9 = .ok (.aload_n 0, 1) := by decide +kernel
theorem dX1_countClashes_10 : decode cX1_countClashes 10 = .ok (.iload_n 2, 1) := by decide +kernel
theorem dX1_countClashes_11 : decode cX1_countClashes 11 = .ok (.invokevirtual 46, 3) := by decide +kernel
theorem dX1_countClashes_14 : decode cX1_countClashes 14 = .ok (.iconst 1, 1) := by decide +kernel
theorem dX1_countClashes_15 : decode cX1_countClashes 15 = .ok (.if_icmp .le 6, 3) := by decide +kernel
theorem dX1_countClashes_18 : decode cX1_countClashes 18 = .ok (.iinc 1 1, 3) := by decide +kernel
theorem dX1_countClashes_21 : decode cX1_countClashes 21 = .ok (.iinc 2 1, 3) := by decide +kernel
theorem dX1_countClashes_24 : decode cX1_countClashes 24 = .ok (.goto (-20), 3) := by decide +kernel
theorem dX1_countClashes_27 : decode cX1_countClashes 27 = .ok (.iload_n 1, 1) := by decide +kernel
theorem dX1_countClashes_28 : decode cX1_countClashes 28 = .ok (.ireturn, 1) := by decide +kernel
theorem dX1_valueAt_0 : decode cX1_valueAt 0 = .ok (.iconst 0, 1) := by decide +kernel
theorem dX1_valueAt_1 : decode cX1_valueAt 1 = .ok (.istore_n 3, 1) := by decide +kernel
theorem dX1_valueAt_2 : decode cX1_valueAt 2 = .ok (.iconst 0, 1) := by decide +kernel
theorem dX1_valueAt_3 : decode cX1_valueAt 3 = .ok (.istore 4, 2) := by decide +kernel
theorem dX1_valueAt_5 : decode cX1_valueAt 5 = .ok (.iload 4, 2) := by decide +kernel
theorem dX1_valueAt_7 : decode cX1_valueAt 7 = .ok (.bipush 6, 2) := by decide +kernel
theorem dX1_valueAt_9 : decode cX1_valueAt 9 = .ok (.if_icmp .ge 43, 3) := by decide +kernel
theorem dX1_valueAt_12 : decode cX1_valueAt 12 = .ok (.iload_n 1, 1) := by decide +kernel
theorem dX1_valueAt_13 : decode cX1_valueAt 13 = .ok (.iload 4, 2) := by decide +kernel
theorem dX1_valueAt_15 : decode cX1_valueAt 15 = .ok (.invokestatic 42, 3) := by decide +kernel
theorem dX1_valueAt_18 : decode cX1_valueAt 18 = .ok (.istore 5, 2) := by decide +kernel
theorem dX1_valueAt_20 : decode cX1_valueAt 20 = .ok (.aload_n 0, 1) := by decide +kernel
theorem dX1_valueAt_21 : decode cX1_valueAt 21 = .ok (.getfield 9, 3) := by decide +kernel
theorem dX1_valueAt_24 : decode cX1_valueAt 24 = .ok (.iload 5, 2) := by decide +kernel
theorem dX1_valueAt_26 : decode cX1_valueAt 26 = .ok (.iaload, 1) := by decide +kernel
theorem dX1_valueAt_27 : decode cX1_valueAt 27 = .ok (.ifCond .eq 19, 3) := by decide +kernel
theorem dX1_valueAt_30 : decode cX1_valueAt 30 = .ok (.iload_n 3, 1) := by decide +kernel
theorem dX1_valueAt_31 : decode cX1_valueAt 31 = .ok (.iload_n 2, 1) := by decide +kernel
theorem dX1_valueAt_32 : decode cX1_valueAt 32 = .ok (.if_icmp .ne 11, 3) := by decide +kernel
theorem dX1_valueAt_35 : decode cX1_valueAt 35 = .ok (.aload_n 0, 1) := by decide +kernel
theorem dX1_valueAt_36 : decode cX1_valueAt 36 = .ok (.getfield 15, 3) := by decide +kernel
theorem dX1_valueAt_39 : decode cX1_valueAt 39 = .ok (.iload 5, 2) := by decide +kernel
theorem dX1_valueAt_41 : decode cX1_valueAt 41 = .ok (.iaload, 1) := by decide +kernel
theorem dX1_valueAt_42 : decode cX1_valueAt 42 = .ok (.ireturn, 1) := by decide +kernel
theorem dX1_valueAt_43 : decode cX1_valueAt 43 = .ok (.iinc 3 1, 3) := by decide +kernel
theorem dX1_valueAt_46 : decode cX1_valueAt 46 = .ok (.iinc 4 1, 3) := by decide +kernel
theorem dX1_valueAt_49 : decode cX1_valueAt 49 = .ok (.goto (-44), 3) := by decide +kernel
theorem dX1_valueAt_52 : decode cX1_valueAt 52 = .ok (.iconst (-1), 1) := by decide +kernel
theorem dX1_valueAt_53 : decode cX1_valueAt 53 = .ok (.ireturn, 1) := by decide +kernel
theorem dX1_dropValues_0 : decode cX1_dropValues 0 = .ok (.iconst 0, 1) := by decide +kernel
theorem dX1_dropValues_1 : decode cX1_dropValues 1 = .ok (.istore_n 2, 1) := by decide +kernel
theorem dX1_dropValues_2 : decode cX1_dropValues 2 = .ok (.iload_n 2, 1) := by decide +kernel
theorem dX1_dropValues_3 : decode cX1_dropValues 3 = .ok (.bipush 6, 2) := by decide +kernel
theorem dX1_dropValues_5 : decode cX1_dropValues 5 = .ok (.if_icmp .ge 31, 3) := by decide +kernel
theorem dX1_dropValues_8 : decode cX1_dropValues 8 = .ok (.aload_n 0, 1) := by decide +kernel
theorem dX1_dropValues_9 : decode cX1_dropValues 9 = .ok (.getfield 9, 3) := by decide +kernel
theorem dX1_dropValues_12 : decode cX1_dropValues 12 = .ok (.iload_n 1, 1) := by decide +kernel
theorem dX1_dropValues_13 : decode cX1_dropValues 13 = .ok (.iload_n 2, 1) := by decide +kernel
theorem dX1_dropValues_14 : decode cX1_dropValues 14 = .ok (.invokestatic 42, 3) := by decide +kernel
theorem dX1_dropValues_17 : decode cX1_dropValues 17 = .ok (.iconst 0, 1) := by decide +kernel
theorem dX1_dropValues_18 : decode cX1_dropValues 18 = .ok (.iastore, 1) := by decide +kernel
theorem dX1_dropValues_19 : decode cX1_dropValues 19 = .ok (.aload_n 0, 1) := by decide +kernel
theorem dX1_dropValues_20 : decode cX1_dropValues 20 = .ok (.getfield 15, 3) := by decide +kernel
theorem dX1_dropValues_23 : decode cX1_dropValues 23 = .ok (.iload_n 1, 1) := by decide +kernel
theorem dX1_dropValues_24 : decode cX1_dropValues 24 = .ok (.iload_n 2, 1) := by decide +kernel
theorem dX1_dropValues_25 : decode cX1_dropValues 25 = .ok (.invokestatic 42, 3) := by decide +kernel
theorem dX1_dropValues_28 : decode cX1_dropValues 28 = .ok (.iconst 0, 1) := by decide +kernel
theorem dX1_dropValues_29 : decode cX1_dropValues 29 = .ok (.iastore, 1) := by decide +kernel
theorem dX1_dropValues_30 : decode cX1_dropValues 30 = .ok (.iinc 2 1, 3) := by decide +kernel
theorem dX1_dropValues_33 : decode cX1_dropValues 33 = .ok (.goto (-31), 3) := by decide +kernel
theorem dX1_dropValues_36 : decode cX1_dropValues 36 = .ok (.return_, 1) := by decide +kernel
theorem dX1_keepFields_0 : decode cX1_keepFields 0 = .ok (.iconst 0, 1) := by decide +kernel
theorem dX1_keepFields_1 : decode cX1_keepFields 1 = .ok (.istore_n 2, 1) := by decide +kernel
theorem dX1_keepFields_2 : decode cX1_keepFields 2 = .ok (.iload_n 2, 1) := by decide +kernel
theorem dX1_keepFields_3 : decode cX1_keepFields 3 = .ok (.bipush 24, 2) := by decide +kernel
theorem dX1_keepFields_5 : decode cX1_keepFields 5 = .ok (.if_icmp .ge 44, 3) := by decide +kernel
theorem dX1_keepFields_8 : decode cX1_keepFields 8 = .ok (.iload_n 1, 1) := by decide +kernel
theorem dX1_keepFields_9 : decode cX1_keepFields 9 = .ok (.iload_n 2, 1) := by decide +kernel
theorem dX1_keepFields_10 : decode cX1_keepFields 10 = .ok (.bipush 6, 2) := by decide +kernel
theorem dX1_keepFields_12 : decode cX1_keepFields 12 = .ok (.idiv, 1) := by decide +kernel
theorem dX1_keepFields_13 : decode cX1_keepFields 13 = .ok (.invokestatic 50, 3) := by decide +kernel
theorem dX1_keepFields_16 : decode cX1_keepFields 16 = .ok (.ifCond .ne 27, 3) := by decide +kernel
theorem dX1_keepFields_19 : decode cX1_keepFields 19 = .ok (.aload_n 0, 1) := by decide +kernel
theorem dX1_keepFields_20 : decode cX1_keepFields 20 = .ok (.getfield 9, 3) := by decide +kernel
theorem dX1_keepFields_23 : decode cX1_keepFields 23 = .ok (.iload_n 2, 1) := by decide +kernel
theorem dX1_keepFields_24 : decode cX1_keepFields 24 = .ok (.iconst 0, 1) := by decide +kernel
theorem dX1_keepFields_25 : decode cX1_keepFields 25 = .ok (.iastore, 1) := by decide +kernel
theorem dX1_keepFields_26 : decode cX1_keepFields 26 = .ok (.aload_n 0, 1) := by decide +kernel
theorem dX1_keepFields_27 : decode cX1_keepFields 27 = .ok (.getfield 15, 3) := by decide +kernel
theorem dX1_keepFields_30 : decode cX1_keepFields 30 = .ok (.iload_n 2, 1) := by decide +kernel
theorem dX1_keepFields_31 : decode cX1_keepFields 31 = .ok (.iconst 0, 1) := by decide +kernel
theorem dX1_keepFields_32 : decode cX1_keepFields 32 = .ok (.iastore, 1) := by decide +kernel
theorem dX1_keepFields_33 : decode cX1_keepFields 33 = .ok (.aload_n 0, 1) := by decide +kernel
theorem dX1_keepFields_34 : decode cX1_keepFields 34 = .ok (.getfield 21, 3) := by decide +kernel
theorem dX1_keepFields_37 : decode cX1_keepFields 37 = .ok (.getfield 54, 3) := by decide +kernel
theorem dX1_keepFields_40 : decode cX1_keepFields 40 = .ok (.iload_n 2, 1) := by decide +kernel
theorem dX1_keepFields_41 : decode cX1_keepFields 41 = .ok (.iconst 0, 1) := by decide +kernel
theorem dX1_keepFields_42 : decode cX1_keepFields 42 = .ok (.iastore, 1) := by decide +kernel
theorem dX1_keepFields_43 : decode cX1_keepFields 43 = .ok (.iinc 2 1, 3) := by decide +kernel
theorem dX1_keepFields_46 : decode cX1_keepFields 46 = .ok (.goto (-44), 3) := by decide +kernel
theorem dX1_keepFields_49 : decode cX1_keepFields 49 = .ok (.return_, 1) := by decide +kernel
theorem dX1_hasSameValues_0 : decode cX1_hasSameValues 0 = .ok (.iconst 0, 1) := by decide +kernel
theorem dX1_hasSameValues_1 : decode cX1_hasSameValues 1 = .ok (.istore_n 3, 1) := by decide +kernel
theorem dX1_hasSameValues_2 : decode cX1_hasSameValues 2 = .ok (.iload_n 3, 1) := by decide +kernel
theorem dX1_hasSameValues_3 : decode cX1_hasSameValues 3 = .ok (.bipush 6, 2) := by decide +kernel
theorem dX1_hasSameValues_5 : decode cX1_hasSameValues 5 = .ok (.if_icmp .ge 34, 3) := by decide +kernel
theorem dX1_hasSameValues_8 : decode cX1_hasSameValues 8 = .ok (.aload_n 0, 1) := by decide +kernel
theorem dX1_hasSameValues_9 : decode cX1_hasSameValues 9 = .ok (.getfield 9, 3) := by decide +kernel
theorem dX1_hasSameValues_12 : decode cX1_hasSameValues 12 = .ok (.iload_n 2, 1) := by decide +kernel
theorem dX1_hasSameValues_13 : decode cX1_hasSameValues 13 = .ok (.iload_n 3, 1) := by decide +kernel
theorem dX1_hasSameValues_14 : decode cX1_hasSameValues 14 = .ok (.invokestatic 42, 3) := by decide +kernel
theorem dX1_hasSameValues_17 : decode cX1_hasSameValues 17 = .ok (.iaload, 1) := by decide +kernel
theorem dX1_hasSameValues_18 : decode cX1_hasSameValues 18 = .ok (.aload_n 1, 1) := by decide +kernel
theorem dX1_hasSameValues_19 : decode cX1_hasSameValues 19 = .ok (.getfield 9, 3) := by decide +kernel
theorem dX1_hasSameValues_22 : decode cX1_hasSameValues 22 = .ok (.iload_n 2, 1) := by decide +kernel
theorem dX1_hasSameValues_23 : decode cX1_hasSameValues 23 = .ok (.iload_n 3, 1) := by decide +kernel
theorem dX1_hasSameValues_24 : decode cX1_hasSameValues 24 = .ok (.invokestatic 42, 3) := by decide +kernel
theorem dX1_hasSameValues_27 : decode cX1_hasSameValues 27 = .ok (.iaload, 1) := by decide +kernel
theorem dX1_hasSameValues_28 : decode cX1_hasSameValues 28 = .ok (.if_icmp .eq 5, 3) := by decide +kernel
theorem dX1_hasSameValues_31 : decode cX1_hasSameValues 31 = .ok (.iconst 0, 1) := by decide +kernel
theorem dX1_hasSameValues_32 : decode cX1_hasSameValues 32 = .ok (.ireturn, 1) := by decide +kernel
theorem dX1_hasSameValues_33 : decode cX1_hasSameValues 33 = .ok (.iinc 3 1, 3) := by decide +kernel
theorem dX1_hasSameValues_36 : decode cX1_hasSameValues 36 = .ok (.goto (-34), 3) := by decide +kernel
theorem dX1_hasSameValues_39 : decode cX1_hasSameValues 39 = .ok (.iconst 1, 1) := by decide +kernel
theorem dX1_hasSameValues_40 : decode cX1_hasSameValues 40 = .ok (.ireturn, 1) := by decide +kernel
theorem dX1_braid_0 : decode cX1_braid 0 = .ok (.iconst 0, 1) := by decide +kernel
theorem dX1_braid_1 : decode cX1_braid 1 = .ok (.istore_n 3, 1) := by decide +kernel
theorem dX1_braid_2 : decode cX1_braid 2 = .ok (.iconst 0, 1) := by decide +kernel
theorem dX1_braid_3 : decode cX1_braid 3 = .ok (.istore 4, 2) := by decide +kernel
theorem dX1_braid_5 : decode cX1_braid 5 = .ok (.iload 4, 2) := by decide +kernel
theorem dX1_braid_7 : decode cX1_braid 7 = .ok (.bipush 6, 2) := by decide +kernel
theorem dX1_braid_9 : decode cX1_braid 9 = .ok (.if_icmp .ge 76, 3) := by decide +kernel
theorem dX1_braid_12 : decode cX1_braid 12 = .ok (.iload_n 2, 1) := by decide +kernel
theorem dX1_braid_13 : decode cX1_braid 13 = .ok (.iload 4, 2) := by decide +kernel
theorem dX1_braid_15 : decode cX1_braid 15 = .ok (.invokestatic 42, 3) := by decide +kernel
theorem dX1_braid_18 : decode cX1_braid 18 = .ok (.istore 5, 2) := by decide +kernel
theorem dX1_braid_20 : decode cX1_braid 20 = .ok (.iload_n 3, 1) := by decide +kernel
theorem dX1_braid_21 : decode cX1_braid 21 = .ok (.aload_n 0, 1) := by decide +kernel
theorem dX1_braid_22 : decode cX1_braid 22 = .ok (.aload_n 1, 1) := by decide +kernel
theorem dX1_braid_23 : decode cX1_braid 23 = .ok (.iload 5, 2) := by decide +kernel
theorem dX1_braid_25 : decode cX1_braid 25 = .ok (.invokevirtual 57, 3) := by decide +kernel
theorem dX1_braid_28 : decode cX1_braid 28 = .ok (.iadd, 1) := by decide +kernel
theorem dX1_braid_29 : decode cX1_braid 29 = .ok (.istore_n 3, 1) := by decide +kernel
theorem dX1_braid_30 : decode cX1_braid 30 = .ok (.aload_n 0, 1) := by decide +kernel
theorem dX1_braid_31 : decode cX1_braid 31 = .ok (.getfield 21, 3) := by decide +kernel
theorem dX1_braid_34 : decode cX1_braid 34 = .ok (.getfield 54, 3) := by decide +kernel
theorem dX1_braid_37 : decode cX1_braid 37 = .ok (.iload 5, 2) := by decide +kernel
theorem dX1_braid_39 : decode cX1_braid 39 = .ok (.iaload, 1) := by decide +kernel
theorem dX1_braid_40 : decode cX1_braid 40 = .ok (.aload_n 1, 1) := by decide +kernel
theorem dX1_braid_41 : decode cX1_braid 41 = .ok (.getfield 21, 3) := by decide +kernel
theorem dX1_braid_44 : decode cX1_braid 44 = .ok (.getfield 54, 3) := by decide +kernel
theorem dX1_braid_47 : decode cX1_braid 47 = .ok (.iload 5, 2) := by decide +kernel
theorem dX1_braid_49 : decode cX1_braid 49 = .ok (.iaload, 1) := by decide +kernel
theorem dX1_braid_50 : decode cX1_braid 50 = .ok (.invokestatic 61, 3) := by decide +kernel
theorem dX1_braid_53 : decode cX1_braid 53 = .ok (.istore 6, 2) := by decide +kernel
theorem dX1_braid_55 : decode cX1_braid 55 = .ok (.aload_n 0, 1) := by decide +kernel
theorem dX1_braid_56 : decode cX1_braid 56 = .ok (.getfield 21, 3) := by decide +kernel
theorem dX1_braid_59 : decode cX1_braid 59 = .ok (.getfield 54, 3) := by decide +kernel
theorem dX1_braid_62 : decode cX1_braid 62 = .ok (.iload 5, 2) := by decide +kernel
theorem dX1_braid_64 : decode cX1_braid 64 = .ok (.iload 6, 2) := by decide +kernel
theorem dX1_braid_66 : decode cX1_braid 66 = .ok (.iastore, 1) := by decide +kernel
theorem dX1_braid_67 : decode cX1_braid 67 = .ok (.aload_n 1, 1) := by decide +kernel
theorem dX1_braid_68 : decode cX1_braid 68 = .ok (.getfield 21, 3) := by decide +kernel
theorem dX1_braid_71 : decode cX1_braid 71 = .ok (.getfield 54, 3) := by decide +kernel
theorem dX1_braid_74 : decode cX1_braid 74 = .ok (.iload 5, 2) := by decide +kernel
theorem dX1_braid_76 : decode cX1_braid 76 = .ok (.iload 6, 2) := by decide +kernel
theorem dX1_braid_78 : decode cX1_braid 78 = .ok (.iastore, 1) := by decide +kernel
theorem dX1_braid_79 : decode cX1_braid 79 = .ok (.iinc 4 1, 3) := by decide +kernel
theorem dX1_braid_82 : decode cX1_braid 82 = .ok (.goto (-77), 3) := by decide +kernel
theorem dX1_braid_85 : decode cX1_braid 85 = .ok (.iload_n 3, 1) := by decide +kernel
theorem dX1_braid_86 : decode cX1_braid 86 = .ok (.ireturn, 1) := by decide +kernel
theorem dX1_braidCell_0 : decode cX1_braidCell 0 = .ok (.aload_n 0, 1) := by decide +kernel
theorem dX1_braidCell_1 : decode cX1_braidCell 1 = .ok (.getfield 9, 3) := by decide +kernel
theorem dX1_braidCell_4 : decode cX1_braidCell 4 = .ok (.iload_n 2, 1) := by decide +kernel
theorem dX1_braidCell_5 : decode cX1_braidCell 5 = .ok (.iaload, 1) := by decide +kernel
theorem dX1_braidCell_6 : decode cX1_braidCell 6 = .ok (.aload_n 1, 1) := by decide +kernel
theorem dX1_braidCell_7 : decode cX1_braidCell 7 = .ok (.getfield 9, 3) := by decide +kernel
theorem dX1_braidCell_10 : decode cX1_braidCell 10 = .ok (.iload_n 2, 1) := by decide +kernel
theorem dX1_braidCell_11 : decode cX1_braidCell 11 = .ok (.iaload, 1) := by decide +kernel
theorem dX1_braidCell_12 : decode cX1_braidCell 12 = .ok (.if_icmp .ne 5, 3) := by decide +kernel
theorem dX1_braidCell_15 : decode cX1_braidCell 15 = .ok (.iconst 0, 1) := by decide +kernel
theorem dX1_braidCell_16 : decode cX1_braidCell 16 = .ok (.ireturn, 1) := by decide +kernel
theorem dX1_braidCell_17 : decode cX1_braidCell 17 = .ok (.iconst 0, 1) := by decide +kernel
theorem dX1_braidCell_18 : decode cX1_braidCell 18 = .ok (.istore_n 3, 1) := by decide +kernel
theorem dX1_braidCell_19 : decode cX1_braidCell 19 = .ok (.iconst 0, 1) := by decide +kernel
theorem dX1_braidCell_20 : decode cX1_braidCell 20 = .ok (.istore 4, 2) := by decide +kernel
theorem dX1_braidCell_22 : decode cX1_braidCell 22 = .ok (.aload_n 0, 1) := by decide +kernel
theorem dX1_braidCell_23 : decode cX1_braidCell 23 = .ok (.getfield 9, 3) := by decide +kernel
theorem dX1_braidCell_26 : decode cX1_braidCell 26 = .ok (.iload_n 2, 1) := by decide +kernel
theorem dX1_braidCell_27 : decode cX1_braidCell 27 = .ok (.iaload, 1) := by decide +kernel
theorem dX1_braidCell_28 : decode cX1_braidCell 28 = .ok (.aload_n 1, 1) := by decide +kernel
theorem dX1_braidCell_29 : decode cX1_braidCell 29 = .ok (.getfield 21, 3) := by decide +kernel
theorem dX1_braidCell_32 : decode cX1_braidCell 32 = .ok (.getfield 54, 3) := by decide +kernel
theorem dX1_braidCell_35 : decode cX1_braidCell 35 = .ok (.iload_n 2, 1) := by decide +kernel
theorem dX1_braidCell_36 : decode cX1_braidCell 36 = .ok (.iaload, 1) := by decide +kernel
theorem dX1_braidCell_37 : decode cX1_braidCell 37 = .ok (.if_icmp .le 21, 3) := by decide +kernel
theorem dX1_braidCell_40 : decode cX1_braidCell 40 = .ok (.aload_n 0, 1) := by decide +kernel
theorem dX1_braidCell_41 : decode cX1_braidCell 41 = .ok (.getfield 9, 3) := by decide +kernel
theorem dX1_braidCell_44 : decode cX1_braidCell 44 = .ok (.iload_n 2, 1) := by decide +kernel
theorem dX1_braidCell_45 : decode cX1_braidCell 45 = .ok (.iaload, 1) := by decide +kernel
theorem dX1_braidCell_46 : decode cX1_braidCell 46 = .ok (.istore_n 3, 1) := by decide +kernel
theorem dX1_braidCell_47 : decode cX1_braidCell 47 = .ok (.aload_n 0, 1) := by decide +kernel
theorem dX1_braidCell_48 : decode cX1_braidCell 48 = .ok (.getfield 15, 3) := by decide +kernel
theorem dX1_braidCell_51 : decode cX1_braidCell 51 = .ok (.iload_n 2, 1) := by decide +kernel
theorem dX1_braidCell_52 : decode cX1_braidCell 52 = .ok (.iaload, 1) := by decide +kernel
theorem dX1_braidCell_53 : decode cX1_braidCell 53 = .ok (.istore 4, 2) := by decide +kernel
theorem dX1_braidCell_55 : decode cX1_braidCell 55 = .ok (.goto 36, 3) := by decide +kernel
theorem dX1_braidCell_58 : decode cX1_braidCell 58 = .ok (.aload_n 1, 1) := by decide +kernel
theorem dX1_braidCell_59 : decode cX1_braidCell 59 = .ok (.getfield 9, 3) := by decide +kernel
theorem dX1_braidCell_62 : decode cX1_braidCell 62 = .ok (.iload_n 2, 1) := by decide +kernel
theorem dX1_braidCell_63 : decode cX1_braidCell 63 = .ok (.iaload, 1) := by decide +kernel
theorem dX1_braidCell_64 : decode cX1_braidCell 64 = .ok (.aload_n 0, 1) := by decide +kernel
theorem dX1_braidCell_65 : decode cX1_braidCell 65 = .ok (.getfield 21, 3) := by decide +kernel
theorem dX1_braidCell_68 : decode cX1_braidCell 68 = .ok (.getfield 54, 3) := by decide +kernel
theorem dX1_braidCell_71 : decode cX1_braidCell 71 = .ok (.iload_n 2, 1) := by decide +kernel
theorem dX1_braidCell_72 : decode cX1_braidCell 72 = .ok (.iaload, 1) := by decide +kernel
theorem dX1_braidCell_73 : decode cX1_braidCell 73 = .ok (.if_icmp .le 18, 3) := by decide +kernel
theorem dX1_braidCell_76 : decode cX1_braidCell 76 = .ok (.aload_n 1, 1) := by decide +kernel
theorem dX1_braidCell_77 : decode cX1_braidCell 77 = .ok (.getfield 9, 3) := by decide +kernel
theorem dX1_braidCell_80 : decode cX1_braidCell 80 = .ok (.iload_n 2, 1) := by decide +kernel
theorem dX1_braidCell_81 : decode cX1_braidCell 81 = .ok (.iaload, 1) := by decide +kernel
theorem dX1_braidCell_82 : decode cX1_braidCell 82 = .ok (.istore_n 3, 1) := by decide +kernel
theorem dX1_braidCell_83 : decode cX1_braidCell 83 = .ok (.aload_n 1, 1) := by decide +kernel
theorem dX1_braidCell_84 : decode cX1_braidCell 84 = .ok (.getfield 15, 3) := by decide +kernel
theorem dX1_braidCell_87 : decode cX1_braidCell 87 = .ok (.iload_n 2, 1) := by decide +kernel
theorem dX1_braidCell_88 : decode cX1_braidCell 88 = .ok (.iaload, 1) := by decide +kernel
theorem dX1_braidCell_89 : decode cX1_braidCell 89 = .ok (.istore 4, 2) := by decide +kernel
theorem dX1_braidCell_91 : decode cX1_braidCell 91 = .ok (.aload_n 0, 1) := by decide +kernel
theorem dX1_braidCell_92 : decode cX1_braidCell 92 = .ok (.getfield 9, 3) := by decide +kernel
theorem dX1_braidCell_95 : decode cX1_braidCell 95 = .ok (.iload_n 2, 1) := by decide +kernel
theorem dX1_braidCell_96 : decode cX1_braidCell 96 = .ok (.iload_n 3, 1) := by decide +kernel
theorem dX1_braidCell_97 : decode cX1_braidCell 97 = .ok (.iastore, 1) := by decide +kernel
theorem dX1_braidCell_98 : decode cX1_braidCell 98 = .ok (.aload_n 0, 1) := by decide +kernel
theorem dX1_braidCell_99 : decode cX1_braidCell 99 = .ok (.getfield 15, 3) := by decide +kernel
theorem dX1_braidCell_102 : decode cX1_braidCell 102 = .ok (.iload_n 2, 1) := by decide +kernel
theorem dX1_braidCell_103 : decode cX1_braidCell 103 = .ok (.iload 4, 2) := by decide +kernel
theorem dX1_braidCell_105 : decode cX1_braidCell 105 = .ok (.iastore, 1) := by decide +kernel
theorem dX1_braidCell_106 : decode cX1_braidCell 106 = .ok (.aload_n 1, 1) := by decide +kernel
theorem dX1_braidCell_107 : decode cX1_braidCell 107 = .ok (.getfield 9, 3) := by decide +kernel
theorem dX1_braidCell_110 : decode cX1_braidCell 110 = .ok (.iload_n 2, 1) := by decide +kernel
theorem dX1_braidCell_111 : decode cX1_braidCell 111 = .ok (.iload_n 3, 1) := by decide +kernel
theorem dX1_braidCell_112 : decode cX1_braidCell 112 = .ok (.iastore, 1) := by decide +kernel
theorem dX1_braidCell_113 : decode cX1_braidCell 113 = .ok (.aload_n 1, 1) := by decide +kernel
theorem dX1_braidCell_114 : decode cX1_braidCell 114 = .ok (.getfield 15, 3) := by decide +kernel
theorem dX1_braidCell_117 : decode cX1_braidCell 117 = .ok (.iload_n 2, 1) := by decide +kernel
theorem dX1_braidCell_118 : decode cX1_braidCell 118 = .ok (.iload 4, 2) := by decide +kernel
theorem dX1_braidCell_120 : decode cX1_braidCell 120 = .ok (.iastore, 1) := by decide +kernel
theorem dX1_braidCell_121 : decode cX1_braidCell 121 = .ok (.iload_n 3, 1) := by decide +kernel
theorem dX1_braidCell_122 : decode cX1_braidCell 122 = .ok (.ifCond .ne 7, 3) := by decide +kernel
theorem dX1_braidCell_125 : decode cX1_braidCell 125 = .ok (.iconst 0, 1) := by decide +kernel
theorem dX1_braidCell_126 : decode cX1_braidCell 126 = .ok (.goto 4, 3) := by decide +kernel
theorem dX1_braidCell_129 : decode cX1_braidCell 129 = .ok (.iconst 1, 1) := by decide +kernel
theorem dX1_braidCell_130 : decode cX1_braidCell 130 = .ok (.ireturn, 1) := by decide +kernel
theorem dX1_exchangeNotes_0 : decode cX1_exchangeNotes 0 = .ok (.aload_n 0, 1) := by decide +kernel
theorem dX1_exchangeNotes_1 : decode cX1_exchangeNotes 1 = .ok (.getfield 32, 3) := by decide +kernel
theorem dX1_exchangeNotes_4 : decode cX1_exchangeNotes 4 = .ok (.ifCond .ne 11, 3) := by decide +kernel
theorem dX1_exchangeNotes_7 : decode cX1_exchangeNotes 7 = .ok (.aload_n 1, 1) := by decide +kernel
theorem dX1_exchangeNotes_8 : decode cX1_exchangeNotes 8 = .ok (.getfield 32, 3) := by decide +kernel
theorem dX1_exchangeNotes_11 : decode cX1_exchangeNotes 11 = .ok (.ifCond .ne 4, 3) := by decide +kernel
theorem dX1_exchangeNotes_14 : decode cX1_exchangeNotes 14 = .ok (.return_, 1) := by decide +kernel
theorem dX1_exchangeNotes_15 : decode cX1_exchangeNotes 15 = .ok (.aload_n 0, 1) := by decide +kernel
theorem dX1_exchangeNotes_16 : decode cX1_exchangeNotes 16 = .ok (.iconst 1, 1) := by decide +kernel
theorem dX1_exchangeNotes_17 : decode cX1_exchangeNotes 17 = .ok (.putfield 32, 3) := by decide +kernel
theorem dX1_exchangeNotes_20 : decode cX1_exchangeNotes 20 = .ok (.aload_n 1, 1) := by decide +kernel
theorem dX1_exchangeNotes_21 : decode cX1_exchangeNotes 21 = .ok (.iconst 1, 1) := by decide +kernel
theorem dX1_exchangeNotes_22 : decode cX1_exchangeNotes 22 = .ok (.putfield 32, 3) := by decide +kernel
theorem dX1_exchangeNotes_25 : decode cX1_exchangeNotes 25 = .ok (.aload_n 0, 1) := by decide +kernel
theorem dX1_exchangeNotes_26 : decode cX1_exchangeNotes 26 = .ok (.getfield 25, 3) := by decide +kernel
theorem dX1_exchangeNotes_29 : decode cX1_exchangeNotes 29 = .ok (.aload_n 1, 1) := by decide +kernel
theorem dX1_exchangeNotes_30 : decode cX1_exchangeNotes 30 = .ok (.getfield 25, 3) := by decide +kernel
theorem dX1_exchangeNotes_33 : decode cX1_exchangeNotes 33 = .ok (.invokevirtual 66, 3) := by decide +kernel
theorem dX1_exchangeNotes_36 : decode cX1_exchangeNotes 36 = .ok (.aload_n 1, 1) := by decide +kernel
theorem dX1_exchangeNotes_37 : decode cX1_exchangeNotes 37 = .ok (.getfield 25, 3) := by decide +kernel
theorem dX1_exchangeNotes_40 : decode cX1_exchangeNotes 40 = .ok (.aload_n 0, 1) := by decide +kernel
theorem dX1_exchangeNotes_41 : decode cX1_exchangeNotes 41 = .ok (.getfield 25, 3) := by decide +kernel
theorem dX1_exchangeNotes_44 : decode cX1_exchangeNotes 44 = .ok (.invokevirtual 66, 3) := by decide +kernel
theorem dX1_exchangeNotes_47 : decode cX1_exchangeNotes 47 = .ok (.return_, 1) := by decide +kernel
theorem dX2_init_0 : decode cX2_init 0 = .ok (.aload_n 0, 1) := by decide +kernel
theorem dX2_init_1 : decode cX2_init 1 = .ok (.invokespecial 3, 3) := by decide +kernel
theorem dX2_init_4 : decode cX2_init 4 = .ok (.aload_n 0, 1) := by decide +kernel
theorem dX2_init_5 : decode cX2_init 5 = .ok (.iconst 3, 1) := by decide +kernel
theorem dX2_init_6 : decode cX2_init 6 = .ok (.newarray .int, 2) := by decide +kernel
theorem dX2_init_8 : decode cX2_init 8 = .ok (.putfield 9, 3) := by decide +kernel
theorem dX2_init_11 : decode cX2_init 11 = .ok (.aload_n 0, 1) := by decide +kernel
theorem dX2_init_12 : decode cX2_init 12 = .ok (.bipush 6, 2) := by decide +kernel
theorem dX2_init_14 : decode cX2_init 14 = .ok (.anewarray 15, 3) := by decide +kernel
theorem dX2_init_17 : decode cX2_init 17 = .ok (.putfield 17, 3) := by decide +kernel
theorem dX2_init_20 : decode cX2_init 20 = .ok (.aload_n 0, 1) := by decide +kernel
theorem dX2_init_21 : decode cX2_init 21 = .ok (.new 21, 3) := by decide +kernel
theorem dX2_init_24 : decode cX2_init 24 = .ok (.dup, 1) := by decide +kernel
theorem dX2_init_25 : decode cX2_init 25 = .ok (.invokespecial 23, 3) := by decide +kernel
theorem dX2_init_28 : decode cX2_init 28 = .ok (.putfield 24, 3) := by decide +kernel
theorem dX2_init_31 : decode cX2_init 31 = .ok (.iconst 0, 1) := by decide +kernel
theorem dX2_init_32 : decode cX2_init 32 = .ok (.istore_n 1, 1) := by decide +kernel
theorem dX2_init_33 : decode cX2_init 33 = .ok (.iload_n 1, 1) := by decide +kernel
theorem dX2_init_34 : decode cX2_init 34 = .ok (.bipush 6, 2) := by decide +kernel
theorem dX2_init_36 : decode cX2_init 36 = .ok (.if_icmp .ge 22, 3) := by decide +kernel
theorem dX2_init_39 : decode cX2_init 39 = .ok (.aload_n 0, 1) := by decide +kernel
theorem dX2_init_40 : decode cX2_init 40 = .ok (.getfield 17, 3) := by decide +kernel
theorem dX2_init_43 : decode cX2_init 43 = .ok (.iload_n 1, 1) := by decide +kernel
theorem dX2_init_44 : decode cX2_init 44 = .ok (.new 15, 3) := by decide +kernel
theorem dX2_init_47 : decode cX2_init 47 = .ok (.dup, 1) := by decide +kernel
theorem dX2_init_48 : decode cX2_init 48 = .ok (.invokespecial 28, 3) := by decide +kernel
theorem dX2_init_51 : decode cX2_init 51 = .ok (.aastore, 1) := by decide +kernel
theorem dX2_init_52 : decode cX2_init 52 = .ok (.iinc 1 1, 3) := by decide +kernel
theorem dX2_init_55 : decode cX2_init 55 = .ok (.goto (-22), 3) := by decide +kernel
theorem dX2_init_58 : decode cX2_init 58 = .ok (.return_, 1) := by decide +kernel
theorem dX2_clear_0 : decode cX2_clear 0 = .ok (.aload_n 0, 1) := by decide +kernel
theorem dX2_clear_1 : decode cX2_clear 1 = .ok (.iconst 0, 1) := by decide +kernel
theorem dX2_clear_2 : decode cX2_clear 2 = .ok (.putfield 29, 3) := by decide +kernel
theorem dX2_clear_5 : decode cX2_clear 5 = .ok (.aload_n 0, 1) := by decide +kernel
theorem dX2_clear_6 : decode cX2_clear 6 = .ok (.iconst 0, 1) := by decide +kernel
theorem dX2_clear_7 : decode cX2_clear 7 = .ok (.putfield 33, 3) := by decide +kernel
theorem dX2_clear_10 : decode cX2_clear 10 = .ok (.iconst 0, 1) := by decide +kernel
theorem dX2_clear_11 : decode cX2_clear 11 = .ok (.istore_n 1, 1) := by decide +kernel
theorem dX2_clear_12 : decode cX2_clear 12 = .ok (.iload_n 1, 1) := by decide +kernel
theorem dX2_clear_13 : decode cX2_clear 13 = .ok (.iconst 3, 1) := by decide +kernel
theorem dX2_clear_14 : decode cX2_clear 14 = .ok (.if_icmp .ge 16, 3) := by decide +kernel
theorem dX2_clear_17 : decode cX2_clear 17 = .ok (.aload_n 0, 1) := by decide +kernel
theorem dX2_clear_18 : decode cX2_clear 18 = .ok (.getfield 9, 3) := by decide +kernel
theorem dX2_clear_21 : decode cX2_clear 21 = .ok (.iload_n 1, 1) := by decide +kernel
theorem dX2_clear_22 : decode cX2_clear 22 = .ok (.iconst 0, 1) := by decide +kernel
theorem dX2_clear_23 : decode cX2_clear 23 = .ok (.iastore, 1) := by decide +kernel
theorem dX2_clear_24 : decode cX2_clear 24 = .ok (.iinc 1 1, 3) := by decide +kernel
theorem dX2_clear_27 : decode cX2_clear 27 = .ok (.goto (-15), 3) := by decide +kernel
theorem dX2_clear_30 : decode cX2_clear 30 = .ok (.iconst 0, 1) := by decide +kernel
theorem dX2_clear_31 : decode cX2_clear 31 = .ok (.istore_n 1, 1) := by decide +kernel
theorem dX2_clear_32 : decode cX2_clear 32 = .ok (.iload_n 1, 1) := by decide +kernel
theorem dX2_clear_33 : decode cX2_clear 33 = .ok (.bipush 6, 2) := by decide +kernel
theorem dX2_clear_35 : decode cX2_clear 35 = .ok (.if_icmp .ge 18, 3) := by decide +kernel
theorem dX2_clear_38 : decode cX2_clear 38 = .ok (.aload_n 0, 1) := by decide +kernel
theorem dX2_clear_39 : decode cX2_clear 39 = .ok (.getfield 17, 3) := by decide +kernel
theorem dX2_clear_42 : decode cX2_clear 42 = .ok (.iload_n 1, 1) := by decide +kernel
theorem dX2_clear_43 : decode cX2_clear 43 = .ok (.aaload, 1) := by decide +kernel
theorem dX2_clear_44 : decode cX2_clear 44 = .ok (.invokevirtual 36, 3) := by decide +kernel
theorem dX2_clear_47 : decode cX2_clear 47 = .ok (.iinc 1 1, 3) := by decide +kernel
theorem dX2_clear_50 : decode cX2_clear 50 = .ok (.goto (-18), 3) := by decide +kernel
theorem dX2_clear_53 : decode cX2_clear 53 = .ok (.return_, 1) := by decide +kernel
theorem dX2_fieldsFor_0 : decode cX2_fieldsFor 0 = .ok (.iload_n 1, 1) := by decide +kernel
theorem dX2_fieldsFor_1 : decode cX2_fieldsFor 1 = .ok (.invokestatic 39, 3) := by decide +kernel
theorem dX2_fieldsFor_4 : decode cX2_fieldsFor 4 = .ok (.istore_n 2, 1) := by decide +kernel
theorem dX2_fieldsFor_5 : decode cX2_fieldsFor 5 = .ok (.iload_n 2, 1) := by decide +kernel
theorem dX2_fieldsFor_6 : decode cX2_fieldsFor 6 = .ok (.aload_n 0, 1) := by decide +kernel
theorem dX2_fieldsFor_7 : decode cX2_fieldsFor 7 = .ok (.getfield 29, 3) := by decide +kernel
theorem dX2_fieldsFor_10 : decode cX2_fieldsFor 10 = .ok (.if_icmp .ne 8, 3) := by decide +kernel
theorem dX2_fieldsFor_13 : decode cX2_fieldsFor 13 = .ok (.bipush 15, 2) := by decide +kernel
theorem dX2_fieldsFor_15 : decode cX2_fieldsFor 15 = .ok (.goto 9, 3) := by decide +kernel
theorem dX2_fieldsFor_18 : decode cX2_fieldsFor 18 = .ok (.aload_n 0, 1) := by decide +kernel
theorem dX2_fieldsFor_19 : decode cX2_fieldsFor 19 = .ok (.getfield 9, 3) := by decide +kernel
theorem dX2_fieldsFor_22 : decode cX2_fieldsFor 22 = .ok (.iload_n 2, 1) := by decide +kernel
theorem dX2_fieldsFor_23 : decode cX2_fieldsFor 23 = .ok (.iaload, 1) := by decide +kernel
theorem dX2_fieldsFor_24 : decode cX2_fieldsFor 24 = .ok (.ireturn, 1) := by decide +kernel
theorem dX2_stateOn_0 : decode cX2_stateOn 0 = .ok (.aload_n 0, 1) := by decide +kernel
theorem dX2_stateOn_1 : decode cX2_stateOn 1 = .ok (.getfield 17, 3) := by decide +kernel
theorem dX2_stateOn_4 : decode cX2_stateOn 4 = .ok (.iload_n 1, 1) := by decide +kernel
theorem dX2_stateOn_5 : decode cX2_stateOn 5 = .ok (.aaload, 1) := by decide +kernel
theorem dX2_stateOn_6 : decode cX2_stateOn 6 = .ok (.astore_n 2, 1) := by decide +kernel
theorem dX2_stateOn_7 : decode cX2_stateOn 7 = .ok (.aload_n 2, 1) := by decide +kernel
theorem dX2_stateOn_8 : decode cX2_stateOn 8 = .ok (.getfield 43, 3) := by decide +kernel
theorem dX2_stateOn_11 : decode cX2_stateOn 11 = .ok (.ifCond .ne 5, 3) := by decide +kernel
theorem dX2_stateOn_14 : decode cX2_stateOn 14 = .ok (.iconst 0, 1) := by decide +kernel
theorem dX2_stateOn_15 : decode cX2_stateOn 15 = .ok (.ireturn, 1) := by decide +kernel
theorem dX2_stateOn_16 : decode cX2_stateOn 16 = .ok (.aload_n 0, 1) := by decide +kernel
theorem dX2_stateOn_17 : decode cX2_stateOn 17 = .ok (.iload_n 1, 1) := by decide +kernel
theorem dX2_stateOn_18 : decode cX2_stateOn 18 = .ok (.invokevirtual 47, 3) := by decide +kernel
theorem dX2_stateOn_21 : decode cX2_stateOn 21 = .ok (.ifCond .eq 5, 3) := by decide +kernel
theorem dX2_stateOn_24 : decode cX2_stateOn 24 = .ok (.iconst 2, 1) := by decide +kernel
theorem dX2_stateOn_25 : decode cX2_stateOn 25 = .ok (.ireturn, 1) := by decide +kernel
theorem dX2_stateOn_26 : decode cX2_stateOn 26 = .ok (.aload_n 2, 1) := by decide +kernel
theorem dX2_stateOn_27 : decode cX2_stateOn 27 = .ok (.invokevirtual 51, 3) := by decide +kernel
theorem dX2_stateOn_30 : decode cX2_stateOn 30 = .ok (.ifCond .ne 7, 3) := by decide +kernel
theorem dX2_stateOn_33 : decode cX2_stateOn 33 = .ok (.iconst 3, 1) := by decide +kernel
theorem dX2_stateOn_34 : decode cX2_stateOn 34 = .ok (.goto 4, 3) := by decide +kernel
theorem dX2_stateOn_37 : decode cX2_stateOn 37 = .ok (.iconst 1, 1) := by decide +kernel
theorem dX2_stateOn_38 : decode cX2_stateOn 38 = .ok (.ireturn, 1) := by decide +kernel
theorem dX2_isCovered_0 : decode cX2_isCovered 0 = .ok (.iconst 0, 1) := by decide +kernel
theorem dX2_isCovered_1 : decode cX2_isCovered 1 = .ok (.istore_n 2, 1) := by decide +kernel
theorem dX2_isCovered_2 : decode cX2_isCovered 2 = .ok (.iload_n 2, 1) := by decide +kernel
theorem dX2_isCovered_3 : decode cX2_isCovered 3 = .ok (.aload_n 0, 1) := by decide +kernel
theorem dX2_isCovered_4 : decode cX2_isCovered 4 = .ok (.getfield 33, 3) := by decide +kernel
theorem dX2_isCovered_7 : decode cX2_isCovered 7 = .ok (.if_icmp .ge 58, 3) := by decide +kernel
theorem dX2_isCovered_10 : decode cX2_isCovered 10 = .ok (.iload_n 2, 1) := by decide +kernel
theorem dX2_isCovered_11 : decode cX2_isCovered 11 = .ok (.aload_n 0, 1) := by decide +kernel
theorem dX2_isCovered_12 : decode cX2_isCovered 12 = .ok (.getfield 24, 3) := by decide +kernel
theorem dX2_isCovered_15 : decode cX2_isCovered 15 = .ok (.invokevirtual 55, 3) := by decide +kernel
theorem dX2_isCovered_18 : decode cX2_isCovered 18 = .ok (.if_icmp .ge 47, 3) := by decide +kernel
theorem dX2_isCovered_21 : decode cX2_isCovered 21 = .ok (.aload_n 0, 1) := by decide +kernel
theorem dX2_isCovered_22 : decode cX2_isCovered 22 = .ok (.getfield 24, 3) := by decide +kernel
theorem dX2_isCovered_25 : decode cX2_isCovered 25 = .ok (.iload_n 2, 1) := by decide +kernel
theorem dX2_isCovered_26 : decode cX2_isCovered 26 = .ok (.invokevirtual 58, 3) := by decide +kernel
theorem dX2_isCovered_29 : decode cX2_isCovered 29 = .ok (.checkcast 62, 3) := by decide +kernel
theorem dX2_isCovered_32 : decode cX2_isCovered 32 = .ok (.astore_n 3, 1) := by decide +kernel
theorem dX2_isCovered_33 : decode cX2_isCovered 33 = .ok (.aload_n 3, 1) := by decide +kernel
theorem dX2_isCovered_34 : decode cX2_isCovered 34 = .ok (.iload_n 1, 1) := by decide +kernel
theorem dX2_isCovered_35 : decode cX2_isCovered 35 = .ok (.invokevirtual 64, 3) := by decide +kernel
theorem dX2_isCovered_38 : decode cX2_isCovered 38 = .ok (.ifCond .eq 21, 3) := by decide +kernel
theorem dX2_isCovered_41 : decode cX2_isCovered 41 = .ok (.aload_n 3, 1) := by decide +kernel
theorem dX2_isCovered_42 : decode cX2_isCovered 42 = .ok (.getfield 67, 3) := by decide +kernel
theorem dX2_isCovered_45 : decode cX2_isCovered 45 = .ok (.aload_n 0, 1) := by decide +kernel
theorem dX2_isCovered_46 : decode cX2_isCovered 46 = .ok (.getfield 17, 3) := by decide +kernel
theorem dX2_isCovered_49 : decode cX2_isCovered 49 = .ok (.iload_n 1, 1) := by decide +kernel
theorem dX2_isCovered_50 : decode cX2_isCovered 50 = .ok (.aaload, 1) := by decide +kernel
theorem dX2_isCovered_51 : decode cX2_isCovered 51 = .ok (.invokevirtual 71, 3) := by decide +kernel
theorem dX2_isCovered_54 : decode cX2_isCovered 54 = .ok (.ifCond .eq 5, 3) := by decide +kernel
theorem dX2_isCovered_57 : decode cX2_isCovered 57 = .ok (.iconst 1, 1) := by decide +kernel
theorem dX2_isCovered_58 : decode cX2_isCovered 58 = .ok (.ireturn, 1) := by decide +kernel
theorem dX2_isCovered_59 : decode cX2_isCovered 59 = .ok (.iinc 2 1, 3) := by decide +kernel
theorem dX2_isCovered_62 : decode cX2_isCovered 62 = .ok (.goto (-60), 3) := by decide +kernel
theorem dX2_isCovered_65 : decode cX2_isCovered 65 = .ok (.iconst 0, 1) := by decide +kernel
theorem dX2_isCovered_66 : decode cX2_isCovered 66 = .ok (.ireturn, 1) := by decide +kernel
theorem dX2_countMarks_0 : decode cX2_countMarks 0 = .ok (.iconst 0, 1) := by decide +kernel
theorem dX2_countMarks_1 : decode cX2_countMarks 1 = .ok (.istore_n 2, 1) := by decide +kernel
theorem dX2_countMarks_2 : decode cX2_countMarks 2 = .ok (.iconst 0, 1) := by decide +kernel
theorem dX2_countMarks_3 : decode cX2_countMarks 3 = .ok (.istore_n 3, 1) := by decide +kernel
theorem dX2_countMarks_4 : decode cX2_countMarks 4 = .ok (.iload_n 3, 1) := by decide +kernel
theorem dX2_countMarks_5 : decode cX2_countMarks 5 = .ok (.aload_n 0, 1) := by decide +kernel
theorem dX2_countMarks_6 : decode cX2_countMarks 6 = .ok (.getfield 33, 3) := by decide +kernel
theorem dX2_countMarks_9 : decode cX2_countMarks 9 = .ok (.if_icmp .ge 41, 3) := by decide +kernel
theorem dX2_countMarks_12 : decode cX2_countMarks 12 = .ok (.iload_n 3, 1) := by decide +kernel
theorem dX2_countMarks_13 : decode cX2_countMarks 13 = .ok (.aload_n 0, 1) := by decide +kernel
theorem dX2_countMarks_14 : decode cX2_countMarks 14 = .ok (.getfield 24, 3) := by decide +kernel
theorem dX2_countMarks_17 : decode cX2_countMarks 17 = .ok (.invokevirtual 55, 3) := by decide +kernel
theorem dX2_countMarks_20 : decode cX2_countMarks 20 = .ok (.if_icmp .ge 30, 3) := by decide +kernel
theorem dX2_countMarks_23 : decode cX2_countMarks 23 = .ok (.aload_n 0, 1) := by decide +kernel
theorem dX2_countMarks_24 : decode cX2_countMarks 24 = .ok (.getfield 24, 3) := by decide +kernel
theorem dX2_countMarks_27 : decode cX2_countMarks 27 = .ok (.iload_n 3, 1) := by decide +kernel
theorem dX2_countMarks_28 : decode cX2_countMarks 28 = .ok (.invokevirtual 58, 3) := by decide +kernel
theorem dX2_countMarks_31 : decode cX2_countMarks 31 = .ok (.checkcast 62, 3) := by decide +kernel
theorem dX2_countMarks_34 : decode cX2_countMarks 34 = .ok (.iload_n 1, 1) := by decide +kernel
theorem dX2_countMarks_35 : decode cX2_countMarks 35 = .ok (.invokevirtual 64, 3) := by decide +kernel
theorem dX2_countMarks_38 : decode cX2_countMarks 38 = .ok (.ifCond .eq 6, 3) := by decide +kernel
theorem dX2_countMarks_41 : decode cX2_countMarks 41 = .ok (.iinc 2 1, 3) := by decide +kernel
theorem dX2_countMarks_44 : decode cX2_countMarks 44 = .ok (.iinc 3 1, 3) := by decide +kernel
theorem dX2_countMarks_47 : decode cX2_countMarks 47 = .ok (.goto (-43), 3) := by decide +kernel
theorem dX2_countMarks_50 : decode cX2_countMarks 50 = .ok (.iload_n 2, 1) := by decide +kernel
theorem dX2_countMarks_51 : decode cX2_countMarks 51 = .ok (.ireturn, 1) := by decide +kernel
theorem dX2_newestMark_0 : decode cX2_newestMark 0 = .ok (.iconst (-1), 1) := by decide +kernel
theorem dX2_newestMark_1 : decode cX2_newestMark 1 = .ok (.istore_n 2, 1) := by decide +kernel
theorem dX2_newestMark_2 : decode cX2_newestMark 2 = .ok (.iconst 0, 1) := by decide +kernel
theorem dX2_newestMark_3 : decode cX2_newestMark 3 = .ok (.istore_n 3, 1) := by decide +kernel
theorem dX2_newestMark_4 : decode cX2_newestMark 4 = .ok (.iload_n 3, 1) := by decide +kernel
theorem dX2_newestMark_5 : decode cX2_newestMark 5 = .ok (.aload_n 0, 1) := by decide +kernel
theorem dX2_newestMark_6 : decode cX2_newestMark 6 = .ok (.getfield 33, 3) := by decide +kernel
theorem dX2_newestMark_9 : decode cX2_newestMark 9 = .ok (.if_icmp .ge 41, 3) := by decide +kernel
theorem dX2_newestMark_12 : decode cX2_newestMark 12 = .ok (.iload_n 3, 1) := by decide +kernel
theorem dX2_newestMark_13 : decode cX2_newestMark 13 = .ok (.aload_n 0, 1) := by decide +kernel
theorem dX2_newestMark_14 : decode cX2_newestMark 14 = .ok (.getfield 24, 3) := by decide +kernel
theorem dX2_newestMark_17 : decode cX2_newestMark 17 = .ok (.invokevirtual 55, 3) := by decide +kernel
theorem dX2_newestMark_20 : decode cX2_newestMark 20 = .ok (.if_icmp .ge 30, 3) := by decide +kernel
theorem dX2_newestMark_23 : decode cX2_newestMark 23 = .ok (.iload_n 2, 1) := by decide +kernel
theorem dX2_newestMark_24 : decode cX2_newestMark 24 = .ok (.aload_n 0, 1) := by decide +kernel
theorem dX2_newestMark_25 : decode cX2_newestMark 25 = .ok (.getfield 24, 3) := by decide +kernel
theorem dX2_newestMark_28 : decode cX2_newestMark 28 = .ok (.iload_n 3, 1) := by decide +kernel
theorem dX2_newestMark_29 : decode cX2_newestMark 29 = .ok (.invokevirtual 58, 3) := by decide +kernel
theorem dX2_newestMark_32 : decode cX2_newestMark 32 = .ok (.checkcast 62, 3) := by decide +kernel
theorem dX2_newestMark_35 : decode cX2_newestMark 35 = .ok (.getfield 77, 3) := by decide +kernel
theorem dX2_newestMark_38 : decode cX2_newestMark 38 = .ok (.iload_n 1, 1) := by decide +kernel
theorem dX2_newestMark_39 : decode cX2_newestMark 39 = .ok (.iaload, 1) := by decide +kernel
theorem dX2_newestMark_40 : decode cX2_newestMark 40 = .ok (.invokestatic 80, 3) := by decide +kernel
theorem dX2_newestMark_43 : decode cX2_newestMark 43 = .ok (.istore_n 2, 1) := by decide +kernel
theorem dX2_newestMark_44 : decode cX2_newestMark 44 = .ok (.iinc 3 1, 3) := by decide +kernel
theorem dX2_newestMark_47 : decode cX2_newestMark 47 = .ok (.goto (-43), 3) := by decide +kernel
theorem dX2_newestMark_50 : decode cX2_newestMark 50 = .ok (.iload_n 2, 1) := by decide +kernel
theorem dX2_newestMark_51 : decode cX2_newestMark 51 = .ok (.ireturn, 1) := by decide +kernel
theorem dX2_addMark_0 : decode cX2_addMark 0 = .ok (.aload_n 0, 1) := by decide +kernel
theorem dX2_addMark_1 : decode cX2_addMark 1 = .ok (.getfield 33, 3) := by decide +kernel
theorem dX2_addMark_4 : decode cX2_addMark 4 = .ok (.aload_n 0, 1) := by decide +kernel
theorem dX2_addMark_5 : decode cX2_addMark 5 = .ok (.getfield 24, 3) := by decide +kernel
theorem dX2_addMark_8 : decode cX2_addMark 8 = .ok (.invokevirtual 55, 3) := by decide +kernel
theorem dX2_addMark_11 : decode cX2_addMark 11 = .ok (.if_icmp .lt 18, 3) := by decide +kernel
theorem dX2_addMark_14 : decode cX2_addMark 14 = .ok (.aload_n 0, 1) := by decide +kernel
theorem dX2_addMark_15 : decode cX2_addMark 15 = .ok (.getfield 24, 3) := by decide +kernel
theorem dX2_addMark_18 : decode cX2_addMark 18 = .ok (.new 62, 3) := by decide +kernel
theorem dX2_addMark_21 : decode cX2_addMark 21 = .ok (.dup, 1) := by decide +kernel
theorem dX2_addMark_22 : decode cX2_addMark 22 = .ok (.invokespecial 86, 3) := by decide +kernel
theorem dX2_addMark_25 : decode cX2_addMark 25 = .ok (.invokevirtual 87, 3) := by decide +kernel
theorem dX2_addMark_28 : decode cX2_addMark 28 = .ok (.pop, 1) := by decide +kernel
theorem dX2_addMark_29 : decode cX2_addMark 29 = .ok (.aload_n 0, 1) := by decide +kernel
theorem dX2_addMark_30 : decode cX2_addMark 30 = .ok (.getfield 33, 3) := by decide +kernel
theorem dX2_addMark_33 : decode cX2_addMark 33 = .ok (.aload_n 0, 1) := by decide +kernel
theorem dX2_addMark_34 : decode cX2_addMark 34 = .ok (.getfield 24, 3) := by decide +kernel
theorem dX2_addMark_37 : decode cX2_addMark 37 = .ok (.invokevirtual 55, 3) := by decide +kernel
theorem dX2_addMark_40 : decode cX2_addMark 40 = .ok (.if_icmp .ge 41, 3) := by decide +kernel
theorem dX2_addMark_43 : decode cX2_addMark 43 = .ok (.aload_n 0, 1) := by decide +kernel
theorem dX2_addMark_44 : decode cX2_addMark 44 = .ok (.getfield 24, 3) := by decide +kernel
theorem dX2_addMark_47 : decode cX2_addMark 47 = .ok (.aload_n 0, 1) := by decide +kernel
theorem dX2_addMark_48 : decode cX2_addMark 48 = .ok (.getfield 33, 3) := by decide +kernel
theorem dX2_addMark_51 : decode cX2_addMark 51 = .ok (.invokevirtual 58, 3) := by decide +kernel
theorem dX2_addMark_54 : decode cX2_addMark 54 = .ok (.checkcast 62, 3) := by decide +kernel
theorem dX2_addMark_57 : decode cX2_addMark 57 = .ok (.aload_n 0, 1) := by decide +kernel
theorem dX2_addMark_58 : decode cX2_addMark 58 = .ok (.getfield 17, 3) := by decide +kernel
theorem dX2_addMark_61 : decode cX2_addMark 61 = .ok (.iload_n 1, 1) := by decide +kernel
theorem dX2_addMark_62 : decode cX2_addMark 62 = .ok (.aaload, 1) := by decide +kernel
theorem dX2_addMark_63 : decode cX2_addMark 63 = .ok (.getfield 91, 3) := by decide +kernel
theorem dX2_addMark_66 : decode cX2_addMark 66 = .ok (.iload_n 1, 1) := by decide +kernel
theorem dX2_addMark_67 : decode cX2_addMark 67 = .ok (.iload_n 2, 1) := by decide +kernel
theorem dX2_addMark_68 : decode cX2_addMark 68 = .ok (.invokevirtual 92, 3) := by decide +kernel
theorem dX2_addMark_71 : decode cX2_addMark 71 = .ok (.aload_n 0, 1) := by decide +kernel
theorem dX2_addMark_72 : decode cX2_addMark 72 = .ok (.dup, 1) := by decide +kernel
theorem dX2_addMark_73 : decode cX2_addMark 73 = .ok (.getfield 33, 3) := by decide +kernel
theorem dX2_addMark_76 : decode cX2_addMark 76 = .ok (.iconst 1, 1) := by decide +kernel
theorem dX2_addMark_77 : decode cX2_addMark 77 = .ok (.iadd, 1) := by decide +kernel
theorem dX2_addMark_78 : decode cX2_addMark 78 = .ok (.putfield 33, 3) := by decide +kernel
theorem dX2_addMark_81 : decode cX2_addMark 81 = .ok (.return_, 1) := by decide +kernel
theorem dX2_forget_0 : decode cX2_forget 0 = .ok (.aload_n 0, 1) := by decide +kernel
theorem dX2_forget_1 : decode cX2_forget 1 = .ok (.getfield 17, 3) := by decide +kernel
theorem dX2_forget_4 : decode cX2_forget 4 = .ok (.iload_n 1, 1) := by decide +kernel
theorem dX2_forget_5 : decode cX2_forget 5 = .ok (.aaload, 1) := by decide +kernel
theorem dX2_forget_6 : decode cX2_forget 6 = .ok (.astore_n 2, 1) := by decide +kernel
theorem dX2_forget_7 : decode cX2_forget 7 = .ok (.aload_n 2, 1) := by decide +kernel
theorem dX2_forget_8 : decode cX2_forget 8 = .ok (.iconst 1, 1) := by decide +kernel
theorem dX2_forget_9 : decode cX2_forget 9 = .ok (.putfield 96, 3) := by decide +kernel
theorem dX2_forget_12 : decode cX2_forget 12 = .ok (.aload_n 2, 1) := by decide +kernel
theorem dX2_forget_13 : decode cX2_forget 13 = .ok (.getfield 99, 3) := by decide +kernel
theorem dX2_forget_16 : decode cX2_forget 16 = .ok (.aload_n 2, 1) := by decide +kernel
theorem dX2_forget_17 : decode cX2_forget 17 = .ok (.getfield 91, 3) := by decide +kernel
theorem dX2_forget_20 : decode cX2_forget 20 = .ok (.invokevirtual 102, 3) := by decide +kernel
theorem dX2_forget_23 : decode cX2_forget 23 = .ok (.iconst 0, 1) := by decide +kernel
theorem dX2_forget_24 : decode cX2_forget 24 = .ok (.istore_n 3, 1) := by decide +kernel
theorem dX2_forget_25 : decode cX2_forget 25 = .ok (.iload_n 3, 1) := by decide +kernel
theorem dX2_forget_26 : decode cX2_forget 26 = .ok (.aload_n 0, 1) := by decide +kernel
theorem dX2_forget_27 : decode cX2_forget 27 = .ok (.getfield 33, 3) := by decide +kernel
theorem dX2_forget_30 : decode cX2_forget 30 = .ok (.if_icmp .ge 62, 3) := by decide +kernel
theorem dX2_forget_33 : decode cX2_forget 33 = .ok (.iload_n 3, 1) := by decide +kernel
theorem dX2_forget_34 : decode cX2_forget 34 = .ok (.aload_n 0, 1) := by decide +kernel
theorem dX2_forget_35 : decode cX2_forget 35 = .ok (.getfield 24, 3) := by decide +kernel
theorem dX2_forget_38 : decode cX2_forget 38 = .ok (.invokevirtual 55, 3) := by decide +kernel
theorem dX2_forget_41 : decode cX2_forget 41 = .ok (.if_icmp .ge 51, 3) := by decide +kernel
theorem dX2_forget_44 : decode cX2_forget 44 = .ok (.aload_n 0, 1) := by decide +kernel
theorem dX2_forget_45 : decode cX2_forget 45 = .ok (.getfield 24, 3) := by decide +kernel
theorem dX2_forget_48 : decode cX2_forget 48 = .ok (.iload_n 3, 1) := by decide +kernel
theorem dX2_forget_49 : decode cX2_forget 49 = .ok (.invokevirtual 58, 3) := by decide +kernel
theorem dX2_forget_52 : decode cX2_forget 52 = .ok (.checkcast 62, 3) := by decide +kernel
theorem dX2_forget_55 : decode cX2_forget 55 = .ok (.astore 4, 2) := by decide +kernel
theorem dX2_forget_57 : decode cX2_forget 57 = .ok (.aload 4, 2) := by decide +kernel
theorem dX2_forget_59 : decode cX2_forget 59 = .ok (.iload_n 1, 1) := by decide +kernel
theorem dX2_forget_60 : decode cX2_forget 60 = .ok (.invokevirtual 64, 3) := by decide +kernel
theorem dX2_forget_63 : decode cX2_forget 63 = .ok (.ifCond .eq 23, 3) := by decide +kernel
theorem dX2_forget_66 : decode cX2_forget 66 = .ok (.aload_n 2, 1) := by decide +kernel
theorem dX2_forget_67 : decode cX2_forget 67 = .ok (.getfield 99, 3) := by decide +kernel
theorem dX2_forget_70 : decode cX2_forget 70 = .ok (.aload 4, 2) := by decide +kernel
theorem dX2_forget_72 : decode cX2_forget 72 = .ok (.getfield 67, 3) := by decide +kernel
theorem dX2_forget_75 : decode cX2_forget 75 = .ok (.invokevirtual 102, 3) := by decide +kernel
theorem dX2_forget_78 : decode cX2_forget 78 = .ok (.aload 4, 2) := by decide +kernel
theorem dX2_forget_80 : decode cX2_forget 80 = .ok (.getfield 77, 3) := by decide +kernel
theorem dX2_forget_83 : decode cX2_forget 83 = .ok (.iload_n 1, 1) := by decide +kernel
theorem dX2_forget_84 : decode cX2_forget 84 = .ok (.iconst (-1), 1) := by decide +kernel
theorem dX2_forget_85 : decode cX2_forget 85 = .ok (.iastore, 1) := by decide +kernel
theorem dX2_forget_86 : decode cX2_forget 86 = .ok (.iinc 3 1, 3) := by decide +kernel
theorem dX2_forget_89 : decode cX2_forget 89 = .ok (.goto (-64), 3) := by decide +kernel
theorem dX2_forget_92 : decode cX2_forget 92 = .ok (.aload_n 2, 1) := by decide +kernel
theorem dX2_forget_93 : decode cX2_forget 93 = .ok (.iconst 0, 1) := by decide +kernel
theorem dX2_forget_94 : decode cX2_forget 94 = .ok (.putfield 43, 3) := by decide +kernel
theorem dX2_forget_97 : decode cX2_forget 97 = .ok (.aload_n 2, 1) := by decide +kernel
theorem dX2_forget_98 : decode cX2_forget 98 = .ok (.iconst 0, 1) := by decide +kernel
theorem dX2_forget_99 : decode cX2_forget 99 = .ok (.invokevirtual 106, 3) := by decide +kernel
theorem dX2_forget_102 : decode cX2_forget 102 = .ok (.return_, 1) := by decide +kernel
theorem dX2_forgetWhereOld_0 : decode cX2_forgetWhereOld 0 = .ok (.iconst 0, 1) := by decide +kernel
theorem dX2_forgetWhereOld_1 : decode cX2_forgetWhereOld 1 = .ok (.istore_n 2, 1) := by decide +kernel
theorem dX2_forgetWhereOld_2 : decode cX2_forgetWhereOld 2 = .ok (.iconst 0, 1) := by decide +kernel
theorem dX2_forgetWhereOld_3 : decode cX2_forgetWhereOld 3 = .ok (.istore_n 3, 1) := by decide +kernel
theorem dX2_forgetWhereOld_4 : decode cX2_forgetWhereOld 4 = .ok (.iload_n 3, 1) := by decide +kernel
theorem dX2_forgetWhereOld_5 : decode cX2_forgetWhereOld 5 = .ok (.bipush 6, 2) := by decide +kernel
theorem dX2_forgetWhereOld_7 : decode cX2_forgetWhereOld 7 = .ok (.if_icmp .ge 38, 3) := by decide +kernel
theorem dX2_forgetWhereOld_10 : decode cX2_forgetWhereOld 10 = .ok (.aload_n 0, 1) := by decide +kernel
theorem dX2_forgetWhereOld_11 : decode cX2_forgetWhereOld 11 = .ok (.iload_n 3, 1) := by decide +kernel
theorem dX2_forgetWhereOld_12 : decode cX2_forgetWhereOld 12 = .ok (.invokevirtual 110, 3) := by decide +kernel
theorem dX2_forgetWhereOld_15 : decode cX2_forgetWhereOld 15 = .ok (.iconst 2, 1) := by decide +kernel
theorem dX2_forgetWhereOld_16 : decode cX2_forgetWhereOld 16 = .ok (.if_icmp .ne 23, 3) := by decide +kernel
theorem dX2_forgetWhereOld_19 : decode cX2_forgetWhereOld 19 = .ok (.iload_n 1, 1) := by decide +kernel
theorem dX2_forgetWhereOld_20 : decode cX2_forgetWhereOld 20 = .ok (.aload_n 0, 1) := by decide +kernel
theorem dX2_forgetWhereOld_21 : decode cX2_forgetWhereOld 21 = .ok (.iload_n 3, 1) := by decide +kernel
theorem dX2_forgetWhereOld_22 : decode cX2_forgetWhereOld 22 = .ok (.invokevirtual 113, 3) := by decide +kernel
theorem dX2_forgetWhereOld_25 : decode cX2_forgetWhereOld 25 = .ok (.isub, 1) := by decide +kernel
theorem dX2_forgetWhereOld_26 : decode cX2_forgetWhereOld 26 = .ok (.bipush 12, 2) := by decide +kernel
theorem dX2_forgetWhereOld_28 : decode cX2_forgetWhereOld 28 = .ok (.if_icmp .le 11, 3) := by decide +kernel
theorem dX2_forgetWhereOld_31 : decode cX2_forgetWhereOld 31 = .ok (.aload_n 0, 1) := by decide +kernel
theorem dX2_forgetWhereOld_32 : decode cX2_forgetWhereOld 32 = .ok (.iload_n 3, 1) := by decide +kernel
theorem dX2_forgetWhereOld_33 : decode cX2_forgetWhereOld 33 = .ok (.invokevirtual 116, 3) := by decide +kernel
theorem dX2_forgetWhereOld_36 : decode cX2_forgetWhereOld 36 = .ok (.iinc 2 1, 3) := by decide +kernel
theorem dX2_forgetWhereOld_39 : decode cX2_forgetWhereOld 39 = .ok (.iinc 3 1, 3) := by decide +kernel
theorem dX2_forgetWhereOld_42 : decode cX2_forgetWhereOld 42 = .ok (.goto (-38), 3) := by decide +kernel
theorem dX2_forgetWhereOld_45 : decode cX2_forgetWhereOld 45 = .ok (.iload_n 2, 1) := by decide +kernel
theorem dX2_forgetWhereOld_46 : decode cX2_forgetWhereOld 46 = .ok (.ireturn, 1) := by decide +kernel
theorem dX2_mergeOn_0 : decode cX2_mergeOn 0 = .ok (.aload_n 0, 1) := by decide +kernel
theorem dX2_mergeOn_1 : decode cX2_mergeOn 1 = .ok (.iload_n 1, 1) := by decide +kernel
theorem dX2_mergeOn_2 : decode cX2_mergeOn 2 = .ok (.invokevirtual 119, 3) := by decide +kernel
theorem dX2_mergeOn_5 : decode cX2_mergeOn 5 = .ok (.aload_n 0, 1) := by decide +kernel
theorem dX2_mergeOn_6 : decode cX2_mergeOn 6 = .ok (.iload_n 2, 1) := by decide +kernel
theorem dX2_mergeOn_7 : decode cX2_mergeOn 7 = .ok (.invokevirtual 119, 3) := by decide +kernel
theorem dX2_mergeOn_10 : decode cX2_mergeOn 10 = .ok (.iand, 1) := by decide +kernel
theorem dX2_mergeOn_11 : decode cX2_mergeOn 11 = .ok (.istore 4, 2) := by decide +kernel
theorem dX2_mergeOn_13 : decode cX2_mergeOn 13 = .ok (.iload 4, 2) := by decide +kernel
theorem dX2_mergeOn_15 : decode cX2_mergeOn 15 = .ok (.ifCond .ne 5, 3) := by decide +kernel
theorem dX2_mergeOn_18 : decode cX2_mergeOn 18 = .ok (.iconst 0, 1) := by decide +kernel
theorem dX2_mergeOn_19 : decode cX2_mergeOn 19 = .ok (.ireturn, 1) := by decide +kernel
theorem dX2_mergeOn_20 : decode cX2_mergeOn 20 = .ok (.iconst 0, 1) := by decide +kernel
theorem dX2_mergeOn_21 : decode cX2_mergeOn 21 = .ok (.istore 5, 2) := by decide +kernel
theorem dX2_mergeOn_23 : decode cX2_mergeOn 23 = .ok (.aload_n 0, 1) := by decide +kernel
theorem dX2_mergeOn_24 : decode cX2_mergeOn 24 = .ok (.iload_n 1, 1) := by decide +kernel
theorem dX2_mergeOn_25 : decode cX2_mergeOn 25 = .ok (.iload_n 2, 1) := by decide +kernel
theorem dX2_mergeOn_26 : decode cX2_mergeOn 26 = .ok (.invokevirtual 122, 3) := by decide +kernel
theorem dX2_mergeOn_29 : decode cX2_mergeOn 29 = .ok (.ifCond .eq 15, 3) := by decide +kernel
theorem dX2_mergeOn_32 : decode cX2_mergeOn 32 = .ok (.aload_n 0, 1) := by decide +kernel
theorem dX2_mergeOn_33 : decode cX2_mergeOn 33 = .ok (.iload_n 1, 1) := by decide +kernel
theorem dX2_mergeOn_34 : decode cX2_mergeOn 34 = .ok (.invokevirtual 116, 3) := by decide +kernel
theorem dX2_mergeOn_37 : decode cX2_mergeOn 37 = .ok (.bipush 100, 2) := by decide +kernel
theorem dX2_mergeOn_39 : decode cX2_mergeOn 39 = .ok (.istore 5, 2) := by decide +kernel
theorem dX2_mergeOn_41 : decode cX2_mergeOn 41 = .ok (.goto 59, 3) := by decide +kernel
theorem dX2_mergeOn_44 : decode cX2_mergeOn 44 = .ok (.aload_n 0, 1) := by decide +kernel
theorem dX2_mergeOn_45 : decode cX2_mergeOn 45 = .ok (.iload_n 2, 1) := by decide +kernel
theorem dX2_mergeOn_46 : decode cX2_mergeOn 46 = .ok (.iload_n 1, 1) := by decide +kernel
theorem dX2_mergeOn_47 : decode cX2_mergeOn 47 = .ok (.invokevirtual 122, 3) := by decide +kernel
theorem dX2_mergeOn_50 : decode cX2_mergeOn 50 = .ok (.ifCond .eq 15, 3) := by decide +kernel
theorem dX2_mergeOn_53 : decode cX2_mergeOn 53 = .ok (.aload_n 0, 1) := by decide +kernel
theorem dX2_mergeOn_54 : decode cX2_mergeOn 54 = .ok (.iload_n 2, 1) := by decide +kernel
theorem dX2_mergeOn_55 : decode cX2_mergeOn 55 = .ok (.invokevirtual 116, 3) := by decide +kernel
theorem dX2_mergeOn_58 : decode cX2_mergeOn 58 = .ok (.bipush 100, 2) := by decide +kernel
theorem dX2_mergeOn_60 : decode cX2_mergeOn 60 = .ok (.istore 5, 2) := by decide +kernel
theorem dX2_mergeOn_62 : decode cX2_mergeOn 62 = .ok (.goto 38, 3) := by decide +kernel
theorem dX2_mergeOn_65 : decode cX2_mergeOn 65 = .ok (.aload_n 0, 1) := by decide +kernel
theorem dX2_mergeOn_66 : decode cX2_mergeOn 66 = .ok (.getfield 17, 3) := by decide +kernel
theorem dX2_mergeOn_69 : decode cX2_mergeOn 69 = .ok (.iload_n 1, 1) := by decide +kernel
theorem dX2_mergeOn_70 : decode cX2_mergeOn 70 = .ok (.aaload, 1) := by decide +kernel
theorem dX2_mergeOn_71 : decode cX2_mergeOn 71 = .ok (.getfield 43, 3) := by decide +kernel
theorem dX2_mergeOn_74 : decode cX2_mergeOn 74 = .ok (.ifCond .ne 15, 3) := by decide +kernel
theorem dX2_mergeOn_77 : decode cX2_mergeOn 77 = .ok (.aload_n 0, 1) := by decide +kernel
theorem dX2_mergeOn_78 : decode cX2_mergeOn 78 = .ok (.getfield 17, 3) := by decide +kernel
theorem dX2_mergeOn_81 : decode cX2_mergeOn 81 = .ok (.iload_n 2, 1) := by decide +kernel
theorem dX2_mergeOn_82 : decode cX2_mergeOn 82 = .ok (.aaload, 1) := by decide +kernel
theorem dX2_mergeOn_83 : decode cX2_mergeOn 83 = .ok (.getfield 43, 3) := by decide +kernel
theorem dX2_mergeOn_86 : decode cX2_mergeOn 86 = .ok (.ifCond .eq 14, 3) := by decide +kernel
theorem dX2_mergeOn_89 : decode cX2_mergeOn 89 = .ok (.aload_n 0, 1) := by decide +kernel
theorem dX2_mergeOn_90 : decode cX2_mergeOn 90 = .ok (.iload_n 1, 1) := by decide +kernel
theorem dX2_mergeOn_91 : decode cX2_mergeOn 91 = .ok (.iload_n 2, 1) := by decide +kernel
theorem dX2_mergeOn_92 : decode cX2_mergeOn 92 = .ok (.iload 4, 2) := by decide +kernel
theorem dX2_mergeOn_94 : decode cX2_mergeOn 94 = .ok (.iload_n 3, 1) := by decide +kernel
theorem dX2_mergeOn_95 : decode cX2_mergeOn 95 = .ok (.invokevirtual 126, 3) := by decide +kernel
theorem dX2_mergeOn_98 : decode cX2_mergeOn 98 = .ok (.istore 5, 2) := by decide +kernel
theorem dX2_mergeOn_100 : decode cX2_mergeOn 100 = .ok (.aload_n 0, 1) := by decide +kernel
theorem dX2_mergeOn_101 : decode cX2_mergeOn 101 = .ok (.getfield 17, 3) := by decide +kernel
theorem dX2_mergeOn_104 : decode cX2_mergeOn 104 = .ok (.iload_n 1, 1) := by decide +kernel
theorem dX2_mergeOn_105 : decode cX2_mergeOn 105 = .ok (.aaload, 1) := by decide +kernel
theorem dX2_mergeOn_106 : decode cX2_mergeOn 106 = .ok (.getfield 43, 3) := by decide +kernel
theorem dX2_mergeOn_109 : decode cX2_mergeOn 109 = .ok (.ifCond .ne 30, 3) := by decide +kernel
theorem dX2_mergeOn_112 : decode cX2_mergeOn 112 = .ok (.aload_n 0, 1) := by decide +kernel
theorem dX2_mergeOn_113 : decode cX2_mergeOn 113 = .ok (.getfield 17, 3) := by decide +kernel
theorem dX2_mergeOn_116 : decode cX2_mergeOn 116 = .ok (.iload_n 2, 1) := by decide +kernel
theorem dX2_mergeOn_117 : decode cX2_mergeOn 117 = .ok (.aaload, 1) := by decide +kernel
theorem dX2_mergeOn_118 : decode cX2_mergeOn 118 = .ok (.getfield 43, 3) := by decide +kernel
theorem dX2_mergeOn_121 : decode cX2_mergeOn 121 = .ok (.ifCond .ne 18, 3) := by decide +kernel
theorem dX2_mergeOn_124 : decode cX2_mergeOn 124 = .ok (.aload_n 0, 1) := by decide +kernel
theorem dX2_mergeOn_125 : decode cX2_mergeOn 125 = .ok (.getfield 17, 3) := by decide +kernel
theorem dX2_mergeOn_128 : decode cX2_mergeOn 128 = .ok (.iload_n 1, 1) := by decide +kernel
theorem dX2_mergeOn_129 : decode cX2_mergeOn 129 = .ok (.aaload, 1) := by decide +kernel
theorem dX2_mergeOn_130 : decode cX2_mergeOn 130 = .ok (.aload_n 0, 1) := by decide +kernel
theorem dX2_mergeOn_131 : decode cX2_mergeOn 131 = .ok (.getfield 17, 3) := by decide +kernel
theorem dX2_mergeOn_134 : decode cX2_mergeOn 134 = .ok (.iload_n 2, 1) := by decide +kernel
theorem dX2_mergeOn_135 : decode cX2_mergeOn 135 = .ok (.aaload, 1) := by decide +kernel
theorem dX2_mergeOn_136 : decode cX2_mergeOn 136 = .ok (.invokevirtual 130, 3) := by decide +kernel
theorem dX2_mergeOn_139 : decode cX2_mergeOn 139 = .ok (.iload 5, 2) := by decide +kernel
theorem dX2_mergeOn_141 : decode cX2_mergeOn 141 = .ok (.ireturn, 1) := by decide +kernel
theorem dX2_isOutdated_0 : decode cX2_isOutdated 0 = .ok (.aload_n 0, 1) := by decide +kernel
theorem dX2_isOutdated_1 : decode cX2_isOutdated 1 = .ok (.getfield 17, 3) := by decide +kernel
theorem dX2_isOutdated_4 : decode cX2_isOutdated 4 = .ok (.iload_n 1, 1) := by decide +kernel
theorem dX2_isOutdated_5 : decode cX2_isOutdated 5 = .ok (.aaload, 1) := by decide +kernel
theorem dX2_isOutdated_6 : decode cX2_isOutdated 6 = .ok (.astore_n 3, 1) := by decide +kernel
theorem dX2_isOutdated_7 : decode cX2_isOutdated 7 = .ok (.aload_n 0, 1) := by decide +kernel
theorem dX2_isOutdated_8 : decode cX2_isOutdated 8 = .ok (.getfield 17, 3) := by decide +kernel
theorem dX2_isOutdated_11 : decode cX2_isOutdated 11 = .ok (.iload_n 2, 1) := by decide +kernel
theorem dX2_isOutdated_12 : decode cX2_isOutdated 12 = .ok (.aaload, 1) := by decide +kernel
theorem dX2_isOutdated_13 : decode cX2_isOutdated 13 = .ok (.astore 4, 2) := by decide +kernel
theorem dX2_isOutdated_15 : decode cX2_isOutdated 15 = .ok (.aload_n 3, 1) := by decide +kernel
theorem dX2_isOutdated_16 : decode cX2_isOutdated 16 = .ok (.getfield 43, 3) := by decide +kernel
theorem dX2_isOutdated_19 : decode cX2_isOutdated 19 = .ok (.ifCond .eq 35, 3) := by decide +kernel
theorem dX2_isOutdated_22 : decode cX2_isOutdated 22 = .ok (.aload 4, 2) := by decide +kernel
theorem dX2_isOutdated_24 : decode cX2_isOutdated 24 = .ok (.getfield 43, 3) := by decide +kernel
theorem dX2_isOutdated_27 : decode cX2_isOutdated 27 = .ok (.ifCond .ne 27, 3) := by decide +kernel
theorem dX2_isOutdated_30 : decode cX2_isOutdated 30 = .ok (.aload 4, 2) := by decide +kernel
theorem dX2_isOutdated_32 : decode cX2_isOutdated 32 = .ok (.getfield 96, 3) := by decide +kernel
theorem dX2_isOutdated_35 : decode cX2_isOutdated 35 = .ok (.ifCond .eq 19, 3) := by decide +kernel
theorem dX2_isOutdated_38 : decode cX2_isOutdated 38 = .ok (.aload 4, 2) := by decide +kernel
theorem dX2_isOutdated_40 : decode cX2_isOutdated 40 = .ok (.getfield 99, 3) := by decide +kernel
theorem dX2_isOutdated_43 : decode cX2_isOutdated 43 = .ok (.aload_n 3, 1) := by decide +kernel
theorem dX2_isOutdated_44 : decode cX2_isOutdated 44 = .ok (.invokevirtual 71, 3) := by decide +kernel
theorem dX2_isOutdated_47 : decode cX2_isOutdated 47 = .ok (.ifCond .eq 7, 3) := by decide +kernel
theorem dX2_isOutdated_50 : decode cX2_isOutdated 50 = .ok (.iconst 1, 1) := by decide +kernel
theorem dX2_isOutdated_51 : decode cX2_isOutdated 51 = .ok (.goto 4, 3) := by decide +kernel
theorem dX2_isOutdated_54 : decode cX2_isOutdated 54 = .ok (.iconst 0, 1) := by decide +kernel
theorem dX2_isOutdated_55 : decode cX2_isOutdated 55 = .ok (.ireturn, 1) := by decide +kernel
theorem dX2_braid_0 : decode cX2_braid 0 = .ok (.aload_n 0, 1) := by decide +kernel
theorem dX2_braid_1 : decode cX2_braid 1 = .ok (.getfield 17, 3) := by decide +kernel
theorem dX2_braid_4 : decode cX2_braid 4 = .ok (.iload_n 1, 1) := by decide +kernel
theorem dX2_braid_5 : decode cX2_braid 5 = .ok (.aaload, 1) := by decide +kernel
theorem dX2_braid_6 : decode cX2_braid 6 = .ok (.iconst 1, 1) := by decide +kernel
theorem dX2_braid_7 : decode cX2_braid 7 = .ok (.putfield 43, 3) := by decide +kernel
theorem dX2_braid_10 : decode cX2_braid 10 = .ok (.aload_n 0, 1) := by decide +kernel
theorem dX2_braid_11 : decode cX2_braid 11 = .ok (.getfield 17, 3) := by decide +kernel
theorem dX2_braid_14 : decode cX2_braid 14 = .ok (.iload_n 2, 1) := by decide +kernel
theorem dX2_braid_15 : decode cX2_braid 15 = .ok (.aaload, 1) := by decide +kernel
theorem dX2_braid_16 : decode cX2_braid 16 = .ok (.iconst 1, 1) := by decide +kernel
theorem dX2_braid_17 : decode cX2_braid 17 = .ok (.putfield 43, 3) := by decide +kernel
theorem dX2_braid_20 : decode cX2_braid 20 = .ok (.iconst 0, 1) := by decide +kernel
theorem dX2_braid_21 : decode cX2_braid 21 = .ok (.istore 5, 2) := by decide +kernel
theorem dX2_braid_23 : decode cX2_braid 23 = .ok (.iconst 0, 1) := by decide +kernel
theorem dX2_braid_24 : decode cX2_braid 24 = .ok (.istore 6, 2) := by decide +kernel
theorem dX2_braid_26 : decode cX2_braid 26 = .ok (.iload 6, 2) := by decide +kernel
theorem dX2_braid_28 : decode cX2_braid 28 = .ok (.iconst 4, 1) := by decide +kernel
theorem dX2_braid_29 : decode cX2_braid 29 = .ok (.if_icmp .ge 40, 3) := by decide +kernel
theorem dX2_braid_32 : decode cX2_braid 32 = .ok (.iload_n 3, 1) := by decide +kernel
theorem dX2_braid_33 : decode cX2_braid 33 = .ok (.iload 6, 2) := by decide +kernel
theorem dX2_braid_35 : decode cX2_braid 35 = .ok (.invokestatic 134, 3) := by decide +kernel
theorem dX2_braid_38 : decode cX2_braid 38 = .ok (.ifCond .eq 25, 3) := by decide +kernel
theorem dX2_braid_41 : decode cX2_braid 41 = .ok (.iload 5, 2) := by decide +kernel
theorem dX2_braid_43 : decode cX2_braid 43 = .ok (.aload_n 0, 1) := by decide +kernel
theorem dX2_braid_44 : decode cX2_braid 44 = .ok (.getfield 17, 3) := by decide +kernel
theorem dX2_braid_47 : decode cX2_braid 47 = .ok (.iload_n 1, 1) := by decide +kernel
theorem dX2_braid_48 : decode cX2_braid 48 = .ok (.aaload, 1) := by decide +kernel
theorem dX2_braid_49 : decode cX2_braid 49 = .ok (.aload_n 0, 1) := by decide +kernel
theorem dX2_braid_50 : decode cX2_braid 50 = .ok (.getfield 17, 3) := by decide +kernel
theorem dX2_braid_53 : decode cX2_braid 53 = .ok (.iload_n 2, 1) := by decide +kernel
theorem dX2_braid_54 : decode cX2_braid 54 = .ok (.aaload, 1) := by decide +kernel
theorem dX2_braid_55 : decode cX2_braid 55 = .ok (.iload 6, 2) := by decide +kernel
theorem dX2_braid_57 : decode cX2_braid 57 = .ok (.invokevirtual 137, 3) := by decide +kernel
theorem dX2_braid_60 : decode cX2_braid 60 = .ok (.iadd, 1) := by decide +kernel
theorem dX2_braid_61 : decode cX2_braid 61 = .ok (.istore 5, 2) := by decide +kernel
theorem dX2_braid_63 : decode cX2_braid 63 = .ok (.iinc 6 1, 3) := by decide +kernel
theorem dX2_braid_66 : decode cX2_braid 66 = .ok (.goto (-40), 3) := by decide +kernel
theorem dX2_braid_69 : decode cX2_braid 69 = .ok (.iconst 0, 1) := by decide +kernel
theorem dX2_braid_70 : decode cX2_braid 70 = .ok (.istore 6, 2) := by decide +kernel
theorem dX2_braid_72 : decode cX2_braid 72 = .ok (.iload 6, 2) := by decide +kernel
theorem dX2_braid_74 : decode cX2_braid 74 = .ok (.aload_n 0, 1) := by decide +kernel
theorem dX2_braid_75 : decode cX2_braid 75 = .ok (.getfield 33, 3) := by decide +kernel
theorem dX2_braid_78 : decode cX2_braid 78 = .ok (.if_icmp .ge 40, 3) := by decide +kernel
theorem dX2_braid_81 : decode cX2_braid 81 = .ok (.iload 6, 2) := by decide +kernel
theorem dX2_braid_83 : decode cX2_braid 83 = .ok (.aload_n 0, 1) := by decide +kernel
theorem dX2_braid_84 : decode cX2_braid 84 = .ok (.getfield 24, 3) := by decide +kernel
theorem dX2_braid_87 : decode cX2_braid 87 = .ok (.invokevirtual 55, 3) := by decide +kernel
theorem dX2_braid_90 : decode cX2_braid 90 = .ok (.if_icmp .ge 28, 3) := by decide +kernel
theorem dX2_braid_93 : decode cX2_braid 93 = .ok (.aload_n 0, 1) := by decide +kernel
theorem dX2_braid_94 : decode cX2_braid 94 = .ok (.getfield 24, 3) := by decide +kernel
theorem dX2_braid_97 : decode cX2_braid 97 = .ok (.iload 6, 2) := by decide +kernel
theorem dX2_braid_99 : decode cX2_braid 99 = .ok (.invokevirtual 58, 3) := by decide +kernel
theorem dX2_braid_102 : decode cX2_braid 102 = .ok (.checkcast 62, 3) := by decide +kernel
theorem dX2_braid_105 : decode cX2_braid 105 = .ok (.iload_n 1, 1) := by decide +kernel
theorem dX2_braid_106 : decode cX2_braid 106 = .ok (.iload_n 2, 1) := by decide +kernel
theorem dX2_braid_107 : decode cX2_braid 107 = .ok (.iload 4, 2) := by decide +kernel
theorem dX2_braid_109 : decode cX2_braid 109 = .ok (.invokevirtual 140, 3) := by decide +kernel
theorem dX2_braid_112 : decode cX2_braid 112 = .ok (.iinc 6 1, 3) := by decide +kernel
theorem dX2_braid_115 : decode cX2_braid 115 = .ok (.goto (-43), 3) := by decide +kernel
theorem dX2_braid_118 : decode cX2_braid 118 = .ok (.iload 5, 2) := by decide +kernel
theorem dX2_braid_120 : decode cX2_braid 120 = .ok (.ireturn, 1) := by decide +kernel
theorem dX2_comparedFields_0 : decode cX2_comparedFields 0 = .ok (.aload_n 0, 1) := by decide +kernel
theorem dX2_comparedFields_1 : decode cX2_comparedFields 1 = .ok (.iload_n 1, 1) := by decide +kernel
theorem dX2_comparedFields_2 : decode cX2_comparedFields 2 = .ok (.invokevirtual 110, 3) := by decide +kernel
theorem dX2_comparedFields_5 : decode cX2_comparedFields 5 = .ok (.iconst 1, 1) := by decide +kernel
theorem dX2_comparedFields_6 : decode cX2_comparedFields 6 = .ok (.if_icmp .eq 14, 3) := by decide +kernel
theorem dX2_comparedFields_9 : decode cX2_comparedFields 9 = .ok (.aload_n 0, 1) := by decide +kernel
theorem dX2_comparedFields_10 : decode cX2_comparedFields 10 = .ok (.iload_n 2, 1) := by decide +kernel
theorem dX2_comparedFields_11 : decode cX2_comparedFields 11 = .ok (.invokevirtual 110, 3) := by decide +kernel
theorem dX2_comparedFields_14 : decode cX2_comparedFields 14 = .ok (.iconst 1, 1) := by decide +kernel
theorem dX2_comparedFields_15 : decode cX2_comparedFields 15 = .ok (.if_icmp .eq 5, 3) := by decide +kernel
theorem dX2_comparedFields_18 : decode cX2_comparedFields 18 = .ok (.iconst 0, 1) := by decide +kernel
theorem dX2_comparedFields_19 : decode cX2_comparedFields 19 = .ok (.ireturn, 1) := by decide +kernel
theorem dX2_comparedFields_20 : decode cX2_comparedFields 20 = .ok (.aload_n 0, 1) := by decide +kernel
theorem dX2_comparedFields_21 : decode cX2_comparedFields 21 = .ok (.iload_n 1, 1) := by decide +kernel
theorem dX2_comparedFields_22 : decode cX2_comparedFields 22 = .ok (.invokevirtual 119, 3) := by decide +kernel
theorem dX2_comparedFields_25 : decode cX2_comparedFields 25 = .ok (.aload_n 0, 1) := by decide +kernel
theorem dX2_comparedFields_26 : decode cX2_comparedFields 26 = .ok (.iload_n 2, 1) := by decide +kernel
theorem dX2_comparedFields_27 : decode cX2_comparedFields 27 = .ok (.invokevirtual 119, 3) := by decide +kernel
theorem dX2_comparedFields_30 : decode cX2_comparedFields 30 = .ok (.iand, 1) := by decide +kernel
theorem dX2_comparedFields_31 : decode cX2_comparedFields 31 = .ok (.ireturn, 1) := by decide +kernel
theorem dX2_countSame_0 : decode cX2_countSame 0 = .ok (.aload_n 0, 1) := by decide +kernel
theorem dX2_countSame_1 : decode cX2_countSame 1 = .ok (.iload_n 1, 1) := by decide +kernel
theorem dX2_countSame_2 : decode cX2_countSame 2 = .ok (.iload_n 2, 1) := by decide +kernel
theorem dX2_countSame_3 : decode cX2_countSame 3 = .ok (.invokevirtual 144, 3) := by decide +kernel
theorem dX2_countSame_6 : decode cX2_countSame 6 = .ok (.istore_n 3, 1) := by decide +kernel
theorem dX2_countSame_7 : decode cX2_countSame 7 = .ok (.iconst 0, 1) := by decide +kernel
theorem dX2_countSame_8 : decode cX2_countSame 8 = .ok (.istore 4, 2) := by decide +kernel
theorem dX2_countSame_10 : decode cX2_countSame 10 = .ok (.iconst 0, 1) := by decide +kernel
theorem dX2_countSame_11 : decode cX2_countSame 11 = .ok (.istore 5, 2) := by decide +kernel
theorem dX2_countSame_13 : decode cX2_countSame 13 = .ok (.iload 5, 2) := by decide +kernel
theorem dX2_countSame_15 : decode cX2_countSame 15 = .ok (.iconst 4, 1) := by decide +kernel
theorem dX2_countSame_16 : decode cX2_countSame 16 = .ok (.if_icmp .ge 41, 3) := by decide +kernel
theorem dX2_countSame_19 : decode cX2_countSame 19 = .ok (.iload_n 3, 1) := by decide +kernel
theorem dX2_countSame_20 : decode cX2_countSame 20 = .ok (.iload 5, 2) := by decide +kernel
theorem dX2_countSame_22 : decode cX2_countSame 22 = .ok (.invokestatic 134, 3) := by decide +kernel
theorem dX2_countSame_25 : decode cX2_countSame 25 = .ok (.ifCond .eq 26, 3) := by decide +kernel
theorem dX2_countSame_28 : decode cX2_countSame 28 = .ok (.aload_n 0, 1) := by decide +kernel
theorem dX2_countSame_29 : decode cX2_countSame 29 = .ok (.getfield 17, 3) := by decide +kernel
theorem dX2_countSame_32 : decode cX2_countSame 32 = .ok (.iload_n 1, 1) := by decide +kernel
theorem dX2_countSame_33 : decode cX2_countSame 33 = .ok (.aaload, 1) := by decide +kernel
theorem dX2_countSame_34 : decode cX2_countSame 34 = .ok (.aload_n 0, 1) := by decide +kernel
theorem dX2_countSame_35 : decode cX2_countSame 35 = .ok (.getfield 17, 3) := by decide +kernel
theorem dX2_countSame_38 : decode cX2_countSame 38 = .ok (.iload_n 2, 1) := by decide +kernel
theorem dX2_countSame_39 : decode cX2_countSame 39 = .ok (.aaload, 1) := by decide +kernel
theorem dX2_countSame_40 : decode cX2_countSame 40 = .ok (.iload 5, 2) := by decide +kernel
theorem dX2_countSame_42 : decode cX2_countSame 42 = .ok (.invokevirtual 147, 3) := by decide +kernel
theorem dX2_countSame_45 : decode cX2_countSame 45 = .ok (.ifCond .eq 6, 3) := by decide +kernel
theorem dX2_countSame_48 : decode cX2_countSame 48 = .ok (.iinc 4 1, 3) := by decide +kernel
theorem dX2_countSame_51 : decode cX2_countSame 51 = .ok (.iinc 5 1, 3) := by decide +kernel
theorem dX2_countSame_54 : decode cX2_countSame 54 = .ok (.goto (-41), 3) := by decide +kernel
theorem dX2_countSame_57 : decode cX2_countSame 57 = .ok (.iload 4, 2) := by decide +kernel
theorem dX2_countSame_59 : decode cX2_countSame 59 = .ok (.ireturn, 1) := by decide +kernel
theorem dX3_init_0 : decode cX3_init 0 = .ok (.aload_n 0, 1) := by decide +kernel
theorem dX3_init_1 : decode cX3_init 1 = .ok (.invokespecial 1, 3) := by decide +kernel
theorem dX3_init_4 : decode cX3_init 4 = .ok (.aload_n 0, 1) := by decide +kernel
theorem dX3_init_5 : decode cX3_init 5 = .ok (.sipush 512, 3) := by decide +kernel
theorem dX3_init_8 : decode cX3_init 8 = .ok (.newarray .int, 2) := by decide +kernel
theorem dX3_init_10 : decode cX3_init 10 = .ok (.putfield 9, 3) := by decide +kernel
theorem dX3_init_13 : decode cX3_init 13 = .ok (.aload_n 0, 1) := by decide +kernel
theorem dX3_init_14 : decode cX3_init 14 = .ok (.sipush 512, 3) := by decide +kernel
theorem dX3_init_17 : decode cX3_init 17 = .ok (.newarray .int, 2) := by decide +kernel
theorem dX3_init_19 : decode cX3_init 19 = .ok (.putfield 13, 3) := by decide +kernel
theorem dX3_init_22 : decode cX3_init 22 = .ok (.aload_n 0, 1) := by decide +kernel
theorem dX3_init_23 : decode cX3_init 23 = .ok (.sipush 512, 3) := by decide +kernel
theorem dX3_init_26 : decode cX3_init 26 = .ok (.newarray .int, 2) := by decide +kernel
theorem dX3_init_28 : decode cX3_init 28 = .ok (.putfield 16, 3) := by decide +kernel
theorem dX3_init_31 : decode cX3_init 31 = .ok (.aload_n 0, 1) := by decide +kernel
theorem dX3_init_32 : decode cX3_init 32 = .ok (.sipush 512, 3) := by decide +kernel
theorem dX3_init_35 : decode cX3_init 35 = .ok (.newarray .int, 2) := by decide +kernel
theorem dX3_init_37 : decode cX3_init 37 = .ok (.putfield 19, 3) := by decide +kernel
theorem dX3_init_40 : decode cX3_init 40 = .ok (.aload_n 0, 1) := by decide +kernel
theorem dX3_init_41 : decode cX3_init 41 = .ok (.sipush 512, 3) := by decide +kernel
theorem dX3_init_44 : decode cX3_init 44 = .ok (.newarray .int, 2) := by decide +kernel
theorem dX3_init_46 : decode cX3_init 46 = .ok (.putfield 22, 3) := by decide +kernel
theorem dX3_init_49 : decode cX3_init 49 = .ok (.return_, 1) := by decide +kernel
theorem dX3_isFull_0 : decode cX3_isFull 0 = .ok (.aload_n 0, 1) := by decide +kernel
theorem dX3_isFull_1 : decode cX3_isFull 1 = .ok (.getfield 25, 3) := by decide +kernel
theorem dX3_isFull_4 : decode cX3_isFull 4 = .ok (.sipush 512, 3) := by decide +kernel
theorem dX3_isFull_7 : decode cX3_isFull 7 = .ok (.if_icmp .lt 7, 3) := by decide +kernel
theorem dX3_isFull_10 : decode cX3_isFull 10 = .ok (.iconst 1, 1) := by decide +kernel
theorem dX3_isFull_11 : decode cX3_isFull 11 = .ok (.goto 4, 3) := by decide +kernel
theorem dX3_isFull_14 : decode cX3_isFull 14 = .ok (.iconst 0, 1) := by decide +kernel
theorem dX3_isFull_15 : decode cX3_isFull 15 = .ok (.ireturn, 1) := by decide +kernel
theorem dX3_write_0 : decode cX3_write 0 = .ok (.aload_n 0, 1) := by decide +kernel
theorem dX3_write_1 : decode cX3_write 1 = .ok (.invokevirtual 29, 3) := by decide +kernel
theorem dX3_write_4 : decode cX3_write 4 = .ok (.ifCond .eq 4, 3) := by decide +kernel
theorem dX3_write_7 : decode cX3_write 7 = .ok (.return_, 1) := by decide +kernel
theorem dX3_write_8 : decode cX3_write 8 = .ok (.aload_n 0, 1) := by decide +kernel
theorem dX3_write_9 : decode cX3_write 9 = .ok (.getfield 9, 3) := by decide +kernel
theorem dX3_write_12 : decode cX3_write 12 = .ok (.aload_n 0, 1) := by decide +kernel
theorem dX3_write_13 : decode cX3_write 13 = .ok (.getfield 25, 3) := by decide +kernel
theorem dX3_write_16 : decode cX3_write 16 = .ok (.iload_n 1, 1) := by decide +kernel
theorem dX3_write_17 : decode cX3_write 17 = .ok (.iastore, 1) := by decide +kernel
theorem dX3_write_18 : decode cX3_write 18 = .ok (.aload_n 0, 1) := by decide +kernel
theorem dX3_write_19 : decode cX3_write 19 = .ok (.getfield 13, 3) := by decide +kernel
theorem dX3_write_22 : decode cX3_write 22 = .ok (.aload_n 0, 1) := by decide +kernel
theorem dX3_write_23 : decode cX3_write 23 = .ok (.getfield 25, 3) := by decide +kernel
theorem dX3_write_26 : decode cX3_write 26 = .ok (.iload_n 2, 1) := by decide +kernel
theorem dX3_write_27 : decode cX3_write 27 = .ok (.iastore, 1) := by decide +kernel
theorem dX3_write_28 : decode cX3_write 28 = .ok (.aload_n 0, 1) := by decide +kernel
theorem dX3_write_29 : decode cX3_write 29 = .ok (.getfield 16, 3) := by decide +kernel
theorem dX3_write_32 : decode cX3_write 32 = .ok (.aload_n 0, 1) := by decide +kernel
theorem dX3_write_33 : decode cX3_write 33 = .ok (.getfield 25, 3) := by decide +kernel
theorem dX3_write_36 : decode cX3_write 36 = .ok (.iload_n 3, 1) := by decide +kernel
theorem dX3_write_37 : decode cX3_write 37 = .ok (.iastore, 1) := by decide +kernel
theorem dX3_write_38 : decode cX3_write 38 = .ok (.aload_n 0, 1) := by decide +kernel
theorem dX3_write_39 : decode cX3_write 39 = .ok (.getfield 19, 3) := by decide +kernel
theorem dX3_write_42 : decode cX3_write 42 = .ok (.aload_n 0, 1) := by decide +kernel
theorem dX3_write_43 : decode cX3_write 43 = .ok (.getfield 25, 3) := by decide +kernel
theorem dX3_write_46 : decode cX3_write 46 = .ok (.iload 4, 2) := by decide +kernel
theorem dX3_write_48 : decode cX3_write 48 = .ok (.iastore, 1) := by decide +kernel
theorem dX3_write_49 : decode cX3_write 49 = .ok (.aload_n 0, 1) := by decide +kernel
theorem dX3_write_50 : decode cX3_write 50 = .ok (.getfield 22, 3) := by decide +kernel
theorem dX3_write_53 : decode cX3_write 53 = .ok (.aload_n 0, 1) := by decide +kernel
theorem dX3_write_54 : decode cX3_write 54 = .ok (.getfield 25, 3) := by decide +kernel
theorem dX3_write_57 : decode cX3_write 57 = .ok (.iload 5, 2) := by decide +kernel
theorem dX3_write_59 : decode cX3_write 59 = .ok (.iastore, 1) := by decide +kernel
theorem dX3_write_60 : decode cX3_write 60 = .ok (.aload_n 0, 1) := by decide +kernel
theorem dX3_write_61 : decode cX3_write 61 = .ok (.dup, 1) := by decide +kernel
theorem dX3_write_62 : decode cX3_write 62 = .ok (.getfield 25, 3) := by decide +kernel
theorem dX3_write_65 : decode cX3_write 65 = .ok (.iconst 1, 1) := by decide +kernel
theorem dX3_write_66 : decode cX3_write 66 = .ok (.iadd, 1) := by decide +kernel
theorem dX3_write_67 : decode cX3_write 67 = .ok (.putfield 25, 3) := by decide +kernel
theorem dX3_write_70 : decode cX3_write 70 = .ok (.return_, 1) := by decide +kernel
theorem dX3_repeatOn_0 : decode cX3_repeatOn 0 = .ok (.iconst 0, 1) := by decide +kernel
theorem dX3_repeatOn_1 : decode cX3_repeatOn 1 = .ok (.istore_n 2, 1) := by decide +kernel
theorem dX3_repeatOn_2 : decode cX3_repeatOn 2 = .ok (.iload_n 2, 1) := by decide +kernel
theorem dX3_repeatOn_3 : decode cX3_repeatOn 3 = .ok (.sipush 512, 3) := by decide +kernel
theorem dX3_repeatOn_6 : decode cX3_repeatOn 6 = .ok (.if_icmp .ge 156, 3) := by decide +kernel
theorem dX3_repeatOn_9 : decode cX3_repeatOn 9 = .ok (.iload_n 2, 1) := by decide +kernel
theorem dX3_repeatOn_10 : decode cX3_repeatOn 10 = .ok (.aload_n 0, 1) := by decide +kernel
theorem dX3_repeatOn_11 : decode cX3_repeatOn 11 = .ok (.getfield 25, 3) := by decide +kernel
theorem dX3_repeatOn_14 : decode cX3_repeatOn 14 = .ok (.if_icmp .ge 148, 3) := by decide +kernel
theorem dX3_repeatOn_17 : decode cX3_repeatOn 17 = .ok (.aload_n 0, 1) := by decide +kernel
theorem dX3_repeatOn_18 : decode cX3_repeatOn 18 = .ok (.getfield 13, 3) := by decide +kernel
theorem dX3_repeatOn_21 : decode cX3_repeatOn 21 = .ok (.iload_n 2, 1) := by decide +kernel
theorem dX3_repeatOn_22 : decode cX3_repeatOn 22 = .ok (.iaload, 1) := by decide +kernel
theorem dX3_repeatOn_23 : decode cX3_repeatOn 23 = .ok (.istore_n 3, 1) := by decide +kernel
theorem dX3_repeatOn_24 : decode cX3_repeatOn 24 = .ok (.aload_n 0, 1) := by decide +kernel
theorem dX3_repeatOn_25 : decode cX3_repeatOn 25 = .ok (.getfield 16, 3) := by decide +kernel
theorem dX3_repeatOn_28 : decode cX3_repeatOn 28 = .ok (.iload_n 2, 1) := by decide +kernel
theorem dX3_repeatOn_29 : decode cX3_repeatOn 29 = .ok (.iaload, 1) := by decide +kernel
theorem dX3_repeatOn_30 : decode cX3_repeatOn 30 = .ok (.istore 4, 2) := by decide +kernel
theorem dX3_repeatOn_32 : decode cX3_repeatOn 32 = .ok (.aload_n 0, 1) := by decide +kernel
theorem dX3_repeatOn_33 : decode cX3_repeatOn 33 = .ok (.getfield 19, 3) := by decide +kernel
theorem dX3_repeatOn_36 : decode cX3_repeatOn 36 = .ok (.iload_n 2, 1) := by decide +kernel
theorem dX3_repeatOn_37 : decode cX3_repeatOn 37 = .ok (.iaload, 1) := by decide +kernel
theorem dX3_repeatOn_38 : decode cX3_repeatOn 38 = .ok (.istore 5, 2) := by decide +kernel
theorem dX3_repeatOn_40 : decode cX3_repeatOn 40 = .ok (.aload_n 0, 1) := by decide +kernel
theorem dX3_repeatOn_41 : decode cX3_repeatOn 41 = .ok (.getfield 9, 3) := by decide +kernel
theorem dX3_repeatOn_44 : decode cX3_repeatOn 44 = .ok (.iload_n 2, 1) := by decide +kernel
theorem dX3_repeatOn_45 : decode cX3_repeatOn 45 = .ok (.iaload, 1) := by decide +kernel
theorem dX3_repeatOn_46 : decode cX3_repeatOn 46 = .ok (.tableswitch 110 0 5 #[38, 47, 66, 77, 90, 101], 38) := by decide +kernel
theorem dX3_repeatOn_84 : decode cX3_repeatOn 84 = .ok (.aload_n 1, 1) := by decide +kernel
theorem dX3_repeatOn_85 : decode cX3_repeatOn 85 = .ok (.iload_n 3, 1) := by decide +kernel
theorem dX3_repeatOn_86 : decode cX3_repeatOn 86 = .ok (.invokevirtual 33, 3) := by decide +kernel
theorem dX3_repeatOn_89 : decode cX3_repeatOn 89 = .ok (.pop, 1) := by decide +kernel
theorem dX3_repeatOn_90 : decode cX3_repeatOn 90 = .ok (.goto 66, 3) := by decide +kernel
theorem dX3_repeatOn_93 : decode cX3_repeatOn 93 = .ok (.aload_n 1, 1) := by decide +kernel
theorem dX3_repeatOn_94 : decode cX3_repeatOn 94 = .ok (.iload_n 3, 1) := by decide +kernel
theorem dX3_repeatOn_95 : decode cX3_repeatOn 95 = .ok (.iload 4, 2) := by decide +kernel
theorem dX3_repeatOn_97 : decode cX3_repeatOn 97 = .ok (.iload 5, 2) := by decide +kernel
theorem dX3_repeatOn_99 : decode cX3_repeatOn 99 = .ok (.aload_n 0, 1) := by decide +kernel
theorem dX3_repeatOn_100 : decode cX3_repeatOn 100 = .ok (.getfield 22, 3) := by decide +kernel
theorem dX3_repeatOn_103 : decode cX3_repeatOn 103 = .ok (.iload_n 2, 1) := by decide +kernel
theorem dX3_repeatOn_104 : decode cX3_repeatOn 104 = .ok (.iaload, 1) := by decide +kernel
theorem dX3_repeatOn_105 : decode cX3_repeatOn 105 = .ok (.invokevirtual 39, 3) := by decide +kernel
theorem dX3_repeatOn_108 : decode cX3_repeatOn 108 = .ok (.pop, 1) := by decide +kernel
theorem dX3_repeatOn_109 : decode cX3_repeatOn 109 = .ok (.goto 47, 3) := by decide +kernel
theorem dX3_repeatOn_112 : decode cX3_repeatOn 112 = .ok (.aload_n 1, 1) := by decide +kernel
theorem dX3_repeatOn_113 : decode cX3_repeatOn 113 = .ok (.iload_n 3, 1) := by decide +kernel
theorem dX3_repeatOn_114 : decode cX3_repeatOn 114 = .ok (.iload 4, 2) := by decide +kernel
theorem dX3_repeatOn_116 : decode cX3_repeatOn 116 = .ok (.invokevirtual 43, 3) := by decide +kernel
theorem dX3_repeatOn_119 : decode cX3_repeatOn 119 = .ok (.pop, 1) := by decide +kernel
theorem dX3_repeatOn_120 : decode cX3_repeatOn 120 = .ok (.goto 36, 3) := by decide +kernel
theorem dX3_repeatOn_123 : decode cX3_repeatOn 123 = .ok (.aload_n 1, 1) := by decide +kernel
theorem dX3_repeatOn_124 : decode cX3_repeatOn 124 = .ok (.iload_n 3, 1) := by decide +kernel
theorem dX3_repeatOn_125 : decode cX3_repeatOn 125 = .ok (.iload 4, 2) := by decide +kernel
theorem dX3_repeatOn_127 : decode cX3_repeatOn 127 = .ok (.iload 5, 2) := by decide +kernel
theorem dX3_repeatOn_129 : decode cX3_repeatOn 129 = .ok (.invokevirtual 47, 3) := by decide +kernel
theorem dX3_repeatOn_132 : decode cX3_repeatOn 132 = .ok (.pop, 1) := by decide +kernel
theorem dX3_repeatOn_133 : decode cX3_repeatOn 133 = .ok (.goto 23, 3) := by decide +kernel
theorem dX3_repeatOn_136 : decode cX3_repeatOn 136 = .ok (.aload_n 1, 1) := by decide +kernel
theorem dX3_repeatOn_137 : decode cX3_repeatOn 137 = .ok (.iload_n 3, 1) := by decide +kernel
theorem dX3_repeatOn_138 : decode cX3_repeatOn 138 = .ok (.iload 4, 2) := by decide +kernel
theorem dX3_repeatOn_140 : decode cX3_repeatOn 140 = .ok (.invokevirtual 51, 3) := by decide +kernel
theorem dX3_repeatOn_143 : decode cX3_repeatOn 143 = .ok (.pop, 1) := by decide +kernel
theorem dX3_repeatOn_144 : decode cX3_repeatOn 144 = .ok (.goto 12, 3) := by decide +kernel
theorem dX3_repeatOn_147 : decode cX3_repeatOn 147 = .ok (.aload_n 1, 1) := by decide +kernel
theorem dX3_repeatOn_148 : decode cX3_repeatOn 148 = .ok (.iload_n 3, 1) := by decide +kernel
theorem dX3_repeatOn_149 : decode cX3_repeatOn 149 = .ok (.invokevirtual 54, 3) := by decide +kernel
theorem dX3_repeatOn_152 : decode cX3_repeatOn 152 = .ok (.pop, 1) := by decide +kernel
theorem dX3_repeatOn_153 : decode cX3_repeatOn 153 = .ok (.goto 3, 3) := by decide +kernel
theorem dX3_repeatOn_156 : decode cX3_repeatOn 156 = .ok (.iinc 2 1, 3) := by decide +kernel
theorem dX3_repeatOn_159 : decode cX3_repeatOn 159 = .ok (.goto (-157), 3) := by decide +kernel
theorem dX3_repeatOn_162 : decode cX3_repeatOn 162 = .ok (.return_, 1) := by decide +kernel
theorem dX4_init_0 : decode cX4_init 0 = .ok (.aload_n 0, 1) := by decide +kernel
theorem dX4_init_1 : decode cX4_init 1 = .ok (.invokespecial 3, 3) := by decide +kernel
theorem dX4_init_4 : decode cX4_init 4 = .ok (.aload_n 0, 1) := by decide +kernel
theorem dX4_init_5 : decode cX4_init 5 = .ok (.new 9, 3) := by decide +kernel
theorem dX4_init_8 : decode cX4_init 8 = .ok (.dup, 1) := by decide +kernel
theorem dX4_init_9 : decode cX4_init 9 = .ok (.invokespecial 11, 3) := by decide +kernel
theorem dX4_init_12 : decode cX4_init 12 = .ok (.putfield 12, 3) := by decide +kernel
theorem dX4_init_15 : decode cX4_init 15 = .ok (.aload_n 0, 1) := by decide +kernel
theorem dX4_init_16 : decode cX4_init 16 = .ok (.bipush 6, 2) := by decide +kernel
theorem dX4_init_18 : decode cX4_init 18 = .ok (.newarray .int, 2) := by decide +kernel
theorem dX4_init_20 : decode cX4_init 20 = .ok (.putfield 18, 3) := by decide +kernel
theorem dX4_init_23 : decode cX4_init 23 = .ok (.return_, 1) := by decide +kernel
theorem dX4_set_0 : decode cX4_set 0 = .ok (.aload_n 0, 1) := by decide +kernel
theorem dX4_set_1 : decode cX4_set 1 = .ok (.getfield 12, 3) := by decide +kernel
theorem dX4_set_4 : decode cX4_set 4 = .ok (.invokevirtual 22, 3) := by decide +kernel
theorem dX4_set_7 : decode cX4_set 7 = .ok (.aload_n 0, 1) := by decide +kernel
theorem dX4_set_8 : decode cX4_set 8 = .ok (.getfield 12, 3) := by decide +kernel
theorem dX4_set_11 : decode cX4_set 11 = .ok (.aload_n 1, 1) := by decide +kernel
theorem dX4_set_12 : decode cX4_set 12 = .ok (.invokevirtual 25, 3) := by decide +kernel
theorem dX4_set_15 : decode cX4_set 15 = .ok (.iconst 0, 1) := by decide +kernel
theorem dX4_set_16 : decode cX4_set 16 = .ok (.istore 4, 2) := by decide +kernel
theorem dX4_set_18 : decode cX4_set 18 = .ok (.iload 4, 2) := by decide +kernel
theorem dX4_set_20 : decode cX4_set 20 = .ok (.bipush 6, 2) := by decide +kernel
theorem dX4_set_22 : decode cX4_set 22 = .ok (.if_icmp .ge 17, 3) := by decide +kernel
theorem dX4_set_25 : decode cX4_set 25 = .ok (.aload_n 0, 1) := by decide +kernel
theorem dX4_set_26 : decode cX4_set 26 = .ok (.getfield 18, 3) := by decide +kernel
theorem dX4_set_29 : decode cX4_set 29 = .ok (.iload 4, 2) := by decide +kernel
theorem dX4_set_31 : decode cX4_set 31 = .ok (.iconst (-1), 1) := by decide +kernel
theorem dX4_set_32 : decode cX4_set 32 = .ok (.iastore, 1) := by decide +kernel
theorem dX4_set_33 : decode cX4_set 33 = .ok (.iinc 4 1, 3) := by decide +kernel
theorem dX4_set_36 : decode cX4_set 36 = .ok (.goto (-18), 3) := by decide +kernel
theorem dX4_set_39 : decode cX4_set 39 = .ok (.aload_n 0, 1) := by decide +kernel
theorem dX4_set_40 : decode cX4_set 40 = .ok (.getfield 18, 3) := by decide +kernel
theorem dX4_set_43 : decode cX4_set 43 = .ok (.iload_n 2, 1) := by decide +kernel
theorem dX4_set_44 : decode cX4_set 44 = .ok (.iload_n 3, 1) := by decide +kernel
theorem dX4_set_45 : decode cX4_set 45 = .ok (.iastore, 1) := by decide +kernel
theorem dX4_set_46 : decode cX4_set 46 = .ok (.return_, 1) := by decide +kernel
theorem dX4_isKnownOn_0 : decode cX4_isKnownOn 0 = .ok (.aload_n 0, 1) := by decide +kernel
theorem dX4_isKnownOn_1 : decode cX4_isKnownOn 1 = .ok (.getfield 18, 3) := by decide +kernel
theorem dX4_isKnownOn_4 : decode cX4_isKnownOn 4 = .ok (.iload_n 1, 1) := by decide +kernel
theorem dX4_isKnownOn_5 : decode cX4_isKnownOn 5 = .ok (.iaload, 1) := by decide +kernel
theorem dX4_isKnownOn_6 : decode cX4_isKnownOn 6 = .ok (.iconst (-1), 1) := by decide +kernel
theorem dX4_isKnownOn_7 : decode cX4_isKnownOn 7 = .ok (.if_icmp .eq 7, 3) := by decide +kernel
theorem dX4_isKnownOn_10 : decode cX4_isKnownOn 10 = .ok (.iconst 1, 1) := by decide +kernel
theorem dX4_isKnownOn_11 : decode cX4_isKnownOn 11 = .ok (.goto 4, 3) := by decide +kernel
theorem dX4_isKnownOn_14 : decode cX4_isKnownOn 14 = .ok (.iconst 0, 1) := by decide +kernel
theorem dX4_isKnownOn_15 : decode cX4_isKnownOn 15 = .ok (.ireturn, 1) := by decide +kernel
theorem dX4_spread_0 : decode cX4_spread 0 = .ok (.aload_n 0, 1) := by decide +kernel
theorem dX4_spread_1 : decode cX4_spread 1 = .ok (.iload_n 1, 1) := by decide +kernel
theorem dX4_spread_2 : decode cX4_spread 2 = .ok (.invokevirtual 29, 3) := by decide +kernel
theorem dX4_spread_5 : decode cX4_spread 5 = .ok (.ifCond .eq 21, 3) := by decide +kernel
theorem dX4_spread_8 : decode cX4_spread 8 = .ok (.aload_n 0, 1) := by decide +kernel
theorem dX4_spread_9 : decode cX4_spread 9 = .ok (.iload_n 2, 1) := by decide +kernel
theorem dX4_spread_10 : decode cX4_spread 10 = .ok (.invokevirtual 29, 3) := by decide +kernel
theorem dX4_spread_13 : decode cX4_spread 13 = .ok (.ifCond .ne 13, 3) := by decide +kernel
theorem dX4_spread_16 : decode cX4_spread 16 = .ok (.aload_n 0, 1) := by decide +kernel
theorem dX4_spread_17 : decode cX4_spread 17 = .ok (.getfield 18, 3) := by decide +kernel
theorem dX4_spread_20 : decode cX4_spread 20 = .ok (.iload_n 2, 1) := by decide +kernel
theorem dX4_spread_21 : decode cX4_spread 21 = .ok (.iload_n 3, 1) := by decide +kernel
theorem dX4_spread_22 : decode cX4_spread 22 = .ok (.iastore, 1) := by decide +kernel
theorem dX4_spread_23 : decode cX4_spread 23 = .ok (.goto 26, 3) := by decide +kernel
theorem dX4_spread_26 : decode cX4_spread 26 = .ok (.aload_n 0, 1) := by decide +kernel
theorem dX4_spread_27 : decode cX4_spread 27 = .ok (.iload_n 2, 1) := by decide +kernel
theorem dX4_spread_28 : decode cX4_spread 28 = .ok (.invokevirtual 29, 3) := by decide +kernel
theorem dX4_spread_31 : decode cX4_spread 31 = .ok (.ifCond .eq 18, 3) := by decide +kernel
theorem dX4_spread_34 : decode cX4_spread 34 = .ok (.aload_n 0, 1) := by decide +kernel
theorem dX4_spread_35 : decode cX4_spread 35 = .ok (.iload_n 1, 1) := by decide +kernel
theorem dX4_spread_36 : decode cX4_spread 36 = .ok (.invokevirtual 29, 3) := by decide +kernel
theorem dX4_spread_39 : decode cX4_spread 39 = .ok (.ifCond .ne 10, 3) := by decide +kernel
theorem dX4_spread_42 : decode cX4_spread 42 = .ok (.aload_n 0, 1) := by decide +kernel
theorem dX4_spread_43 : decode cX4_spread 43 = .ok (.getfield 18, 3) := by decide +kernel
theorem dX4_spread_46 : decode cX4_spread 46 = .ok (.iload_n 1, 1) := by decide +kernel
theorem dX4_spread_47 : decode cX4_spread 47 = .ok (.iload_n 3, 1) := by decide +kernel
theorem dX4_spread_48 : decode cX4_spread 48 = .ok (.iastore, 1) := by decide +kernel
theorem dX4_spread_49 : decode cX4_spread 49 = .ok (.return_, 1) := by decide +kernel
theorem dX5_init_0 : decode cX5_init 0 = .ok (.aload_n 0, 1) := by decide +kernel
theorem dX5_init_1 : decode cX5_init 1 = .ok (.invokespecial 3, 3) := by decide +kernel
theorem dX5_init_4 : decode cX5_init 4 = .ok (.aload_n 0, 1) := by decide +kernel
theorem dX5_init_5 : decode cX5_init 5 = .ok (.bipush 24, 2) := by decide +kernel
theorem dX5_init_7 : decode cX5_init 7 = .ok (.newarray .int, 2) := by decide +kernel
theorem dX5_init_9 : decode cX5_init 9 = .ok (.putfield 9, 3) := by decide +kernel
theorem dX5_init_12 : decode cX5_init 12 = .ok (.return_, 1) := by decide +kernel
theorem dX5_clear_0 : decode cX5_clear 0 = .ok (.iconst 0, 1) := by decide +kernel
theorem dX5_clear_1 : decode cX5_clear 1 = .ok (.istore_n 1, 1) := by decide +kernel
theorem dX5_clear_2 : decode cX5_clear 2 = .ok (.iload_n 1, 1) := by decide +kernel
theorem dX5_clear_3 : decode cX5_clear 3 = .ok (.bipush 24, 2) := by decide +kernel
theorem dX5_clear_5 : decode cX5_clear 5 = .ok (.if_icmp .ge 16, 3) := by decide +kernel
theorem dX5_clear_8 : decode cX5_clear 8 = .ok (.aload_n 0, 1) := by decide +kernel
theorem dX5_clear_9 : decode cX5_clear 9 = .ok (.getfield 9, 3) := by decide +kernel
theorem dX5_clear_12 : decode cX5_clear 12 = .ok (.iload_n 1, 1) := by decide +kernel
theorem dX5_clear_13 : decode cX5_clear 13 = .ok (.iconst 0, 1) := by decide +kernel
theorem dX5_clear_14 : decode cX5_clear 14 = .ok (.iastore, 1) := by decide +kernel
theorem dX5_clear_15 : decode cX5_clear 15 = .ok (.iinc 1 1, 3) := by decide +kernel
theorem dX5_clear_18 : decode cX5_clear 18 = .ok (.goto (-16), 3) := by decide +kernel
theorem dX5_clear_21 : decode cX5_clear 21 = .ok (.return_, 1) := by decide +kernel
theorem dX5_raiseTo_0 : decode cX5_raiseTo 0 = .ok (.iconst 0, 1) := by decide +kernel
theorem dX5_raiseTo_1 : decode cX5_raiseTo 1 = .ok (.istore_n 2, 1) := by decide +kernel
theorem dX5_raiseTo_2 : decode cX5_raiseTo 2 = .ok (.iload_n 2, 1) := by decide +kernel
theorem dX5_raiseTo_3 : decode cX5_raiseTo 3 = .ok (.bipush 24, 2) := by decide +kernel
theorem dX5_raiseTo_5 : decode cX5_raiseTo 5 = .ok (.if_icmp .ge 30, 3) := by decide +kernel
theorem dX5_raiseTo_8 : decode cX5_raiseTo 8 = .ok (.aload_n 0, 1) := by decide +kernel
theorem dX5_raiseTo_9 : decode cX5_raiseTo 9 = .ok (.getfield 9, 3) := by decide +kernel
theorem dX5_raiseTo_12 : decode cX5_raiseTo 12 = .ok (.iload_n 2, 1) := by decide +kernel
theorem dX5_raiseTo_13 : decode cX5_raiseTo 13 = .ok (.aload_n 0, 1) := by decide +kernel
theorem dX5_raiseTo_14 : decode cX5_raiseTo 14 = .ok (.getfield 9, 3) := by decide +kernel
theorem dX5_raiseTo_17 : decode cX5_raiseTo 17 = .ok (.iload_n 2, 1) := by decide +kernel
theorem dX5_raiseTo_18 : decode cX5_raiseTo 18 = .ok (.iaload, 1) := by decide +kernel
theorem dX5_raiseTo_19 : decode cX5_raiseTo 19 = .ok (.aload_n 1, 1) := by decide +kernel
theorem dX5_raiseTo_20 : decode cX5_raiseTo 20 = .ok (.getfield 9, 3) := by decide +kernel
theorem dX5_raiseTo_23 : decode cX5_raiseTo 23 = .ok (.iload_n 2, 1) := by decide +kernel
theorem dX5_raiseTo_24 : decode cX5_raiseTo 24 = .ok (.iaload, 1) := by decide +kernel
theorem dX5_raiseTo_25 : decode cX5_raiseTo 25 = .ok (.invokestatic 15, 3) := by decide +kernel
theorem dX5_raiseTo_28 : decode cX5_raiseTo 28 = .ok (.iastore, 1) := by decide +kernel
theorem dX5_raiseTo_29 : decode cX5_raiseTo 29 = .ok (.iinc 2 1, 3) := by decide +kernel
theorem dX5_raiseTo_32 : decode cX5_raiseTo 32 = .ok (.goto (-30), 3) := by decide +kernel
theorem dX5_raiseTo_35 : decode cX5_raiseTo 35 = .ok (.return_, 1) := by decide +kernel
theorem dX5_coverAll_0 : decode cX5_coverAll 0 = .ok (.iconst 0, 1) := by decide +kernel
theorem dX5_coverAll_1 : decode cX5_coverAll 1 = .ok (.istore_n 2, 1) := by decide +kernel
theorem dX5_coverAll_2 : decode cX5_coverAll 2 = .ok (.iload_n 2, 1) := by decide +kernel
theorem dX5_coverAll_3 : decode cX5_coverAll 3 = .ok (.bipush 24, 2) := by decide +kernel
theorem dX5_coverAll_5 : decode cX5_coverAll 5 = .ok (.if_icmp .ge 26, 3) := by decide +kernel
theorem dX5_coverAll_8 : decode cX5_coverAll 8 = .ok (.aload_n 1, 1) := by decide +kernel
theorem dX5_coverAll_9 : decode cX5_coverAll 9 = .ok (.getfield 21, 3) := by decide +kernel
theorem dX5_coverAll_12 : decode cX5_coverAll 12 = .ok (.iload_n 2, 1) := by decide +kernel
theorem dX5_coverAll_13 : decode cX5_coverAll 13 = .ok (.iaload, 1) := by decide +kernel
theorem dX5_coverAll_14 : decode cX5_coverAll 14 = .ok (.aload_n 0, 1) := by decide +kernel
theorem dX5_coverAll_15 : decode cX5_coverAll 15 = .ok (.getfield 9, 3) := by decide +kernel
theorem dX5_coverAll_18 : decode cX5_coverAll 18 = .ok (.iload_n 2, 1) := by decide +kernel
theorem dX5_coverAll_19 : decode cX5_coverAll 19 = .ok (.iaload, 1) := by decide +kernel
theorem dX5_coverAll_20 : decode cX5_coverAll 20 = .ok (.if_icmp .le 5, 3) := by decide +kernel
theorem dX5_coverAll_23 : decode cX5_coverAll 23 = .ok (.iconst 0, 1) := by decide +kernel
theorem dX5_coverAll_24 : decode cX5_coverAll 24 = .ok (.ireturn, 1) := by decide +kernel
theorem dX5_coverAll_25 : decode cX5_coverAll 25 = .ok (.iinc 2 1, 3) := by decide +kernel
theorem dX5_coverAll_28 : decode cX5_coverAll 28 = .ok (.goto (-26), 3) := by decide +kernel
theorem dX5_coverAll_31 : decode cX5_coverAll 31 = .ok (.iconst 1, 1) := by decide +kernel
theorem dX5_coverAll_32 : decode cX5_coverAll 32 = .ok (.ireturn, 1) := by decide +kernel
theorem dX6_init_0 : decode cX6_init 0 = .ok (.aload_n 0, 1) := by decide +kernel
theorem dX6_init_1 : decode cX6_init 1 = .ok (.invokespecial 1, 3) := by decide +kernel
theorem dX6_init_4 : decode cX6_init 4 = .ok (.aload_n 0, 1) := by decide +kernel
theorem dX6_init_5 : decode cX6_init 5 = .ok (.new 7, 3) := by decide +kernel
theorem dX6_init_8 : decode cX6_init 8 = .ok (.dup, 1) := by decide +kernel
theorem dX6_init_9 : decode cX6_init 9 = .ok (.invokespecial 9, 3) := by decide +kernel
theorem dX6_init_12 : decode cX6_init 12 = .ok (.putfield 10, 3) := by decide +kernel
theorem dX6_init_15 : decode cX6_init 15 = .ok (.aload_n 0, 1) := by decide +kernel
theorem dX6_init_16 : decode cX6_init 16 = .ok (.new 7, 3) := by decide +kernel
theorem dX6_init_19 : decode cX6_init 19 = .ok (.dup, 1) := by decide +kernel
theorem dX6_init_20 : decode cX6_init 20 = .ok (.invokespecial 9, 3) := by decide +kernel
theorem dX6_init_23 : decode cX6_init 23 = .ok (.putfield 16, 3) := by decide +kernel
theorem dX6_init_26 : decode cX6_init 26 = .ok (.aload_n 0, 1) := by decide +kernel
theorem dX6_init_27 : decode cX6_init 27 = .ok (.new 19, 3) := by decide +kernel
theorem dX6_init_30 : decode cX6_init 30 = .ok (.dup, 1) := by decide +kernel
theorem dX6_init_31 : decode cX6_init 31 = .ok (.invokespecial 21, 3) := by decide +kernel
theorem dX6_init_34 : decode cX6_init 34 = .ok (.putfield 22, 3) := by decide +kernel
theorem dX6_init_37 : decode cX6_init 37 = .ok (.return_, 1) := by decide +kernel
theorem dX6_entry_0 : decode cX6_entry 0 = .ok (.iload_n 1, 1) := by decide +kernel
theorem dX6_entry_1 : decode cX6_entry 1 = .ok (.invokestatic 26, 3) := by decide +kernel
theorem dX6_entry_4 : decode cX6_entry 4 = .ok (.aload_n 0, 1) := by decide +kernel
theorem dX6_entry_5 : decode cX6_entry 5 = .ok (.getfield 10, 3) := by decide +kernel
theorem dX6_entry_8 : decode cX6_entry 8 = .ok (.getfield 30, 3) := by decide +kernel
theorem dX6_entry_11 : decode cX6_entry 11 = .ok (.bipush 10, 2) := by decide +kernel
theorem dX6_entry_13 : decode cX6_entry 13 = .ok (.if_icmp .lt 13, 3) := by decide +kernel
theorem dX6_entry_16 : decode cX6_entry 16 = .ok (.new 34, 3) := by decide +kernel
theorem dX6_entry_19 : decode cX6_entry 19 = .ok (.dup, 1) := by decide +kernel
theorem dX6_entry_20 : decode cX6_entry 20 = .ok (.ldc 36, 2) := by decide +kernel
theorem dX6_entry_22 : decode cX6_entry 22 = .ok (.invokespecial 38, 3) := by decide +kernel
theorem dX6_entry_25 : decode cX6_entry 25 = .ok (.athrow, 1) := by decide +kernel
theorem dX6_entry_26 : decode cX6_entry 26 = .ok (.aload_n 0, 1) := by decide +kernel
theorem dX6_entry_27 : decode cX6_entry 27 = .ok (.invokevirtual 41, 3) := by decide +kernel
theorem dX6_entry_30 : decode cX6_entry 30 = .ok (.aload_n 0, 1) := by decide +kernel
theorem dX6_entry_31 : decode cX6_entry 31 = .ok (.getfield 22, 3) := by decide +kernel
theorem dX6_entry_34 : decode cX6_entry 34 = .ok (.iconst 0, 1) := by decide +kernel
theorem dX6_entry_35 : decode cX6_entry 35 = .ok (.iload_n 1, 1) := by decide +kernel
theorem dX6_entry_36 : decode cX6_entry 36 = .ok (.iconst 0, 1) := by decide +kernel
theorem dX6_entry_37 : decode cX6_entry 37 = .ok (.iconst 0, 1) := by decide +kernel
theorem dX6_entry_38 : decode cX6_entry 38 = .ok (.iconst 0, 1) := by decide +kernel
theorem dX6_entry_39 : decode cX6_entry 39 = .ok (.invokevirtual 44, 3) := by decide +kernel
theorem dX6_entry_42 : decode cX6_entry 42 = .ok (.aload_n 0, 1) := by decide +kernel
theorem dX6_entry_43 : decode cX6_entry 43 = .ok (.getfield 10, 3) := by decide +kernel
theorem dX6_entry_46 : decode cX6_entry 46 = .ok (.iload_n 1, 1) := by decide +kernel
theorem dX6_entry_47 : decode cX6_entry 47 = .ok (.invokevirtual 48, 3) := by decide +kernel
theorem dX6_entry_50 : decode cX6_entry 50 = .ok (.ireturn, 1) := by decide +kernel
theorem dX6_tell_0 : decode cX6_tell 0 = .ok (.aload_n 0, 1) := by decide +kernel
theorem dX6_tell_1 : decode cX6_tell 1 = .ok (.getfield 10, 3) := by decide +kernel
theorem dX6_tell_4 : decode cX6_tell 4 = .ok (.iload_n 1, 1) := by decide +kernel
theorem dX6_tell_5 : decode cX6_tell 5 = .ok (.iload_n 2, 1) := by decide +kernel
theorem dX6_tell_6 : decode cX6_tell 6 = .ok (.invokestatic 52, 3) := by decide +kernel
theorem dX6_tell_9 : decode cX6_tell 9 = .ok (.astore 5, 2) := by decide +kernel
theorem dX6_tell_11 : decode cX6_tell 11 = .ok (.iload_n 3, 1) := by decide +kernel
theorem dX6_tell_12 : decode cX6_tell 12 = .ok (.invokestatic 56, 3) := by decide +kernel
theorem dX6_tell_15 : decode cX6_tell 15 = .ok (.iload 4, 2) := by decide +kernel
theorem dX6_tell_17 : decode cX6_tell 17 = .ok (.iconst (-1), 1) := by decide +kernel
theorem dX6_tell_18 : decode cX6_tell 18 = .ok (.if_icmp .lt 11, 3) := by decide +kernel
theorem dX6_tell_21 : decode cX6_tell 21 = .ok (.iload 4, 2) := by decide +kernel
theorem dX6_tell_23 : decode cX6_tell 23 = .ok (.sipush 999, 3) := by decide +kernel
theorem dX6_tell_26 : decode cX6_tell 26 = .ok (.if_icmp .le 13, 3) := by decide +kernel
theorem dX6_tell_29 : decode cX6_tell 29 = .ok (.new 59, 3) := by decide +kernel
theorem dX6_tell_32 : decode cX6_tell 32 = .ok (.dup, 1) := by decide +kernel
theorem dX6_tell_33 : decode cX6_tell 33 = .ok (.ldc 61, 2) := by decide +kernel
theorem dX6_tell_35 : decode cX6_tell 35 = .ok (.invokespecial 63, 3) := by decide +kernel
theorem dX6_tell_38 : decode cX6_tell 38 = .ok (.athrow, 1) := by decide +kernel
theorem dX6_tell_39 : decode cX6_tell 39 = .ok (.aload 5, 2) := by decide +kernel
theorem dX6_tell_41 : decode cX6_tell 41 = .ok (.iload_n 1, 1) := by decide +kernel
theorem dX6_tell_42 : decode cX6_tell 42 = .ok (.invokevirtual 64, 3) := by decide +kernel
theorem dX6_tell_45 : decode cX6_tell 45 = .ok (.iload_n 3, 1) := by decide +kernel
theorem dX6_tell_46 : decode cX6_tell 46 = .ok (.invokestatic 69, 3) := by decide +kernel
theorem dX6_tell_49 : decode cX6_tell 49 = .ok (.ifCond .ne 13, 3) := by decide +kernel
theorem dX6_tell_52 : decode cX6_tell 52 = .ok (.new 34, 3) := by decide +kernel
theorem dX6_tell_55 : decode cX6_tell 55 = .ok (.dup, 1) := by decide +kernel
theorem dX6_tell_56 : decode cX6_tell 56 = .ok (.ldc 73, 2) := by decide +kernel
theorem dX6_tell_58 : decode cX6_tell 58 = .ok (.invokespecial 38, 3) := by decide +kernel
theorem dX6_tell_61 : decode cX6_tell 61 = .ok (.athrow, 1) := by decide +kernel
theorem dX6_tell_62 : decode cX6_tell 62 = .ok (.aload_n 0, 1) := by decide +kernel
theorem dX6_tell_63 : decode cX6_tell 63 = .ok (.invokevirtual 41, 3) := by decide +kernel
theorem dX6_tell_66 : decode cX6_tell 66 = .ok (.aload_n 0, 1) := by decide +kernel
theorem dX6_tell_67 : decode cX6_tell 67 = .ok (.getfield 22, 3) := by decide +kernel
theorem dX6_tell_70 : decode cX6_tell 70 = .ok (.iconst 1, 1) := by decide +kernel
theorem dX6_tell_71 : decode cX6_tell 71 = .ok (.iload_n 1, 1) := by decide +kernel
theorem dX6_tell_72 : decode cX6_tell 72 = .ok (.iload_n 2, 1) := by decide +kernel
theorem dX6_tell_73 : decode cX6_tell 73 = .ok (.iload_n 3, 1) := by decide +kernel
theorem dX6_tell_74 : decode cX6_tell 74 = .ok (.iload 4, 2) := by decide +kernel
theorem dX6_tell_76 : decode cX6_tell 76 = .ok (.invokevirtual 44, 3) := by decide +kernel
theorem dX6_tell_79 : decode cX6_tell 79 = .ok (.aload_n 0, 1) := by decide +kernel
theorem dX6_tell_80 : decode cX6_tell 80 = .ok (.getfield 10, 3) := by decide +kernel
theorem dX6_tell_83 : decode cX6_tell 83 = .ok (.iload_n 1, 1) := by decide +kernel
theorem dX6_tell_84 : decode cX6_tell 84 = .ok (.iload_n 2, 1) := by decide +kernel
theorem dX6_tell_85 : decode cX6_tell 85 = .ok (.iload_n 3, 1) := by decide +kernel
theorem dX6_tell_86 : decode cX6_tell 86 = .ok (.iload 4, 2) := by decide +kernel
theorem dX6_tell_88 : decode cX6_tell 88 = .ok (.invokevirtual 75, 3) := by decide +kernel
theorem dX6_tell_91 : decode cX6_tell 91 = .ok (.ireturn, 1) := by decide +kernel
theorem dX6_delete_0 : decode cX6_delete 0 = .ok (.aload_n 0, 1) := by decide +kernel
theorem dX6_delete_1 : decode cX6_delete 1 = .ok (.getfield 10, 3) := by decide +kernel
theorem dX6_delete_4 : decode cX6_delete 4 = .ok (.iload_n 1, 1) := by decide +kernel
theorem dX6_delete_5 : decode cX6_delete 5 = .ok (.iload_n 2, 1) := by decide +kernel
theorem dX6_delete_6 : decode cX6_delete 6 = .ok (.invokestatic 52, 3) := by decide +kernel
theorem dX6_delete_9 : decode cX6_delete 9 = .ok (.astore_n 3, 1) := by decide +kernel
theorem dX6_delete_10 : decode cX6_delete 10 = .ok (.aload_n 3, 1) := by decide +kernel
theorem dX6_delete_11 : decode cX6_delete 11 = .ok (.iload_n 1, 1) := by decide +kernel
theorem dX6_delete_12 : decode cX6_delete 12 = .ok (.invokestatic 79, 3) := by decide +kernel
theorem dX6_delete_15 : decode cX6_delete 15 = .ok (.aload_n 3, 1) := by decide +kernel
theorem dX6_delete_16 : decode cX6_delete 16 = .ok (.iload_n 1, 1) := by decide +kernel
theorem dX6_delete_17 : decode cX6_delete 17 = .ok (.invokevirtual 83, 3) := by decide +kernel
theorem dX6_delete_20 : decode cX6_delete 20 = .ok (.iconst 1, 1) := by decide +kernel
theorem dX6_delete_21 : decode cX6_delete 21 = .ok (.if_icmp .eq 13, 3) := by decide +kernel
theorem dX6_delete_24 : decode cX6_delete 24 = .ok (.new 34, 3) := by decide +kernel
theorem dX6_delete_27 : decode cX6_delete 27 = .ok (.dup, 1) := by decide +kernel
theorem dX6_delete_28 : decode cX6_delete 28 = .ok (.ldc 86, 2) := by decide +kernel
theorem dX6_delete_30 : decode cX6_delete 30 = .ok (.invokespecial 38, 3) := by decide +kernel
theorem dX6_delete_33 : decode cX6_delete 33 = .ok (.athrow, 1) := by decide +kernel
theorem dX6_delete_34 : decode cX6_delete 34 = .ok (.aload_n 0, 1) := by decide +kernel
theorem dX6_delete_35 : decode cX6_delete 35 = .ok (.invokevirtual 41, 3) := by decide +kernel
theorem dX6_delete_38 : decode cX6_delete 38 = .ok (.aload_n 0, 1) := by decide +kernel
theorem dX6_delete_39 : decode cX6_delete 39 = .ok (.getfield 22, 3) := by decide +kernel
theorem dX6_delete_42 : decode cX6_delete 42 = .ok (.iconst 2, 1) := by decide +kernel
theorem dX6_delete_43 : decode cX6_delete 43 = .ok (.iload_n 1, 1) := by decide +kernel
theorem dX6_delete_44 : decode cX6_delete 44 = .ok (.iload_n 2, 1) := by decide +kernel
theorem dX6_delete_45 : decode cX6_delete 45 = .ok (.iconst 0, 1) := by decide +kernel
theorem dX6_delete_46 : decode cX6_delete 46 = .ok (.iconst 0, 1) := by decide +kernel
theorem dX6_delete_47 : decode cX6_delete 47 = .ok (.invokevirtual 44, 3) := by decide +kernel
theorem dX6_delete_50 : decode cX6_delete 50 = .ok (.aload_n 0, 1) := by decide +kernel
theorem dX6_delete_51 : decode cX6_delete 51 = .ok (.getfield 10, 3) := by decide +kernel
theorem dX6_delete_54 : decode cX6_delete 54 = .ok (.iload_n 1, 1) := by decide +kernel
theorem dX6_delete_55 : decode cX6_delete 55 = .ok (.iload_n 2, 1) := by decide +kernel
theorem dX6_delete_56 : decode cX6_delete 56 = .ok (.invokevirtual 88, 3) := by decide +kernel
theorem dX6_delete_59 : decode cX6_delete 59 = .ok (.ireturn, 1) := by decide +kernel
theorem dX6_share_0 : decode cX6_share 0 = .ok (.aload_n 0, 1) := by decide +kernel
theorem dX6_share_1 : decode cX6_share 1 = .ok (.getfield 10, 3) := by decide +kernel
theorem dX6_share_4 : decode cX6_share 4 = .ok (.iload_n 1, 1) := by decide +kernel
theorem dX6_share_5 : decode cX6_share 5 = .ok (.iload_n 2, 1) := by decide +kernel
theorem dX6_share_6 : decode cX6_share 6 = .ok (.invokestatic 52, 3) := by decide +kernel
theorem dX6_share_9 : decode cX6_share 9 = .ok (.astore 5, 2) := by decide +kernel
theorem dX6_share_11 : decode cX6_share 11 = .ok (.iload_n 3, 1) := by decide +kernel
theorem dX6_share_12 : decode cX6_share 12 = .ok (.invokestatic 92, 3) := by decide +kernel
theorem dX6_share_15 : decode cX6_share 15 = .ok (.ifCond .ne 13, 3) := by decide +kernel
theorem dX6_share_18 : decode cX6_share 18 = .ok (.new 96, 3) := by decide +kernel
theorem dX6_share_21 : decode cX6_share 21 = .ok (.dup, 1) := by decide +kernel
theorem dX6_share_22 : decode cX6_share 22 = .ok (.ldc 98, 2) := by decide +kernel
theorem dX6_share_24 : decode cX6_share 24 = .ok (.invokespecial 100, 3) := by decide +kernel
theorem dX6_share_27 : decode cX6_share 27 = .ok (.athrow, 1) := by decide +kernel
theorem dX6_share_28 : decode cX6_share 28 = .ok (.iload 4, 2) := by decide +kernel
theorem dX6_share_30 : decode cX6_share 30 = .ok (.ifCond .lt 10, 3) := by decide +kernel
theorem dX6_share_33 : decode cX6_share 33 = .ok (.iload 4, 2) := by decide +kernel
theorem dX6_share_35 : decode cX6_share 35 = .ok (.bipush 15, 2) := by decide +kernel
theorem dX6_share_37 : decode cX6_share 37 = .ok (.if_icmp .le 13, 3) := by decide +kernel
theorem dX6_share_40 : decode cX6_share 40 = .ok (.new 59, 3) := by decide +kernel
theorem dX6_share_43 : decode cX6_share 43 = .ok (.dup, 1) := by decide +kernel
theorem dX6_share_44 : decode cX6_share 44 = .ok (.ldc 101, 2) := by decide +kernel
theorem dX6_share_46 : decode cX6_share 46 = .ok (.invokespecial 63, 3) := by decide +kernel
theorem dX6_share_49 : decode cX6_share 49 = .ok (.athrow, 1) := by decide +kernel
theorem dX6_share_50 : decode cX6_share 50 = .ok (.aload 5, 2) := by decide +kernel
theorem dX6_share_52 : decode cX6_share 52 = .ok (.iload_n 1, 1) := by decide +kernel
theorem dX6_share_53 : decode cX6_share 53 = .ok (.invokestatic 79, 3) := by decide +kernel
theorem dX6_share_56 : decode cX6_share 56 = .ok (.iload_n 3, 1) := by decide +kernel
theorem dX6_share_57 : decode cX6_share 57 = .ok (.aload 5, 2) := by decide +kernel
theorem dX6_share_59 : decode cX6_share 59 = .ok (.getfield 103, 3) := by decide +kernel
theorem dX6_share_62 : decode cX6_share 62 = .ok (.if_icmp .ne 13, 3) := by decide +kernel
theorem dX6_share_65 : decode cX6_share 65 = .ok (.new 34, 3) := by decide +kernel
theorem dX6_share_68 : decode cX6_share 68 = .ok (.dup, 1) := by decide +kernel
theorem dX6_share_69 : decode cX6_share 69 = .ok (.ldc 106, 2) := by decide +kernel
theorem dX6_share_71 : decode cX6_share 71 = .ok (.invokespecial 38, 3) := by decide +kernel
theorem dX6_share_74 : decode cX6_share 74 = .ok (.athrow, 1) := by decide +kernel
theorem dX6_share_75 : decode cX6_share 75 = .ok (.aload_n 0, 1) := by decide +kernel
theorem dX6_share_76 : decode cX6_share 76 = .ok (.invokevirtual 41, 3) := by decide +kernel
theorem dX6_share_79 : decode cX6_share 79 = .ok (.aload_n 0, 1) := by decide +kernel
theorem dX6_share_80 : decode cX6_share 80 = .ok (.getfield 22, 3) := by decide +kernel
theorem dX6_share_83 : decode cX6_share 83 = .ok (.iconst 3, 1) := by decide +kernel
theorem dX6_share_84 : decode cX6_share 84 = .ok (.iload_n 2, 1) := by decide +kernel
theorem dX6_share_85 : decode cX6_share 85 = .ok (.iload_n 3, 1) := by decide +kernel
theorem dX6_share_86 : decode cX6_share 86 = .ok (.iload 4, 2) := by decide +kernel
theorem dX6_share_88 : decode cX6_share 88 = .ok (.iconst 0, 1) := by decide +kernel
theorem dX6_share_89 : decode cX6_share 89 = .ok (.invokevirtual 44, 3) := by decide +kernel
theorem dX6_share_92 : decode cX6_share 92 = .ok (.aload_n 0, 1) := by decide +kernel
theorem dX6_share_93 : decode cX6_share 93 = .ok (.getfield 10, 3) := by decide +kernel
theorem dX6_share_96 : decode cX6_share 96 = .ok (.iload_n 2, 1) := by decide +kernel
theorem dX6_share_97 : decode cX6_share 97 = .ok (.iload_n 3, 1) := by decide +kernel
theorem dX6_share_98 : decode cX6_share 98 = .ok (.iload 4, 2) := by decide +kernel
theorem dX6_share_100 : decode cX6_share 100 = .ok (.invokevirtual 108, 3) := by decide +kernel
theorem dX6_share_103 : decode cX6_share 103 = .ok (.ireturn, 1) := by decide +kernel
theorem dX6_merge_0 : decode cX6_merge 0 = .ok (.iload_n 1, 1) := by decide +kernel
theorem dX6_merge_1 : decode cX6_merge 1 = .ok (.invokestatic 26, 3) := by decide +kernel
theorem dX6_merge_4 : decode cX6_merge 4 = .ok (.iload_n 2, 1) := by decide +kernel
theorem dX6_merge_5 : decode cX6_merge 5 = .ok (.invokestatic 26, 3) := by decide +kernel
theorem dX6_merge_8 : decode cX6_merge 8 = .ok (.iload_n 1, 1) := by decide +kernel
theorem dX6_merge_9 : decode cX6_merge 9 = .ok (.iload_n 2, 1) := by decide +kernel
theorem dX6_merge_10 : decode cX6_merge 10 = .ok (.if_icmp .ne 13, 3) := by decide +kernel
theorem dX6_merge_13 : decode cX6_merge 13 = .ok (.new 59, 3) := by decide +kernel
theorem dX6_merge_16 : decode cX6_merge 16 = .ok (.dup, 1) := by decide +kernel
theorem dX6_merge_17 : decode cX6_merge 17 = .ok (.ldc 112, 2) := by decide +kernel
theorem dX6_merge_19 : decode cX6_merge 19 = .ok (.invokespecial 63, 3) := by decide +kernel
theorem dX6_merge_22 : decode cX6_merge 22 = .ok (.athrow, 1) := by decide +kernel
theorem dX6_merge_23 : decode cX6_merge 23 = .ok (.aload_n 0, 1) := by decide +kernel
theorem dX6_merge_24 : decode cX6_merge 24 = .ok (.getfield 22, 3) := by decide +kernel
theorem dX6_merge_27 : decode cX6_merge 27 = .ok (.invokevirtual 114, 3) := by decide +kernel
theorem dX6_merge_30 : decode cX6_merge 30 = .ok (.ifCond .eq 5, 3) := by decide +kernel
theorem dX6_merge_33 : decode cX6_merge 33 = .ok (.iconst 0, 1) := by decide +kernel
theorem dX6_merge_34 : decode cX6_merge 34 = .ok (.ireturn, 1) := by decide +kernel
theorem dX6_merge_35 : decode cX6_merge 35 = .ok (.aload_n 0, 1) := by decide +kernel
theorem dX6_merge_36 : decode cX6_merge 36 = .ok (.getfield 22, 3) := by decide +kernel
theorem dX6_merge_39 : decode cX6_merge 39 = .ok (.iconst 4, 1) := by decide +kernel
theorem dX6_merge_40 : decode cX6_merge 40 = .ok (.iload_n 1, 1) := by decide +kernel
theorem dX6_merge_41 : decode cX6_merge 41 = .ok (.iload_n 2, 1) := by decide +kernel
theorem dX6_merge_42 : decode cX6_merge 42 = .ok (.iconst 0, 1) := by decide +kernel
theorem dX6_merge_43 : decode cX6_merge 43 = .ok (.iconst 0, 1) := by decide +kernel
theorem dX6_merge_44 : decode cX6_merge 44 = .ok (.invokevirtual 44, 3) := by decide +kernel
theorem dX6_merge_47 : decode cX6_merge 47 = .ok (.aload_n 0, 1) := by decide +kernel
theorem dX6_merge_48 : decode cX6_merge 48 = .ok (.getfield 10, 3) := by decide +kernel
theorem dX6_merge_51 : decode cX6_merge 51 = .ok (.iload_n 1, 1) := by decide +kernel
theorem dX6_merge_52 : decode cX6_merge 52 = .ok (.iload_n 2, 1) := by decide +kernel
theorem dX6_merge_53 : decode cX6_merge 53 = .ok (.invokevirtual 118, 3) := by decide +kernel
theorem dX6_merge_56 : decode cX6_merge 56 = .ok (.ireturn, 1) := by decide +kernel
theorem dX6_pass_0 : decode cX6_pass 0 = .ok (.iload_n 1, 1) := by decide +kernel
theorem dX6_pass_1 : decode cX6_pass 1 = .ok (.iconst 1, 1) := by decide +kernel
theorem dX6_pass_2 : decode cX6_pass 2 = .ok (.if_icmp .lt 9, 3) := by decide +kernel
theorem dX6_pass_5 : decode cX6_pass 5 = .ok (.iload_n 1, 1) := by decide +kernel
theorem dX6_pass_6 : decode cX6_pass 6 = .ok (.bipush 24, 2) := by decide +kernel
theorem dX6_pass_8 : decode cX6_pass 8 = .ok (.if_icmp .le 13, 3) := by decide +kernel
theorem dX6_pass_11 : decode cX6_pass 11 = .ok (.new 59, 3) := by decide +kernel
theorem dX6_pass_14 : decode cX6_pass 14 = .ok (.dup, 1) := by decide +kernel
theorem dX6_pass_15 : decode cX6_pass 15 = .ok (.ldc 121, 2) := by decide +kernel
theorem dX6_pass_17 : decode cX6_pass 17 = .ok (.invokespecial 63, 3) := by decide +kernel
theorem dX6_pass_20 : decode cX6_pass 20 = .ok (.athrow, 1) := by decide +kernel
theorem dX6_pass_21 : decode cX6_pass 21 = .ok (.aload_n 0, 1) := by decide +kernel
theorem dX6_pass_22 : decode cX6_pass 22 = .ok (.getfield 22, 3) := by decide +kernel
theorem dX6_pass_25 : decode cX6_pass 25 = .ok (.invokevirtual 114, 3) := by decide +kernel
theorem dX6_pass_28 : decode cX6_pass 28 = .ok (.ifCond .eq 5, 3) := by decide +kernel
theorem dX6_pass_31 : decode cX6_pass 31 = .ok (.iconst 0, 1) := by decide +kernel
theorem dX6_pass_32 : decode cX6_pass 32 = .ok (.ireturn, 1) := by decide +kernel
theorem dX6_pass_33 : decode cX6_pass 33 = .ok (.aload_n 0, 1) := by decide +kernel
theorem dX6_pass_34 : decode cX6_pass 34 = .ok (.getfield 22, 3) := by decide +kernel
theorem dX6_pass_37 : decode cX6_pass 37 = .ok (.iconst 5, 1) := by decide +kernel
theorem dX6_pass_38 : decode cX6_pass 38 = .ok (.iload_n 1, 1) := by decide +kernel
theorem dX6_pass_39 : decode cX6_pass 39 = .ok (.iconst 0, 1) := by decide +kernel
theorem dX6_pass_40 : decode cX6_pass 40 = .ok (.iconst 0, 1) := by decide +kernel
theorem dX6_pass_41 : decode cX6_pass 41 = .ok (.iconst 0, 1) := by decide +kernel
theorem dX6_pass_42 : decode cX6_pass 42 = .ok (.invokevirtual 44, 3) := by decide +kernel
theorem dX6_pass_45 : decode cX6_pass 45 = .ok (.aload_n 0, 1) := by decide +kernel
theorem dX6_pass_46 : decode cX6_pass 46 = .ok (.getfield 10, 3) := by decide +kernel
theorem dX6_pass_49 : decode cX6_pass 49 = .ok (.iload_n 1, 1) := by decide +kernel
theorem dX6_pass_50 : decode cX6_pass 50 = .ok (.invokevirtual 123, 3) := by decide +kernel
theorem dX6_pass_53 : decode cX6_pass 53 = .ok (.ireturn, 1) := by decide +kernel
theorem dX6_state_0 : decode cX6_state 0 = .ok (.iload_n 1, 1) := by decide +kernel
theorem dX6_state_1 : decode cX6_state 1 = .ok (.invokestatic 26, 3) := by decide +kernel
theorem dX6_state_4 : decode cX6_state 4 = .ok (.aload_n 0, 1) := by decide +kernel
theorem dX6_state_5 : decode cX6_state 5 = .ok (.getfield 10, 3) := by decide +kernel
theorem dX6_state_8 : decode cX6_state 8 = .ok (.iload_n 2, 1) := by decide +kernel
theorem dX6_state_9 : decode cX6_state 9 = .ok (.invokevirtual 126, 3) := by decide +kernel
theorem dX6_state_12 : decode cX6_state 12 = .ok (.astore_n 3, 1) := by decide +kernel
theorem dX6_state_13 : decode cX6_state 13 = .ok (.aload_n 3, 1) := by decide +kernel
theorem dX6_state_14 : decode cX6_state 14 = .ok (.ifnonnull 13, 3) := by decide +kernel
theorem dX6_state_17 : decode cX6_state 17 = .ok (.new 96, 3) := by decide +kernel
theorem dX6_state_20 : decode cX6_state 20 = .ok (.dup, 1) := by decide +kernel
theorem dX6_state_21 : decode cX6_state 21 = .ok (.ldc 130, 2) := by decide +kernel
theorem dX6_state_23 : decode cX6_state 23 = .ok (.invokespecial 100, 3) := by decide +kernel
theorem dX6_state_26 : decode cX6_state 26 = .ok (.athrow, 1) := by decide +kernel
theorem dX6_state_27 : decode cX6_state 27 = .ok (.aload_n 3, 1) := by decide +kernel
theorem dX6_state_28 : decode cX6_state 28 = .ok (.iload_n 1, 1) := by decide +kernel
theorem dX6_state_29 : decode cX6_state 29 = .ok (.invokevirtual 83, 3) := by decide +kernel
theorem dX6_state_32 : decode cX6_state 32 = .ok (.ireturn, 1) := by decide +kernel
theorem dX6_value_0 : decode cX6_value 0 = .ok (.aload_n 0, 1) := by decide +kernel
theorem dX6_value_1 : decode cX6_value 1 = .ok (.getfield 10, 3) := by decide +kernel
theorem dX6_value_4 : decode cX6_value 4 = .ok (.iload_n 1, 1) := by decide +kernel
theorem dX6_value_5 : decode cX6_value 5 = .ok (.iload_n 2, 1) := by decide +kernel
theorem dX6_value_6 : decode cX6_value 6 = .ok (.iload_n 3, 1) := by decide +kernel
theorem dX6_value_7 : decode cX6_value 7 = .ok (.iload 4, 2) := by decide +kernel
theorem dX6_value_9 : decode cX6_value 9 = .ok (.invokestatic 132, 3) := by decide +kernel
theorem dX6_value_12 : decode cX6_value 12 = .ok (.ireturn, 1) := by decide +kernel
theorem dX6_valueAnew_0 : decode cX6_valueAnew 0 = .ok (.aload_n 0, 1) := by decide +kernel
theorem dX6_valueAnew_1 : decode cX6_valueAnew 1 = .ok (.getfield 16, 3) := by decide +kernel
theorem dX6_valueAnew_4 : decode cX6_valueAnew 4 = .ok (.invokevirtual 136, 3) := by decide +kernel
theorem dX6_valueAnew_7 : decode cX6_valueAnew 7 = .ok (.aload_n 0, 1) := by decide +kernel
theorem dX6_valueAnew_8 : decode cX6_valueAnew 8 = .ok (.getfield 22, 3) := by decide +kernel
theorem dX6_valueAnew_11 : decode cX6_valueAnew 11 = .ok (.aload_n 0, 1) := by decide +kernel
theorem dX6_valueAnew_12 : decode cX6_valueAnew 12 = .ok (.getfield 16, 3) := by decide +kernel
theorem dX6_valueAnew_15 : decode cX6_valueAnew 15 = .ok (.invokevirtual 139, 3) := by decide +kernel
theorem dX6_valueAnew_18 : decode cX6_valueAnew 18 = .ok (.aload_n 0, 1) := by decide +kernel
theorem dX6_valueAnew_19 : decode cX6_valueAnew 19 = .ok (.getfield 16, 3) := by decide +kernel
theorem dX6_valueAnew_22 : decode cX6_valueAnew 22 = .ok (.iload_n 1, 1) := by decide +kernel
theorem dX6_valueAnew_23 : decode cX6_valueAnew 23 = .ok (.iload_n 2, 1) := by decide +kernel
theorem dX6_valueAnew_24 : decode cX6_valueAnew 24 = .ok (.iload_n 3, 1) := by decide +kernel
theorem dX6_valueAnew_25 : decode cX6_valueAnew 25 = .ok (.iload 4, 2) := by decide +kernel
theorem dX6_valueAnew_27 : decode cX6_valueAnew 27 = .ok (.invokestatic 132, 3) := by decide +kernel
theorem dX6_valueAnew_30 : decode cX6_valueAnew 30 = .ok (.ireturn, 1) := by decide +kernel
theorem dX6_values_0 : decode cX6_values 0 = .ok (.aload_n 0, 1) := by decide +kernel
theorem dX6_values_1 : decode cX6_values 1 = .ok (.getfield 10, 3) := by decide +kernel
theorem dX6_values_4 : decode cX6_values 4 = .ok (.iload_n 1, 1) := by decide +kernel
theorem dX6_values_5 : decode cX6_values 5 = .ok (.iload_n 2, 1) := by decide +kernel
theorem dX6_values_6 : decode cX6_values 6 = .ok (.invokestatic 52, 3) := by decide +kernel
theorem dX6_values_9 : decode cX6_values 9 = .ok (.astore 4, 2) := by decide +kernel
theorem dX6_values_11 : decode cX6_values 11 = .ok (.iload_n 3, 1) := by decide +kernel
theorem dX6_values_12 : decode cX6_values 12 = .ok (.invokestatic 56, 3) := by decide +kernel
theorem dX6_values_15 : decode cX6_values 15 = .ok (.aload 4, 2) := by decide +kernel
theorem dX6_values_17 : decode cX6_values 17 = .ok (.getfield 143, 3) := by decide +kernel
theorem dX6_values_20 : decode cX6_values 20 = .ok (.iload_n 1, 1) := by decide +kernel
theorem dX6_values_21 : decode cX6_values 21 = .ok (.aaload, 1) := by decide +kernel
theorem dX6_values_22 : decode cX6_values 22 = .ok (.iload_n 3, 1) := by decide +kernel
theorem dX6_values_23 : decode cX6_values 23 = .ok (.invokevirtual 147, 3) := by decide +kernel
theorem dX6_values_26 : decode cX6_values 26 = .ok (.ireturn, 1) := by decide +kernel
theorem dX6_seen_0 : decode cX6_seen 0 = .ok (.aload_n 0, 1) := by decide +kernel
theorem dX6_seen_1 : decode cX6_seen 1 = .ok (.getfield 10, 3) := by decide +kernel
theorem dX6_seen_4 : decode cX6_seen 4 = .ok (.iload_n 1, 1) := by decide +kernel
theorem dX6_seen_5 : decode cX6_seen 5 = .ok (.iload_n 2, 1) := by decide +kernel
theorem dX6_seen_6 : decode cX6_seen 6 = .ok (.invokestatic 52, 3) := by decide +kernel
theorem dX6_seen_9 : decode cX6_seen 9 = .ok (.astore 5, 2) := by decide +kernel
theorem dX6_seen_11 : decode cX6_seen 11 = .ok (.iload_n 3, 1) := by decide +kernel
theorem dX6_seen_12 : decode cX6_seen 12 = .ok (.invokestatic 56, 3) := by decide +kernel
theorem dX6_seen_15 : decode cX6_seen 15 = .ok (.iload 4, 2) := by decide +kernel
theorem dX6_seen_17 : decode cX6_seen 17 = .ok (.invokestatic 26, 3) := by decide +kernel
theorem dX6_seen_20 : decode cX6_seen 20 = .ok (.aload 5, 2) := by decide +kernel
theorem dX6_seen_22 : decode cX6_seen 22 = .ok (.getfield 143, 3) := by decide +kernel
theorem dX6_seen_25 : decode cX6_seen 25 = .ok (.iload_n 1, 1) := by decide +kernel
theorem dX6_seen_26 : decode cX6_seen 26 = .ok (.aaload, 1) := by decide +kernel
theorem dX6_seen_27 : decode cX6_seen 27 = .ok (.getfield 152, 3) := by decide +kernel
theorem dX6_seen_30 : decode cX6_seen 30 = .ok (.getfield 156, 3) := by decide +kernel
theorem dX6_seen_33 : decode cX6_seen 33 = .ok (.iload_n 3, 1) := by decide +kernel
theorem dX6_seen_34 : decode cX6_seen 34 = .ok (.iload 4, 2) := by decide +kernel
theorem dX6_seen_36 : decode cX6_seen 36 = .ok (.invokestatic 162, 3) := by decide +kernel
theorem dX6_seen_39 : decode cX6_seen 39 = .ok (.iaload, 1) := by decide +kernel
theorem dX6_seen_40 : decode cX6_seen 40 = .ok (.ireturn, 1) := by decide +kernel
theorem dX6_marks_0 : decode cX6_marks 0 = .ok (.aload_n 0, 1) := by decide +kernel
theorem dX6_marks_1 : decode cX6_marks 1 = .ok (.getfield 10, 3) := by decide +kernel
theorem dX6_marks_4 : decode cX6_marks 4 = .ok (.iload_n 1, 1) := by decide +kernel
theorem dX6_marks_5 : decode cX6_marks 5 = .ok (.iload_n 2, 1) := by decide +kernel
theorem dX6_marks_6 : decode cX6_marks 6 = .ok (.invokestatic 52, 3) := by decide +kernel
theorem dX6_marks_9 : decode cX6_marks 9 = .ok (.astore_n 3, 1) := by decide +kernel
theorem dX6_marks_10 : decode cX6_marks 10 = .ok (.aload_n 3, 1) := by decide +kernel
theorem dX6_marks_11 : decode cX6_marks 11 = .ok (.iload_n 1, 1) := by decide +kernel
theorem dX6_marks_12 : decode cX6_marks 12 = .ok (.invokevirtual 165, 3) := by decide +kernel
theorem dX6_marks_15 : decode cX6_marks 15 = .ok (.istore 4, 2) := by decide +kernel
theorem dX6_marks_17 : decode cX6_marks 17 = .ok (.iload 4, 2) := by decide +kernel
theorem dX6_marks_19 : decode cX6_marks 19 = .ok (.ifCond .ne 5, 3) := by decide +kernel
theorem dX6_marks_22 : decode cX6_marks 22 = .ok (.iconst 0, 1) := by decide +kernel
theorem dX6_marks_23 : decode cX6_marks 23 = .ok (.ireturn, 1) := by decide +kernel
theorem dX6_marks_24 : decode cX6_marks 24 = .ok (.aload_n 0, 1) := by decide +kernel
theorem dX6_marks_25 : decode cX6_marks 25 = .ok (.getfield 10, 3) := by decide +kernel
theorem dX6_marks_28 : decode cX6_marks 28 = .ok (.getfield 168, 3) := by decide +kernel
theorem dX6_marks_31 : decode cX6_marks 31 = .ok (.aload_n 3, 1) := by decide +kernel
theorem dX6_marks_32 : decode cX6_marks 32 = .ok (.iload_n 1, 1) := by decide +kernel
theorem dX6_marks_33 : decode cX6_marks 33 = .ok (.invokevirtual 171, 3) := by decide +kernel
theorem dX6_marks_36 : decode cX6_marks 36 = .ok (.isub, 1) := by decide +kernel
theorem dX6_marks_37 : decode cX6_marks 37 = .ok (.istore 5, 2) := by decide +kernel
theorem dX6_marks_39 : decode cX6_marks 39 = .ok (.bipush 100, 2) := by decide +kernel
theorem dX6_marks_41 : decode cX6_marks 41 = .ok (.iload 4, 2) := by decide +kernel
theorem dX6_marks_43 : decode cX6_marks 43 = .ok (.imul, 1) := by decide +kernel
theorem dX6_marks_44 : decode cX6_marks 44 = .ok (.bipush 99, 2) := by decide +kernel
theorem dX6_marks_46 : decode cX6_marks 46 = .ok (.iload 5, 2) := by decide +kernel
theorem dX6_marks_48 : decode cX6_marks 48 = .ok (.invokestatic 174, 3) := by decide +kernel
theorem dX6_marks_51 : decode cX6_marks 51 = .ok (.iadd, 1) := by decide +kernel
theorem dX6_marks_52 : decode cX6_marks 52 = .ok (.ireturn, 1) := by decide +kernel
theorem dX6_clashes_0 : decode cX6_clashes 0 = .ok (.iload_n 1, 1) := by decide +kernel
theorem dX6_clashes_1 : decode cX6_clashes 1 = .ok (.invokestatic 26, 3) := by decide +kernel
theorem dX6_clashes_4 : decode cX6_clashes 4 = .ok (.aload_n 0, 1) := by decide +kernel
theorem dX6_clashes_5 : decode cX6_clashes 5 = .ok (.getfield 10, 3) := by decide +kernel
theorem dX6_clashes_8 : decode cX6_clashes 8 = .ok (.iload_n 1, 1) := by decide +kernel
theorem dX6_clashes_9 : decode cX6_clashes 9 = .ok (.invokevirtual 179, 3) := by decide +kernel
theorem dX6_clashes_12 : decode cX6_clashes 12 = .ok (.ireturn, 1) := by decide +kernel
theorem dX6_agreement_0 : decode cX6_agreement 0 = .ok (.iload_n 1, 1) := by decide +kernel
theorem dX6_agreement_1 : decode cX6_agreement 1 = .ok (.invokestatic 26, 3) := by decide +kernel
theorem dX6_agreement_4 : decode cX6_agreement 4 = .ok (.iload_n 2, 1) := by decide +kernel
theorem dX6_agreement_5 : decode cX6_agreement 5 = .ok (.invokestatic 26, 3) := by decide +kernel
theorem dX6_agreement_8 : decode cX6_agreement 8 = .ok (.aload_n 0, 1) := by decide +kernel
theorem dX6_agreement_9 : decode cX6_agreement 9 = .ok (.getfield 10, 3) := by decide +kernel
theorem dX6_agreement_12 : decode cX6_agreement 12 = .ok (.iload_n 1, 1) := by decide +kernel
theorem dX6_agreement_13 : decode cX6_agreement 13 = .ok (.iload_n 2, 1) := by decide +kernel
theorem dX6_agreement_14 : decode cX6_agreement 14 = .ok (.invokevirtual 182, 3) := by decide +kernel
theorem dX6_agreement_17 : decode cX6_agreement 17 = .ok (.istore_n 3, 1) := by decide +kernel
theorem dX6_agreement_18 : decode cX6_agreement 18 = .ok (.iload_n 3, 1) := by decide +kernel
theorem dX6_agreement_19 : decode cX6_agreement 19 = .ok (.ifCond .ne 5, 3) := by decide +kernel
theorem dX6_agreement_22 : decode cX6_agreement 22 = .ok (.fconst 1, 1) := by decide +kernel
theorem dX6_agreement_23 : decode cX6_agreement 23 = .ok (.freturn, 1) := by decide +kernel
theorem dX6_agreement_24 : decode cX6_agreement 24 = .ok (.aload_n 0, 1) := by decide +kernel
theorem dX6_agreement_25 : decode cX6_agreement 25 = .ok (.getfield 10, 3) := by decide +kernel
theorem dX6_agreement_28 : decode cX6_agreement 28 = .ok (.iload_n 1, 1) := by decide +kernel
theorem dX6_agreement_29 : decode cX6_agreement 29 = .ok (.iload_n 2, 1) := by decide +kernel
theorem dX6_agreement_30 : decode cX6_agreement 30 = .ok (.invokevirtual 185, 3) := by decide +kernel
theorem dX6_agreement_33 : decode cX6_agreement 33 = .ok (.i2f, 1) := by decide +kernel
theorem dX6_agreement_34 : decode cX6_agreement 34 = .ok (.iload_n 3, 1) := by decide +kernel
theorem dX6_agreement_35 : decode cX6_agreement 35 = .ok (.i2f, 1) := by decide +kernel
theorem dX6_agreement_36 : decode cX6_agreement 36 = .ok (.fdiv, 1) := by decide +kernel
theorem dX6_agreement_37 : decode cX6_agreement 37 = .ok (.freturn, 1) := by decide +kernel
theorem dX6_requireDevice_0 : decode cX6_requireDevice 0 = .ok (.iload_n 0, 1) := by decide +kernel
theorem dX6_requireDevice_1 : decode cX6_requireDevice 1 = .ok (.invokestatic 188, 3) := by decide +kernel
theorem dX6_requireDevice_4 : decode cX6_requireDevice 4 = .ok (.ifCond .ne 13, 3) := by decide +kernel
theorem dX6_requireDevice_7 : decode cX6_requireDevice 7 = .ok (.new 96, 3) := by decide +kernel
theorem dX6_requireDevice_10 : decode cX6_requireDevice 10 = .ok (.dup, 1) := by decide +kernel
theorem dX6_requireDevice_11 : decode cX6_requireDevice 11 = .ok (.ldc 191, 2) := by decide +kernel
theorem dX6_requireDevice_13 : decode cX6_requireDevice 13 = .ok (.invokespecial 100, 3) := by decide +kernel
theorem dX6_requireDevice_16 : decode cX6_requireDevice 16 = .ok (.athrow, 1) := by decide +kernel
theorem dX6_requireDevice_17 : decode cX6_requireDevice 17 = .ok (.return_, 1) := by decide +kernel
theorem dX6_requireField_0 : decode cX6_requireField 0 = .ok (.iload_n 0, 1) := by decide +kernel
theorem dX6_requireField_1 : decode cX6_requireField 1 = .ok (.invokestatic 193, 3) := by decide +kernel
theorem dX6_requireField_4 : decode cX6_requireField 4 = .ok (.ifCond .ne 13, 3) := by decide +kernel
theorem dX6_requireField_7 : decode cX6_requireField 7 = .ok (.new 96, 3) := by decide +kernel
theorem dX6_requireField_10 : decode cX6_requireField 10 = .ok (.dup, 1) := by decide +kernel
theorem dX6_requireField_11 : decode cX6_requireField 11 = .ok (.ldc 196, 2) := by decide +kernel
theorem dX6_requireField_13 : decode cX6_requireField 13 = .ok (.invokespecial 100, 3) := by decide +kernel
theorem dX6_requireField_16 : decode cX6_requireField 16 = .ok (.athrow, 1) := by decide +kernel
theorem dX6_requireField_17 : decode cX6_requireField 17 = .ok (.return_, 1) := by decide +kernel
theorem dX6_requireOwner_0 : decode cX6_requireOwner 0 = .ok (.aload_n 0, 1) := by decide +kernel
theorem dX6_requireOwner_1 : decode cX6_requireOwner 1 = .ok (.getfield 103, 3) := by decide +kernel
theorem dX6_requireOwner_4 : decode cX6_requireOwner 4 = .ok (.iload_n 1, 1) := by decide +kernel
theorem dX6_requireOwner_5 : decode cX6_requireOwner 5 = .ok (.invokestatic 198, 3) := by decide +kernel
theorem dX6_requireOwner_8 : decode cX6_requireOwner 8 = .ok (.if_icmp .eq 13, 3) := by decide +kernel
theorem dX6_requireOwner_11 : decode cX6_requireOwner 11 = .ok (.new 34, 3) := by decide +kernel
theorem dX6_requireOwner_14 : decode cX6_requireOwner 14 = .ok (.dup, 1) := by decide +kernel
theorem dX6_requireOwner_15 : decode cX6_requireOwner 15 = .ok (.ldc 201, 2) := by decide +kernel
theorem dX6_requireOwner_17 : decode cX6_requireOwner 17 = .ok (.invokespecial 38, 3) := by decide +kernel
theorem dX6_requireOwner_20 : decode cX6_requireOwner 20 = .ok (.athrow, 1) := by decide +kernel
theorem dX6_requireOwner_21 : decode cX6_requireOwner 21 = .ok (.return_, 1) := by decide +kernel
theorem dX6_requireRoomInJournal_0 : decode cX6_requireRoomInJournal 0 = .ok (.aload_n 0, 1) := by decide +kernel
theorem dX6_requireRoomInJournal_1 : decode cX6_requireRoomInJournal 1 = .ok (.getfield 22, 3) := by decide +kernel
theorem dX6_requireRoomInJournal_4 : decode cX6_requireRoomInJournal 4 = .ok (.invokevirtual 114, 3) := by decide +kernel
theorem dX6_requireRoomInJournal_7 : decode cX6_requireRoomInJournal 7 = .ok (.ifCond .eq 13, 3) := by decide +kernel
theorem dX6_requireRoomInJournal_10 : decode cX6_requireRoomInJournal 10 = .ok (.new 34, 3) := by decide +kernel
theorem dX6_requireRoomInJournal_13 : decode cX6_requireRoomInJournal 13 = .ok (.dup, 1) := by decide +kernel
theorem dX6_requireRoomInJournal_14 : decode cX6_requireRoomInJournal 14 = .ok (.ldc 203, 2) := by decide +kernel
theorem dX6_requireRoomInJournal_16 : decode cX6_requireRoomInJournal 16 = .ok (.invokespecial 38, 3) := by decide +kernel
theorem dX6_requireRoomInJournal_19 : decode cX6_requireRoomInJournal 19 = .ok (.athrow, 1) := by decide +kernel
theorem dX6_requireRoomInJournal_20 : decode cX6_requireRoomInJournal 20 = .ok (.return_, 1) := by decide +kernel
theorem dX6_knownEntry_0 : decode cX6_knownEntry 0 = .ok (.iload_n 1, 1) := by decide +kernel
theorem dX6_knownEntry_1 : decode cX6_knownEntry 1 = .ok (.invokestatic 26, 3) := by decide +kernel
theorem dX6_knownEntry_4 : decode cX6_knownEntry 4 = .ok (.aload_n 0, 1) := by decide +kernel
theorem dX6_knownEntry_5 : decode cX6_knownEntry 5 = .ok (.iload_n 2, 1) := by decide +kernel
theorem dX6_knownEntry_6 : decode cX6_knownEntry 6 = .ok (.invokevirtual 126, 3) := by decide +kernel
theorem dX6_knownEntry_9 : decode cX6_knownEntry 9 = .ok (.astore_n 3, 1) := by decide +kernel
theorem dX6_knownEntry_10 : decode cX6_knownEntry 10 = .ok (.aload_n 3, 1) := by decide +kernel
theorem dX6_knownEntry_11 : decode cX6_knownEntry 11 = .ok (.ifnull 15, 3) := by decide +kernel
theorem dX6_knownEntry_14 : decode cX6_knownEntry 14 = .ok (.aload_n 3, 1) := by decide +kernel
theorem dX6_knownEntry_15 : decode cX6_knownEntry 15 = .ok (.getfield 143, 3) := by decide +kernel
theorem dX6_knownEntry_18 : decode cX6_knownEntry 18 = .ok (.iload_n 1, 1) := by decide +kernel
theorem dX6_knownEntry_19 : decode cX6_knownEntry 19 = .ok (.aaload, 1) := by decide +kernel
theorem dX6_knownEntry_20 : decode cX6_knownEntry 20 = .ok (.getfield 205, 3) := by decide +kernel
theorem dX6_knownEntry_23 : decode cX6_knownEntry 23 = .ok (.ifCond .ne 13, 3) := by decide +kernel
theorem dX6_knownEntry_26 : decode cX6_knownEntry 26 = .ok (.new 96, 3) := by decide +kernel
theorem dX6_knownEntry_29 : decode cX6_knownEntry 29 = .ok (.dup, 1) := by decide +kernel
theorem dX6_knownEntry_30 : decode cX6_knownEntry 30 = .ok (.ldc 209, 2) := by decide +kernel
theorem dX6_knownEntry_32 : decode cX6_knownEntry 32 = .ok (.invokespecial 100, 3) := by decide +kernel
theorem dX6_knownEntry_35 : decode cX6_knownEntry 35 = .ok (.athrow, 1) := by decide +kernel
theorem dX6_knownEntry_36 : decode cX6_knownEntry 36 = .ok (.aload_n 3, 1) := by decide +kernel
theorem dX6_knownEntry_37 : decode cX6_knownEntry 37 = .ok (.areturn, 1) := by decide +kernel
theorem dX6_valueIn_0 : decode cX6_valueIn 0 = .ok (.aload_n 0, 1) := by decide +kernel
theorem dX6_valueIn_1 : decode cX6_valueIn 1 = .ok (.iload_n 1, 1) := by decide +kernel
theorem dX6_valueIn_2 : decode cX6_valueIn 2 = .ok (.iload_n 2, 1) := by decide +kernel
theorem dX6_valueIn_3 : decode cX6_valueIn 3 = .ok (.invokestatic 52, 3) := by decide +kernel
theorem dX6_valueIn_6 : decode cX6_valueIn 6 = .ok (.astore 5, 2) := by decide +kernel
theorem dX6_valueIn_8 : decode cX6_valueIn 8 = .ok (.iload_n 3, 1) := by decide +kernel
theorem dX6_valueIn_9 : decode cX6_valueIn 9 = .ok (.invokestatic 56, 3) := by decide +kernel
theorem dX6_valueIn_12 : decode cX6_valueIn 12 = .ok (.aload 5, 2) := by decide +kernel
theorem dX6_valueIn_14 : decode cX6_valueIn 14 = .ok (.getfield 143, 3) := by decide +kernel
theorem dX6_valueIn_17 : decode cX6_valueIn 17 = .ok (.iload_n 1, 1) := by decide +kernel
theorem dX6_valueIn_18 : decode cX6_valueIn 18 = .ok (.aaload, 1) := by decide +kernel
theorem dX6_valueIn_19 : decode cX6_valueIn 19 = .ok (.astore 6, 2) := by decide +kernel
theorem dX6_valueIn_21 : decode cX6_valueIn 21 = .ok (.iload 4, 2) := by decide +kernel
theorem dX6_valueIn_23 : decode cX6_valueIn 23 = .ok (.ifCond .lt 14, 3) := by decide +kernel
theorem dX6_valueIn_26 : decode cX6_valueIn 26 = .ok (.iload 4, 2) := by decide +kernel
theorem dX6_valueIn_28 : decode cX6_valueIn 28 = .ok (.aload 6, 2) := by decide +kernel
theorem dX6_valueIn_30 : decode cX6_valueIn 30 = .ok (.iload_n 3, 1) := by decide +kernel
theorem dX6_valueIn_31 : decode cX6_valueIn 31 = .ok (.invokevirtual 147, 3) := by decide +kernel
theorem dX6_valueIn_34 : decode cX6_valueIn 34 = .ok (.if_icmp .lt 13, 3) := by decide +kernel
theorem dX6_valueIn_37 : decode cX6_valueIn 37 = .ok (.new 96, 3) := by decide +kernel
theorem dX6_valueIn_40 : decode cX6_valueIn 40 = .ok (.dup, 1) := by decide +kernel
theorem dX6_valueIn_41 : decode cX6_valueIn 41 = .ok (.ldc 211, 2) := by decide +kernel
theorem dX6_valueIn_43 : decode cX6_valueIn 43 = .ok (.invokespecial 100, 3) := by decide +kernel
theorem dX6_valueIn_46 : decode cX6_valueIn 46 = .ok (.athrow, 1) := by decide +kernel
theorem dX6_valueIn_47 : decode cX6_valueIn 47 = .ok (.aload 6, 2) := by decide +kernel
theorem dX6_valueIn_49 : decode cX6_valueIn 49 = .ok (.iload_n 3, 1) := by decide +kernel
theorem dX6_valueIn_50 : decode cX6_valueIn 50 = .ok (.iload 4, 2) := by decide +kernel
theorem dX6_valueIn_52 : decode cX6_valueIn 52 = .ok (.invokevirtual 213, 3) := by decide +kernel
theorem dX6_valueIn_55 : decode cX6_valueIn 55 = .ok (.ireturn, 1) := by decide +kernel
theorem dX6_isDevice_0 : decode cX6_isDevice 0 = .ok (.iload_n 0, 1) := by decide +kernel
theorem dX6_isDevice_1 : decode cX6_isDevice 1 = .ok (.ifCond .lt 13, 3) := by decide +kernel
theorem dX6_isDevice_4 : decode cX6_isDevice 4 = .ok (.iload_n 0, 1) := by decide +kernel
theorem dX6_isDevice_5 : decode cX6_isDevice 5 = .ok (.bipush 6, 2) := by decide +kernel
theorem dX6_isDevice_7 : decode cX6_isDevice 7 = .ok (.if_icmp .ge 7, 3) := by decide +kernel
theorem dX6_isDevice_10 : decode cX6_isDevice 10 = .ok (.iconst 1, 1) := by decide +kernel
theorem dX6_isDevice_11 : decode cX6_isDevice 11 = .ok (.goto 4, 3) := by decide +kernel
theorem dX6_isDevice_14 : decode cX6_isDevice 14 = .ok (.iconst 0, 1) := by decide +kernel
theorem dX6_isDevice_15 : decode cX6_isDevice 15 = .ok (.ireturn, 1) := by decide +kernel
theorem dX6_isPerson_0 : decode cX6_isPerson 0 = .ok (.iload_n 0, 1) := by decide +kernel
theorem dX6_isPerson_1 : decode cX6_isPerson 1 = .ok (.ifCond .lt 12, 3) := by decide +kernel
theorem dX6_isPerson_4 : decode cX6_isPerson 4 = .ok (.iload_n 0, 1) := by decide +kernel
theorem dX6_isPerson_5 : decode cX6_isPerson 5 = .ok (.iconst 3, 1) := by decide +kernel
theorem dX6_isPerson_6 : decode cX6_isPerson 6 = .ok (.if_icmp .ge 7, 3) := by decide +kernel
theorem dX6_isPerson_9 : decode cX6_isPerson 9 = .ok (.iconst 1, 1) := by decide +kernel
theorem dX6_isPerson_10 : decode cX6_isPerson 10 = .ok (.goto 4, 3) := by decide +kernel
theorem dX6_isPerson_13 : decode cX6_isPerson 13 = .ok (.iconst 0, 1) := by decide +kernel
theorem dX6_isPerson_14 : decode cX6_isPerson 14 = .ok (.ireturn, 1) := by decide +kernel
theorem dX6_isField_0 : decode cX6_isField 0 = .ok (.iload_n 0, 1) := by decide +kernel
theorem dX6_isField_1 : decode cX6_isField 1 = .ok (.ifCond .lt 12, 3) := by decide +kernel
theorem dX6_isField_4 : decode cX6_isField 4 = .ok (.iload_n 0, 1) := by decide +kernel
theorem dX6_isField_5 : decode cX6_isField 5 = .ok (.iconst 4, 1) := by decide +kernel
theorem dX6_isField_6 : decode cX6_isField 6 = .ok (.if_icmp .ge 7, 3) := by decide +kernel
theorem dX6_isField_9 : decode cX6_isField 9 = .ok (.iconst 1, 1) := by decide +kernel
theorem dX6_isField_10 : decode cX6_isField 10 = .ok (.goto 4, 3) := by decide +kernel
theorem dX6_isField_13 : decode cX6_isField 13 = .ok (.iconst 0, 1) := by decide +kernel
theorem dX6_isField_14 : decode cX6_isField 14 = .ok (.ireturn, 1) := by decide +kernel
theorem dX6_personOf_0 : decode cX6_personOf 0 = .ok (.iload_n 0, 1) := by decide +kernel
theorem dX6_personOf_1 : decode cX6_personOf 1 = .ok (.iconst 2, 1) := by decide +kernel
theorem dX6_personOf_2 : decode cX6_personOf 2 = .ok (.idiv, 1) := by decide +kernel
theorem dX6_personOf_3 : decode cX6_personOf 3 = .ok (.ireturn, 1) := by decide +kernel
theorem dX6_cell_0 : decode cX6_cell 0 = .ok (.iload_n 0, 1) := by decide +kernel
theorem dX6_cell_1 : decode cX6_cell 1 = .ok (.bipush 6, 2) := by decide +kernel
theorem dX6_cell_3 : decode cX6_cell 3 = .ok (.imul, 1) := by decide +kernel
theorem dX6_cell_4 : decode cX6_cell 4 = .ok (.iload_n 1, 1) := by decide +kernel
theorem dX6_cell_5 : decode cX6_cell 5 = .ok (.iadd, 1) := by decide +kernel
theorem dX6_cell_6 : decode cX6_cell 6 = .ok (.ireturn, 1) := by decide +kernel
theorem dX6_contains_0 : decode cX6_contains 0 = .ok (.iload_n 0, 1) := by decide +kernel
theorem dX6_contains_1 : decode cX6_contains 1 = .ok (.iload_n 1, 1) := by decide +kernel
theorem dX6_contains_2 : decode cX6_contains 2 = .ok (.ishr, 1) := by decide +kernel
theorem dX6_contains_3 : decode cX6_contains 3 = .ok (.iconst 1, 1) := by decide +kernel
theorem dX6_contains_4 : decode cX6_contains 4 = .ok (.iand, 1) := by decide +kernel
theorem dX6_contains_5 : decode cX6_contains 5 = .ok (.ifCond .eq 7, 3) := by decide +kernel
theorem dX6_contains_8 : decode cX6_contains 8 = .ok (.iconst 1, 1) := by decide +kernel
theorem dX6_contains_9 : decode cX6_contains 9 = .ok (.goto 4, 3) := by decide +kernel
theorem dX6_contains_12 : decode cX6_contains 12 = .ok (.iconst 0, 1) := by decide +kernel
theorem dX6_contains_13 : decode cX6_contains 13 = .ok (.ireturn, 1) := by decide +kernel
theorem dJ6_bitCount_0f7a4_0 : decode cJ6_bitCount_0f7a4 0 = .ok (.iload_n 0, 1) := by decide +kernel
theorem dJ6_bitCount_0f7a4_1 : decode cJ6_bitCount_0f7a4 1 = .ok (.iload_n 0, 1) := by decide +kernel
theorem dJ6_bitCount_0f7a4_2 : decode cJ6_bitCount_0f7a4 2 = .ok (.iconst 1, 1) := by decide +kernel
theorem dJ6_bitCount_0f7a4_3 : decode cJ6_bitCount_0f7a4 3 = .ok (.iushr, 1) := by decide +kernel
theorem dJ6_bitCount_0f7a4_4 : decode cJ6_bitCount_0f7a4 4 = .ok (.ldc_w 265, 3) := by decide +kernel
theorem dJ6_bitCount_0f7a4_7 : decode cJ6_bitCount_0f7a4 7 = .ok (.iand, 1) := by decide +kernel
theorem dJ6_bitCount_0f7a4_8 : decode cJ6_bitCount_0f7a4 8 = .ok (.isub, 1) := by decide +kernel
theorem dJ6_bitCount_0f7a4_9 : decode cJ6_bitCount_0f7a4 9 = .ok (.istore_n 0, 1) := by decide +kernel
theorem dJ6_bitCount_0f7a4_10 : decode cJ6_bitCount_0f7a4 10 = .ok (.iload_n 0, 1) := by decide +kernel
theorem dJ6_bitCount_0f7a4_11 : decode cJ6_bitCount_0f7a4 11 = .ok (.ldc_w 266, 3) := by decide +kernel
theorem dJ6_bitCount_0f7a4_14 : decode cJ6_bitCount_0f7a4 14 = .ok (.iand, 1) := by decide +kernel
theorem dJ6_bitCount_0f7a4_15 : decode cJ6_bitCount_0f7a4 15 = .ok (.iload_n 0, 1) := by decide +kernel
theorem dJ6_bitCount_0f7a4_16 : decode cJ6_bitCount_0f7a4 16 = .ok (.iconst 2, 1) := by decide +kernel
theorem dJ6_bitCount_0f7a4_17 : decode cJ6_bitCount_0f7a4 17 = .ok (.iushr, 1) := by decide +kernel
theorem dJ6_bitCount_0f7a4_18 : decode cJ6_bitCount_0f7a4 18 = .ok (.ldc_w 266, 3) := by decide +kernel
theorem dJ6_bitCount_0f7a4_21 : decode cJ6_bitCount_0f7a4 21 = .ok (.iand, 1) := by decide +kernel
theorem dJ6_bitCount_0f7a4_22 : decode cJ6_bitCount_0f7a4 22 = .ok (.iadd, 1) := by decide +kernel
theorem dJ6_bitCount_0f7a4_23 : decode cJ6_bitCount_0f7a4 23 = .ok (.istore_n 0, 1) := by decide +kernel
theorem dJ6_bitCount_0f7a4_24 : decode cJ6_bitCount_0f7a4 24 = .ok (.iload_n 0, 1) := by decide +kernel
theorem dJ6_bitCount_0f7a4_25 : decode cJ6_bitCount_0f7a4 25 = .ok (.iload_n 0, 1) := by decide +kernel
theorem dJ6_bitCount_0f7a4_26 : decode cJ6_bitCount_0f7a4 26 = .ok (.iconst 4, 1) := by decide +kernel
theorem dJ6_bitCount_0f7a4_27 : decode cJ6_bitCount_0f7a4 27 = .ok (.iushr, 1) := by decide +kernel
theorem dJ6_bitCount_0f7a4_28 : decode cJ6_bitCount_0f7a4 28 = .ok (.iadd, 1) := by decide +kernel
theorem dJ6_bitCount_0f7a4_29 : decode cJ6_bitCount_0f7a4 29 = .ok (.ldc_w 267, 3) := by decide +kernel
theorem dJ6_bitCount_0f7a4_32 : decode cJ6_bitCount_0f7a4 32 = .ok (.iand, 1) := by decide +kernel
theorem dJ6_bitCount_0f7a4_33 : decode cJ6_bitCount_0f7a4 33 = .ok (.istore_n 0, 1) := by decide +kernel
theorem dJ6_bitCount_0f7a4_34 : decode cJ6_bitCount_0f7a4 34 = .ok (.iload_n 0, 1) := by decide +kernel
theorem dJ6_bitCount_0f7a4_35 : decode cJ6_bitCount_0f7a4 35 = .ok (.iload_n 0, 1) := by decide +kernel
theorem dJ6_bitCount_0f7a4_36 : decode cJ6_bitCount_0f7a4 36 = .ok (.bipush 8, 2) := by decide +kernel
theorem dJ6_bitCount_0f7a4_38 : decode cJ6_bitCount_0f7a4 38 = .ok (.iushr, 1) := by decide +kernel
theorem dJ6_bitCount_0f7a4_39 : decode cJ6_bitCount_0f7a4 39 = .ok (.iadd, 1) := by decide +kernel
theorem dJ6_bitCount_0f7a4_40 : decode cJ6_bitCount_0f7a4 40 = .ok (.istore_n 0, 1) := by decide +kernel
theorem dJ6_bitCount_0f7a4_41 : decode cJ6_bitCount_0f7a4 41 = .ok (.iload_n 0, 1) := by decide +kernel
theorem dJ6_bitCount_0f7a4_42 : decode cJ6_bitCount_0f7a4 42 = .ok (.iload_n 0, 1) := by decide +kernel
theorem dJ6_bitCount_0f7a4_43 : decode cJ6_bitCount_0f7a4 43 = .ok (.bipush 16, 2) := by decide +kernel
theorem dJ6_bitCount_0f7a4_45 : decode cJ6_bitCount_0f7a4 45 = .ok (.iushr, 1) := by decide +kernel
theorem dJ6_bitCount_0f7a4_46 : decode cJ6_bitCount_0f7a4 46 = .ok (.iadd, 1) := by decide +kernel
theorem dJ6_bitCount_0f7a4_47 : decode cJ6_bitCount_0f7a4 47 = .ok (.istore_n 0, 1) := by decide +kernel
theorem dJ6_bitCount_0f7a4_48 : decode cJ6_bitCount_0f7a4 48 = .ok (.iload_n 0, 1) := by decide +kernel
theorem dJ6_bitCount_0f7a4_49 : decode cJ6_bitCount_0f7a4 49 = .ok (.bipush 63, 2) := by decide +kernel
theorem dJ6_bitCount_0f7a4_51 : decode cJ6_bitCount_0f7a4 51 = .ok (.iand, 1) := by decide +kernel
theorem dJ6_bitCount_0f7a4_52 : decode cJ6_bitCount_0f7a4 52 = .ok (.ireturn, 1) := by decide +kernel
theorem dJ9_max_7cf53_0 : decode cJ9_max_7cf53 0 = .ok (.iload_n 0, 1) := by decide +kernel
theorem dJ9_max_7cf53_1 : decode cJ9_max_7cf53 1 = .ok (.iload_n 1, 1) := by decide +kernel
theorem dJ9_max_7cf53_2 : decode cJ9_max_7cf53 2 = .ok (.if_icmp .lt 7, 3) := by decide +kernel
theorem dJ9_max_7cf53_5 : decode cJ9_max_7cf53 5 = .ok (.iload_n 0, 1) := by decide +kernel
theorem dJ9_max_7cf53_6 : decode cJ9_max_7cf53 6 = .ok (.goto 4, 3) := by decide +kernel
theorem dJ9_max_7cf53_9 : decode cJ9_max_7cf53 9 = .ok (.iload_n 1, 1) := by decide +kernel
theorem dJ9_max_7cf53_10 : decode cJ9_max_7cf53 10 = .ok (.ireturn, 1) := by decide +kernel
theorem dJ9_min_7cf53_0 : decode cJ9_min_7cf53 0 = .ok (.iload_n 0, 1) := by decide +kernel
theorem dJ9_min_7cf53_1 : decode cJ9_min_7cf53 1 = .ok (.iload_n 1, 1) := by decide +kernel
theorem dJ9_min_7cf53_2 : decode cJ9_min_7cf53 2 = .ok (.if_icmp .gt 7, 3) := by decide +kernel
theorem dJ9_min_7cf53_5 : decode cJ9_min_7cf53 5 = .ok (.iload_n 0, 1) := by decide +kernel
theorem dJ9_min_7cf53_6 : decode cJ9_min_7cf53 6 = .ok (.goto 4, 3) := by decide +kernel
theorem dJ9_min_7cf53_9 : decode cJ9_min_7cf53 9 = .ok (.iload_n 1, 1) := by decide +kernel
theorem dJ9_min_7cf53_10 : decode cJ9_min_7cf53 10 = .ok (.ireturn, 1) := by decide +kernel
theorem dJxa1e45_init_da8c8_0 : decode cJxa1e45_init_da8c8 0 = .ok (.aload_n 0, 1) := by decide +kernel
theorem dJxa1e45_init_da8c8_1 : decode cJxa1e45_init_da8c8 1 = .ok (.invokespecial 1, 3) := by decide +kernel
theorem dJxa1e45_init_da8c8_4 : decode cJxa1e45_init_da8c8 4 = .ok (.return_, 1) := by decide +kernel
theorem dJxc12de_init_da8c8_0 : decode cJxc12de_init_da8c8 0 = .ok (.aload_n 0, 1) := by decide +kernel
theorem dJxc12de_init_da8c8_1 : decode cJxc12de_init_da8c8 1 = .ok (.invokespecial 1, 3) := by decide +kernel
theorem dJxc12de_init_da8c8_4 : decode cJxc12de_init_da8c8 4 = .ok (.aload_n 0, 1) := by decide +kernel
theorem dJxc12de_init_da8c8_5 : decode cJxc12de_init_da8c8 5 = .ok (.iconst 0, 1) := by decide +kernel
theorem dJxc12de_init_da8c8_6 : decode cJxc12de_init_da8c8 6 = .ok (.putfield 7, 3) := by decide +kernel
theorem dJxc12de_init_da8c8_9 : decode cJxc12de_init_da8c8 9 = .ok (.return_, 1) := by decide +kernel
theorem dJx4a65c_init_da8c8_0 : decode cJx4a65c_init_da8c8 0 = .ok (.aload_n 0, 1) := by decide +kernel
theorem dJx4a65c_init_da8c8_1 : decode cJx4a65c_init_da8c8 1 = .ok (.invokespecial 1, 3) := by decide +kernel
theorem dJx4a65c_init_da8c8_4 : decode cJx4a65c_init_da8c8 4 = .ok (.aload_n 0, 1) := by decide +kernel
theorem dJx4a65c_init_da8c8_5 : decode cJx4a65c_init_da8c8 5 = .ok (.getstatic 39, 3) := by decide +kernel
theorem dJx4a65c_init_da8c8_8 : decode cJx4a65c_init_da8c8 8 = .ok (.putfield 9, 3) := by decide +kernel
theorem dJx4a65c_init_da8c8_11 : decode cJx4a65c_init_da8c8 11 = .ok (.return_, 1) := by decide +kernel
theorem dJx4a65c_grow_92f84_0 : decode cJx4a65c_grow_92f84 0 = .ok (.aload_n 0, 1) := by decide +kernel
theorem dJx4a65c_grow_92f84_1 : decode cJx4a65c_grow_92f84 1 = .ok (.getfield 9, 3) := by decide +kernel
theorem dJx4a65c_grow_92f84_4 : decode cJx4a65c_grow_92f84 4 = .ok (.arraylength, 1) := by decide +kernel
theorem dJx4a65c_grow_92f84_5 : decode cJx4a65c_grow_92f84 5 = .ok (.istore_n 2, 1) := by decide +kernel
theorem dJx4a65c_grow_92f84_6 : decode cJx4a65c_grow_92f84 6 = .ok (.iload_n 2, 1) := by decide +kernel
theorem dJx4a65c_grow_92f84_7 : decode cJx4a65c_grow_92f84 7 = .ok (.ifCond .gt 13, 3) := by decide +kernel
theorem dJx4a65c_grow_92f84_10 : decode cJx4a65c_grow_92f84 10 = .ok (.aload_n 0, 1) := by decide +kernel
theorem dJx4a65c_grow_92f84_11 : decode cJx4a65c_grow_92f84 11 = .ok (.getfield 9, 3) := by decide +kernel
theorem dJx4a65c_grow_92f84_14 : decode cJx4a65c_grow_92f84 14 = .ok (.getstatic 39, 3) := by decide +kernel
theorem dJx4a65c_grow_92f84_17 : decode cJx4a65c_grow_92f84 17 = .ok (.if_acmp .eq 28, 3) := by decide +kernel
theorem dJx4a65c_grow_92f84_20 : decode cJx4a65c_grow_92f84 20 = .ok (.iload_n 2, 1) := by decide +kernel
theorem dJx4a65c_grow_92f84_21 : decode cJx4a65c_grow_92f84 21 = .ok (.iload_n 1, 1) := by decide +kernel
theorem dJx4a65c_grow_92f84_22 : decode cJx4a65c_grow_92f84 22 = .ok (.iload_n 2, 1) := by decide +kernel
theorem dJx4a65c_grow_92f84_23 : decode cJx4a65c_grow_92f84 23 = .ok (.isub, 1) := by decide +kernel
theorem dJx4a65c_grow_92f84_24 : decode cJx4a65c_grow_92f84 24 = .ok (.iload_n 2, 1) := by decide +kernel
theorem dJx4a65c_grow_92f84_25 : decode cJx4a65c_grow_92f84 25 = .ok (.iconst 1, 1) := by decide +kernel
theorem dJx4a65c_grow_92f84_26 : decode cJx4a65c_grow_92f84 26 = .ok (.ishr, 1) := by decide +kernel
theorem dJx4a65c_grow_92f84_27 : decode cJx4a65c_grow_92f84 27 = .ok (.invokestatic 73, 3) := by decide +kernel
theorem dJx4a65c_grow_92f84_30 : decode cJx4a65c_grow_92f84 30 = .ok (.istore_n 3, 1) := by decide +kernel
theorem dJx4a65c_grow_92f84_31 : decode cJx4a65c_grow_92f84 31 = .ok (.aload_n 0, 1) := by decide +kernel
theorem dJx4a65c_grow_92f84_32 : decode cJx4a65c_grow_92f84 32 = .ok (.aload_n 0, 1) := by decide +kernel
theorem dJx4a65c_grow_92f84_33 : decode cJx4a65c_grow_92f84 33 = .ok (.getfield 9, 3) := by decide +kernel
theorem dJx4a65c_grow_92f84_36 : decode cJx4a65c_grow_92f84 36 = .ok (.iload_n 3, 1) := by decide +kernel
theorem dJx4a65c_grow_92f84_37 : decode cJx4a65c_grow_92f84 37 = .ok (.invokestatic 66, 3) := by decide +kernel
theorem dJx4a65c_grow_92f84_40 : decode cJx4a65c_grow_92f84 40 = .ok (.dup_x1, 1) := by decide +kernel
theorem dJx4a65c_grow_92f84_41 : decode cJx4a65c_grow_92f84 41 = .ok (.putfield 9, 3) := by decide +kernel
theorem dJx4a65c_grow_92f84_44 : decode cJx4a65c_grow_92f84 44 = .ok (.areturn, 1) := by decide +kernel
theorem dJx4a65c_grow_92f84_45 : decode cJx4a65c_grow_92f84 45 = .ok (.aload_n 0, 1) := by decide +kernel
theorem dJx4a65c_grow_92f84_46 : decode cJx4a65c_grow_92f84 46 = .ok (.bipush 10, 2) := by decide +kernel
theorem dJx4a65c_grow_92f84_48 : decode cJx4a65c_grow_92f84 48 = .ok (.iload_n 1, 1) := by decide +kernel
theorem dJx4a65c_grow_92f84_49 : decode cJx4a65c_grow_92f84 49 = .ok (.invokestatic 79, 3) := by decide +kernel
theorem dJx4a65c_grow_92f84_52 : decode cJx4a65c_grow_92f84 52 = .ok (.anewarray 7, 3) := by decide +kernel
theorem dJx4a65c_grow_92f84_55 : decode cJx4a65c_grow_92f84 55 = .ok (.dup_x1, 1) := by decide +kernel
theorem dJx4a65c_grow_92f84_56 : decode cJx4a65c_grow_92f84 56 = .ok (.putfield 9, 3) := by decide +kernel
theorem dJx4a65c_grow_92f84_59 : decode cJx4a65c_grow_92f84 59 = .ok (.areturn, 1) := by decide +kernel
theorem dJx4a65c_grow_d5877_0 : decode cJx4a65c_grow_d5877 0 = .ok (.aload_n 0, 1) := by decide +kernel
theorem dJx4a65c_grow_d5877_1 : decode cJx4a65c_grow_d5877 1 = .ok (.aload_n 0, 1) := by decide +kernel
theorem dJx4a65c_grow_d5877_2 : decode cJx4a65c_grow_d5877 2 = .ok (.getfield 48, 3) := by decide +kernel
theorem dJx4a65c_grow_d5877_5 : decode cJx4a65c_grow_d5877 5 = .ok (.iconst 1, 1) := by decide +kernel
theorem dJx4a65c_grow_d5877_6 : decode cJx4a65c_grow_d5877 6 = .ok (.iadd, 1) := by decide +kernel
theorem dJx4a65c_grow_d5877_7 : decode cJx4a65c_grow_d5877 7 = .ok (.invokevirtual 69, 3) := by decide +kernel
theorem dJx4a65c_grow_d5877_10 : decode cJx4a65c_grow_d5877 10 = .ok (.areturn, 1) := by decide +kernel
theorem dJx4a65c_size_8abf5_0 : decode cJx4a65c_size_8abf5 0 = .ok (.aload_n 0, 1) := by decide +kernel
theorem dJx4a65c_size_8abf5_1 : decode cJx4a65c_size_8abf5 1 = .ok (.getfield 48, 3) := by decide +kernel
theorem dJx4a65c_size_8abf5_4 : decode cJx4a65c_size_8abf5 4 = .ok (.ireturn, 1) := by decide +kernel
theorem dJx4a65c_elementData_915e3_0 : decode cJx4a65c_elementData_915e3 0 = .ok (.aload_n 0, 1) := by decide +kernel
theorem dJx4a65c_elementData_915e3_1 : decode cJx4a65c_elementData_915e3 1 = .ok (.getfield 9, 3) := by decide +kernel
theorem dJx4a65c_elementData_915e3_4 : decode cJx4a65c_elementData_915e3 4 = .ok (.iload_n 1, 1) := by decide +kernel
theorem dJx4a65c_elementData_915e3_5 : decode cJx4a65c_elementData_915e3 5 = .ok (.aaload, 1) := by decide +kernel
theorem dJx4a65c_elementData_915e3_6 : decode cJx4a65c_elementData_915e3 6 = .ok (.areturn, 1) := by decide +kernel
theorem dJx4a65c_get_915e3_0 : decode cJx4a65c_get_915e3 0 = .ok (.iload_n 1, 1) := by decide +kernel
theorem dJx4a65c_get_915e3_1 : decode cJx4a65c_get_915e3 1 = .ok (.aload_n 0, 1) := by decide +kernel
theorem dJx4a65c_get_915e3_2 : decode cJx4a65c_get_915e3 2 = .ok (.getfield 48, 3) := by decide +kernel
theorem dJx4a65c_get_915e3_5 : decode cJx4a65c_get_915e3 5 = .ok (.invokestatic 118, 3) := by decide +kernel
theorem dJx4a65c_get_915e3_8 : decode cJx4a65c_get_915e3 8 = .ok (.pop, 1) := by decide +kernel
theorem dJx4a65c_get_915e3_9 : decode cJx4a65c_get_915e3 9 = .ok (.aload_n 0, 1) := by decide +kernel
theorem dJx4a65c_get_915e3_10 : decode cJx4a65c_get_915e3 10 = .ok (.iload_n 1, 1) := by decide +kernel
theorem dJx4a65c_get_915e3_11 : decode cJx4a65c_get_915e3 11 = .ok (.invokevirtual 123, 3) := by decide +kernel
theorem dJx4a65c_get_915e3_14 : decode cJx4a65c_get_915e3 14 = .ok (.areturn, 1) := by decide +kernel
theorem dJx4a65c_add_72be8_0 : decode cJx4a65c_add_72be8 0 = .ok (.iload_n 3, 1) := by decide +kernel
theorem dJx4a65c_add_72be8_1 : decode cJx4a65c_add_72be8 1 = .ok (.aload_n 2, 1) := by decide +kernel
theorem dJx4a65c_add_72be8_2 : decode cJx4a65c_add_72be8 2 = .ok (.arraylength, 1) := by decide +kernel
theorem dJx4a65c_add_72be8_3 : decode cJx4a65c_add_72be8 3 = .ok (.if_icmp .ne 8, 3) := by decide +kernel
theorem dJx4a65c_add_72be8_6 : decode cJx4a65c_add_72be8 6 = .ok (.aload_n 0, 1) := by decide +kernel
theorem dJx4a65c_add_72be8_7 : decode cJx4a65c_add_72be8 7 = .ok (.invokevirtual 129, 3) := by decide +kernel
theorem dJx4a65c_add_72be8_10 : decode cJx4a65c_add_72be8 10 = .ok (.astore_n 2, 1) := by decide +kernel
theorem dJx4a65c_add_72be8_11 : decode cJx4a65c_add_72be8 11 = .ok (.aload_n 2, 1) := by decide +kernel
theorem dJx4a65c_add_72be8_12 : decode cJx4a65c_add_72be8 12 = .ok (.iload_n 3, 1) := by decide +kernel
theorem dJx4a65c_add_72be8_13 : decode cJx4a65c_add_72be8 13 = .ok (.aload_n 1, 1) := by decide +kernel
theorem dJx4a65c_add_72be8_14 : decode cJx4a65c_add_72be8 14 = .ok (.aastore, 1) := by decide +kernel
theorem dJx4a65c_add_72be8_15 : decode cJx4a65c_add_72be8 15 = .ok (.aload_n 0, 1) := by decide +kernel
theorem dJx4a65c_add_72be8_16 : decode cJx4a65c_add_72be8 16 = .ok (.iload_n 3, 1) := by decide +kernel
theorem dJx4a65c_add_72be8_17 : decode cJx4a65c_add_72be8 17 = .ok (.iconst 1, 1) := by decide +kernel
theorem dJx4a65c_add_72be8_18 : decode cJx4a65c_add_72be8 18 = .ok (.iadd, 1) := by decide +kernel
theorem dJx4a65c_add_72be8_19 : decode cJx4a65c_add_72be8 19 = .ok (.putfield 48, 3) := by decide +kernel
theorem dJx4a65c_add_72be8_22 : decode cJx4a65c_add_72be8 22 = .ok (.return_, 1) := by decide +kernel
theorem dJx4a65c_add_9ea2d_0 : decode cJx4a65c_add_9ea2d 0 = .ok (.aload_n 0, 1) := by decide +kernel
theorem dJx4a65c_add_9ea2d_1 : decode cJx4a65c_add_9ea2d 1 = .ok (.dup, 1) := by decide +kernel
theorem dJx4a65c_add_9ea2d_2 : decode cJx4a65c_add_9ea2d 2 = .ok (.getfield 63, 3) := by decide +kernel
theorem dJx4a65c_add_9ea2d_5 : decode cJx4a65c_add_9ea2d 5 = .ok (.iconst 1, 1) := by decide +kernel
theorem dJx4a65c_add_9ea2d_6 : decode cJx4a65c_add_9ea2d 6 = .ok (.iadd, 1) := by decide +kernel
theorem dJx4a65c_add_9ea2d_7 : decode cJx4a65c_add_9ea2d 7 = .ok (.putfield 63, 3) := by decide +kernel
theorem dJx4a65c_add_9ea2d_10 : decode cJx4a65c_add_9ea2d 10 = .ok (.aload_n 0, 1) := by decide +kernel
theorem dJx4a65c_add_9ea2d_11 : decode cJx4a65c_add_9ea2d 11 = .ok (.aload_n 1, 1) := by decide +kernel
theorem dJx4a65c_add_9ea2d_12 : decode cJx4a65c_add_9ea2d 12 = .ok (.aload_n 0, 1) := by decide +kernel
theorem dJx4a65c_add_9ea2d_13 : decode cJx4a65c_add_9ea2d 13 = .ok (.getfield 9, 3) := by decide +kernel
theorem dJx4a65c_add_9ea2d_16 : decode cJx4a65c_add_9ea2d 16 = .ok (.aload_n 0, 1) := by decide +kernel
theorem dJx4a65c_add_9ea2d_17 : decode cJx4a65c_add_9ea2d 17 = .ok (.getfield 48, 3) := by decide +kernel
theorem dJx4a65c_add_9ea2d_20 : decode cJx4a65c_add_9ea2d 20 = .ok (.invokevirtual 131, 3) := by decide +kernel
theorem dJx4a65c_add_9ea2d_23 : decode cJx4a65c_add_9ea2d 23 = .ok (.iconst 1, 1) := by decide +kernel
theorem dJx4a65c_add_9ea2d_24 : decode cJx4a65c_add_9ea2d 24 = .ok (.ireturn, 1) := by decide +kernel
theorem dJ7_copyOf_1904c_0 : decode cJ7_copyOf_1904c 0 = .ok (.aload_n 0, 1) := by decide +kernel
theorem dJ7_copyOf_1904c_1 : decode cJ7_copyOf_1904c 1 = .ok (.iload_n 1, 1) := by decide +kernel
theorem dJ7_copyOf_1904c_2 : decode cJ7_copyOf_1904c 2 = .ok (.aload_n 0, 1) := by decide +kernel
theorem dJ7_copyOf_1904c_3 : decode cJ7_copyOf_1904c 3 = .ok (.invokevirtual 86, 3) := by decide +kernel
theorem dJ7_copyOf_1904c_6 : decode cJ7_copyOf_1904c 6 = .ok (.invokestatic 300, 3) := by decide +kernel
theorem dJ7_copyOf_1904c_9 : decode cJ7_copyOf_1904c 9 = .ok (.areturn, 1) := by decide +kernel
theorem dJ7_copyOf_6403c_0 : decode cJ7_copyOf_6403c 0 = .ok (.aload_n 2, 1) := by decide +kernel
theorem dJ7_copyOf_6403c_1 : decode cJ7_copyOf_6403c 1 = .ok (.ldc 110, 2) := by decide +kernel
theorem dJ7_copyOf_6403c_3 : decode cJ7_copyOf_6403c 3 = .ok (.if_acmp .ne 10, 3) := by decide +kernel
theorem dJ7_copyOf_6403c_6 : decode cJ7_copyOf_6403c 6 = .ok (.iload_n 1, 1) := by decide +kernel
theorem dJ7_copyOf_6403c_7 : decode cJ7_copyOf_6403c 7 = .ok (.anewarray 2, 3) := by decide +kernel
theorem dJ7_copyOf_6403c_10 : decode cJ7_copyOf_6403c 10 = .ok (.goto 14, 3) := by decide +kernel
theorem dJ7_copyOf_6403c_13 : decode cJ7_copyOf_6403c 13 = .ok (.aload_n 2, 1) := by decide +kernel
theorem dJ7_copyOf_6403c_14 : decode cJ7_copyOf_6403c 14 = .ok (.invokevirtual 90, 3) := by decide +kernel
theorem dJ7_copyOf_6403c_17 : decode cJ7_copyOf_6403c 17 = .ok (.iload_n 1, 1) := by decide +kernel
theorem dJ7_copyOf_6403c_18 : decode cJ7_copyOf_6403c 18 = .ok (.invokestatic 95, 3) := by decide +kernel
theorem dJ7_copyOf_6403c_21 : decode cJ7_copyOf_6403c 21 = .ok (.checkcast 110, 3) := by decide +kernel
theorem dJ7_copyOf_6403c_24 : decode cJ7_copyOf_6403c 24 = .ok (.astore_n 3, 1) := by decide +kernel
theorem dJ7_copyOf_6403c_25 : decode cJ7_copyOf_6403c 25 = .ok (.aload_n 0, 1) := by decide +kernel
theorem dJ7_copyOf_6403c_26 : decode cJ7_copyOf_6403c 26 = .ok (.iconst 0, 1) := by decide +kernel
theorem dJ7_copyOf_6403c_27 : decode cJ7_copyOf_6403c 27 = .ok (.aload_n 3, 1) := by decide +kernel
theorem dJ7_copyOf_6403c_28 : decode cJ7_copyOf_6403c 28 = .ok (.iconst 0, 1) := by decide +kernel
theorem dJ7_copyOf_6403c_29 : decode cJ7_copyOf_6403c 29 = .ok (.aload_n 0, 1) := by decide +kernel
theorem dJ7_copyOf_6403c_30 : decode cJ7_copyOf_6403c 30 = .ok (.arraylength, 1) := by decide +kernel
theorem dJ7_copyOf_6403c_31 : decode cJ7_copyOf_6403c 31 = .ok (.iload_n 1, 1) := by decide +kernel
theorem dJ7_copyOf_6403c_32 : decode cJ7_copyOf_6403c 32 = .ok (.invokestatic 304, 3) := by decide +kernel
theorem dJ7_copyOf_6403c_35 : decode cJ7_copyOf_6403c 35 = .ok (.invokestatic 150, 3) := by decide +kernel
theorem dJ7_copyOf_6403c_38 : decode cJ7_copyOf_6403c 38 = .ok (.aload_n 3, 1) := by decide +kernel
theorem dJ7_copyOf_6403c_39 : decode cJ7_copyOf_6403c 39 = .ok (.areturn, 1) := by decide +kernel
theorem dJ15_checkIndex_7cf53_0 : decode cJ15_checkIndex_7cf53 0 = .ok (.iload_n 0, 1) := by decide +kernel
theorem dJ15_checkIndex_7cf53_1 : decode cJ15_checkIndex_7cf53 1 = .ok (.iload_n 1, 1) := by decide +kernel
theorem dJ15_checkIndex_7cf53_2 : decode cJ15_checkIndex_7cf53 2 = .ok (.aconst_null, 1) := by decide +kernel
theorem dJ15_checkIndex_7cf53_3 : decode cJ15_checkIndex_7cf53 3 = .ok (.invokestatic 105, 3) := by decide +kernel
theorem dJ15_checkIndex_7cf53_6 : decode cJ15_checkIndex_7cf53 6 = .ok (.ireturn, 1) := by decide +kernel
theorem dJ8_newLength_cabcc_0 : decode cJ8_newLength_cabcc 0 = .ok (.iload_n 0, 1) := by decide +kernel
theorem dJ8_newLength_cabcc_1 : decode cJ8_newLength_cabcc 1 = .ok (.iload_n 1, 1) := by decide +kernel
theorem dJ8_newLength_cabcc_2 : decode cJ8_newLength_cabcc 2 = .ok (.iload_n 2, 1) := by decide +kernel
theorem dJ8_newLength_cabcc_3 : decode cJ8_newLength_cabcc 3 = .ok (.invokestatic 194, 3) := by decide +kernel
theorem dJ8_newLength_cabcc_6 : decode cJ8_newLength_cabcc 6 = .ok (.iadd, 1) := by decide +kernel
theorem dJ8_newLength_cabcc_7 : decode cJ8_newLength_cabcc 7 = .ok (.istore_n 3, 1) := by decide +kernel
theorem dJ8_newLength_cabcc_8 : decode cJ8_newLength_cabcc 8 = .ok (.iconst 0, 1) := by decide +kernel
theorem dJ8_newLength_cabcc_9 : decode cJ8_newLength_cabcc 9 = .ok (.iload_n 3, 1) := by decide +kernel
theorem dJ8_newLength_cabcc_10 : decode cJ8_newLength_cabcc 10 = .ok (.if_icmp .ge 11, 3) := by decide +kernel
theorem dJ8_newLength_cabcc_13 : decode cJ8_newLength_cabcc 13 = .ok (.iload_n 3, 1) := by decide +kernel
theorem dJ8_newLength_cabcc_14 : decode cJ8_newLength_cabcc 14 = .ok (.ldc 200, 2) := by decide +kernel
theorem dJ8_newLength_cabcc_16 : decode cJ8_newLength_cabcc 16 = .ok (.if_icmp .gt 5, 3) := by decide +kernel
theorem dJ8_newLength_cabcc_19 : decode cJ8_newLength_cabcc 19 = .ok (.iload_n 3, 1) := by decide +kernel
theorem dJ8_newLength_cabcc_20 : decode cJ8_newLength_cabcc 20 = .ok (.ireturn, 1) := by decide +kernel
theorem dJ8_newLength_cabcc_21 : decode cJ8_newLength_cabcc 21 = .ok (.iload_n 0, 1) := by decide +kernel
theorem dJ8_newLength_cabcc_22 : decode cJ8_newLength_cabcc 22 = .ok (.iload_n 1, 1) := by decide +kernel
theorem dJ8_newLength_cabcc_23 : decode cJ8_newLength_cabcc 23 = .ok (.invokestatic 201, 3) := by decide +kernel
theorem dJ8_newLength_cabcc_26 : decode cJ8_newLength_cabcc 26 = .ok (.ireturn, 1) := by decide +kernel
theorem dJ8_hugeLength_7cf53_0 : decode cJ8_hugeLength_7cf53 0 = .ok (.iload_n 0, 1) := by decide +kernel
theorem dJ8_hugeLength_7cf53_1 : decode cJ8_hugeLength_7cf53 1 = .ok (.iload_n 1, 1) := by decide +kernel
theorem dJ8_hugeLength_7cf53_2 : decode cJ8_hugeLength_7cf53 2 = .ok (.iadd, 1) := by decide +kernel
theorem dJ8_hugeLength_7cf53_3 : decode cJ8_hugeLength_7cf53 3 = .ok (.istore_n 2, 1) := by decide +kernel
theorem dJ8_hugeLength_7cf53_4 : decode cJ8_hugeLength_7cf53 4 = .ok (.iload_n 2, 1) := by decide +kernel
theorem dJ8_hugeLength_7cf53_5 : decode cJ8_hugeLength_7cf53 5 = .ok (.ifCond .ge 44, 3) := by decide +kernel
theorem dJ8_hugeLength_7cf53_8 : decode cJ8_hugeLength_7cf53 8 = .ok (.new 204, 3) := by decide +kernel
theorem dJ8_hugeLength_7cf53_11 : decode cJ8_hugeLength_7cf53 11 = .ok (.dup, 1) := by decide +kernel
theorem dJ8_hugeLength_7cf53_12 : decode cJ8_hugeLength_7cf53 12 = .ok (.new 89, 3) := by decide +kernel
theorem dJ8_hugeLength_7cf53_15 : decode cJ8_hugeLength_7cf53 15 = .ok (.dup, 1) := by decide +kernel
theorem dJ8_hugeLength_7cf53_16 : decode cJ8_hugeLength_7cf53 16 = .ok (.invokespecial 91, 3) := by decide +kernel
theorem dJ8_hugeLength_7cf53_19 : decode cJ8_hugeLength_7cf53 19 = .ok (.ldc 206, 2) := by decide +kernel
theorem dJ8_hugeLength_7cf53_21 : decode cJ8_hugeLength_7cf53 21 = .ok (.invokevirtual 94, 3) := by decide +kernel
theorem dJ8_hugeLength_7cf53_24 : decode cJ8_hugeLength_7cf53 24 = .ok (.iload_n 0, 1) := by decide +kernel
theorem dJ8_hugeLength_7cf53_25 : decode cJ8_hugeLength_7cf53 25 = .ok (.invokevirtual 98, 3) := by decide +kernel
theorem dJ8_hugeLength_7cf53_28 : decode cJ8_hugeLength_7cf53 28 = .ok (.ldc 208, 2) := by decide +kernel
theorem dJ8_hugeLength_7cf53_30 : decode cJ8_hugeLength_7cf53 30 = .ok (.invokevirtual 94, 3) := by decide +kernel
theorem dJ8_hugeLength_7cf53_33 : decode cJ8_hugeLength_7cf53 33 = .ok (.iload_n 1, 1) := by decide +kernel
theorem dJ8_hugeLength_7cf53_34 : decode cJ8_hugeLength_7cf53 34 = .ok (.invokevirtual 98, 3) := by decide +kernel
theorem dJ8_hugeLength_7cf53_37 : decode cJ8_hugeLength_7cf53 37 = .ok (.ldc 210, 2) := by decide +kernel
theorem dJ8_hugeLength_7cf53_39 : decode cJ8_hugeLength_7cf53 39 = .ok (.invokevirtual 94, 3) := by decide +kernel
theorem dJ8_hugeLength_7cf53_42 : decode cJ8_hugeLength_7cf53 42 = .ok (.invokevirtual 101, 3) := by decide +kernel
theorem dJ8_hugeLength_7cf53_45 : decode cJ8_hugeLength_7cf53 45 = .ok (.invokespecial 212, 3) := by decide +kernel
theorem dJ8_hugeLength_7cf53_48 : decode cJ8_hugeLength_7cf53 48 = .ok (.athrow, 1) := by decide +kernel
theorem dJ8_hugeLength_7cf53_49 : decode cJ8_hugeLength_7cf53 49 = .ok (.iload_n 2, 1) := by decide +kernel
theorem dJ8_hugeLength_7cf53_50 : decode cJ8_hugeLength_7cf53 50 = .ok (.ldc 200, 2) := by decide +kernel
theorem dJ8_hugeLength_7cf53_52 : decode cJ8_hugeLength_7cf53 52 = .ok (.if_icmp .gt 6, 3) := by decide +kernel
theorem dJ8_hugeLength_7cf53_55 : decode cJ8_hugeLength_7cf53 55 = .ok (.ldc 200, 2) := by decide +kernel
theorem dJ8_hugeLength_7cf53_57 : decode cJ8_hugeLength_7cf53 57 = .ok (.ireturn, 1) := by decide +kernel
theorem dJ8_hugeLength_7cf53_58 : decode cJ8_hugeLength_7cf53 58 = .ok (.iload_n 2, 1) := by decide +kernel
theorem dJ8_hugeLength_7cf53_59 : decode cJ8_hugeLength_7cf53 59 = .ok (.ireturn, 1) := by decide +kernel
theorem dJ3_checkIndex_8e157_0 : decode cJ3_checkIndex_8e157 0 = .ok (.iload_n 0, 1) := by decide +kernel
theorem dJ3_checkIndex_8e157_1 : decode cJ3_checkIndex_8e157 1 = .ok (.ifCond .lt 8, 3) := by decide +kernel
theorem dJ3_checkIndex_8e157_4 : decode cJ3_checkIndex_8e157 4 = .ok (.iload_n 0, 1) := by decide +kernel
theorem dJ3_checkIndex_8e157_5 : decode cJ3_checkIndex_8e157 5 = .ok (.iload_n 1, 1) := by decide +kernel
theorem dJ3_checkIndex_8e157_6 : decode cJ3_checkIndex_8e157 6 = .ok (.if_icmp .lt 10, 3) := by decide +kernel
theorem dJ3_checkIndex_8e157_9 : decode cJ3_checkIndex_8e157 9 = .ok (.aload_n 2, 1) := by decide +kernel
theorem dJ3_checkIndex_8e157_10 : decode cJ3_checkIndex_8e157 10 = .ok (.iload_n 0, 1) := by decide +kernel
theorem dJ3_checkIndex_8e157_11 : decode cJ3_checkIndex_8e157 11 = .ok (.iload_n 1, 1) := by decide +kernel
theorem dJ3_checkIndex_8e157_12 : decode cJ3_checkIndex_8e157 12 = .ok (.invokestatic 95, 3) := by decide +kernel
theorem dJ3_checkIndex_8e157_15 : decode cJ3_checkIndex_8e157 15 = .ok (.athrow, 1) := by decide +kernel
theorem dJ3_checkIndex_8e157_16 : decode cJ3_checkIndex_8e157 16 = .ok (.iload_n 0, 1) := by decide +kernel
theorem dJ3_checkIndex_8e157_17 : decode cJ3_checkIndex_8e157 17 = .ok (.ireturn, 1) := by decide +kernel
