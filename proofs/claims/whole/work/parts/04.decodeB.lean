theorem dX5_init_0 : decode cX5_init 0 = .ok (.aload_n 0, 1) := by decide +kernel
theorem dX5_init_1 : decode cX5_init 1 = .ok (.invokespecial 3, 3) := by decide +kernel
theorem dX5_init_4 : decode cX5_init 4 = .ok (.aload_n 0, 1) := by decide +kernel
theorem dX5_init_5 : decode cX5_init 5 = .ok (.new 9, 3) := by decide +kernel
theorem dX5_init_8 : decode cX5_init 8 = .ok (.dup, 1) := by decide +kernel
theorem dX5_init_9 : decode cX5_init 9 = .ok (.invokespecial 11, 3) := by decide +kernel
theorem dX5_init_12 : decode cX5_init 12 = .ok (.putfield 12, 3) := by decide +kernel
theorem dX5_init_15 : decode cX5_init 15 = .ok (.aload_n 0, 1) := by decide +kernel
theorem dX5_init_16 : decode cX5_init 16 = .ok (.new 9, 3) := by decide +kernel
theorem dX5_init_19 : decode cX5_init 19 = .ok (.dup, 1) := by decide +kernel
theorem dX5_init_20 : decode cX5_init 20 = .ok (.invokespecial 11, 3) := by decide +kernel
theorem dX5_init_23 : decode cX5_init 23 = .ok (.putfield 16, 3) := by decide +kernel
theorem dX5_init_26 : decode cX5_init 26 = .ok (.aload_n 0, 1) := by decide +kernel
theorem dX5_init_27 : decode cX5_init 27 = .ok (.new 9, 3) := by decide +kernel
theorem dX5_init_30 : decode cX5_init 30 = .ok (.dup, 1) := by decide +kernel
theorem dX5_init_31 : decode cX5_init 31 = .ok (.invokespecial 11, 3) := by decide +kernel
theorem dX5_init_34 : decode cX5_init 34 = .ok (.putfield 19, 3) := by decide +kernel
theorem dX5_init_37 : decode cX5_init 37 = .ok (.aload_n 0, 1) := by decide +kernel
theorem dX5_init_38 : decode cX5_init 38 = .ok (.new 22, 3) := by decide +kernel
theorem dX5_init_41 : decode cX5_init 41 = .ok (.dup, 1) := by decide +kernel
theorem dX5_init_42 : decode cX5_init 42 = .ok (.invokespecial 24, 3) := by decide +kernel
theorem dX5_init_45 : decode cX5_init 45 = .ok (.putfield 25, 3) := by decide +kernel
theorem dX5_init_48 : decode cX5_init 48 = .ok (.aload_n 0, 1) := by decide +kernel
theorem dX5_init_49 : decode cX5_init 49 = .ok (.new 29, 3) := by decide +kernel
theorem dX5_init_52 : decode cX5_init 52 = .ok (.dup, 1) := by decide +kernel
theorem dX5_init_53 : decode cX5_init 53 = .ok (.invokespecial 31, 3) := by decide +kernel
theorem dX5_init_56 : decode cX5_init 56 = .ok (.putfield 32, 3) := by decide +kernel
theorem dX5_init_59 : decode cX5_init 59 = .ok (.aload_n 0, 1) := by decide +kernel
theorem dX5_init_60 : decode cX5_init 60 = .ok (.new 36, 3) := by decide +kernel
theorem dX5_init_63 : decode cX5_init 63 = .ok (.dup, 1) := by decide +kernel
theorem dX5_init_64 : decode cX5_init 64 = .ok (.invokespecial 38, 3) := by decide +kernel
theorem dX5_init_67 : decode cX5_init 67 = .ok (.putfield 39, 3) := by decide +kernel
theorem dX5_init_70 : decode cX5_init 70 = .ok (.aload_n 0, 1) := by decide +kernel
theorem dX5_init_71 : decode cX5_init 71 = .ok (.iconst 4, 1) := by decide +kernel
theorem dX5_init_72 : decode cX5_init 72 = .ok (.anewarray 43, 3) := by decide +kernel
theorem dX5_init_75 : decode cX5_init 75 = .ok (.putfield 45, 3) := by decide +kernel
theorem dX5_init_78 : decode cX5_init 78 = .ok (.aload_n 0, 1) := by decide +kernel
theorem dX5_init_79 : decode cX5_init 79 = .ok (.bipush 7, 2) := by decide +kernel
theorem dX5_init_81 : decode cX5_init 81 = .ok (.newarray .int, 2) := by decide +kernel
theorem dX5_init_83 : decode cX5_init 83 = .ok (.putfield 49, 3) := by decide +kernel
theorem dX5_init_86 : decode cX5_init 86 = .ok (.aload_n 0, 1) := by decide +kernel
theorem dX5_init_87 : decode cX5_init 87 = .ok (.bipush 24, 2) := by decide +kernel
theorem dX5_init_89 : decode cX5_init 89 = .ok (.newarray .int, 2) := by decide +kernel
theorem dX5_init_91 : decode cX5_init 91 = .ok (.putfield 53, 3) := by decide +kernel
theorem dX5_init_94 : decode cX5_init 94 = .ok (.aload_n 0, 1) := by decide +kernel
theorem dX5_init_95 : decode cX5_init 95 = .ok (.iconst 0, 1) := by decide +kernel
theorem dX5_init_96 : decode cX5_init 96 = .ok (.putfield 56, 3) := by decide +kernel
theorem dX5_init_99 : decode cX5_init 99 = .ok (.iconst 0, 1) := by decide +kernel
theorem dX5_init_100 : decode cX5_init 100 = .ok (.istore_n 1, 1) := by decide +kernel
theorem dX5_init_101 : decode cX5_init 101 = .ok (.iload_n 1, 1) := by decide +kernel
theorem dX5_init_102 : decode cX5_init 102 = .ok (.iconst 4, 1) := by decide +kernel
theorem dX5_init_103 : decode cX5_init 103 = .ok (.if_icmp .ge 22, 3) := by decide +kernel
theorem dX5_init_106 : decode cX5_init 106 = .ok (.aload_n 0, 1) := by decide +kernel
theorem dX5_init_107 : decode cX5_init 107 = .ok (.getfield 45, 3) := by decide +kernel
theorem dX5_init_110 : decode cX5_init 110 = .ok (.iload_n 1, 1) := by decide +kernel
theorem dX5_init_111 : decode cX5_init 111 = .ok (.new 43, 3) := by decide +kernel
theorem dX5_init_114 : decode cX5_init 114 = .ok (.dup, 1) := by decide +kernel
theorem dX5_init_115 : decode cX5_init 115 = .ok (.invokespecial 60, 3) := by decide +kernel
theorem dX5_init_118 : decode cX5_init 118 = .ok (.aastore, 1) := by decide +kernel
theorem dX5_init_119 : decode cX5_init 119 = .ok (.iinc 1 1, 3) := by decide +kernel
theorem dX5_init_122 : decode cX5_init 122 = .ok (.goto (-21), 3) := by decide +kernel
theorem dX5_init_125 : decode cX5_init 125 = .ok (.return_, 1) := by decide +kernel
theorem dX5_word_0 : decode cX5_word 0 = .ok (.iconst 0, 1) := by decide +kernel
theorem dX5_word_1 : decode cX5_word 1 = .ok (.iload_n 1, 1) := by decide +kernel
theorem dX5_word_2 : decode cX5_word 2 = .ok (.invokestatic 61, 3) := by decide +kernel
theorem dX5_word_5 : decode cX5_word 5 = .ok (.ifCond .eq 19, 3) := by decide +kernel
theorem dX5_word_8 : decode cX5_word 8 = .ok (.iconst 1, 1) := by decide +kernel
theorem dX5_word_9 : decode cX5_word 9 = .ok (.iload_n 2, 1) := by decide +kernel
theorem dX5_word_10 : decode cX5_word 10 = .ok (.invokestatic 61, 3) := by decide +kernel
theorem dX5_word_13 : decode cX5_word 13 = .ok (.ifCond .eq 11, 3) := by decide +kernel
theorem dX5_word_16 : decode cX5_word 16 = .ok (.iconst 2, 1) := by decide +kernel
theorem dX5_word_17 : decode cX5_word 17 = .ok (.iload_n 3, 1) := by decide +kernel
theorem dX5_word_18 : decode cX5_word 18 = .ok (.invokestatic 61, 3) := by decide +kernel
theorem dX5_word_21 : decode cX5_word 21 = .ok (.ifCond .ne 10, 3) := by decide +kernel
theorem dX5_word_24 : decode cX5_word 24 = .ok (.aload_n 0, 1) := by decide +kernel
theorem dX5_word_25 : decode cX5_word 25 = .ok (.ldc 65, 2) := by decide +kernel
theorem dX5_word_27 : decode cX5_word 27 = .ok (.invokevirtual 66, 3) := by decide +kernel
theorem dX5_word_30 : decode cX5_word 30 = .ok (.ireturn, 1) := by decide +kernel
theorem dX5_word_31 : decode cX5_word 31 = .ok (.aload_n 0, 1) := by decide +kernel
theorem dX5_word_32 : decode cX5_word 32 = .ok (.getfield 12, 3) := by decide +kernel
theorem dX5_word_35 : decode cX5_word 35 = .ok (.getfield 70, 3) := by decide +kernel
theorem dX5_word_38 : decode cX5_word 38 = .ok (.bipush 16, 2) := by decide +kernel
theorem dX5_word_40 : decode cX5_word 40 = .ok (.if_icmp .lt 10, 3) := by decide +kernel
theorem dX5_word_43 : decode cX5_word 43 = .ok (.aload_n 0, 1) := by decide +kernel
theorem dX5_word_44 : decode cX5_word 44 = .ok (.ldc 74, 2) := by decide +kernel
theorem dX5_word_46 : decode cX5_word 46 = .ok (.invokevirtual 66, 3) := by decide +kernel
theorem dX5_word_49 : decode cX5_word 49 = .ok (.ireturn, 1) := by decide +kernel
theorem dX5_word_50 : decode cX5_word 50 = .ok (.aload_n 0, 1) := by decide +kernel
theorem dX5_word_51 : decode cX5_word 51 = .ok (.getfield 12, 3) := by decide +kernel
theorem dX5_word_54 : decode cX5_word 54 = .ok (.iload_n 1, 1) := by decide +kernel
theorem dX5_word_55 : decode cX5_word 55 = .ok (.iload_n 2, 1) := by decide +kernel
theorem dX5_word_56 : decode cX5_word 56 = .ok (.iload_n 3, 1) := by decide +kernel
theorem dX5_word_57 : decode cX5_word 57 = .ok (.invokevirtual 75, 3) := by decide +kernel
theorem dX5_word_60 : decode cX5_word 60 = .ok (.ireturn, 1) := by decide +kernel
theorem dX5_wordOf_0 : decode cX5_wordOf 0 = .ok (.aload_n 0, 1) := by decide +kernel
theorem dX5_wordOf_1 : decode cX5_wordOf 1 = .ok (.iload_n 1, 1) := by decide +kernel
theorem dX5_wordOf_2 : decode cX5_wordOf 2 = .ok (.invokevirtual 79, 3) := by decide +kernel
theorem dX5_wordOf_5 : decode cX5_wordOf 5 = .ok (.ifCond .eq 12, 3) := by decide +kernel
theorem dX5_wordOf_8 : decode cX5_wordOf 8 = .ok (.iload_n 2, 1) := by decide +kernel
theorem dX5_wordOf_9 : decode cX5_wordOf 9 = .ok (.ifCond .lt 8, 3) := by decide +kernel
theorem dX5_wordOf_12 : decode cX5_wordOf 12 = .ok (.iload_n 2, 1) := by decide +kernel
theorem dX5_wordOf_13 : decode cX5_wordOf 13 = .ok (.iconst 3, 1) := by decide +kernel
theorem dX5_wordOf_14 : decode cX5_wordOf 14 = .ok (.if_icmp .le 10, 3) := by decide +kernel
theorem dX5_wordOf_17 : decode cX5_wordOf 17 = .ok (.aload_n 0, 1) := by decide +kernel
theorem dX5_wordOf_18 : decode cX5_wordOf 18 = .ok (.ldc 65, 2) := by decide +kernel
theorem dX5_wordOf_20 : decode cX5_wordOf 20 = .ok (.invokevirtual 66, 3) := by decide +kernel
theorem dX5_wordOf_23 : decode cX5_wordOf 23 = .ok (.ireturn, 1) := by decide +kernel
theorem dX5_wordOf_24 : decode cX5_wordOf 24 = .ok (.iload_n 2, 1) := by decide +kernel
theorem dX5_wordOf_25 : decode cX5_wordOf 25 = .ok (.iconst 3, 1) := by decide +kernel
theorem dX5_wordOf_26 : decode cX5_wordOf 26 = .ok (.if_icmp .ne 14, 3) := by decide +kernel
theorem dX5_wordOf_29 : decode cX5_wordOf 29 = .ok (.aload_n 0, 1) := by decide +kernel
theorem dX5_wordOf_30 : decode cX5_wordOf 30 = .ok (.getfield 12, 3) := by decide +kernel
theorem dX5_wordOf_33 : decode cX5_wordOf 33 = .ok (.iload_n 1, 1) := by decide +kernel
theorem dX5_wordOf_34 : decode cX5_wordOf 34 = .ok (.invokevirtual 83, 3) := by decide +kernel
theorem dX5_wordOf_37 : decode cX5_wordOf 37 = .ok (.goto 13, 3) := by decide +kernel
theorem dX5_wordOf_40 : decode cX5_wordOf 40 = .ok (.aload_n 0, 1) := by decide +kernel
theorem dX5_wordOf_41 : decode cX5_wordOf 41 = .ok (.getfield 12, 3) := by decide +kernel
theorem dX5_wordOf_44 : decode cX5_wordOf 44 = .ok (.iload_n 2, 1) := by decide +kernel
theorem dX5_wordOf_45 : decode cX5_wordOf 45 = .ok (.invokevirtual 86, 3) := by decide +kernel
theorem dX5_wordOf_48 : decode cX5_wordOf 48 = .ok (.iload_n 1, 1) := by decide +kernel
theorem dX5_wordOf_49 : decode cX5_wordOf 49 = .ok (.iaload, 1) := by decide +kernel
theorem dX5_wordOf_50 : decode cX5_wordOf 50 = .ok (.ireturn, 1) := by decide +kernel
theorem dX5_change_0 : decode cX5_change 0 = .ok (.aload_n 0, 1) := by decide +kernel
theorem dX5_change_1 : decode cX5_change 1 = .ok (.iload_n 1, 1) := by decide +kernel
theorem dX5_change_2 : decode cX5_change 2 = .ok (.invokevirtual 79, 3) := by decide +kernel
theorem dX5_change_5 : decode cX5_change 5 = .ok (.ifCond .eq 11, 3) := by decide +kernel
theorem dX5_change_8 : decode cX5_change 8 = .ok (.iload_n 2, 1) := by decide +kernel
theorem dX5_change_9 : decode cX5_change 9 = .ok (.iload_n 3, 1) := by decide +kernel
theorem dX5_change_10 : decode cX5_change 10 = .ok (.invokestatic 61, 3) := by decide +kernel
theorem dX5_change_13 : decode cX5_change 13 = .ok (.ifCond .ne 10, 3) := by decide +kernel
theorem dX5_change_16 : decode cX5_change 16 = .ok (.aload_n 0, 1) := by decide +kernel
theorem dX5_change_17 : decode cX5_change 17 = .ok (.ldc 65, 2) := by decide +kernel
theorem dX5_change_19 : decode cX5_change 19 = .ok (.invokevirtual 66, 3) := by decide +kernel
theorem dX5_change_22 : decode cX5_change 22 = .ok (.ireturn, 1) := by decide +kernel
theorem dX5_change_23 : decode cX5_change 23 = .ok (.aload_n 0, 1) := by decide +kernel
theorem dX5_change_24 : decode cX5_change 24 = .ok (.getfield 12, 3) := by decide +kernel
theorem dX5_change_27 : decode cX5_change 27 = .ok (.iload_n 2, 1) := by decide +kernel
theorem dX5_change_28 : decode cX5_change 28 = .ok (.invokevirtual 86, 3) := by decide +kernel
theorem dX5_change_31 : decode cX5_change 31 = .ok (.astore 4, 2) := by decide +kernel
theorem dX5_change_33 : decode cX5_change 33 = .ok (.aload 4, 2) := by decide +kernel
theorem dX5_change_35 : decode cX5_change 35 = .ok (.iload_n 1, 1) := by decide +kernel
theorem dX5_change_36 : decode cX5_change 36 = .ok (.iaload, 1) := by decide +kernel
theorem dX5_change_37 : decode cX5_change 37 = .ok (.istore 5, 2) := by decide +kernel
theorem dX5_change_39 : decode cX5_change 39 = .ok (.aload 4, 2) := by decide +kernel
theorem dX5_change_41 : decode cX5_change 41 = .ok (.iload_n 1, 1) := by decide +kernel
theorem dX5_change_42 : decode cX5_change 42 = .ok (.iload_n 3, 1) := by decide +kernel
theorem dX5_change_43 : decode cX5_change 43 = .ok (.iastore, 1) := by decide +kernel
theorem dX5_change_44 : decode cX5_change 44 = .ok (.iload 5, 2) := by decide +kernel
theorem dX5_change_46 : decode cX5_change 46 = .ok (.ireturn, 1) := by decide +kernel
theorem dX5_title_0 : decode cX5_title 0 = .ok (.aload_n 0, 1) := by decide +kernel
theorem dX5_title_1 : decode cX5_title 1 = .ok (.iload_n 1, 1) := by decide +kernel
theorem dX5_title_2 : decode cX5_title 2 = .ok (.invokevirtual 79, 3) := by decide +kernel
theorem dX5_title_5 : decode cX5_title 5 = .ok (.ifCond .ne 10, 3) := by decide +kernel
theorem dX5_title_8 : decode cX5_title 8 = .ok (.aload_n 0, 1) := by decide +kernel
theorem dX5_title_9 : decode cX5_title 9 = .ok (.ldc 65, 2) := by decide +kernel
theorem dX5_title_11 : decode cX5_title 11 = .ok (.invokevirtual 66, 3) := by decide +kernel
theorem dX5_title_14 : decode cX5_title 14 = .ok (.ireturn, 1) := by decide +kernel
theorem dX5_title_15 : decode cX5_title 15 = .ok (.aload_n 0, 1) := by decide +kernel
theorem dX5_title_16 : decode cX5_title 16 = .ok (.getfield 12, 3) := by decide +kernel
theorem dX5_title_19 : decode cX5_title 19 = .ok (.getfield 90, 3) := by decide +kernel
theorem dX5_title_22 : decode cX5_title 22 = .ok (.bipush 24, 2) := by decide +kernel
theorem dX5_title_24 : decode cX5_title 24 = .ok (.if_icmp .lt 10, 3) := by decide +kernel
theorem dX5_title_27 : decode cX5_title 27 = .ok (.aload_n 0, 1) := by decide +kernel
theorem dX5_title_28 : decode cX5_title 28 = .ok (.ldc 74, 2) := by decide +kernel
theorem dX5_title_30 : decode cX5_title 30 = .ok (.invokevirtual 66, 3) := by decide +kernel
theorem dX5_title_33 : decode cX5_title 33 = .ok (.ireturn, 1) := by decide +kernel
theorem dX5_title_34 : decode cX5_title 34 = .ok (.aload_n 0, 1) := by decide +kernel
theorem dX5_title_35 : decode cX5_title 35 = .ok (.getfield 12, 3) := by decide +kernel
theorem dX5_title_38 : decode cX5_title 38 = .ok (.iload_n 1, 1) := by decide +kernel
theorem dX5_title_39 : decode cX5_title 39 = .ok (.invokevirtual 93, 3) := by decide +kernel
theorem dX5_title_42 : decode cX5_title 42 = .ok (.ireturn, 1) := by decide +kernel
theorem dX5_more_0 : decode cX5_more 0 = .ok (.aload_n 0, 1) := by decide +kernel
theorem dX5_more_1 : decode cX5_more 1 = .ok (.iload_n 1, 1) := by decide +kernel
theorem dX5_more_2 : decode cX5_more 2 = .ok (.invokevirtual 96, 3) := by decide +kernel
theorem dX5_more_5 : decode cX5_more 5 = .ok (.ifCond .eq 11, 3) := by decide +kernel
theorem dX5_more_8 : decode cX5_more 8 = .ok (.aload_n 0, 1) := by decide +kernel
theorem dX5_more_9 : decode cX5_more 9 = .ok (.iload_n 2, 1) := by decide +kernel
theorem dX5_more_10 : decode cX5_more 10 = .ok (.invokevirtual 79, 3) := by decide +kernel
theorem dX5_more_13 : decode cX5_more 13 = .ok (.ifCond .ne 10, 3) := by decide +kernel
theorem dX5_more_16 : decode cX5_more 16 = .ok (.aload_n 0, 1) := by decide +kernel
theorem dX5_more_17 : decode cX5_more 17 = .ok (.ldc 65, 2) := by decide +kernel
theorem dX5_more_19 : decode cX5_more 19 = .ok (.invokevirtual 66, 3) := by decide +kernel
theorem dX5_more_22 : decode cX5_more 22 = .ok (.ireturn, 1) := by decide +kernel
theorem dX5_more_23 : decode cX5_more 23 = .ok (.aload_n 0, 1) := by decide +kernel
theorem dX5_more_24 : decode cX5_more 24 = .ok (.getfield 12, 3) := by decide +kernel
theorem dX5_more_27 : decode cX5_more 27 = .ok (.getfield 99, 3) := by decide +kernel
theorem dX5_more_30 : decode cX5_more 30 = .ok (.iload_n 1, 1) := by decide +kernel
theorem dX5_more_31 : decode cX5_more 31 = .ok (.iaload, 1) := by decide +kernel
theorem dX5_more_32 : decode cX5_more 32 = .ok (.iconst 4, 1) := by decide +kernel
theorem dX5_more_33 : decode cX5_more 33 = .ok (.if_icmp .lt 10, 3) := by decide +kernel
theorem dX5_more_36 : decode cX5_more 36 = .ok (.aload_n 0, 1) := by decide +kernel
theorem dX5_more_37 : decode cX5_more 37 = .ok (.ldc 74, 2) := by decide +kernel
theorem dX5_more_39 : decode cX5_more 39 = .ok (.invokevirtual 66, 3) := by decide +kernel
theorem dX5_more_42 : decode cX5_more 42 = .ok (.ireturn, 1) := by decide +kernel
theorem dX5_more_43 : decode cX5_more 43 = .ok (.aload_n 0, 1) := by decide +kernel
theorem dX5_more_44 : decode cX5_more 44 = .ok (.getfield 12, 3) := by decide +kernel
theorem dX5_more_47 : decode cX5_more 47 = .ok (.iload_n 1, 1) := by decide +kernel
theorem dX5_more_48 : decode cX5_more 48 = .ok (.iload_n 2, 1) := by decide +kernel
theorem dX5_more_49 : decode cX5_more 49 = .ok (.invokevirtual 102, 3) := by decide +kernel
theorem dX5_more_52 : decode cX5_more 52 = .ok (.ireturn, 1) := by decide +kernel
theorem dX5_ith_0 : decode cX5_ith 0 = .ok (.aload_n 0, 1) := by decide +kernel
theorem dX5_ith_1 : decode cX5_ith 1 = .ok (.iload_n 1, 1) := by decide +kernel
theorem dX5_ith_2 : decode cX5_ith 2 = .ok (.invokevirtual 96, 3) := by decide +kernel
theorem dX5_ith_5 : decode cX5_ith 5 = .ok (.ifCond .eq 10, 3) := by decide +kernel
theorem dX5_ith_8 : decode cX5_ith 8 = .ok (.iload_n 2, 1) := by decide +kernel
theorem dX5_ith_9 : decode cX5_ith 9 = .ok (.invokestatic 106, 3) := by decide +kernel
theorem dX5_ith_12 : decode cX5_ith 12 = .ok (.ifCond .ne 10, 3) := by decide +kernel
theorem dX5_ith_15 : decode cX5_ith 15 = .ok (.aload_n 0, 1) := by decide +kernel
theorem dX5_ith_16 : decode cX5_ith 16 = .ok (.ldc 65, 2) := by decide +kernel
theorem dX5_ith_18 : decode cX5_ith 18 = .ok (.invokevirtual 66, 3) := by decide +kernel
theorem dX5_ith_21 : decode cX5_ith 21 = .ok (.ireturn, 1) := by decide +kernel
theorem dX5_ith_22 : decode cX5_ith 22 = .ok (.iload_n 2, 1) := by decide +kernel
theorem dX5_ith_23 : decode cX5_ith 23 = .ok (.aload_n 0, 1) := by decide +kernel
theorem dX5_ith_24 : decode cX5_ith 24 = .ok (.getfield 12, 3) := by decide +kernel
theorem dX5_ith_27 : decode cX5_ith 27 = .ok (.getfield 99, 3) := by decide +kernel
theorem dX5_ith_30 : decode cX5_ith 30 = .ok (.iload_n 1, 1) := by decide +kernel
theorem dX5_ith_31 : decode cX5_ith 31 = .ok (.iaload, 1) := by decide +kernel
theorem dX5_ith_32 : decode cX5_ith 32 = .ok (.if_icmp .lt 10, 3) := by decide +kernel
theorem dX5_ith_35 : decode cX5_ith 35 = .ok (.aload_n 0, 1) := by decide +kernel
theorem dX5_ith_36 : decode cX5_ith 36 = .ok (.ldc 109, 2) := by decide +kernel
theorem dX5_ith_38 : decode cX5_ith 38 = .ok (.invokevirtual 66, 3) := by decide +kernel
theorem dX5_ith_41 : decode cX5_ith 41 = .ok (.ireturn, 1) := by decide +kernel
theorem dX5_ith_42 : decode cX5_ith 42 = .ok (.aload_n 0, 1) := by decide +kernel
theorem dX5_ith_43 : decode cX5_ith 43 = .ok (.getfield 12, 3) := by decide +kernel
theorem dX5_ith_46 : decode cX5_ith 46 = .ok (.iload_n 1, 1) := by decide +kernel
theorem dX5_ith_47 : decode cX5_ith 47 = .ok (.iload_n 2, 1) := by decide +kernel
theorem dX5_ith_48 : decode cX5_ith 48 = .ok (.invokevirtual 110, 3) := by decide +kernel
theorem dX5_ith_51 : decode cX5_ith 51 = .ok (.ireturn, 1) := by decide +kernel
theorem dX5_know_0 : decode cX5_know 0 = .ok (.aload_n 0, 1) := by decide +kernel
theorem dX5_know_1 : decode cX5_know 1 = .ok (.iload_n 1, 1) := by decide +kernel
theorem dX5_know_2 : decode cX5_know 2 = .ok (.invokevirtual 96, 3) := by decide +kernel
theorem dX5_know_5 : decode cX5_know 5 = .ok (.ifCond .eq 10, 3) := by decide +kernel
theorem dX5_know_8 : decode cX5_know 8 = .ok (.iload_n 2, 1) := by decide +kernel
theorem dX5_know_9 : decode cX5_know 9 = .ok (.invokestatic 113, 3) := by decide +kernel
theorem dX5_know_12 : decode cX5_know 12 = .ok (.ifCond .ne 10, 3) := by decide +kernel
theorem dX5_know_15 : decode cX5_know 15 = .ok (.aload_n 0, 1) := by decide +kernel
theorem dX5_know_16 : decode cX5_know 16 = .ok (.ldc 65, 2) := by decide +kernel
theorem dX5_know_18 : decode cX5_know 18 = .ok (.invokevirtual 66, 3) := by decide +kernel
theorem dX5_know_21 : decode cX5_know 21 = .ok (.ireturn, 1) := by decide +kernel
theorem dX5_know_22 : decode cX5_know 22 = .ok (.aload_n 0, 1) := by decide +kernel
theorem dX5_know_23 : decode cX5_know 23 = .ok (.getfield 12, 3) := by decide +kernel
theorem dX5_know_26 : decode cX5_know 26 = .ok (.getfield 116, 3) := by decide +kernel
theorem dX5_know_29 : decode cX5_know 29 = .ok (.iload_n 2, 1) := by decide +kernel
theorem dX5_know_30 : decode cX5_know 30 = .ok (.iaload, 1) := by decide +kernel
theorem dX5_know_31 : decode cX5_know 31 = .ok (.iload_n 1, 1) := by decide +kernel
theorem dX5_know_32 : decode cX5_know 32 = .ok (.iushr, 1) := by decide +kernel
theorem dX5_know_33 : decode cX5_know 33 = .ok (.iconst 1, 1) := by decide +kernel
theorem dX5_know_34 : decode cX5_know 34 = .ok (.iand, 1) := by decide +kernel
theorem dX5_know_35 : decode cX5_know 35 = .ok (.istore 4, 2) := by decide +kernel
theorem dX5_know_37 : decode cX5_know 37 = .ok (.aload_n 0, 1) := by decide +kernel
theorem dX5_know_38 : decode cX5_know 38 = .ok (.getfield 12, 3) := by decide +kernel
theorem dX5_know_41 : decode cX5_know 41 = .ok (.iload_n 1, 1) := by decide +kernel
theorem dX5_know_42 : decode cX5_know 42 = .ok (.iload_n 2, 1) := by decide +kernel
theorem dX5_know_43 : decode cX5_know 43 = .ok (.iload_n 3, 1) := by decide +kernel
theorem dX5_know_44 : decode cX5_know 44 = .ok (.invokevirtual 119, 3) := by decide +kernel
theorem dX5_know_47 : decode cX5_know 47 = .ok (.iload 4, 2) := by decide +kernel
theorem dX5_know_49 : decode cX5_know 49 = .ok (.ireturn, 1) := by decide +kernel
theorem dX5_known_0 : decode cX5_known 0 = .ok (.iload_n 1, 1) := by decide +kernel
theorem dX5_known_1 : decode cX5_known 1 = .ok (.invokestatic 113, 3) := by decide +kernel
theorem dX5_known_4 : decode cX5_known 4 = .ok (.ifCond .eq 15, 3) := by decide +kernel
theorem dX5_known_7 : decode cX5_known 7 = .ok (.aload_n 0, 1) := by decide +kernel
theorem dX5_known_8 : decode cX5_known 8 = .ok (.getfield 12, 3) := by decide +kernel
theorem dX5_known_11 : decode cX5_known 11 = .ok (.getfield 116, 3) := by decide +kernel
theorem dX5_known_14 : decode cX5_known 14 = .ok (.iload_n 1, 1) := by decide +kernel
theorem dX5_known_15 : decode cX5_known 15 = .ok (.iaload, 1) := by decide +kernel
theorem dX5_known_16 : decode cX5_known 16 = .ok (.goto 9, 3) := by decide +kernel
theorem dX5_known_19 : decode cX5_known 19 = .ok (.aload_n 0, 1) := by decide +kernel
theorem dX5_known_20 : decode cX5_known 20 = .ok (.ldc 65, 2) := by decide +kernel
theorem dX5_known_22 : decode cX5_known 22 = .ok (.invokevirtual 66, 3) := by decide +kernel
theorem dX5_known_25 : decode cX5_known 25 = .ok (.ireturn, 1) := by decide +kernel
theorem dX5_ofSize_0 : decode cX5_ofSize 0 = .ok (.iload_n 1, 1) := by decide +kernel
theorem dX5_ofSize_1 : decode cX5_ofSize 1 = .ok (.iconst 1, 1) := by decide +kernel
theorem dX5_ofSize_2 : decode cX5_ofSize 2 = .ok (.if_icmp .lt 8, 3) := by decide +kernel
theorem dX5_ofSize_5 : decode cX5_ofSize 5 = .ok (.iload_n 1, 1) := by decide +kernel
theorem dX5_ofSize_6 : decode cX5_ofSize 6 = .ok (.iconst 4, 1) := by decide +kernel
theorem dX5_ofSize_7 : decode cX5_ofSize 7 = .ok (.if_icmp .le 10, 3) := by decide +kernel
theorem dX5_ofSize_10 : decode cX5_ofSize 10 = .ok (.aload_n 0, 1) := by decide +kernel
theorem dX5_ofSize_11 : decode cX5_ofSize 11 = .ok (.ldc 65, 2) := by decide +kernel
theorem dX5_ofSize_13 : decode cX5_ofSize 13 = .ok (.invokevirtual 66, 3) := by decide +kernel
theorem dX5_ofSize_16 : decode cX5_ofSize 16 = .ok (.ireturn, 1) := by decide +kernel
theorem dX5_ofSize_17 : decode cX5_ofSize 17 = .ok (.iconst 0, 1) := by decide +kernel
theorem dX5_ofSize_18 : decode cX5_ofSize 18 = .ok (.istore_n 2, 1) := by decide +kernel
theorem dX5_ofSize_19 : decode cX5_ofSize 19 = .ok (.iconst 0, 1) := by decide +kernel
theorem dX5_ofSize_20 : decode cX5_ofSize 20 = .ok (.istore_n 3, 1) := by decide +kernel
theorem dX5_ofSize_21 : decode cX5_ofSize 21 = .ok (.iload_n 3, 1) := by decide +kernel
theorem dX5_ofSize_22 : decode cX5_ofSize 22 = .ok (.aload_n 0, 1) := by decide +kernel
theorem dX5_ofSize_23 : decode cX5_ofSize 23 = .ok (.getfield 12, 3) := by decide +kernel
theorem dX5_ofSize_26 : decode cX5_ofSize 26 = .ok (.getfield 90, 3) := by decide +kernel
theorem dX5_ofSize_29 : decode cX5_ofSize 29 = .ok (.if_icmp .ge 28, 3) := by decide +kernel
theorem dX5_ofSize_32 : decode cX5_ofSize 32 = .ok (.aload_n 0, 1) := by decide +kernel
theorem dX5_ofSize_33 : decode cX5_ofSize 33 = .ok (.getfield 12, 3) := by decide +kernel
theorem dX5_ofSize_36 : decode cX5_ofSize 36 = .ok (.getfield 99, 3) := by decide +kernel
theorem dX5_ofSize_39 : decode cX5_ofSize 39 = .ok (.iload_n 3, 1) := by decide +kernel
theorem dX5_ofSize_40 : decode cX5_ofSize 40 = .ok (.iaload, 1) := by decide +kernel
theorem dX5_ofSize_41 : decode cX5_ofSize 41 = .ok (.iload_n 1, 1) := by decide +kernel
theorem dX5_ofSize_42 : decode cX5_ofSize 42 = .ok (.if_icmp .ne 9, 3) := by decide +kernel
theorem dX5_ofSize_45 : decode cX5_ofSize 45 = .ok (.iload_n 2, 1) := by decide +kernel
theorem dX5_ofSize_46 : decode cX5_ofSize 46 = .ok (.iconst 1, 1) := by decide +kernel
theorem dX5_ofSize_47 : decode cX5_ofSize 47 = .ok (.iload_n 3, 1) := by decide +kernel
theorem dX5_ofSize_48 : decode cX5_ofSize 48 = .ok (.ishl, 1) := by decide +kernel
theorem dX5_ofSize_49 : decode cX5_ofSize 49 = .ok (.ior, 1) := by decide +kernel
theorem dX5_ofSize_50 : decode cX5_ofSize 50 = .ok (.istore_n 2, 1) := by decide +kernel
theorem dX5_ofSize_51 : decode cX5_ofSize 51 = .ok (.iinc 3 1, 3) := by decide +kernel
theorem dX5_ofSize_54 : decode cX5_ofSize 54 = .ok (.goto (-33), 3) := by decide +kernel
theorem dX5_ofSize_57 : decode cX5_ofSize 57 = .ok (.iload_n 2, 1) := by decide +kernel
theorem dX5_ofSize_58 : decode cX5_ofSize 58 = .ok (.ireturn, 1) := by decide +kernel
theorem dX5_tells_0 : decode cX5_tells 0 = .ok (.iload_n 1, 1) := by decide +kernel
theorem dX5_tells_1 : decode cX5_tells 1 = .ok (.invokestatic 123, 3) := by decide +kernel
theorem dX5_tells_4 : decode cX5_tells 4 = .ok (.ifCond .eq 18, 3) := by decide +kernel
theorem dX5_tells_7 : decode cX5_tells 7 = .ok (.iload_n 2, 1) := by decide +kernel
theorem dX5_tells_8 : decode cX5_tells 8 = .ok (.invokestatic 106, 3) := by decide +kernel
theorem dX5_tells_11 : decode cX5_tells 11 = .ok (.ifCond .eq 11, 3) := by decide +kernel
theorem dX5_tells_14 : decode cX5_tells 14 = .ok (.aload_n 0, 1) := by decide +kernel
theorem dX5_tells_15 : decode cX5_tells 15 = .ok (.iload_n 3, 1) := by decide +kernel
theorem dX5_tells_16 : decode cX5_tells 16 = .ok (.invokevirtual 96, 3) := by decide +kernel
theorem dX5_tells_19 : decode cX5_tells 19 = .ok (.ifCond .ne 10, 3) := by decide +kernel
theorem dX5_tells_22 : decode cX5_tells 22 = .ok (.aload_n 0, 1) := by decide +kernel
theorem dX5_tells_23 : decode cX5_tells 23 = .ok (.ldc 65, 2) := by decide +kernel
theorem dX5_tells_25 : decode cX5_tells 25 = .ok (.invokevirtual 66, 3) := by decide +kernel
theorem dX5_tells_28 : decode cX5_tells 28 = .ok (.ireturn, 1) := by decide +kernel
theorem dX5_tells_29 : decode cX5_tells 29 = .ok (.aload_n 0, 1) := by decide +kernel
theorem dX5_tells_30 : decode cX5_tells 30 = .ok (.getfield 12, 3) := by decide +kernel
theorem dX5_tells_33 : decode cX5_tells 33 = .ok (.iload_n 1, 1) := by decide +kernel
theorem dX5_tells_34 : decode cX5_tells 34 = .ok (.iload_n 2, 1) := by decide +kernel
theorem dX5_tells_35 : decode cX5_tells 35 = .ok (.iload_n 3, 1) := by decide +kernel
theorem dX5_tells_36 : decode cX5_tells 36 = .ok (.invokevirtual 126, 3) := by decide +kernel
theorem dX5_tells_39 : decode cX5_tells 39 = .ok (.ireturn, 1) := by decide +kernel
theorem dX5_takes_0 : decode cX5_takes 0 = .ok (.iload_n 1, 1) := by decide +kernel
theorem dX5_takes_1 : decode cX5_takes 1 = .ok (.invokestatic 123, 3) := by decide +kernel
theorem dX5_takes_4 : decode cX5_takes 4 = .ok (.ifCond .eq 10, 3) := by decide +kernel
theorem dX5_takes_7 : decode cX5_takes 7 = .ok (.iload_n 2, 1) := by decide +kernel
theorem dX5_takes_8 : decode cX5_takes 8 = .ok (.invokestatic 106, 3) := by decide +kernel
theorem dX5_takes_11 : decode cX5_takes 11 = .ok (.ifCond .ne 10, 3) := by decide +kernel
theorem dX5_takes_14 : decode cX5_takes 14 = .ok (.aload_n 0, 1) := by decide +kernel
theorem dX5_takes_15 : decode cX5_takes 15 = .ok (.ldc 65, 2) := by decide +kernel
theorem dX5_takes_17 : decode cX5_takes 17 = .ok (.invokevirtual 66, 3) := by decide +kernel
theorem dX5_takes_20 : decode cX5_takes 20 = .ok (.ireturn, 1) := by decide +kernel
theorem dX5_takes_21 : decode cX5_takes 21 = .ok (.iload_n 1, 1) := by decide +kernel
theorem dX5_takes_22 : decode cX5_takes 22 = .ok (.iload_n 2, 1) := by decide +kernel
theorem dX5_takes_23 : decode cX5_takes 23 = .ok (.invokestatic 129, 3) := by decide +kernel
theorem dX5_takes_26 : decode cX5_takes 26 = .ok (.invokestatic 132, 3) := by decide +kernel
theorem dX5_takes_29 : decode cX5_takes 29 = .ok (.ireturn, 1) := by decide +kernel
theorem dX5_parts_0 : decode cX5_parts 0 = .ok (.iload_n 1, 1) := by decide +kernel
theorem dX5_parts_1 : decode cX5_parts 1 = .ok (.invokestatic 123, 3) := by decide +kernel
theorem dX5_parts_4 : decode cX5_parts 4 = .ok (.ifCond .eq 18, 3) := by decide +kernel
theorem dX5_parts_7 : decode cX5_parts 7 = .ok (.iload_n 2, 1) := by decide +kernel
theorem dX5_parts_8 : decode cX5_parts 8 = .ok (.invokestatic 106, 3) := by decide +kernel
theorem dX5_parts_11 : decode cX5_parts 11 = .ok (.ifCond .eq 11, 3) := by decide +kernel
theorem dX5_parts_14 : decode cX5_parts 14 = .ok (.aload_n 0, 1) := by decide +kernel
theorem dX5_parts_15 : decode cX5_parts 15 = .ok (.iload_n 3, 1) := by decide +kernel
theorem dX5_parts_16 : decode cX5_parts 16 = .ok (.invokevirtual 135, 3) := by decide +kernel
theorem dX5_parts_19 : decode cX5_parts 19 = .ok (.ifCond .ne 10, 3) := by decide +kernel
theorem dX5_parts_22 : decode cX5_parts 22 = .ok (.aload_n 0, 1) := by decide +kernel
theorem dX5_parts_23 : decode cX5_parts 23 = .ok (.ldc 65, 2) := by decide +kernel
theorem dX5_parts_25 : decode cX5_parts 25 = .ok (.invokevirtual 66, 3) := by decide +kernel
theorem dX5_parts_28 : decode cX5_parts 28 = .ok (.ireturn, 1) := by decide +kernel
theorem dX5_parts_29 : decode cX5_parts 29 = .ok (.aload_n 0, 1) := by decide +kernel
theorem dX5_parts_30 : decode cX5_parts 30 = .ok (.getfield 25, 3) := by decide +kernel
theorem dX5_parts_33 : decode cX5_parts 33 = .ok (.aload_n 0, 1) := by decide +kernel
theorem dX5_parts_34 : decode cX5_parts 34 = .ok (.getfield 12, 3) := by decide +kernel
theorem dX5_parts_37 : decode cX5_parts 37 = .ok (.invokevirtual 138, 3) := by decide +kernel
theorem dX5_parts_40 : decode cX5_parts 40 = .ok (.aload_n 0, 1) := by decide +kernel
theorem dX5_parts_41 : decode cX5_parts 41 = .ok (.getfield 25, 3) := by decide +kernel
theorem dX5_parts_44 : decode cX5_parts 44 = .ok (.iload_n 1, 1) := by decide +kernel
theorem dX5_parts_45 : decode cX5_parts 45 = .ok (.iload_n 2, 1) := by decide +kernel
theorem dX5_parts_46 : decode cX5_parts 46 = .ok (.invokestatic 129, 3) := by decide +kernel
theorem dX5_parts_49 : decode cX5_parts 49 = .ok (.iload_n 3, 1) := by decide +kernel
theorem dX5_parts_50 : decode cX5_parts 50 = .ok (.invokevirtual 142, 3) := by decide +kernel
theorem dX5_parts_53 : decode cX5_parts 53 = .ok (.ireturn, 1) := by decide +kernel
theorem dX5_worst_0 : decode cX5_worst 0 = .ok (.iload_n 1, 1) := by decide +kernel
theorem dX5_worst_1 : decode cX5_worst 1 = .ok (.invokestatic 123, 3) := by decide +kernel
theorem dX5_worst_4 : decode cX5_worst 4 = .ok (.ifCond .eq 18, 3) := by decide +kernel
theorem dX5_worst_7 : decode cX5_worst 7 = .ok (.iload_n 2, 1) := by decide +kernel
theorem dX5_worst_8 : decode cX5_worst 8 = .ok (.invokestatic 106, 3) := by decide +kernel
theorem dX5_worst_11 : decode cX5_worst 11 = .ok (.ifCond .eq 11, 3) := by decide +kernel
theorem dX5_worst_14 : decode cX5_worst 14 = .ok (.aload_n 0, 1) := by decide +kernel
theorem dX5_worst_15 : decode cX5_worst 15 = .ok (.iload_n 3, 1) := by decide +kernel
theorem dX5_worst_16 : decode cX5_worst 16 = .ok (.invokevirtual 135, 3) := by decide +kernel
theorem dX5_worst_19 : decode cX5_worst 19 = .ok (.ifCond .ne 10, 3) := by decide +kernel
theorem dX5_worst_22 : decode cX5_worst 22 = .ok (.aload_n 0, 1) := by decide +kernel
theorem dX5_worst_23 : decode cX5_worst 23 = .ok (.ldc 65, 2) := by decide +kernel
theorem dX5_worst_25 : decode cX5_worst 25 = .ok (.invokevirtual 66, 3) := by decide +kernel
theorem dX5_worst_28 : decode cX5_worst 28 = .ok (.ireturn, 1) := by decide +kernel
theorem dX5_worst_29 : decode cX5_worst 29 = .ok (.aload_n 0, 1) := by decide +kernel
theorem dX5_worst_30 : decode cX5_worst 30 = .ok (.getfield 25, 3) := by decide +kernel
theorem dX5_worst_33 : decode cX5_worst 33 = .ok (.aload_n 0, 1) := by decide +kernel
theorem dX5_worst_34 : decode cX5_worst 34 = .ok (.getfield 12, 3) := by decide +kernel
theorem dX5_worst_37 : decode cX5_worst 37 = .ok (.invokevirtual 138, 3) := by decide +kernel
theorem dX5_worst_40 : decode cX5_worst 40 = .ok (.aload_n 0, 1) := by decide +kernel
theorem dX5_worst_41 : decode cX5_worst 41 = .ok (.getfield 25, 3) := by decide +kernel
theorem dX5_worst_44 : decode cX5_worst 44 = .ok (.iload_n 1, 1) := by decide +kernel
theorem dX5_worst_45 : decode cX5_worst 45 = .ok (.iload_n 2, 1) := by decide +kernel
theorem dX5_worst_46 : decode cX5_worst 46 = .ok (.invokestatic 129, 3) := by decide +kernel
theorem dX5_worst_49 : decode cX5_worst 49 = .ok (.iload_n 1, 1) := by decide +kernel
theorem dX5_worst_50 : decode cX5_worst 50 = .ok (.iload_n 2, 1) := by decide +kernel
theorem dX5_worst_51 : decode cX5_worst 51 = .ok (.invokestatic 129, 3) := by decide +kernel
theorem dX5_worst_54 : decode cX5_worst 54 = .ok (.iload_n 3, 1) := by decide +kernel
theorem dX5_worst_55 : decode cX5_worst 55 = .ok (.invokevirtual 145, 3) := by decide +kernel
theorem dX5_worst_58 : decode cX5_worst 58 = .ok (.ireturn, 1) := by decide +kernel
theorem dX5_sum_0 : decode cX5_sum 0 = .ok (.iload_n 1, 1) := by decide +kernel
theorem dX5_sum_1 : decode cX5_sum 1 = .ok (.invokestatic 123, 3) := by decide +kernel
theorem dX5_sum_4 : decode cX5_sum 4 = .ok (.ifCond .eq 18, 3) := by decide +kernel
theorem dX5_sum_7 : decode cX5_sum 7 = .ok (.iload_n 2, 1) := by decide +kernel
theorem dX5_sum_8 : decode cX5_sum 8 = .ok (.invokestatic 106, 3) := by decide +kernel
theorem dX5_sum_11 : decode cX5_sum 11 = .ok (.ifCond .eq 11, 3) := by decide +kernel
theorem dX5_sum_14 : decode cX5_sum 14 = .ok (.aload_n 0, 1) := by decide +kernel
theorem dX5_sum_15 : decode cX5_sum 15 = .ok (.iload_n 3, 1) := by decide +kernel
theorem dX5_sum_16 : decode cX5_sum 16 = .ok (.invokevirtual 135, 3) := by decide +kernel
theorem dX5_sum_19 : decode cX5_sum 19 = .ok (.ifCond .ne 10, 3) := by decide +kernel
theorem dX5_sum_22 : decode cX5_sum 22 = .ok (.aload_n 0, 1) := by decide +kernel
theorem dX5_sum_23 : decode cX5_sum 23 = .ok (.ldc 65, 2) := by decide +kernel
theorem dX5_sum_25 : decode cX5_sum 25 = .ok (.invokevirtual 66, 3) := by decide +kernel
theorem dX5_sum_28 : decode cX5_sum 28 = .ok (.ireturn, 1) := by decide +kernel
theorem dX5_sum_29 : decode cX5_sum 29 = .ok (.aload_n 0, 1) := by decide +kernel
theorem dX5_sum_30 : decode cX5_sum 30 = .ok (.getfield 25, 3) := by decide +kernel
theorem dX5_sum_33 : decode cX5_sum 33 = .ok (.aload_n 0, 1) := by decide +kernel
theorem dX5_sum_34 : decode cX5_sum 34 = .ok (.getfield 12, 3) := by decide +kernel
theorem dX5_sum_37 : decode cX5_sum 37 = .ok (.invokevirtual 138, 3) := by decide +kernel
theorem dX5_sum_40 : decode cX5_sum 40 = .ok (.aload_n 0, 1) := by decide +kernel
theorem dX5_sum_41 : decode cX5_sum 41 = .ok (.getfield 25, 3) := by decide +kernel
theorem dX5_sum_44 : decode cX5_sum 44 = .ok (.iload_n 1, 1) := by decide +kernel
theorem dX5_sum_45 : decode cX5_sum 45 = .ok (.iload_n 2, 1) := by decide +kernel
theorem dX5_sum_46 : decode cX5_sum 46 = .ok (.invokestatic 129, 3) := by decide +kernel
theorem dX5_sum_49 : decode cX5_sum 49 = .ok (.iload_n 3, 1) := by decide +kernel
theorem dX5_sum_50 : decode cX5_sum 50 = .ok (.invokevirtual 148, 3) := by decide +kernel
theorem dX5_sum_53 : decode cX5_sum 53 = .ok (.ireturn, 1) := by decide +kernel
theorem dX5_slip_0 : decode cX5_slip 0 = .ok (.aload_n 0, 1) := by decide +kernel
theorem dX5_slip_1 : decode cX5_slip 1 = .ok (.iload_n 1, 1) := by decide +kernel
theorem dX5_slip_2 : decode cX5_slip 2 = .ok (.invokevirtual 96, 3) := by decide +kernel
theorem dX5_slip_5 : decode cX5_slip 5 = .ok (.ifCond .eq 10, 3) := by decide +kernel
theorem dX5_slip_8 : decode cX5_slip 8 = .ok (.iload_n 2, 1) := by decide +kernel
theorem dX5_slip_9 : decode cX5_slip 9 = .ok (.invokestatic 113, 3) := by decide +kernel
theorem dX5_slip_12 : decode cX5_slip 12 = .ok (.ifCond .ne 10, 3) := by decide +kernel
theorem dX5_slip_15 : decode cX5_slip 15 = .ok (.aload_n 0, 1) := by decide +kernel
theorem dX5_slip_16 : decode cX5_slip 16 = .ok (.ldc 65, 2) := by decide +kernel
theorem dX5_slip_18 : decode cX5_slip 18 = .ok (.invokevirtual 66, 3) := by decide +kernel
theorem dX5_slip_21 : decode cX5_slip 21 = .ok (.ireturn, 1) := by decide +kernel
theorem dX5_slip_22 : decode cX5_slip 22 = .ok (.aload_n 0, 1) := by decide +kernel
theorem dX5_slip_23 : decode cX5_slip 23 = .ok (.iload_n 2, 1) := by decide +kernel
theorem dX5_slip_24 : decode cX5_slip 24 = .ok (.iload_n 1, 1) := by decide +kernel
theorem dX5_slip_25 : decode cX5_slip 25 = .ok (.invokevirtual 151, 3) := by decide +kernel
theorem dX5_slip_28 : decode cX5_slip 28 = .ok (.ifCond .ne 10, 3) := by decide +kernel
theorem dX5_slip_31 : decode cX5_slip 31 = .ok (.aload_n 0, 1) := by decide +kernel
theorem dX5_slip_32 : decode cX5_slip 32 = .ok (.ldc 154, 2) := by decide +kernel
theorem dX5_slip_34 : decode cX5_slip 34 = .ok (.invokevirtual 66, 3) := by decide +kernel
theorem dX5_slip_37 : decode cX5_slip 37 = .ok (.ireturn, 1) := by decide +kernel
theorem dX5_slip_38 : decode cX5_slip 38 = .ok (.aload_n 0, 1) := by decide +kernel
theorem dX5_slip_39 : decode cX5_slip 39 = .ok (.getfield 12, 3) := by decide +kernel
theorem dX5_slip_42 : decode cX5_slip 42 = .ok (.getfield 155, 3) := by decide +kernel
theorem dX5_slip_45 : decode cX5_slip 45 = .ok (.iload_n 1, 1) := by decide +kernel
theorem dX5_slip_46 : decode cX5_slip 46 = .ok (.iload_n 2, 1) := by decide +kernel
theorem dX5_slip_47 : decode cX5_slip 47 = .ok (.aload_n 0, 1) := by decide +kernel
theorem dX5_slip_48 : decode cX5_slip 48 = .ok (.getfield 12, 3) := by decide +kernel
theorem dX5_slip_51 : decode cX5_slip 51 = .ok (.getfield 116, 3) := by decide +kernel
theorem dX5_slip_54 : decode cX5_slip 54 = .ok (.iload_n 2, 1) := by decide +kernel
theorem dX5_slip_55 : decode cX5_slip 55 = .ok (.iaload, 1) := by decide +kernel
theorem dX5_slip_56 : decode cX5_slip 56 = .ok (.invokevirtual 158, 3) := by decide +kernel
theorem dX5_slip_59 : decode cX5_slip 59 = .ok (.aload_n 0, 1) := by decide +kernel
theorem dX5_slip_60 : decode cX5_slip 60 = .ok (.getfield 12, 3) := by decide +kernel
theorem dX5_slip_63 : decode cX5_slip 63 = .ok (.getfield 155, 3) := by decide +kernel
theorem dX5_slip_66 : decode cX5_slip 66 = .ok (.getfield 162, 3) := by decide +kernel
theorem dX5_slip_69 : decode cX5_slip 69 = .ok (.invokestatic 165, 3) := by decide +kernel
theorem dX5_slip_72 : decode cX5_slip 72 = .ok (.ireturn, 1) := by decide +kernel
theorem dX5_show_0 : decode cX5_show 0 = .ok (.iload_n 1, 1) := by decide +kernel
theorem dX5_show_1 : decode cX5_show 1 = .ok (.invokestatic 123, 3) := by decide +kernel
theorem dX5_show_4 : decode cX5_show 4 = .ok (.ifCond .eq 10, 3) := by decide +kernel
theorem dX5_show_7 : decode cX5_show 7 = .ok (.iload_n 2, 1) := by decide +kernel
theorem dX5_show_8 : decode cX5_show 8 = .ok (.invokestatic 106, 3) := by decide +kernel
theorem dX5_show_11 : decode cX5_show 11 = .ok (.ifCond .ne 10, 3) := by decide +kernel
theorem dX5_show_14 : decode cX5_show 14 = .ok (.aload_n 0, 1) := by decide +kernel
theorem dX5_show_15 : decode cX5_show 15 = .ok (.ldc 65, 2) := by decide +kernel
theorem dX5_show_17 : decode cX5_show 17 = .ok (.invokevirtual 66, 3) := by decide +kernel
theorem dX5_show_20 : decode cX5_show 20 = .ok (.ireturn, 1) := by decide +kernel
theorem dX5_show_21 : decode cX5_show 21 = .ok (.aload_n 0, 1) := by decide +kernel
theorem dX5_show_22 : decode cX5_show 22 = .ok (.getfield 12, 3) := by decide +kernel
theorem dX5_show_25 : decode cX5_show 25 = .ok (.getfield 155, 3) := by decide +kernel
theorem dX5_show_28 : decode cX5_show 28 = .ok (.getfield 170, 3) := by decide +kernel
theorem dX5_show_31 : decode cX5_show 31 = .ok (.ifCond .ge 10, 3) := by decide +kernel
theorem dX5_show_34 : decode cX5_show 34 = .ok (.aload_n 0, 1) := by decide +kernel
theorem dX5_show_35 : decode cX5_show 35 = .ok (.ldc 109, 2) := by decide +kernel
theorem dX5_show_37 : decode cX5_show 37 = .ok (.invokevirtual 66, 3) := by decide +kernel
theorem dX5_show_40 : decode cX5_show 40 = .ok (.ireturn, 1) := by decide +kernel
theorem dX5_show_41 : decode cX5_show 41 = .ok (.iload_n 1, 1) := by decide +kernel
theorem dX5_show_42 : decode cX5_show 42 = .ok (.iload_n 2, 1) := by decide +kernel
theorem dX5_show_43 : decode cX5_show 43 = .ok (.invokestatic 129, 3) := by decide +kernel
theorem dX5_show_46 : decode cX5_show 46 = .ok (.istore_n 3, 1) := by decide +kernel
theorem dX5_show_47 : decode cX5_show 47 = .ok (.aload_n 0, 1) := by decide +kernel
theorem dX5_show_48 : decode cX5_show 48 = .ok (.getfield 12, 3) := by decide +kernel
theorem dX5_show_51 : decode cX5_show 51 = .ok (.getfield 155, 3) := by decide +kernel
theorem dX5_show_54 : decode cX5_show 54 = .ok (.getfield 173, 3) := by decide +kernel
theorem dX5_show_57 : decode cX5_show 57 = .ok (.iload_n 3, 1) := by decide +kernel
theorem dX5_show_58 : decode cX5_show 58 = .ok (.invokestatic 132, 3) := by decide +kernel
theorem dX5_show_61 : decode cX5_show 61 = .ok (.iadd, 1) := by decide +kernel
theorem dX5_show_62 : decode cX5_show 62 = .ok (.bipush 60, 2) := by decide +kernel
theorem dX5_show_64 : decode cX5_show 64 = .ok (.if_icmp .le 10, 3) := by decide +kernel
theorem dX5_show_67 : decode cX5_show 67 = .ok (.aload_n 0, 1) := by decide +kernel
theorem dX5_show_68 : decode cX5_show 68 = .ok (.ldc 154, 2) := by decide +kernel
theorem dX5_show_70 : decode cX5_show 70 = .ok (.invokevirtual 66, 3) := by decide +kernel
theorem dX5_show_73 : decode cX5_show 73 = .ok (.ireturn, 1) := by decide +kernel
theorem dX5_show_74 : decode cX5_show 74 = .ok (.aload_n 0, 1) := by decide +kernel
theorem dX5_show_75 : decode cX5_show 75 = .ok (.getfield 25, 3) := by decide +kernel
theorem dX5_show_78 : decode cX5_show 78 = .ok (.aload_n 0, 1) := by decide +kernel
theorem dX5_show_79 : decode cX5_show 79 = .ok (.getfield 12, 3) := by decide +kernel
theorem dX5_show_82 : decode cX5_show 82 = .ok (.invokevirtual 138, 3) := by decide +kernel
theorem dX5_show_85 : decode cX5_show 85 = .ok (.aload_n 0, 1) := by decide +kernel
theorem dX5_show_86 : decode cX5_show 86 = .ok (.getfield 12, 3) := by decide +kernel
theorem dX5_show_89 : decode cX5_show 89 = .ok (.getfield 155, 3) := by decide +kernel
theorem dX5_show_92 : decode cX5_show 92 = .ok (.aload_n 0, 1) := by decide +kernel
theorem dX5_show_93 : decode cX5_show 93 = .ok (.getfield 25, 3) := by decide +kernel
theorem dX5_show_96 : decode cX5_show 96 = .ok (.iload_n 3, 1) := by decide +kernel
theorem dX5_show_97 : decode cX5_show 97 = .ok (.aload_n 0, 1) := by decide +kernel
theorem dX5_show_98 : decode cX5_show 98 = .ok (.getfield 12, 3) := by decide +kernel
theorem dX5_show_101 : decode cX5_show 101 = .ok (.getfield 155, 3) := by decide +kernel
theorem dX5_show_104 : decode cX5_show 104 = .ok (.getfield 170, 3) := by decide +kernel
theorem dX5_show_107 : decode cX5_show 107 = .ok (.invokevirtual 176, 3) := by decide +kernel
theorem dX5_show_110 : decode cX5_show 110 = .ok (.iload_n 3, 1) := by decide +kernel
theorem dX5_show_111 : decode cX5_show 111 = .ok (.invokestatic 132, 3) := by decide +kernel
theorem dX5_show_114 : decode cX5_show 114 = .ok (.invokevirtual 179, 3) := by decide +kernel
theorem dX5_show_117 : decode cX5_show 117 = .ok (.aload_n 0, 1) := by decide +kernel
theorem dX5_show_118 : decode cX5_show 118 = .ok (.getfield 12, 3) := by decide +kernel
theorem dX5_show_121 : decode cX5_show 121 = .ok (.getfield 155, 3) := by decide +kernel
theorem dX5_show_124 : decode cX5_show 124 = .ok (.getfield 162, 3) := by decide +kernel
theorem dX5_show_127 : decode cX5_show 127 = .ok (.invokestatic 165, 3) := by decide +kernel
theorem dX5_show_130 : decode cX5_show 130 = .ok (.ireturn, 1) := by decide +kernel
theorem dX5_now_0 : decode cX5_now 0 = .ok (.iload_n 1, 1) := by decide +kernel
theorem dX5_now_1 : decode cX5_now 1 = .ok (.ifCond .lt 8, 3) := by decide +kernel
theorem dX5_now_4 : decode cX5_now 4 = .ok (.iload_n 1, 1) := by decide +kernel
theorem dX5_now_5 : decode cX5_now 5 = .ok (.iconst 5, 1) := by decide +kernel
theorem dX5_now_6 : decode cX5_now 6 = .ok (.if_icmp .le 10, 3) := by decide +kernel
theorem dX5_now_9 : decode cX5_now 9 = .ok (.aload_n 0, 1) := by decide +kernel
theorem dX5_now_10 : decode cX5_now 10 = .ok (.ldc 65, 2) := by decide +kernel
theorem dX5_now_12 : decode cX5_now 12 = .ok (.invokevirtual 66, 3) := by decide +kernel
theorem dX5_now_15 : decode cX5_now 15 = .ok (.ireturn, 1) := by decide +kernel
theorem dX5_now_16 : decode cX5_now 16 = .ok (.aload_n 0, 1) := by decide +kernel
theorem dX5_now_17 : decode cX5_now 17 = .ok (.getfield 12, 3) := by decide +kernel
theorem dX5_now_20 : decode cX5_now 20 = .ok (.getfield 155, 3) := by decide +kernel
theorem dX5_now_23 : decode cX5_now 23 = .ok (.getfield 170, 3) := by decide +kernel
theorem dX5_now_26 : decode cX5_now 26 = .ok (.ifCond .ge 10, 3) := by decide +kernel
theorem dX5_now_29 : decode cX5_now 29 = .ok (.aload_n 0, 1) := by decide +kernel
theorem dX5_now_30 : decode cX5_now 30 = .ok (.ldc 109, 2) := by decide +kernel
theorem dX5_now_32 : decode cX5_now 32 = .ok (.invokevirtual 66, 3) := by decide +kernel
theorem dX5_now_35 : decode cX5_now 35 = .ok (.ireturn, 1) := by decide +kernel
theorem dX5_now_36 : decode cX5_now 36 = .ok (.aload_n 0, 1) := by decide +kernel
theorem dX5_now_37 : decode cX5_now 37 = .ok (.getfield 12, 3) := by decide +kernel
theorem dX5_now_40 : decode cX5_now 40 = .ok (.getfield 155, 3) := by decide +kernel
theorem dX5_now_43 : decode cX5_now 43 = .ok (.iload_n 1, 1) := by decide +kernel
theorem dX5_now_44 : decode cX5_now 44 = .ok (.invokevirtual 183, 3) := by decide +kernel
theorem dX5_now_47 : decode cX5_now 47 = .ok (.ireturn, 1) := by decide +kernel
theorem dX5_shout_0 : decode cX5_shout 0 = .ok (.aload_n 0, 1) := by decide +kernel
theorem dX5_shout_1 : decode cX5_shout 1 = .ok (.iload_n 1, 1) := by decide +kernel
theorem dX5_shout_2 : decode cX5_shout 2 = .ok (.invokevirtual 96, 3) := by decide +kernel
theorem dX5_shout_5 : decode cX5_shout 5 = .ok (.ifCond .ne 10, 3) := by decide +kernel
theorem dX5_shout_8 : decode cX5_shout 8 = .ok (.aload_n 0, 1) := by decide +kernel
theorem dX5_shout_9 : decode cX5_shout 9 = .ok (.ldc 65, 2) := by decide +kernel
theorem dX5_shout_11 : decode cX5_shout 11 = .ok (.invokevirtual 66, 3) := by decide +kernel
theorem dX5_shout_14 : decode cX5_shout 14 = .ok (.ireturn, 1) := by decide +kernel
theorem dX5_shout_15 : decode cX5_shout 15 = .ok (.aload_n 0, 1) := by decide +kernel
theorem dX5_shout_16 : decode cX5_shout 16 = .ok (.getfield 12, 3) := by decide +kernel
theorem dX5_shout_19 : decode cX5_shout 19 = .ok (.getfield 155, 3) := by decide +kernel
theorem dX5_shout_22 : decode cX5_shout 22 = .ok (.getfield 170, 3) := by decide +kernel
theorem dX5_shout_25 : decode cX5_shout 25 = .ok (.ifCond .ge 10, 3) := by decide +kernel
theorem dX5_shout_28 : decode cX5_shout 28 = .ok (.aload_n 0, 1) := by decide +kernel
theorem dX5_shout_29 : decode cX5_shout 29 = .ok (.ldc 109, 2) := by decide +kernel
theorem dX5_shout_31 : decode cX5_shout 31 = .ok (.invokevirtual 66, 3) := by decide +kernel
theorem dX5_shout_34 : decode cX5_shout 34 = .ok (.ireturn, 1) := by decide +kernel
theorem dX5_shout_35 : decode cX5_shout 35 = .ok (.aload_n 0, 1) := by decide +kernel
theorem dX5_shout_36 : decode cX5_shout 36 = .ok (.getfield 12, 3) := by decide +kernel
theorem dX5_shout_39 : decode cX5_shout 39 = .ok (.getfield 155, 3) := by decide +kernel
theorem dX5_shout_42 : decode cX5_shout 42 = .ok (.getfield 162, 3) := by decide +kernel
theorem dX5_shout_45 : decode cX5_shout 45 = .ok (.iload_n 1, 1) := by decide +kernel
theorem dX5_shout_46 : decode cX5_shout 46 = .ok (.iushr, 1) := by decide +kernel
theorem dX5_shout_47 : decode cX5_shout 47 = .ok (.iconst 1, 1) := by decide +kernel
theorem dX5_shout_48 : decode cX5_shout 48 = .ok (.iand, 1) := by decide +kernel
theorem dX5_shout_49 : decode cX5_shout 49 = .ok (.ifCond .ne 10, 3) := by decide +kernel
theorem dX5_shout_52 : decode cX5_shout 52 = .ok (.aload_n 0, 1) := by decide +kernel
theorem dX5_shout_53 : decode cX5_shout 53 = .ok (.ldc 154, 2) := by decide +kernel
theorem dX5_shout_55 : decode cX5_shout 55 = .ok (.invokevirtual 66, 3) := by decide +kernel
theorem dX5_shout_58 : decode cX5_shout 58 = .ok (.ireturn, 1) := by decide +kernel
theorem dX5_shout_59 : decode cX5_shout 59 = .ok (.aload_n 0, 1) := by decide +kernel
theorem dX5_shout_60 : decode cX5_shout 60 = .ok (.getfield 12, 3) := by decide +kernel
theorem dX5_shout_63 : decode cX5_shout 63 = .ok (.getfield 155, 3) := by decide +kernel
theorem dX5_shout_66 : decode cX5_shout 66 = .ok (.iload_n 1, 1) := by decide +kernel
theorem dX5_shout_67 : decode cX5_shout 67 = .ok (.invokevirtual 186, 3) := by decide +kernel
theorem dX5_shout_70 : decode cX5_shout 70 = .ok (.aload_n 0, 1) := by decide +kernel
theorem dX5_shout_71 : decode cX5_shout 71 = .ok (.getfield 12, 3) := by decide +kernel
theorem dX5_shout_74 : decode cX5_shout 74 = .ok (.getfield 155, 3) := by decide +kernel
theorem dX5_shout_77 : decode cX5_shout 77 = .ok (.getfield 162, 3) := by decide +kernel
theorem dX5_shout_80 : decode cX5_shout 80 = .ok (.invokestatic 165, 3) := by decide +kernel
theorem dX5_shout_83 : decode cX5_shout 83 = .ok (.ireturn, 1) := by decide +kernel
theorem dX5_end_0 : decode cX5_end 0 = .ok (.aload_n 0, 1) := by decide +kernel
theorem dX5_end_1 : decode cX5_end 1 = .ok (.getfield 12, 3) := by decide +kernel
theorem dX5_end_4 : decode cX5_end 4 = .ok (.getfield 155, 3) := by decide +kernel
theorem dX5_end_7 : decode cX5_end 7 = .ok (.getfield 170, 3) := by decide +kernel
theorem dX5_end_10 : decode cX5_end 10 = .ok (.ifCond .ge 10, 3) := by decide +kernel
theorem dX5_end_13 : decode cX5_end 13 = .ok (.aload_n 0, 1) := by decide +kernel
theorem dX5_end_14 : decode cX5_end 14 = .ok (.ldc 109, 2) := by decide +kernel
theorem dX5_end_16 : decode cX5_end 16 = .ok (.invokevirtual 66, 3) := by decide +kernel
theorem dX5_end_19 : decode cX5_end 19 = .ok (.ireturn, 1) := by decide +kernel
theorem dX5_end_20 : decode cX5_end 20 = .ok (.aload_n 0, 1) := by decide +kernel
theorem dX5_end_21 : decode cX5_end 21 = .ok (.getfield 12, 3) := by decide +kernel
theorem dX5_end_24 : decode cX5_end 24 = .ok (.getfield 155, 3) := by decide +kernel
theorem dX5_end_27 : decode cX5_end 27 = .ok (.invokevirtual 190, 3) := by decide +kernel
theorem dX5_end_30 : decode cX5_end 30 = .ok (.istore_n 1, 1) := by decide +kernel
theorem dX5_end_31 : decode cX5_end 31 = .ok (.aload_n 0, 1) := by decide +kernel
theorem dX5_end_32 : decode cX5_end 32 = .ok (.getfield 12, 3) := by decide +kernel
theorem dX5_end_35 : decode cX5_end 35 = .ok (.getfield 194, 3) := by decide +kernel
theorem dX5_end_38 : decode cX5_end 38 = .ok (.aload_n 0, 1) := by decide +kernel
theorem dX5_end_39 : decode cX5_end 39 = .ok (.getfield 12, 3) := by decide +kernel
theorem dX5_end_42 : decode cX5_end 42 = .ok (.getfield 155, 3) := by decide +kernel
theorem dX5_end_45 : decode cX5_end 45 = .ok (.getfield 197, 3) := by decide +kernel
theorem dX5_end_48 : decode cX5_end 48 = .ok (.dup2, 1) := by decide +kernel
theorem dX5_end_49 : decode cX5_end 49 = .ok (.iaload, 1) := by decide +kernel
theorem dX5_end_50 : decode cX5_end 50 = .ok (.iload_n 1, 1) := by decide +kernel
theorem dX5_end_51 : decode cX5_end 51 = .ok (.iadd, 1) := by decide +kernel
theorem dX5_end_52 : decode cX5_end 52 = .ok (.iastore, 1) := by decide +kernel
theorem dX5_end_53 : decode cX5_end 53 = .ok (.aload_n 0, 1) := by decide +kernel
theorem dX5_end_54 : decode cX5_end 54 = .ok (.getfield 12, 3) := by decide +kernel
theorem dX5_end_57 : decode cX5_end 57 = .ok (.getfield 155, 3) := by decide +kernel
theorem dX5_end_60 : decode cX5_end 60 = .ok (.invokevirtual 200, 3) := by decide +kernel
theorem dX5_end_63 : decode cX5_end 63 = .ok (.iload_n 1, 1) := by decide +kernel
theorem dX5_end_64 : decode cX5_end 64 = .ok (.ireturn, 1) := by decide +kernel
theorem dX5_score_0 : decode cX5_score 0 = .ok (.iload_n 1, 1) := by decide +kernel
theorem dX5_score_1 : decode cX5_score 1 = .ok (.invokestatic 113, 3) := by decide +kernel
theorem dX5_score_4 : decode cX5_score 4 = .ok (.ifCond .eq 15, 3) := by decide +kernel
theorem dX5_score_7 : decode cX5_score 7 = .ok (.aload_n 0, 1) := by decide +kernel
theorem dX5_score_8 : decode cX5_score 8 = .ok (.getfield 12, 3) := by decide +kernel
theorem dX5_score_11 : decode cX5_score 11 = .ok (.getfield 194, 3) := by decide +kernel
theorem dX5_score_14 : decode cX5_score 14 = .ok (.iload_n 1, 1) := by decide +kernel
theorem dX5_score_15 : decode cX5_score 15 = .ok (.iaload, 1) := by decide +kernel
theorem dX5_score_16 : decode cX5_score 16 = .ok (.goto 9, 3) := by decide +kernel
theorem dX5_score_19 : decode cX5_score 19 = .ok (.aload_n 0, 1) := by decide +kernel
theorem dX5_score_20 : decode cX5_score 20 = .ok (.ldc 65, 2) := by decide +kernel
theorem dX5_score_22 : decode cX5_score 22 = .ok (.invokevirtual 66, 3) := by decide +kernel
theorem dX5_score_25 : decode cX5_score 25 = .ok (.ireturn, 1) := by decide +kernel
theorem dX5_best_0 : decode cX5_best 0 = .ok (.aload_n 0, 1) := by decide +kernel
theorem dX5_best_1 : decode cX5_best 1 = .ok (.iload_n 1, 1) := by decide +kernel
theorem dX5_best_2 : decode cX5_best 2 = .ok (.invokevirtual 135, 3) := by decide +kernel
theorem dX5_best_5 : decode cX5_best 5 = .ok (.ifCond .ne 10, 3) := by decide +kernel
theorem dX5_best_8 : decode cX5_best 8 = .ok (.aload_n 0, 1) := by decide +kernel
theorem dX5_best_9 : decode cX5_best 9 = .ok (.ldc 65, 2) := by decide +kernel
theorem dX5_best_11 : decode cX5_best 11 = .ok (.invokevirtual 66, 3) := by decide +kernel
theorem dX5_best_14 : decode cX5_best 14 = .ok (.ireturn, 1) := by decide +kernel
theorem dX5_best_15 : decode cX5_best 15 = .ok (.aload_n 0, 1) := by decide +kernel
theorem dX5_best_16 : decode cX5_best 16 = .ok (.getfield 25, 3) := by decide +kernel
theorem dX5_best_19 : decode cX5_best 19 = .ok (.aload_n 0, 1) := by decide +kernel
theorem dX5_best_20 : decode cX5_best 20 = .ok (.getfield 12, 3) := by decide +kernel
theorem dX5_best_23 : decode cX5_best 23 = .ok (.invokevirtual 138, 3) := by decide +kernel
theorem dX5_best_26 : decode cX5_best 26 = .ok (.aload_n 0, 1) := by decide +kernel
theorem dX5_best_27 : decode cX5_best 27 = .ok (.getfield 25, 3) := by decide +kernel
theorem dX5_best_30 : decode cX5_best 30 = .ok (.iload_n 1, 1) := by decide +kernel
theorem dX5_best_31 : decode cX5_best 31 = .ok (.bipush 60, 2) := by decide +kernel
theorem dX5_best_33 : decode cX5_best 33 = .ok (.iconst 0, 1) := by decide +kernel
theorem dX5_best_34 : decode cX5_best 34 = .ok (.invokevirtual 203, 3) := by decide +kernel
theorem dX5_best_37 : decode cX5_best 37 = .ok (.ireturn, 1) := by decide +kernel
theorem dX5_mean_0 : decode cX5_mean 0 = .ok (.aload_n 0, 1) := by decide +kernel
theorem dX5_mean_1 : decode cX5_mean 1 = .ok (.iload_n 1, 1) := by decide +kernel
theorem dX5_mean_2 : decode cX5_mean 2 = .ok (.invokevirtual 135, 3) := by decide +kernel
theorem dX5_mean_5 : decode cX5_mean 5 = .ok (.ifCond .ne 10, 3) := by decide +kernel
theorem dX5_mean_8 : decode cX5_mean 8 = .ok (.aload_n 0, 1) := by decide +kernel
theorem dX5_mean_9 : decode cX5_mean 9 = .ok (.ldc 65, 2) := by decide +kernel
theorem dX5_mean_11 : decode cX5_mean 11 = .ok (.invokevirtual 66, 3) := by decide +kernel
theorem dX5_mean_14 : decode cX5_mean 14 = .ok (.ireturn, 1) := by decide +kernel
theorem dX5_mean_15 : decode cX5_mean 15 = .ok (.aload_n 0, 1) := by decide +kernel
theorem dX5_mean_16 : decode cX5_mean 16 = .ok (.getfield 25, 3) := by decide +kernel
theorem dX5_mean_19 : decode cX5_mean 19 = .ok (.aload_n 0, 1) := by decide +kernel
theorem dX5_mean_20 : decode cX5_mean 20 = .ok (.getfield 12, 3) := by decide +kernel
theorem dX5_mean_23 : decode cX5_mean 23 = .ok (.invokevirtual 138, 3) := by decide +kernel
theorem dX5_mean_26 : decode cX5_mean 26 = .ok (.aload_n 0, 1) := by decide +kernel
theorem dX5_mean_27 : decode cX5_mean 27 = .ok (.getfield 25, 3) := by decide +kernel
theorem dX5_mean_30 : decode cX5_mean 30 = .ok (.iload_n 1, 1) := by decide +kernel
theorem dX5_mean_31 : decode cX5_mean 31 = .ok (.bipush 60, 2) := by decide +kernel
theorem dX5_mean_33 : decode cX5_mean 33 = .ok (.iconst 1, 1) := by decide +kernel
theorem dX5_mean_34 : decode cX5_mean 34 = .ok (.invokevirtual 203, 3) := by decide +kernel
theorem dX5_mean_37 : decode cX5_mean 37 = .ok (.ireturn, 1) := by decide +kernel
theorem dX5_two_0 : decode cX5_two 0 = .ok (.aload_n 0, 1) := by decide +kernel
theorem dX5_two_1 : decode cX5_two 1 = .ok (.iload_n 1, 1) := by decide +kernel
theorem dX5_two_2 : decode cX5_two 2 = .ok (.invokevirtual 135, 3) := by decide +kernel
theorem dX5_two_5 : decode cX5_two 5 = .ok (.ifCond .ne 10, 3) := by decide +kernel
theorem dX5_two_8 : decode cX5_two 8 = .ok (.aload_n 0, 1) := by decide +kernel
theorem dX5_two_9 : decode cX5_two 9 = .ok (.ldc 65, 2) := by decide +kernel
theorem dX5_two_11 : decode cX5_two 11 = .ok (.invokevirtual 66, 3) := by decide +kernel
theorem dX5_two_14 : decode cX5_two 14 = .ok (.ireturn, 1) := by decide +kernel
theorem dX5_two_15 : decode cX5_two 15 = .ok (.aload_n 0, 1) := by decide +kernel
theorem dX5_two_16 : decode cX5_two 16 = .ok (.getfield 25, 3) := by decide +kernel
theorem dX5_two_19 : decode cX5_two 19 = .ok (.aload_n 0, 1) := by decide +kernel
theorem dX5_two_20 : decode cX5_two 20 = .ok (.getfield 12, 3) := by decide +kernel
theorem dX5_two_23 : decode cX5_two 23 = .ok (.invokevirtual 138, 3) := by decide +kernel
theorem dX5_two_26 : decode cX5_two 26 = .ok (.aload_n 0, 1) := by decide +kernel
theorem dX5_two_27 : decode cX5_two 27 = .ok (.getfield 25, 3) := by decide +kernel
theorem dX5_two_30 : decode cX5_two 30 = .ok (.iload_n 1, 1) := by decide +kernel
theorem dX5_two_31 : decode cX5_two 31 = .ok (.invokevirtual 207, 3) := by decide +kernel
theorem dX5_two_34 : decode cX5_two 34 = .ok (.ireturn, 1) := by decide +kernel
theorem dX5_twoWorst_0 : decode cX5_twoWorst 0 = .ok (.aload_n 0, 1) := by decide +kernel
theorem dX5_twoWorst_1 : decode cX5_twoWorst 1 = .ok (.iload_n 1, 1) := by decide +kernel
theorem dX5_twoWorst_2 : decode cX5_twoWorst 2 = .ok (.invokevirtual 135, 3) := by decide +kernel
theorem dX5_twoWorst_5 : decode cX5_twoWorst 5 = .ok (.ifCond .ne 10, 3) := by decide +kernel
theorem dX5_twoWorst_8 : decode cX5_twoWorst 8 = .ok (.aload_n 0, 1) := by decide +kernel
theorem dX5_twoWorst_9 : decode cX5_twoWorst 9 = .ok (.ldc 65, 2) := by decide +kernel
theorem dX5_twoWorst_11 : decode cX5_twoWorst 11 = .ok (.invokevirtual 66, 3) := by decide +kernel
theorem dX5_twoWorst_14 : decode cX5_twoWorst 14 = .ok (.ireturn, 1) := by decide +kernel
theorem dX5_twoWorst_15 : decode cX5_twoWorst 15 = .ok (.aload_n 0, 1) := by decide +kernel
theorem dX5_twoWorst_16 : decode cX5_twoWorst 16 = .ok (.getfield 25, 3) := by decide +kernel
theorem dX5_twoWorst_19 : decode cX5_twoWorst 19 = .ok (.aload_n 0, 1) := by decide +kernel
theorem dX5_twoWorst_20 : decode cX5_twoWorst 20 = .ok (.getfield 12, 3) := by decide +kernel
theorem dX5_twoWorst_23 : decode cX5_twoWorst 23 = .ok (.invokevirtual 138, 3) := by decide +kernel
theorem dX5_twoWorst_26 : decode cX5_twoWorst 26 = .ok (.aload_n 0, 1) := by decide +kernel
theorem dX5_twoWorst_27 : decode cX5_twoWorst 27 = .ok (.getfield 25, 3) := by decide +kernel
theorem dX5_twoWorst_30 : decode cX5_twoWorst 30 = .ok (.iload_n 1, 1) := by decide +kernel
theorem dX5_twoWorst_31 : decode cX5_twoWorst 31 = .ok (.invokevirtual 207, 3) := by decide +kernel
theorem dX5_twoWorst_34 : decode cX5_twoWorst 34 = .ok (.istore_n 2, 1) := by decide +kernel
theorem dX5_twoWorst_35 : decode cX5_twoWorst 35 = .ok (.aload_n 0, 1) := by decide +kernel
theorem dX5_twoWorst_36 : decode cX5_twoWorst 36 = .ok (.getfield 25, 3) := by decide +kernel
theorem dX5_twoWorst_39 : decode cX5_twoWorst 39 = .ok (.iload_n 2, 1) := by decide +kernel
theorem dX5_twoWorst_40 : decode cX5_twoWorst 40 = .ok (.bipush 100, 2) := by decide +kernel
theorem dX5_twoWorst_42 : decode cX5_twoWorst 42 = .ok (.idiv, 1) := by decide +kernel
theorem dX5_twoWorst_43 : decode cX5_twoWorst 43 = .ok (.iload_n 2, 1) := by decide +kernel
theorem dX5_twoWorst_44 : decode cX5_twoWorst 44 = .ok (.bipush 100, 2) := by decide +kernel
theorem dX5_twoWorst_46 : decode cX5_twoWorst 46 = .ok (.irem, 1) := by decide +kernel
theorem dX5_twoWorst_47 : decode cX5_twoWorst 47 = .ok (.iload_n 1, 1) := by decide +kernel
theorem dX5_twoWorst_48 : decode cX5_twoWorst 48 = .ok (.invokevirtual 145, 3) := by decide +kernel
theorem dX5_twoWorst_51 : decode cX5_twoWorst 51 = .ok (.ireturn, 1) := by decide +kernel
theorem dX5_quick_0 : decode cX5_quick 0 = .ok (.aload_n 0, 1) := by decide +kernel
theorem dX5_quick_1 : decode cX5_quick 1 = .ok (.iload_n 1, 1) := by decide +kernel
theorem dX5_quick_2 : decode cX5_quick 2 = .ok (.invokevirtual 135, 3) := by decide +kernel
theorem dX5_quick_5 : decode cX5_quick 5 = .ok (.ifCond .eq 13, 3) := by decide +kernel
theorem dX5_quick_8 : decode cX5_quick 8 = .ok (.iload_n 2, 1) := by decide +kernel
theorem dX5_quick_9 : decode cX5_quick 9 = .ok (.ifCond .lt 9, 3) := by decide +kernel
theorem dX5_quick_12 : decode cX5_quick 12 = .ok (.iload_n 2, 1) := by decide +kernel
theorem dX5_quick_13 : decode cX5_quick 13 = .ok (.bipush 60, 2) := by decide +kernel
theorem dX5_quick_15 : decode cX5_quick 15 = .ok (.if_icmp .le 10, 3) := by decide +kernel
theorem dX5_quick_18 : decode cX5_quick 18 = .ok (.aload_n 0, 1) := by decide +kernel
theorem dX5_quick_19 : decode cX5_quick 19 = .ok (.ldc 65, 2) := by decide +kernel
theorem dX5_quick_21 : decode cX5_quick 21 = .ok (.invokevirtual 66, 3) := by decide +kernel
theorem dX5_quick_24 : decode cX5_quick 24 = .ok (.ireturn, 1) := by decide +kernel
theorem dX5_quick_25 : decode cX5_quick 25 = .ok (.aload_n 0, 1) := by decide +kernel
theorem dX5_quick_26 : decode cX5_quick 26 = .ok (.getfield 25, 3) := by decide +kernel
theorem dX5_quick_29 : decode cX5_quick 29 = .ok (.aload_n 0, 1) := by decide +kernel
theorem dX5_quick_30 : decode cX5_quick 30 = .ok (.getfield 12, 3) := by decide +kernel
theorem dX5_quick_33 : decode cX5_quick 33 = .ok (.invokevirtual 138, 3) := by decide +kernel
theorem dX5_quick_36 : decode cX5_quick 36 = .ok (.aload_n 0, 1) := by decide +kernel
theorem dX5_quick_37 : decode cX5_quick 37 = .ok (.getfield 25, 3) := by decide +kernel
theorem dX5_quick_40 : decode cX5_quick 40 = .ok (.iload_n 1, 1) := by decide +kernel
theorem dX5_quick_41 : decode cX5_quick 41 = .ok (.iload_n 2, 1) := by decide +kernel
theorem dX5_quick_42 : decode cX5_quick 42 = .ok (.iconst 0, 1) := by decide +kernel
theorem dX5_quick_43 : decode cX5_quick 43 = .ok (.invokevirtual 203, 3) := by decide +kernel
theorem dX5_quick_46 : decode cX5_quick 46 = .ok (.istore_n 3, 1) := by decide +kernel
theorem dX5_quick_47 : decode cX5_quick 47 = .ok (.iload_n 3, 1) := by decide +kernel
theorem dX5_quick_48 : decode cX5_quick 48 = .ok (.ifCond .ge 12, 3) := by decide +kernel
theorem dX5_quick_51 : decode cX5_quick 51 = .ok (.aload_n 0, 1) := by decide +kernel
theorem dX5_quick_52 : decode cX5_quick 52 = .ok (.ldc 109, 2) := by decide +kernel
theorem dX5_quick_54 : decode cX5_quick 54 = .ok (.invokevirtual 66, 3) := by decide +kernel
theorem dX5_quick_57 : decode cX5_quick 57 = .ok (.goto 4, 3) := by decide +kernel
theorem dX5_quick_60 : decode cX5_quick 60 = .ok (.iload_n 3, 1) := by decide +kernel
theorem dX5_quick_61 : decode cX5_quick 61 = .ok (.ireturn, 1) := by decide +kernel
theorem dX5_fewest_0 : decode cX5_fewest 0 = .ok (.aload_n 0, 1) := by decide +kernel
theorem dX5_fewest_1 : decode cX5_fewest 1 = .ok (.iload_n 2, 1) := by decide +kernel
theorem dX5_fewest_2 : decode cX5_fewest 2 = .ok (.invokevirtual 135, 3) := by decide +kernel
theorem dX5_fewest_5 : decode cX5_fewest 5 = .ok (.ifCond .eq 19, 3) := by decide +kernel
theorem dX5_fewest_8 : decode cX5_fewest 8 = .ok (.aload_n 0, 1) := by decide +kernel
theorem dX5_fewest_9 : decode cX5_fewest 9 = .ok (.iload_n 1, 1) := by decide +kernel
theorem dX5_fewest_10 : decode cX5_fewest 10 = .ok (.invokevirtual 96, 3) := by decide +kernel
theorem dX5_fewest_13 : decode cX5_fewest 13 = .ok (.ifCond .eq 11, 3) := by decide +kernel
theorem dX5_fewest_16 : decode cX5_fewest 16 = .ok (.iload_n 2, 1) := by decide +kernel
theorem dX5_fewest_17 : decode cX5_fewest 17 = .ok (.iload_n 1, 1) := by decide +kernel
theorem dX5_fewest_18 : decode cX5_fewest 18 = .ok (.iushr, 1) := by decide +kernel
theorem dX5_fewest_19 : decode cX5_fewest 19 = .ok (.iconst 1, 1) := by decide +kernel
theorem dX5_fewest_20 : decode cX5_fewest 20 = .ok (.iand, 1) := by decide +kernel
theorem dX5_fewest_21 : decode cX5_fewest 21 = .ok (.ifCond .ne 10, 3) := by decide +kernel
theorem dX5_fewest_24 : decode cX5_fewest 24 = .ok (.aload_n 0, 1) := by decide +kernel
theorem dX5_fewest_25 : decode cX5_fewest 25 = .ok (.ldc 65, 2) := by decide +kernel
theorem dX5_fewest_27 : decode cX5_fewest 27 = .ok (.invokevirtual 66, 3) := by decide +kernel
theorem dX5_fewest_30 : decode cX5_fewest 30 = .ok (.ireturn, 1) := by decide +kernel
theorem dX5_fewest_31 : decode cX5_fewest 31 = .ok (.aload_n 0, 1) := by decide +kernel
theorem dX5_fewest_32 : decode cX5_fewest 32 = .ok (.getfield 25, 3) := by decide +kernel
theorem dX5_fewest_35 : decode cX5_fewest 35 = .ok (.aload_n 0, 1) := by decide +kernel
theorem dX5_fewest_36 : decode cX5_fewest 36 = .ok (.getfield 12, 3) := by decide +kernel
theorem dX5_fewest_39 : decode cX5_fewest 39 = .ok (.invokevirtual 138, 3) := by decide +kernel
theorem dX5_fewest_42 : decode cX5_fewest 42 = .ok (.aload_n 0, 1) := by decide +kernel
theorem dX5_fewest_43 : decode cX5_fewest 43 = .ok (.getfield 25, 3) := by decide +kernel
theorem dX5_fewest_46 : decode cX5_fewest 46 = .ok (.iload_n 1, 1) := by decide +kernel
theorem dX5_fewest_47 : decode cX5_fewest 47 = .ok (.iload_n 2, 1) := by decide +kernel
theorem dX5_fewest_48 : decode cX5_fewest 48 = .ok (.invokevirtual 210, 3) := by decide +kernel
theorem dX5_fewest_51 : decode cX5_fewest 51 = .ok (.istore_n 3, 1) := by decide +kernel
theorem dX5_fewest_52 : decode cX5_fewest 52 = .ok (.iload_n 3, 1) := by decide +kernel
theorem dX5_fewest_53 : decode cX5_fewest 53 = .ok (.iconst 4, 1) := by decide +kernel
theorem dX5_fewest_54 : decode cX5_fewest 54 = .ok (.if_icmp .ne 12, 3) := by decide +kernel
theorem dX5_fewest_57 : decode cX5_fewest 57 = .ok (.aload_n 0, 1) := by decide +kernel
theorem dX5_fewest_58 : decode cX5_fewest 58 = .ok (.ldc 109, 2) := by decide +kernel
theorem dX5_fewest_60 : decode cX5_fewest 60 = .ok (.invokevirtual 66, 3) := by decide +kernel
theorem dX5_fewest_63 : decode cX5_fewest 63 = .ok (.goto 4, 3) := by decide +kernel
theorem dX5_fewest_66 : decode cX5_fewest 66 = .ok (.iload_n 3, 1) := by decide +kernel
theorem dX5_fewest_67 : decode cX5_fewest 67 = .ok (.ireturn, 1) := by decide +kernel
theorem dX5_seconds_0 : decode cX5_seconds 0 = .ok (.aload_n 0, 1) := by decide +kernel
theorem dX5_seconds_1 : decode cX5_seconds 1 = .ok (.iload_n 2, 1) := by decide +kernel
theorem dX5_seconds_2 : decode cX5_seconds 2 = .ok (.invokevirtual 135, 3) := by decide +kernel
theorem dX5_seconds_5 : decode cX5_seconds 5 = .ok (.ifCond .eq 19, 3) := by decide +kernel
theorem dX5_seconds_8 : decode cX5_seconds 8 = .ok (.aload_n 0, 1) := by decide +kernel
theorem dX5_seconds_9 : decode cX5_seconds 9 = .ok (.iload_n 1, 1) := by decide +kernel
theorem dX5_seconds_10 : decode cX5_seconds 10 = .ok (.invokevirtual 96, 3) := by decide +kernel
theorem dX5_seconds_13 : decode cX5_seconds 13 = .ok (.ifCond .eq 11, 3) := by decide +kernel
theorem dX5_seconds_16 : decode cX5_seconds 16 = .ok (.iload_n 2, 1) := by decide +kernel
theorem dX5_seconds_17 : decode cX5_seconds 17 = .ok (.iload_n 1, 1) := by decide +kernel
theorem dX5_seconds_18 : decode cX5_seconds 18 = .ok (.iushr, 1) := by decide +kernel
theorem dX5_seconds_19 : decode cX5_seconds 19 = .ok (.iconst 1, 1) := by decide +kernel
theorem dX5_seconds_20 : decode cX5_seconds 20 = .ok (.iand, 1) := by decide +kernel
theorem dX5_seconds_21 : decode cX5_seconds 21 = .ok (.ifCond .ne 10, 3) := by decide +kernel
theorem dX5_seconds_24 : decode cX5_seconds 24 = .ok (.aload_n 0, 1) := by decide +kernel
theorem dX5_seconds_25 : decode cX5_seconds 25 = .ok (.ldc 65, 2) := by decide +kernel
theorem dX5_seconds_27 : decode cX5_seconds 27 = .ok (.invokevirtual 66, 3) := by decide +kernel
theorem dX5_seconds_30 : decode cX5_seconds 30 = .ok (.ireturn, 1) := by decide +kernel
theorem dX5_seconds_31 : decode cX5_seconds 31 = .ok (.aload_n 0, 1) := by decide +kernel
theorem dX5_seconds_32 : decode cX5_seconds 32 = .ok (.getfield 25, 3) := by decide +kernel
theorem dX5_seconds_35 : decode cX5_seconds 35 = .ok (.aload_n 0, 1) := by decide +kernel
theorem dX5_seconds_36 : decode cX5_seconds 36 = .ok (.getfield 12, 3) := by decide +kernel
theorem dX5_seconds_39 : decode cX5_seconds 39 = .ok (.invokevirtual 138, 3) := by decide +kernel
theorem dX5_seconds_42 : decode cX5_seconds 42 = .ok (.aload_n 0, 1) := by decide +kernel
theorem dX5_seconds_43 : decode cX5_seconds 43 = .ok (.getfield 25, 3) := by decide +kernel
theorem dX5_seconds_46 : decode cX5_seconds 46 = .ok (.iload_n 1, 1) := by decide +kernel
theorem dX5_seconds_47 : decode cX5_seconds 47 = .ok (.iload_n 2, 1) := by decide +kernel
theorem dX5_seconds_48 : decode cX5_seconds 48 = .ok (.invokevirtual 213, 3) := by decide +kernel
theorem dX5_seconds_51 : decode cX5_seconds 51 = .ok (.istore_n 3, 1) := by decide +kernel
theorem dX5_seconds_52 : decode cX5_seconds 52 = .ok (.iload_n 3, 1) := by decide +kernel
theorem dX5_seconds_53 : decode cX5_seconds 53 = .ok (.ifCond .ge 12, 3) := by decide +kernel
theorem dX5_seconds_56 : decode cX5_seconds 56 = .ok (.aload_n 0, 1) := by decide +kernel
theorem dX5_seconds_57 : decode cX5_seconds 57 = .ok (.ldc 109, 2) := by decide +kernel
theorem dX5_seconds_59 : decode cX5_seconds 59 = .ok (.invokevirtual 66, 3) := by decide +kernel
theorem dX5_seconds_62 : decode cX5_seconds 62 = .ok (.goto 4, 3) := by decide +kernel
theorem dX5_seconds_65 : decode cX5_seconds 65 = .ok (.iload_n 3, 1) := by decide +kernel
theorem dX5_seconds_66 : decode cX5_seconds 66 = .ok (.ireturn, 1) := by decide +kernel
theorem dX5_hardest_0 : decode cX5_hardest 0 = .ok (.aload_n 0, 1) := by decide +kernel
theorem dX5_hardest_1 : decode cX5_hardest 1 = .ok (.iload_n 1, 1) := by decide +kernel
theorem dX5_hardest_2 : decode cX5_hardest 2 = .ok (.invokevirtual 135, 3) := by decide +kernel
theorem dX5_hardest_5 : decode cX5_hardest 5 = .ok (.ifCond .ne 10, 3) := by decide +kernel
theorem dX5_hardest_8 : decode cX5_hardest 8 = .ok (.aload_n 0, 1) := by decide +kernel
theorem dX5_hardest_9 : decode cX5_hardest 9 = .ok (.ldc 65, 2) := by decide +kernel
theorem dX5_hardest_11 : decode cX5_hardest 11 = .ok (.invokevirtual 66, 3) := by decide +kernel
theorem dX5_hardest_14 : decode cX5_hardest 14 = .ok (.ireturn, 1) := by decide +kernel
theorem dX5_hardest_15 : decode cX5_hardest 15 = .ok (.iload_n 1, 1) := by decide +kernel
theorem dX5_hardest_16 : decode cX5_hardest 16 = .ok (.ifCond .ne 10, 3) := by decide +kernel
theorem dX5_hardest_19 : decode cX5_hardest 19 = .ok (.aload_n 0, 1) := by decide +kernel
theorem dX5_hardest_20 : decode cX5_hardest 20 = .ok (.ldc 109, 2) := by decide +kernel
theorem dX5_hardest_22 : decode cX5_hardest 22 = .ok (.invokevirtual 66, 3) := by decide +kernel
theorem dX5_hardest_25 : decode cX5_hardest 25 = .ok (.ireturn, 1) := by decide +kernel
theorem dX5_hardest_26 : decode cX5_hardest 26 = .ok (.aload_n 0, 1) := by decide +kernel
theorem dX5_hardest_27 : decode cX5_hardest 27 = .ok (.getfield 25, 3) := by decide +kernel
theorem dX5_hardest_30 : decode cX5_hardest 30 = .ok (.aload_n 0, 1) := by decide +kernel
theorem dX5_hardest_31 : decode cX5_hardest 31 = .ok (.getfield 12, 3) := by decide +kernel
theorem dX5_hardest_34 : decode cX5_hardest 34 = .ok (.invokevirtual 138, 3) := by decide +kernel
theorem dX5_hardest_37 : decode cX5_hardest 37 = .ok (.iconst (-1), 1) := by decide +kernel
theorem dX5_hardest_38 : decode cX5_hardest 38 = .ok (.istore_n 2, 1) := by decide +kernel
theorem dX5_hardest_39 : decode cX5_hardest 39 = .ok (.iconst (-1), 1) := by decide +kernel
theorem dX5_hardest_40 : decode cX5_hardest 40 = .ok (.istore_n 3, 1) := by decide +kernel
theorem dX5_hardest_41 : decode cX5_hardest 41 = .ok (.iconst 0, 1) := by decide +kernel
theorem dX5_hardest_42 : decode cX5_hardest 42 = .ok (.istore 4, 2) := by decide +kernel
theorem dX5_hardest_44 : decode cX5_hardest 44 = .ok (.iload 4, 2) := by decide +kernel
theorem dX5_hardest_46 : decode cX5_hardest 46 = .ok (.aload_n 0, 1) := by decide +kernel
theorem dX5_hardest_47 : decode cX5_hardest 47 = .ok (.getfield 12, 3) := by decide +kernel
theorem dX5_hardest_50 : decode cX5_hardest 50 = .ok (.getfield 90, 3) := by decide +kernel
theorem dX5_hardest_53 : decode cX5_hardest 53 = .ok (.if_icmp .ge 46, 3) := by decide +kernel
theorem dX5_hardest_56 : decode cX5_hardest 56 = .ok (.iload_n 1, 1) := by decide +kernel
theorem dX5_hardest_57 : decode cX5_hardest 57 = .ok (.iload 4, 2) := by decide +kernel
theorem dX5_hardest_59 : decode cX5_hardest 59 = .ok (.iushr, 1) := by decide +kernel
theorem dX5_hardest_60 : decode cX5_hardest 60 = .ok (.iconst 1, 1) := by decide +kernel
theorem dX5_hardest_61 : decode cX5_hardest 61 = .ok (.iand, 1) := by decide +kernel
theorem dX5_hardest_62 : decode cX5_hardest 62 = .ok (.ifCond .ne 7, 3) := by decide +kernel
theorem dX5_hardest_65 : decode cX5_hardest 65 = .ok (.iconst (-1), 1) := by decide +kernel
theorem dX5_hardest_66 : decode cX5_hardest 66 = .ok (.goto 13, 3) := by decide +kernel
theorem dX5_hardest_69 : decode cX5_hardest 69 = .ok (.aload_n 0, 1) := by decide +kernel
theorem dX5_hardest_70 : decode cX5_hardest 70 = .ok (.getfield 25, 3) := by decide +kernel
theorem dX5_hardest_73 : decode cX5_hardest 73 = .ok (.iload 4, 2) := by decide +kernel
theorem dX5_hardest_75 : decode cX5_hardest 75 = .ok (.iload_n 1, 1) := by decide +kernel
theorem dX5_hardest_76 : decode cX5_hardest 76 = .ok (.invokevirtual 210, 3) := by decide +kernel
theorem dX5_hardest_79 : decode cX5_hardest 79 = .ok (.istore 5, 2) := by decide +kernel
theorem dX5_hardest_81 : decode cX5_hardest 81 = .ok (.iload 5, 2) := by decide +kernel
theorem dX5_hardest_83 : decode cX5_hardest 83 = .ok (.iload_n 3, 1) := by decide +kernel
theorem dX5_hardest_84 : decode cX5_hardest 84 = .ok (.if_icmp .le 9, 3) := by decide +kernel
theorem dX5_hardest_87 : decode cX5_hardest 87 = .ok (.iload 5, 2) := by decide +kernel
theorem dX5_hardest_89 : decode cX5_hardest 89 = .ok (.istore_n 3, 1) := by decide +kernel
theorem dX5_hardest_90 : decode cX5_hardest 90 = .ok (.iload 4, 2) := by decide +kernel
theorem dX5_hardest_92 : decode cX5_hardest 92 = .ok (.istore_n 2, 1) := by decide +kernel
theorem dX5_hardest_93 : decode cX5_hardest 93 = .ok (.iinc 4 1, 3) := by decide +kernel
theorem dX5_hardest_96 : decode cX5_hardest 96 = .ok (.goto (-52), 3) := by decide +kernel
theorem dX5_hardest_99 : decode cX5_hardest 99 = .ok (.iload_n 2, 1) := by decide +kernel
theorem dX5_hardest_100 : decode cX5_hardest 100 = .ok (.ireturn, 1) := by decide +kernel
theorem dX5_alike_0 : decode cX5_alike 0 = .ok (.aload_n 0, 1) := by decide +kernel
theorem dX5_alike_1 : decode cX5_alike 1 = .ok (.iload_n 1, 1) := by decide +kernel
theorem dX5_alike_2 : decode cX5_alike 2 = .ok (.invokevirtual 135, 3) := by decide +kernel
theorem dX5_alike_5 : decode cX5_alike 5 = .ok (.ifCond .ne 10, 3) := by decide +kernel
theorem dX5_alike_8 : decode cX5_alike 8 = .ok (.aload_n 0, 1) := by decide +kernel
theorem dX5_alike_9 : decode cX5_alike 9 = .ok (.ldc 65, 2) := by decide +kernel
theorem dX5_alike_11 : decode cX5_alike 11 = .ok (.invokevirtual 66, 3) := by decide +kernel
theorem dX5_alike_14 : decode cX5_alike 14 = .ok (.ireturn, 1) := by decide +kernel
theorem dX5_alike_15 : decode cX5_alike 15 = .ok (.aload_n 0, 1) := by decide +kernel
theorem dX5_alike_16 : decode cX5_alike 16 = .ok (.getfield 25, 3) := by decide +kernel
theorem dX5_alike_19 : decode cX5_alike 19 = .ok (.aload_n 0, 1) := by decide +kernel
theorem dX5_alike_20 : decode cX5_alike 20 = .ok (.getfield 12, 3) := by decide +kernel
theorem dX5_alike_23 : decode cX5_alike 23 = .ok (.invokevirtual 138, 3) := by decide +kernel
theorem dX5_alike_26 : decode cX5_alike 26 = .ok (.iconst 0, 1) := by decide +kernel
theorem dX5_alike_27 : decode cX5_alike 27 = .ok (.istore_n 2, 1) := by decide +kernel
theorem dX5_alike_28 : decode cX5_alike 28 = .ok (.iconst 0, 1) := by decide +kernel
theorem dX5_alike_29 : decode cX5_alike 29 = .ok (.istore_n 3, 1) := by decide +kernel
theorem dX5_alike_30 : decode cX5_alike 30 = .ok (.iload_n 3, 1) := by decide +kernel
theorem dX5_alike_31 : decode cX5_alike 31 = .ok (.aload_n 0, 1) := by decide +kernel
theorem dX5_alike_32 : decode cX5_alike 32 = .ok (.getfield 12, 3) := by decide +kernel
theorem dX5_alike_35 : decode cX5_alike 35 = .ok (.getfield 90, 3) := by decide +kernel
theorem dX5_alike_38 : decode cX5_alike 38 = .ok (.if_icmp .ge 36, 3) := by decide +kernel
theorem dX5_alike_41 : decode cX5_alike 41 = .ok (.iload_n 1, 1) := by decide +kernel
theorem dX5_alike_42 : decode cX5_alike 42 = .ok (.iload_n 3, 1) := by decide +kernel
theorem dX5_alike_43 : decode cX5_alike 43 = .ok (.iushr, 1) := by decide +kernel
theorem dX5_alike_44 : decode cX5_alike 44 = .ok (.iconst 1, 1) := by decide +kernel
theorem dX5_alike_45 : decode cX5_alike 45 = .ok (.iand, 1) := by decide +kernel
theorem dX5_alike_46 : decode cX5_alike 46 = .ok (.ifCond .eq 22, 3) := by decide +kernel
theorem dX5_alike_49 : decode cX5_alike 49 = .ok (.iload_n 2, 1) := by decide +kernel
theorem dX5_alike_50 : decode cX5_alike 50 = .ok (.aload_n 0, 1) := by decide +kernel
theorem dX5_alike_51 : decode cX5_alike 51 = .ok (.getfield 25, 3) := by decide +kernel
theorem dX5_alike_54 : decode cX5_alike 54 = .ok (.iload_n 3, 1) := by decide +kernel
theorem dX5_alike_55 : decode cX5_alike 55 = .ok (.iload_n 1, 1) := by decide +kernel
theorem dX5_alike_56 : decode cX5_alike 56 = .ok (.invokevirtual 216, 3) := by decide +kernel
theorem dX5_alike_59 : decode cX5_alike 59 = .ok (.iload_n 3, 1) := by decide +kernel
theorem dX5_alike_60 : decode cX5_alike 60 = .ok (.iushr, 1) := by decide +kernel
theorem dX5_alike_61 : decode cX5_alike 61 = .ok (.invokestatic 165, 3) := by decide +kernel
theorem dX5_alike_64 : decode cX5_alike 64 = .ok (.iconst 1, 1) := by decide +kernel
theorem dX5_alike_65 : decode cX5_alike 65 = .ok (.isub, 1) := by decide +kernel
theorem dX5_alike_66 : decode cX5_alike 66 = .ok (.iadd, 1) := by decide +kernel
theorem dX5_alike_67 : decode cX5_alike 67 = .ok (.istore_n 2, 1) := by decide +kernel
theorem dX5_alike_68 : decode cX5_alike 68 = .ok (.iinc 3 1, 3) := by decide +kernel
theorem dX5_alike_71 : decode cX5_alike 71 = .ok (.goto (-41), 3) := by decide +kernel
theorem dX5_alike_74 : decode cX5_alike 74 = .ok (.iload_n 2, 1) := by decide +kernel
theorem dX5_alike_75 : decode cX5_alike 75 = .ok (.ireturn, 1) := by decide +kernel
theorem dX5_like_0 : decode cX5_like 0 = .ok (.aload_n 0, 1) := by decide +kernel
theorem dX5_like_1 : decode cX5_like 1 = .ok (.iload_n 1, 1) := by decide +kernel
theorem dX5_like_2 : decode cX5_like 2 = .ok (.invokevirtual 79, 3) := by decide +kernel
theorem dX5_like_5 : decode cX5_like 5 = .ok (.ifCond .ne 10, 3) := by decide +kernel
theorem dX5_like_8 : decode cX5_like 8 = .ok (.aload_n 0, 1) := by decide +kernel
theorem dX5_like_9 : decode cX5_like 9 = .ok (.ldc 65, 2) := by decide +kernel
theorem dX5_like_11 : decode cX5_like 11 = .ok (.invokevirtual 66, 3) := by decide +kernel
theorem dX5_like_14 : decode cX5_like 14 = .ok (.ireturn, 1) := by decide +kernel
theorem dX5_like_15 : decode cX5_like 15 = .ok (.iconst (-1), 1) := by decide +kernel
theorem dX5_like_16 : decode cX5_like 16 = .ok (.istore_n 2, 1) := by decide +kernel
theorem dX5_like_17 : decode cX5_like 17 = .ok (.bipush 6, 2) := by decide +kernel
theorem dX5_like_19 : decode cX5_like 19 = .ok (.istore_n 3, 1) := by decide +kernel
theorem dX5_like_20 : decode cX5_like 20 = .ok (.iconst 0, 1) := by decide +kernel
theorem dX5_like_21 : decode cX5_like 21 = .ok (.istore 4, 2) := by decide +kernel
theorem dX5_like_23 : decode cX5_like 23 = .ok (.iload 4, 2) := by decide +kernel
theorem dX5_like_25 : decode cX5_like 25 = .ok (.aload_n 0, 1) := by decide +kernel
theorem dX5_like_26 : decode cX5_like 26 = .ok (.getfield 12, 3) := by decide +kernel
theorem dX5_like_29 : decode cX5_like 29 = .ok (.getfield 70, 3) := by decide +kernel
theorem dX5_like_32 : decode cX5_like 32 = .ok (.if_icmp .ge 74, 3) := by decide +kernel
theorem dX5_like_35 : decode cX5_like 35 = .ok (.aload_n 0, 1) := by decide +kernel
theorem dX5_like_36 : decode cX5_like 36 = .ok (.getfield 12, 3) := by decide +kernel
theorem dX5_like_39 : decode cX5_like 39 = .ok (.getfield 219, 3) := by decide +kernel
theorem dX5_like_42 : decode cX5_like 42 = .ok (.iload 4, 2) := by decide +kernel
theorem dX5_like_44 : decode cX5_like 44 = .ok (.iaload, 1) := by decide +kernel
theorem dX5_like_45 : decode cX5_like 45 = .ok (.aload_n 0, 1) := by decide +kernel
theorem dX5_like_46 : decode cX5_like 46 = .ok (.getfield 12, 3) := by decide +kernel
theorem dX5_like_49 : decode cX5_like 49 = .ok (.getfield 219, 3) := by decide +kernel
theorem dX5_like_52 : decode cX5_like 52 = .ok (.iload_n 1, 1) := by decide +kernel
theorem dX5_like_53 : decode cX5_like 53 = .ok (.iaload, 1) := by decide +kernel
theorem dX5_like_54 : decode cX5_like 54 = .ok (.isub, 1) := by decide +kernel
theorem dX5_like_55 : decode cX5_like 55 = .ok (.invokestatic 222, 3) := by decide +kernel
theorem dX5_like_58 : decode cX5_like 58 = .ok (.istore 5, 2) := by decide +kernel
theorem dX5_like_60 : decode cX5_like 60 = .ok (.iload 4, 2) := by decide +kernel
theorem dX5_like_62 : decode cX5_like 62 = .ok (.iload_n 1, 1) := by decide +kernel
theorem dX5_like_63 : decode cX5_like 63 = .ok (.if_icmp .eq 37, 3) := by decide +kernel
theorem dX5_like_66 : decode cX5_like 66 = .ok (.aload_n 0, 1) := by decide +kernel
theorem dX5_like_67 : decode cX5_like 67 = .ok (.getfield 12, 3) := by decide +kernel
theorem dX5_like_70 : decode cX5_like 70 = .ok (.getfield 227, 3) := by decide +kernel
theorem dX5_like_73 : decode cX5_like 73 = .ok (.iload 4, 2) := by decide +kernel
theorem dX5_like_75 : decode cX5_like 75 = .ok (.iaload, 1) := by decide +kernel
theorem dX5_like_76 : decode cX5_like 76 = .ok (.aload_n 0, 1) := by decide +kernel
theorem dX5_like_77 : decode cX5_like 77 = .ok (.getfield 12, 3) := by decide +kernel
theorem dX5_like_80 : decode cX5_like 80 = .ok (.getfield 227, 3) := by decide +kernel
theorem dX5_like_83 : decode cX5_like 83 = .ok (.iload_n 1, 1) := by decide +kernel
theorem dX5_like_84 : decode cX5_like 84 = .ok (.iaload, 1) := by decide +kernel
theorem dX5_like_85 : decode cX5_like 85 = .ok (.if_icmp .ne 15, 3) := by decide +kernel
theorem dX5_like_88 : decode cX5_like 88 = .ok (.iload 5, 2) := by decide +kernel
theorem dX5_like_90 : decode cX5_like 90 = .ok (.iload_n 3, 1) := by decide +kernel
theorem dX5_like_91 : decode cX5_like 91 = .ok (.if_icmp .ge 9, 3) := by decide +kernel
theorem dX5_like_94 : decode cX5_like 94 = .ok (.iload 5, 2) := by decide +kernel
theorem dX5_like_96 : decode cX5_like 96 = .ok (.istore_n 3, 1) := by decide +kernel
theorem dX5_like_97 : decode cX5_like 97 = .ok (.iload 4, 2) := by decide +kernel
theorem dX5_like_99 : decode cX5_like 99 = .ok (.istore_n 2, 1) := by decide +kernel
theorem dX5_like_100 : decode cX5_like 100 = .ok (.iinc 4 1, 3) := by decide +kernel
theorem dX5_like_103 : decode cX5_like 103 = .ok (.goto (-80), 3) := by decide +kernel
theorem dX5_like_106 : decode cX5_like 106 = .ok (.iload_n 2, 1) := by decide +kernel
theorem dX5_like_107 : decode cX5_like 107 = .ok (.ifCond .ge 12, 3) := by decide +kernel
theorem dX5_like_110 : decode cX5_like 110 = .ok (.aload_n 0, 1) := by decide +kernel
theorem dX5_like_111 : decode cX5_like 111 = .ok (.ldc 109, 2) := by decide +kernel
theorem dX5_like_113 : decode cX5_like 113 = .ok (.invokevirtual 66, 3) := by decide +kernel
theorem dX5_like_116 : decode cX5_like 116 = .ok (.goto 4, 3) := by decide +kernel
theorem dX5_like_119 : decode cX5_like 119 = .ok (.iload_n 2, 1) := by decide +kernel
theorem dX5_like_120 : decode cX5_like 120 = .ok (.ireturn, 1) := by decide +kernel
theorem dX5_sense_0 : decode cX5_sense 0 = .ok (.aload_n 0, 1) := by decide +kernel
theorem dX5_sense_1 : decode cX5_sense 1 = .ok (.iload_n 1, 1) := by decide +kernel
theorem dX5_sense_2 : decode cX5_sense 2 = .ok (.invokevirtual 79, 3) := by decide +kernel
theorem dX5_sense_5 : decode cX5_sense 5 = .ok (.ifCond .ne 10, 3) := by decide +kernel
theorem dX5_sense_8 : decode cX5_sense 8 = .ok (.aload_n 0, 1) := by decide +kernel
theorem dX5_sense_9 : decode cX5_sense 9 = .ok (.ldc 65, 2) := by decide +kernel
theorem dX5_sense_11 : decode cX5_sense 11 = .ok (.invokevirtual 66, 3) := by decide +kernel
theorem dX5_sense_14 : decode cX5_sense 14 = .ok (.ireturn, 1) := by decide +kernel
theorem dX5_sense_15 : decode cX5_sense 15 = .ok (.iconst 0, 1) := by decide +kernel
theorem dX5_sense_16 : decode cX5_sense 16 = .ok (.istore_n 2, 1) := by decide +kernel
theorem dX5_sense_17 : decode cX5_sense 17 = .ok (.iconst 0, 1) := by decide +kernel
theorem dX5_sense_18 : decode cX5_sense 18 = .ok (.istore_n 3, 1) := by decide +kernel
theorem dX5_sense_19 : decode cX5_sense 19 = .ok (.iload_n 3, 1) := by decide +kernel
theorem dX5_sense_20 : decode cX5_sense 20 = .ok (.aload_n 0, 1) := by decide +kernel
theorem dX5_sense_21 : decode cX5_sense 21 = .ok (.getfield 12, 3) := by decide +kernel
theorem dX5_sense_24 : decode cX5_sense 24 = .ok (.getfield 70, 3) := by decide +kernel
theorem dX5_sense_27 : decode cX5_sense 27 = .ok (.if_icmp .ge 36, 3) := by decide +kernel
theorem dX5_sense_30 : decode cX5_sense 30 = .ok (.aload_n 0, 1) := by decide +kernel
theorem dX5_sense_31 : decode cX5_sense 31 = .ok (.getfield 12, 3) := by decide +kernel
theorem dX5_sense_34 : decode cX5_sense 34 = .ok (.getfield 230, 3) := by decide +kernel
theorem dX5_sense_37 : decode cX5_sense 37 = .ok (.iload_n 3, 1) := by decide +kernel
theorem dX5_sense_38 : decode cX5_sense 38 = .ok (.iaload, 1) := by decide +kernel
theorem dX5_sense_39 : decode cX5_sense 39 = .ok (.aload_n 0, 1) := by decide +kernel
theorem dX5_sense_40 : decode cX5_sense 40 = .ok (.getfield 12, 3) := by decide +kernel
theorem dX5_sense_43 : decode cX5_sense 43 = .ok (.getfield 230, 3) := by decide +kernel
theorem dX5_sense_46 : decode cX5_sense 46 = .ok (.iload_n 1, 1) := by decide +kernel
theorem dX5_sense_47 : decode cX5_sense 47 = .ok (.iaload, 1) := by decide +kernel
theorem dX5_sense_48 : decode cX5_sense 48 = .ok (.if_icmp .ne 9, 3) := by decide +kernel
theorem dX5_sense_51 : decode cX5_sense 51 = .ok (.iload_n 2, 1) := by decide +kernel
theorem dX5_sense_52 : decode cX5_sense 52 = .ok (.iconst 1, 1) := by decide +kernel
theorem dX5_sense_53 : decode cX5_sense 53 = .ok (.iload_n 3, 1) := by decide +kernel
theorem dX5_sense_54 : decode cX5_sense 54 = .ok (.ishl, 1) := by decide +kernel
theorem dX5_sense_55 : decode cX5_sense 55 = .ok (.ior, 1) := by decide +kernel
theorem dX5_sense_56 : decode cX5_sense 56 = .ok (.istore_n 2, 1) := by decide +kernel
theorem dX5_sense_57 : decode cX5_sense 57 = .ok (.iinc 3 1, 3) := by decide +kernel
theorem dX5_sense_60 : decode cX5_sense 60 = .ok (.goto (-41), 3) := by decide +kernel
theorem dX5_sense_63 : decode cX5_sense 63 = .ok (.iload_n 2, 1) := by decide +kernel
theorem dX5_sense_64 : decode cX5_sense 64 = .ok (.ireturn, 1) := by decide +kernel
theorem dX5_length_0 : decode cX5_length 0 = .ok (.aload_n 0, 1) := by decide +kernel
theorem dX5_length_1 : decode cX5_length 1 = .ok (.iload_n 1, 1) := by decide +kernel
theorem dX5_length_2 : decode cX5_length 2 = .ok (.invokevirtual 96, 3) := by decide +kernel
theorem dX5_length_5 : decode cX5_length 5 = .ok (.ifCond .ne 10, 3) := by decide +kernel
theorem dX5_length_8 : decode cX5_length 8 = .ok (.aload_n 0, 1) := by decide +kernel
theorem dX5_length_9 : decode cX5_length 9 = .ok (.ldc 65, 2) := by decide +kernel
theorem dX5_length_11 : decode cX5_length 11 = .ok (.invokevirtual 66, 3) := by decide +kernel
theorem dX5_length_14 : decode cX5_length 14 = .ok (.ireturn, 1) := by decide +kernel
theorem dX5_length_15 : decode cX5_length 15 = .ok (.iconst 0, 1) := by decide +kernel
theorem dX5_length_16 : decode cX5_length 16 = .ok (.istore_n 2, 1) := by decide +kernel
theorem dX5_length_17 : decode cX5_length 17 = .ok (.iconst 0, 1) := by decide +kernel
theorem dX5_length_18 : decode cX5_length 18 = .ok (.istore_n 3, 1) := by decide +kernel
theorem dX5_length_19 : decode cX5_length 19 = .ok (.iload_n 3, 1) := by decide +kernel
theorem dX5_length_20 : decode cX5_length 20 = .ok (.aload_n 0, 1) := by decide +kernel
theorem dX5_length_21 : decode cX5_length 21 = .ok (.getfield 12, 3) := by decide +kernel
theorem dX5_length_24 : decode cX5_length 24 = .ok (.getfield 99, 3) := by decide +kernel
theorem dX5_length_27 : decode cX5_length 27 = .ok (.iload_n 1, 1) := by decide +kernel
theorem dX5_length_28 : decode cX5_length 28 = .ok (.iaload, 1) := by decide +kernel
theorem dX5_length_29 : decode cX5_length 29 = .ok (.if_icmp .ge 29, 3) := by decide +kernel
theorem dX5_length_32 : decode cX5_length 32 = .ok (.iload_n 2, 1) := by decide +kernel
theorem dX5_length_33 : decode cX5_length 33 = .ok (.aload_n 0, 1) := by decide +kernel
theorem dX5_length_34 : decode cX5_length 34 = .ok (.getfield 12, 3) := by decide +kernel
theorem dX5_length_37 : decode cX5_length 37 = .ok (.getfield 219, 3) := by decide +kernel
theorem dX5_length_40 : decode cX5_length 40 = .ok (.aload_n 0, 1) := by decide +kernel
theorem dX5_length_41 : decode cX5_length 41 = .ok (.getfield 12, 3) := by decide +kernel
theorem dX5_length_44 : decode cX5_length 44 = .ok (.iload_n 1, 1) := by decide +kernel
theorem dX5_length_45 : decode cX5_length 45 = .ok (.iload_n 3, 1) := by decide +kernel
theorem dX5_length_46 : decode cX5_length 46 = .ok (.invokevirtual 110, 3) := by decide +kernel
theorem dX5_length_49 : decode cX5_length 49 = .ok (.iaload, 1) := by decide +kernel
theorem dX5_length_50 : decode cX5_length 50 = .ok (.iadd, 1) := by decide +kernel
theorem dX5_length_51 : decode cX5_length 51 = .ok (.istore_n 2, 1) := by decide +kernel
theorem dX5_length_52 : decode cX5_length 52 = .ok (.iinc 3 1, 3) := by decide +kernel
theorem dX5_length_55 : decode cX5_length 55 = .ok (.goto (-36), 3) := by decide +kernel
theorem dX5_length_58 : decode cX5_length 58 = .ok (.iload_n 2, 1) := by decide +kernel
theorem dX5_length_59 : decode cX5_length 59 = .ok (.ireturn, 1) := by decide +kernel
theorem dX5_rare_0 : decode cX5_rare 0 = .ok (.aload_n 0, 1) := by decide +kernel
theorem dX5_rare_1 : decode cX5_rare 1 = .ok (.iload_n 1, 1) := by decide +kernel
theorem dX5_rare_2 : decode cX5_rare 2 = .ok (.invokevirtual 96, 3) := by decide +kernel
theorem dX5_rare_5 : decode cX5_rare 5 = .ok (.ifCond .ne 10, 3) := by decide +kernel
theorem dX5_rare_8 : decode cX5_rare 8 = .ok (.aload_n 0, 1) := by decide +kernel
theorem dX5_rare_9 : decode cX5_rare 9 = .ok (.ldc 65, 2) := by decide +kernel
theorem dX5_rare_11 : decode cX5_rare 11 = .ok (.invokevirtual 66, 3) := by decide +kernel
theorem dX5_rare_14 : decode cX5_rare 14 = .ok (.ireturn, 1) := by decide +kernel
theorem dX5_rare_15 : decode cX5_rare 15 = .ok (.iconst 0, 1) := by decide +kernel
theorem dX5_rare_16 : decode cX5_rare 16 = .ok (.istore_n 2, 1) := by decide +kernel
theorem dX5_rare_17 : decode cX5_rare 17 = .ok (.bipush 25, 2) := by decide +kernel
theorem dX5_rare_19 : decode cX5_rare 19 = .ok (.istore_n 3, 1) := by decide +kernel
theorem dX5_rare_20 : decode cX5_rare 20 = .ok (.iconst 0, 1) := by decide +kernel
theorem dX5_rare_21 : decode cX5_rare 21 = .ok (.istore 4, 2) := by decide +kernel
theorem dX5_rare_23 : decode cX5_rare 23 = .ok (.iload 4, 2) := by decide +kernel
theorem dX5_rare_25 : decode cX5_rare 25 = .ok (.aload_n 0, 1) := by decide +kernel
theorem dX5_rare_26 : decode cX5_rare 26 = .ok (.getfield 12, 3) := by decide +kernel
theorem dX5_rare_29 : decode cX5_rare 29 = .ok (.getfield 99, 3) := by decide +kernel
theorem dX5_rare_32 : decode cX5_rare 32 = .ok (.iload_n 1, 1) := by decide +kernel
theorem dX5_rare_33 : decode cX5_rare 33 = .ok (.iaload, 1) := by decide +kernel
theorem dX5_rare_34 : decode cX5_rare 34 = .ok (.if_icmp .ge 40, 3) := by decide +kernel
theorem dX5_rare_37 : decode cX5_rare 37 = .ok (.aload_n 0, 1) := by decide +kernel
theorem dX5_rare_38 : decode cX5_rare 38 = .ok (.getfield 12, 3) := by decide +kernel
theorem dX5_rare_41 : decode cX5_rare 41 = .ok (.aload_n 0, 1) := by decide +kernel
theorem dX5_rare_42 : decode cX5_rare 42 = .ok (.getfield 12, 3) := by decide +kernel
theorem dX5_rare_45 : decode cX5_rare 45 = .ok (.iload_n 1, 1) := by decide +kernel
theorem dX5_rare_46 : decode cX5_rare 46 = .ok (.iload 4, 2) := by decide +kernel
theorem dX5_rare_48 : decode cX5_rare 48 = .ok (.invokevirtual 110, 3) := by decide +kernel
theorem dX5_rare_51 : decode cX5_rare 51 = .ok (.invokevirtual 83, 3) := by decide +kernel
theorem dX5_rare_54 : decode cX5_rare 54 = .ok (.istore 5, 2) := by decide +kernel
theorem dX5_rare_56 : decode cX5_rare 56 = .ok (.iload 5, 2) := by decide +kernel
theorem dX5_rare_58 : decode cX5_rare 58 = .ok (.iload_n 3, 1) := by decide +kernel
theorem dX5_rare_59 : decode cX5_rare 59 = .ok (.if_icmp .ge 9, 3) := by decide +kernel
theorem dX5_rare_62 : decode cX5_rare 62 = .ok (.iload 5, 2) := by decide +kernel
theorem dX5_rare_64 : decode cX5_rare 64 = .ok (.istore_n 3, 1) := by decide +kernel
theorem dX5_rare_65 : decode cX5_rare 65 = .ok (.iload 4, 2) := by decide +kernel
theorem dX5_rare_67 : decode cX5_rare 67 = .ok (.istore_n 2, 1) := by decide +kernel
theorem dX5_rare_68 : decode cX5_rare 68 = .ok (.iinc 4 1, 3) := by decide +kernel
theorem dX5_rare_71 : decode cX5_rare 71 = .ok (.goto (-48), 3) := by decide +kernel
theorem dX5_rare_74 : decode cX5_rare 74 = .ok (.iload_n 2, 1) := by decide +kernel
theorem dX5_rare_75 : decode cX5_rare 75 = .ok (.ireturn, 1) := by decide +kernel
theorem dX5_minute_0 : decode cX5_minute 0 = .ok (.aload_n 0, 1) := by decide +kernel
theorem dX5_minute_1 : decode cX5_minute 1 = .ok (.iload_n 1, 1) := by decide +kernel
theorem dX5_minute_2 : decode cX5_minute 2 = .ok (.invokevirtual 96, 3) := by decide +kernel
theorem dX5_minute_5 : decode cX5_minute 5 = .ok (.ifCond .eq 10, 3) := by decide +kernel
theorem dX5_minute_8 : decode cX5_minute 8 = .ok (.iload_n 2, 1) := by decide +kernel
theorem dX5_minute_9 : decode cX5_minute 9 = .ok (.invokestatic 113, 3) := by decide +kernel
theorem dX5_minute_12 : decode cX5_minute 12 = .ok (.ifCond .ne 10, 3) := by decide +kernel
theorem dX5_minute_15 : decode cX5_minute 15 = .ok (.aload_n 0, 1) := by decide +kernel
theorem dX5_minute_16 : decode cX5_minute 16 = .ok (.ldc 65, 2) := by decide +kernel
theorem dX5_minute_18 : decode cX5_minute 18 = .ok (.invokevirtual 66, 3) := by decide +kernel
theorem dX5_minute_21 : decode cX5_minute 21 = .ok (.ireturn, 1) := by decide +kernel
theorem dX5_minute_22 : decode cX5_minute 22 = .ok (.aload_n 0, 1) := by decide +kernel
theorem dX5_minute_23 : decode cX5_minute 23 = .ok (.iload_n 2, 1) := by decide +kernel
theorem dX5_minute_24 : decode cX5_minute 24 = .ok (.iload_n 1, 1) := by decide +kernel
theorem dX5_minute_25 : decode cX5_minute 25 = .ok (.invokevirtual 151, 3) := by decide +kernel
theorem dX5_minute_28 : decode cX5_minute 28 = .ok (.ifCond .ne 10, 3) := by decide +kernel
theorem dX5_minute_31 : decode cX5_minute 31 = .ok (.aload_n 0, 1) := by decide +kernel
theorem dX5_minute_32 : decode cX5_minute 32 = .ok (.ldc 154, 2) := by decide +kernel
theorem dX5_minute_34 : decode cX5_minute 34 = .ok (.invokevirtual 66, 3) := by decide +kernel
theorem dX5_minute_37 : decode cX5_minute 37 = .ok (.ireturn, 1) := by decide +kernel
theorem dX5_minute_38 : decode cX5_minute 38 = .ok (.aload_n 0, 1) := by decide +kernel
theorem dX5_minute_39 : decode cX5_minute 39 = .ok (.getfield 25, 3) := by decide +kernel
theorem dX5_minute_42 : decode cX5_minute 42 = .ok (.aload_n 0, 1) := by decide +kernel
theorem dX5_minute_43 : decode cX5_minute 43 = .ok (.getfield 12, 3) := by decide +kernel
theorem dX5_minute_46 : decode cX5_minute 46 = .ok (.invokevirtual 138, 3) := by decide +kernel
theorem dX5_minute_49 : decode cX5_minute 49 = .ok (.aload_n 0, 1) := by decide +kernel
theorem dX5_minute_50 : decode cX5_minute 50 = .ok (.iload_n 1, 1) := by decide +kernel
theorem dX5_minute_51 : decode cX5_minute 51 = .ok (.iload_n 2, 1) := by decide +kernel
theorem dX5_minute_52 : decode cX5_minute 52 = .ok (.invokevirtual 233, 3) := by decide +kernel
theorem dX5_minute_55 : decode cX5_minute 55 = .ok (.pop, 1) := by decide +kernel
theorem dX5_minute_56 : decode cX5_minute 56 = .ok (.aload_n 0, 1) := by decide +kernel
theorem dX5_minute_57 : decode cX5_minute 57 = .ok (.getfield 32, 3) := by decide +kernel
theorem dX5_minute_60 : decode cX5_minute 60 = .ok (.getfield 173, 3) := by decide +kernel
theorem dX5_minute_63 : decode cX5_minute 63 = .ok (.ireturn, 1) := by decide +kernel
theorem dX5_points_0 : decode cX5_points 0 = .ok (.aload_n 0, 1) := by decide +kernel
theorem dX5_points_1 : decode cX5_points 1 = .ok (.iload_n 1, 1) := by decide +kernel
theorem dX5_points_2 : decode cX5_points 2 = .ok (.invokevirtual 96, 3) := by decide +kernel
theorem dX5_points_5 : decode cX5_points 5 = .ok (.ifCond .eq 10, 3) := by decide +kernel
theorem dX5_points_8 : decode cX5_points 8 = .ok (.iload_n 2, 1) := by decide +kernel
theorem dX5_points_9 : decode cX5_points 9 = .ok (.invokestatic 113, 3) := by decide +kernel
theorem dX5_points_12 : decode cX5_points 12 = .ok (.ifCond .ne 10, 3) := by decide +kernel
theorem dX5_points_15 : decode cX5_points 15 = .ok (.aload_n 0, 1) := by decide +kernel
theorem dX5_points_16 : decode cX5_points 16 = .ok (.ldc 65, 2) := by decide +kernel
theorem dX5_points_18 : decode cX5_points 18 = .ok (.invokevirtual 66, 3) := by decide +kernel
theorem dX5_points_21 : decode cX5_points 21 = .ok (.ireturn, 1) := by decide +kernel
theorem dX5_points_22 : decode cX5_points 22 = .ok (.aload_n 0, 1) := by decide +kernel
theorem dX5_points_23 : decode cX5_points 23 = .ok (.iload_n 2, 1) := by decide +kernel
theorem dX5_points_24 : decode cX5_points 24 = .ok (.iload_n 1, 1) := by decide +kernel
theorem dX5_points_25 : decode cX5_points 25 = .ok (.invokevirtual 151, 3) := by decide +kernel
theorem dX5_points_28 : decode cX5_points 28 = .ok (.ifCond .ne 10, 3) := by decide +kernel
theorem dX5_points_31 : decode cX5_points 31 = .ok (.aload_n 0, 1) := by decide +kernel
theorem dX5_points_32 : decode cX5_points 32 = .ok (.ldc 154, 2) := by decide +kernel
theorem dX5_points_34 : decode cX5_points 34 = .ok (.invokevirtual 66, 3) := by decide +kernel
theorem dX5_points_37 : decode cX5_points 37 = .ok (.ireturn, 1) := by decide +kernel
theorem dX5_points_38 : decode cX5_points 38 = .ok (.aload_n 0, 1) := by decide +kernel
theorem dX5_points_39 : decode cX5_points 39 = .ok (.getfield 25, 3) := by decide +kernel
theorem dX5_points_42 : decode cX5_points 42 = .ok (.aload_n 0, 1) := by decide +kernel
theorem dX5_points_43 : decode cX5_points 43 = .ok (.getfield 12, 3) := by decide +kernel
theorem dX5_points_46 : decode cX5_points 46 = .ok (.invokevirtual 138, 3) := by decide +kernel
theorem dX5_points_49 : decode cX5_points 49 = .ok (.aload_n 0, 1) := by decide +kernel
theorem dX5_points_50 : decode cX5_points 50 = .ok (.iload_n 1, 1) := by decide +kernel
theorem dX5_points_51 : decode cX5_points 51 = .ok (.iload_n 2, 1) := by decide +kernel
theorem dX5_points_52 : decode cX5_points 52 = .ok (.invokevirtual 233, 3) := by decide +kernel
theorem dX5_points_55 : decode cX5_points 55 = .ok (.ireturn, 1) := by decide +kernel
theorem dX5_had_0 : decode cX5_had 0 = .ok (.iload_n 1, 1) := by decide +kernel
theorem dX5_had_1 : decode cX5_had 1 = .ok (.invokestatic 113, 3) := by decide +kernel
theorem dX5_had_4 : decode cX5_had 4 = .ok (.ifCond .ne 10, 3) := by decide +kernel
theorem dX5_had_7 : decode cX5_had 7 = .ok (.aload_n 0, 1) := by decide +kernel
theorem dX5_had_8 : decode cX5_had 8 = .ok (.ldc 65, 2) := by decide +kernel
theorem dX5_had_10 : decode cX5_had 10 = .ok (.invokevirtual 66, 3) := by decide +kernel
theorem dX5_had_13 : decode cX5_had 13 = .ok (.ireturn, 1) := by decide +kernel
theorem dX5_had_14 : decode cX5_had 14 = .ok (.aload_n 0, 1) := by decide +kernel
theorem dX5_had_15 : decode cX5_had 15 = .ok (.getfield 25, 3) := by decide +kernel
theorem dX5_had_18 : decode cX5_had 18 = .ok (.aload_n 0, 1) := by decide +kernel
theorem dX5_had_19 : decode cX5_had 19 = .ok (.getfield 12, 3) := by decide +kernel
theorem dX5_had_22 : decode cX5_had 22 = .ok (.invokevirtual 138, 3) := by decide +kernel
theorem dX5_had_25 : decode cX5_had 25 = .ok (.iconst 0, 1) := by decide +kernel
theorem dX5_had_26 : decode cX5_had 26 = .ok (.istore_n 2, 1) := by decide +kernel
theorem dX5_had_27 : decode cX5_had 27 = .ok (.iconst 0, 1) := by decide +kernel
theorem dX5_had_28 : decode cX5_had 28 = .ok (.istore_n 3, 1) := by decide +kernel
theorem dX5_had_29 : decode cX5_had 29 = .ok (.iload_n 3, 1) := by decide +kernel
theorem dX5_had_30 : decode cX5_had 30 = .ok (.aload_n 0, 1) := by decide +kernel
theorem dX5_had_31 : decode cX5_had 31 = .ok (.getfield 12, 3) := by decide +kernel
theorem dX5_had_34 : decode cX5_had 34 = .ok (.getfield 90, 3) := by decide +kernel
theorem dX5_had_37 : decode cX5_had 37 = .ok (.if_icmp .ge 43, 3) := by decide +kernel
theorem dX5_had_40 : decode cX5_had 40 = .ok (.aload_n 0, 1) := by decide +kernel
theorem dX5_had_41 : decode cX5_had 41 = .ok (.iload_n 1, 1) := by decide +kernel
theorem dX5_had_42 : decode cX5_had 42 = .ok (.iload_n 3, 1) := by decide +kernel
theorem dX5_had_43 : decode cX5_had 43 = .ok (.invokevirtual 151, 3) := by decide +kernel
theorem dX5_had_46 : decode cX5_had 46 = .ok (.ifCond .eq 28, 3) := by decide +kernel
theorem dX5_had_49 : decode cX5_had 49 = .ok (.aload_n 0, 1) := by decide +kernel
theorem dX5_had_50 : decode cX5_had 50 = .ok (.iload_n 3, 1) := by decide +kernel
theorem dX5_had_51 : decode cX5_had 51 = .ok (.iload_n 1, 1) := by decide +kernel
theorem dX5_had_52 : decode cX5_had 52 = .ok (.invokevirtual 233, 3) := by decide +kernel
theorem dX5_had_55 : decode cX5_had 55 = .ok (.pop, 1) := by decide +kernel
theorem dX5_had_56 : decode cX5_had 56 = .ok (.iload_n 2, 1) := by decide +kernel
theorem dX5_had_57 : decode cX5_had 57 = .ok (.aload_n 0, 1) := by decide +kernel
theorem dX5_had_58 : decode cX5_had 58 = .ok (.getfield 32, 3) := by decide +kernel
theorem dX5_had_61 : decode cX5_had 61 = .ok (.invokevirtual 236, 3) := by decide +kernel
theorem dX5_had_64 : decode cX5_had 64 = .ok (.ifCond .eq 7, 3) := by decide +kernel
theorem dX5_had_67 : decode cX5_had 67 = .ok (.iconst 1, 1) := by decide +kernel
theorem dX5_had_68 : decode cX5_had 68 = .ok (.goto 4, 3) := by decide +kernel
theorem dX5_had_71 : decode cX5_had 71 = .ok (.iconst 0, 1) := by decide +kernel
theorem dX5_had_72 : decode cX5_had 72 = .ok (.iadd, 1) := by decide +kernel
theorem dX5_had_73 : decode cX5_had 73 = .ok (.istore_n 2, 1) := by decide +kernel
theorem dX5_had_74 : decode cX5_had 74 = .ok (.iinc 3 1, 3) := by decide +kernel
theorem dX5_had_77 : decode cX5_had 77 = .ok (.goto (-48), 3) := by decide +kernel
theorem dX5_had_80 : decode cX5_had 80 = .ok (.iload_n 2, 1) := by decide +kernel
theorem dX5_had_81 : decode cX5_had 81 = .ok (.ireturn, 1) := by decide +kernel
theorem dX5_evening_0 : decode cX5_evening 0 = .ok (.aload_n 0, 1) := by decide +kernel
theorem dX5_evening_1 : decode cX5_evening 1 = .ok (.iload_n 1, 1) := by decide +kernel
theorem dX5_evening_2 : decode cX5_evening 2 = .ok (.iload_n 2, 1) := by decide +kernel
theorem dX5_evening_3 : decode cX5_evening 3 = .ok (.invokevirtual 240, 3) := by decide +kernel
theorem dX5_evening_6 : decode cX5_evening 6 = .ok (.istore_n 3, 1) := by decide +kernel
theorem dX5_evening_7 : decode cX5_evening 7 = .ok (.iload_n 3, 1) := by decide +kernel
theorem dX5_evening_8 : decode cX5_evening 8 = .ok (.ifCond .eq 5, 3) := by decide +kernel
theorem dX5_evening_11 : decode cX5_evening 11 = .ok (.iload_n 3, 1) := by decide +kernel
theorem dX5_evening_12 : decode cX5_evening 12 = .ok (.ireturn, 1) := by decide +kernel
theorem dX5_evening_13 : decode cX5_evening 13 = .ok (.aload_n 0, 1) := by decide +kernel
theorem dX5_evening_14 : decode cX5_evening 14 = .ok (.getfield 12, 3) := by decide +kernel
theorem dX5_evening_17 : decode cX5_evening 17 = .ok (.getfield 194, 3) := by decide +kernel
theorem dX5_evening_20 : decode cX5_evening 20 = .ok (.iload_n 1, 1) := by decide +kernel
theorem dX5_evening_21 : decode cX5_evening 21 = .ok (.iaload, 1) := by decide +kernel
theorem dX5_evening_22 : decode cX5_evening 22 = .ok (.istore 4, 2) := by decide +kernel
theorem dX5_evening_24 : decode cX5_evening 24 = .ok (.aload_n 0, 1) := by decide +kernel
theorem dX5_evening_25 : decode cX5_evening 25 = .ok (.iload_n 1, 1) := by decide +kernel
theorem dX5_evening_26 : decode cX5_evening 26 = .ok (.iload_n 2, 1) := by decide +kernel
theorem dX5_evening_27 : decode cX5_evening 27 = .ok (.invokevirtual 243, 3) := by decide +kernel
theorem dX5_evening_30 : decode cX5_evening 30 = .ok (.aload_n 0, 1) := by decide +kernel
theorem dX5_evening_31 : decode cX5_evening 31 = .ok (.getfield 12, 3) := by decide +kernel
theorem dX5_evening_34 : decode cX5_evening 34 = .ok (.getfield 194, 3) := by decide +kernel
theorem dX5_evening_37 : decode cX5_evening 37 = .ok (.iload_n 1, 1) := by decide +kernel
theorem dX5_evening_38 : decode cX5_evening 38 = .ok (.iaload, 1) := by decide +kernel
theorem dX5_evening_39 : decode cX5_evening 39 = .ok (.iload 4, 2) := by decide +kernel
theorem dX5_evening_41 : decode cX5_evening 41 = .ok (.isub, 1) := by decide +kernel
theorem dX5_evening_42 : decode cX5_evening 42 = .ok (.ireturn, 1) := by decide +kernel
theorem dX5_ahead_0 : decode cX5_ahead 0 = .ok (.aload_n 0, 1) := by decide +kernel
theorem dX5_ahead_1 : decode cX5_ahead 1 = .ok (.iload_n 1, 1) := by decide +kernel
theorem dX5_ahead_2 : decode cX5_ahead 2 = .ok (.iload_n 2, 1) := by decide +kernel
theorem dX5_ahead_3 : decode cX5_ahead 3 = .ok (.invokevirtual 240, 3) := by decide +kernel
theorem dX5_ahead_6 : decode cX5_ahead 6 = .ok (.istore_n 3, 1) := by decide +kernel
theorem dX5_ahead_7 : decode cX5_ahead 7 = .ok (.iload_n 3, 1) := by decide +kernel
theorem dX5_ahead_8 : decode cX5_ahead 8 = .ok (.ifCond .eq 5, 3) := by decide +kernel
theorem dX5_ahead_11 : decode cX5_ahead 11 = .ok (.iload_n 3, 1) := by decide +kernel
theorem dX5_ahead_12 : decode cX5_ahead 12 = .ok (.ireturn, 1) := by decide +kernel
theorem dX5_ahead_13 : decode cX5_ahead 13 = .ok (.aload_n 0, 1) := by decide +kernel
theorem dX5_ahead_14 : decode cX5_ahead 14 = .ok (.getfield 12, 3) := by decide +kernel
theorem dX5_ahead_17 : decode cX5_ahead 17 = .ok (.getfield 246, 3) := by decide +kernel
theorem dX5_ahead_20 : decode cX5_ahead 20 = .ok (.istore 4, 2) := by decide +kernel
theorem dX5_ahead_22 : decode cX5_ahead 22 = .ok (.aload_n 0, 1) := by decide +kernel
theorem dX5_ahead_23 : decode cX5_ahead 23 = .ok (.getfield 12, 3) := by decide +kernel
theorem dX5_ahead_26 : decode cX5_ahead 26 = .ok (.getfield 194, 3) := by decide +kernel
theorem dX5_ahead_29 : decode cX5_ahead 29 = .ok (.iload_n 1, 1) := by decide +kernel
theorem dX5_ahead_30 : decode cX5_ahead 30 = .ok (.iaload, 1) := by decide +kernel
theorem dX5_ahead_31 : decode cX5_ahead 31 = .ok (.istore 5, 2) := by decide +kernel
theorem dX5_ahead_33 : decode cX5_ahead 33 = .ok (.aload_n 0, 1) := by decide +kernel
theorem dX5_ahead_34 : decode cX5_ahead 34 = .ok (.iload_n 1, 1) := by decide +kernel
theorem dX5_ahead_35 : decode cX5_ahead 35 = .ok (.iload_n 2, 1) := by decide +kernel
theorem dX5_ahead_36 : decode cX5_ahead 36 = .ok (.invokevirtual 243, 3) := by decide +kernel
theorem dX5_ahead_39 : decode cX5_ahead 39 = .ok (.aload_n 0, 1) := by decide +kernel
theorem dX5_ahead_40 : decode cX5_ahead 40 = .ok (.getfield 12, 3) := by decide +kernel
theorem dX5_ahead_43 : decode cX5_ahead 43 = .ok (.getfield 194, 3) := by decide +kernel
theorem dX5_ahead_46 : decode cX5_ahead 46 = .ok (.iload_n 1, 1) := by decide +kernel
theorem dX5_ahead_47 : decode cX5_ahead 47 = .ok (.iaload, 1) := by decide +kernel
theorem dX5_ahead_48 : decode cX5_ahead 48 = .ok (.iload 5, 2) := by decide +kernel
theorem dX5_ahead_50 : decode cX5_ahead 50 = .ok (.isub, 1) := by decide +kernel
theorem dX5_ahead_51 : decode cX5_ahead 51 = .ok (.istore 6, 2) := by decide +kernel
theorem dX5_ahead_53 : decode cX5_ahead 53 = .ok (.aload_n 0, 1) := by decide +kernel
theorem dX5_ahead_54 : decode cX5_ahead 54 = .ok (.getfield 12, 3) := by decide +kernel
theorem dX5_ahead_57 : decode cX5_ahead 57 = .ok (.iload 4, 2) := by decide +kernel
theorem dX5_ahead_59 : decode cX5_ahead 59 = .ok (.putfield 246, 3) := by decide +kernel
theorem dX5_ahead_62 : decode cX5_ahead 62 = .ok (.aload_n 0, 1) := by decide +kernel
theorem dX5_ahead_63 : decode cX5_ahead 63 = .ok (.getfield 12, 3) := by decide +kernel
theorem dX5_ahead_66 : decode cX5_ahead 66 = .ok (.getfield 194, 3) := by decide +kernel
theorem dX5_ahead_69 : decode cX5_ahead 69 = .ok (.iload_n 1, 1) := by decide +kernel
theorem dX5_ahead_70 : decode cX5_ahead 70 = .ok (.iload 5, 2) := by decide +kernel
theorem dX5_ahead_72 : decode cX5_ahead 72 = .ok (.iastore, 1) := by decide +kernel
theorem dX5_ahead_73 : decode cX5_ahead 73 = .ok (.iload 6, 2) := by decide +kernel
theorem dX5_ahead_75 : decode cX5_ahead 75 = .ok (.ireturn, 1) := by decide +kernel
theorem dX5_hat_0 : decode cX5_hat 0 = .ok (.iload_n 1, 1) := by decide +kernel
theorem dX5_hat_1 : decode cX5_hat 1 = .ok (.iconst 1, 1) := by decide +kernel
theorem dX5_hat_2 : decode cX5_hat 2 = .ok (.if_icmp .lt 8, 3) := by decide +kernel
theorem dX5_hat_5 : decode cX5_hat 5 = .ok (.iload_n 1, 1) := by decide +kernel
theorem dX5_hat_6 : decode cX5_hat 6 = .ok (.iconst 4, 1) := by decide +kernel
theorem dX5_hat_7 : decode cX5_hat 7 = .ok (.if_icmp .le 10, 3) := by decide +kernel
theorem dX5_hat_10 : decode cX5_hat 10 = .ok (.aload_n 0, 1) := by decide +kernel
theorem dX5_hat_11 : decode cX5_hat 11 = .ok (.ldc 65, 2) := by decide +kernel
theorem dX5_hat_13 : decode cX5_hat 13 = .ok (.invokevirtual 66, 3) := by decide +kernel
theorem dX5_hat_16 : decode cX5_hat 16 = .ok (.ireturn, 1) := by decide +kernel
theorem dX5_hat_17 : decode cX5_hat 17 = .ok (.aload_n 0, 1) := by decide +kernel
theorem dX5_hat_18 : decode cX5_hat 18 = .ok (.getfield 12, 3) := by decide +kernel
theorem dX5_hat_21 : decode cX5_hat 21 = .ok (.getfield 116, 3) := by decide +kernel
theorem dX5_hat_24 : decode cX5_hat 24 = .ok (.iconst 0, 1) := by decide +kernel
theorem dX5_hat_25 : decode cX5_hat 25 = .ok (.iaload, 1) := by decide +kernel
theorem dX5_hat_26 : decode cX5_hat 26 = .ok (.aload_n 0, 1) := by decide +kernel
theorem dX5_hat_27 : decode cX5_hat 27 = .ok (.getfield 12, 3) := by decide +kernel
theorem dX5_hat_30 : decode cX5_hat 30 = .ok (.getfield 116, 3) := by decide +kernel
theorem dX5_hat_33 : decode cX5_hat 33 = .ok (.iconst 1, 1) := by decide +kernel
theorem dX5_hat_34 : decode cX5_hat 34 = .ok (.iaload, 1) := by decide +kernel
theorem dX5_hat_35 : decode cX5_hat 35 = .ok (.iand, 1) := by decide +kernel
theorem dX5_hat_36 : decode cX5_hat 36 = .ok (.istore_n 2, 1) := by decide +kernel
theorem dX5_hat_37 : decode cX5_hat 37 = .ok (.iload_n 2, 1) := by decide +kernel
theorem dX5_hat_38 : decode cX5_hat 38 = .ok (.invokestatic 165, 3) := by decide +kernel
theorem dX5_hat_41 : decode cX5_hat 41 = .ok (.iload_n 1, 1) := by decide +kernel
theorem dX5_hat_42 : decode cX5_hat 42 = .ok (.if_icmp .ge 10, 3) := by decide +kernel
theorem dX5_hat_45 : decode cX5_hat 45 = .ok (.aload_n 0, 1) := by decide +kernel
theorem dX5_hat_46 : decode cX5_hat 46 = .ok (.ldc 109, 2) := by decide +kernel
theorem dX5_hat_48 : decode cX5_hat 48 = .ok (.invokevirtual 66, 3) := by decide +kernel
theorem dX5_hat_51 : decode cX5_hat 51 = .ok (.ireturn, 1) := by decide +kernel
theorem dX5_hat_52 : decode cX5_hat 52 = .ok (.aload_n 0, 1) := by decide +kernel
theorem dX5_hat_53 : decode cX5_hat 53 = .ok (.getfield 25, 3) := by decide +kernel
theorem dX5_hat_56 : decode cX5_hat 56 = .ok (.aload_n 0, 1) := by decide +kernel
theorem dX5_hat_57 : decode cX5_hat 57 = .ok (.getfield 12, 3) := by decide +kernel
theorem dX5_hat_60 : decode cX5_hat 60 = .ok (.invokevirtual 138, 3) := by decide +kernel
theorem dX5_hat_63 : decode cX5_hat 63 = .ok (.iconst 0, 1) := by decide +kernel
theorem dX5_hat_64 : decode cX5_hat 64 = .ok (.istore_n 3, 1) := by decide +kernel
theorem dX5_hat_65 : decode cX5_hat 65 = .ok (.iload_n 3, 1) := by decide +kernel
theorem dX5_hat_66 : decode cX5_hat 66 = .ok (.aload_n 0, 1) := by decide +kernel
theorem dX5_hat_67 : decode cX5_hat 67 = .ok (.getfield 12, 3) := by decide +kernel
theorem dX5_hat_70 : decode cX5_hat 70 = .ok (.getfield 90, 3) := by decide +kernel
theorem dX5_hat_73 : decode cX5_hat 73 = .ok (.if_icmp .ge 52, 3) := by decide +kernel
theorem dX5_hat_76 : decode cX5_hat 76 = .ok (.iload_n 2, 1) := by decide +kernel
theorem dX5_hat_77 : decode cX5_hat 77 = .ok (.iload_n 3, 1) := by decide +kernel
theorem dX5_hat_78 : decode cX5_hat 78 = .ok (.iushr, 1) := by decide +kernel
theorem dX5_hat_79 : decode cX5_hat 79 = .ok (.iconst 1, 1) := by decide +kernel
theorem dX5_hat_80 : decode cX5_hat 80 = .ok (.iand, 1) := by decide +kernel
theorem dX5_hat_81 : decode cX5_hat 81 = .ok (.ifCond .eq 7, 3) := by decide +kernel
theorem dX5_hat_84 : decode cX5_hat 84 = .ok (.iconst 1, 1) := by decide +kernel
theorem dX5_hat_85 : decode cX5_hat 85 = .ok (.goto 4, 3) := by decide +kernel
theorem dX5_hat_88 : decode cX5_hat 88 = .ok (.iconst 0, 1) := by decide +kernel
theorem dX5_hat_89 : decode cX5_hat 89 = .ok (.istore 4, 2) := by decide +kernel
theorem dX5_hat_91 : decode cX5_hat 91 = .ok (.aload_n 0, 1) := by decide +kernel
theorem dX5_hat_92 : decode cX5_hat 92 = .ok (.getfield 53, 3) := by decide +kernel
theorem dX5_hat_95 : decode cX5_hat 95 = .ok (.iload_n 3, 1) := by decide +kernel
theorem dX5_hat_96 : decode cX5_hat 96 = .ok (.iload 4, 2) := by decide +kernel
theorem dX5_hat_98 : decode cX5_hat 98 = .ok (.ifCond .eq 19, 3) := by decide +kernel
theorem dX5_hat_101 : decode cX5_hat 101 = .ok (.aload_n 0, 1) := by decide +kernel
theorem dX5_hat_102 : decode cX5_hat 102 = .ok (.iload_n 3, 1) := by decide +kernel
theorem dX5_hat_103 : decode cX5_hat 103 = .ok (.iconst 0, 1) := by decide +kernel
theorem dX5_hat_104 : decode cX5_hat 104 = .ok (.invokevirtual 233, 3) := by decide +kernel
theorem dX5_hat_107 : decode cX5_hat 107 = .ok (.aload_n 0, 1) := by decide +kernel
theorem dX5_hat_108 : decode cX5_hat 108 = .ok (.iload_n 3, 1) := by decide +kernel
theorem dX5_hat_109 : decode cX5_hat 109 = .ok (.iconst 1, 1) := by decide +kernel
theorem dX5_hat_110 : decode cX5_hat 110 = .ok (.invokevirtual 233, 3) := by decide +kernel
theorem dX5_hat_113 : decode cX5_hat 113 = .ok (.iadd, 1) := by decide +kernel
theorem dX5_hat_114 : decode cX5_hat 114 = .ok (.goto 4, 3) := by decide +kernel
theorem dX5_hat_117 : decode cX5_hat 117 = .ok (.iconst (-1), 1) := by decide +kernel
theorem dX5_hat_118 : decode cX5_hat 118 = .ok (.iastore, 1) := by decide +kernel
theorem dX5_hat_119 : decode cX5_hat 119 = .ok (.iinc 3 1, 3) := by decide +kernel
theorem dX5_hat_122 : decode cX5_hat 122 = .ok (.goto (-57), 3) := by decide +kernel
theorem dX5_hat_125 : decode cX5_hat 125 = .ok (.aload_n 0, 1) := by decide +kernel
theorem dX5_hat_126 : decode cX5_hat 126 = .ok (.iload_n 1, 1) := by decide +kernel
theorem dX5_hat_127 : decode cX5_hat 127 = .ok (.invokevirtual 249, 3) := by decide +kernel
theorem dX5_hat_130 : decode cX5_hat 130 = .ok (.ireturn, 1) := by decide +kernel
theorem dX5_unfair_0 : decode cX5_unfair 0 = .ok (.aload_n 0, 1) := by decide +kernel
theorem dX5_unfair_1 : decode cX5_unfair 1 = .ok (.getfield 12, 3) := by decide +kernel
theorem dX5_unfair_4 : decode cX5_unfair 4 = .ok (.getfield 116, 3) := by decide +kernel
theorem dX5_unfair_7 : decode cX5_unfair 7 = .ok (.iconst 0, 1) := by decide +kernel
theorem dX5_unfair_8 : decode cX5_unfair 8 = .ok (.iaload, 1) := by decide +kernel
theorem dX5_unfair_9 : decode cX5_unfair 9 = .ok (.aload_n 0, 1) := by decide +kernel
theorem dX5_unfair_10 : decode cX5_unfair 10 = .ok (.getfield 12, 3) := by decide +kernel
theorem dX5_unfair_13 : decode cX5_unfair 13 = .ok (.getfield 116, 3) := by decide +kernel
theorem dX5_unfair_16 : decode cX5_unfair 16 = .ok (.iconst 1, 1) := by decide +kernel
theorem dX5_unfair_17 : decode cX5_unfair 17 = .ok (.iaload, 1) := by decide +kernel
theorem dX5_unfair_18 : decode cX5_unfair 18 = .ok (.iand, 1) := by decide +kernel
theorem dX5_unfair_19 : decode cX5_unfair 19 = .ok (.istore_n 1, 1) := by decide +kernel
theorem dX5_unfair_20 : decode cX5_unfair 20 = .ok (.iload_n 1, 1) := by decide +kernel
theorem dX5_unfair_21 : decode cX5_unfair 21 = .ok (.ifCond .ne 10, 3) := by decide +kernel
theorem dX5_unfair_24 : decode cX5_unfair 24 = .ok (.aload_n 0, 1) := by decide +kernel
theorem dX5_unfair_25 : decode cX5_unfair 25 = .ok (.ldc 109, 2) := by decide +kernel
theorem dX5_unfair_27 : decode cX5_unfair 27 = .ok (.invokevirtual 66, 3) := by decide +kernel
theorem dX5_unfair_30 : decode cX5_unfair 30 = .ok (.ireturn, 1) := by decide +kernel
theorem dX5_unfair_31 : decode cX5_unfair 31 = .ok (.aload_n 0, 1) := by decide +kernel
theorem dX5_unfair_32 : decode cX5_unfair 32 = .ok (.getfield 25, 3) := by decide +kernel
theorem dX5_unfair_35 : decode cX5_unfair 35 = .ok (.aload_n 0, 1) := by decide +kernel
theorem dX5_unfair_36 : decode cX5_unfair 36 = .ok (.getfield 12, 3) := by decide +kernel
theorem dX5_unfair_39 : decode cX5_unfair 39 = .ok (.invokevirtual 138, 3) := by decide +kernel
theorem dX5_unfair_42 : decode cX5_unfair 42 = .ok (.iconst (-1), 1) := by decide +kernel
theorem dX5_unfair_43 : decode cX5_unfair 43 = .ok (.istore_n 2, 1) := by decide +kernel
theorem dX5_unfair_44 : decode cX5_unfair 44 = .ok (.iconst (-1), 1) := by decide +kernel
theorem dX5_unfair_45 : decode cX5_unfair 45 = .ok (.istore_n 3, 1) := by decide +kernel
theorem dX5_unfair_46 : decode cX5_unfair 46 = .ok (.iconst 0, 1) := by decide +kernel
theorem dX5_unfair_47 : decode cX5_unfair 47 = .ok (.istore 4, 2) := by decide +kernel
theorem dX5_unfair_49 : decode cX5_unfair 49 = .ok (.iload 4, 2) := by decide +kernel
theorem dX5_unfair_51 : decode cX5_unfair 51 = .ok (.aload_n 0, 1) := by decide +kernel
theorem dX5_unfair_52 : decode cX5_unfair 52 = .ok (.getfield 12, 3) := by decide +kernel
theorem dX5_unfair_55 : decode cX5_unfair 55 = .ok (.getfield 90, 3) := by decide +kernel
theorem dX5_unfair_58 : decode cX5_unfair 58 = .ok (.if_icmp .ge 66, 3) := by decide +kernel
theorem dX5_unfair_61 : decode cX5_unfair 61 = .ok (.iload_n 1, 1) := by decide +kernel
theorem dX5_unfair_62 : decode cX5_unfair 62 = .ok (.iload 4, 2) := by decide +kernel
theorem dX5_unfair_64 : decode cX5_unfair 64 = .ok (.iushr, 1) := by decide +kernel
theorem dX5_unfair_65 : decode cX5_unfair 65 = .ok (.iconst 1, 1) := by decide +kernel
theorem dX5_unfair_66 : decode cX5_unfair 66 = .ok (.iand, 1) := by decide +kernel
theorem dX5_unfair_67 : decode cX5_unfair 67 = .ok (.ifCond .eq 7, 3) := by decide +kernel
theorem dX5_unfair_70 : decode cX5_unfair 70 = .ok (.iconst 1, 1) := by decide +kernel
theorem dX5_unfair_71 : decode cX5_unfair 71 = .ok (.goto 4, 3) := by decide +kernel
theorem dX5_unfair_74 : decode cX5_unfair 74 = .ok (.iconst 0, 1) := by decide +kernel
theorem dX5_unfair_75 : decode cX5_unfair 75 = .ok (.istore 5, 2) := by decide +kernel
theorem dX5_unfair_77 : decode cX5_unfair 77 = .ok (.iload 5, 2) := by decide +kernel
theorem dX5_unfair_79 : decode cX5_unfair 79 = .ok (.ifCond .eq 24, 3) := by decide +kernel
theorem dX5_unfair_82 : decode cX5_unfair 82 = .ok (.aload_n 0, 1) := by decide +kernel
theorem dX5_unfair_83 : decode cX5_unfair 83 = .ok (.iload 4, 2) := by decide +kernel
theorem dX5_unfair_85 : decode cX5_unfair 85 = .ok (.iconst 0, 1) := by decide +kernel
theorem dX5_unfair_86 : decode cX5_unfair 86 = .ok (.invokevirtual 233, 3) := by decide +kernel
theorem dX5_unfair_89 : decode cX5_unfair 89 = .ok (.aload_n 0, 1) := by decide +kernel
theorem dX5_unfair_90 : decode cX5_unfair 90 = .ok (.iload 4, 2) := by decide +kernel
theorem dX5_unfair_92 : decode cX5_unfair 92 = .ok (.iconst 1, 1) := by decide +kernel
theorem dX5_unfair_93 : decode cX5_unfair 93 = .ok (.invokevirtual 233, 3) := by decide +kernel
theorem dX5_unfair_96 : decode cX5_unfair 96 = .ok (.isub, 1) := by decide +kernel
theorem dX5_unfair_97 : decode cX5_unfair 97 = .ok (.invokestatic 222, 3) := by decide +kernel
theorem dX5_unfair_100 : decode cX5_unfair 100 = .ok (.goto 4, 3) := by decide +kernel
theorem dX5_unfair_103 : decode cX5_unfair 103 = .ok (.iconst (-1), 1) := by decide +kernel
theorem dX5_unfair_104 : decode cX5_unfair 104 = .ok (.istore 6, 2) := by decide +kernel
theorem dX5_unfair_106 : decode cX5_unfair 106 = .ok (.iload 6, 2) := by decide +kernel
theorem dX5_unfair_108 : decode cX5_unfair 108 = .ok (.iload_n 3, 1) := by decide +kernel
theorem dX5_unfair_109 : decode cX5_unfair 109 = .ok (.if_icmp .le 9, 3) := by decide +kernel
theorem dX5_unfair_112 : decode cX5_unfair 112 = .ok (.iload 6, 2) := by decide +kernel
theorem dX5_unfair_114 : decode cX5_unfair 114 = .ok (.istore_n 3, 1) := by decide +kernel
theorem dX5_unfair_115 : decode cX5_unfair 115 = .ok (.iload 4, 2) := by decide +kernel
theorem dX5_unfair_117 : decode cX5_unfair 117 = .ok (.istore_n 2, 1) := by decide +kernel
theorem dX5_unfair_118 : decode cX5_unfair 118 = .ok (.iinc 4 1, 3) := by decide +kernel
theorem dX5_unfair_121 : decode cX5_unfair 121 = .ok (.goto (-72), 3) := by decide +kernel
theorem dX5_unfair_124 : decode cX5_unfair 124 = .ok (.iload_n 2, 1) := by decide +kernel
theorem dX5_unfair_125 : decode cX5_unfair 125 = .ok (.ireturn, 1) := by decide +kernel
theorem dX5_seed_0 : decode cX5_seed 0 = .ok (.aload_n 0, 1) := by decide +kernel
theorem dX5_seed_1 : decode cX5_seed 1 = .ok (.getfield 12, 3) := by decide +kernel
theorem dX5_seed_4 : decode cX5_seed 4 = .ok (.getfield 246, 3) := by decide +kernel
theorem dX5_seed_7 : decode cX5_seed 7 = .ok (.istore_n 2, 1) := by decide +kernel
theorem dX5_seed_8 : decode cX5_seed 8 = .ok (.aload_n 0, 1) := by decide +kernel
theorem dX5_seed_9 : decode cX5_seed 9 = .ok (.getfield 12, 3) := by decide +kernel
theorem dX5_seed_12 : decode cX5_seed 12 = .ok (.iload_n 1, 1) := by decide +kernel
theorem dX5_seed_13 : decode cX5_seed 13 = .ok (.putfield 246, 3) := by decide +kernel
theorem dX5_seed_16 : decode cX5_seed 16 = .ok (.iload_n 2, 1) := by decide +kernel
theorem dX5_seed_17 : decode cX5_seed 17 = .ok (.ireturn, 1) := by decide +kernel
theorem dX5_feed_0 : decode cX5_feed 0 = .ok (.iload_n 2, 1) := by decide +kernel
theorem dX5_feed_1 : decode cX5_feed 1 = .ok (.iconst 1, 1) := by decide +kernel
theorem dX5_feed_2 : decode cX5_feed 2 = .ok (.if_icmp .lt 8, 3) := by decide +kernel
theorem dX5_feed_5 : decode cX5_feed 5 = .ok (.iload_n 2, 1) := by decide +kernel
theorem dX5_feed_6 : decode cX5_feed 6 = .ok (.iconst 4, 1) := by decide +kernel
theorem dX5_feed_7 : decode cX5_feed 7 = .ok (.if_icmp .le 10, 3) := by decide +kernel
theorem dX5_feed_10 : decode cX5_feed 10 = .ok (.aload_n 0, 1) := by decide +kernel
theorem dX5_feed_11 : decode cX5_feed 11 = .ok (.ldc 65, 2) := by decide +kernel
theorem dX5_feed_13 : decode cX5_feed 13 = .ok (.invokevirtual 66, 3) := by decide +kernel
theorem dX5_feed_16 : decode cX5_feed 16 = .ok (.ireturn, 1) := by decide +kernel
theorem dX5_feed_17 : decode cX5_feed 17 = .ok (.aload_n 0, 1) := by decide +kernel
theorem dX5_feed_18 : decode cX5_feed 18 = .ok (.getfield 39, 3) := by decide +kernel
theorem dX5_feed_21 : decode cX5_feed 21 = .ok (.getfield 252, 3) := by decide +kernel
theorem dX5_feed_24 : decode cX5_feed 24 = .ok (.iload_n 2, 1) := by decide +kernel
theorem dX5_feed_25 : decode cX5_feed 25 = .ok (.iadd, 1) := by decide +kernel
theorem dX5_feed_26 : decode cX5_feed 26 = .ok (.bipush 120, 2) := by decide +kernel
theorem dX5_feed_28 : decode cX5_feed 28 = .ok (.if_icmp .le 10, 3) := by decide +kernel
theorem dX5_feed_31 : decode cX5_feed 31 = .ok (.aload_n 0, 1) := by decide +kernel
theorem dX5_feed_32 : decode cX5_feed 32 = .ok (.ldc 74, 2) := by decide +kernel
theorem dX5_feed_34 : decode cX5_feed 34 = .ok (.invokevirtual 66, 3) := by decide +kernel
theorem dX5_feed_37 : decode cX5_feed 37 = .ok (.ireturn, 1) := by decide +kernel
theorem dX5_feed_38 : decode cX5_feed 38 = .ok (.iload_n 2, 1) := by decide +kernel
theorem dX5_feed_39 : decode cX5_feed 39 = .ok (.iconst 1, 1) := by decide +kernel
theorem dX5_feed_40 : decode cX5_feed 40 = .ok (.isub, 1) := by decide +kernel
theorem dX5_feed_41 : decode cX5_feed 41 = .ok (.istore_n 3, 1) := by decide +kernel
theorem dX5_feed_42 : decode cX5_feed 42 = .ok (.iload_n 3, 1) := by decide +kernel
theorem dX5_feed_43 : decode cX5_feed 43 = .ok (.ifCond .lt 26, 3) := by decide +kernel
theorem dX5_feed_46 : decode cX5_feed 46 = .ok (.aload_n 0, 1) := by decide +kernel
theorem dX5_feed_47 : decode cX5_feed 47 = .ok (.getfield 39, 3) := by decide +kernel
theorem dX5_feed_50 : decode cX5_feed 50 = .ok (.iload_n 1, 1) := by decide +kernel
theorem dX5_feed_51 : decode cX5_feed 51 = .ok (.bipush 8, 2) := by decide +kernel
theorem dX5_feed_53 : decode cX5_feed 53 = .ok (.iload_n 3, 1) := by decide +kernel
theorem dX5_feed_54 : decode cX5_feed 54 = .ok (.imul, 1) := by decide +kernel
theorem dX5_feed_55 : decode cX5_feed 55 = .ok (.iushr, 1) := by decide +kernel
theorem dX5_feed_56 : decode cX5_feed 56 = .ok (.sipush 255, 3) := by decide +kernel
theorem dX5_feed_59 : decode cX5_feed 59 = .ok (.iand, 1) := by decide +kernel
theorem dX5_feed_60 : decode cX5_feed 60 = .ok (.invokevirtual 255, 3) := by decide +kernel
theorem dX5_feed_63 : decode cX5_feed 63 = .ok (.iinc 3 (-1), 3) := by decide +kernel
theorem dX5_feed_66 : decode cX5_feed 66 = .ok (.goto (-24), 3) := by decide +kernel
theorem dX5_feed_69 : decode cX5_feed 69 = .ok (.aload_n 0, 1) := by decide +kernel
theorem dX5_feed_70 : decode cX5_feed 70 = .ok (.getfield 39, 3) := by decide +kernel
theorem dX5_feed_73 : decode cX5_feed 73 = .ok (.getfield 252, 3) := by decide +kernel
theorem dX5_feed_76 : decode cX5_feed 76 = .ok (.ireturn, 1) := by decide +kernel
theorem dX5_wipe_0 : decode cX5_wipe 0 = .ok (.aload_n 0, 1) := by decide +kernel
theorem dX5_wipe_1 : decode cX5_wipe 1 = .ok (.getfield 39, 3) := by decide +kernel
theorem dX5_wipe_4 : decode cX5_wipe 4 = .ok (.getfield 252, 3) := by decide +kernel
theorem dX5_wipe_7 : decode cX5_wipe 7 = .ok (.istore_n 1, 1) := by decide +kernel
theorem dX5_wipe_8 : decode cX5_wipe 8 = .ok (.aload_n 0, 1) := by decide +kernel
theorem dX5_wipe_9 : decode cX5_wipe 9 = .ok (.getfield 39, 3) := by decide +kernel
theorem dX5_wipe_12 : decode cX5_wipe 12 = .ok (.iconst 0, 1) := by decide +kernel
theorem dX5_wipe_13 : decode cX5_wipe 13 = .ok (.putfield 252, 3) := by decide +kernel
theorem dX5_wipe_16 : decode cX5_wipe 16 = .ok (.iload_n 1, 1) := by decide +kernel
theorem dX5_wipe_17 : decode cX5_wipe 17 = .ok (.ireturn, 1) := by decide +kernel
theorem dX5_text_0 : decode cX5_text 0 = .ok (.aload_n 0, 1) := by decide +kernel
theorem dX5_text_1 : decode cX5_text 1 = .ok (.getfield 19, 3) := by decide +kernel
theorem dX5_text_4 : decode cX5_text 4 = .ok (.aload_n 0, 1) := by decide +kernel
theorem dX5_text_5 : decode cX5_text 5 = .ok (.getfield 12, 3) := by decide +kernel
theorem dX5_text_8 : decode cX5_text 8 = .ok (.invokevirtual 258, 3) := by decide +kernel
theorem dX5_text_11 : decode cX5_text 11 = .ok (.aload_n 0, 1) := by decide +kernel
theorem dX5_text_12 : decode cX5_text 12 = .ok (.getfield 39, 3) := by decide +kernel
theorem dX5_text_15 : decode cX5_text 15 = .ok (.aload_n 0, 1) := by decide +kernel
theorem dX5_text_16 : decode cX5_text 16 = .ok (.getfield 19, 3) := by decide +kernel
theorem dX5_text_19 : decode cX5_text 19 = .ok (.invokevirtual 261, 3) := by decide +kernel
theorem dX5_text_22 : decode cX5_text 22 = .ok (.istore_n 1, 1) := by decide +kernel
theorem dX5_text_23 : decode cX5_text 23 = .ok (.aload_n 0, 1) := by decide +kernel
theorem dX5_text_24 : decode cX5_text 24 = .ok (.getfield 39, 3) := by decide +kernel
theorem dX5_text_27 : decode cX5_text 27 = .ok (.iconst 0, 1) := by decide +kernel
theorem dX5_text_28 : decode cX5_text 28 = .ok (.putfield 252, 3) := by decide +kernel
theorem dX5_text_31 : decode cX5_text 31 = .ok (.iload_n 1, 1) := by decide +kernel
theorem dX5_text_32 : decode cX5_text 32 = .ok (.ifCond .lt 14, 3) := by decide +kernel
theorem dX5_text_35 : decode cX5_text 35 = .ok (.aload_n 0, 1) := by decide +kernel
theorem dX5_text_36 : decode cX5_text 36 = .ok (.getfield 12, 3) := by decide +kernel
theorem dX5_text_39 : decode cX5_text 39 = .ok (.aload_n 0, 1) := by decide +kernel
theorem dX5_text_40 : decode cX5_text 40 = .ok (.getfield 19, 3) := by decide +kernel
theorem dX5_text_43 : decode cX5_text 43 = .ok (.invokevirtual 258, 3) := by decide +kernel
theorem dX5_text_46 : decode cX5_text 46 = .ok (.iload_n 1, 1) := by decide +kernel
theorem dX5_text_47 : decode cX5_text 47 = .ok (.ireturn, 1) := by decide +kernel
theorem dX5_hold_0 : decode cX5_hold 0 = .ok (.iload_n 1, 1) := by decide +kernel
theorem dX5_hold_1 : decode cX5_hold 1 = .ok (.invokestatic 265, 3) := by decide +kernel
theorem dX5_hold_4 : decode cX5_hold 4 = .ok (.ifCond .eq 14, 3) := by decide +kernel
theorem dX5_hold_7 : decode cX5_hold 7 = .ok (.iload_n 2, 1) := by decide +kernel
theorem dX5_hold_8 : decode cX5_hold 8 = .ok (.iconst (-1), 1) := by decide +kernel
theorem dX5_hold_9 : decode cX5_hold 9 = .ok (.if_icmp .lt 9, 3) := by decide +kernel
theorem dX5_hold_12 : decode cX5_hold 12 = .ok (.iload_n 2, 1) := by decide +kernel
theorem dX5_hold_13 : decode cX5_hold 13 = .ok (.bipush 28, 2) := by decide +kernel
theorem dX5_hold_15 : decode cX5_hold 15 = .ok (.if_icmp .lt 10, 3) := by decide +kernel
theorem dX5_hold_18 : decode cX5_hold 18 = .ok (.aload_n 0, 1) := by decide +kernel
theorem dX5_hold_19 : decode cX5_hold 19 = .ok (.ldc 65, 2) := by decide +kernel
theorem dX5_hold_21 : decode cX5_hold 21 = .ok (.invokevirtual 66, 3) := by decide +kernel
theorem dX5_hold_24 : decode cX5_hold 24 = .ok (.ireturn, 1) := by decide +kernel
theorem dX5_hold_25 : decode cX5_hold 25 = .ok (.aload_n 0, 1) := by decide +kernel
theorem dX5_hold_26 : decode cX5_hold 26 = .ok (.getfield 12, 3) := by decide +kernel
theorem dX5_hold_29 : decode cX5_hold 29 = .ok (.getfield 268, 3) := by decide +kernel
theorem dX5_hold_32 : decode cX5_hold 32 = .ok (.iload_n 1, 1) := by decide +kernel
theorem dX5_hold_33 : decode cX5_hold 33 = .ok (.iload_n 2, 1) := by decide +kernel
theorem dX5_hold_34 : decode cX5_hold 34 = .ok (.iconst 1, 1) := by decide +kernel
theorem dX5_hold_35 : decode cX5_hold 35 = .ok (.iadd, 1) := by decide +kernel
theorem dX5_hold_36 : decode cX5_hold 36 = .ok (.iastore, 1) := by decide +kernel
theorem dX5_hold_37 : decode cX5_hold 37 = .ok (.iconst 1, 1) := by decide +kernel
theorem dX5_hold_38 : decode cX5_hold 38 = .ok (.ireturn, 1) := by decide +kernel
theorem dX5_as_0 : decode cX5_as 0 = .ok (.iload_n 1, 1) := by decide +kernel
theorem dX5_as_1 : decode cX5_as 1 = .ok (.invokestatic 265, 3) := by decide +kernel
theorem dX5_as_4 : decode cX5_as 4 = .ok (.ifCond .eq 10, 3) := by decide +kernel
theorem dX5_as_7 : decode cX5_as 7 = .ok (.iload_n 2, 1) := by decide +kernel
theorem dX5_as_8 : decode cX5_as 8 = .ok (.invokestatic 123, 3) := by decide +kernel
theorem dX5_as_11 : decode cX5_as 11 = .ok (.ifCond .ne 10, 3) := by decide +kernel
theorem dX5_as_14 : decode cX5_as 14 = .ok (.aload_n 0, 1) := by decide +kernel
theorem dX5_as_15 : decode cX5_as 15 = .ok (.ldc 65, 2) := by decide +kernel
theorem dX5_as_17 : decode cX5_as 17 = .ok (.invokevirtual 66, 3) := by decide +kernel
theorem dX5_as_20 : decode cX5_as 20 = .ok (.ireturn, 1) := by decide +kernel
theorem dX5_as_21 : decode cX5_as 21 = .ok (.aload_n 0, 1) := by decide +kernel
theorem dX5_as_22 : decode cX5_as 22 = .ok (.getfield 12, 3) := by decide +kernel
theorem dX5_as_25 : decode cX5_as 25 = .ok (.getfield 268, 3) := by decide +kernel
theorem dX5_as_28 : decode cX5_as 28 = .ok (.iload_n 1, 1) := by decide +kernel
theorem dX5_as_29 : decode cX5_as 29 = .ok (.iaload, 1) := by decide +kernel
theorem dX5_as_30 : decode cX5_as 30 = .ok (.iconst 1, 1) := by decide +kernel
theorem dX5_as_31 : decode cX5_as 31 = .ok (.isub, 1) := by decide +kernel
theorem dX5_as_32 : decode cX5_as 32 = .ok (.istore_n 3, 1) := by decide +kernel
theorem dX5_as_33 : decode cX5_as 33 = .ok (.iload_n 3, 1) := by decide +kernel
theorem dX5_as_34 : decode cX5_as 34 = .ok (.ifCond .ge 11, 3) := by decide +kernel
theorem dX5_as_37 : decode cX5_as 37 = .ok (.aload_n 0, 1) := by decide +kernel
theorem dX5_as_38 : decode cX5_as 38 = .ok (.ldc_w 271, 3) := by decide +kernel
theorem dX5_as_41 : decode cX5_as 41 = .ok (.invokevirtual 66, 3) := by decide +kernel
theorem dX5_as_44 : decode cX5_as 44 = .ok (.ireturn, 1) := by decide +kernel
theorem dX5_as_45 : decode cX5_as 45 = .ok (.iload_n 3, 1) := by decide +kernel
theorem dX5_as_46 : decode cX5_as 46 = .ok (.invokestatic 272, 3) := by decide +kernel
theorem dX5_as_49 : decode cX5_as 49 = .ok (.iload_n 2, 1) := by decide +kernel
theorem dX5_as_50 : decode cX5_as 50 = .ok (.invokestatic 275, 3) := by decide +kernel
theorem dX5_as_53 : decode cX5_as 53 = .ok (.ifCond .eq 10, 3) := by decide +kernel
theorem dX5_as_56 : decode cX5_as 56 = .ok (.iload_n 3, 1) := by decide +kernel
theorem dX5_as_57 : decode cX5_as 57 = .ok (.invokestatic 278, 3) := by decide +kernel
theorem dX5_as_60 : decode cX5_as 60 = .ok (.goto 10, 3) := by decide +kernel
theorem dX5_as_63 : decode cX5_as 63 = .ok (.aload_n 0, 1) := by decide +kernel
theorem dX5_as_64 : decode cX5_as 64 = .ok (.ldc_w 281, 3) := by decide +kernel
theorem dX5_as_67 : decode cX5_as 67 = .ok (.invokevirtual 66, 3) := by decide +kernel
theorem dX5_as_70 : decode cX5_as 70 = .ok (.ireturn, 1) := by decide +kernel
theorem dX5_sheet_0 : decode cX5_sheet 0 = .ok (.iload_n 1, 1) := by decide +kernel
theorem dX5_sheet_1 : decode cX5_sheet 1 = .ok (.invokestatic 282, 3) := by decide +kernel
theorem dX5_sheet_4 : decode cX5_sheet 4 = .ok (.ifCond .eq 25, 3) := by decide +kernel
theorem dX5_sheet_7 : decode cX5_sheet 7 = .ok (.iload_n 2, 1) := by decide +kernel
theorem dX5_sheet_8 : decode cX5_sheet 8 = .ok (.ifCond .eq 28, 3) := by decide +kernel
theorem dX5_sheet_11 : decode cX5_sheet 11 = .ok (.iload_n 2, 1) := by decide +kernel
theorem dX5_sheet_12 : decode cX5_sheet 12 = .ok (.bipush 8, 2) := by decide +kernel
theorem dX5_sheet_14 : decode cX5_sheet 14 = .ok (.if_icmp .eq 22, 3) := by decide +kernel
theorem dX5_sheet_17 : decode cX5_sheet 17 = .ok (.iload_n 2, 1) := by decide +kernel
theorem dX5_sheet_18 : decode cX5_sheet 18 = .ok (.bipush 16, 2) := by decide +kernel
theorem dX5_sheet_20 : decode cX5_sheet 20 = .ok (.if_icmp .eq 16, 3) := by decide +kernel
theorem dX5_sheet_23 : decode cX5_sheet 23 = .ok (.iload_n 2, 1) := by decide +kernel
theorem dX5_sheet_24 : decode cX5_sheet 24 = .ok (.bipush 32, 2) := by decide +kernel
theorem dX5_sheet_26 : decode cX5_sheet 26 = .ok (.if_icmp .eq 10, 3) := by decide +kernel
theorem dX5_sheet_29 : decode cX5_sheet 29 = .ok (.aload_n 0, 1) := by decide +kernel
theorem dX5_sheet_30 : decode cX5_sheet 30 = .ok (.ldc 65, 2) := by decide +kernel
theorem dX5_sheet_32 : decode cX5_sheet 32 = .ok (.invokevirtual 66, 3) := by decide +kernel
theorem dX5_sheet_35 : decode cX5_sheet 35 = .ok (.ireturn, 1) := by decide +kernel
theorem dX5_sheet_36 : decode cX5_sheet 36 = .ok (.iload_n 3, 1) := by decide +kernel
theorem dX5_sheet_37 : decode cX5_sheet 37 = .ok (.ifCond .ge 11, 3) := by decide +kernel
theorem dX5_sheet_40 : decode cX5_sheet 40 = .ok (.aload_n 0, 1) := by decide +kernel
theorem dX5_sheet_41 : decode cX5_sheet 41 = .ok (.ldc_w 285, 3) := by decide +kernel
theorem dX5_sheet_44 : decode cX5_sheet 44 = .ok (.invokevirtual 66, 3) := by decide +kernel
theorem dX5_sheet_47 : decode cX5_sheet 47 = .ok (.ireturn, 1) := by decide +kernel
theorem dX5_sheet_48 : decode cX5_sheet 48 = .ok (.iload_n 3, 1) := by decide +kernel
theorem dX5_sheet_49 : decode cX5_sheet 49 = .ok (.bipush 40, 2) := by decide +kernel
theorem dX5_sheet_51 : decode cX5_sheet 51 = .ok (.if_icmp .le 10, 3) := by decide +kernel
theorem dX5_sheet_54 : decode cX5_sheet 54 = .ok (.aload_n 0, 1) := by decide +kernel
theorem dX5_sheet_55 : decode cX5_sheet 55 = .ok (.ldc 65, 2) := by decide +kernel
theorem dX5_sheet_57 : decode cX5_sheet 57 = .ok (.invokevirtual 66, 3) := by decide +kernel
theorem dX5_sheet_60 : decode cX5_sheet 60 = .ok (.ireturn, 1) := by decide +kernel
theorem dX5_sheet_61 : decode cX5_sheet 61 = .ok (.aload_n 0, 1) := by decide +kernel
theorem dX5_sheet_62 : decode cX5_sheet 62 = .ok (.getfield 45, 3) := by decide +kernel
theorem dX5_sheet_65 : decode cX5_sheet 65 = .ok (.iload_n 1, 1) := by decide +kernel
theorem dX5_sheet_66 : decode cX5_sheet 66 = .ok (.aaload, 1) := by decide +kernel
theorem dX5_sheet_67 : decode cX5_sheet 67 = .ok (.iload_n 2, 1) := by decide +kernel
theorem dX5_sheet_68 : decode cX5_sheet 68 = .ok (.iload_n 3, 1) := by decide +kernel
theorem dX5_sheet_69 : decode cX5_sheet 69 = .ok (.invokevirtual 286, 3) := by decide +kernel
theorem dX5_sheet_72 : decode cX5_sheet 72 = .ok (.ireturn, 1) := by decide +kernel
theorem dX5_write_0 : decode cX5_write 0 = .ok (.iload_n 1, 1) := by decide +kernel
theorem dX5_write_1 : decode cX5_write 1 = .ok (.invokestatic 282, 3) := by decide +kernel
theorem dX5_write_4 : decode cX5_write 4 = .ok (.ifCond .ne 10, 3) := by decide +kernel
theorem dX5_write_7 : decode cX5_write 7 = .ok (.aload_n 0, 1) := by decide +kernel
theorem dX5_write_8 : decode cX5_write 8 = .ok (.ldc 65, 2) := by decide +kernel
theorem dX5_write_10 : decode cX5_write 10 = .ok (.invokevirtual 66, 3) := by decide +kernel
theorem dX5_write_13 : decode cX5_write 13 = .ok (.ireturn, 1) := by decide +kernel
theorem dX5_write_14 : decode cX5_write 14 = .ok (.aload_n 0, 1) := by decide +kernel
theorem dX5_write_15 : decode cX5_write 15 = .ok (.getfield 45, 3) := by decide +kernel
theorem dX5_write_18 : decode cX5_write 18 = .ok (.iload_n 1, 1) := by decide +kernel
theorem dX5_write_19 : decode cX5_write 19 = .ok (.aaload, 1) := by decide +kernel
theorem dX5_write_20 : decode cX5_write 20 = .ok (.astore 4, 2) := by decide +kernel
theorem dX5_write_22 : decode cX5_write 22 = .ok (.aload 4, 2) := by decide +kernel
theorem dX5_write_24 : decode cX5_write 24 = .ok (.invokevirtual 289, 3) := by decide +kernel
theorem dX5_write_27 : decode cX5_write 27 = .ok (.ifCond .eq 11, 3) := by decide +kernel
theorem dX5_write_30 : decode cX5_write 30 = .ok (.aload_n 0, 1) := by decide +kernel
theorem dX5_write_31 : decode cX5_write 31 = .ok (.ldc_w 271, 3) := by decide +kernel
theorem dX5_write_34 : decode cX5_write 34 = .ok (.invokevirtual 66, 3) := by decide +kernel
theorem dX5_write_37 : decode cX5_write 37 = .ok (.ireturn, 1) := by decide +kernel
theorem dX5_write_38 : decode cX5_write 38 = .ok (.iload_n 2, 1) := by decide +kernel
theorem dX5_write_39 : decode cX5_write 39 = .ok (.ifCond .lt 12, 3) := by decide +kernel
theorem dX5_write_42 : decode cX5_write 42 = .ok (.iload_n 2, 1) := by decide +kernel
theorem dX5_write_43 : decode cX5_write 43 = .ok (.aload 4, 2) := by decide +kernel
theorem dX5_write_45 : decode cX5_write 45 = .ok (.getfield 292, 3) := by decide +kernel
theorem dX5_write_48 : decode cX5_write 48 = .ok (.if_icmp .lt 10, 3) := by decide +kernel
theorem dX5_write_51 : decode cX5_write 51 = .ok (.aload_n 0, 1) := by decide +kernel
theorem dX5_write_52 : decode cX5_write 52 = .ok (.ldc 65, 2) := by decide +kernel
theorem dX5_write_54 : decode cX5_write 54 = .ok (.invokevirtual 66, 3) := by decide +kernel
theorem dX5_write_57 : decode cX5_write 57 = .ok (.ireturn, 1) := by decide +kernel
theorem dX5_write_58 : decode cX5_write 58 = .ok (.aload 4, 2) := by decide +kernel
theorem dX5_write_60 : decode cX5_write 60 = .ok (.iload_n 2, 1) := by decide +kernel
theorem dX5_write_61 : decode cX5_write 61 = .ok (.iload_n 3, 1) := by decide +kernel
theorem dX5_write_62 : decode cX5_write 62 = .ok (.invokevirtual 293, 3) := by decide +kernel
theorem dX5_write_65 : decode cX5_write 65 = .ok (.iconst 1, 1) := by decide +kernel
theorem dX5_write_66 : decode cX5_write 66 = .ok (.ireturn, 1) := by decide +kernel
theorem dX5_copy_0 : decode cX5_copy 0 = .ok (.iload_n 1, 1) := by decide +kernel
theorem dX5_copy_1 : decode cX5_copy 1 = .ok (.invokestatic 282, 3) := by decide +kernel
theorem dX5_copy_4 : decode cX5_copy 4 = .ok (.ifCond .eq 10, 3) := by decide +kernel
theorem dX5_copy_7 : decode cX5_copy 7 = .ok (.iload_n 3, 1) := by decide +kernel
theorem dX5_copy_8 : decode cX5_copy 8 = .ok (.invokestatic 282, 3) := by decide +kernel
theorem dX5_copy_11 : decode cX5_copy 11 = .ok (.ifCond .ne 10, 3) := by decide +kernel
theorem dX5_copy_14 : decode cX5_copy 14 = .ok (.aload_n 0, 1) := by decide +kernel
theorem dX5_copy_15 : decode cX5_copy 15 = .ok (.ldc 65, 2) := by decide +kernel
theorem dX5_copy_17 : decode cX5_copy 17 = .ok (.invokevirtual 66, 3) := by decide +kernel
theorem dX5_copy_20 : decode cX5_copy 20 = .ok (.ireturn, 1) := by decide +kernel
theorem dX5_copy_21 : decode cX5_copy 21 = .ok (.aload_n 0, 1) := by decide +kernel
theorem dX5_copy_22 : decode cX5_copy 22 = .ok (.getfield 45, 3) := by decide +kernel
theorem dX5_copy_25 : decode cX5_copy 25 = .ok (.iload_n 1, 1) := by decide +kernel
theorem dX5_copy_26 : decode cX5_copy 26 = .ok (.aaload, 1) := by decide +kernel
theorem dX5_copy_27 : decode cX5_copy 27 = .ok (.astore 6, 2) := by decide +kernel
theorem dX5_copy_29 : decode cX5_copy 29 = .ok (.aload_n 0, 1) := by decide +kernel
theorem dX5_copy_30 : decode cX5_copy 30 = .ok (.getfield 45, 3) := by decide +kernel
theorem dX5_copy_33 : decode cX5_copy 33 = .ok (.iload_n 3, 1) := by decide +kernel
theorem dX5_copy_34 : decode cX5_copy 34 = .ok (.aaload, 1) := by decide +kernel
theorem dX5_copy_35 : decode cX5_copy 35 = .ok (.astore 7, 2) := by decide +kernel
theorem dX5_copy_37 : decode cX5_copy 37 = .ok (.aload 6, 2) := by decide +kernel
theorem dX5_copy_39 : decode cX5_copy 39 = .ok (.invokevirtual 289, 3) := by decide +kernel
theorem dX5_copy_42 : decode cX5_copy 42 = .ok (.ifCond .ne 11, 3) := by decide +kernel
theorem dX5_copy_45 : decode cX5_copy 45 = .ok (.aload 7, 2) := by decide +kernel
theorem dX5_copy_47 : decode cX5_copy 47 = .ok (.invokevirtual 289, 3) := by decide +kernel
theorem dX5_copy_50 : decode cX5_copy 50 = .ok (.ifCond .eq 11, 3) := by decide +kernel
theorem dX5_copy_53 : decode cX5_copy 53 = .ok (.aload_n 0, 1) := by decide +kernel
theorem dX5_copy_54 : decode cX5_copy 54 = .ok (.ldc_w 271, 3) := by decide +kernel
theorem dX5_copy_57 : decode cX5_copy 57 = .ok (.invokevirtual 66, 3) := by decide +kernel
theorem dX5_copy_60 : decode cX5_copy 60 = .ok (.ireturn, 1) := by decide +kernel
theorem dX5_copy_61 : decode cX5_copy 61 = .ok (.aload 6, 2) := by decide +kernel
theorem dX5_copy_63 : decode cX5_copy 63 = .ok (.getfield 296, 3) := by decide +kernel
theorem dX5_copy_66 : decode cX5_copy 66 = .ok (.aload 7, 2) := by decide +kernel
theorem dX5_copy_68 : decode cX5_copy 68 = .ok (.getfield 296, 3) := by decide +kernel
theorem dX5_copy_71 : decode cX5_copy 71 = .ok (.if_icmp .eq 11, 3) := by decide +kernel
theorem dX5_copy_74 : decode cX5_copy 74 = .ok (.aload_n 0, 1) := by decide +kernel
theorem dX5_copy_75 : decode cX5_copy 75 = .ok (.ldc_w 281, 3) := by decide +kernel
theorem dX5_copy_78 : decode cX5_copy 78 = .ok (.invokevirtual 66, 3) := by decide +kernel
theorem dX5_copy_81 : decode cX5_copy 81 = .ok (.ireturn, 1) := by decide +kernel
theorem dX5_copy_82 : decode cX5_copy 82 = .ok (.aload 6, 2) := by decide +kernel
theorem dX5_copy_84 : decode cX5_copy 84 = .ok (.iload_n 2, 1) := by decide +kernel
theorem dX5_copy_85 : decode cX5_copy 85 = .ok (.iload 5, 2) := by decide +kernel
theorem dX5_copy_87 : decode cX5_copy 87 = .ok (.invokevirtual 299, 3) := by decide +kernel
theorem dX5_copy_90 : decode cX5_copy 90 = .ok (.ifCond .eq 15, 3) := by decide +kernel
theorem dX5_copy_93 : decode cX5_copy 93 = .ok (.aload 7, 2) := by decide +kernel
theorem dX5_copy_95 : decode cX5_copy 95 = .ok (.iload 4, 2) := by decide +kernel
theorem dX5_copy_97 : decode cX5_copy 97 = .ok (.iload 5, 2) := by decide +kernel
theorem dX5_copy_99 : decode cX5_copy 99 = .ok (.invokevirtual 299, 3) := by decide +kernel
theorem dX5_copy_102 : decode cX5_copy 102 = .ok (.ifCond .ne 10, 3) := by decide +kernel
theorem dX5_copy_105 : decode cX5_copy 105 = .ok (.aload_n 0, 1) := by decide +kernel
theorem dX5_copy_106 : decode cX5_copy 106 = .ok (.ldc 65, 2) := by decide +kernel
theorem dX5_copy_108 : decode cX5_copy 108 = .ok (.invokevirtual 66, 3) := by decide +kernel
theorem dX5_copy_111 : decode cX5_copy 111 = .ok (.ireturn, 1) := by decide +kernel
theorem dX5_copy_112 : decode cX5_copy 112 = .ok (.aload 6, 2) := by decide +kernel
theorem dX5_copy_114 : decode cX5_copy 114 = .ok (.getfield 302, 3) := by decide +kernel
theorem dX5_copy_117 : decode cX5_copy 117 = .ok (.iload_n 2, 1) := by decide +kernel
theorem dX5_copy_118 : decode cX5_copy 118 = .ok (.aload 7, 2) := by decide +kernel
theorem dX5_copy_120 : decode cX5_copy 120 = .ok (.getfield 302, 3) := by decide +kernel
theorem dX5_copy_123 : decode cX5_copy 123 = .ok (.iload 4, 2) := by decide +kernel
theorem dX5_copy_125 : decode cX5_copy 125 = .ok (.iload 5, 2) := by decide +kernel
theorem dX5_copy_127 : decode cX5_copy 127 = .ok (.invokestatic 305, 3) := by decide +kernel
theorem dX5_copy_130 : decode cX5_copy 130 = .ok (.iload 5, 2) := by decide +kernel
theorem dX5_copy_132 : decode cX5_copy 132 = .ok (.ireturn, 1) := by decide +kernel
theorem dX5_load_0 : decode cX5_load 0 = .ok (.iload_n 1, 1) := by decide +kernel
theorem dX5_load_1 : decode cX5_load 1 = .ok (.invokestatic 282, 3) := by decide +kernel
theorem dX5_load_4 : decode cX5_load 4 = .ok (.ifCond .ne 10, 3) := by decide +kernel
theorem dX5_load_7 : decode cX5_load 7 = .ok (.aload_n 0, 1) := by decide +kernel
theorem dX5_load_8 : decode cX5_load 8 = .ok (.ldc 65, 2) := by decide +kernel
theorem dX5_load_10 : decode cX5_load 10 = .ok (.invokevirtual 66, 3) := by decide +kernel
theorem dX5_load_13 : decode cX5_load 13 = .ok (.ireturn, 1) := by decide +kernel
theorem dX5_load_14 : decode cX5_load 14 = .ok (.aload_n 0, 1) := by decide +kernel
theorem dX5_load_15 : decode cX5_load 15 = .ok (.getfield 45, 3) := by decide +kernel
theorem dX5_load_18 : decode cX5_load 18 = .ok (.iload_n 1, 1) := by decide +kernel
theorem dX5_load_19 : decode cX5_load 19 = .ok (.aaload, 1) := by decide +kernel
theorem dX5_load_20 : decode cX5_load 20 = .ok (.astore_n 2, 1) := by decide +kernel
theorem dX5_load_21 : decode cX5_load 21 = .ok (.aload_n 2, 1) := by decide +kernel
theorem dX5_load_22 : decode cX5_load 22 = .ok (.invokevirtual 289, 3) := by decide +kernel
theorem dX5_load_25 : decode cX5_load 25 = .ok (.ifCond .eq 11, 3) := by decide +kernel
theorem dX5_load_28 : decode cX5_load 28 = .ok (.aload_n 0, 1) := by decide +kernel
theorem dX5_load_29 : decode cX5_load 29 = .ok (.ldc_w 271, 3) := by decide +kernel
theorem dX5_load_32 : decode cX5_load 32 = .ok (.invokevirtual 66, 3) := by decide +kernel
theorem dX5_load_35 : decode cX5_load 35 = .ok (.ireturn, 1) := by decide +kernel
theorem dX5_load_36 : decode cX5_load 36 = .ok (.iconst 0, 1) := by decide +kernel
theorem dX5_load_37 : decode cX5_load 37 = .ok (.istore_n 3, 1) := by decide +kernel
theorem dX5_load_38 : decode cX5_load 38 = .ok (.iload_n 3, 1) := by decide +kernel
theorem dX5_load_39 : decode cX5_load 39 = .ok (.aload_n 2, 1) := by decide +kernel
theorem dX5_load_40 : decode cX5_load 40 = .ok (.getfield 292, 3) := by decide +kernel
theorem dX5_load_43 : decode cX5_load 43 = .ok (.if_icmp .ge 48, 3) := by decide +kernel
theorem dX5_load_46 : decode cX5_load 46 = .ok (.iload_n 3, 1) := by decide +kernel
theorem dX5_load_47 : decode cX5_load 47 = .ok (.aload_n 0, 1) := by decide +kernel
theorem dX5_load_48 : decode cX5_load 48 = .ok (.getfield 12, 3) := by decide +kernel
theorem dX5_load_51 : decode cX5_load 51 = .ok (.getfield 70, 3) := by decide +kernel
theorem dX5_load_54 : decode cX5_load 54 = .ok (.if_icmp .ge 37, 3) := by decide +kernel
theorem dX5_load_57 : decode cX5_load 57 = .ok (.iconst 2, 1) := by decide +kernel
theorem dX5_load_58 : decode cX5_load 58 = .ok (.aload_n 2, 1) := by decide +kernel
theorem dX5_load_59 : decode cX5_load 59 = .ok (.getfield 302, 3) := by decide +kernel
theorem dX5_load_62 : decode cX5_load 62 = .ok (.iload_n 3, 1) := by decide +kernel
theorem dX5_load_63 : decode cX5_load 63 = .ok (.iaload, 1) := by decide +kernel
theorem dX5_load_64 : decode cX5_load 64 = .ok (.invokestatic 61, 3) := by decide +kernel
theorem dX5_load_67 : decode cX5_load 67 = .ok (.ifCond .eq 24, 3) := by decide +kernel
theorem dX5_load_70 : decode cX5_load 70 = .ok (.aload_n 0, 1) := by decide +kernel
theorem dX5_load_71 : decode cX5_load 71 = .ok (.getfield 12, 3) := by decide +kernel
theorem dX5_load_74 : decode cX5_load 74 = .ok (.getfield 230, 3) := by decide +kernel
theorem dX5_load_77 : decode cX5_load 77 = .ok (.iload_n 3, 1) := by decide +kernel
theorem dX5_load_78 : decode cX5_load 78 = .ok (.aload_n 2, 1) := by decide +kernel
theorem dX5_load_79 : decode cX5_load 79 = .ok (.getfield 302, 3) := by decide +kernel
theorem dX5_load_82 : decode cX5_load 82 = .ok (.iload_n 3, 1) := by decide +kernel
theorem dX5_load_83 : decode cX5_load 83 = .ok (.iaload, 1) := by decide +kernel
theorem dX5_load_84 : decode cX5_load 84 = .ok (.iastore, 1) := by decide +kernel
theorem dX5_load_85 : decode cX5_load 85 = .ok (.iinc 3 1, 3) := by decide +kernel
theorem dX5_load_88 : decode cX5_load 88 = .ok (.goto (-50), 3) := by decide +kernel
theorem dX5_load_91 : decode cX5_load 91 = .ok (.iload_n 3, 1) := by decide +kernel
theorem dX5_load_92 : decode cX5_load 92 = .ok (.ireturn, 1) := by decide +kernel
theorem dX5_judge_0 : decode cX5_judge 0 = .ok (.iload_n 1, 1) := by decide +kernel
theorem dX5_judge_1 : decode cX5_judge 1 = .ok (.invokestatic 282, 3) := by decide +kernel
theorem dX5_judge_4 : decode cX5_judge 4 = .ok (.ifCond .ne 10, 3) := by decide +kernel
theorem dX5_judge_7 : decode cX5_judge 7 = .ok (.aload_n 0, 1) := by decide +kernel
theorem dX5_judge_8 : decode cX5_judge 8 = .ok (.ldc 65, 2) := by decide +kernel
theorem dX5_judge_10 : decode cX5_judge 10 = .ok (.invokevirtual 66, 3) := by decide +kernel
theorem dX5_judge_13 : decode cX5_judge 13 = .ok (.ireturn, 1) := by decide +kernel
theorem dX5_judge_14 : decode cX5_judge 14 = .ok (.aload_n 0, 1) := by decide +kernel
theorem dX5_judge_15 : decode cX5_judge 15 = .ok (.getfield 45, 3) := by decide +kernel
theorem dX5_judge_18 : decode cX5_judge 18 = .ok (.iload_n 1, 1) := by decide +kernel
theorem dX5_judge_19 : decode cX5_judge 19 = .ok (.aaload, 1) := by decide +kernel
theorem dX5_judge_20 : decode cX5_judge 20 = .ok (.astore_n 2, 1) := by decide +kernel
theorem dX5_judge_21 : decode cX5_judge 21 = .ok (.aload_n 2, 1) := by decide +kernel
theorem dX5_judge_22 : decode cX5_judge 22 = .ok (.invokevirtual 289, 3) := by decide +kernel
theorem dX5_judge_25 : decode cX5_judge 25 = .ok (.ifCond .eq 11, 3) := by decide +kernel
theorem dX5_judge_28 : decode cX5_judge 28 = .ok (.aload_n 0, 1) := by decide +kernel
theorem dX5_judge_29 : decode cX5_judge 29 = .ok (.ldc_w 271, 3) := by decide +kernel
theorem dX5_judge_32 : decode cX5_judge 32 = .ok (.invokevirtual 66, 3) := by decide +kernel
theorem dX5_judge_35 : decode cX5_judge 35 = .ok (.ireturn, 1) := by decide +kernel
theorem dX5_judge_36 : decode cX5_judge 36 = .ok (.aload_n 0, 1) := by decide +kernel
theorem dX5_judge_37 : decode cX5_judge 37 = .ok (.getfield 12, 3) := by decide +kernel
theorem dX5_judge_40 : decode cX5_judge 40 = .ok (.invokevirtual 311, 3) := by decide +kernel
theorem dX5_judge_43 : decode cX5_judge 43 = .ok (.istore_n 3, 1) := by decide +kernel
theorem dX5_judge_44 : decode cX5_judge 44 = .ok (.iconst 0, 1) := by decide +kernel
theorem dX5_judge_45 : decode cX5_judge 45 = .ok (.istore 4, 2) := by decide +kernel
theorem dX5_judge_47 : decode cX5_judge 47 = .ok (.iload 4, 2) := by decide +kernel
theorem dX5_judge_49 : decode cX5_judge 49 = .ok (.iconst 1, 1) := by decide +kernel
theorem dX5_judge_50 : decode cX5_judge 50 = .ok (.iadd, 1) := by decide +kernel
theorem dX5_judge_51 : decode cX5_judge 51 = .ok (.aload_n 2, 1) := by decide +kernel
theorem dX5_judge_52 : decode cX5_judge 52 = .ok (.getfield 292, 3) := by decide +kernel
theorem dX5_judge_55 : decode cX5_judge 55 = .ok (.if_icmp .ge 58, 3) := by decide +kernel
theorem dX5_judge_58 : decode cX5_judge 58 = .ok (.aload_n 2, 1) := by decide +kernel
theorem dX5_judge_59 : decode cX5_judge 59 = .ok (.getfield 302, 3) := by decide +kernel
theorem dX5_judge_62 : decode cX5_judge 62 = .ok (.iload 4, 2) := by decide +kernel
theorem dX5_judge_64 : decode cX5_judge 64 = .ok (.iaload, 1) := by decide +kernel
theorem dX5_judge_65 : decode cX5_judge 65 = .ok (.istore 5, 2) := by decide +kernel
theorem dX5_judge_67 : decode cX5_judge 67 = .ok (.iload 5, 2) := by decide +kernel
theorem dX5_judge_69 : decode cX5_judge 69 = .ok (.ifCond .lt 10, 3) := by decide +kernel
theorem dX5_judge_72 : decode cX5_judge 72 = .ok (.iload 5, 2) := by decide +kernel
theorem dX5_judge_74 : decode cX5_judge 74 = .ok (.bipush 28, 2) := by decide +kernel
theorem dX5_judge_76 : decode cX5_judge 76 = .ok (.if_icmp .lt 10, 3) := by decide +kernel
theorem dX5_judge_79 : decode cX5_judge 79 = .ok (.aload_n 0, 1) := by decide +kernel
theorem dX5_judge_80 : decode cX5_judge 80 = .ok (.ldc 154, 2) := by decide +kernel
theorem dX5_judge_82 : decode cX5_judge 82 = .ok (.invokevirtual 66, 3) := by decide +kernel
theorem dX5_judge_85 : decode cX5_judge 85 = .ok (.ireturn, 1) := by decide +kernel
theorem dX5_judge_86 : decode cX5_judge 86 = .ok (.iload_n 3, 1) := by decide +kernel
theorem dX5_judge_87 : decode cX5_judge 87 = .ok (.aload_n 0, 1) := by decide +kernel
theorem dX5_judge_88 : decode cX5_judge 88 = .ok (.getfield 12, 3) := by decide +kernel
theorem dX5_judge_91 : decode cX5_judge 91 = .ok (.iload 5, 2) := by decide +kernel
theorem dX5_judge_93 : decode cX5_judge 93 = .ok (.aload_n 2, 1) := by decide +kernel
theorem dX5_judge_94 : decode cX5_judge 94 = .ok (.getfield 302, 3) := by decide +kernel
theorem dX5_judge_97 : decode cX5_judge 97 = .ok (.iload 4, 2) := by decide +kernel
theorem dX5_judge_99 : decode cX5_judge 99 = .ok (.iconst 1, 1) := by decide +kernel
theorem dX5_judge_100 : decode cX5_judge 100 = .ok (.iadd, 1) := by decide +kernel
theorem dX5_judge_101 : decode cX5_judge 101 = .ok (.iaload, 1) := by decide +kernel
theorem dX5_judge_102 : decode cX5_judge 102 = .ok (.invokevirtual 314, 3) := by decide +kernel
theorem dX5_judge_105 : decode cX5_judge 105 = .ok (.iand, 1) := by decide +kernel
theorem dX5_judge_106 : decode cX5_judge 106 = .ok (.istore_n 3, 1) := by decide +kernel
theorem dX5_judge_107 : decode cX5_judge 107 = .ok (.iinc 4 2, 3) := by decide +kernel
theorem dX5_judge_110 : decode cX5_judge 110 = .ok (.goto (-63), 3) := by decide +kernel
theorem dX5_judge_113 : decode cX5_judge 113 = .ok (.iload_n 3, 1) := by decide +kernel
theorem dX5_judge_114 : decode cX5_judge 114 = .ok (.ireturn, 1) := by decide +kernel
theorem dX5_image_0 : decode cX5_image 0 = .ok (.aload_n 0, 1) := by decide +kernel
theorem dX5_image_1 : decode cX5_image 1 = .ok (.getfield 16, 3) := by decide +kernel
theorem dX5_image_4 : decode cX5_image 4 = .ok (.aload_n 0, 1) := by decide +kernel
theorem dX5_image_5 : decode cX5_image 5 = .ok (.getfield 12, 3) := by decide +kernel
theorem dX5_image_8 : decode cX5_image 8 = .ok (.invokevirtual 258, 3) := by decide +kernel
theorem dX5_image_11 : decode cX5_image 11 = .ok (.aload_n 0, 1) := by decide +kernel
theorem dX5_image_12 : decode cX5_image 12 = .ok (.iconst 1, 1) := by decide +kernel
theorem dX5_image_13 : decode cX5_image 13 = .ok (.putfield 56, 3) := by decide +kernel
theorem dX5_image_16 : decode cX5_image 16 = .ok (.iconst 1, 1) := by decide +kernel
theorem dX5_image_17 : decode cX5_image 17 = .ok (.ireturn, 1) := by decide +kernel
theorem dX5_undo_0 : decode cX5_undo 0 = .ok (.aload_n 0, 1) := by decide +kernel
theorem dX5_undo_1 : decode cX5_undo 1 = .ok (.getfield 56, 3) := by decide +kernel
theorem dX5_undo_4 : decode cX5_undo 4 = .ok (.ifCond .ne 10, 3) := by decide +kernel
theorem dX5_undo_7 : decode cX5_undo 7 = .ok (.aload_n 0, 1) := by decide +kernel
theorem dX5_undo_8 : decode cX5_undo 8 = .ok (.ldc 109, 2) := by decide +kernel
theorem dX5_undo_10 : decode cX5_undo 10 = .ok (.invokevirtual 66, 3) := by decide +kernel
theorem dX5_undo_13 : decode cX5_undo 13 = .ok (.ireturn, 1) := by decide +kernel
theorem dX5_undo_14 : decode cX5_undo 14 = .ok (.aload_n 0, 1) := by decide +kernel
theorem dX5_undo_15 : decode cX5_undo 15 = .ok (.getfield 12, 3) := by decide +kernel
theorem dX5_undo_18 : decode cX5_undo 18 = .ok (.aload_n 0, 1) := by decide +kernel
theorem dX5_undo_19 : decode cX5_undo 19 = .ok (.getfield 16, 3) := by decide +kernel
theorem dX5_undo_22 : decode cX5_undo 22 = .ok (.invokevirtual 258, 3) := by decide +kernel
theorem dX5_undo_25 : decode cX5_undo 25 = .ok (.aload_n 0, 1) := by decide +kernel
theorem dX5_undo_26 : decode cX5_undo 26 = .ok (.getfield 12, 3) := by decide +kernel
theorem dX5_undo_29 : decode cX5_undo 29 = .ok (.getfield 90, 3) := by decide +kernel
theorem dX5_undo_32 : decode cX5_undo 32 = .ok (.ireturn, 1) := by decide +kernel
theorem dX5_tear_0 : decode cX5_tear 0 = .ok (.aload_n 0, 1) := by decide +kernel
theorem dX5_tear_1 : decode cX5_tear 1 = .ok (.getfield 56, 3) := by decide +kernel
theorem dX5_tear_4 : decode cX5_tear 4 = .ok (.ifCond .eq 7, 3) := by decide +kernel
theorem dX5_tear_7 : decode cX5_tear 7 = .ok (.iconst 1, 1) := by decide +kernel
theorem dX5_tear_8 : decode cX5_tear 8 = .ok (.goto 4, 3) := by decide +kernel
theorem dX5_tear_11 : decode cX5_tear 11 = .ok (.iconst 0, 1) := by decide +kernel
theorem dX5_tear_12 : decode cX5_tear 12 = .ok (.istore_n 1, 1) := by decide +kernel
theorem dX5_tear_13 : decode cX5_tear 13 = .ok (.aload_n 0, 1) := by decide +kernel
theorem dX5_tear_14 : decode cX5_tear 14 = .ok (.iconst 0, 1) := by decide +kernel
theorem dX5_tear_15 : decode cX5_tear 15 = .ok (.putfield 56, 3) := by decide +kernel
theorem dX5_tear_18 : decode cX5_tear 18 = .ok (.iload_n 1, 1) := by decide +kernel
theorem dX5_tear_19 : decode cX5_tear 19 = .ok (.ireturn, 1) := by decide +kernel
theorem dX5_count_0 : decode cX5_count 0 = .ok (.iload_n 1, 1) := by decide +kernel
theorem dX5_count_1 : decode cX5_count 1 = .ok (.tableswitch 111 0 6 #[43, 51, 59, 79, 87, 95, 103], 43) := by decide +kernel
theorem dX5_count_44 : decode cX5_count 44 = .ok (.aload_n 0, 1) := by decide +kernel
theorem dX5_count_45 : decode cX5_count 45 = .ok (.getfield 12, 3) := by decide +kernel
theorem dX5_count_48 : decode cX5_count 48 = .ok (.getfield 70, 3) := by decide +kernel
theorem dX5_count_51 : decode cX5_count 51 = .ok (.ireturn, 1) := by decide +kernel
theorem dX5_count_52 : decode cX5_count 52 = .ok (.aload_n 0, 1) := by decide +kernel
theorem dX5_count_53 : decode cX5_count 53 = .ok (.getfield 12, 3) := by decide +kernel
theorem dX5_count_56 : decode cX5_count 56 = .ok (.getfield 90, 3) := by decide +kernel
theorem dX5_count_59 : decode cX5_count 59 = .ok (.ireturn, 1) := by decide +kernel
theorem dX5_count_60 : decode cX5_count 60 = .ok (.aload_n 0, 1) := by decide +kernel
theorem dX5_count_61 : decode cX5_count 61 = .ok (.getfield 12, 3) := by decide +kernel
theorem dX5_count_64 : decode cX5_count 64 = .ok (.getfield 194, 3) := by decide +kernel
theorem dX5_count_67 : decode cX5_count 67 = .ok (.iconst 0, 1) := by decide +kernel
theorem dX5_count_68 : decode cX5_count 68 = .ok (.iaload, 1) := by decide +kernel
theorem dX5_count_69 : decode cX5_count 69 = .ok (.aload_n 0, 1) := by decide +kernel
theorem dX5_count_70 : decode cX5_count 70 = .ok (.getfield 12, 3) := by decide +kernel
theorem dX5_count_73 : decode cX5_count 73 = .ok (.getfield 194, 3) := by decide +kernel
theorem dX5_count_76 : decode cX5_count 76 = .ok (.iconst 1, 1) := by decide +kernel
theorem dX5_count_77 : decode cX5_count 77 = .ok (.iaload, 1) := by decide +kernel
theorem dX5_count_78 : decode cX5_count 78 = .ok (.iadd, 1) := by decide +kernel
theorem dX5_count_79 : decode cX5_count 79 = .ok (.ireturn, 1) := by decide +kernel
theorem dX5_count_80 : decode cX5_count 80 = .ok (.aload_n 0, 1) := by decide +kernel
theorem dX5_count_81 : decode cX5_count 81 = .ok (.getfield 12, 3) := by decide +kernel
theorem dX5_count_84 : decode cX5_count 84 = .ok (.invokevirtual 317, 3) := by decide +kernel
theorem dX5_count_87 : decode cX5_count 87 = .ok (.ireturn, 1) := by decide +kernel
theorem dX5_count_88 : decode cX5_count 88 = .ok (.aload_n 0, 1) := by decide +kernel
theorem dX5_count_89 : decode cX5_count 89 = .ok (.getfield 39, 3) := by decide +kernel
theorem dX5_count_92 : decode cX5_count 92 = .ok (.getfield 252, 3) := by decide +kernel
theorem dX5_count_95 : decode cX5_count 95 = .ok (.ireturn, 1) := by decide +kernel
theorem dX5_count_96 : decode cX5_count 96 = .ok (.aload_n 0, 1) := by decide +kernel
theorem dX5_count_97 : decode cX5_count 97 = .ok (.getfield 12, 3) := by decide +kernel
theorem dX5_count_100 : decode cX5_count 100 = .ok (.getfield 246, 3) := by decide +kernel
theorem dX5_count_103 : decode cX5_count 103 = .ok (.ireturn, 1) := by decide +kernel
theorem dX5_count_104 : decode cX5_count 104 = .ok (.aload_n 0, 1) := by decide +kernel
theorem dX5_count_105 : decode cX5_count 105 = .ok (.getfield 12, 3) := by decide +kernel
theorem dX5_count_108 : decode cX5_count 108 = .ok (.invokevirtual 320, 3) := by decide +kernel
theorem dX5_count_111 : decode cX5_count 111 = .ok (.ireturn, 1) := by decide +kernel
theorem dX5_count_112 : decode cX5_count 112 = .ok (.aload_n 0, 1) := by decide +kernel
theorem dX5_count_113 : decode cX5_count 113 = .ok (.ldc 65, 2) := by decide +kernel
theorem dX5_count_115 : decode cX5_count 115 = .ok (.invokevirtual 66, 3) := by decide +kernel
theorem dX5_count_118 : decode cX5_count 118 = .ok (.ireturn, 1) := by decide +kernel
theorem dX5_status_0 : decode cX5_status 0 = .ok (.iload_n 1, 1) := by decide +kernel
theorem dX5_status_1 : decode cX5_status 1 = .ok (.iconst (-1), 1) := by decide +kernel
theorem dX5_status_2 : decode cX5_status 2 = .ok (.if_icmp .lt 9, 3) := by decide +kernel
theorem dX5_status_5 : decode cX5_status 5 = .ok (.iload_n 1, 1) := by decide +kernel
theorem dX5_status_6 : decode cX5_status 6 = .ok (.bipush 7, 2) := by decide +kernel
theorem dX5_status_8 : decode cX5_status 8 = .ok (.if_icmp .lt 10, 3) := by decide +kernel
theorem dX5_status_11 : decode cX5_status 11 = .ok (.aload_n 0, 1) := by decide +kernel
theorem dX5_status_12 : decode cX5_status 12 = .ok (.ldc 65, 2) := by decide +kernel
theorem dX5_status_14 : decode cX5_status 14 = .ok (.invokevirtual 66, 3) := by decide +kernel
theorem dX5_status_17 : decode cX5_status 17 = .ok (.ireturn, 1) := by decide +kernel
theorem dX5_status_18 : decode cX5_status 18 = .ok (.iload_n 1, 1) := by decide +kernel
theorem dX5_status_19 : decode cX5_status 19 = .ok (.ifCond .lt 10, 3) := by decide +kernel
theorem dX5_status_22 : decode cX5_status 22 = .ok (.aload_n 0, 1) := by decide +kernel
theorem dX5_status_23 : decode cX5_status 23 = .ok (.getfield 49, 3) := by decide +kernel
theorem dX5_status_26 : decode cX5_status 26 = .ok (.iload_n 1, 1) := by decide +kernel
theorem dX5_status_27 : decode cX5_status 27 = .ok (.iaload, 1) := by decide +kernel
theorem dX5_status_28 : decode cX5_status 28 = .ok (.ireturn, 1) := by decide +kernel
theorem dX5_status_29 : decode cX5_status 29 = .ok (.iconst 0, 1) := by decide +kernel
theorem dX5_status_30 : decode cX5_status 30 = .ok (.istore_n 2, 1) := by decide +kernel
theorem dX5_status_31 : decode cX5_status 31 = .ok (.iconst 0, 1) := by decide +kernel
theorem dX5_status_32 : decode cX5_status 32 = .ok (.istore_n 3, 1) := by decide +kernel
theorem dX5_status_33 : decode cX5_status 33 = .ok (.iload_n 3, 1) := by decide +kernel
theorem dX5_status_34 : decode cX5_status 34 = .ok (.bipush 7, 2) := by decide +kernel
theorem dX5_status_36 : decode cX5_status 36 = .ok (.if_icmp .ge 18, 3) := by decide +kernel
theorem dX5_status_39 : decode cX5_status 39 = .ok (.iload_n 2, 1) := by decide +kernel
theorem dX5_status_40 : decode cX5_status 40 = .ok (.aload_n 0, 1) := by decide +kernel
theorem dX5_status_41 : decode cX5_status 41 = .ok (.getfield 49, 3) := by decide +kernel
theorem dX5_status_44 : decode cX5_status 44 = .ok (.iload_n 3, 1) := by decide +kernel
theorem dX5_status_45 : decode cX5_status 45 = .ok (.iaload, 1) := by decide +kernel
theorem dX5_status_46 : decode cX5_status 46 = .ok (.iadd, 1) := by decide +kernel
theorem dX5_status_47 : decode cX5_status 47 = .ok (.istore_n 2, 1) := by decide +kernel
theorem dX5_status_48 : decode cX5_status 48 = .ok (.iinc 3 1, 3) := by decide +kernel
theorem dX5_status_51 : decode cX5_status 51 = .ok (.goto (-18), 3) := by decide +kernel
theorem dX5_status_54 : decode cX5_status 54 = .ok (.iload_n 2, 1) := by decide +kernel
theorem dX5_status_55 : decode cX5_status 55 = .ok (.ireturn, 1) := by decide +kernel
theorem dX5_finding_0 : decode cX5_finding 0 = .ok (.ldc 65, 2) := by decide +kernel
theorem dX5_finding_2 : decode cX5_finding 2 = .ok (.iload_n 1, 1) := by decide +kernel
theorem dX5_finding_3 : decode cX5_finding 3 = .ok (.isub, 1) := by decide +kernel
theorem dX5_finding_4 : decode cX5_finding 4 = .ok (.istore_n 2, 1) := by decide +kernel
theorem dX5_finding_5 : decode cX5_finding 5 = .ok (.iload_n 2, 1) := by decide +kernel
theorem dX5_finding_6 : decode cX5_finding 6 = .ok (.ifCond .lt 19, 3) := by decide +kernel
theorem dX5_finding_9 : decode cX5_finding 9 = .ok (.iload_n 2, 1) := by decide +kernel
theorem dX5_finding_10 : decode cX5_finding 10 = .ok (.bipush 7, 2) := by decide +kernel
theorem dX5_finding_12 : decode cX5_finding 12 = .ok (.if_icmp .ge 13, 3) := by decide +kernel
theorem dX5_finding_15 : decode cX5_finding 15 = .ok (.aload_n 0, 1) := by decide +kernel
theorem dX5_finding_16 : decode cX5_finding 16 = .ok (.getfield 49, 3) := by decide +kernel
theorem dX5_finding_19 : decode cX5_finding 19 = .ok (.iload_n 2, 1) := by decide +kernel
theorem dX5_finding_20 : decode cX5_finding 20 = .ok (.dup2, 1) := by decide +kernel
theorem dX5_finding_21 : decode cX5_finding 21 = .ok (.iaload, 1) := by decide +kernel
theorem dX5_finding_22 : decode cX5_finding 22 = .ok (.iconst 1, 1) := by decide +kernel
theorem dX5_finding_23 : decode cX5_finding 23 = .ok (.iadd, 1) := by decide +kernel
theorem dX5_finding_24 : decode cX5_finding 24 = .ok (.iastore, 1) := by decide +kernel
theorem dX5_finding_25 : decode cX5_finding 25 = .ok (.iload_n 1, 1) := by decide +kernel
theorem dX5_finding_26 : decode cX5_finding 26 = .ok (.ireturn, 1) := by decide +kernel
theorem dX5_isWord_0 : decode cX5_isWord 0 = .ok (.iload_n 1, 1) := by decide +kernel
theorem dX5_isWord_1 : decode cX5_isWord 1 = .ok (.ifCond .lt 18, 3) := by decide +kernel
theorem dX5_isWord_4 : decode cX5_isWord 4 = .ok (.iload_n 1, 1) := by decide +kernel
theorem dX5_isWord_5 : decode cX5_isWord 5 = .ok (.aload_n 0, 1) := by decide +kernel
theorem dX5_isWord_6 : decode cX5_isWord 6 = .ok (.getfield 12, 3) := by decide +kernel
theorem dX5_isWord_9 : decode cX5_isWord 9 = .ok (.getfield 70, 3) := by decide +kernel
theorem dX5_isWord_12 : decode cX5_isWord 12 = .ok (.if_icmp .ge 7, 3) := by decide +kernel
theorem dX5_isWord_15 : decode cX5_isWord 15 = .ok (.iconst 1, 1) := by decide +kernel
theorem dX5_isWord_16 : decode cX5_isWord 16 = .ok (.goto 4, 3) := by decide +kernel
theorem dX5_isWord_19 : decode cX5_isWord 19 = .ok (.iconst 0, 1) := by decide +kernel
theorem dX5_isWord_20 : decode cX5_isWord 20 = .ok (.ireturn, 1) := by decide +kernel
theorem dX5_isTitle_0 : decode cX5_isTitle 0 = .ok (.iload_n 1, 1) := by decide +kernel
theorem dX5_isTitle_1 : decode cX5_isTitle 1 = .ok (.ifCond .lt 18, 3) := by decide +kernel
theorem dX5_isTitle_4 : decode cX5_isTitle 4 = .ok (.iload_n 1, 1) := by decide +kernel
theorem dX5_isTitle_5 : decode cX5_isTitle 5 = .ok (.aload_n 0, 1) := by decide +kernel
theorem dX5_isTitle_6 : decode cX5_isTitle 6 = .ok (.getfield 12, 3) := by decide +kernel
theorem dX5_isTitle_9 : decode cX5_isTitle 9 = .ok (.getfield 90, 3) := by decide +kernel
theorem dX5_isTitle_12 : decode cX5_isTitle 12 = .ok (.if_icmp .ge 7, 3) := by decide +kernel
theorem dX5_isTitle_15 : decode cX5_isTitle 15 = .ok (.iconst 1, 1) := by decide +kernel
theorem dX5_isTitle_16 : decode cX5_isTitle 16 = .ok (.goto 4, 3) := by decide +kernel
theorem dX5_isTitle_19 : decode cX5_isTitle 19 = .ok (.iconst 0, 1) := by decide +kernel
theorem dX5_isTitle_20 : decode cX5_isTitle 20 = .ok (.ireturn, 1) := by decide +kernel
theorem dX5_isSet_0 : decode cX5_isSet 0 = .ok (.iload_n 1, 1) := by decide +kernel
theorem dX5_isSet_1 : decode cX5_isSet 1 = .ok (.aload_n 0, 1) := by decide +kernel
theorem dX5_isSet_2 : decode cX5_isSet 2 = .ok (.getfield 12, 3) := by decide +kernel
theorem dX5_isSet_5 : decode cX5_isSet 5 = .ok (.invokevirtual 311, 3) := by decide +kernel
theorem dX5_isSet_8 : decode cX5_isSet 8 = .ok (.iconst (-1), 1) := by decide +kernel
theorem dX5_isSet_9 : decode cX5_isSet 9 = .ok (.ixor, 1) := by decide +kernel
theorem dX5_isSet_10 : decode cX5_isSet 10 = .ok (.iand, 1) := by decide +kernel
theorem dX5_isSet_11 : decode cX5_isSet 11 = .ok (.ifCond .ne 7, 3) := by decide +kernel
theorem dX5_isSet_14 : decode cX5_isSet 14 = .ok (.iconst 1, 1) := by decide +kernel
theorem dX5_isSet_15 : decode cX5_isSet 15 = .ok (.goto 4, 3) := by decide +kernel
theorem dX5_isSet_18 : decode cX5_isSet 18 = .ok (.iconst 0, 1) := by decide +kernel
theorem dX5_isSet_19 : decode cX5_isSet 19 = .ok (.ireturn, 1) := by decide +kernel
theorem dX5_knows_0 : decode cX5_knows 0 = .ok (.aload_n 0, 1) := by decide +kernel
theorem dX5_knows_1 : decode cX5_knows 1 = .ok (.getfield 12, 3) := by decide +kernel
theorem dX5_knows_4 : decode cX5_knows 4 = .ok (.getfield 116, 3) := by decide +kernel
theorem dX5_knows_7 : decode cX5_knows 7 = .ok (.iload_n 1, 1) := by decide +kernel
theorem dX5_knows_8 : decode cX5_knows 8 = .ok (.iaload, 1) := by decide +kernel
theorem dX5_knows_9 : decode cX5_knows 9 = .ok (.iload_n 2, 1) := by decide +kernel
theorem dX5_knows_10 : decode cX5_knows 10 = .ok (.iushr, 1) := by decide +kernel
theorem dX5_knows_11 : decode cX5_knows 11 = .ok (.iconst 1, 1) := by decide +kernel
theorem dX5_knows_12 : decode cX5_knows 12 = .ok (.iand, 1) := by decide +kernel
theorem dX5_knows_13 : decode cX5_knows 13 = .ok (.ifCond .eq 7, 3) := by decide +kernel
theorem dX5_knows_16 : decode cX5_knows 16 = .ok (.iconst 1, 1) := by decide +kernel
theorem dX5_knows_17 : decode cX5_knows 17 = .ok (.goto 4, 3) := by decide +kernel
theorem dX5_knows_20 : decode cX5_knows 20 = .ok (.iconst 0, 1) := by decide +kernel
theorem dX5_knows_21 : decode cX5_knows 21 = .ok (.ireturn, 1) := by decide +kernel
theorem dX5_isFeature_0 : decode cX5_isFeature 0 = .ok (.iload_n 0, 1) := by decide +kernel
theorem dX5_isFeature_1 : decode cX5_isFeature 1 = .ok (.ifCond .ne 20, 3) := by decide +kernel
theorem dX5_isFeature_4 : decode cX5_isFeature 4 = .ok (.iload_n 1, 1) := by decide +kernel
theorem dX5_isFeature_5 : decode cX5_isFeature 5 = .ok (.iconst 1, 1) := by decide +kernel
theorem dX5_isFeature_6 : decode cX5_isFeature 6 = .ok (.if_icmp .lt 13, 3) := by decide +kernel
theorem dX5_isFeature_9 : decode cX5_isFeature 9 = .ok (.iload_n 1, 1) := by decide +kernel
theorem dX5_isFeature_10 : decode cX5_isFeature 10 = .ok (.bipush 6, 2) := by decide +kernel
theorem dX5_isFeature_12 : decode cX5_isFeature 12 = .ok (.if_icmp .gt 7, 3) := by decide +kernel
theorem dX5_isFeature_15 : decode cX5_isFeature 15 = .ok (.iconst 1, 1) := by decide +kernel
theorem dX5_isFeature_16 : decode cX5_isFeature 16 = .ok (.goto 4, 3) := by decide +kernel
theorem dX5_isFeature_19 : decode cX5_isFeature 19 = .ok (.iconst 0, 1) := by decide +kernel
theorem dX5_isFeature_20 : decode cX5_isFeature 20 = .ok (.ireturn, 1) := by decide +kernel
theorem dX5_isFeature_21 : decode cX5_isFeature 21 = .ok (.iload_n 0, 1) := by decide +kernel
theorem dX5_isFeature_22 : decode cX5_isFeature 22 = .ok (.iconst 1, 1) := by decide +kernel
theorem dX5_isFeature_23 : decode cX5_isFeature 23 = .ok (.if_icmp .eq 8, 3) := by decide +kernel
theorem dX5_isFeature_26 : decode cX5_isFeature 26 = .ok (.iload_n 0, 1) := by decide +kernel
theorem dX5_isFeature_27 : decode cX5_isFeature 27 = .ok (.iconst 2, 1) := by decide +kernel
theorem dX5_isFeature_28 : decode cX5_isFeature 28 = .ok (.if_icmp .ne 17, 3) := by decide +kernel
theorem dX5_isFeature_31 : decode cX5_isFeature 31 = .ok (.iload_n 1, 1) := by decide +kernel
theorem dX5_isFeature_32 : decode cX5_isFeature 32 = .ok (.ifCond .lt 13, 3) := by decide +kernel
theorem dX5_isFeature_35 : decode cX5_isFeature 35 = .ok (.iload_n 1, 1) := by decide +kernel
theorem dX5_isFeature_36 : decode cX5_isFeature 36 = .ok (.bipush 9, 2) := by decide +kernel
theorem dX5_isFeature_38 : decode cX5_isFeature 38 = .ok (.if_icmp .gt 7, 3) := by decide +kernel
theorem dX5_isFeature_41 : decode cX5_isFeature 41 = .ok (.iconst 1, 1) := by decide +kernel
theorem dX5_isFeature_42 : decode cX5_isFeature 42 = .ok (.goto 4, 3) := by decide +kernel
theorem dX5_isFeature_45 : decode cX5_isFeature 45 = .ok (.iconst 0, 1) := by decide +kernel
theorem dX5_isFeature_46 : decode cX5_isFeature 46 = .ok (.ireturn, 1) := by decide +kernel
theorem dX5_isBand_0 : decode cX5_isBand 0 = .ok (.iload_n 0, 1) := by decide +kernel
theorem dX5_isBand_1 : decode cX5_isBand 1 = .ok (.ifCond .lt 12, 3) := by decide +kernel
theorem dX5_isBand_4 : decode cX5_isBand 4 = .ok (.iload_n 0, 1) := by decide +kernel
theorem dX5_isBand_5 : decode cX5_isBand 5 = .ok (.iconst 2, 1) := by decide +kernel
theorem dX5_isBand_6 : decode cX5_isBand 6 = .ok (.if_icmp .ge 7, 3) := by decide +kernel
theorem dX5_isBand_9 : decode cX5_isBand 9 = .ok (.iconst 1, 1) := by decide +kernel
theorem dX5_isBand_10 : decode cX5_isBand 10 = .ok (.goto 4, 3) := by decide +kernel
theorem dX5_isBand_13 : decode cX5_isBand 13 = .ok (.iconst 0, 1) := by decide +kernel
theorem dX5_isBand_14 : decode cX5_isBand 14 = .ok (.ireturn, 1) := by decide +kernel
theorem dX5_isKind_0 : decode cX5_isKind 0 = .ok (.iload_n 0, 1) := by decide +kernel
theorem dX5_isKind_1 : decode cX5_isKind 1 = .ok (.ifCond .lt 13, 3) := by decide +kernel
theorem dX5_isKind_4 : decode cX5_isKind 4 = .ok (.iload_n 0, 1) := by decide +kernel
theorem dX5_isKind_5 : decode cX5_isKind 5 = .ok (.bipush 7, 2) := by decide +kernel
theorem dX5_isKind_7 : decode cX5_isKind 7 = .ok (.if_icmp .ge 7, 3) := by decide +kernel
theorem dX5_isKind_10 : decode cX5_isKind 10 = .ok (.iconst 1, 1) := by decide +kernel
theorem dX5_isKind_11 : decode cX5_isKind 11 = .ok (.goto 4, 3) := by decide +kernel
theorem dX5_isKind_14 : decode cX5_isKind 14 = .ok (.iconst 0, 1) := by decide +kernel
theorem dX5_isKind_15 : decode cX5_isKind 15 = .ok (.ireturn, 1) := by decide +kernel
theorem dX5_isPlace_0 : decode cX5_isPlace 0 = .ok (.iload_n 0, 1) := by decide +kernel
theorem dX5_isPlace_1 : decode cX5_isPlace 1 = .ok (.ifCond .lt 12, 3) := by decide +kernel
theorem dX5_isPlace_4 : decode cX5_isPlace 4 = .ok (.iload_n 0, 1) := by decide +kernel
theorem dX5_isPlace_5 : decode cX5_isPlace 5 = .ok (.iconst 4, 1) := by decide +kernel
theorem dX5_isPlace_6 : decode cX5_isPlace 6 = .ok (.if_icmp .ge 7, 3) := by decide +kernel
theorem dX5_isPlace_9 : decode cX5_isPlace 9 = .ok (.iconst 1, 1) := by decide +kernel
theorem dX5_isPlace_10 : decode cX5_isPlace 10 = .ok (.goto 4, 3) := by decide +kernel
theorem dX5_isPlace_13 : decode cX5_isPlace 13 = .ok (.iconst 0, 1) := by decide +kernel
theorem dX5_isPlace_14 : decode cX5_isPlace 14 = .ok (.ireturn, 1) := by decide +kernel
theorem dX5_isSpot_0 : decode cX5_isSpot 0 = .ok (.iload_n 0, 1) := by decide +kernel
theorem dX5_isSpot_1 : decode cX5_isSpot 1 = .ok (.ifCond .lt 13, 3) := by decide +kernel
theorem dX5_isSpot_4 : decode cX5_isSpot 4 = .ok (.iload_n 0, 1) := by decide +kernel
theorem dX5_isSpot_5 : decode cX5_isSpot 5 = .ok (.bipush 10, 2) := by decide +kernel
theorem dX5_isSpot_7 : decode cX5_isSpot 7 = .ok (.if_icmp .ge 7, 3) := by decide +kernel
theorem dX5_isSpot_10 : decode cX5_isSpot 10 = .ok (.iconst 1, 1) := by decide +kernel
theorem dX5_isSpot_11 : decode cX5_isSpot 11 = .ok (.goto 4, 3) := by decide +kernel
theorem dX5_isSpot_14 : decode cX5_isSpot 14 = .ok (.iconst 0, 1) := by decide +kernel
theorem dX5_isSpot_15 : decode cX5_isSpot 15 = .ok (.ireturn, 1) := by decide +kernel
theorem dX5_isSheet_0 : decode cX5_isSheet 0 = .ok (.iload_n 0, 1) := by decide +kernel
theorem dX5_isSheet_1 : decode cX5_isSheet 1 = .ok (.ifCond .lt 12, 3) := by decide +kernel
theorem dX5_isSheet_4 : decode cX5_isSheet 4 = .ok (.iload_n 0, 1) := by decide +kernel
theorem dX5_isSheet_5 : decode cX5_isSheet 5 = .ok (.iconst 4, 1) := by decide +kernel
theorem dX5_isSheet_6 : decode cX5_isSheet 6 = .ok (.if_icmp .ge 7, 3) := by decide +kernel
theorem dX5_isSheet_9 : decode cX5_isSheet 9 = .ok (.iconst 1, 1) := by decide +kernel
theorem dX5_isSheet_10 : decode cX5_isSheet 10 = .ok (.goto 4, 3) := by decide +kernel
theorem dX5_isSheet_13 : decode cX5_isSheet 13 = .ok (.iconst 0, 1) := by decide +kernel
theorem dX5_isSheet_14 : decode cX5_isSheet 14 = .ok (.ireturn, 1) := by decide +kernel
theorem dX5_signOf_0 : decode cX5_signOf 0 = .ok (.iconst 4, 1) := by decide +kernel
theorem dX5_signOf_1 : decode cX5_signOf 1 = .ok (.iload_n 0, 1) := by decide +kernel
theorem dX5_signOf_2 : decode cX5_signOf 2 = .ok (.imul, 1) := by decide +kernel
theorem dX5_signOf_3 : decode cX5_signOf 3 = .ok (.iload_n 1, 1) := by decide +kernel
theorem dX5_signOf_4 : decode cX5_signOf 4 = .ok (.iadd, 1) := by decide +kernel
theorem dX5_signOf_5 : decode cX5_signOf 5 = .ok (.ireturn, 1) := by decide +kernel
theorem dX5_kindOf_0 : decode cX5_kindOf 0 = .ok (.iload_n 0, 1) := by decide +kernel
theorem dX5_kindOf_1 : decode cX5_kindOf 1 = .ok (.iconst 4, 1) := by decide +kernel
theorem dX5_kindOf_2 : decode cX5_kindOf 2 = .ok (.idiv, 1) := by decide +kernel
theorem dX5_kindOf_3 : decode cX5_kindOf 3 = .ok (.ireturn, 1) := by decide +kernel
theorem dX5_placeOf_0 : decode cX5_placeOf 0 = .ok (.iload_n 0, 1) := by decide +kernel
theorem dX5_placeOf_1 : decode cX5_placeOf 1 = .ok (.iconst 4, 1) := by decide +kernel
theorem dX5_placeOf_2 : decode cX5_placeOf 2 = .ok (.irem, 1) := by decide +kernel
theorem dX5_placeOf_3 : decode cX5_placeOf 3 = .ok (.ireturn, 1) := by decide +kernel
theorem dX5_isOfKind_0 : decode cX5_isOfKind 0 = .ok (.iload_n 0, 1) := by decide +kernel
theorem dX5_isOfKind_1 : decode cX5_isOfKind 1 = .ok (.istore_n 2, 1) := by decide +kernel
theorem dX5_isOfKind_2 : decode cX5_isOfKind 2 = .ok (.iconst 0, 1) := by decide +kernel
theorem dX5_isOfKind_3 : decode cX5_isOfKind 3 = .ok (.istore_n 3, 1) := by decide +kernel
theorem dX5_isOfKind_4 : decode cX5_isOfKind 4 = .ok (.iload_n 3, 1) := by decide +kernel
theorem dX5_isOfKind_5 : decode cX5_isOfKind 5 = .ok (.bipush 7, 2) := by decide +kernel
theorem dX5_isOfKind_7 : decode cX5_isOfKind 7 = .ok (.if_icmp .ge 26, 3) := by decide +kernel
theorem dX5_isOfKind_10 : decode cX5_isOfKind 10 = .ok (.iload_n 2, 1) := by decide +kernel
theorem dX5_isOfKind_11 : decode cX5_isOfKind 11 = .ok (.ifCond .lt 22, 3) := by decide +kernel
theorem dX5_isOfKind_14 : decode cX5_isOfKind 14 = .ok (.iload_n 2, 1) := by decide +kernel
theorem dX5_isOfKind_15 : decode cX5_isOfKind 15 = .ok (.iload_n 1, 1) := by decide +kernel
theorem dX5_isOfKind_16 : decode cX5_isOfKind 16 = .ok (.if_icmp .ne 5, 3) := by decide +kernel
theorem dX5_isOfKind_19 : decode cX5_isOfKind 19 = .ok (.iconst 1, 1) := by decide +kernel
theorem dX5_isOfKind_20 : decode cX5_isOfKind 20 = .ok (.ireturn, 1) := by decide +kernel
theorem dX5_isOfKind_21 : decode cX5_isOfKind 21 = .ok (.getstatic 323, 3) := by decide +kernel
theorem dX5_isOfKind_24 : decode cX5_isOfKind 24 = .ok (.iload_n 2, 1) := by decide +kernel
theorem dX5_isOfKind_25 : decode cX5_isOfKind 25 = .ok (.iaload, 1) := by decide +kernel
theorem dX5_isOfKind_26 : decode cX5_isOfKind 26 = .ok (.istore_n 2, 1) := by decide +kernel
theorem dX5_isOfKind_27 : decode cX5_isOfKind 27 = .ok (.iinc 3 1, 3) := by decide +kernel
theorem dX5_isOfKind_30 : decode cX5_isOfKind 30 = .ok (.goto (-26), 3) := by decide +kernel
theorem dX5_isOfKind_33 : decode cX5_isOfKind 33 = .ok (.iconst 0, 1) := by decide +kernel
theorem dX5_isOfKind_34 : decode cX5_isOfKind 34 = .ok (.ireturn, 1) := by decide +kernel
theorem dX5_timeOf_0 : decode cX5_timeOf 0 = .ok (.iload_n 0, 1) := by decide +kernel
theorem dX5_timeOf_1 : decode cX5_timeOf 1 = .ok (.invokestatic 272, 3) := by decide +kernel
theorem dX5_timeOf_4 : decode cX5_timeOf 4 = .ok (.tableswitch 54 0 5 #[40, 42, 47, 44, 50, 52], 40) := by decide +kernel
theorem dX5_timeOf_44 : decode cX5_timeOf 44 = .ok (.iconst 3, 1) := by decide +kernel
theorem dX5_timeOf_45 : decode cX5_timeOf 45 = .ok (.ireturn, 1) := by decide +kernel
theorem dX5_timeOf_46 : decode cX5_timeOf 46 = .ok (.iconst 5, 1) := by decide +kernel
theorem dX5_timeOf_47 : decode cX5_timeOf 47 = .ok (.ireturn, 1) := by decide +kernel
theorem dX5_timeOf_48 : decode cX5_timeOf 48 = .ok (.bipush 12, 2) := by decide +kernel
theorem dX5_timeOf_50 : decode cX5_timeOf 50 = .ok (.ireturn, 1) := by decide +kernel
theorem dX5_timeOf_51 : decode cX5_timeOf 51 = .ok (.bipush 8, 2) := by decide +kernel
theorem dX5_timeOf_53 : decode cX5_timeOf 53 = .ok (.ireturn, 1) := by decide +kernel
theorem dX5_timeOf_54 : decode cX5_timeOf 54 = .ok (.iconst 4, 1) := by decide +kernel
theorem dX5_timeOf_55 : decode cX5_timeOf 55 = .ok (.ireturn, 1) := by decide +kernel
theorem dX5_timeOf_56 : decode cX5_timeOf 56 = .ok (.iconst 2, 1) := by decide +kernel
theorem dX5_timeOf_57 : decode cX5_timeOf 57 = .ok (.ireturn, 1) := by decide +kernel
theorem dX5_timeOf_58 : decode cX5_timeOf 58 = .ok (.bipush 20, 2) := by decide +kernel
theorem dX5_timeOf_60 : decode cX5_timeOf 60 = .ok (.iload_n 0, 1) := by decide +kernel
theorem dX5_timeOf_61 : decode cX5_timeOf 61 = .ok (.invokestatic 278, 3) := by decide +kernel
theorem dX5_timeOf_64 : decode cX5_timeOf 64 = .ok (.iadd, 1) := by decide +kernel
theorem dX5_timeOf_65 : decode cX5_timeOf 65 = .ok (.ireturn, 1) := by decide +kernel
theorem dX5_playTrial_0 : decode cX5_playTrial 0 = .ok (.aload_n 0, 1) := by decide +kernel
theorem dX5_playTrial_1 : decode cX5_playTrial 1 = .ok (.getfield 32, 3) := by decide +kernel
theorem dX5_playTrial_4 : decode cX5_playTrial 4 = .ok (.iload_n 1, 1) := by decide +kernel
theorem dX5_playTrial_5 : decode cX5_playTrial 5 = .ok (.iload_n 2, 1) := by decide +kernel
theorem dX5_playTrial_6 : decode cX5_playTrial 6 = .ok (.aload_n 0, 1) := by decide +kernel
theorem dX5_playTrial_7 : decode cX5_playTrial 7 = .ok (.getfield 12, 3) := by decide +kernel
theorem dX5_playTrial_10 : decode cX5_playTrial 10 = .ok (.getfield 116, 3) := by decide +kernel
theorem dX5_playTrial_13 : decode cX5_playTrial 13 = .ok (.iload_n 2, 1) := by decide +kernel
theorem dX5_playTrial_14 : decode cX5_playTrial 14 = .ok (.iaload, 1) := by decide +kernel
theorem dX5_playTrial_15 : decode cX5_playTrial 15 = .ok (.invokevirtual 158, 3) := by decide +kernel
theorem dX5_playTrial_18 : decode cX5_playTrial 18 = .ok (.aload_n 0, 1) := by decide +kernel
theorem dX5_playTrial_19 : decode cX5_playTrial 19 = .ok (.getfield 25, 3) := by decide +kernel
theorem dX5_playTrial_22 : decode cX5_playTrial 22 = .ok (.aload_n 0, 1) := by decide +kernel
theorem dX5_playTrial_23 : decode cX5_playTrial 23 = .ok (.getfield 32, 3) := by decide +kernel
theorem dX5_playTrial_26 : decode cX5_playTrial 26 = .ok (.invokevirtual 326, 3) := by decide +kernel
theorem dX5_playTrial_29 : decode cX5_playTrial 29 = .ok (.aload_n 0, 1) := by decide +kernel
theorem dX5_playTrial_30 : decode cX5_playTrial 30 = .ok (.getfield 32, 3) := by decide +kernel
theorem dX5_playTrial_33 : decode cX5_playTrial 33 = .ok (.invokevirtual 190, 3) := by decide +kernel
theorem dX5_playTrial_36 : decode cX5_playTrial 36 = .ok (.ireturn, 1) := by decide +kernel
theorem dX5_eveningFinding_0 : decode cX5_eveningFinding 0 = .ok (.iload_n 1, 1) := by decide +kernel
theorem dX5_eveningFinding_1 : decode cX5_eveningFinding 1 = .ok (.invokestatic 113, 3) := by decide +kernel
theorem dX5_eveningFinding_4 : decode cX5_eveningFinding 4 = .ok (.ifCond .eq 14, 3) := by decide +kernel
theorem dX5_eveningFinding_7 : decode cX5_eveningFinding 7 = .ok (.iload_n 2, 1) := by decide +kernel
theorem dX5_eveningFinding_8 : decode cX5_eveningFinding 8 = .ok (.iconst 1, 1) := by decide +kernel
theorem dX5_eveningFinding_9 : decode cX5_eveningFinding 9 = .ok (.if_icmp .lt 9, 3) := by decide +kernel
theorem dX5_eveningFinding_12 : decode cX5_eveningFinding 12 = .ok (.iload_n 2, 1) := by decide +kernel
theorem dX5_eveningFinding_13 : decode cX5_eveningFinding 13 = .ok (.bipush 12, 2) := by decide +kernel
theorem dX5_eveningFinding_15 : decode cX5_eveningFinding 15 = .ok (.if_icmp .le 10, 3) := by decide +kernel
theorem dX5_eveningFinding_18 : decode cX5_eveningFinding 18 = .ok (.aload_n 0, 1) := by decide +kernel
theorem dX5_eveningFinding_19 : decode cX5_eveningFinding 19 = .ok (.ldc 65, 2) := by decide +kernel
theorem dX5_eveningFinding_21 : decode cX5_eveningFinding 21 = .ok (.invokevirtual 66, 3) := by decide +kernel
theorem dX5_eveningFinding_24 : decode cX5_eveningFinding 24 = .ok (.ireturn, 1) := by decide +kernel
theorem dX5_eveningFinding_25 : decode cX5_eveningFinding 25 = .ok (.aload_n 0, 1) := by decide +kernel
theorem dX5_eveningFinding_26 : decode cX5_eveningFinding 26 = .ok (.getfield 12, 3) := by decide +kernel
theorem dX5_eveningFinding_29 : decode cX5_eveningFinding 29 = .ok (.getfield 116, 3) := by decide +kernel
theorem dX5_eveningFinding_32 : decode cX5_eveningFinding 32 = .ok (.iload_n 1, 1) := by decide +kernel
theorem dX5_eveningFinding_33 : decode cX5_eveningFinding 33 = .ok (.iaload, 1) := by decide +kernel
theorem dX5_eveningFinding_34 : decode cX5_eveningFinding 34 = .ok (.ifCond .ne 12, 3) := by decide +kernel
theorem dX5_eveningFinding_37 : decode cX5_eveningFinding 37 = .ok (.aload_n 0, 1) := by decide +kernel
theorem dX5_eveningFinding_38 : decode cX5_eveningFinding 38 = .ok (.ldc 154, 2) := by decide +kernel
theorem dX5_eveningFinding_40 : decode cX5_eveningFinding 40 = .ok (.invokevirtual 66, 3) := by decide +kernel
theorem dX5_eveningFinding_43 : decode cX5_eveningFinding 43 = .ok (.goto 4, 3) := by decide +kernel
theorem dX5_eveningFinding_46 : decode cX5_eveningFinding 46 = .ok (.iconst 0, 1) := by decide +kernel
theorem dX5_eveningFinding_47 : decode cX5_eveningFinding 47 = .ok (.ireturn, 1) := by decide +kernel
theorem dX5_playEvening_0 : decode cX5_playEvening 0 = .ok (.aload_n 0, 1) := by decide +kernel
theorem dX5_playEvening_1 : decode cX5_playEvening 1 = .ok (.getfield 25, 3) := by decide +kernel
theorem dX5_playEvening_4 : decode cX5_playEvening 4 = .ok (.aload_n 0, 1) := by decide +kernel
theorem dX5_playEvening_5 : decode cX5_playEvening 5 = .ok (.getfield 12, 3) := by decide +kernel
theorem dX5_playEvening_8 : decode cX5_playEvening 8 = .ok (.invokevirtual 138, 3) := by decide +kernel
theorem dX5_playEvening_11 : decode cX5_playEvening 11 = .ok (.iconst 0, 1) := by decide +kernel
theorem dX5_playEvening_12 : decode cX5_playEvening 12 = .ok (.istore_n 3, 1) := by decide +kernel
theorem dX5_playEvening_13 : decode cX5_playEvening 13 = .ok (.iload_n 3, 1) := by decide +kernel
theorem dX5_playEvening_14 : decode cX5_playEvening 14 = .ok (.iload_n 2, 1) := by decide +kernel
theorem dX5_playEvening_15 : decode cX5_playEvening 15 = .ok (.if_icmp .ge 34, 3) := by decide +kernel
theorem dX5_playEvening_18 : decode cX5_playEvening 18 = .ok (.aload_n 0, 1) := by decide +kernel
theorem dX5_playEvening_19 : decode cX5_playEvening 19 = .ok (.getfield 12, 3) := by decide +kernel
theorem dX5_playEvening_22 : decode cX5_playEvening 22 = .ok (.getfield 194, 3) := by decide +kernel
theorem dX5_playEvening_25 : decode cX5_playEvening 25 = .ok (.iload_n 1, 1) := by decide +kernel
theorem dX5_playEvening_26 : decode cX5_playEvening 26 = .ok (.dup2, 1) := by decide +kernel
theorem dX5_playEvening_27 : decode cX5_playEvening 27 = .ok (.iaload, 1) := by decide +kernel
theorem dX5_playEvening_28 : decode cX5_playEvening 28 = .ok (.aload_n 0, 1) := by decide +kernel
theorem dX5_playEvening_29 : decode cX5_playEvening 29 = .ok (.aload_n 0, 1) := by decide +kernel
theorem dX5_playEvening_30 : decode cX5_playEvening 30 = .ok (.getfield 12, 3) := by decide +kernel
theorem dX5_playEvening_33 : decode cX5_playEvening 33 = .ok (.iload_n 1, 1) := by decide +kernel
theorem dX5_playEvening_34 : decode cX5_playEvening 34 = .ok (.invokevirtual 330, 3) := by decide +kernel
theorem dX5_playEvening_37 : decode cX5_playEvening 37 = .ok (.iload_n 1, 1) := by decide +kernel
theorem dX5_playEvening_38 : decode cX5_playEvening 38 = .ok (.invokevirtual 233, 3) := by decide +kernel
theorem dX5_playEvening_41 : decode cX5_playEvening 41 = .ok (.iadd, 1) := by decide +kernel
theorem dX5_playEvening_42 : decode cX5_playEvening 42 = .ok (.iastore, 1) := by decide +kernel
theorem dX5_playEvening_43 : decode cX5_playEvening 43 = .ok (.iinc 3 1, 3) := by decide +kernel
theorem dX5_playEvening_46 : decode cX5_playEvening 46 = .ok (.goto (-33), 3) := by decide +kernel
theorem dX5_playEvening_49 : decode cX5_playEvening 49 = .ok (.return_, 1) := by decide +kernel
theorem dX5_dearest_0 : decode cX5_dearest 0 = .ok (.iconst 0, 1) := by decide +kernel
theorem dX5_dearest_1 : decode cX5_dearest 1 = .ok (.istore_n 2, 1) := by decide +kernel
theorem dX5_dearest_2 : decode cX5_dearest 2 = .ok (.iconst 0, 1) := by decide +kernel
theorem dX5_dearest_3 : decode cX5_dearest 3 = .ok (.istore_n 3, 1) := by decide +kernel
theorem dX5_dearest_4 : decode cX5_dearest 4 = .ok (.iload_n 3, 1) := by decide +kernel
theorem dX5_dearest_5 : decode cX5_dearest 5 = .ok (.iload_n 1, 1) := by decide +kernel
theorem dX5_dearest_6 : decode cX5_dearest 6 = .ok (.if_icmp .ge 82, 3) := by decide +kernel
theorem dX5_dearest_9 : decode cX5_dearest 9 = .ok (.iconst (-1), 1) := by decide +kernel
theorem dX5_dearest_10 : decode cX5_dearest 10 = .ok (.istore 4, 2) := by decide +kernel
theorem dX5_dearest_12 : decode cX5_dearest 12 = .ok (.iconst (-1), 1) := by decide +kernel
theorem dX5_dearest_13 : decode cX5_dearest 13 = .ok (.istore 5, 2) := by decide +kernel
theorem dX5_dearest_15 : decode cX5_dearest 15 = .ok (.iconst 0, 1) := by decide +kernel
theorem dX5_dearest_16 : decode cX5_dearest 16 = .ok (.istore 6, 2) := by decide +kernel
theorem dX5_dearest_18 : decode cX5_dearest 18 = .ok (.iload 6, 2) := by decide +kernel
theorem dX5_dearest_20 : decode cX5_dearest 20 = .ok (.aload_n 0, 1) := by decide +kernel
theorem dX5_dearest_21 : decode cX5_dearest 21 = .ok (.getfield 12, 3) := by decide +kernel
theorem dX5_dearest_24 : decode cX5_dearest 24 = .ok (.getfield 90, 3) := by decide +kernel
theorem dX5_dearest_27 : decode cX5_dearest 27 = .ok (.if_icmp .ge 43, 3) := by decide +kernel
theorem dX5_dearest_30 : decode cX5_dearest 30 = .ok (.iload_n 2, 1) := by decide +kernel
theorem dX5_dearest_31 : decode cX5_dearest 31 = .ok (.iload 6, 2) := by decide +kernel
theorem dX5_dearest_33 : decode cX5_dearest 33 = .ok (.iushr, 1) := by decide +kernel
theorem dX5_dearest_34 : decode cX5_dearest 34 = .ok (.iconst 1, 1) := by decide +kernel
theorem dX5_dearest_35 : decode cX5_dearest 35 = .ok (.iand, 1) := by decide +kernel
theorem dX5_dearest_36 : decode cX5_dearest 36 = .ok (.ifCond .ne 28, 3) := by decide +kernel
theorem dX5_dearest_39 : decode cX5_dearest 39 = .ok (.aload_n 0, 1) := by decide +kernel
theorem dX5_dearest_40 : decode cX5_dearest 40 = .ok (.getfield 53, 3) := by decide +kernel
theorem dX5_dearest_43 : decode cX5_dearest 43 = .ok (.iload 6, 2) := by decide +kernel
theorem dX5_dearest_45 : decode cX5_dearest 45 = .ok (.iaload, 1) := by decide +kernel
theorem dX5_dearest_46 : decode cX5_dearest 46 = .ok (.iload 5, 2) := by decide +kernel
theorem dX5_dearest_48 : decode cX5_dearest 48 = .ok (.if_icmp .le 16, 3) := by decide +kernel
theorem dX5_dearest_51 : decode cX5_dearest 51 = .ok (.aload_n 0, 1) := by decide +kernel
theorem dX5_dearest_52 : decode cX5_dearest 52 = .ok (.getfield 53, 3) := by decide +kernel
theorem dX5_dearest_55 : decode cX5_dearest 55 = .ok (.iload 6, 2) := by decide +kernel
theorem dX5_dearest_57 : decode cX5_dearest 57 = .ok (.iaload, 1) := by decide +kernel
theorem dX5_dearest_58 : decode cX5_dearest 58 = .ok (.istore 5, 2) := by decide +kernel
theorem dX5_dearest_60 : decode cX5_dearest 60 = .ok (.iload 6, 2) := by decide +kernel
theorem dX5_dearest_62 : decode cX5_dearest 62 = .ok (.istore 4, 2) := by decide +kernel
theorem dX5_dearest_64 : decode cX5_dearest 64 = .ok (.iinc 6 1, 3) := by decide +kernel
theorem dX5_dearest_67 : decode cX5_dearest 67 = .ok (.goto (-49), 3) := by decide +kernel
theorem dX5_dearest_70 : decode cX5_dearest 70 = .ok (.iload 4, 2) := by decide +kernel
theorem dX5_dearest_72 : decode cX5_dearest 72 = .ok (.ifCond .lt 10, 3) := by decide +kernel
theorem dX5_dearest_75 : decode cX5_dearest 75 = .ok (.iload_n 2, 1) := by decide +kernel
theorem dX5_dearest_76 : decode cX5_dearest 76 = .ok (.iconst 1, 1) := by decide +kernel
theorem dX5_dearest_77 : decode cX5_dearest 77 = .ok (.iload 4, 2) := by decide +kernel
theorem dX5_dearest_79 : decode cX5_dearest 79 = .ok (.ishl, 1) := by decide +kernel
theorem dX5_dearest_80 : decode cX5_dearest 80 = .ok (.ior, 1) := by decide +kernel
theorem dX5_dearest_81 : decode cX5_dearest 81 = .ok (.istore_n 2, 1) := by decide +kernel
theorem dX5_dearest_82 : decode cX5_dearest 82 = .ok (.iinc 3 1, 3) := by decide +kernel
theorem dX5_dearest_85 : decode cX5_dearest 85 = .ok (.goto (-81), 3) := by decide +kernel
theorem dX5_dearest_88 : decode cX5_dearest 88 = .ok (.iload_n 2, 1) := by decide +kernel
theorem dX5_dearest_89 : decode cX5_dearest 89 = .ok (.ireturn, 1) := by decide +kernel
