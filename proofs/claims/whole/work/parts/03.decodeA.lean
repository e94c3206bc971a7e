theorem dX0_init_0 : decode cX0_init 0 = .ok (.aload_n 0, 1) := by decide +kernel
theorem dX0_init_1 : decode cX0_init 1 = .ok (.invokespecial 3, 3) := by decide +kernel
theorem dX0_init_4 : decode cX0_init 4 = .ok (.aload_n 0, 1) := by decide +kernel
theorem dX0_init_5 : decode cX0_init 5 = .ok (.sipush 672, 3) := by decide +kernel
theorem dX0_init_8 : decode cX0_init 8 = .ok (.newarray .int, 2) := by decide +kernel
theorem dX0_init_10 : decode cX0_init 10 = .ok (.putfield 9, 3) := by decide +kernel
theorem dX0_init_13 : decode cX0_init 13 = .ok (.aload_n 0, 1) := by decide +kernel
theorem dX0_init_14 : decode cX0_init 14 = .ok (.bipush 24, 2) := by decide +kernel
theorem dX0_init_16 : decode cX0_init 16 = .ok (.newarray .int, 2) := by decide +kernel
theorem dX0_init_18 : decode cX0_init 18 = .ok (.putfield 15, 3) := by decide +kernel
theorem dX0_init_21 : decode cX0_init 21 = .ok (.aload_n 0, 1) := by decide +kernel
theorem dX0_init_22 : decode cX0_init 22 = .ok (.bipush 97, 2) := by decide +kernel
theorem dX0_init_24 : decode cX0_init 24 = .ok (.newarray .int, 2) := by decide +kernel
theorem dX0_init_26 : decode cX0_init 26 = .ok (.putfield 18, 3) := by decide +kernel
theorem dX0_init_29 : decode cX0_init 29 = .ok (.aload_n 0, 1) := by decide +kernel
theorem dX0_init_30 : decode cX0_init 30 = .ok (.iconst 0, 1) := by decide +kernel
theorem dX0_init_31 : decode cX0_init 31 = .ok (.putfield 21, 3) := by decide +kernel
theorem dX0_init_34 : decode cX0_init 34 = .ok (.return_, 1) := by decide +kernel
theorem dX0_fill_0 : decode cX0_fill 0 = .ok (.aload_n 0, 1) := by decide +kernel
theorem dX0_fill_1 : decode cX0_fill 1 = .ok (.aload_n 1, 1) := by decide +kernel
theorem dX0_fill_2 : decode cX0_fill 2 = .ok (.getfield 25, 3) := by decide +kernel
theorem dX0_fill_5 : decode cX0_fill 5 = .ok (.putfield 21, 3) := by decide +kernel
theorem dX0_fill_8 : decode cX0_fill 8 = .ok (.iconst 0, 1) := by decide +kernel
theorem dX0_fill_9 : decode cX0_fill 9 = .ok (.istore_n 2, 1) := by decide +kernel
theorem dX0_fill_10 : decode cX0_fill 10 = .ok (.iload_n 2, 1) := by decide +kernel
theorem dX0_fill_11 : decode cX0_fill 11 = .ok (.bipush 28, 2) := by decide +kernel
theorem dX0_fill_13 : decode cX0_fill 13 = .ok (.if_icmp .ge 15, 3) := by decide +kernel
theorem dX0_fill_16 : decode cX0_fill 16 = .ok (.aload_n 0, 1) := by decide +kernel
theorem dX0_fill_17 : decode cX0_fill 17 = .ok (.aload_n 1, 1) := by decide +kernel
theorem dX0_fill_18 : decode cX0_fill 18 = .ok (.iload_n 2, 1) := by decide +kernel
theorem dX0_fill_19 : decode cX0_fill 19 = .ok (.invokevirtual 28, 3) := by decide +kernel
theorem dX0_fill_22 : decode cX0_fill 22 = .ok (.iinc 2 1, 3) := by decide +kernel
theorem dX0_fill_25 : decode cX0_fill 25 = .ok (.goto (-15), 3) := by decide +kernel
theorem dX0_fill_28 : decode cX0_fill 28 = .ok (.return_, 1) := by decide +kernel
theorem dX0_fillSign_0 : decode cX0_fillSign 0 = .ok (.iconst 0, 1) := by decide +kernel
theorem dX0_fillSign_1 : decode cX0_fillSign 1 = .ok (.istore_n 3, 1) := by decide +kernel
theorem dX0_fillSign_2 : decode cX0_fillSign 2 = .ok (.iload_n 3, 1) := by decide +kernel
theorem dX0_fillSign_3 : decode cX0_fillSign 3 = .ok (.aload_n 0, 1) := by decide +kernel
theorem dX0_fillSign_4 : decode cX0_fillSign 4 = .ok (.getfield 21, 3) := by decide +kernel
theorem dX0_fillSign_7 : decode cX0_fillSign 7 = .ok (.if_icmp .ge 45, 3) := by decide +kernel
theorem dX0_fillSign_10 : decode cX0_fillSign 10 = .ok (.aload_n 1, 1) := by decide +kernel
theorem dX0_fillSign_11 : decode cX0_fillSign 11 = .ok (.iload_n 2, 1) := by decide +kernel
theorem dX0_fillSign_12 : decode cX0_fillSign 12 = .ok (.invokestatic 32, 3) := by decide +kernel
theorem dX0_fillSign_15 : decode cX0_fillSign 15 = .ok (.iload_n 2, 1) := by decide +kernel
theorem dX0_fillSign_16 : decode cX0_fillSign 16 = .ok (.invokestatic 36, 3) := by decide +kernel
theorem dX0_fillSign_19 : decode cX0_fillSign 19 = .ok (.iload_n 3, 1) := by decide +kernel
theorem dX0_fillSign_20 : decode cX0_fillSign 20 = .ok (.invokevirtual 39, 3) := by decide +kernel
theorem dX0_fillSign_23 : decode cX0_fillSign 23 = .ok (.istore 4, 2) := by decide +kernel
theorem dX0_fillSign_25 : decode cX0_fillSign 25 = .ok (.aload_n 0, 1) := by decide +kernel
theorem dX0_fillSign_26 : decode cX0_fillSign 26 = .ok (.getfield 15, 3) := by decide +kernel
theorem dX0_fillSign_29 : decode cX0_fillSign 29 = .ok (.iload_n 3, 1) := by decide +kernel
theorem dX0_fillSign_30 : decode cX0_fillSign 30 = .ok (.iload 4, 2) := by decide +kernel
theorem dX0_fillSign_32 : decode cX0_fillSign 32 = .ok (.iastore, 1) := by decide +kernel
theorem dX0_fillSign_33 : decode cX0_fillSign 33 = .ok (.aload_n 0, 1) := by decide +kernel
theorem dX0_fillSign_34 : decode cX0_fillSign 34 = .ok (.getfield 18, 3) := by decide +kernel
theorem dX0_fillSign_37 : decode cX0_fillSign 37 = .ok (.iload 4, 2) := by decide +kernel
theorem dX0_fillSign_39 : decode cX0_fillSign 39 = .ok (.dup2, 1) := by decide +kernel
theorem dX0_fillSign_40 : decode cX0_fillSign 40 = .ok (.iaload, 1) := by decide +kernel
theorem dX0_fillSign_41 : decode cX0_fillSign 41 = .ok (.iconst 1, 1) := by decide +kernel
theorem dX0_fillSign_42 : decode cX0_fillSign 42 = .ok (.iload_n 3, 1) := by decide +kernel
theorem dX0_fillSign_43 : decode cX0_fillSign 43 = .ok (.ishl, 1) := by decide +kernel
theorem dX0_fillSign_44 : decode cX0_fillSign 44 = .ok (.ior, 1) := by decide +kernel
theorem dX0_fillSign_45 : decode cX0_fillSign 45 = .ok (.iastore, 1) := by decide +kernel
theorem dX0_fillSign_46 : decode cX0_fillSign 46 = .ok (.iinc 3 1, 3) := by decide +kernel
theorem dX0_fillSign_49 : decode cX0_fillSign 49 = .ok (.goto (-47), 3) := by decide +kernel
theorem dX0_fillSign_52 : decode cX0_fillSign 52 = .ok (.iconst 0, 1) := by decide +kernel
theorem dX0_fillSign_53 : decode cX0_fillSign 53 = .ok (.istore_n 3, 1) := by decide +kernel
theorem dX0_fillSign_54 : decode cX0_fillSign 54 = .ok (.iload_n 3, 1) := by decide +kernel
theorem dX0_fillSign_55 : decode cX0_fillSign 55 = .ok (.aload_n 0, 1) := by decide +kernel
theorem dX0_fillSign_56 : decode cX0_fillSign 56 = .ok (.getfield 21, 3) := by decide +kernel
theorem dX0_fillSign_59 : decode cX0_fillSign 59 = .ok (.if_icmp .ge 31, 3) := by decide +kernel
theorem dX0_fillSign_62 : decode cX0_fillSign 62 = .ok (.aload_n 0, 1) := by decide +kernel
theorem dX0_fillSign_63 : decode cX0_fillSign 63 = .ok (.getfield 9, 3) := by decide +kernel
theorem dX0_fillSign_66 : decode cX0_fillSign 66 = .ok (.bipush 24, 2) := by decide +kernel
theorem dX0_fillSign_68 : decode cX0_fillSign 68 = .ok (.iload_n 2, 1) := by decide +kernel
theorem dX0_fillSign_69 : decode cX0_fillSign 69 = .ok (.imul, 1) := by decide +kernel
theorem dX0_fillSign_70 : decode cX0_fillSign 70 = .ok (.iload_n 3, 1) := by decide +kernel
theorem dX0_fillSign_71 : decode cX0_fillSign 71 = .ok (.iadd, 1) := by decide +kernel
theorem dX0_fillSign_72 : decode cX0_fillSign 72 = .ok (.aload_n 0, 1) := by decide +kernel
theorem dX0_fillSign_73 : decode cX0_fillSign 73 = .ok (.getfield 18, 3) := by decide +kernel
theorem dX0_fillSign_76 : decode cX0_fillSign 76 = .ok (.aload_n 0, 1) := by decide +kernel
theorem dX0_fillSign_77 : decode cX0_fillSign 77 = .ok (.getfield 15, 3) := by decide +kernel
theorem dX0_fillSign_80 : decode cX0_fillSign 80 = .ok (.iload_n 3, 1) := by decide +kernel
theorem dX0_fillSign_81 : decode cX0_fillSign 81 = .ok (.iaload, 1) := by decide +kernel
theorem dX0_fillSign_82 : decode cX0_fillSign 82 = .ok (.iaload, 1) := by decide +kernel
theorem dX0_fillSign_83 : decode cX0_fillSign 83 = .ok (.iastore, 1) := by decide +kernel
theorem dX0_fillSign_84 : decode cX0_fillSign 84 = .ok (.iinc 3 1, 3) := by decide +kernel
theorem dX0_fillSign_87 : decode cX0_fillSign 87 = .ok (.goto (-33), 3) := by decide +kernel
theorem dX0_fillSign_90 : decode cX0_fillSign 90 = .ok (.iconst 0, 1) := by decide +kernel
theorem dX0_fillSign_91 : decode cX0_fillSign 91 = .ok (.istore_n 3, 1) := by decide +kernel
theorem dX0_fillSign_92 : decode cX0_fillSign 92 = .ok (.iload_n 3, 1) := by decide +kernel
theorem dX0_fillSign_93 : decode cX0_fillSign 93 = .ok (.aload_n 0, 1) := by decide +kernel
theorem dX0_fillSign_94 : decode cX0_fillSign 94 = .ok (.getfield 21, 3) := by decide +kernel
theorem dX0_fillSign_97 : decode cX0_fillSign 97 = .ok (.if_icmp .ge 21, 3) := by decide +kernel
theorem dX0_fillSign_100 : decode cX0_fillSign 100 = .ok (.aload_n 0, 1) := by decide +kernel
theorem dX0_fillSign_101 : decode cX0_fillSign 101 = .ok (.getfield 18, 3) := by decide +kernel
theorem dX0_fillSign_104 : decode cX0_fillSign 104 = .ok (.aload_n 0, 1) := by decide +kernel
theorem dX0_fillSign_105 : decode cX0_fillSign 105 = .ok (.getfield 15, 3) := by decide +kernel
theorem dX0_fillSign_108 : decode cX0_fillSign 108 = .ok (.iload_n 3, 1) := by decide +kernel
theorem dX0_fillSign_109 : decode cX0_fillSign 109 = .ok (.iaload, 1) := by decide +kernel
theorem dX0_fillSign_110 : decode cX0_fillSign 110 = .ok (.iconst 0, 1) := by decide +kernel
theorem dX0_fillSign_111 : decode cX0_fillSign 111 = .ok (.iastore, 1) := by decide +kernel
theorem dX0_fillSign_112 : decode cX0_fillSign 112 = .ok (.iinc 3 1, 3) := by decide +kernel
theorem dX0_fillSign_115 : decode cX0_fillSign 115 = .ok (.goto (-23), 3) := by decide +kernel
theorem dX0_fillSign_118 : decode cX0_fillSign 118 = .ok (.return_, 1) := by decide +kernel
theorem dX0_partOf_0 : decode cX0_partOf 0 = .ok (.aload_n 0, 1) := by decide +kernel
theorem dX0_partOf_1 : decode cX0_partOf 1 = .ok (.getfield 9, 3) := by decide +kernel
theorem dX0_partOf_4 : decode cX0_partOf 4 = .ok (.bipush 24, 2) := by decide +kernel
theorem dX0_partOf_6 : decode cX0_partOf 6 = .ok (.iload_n 1, 1) := by decide +kernel
theorem dX0_partOf_7 : decode cX0_partOf 7 = .ok (.imul, 1) := by decide +kernel
theorem dX0_partOf_8 : decode cX0_partOf 8 = .ok (.iload_n 2, 1) := by decide +kernel
theorem dX0_partOf_9 : decode cX0_partOf 9 = .ok (.iadd, 1) := by decide +kernel
theorem dX0_partOf_10 : decode cX0_partOf 10 = .ok (.iaload, 1) := by decide +kernel
theorem dX0_partOf_11 : decode cX0_partOf 11 = .ok (.ireturn, 1) := by decide +kernel
theorem dX0_partOfAll_0 : decode cX0_partOfAll 0 = .ok (.iload_n 2, 1) := by decide +kernel
theorem dX0_partOfAll_1 : decode cX0_partOfAll 1 = .ok (.istore_n 3, 1) := by decide +kernel
theorem dX0_partOfAll_2 : decode cX0_partOfAll 2 = .ok (.iconst 0, 1) := by decide +kernel
theorem dX0_partOfAll_3 : decode cX0_partOfAll 3 = .ok (.istore 4, 2) := by decide +kernel
theorem dX0_partOfAll_5 : decode cX0_partOfAll 5 = .ok (.iload 4, 2) := by decide +kernel
theorem dX0_partOfAll_7 : decode cX0_partOfAll 7 = .ok (.bipush 28, 2) := by decide +kernel
theorem dX0_partOfAll_9 : decode cX0_partOfAll 9 = .ok (.if_icmp .ge 19, 3) := by decide +kernel
theorem dX0_partOfAll_12 : decode cX0_partOfAll 12 = .ok (.iload_n 3, 1) := by decide +kernel
theorem dX0_partOfAll_13 : decode cX0_partOfAll 13 = .ok (.aload_n 0, 1) := by decide +kernel
theorem dX0_partOfAll_14 : decode cX0_partOfAll 14 = .ok (.iload 4, 2) := by decide +kernel
theorem dX0_partOfAll_16 : decode cX0_partOfAll 16 = .ok (.iload_n 1, 1) := by decide +kernel
theorem dX0_partOfAll_17 : decode cX0_partOfAll 17 = .ok (.invokevirtual 43, 3) := by decide +kernel
theorem dX0_partOfAll_20 : decode cX0_partOfAll 20 = .ok (.iand, 1) := by decide +kernel
theorem dX0_partOfAll_21 : decode cX0_partOfAll 21 = .ok (.istore_n 3, 1) := by decide +kernel
theorem dX0_partOfAll_22 : decode cX0_partOfAll 22 = .ok (.iinc 4 1, 3) := by decide +kernel
theorem dX0_partOfAll_25 : decode cX0_partOfAll 25 = .ok (.goto (-20), 3) := by decide +kernel
theorem dX0_partOfAll_28 : decode cX0_partOfAll 28 = .ok (.iload_n 3, 1) := by decide +kernel
theorem dX0_partOfAll_29 : decode cX0_partOfAll 29 = .ok (.ireturn, 1) := by decide +kernel
theorem dX0_partCount_0 : decode cX0_partCount 0 = .ok (.iload_n 2, 1) := by decide +kernel
theorem dX0_partCount_1 : decode cX0_partCount 1 = .ok (.istore_n 3, 1) := by decide +kernel
theorem dX0_partCount_2 : decode cX0_partCount 2 = .ok (.iconst 0, 1) := by decide +kernel
theorem dX0_partCount_3 : decode cX0_partCount 3 = .ok (.istore 4, 2) := by decide +kernel
theorem dX0_partCount_5 : decode cX0_partCount 5 = .ok (.iconst 0, 1) := by decide +kernel
theorem dX0_partCount_6 : decode cX0_partCount 6 = .ok (.istore 5, 2) := by decide +kernel
theorem dX0_partCount_8 : decode cX0_partCount 8 = .ok (.iload 5, 2) := by decide +kernel
theorem dX0_partCount_10 : decode cX0_partCount 10 = .ok (.aload_n 0, 1) := by decide +kernel
theorem dX0_partCount_11 : decode cX0_partCount 11 = .ok (.getfield 21, 3) := by decide +kernel
theorem dX0_partCount_14 : decode cX0_partCount 14 = .ok (.if_icmp .ge 33, 3) := by decide +kernel
theorem dX0_partCount_17 : decode cX0_partCount 17 = .ok (.iload_n 3, 1) := by decide +kernel
theorem dX0_partCount_18 : decode cX0_partCount 18 = .ok (.iload 5, 2) := by decide +kernel
theorem dX0_partCount_20 : decode cX0_partCount 20 = .ok (.iushr, 1) := by decide +kernel
theorem dX0_partCount_21 : decode cX0_partCount 21 = .ok (.iconst 1, 1) := by decide +kernel
theorem dX0_partCount_22 : decode cX0_partCount 22 = .ok (.iand, 1) := by decide +kernel
theorem dX0_partCount_23 : decode cX0_partCount 23 = .ok (.ifCond .eq 18, 3) := by decide +kernel
theorem dX0_partCount_26 : decode cX0_partCount 26 = .ok (.iload_n 3, 1) := by decide +kernel
theorem dX0_partCount_27 : decode cX0_partCount 27 = .ok (.aload_n 0, 1) := by decide +kernel
theorem dX0_partCount_28 : decode cX0_partCount 28 = .ok (.iload_n 1, 1) := by decide +kernel
theorem dX0_partCount_29 : decode cX0_partCount 29 = .ok (.iload 5, 2) := by decide +kernel
theorem dX0_partCount_31 : decode cX0_partCount 31 = .ok (.invokevirtual 43, 3) := by decide +kernel
theorem dX0_partCount_34 : decode cX0_partCount 34 = .ok (.iconst (-1), 1) := by decide +kernel
theorem dX0_partCount_35 : decode cX0_partCount 35 = .ok (.ixor, 1) := by decide +kernel
theorem dX0_partCount_36 : decode cX0_partCount 36 = .ok (.iand, 1) := by decide +kernel
theorem dX0_partCount_37 : decode cX0_partCount 37 = .ok (.istore_n 3, 1) := by decide +kernel
theorem dX0_partCount_38 : decode cX0_partCount 38 = .ok (.iinc 4 1, 3) := by decide +kernel
theorem dX0_partCount_41 : decode cX0_partCount 41 = .ok (.iinc 5 1, 3) := by decide +kernel
theorem dX0_partCount_44 : decode cX0_partCount 44 = .ok (.goto (-36), 3) := by decide +kernel
theorem dX0_partCount_47 : decode cX0_partCount 47 = .ok (.iload 4, 2) := by decide +kernel
theorem dX0_partCount_49 : decode cX0_partCount 49 = .ok (.ireturn, 1) := by decide +kernel
theorem dX0_squares_0 : decode cX0_squares 0 = .ok (.iload_n 2, 1) := by decide +kernel
theorem dX0_squares_1 : decode cX0_squares 1 = .ok (.istore_n 3, 1) := by decide +kernel
theorem dX0_squares_2 : decode cX0_squares 2 = .ok (.iconst 0, 1) := by decide +kernel
theorem dX0_squares_3 : decode cX0_squares 3 = .ok (.istore 4, 2) := by decide +kernel
theorem dX0_squares_5 : decode cX0_squares 5 = .ok (.iconst 0, 1) := by decide +kernel
theorem dX0_squares_6 : decode cX0_squares 6 = .ok (.istore 5, 2) := by decide +kernel
theorem dX0_squares_8 : decode cX0_squares 8 = .ok (.iload 5, 2) := by decide +kernel
theorem dX0_squares_10 : decode cX0_squares 10 = .ok (.aload_n 0, 1) := by decide +kernel
theorem dX0_squares_11 : decode cX0_squares 11 = .ok (.getfield 21, 3) := by decide +kernel
theorem dX0_squares_14 : decode cX0_squares 14 = .ok (.if_icmp .ge 54, 3) := by decide +kernel
theorem dX0_squares_17 : decode cX0_squares 17 = .ok (.iload_n 3, 1) := by decide +kernel
theorem dX0_squares_18 : decode cX0_squares 18 = .ok (.iload 5, 2) := by decide +kernel
theorem dX0_squares_20 : decode cX0_squares 20 = .ok (.iushr, 1) := by decide +kernel
theorem dX0_squares_21 : decode cX0_squares 21 = .ok (.iconst 1, 1) := by decide +kernel
theorem dX0_squares_22 : decode cX0_squares 22 = .ok (.iand, 1) := by decide +kernel
theorem dX0_squares_23 : decode cX0_squares 23 = .ok (.ifCond .eq 39, 3) := by decide +kernel
theorem dX0_squares_26 : decode cX0_squares 26 = .ok (.iload_n 3, 1) := by decide +kernel
theorem dX0_squares_27 : decode cX0_squares 27 = .ok (.aload_n 0, 1) := by decide +kernel
theorem dX0_squares_28 : decode cX0_squares 28 = .ok (.iload_n 1, 1) := by decide +kernel
theorem dX0_squares_29 : decode cX0_squares 29 = .ok (.iload 5, 2) := by decide +kernel
theorem dX0_squares_31 : decode cX0_squares 31 = .ok (.invokevirtual 43, 3) := by decide +kernel
theorem dX0_squares_34 : decode cX0_squares 34 = .ok (.iand, 1) := by decide +kernel
theorem dX0_squares_35 : decode cX0_squares 35 = .ok (.invokestatic 47, 3) := by decide +kernel
theorem dX0_squares_38 : decode cX0_squares 38 = .ok (.istore 6, 2) := by decide +kernel
theorem dX0_squares_40 : decode cX0_squares 40 = .ok (.iload_n 3, 1) := by decide +kernel
theorem dX0_squares_41 : decode cX0_squares 41 = .ok (.aload_n 0, 1) := by decide +kernel
theorem dX0_squares_42 : decode cX0_squares 42 = .ok (.iload_n 1, 1) := by decide +kernel
theorem dX0_squares_43 : decode cX0_squares 43 = .ok (.iload 5, 2) := by decide +kernel
theorem dX0_squares_45 : decode cX0_squares 45 = .ok (.invokevirtual 43, 3) := by decide +kernel
theorem dX0_squares_48 : decode cX0_squares 48 = .ok (.iconst (-1), 1) := by decide +kernel
theorem dX0_squares_49 : decode cX0_squares 49 = .ok (.ixor, 1) := by decide +kernel
theorem dX0_squares_50 : decode cX0_squares 50 = .ok (.iand, 1) := by decide +kernel
theorem dX0_squares_51 : decode cX0_squares 51 = .ok (.istore_n 3, 1) := by decide +kernel
theorem dX0_squares_52 : decode cX0_squares 52 = .ok (.iload 4, 2) := by decide +kernel
theorem dX0_squares_54 : decode cX0_squares 54 = .ok (.iload 6, 2) := by decide +kernel
theorem dX0_squares_56 : decode cX0_squares 56 = .ok (.iload 6, 2) := by decide +kernel
theorem dX0_squares_58 : decode cX0_squares 58 = .ok (.imul, 1) := by decide +kernel
theorem dX0_squares_59 : decode cX0_squares 59 = .ok (.iadd, 1) := by decide +kernel
theorem dX0_squares_60 : decode cX0_squares 60 = .ok (.istore 4, 2) := by decide +kernel
theorem dX0_squares_62 : decode cX0_squares 62 = .ok (.iinc 5 1, 3) := by decide +kernel
theorem dX0_squares_65 : decode cX0_squares 65 = .ok (.goto (-57), 3) := by decide +kernel
theorem dX0_squares_68 : decode cX0_squares 68 = .ok (.iload 4, 2) := by decide +kernel
theorem dX0_squares_70 : decode cX0_squares 70 = .ok (.ireturn, 1) := by decide +kernel
theorem dX0_greatest_0 : decode cX0_greatest 0 = .ok (.iload_n 3, 1) := by decide +kernel
theorem dX0_greatest_1 : decode cX0_greatest 1 = .ok (.istore 4, 2) := by decide +kernel
theorem dX0_greatest_3 : decode cX0_greatest 3 = .ok (.iconst 0, 1) := by decide +kernel
theorem dX0_greatest_4 : decode cX0_greatest 4 = .ok (.istore 5, 2) := by decide +kernel
theorem dX0_greatest_6 : decode cX0_greatest 6 = .ok (.iconst 0, 1) := by decide +kernel
theorem dX0_greatest_7 : decode cX0_greatest 7 = .ok (.istore 6, 2) := by decide +kernel
theorem dX0_greatest_9 : decode cX0_greatest 9 = .ok (.iload 6, 2) := by decide +kernel
theorem dX0_greatest_11 : decode cX0_greatest 11 = .ok (.aload_n 0, 1) := by decide +kernel
theorem dX0_greatest_12 : decode cX0_greatest 12 = .ok (.getfield 21, 3) := by decide +kernel
theorem dX0_greatest_15 : decode cX0_greatest 15 = .ok (.if_icmp .ge 60, 3) := by decide +kernel
theorem dX0_greatest_18 : decode cX0_greatest 18 = .ok (.iload 4, 2) := by decide +kernel
theorem dX0_greatest_20 : decode cX0_greatest 20 = .ok (.iload 6, 2) := by decide +kernel
theorem dX0_greatest_22 : decode cX0_greatest 22 = .ok (.iushr, 1) := by decide +kernel
theorem dX0_greatest_23 : decode cX0_greatest 23 = .ok (.iconst 1, 1) := by decide +kernel
theorem dX0_greatest_24 : decode cX0_greatest 24 = .ok (.iand, 1) := by decide +kernel
theorem dX0_greatest_25 : decode cX0_greatest 25 = .ok (.ifCond .eq 44, 3) := by decide +kernel
theorem dX0_greatest_28 : decode cX0_greatest 28 = .ok (.iload 4, 2) := by decide +kernel
theorem dX0_greatest_30 : decode cX0_greatest 30 = .ok (.aload_n 0, 1) := by decide +kernel
theorem dX0_greatest_31 : decode cX0_greatest 31 = .ok (.iload_n 1, 1) := by decide +kernel
theorem dX0_greatest_32 : decode cX0_greatest 32 = .ok (.iload 6, 2) := by decide +kernel
theorem dX0_greatest_34 : decode cX0_greatest 34 = .ok (.invokevirtual 43, 3) := by decide +kernel
theorem dX0_greatest_37 : decode cX0_greatest 37 = .ok (.iand, 1) := by decide +kernel
theorem dX0_greatest_38 : decode cX0_greatest 38 = .ok (.aload_n 0, 1) := by decide +kernel
theorem dX0_greatest_39 : decode cX0_greatest 39 = .ok (.iload_n 2, 1) := by decide +kernel
theorem dX0_greatest_40 : decode cX0_greatest 40 = .ok (.iload 6, 2) := by decide +kernel
theorem dX0_greatest_42 : decode cX0_greatest 42 = .ok (.invokevirtual 43, 3) := by decide +kernel
theorem dX0_greatest_45 : decode cX0_greatest 45 = .ok (.iand, 1) := by decide +kernel
theorem dX0_greatest_46 : decode cX0_greatest 46 = .ok (.istore 7, 2) := by decide +kernel
theorem dX0_greatest_48 : decode cX0_greatest 48 = .ok (.iload 4, 2) := by decide +kernel
theorem dX0_greatest_50 : decode cX0_greatest 50 = .ok (.iload 7, 2) := by decide +kernel
theorem dX0_greatest_52 : decode cX0_greatest 52 = .ok (.iconst (-1), 1) := by decide +kernel
theorem dX0_greatest_53 : decode cX0_greatest 53 = .ok (.ixor, 1) := by decide +kernel
theorem dX0_greatest_54 : decode cX0_greatest 54 = .ok (.iand, 1) := by decide +kernel
theorem dX0_greatest_55 : decode cX0_greatest 55 = .ok (.istore 4, 2) := by decide +kernel
theorem dX0_greatest_57 : decode cX0_greatest 57 = .ok (.iload 5, 2) := by decide +kernel
theorem dX0_greatest_59 : decode cX0_greatest 59 = .ok (.iload 7, 2) := by decide +kernel
theorem dX0_greatest_61 : decode cX0_greatest 61 = .ok (.invokestatic 47, 3) := by decide +kernel
theorem dX0_greatest_64 : decode cX0_greatest 64 = .ok (.invokestatic 52, 3) := by decide +kernel
theorem dX0_greatest_67 : decode cX0_greatest 67 = .ok (.istore 5, 2) := by decide +kernel
theorem dX0_greatest_69 : decode cX0_greatest 69 = .ok (.iinc 6 1, 3) := by decide +kernel
theorem dX0_greatest_72 : decode cX0_greatest 72 = .ok (.goto (-63), 3) := by decide +kernel
theorem dX0_greatest_75 : decode cX0_greatest 75 = .ok (.iload 5, 2) := by decide +kernel
theorem dX0_greatest_77 : decode cX0_greatest 77 = .ok (.ireturn, 1) := by decide +kernel
theorem dX0_leastSign_0 : decode cX0_leastSign 0 = .ok (.iconst (-1), 1) := by decide +kernel
theorem dX0_leastSign_1 : decode cX0_leastSign 1 = .ok (.istore 4, 2) := by decide +kernel
theorem dX0_leastSign_3 : decode cX0_leastSign 3 = .ok (.iconst 0, 1) := by decide +kernel
theorem dX0_leastSign_4 : decode cX0_leastSign 4 = .ok (.istore 5, 2) := by decide +kernel
theorem dX0_leastSign_6 : decode cX0_leastSign 6 = .ok (.iconst 0, 1) := by decide +kernel
theorem dX0_leastSign_7 : decode cX0_leastSign 7 = .ok (.istore 6, 2) := by decide +kernel
theorem dX0_leastSign_9 : decode cX0_leastSign 9 = .ok (.iload 6, 2) := by decide +kernel
theorem dX0_leastSign_11 : decode cX0_leastSign 11 = .ok (.bipush 28, 2) := by decide +kernel
theorem dX0_leastSign_13 : decode cX0_leastSign 13 = .ok (.if_icmp .ge 96, 3) := by decide +kernel
theorem dX0_leastSign_16 : decode cX0_leastSign 16 = .ok (.iload 6, 2) := by decide +kernel
theorem dX0_leastSign_18 : decode cX0_leastSign 18 = .ok (.invokestatic 57, 3) := by decide +kernel
theorem dX0_leastSign_21 : decode cX0_leastSign 21 = .ok (.istore 7, 2) := by decide +kernel
theorem dX0_leastSign_23 : decode cX0_leastSign 23 = .ok (.iload 7, 2) := by decide +kernel
theorem dX0_leastSign_25 : decode cX0_leastSign 25 = .ok (.iload_n 2, 1) := by decide +kernel
theorem dX0_leastSign_26 : decode cX0_leastSign 26 = .ok (.if_icmp .gt 77, 3) := by decide +kernel
theorem dX0_leastSign_29 : decode cX0_leastSign 29 = .ok (.iload_n 3, 1) := by decide +kernel
theorem dX0_leastSign_30 : decode cX0_leastSign 30 = .ok (.ifCond .eq 13, 3) := by decide +kernel
theorem dX0_leastSign_33 : decode cX0_leastSign 33 = .ok (.aload_n 0, 1) := by decide +kernel
theorem dX0_leastSign_34 : decode cX0_leastSign 34 = .ok (.iload 6, 2) := by decide +kernel
theorem dX0_leastSign_36 : decode cX0_leastSign 36 = .ok (.iload_n 1, 1) := by decide +kernel
theorem dX0_leastSign_37 : decode cX0_leastSign 37 = .ok (.invokevirtual 60, 3) := by decide +kernel
theorem dX0_leastSign_40 : decode cX0_leastSign 40 = .ok (.goto 12, 3) := by decide +kernel
theorem dX0_leastSign_43 : decode cX0_leastSign 43 = .ok (.aload_n 0, 1) := by decide +kernel
theorem dX0_leastSign_44 : decode cX0_leastSign 44 = .ok (.iload 6, 2) := by decide +kernel
theorem dX0_leastSign_46 : decode cX0_leastSign 46 = .ok (.iload 6, 2) := by decide +kernel
theorem dX0_leastSign_48 : decode cX0_leastSign 48 = .ok (.iload_n 1, 1) := by decide +kernel
theorem dX0_leastSign_49 : decode cX0_leastSign 49 = .ok (.invokevirtual 63, 3) := by decide +kernel
theorem dX0_leastSign_52 : decode cX0_leastSign 52 = .ok (.istore 8, 2) := by decide +kernel
theorem dX0_leastSign_54 : decode cX0_leastSign 54 = .ok (.iload 4, 2) := by decide +kernel
theorem dX0_leastSign_56 : decode cX0_leastSign 56 = .ok (.ifCond .lt 10, 3) := by decide +kernel
theorem dX0_leastSign_59 : decode cX0_leastSign 59 = .ok (.iload 8, 2) := by decide +kernel
theorem dX0_leastSign_61 : decode cX0_leastSign 61 = .ok (.iload 5, 2) := by decide +kernel
theorem dX0_leastSign_63 : decode cX0_leastSign 63 = .ok (.if_icmp .ge 7, 3) := by decide +kernel
theorem dX0_leastSign_66 : decode cX0_leastSign 66 = .ok (.iconst 1, 1) := by decide +kernel
theorem dX0_leastSign_67 : decode cX0_leastSign 67 = .ok (.goto 4, 3) := by decide +kernel
theorem dX0_leastSign_70 : decode cX0_leastSign 70 = .ok (.iconst 0, 1) := by decide +kernel
theorem dX0_leastSign_71 : decode cX0_leastSign 71 = .ok (.istore 9, 2) := by decide +kernel
theorem dX0_leastSign_73 : decode cX0_leastSign 73 = .ok (.iload 9, 2) := by decide +kernel
theorem dX0_leastSign_75 : decode cX0_leastSign 75 = .ok (.ifCond .ne 20, 3) := by decide +kernel
theorem dX0_leastSign_78 : decode cX0_leastSign 78 = .ok (.iload 8, 2) := by decide +kernel
theorem dX0_leastSign_80 : decode cX0_leastSign 80 = .ok (.iload 5, 2) := by decide +kernel
theorem dX0_leastSign_82 : decode cX0_leastSign 82 = .ok (.if_icmp .ne 21, 3) := by decide +kernel
theorem dX0_leastSign_85 : decode cX0_leastSign 85 = .ok (.iload 7, 2) := by decide +kernel
theorem dX0_leastSign_87 : decode cX0_leastSign 87 = .ok (.iload 4, 2) := by decide +kernel
theorem dX0_leastSign_89 : decode cX0_leastSign 89 = .ok (.invokestatic 57, 3) := by decide +kernel
theorem dX0_leastSign_92 : decode cX0_leastSign 92 = .ok (.if_icmp .ge 11, 3) := by decide +kernel
theorem dX0_leastSign_95 : decode cX0_leastSign 95 = .ok (.iload 6, 2) := by decide +kernel
theorem dX0_leastSign_97 : decode cX0_leastSign 97 = .ok (.istore 4, 2) := by decide +kernel
theorem dX0_leastSign_99 : decode cX0_leastSign 99 = .ok (.iload 8, 2) := by decide +kernel
theorem dX0_leastSign_101 : decode cX0_leastSign 101 = .ok (.istore 5, 2) := by decide +kernel
theorem dX0_leastSign_103 : decode cX0_leastSign 103 = .ok (.iinc 6 1, 3) := by decide +kernel
theorem dX0_leastSign_106 : decode cX0_leastSign 106 = .ok (.goto (-97), 3) := by decide +kernel
theorem dX0_leastSign_109 : decode cX0_leastSign 109 = .ok (.iload 4, 2) := by decide +kernel
theorem dX0_leastSign_111 : decode cX0_leastSign 111 = .ok (.ireturn, 1) := by decide +kernel
theorem dX0_leastPair_0 : decode cX0_leastPair 0 = .ok (.iconst 1, 1) := by decide +kernel
theorem dX0_leastPair_1 : decode cX0_leastPair 1 = .ok (.istore_n 2, 1) := by decide +kernel
theorem dX0_leastPair_2 : decode cX0_leastPair 2 = .ok (.bipush 25, 2) := by decide +kernel
theorem dX0_leastPair_4 : decode cX0_leastPair 4 = .ok (.istore_n 3, 1) := by decide +kernel
theorem dX0_leastPair_5 : decode cX0_leastPair 5 = .ok (.iconst 0, 1) := by decide +kernel
theorem dX0_leastPair_6 : decode cX0_leastPair 6 = .ok (.istore 4, 2) := by decide +kernel
theorem dX0_leastPair_8 : decode cX0_leastPair 8 = .ok (.iload 4, 2) := by decide +kernel
theorem dX0_leastPair_10 : decode cX0_leastPair 10 = .ok (.bipush 28, 2) := by decide +kernel
theorem dX0_leastPair_12 : decode cX0_leastPair 12 = .ok (.if_icmp .ge 57, 3) := by decide +kernel
theorem dX0_leastPair_15 : decode cX0_leastPair 15 = .ok (.iload 4, 2) := by decide +kernel
theorem dX0_leastPair_17 : decode cX0_leastPair 17 = .ok (.iconst 1, 1) := by decide +kernel
theorem dX0_leastPair_18 : decode cX0_leastPair 18 = .ok (.iadd, 1) := by decide +kernel
theorem dX0_leastPair_19 : decode cX0_leastPair 19 = .ok (.istore 5, 2) := by decide +kernel
theorem dX0_leastPair_21 : decode cX0_leastPair 21 = .ok (.iload 5, 2) := by decide +kernel
theorem dX0_leastPair_23 : decode cX0_leastPair 23 = .ok (.bipush 28, 2) := by decide +kernel
theorem dX0_leastPair_25 : decode cX0_leastPair 25 = .ok (.if_icmp .ge 38, 3) := by decide +kernel
theorem dX0_leastPair_28 : decode cX0_leastPair 28 = .ok (.aload_n 0, 1) := by decide +kernel
theorem dX0_leastPair_29 : decode cX0_leastPair 29 = .ok (.iload 4, 2) := by decide +kernel
theorem dX0_leastPair_31 : decode cX0_leastPair 31 = .ok (.iload 5, 2) := by decide +kernel
theorem dX0_leastPair_33 : decode cX0_leastPair 33 = .ok (.iload_n 1, 1) := by decide +kernel
theorem dX0_leastPair_34 : decode cX0_leastPair 34 = .ok (.invokevirtual 63, 3) := by decide +kernel
theorem dX0_leastPair_37 : decode cX0_leastPair 37 = .ok (.istore 6, 2) := by decide +kernel
theorem dX0_leastPair_39 : decode cX0_leastPair 39 = .ok (.iload 6, 2) := by decide +kernel
theorem dX0_leastPair_41 : decode cX0_leastPair 41 = .ok (.iload_n 3, 1) := by decide +kernel
theorem dX0_leastPair_42 : decode cX0_leastPair 42 = .ok (.if_icmp .ge 15, 3) := by decide +kernel
theorem dX0_leastPair_45 : decode cX0_leastPair 45 = .ok (.iload 6, 2) := by decide +kernel
theorem dX0_leastPair_47 : decode cX0_leastPair 47 = .ok (.istore_n 3, 1) := by decide +kernel
theorem dX0_leastPair_48 : decode cX0_leastPair 48 = .ok (.bipush 100, 2) := by decide +kernel
theorem dX0_leastPair_50 : decode cX0_leastPair 50 = .ok (.iload 4, 2) := by decide +kernel
theorem dX0_leastPair_52 : decode cX0_leastPair 52 = .ok (.imul, 1) := by decide +kernel
theorem dX0_leastPair_53 : decode cX0_leastPair 53 = .ok (.iload 5, 2) := by decide +kernel
theorem dX0_leastPair_55 : decode cX0_leastPair 55 = .ok (.iadd, 1) := by decide +kernel
theorem dX0_leastPair_56 : decode cX0_leastPair 56 = .ok (.istore_n 2, 1) := by decide +kernel
theorem dX0_leastPair_57 : decode cX0_leastPair 57 = .ok (.iinc 5 1, 3) := by decide +kernel
theorem dX0_leastPair_60 : decode cX0_leastPair 60 = .ok (.goto (-39), 3) := by decide +kernel
theorem dX0_leastPair_63 : decode cX0_leastPair 63 = .ok (.iinc 4 1, 3) := by decide +kernel
theorem dX0_leastPair_66 : decode cX0_leastPair 66 = .ok (.goto (-58), 3) := by decide +kernel
theorem dX0_leastPair_69 : decode cX0_leastPair 69 = .ok (.iload_n 2, 1) := by decide +kernel
theorem dX0_leastPair_70 : decode cX0_leastPair 70 = .ok (.ireturn, 1) := by decide +kernel
theorem dX0_fewestSigns_0 : decode cX0_fewestSigns 0 = .ok (.iconst 1, 1) := by decide +kernel
theorem dX0_fewestSigns_1 : decode cX0_fewestSigns 1 = .ok (.iload_n 1, 1) := by decide +kernel
theorem dX0_fewestSigns_2 : decode cX0_fewestSigns 2 = .ok (.ishl, 1) := by decide +kernel
theorem dX0_fewestSigns_3 : decode cX0_fewestSigns 3 = .ok (.istore_n 3, 1) := by decide +kernel
theorem dX0_fewestSigns_4 : decode cX0_fewestSigns 4 = .ok (.iload_n 2, 1) := by decide +kernel
theorem dX0_fewestSigns_5 : decode cX0_fewestSigns 5 = .ok (.iload_n 3, 1) := by decide +kernel
theorem dX0_fewestSigns_6 : decode cX0_fewestSigns 6 = .ok (.if_icmp .ne 5, 3) := by decide +kernel
theorem dX0_fewestSigns_9 : decode cX0_fewestSigns 9 = .ok (.iconst 0, 1) := by decide +kernel
theorem dX0_fewestSigns_10 : decode cX0_fewestSigns 10 = .ok (.ireturn, 1) := by decide +kernel
theorem dX0_fewestSigns_11 : decode cX0_fewestSigns 11 = .ok (.aload_n 0, 1) := by decide +kernel
theorem dX0_fewestSigns_12 : decode cX0_fewestSigns 12 = .ok (.iload_n 1, 1) := by decide +kernel
theorem dX0_fewestSigns_13 : decode cX0_fewestSigns 13 = .ok (.iload_n 2, 1) := by decide +kernel
theorem dX0_fewestSigns_14 : decode cX0_fewestSigns 14 = .ok (.invokevirtual 66, 3) := by decide +kernel
theorem dX0_fewestSigns_17 : decode cX0_fewestSigns 17 = .ok (.iload_n 3, 1) := by decide +kernel
theorem dX0_fewestSigns_18 : decode cX0_fewestSigns 18 = .ok (.if_icmp .eq 5, 3) := by decide +kernel
theorem dX0_fewestSigns_21 : decode cX0_fewestSigns 21 = .ok (.iconst 4, 1) := by decide +kernel
theorem dX0_fewestSigns_22 : decode cX0_fewestSigns 22 = .ok (.ireturn, 1) := by decide +kernel
theorem dX0_fewestSigns_23 : decode cX0_fewestSigns 23 = .ok (.aload_n 0, 1) := by decide +kernel
theorem dX0_fewestSigns_24 : decode cX0_fewestSigns 24 = .ok (.iload_n 1, 1) := by decide +kernel
theorem dX0_fewestSigns_25 : decode cX0_fewestSigns 25 = .ok (.iload_n 2, 1) := by decide +kernel
theorem dX0_fewestSigns_26 : decode cX0_fewestSigns 26 = .ok (.invokevirtual 69, 3) := by decide +kernel
theorem dX0_fewestSigns_29 : decode cX0_fewestSigns 29 = .ok (.ifCond .eq 5, 3) := by decide +kernel
theorem dX0_fewestSigns_32 : decode cX0_fewestSigns 32 = .ok (.iconst 1, 1) := by decide +kernel
theorem dX0_fewestSigns_33 : decode cX0_fewestSigns 33 = .ok (.ireturn, 1) := by decide +kernel
theorem dX0_fewestSigns_34 : decode cX0_fewestSigns 34 = .ok (.aload_n 0, 1) := by decide +kernel
theorem dX0_fewestSigns_35 : decode cX0_fewestSigns 35 = .ok (.iload_n 1, 1) := by decide +kernel
theorem dX0_fewestSigns_36 : decode cX0_fewestSigns 36 = .ok (.iload_n 2, 1) := by decide +kernel
theorem dX0_fewestSigns_37 : decode cX0_fewestSigns 37 = .ok (.iconst 0, 1) := by decide +kernel
theorem dX0_fewestSigns_38 : decode cX0_fewestSigns 38 = .ok (.invokevirtual 73, 3) := by decide +kernel
theorem dX0_fewestSigns_41 : decode cX0_fewestSigns 41 = .ok (.ifCond .eq 5, 3) := by decide +kernel
theorem dX0_fewestSigns_44 : decode cX0_fewestSigns 44 = .ok (.iconst 2, 1) := by decide +kernel
theorem dX0_fewestSigns_45 : decode cX0_fewestSigns 45 = .ok (.ireturn, 1) := by decide +kernel
theorem dX0_fewestSigns_46 : decode cX0_fewestSigns 46 = .ok (.aload_n 0, 1) := by decide +kernel
theorem dX0_fewestSigns_47 : decode cX0_fewestSigns 47 = .ok (.iload_n 1, 1) := by decide +kernel
theorem dX0_fewestSigns_48 : decode cX0_fewestSigns 48 = .ok (.iload_n 2, 1) := by decide +kernel
theorem dX0_fewestSigns_49 : decode cX0_fewestSigns 49 = .ok (.invokevirtual 77, 3) := by decide +kernel
theorem dX0_fewestSigns_52 : decode cX0_fewestSigns 52 = .ok (.ifCond .eq 7, 3) := by decide +kernel
theorem dX0_fewestSigns_55 : decode cX0_fewestSigns 55 = .ok (.iconst 3, 1) := by decide +kernel
theorem dX0_fewestSigns_56 : decode cX0_fewestSigns 56 = .ok (.goto 4, 3) := by decide +kernel
theorem dX0_fewestSigns_59 : decode cX0_fewestSigns 59 = .ok (.iconst 4, 1) := by decide +kernel
theorem dX0_fewestSigns_60 : decode cX0_fewestSigns 60 = .ok (.ireturn, 1) := by decide +kernel
theorem dX0_isAloneByOne_0 : decode cX0_isAloneByOne 0 = .ok (.iconst 0, 1) := by decide +kernel
theorem dX0_isAloneByOne_1 : decode cX0_isAloneByOne 1 = .ok (.istore_n 3, 1) := by decide +kernel
theorem dX0_isAloneByOne_2 : decode cX0_isAloneByOne 2 = .ok (.iload_n 3, 1) := by decide +kernel
theorem dX0_isAloneByOne_3 : decode cX0_isAloneByOne 3 = .ok (.bipush 28, 2) := by decide +kernel
theorem dX0_isAloneByOne_5 : decode cX0_isAloneByOne 5 = .ok (.if_icmp .ge 25, 3) := by decide +kernel
theorem dX0_isAloneByOne_8 : decode cX0_isAloneByOne 8 = .ok (.iload_n 2, 1) := by decide +kernel
theorem dX0_isAloneByOne_9 : decode cX0_isAloneByOne 9 = .ok (.aload_n 0, 1) := by decide +kernel
theorem dX0_isAloneByOne_10 : decode cX0_isAloneByOne 10 = .ok (.iload_n 3, 1) := by decide +kernel
theorem dX0_isAloneByOne_11 : decode cX0_isAloneByOne 11 = .ok (.iload_n 1, 1) := by decide +kernel
theorem dX0_isAloneByOne_12 : decode cX0_isAloneByOne 12 = .ok (.invokevirtual 43, 3) := by decide +kernel
theorem dX0_isAloneByOne_15 : decode cX0_isAloneByOne 15 = .ok (.iand, 1) := by decide +kernel
theorem dX0_isAloneByOne_16 : decode cX0_isAloneByOne 16 = .ok (.iconst 1, 1) := by decide +kernel
theorem dX0_isAloneByOne_17 : decode cX0_isAloneByOne 17 = .ok (.iload_n 1, 1) := by decide +kernel
theorem dX0_isAloneByOne_18 : decode cX0_isAloneByOne 18 = .ok (.ishl, 1) := by decide +kernel
theorem dX0_isAloneByOne_19 : decode cX0_isAloneByOne 19 = .ok (.if_icmp .ne 5, 3) := by decide +kernel
theorem dX0_isAloneByOne_22 : decode cX0_isAloneByOne 22 = .ok (.iconst 1, 1) := by decide +kernel
theorem dX0_isAloneByOne_23 : decode cX0_isAloneByOne 23 = .ok (.ireturn, 1) := by decide +kernel
theorem dX0_isAloneByOne_24 : decode cX0_isAloneByOne 24 = .ok (.iinc 3 1, 3) := by decide +kernel
theorem dX0_isAloneByOne_27 : decode cX0_isAloneByOne 27 = .ok (.goto (-25), 3) := by decide +kernel
theorem dX0_isAloneByOne_30 : decode cX0_isAloneByOne 30 = .ok (.iconst 0, 1) := by decide +kernel
theorem dX0_isAloneByOne_31 : decode cX0_isAloneByOne 31 = .ok (.ireturn, 1) := by decide +kernel
theorem dX0_isAloneByTwo_0 : decode cX0_isAloneByTwo 0 = .ok (.iload_n 3, 1) := by decide +kernel
theorem dX0_isAloneByTwo_1 : decode cX0_isAloneByTwo 1 = .ok (.istore 4, 2) := by decide +kernel
theorem dX0_isAloneByTwo_3 : decode cX0_isAloneByTwo 3 = .ok (.iload 4, 2) := by decide +kernel
theorem dX0_isAloneByTwo_5 : decode cX0_isAloneByTwo 5 = .ok (.bipush 28, 2) := by decide +kernel
theorem dX0_isAloneByTwo_7 : decode cX0_isAloneByTwo 7 = .ok (.if_icmp .ge 57, 3) := by decide +kernel
theorem dX0_isAloneByTwo_10 : decode cX0_isAloneByTwo 10 = .ok (.iload_n 2, 1) := by decide +kernel
theorem dX0_isAloneByTwo_11 : decode cX0_isAloneByTwo 11 = .ok (.aload_n 0, 1) := by decide +kernel
theorem dX0_isAloneByTwo_12 : decode cX0_isAloneByTwo 12 = .ok (.iload 4, 2) := by decide +kernel
theorem dX0_isAloneByTwo_14 : decode cX0_isAloneByTwo 14 = .ok (.iload_n 1, 1) := by decide +kernel
theorem dX0_isAloneByTwo_15 : decode cX0_isAloneByTwo 15 = .ok (.invokevirtual 43, 3) := by decide +kernel
theorem dX0_isAloneByTwo_18 : decode cX0_isAloneByTwo 18 = .ok (.iand, 1) := by decide +kernel
theorem dX0_isAloneByTwo_19 : decode cX0_isAloneByTwo 19 = .ok (.istore 5, 2) := by decide +kernel
theorem dX0_isAloneByTwo_21 : decode cX0_isAloneByTwo 21 = .ok (.iload 4, 2) := by decide +kernel
theorem dX0_isAloneByTwo_23 : decode cX0_isAloneByTwo 23 = .ok (.iconst 1, 1) := by decide +kernel
theorem dX0_isAloneByTwo_24 : decode cX0_isAloneByTwo 24 = .ok (.iadd, 1) := by decide +kernel
theorem dX0_isAloneByTwo_25 : decode cX0_isAloneByTwo 25 = .ok (.istore 6, 2) := by decide +kernel
theorem dX0_isAloneByTwo_27 : decode cX0_isAloneByTwo 27 = .ok (.iload 6, 2) := by decide +kernel
theorem dX0_isAloneByTwo_29 : decode cX0_isAloneByTwo 29 = .ok (.bipush 28, 2) := by decide +kernel
theorem dX0_isAloneByTwo_31 : decode cX0_isAloneByTwo 31 = .ok (.if_icmp .ge 27, 3) := by decide +kernel
theorem dX0_isAloneByTwo_34 : decode cX0_isAloneByTwo 34 = .ok (.iload 5, 2) := by decide +kernel
theorem dX0_isAloneByTwo_36 : decode cX0_isAloneByTwo 36 = .ok (.aload_n 0, 1) := by decide +kernel
theorem dX0_isAloneByTwo_37 : decode cX0_isAloneByTwo 37 = .ok (.iload 6, 2) := by decide +kernel
theorem dX0_isAloneByTwo_39 : decode cX0_isAloneByTwo 39 = .ok (.iload_n 1, 1) := by decide +kernel
theorem dX0_isAloneByTwo_40 : decode cX0_isAloneByTwo 40 = .ok (.invokevirtual 43, 3) := by decide +kernel
theorem dX0_isAloneByTwo_43 : decode cX0_isAloneByTwo 43 = .ok (.iand, 1) := by decide +kernel
theorem dX0_isAloneByTwo_44 : decode cX0_isAloneByTwo 44 = .ok (.iconst 1, 1) := by decide +kernel
theorem dX0_isAloneByTwo_45 : decode cX0_isAloneByTwo 45 = .ok (.iload_n 1, 1) := by decide +kernel
theorem dX0_isAloneByTwo_46 : decode cX0_isAloneByTwo 46 = .ok (.ishl, 1) := by decide +kernel
theorem dX0_isAloneByTwo_47 : decode cX0_isAloneByTwo 47 = .ok (.if_icmp .ne 5, 3) := by decide +kernel
theorem dX0_isAloneByTwo_50 : decode cX0_isAloneByTwo 50 = .ok (.iconst 1, 1) := by decide +kernel
theorem dX0_isAloneByTwo_51 : decode cX0_isAloneByTwo 51 = .ok (.ireturn, 1) := by decide +kernel
theorem dX0_isAloneByTwo_52 : decode cX0_isAloneByTwo 52 = .ok (.iinc 6 1, 3) := by decide +kernel
theorem dX0_isAloneByTwo_55 : decode cX0_isAloneByTwo 55 = .ok (.goto (-28), 3) := by decide +kernel
theorem dX0_isAloneByTwo_58 : decode cX0_isAloneByTwo 58 = .ok (.iinc 4 1, 3) := by decide +kernel
theorem dX0_isAloneByTwo_61 : decode cX0_isAloneByTwo 61 = .ok (.goto (-58), 3) := by decide +kernel
theorem dX0_isAloneByTwo_64 : decode cX0_isAloneByTwo 64 = .ok (.iconst 0, 1) := by decide +kernel
theorem dX0_isAloneByTwo_65 : decode cX0_isAloneByTwo 65 = .ok (.ireturn, 1) := by decide +kernel
theorem dX0_isAloneByThree_0 : decode cX0_isAloneByThree 0 = .ok (.iconst 0, 1) := by decide +kernel
theorem dX0_isAloneByThree_1 : decode cX0_isAloneByThree 1 = .ok (.istore_n 3, 1) := by decide +kernel
theorem dX0_isAloneByThree_2 : decode cX0_isAloneByThree 2 = .ok (.iload_n 3, 1) := by decide +kernel
theorem dX0_isAloneByThree_3 : decode cX0_isAloneByThree 3 = .ok (.bipush 28, 2) := by decide +kernel
theorem dX0_isAloneByThree_5 : decode cX0_isAloneByThree 5 = .ok (.if_icmp .ge 30, 3) := by decide +kernel
theorem dX0_isAloneByThree_8 : decode cX0_isAloneByThree 8 = .ok (.aload_n 0, 1) := by decide +kernel
theorem dX0_isAloneByThree_9 : decode cX0_isAloneByThree 9 = .ok (.iload_n 1, 1) := by decide +kernel
theorem dX0_isAloneByThree_10 : decode cX0_isAloneByThree 10 = .ok (.iload_n 2, 1) := by decide +kernel
theorem dX0_isAloneByThree_11 : decode cX0_isAloneByThree 11 = .ok (.aload_n 0, 1) := by decide +kernel
theorem dX0_isAloneByThree_12 : decode cX0_isAloneByThree 12 = .ok (.iload_n 3, 1) := by decide +kernel
theorem dX0_isAloneByThree_13 : decode cX0_isAloneByThree 13 = .ok (.iload_n 1, 1) := by decide +kernel
theorem dX0_isAloneByThree_14 : decode cX0_isAloneByThree 14 = .ok (.invokevirtual 43, 3) := by decide +kernel
theorem dX0_isAloneByThree_17 : decode cX0_isAloneByThree 17 = .ok (.iand, 1) := by decide +kernel
theorem dX0_isAloneByThree_18 : decode cX0_isAloneByThree 18 = .ok (.iload_n 3, 1) := by decide +kernel
theorem dX0_isAloneByThree_19 : decode cX0_isAloneByThree 19 = .ok (.iconst 1, 1) := by decide +kernel
theorem dX0_isAloneByThree_20 : decode cX0_isAloneByThree 20 = .ok (.iadd, 1) := by decide +kernel
theorem dX0_isAloneByThree_21 : decode cX0_isAloneByThree 21 = .ok (.invokevirtual 73, 3) := by decide +kernel
theorem dX0_isAloneByThree_24 : decode cX0_isAloneByThree 24 = .ok (.ifCond .eq 5, 3) := by decide +kernel
theorem dX0_isAloneByThree_27 : decode cX0_isAloneByThree 27 = .ok (.iconst 1, 1) := by decide +kernel
theorem dX0_isAloneByThree_28 : decode cX0_isAloneByThree 28 = .ok (.ireturn, 1) := by decide +kernel
theorem dX0_isAloneByThree_29 : decode cX0_isAloneByThree 29 = .ok (.iinc 3 1, 3) := by decide +kernel
theorem dX0_isAloneByThree_32 : decode cX0_isAloneByThree 32 = .ok (.goto (-30), 3) := by decide +kernel
theorem dX0_isAloneByThree_35 : decode cX0_isAloneByThree 35 = .ok (.iconst 0, 1) := by decide +kernel
theorem dX0_isAloneByThree_36 : decode cX0_isAloneByThree 36 = .ok (.ireturn, 1) := by decide +kernel
theorem dX0_fewestSeconds_0 : decode cX0_fewestSeconds 0 = .ok (.iconst 1, 1) := by decide +kernel
theorem dX0_fewestSeconds_1 : decode cX0_fewestSeconds 1 = .ok (.iload_n 1, 1) := by decide +kernel
theorem dX0_fewestSeconds_2 : decode cX0_fewestSeconds 2 = .ok (.ishl, 1) := by decide +kernel
theorem dX0_fewestSeconds_3 : decode cX0_fewestSeconds 3 = .ok (.istore_n 3, 1) := by decide +kernel
theorem dX0_fewestSeconds_4 : decode cX0_fewestSeconds 4 = .ok (.iload_n 2, 1) := by decide +kernel
theorem dX0_fewestSeconds_5 : decode cX0_fewestSeconds 5 = .ok (.iload_n 3, 1) := by decide +kernel
theorem dX0_fewestSeconds_6 : decode cX0_fewestSeconds 6 = .ok (.if_icmp .ne 5, 3) := by decide +kernel
theorem dX0_fewestSeconds_9 : decode cX0_fewestSeconds 9 = .ok (.iconst 0, 1) := by decide +kernel
theorem dX0_fewestSeconds_10 : decode cX0_fewestSeconds 10 = .ok (.ireturn, 1) := by decide +kernel
theorem dX0_fewestSeconds_11 : decode cX0_fewestSeconds 11 = .ok (.iconst (-1), 1) := by decide +kernel
theorem dX0_fewestSeconds_12 : decode cX0_fewestSeconds 12 = .ok (.istore 4, 2) := by decide +kernel
theorem dX0_fewestSeconds_14 : decode cX0_fewestSeconds 14 = .ok (.iconst 0, 1) := by decide +kernel
theorem dX0_fewestSeconds_15 : decode cX0_fewestSeconds 15 = .ok (.istore 5, 2) := by decide +kernel
theorem dX0_fewestSeconds_17 : decode cX0_fewestSeconds 17 = .ok (.iload 5, 2) := by decide +kernel
theorem dX0_fewestSeconds_19 : decode cX0_fewestSeconds 19 = .ok (.bipush 28, 2) := by decide +kernel
theorem dX0_fewestSeconds_21 : decode cX0_fewestSeconds 21 = .ok (.if_icmp .ge 103, 3) := by decide +kernel
theorem dX0_fewestSeconds_24 : decode cX0_fewestSeconds 24 = .ok (.iload_n 2, 1) := by decide +kernel
theorem dX0_fewestSeconds_25 : decode cX0_fewestSeconds 25 = .ok (.aload_n 0, 1) := by decide +kernel
theorem dX0_fewestSeconds_26 : decode cX0_fewestSeconds 26 = .ok (.iload 5, 2) := by decide +kernel
theorem dX0_fewestSeconds_28 : decode cX0_fewestSeconds 28 = .ok (.iload_n 1, 1) := by decide +kernel
theorem dX0_fewestSeconds_29 : decode cX0_fewestSeconds 29 = .ok (.invokevirtual 43, 3) := by decide +kernel
theorem dX0_fewestSeconds_32 : decode cX0_fewestSeconds 32 = .ok (.iand, 1) := by decide +kernel
theorem dX0_fewestSeconds_33 : decode cX0_fewestSeconds 33 = .ok (.istore 6, 2) := by decide +kernel
theorem dX0_fewestSeconds_35 : decode cX0_fewestSeconds 35 = .ok (.iload 5, 2) := by decide +kernel
theorem dX0_fewestSeconds_37 : decode cX0_fewestSeconds 37 = .ok (.istore 7, 2) := by decide +kernel
theorem dX0_fewestSeconds_39 : decode cX0_fewestSeconds 39 = .ok (.iload 7, 2) := by decide +kernel
theorem dX0_fewestSeconds_41 : decode cX0_fewestSeconds 41 = .ok (.bipush 28, 2) := by decide +kernel
theorem dX0_fewestSeconds_43 : decode cX0_fewestSeconds 43 = .ok (.if_icmp .ge 75, 3) := by decide +kernel
theorem dX0_fewestSeconds_46 : decode cX0_fewestSeconds 46 = .ok (.iload 5, 2) := by decide +kernel
theorem dX0_fewestSeconds_48 : decode cX0_fewestSeconds 48 = .ok (.invokestatic 57, 3) := by decide +kernel
theorem dX0_fewestSeconds_51 : decode cX0_fewestSeconds 51 = .ok (.iload 7, 2) := by decide +kernel
theorem dX0_fewestSeconds_53 : decode cX0_fewestSeconds 53 = .ok (.iload 5, 2) := by decide +kernel
theorem dX0_fewestSeconds_55 : decode cX0_fewestSeconds 55 = .ok (.if_icmp .ne 7, 3) := by decide +kernel
theorem dX0_fewestSeconds_58 : decode cX0_fewestSeconds 58 = .ok (.iconst 0, 1) := by decide +kernel
theorem dX0_fewestSeconds_59 : decode cX0_fewestSeconds 59 = .ok (.goto 8, 3) := by decide +kernel
theorem dX0_fewestSeconds_62 : decode cX0_fewestSeconds 62 = .ok (.iload 7, 2) := by decide +kernel
theorem dX0_fewestSeconds_64 : decode cX0_fewestSeconds 64 = .ok (.invokestatic 57, 3) := by decide +kernel
theorem dX0_fewestSeconds_67 : decode cX0_fewestSeconds 67 = .ok (.iadd, 1) := by decide +kernel
theorem dX0_fewestSeconds_68 : decode cX0_fewestSeconds 68 = .ok (.istore 8, 2) := by decide +kernel
theorem dX0_fewestSeconds_70 : decode cX0_fewestSeconds 70 = .ok (.iload 6, 2) := by decide +kernel
theorem dX0_fewestSeconds_72 : decode cX0_fewestSeconds 72 = .ok (.aload_n 0, 1) := by decide +kernel
theorem dX0_fewestSeconds_73 : decode cX0_fewestSeconds 73 = .ok (.iload 7, 2) := by decide +kernel
theorem dX0_fewestSeconds_75 : decode cX0_fewestSeconds 75 = .ok (.iload_n 1, 1) := by decide +kernel
theorem dX0_fewestSeconds_76 : decode cX0_fewestSeconds 76 = .ok (.invokevirtual 43, 3) := by decide +kernel
theorem dX0_fewestSeconds_79 : decode cX0_fewestSeconds 79 = .ok (.iand, 1) := by decide +kernel
theorem dX0_fewestSeconds_80 : decode cX0_fewestSeconds 80 = .ok (.iload_n 3, 1) := by decide +kernel
theorem dX0_fewestSeconds_81 : decode cX0_fewestSeconds 81 = .ok (.if_icmp .ne 7, 3) := by decide +kernel
theorem dX0_fewestSeconds_84 : decode cX0_fewestSeconds 84 = .ok (.iconst 1, 1) := by decide +kernel
theorem dX0_fewestSeconds_85 : decode cX0_fewestSeconds 85 = .ok (.goto 4, 3) := by decide +kernel
theorem dX0_fewestSeconds_88 : decode cX0_fewestSeconds 88 = .ok (.iconst 0, 1) := by decide +kernel
theorem dX0_fewestSeconds_89 : decode cX0_fewestSeconds 89 = .ok (.istore 9, 2) := by decide +kernel
theorem dX0_fewestSeconds_91 : decode cX0_fewestSeconds 91 = .ok (.iload 9, 2) := by decide +kernel
theorem dX0_fewestSeconds_93 : decode cX0_fewestSeconds 93 = .ok (.ifCond .eq 19, 3) := by decide +kernel
theorem dX0_fewestSeconds_96 : decode cX0_fewestSeconds 96 = .ok (.iload 4, 2) := by decide +kernel
theorem dX0_fewestSeconds_98 : decode cX0_fewestSeconds 98 = .ok (.ifCond .lt 10, 3) := by decide +kernel
theorem dX0_fewestSeconds_101 : decode cX0_fewestSeconds 101 = .ok (.iload 8, 2) := by decide +kernel
theorem dX0_fewestSeconds_103 : decode cX0_fewestSeconds 103 = .ok (.iload 4, 2) := by decide +kernel
theorem dX0_fewestSeconds_105 : decode cX0_fewestSeconds 105 = .ok (.if_icmp .ge 7, 3) := by decide +kernel
theorem dX0_fewestSeconds_108 : decode cX0_fewestSeconds 108 = .ok (.iload 8, 2) := by decide +kernel
theorem dX0_fewestSeconds_110 : decode cX0_fewestSeconds 110 = .ok (.istore 4, 2) := by decide +kernel
theorem dX0_fewestSeconds_112 : decode cX0_fewestSeconds 112 = .ok (.iinc 7 1, 3) := by decide +kernel
theorem dX0_fewestSeconds_115 : decode cX0_fewestSeconds 115 = .ok (.goto (-76), 3) := by decide +kernel
theorem dX0_fewestSeconds_118 : decode cX0_fewestSeconds 118 = .ok (.iinc 5 1, 3) := by decide +kernel
theorem dX0_fewestSeconds_121 : decode cX0_fewestSeconds 121 = .ok (.goto (-104), 3) := by decide +kernel
theorem dX0_fewestSeconds_124 : decode cX0_fewestSeconds 124 = .ok (.iload 4, 2) := by decide +kernel
theorem dX0_fewestSeconds_126 : decode cX0_fewestSeconds 126 = .ok (.ireturn, 1) := by decide +kernel
theorem dX0_play_0 : decode cX0_play 0 = .ok (.iconst 0, 1) := by decide +kernel
theorem dX0_play_1 : decode cX0_play 1 = .ok (.istore_n 2, 1) := by decide +kernel
theorem dX0_play_2 : decode cX0_play 2 = .ok (.iload_n 2, 1) := by decide +kernel
theorem dX0_play_3 : decode cX0_play 3 = .ok (.bipush 60, 2) := by decide +kernel
theorem dX0_play_5 : decode cX0_play 5 = .ok (.if_icmp .ge 96, 3) := by decide +kernel
theorem dX0_play_8 : decode cX0_play 8 = .ok (.aload_n 1, 1) := by decide +kernel
theorem dX0_play_9 : decode cX0_play 9 = .ok (.getfield 80, 3) := by decide +kernel
theorem dX0_play_12 : decode cX0_play 12 = .ok (.invokestatic 47, 3) := by decide +kernel
theorem dX0_play_15 : decode cX0_play 15 = .ok (.istore_n 3, 1) := by decide +kernel
theorem dX0_play_16 : decode cX0_play 16 = .ok (.iload_n 3, 1) := by decide +kernel
theorem dX0_play_17 : decode cX0_play 17 = .ok (.iconst 1, 1) := by decide +kernel
theorem dX0_play_18 : decode cX0_play 18 = .ok (.if_icmp .le 17, 3) := by decide +kernel
theorem dX0_play_21 : decode cX0_play 21 = .ok (.aload_n 0, 1) := by decide +kernel
theorem dX0_play_22 : decode cX0_play 22 = .ok (.aload_n 1, 1) := by decide +kernel
theorem dX0_play_23 : decode cX0_play 23 = .ok (.getfield 80, 3) := by decide +kernel
theorem dX0_play_26 : decode cX0_play 26 = .ok (.bipush 60, 2) := by decide +kernel
theorem dX0_play_28 : decode cX0_play 28 = .ok (.iconst 0, 1) := by decide +kernel
theorem dX0_play_29 : decode cX0_play 29 = .ok (.invokevirtual 85, 3) := by decide +kernel
theorem dX0_play_32 : decode cX0_play 32 = .ok (.goto 4, 3) := by decide +kernel
theorem dX0_play_35 : decode cX0_play 35 = .ok (.iconst (-1), 1) := by decide +kernel
theorem dX0_play_36 : decode cX0_play 36 = .ok (.istore 4, 2) := by decide +kernel
theorem dX0_play_38 : decode cX0_play 38 = .ok (.iload 4, 2) := by decide +kernel
theorem dX0_play_40 : decode cX0_play 40 = .ok (.ifCond .lt 19, 3) := by decide +kernel
theorem dX0_play_43 : decode cX0_play 43 = .ok (.aload_n 0, 1) := by decide +kernel
theorem dX0_play_44 : decode cX0_play 44 = .ok (.iload 4, 2) := by decide +kernel
theorem dX0_play_46 : decode cX0_play 46 = .ok (.iload 4, 2) := by decide +kernel
theorem dX0_play_48 : decode cX0_play 48 = .ok (.aload_n 1, 1) := by decide +kernel
theorem dX0_play_49 : decode cX0_play 49 = .ok (.getfield 80, 3) := by decide +kernel
theorem dX0_play_52 : decode cX0_play 52 = .ok (.invokevirtual 63, 3) := by decide +kernel
theorem dX0_play_55 : decode cX0_play 55 = .ok (.iload_n 3, 1) := by decide +kernel
theorem dX0_play_56 : decode cX0_play 56 = .ok (.if_icmp .lt 4, 3) := by decide +kernel
theorem dX0_play_59 : decode cX0_play 59 = .ok (.return_, 1) := by decide +kernel
theorem dX0_play_60 : decode cX0_play 60 = .ok (.aload_n 1, 1) := by decide +kernel
theorem dX0_play_61 : decode cX0_play 61 = .ok (.getfield 89, 3) := by decide +kernel
theorem dX0_play_64 : decode cX0_play 64 = .ok (.iload 4, 2) := by decide +kernel
theorem dX0_play_66 : decode cX0_play 66 = .ok (.invokestatic 57, 3) := by decide +kernel
theorem dX0_play_69 : decode cX0_play 69 = .ok (.iadd, 1) := by decide +kernel
theorem dX0_play_70 : decode cX0_play 70 = .ok (.bipush 60, 2) := by decide +kernel
theorem dX0_play_72 : decode cX0_play 72 = .ok (.if_icmp .le 4, 3) := by decide +kernel
theorem dX0_play_75 : decode cX0_play 75 = .ok (.return_, 1) := by decide +kernel
theorem dX0_play_76 : decode cX0_play 76 = .ok (.aload_n 1, 1) := by decide +kernel
theorem dX0_play_77 : decode cX0_play 77 = .ok (.aload_n 0, 1) := by decide +kernel
theorem dX0_play_78 : decode cX0_play 78 = .ok (.iload 4, 2) := by decide +kernel
theorem dX0_play_80 : decode cX0_play 80 = .ok (.aload_n 1, 1) := by decide +kernel
theorem dX0_play_81 : decode cX0_play 81 = .ok (.getfield 92, 3) := by decide +kernel
theorem dX0_play_84 : decode cX0_play 84 = .ok (.invokevirtual 43, 3) := by decide +kernel
theorem dX0_play_87 : decode cX0_play 87 = .ok (.iload 4, 2) := by decide +kernel
theorem dX0_play_89 : decode cX0_play 89 = .ok (.invokestatic 57, 3) := by decide +kernel
theorem dX0_play_92 : decode cX0_play 92 = .ok (.invokevirtual 95, 3) := by decide +kernel
theorem dX0_play_95 : decode cX0_play 95 = .ok (.iinc 2 1, 3) := by decide +kernel
theorem dX0_play_98 : decode cX0_play 98 = .ok (.goto (-96), 3) := by decide +kernel
theorem dX0_play_101 : decode cX0_play 101 = .ok (.return_, 1) := by decide +kernel
theorem dX1_init_0 : decode cX1_init 0 = .ok (.aload_n 0, 1) := by decide +kernel
theorem dX1_init_1 : decode cX1_init 1 = .ok (.invokespecial 3, 3) := by decide +kernel
theorem dX1_init_4 : decode cX1_init 4 = .ok (.aload_n 0, 1) := by decide +kernel
theorem dX1_init_5 : decode cX1_init 5 = .ok (.bipush 40, 2) := by decide +kernel
theorem dX1_init_7 : decode cX1_init 7 = .ok (.newarray .int, 2) := by decide +kernel
theorem dX1_init_9 : decode cX1_init 9 = .ok (.putfield 9, 3) := by decide +kernel
theorem dX1_init_12 : decode cX1_init 12 = .ok (.aload_n 0, 1) := by decide +kernel
theorem dX1_init_13 : decode cX1_init 13 = .ok (.iconst 0, 1) := by decide +kernel
theorem dX1_init_14 : decode cX1_init 14 = .ok (.putfield 15, 3) := by decide +kernel
theorem dX1_init_17 : decode cX1_init 17 = .ok (.aload_n 0, 1) := by decide +kernel
theorem dX1_init_18 : decode cX1_init 18 = .ok (.iconst 0, 1) := by decide +kernel
theorem dX1_init_19 : decode cX1_init 19 = .ok (.putfield 19, 3) := by decide +kernel
theorem dX1_init_22 : decode cX1_init 22 = .ok (.return_, 1) := by decide +kernel
theorem dX1_isMissing_0 : decode cX1_isMissing 0 = .ok (.aload_n 0, 1) := by decide +kernel
theorem dX1_isMissing_1 : decode cX1_isMissing 1 = .ok (.getfield 19, 3) := by decide +kernel
theorem dX1_isMissing_4 : decode cX1_isMissing 4 = .ok (.ifCond .ne 7, 3) := by decide +kernel
theorem dX1_isMissing_7 : decode cX1_isMissing 7 = .ok (.iconst 1, 1) := by decide +kernel
theorem dX1_isMissing_8 : decode cX1_isMissing 8 = .ok (.goto 4, 3) := by decide +kernel
theorem dX1_isMissing_11 : decode cX1_isMissing 11 = .ok (.iconst 0, 1) := by decide +kernel
theorem dX1_isMissing_12 : decode cX1_isMissing 12 = .ok (.ireturn, 1) := by decide +kernel
theorem dX1_renew_0 : decode cX1_renew 0 = .ok (.aload_n 0, 1) := by decide +kernel
theorem dX1_renew_1 : decode cX1_renew 1 = .ok (.iload_n 1, 1) := by decide +kernel
theorem dX1_renew_2 : decode cX1_renew 2 = .ok (.putfield 19, 3) := by decide +kernel
theorem dX1_renew_5 : decode cX1_renew 5 = .ok (.aload_n 0, 1) := by decide +kernel
theorem dX1_renew_6 : decode cX1_renew 6 = .ok (.iload_n 1, 1) := by decide +kernel
theorem dX1_renew_7 : decode cX1_renew 7 = .ok (.ifCond .ne 7, 3) := by decide +kernel
theorem dX1_renew_10 : decode cX1_renew 10 = .ok (.iconst 0, 1) := by decide +kernel
theorem dX1_renew_11 : decode cX1_renew 11 = .ok (.goto 4, 3) := by decide +kernel
theorem dX1_renew_14 : decode cX1_renew 14 = .ok (.iload_n 2, 1) := by decide +kernel
theorem dX1_renew_15 : decode cX1_renew 15 = .ok (.putfield 15, 3) := by decide +kernel
theorem dX1_renew_18 : decode cX1_renew 18 = .ok (.iconst 0, 1) := by decide +kernel
theorem dX1_renew_19 : decode cX1_renew 19 = .ok (.istore_n 3, 1) := by decide +kernel
theorem dX1_renew_20 : decode cX1_renew 20 = .ok (.iload_n 3, 1) := by decide +kernel
theorem dX1_renew_21 : decode cX1_renew 21 = .ok (.bipush 40, 2) := by decide +kernel
theorem dX1_renew_23 : decode cX1_renew 23 = .ok (.if_icmp .ge 16, 3) := by decide +kernel
theorem dX1_renew_26 : decode cX1_renew 26 = .ok (.aload_n 0, 1) := by decide +kernel
theorem dX1_renew_27 : decode cX1_renew 27 = .ok (.getfield 9, 3) := by decide +kernel
theorem dX1_renew_30 : decode cX1_renew 30 = .ok (.iload_n 3, 1) := by decide +kernel
theorem dX1_renew_31 : decode cX1_renew 31 = .ok (.iconst 0, 1) := by decide +kernel
theorem dX1_renew_32 : decode cX1_renew 32 = .ok (.iastore, 1) := by decide +kernel
theorem dX1_renew_33 : decode cX1_renew 33 = .ok (.iinc 3 1, 3) := by decide +kernel
theorem dX1_renew_36 : decode cX1_renew 36 = .ok (.goto (-16), 3) := by decide +kernel
theorem dX1_renew_39 : decode cX1_renew 39 = .ok (.aload_n 0, 1) := by decide +kernel
theorem dX1_renew_40 : decode cX1_renew 40 = .ok (.getfield 15, 3) := by decide +kernel
theorem dX1_renew_43 : decode cX1_renew 43 = .ok (.ireturn, 1) := by decide +kernel
theorem dX1_put_0 : decode cX1_put 0 = .ok (.aload_n 0, 1) := by decide +kernel
theorem dX1_put_1 : decode cX1_put 1 = .ok (.getfield 19, 3) := by decide +kernel
theorem dX1_put_4 : decode cX1_put 4 = .ok (.bipush 8, 2) := by decide +kernel
theorem dX1_put_6 : decode cX1_put 6 = .ok (.if_icmp .ne 14, 3) := by decide +kernel
theorem dX1_put_9 : decode cX1_put 9 = .ok (.aload_n 0, 1) := by decide +kernel
theorem dX1_put_10 : decode cX1_put 10 = .ok (.getfield 9, 3) := by decide +kernel
theorem dX1_put_13 : decode cX1_put 13 = .ok (.iload_n 1, 1) := by decide +kernel
theorem dX1_put_14 : decode cX1_put 14 = .ok (.iload_n 2, 1) := by decide +kernel
theorem dX1_put_15 : decode cX1_put 15 = .ok (.i2b, 1) := by decide +kernel
theorem dX1_put_16 : decode cX1_put 16 = .ok (.iastore, 1) := by decide +kernel
theorem dX1_put_17 : decode cX1_put 17 = .ok (.goto 30, 3) := by decide +kernel
theorem dX1_put_20 : decode cX1_put 20 = .ok (.aload_n 0, 1) := by decide +kernel
theorem dX1_put_21 : decode cX1_put 21 = .ok (.getfield 19, 3) := by decide +kernel
theorem dX1_put_24 : decode cX1_put 24 = .ok (.bipush 16, 2) := by decide +kernel
theorem dX1_put_26 : decode cX1_put 26 = .ok (.if_icmp .ne 14, 3) := by decide +kernel
theorem dX1_put_29 : decode cX1_put 29 = .ok (.aload_n 0, 1) := by decide +kernel
theorem dX1_put_30 : decode cX1_put 30 = .ok (.getfield 9, 3) := by decide +kernel
theorem dX1_put_33 : decode cX1_put 33 = .ok (.iload_n 1, 1) := by decide +kernel
theorem dX1_put_34 : decode cX1_put 34 = .ok (.iload_n 2, 1) := by decide +kernel
theorem dX1_put_35 : decode cX1_put 35 = .ok (.i2s, 1) := by decide +kernel
theorem dX1_put_36 : decode cX1_put 36 = .ok (.iastore, 1) := by decide +kernel
theorem dX1_put_37 : decode cX1_put 37 = .ok (.goto 10, 3) := by decide +kernel
theorem dX1_put_40 : decode cX1_put 40 = .ok (.aload_n 0, 1) := by decide +kernel
theorem dX1_put_41 : decode cX1_put 41 = .ok (.getfield 9, 3) := by decide +kernel
theorem dX1_put_44 : decode cX1_put 44 = .ok (.iload_n 1, 1) := by decide +kernel
theorem dX1_put_45 : decode cX1_put 45 = .ok (.iload_n 2, 1) := by decide +kernel
theorem dX1_put_46 : decode cX1_put 46 = .ok (.iastore, 1) := by decide +kernel
theorem dX1_put_47 : decode cX1_put 47 = .ok (.return_, 1) := by decide +kernel
theorem dX1_hasRange_0 : decode cX1_hasRange 0 = .ok (.iload_n 1, 1) := by decide +kernel
theorem dX1_hasRange_1 : decode cX1_hasRange 1 = .ok (.ifCond .lt 29, 3) := by decide +kernel
theorem dX1_hasRange_4 : decode cX1_hasRange 4 = .ok (.iload_n 2, 1) := by decide +kernel
theorem dX1_hasRange_5 : decode cX1_hasRange 5 = .ok (.ifCond .lt 25, 3) := by decide +kernel
theorem dX1_hasRange_8 : decode cX1_hasRange 8 = .ok (.iload_n 2, 1) := by decide +kernel
theorem dX1_hasRange_9 : decode cX1_hasRange 9 = .ok (.aload_n 0, 1) := by decide +kernel
theorem dX1_hasRange_10 : decode cX1_hasRange 10 = .ok (.getfield 15, 3) := by decide +kernel
theorem dX1_hasRange_13 : decode cX1_hasRange 13 = .ok (.if_icmp .gt 17, 3) := by decide +kernel
theorem dX1_hasRange_16 : decode cX1_hasRange 16 = .ok (.iload_n 1, 1) := by decide +kernel
theorem dX1_hasRange_17 : decode cX1_hasRange 17 = .ok (.aload_n 0, 1) := by decide +kernel
theorem dX1_hasRange_18 : decode cX1_hasRange 18 = .ok (.getfield 15, 3) := by decide +kernel
theorem dX1_hasRange_21 : decode cX1_hasRange 21 = .ok (.iload_n 2, 1) := by decide +kernel
theorem dX1_hasRange_22 : decode cX1_hasRange 22 = .ok (.isub, 1) := by decide +kernel
theorem dX1_hasRange_23 : decode cX1_hasRange 23 = .ok (.if_icmp .gt 7, 3) := by decide +kernel
theorem dX1_hasRange_26 : decode cX1_hasRange 26 = .ok (.iconst 1, 1) := by decide +kernel
theorem dX1_hasRange_27 : decode cX1_hasRange 27 = .ok (.goto 4, 3) := by decide +kernel
theorem dX1_hasRange_30 : decode cX1_hasRange 30 = .ok (.iconst 0, 1) := by decide +kernel
theorem dX1_hasRange_31 : decode cX1_hasRange 31 = .ok (.ireturn, 1) := by decide +kernel
theorem dX2_init_0 : decode cX2_init 0 = .ok (.aload_n 0, 1) := by decide +kernel
theorem dX2_init_1 : decode cX2_init 1 = .ok (.invokespecial 3, 3) := by decide +kernel
theorem dX2_init_4 : decode cX2_init 4 = .ok (.aload_n 0, 1) := by decide +kernel
theorem dX2_init_5 : decode cX2_init 5 = .ok (.iconst (-1), 1) := by decide +kernel
theorem dX2_init_6 : decode cX2_init 6 = .ok (.putfield 9, 3) := by decide +kernel
theorem dX2_init_9 : decode cX2_init 9 = .ok (.aload_n 0, 1) := by decide +kernel
theorem dX2_init_10 : decode cX2_init 10 = .ok (.iconst 0, 1) := by decide +kernel
theorem dX2_init_11 : decode cX2_init 11 = .ok (.putfield 15, 3) := by decide +kernel
theorem dX2_init_14 : decode cX2_init 14 = .ok (.aload_n 0, 1) := by decide +kernel
theorem dX2_init_15 : decode cX2_init 15 = .ok (.iconst 0, 1) := by decide +kernel
theorem dX2_init_16 : decode cX2_init 16 = .ok (.putfield 18, 3) := by decide +kernel
theorem dX2_init_19 : decode cX2_init 19 = .ok (.aload_n 0, 1) := by decide +kernel
theorem dX2_init_20 : decode cX2_init 20 = .ok (.iconst 0, 1) := by decide +kernel
theorem dX2_init_21 : decode cX2_init 21 = .ok (.putfield 21, 3) := by decide +kernel
theorem dX2_init_24 : decode cX2_init 24 = .ok (.aload_n 0, 1) := by decide +kernel
theorem dX2_init_25 : decode cX2_init 25 = .ok (.iconst 0, 1) := by decide +kernel
theorem dX2_init_26 : decode cX2_init 26 = .ok (.putfield 24, 3) := by decide +kernel
theorem dX2_init_29 : decode cX2_init 29 = .ok (.return_, 1) := by decide +kernel
theorem dX2_begin_0 : decode cX2_begin 0 = .ok (.aload_n 0, 1) := by decide +kernel
theorem dX2_begin_1 : decode cX2_begin 1 = .ok (.iload_n 1, 1) := by decide +kernel
theorem dX2_begin_2 : decode cX2_begin 2 = .ok (.putfield 9, 3) := by decide +kernel
theorem dX2_begin_5 : decode cX2_begin 5 = .ok (.aload_n 0, 1) := by decide +kernel
theorem dX2_begin_6 : decode cX2_begin 6 = .ok (.iload_n 2, 1) := by decide +kernel
theorem dX2_begin_7 : decode cX2_begin 7 = .ok (.putfield 15, 3) := by decide +kernel
theorem dX2_begin_10 : decode cX2_begin 10 = .ok (.aload_n 0, 1) := by decide +kernel
theorem dX2_begin_11 : decode cX2_begin 11 = .ok (.iconst 0, 1) := by decide +kernel
theorem dX2_begin_12 : decode cX2_begin 12 = .ok (.putfield 18, 3) := by decide +kernel
theorem dX2_begin_15 : decode cX2_begin 15 = .ok (.aload_n 0, 1) := by decide +kernel
theorem dX2_begin_16 : decode cX2_begin 16 = .ok (.iconst 0, 1) := by decide +kernel
theorem dX2_begin_17 : decode cX2_begin 17 = .ok (.putfield 21, 3) := by decide +kernel
theorem dX2_begin_20 : decode cX2_begin 20 = .ok (.aload_n 0, 1) := by decide +kernel
theorem dX2_begin_21 : decode cX2_begin 21 = .ok (.iload_n 3, 1) := by decide +kernel
theorem dX2_begin_22 : decode cX2_begin 22 = .ok (.putfield 24, 3) := by decide +kernel
theorem dX2_begin_25 : decode cX2_begin 25 = .ok (.return_, 1) := by decide +kernel
theorem dX2_drop_0 : decode cX2_drop 0 = .ok (.aload_n 0, 1) := by decide +kernel
theorem dX2_drop_1 : decode cX2_drop 1 = .ok (.iconst (-1), 1) := by decide +kernel
theorem dX2_drop_2 : decode cX2_drop 2 = .ok (.iconst 0, 1) := by decide +kernel
theorem dX2_drop_3 : decode cX2_drop 3 = .ok (.iconst 0, 1) := by decide +kernel
theorem dX2_drop_4 : decode cX2_drop 4 = .ok (.invokevirtual 27, 3) := by decide +kernel
theorem dX2_drop_7 : decode cX2_drop 7 = .ok (.return_, 1) := by decide +kernel
theorem dX2_become_0 : decode cX2_become 0 = .ok (.aload_n 0, 1) := by decide +kernel
theorem dX2_become_1 : decode cX2_become 1 = .ok (.aload_n 1, 1) := by decide +kernel
theorem dX2_become_2 : decode cX2_become 2 = .ok (.getfield 9, 3) := by decide +kernel
theorem dX2_become_5 : decode cX2_become 5 = .ok (.putfield 9, 3) := by decide +kernel
theorem dX2_become_8 : decode cX2_become 8 = .ok (.aload_n 0, 1) := by decide +kernel
theorem dX2_become_9 : decode cX2_become 9 = .ok (.aload_n 1, 1) := by decide +kernel
theorem dX2_become_10 : decode cX2_become 10 = .ok (.getfield 15, 3) := by decide +kernel
theorem dX2_become_13 : decode cX2_become 13 = .ok (.putfield 15, 3) := by decide +kernel
theorem dX2_become_16 : decode cX2_become 16 = .ok (.aload_n 0, 1) := by decide +kernel
theorem dX2_become_17 : decode cX2_become 17 = .ok (.aload_n 1, 1) := by decide +kernel
theorem dX2_become_18 : decode cX2_become 18 = .ok (.getfield 18, 3) := by decide +kernel
theorem dX2_become_21 : decode cX2_become 21 = .ok (.putfield 18, 3) := by decide +kernel
theorem dX2_become_24 : decode cX2_become 24 = .ok (.aload_n 0, 1) := by decide +kernel
theorem dX2_become_25 : decode cX2_become 25 = .ok (.aload_n 1, 1) := by decide +kernel
theorem dX2_become_26 : decode cX2_become 26 = .ok (.getfield 21, 3) := by decide +kernel
theorem dX2_become_29 : decode cX2_become 29 = .ok (.putfield 21, 3) := by decide +kernel
theorem dX2_become_32 : decode cX2_become 32 = .ok (.aload_n 0, 1) := by decide +kernel
theorem dX2_become_33 : decode cX2_become 33 = .ok (.aload_n 1, 1) := by decide +kernel
theorem dX2_become_34 : decode cX2_become 34 = .ok (.getfield 24, 3) := by decide +kernel
theorem dX2_become_37 : decode cX2_become 37 = .ok (.putfield 24, 3) := by decide +kernel
theorem dX2_become_40 : decode cX2_become 40 = .ok (.return_, 1) := by decide +kernel
theorem dX2_leave_0 : decode cX2_leave 0 = .ok (.aload_n 0, 1) := by decide +kernel
theorem dX2_leave_1 : decode cX2_leave 1 = .ok (.dup, 1) := by decide +kernel
theorem dX2_leave_2 : decode cX2_leave 2 = .ok (.getfield 24, 3) := by decide +kernel
theorem dX2_leave_5 : decode cX2_leave 5 = .ok (.iload_n 1, 1) := by decide +kernel
theorem dX2_leave_6 : decode cX2_leave 6 = .ok (.iand, 1) := by decide +kernel
theorem dX2_leave_7 : decode cX2_leave 7 = .ok (.putfield 24, 3) := by decide +kernel
theorem dX2_leave_10 : decode cX2_leave 10 = .ok (.aload_n 0, 1) := by decide +kernel
theorem dX2_leave_11 : decode cX2_leave 11 = .ok (.dup, 1) := by decide +kernel
theorem dX2_leave_12 : decode cX2_leave 12 = .ok (.getfield 18, 3) := by decide +kernel
theorem dX2_leave_15 : decode cX2_leave 15 = .ok (.iload_n 2, 1) := by decide +kernel
theorem dX2_leave_16 : decode cX2_leave 16 = .ok (.iadd, 1) := by decide +kernel
theorem dX2_leave_17 : decode cX2_leave 17 = .ok (.putfield 18, 3) := by decide +kernel
theorem dX2_leave_20 : decode cX2_leave 20 = .ok (.aload_n 0, 1) := by decide +kernel
theorem dX2_leave_21 : decode cX2_leave 21 = .ok (.dup, 1) := by decide +kernel
theorem dX2_leave_22 : decode cX2_leave 22 = .ok (.getfield 21, 3) := by decide +kernel
theorem dX2_leave_25 : decode cX2_leave 25 = .ok (.iconst 1, 1) := by decide +kernel
theorem dX2_leave_26 : decode cX2_leave 26 = .ok (.iadd, 1) := by decide +kernel
theorem dX2_leave_27 : decode cX2_leave 27 = .ok (.putfield 21, 3) := by decide +kernel
theorem dX2_leave_30 : decode cX2_leave 30 = .ok (.return_, 1) := by decide +kernel
theorem dX2_hear_0 : decode cX2_hear 0 = .ok (.iconst 1, 1) := by decide +kernel
theorem dX2_hear_1 : decode cX2_hear 1 = .ok (.iload_n 1, 1) := by decide +kernel
theorem dX2_hear_2 : decode cX2_hear 2 = .ok (.ishl, 1) := by decide +kernel
theorem dX2_hear_3 : decode cX2_hear 3 = .ok (.istore_n 2, 1) := by decide +kernel
theorem dX2_hear_4 : decode cX2_hear 4 = .ok (.aload_n 0, 1) := by decide +kernel
theorem dX2_hear_5 : decode cX2_hear 5 = .ok (.iload_n 1, 1) := by decide +kernel
theorem dX2_hear_6 : decode cX2_hear 6 = .ok (.aload_n 0, 1) := by decide +kernel
theorem dX2_hear_7 : decode cX2_hear 7 = .ok (.getfield 9, 3) := by decide +kernel
theorem dX2_hear_10 : decode cX2_hear 10 = .ok (.if_icmp .ne 7, 3) := by decide +kernel
theorem dX2_hear_13 : decode cX2_hear 13 = .ok (.iload_n 2, 1) := by decide +kernel
theorem dX2_hear_14 : decode cX2_hear 14 = .ok (.goto 11, 3) := by decide +kernel
theorem dX2_hear_17 : decode cX2_hear 17 = .ok (.aload_n 0, 1) := by decide +kernel
theorem dX2_hear_18 : decode cX2_hear 18 = .ok (.getfield 24, 3) := by decide +kernel
theorem dX2_hear_21 : decode cX2_hear 21 = .ok (.iload_n 2, 1) := by decide +kernel
theorem dX2_hear_22 : decode cX2_hear 22 = .ok (.iconst (-1), 1) := by decide +kernel
theorem dX2_hear_23 : decode cX2_hear 23 = .ok (.ixor, 1) := by decide +kernel
theorem dX2_hear_24 : decode cX2_hear 24 = .ok (.iand, 1) := by decide +kernel
theorem dX2_hear_25 : decode cX2_hear 25 = .ok (.putfield 24, 3) := by decide +kernel
theorem dX2_hear_28 : decode cX2_hear 28 = .ok (.return_, 1) := by decide +kernel
theorem dX2_isHad_0 : decode cX2_isHad 0 = .ok (.aload_n 0, 1) := by decide +kernel
theorem dX2_isHad_1 : decode cX2_isHad 1 = .ok (.getfield 24, 3) := by decide +kernel
theorem dX2_isHad_4 : decode cX2_isHad 4 = .ok (.invokestatic 31, 3) := by decide +kernel
theorem dX2_isHad_7 : decode cX2_isHad 7 = .ok (.iconst 1, 1) := by decide +kernel
theorem dX2_isHad_8 : decode cX2_isHad 8 = .ok (.if_icmp .ne 7, 3) := by decide +kernel
theorem dX2_isHad_11 : decode cX2_isHad 11 = .ok (.iconst 1, 1) := by decide +kernel
theorem dX2_isHad_12 : decode cX2_isHad 12 = .ok (.goto 4, 3) := by decide +kernel
theorem dX2_isHad_15 : decode cX2_isHad 15 = .ok (.iconst 0, 1) := by decide +kernel
theorem dX2_isHad_16 : decode cX2_isHad 16 = .ok (.ireturn, 1) := by decide +kernel
theorem dX2_reward_0 : decode cX2_reward 0 = .ok (.aload_n 0, 1) := by decide +kernel
theorem dX2_reward_1 : decode cX2_reward 1 = .ok (.invokevirtual 37, 3) := by decide +kernel
theorem dX2_reward_4 : decode cX2_reward 4 = .ok (.ifCond .eq 13, 3) := by decide +kernel
theorem dX2_reward_7 : decode cX2_reward 7 = .ok (.bipush 60, 2) := by decide +kernel
theorem dX2_reward_9 : decode cX2_reward 9 = .ok (.aload_n 0, 1) := by decide +kernel
theorem dX2_reward_10 : decode cX2_reward 10 = .ok (.getfield 18, 3) := by decide +kernel
theorem dX2_reward_13 : decode cX2_reward 13 = .ok (.isub, 1) := by decide +kernel
theorem dX2_reward_14 : decode cX2_reward 14 = .ok (.goto 4, 3) := by decide +kernel
theorem dX2_reward_17 : decode cX2_reward 17 = .ok (.iconst 0, 1) := by decide +kernel
theorem dX2_reward_18 : decode cX2_reward 18 = .ok (.ireturn, 1) := by decide +kernel
theorem dX2_fact_0 : decode cX2_fact 0 = .ok (.iload_n 1, 1) := by decide +kernel
theorem dX2_fact_1 : decode cX2_fact 1 = .ok (.tableswitch 60 0 4 #[35, 40, 45, 50, 55], 35) := by decide +kernel
theorem dX2_fact_36 : decode cX2_fact 36 = .ok (.aload_n 0, 1) := by decide +kernel
theorem dX2_fact_37 : decode cX2_fact 37 = .ok (.getfield 9, 3) := by decide +kernel
theorem dX2_fact_40 : decode cX2_fact 40 = .ok (.ireturn, 1) := by decide +kernel
theorem dX2_fact_41 : decode cX2_fact 41 = .ok (.aload_n 0, 1) := by decide +kernel
theorem dX2_fact_42 : decode cX2_fact 42 = .ok (.getfield 15, 3) := by decide +kernel
theorem dX2_fact_45 : decode cX2_fact 45 = .ok (.ireturn, 1) := by decide +kernel
theorem dX2_fact_46 : decode cX2_fact 46 = .ok (.aload_n 0, 1) := by decide +kernel
theorem dX2_fact_47 : decode cX2_fact 47 = .ok (.getfield 18, 3) := by decide +kernel
theorem dX2_fact_50 : decode cX2_fact 50 = .ok (.ireturn, 1) := by decide +kernel
theorem dX2_fact_51 : decode cX2_fact 51 = .ok (.aload_n 0, 1) := by decide +kernel
theorem dX2_fact_52 : decode cX2_fact 52 = .ok (.getfield 21, 3) := by decide +kernel
theorem dX2_fact_55 : decode cX2_fact 55 = .ok (.ireturn, 1) := by decide +kernel
theorem dX2_fact_56 : decode cX2_fact 56 = .ok (.aload_n 0, 1) := by decide +kernel
theorem dX2_fact_57 : decode cX2_fact 57 = .ok (.getfield 24, 3) := by decide +kernel
theorem dX2_fact_60 : decode cX2_fact 60 = .ok (.ireturn, 1) := by decide +kernel
theorem dX2_fact_61 : decode cX2_fact 61 = .ok (.aload_n 0, 1) := by decide +kernel
theorem dX2_fact_62 : decode cX2_fact 62 = .ok (.invokevirtual 37, 3) := by decide +kernel
theorem dX2_fact_65 : decode cX2_fact 65 = .ok (.ifCond .eq 7, 3) := by decide +kernel
theorem dX2_fact_68 : decode cX2_fact 68 = .ok (.iconst 1, 1) := by decide +kernel
theorem dX2_fact_69 : decode cX2_fact 69 = .ok (.goto 4, 3) := by decide +kernel
theorem dX2_fact_72 : decode cX2_fact 72 = .ok (.iconst 0, 1) := by decide +kernel
theorem dX2_fact_73 : decode cX2_fact 73 = .ok (.ireturn, 1) := by decide +kernel
theorem dX3_init_0 : decode cX3_init 0 = .ok (.aload_n 0, 1) := by decide +kernel
theorem dX3_init_1 : decode cX3_init 1 = .ok (.invokespecial 3, 3) := by decide +kernel
theorem dX3_init_4 : decode cX3_init 4 = .ok (.aload_n 0, 1) := by decide +kernel
theorem dX3_init_5 : decode cX3_init 5 = .ok (.bipush 16, 2) := by decide +kernel
theorem dX3_init_7 : decode cX3_init 7 = .ok (.newarray .int, 2) := by decide +kernel
theorem dX3_init_9 : decode cX3_init 9 = .ok (.putfield 9, 3) := by decide +kernel
theorem dX3_init_12 : decode cX3_init 12 = .ok (.aload_n 0, 1) := by decide +kernel
theorem dX3_init_13 : decode cX3_init 13 = .ok (.bipush 16, 2) := by decide +kernel
theorem dX3_init_15 : decode cX3_init 15 = .ok (.newarray .int, 2) := by decide +kernel
theorem dX3_init_17 : decode cX3_init 17 = .ok (.putfield 15, 3) := by decide +kernel
theorem dX3_init_20 : decode cX3_init 20 = .ok (.aload_n 0, 1) := by decide +kernel
theorem dX3_init_21 : decode cX3_init 21 = .ok (.bipush 16, 2) := by decide +kernel
theorem dX3_init_23 : decode cX3_init 23 = .ok (.newarray .int, 2) := by decide +kernel
theorem dX3_init_25 : decode cX3_init 25 = .ok (.putfield 18, 3) := by decide +kernel
theorem dX3_init_28 : decode cX3_init 28 = .ok (.aload_n 0, 1) := by decide +kernel
theorem dX3_init_29 : decode cX3_init 29 = .ok (.iconst 0, 1) := by decide +kernel
theorem dX3_init_30 : decode cX3_init 30 = .ok (.putfield 21, 3) := by decide +kernel
theorem dX3_init_33 : decode cX3_init 33 = .ok (.aload_n 0, 1) := by decide +kernel
theorem dX3_init_34 : decode cX3_init 34 = .ok (.bipush 96, 2) := by decide +kernel
theorem dX3_init_36 : decode cX3_init 36 = .ok (.newarray .int, 2) := by decide +kernel
theorem dX3_init_38 : decode cX3_init 38 = .ok (.putfield 25, 3) := by decide +kernel
theorem dX3_init_41 : decode cX3_init 41 = .ok (.aload_n 0, 1) := by decide +kernel
theorem dX3_init_42 : decode cX3_init 42 = .ok (.bipush 24, 2) := by decide +kernel
theorem dX3_init_44 : decode cX3_init 44 = .ok (.newarray .int, 2) := by decide +kernel
theorem dX3_init_46 : decode cX3_init 46 = .ok (.putfield 28, 3) := by decide +kernel
theorem dX3_init_49 : decode cX3_init 49 = .ok (.aload_n 0, 1) := by decide +kernel
theorem dX3_init_50 : decode cX3_init 50 = .ok (.iconst 0, 1) := by decide +kernel
theorem dX3_init_51 : decode cX3_init 51 = .ok (.putfield 31, 3) := by decide +kernel
theorem dX3_init_54 : decode cX3_init 54 = .ok (.aload_n 0, 1) := by decide +kernel
theorem dX3_init_55 : decode cX3_init 55 = .ok (.iconst 2, 1) := by decide +kernel
theorem dX3_init_56 : decode cX3_init 56 = .ok (.newarray .int, 2) := by decide +kernel
theorem dX3_init_58 : decode cX3_init 58 = .ok (.putfield 34, 3) := by decide +kernel
theorem dX3_init_61 : decode cX3_init 61 = .ok (.aload_n 0, 1) := by decide +kernel
theorem dX3_init_62 : decode cX3_init 62 = .ok (.iconst 2, 1) := by decide +kernel
theorem dX3_init_63 : decode cX3_init 63 = .ok (.newarray .int, 2) := by decide +kernel
theorem dX3_init_65 : decode cX3_init 65 = .ok (.putfield 37, 3) := by decide +kernel
theorem dX3_init_68 : decode cX3_init 68 = .ok (.aload_n 0, 1) := by decide +kernel
theorem dX3_init_69 : decode cX3_init 69 = .ok (.bipush 10, 2) := by decide +kernel
theorem dX3_init_71 : decode cX3_init 71 = .ok (.newarray .int, 2) := by decide +kernel
theorem dX3_init_73 : decode cX3_init 73 = .ok (.putfield 40, 3) := by decide +kernel
theorem dX3_init_76 : decode cX3_init 76 = .ok (.aload_n 0, 1) := by decide +kernel
theorem dX3_init_77 : decode cX3_init 77 = .ok (.new 43, 3) := by decide +kernel
theorem dX3_init_80 : decode cX3_init 80 = .ok (.dup, 1) := by decide +kernel
theorem dX3_init_81 : decode cX3_init 81 = .ok (.invokespecial 45, 3) := by decide +kernel
theorem dX3_init_84 : decode cX3_init 84 = .ok (.putfield 46, 3) := by decide +kernel
theorem dX3_init_87 : decode cX3_init 87 = .ok (.aload_n 0, 1) := by decide +kernel
theorem dX3_init_88 : decode cX3_init 88 = .ok (.iconst 1, 1) := by decide +kernel
theorem dX3_init_89 : decode cX3_init 89 = .ok (.putfield 50, 3) := by decide +kernel
theorem dX3_init_92 : decode cX3_init 92 = .ok (.return_, 1) := by decide +kernel
theorem dX3_become_0 : decode cX3_become 0 = .ok (.aload_n 1, 1) := by decide +kernel
theorem dX3_become_1 : decode cX3_become 1 = .ok (.getfield 9, 3) := by decide +kernel
theorem dX3_become_4 : decode cX3_become 4 = .ok (.iconst 0, 1) := by decide +kernel
theorem dX3_become_5 : decode cX3_become 5 = .ok (.aload_n 0, 1) := by decide +kernel
theorem dX3_become_6 : decode cX3_become 6 = .ok (.getfield 9, 3) := by decide +kernel
theorem dX3_become_9 : decode cX3_become 9 = .ok (.iconst 0, 1) := by decide +kernel
theorem dX3_become_10 : decode cX3_become 10 = .ok (.bipush 16, 2) := by decide +kernel
theorem dX3_become_12 : decode cX3_become 12 = .ok (.invokestatic 53, 3) := by decide +kernel
theorem dX3_become_15 : decode cX3_become 15 = .ok (.aload_n 1, 1) := by decide +kernel
theorem dX3_become_16 : decode cX3_become 16 = .ok (.getfield 15, 3) := by decide +kernel
theorem dX3_become_19 : decode cX3_become 19 = .ok (.iconst 0, 1) := by decide +kernel
theorem dX3_become_20 : decode cX3_become 20 = .ok (.aload_n 0, 1) := by decide +kernel
theorem dX3_become_21 : decode cX3_become 21 = .ok (.getfield 15, 3) := by decide +kernel
theorem dX3_become_24 : decode cX3_become 24 = .ok (.iconst 0, 1) := by decide +kernel
theorem dX3_become_25 : decode cX3_become 25 = .ok (.bipush 16, 2) := by decide +kernel
theorem dX3_become_27 : decode cX3_become 27 = .ok (.invokestatic 53, 3) := by decide +kernel
theorem dX3_become_30 : decode cX3_become 30 = .ok (.aload_n 1, 1) := by decide +kernel
theorem dX3_become_31 : decode cX3_become 31 = .ok (.getfield 18, 3) := by decide +kernel
theorem dX3_become_34 : decode cX3_become 34 = .ok (.iconst 0, 1) := by decide +kernel
theorem dX3_become_35 : decode cX3_become 35 = .ok (.aload_n 0, 1) := by decide +kernel
theorem dX3_become_36 : decode cX3_become 36 = .ok (.getfield 18, 3) := by decide +kernel
theorem dX3_become_39 : decode cX3_become 39 = .ok (.iconst 0, 1) := by decide +kernel
theorem dX3_become_40 : decode cX3_become 40 = .ok (.bipush 16, 2) := by decide +kernel
theorem dX3_become_42 : decode cX3_become 42 = .ok (.invokestatic 53, 3) := by decide +kernel
theorem dX3_become_45 : decode cX3_become 45 = .ok (.aload_n 0, 1) := by decide +kernel
theorem dX3_become_46 : decode cX3_become 46 = .ok (.aload_n 1, 1) := by decide +kernel
theorem dX3_become_47 : decode cX3_become 47 = .ok (.getfield 21, 3) := by decide +kernel
theorem dX3_become_50 : decode cX3_become 50 = .ok (.putfield 21, 3) := by decide +kernel
theorem dX3_become_53 : decode cX3_become 53 = .ok (.aload_n 1, 1) := by decide +kernel
theorem dX3_become_54 : decode cX3_become 54 = .ok (.getfield 25, 3) := by decide +kernel
theorem dX3_become_57 : decode cX3_become 57 = .ok (.iconst 0, 1) := by decide +kernel
theorem dX3_become_58 : decode cX3_become 58 = .ok (.aload_n 0, 1) := by decide +kernel
theorem dX3_become_59 : decode cX3_become 59 = .ok (.getfield 25, 3) := by decide +kernel
theorem dX3_become_62 : decode cX3_become 62 = .ok (.iconst 0, 1) := by decide +kernel
theorem dX3_become_63 : decode cX3_become 63 = .ok (.bipush 96, 2) := by decide +kernel
theorem dX3_become_65 : decode cX3_become 65 = .ok (.invokestatic 53, 3) := by decide +kernel
theorem dX3_become_68 : decode cX3_become 68 = .ok (.aload_n 1, 1) := by decide +kernel
theorem dX3_become_69 : decode cX3_become 69 = .ok (.getfield 28, 3) := by decide +kernel
theorem dX3_become_72 : decode cX3_become 72 = .ok (.iconst 0, 1) := by decide +kernel
theorem dX3_become_73 : decode cX3_become 73 = .ok (.aload_n 0, 1) := by decide +kernel
theorem dX3_become_74 : decode cX3_become 74 = .ok (.getfield 28, 3) := by decide +kernel
theorem dX3_become_77 : decode cX3_become 77 = .ok (.iconst 0, 1) := by decide +kernel
theorem dX3_become_78 : decode cX3_become 78 = .ok (.bipush 24, 2) := by decide +kernel
theorem dX3_become_80 : decode cX3_become 80 = .ok (.invokestatic 53, 3) := by decide +kernel
theorem dX3_become_83 : decode cX3_become 83 = .ok (.aload_n 0, 1) := by decide +kernel
theorem dX3_become_84 : decode cX3_become 84 = .ok (.aload_n 1, 1) := by decide +kernel
theorem dX3_become_85 : decode cX3_become 85 = .ok (.getfield 31, 3) := by decide +kernel
theorem dX3_become_88 : decode cX3_become 88 = .ok (.putfield 31, 3) := by decide +kernel
theorem dX3_become_91 : decode cX3_become 91 = .ok (.aload_n 1, 1) := by decide +kernel
theorem dX3_become_92 : decode cX3_become 92 = .ok (.getfield 34, 3) := by decide +kernel
theorem dX3_become_95 : decode cX3_become 95 = .ok (.iconst 0, 1) := by decide +kernel
theorem dX3_become_96 : decode cX3_become 96 = .ok (.aload_n 0, 1) := by decide +kernel
theorem dX3_become_97 : decode cX3_become 97 = .ok (.getfield 34, 3) := by decide +kernel
theorem dX3_become_100 : decode cX3_become 100 = .ok (.iconst 0, 1) := by decide +kernel
theorem dX3_become_101 : decode cX3_become 101 = .ok (.iconst 2, 1) := by decide +kernel
theorem dX3_become_102 : decode cX3_become 102 = .ok (.invokestatic 53, 3) := by decide +kernel
theorem dX3_become_105 : decode cX3_become 105 = .ok (.aload_n 1, 1) := by decide +kernel
theorem dX3_become_106 : decode cX3_become 106 = .ok (.getfield 37, 3) := by decide +kernel
theorem dX3_become_109 : decode cX3_become 109 = .ok (.iconst 0, 1) := by decide +kernel
theorem dX3_become_110 : decode cX3_become 110 = .ok (.aload_n 0, 1) := by decide +kernel
theorem dX3_become_111 : decode cX3_become 111 = .ok (.getfield 37, 3) := by decide +kernel
theorem dX3_become_114 : decode cX3_become 114 = .ok (.iconst 0, 1) := by decide +kernel
theorem dX3_become_115 : decode cX3_become 115 = .ok (.iconst 2, 1) := by decide +kernel
theorem dX3_become_116 : decode cX3_become 116 = .ok (.invokestatic 53, 3) := by decide +kernel
theorem dX3_become_119 : decode cX3_become 119 = .ok (.aload_n 1, 1) := by decide +kernel
theorem dX3_become_120 : decode cX3_become 120 = .ok (.getfield 40, 3) := by decide +kernel
theorem dX3_become_123 : decode cX3_become 123 = .ok (.iconst 0, 1) := by decide +kernel
theorem dX3_become_124 : decode cX3_become 124 = .ok (.aload_n 0, 1) := by decide +kernel
theorem dX3_become_125 : decode cX3_become 125 = .ok (.getfield 40, 3) := by decide +kernel
theorem dX3_become_128 : decode cX3_become 128 = .ok (.iconst 0, 1) := by decide +kernel
theorem dX3_become_129 : decode cX3_become 129 = .ok (.bipush 10, 2) := by decide +kernel
theorem dX3_become_131 : decode cX3_become 131 = .ok (.invokestatic 53, 3) := by decide +kernel
theorem dX3_become_134 : decode cX3_become 134 = .ok (.aload_n 0, 1) := by decide +kernel
theorem dX3_become_135 : decode cX3_become 135 = .ok (.getfield 46, 3) := by decide +kernel
theorem dX3_become_138 : decode cX3_become 138 = .ok (.aload_n 1, 1) := by decide +kernel
theorem dX3_become_139 : decode cX3_become 139 = .ok (.getfield 46, 3) := by decide +kernel
theorem dX3_become_142 : decode cX3_become 142 = .ok (.invokevirtual 59, 3) := by decide +kernel
theorem dX3_become_145 : decode cX3_become 145 = .ok (.aload_n 0, 1) := by decide +kernel
theorem dX3_become_146 : decode cX3_become 146 = .ok (.aload_n 1, 1) := by decide +kernel
theorem dX3_become_147 : decode cX3_become 147 = .ok (.getfield 50, 3) := by decide +kernel
theorem dX3_become_150 : decode cX3_become 150 = .ok (.putfield 50, 3) := by decide +kernel
theorem dX3_become_153 : decode cX3_become 153 = .ok (.return_, 1) := by decide +kernel
theorem dX3_feature_0 : decode cX3_feature 0 = .ok (.iload_n 1, 1) := by decide +kernel
theorem dX3_feature_1 : decode cX3_feature 1 = .ok (.ifCond .ne 8, 3) := by decide +kernel
theorem dX3_feature_4 : decode cX3_feature 4 = .ok (.aload_n 0, 1) := by decide +kernel
theorem dX3_feature_5 : decode cX3_feature 5 = .ok (.getfield 9, 3) := by decide +kernel
theorem dX3_feature_8 : decode cX3_feature 8 = .ok (.areturn, 1) := by decide +kernel
theorem dX3_feature_9 : decode cX3_feature 9 = .ok (.iload_n 1, 1) := by decide +kernel
theorem dX3_feature_10 : decode cX3_feature 10 = .ok (.iconst 1, 1) := by decide +kernel
theorem dX3_feature_11 : decode cX3_feature 11 = .ok (.if_icmp .ne 10, 3) := by decide +kernel
theorem dX3_feature_14 : decode cX3_feature 14 = .ok (.aload_n 0, 1) := by decide +kernel
theorem dX3_feature_15 : decode cX3_feature 15 = .ok (.getfield 15, 3) := by decide +kernel
theorem dX3_feature_18 : decode cX3_feature 18 = .ok (.goto 7, 3) := by decide +kernel
theorem dX3_feature_21 : decode cX3_feature 21 = .ok (.aload_n 0, 1) := by decide +kernel
theorem dX3_feature_22 : decode cX3_feature 22 = .ok (.getfield 18, 3) := by decide +kernel
theorem dX3_feature_25 : decode cX3_feature 25 = .ok (.areturn, 1) := by decide +kernel
theorem dX3_addWord_0 : decode cX3_addWord 0 = .ok (.aload_n 0, 1) := by decide +kernel
theorem dX3_addWord_1 : decode cX3_addWord 1 = .ok (.getfield 9, 3) := by decide +kernel
theorem dX3_addWord_4 : decode cX3_addWord 4 = .ok (.aload_n 0, 1) := by decide +kernel
theorem dX3_addWord_5 : decode cX3_addWord 5 = .ok (.getfield 21, 3) := by decide +kernel
theorem dX3_addWord_8 : decode cX3_addWord 8 = .ok (.iload_n 1, 1) := by decide +kernel
theorem dX3_addWord_9 : decode cX3_addWord 9 = .ok (.iastore, 1) := by decide +kernel
theorem dX3_addWord_10 : decode cX3_addWord 10 = .ok (.aload_n 0, 1) := by decide +kernel
theorem dX3_addWord_11 : decode cX3_addWord 11 = .ok (.getfield 15, 3) := by decide +kernel
theorem dX3_addWord_14 : decode cX3_addWord 14 = .ok (.aload_n 0, 1) := by decide +kernel
theorem dX3_addWord_15 : decode cX3_addWord 15 = .ok (.getfield 21, 3) := by decide +kernel
theorem dX3_addWord_18 : decode cX3_addWord 18 = .ok (.iload_n 2, 1) := by decide +kernel
theorem dX3_addWord_19 : decode cX3_addWord 19 = .ok (.iastore, 1) := by decide +kernel
theorem dX3_addWord_20 : decode cX3_addWord 20 = .ok (.aload_n 0, 1) := by decide +kernel
theorem dX3_addWord_21 : decode cX3_addWord 21 = .ok (.getfield 18, 3) := by decide +kernel
theorem dX3_addWord_24 : decode cX3_addWord 24 = .ok (.aload_n 0, 1) := by decide +kernel
theorem dX3_addWord_25 : decode cX3_addWord 25 = .ok (.getfield 21, 3) := by decide +kernel
theorem dX3_addWord_28 : decode cX3_addWord 28 = .ok (.iload_n 3, 1) := by decide +kernel
theorem dX3_addWord_29 : decode cX3_addWord 29 = .ok (.iastore, 1) := by decide +kernel
theorem dX3_addWord_30 : decode cX3_addWord 30 = .ok (.aload_n 0, 1) := by decide +kernel
theorem dX3_addWord_31 : decode cX3_addWord 31 = .ok (.dup, 1) := by decide +kernel
theorem dX3_addWord_32 : decode cX3_addWord 32 = .ok (.getfield 21, 3) := by decide +kernel
theorem dX3_addWord_35 : decode cX3_addWord 35 = .ok (.iconst 1, 1) := by decide +kernel
theorem dX3_addWord_36 : decode cX3_addWord 36 = .ok (.iadd, 1) := by decide +kernel
theorem dX3_addWord_37 : decode cX3_addWord 37 = .ok (.putfield 21, 3) := by decide +kernel
theorem dX3_addWord_40 : decode cX3_addWord 40 = .ok (.aload_n 0, 1) := by decide +kernel
theorem dX3_addWord_41 : decode cX3_addWord 41 = .ok (.getfield 21, 3) := by decide +kernel
theorem dX3_addWord_44 : decode cX3_addWord 44 = .ok (.iconst 1, 1) := by decide +kernel
theorem dX3_addWord_45 : decode cX3_addWord 45 = .ok (.isub, 1) := by decide +kernel
theorem dX3_addWord_46 : decode cX3_addWord 46 = .ok (.ireturn, 1) := by decide +kernel
theorem dX3_addTitle_0 : decode cX3_addTitle 0 = .ok (.aload_n 0, 1) := by decide +kernel
theorem dX3_addTitle_1 : decode cX3_addTitle 1 = .ok (.getfield 31, 3) := by decide +kernel
theorem dX3_addTitle_4 : decode cX3_addTitle 4 = .ok (.istore_n 2, 1) := by decide +kernel
theorem dX3_addTitle_5 : decode cX3_addTitle 5 = .ok (.aload_n 0, 1) := by decide +kernel
theorem dX3_addTitle_6 : decode cX3_addTitle 6 = .ok (.dup, 1) := by decide +kernel
theorem dX3_addTitle_7 : decode cX3_addTitle 7 = .ok (.getfield 31, 3) := by decide +kernel
theorem dX3_addTitle_10 : decode cX3_addTitle 10 = .ok (.iconst 1, 1) := by decide +kernel
theorem dX3_addTitle_11 : decode cX3_addTitle 11 = .ok (.iadd, 1) := by decide +kernel
theorem dX3_addTitle_12 : decode cX3_addTitle 12 = .ok (.putfield 31, 3) := by decide +kernel
theorem dX3_addTitle_15 : decode cX3_addTitle 15 = .ok (.aload_n 0, 1) := by decide +kernel
theorem dX3_addTitle_16 : decode cX3_addTitle 16 = .ok (.getfield 28, 3) := by decide +kernel
theorem dX3_addTitle_19 : decode cX3_addTitle 19 = .ok (.iload_n 2, 1) := by decide +kernel
theorem dX3_addTitle_20 : decode cX3_addTitle 20 = .ok (.iconst 0, 1) := by decide +kernel
theorem dX3_addTitle_21 : decode cX3_addTitle 21 = .ok (.iastore, 1) := by decide +kernel
theorem dX3_addTitle_22 : decode cX3_addTitle 22 = .ok (.aload_n 0, 1) := by decide +kernel
theorem dX3_addTitle_23 : decode cX3_addTitle 23 = .ok (.iload_n 2, 1) := by decide +kernel
theorem dX3_addTitle_24 : decode cX3_addTitle 24 = .ok (.iload_n 1, 1) := by decide +kernel
theorem dX3_addTitle_25 : decode cX3_addTitle 25 = .ok (.invokevirtual 63, 3) := by decide +kernel
theorem dX3_addTitle_28 : decode cX3_addTitle 28 = .ok (.pop, 1) := by decide +kernel
theorem dX3_addTitle_29 : decode cX3_addTitle 29 = .ok (.aload_n 0, 1) := by decide +kernel
theorem dX3_addTitle_30 : decode cX3_addTitle 30 = .ok (.iload_n 2, 1) := by decide +kernel
theorem dX3_addTitle_31 : decode cX3_addTitle 31 = .ok (.iconst 0, 1) := by decide +kernel
theorem dX3_addTitle_32 : decode cX3_addTitle 32 = .ok (.iconst 1, 1) := by decide +kernel
theorem dX3_addTitle_33 : decode cX3_addTitle 33 = .ok (.invokevirtual 67, 3) := by decide +kernel
theorem dX3_addTitle_36 : decode cX3_addTitle 36 = .ok (.aload_n 0, 1) := by decide +kernel
theorem dX3_addTitle_37 : decode cX3_addTitle 37 = .ok (.iload_n 2, 1) := by decide +kernel
theorem dX3_addTitle_38 : decode cX3_addTitle 38 = .ok (.iconst 1, 1) := by decide +kernel
theorem dX3_addTitle_39 : decode cX3_addTitle 39 = .ok (.iconst 1, 1) := by decide +kernel
theorem dX3_addTitle_40 : decode cX3_addTitle 40 = .ok (.invokevirtual 67, 3) := by decide +kernel
theorem dX3_addTitle_43 : decode cX3_addTitle 43 = .ok (.iload_n 2, 1) := by decide +kernel
theorem dX3_addTitle_44 : decode cX3_addTitle 44 = .ok (.ireturn, 1) := by decide +kernel
theorem dX3_lengthen_0 : decode cX3_lengthen 0 = .ok (.aload_n 0, 1) := by decide +kernel
theorem dX3_lengthen_1 : decode cX3_lengthen 1 = .ok (.getfield 25, 3) := by decide +kernel
theorem dX3_lengthen_4 : decode cX3_lengthen 4 = .ok (.iconst 4, 1) := by decide +kernel
theorem dX3_lengthen_5 : decode cX3_lengthen 5 = .ok (.iload_n 1, 1) := by decide +kernel
theorem dX3_lengthen_6 : decode cX3_lengthen 6 = .ok (.imul, 1) := by decide +kernel
theorem dX3_lengthen_7 : decode cX3_lengthen 7 = .ok (.aload_n 0, 1) := by decide +kernel
theorem dX3_lengthen_8 : decode cX3_lengthen 8 = .ok (.getfield 28, 3) := by decide +kernel
theorem dX3_lengthen_11 : decode cX3_lengthen 11 = .ok (.iload_n 1, 1) := by decide +kernel
theorem dX3_lengthen_12 : decode cX3_lengthen 12 = .ok (.iaload, 1) := by decide +kernel
theorem dX3_lengthen_13 : decode cX3_lengthen 13 = .ok (.iadd, 1) := by decide +kernel
theorem dX3_lengthen_14 : decode cX3_lengthen 14 = .ok (.iload_n 2, 1) := by decide +kernel
theorem dX3_lengthen_15 : decode cX3_lengthen 15 = .ok (.iastore, 1) := by decide +kernel
theorem dX3_lengthen_16 : decode cX3_lengthen 16 = .ok (.aload_n 0, 1) := by decide +kernel
theorem dX3_lengthen_17 : decode cX3_lengthen 17 = .ok (.getfield 28, 3) := by decide +kernel
theorem dX3_lengthen_20 : decode cX3_lengthen 20 = .ok (.iload_n 1, 1) := by decide +kernel
theorem dX3_lengthen_21 : decode cX3_lengthen 21 = .ok (.dup2, 1) := by decide +kernel
theorem dX3_lengthen_22 : decode cX3_lengthen 22 = .ok (.iaload, 1) := by decide +kernel
theorem dX3_lengthen_23 : decode cX3_lengthen 23 = .ok (.iconst 1, 1) := by decide +kernel
theorem dX3_lengthen_24 : decode cX3_lengthen 24 = .ok (.iadd, 1) := by decide +kernel
theorem dX3_lengthen_25 : decode cX3_lengthen 25 = .ok (.iastore, 1) := by decide +kernel
theorem dX3_lengthen_26 : decode cX3_lengthen 26 = .ok (.aload_n 0, 1) := by decide +kernel
theorem dX3_lengthen_27 : decode cX3_lengthen 27 = .ok (.getfield 28, 3) := by decide +kernel
theorem dX3_lengthen_30 : decode cX3_lengthen 30 = .ok (.iload_n 1, 1) := by decide +kernel
theorem dX3_lengthen_31 : decode cX3_lengthen 31 = .ok (.iaload, 1) := by decide +kernel
theorem dX3_lengthen_32 : decode cX3_lengthen 32 = .ok (.ireturn, 1) := by decide +kernel
theorem dX3_setKnown_0 : decode cX3_setKnown 0 = .ok (.iconst 1, 1) := by decide +kernel
theorem dX3_setKnown_1 : decode cX3_setKnown 1 = .ok (.iload_n 1, 1) := by decide +kernel
theorem dX3_setKnown_2 : decode cX3_setKnown 2 = .ok (.ishl, 1) := by decide +kernel
theorem dX3_setKnown_3 : decode cX3_setKnown 3 = .ok (.istore 4, 2) := by decide +kernel
theorem dX3_setKnown_5 : decode cX3_setKnown 5 = .ok (.aload_n 0, 1) := by decide +kernel
theorem dX3_setKnown_6 : decode cX3_setKnown 6 = .ok (.getfield 34, 3) := by decide +kernel
theorem dX3_setKnown_9 : decode cX3_setKnown 9 = .ok (.iload_n 2, 1) := by decide +kernel
theorem dX3_setKnown_10 : decode cX3_setKnown 10 = .ok (.iload_n 3, 1) := by decide +kernel
theorem dX3_setKnown_11 : decode cX3_setKnown 11 = .ok (.ifCond .eq 15, 3) := by decide +kernel
theorem dX3_setKnown_14 : decode cX3_setKnown 14 = .ok (.aload_n 0, 1) := by decide +kernel
theorem dX3_setKnown_15 : decode cX3_setKnown 15 = .ok (.getfield 34, 3) := by decide +kernel
theorem dX3_setKnown_18 : decode cX3_setKnown 18 = .ok (.iload_n 2, 1) := by decide +kernel
theorem dX3_setKnown_19 : decode cX3_setKnown 19 = .ok (.iaload, 1) := by decide +kernel
theorem dX3_setKnown_20 : decode cX3_setKnown 20 = .ok (.iload 4, 2) := by decide +kernel
theorem dX3_setKnown_22 : decode cX3_setKnown 22 = .ok (.ior, 1) := by decide +kernel
theorem dX3_setKnown_23 : decode cX3_setKnown 23 = .ok (.goto 14, 3) := by decide +kernel
theorem dX3_setKnown_26 : decode cX3_setKnown 26 = .ok (.aload_n 0, 1) := by decide +kernel
theorem dX3_setKnown_27 : decode cX3_setKnown 27 = .ok (.getfield 34, 3) := by decide +kernel
theorem dX3_setKnown_30 : decode cX3_setKnown 30 = .ok (.iload_n 2, 1) := by decide +kernel
theorem dX3_setKnown_31 : decode cX3_setKnown 31 = .ok (.iaload, 1) := by decide +kernel
theorem dX3_setKnown_32 : decode cX3_setKnown 32 = .ok (.iload 4, 2) := by decide +kernel
theorem dX3_setKnown_34 : decode cX3_setKnown 34 = .ok (.iconst (-1), 1) := by decide +kernel
theorem dX3_setKnown_35 : decode cX3_setKnown 35 = .ok (.ixor, 1) := by decide +kernel
theorem dX3_setKnown_36 : decode cX3_setKnown 36 = .ok (.iand, 1) := by decide +kernel
theorem dX3_setKnown_37 : decode cX3_setKnown 37 = .ok (.iastore, 1) := by decide +kernel
theorem dX3_setKnown_38 : decode cX3_setKnown 38 = .ok (.return_, 1) := by decide +kernel
theorem dX3_wordAt_0 : decode cX3_wordAt 0 = .ok (.aload_n 0, 1) := by decide +kernel
theorem dX3_wordAt_1 : decode cX3_wordAt 1 = .ok (.getfield 25, 3) := by decide +kernel
theorem dX3_wordAt_4 : decode cX3_wordAt 4 = .ok (.iconst 4, 1) := by decide +kernel
theorem dX3_wordAt_5 : decode cX3_wordAt 5 = .ok (.iload_n 1, 1) := by decide +kernel
theorem dX3_wordAt_6 : decode cX3_wordAt 6 = .ok (.imul, 1) := by decide +kernel
theorem dX3_wordAt_7 : decode cX3_wordAt 7 = .ok (.iload_n 2, 1) := by decide +kernel
theorem dX3_wordAt_8 : decode cX3_wordAt 8 = .ok (.iadd, 1) := by decide +kernel
theorem dX3_wordAt_9 : decode cX3_wordAt 9 = .ok (.iaload, 1) := by decide +kernel
theorem dX3_wordAt_10 : decode cX3_wordAt 10 = .ok (.ireturn, 1) := by decide +kernel
theorem dX3_titlesWith_0 : decode cX3_titlesWith 0 = .ok (.iconst 0, 1) := by decide +kernel
theorem dX3_titlesWith_1 : decode cX3_titlesWith 1 = .ok (.istore_n 2, 1) := by decide +kernel
theorem dX3_titlesWith_2 : decode cX3_titlesWith 2 = .ok (.iconst 0, 1) := by decide +kernel
theorem dX3_titlesWith_3 : decode cX3_titlesWith 3 = .ok (.istore_n 3, 1) := by decide +kernel
theorem dX3_titlesWith_4 : decode cX3_titlesWith 4 = .ok (.iload_n 3, 1) := by decide +kernel
theorem dX3_titlesWith_5 : decode cX3_titlesWith 5 = .ok (.aload_n 0, 1) := by decide +kernel
theorem dX3_titlesWith_6 : decode cX3_titlesWith 6 = .ok (.getfield 31, 3) := by decide +kernel
theorem dX3_titlesWith_9 : decode cX3_titlesWith 9 = .ok (.if_icmp .ge 26, 3) := by decide +kernel
theorem dX3_titlesWith_12 : decode cX3_titlesWith 12 = .ok (.iload_n 2, 1) := by decide +kernel
theorem dX3_titlesWith_13 : decode cX3_titlesWith 13 = .ok (.aload_n 0, 1) := by decide +kernel
theorem dX3_titlesWith_14 : decode cX3_titlesWith 14 = .ok (.iload_n 3, 1) := by decide +kernel
theorem dX3_titlesWith_15 : decode cX3_titlesWith 15 = .ok (.iload_n 1, 1) := by decide +kernel
theorem dX3_titlesWith_16 : decode cX3_titlesWith 16 = .ok (.invokevirtual 71, 3) := by decide +kernel
theorem dX3_titlesWith_19 : decode cX3_titlesWith 19 = .ok (.ifCond .eq 7, 3) := by decide +kernel
theorem dX3_titlesWith_22 : decode cX3_titlesWith 22 = .ok (.iconst 1, 1) := by decide +kernel
theorem dX3_titlesWith_23 : decode cX3_titlesWith 23 = .ok (.goto 4, 3) := by decide +kernel
theorem dX3_titlesWith_26 : decode cX3_titlesWith 26 = .ok (.iconst 0, 1) := by decide +kernel
theorem dX3_titlesWith_27 : decode cX3_titlesWith 27 = .ok (.iadd, 1) := by decide +kernel
theorem dX3_titlesWith_28 : decode cX3_titlesWith 28 = .ok (.istore_n 2, 1) := by decide +kernel
theorem dX3_titlesWith_29 : decode cX3_titlesWith 29 = .ok (.iinc 3 1, 3) := by decide +kernel
theorem dX3_titlesWith_32 : decode cX3_titlesWith 32 = .ok (.goto (-28), 3) := by decide +kernel
theorem dX3_titlesWith_35 : decode cX3_titlesWith 35 = .ok (.iload_n 2, 1) := by decide +kernel
theorem dX3_titlesWith_36 : decode cX3_titlesWith 36 = .ok (.ireturn, 1) := by decide +kernel
theorem dX3_hasWord_0 : decode cX3_hasWord 0 = .ok (.iconst 0, 1) := by decide +kernel
theorem dX3_hasWord_1 : decode cX3_hasWord 1 = .ok (.istore_n 3, 1) := by decide +kernel
theorem dX3_hasWord_2 : decode cX3_hasWord 2 = .ok (.iload_n 3, 1) := by decide +kernel
theorem dX3_hasWord_3 : decode cX3_hasWord 3 = .ok (.aload_n 0, 1) := by decide +kernel
theorem dX3_hasWord_4 : decode cX3_hasWord 4 = .ok (.getfield 28, 3) := by decide +kernel
theorem dX3_hasWord_7 : decode cX3_hasWord 7 = .ok (.iload_n 1, 1) := by decide +kernel
theorem dX3_hasWord_8 : decode cX3_hasWord 8 = .ok (.iaload, 1) := by decide +kernel
theorem dX3_hasWord_9 : decode cX3_hasWord 9 = .ok (.if_icmp .ge 21, 3) := by decide +kernel
theorem dX3_hasWord_12 : decode cX3_hasWord 12 = .ok (.aload_n 0, 1) := by decide +kernel
theorem dX3_hasWord_13 : decode cX3_hasWord 13 = .ok (.iload_n 1, 1) := by decide +kernel
theorem dX3_hasWord_14 : decode cX3_hasWord 14 = .ok (.iload_n 3, 1) := by decide +kernel
theorem dX3_hasWord_15 : decode cX3_hasWord 15 = .ok (.invokevirtual 75, 3) := by decide +kernel
theorem dX3_hasWord_18 : decode cX3_hasWord 18 = .ok (.iload_n 2, 1) := by decide +kernel
theorem dX3_hasWord_19 : decode cX3_hasWord 19 = .ok (.if_icmp .ne 5, 3) := by decide +kernel
theorem dX3_hasWord_22 : decode cX3_hasWord 22 = .ok (.iconst 1, 1) := by decide +kernel
theorem dX3_hasWord_23 : decode cX3_hasWord 23 = .ok (.ireturn, 1) := by decide +kernel
theorem dX3_hasWord_24 : decode cX3_hasWord 24 = .ok (.iinc 3 1, 3) := by decide +kernel
theorem dX3_hasWord_27 : decode cX3_hasWord 27 = .ok (.goto (-25), 3) := by decide +kernel
theorem dX3_hasWord_30 : decode cX3_hasWord 30 = .ok (.iconst 0, 1) := by decide +kernel
theorem dX3_hasWord_31 : decode cX3_hasWord 31 = .ok (.ireturn, 1) := by decide +kernel
theorem dX3_allTitles_0 : decode cX3_allTitles 0 = .ok (.iconst 1, 1) := by decide +kernel
theorem dX3_allTitles_1 : decode cX3_allTitles 1 = .ok (.aload_n 0, 1) := by decide +kernel
theorem dX3_allTitles_2 : decode cX3_allTitles 2 = .ok (.getfield 31, 3) := by decide +kernel
theorem dX3_allTitles_5 : decode cX3_allTitles 5 = .ok (.ishl, 1) := by decide +kernel
theorem dX3_allTitles_6 : decode cX3_allTitles 6 = .ok (.iconst 1, 1) := by decide +kernel
theorem dX3_allTitles_7 : decode cX3_allTitles 7 = .ok (.isub, 1) := by decide +kernel
theorem dX3_allTitles_8 : decode cX3_allTitles 8 = .ok (.ireturn, 1) := by decide +kernel
theorem dX3_allSyllables_0 : decode cX3_allSyllables 0 = .ok (.iconst 0, 1) := by decide +kernel
theorem dX3_allSyllables_1 : decode cX3_allSyllables 1 = .ok (.istore_n 1, 1) := by decide +kernel
theorem dX3_allSyllables_2 : decode cX3_allSyllables 2 = .ok (.iconst 0, 1) := by decide +kernel
theorem dX3_allSyllables_3 : decode cX3_allSyllables 3 = .ok (.istore_n 2, 1) := by decide +kernel
theorem dX3_allSyllables_4 : decode cX3_allSyllables 4 = .ok (.iload_n 2, 1) := by decide +kernel
theorem dX3_allSyllables_5 : decode cX3_allSyllables 5 = .ok (.aload_n 0, 1) := by decide +kernel
theorem dX3_allSyllables_6 : decode cX3_allSyllables 6 = .ok (.getfield 21, 3) := by decide +kernel
theorem dX3_allSyllables_9 : decode cX3_allSyllables 9 = .ok (.if_icmp .ge 18, 3) := by decide +kernel
theorem dX3_allSyllables_12 : decode cX3_allSyllables 12 = .ok (.iload_n 1, 1) := by decide +kernel
theorem dX3_allSyllables_13 : decode cX3_allSyllables 13 = .ok (.aload_n 0, 1) := by decide +kernel
theorem dX3_allSyllables_14 : decode cX3_allSyllables 14 = .ok (.getfield 9, 3) := by decide +kernel
theorem dX3_allSyllables_17 : decode cX3_allSyllables 17 = .ok (.iload_n 2, 1) := by decide +kernel
theorem dX3_allSyllables_18 : decode cX3_allSyllables 18 = .ok (.iaload, 1) := by decide +kernel
theorem dX3_allSyllables_19 : decode cX3_allSyllables 19 = .ok (.iadd, 1) := by decide +kernel
theorem dX3_allSyllables_20 : decode cX3_allSyllables 20 = .ok (.istore_n 1, 1) := by decide +kernel
theorem dX3_allSyllables_21 : decode cX3_allSyllables 21 = .ok (.iinc 2 1, 3) := by decide +kernel
theorem dX3_allSyllables_24 : decode cX3_allSyllables 24 = .ok (.goto (-20), 3) := by decide +kernel
theorem dX3_allSyllables_27 : decode cX3_allSyllables 27 = .ok (.iload_n 1, 1) := by decide +kernel
theorem dX3_allSyllables_28 : decode cX3_allSyllables 28 = .ok (.ireturn, 1) := by decide +kernel
theorem dX3_heldSpots_0 : decode cX3_heldSpots 0 = .ok (.iconst 0, 1) := by decide +kernel
theorem dX3_heldSpots_1 : decode cX3_heldSpots 1 = .ok (.istore_n 1, 1) := by decide +kernel
theorem dX3_heldSpots_2 : decode cX3_heldSpots 2 = .ok (.iconst 0, 1) := by decide +kernel
theorem dX3_heldSpots_3 : decode cX3_heldSpots 3 = .ok (.istore_n 2, 1) := by decide +kernel
theorem dX3_heldSpots_4 : decode cX3_heldSpots 4 = .ok (.iload_n 2, 1) := by decide +kernel
theorem dX3_heldSpots_5 : decode cX3_heldSpots 5 = .ok (.bipush 10, 2) := by decide +kernel
theorem dX3_heldSpots_7 : decode cX3_heldSpots 7 = .ok (.if_icmp .ge 26, 3) := by decide +kernel
theorem dX3_heldSpots_10 : decode cX3_heldSpots 10 = .ok (.iload_n 1, 1) := by decide +kernel
theorem dX3_heldSpots_11 : decode cX3_heldSpots 11 = .ok (.aload_n 0, 1) := by decide +kernel
theorem dX3_heldSpots_12 : decode cX3_heldSpots 12 = .ok (.getfield 40, 3) := by decide +kernel
theorem dX3_heldSpots_15 : decode cX3_heldSpots 15 = .ok (.iload_n 2, 1) := by decide +kernel
theorem dX3_heldSpots_16 : decode cX3_heldSpots 16 = .ok (.iaload, 1) := by decide +kernel
theorem dX3_heldSpots_17 : decode cX3_heldSpots 17 = .ok (.ifCond .le 7, 3) := by decide +kernel
theorem dX3_heldSpots_20 : decode cX3_heldSpots 20 = .ok (.iconst 1, 1) := by decide +kernel
theorem dX3_heldSpots_21 : decode cX3_heldSpots 21 = .ok (.goto 4, 3) := by decide +kernel
theorem dX3_heldSpots_24 : decode cX3_heldSpots 24 = .ok (.iconst 0, 1) := by decide +kernel
theorem dX3_heldSpots_25 : decode cX3_heldSpots 25 = .ok (.iadd, 1) := by decide +kernel
theorem dX3_heldSpots_26 : decode cX3_heldSpots 26 = .ok (.istore_n 1, 1) := by decide +kernel
theorem dX3_heldSpots_27 : decode cX3_heldSpots 27 = .ok (.iinc 2 1, 3) := by decide +kernel
theorem dX3_heldSpots_30 : decode cX3_heldSpots 30 = .ok (.goto (-26), 3) := by decide +kernel
theorem dX3_heldSpots_33 : decode cX3_heldSpots 33 = .ok (.iload_n 1, 1) := by decide +kernel
theorem dX3_heldSpots_34 : decode cX3_heldSpots 34 = .ok (.ireturn, 1) := by decide +kernel
theorem dX3_told_0 : decode cX3_told 0 = .ok (.iload_n 1, 1) := by decide +kernel
theorem dX3_told_1 : decode cX3_told 1 = .ok (.ifCond .ne 10, 3) := by decide +kernel
theorem dX3_told_4 : decode cX3_told 4 = .ok (.aload_n 0, 1) := by decide +kernel
theorem dX3_told_5 : decode cX3_told 5 = .ok (.getfield 28, 3) := by decide +kernel
theorem dX3_told_8 : decode cX3_told 8 = .ok (.iload_n 3, 1) := by decide +kernel
theorem dX3_told_9 : decode cX3_told 9 = .ok (.iaload, 1) := by decide +kernel
theorem dX3_told_10 : decode cX3_told 10 = .ok (.ireturn, 1) := by decide +kernel
theorem dX3_told_11 : decode cX3_told 11 = .ok (.iload_n 2, 1) := by decide +kernel
theorem dX3_told_12 : decode cX3_told 12 = .ok (.aload_n 0, 1) := by decide +kernel
theorem dX3_told_13 : decode cX3_told 13 = .ok (.getfield 28, 3) := by decide +kernel
theorem dX3_told_16 : decode cX3_told 16 = .ok (.iload_n 3, 1) := by decide +kernel
theorem dX3_told_17 : decode cX3_told 17 = .ok (.iaload, 1) := by decide +kernel
theorem dX3_told_18 : decode cX3_told 18 = .ok (.if_icmp .lt 5, 3) := by decide +kernel
theorem dX3_told_21 : decode cX3_told 21 = .ok (.iconst 0, 1) := by decide +kernel
theorem dX3_told_22 : decode cX3_told 22 = .ok (.ireturn, 1) := by decide +kernel
theorem dX3_told_23 : decode cX3_told 23 = .ok (.aload_n 0, 1) := by decide +kernel
theorem dX3_told_24 : decode cX3_told 24 = .ok (.iload_n 3, 1) := by decide +kernel
theorem dX3_told_25 : decode cX3_told 25 = .ok (.iload_n 2, 1) := by decide +kernel
theorem dX3_told_26 : decode cX3_told 26 = .ok (.invokevirtual 75, 3) := by decide +kernel
theorem dX3_told_29 : decode cX3_told 29 = .ok (.istore 4, 2) := by decide +kernel
theorem dX3_told_31 : decode cX3_told 31 = .ok (.iload_n 1, 1) := by decide +kernel
theorem dX3_told_32 : decode cX3_told 32 = .ok (.tableswitch 102 1 5 #[36, 63, 44, 73, 85], 36) := by decide +kernel
theorem dX3_told_68 : decode cX3_told 68 = .ok (.aload_n 0, 1) := by decide +kernel
theorem dX3_told_69 : decode cX3_told 69 = .ok (.getfield 9, 3) := by decide +kernel
theorem dX3_told_72 : decode cX3_told 72 = .ok (.iload 4, 2) := by decide +kernel
theorem dX3_told_74 : decode cX3_told 74 = .ok (.iaload, 1) := by decide +kernel
theorem dX3_told_75 : decode cX3_told 75 = .ok (.ireturn, 1) := by decide +kernel
theorem dX3_told_76 : decode cX3_told 76 = .ok (.aload_n 0, 1) := by decide +kernel
theorem dX3_told_77 : decode cX3_told 77 = .ok (.getfield 9, 3) := by decide +kernel
theorem dX3_told_80 : decode cX3_told 80 = .ok (.iload 4, 2) := by decide +kernel
theorem dX3_told_82 : decode cX3_told 82 = .ok (.iaload, 1) := by decide +kernel
theorem dX3_told_83 : decode cX3_told 83 = .ok (.bipush 10, 2) := by decide +kernel
theorem dX3_told_85 : decode cX3_told 85 = .ok (.aload_n 0, 1) := by decide +kernel
theorem dX3_told_86 : decode cX3_told 86 = .ok (.getfield 18, 3) := by decide +kernel
theorem dX3_told_89 : decode cX3_told 89 = .ok (.iload 4, 2) := by decide +kernel
theorem dX3_told_91 : decode cX3_told 91 = .ok (.iaload, 1) := by decide +kernel
theorem dX3_told_92 : decode cX3_told 92 = .ok (.imul, 1) := by decide +kernel
theorem dX3_told_93 : decode cX3_told 93 = .ok (.iadd, 1) := by decide +kernel
theorem dX3_told_94 : decode cX3_told 94 = .ok (.ireturn, 1) := by decide +kernel
theorem dX3_told_95 : decode cX3_told 95 = .ok (.aload_n 0, 1) := by decide +kernel
theorem dX3_told_96 : decode cX3_told 96 = .ok (.getfield 15, 3) := by decide +kernel
theorem dX3_told_99 : decode cX3_told 99 = .ok (.iload 4, 2) := by decide +kernel
theorem dX3_told_101 : decode cX3_told 101 = .ok (.iaload, 1) := by decide +kernel
theorem dX3_told_102 : decode cX3_told 102 = .ok (.iconst 1, 1) := by decide +kernel
theorem dX3_told_103 : decode cX3_told 103 = .ok (.iadd, 1) := by decide +kernel
theorem dX3_told_104 : decode cX3_told 104 = .ok (.ireturn, 1) := by decide +kernel
theorem dX3_told_105 : decode cX3_told 105 = .ok (.aload_n 0, 1) := by decide +kernel
theorem dX3_told_106 : decode cX3_told 106 = .ok (.getfield 15, 3) := by decide +kernel
theorem dX3_told_109 : decode cX3_told 109 = .ok (.iload 4, 2) := by decide +kernel
theorem dX3_told_111 : decode cX3_told 111 = .ok (.iaload, 1) := by decide +kernel
theorem dX3_told_112 : decode cX3_told 112 = .ok (.iconst 1, 1) := by decide +kernel
theorem dX3_told_113 : decode cX3_told 113 = .ok (.iadd, 1) := by decide +kernel
theorem dX3_told_114 : decode cX3_told 114 = .ok (.iconst 3, 1) := by decide +kernel
theorem dX3_told_115 : decode cX3_told 115 = .ok (.idiv, 1) := by decide +kernel
theorem dX3_told_116 : decode cX3_told 116 = .ok (.ireturn, 1) := by decide +kernel
theorem dX3_told_117 : decode cX3_told 117 = .ok (.aload_n 0, 1) := by decide +kernel
theorem dX3_told_118 : decode cX3_told 118 = .ok (.getfield 9, 3) := by decide +kernel
theorem dX3_told_121 : decode cX3_told 121 = .ok (.iload 4, 2) := by decide +kernel
theorem dX3_told_123 : decode cX3_told 123 = .ok (.iaload, 1) := by decide +kernel
theorem dX3_told_124 : decode cX3_told 124 = .ok (.iconst 1, 1) := by decide +kernel
theorem dX3_told_125 : decode cX3_told 125 = .ok (.if_icmp .ne 7, 3) := by decide +kernel
theorem dX3_told_128 : decode cX3_told 128 = .ok (.iconst 1, 1) := by decide +kernel
theorem dX3_told_129 : decode cX3_told 129 = .ok (.goto 4, 3) := by decide +kernel
theorem dX3_told_132 : decode cX3_told 132 = .ok (.iconst 0, 1) := by decide +kernel
theorem dX3_told_133 : decode cX3_told 133 = .ok (.ireturn, 1) := by decide +kernel
theorem dX3_told_134 : decode cX3_told 134 = .ok (.iload 4, 2) := by decide +kernel
theorem dX3_told_136 : decode cX3_told 136 = .ok (.iconst 1, 1) := by decide +kernel
theorem dX3_told_137 : decode cX3_told 137 = .ok (.iadd, 1) := by decide +kernel
theorem dX3_told_138 : decode cX3_told 138 = .ok (.ireturn, 1) := by decide +kernel
theorem dX3_titlesTold_0 : decode cX3_titlesTold 0 = .ok (.iconst 0, 1) := by decide +kernel
theorem dX3_titlesTold_1 : decode cX3_titlesTold 1 = .ok (.istore_n 3, 1) := by decide +kernel
theorem dX3_titlesTold_2 : decode cX3_titlesTold 2 = .ok (.iconst 0, 1) := by decide +kernel
theorem dX3_titlesTold_3 : decode cX3_titlesTold 3 = .ok (.istore 4, 2) := by decide +kernel
theorem dX3_titlesTold_5 : decode cX3_titlesTold 5 = .ok (.iload 4, 2) := by decide +kernel
theorem dX3_titlesTold_7 : decode cX3_titlesTold 7 = .ok (.aload_n 0, 1) := by decide +kernel
theorem dX3_titlesTold_8 : decode cX3_titlesTold 8 = .ok (.getfield 31, 3) := by decide +kernel
theorem dX3_titlesTold_11 : decode cX3_titlesTold 11 = .ok (.if_icmp .ge 34, 3) := by decide +kernel
theorem dX3_titlesTold_14 : decode cX3_titlesTold 14 = .ok (.aload_n 0, 1) := by decide +kernel
theorem dX3_titlesTold_15 : decode cX3_titlesTold 15 = .ok (.iload_n 1, 1) := by decide +kernel
theorem dX3_titlesTold_16 : decode cX3_titlesTold 16 = .ok (.invokestatic 78, 3) := by decide +kernel
theorem dX3_titlesTold_19 : decode cX3_titlesTold 19 = .ok (.iload_n 1, 1) := by decide +kernel
theorem dX3_titlesTold_20 : decode cX3_titlesTold 20 = .ok (.invokestatic 82, 3) := by decide +kernel
theorem dX3_titlesTold_23 : decode cX3_titlesTold 23 = .ok (.iload 4, 2) := by decide +kernel
theorem dX3_titlesTold_25 : decode cX3_titlesTold 25 = .ok (.invokevirtual 85, 3) := by decide +kernel
theorem dX3_titlesTold_28 : decode cX3_titlesTold 28 = .ok (.iload_n 2, 1) := by decide +kernel
theorem dX3_titlesTold_29 : decode cX3_titlesTold 29 = .ok (.if_icmp .ne 10, 3) := by decide +kernel
theorem dX3_titlesTold_32 : decode cX3_titlesTold 32 = .ok (.iload_n 3, 1) := by decide +kernel
theorem dX3_titlesTold_33 : decode cX3_titlesTold 33 = .ok (.iconst 1, 1) := by decide +kernel
theorem dX3_titlesTold_34 : decode cX3_titlesTold 34 = .ok (.iload 4, 2) := by decide +kernel
theorem dX3_titlesTold_36 : decode cX3_titlesTold 36 = .ok (.ishl, 1) := by decide +kernel
theorem dX3_titlesTold_37 : decode cX3_titlesTold 37 = .ok (.ior, 1) := by decide +kernel
theorem dX3_titlesTold_38 : decode cX3_titlesTold 38 = .ok (.istore_n 3, 1) := by decide +kernel
theorem dX3_titlesTold_39 : decode cX3_titlesTold 39 = .ok (.iinc 4 1, 3) := by decide +kernel
theorem dX3_titlesTold_42 : decode cX3_titlesTold 42 = .ok (.goto (-37), 3) := by decide +kernel
theorem dX3_titlesTold_45 : decode cX3_titlesTold 45 = .ok (.iload_n 3, 1) := by decide +kernel
theorem dX3_titlesTold_46 : decode cX3_titlesTold 46 = .ok (.ireturn, 1) := by decide +kernel
theorem dX3_drawTitle_0 : decode cX3_drawTitle 0 = .ok (.aload_n 0, 1) := by decide +kernel
theorem dX3_drawTitle_1 : decode cX3_drawTitle 1 = .ok (.aload_n 0, 1) := by decide +kernel
theorem dX3_drawTitle_2 : decode cX3_drawTitle 2 = .ok (.getfield 50, 3) := by decide +kernel
theorem dX3_drawTitle_5 : decode cX3_drawTitle 5 = .ok (.ldc 89, 2) := by decide +kernel
theorem dX3_drawTitle_7 : decode cX3_drawTitle 7 = .ok (.imul, 1) := by decide +kernel
theorem dX3_drawTitle_8 : decode cX3_drawTitle 8 = .ok (.sipush 12345, 3) := by decide +kernel
theorem dX3_drawTitle_11 : decode cX3_drawTitle 11 = .ok (.iadd, 1) := by decide +kernel
theorem dX3_drawTitle_12 : decode cX3_drawTitle 12 = .ok (.putfield 50, 3) := by decide +kernel
theorem dX3_drawTitle_15 : decode cX3_drawTitle 15 = .ok (.aload_n 0, 1) := by decide +kernel
theorem dX3_drawTitle_16 : decode cX3_drawTitle 16 = .ok (.getfield 34, 3) := by decide +kernel
theorem dX3_drawTitle_19 : decode cX3_drawTitle 19 = .ok (.iload_n 1, 1) := by decide +kernel
theorem dX3_drawTitle_20 : decode cX3_drawTitle 20 = .ok (.iaload, 1) := by decide +kernel
theorem dX3_drawTitle_21 : decode cX3_drawTitle 21 = .ok (.invokestatic 90, 3) := by decide +kernel
theorem dX3_drawTitle_24 : decode cX3_drawTitle 24 = .ok (.istore_n 2, 1) := by decide +kernel
theorem dX3_drawTitle_25 : decode cX3_drawTitle 25 = .ok (.iload_n 2, 1) := by decide +kernel
theorem dX3_drawTitle_26 : decode cX3_drawTitle 26 = .ok (.ifCond .le 15, 3) := by decide +kernel
theorem dX3_drawTitle_29 : decode cX3_drawTitle 29 = .ok (.aload_n 0, 1) := by decide +kernel
theorem dX3_drawTitle_30 : decode cX3_drawTitle 30 = .ok (.getfield 50, 3) := by decide +kernel
theorem dX3_drawTitle_33 : decode cX3_drawTitle 33 = .ok (.bipush 8, 2) := by decide +kernel
theorem dX3_drawTitle_35 : decode cX3_drawTitle 35 = .ok (.iushr, 1) := by decide +kernel
theorem dX3_drawTitle_36 : decode cX3_drawTitle 36 = .ok (.iload_n 2, 1) := by decide +kernel
theorem dX3_drawTitle_37 : decode cX3_drawTitle 37 = .ok (.irem, 1) := by decide +kernel
theorem dX3_drawTitle_38 : decode cX3_drawTitle 38 = .ok (.goto 4, 3) := by decide +kernel
theorem dX3_drawTitle_41 : decode cX3_drawTitle 41 = .ok (.iconst 0, 1) := by decide +kernel
theorem dX3_drawTitle_42 : decode cX3_drawTitle 42 = .ok (.istore_n 3, 1) := by decide +kernel
theorem dX3_drawTitle_43 : decode cX3_drawTitle 43 = .ok (.iconst 0, 1) := by decide +kernel
theorem dX3_drawTitle_44 : decode cX3_drawTitle 44 = .ok (.istore 4, 2) := by decide +kernel
theorem dX3_drawTitle_46 : decode cX3_drawTitle 46 = .ok (.iload 4, 2) := by decide +kernel
theorem dX3_drawTitle_48 : decode cX3_drawTitle 48 = .ok (.aload_n 0, 1) := by decide +kernel
theorem dX3_drawTitle_49 : decode cX3_drawTitle 49 = .ok (.getfield 31, 3) := by decide +kernel
theorem dX3_drawTitle_52 : decode cX3_drawTitle 52 = .ok (.if_icmp .ge 33, 3) := by decide +kernel
theorem dX3_drawTitle_55 : decode cX3_drawTitle 55 = .ok (.aload_n 0, 1) := by decide +kernel
theorem dX3_drawTitle_56 : decode cX3_drawTitle 56 = .ok (.getfield 34, 3) := by decide +kernel
theorem dX3_drawTitle_59 : decode cX3_drawTitle 59 = .ok (.iload_n 1, 1) := by decide +kernel
theorem dX3_drawTitle_60 : decode cX3_drawTitle 60 = .ok (.iaload, 1) := by decide +kernel
theorem dX3_drawTitle_61 : decode cX3_drawTitle 61 = .ok (.iload 4, 2) := by decide +kernel
theorem dX3_drawTitle_63 : decode cX3_drawTitle 63 = .ok (.iushr, 1) := by decide +kernel
theorem dX3_drawTitle_64 : decode cX3_drawTitle 64 = .ok (.iconst 1, 1) := by decide +kernel
theorem dX3_drawTitle_65 : decode cX3_drawTitle 65 = .ok (.iand, 1) := by decide +kernel
theorem dX3_drawTitle_66 : decode cX3_drawTitle 66 = .ok (.ifCond .eq 13, 3) := by decide +kernel
theorem dX3_drawTitle_69 : decode cX3_drawTitle 69 = .ok (.iload_n 3, 1) := by decide +kernel
theorem dX3_drawTitle_70 : decode cX3_drawTitle 70 = .ok (.ifCond .ne 6, 3) := by decide +kernel
theorem dX3_drawTitle_73 : decode cX3_drawTitle 73 = .ok (.iload 4, 2) := by decide +kernel
theorem dX3_drawTitle_75 : decode cX3_drawTitle 75 = .ok (.ireturn, 1) := by decide +kernel
theorem dX3_drawTitle_76 : decode cX3_drawTitle 76 = .ok (.iinc 3 (-1), 3) := by decide +kernel
theorem dX3_drawTitle_79 : decode cX3_drawTitle 79 = .ok (.iinc 4 1, 3) := by decide +kernel
theorem dX3_drawTitle_82 : decode cX3_drawTitle 82 = .ok (.goto (-36), 3) := by decide +kernel
theorem dX3_drawTitle_85 : decode cX3_drawTitle 85 = .ok (.iconst 0, 1) := by decide +kernel
theorem dX3_drawTitle_86 : decode cX3_drawTitle 86 = .ok (.ireturn, 1) := by decide +kernel
theorem dX4_init_0 : decode cX4_init 0 = .ok (.aload_n 0, 1) := by decide +kernel
theorem dX4_init_1 : decode cX4_init 1 = .ok (.invokespecial 3, 3) := by decide +kernel
theorem dX4_init_4 : decode cX4_init 4 = .ok (.aload_n 0, 1) := by decide +kernel
theorem dX4_init_5 : decode cX4_init 5 = .ok (.bipush 120, 2) := by decide +kernel
theorem dX4_init_7 : decode cX4_init 7 = .ok (.newarray .int, 2) := by decide +kernel
theorem dX4_init_9 : decode cX4_init 9 = .ok (.putfield 9, 3) := by decide +kernel
theorem dX4_init_12 : decode cX4_init 12 = .ok (.aload_n 0, 1) := by decide +kernel
theorem dX4_init_13 : decode cX4_init 13 = .ok (.iconst 0, 1) := by decide +kernel
theorem dX4_init_14 : decode cX4_init 14 = .ok (.putfield 15, 3) := by decide +kernel
theorem dX4_init_17 : decode cX4_init 17 = .ok (.aload_n 0, 1) := by decide +kernel
theorem dX4_init_18 : decode cX4_init 18 = .ok (.iconst 0, 1) := by decide +kernel
theorem dX4_init_19 : decode cX4_init 19 = .ok (.putfield 19, 3) := by decide +kernel
theorem dX4_init_22 : decode cX4_init 22 = .ok (.aload_n 0, 1) := by decide +kernel
theorem dX4_init_23 : decode cX4_init 23 = .ok (.iconst 0, 1) := by decide +kernel
theorem dX4_init_24 : decode cX4_init 24 = .ok (.putfield 22, 3) := by decide +kernel
theorem dX4_init_27 : decode cX4_init 27 = .ok (.aload_n 0, 1) := by decide +kernel
theorem dX4_init_28 : decode cX4_init 28 = .ok (.iconst 0, 1) := by decide +kernel
theorem dX4_init_29 : decode cX4_init 29 = .ok (.putfield 25, 3) := by decide +kernel
theorem dX4_init_32 : decode cX4_init 32 = .ok (.aload_n 0, 1) := by decide +kernel
theorem dX4_init_33 : decode cX4_init 33 = .ok (.iconst 0, 1) := by decide +kernel
theorem dX4_init_34 : decode cX4_init 34 = .ok (.putfield 28, 3) := by decide +kernel
theorem dX4_init_37 : decode cX4_init 37 = .ok (.return_, 1) := by decide +kernel
theorem dX4_add_0 : decode cX4_add 0 = .ok (.aload_n 0, 1) := by decide +kernel
theorem dX4_add_1 : decode cX4_add 1 = .ok (.getfield 15, 3) := by decide +kernel
theorem dX4_add_4 : decode cX4_add 4 = .ok (.bipush 120, 2) := by decide +kernel
theorem dX4_add_6 : decode cX4_add 6 = .ok (.if_icmp .ge 23, 3) := by decide +kernel
theorem dX4_add_9 : decode cX4_add 9 = .ok (.aload_n 0, 1) := by decide +kernel
theorem dX4_add_10 : decode cX4_add 10 = .ok (.getfield 9, 3) := by decide +kernel
theorem dX4_add_13 : decode cX4_add 13 = .ok (.aload_n 0, 1) := by decide +kernel
theorem dX4_add_14 : decode cX4_add 14 = .ok (.getfield 15, 3) := by decide +kernel
theorem dX4_add_17 : decode cX4_add 17 = .ok (.iload_n 1, 1) := by decide +kernel
theorem dX4_add_18 : decode cX4_add 18 = .ok (.iastore, 1) := by decide +kernel
theorem dX4_add_19 : decode cX4_add 19 = .ok (.aload_n 0, 1) := by decide +kernel
theorem dX4_add_20 : decode cX4_add 20 = .ok (.dup, 1) := by decide +kernel
theorem dX4_add_21 : decode cX4_add 21 = .ok (.getfield 15, 3) := by decide +kernel
theorem dX4_add_24 : decode cX4_add 24 = .ok (.iconst 1, 1) := by decide +kernel
theorem dX4_add_25 : decode cX4_add 25 = .ok (.iadd, 1) := by decide +kernel
theorem dX4_add_26 : decode cX4_add 26 = .ok (.putfield 15, 3) := by decide +kernel
theorem dX4_add_29 : decode cX4_add 29 = .ok (.return_, 1) := by decide +kernel
theorem dX4_read_0 : decode cX4_read 0 = .ok (.aload_n 0, 1) := by decide +kernel
theorem dX4_read_1 : decode cX4_read 1 = .ok (.iconst 0, 1) := by decide +kernel
theorem dX4_read_2 : decode cX4_read 2 = .ok (.putfield 25, 3) := by decide +kernel
theorem dX4_read_5 : decode cX4_read 5 = .ok (.aload_n 0, 1) := by decide +kernel
theorem dX4_read_6 : decode cX4_read 6 = .ok (.invokevirtual 31, 3) := by decide +kernel
theorem dX4_read_9 : decode cX4_read 9 = .ok (.iconst 1, 1) := by decide +kernel
theorem dX4_read_10 : decode cX4_read 10 = .ok (.istore_n 2, 1) := by decide +kernel
theorem dX4_read_11 : decode cX4_read 11 = .ok (.iload_n 2, 1) := by decide +kernel
theorem dX4_read_12 : decode cX4_read 12 = .ok (.bipush 120, 2) := by decide +kernel
theorem dX4_read_14 : decode cX4_read 14 = .ok (.if_icmp .gt 52, 3) := by decide +kernel
theorem dX4_read_17 : decode cX4_read 17 = .ok (.aload_n 0, 1) := by decide +kernel
theorem dX4_read_18 : decode cX4_read 18 = .ok (.aload_n 1, 1) := by decide +kernel
theorem dX4_read_19 : decode cX4_read 19 = .ok (.invokevirtual 34, 3) := by decide +kernel
theorem dX4_read_22 : decode cX4_read 22 = .ok (.ifCond .ne 10, 3) := by decide +kernel
theorem dX4_read_25 : decode cX4_read 25 = .ok (.iconst (-1), 1) := by decide +kernel
theorem dX4_read_26 : decode cX4_read 26 = .ok (.aload_n 0, 1) := by decide +kernel
theorem dX4_read_27 : decode cX4_read 27 = .ok (.getfield 22, 3) := by decide +kernel
theorem dX4_read_30 : decode cX4_read 30 = .ok (.isub, 1) := by decide +kernel
theorem dX4_read_31 : decode cX4_read 31 = .ok (.ireturn, 1) := by decide +kernel
theorem dX4_read_32 : decode cX4_read 32 = .ok (.aload_n 0, 1) := by decide +kernel
theorem dX4_read_33 : decode cX4_read 33 = .ok (.getfield 19, 3) := by decide +kernel
theorem dX4_read_36 : decode cX4_read 36 = .ok (.ifCond .ne 5, 3) := by decide +kernel
theorem dX4_read_39 : decode cX4_read 39 = .ok (.iload_n 2, 1) := by decide +kernel
theorem dX4_read_40 : decode cX4_read 40 = .ok (.ireturn, 1) := by decide +kernel
theorem dX4_read_41 : decode cX4_read 41 = .ok (.aload_n 0, 1) := by decide +kernel
theorem dX4_read_42 : decode cX4_read 42 = .ok (.getfield 19, 3) := by decide +kernel
theorem dX4_read_45 : decode cX4_read 45 = .ok (.iconst 2, 1) := by decide +kernel
theorem dX4_read_46 : decode cX4_read 46 = .ok (.if_icmp .eq 10, 3) := by decide +kernel
theorem dX4_read_49 : decode cX4_read 49 = .ok (.iconst (-1), 1) := by decide +kernel
theorem dX4_read_50 : decode cX4_read 50 = .ok (.aload_n 0, 1) := by decide +kernel
theorem dX4_read_51 : decode cX4_read 51 = .ok (.getfield 22, 3) := by decide +kernel
theorem dX4_read_54 : decode cX4_read 54 = .ok (.isub, 1) := by decide +kernel
theorem dX4_read_55 : decode cX4_read 55 = .ok (.ireturn, 1) := by decide +kernel
theorem dX4_read_56 : decode cX4_read 56 = .ok (.aload_n 0, 1) := by decide +kernel
theorem dX4_read_57 : decode cX4_read 57 = .ok (.invokevirtual 31, 3) := by decide +kernel
theorem dX4_read_60 : decode cX4_read 60 = .ok (.iinc 2 1, 3) := by decide +kernel
theorem dX4_read_63 : decode cX4_read 63 = .ok (.goto (-52), 3) := by decide +kernel
theorem dX4_read_66 : decode cX4_read 66 = .ok (.iconst (-1), 1) := by decide +kernel
theorem dX4_read_67 : decode cX4_read 67 = .ok (.aload_n 0, 1) := by decide +kernel
theorem dX4_read_68 : decode cX4_read 68 = .ok (.getfield 22, 3) := by decide +kernel
theorem dX4_read_71 : decode cX4_read 71 = .ok (.isub, 1) := by decide +kernel
theorem dX4_read_72 : decode cX4_read 72 = .ok (.ireturn, 1) := by decide +kernel
theorem dX4_step_0 : decode cX4_step 0 = .ok (.aload_n 0, 1) := by decide +kernel
theorem dX4_step_1 : decode cX4_step 1 = .ok (.getfield 25, 3) := by decide +kernel
theorem dX4_step_4 : decode cX4_step 4 = .ok (.aload_n 0, 1) := by decide +kernel
theorem dX4_step_5 : decode cX4_step 5 = .ok (.getfield 15, 3) := by decide +kernel
theorem dX4_step_8 : decode cX4_step 8 = .ok (.if_icmp .ge 30, 3) := by decide +kernel
theorem dX4_step_11 : decode cX4_step 11 = .ok (.aload_n 0, 1) := by decide +kernel
theorem dX4_step_12 : decode cX4_step 12 = .ok (.getfield 9, 3) := by decide +kernel
theorem dX4_step_15 : decode cX4_step 15 = .ok (.aload_n 0, 1) := by decide +kernel
theorem dX4_step_16 : decode cX4_step 16 = .ok (.getfield 25, 3) := by decide +kernel
theorem dX4_step_19 : decode cX4_step 19 = .ok (.iaload, 1) := by decide +kernel
theorem dX4_step_20 : decode cX4_step 20 = .ok (.bipush 32, 2) := by decide +kernel
theorem dX4_step_22 : decode cX4_step 22 = .ok (.if_icmp .ne 16, 3) := by decide +kernel
theorem dX4_step_25 : decode cX4_step 25 = .ok (.aload_n 0, 1) := by decide +kernel
theorem dX4_step_26 : decode cX4_step 26 = .ok (.dup, 1) := by decide +kernel
theorem dX4_step_27 : decode cX4_step 27 = .ok (.getfield 25, 3) := by decide +kernel
theorem dX4_step_30 : decode cX4_step 30 = .ok (.iconst 1, 1) := by decide +kernel
theorem dX4_step_31 : decode cX4_step 31 = .ok (.iadd, 1) := by decide +kernel
theorem dX4_step_32 : decode cX4_step 32 = .ok (.putfield 25, 3) := by decide +kernel
theorem dX4_step_35 : decode cX4_step 35 = .ok (.goto (-35), 3) := by decide +kernel
theorem dX4_step_38 : decode cX4_step 38 = .ok (.aload_n 0, 1) := by decide +kernel
theorem dX4_step_39 : decode cX4_step 39 = .ok (.aload_n 0, 1) := by decide +kernel
theorem dX4_step_40 : decode cX4_step 40 = .ok (.getfield 25, 3) := by decide +kernel
theorem dX4_step_43 : decode cX4_step 43 = .ok (.putfield 22, 3) := by decide +kernel
theorem dX4_step_46 : decode cX4_step 46 = .ok (.aload_n 0, 1) := by decide +kernel
theorem dX4_step_47 : decode cX4_step 47 = .ok (.getfield 25, 3) := by decide +kernel
theorem dX4_step_50 : decode cX4_step 50 = .ok (.aload_n 0, 1) := by decide +kernel
theorem dX4_step_51 : decode cX4_step 51 = .ok (.getfield 15, 3) := by decide +kernel
theorem dX4_step_54 : decode cX4_step 54 = .ok (.if_icmp .lt 9, 3) := by decide +kernel
theorem dX4_step_57 : decode cX4_step 57 = .ok (.aload_n 0, 1) := by decide +kernel
theorem dX4_step_58 : decode cX4_step 58 = .ok (.iconst 0, 1) := by decide +kernel
theorem dX4_step_59 : decode cX4_step 59 = .ok (.putfield 19, 3) := by decide +kernel
theorem dX4_step_62 : decode cX4_step 62 = .ok (.return_, 1) := by decide +kernel
theorem dX4_step_63 : decode cX4_step 63 = .ok (.aload_n 0, 1) := by decide +kernel
theorem dX4_step_64 : decode cX4_step 64 = .ok (.getfield 9, 3) := by decide +kernel
theorem dX4_step_67 : decode cX4_step 67 = .ok (.aload_n 0, 1) := by decide +kernel
theorem dX4_step_68 : decode cX4_step 68 = .ok (.getfield 25, 3) := by decide +kernel
theorem dX4_step_71 : decode cX4_step 71 = .ok (.iaload, 1) := by decide +kernel
theorem dX4_step_72 : decode cX4_step 72 = .ok (.invokestatic 38, 3) := by decide +kernel
theorem dX4_step_75 : decode cX4_step 75 = .ok (.ifCond .eq 47, 3) := by decide +kernel
theorem dX4_step_78 : decode cX4_step 78 = .ok (.aload_n 0, 1) := by decide +kernel
theorem dX4_step_79 : decode cX4_step 79 = .ok (.iconst 3, 1) := by decide +kernel
theorem dX4_step_80 : decode cX4_step 80 = .ok (.putfield 19, 3) := by decide +kernel
theorem dX4_step_83 : decode cX4_step 83 = .ok (.aload_n 0, 1) := by decide +kernel
theorem dX4_step_84 : decode cX4_step 84 = .ok (.getfield 25, 3) := by decide +kernel
theorem dX4_step_87 : decode cX4_step 87 = .ok (.aload_n 0, 1) := by decide +kernel
theorem dX4_step_88 : decode cX4_step 88 = .ok (.getfield 15, 3) := by decide +kernel
theorem dX4_step_91 : decode cX4_step 91 = .ok (.if_icmp .ge 158, 3) := by decide +kernel
theorem dX4_step_94 : decode cX4_step 94 = .ok (.aload_n 0, 1) := by decide +kernel
theorem dX4_step_95 : decode cX4_step 95 = .ok (.getfield 9, 3) := by decide +kernel
theorem dX4_step_98 : decode cX4_step 98 = .ok (.aload_n 0, 1) := by decide +kernel
theorem dX4_step_99 : decode cX4_step 99 = .ok (.getfield 25, 3) := by decide +kernel
theorem dX4_step_102 : decode cX4_step 102 = .ok (.iaload, 1) := by decide +kernel
theorem dX4_step_103 : decode cX4_step 103 = .ok (.invokestatic 38, 3) := by decide +kernel
theorem dX4_step_106 : decode cX4_step 106 = .ok (.ifCond .eq 143, 3) := by decide +kernel
theorem dX4_step_109 : decode cX4_step 109 = .ok (.aload_n 0, 1) := by decide +kernel
theorem dX4_step_110 : decode cX4_step 110 = .ok (.dup, 1) := by decide +kernel
theorem dX4_step_111 : decode cX4_step 111 = .ok (.getfield 25, 3) := by decide +kernel
theorem dX4_step_114 : decode cX4_step 114 = .ok (.iconst 1, 1) := by decide +kernel
theorem dX4_step_115 : decode cX4_step 115 = .ok (.iadd, 1) := by decide +kernel
theorem dX4_step_116 : decode cX4_step 116 = .ok (.putfield 25, 3) := by decide +kernel
theorem dX4_step_119 : decode cX4_step 119 = .ok (.goto (-36), 3) := by decide +kernel
theorem dX4_step_122 : decode cX4_step 122 = .ok (.aload_n 0, 1) := by decide +kernel
theorem dX4_step_123 : decode cX4_step 123 = .ok (.getfield 9, 3) := by decide +kernel
theorem dX4_step_126 : decode cX4_step 126 = .ok (.aload_n 0, 1) := by decide +kernel
theorem dX4_step_127 : decode cX4_step 127 = .ok (.getfield 25, 3) := by decide +kernel
theorem dX4_step_130 : decode cX4_step 130 = .ok (.iaload, 1) := by decide +kernel
theorem dX4_step_131 : decode cX4_step 131 = .ok (.invokestatic 42, 3) := by decide +kernel
theorem dX4_step_134 : decode cX4_step 134 = .ok (.ifCond .eq 82, 3) := by decide +kernel
theorem dX4_step_137 : decode cX4_step 137 = .ok (.aload_n 0, 1) := by decide +kernel
theorem dX4_step_138 : decode cX4_step 138 = .ok (.iconst 1, 1) := by decide +kernel
theorem dX4_step_139 : decode cX4_step 139 = .ok (.putfield 19, 3) := by decide +kernel
theorem dX4_step_142 : decode cX4_step 142 = .ok (.aload_n 0, 1) := by decide +kernel
theorem dX4_step_143 : decode cX4_step 143 = .ok (.iconst 0, 1) := by decide +kernel
theorem dX4_step_144 : decode cX4_step 144 = .ok (.putfield 28, 3) := by decide +kernel
theorem dX4_step_147 : decode cX4_step 147 = .ok (.aload_n 0, 1) := by decide +kernel
theorem dX4_step_148 : decode cX4_step 148 = .ok (.getfield 25, 3) := by decide +kernel
theorem dX4_step_151 : decode cX4_step 151 = .ok (.aload_n 0, 1) := by decide +kernel
theorem dX4_step_152 : decode cX4_step 152 = .ok (.getfield 15, 3) := by decide +kernel
theorem dX4_step_155 : decode cX4_step 155 = .ok (.if_icmp .ge 94, 3) := by decide +kernel
theorem dX4_step_158 : decode cX4_step 158 = .ok (.aload_n 0, 1) := by decide +kernel
theorem dX4_step_159 : decode cX4_step 159 = .ok (.getfield 9, 3) := by decide +kernel
theorem dX4_step_162 : decode cX4_step 162 = .ok (.aload_n 0, 1) := by decide +kernel
theorem dX4_step_163 : decode cX4_step 163 = .ok (.getfield 25, 3) := by decide +kernel
theorem dX4_step_166 : decode cX4_step 166 = .ok (.iaload, 1) := by decide +kernel
theorem dX4_step_167 : decode cX4_step 167 = .ok (.invokestatic 42, 3) := by decide +kernel
theorem dX4_step_170 : decode cX4_step 170 = .ok (.ifCond .eq 79, 3) := by decide +kernel
theorem dX4_step_173 : decode cX4_step 173 = .ok (.aload_n 0, 1) := by decide +kernel
theorem dX4_step_174 : decode cX4_step 174 = .ok (.sipush 1000, 3) := by decide +kernel
theorem dX4_step_177 : decode cX4_step 177 = .ok (.bipush 10, 2) := by decide +kernel
theorem dX4_step_179 : decode cX4_step 179 = .ok (.aload_n 0, 1) := by decide +kernel
theorem dX4_step_180 : decode cX4_step 180 = .ok (.getfield 28, 3) := by decide +kernel
theorem dX4_step_183 : decode cX4_step 183 = .ok (.imul, 1) := by decide +kernel
theorem dX4_step_184 : decode cX4_step 184 = .ok (.aload_n 0, 1) := by decide +kernel
theorem dX4_step_185 : decode cX4_step 185 = .ok (.getfield 9, 3) := by decide +kernel
theorem dX4_step_188 : decode cX4_step 188 = .ok (.aload_n 0, 1) := by decide +kernel
theorem dX4_step_189 : decode cX4_step 189 = .ok (.getfield 25, 3) := by decide +kernel
theorem dX4_step_192 : decode cX4_step 192 = .ok (.iaload, 1) := by decide +kernel
theorem dX4_step_193 : decode cX4_step 193 = .ok (.iadd, 1) := by decide +kernel
theorem dX4_step_194 : decode cX4_step 194 = .ok (.bipush 48, 2) := by decide +kernel
theorem dX4_step_196 : decode cX4_step 196 = .ok (.isub, 1) := by decide +kernel
theorem dX4_step_197 : decode cX4_step 197 = .ok (.invokestatic 45, 3) := by decide +kernel
theorem dX4_step_200 : decode cX4_step 200 = .ok (.putfield 28, 3) := by decide +kernel
theorem dX4_step_203 : decode cX4_step 203 = .ok (.aload_n 0, 1) := by decide +kernel
theorem dX4_step_204 : decode cX4_step 204 = .ok (.dup, 1) := by decide +kernel
theorem dX4_step_205 : decode cX4_step 205 = .ok (.getfield 25, 3) := by decide +kernel
theorem dX4_step_208 : decode cX4_step 208 = .ok (.iconst 1, 1) := by decide +kernel
theorem dX4_step_209 : decode cX4_step 209 = .ok (.iadd, 1) := by decide +kernel
theorem dX4_step_210 : decode cX4_step 210 = .ok (.putfield 25, 3) := by decide +kernel
theorem dX4_step_213 : decode cX4_step 213 = .ok (.goto (-66), 3) := by decide +kernel
theorem dX4_step_216 : decode cX4_step 216 = .ok (.aload_n 0, 1) := by decide +kernel
theorem dX4_step_217 : decode cX4_step 217 = .ok (.aload_n 0, 1) := by decide +kernel
theorem dX4_step_218 : decode cX4_step 218 = .ok (.getfield 9, 3) := by decide +kernel
theorem dX4_step_221 : decode cX4_step 221 = .ok (.aload_n 0, 1) := by decide +kernel
theorem dX4_step_222 : decode cX4_step 222 = .ok (.getfield 25, 3) := by decide +kernel
theorem dX4_step_225 : decode cX4_step 225 = .ok (.iaload, 1) := by decide +kernel
theorem dX4_step_226 : decode cX4_step 226 = .ok (.bipush 59, 2) := by decide +kernel
theorem dX4_step_228 : decode cX4_step 228 = .ok (.if_icmp .ne 7, 3) := by decide +kernel
theorem dX4_step_231 : decode cX4_step 231 = .ok (.iconst 2, 1) := by decide +kernel
theorem dX4_step_232 : decode cX4_step 232 = .ok (.goto 4, 3) := by decide +kernel
theorem dX4_step_235 : decode cX4_step 235 = .ok (.iconst 4, 1) := by decide +kernel
theorem dX4_step_236 : decode cX4_step 236 = .ok (.putfield 19, 3) := by decide +kernel
theorem dX4_step_239 : decode cX4_step 239 = .ok (.aload_n 0, 1) := by decide +kernel
theorem dX4_step_240 : decode cX4_step 240 = .ok (.dup, 1) := by decide +kernel
theorem dX4_step_241 : decode cX4_step 241 = .ok (.getfield 25, 3) := by decide +kernel
theorem dX4_step_244 : decode cX4_step 244 = .ok (.iconst 1, 1) := by decide +kernel
theorem dX4_step_245 : decode cX4_step 245 = .ok (.iadd, 1) := by decide +kernel
theorem dX4_step_246 : decode cX4_step 246 = .ok (.putfield 25, 3) := by decide +kernel
theorem dX4_step_249 : decode cX4_step 249 = .ok (.return_, 1) := by decide +kernel
theorem dX4_isLetter_0 : decode cX4_isLetter 0 = .ok (.iload_n 0, 1) := by decide +kernel
theorem dX4_isLetter_1 : decode cX4_isLetter 1 = .ok (.bipush 97, 2) := by decide +kernel
theorem dX4_isLetter_3 : decode cX4_isLetter 3 = .ok (.if_icmp .lt 13, 3) := by decide +kernel
theorem dX4_isLetter_6 : decode cX4_isLetter 6 = .ok (.iload_n 0, 1) := by decide +kernel
theorem dX4_isLetter_7 : decode cX4_isLetter 7 = .ok (.bipush 122, 2) := by decide +kernel
theorem dX4_isLetter_9 : decode cX4_isLetter 9 = .ok (.if_icmp .gt 7, 3) := by decide +kernel
theorem dX4_isLetter_12 : decode cX4_isLetter 12 = .ok (.iconst 1, 1) := by decide +kernel
theorem dX4_isLetter_13 : decode cX4_isLetter 13 = .ok (.goto 4, 3) := by decide +kernel
theorem dX4_isLetter_16 : decode cX4_isLetter 16 = .ok (.iconst 0, 1) := by decide +kernel
theorem dX4_isLetter_17 : decode cX4_isLetter 17 = .ok (.ireturn, 1) := by decide +kernel
theorem dX4_isDigit_0 : decode cX4_isDigit 0 = .ok (.iload_n 0, 1) := by decide +kernel
theorem dX4_isDigit_1 : decode cX4_isDigit 1 = .ok (.bipush 48, 2) := by decide +kernel
theorem dX4_isDigit_3 : decode cX4_isDigit 3 = .ok (.if_icmp .lt 13, 3) := by decide +kernel
theorem dX4_isDigit_6 : decode cX4_isDigit 6 = .ok (.iload_n 0, 1) := by decide +kernel
theorem dX4_isDigit_7 : decode cX4_isDigit 7 = .ok (.bipush 57, 2) := by decide +kernel
theorem dX4_isDigit_9 : decode cX4_isDigit 9 = .ok (.if_icmp .gt 7, 3) := by decide +kernel
theorem dX4_isDigit_12 : decode cX4_isDigit 12 = .ok (.iconst 1, 1) := by decide +kernel
theorem dX4_isDigit_13 : decode cX4_isDigit 13 = .ok (.goto 4, 3) := by decide +kernel
theorem dX4_isDigit_16 : decode cX4_isDigit 16 = .ok (.iconst 0, 1) := by decide +kernel
theorem dX4_isDigit_17 : decode cX4_isDigit 17 = .ok (.ireturn, 1) := by decide +kernel
theorem dX4_isName_0 : decode cX4_isName 0 = .ok (.aload_n 0, 1) := by decide +kernel
theorem dX4_isName_1 : decode cX4_isName 1 = .ok (.getfield 19, 3) := by decide +kernel
theorem dX4_isName_4 : decode cX4_isName 4 = .ok (.iconst 3, 1) := by decide +kernel
theorem dX4_isName_5 : decode cX4_isName 5 = .ok (.if_icmp .ne 19, 3) := by decide +kernel
theorem dX4_isName_8 : decode cX4_isName 8 = .ok (.aload_n 0, 1) := by decide +kernel
theorem dX4_isName_9 : decode cX4_isName 9 = .ok (.getfield 25, 3) := by decide +kernel
theorem dX4_isName_12 : decode cX4_isName 12 = .ok (.aload_n 0, 1) := by decide +kernel
theorem dX4_isName_13 : decode cX4_isName 13 = .ok (.getfield 22, 3) := by decide +kernel
theorem dX4_isName_16 : decode cX4_isName 16 = .ok (.isub, 1) := by decide +kernel
theorem dX4_isName_17 : decode cX4_isName 17 = .ok (.aload_n 1, 1) := by decide +kernel
theorem dX4_isName_18 : decode cX4_isName 18 = .ok (.invokevirtual 51, 3) := by decide +kernel
theorem dX4_isName_21 : decode cX4_isName 21 = .ok (.if_icmp .eq 5, 3) := by decide +kernel
theorem dX4_isName_24 : decode cX4_isName 24 = .ok (.iconst 0, 1) := by decide +kernel
theorem dX4_isName_25 : decode cX4_isName 25 = .ok (.ireturn, 1) := by decide +kernel
theorem dX4_isName_26 : decode cX4_isName 26 = .ok (.iconst 0, 1) := by decide +kernel
theorem dX4_isName_27 : decode cX4_isName 27 = .ok (.istore_n 2, 1) := by decide +kernel
theorem dX4_isName_28 : decode cX4_isName 28 = .ok (.iload_n 2, 1) := by decide +kernel
theorem dX4_isName_29 : decode cX4_isName 29 = .ok (.aload_n 1, 1) := by decide +kernel
theorem dX4_isName_30 : decode cX4_isName 30 = .ok (.invokevirtual 51, 3) := by decide +kernel
theorem dX4_isName_33 : decode cX4_isName 33 = .ok (.if_icmp .ge 30, 3) := by decide +kernel
theorem dX4_isName_36 : decode cX4_isName 36 = .ok (.aload_n 0, 1) := by decide +kernel
theorem dX4_isName_37 : decode cX4_isName 37 = .ok (.getfield 9, 3) := by decide +kernel
theorem dX4_isName_40 : decode cX4_isName 40 = .ok (.aload_n 0, 1) := by decide +kernel
theorem dX4_isName_41 : decode cX4_isName 41 = .ok (.getfield 22, 3) := by decide +kernel
theorem dX4_isName_44 : decode cX4_isName 44 = .ok (.iload_n 2, 1) := by decide +kernel
theorem dX4_isName_45 : decode cX4_isName 45 = .ok (.iadd, 1) := by decide +kernel
theorem dX4_isName_46 : decode cX4_isName 46 = .ok (.iaload, 1) := by decide +kernel
theorem dX4_isName_47 : decode cX4_isName 47 = .ok (.aload_n 1, 1) := by decide +kernel
theorem dX4_isName_48 : decode cX4_isName 48 = .ok (.iload_n 2, 1) := by decide +kernel
theorem dX4_isName_49 : decode cX4_isName 49 = .ok (.invokevirtual 57, 3) := by decide +kernel
theorem dX4_isName_52 : decode cX4_isName 52 = .ok (.if_icmp .eq 5, 3) := by decide +kernel
theorem dX4_isName_55 : decode cX4_isName 55 = .ok (.iconst 0, 1) := by decide +kernel
theorem dX4_isName_56 : decode cX4_isName 56 = .ok (.ireturn, 1) := by decide +kernel
theorem dX4_isName_57 : decode cX4_isName 57 = .ok (.iinc 2 1, 3) := by decide +kernel
theorem dX4_isName_60 : decode cX4_isName 60 = .ok (.goto (-32), 3) := by decide +kernel
theorem dX4_isName_63 : decode cX4_isName 63 = .ok (.iconst 1, 1) := by decide +kernel
theorem dX4_isName_64 : decode cX4_isName 64 = .ok (.ireturn, 1) := by decide +kernel
theorem dX4_isNumber_0 : decode cX4_isNumber 0 = .ok (.aload_n 0, 1) := by decide +kernel
theorem dX4_isNumber_1 : decode cX4_isNumber 1 = .ok (.getfield 19, 3) := by decide +kernel
theorem dX4_isNumber_4 : decode cX4_isNumber 4 = .ok (.iconst 1, 1) := by decide +kernel
theorem dX4_isNumber_5 : decode cX4_isNumber 5 = .ok (.if_icmp .ne 23, 3) := by decide +kernel
theorem dX4_isNumber_8 : decode cX4_isNumber 8 = .ok (.aload_n 0, 1) := by decide +kernel
theorem dX4_isNumber_9 : decode cX4_isNumber 9 = .ok (.getfield 28, 3) := by decide +kernel
theorem dX4_isNumber_12 : decode cX4_isNumber 12 = .ok (.iload_n 1, 1) := by decide +kernel
theorem dX4_isNumber_13 : decode cX4_isNumber 13 = .ok (.if_icmp .lt 15, 3) := by decide +kernel
theorem dX4_isNumber_16 : decode cX4_isNumber 16 = .ok (.aload_n 0, 1) := by decide +kernel
theorem dX4_isNumber_17 : decode cX4_isNumber 17 = .ok (.getfield 28, 3) := by decide +kernel
theorem dX4_isNumber_20 : decode cX4_isNumber 20 = .ok (.iload_n 2, 1) := by decide +kernel
theorem dX4_isNumber_21 : decode cX4_isNumber 21 = .ok (.if_icmp .gt 7, 3) := by decide +kernel
theorem dX4_isNumber_24 : decode cX4_isNumber 24 = .ok (.iconst 1, 1) := by decide +kernel
theorem dX4_isNumber_25 : decode cX4_isNumber 25 = .ok (.goto 4, 3) := by decide +kernel
theorem dX4_isNumber_28 : decode cX4_isNumber 28 = .ok (.iconst 0, 1) := by decide +kernel
theorem dX4_isNumber_29 : decode cX4_isNumber 29 = .ok (.ireturn, 1) := by decide +kernel
theorem dX4_readItem_0 : decode cX4_readItem 0 = .ok (.aload_n 0, 1) := by decide +kernel
theorem dX4_readItem_1 : decode cX4_readItem 1 = .ok (.ldc 61, 2) := by decide +kernel
theorem dX4_readItem_3 : decode cX4_readItem 3 = .ok (.invokevirtual 63, 3) := by decide +kernel
theorem dX4_readItem_6 : decode cX4_readItem 6 = .ok (.ifCond .eq 9, 3) := by decide +kernel
theorem dX4_readItem_9 : decode cX4_readItem 9 = .ok (.aload_n 0, 1) := by decide +kernel
theorem dX4_readItem_10 : decode cX4_readItem 10 = .ok (.aload_n 1, 1) := by decide +kernel
theorem dX4_readItem_11 : decode cX4_readItem 11 = .ok (.invokevirtual 67, 3) := by decide +kernel
theorem dX4_readItem_14 : decode cX4_readItem 14 = .ok (.ireturn, 1) := by decide +kernel
theorem dX4_readItem_15 : decode cX4_readItem 15 = .ok (.aload_n 0, 1) := by decide +kernel
theorem dX4_readItem_16 : decode cX4_readItem 16 = .ok (.ldc 70, 2) := by decide +kernel
theorem dX4_readItem_18 : decode cX4_readItem 18 = .ok (.invokevirtual 63, 3) := by decide +kernel
theorem dX4_readItem_21 : decode cX4_readItem 21 = .ok (.ifCond .eq 9, 3) := by decide +kernel
theorem dX4_readItem_24 : decode cX4_readItem 24 = .ok (.aload_n 0, 1) := by decide +kernel
theorem dX4_readItem_25 : decode cX4_readItem 25 = .ok (.aload_n 1, 1) := by decide +kernel
theorem dX4_readItem_26 : decode cX4_readItem 26 = .ok (.invokevirtual 72, 3) := by decide +kernel
theorem dX4_readItem_29 : decode cX4_readItem 29 = .ok (.ireturn, 1) := by decide +kernel
theorem dX4_readItem_30 : decode cX4_readItem 30 = .ok (.aload_n 0, 1) := by decide +kernel
theorem dX4_readItem_31 : decode cX4_readItem 31 = .ok (.ldc 75, 2) := by decide +kernel
theorem dX4_readItem_33 : decode cX4_readItem 33 = .ok (.invokevirtual 63, 3) := by decide +kernel
theorem dX4_readItem_36 : decode cX4_readItem 36 = .ok (.ifCond .eq 15, 3) := by decide +kernel
theorem dX4_readItem_39 : decode cX4_readItem 39 = .ok (.aload_n 0, 1) := by decide +kernel
theorem dX4_readItem_40 : decode cX4_readItem 40 = .ok (.aload_n 1, 1) := by decide +kernel
theorem dX4_readItem_41 : decode cX4_readItem 41 = .ok (.invokevirtual 77, 3) := by decide +kernel
theorem dX4_readItem_44 : decode cX4_readItem 44 = .ok (.ifCond .eq 7, 3) := by decide +kernel
theorem dX4_readItem_47 : decode cX4_readItem 47 = .ok (.iconst 1, 1) := by decide +kernel
theorem dX4_readItem_48 : decode cX4_readItem 48 = .ok (.goto 4, 3) := by decide +kernel
theorem dX4_readItem_51 : decode cX4_readItem 51 = .ok (.iconst 0, 1) := by decide +kernel
theorem dX4_readItem_52 : decode cX4_readItem 52 = .ok (.ireturn, 1) := by decide +kernel
theorem dX4_readWord_0 : decode cX4_readWord 0 = .ok (.aload_n 1, 1) := by decide +kernel
theorem dX4_readWord_1 : decode cX4_readWord 1 = .ok (.getfield 80, 3) := by decide +kernel
theorem dX4_readWord_4 : decode cX4_readWord 4 = .ok (.bipush 16, 2) := by decide +kernel
theorem dX4_readWord_6 : decode cX4_readWord 6 = .ok (.if_icmp .lt 5, 3) := by decide +kernel
theorem dX4_readWord_9 : decode cX4_readWord 9 = .ok (.iconst 0, 1) := by decide +kernel
theorem dX4_readWord_10 : decode cX4_readWord 10 = .ok (.ireturn, 1) := by decide +kernel
theorem dX4_readWord_11 : decode cX4_readWord 11 = .ok (.aload_n 0, 1) := by decide +kernel
theorem dX4_readWord_12 : decode cX4_readWord 12 = .ok (.invokevirtual 31, 3) := by decide +kernel
theorem dX4_readWord_15 : decode cX4_readWord 15 = .ok (.aload_n 0, 1) := by decide +kernel
theorem dX4_readWord_16 : decode cX4_readWord 16 = .ok (.iconst 1, 1) := by decide +kernel
theorem dX4_readWord_17 : decode cX4_readWord 17 = .ok (.bipush 6, 2) := by decide +kernel
theorem dX4_readWord_19 : decode cX4_readWord 19 = .ok (.invokevirtual 85, 3) := by decide +kernel
theorem dX4_readWord_22 : decode cX4_readWord 22 = .ok (.ifCond .ne 5, 3) := by decide +kernel
theorem dX4_readWord_25 : decode cX4_readWord 25 = .ok (.iconst 0, 1) := by decide +kernel
theorem dX4_readWord_26 : decode cX4_readWord 26 = .ok (.ireturn, 1) := by decide +kernel
theorem dX4_readWord_27 : decode cX4_readWord 27 = .ok (.aload_n 0, 1) := by decide +kernel
theorem dX4_readWord_28 : decode cX4_readWord 28 = .ok (.getfield 28, 3) := by decide +kernel
theorem dX4_readWord_31 : decode cX4_readWord 31 = .ok (.istore_n 2, 1) := by decide +kernel
theorem dX4_readWord_32 : decode cX4_readWord 32 = .ok (.aload_n 0, 1) := by decide +kernel
theorem dX4_readWord_33 : decode cX4_readWord 33 = .ok (.invokevirtual 31, 3) := by decide +kernel
theorem dX4_readWord_36 : decode cX4_readWord 36 = .ok (.aload_n 0, 1) := by decide +kernel
theorem dX4_readWord_37 : decode cX4_readWord 37 = .ok (.ldc 89, 2) := by decide +kernel
theorem dX4_readWord_39 : decode cX4_readWord 39 = .ok (.invokevirtual 91, 3) := by decide +kernel
theorem dX4_readWord_42 : decode cX4_readWord 42 = .ok (.istore_n 3, 1) := by decide +kernel
theorem dX4_readWord_43 : decode cX4_readWord 43 = .ok (.iload_n 3, 1) := by decide +kernel
theorem dX4_readWord_44 : decode cX4_readWord 44 = .ok (.ifCond .ge 5, 3) := by decide +kernel
theorem dX4_readWord_47 : decode cX4_readWord 47 = .ok (.iconst 0, 1) := by decide +kernel
theorem dX4_readWord_48 : decode cX4_readWord 48 = .ok (.ireturn, 1) := by decide +kernel
theorem dX4_readWord_49 : decode cX4_readWord 49 = .ok (.aload_n 0, 1) := by decide +kernel
theorem dX4_readWord_50 : decode cX4_readWord 50 = .ok (.ldc 95, 2) := by decide +kernel
theorem dX4_readWord_52 : decode cX4_readWord 52 = .ok (.invokevirtual 91, 3) := by decide +kernel
theorem dX4_readWord_55 : decode cX4_readWord 55 = .ok (.istore 4, 2) := by decide +kernel
theorem dX4_readWord_57 : decode cX4_readWord 57 = .ok (.iload 4, 2) := by decide +kernel
theorem dX4_readWord_59 : decode cX4_readWord 59 = .ok (.ifCond .ge 5, 3) := by decide +kernel
theorem dX4_readWord_62 : decode cX4_readWord 62 = .ok (.iconst 0, 1) := by decide +kernel
theorem dX4_readWord_63 : decode cX4_readWord 63 = .ok (.ireturn, 1) := by decide +kernel
theorem dX4_readWord_64 : decode cX4_readWord 64 = .ok (.aload_n 1, 1) := by decide +kernel
theorem dX4_readWord_65 : decode cX4_readWord 65 = .ok (.iload_n 2, 1) := by decide +kernel
theorem dX4_readWord_66 : decode cX4_readWord 66 = .ok (.iload_n 3, 1) := by decide +kernel
theorem dX4_readWord_67 : decode cX4_readWord 67 = .ok (.iload 4, 2) := by decide +kernel
theorem dX4_readWord_69 : decode cX4_readWord 69 = .ok (.invokevirtual 97, 3) := by decide +kernel
theorem dX4_readWord_72 : decode cX4_readWord 72 = .ok (.pop, 1) := by decide +kernel
theorem dX4_readWord_73 : decode cX4_readWord 73 = .ok (.iconst 1, 1) := by decide +kernel
theorem dX4_readWord_74 : decode cX4_readWord 74 = .ok (.ireturn, 1) := by decide +kernel
theorem dX4_readChoice_0 : decode cX4_readChoice 0 = .ok (.aload_n 0, 1) := by decide +kernel
theorem dX4_readChoice_1 : decode cX4_readChoice 1 = .ok (.aload_n 1, 1) := by decide +kernel
theorem dX4_readChoice_2 : decode cX4_readChoice 2 = .ok (.invokevirtual 63, 3) := by decide +kernel
theorem dX4_readChoice_5 : decode cX4_readChoice 5 = .ok (.ifCond .ne 5, 3) := by decide +kernel
theorem dX4_readChoice_8 : decode cX4_readChoice 8 = .ok (.iconst 0, 1) := by decide +kernel
theorem dX4_readChoice_9 : decode cX4_readChoice 9 = .ok (.ireturn, 1) := by decide +kernel
theorem dX4_readChoice_10 : decode cX4_readChoice 10 = .ok (.aload_n 0, 1) := by decide +kernel
theorem dX4_readChoice_11 : decode cX4_readChoice 11 = .ok (.invokevirtual 31, 3) := by decide +kernel
theorem dX4_readChoice_14 : decode cX4_readChoice 14 = .ok (.aload_n 0, 1) := by decide +kernel
theorem dX4_readChoice_15 : decode cX4_readChoice 15 = .ok (.iconst 0, 1) := by decide +kernel
theorem dX4_readChoice_16 : decode cX4_readChoice 16 = .ok (.bipush 9, 2) := by decide +kernel
theorem dX4_readChoice_18 : decode cX4_readChoice 18 = .ok (.invokevirtual 85, 3) := by decide +kernel
theorem dX4_readChoice_21 : decode cX4_readChoice 21 = .ok (.ifCond .ne 5, 3) := by decide +kernel
theorem dX4_readChoice_24 : decode cX4_readChoice 24 = .ok (.iconst (-1), 1) := by decide +kernel
theorem dX4_readChoice_25 : decode cX4_readChoice 25 = .ok (.ireturn, 1) := by decide +kernel
theorem dX4_readChoice_26 : decode cX4_readChoice 26 = .ok (.aload_n 0, 1) := by decide +kernel
theorem dX4_readChoice_27 : decode cX4_readChoice 27 = .ok (.getfield 28, 3) := by decide +kernel
theorem dX4_readChoice_30 : decode cX4_readChoice 30 = .ok (.istore_n 2, 1) := by decide +kernel
theorem dX4_readChoice_31 : decode cX4_readChoice 31 = .ok (.aload_n 0, 1) := by decide +kernel
theorem dX4_readChoice_32 : decode cX4_readChoice 32 = .ok (.invokevirtual 31, 3) := by decide +kernel
theorem dX4_readChoice_35 : decode cX4_readChoice 35 = .ok (.iload_n 2, 1) := by decide +kernel
theorem dX4_readChoice_36 : decode cX4_readChoice 36 = .ok (.ireturn, 1) := by decide +kernel
theorem dX4_readTitle_0 : decode cX4_readTitle 0 = .ok (.aload_n 1, 1) := by decide +kernel
theorem dX4_readTitle_1 : decode cX4_readTitle 1 = .ok (.getfield 101, 3) := by decide +kernel
theorem dX4_readTitle_4 : decode cX4_readTitle 4 = .ok (.bipush 24, 2) := by decide +kernel
theorem dX4_readTitle_6 : decode cX4_readTitle 6 = .ok (.if_icmp .lt 5, 3) := by decide +kernel
theorem dX4_readTitle_9 : decode cX4_readTitle 9 = .ok (.iconst 0, 1) := by decide +kernel
theorem dX4_readTitle_10 : decode cX4_readTitle 10 = .ok (.ireturn, 1) := by decide +kernel
theorem dX4_readTitle_11 : decode cX4_readTitle 11 = .ok (.aload_n 0, 1) := by decide +kernel
theorem dX4_readTitle_12 : decode cX4_readTitle 12 = .ok (.invokevirtual 31, 3) := by decide +kernel
theorem dX4_readTitle_15 : decode cX4_readTitle 15 = .ok (.aload_n 0, 1) := by decide +kernel
theorem dX4_readTitle_16 : decode cX4_readTitle 16 = .ok (.iconst 0, 1) := by decide +kernel
theorem dX4_readTitle_17 : decode cX4_readTitle 17 = .ok (.aload_n 1, 1) := by decide +kernel
theorem dX4_readTitle_18 : decode cX4_readTitle 18 = .ok (.getfield 80, 3) := by decide +kernel
theorem dX4_readTitle_21 : decode cX4_readTitle 21 = .ok (.iconst 1, 1) := by decide +kernel
theorem dX4_readTitle_22 : decode cX4_readTitle 22 = .ok (.isub, 1) := by decide +kernel
theorem dX4_readTitle_23 : decode cX4_readTitle 23 = .ok (.invokevirtual 85, 3) := by decide +kernel
theorem dX4_readTitle_26 : decode cX4_readTitle 26 = .ok (.ifCond .ne 5, 3) := by decide +kernel
theorem dX4_readTitle_29 : decode cX4_readTitle 29 = .ok (.iconst 0, 1) := by decide +kernel
theorem dX4_readTitle_30 : decode cX4_readTitle 30 = .ok (.ireturn, 1) := by decide +kernel
theorem dX4_readTitle_31 : decode cX4_readTitle 31 = .ok (.aload_n 1, 1) := by decide +kernel
theorem dX4_readTitle_32 : decode cX4_readTitle 32 = .ok (.aload_n 0, 1) := by decide +kernel
theorem dX4_readTitle_33 : decode cX4_readTitle 33 = .ok (.getfield 28, 3) := by decide +kernel
theorem dX4_readTitle_36 : decode cX4_readTitle 36 = .ok (.invokevirtual 104, 3) := by decide +kernel
theorem dX4_readTitle_39 : decode cX4_readTitle 39 = .ok (.istore_n 2, 1) := by decide +kernel
theorem dX4_readTitle_40 : decode cX4_readTitle 40 = .ok (.aload_n 0, 1) := by decide +kernel
theorem dX4_readTitle_41 : decode cX4_readTitle 41 = .ok (.invokevirtual 31, 3) := by decide +kernel
theorem dX4_readTitle_44 : decode cX4_readTitle 44 = .ok (.iconst 1, 1) := by decide +kernel
theorem dX4_readTitle_45 : decode cX4_readTitle 45 = .ok (.istore_n 3, 1) := by decide +kernel
theorem dX4_readTitle_46 : decode cX4_readTitle 46 = .ok (.iload_n 3, 1) := by decide +kernel
theorem dX4_readTitle_47 : decode cX4_readTitle 47 = .ok (.iconst 4, 1) := by decide +kernel
theorem dX4_readTitle_48 : decode cX4_readTitle 48 = .ok (.if_icmp .ge 44, 3) := by decide +kernel
theorem dX4_readTitle_51 : decode cX4_readTitle 51 = .ok (.aload_n 0, 1) := by decide +kernel
theorem dX4_readTitle_52 : decode cX4_readTitle 52 = .ok (.getfield 19, 3) := by decide +kernel
theorem dX4_readTitle_55 : decode cX4_readTitle 55 = .ok (.iconst 1, 1) := by decide +kernel
theorem dX4_readTitle_56 : decode cX4_readTitle 56 = .ok (.if_icmp .ne 36, 3) := by decide +kernel
theorem dX4_readTitle_59 : decode cX4_readTitle 59 = .ok (.aload_n 0, 1) := by decide +kernel
theorem dX4_readTitle_60 : decode cX4_readTitle 60 = .ok (.getfield 28, 3) := by decide +kernel
theorem dX4_readTitle_63 : decode cX4_readTitle 63 = .ok (.aload_n 1, 1) := by decide +kernel
theorem dX4_readTitle_64 : decode cX4_readTitle 64 = .ok (.getfield 80, 3) := by decide +kernel
theorem dX4_readTitle_67 : decode cX4_readTitle 67 = .ok (.if_icmp .lt 5, 3) := by decide +kernel
theorem dX4_readTitle_70 : decode cX4_readTitle 70 = .ok (.iconst 0, 1) := by decide +kernel
theorem dX4_readTitle_71 : decode cX4_readTitle 71 = .ok (.ireturn, 1) := by decide +kernel
theorem dX4_readTitle_72 : decode cX4_readTitle 72 = .ok (.aload_n 1, 1) := by decide +kernel
theorem dX4_readTitle_73 : decode cX4_readTitle 73 = .ok (.iload_n 2, 1) := by decide +kernel
theorem dX4_readTitle_74 : decode cX4_readTitle 74 = .ok (.aload_n 0, 1) := by decide +kernel
theorem dX4_readTitle_75 : decode cX4_readTitle 75 = .ok (.getfield 28, 3) := by decide +kernel
theorem dX4_readTitle_78 : decode cX4_readTitle 78 = .ok (.invokevirtual 108, 3) := by decide +kernel
theorem dX4_readTitle_81 : decode cX4_readTitle 81 = .ok (.pop, 1) := by decide +kernel
theorem dX4_readTitle_82 : decode cX4_readTitle 82 = .ok (.aload_n 0, 1) := by decide +kernel
theorem dX4_readTitle_83 : decode cX4_readTitle 83 = .ok (.invokevirtual 31, 3) := by decide +kernel
theorem dX4_readTitle_86 : decode cX4_readTitle 86 = .ok (.iinc 3 1, 3) := by decide +kernel
theorem dX4_readTitle_89 : decode cX4_readTitle 89 = .ok (.goto (-43), 3) := by decide +kernel
theorem dX4_readTitle_92 : decode cX4_readTitle 92 = .ok (.iconst 1, 1) := by decide +kernel
theorem dX4_readTitle_93 : decode cX4_readTitle 93 = .ok (.ireturn, 1) := by decide +kernel
theorem dX4_readOnly_0 : decode cX4_readOnly 0 = .ok (.aload_n 0, 1) := by decide +kernel
theorem dX4_readOnly_1 : decode cX4_readOnly 1 = .ok (.invokevirtual 31, 3) := by decide +kernel
theorem dX4_readOnly_4 : decode cX4_readOnly 4 = .ok (.aload_n 0, 1) := by decide +kernel
theorem dX4_readOnly_5 : decode cX4_readOnly 5 = .ok (.iconst 0, 1) := by decide +kernel
theorem dX4_readOnly_6 : decode cX4_readOnly 6 = .ok (.aload_n 1, 1) := by decide +kernel
theorem dX4_readOnly_7 : decode cX4_readOnly 7 = .ok (.getfield 101, 3) := by decide +kernel
theorem dX4_readOnly_10 : decode cX4_readOnly 10 = .ok (.iconst 1, 1) := by decide +kernel
theorem dX4_readOnly_11 : decode cX4_readOnly 11 = .ok (.isub, 1) := by decide +kernel
theorem dX4_readOnly_12 : decode cX4_readOnly 12 = .ok (.invokevirtual 85, 3) := by decide +kernel
theorem dX4_readOnly_15 : decode cX4_readOnly 15 = .ok (.ifCond .ne 5, 3) := by decide +kernel
theorem dX4_readOnly_18 : decode cX4_readOnly 18 = .ok (.iconst 0, 1) := by decide +kernel
theorem dX4_readOnly_19 : decode cX4_readOnly 19 = .ok (.ireturn, 1) := by decide +kernel
theorem dX4_readOnly_20 : decode cX4_readOnly 20 = .ok (.aload_n 0, 1) := by decide +kernel
theorem dX4_readOnly_21 : decode cX4_readOnly 21 = .ok (.getfield 28, 3) := by decide +kernel
theorem dX4_readOnly_24 : decode cX4_readOnly 24 = .ok (.istore_n 2, 1) := by decide +kernel
theorem dX4_readOnly_25 : decode cX4_readOnly 25 = .ok (.aload_n 0, 1) := by decide +kernel
theorem dX4_readOnly_26 : decode cX4_readOnly 26 = .ok (.invokevirtual 31, 3) := by decide +kernel
theorem dX4_readOnly_29 : decode cX4_readOnly 29 = .ok (.aload_n 0, 1) := by decide +kernel
theorem dX4_readOnly_30 : decode cX4_readOnly 30 = .ok (.iconst 0, 1) := by decide +kernel
theorem dX4_readOnly_31 : decode cX4_readOnly 31 = .ok (.iconst 1, 1) := by decide +kernel
theorem dX4_readOnly_32 : decode cX4_readOnly 32 = .ok (.invokevirtual 85, 3) := by decide +kernel
theorem dX4_readOnly_35 : decode cX4_readOnly 35 = .ok (.ifCond .ne 5, 3) := by decide +kernel
theorem dX4_readOnly_38 : decode cX4_readOnly 38 = .ok (.iconst 0, 1) := by decide +kernel
theorem dX4_readOnly_39 : decode cX4_readOnly 39 = .ok (.ireturn, 1) := by decide +kernel
theorem dX4_readOnly_40 : decode cX4_readOnly 40 = .ok (.aload_n 1, 1) := by decide +kernel
theorem dX4_readOnly_41 : decode cX4_readOnly 41 = .ok (.iload_n 2, 1) := by decide +kernel
theorem dX4_readOnly_42 : decode cX4_readOnly 42 = .ok (.aload_n 0, 1) := by decide +kernel
theorem dX4_readOnly_43 : decode cX4_readOnly 43 = .ok (.getfield 28, 3) := by decide +kernel
theorem dX4_readOnly_46 : decode cX4_readOnly 46 = .ok (.iconst 1, 1) := by decide +kernel
theorem dX4_readOnly_47 : decode cX4_readOnly 47 = .ok (.invokevirtual 111, 3) := by decide +kernel
theorem dX4_readOnly_50 : decode cX4_readOnly 50 = .ok (.aload_n 1, 1) := by decide +kernel
theorem dX4_readOnly_51 : decode cX4_readOnly 51 = .ok (.iload_n 2, 1) := by decide +kernel
theorem dX4_readOnly_52 : decode cX4_readOnly 52 = .ok (.iconst 1, 1) := by decide +kernel
theorem dX4_readOnly_53 : decode cX4_readOnly 53 = .ok (.aload_n 0, 1) := by decide +kernel
theorem dX4_readOnly_54 : decode cX4_readOnly 54 = .ok (.getfield 28, 3) := by decide +kernel
theorem dX4_readOnly_57 : decode cX4_readOnly 57 = .ok (.isub, 1) := by decide +kernel
theorem dX4_readOnly_58 : decode cX4_readOnly 58 = .ok (.iconst 0, 1) := by decide +kernel
theorem dX4_readOnly_59 : decode cX4_readOnly 59 = .ok (.invokevirtual 111, 3) := by decide +kernel
theorem dX4_readOnly_62 : decode cX4_readOnly 62 = .ok (.aload_n 0, 1) := by decide +kernel
theorem dX4_readOnly_63 : decode cX4_readOnly 63 = .ok (.invokevirtual 31, 3) := by decide +kernel
theorem dX4_readOnly_66 : decode cX4_readOnly 66 = .ok (.iconst 1, 1) := by decide +kernel
theorem dX4_readOnly_67 : decode cX4_readOnly 67 = .ok (.ireturn, 1) := by decide +kernel
