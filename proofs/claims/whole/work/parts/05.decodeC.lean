theorem dX6_init_0 : decode cX6_init 0 = .ok (.aload_n 0, 1) := by decide +kernel
theorem dX6_init_1 : decode cX6_init 1 = .ok (.invokespecial 3, 3) := by decide +kernel
theorem dX6_init_4 : decode cX6_init 4 = .ok (.aload_n 0, 1) := by decide +kernel
theorem dX6_init_5 : decode cX6_init 5 = .ok (.sipush 212, 3) := by decide +kernel
theorem dX6_init_8 : decode cX6_init 8 = .ok (.newarray .int, 2) := by decide +kernel
theorem dX6_init_10 : decode cX6_init 10 = .ok (.putfield 9, 3) := by decide +kernel
theorem dX6_init_13 : decode cX6_init 13 = .ok (.aload_n 0, 1) := by decide +kernel
theorem dX6_init_14 : decode cX6_init 14 = .ok (.sipush 212, 3) := by decide +kernel
theorem dX6_init_17 : decode cX6_init 17 = .ok (.newarray .int, 2) := by decide +kernel
theorem dX6_init_19 : decode cX6_init 19 = .ok (.putfield 13, 3) := by decide +kernel
theorem dX6_init_22 : decode cX6_init 22 = .ok (.aload_n 0, 1) := by decide +kernel
theorem dX6_init_23 : decode cX6_init 23 = .ok (.sipush 212, 3) := by decide +kernel
theorem dX6_init_26 : decode cX6_init 26 = .ok (.newarray .int, 2) := by decide +kernel
theorem dX6_init_28 : decode cX6_init 28 = .ok (.putfield 16, 3) := by decide +kernel
theorem dX6_init_31 : decode cX6_init 31 = .ok (.aload_n 0, 1) := by decide +kernel
theorem dX6_init_32 : decode cX6_init 32 = .ok (.bipush 7, 2) := by decide +kernel
theorem dX6_init_34 : decode cX6_init 34 = .ok (.newarray .int, 2) := by decide +kernel
theorem dX6_init_36 : decode cX6_init 36 = .ok (.putfield 19, 3) := by decide +kernel
theorem dX6_init_39 : decode cX6_init 39 = .ok (.aload_n 0, 1) := by decide +kernel
theorem dX6_init_40 : decode cX6_init 40 = .ok (.sipush 672, 3) := by decide +kernel
theorem dX6_init_43 : decode cX6_init 43 = .ok (.newarray .int, 2) := by decide +kernel
theorem dX6_init_45 : decode cX6_init 45 = .ok (.putfield 22, 3) := by decide +kernel
theorem dX6_init_48 : decode cX6_init 48 = .ok (.aload_n 0, 1) := by decide +kernel
theorem dX6_init_49 : decode cX6_init 49 = .ok (.bipush 24, 2) := by decide +kernel
theorem dX6_init_51 : decode cX6_init 51 = .ok (.newarray .int, 2) := by decide +kernel
theorem dX6_init_53 : decode cX6_init 53 = .ok (.putfield 25, 3) := by decide +kernel
theorem dX6_init_56 : decode cX6_init 56 = .ok (.aload_n 0, 1) := by decide +kernel
theorem dX6_init_57 : decode cX6_init 57 = .ok (.bipush 24, 2) := by decide +kernel
theorem dX6_init_59 : decode cX6_init 59 = .ok (.newarray .int, 2) := by decide +kernel
theorem dX6_init_61 : decode cX6_init 61 = .ok (.putfield 28, 3) := by decide +kernel
theorem dX6_init_64 : decode cX6_init 64 = .ok (.aload_n 0, 1) := by decide +kernel
theorem dX6_init_65 : decode cX6_init 65 = .ok (.bipush 120, 2) := by decide +kernel
theorem dX6_init_67 : decode cX6_init 67 = .ok (.newarray .int, 2) := by decide +kernel
theorem dX6_init_69 : decode cX6_init 69 = .ok (.putfield 31, 3) := by decide +kernel
theorem dX6_init_72 : decode cX6_init 72 = .ok (.aload_n 0, 1) := by decide +kernel
theorem dX6_init_73 : decode cX6_init 73 = .ok (.iconst 4, 1) := by decide +kernel
theorem dX6_init_74 : decode cX6_init 74 = .ok (.newarray .int, 2) := by decide +kernel
theorem dX6_init_76 : decode cX6_init 76 = .ok (.putfield 34, 3) := by decide +kernel
theorem dX6_init_79 : decode cX6_init 79 = .ok (.aload_n 0, 1) := by decide +kernel
theorem dX6_init_80 : decode cX6_init 80 = .ok (.iconst 4, 1) := by decide +kernel
theorem dX6_init_81 : decode cX6_init 81 = .ok (.newarray .int, 2) := by decide +kernel
theorem dX6_init_83 : decode cX6_init 83 = .ok (.putfield 37, 3) := by decide +kernel
theorem dX6_init_86 : decode cX6_init 86 = .ok (.aload_n 0, 1) := by decide +kernel
theorem dX6_init_87 : decode cX6_init 87 = .ok (.sipush 160, 3) := by decide +kernel
theorem dX6_init_90 : decode cX6_init 90 = .ok (.newarray .int, 2) := by decide +kernel
theorem dX6_init_92 : decode cX6_init 92 = .ok (.putfield 40, 3) := by decide +kernel
theorem dX6_init_95 : decode cX6_init 95 = .ok (.aload_n 0, 1) := by decide +kernel
theorem dX6_init_96 : decode cX6_init 96 = .ok (.getfield 9, 3) := by decide +kernel
theorem dX6_init_99 : decode cX6_init 99 = .ok (.iconst 4, 1) := by decide +kernel
theorem dX6_init_100 : decode cX6_init 100 = .ok (.iconst 1, 1) := by decide +kernel
theorem dX6_init_101 : decode cX6_init 101 = .ok (.iastore, 1) := by decide +kernel
theorem dX6_init_102 : decode cX6_init 102 = .ok (.aload_n 0, 1) := by decide +kernel
theorem dX6_init_103 : decode cX6_init 103 = .ok (.getfield 9, 3) := by decide +kernel
theorem dX6_init_106 : decode cX6_init 106 = .ok (.iconst 5, 1) := by decide +kernel
theorem dX6_init_107 : decode cX6_init 107 = .ok (.iconst (-1), 1) := by decide +kernel
theorem dX6_init_108 : decode cX6_init 108 = .ok (.iastore, 1) := by decide +kernel
theorem dX6_init_109 : decode cX6_init 109 = .ok (.iconst 0, 1) := by decide +kernel
theorem dX6_init_110 : decode cX6_init 110 = .ok (.istore_n 1, 1) := by decide +kernel
theorem dX6_init_111 : decode cX6_init 111 = .ok (.iload_n 1, 1) := by decide +kernel
theorem dX6_init_112 : decode cX6_init 112 = .ok (.bipush 10, 2) := by decide +kernel
theorem dX6_init_114 : decode cX6_init 114 = .ok (.if_icmp .ge 20, 3) := by decide +kernel
theorem dX6_init_117 : decode cX6_init 117 = .ok (.aload_n 0, 1) := by decide +kernel
theorem dX6_init_118 : decode cX6_init 118 = .ok (.getfield 9, 3) := by decide +kernel
theorem dX6_init_121 : decode cX6_init 121 = .ok (.sipush 202, 3) := by decide +kernel
theorem dX6_init_124 : decode cX6_init 124 = .ok (.iload_n 1, 1) := by decide +kernel
theorem dX6_init_125 : decode cX6_init 125 = .ok (.iadd, 1) := by decide +kernel
theorem dX6_init_126 : decode cX6_init 126 = .ok (.iconst (-1), 1) := by decide +kernel
theorem dX6_init_127 : decode cX6_init 127 = .ok (.iastore, 1) := by decide +kernel
theorem dX6_init_128 : decode cX6_init 128 = .ok (.iinc 1 1, 3) := by decide +kernel
theorem dX6_init_131 : decode cX6_init 131 = .ok (.goto (-20), 3) := by decide +kernel
theorem dX6_init_134 : decode cX6_init 134 = .ok (.return_, 1) := by decide +kernel
theorem dX6_finds_0 : decode cX6_finds 0 = .ok (.aload_n 0, 1) := by decide +kernel
theorem dX6_finds_1 : decode cX6_finds 1 = .ok (.getfield 19, 3) := by decide +kernel
theorem dX6_finds_4 : decode cX6_finds 4 = .ok (.ldc 43, 2) := by decide +kernel
theorem dX6_finds_6 : decode cX6_finds 6 = .ok (.iload_n 1, 1) := by decide +kernel
theorem dX6_finds_7 : decode cX6_finds 7 = .ok (.isub, 1) := by decide +kernel
theorem dX6_finds_8 : decode cX6_finds 8 = .ok (.dup2, 1) := by decide +kernel
theorem dX6_finds_9 : decode cX6_finds 9 = .ok (.iaload, 1) := by decide +kernel
theorem dX6_finds_10 : decode cX6_finds 10 = .ok (.iconst 1, 1) := by decide +kernel
theorem dX6_finds_11 : decode cX6_finds 11 = .ok (.iadd, 1) := by decide +kernel
theorem dX6_finds_12 : decode cX6_finds 12 = .ok (.iastore, 1) := by decide +kernel
theorem dX6_finds_13 : decode cX6_finds 13 = .ok (.iload_n 1, 1) := by decide +kernel
theorem dX6_finds_14 : decode cX6_finds 14 = .ok (.ireturn, 1) := by decide +kernel
theorem dX6_orNone_0 : decode cX6_orNone 0 = .ok (.iload_n 1, 1) := by decide +kernel
theorem dX6_orNone_1 : decode cX6_orNone 1 = .ok (.ifCond .ge 12, 3) := by decide +kernel
theorem dX6_orNone_4 : decode cX6_orNone 4 = .ok (.aload_n 0, 1) := by decide +kernel
theorem dX6_orNone_5 : decode cX6_orNone 5 = .ok (.ldc 44, 2) := by decide +kernel
theorem dX6_orNone_7 : decode cX6_orNone 7 = .ok (.invokevirtual 45, 3) := by decide +kernel
theorem dX6_orNone_10 : decode cX6_orNone 10 = .ok (.goto 4, 3) := by decide +kernel
theorem dX6_orNone_13 : decode cX6_orNone 13 = .ok (.iload_n 1, 1) := by decide +kernel
theorem dX6_orNone_14 : decode cX6_orNone 14 = .ok (.ireturn, 1) := by decide +kernel
theorem dX6_in_0 : decode cX6_in 0 = .ok (.lload_n 0, 1) := by decide +kernel
theorem dX6_in_1 : decode cX6_in 1 = .ok (.lload_n 2, 1) := by decide +kernel
theorem dX6_in_2 : decode cX6_in 2 = .ok (.lcmp, 1) := by decide +kernel
theorem dX6_in_3 : decode cX6_in 3 = .ok (.ifCond .lt 14, 3) := by decide +kernel
theorem dX6_in_6 : decode cX6_in 6 = .ok (.lload_n 0, 1) := by decide +kernel
theorem dX6_in_7 : decode cX6_in 7 = .ok (.lload 4, 2) := by decide +kernel
theorem dX6_in_9 : decode cX6_in 9 = .ok (.lcmp, 1) := by decide +kernel
theorem dX6_in_10 : decode cX6_in 10 = .ok (.ifCond .gt 7, 3) := by decide +kernel
theorem dX6_in_13 : decode cX6_in 13 = .ok (.iconst 1, 1) := by decide +kernel
theorem dX6_in_14 : decode cX6_in 14 = .ok (.goto 4, 3) := by decide +kernel
theorem dX6_in_17 : decode cX6_in 17 = .ok (.iconst 0, 1) := by decide +kernel
theorem dX6_in_18 : decode cX6_in 18 = .ok (.ireturn, 1) := by decide +kernel
theorem dX6_row_0 : decode cX6_row 0 = .ok (.iconst 0, 1) := by decide +kernel
theorem dX6_row_1 : decode cX6_row 1 = .ok (.istore_n 2, 1) := by decide +kernel
theorem dX6_row_2 : decode cX6_row 2 = .ok (.iload_n 2, 1) := by decide +kernel
theorem dX6_row_3 : decode cX6_row 3 = .ok (.sipush 212, 3) := by decide +kernel
theorem dX6_row_6 : decode cX6_row 6 = .ok (.if_icmp .ge 15, 3) := by decide +kernel
theorem dX6_row_9 : decode cX6_row 9 = .ok (.aload_n 1, 1) := by decide +kernel
theorem dX6_row_10 : decode cX6_row 10 = .ok (.iload_n 2, 1) := by decide +kernel
theorem dX6_row_11 : decode cX6_row 11 = .ok (.aload_n 0, 1) := by decide +kernel
theorem dX6_row_12 : decode cX6_row 12 = .ok (.iload_n 2, 1) := by decide +kernel
theorem dX6_row_13 : decode cX6_row 13 = .ok (.iaload, 1) := by decide +kernel
theorem dX6_row_14 : decode cX6_row 14 = .ok (.iastore, 1) := by decide +kernel
theorem dX6_row_15 : decode cX6_row 15 = .ok (.iinc 2 1, 3) := by decide +kernel
theorem dX6_row_18 : decode cX6_row 18 = .ok (.goto (-16), 3) := by decide +kernel
theorem dX6_row_21 : decode cX6_row 21 = .ok (.return_, 1) := by decide +kernel
theorem dX6_becomes_0 : decode cX6_becomes 0 = .ok (.aload_n 0, 1) := by decide +kernel
theorem dX6_becomes_1 : decode cX6_becomes 1 = .ok (.getfield 9, 3) := by decide +kernel
theorem dX6_becomes_4 : decode cX6_becomes 4 = .ok (.iload_n 1, 1) := by decide +kernel
theorem dX6_becomes_5 : decode cX6_becomes 5 = .ok (.iaload, 1) := by decide +kernel
theorem dX6_becomes_6 : decode cX6_becomes 6 = .ok (.istore_n 3, 1) := by decide +kernel
theorem dX6_becomes_7 : decode cX6_becomes 7 = .ok (.aload_n 0, 1) := by decide +kernel
theorem dX6_becomes_8 : decode cX6_becomes 8 = .ok (.getfield 9, 3) := by decide +kernel
theorem dX6_becomes_11 : decode cX6_becomes 11 = .ok (.iload_n 1, 1) := by decide +kernel
theorem dX6_becomes_12 : decode cX6_becomes 12 = .ok (.iload_n 2, 1) := by decide +kernel
theorem dX6_becomes_13 : decode cX6_becomes 13 = .ok (.iastore, 1) := by decide +kernel
theorem dX6_becomes_14 : decode cX6_becomes 14 = .ok (.iload_n 3, 1) := by decide +kernel
theorem dX6_becomes_15 : decode cX6_becomes 15 = .ok (.ireturn, 1) := by decide +kernel
theorem dX6_isWordAt_0 : decode cX6_isWordAt 0 = .ok (.iload_n 1, 1) := by decide +kernel
theorem dX6_isWordAt_1 : decode cX6_isWordAt 1 = .ok (.i2l, 1) := by decide +kernel
theorem dX6_isWordAt_2 : decode cX6_isWordAt 2 = .ok (.lconst 0, 1) := by decide +kernel
theorem dX6_isWordAt_3 : decode cX6_isWordAt 3 = .ok (.aload_n 0, 1) := by decide +kernel
theorem dX6_isWordAt_4 : decode cX6_isWordAt 4 = .ok (.getfield 9, 3) := by decide +kernel
theorem dX6_isWordAt_7 : decode cX6_isWordAt 7 = .ok (.iconst 0, 1) := by decide +kernel
theorem dX6_isWordAt_8 : decode cX6_isWordAt 8 = .ok (.iaload, 1) := by decide +kernel
theorem dX6_isWordAt_9 : decode cX6_isWordAt 9 = .ok (.iconst 1, 1) := by decide +kernel
theorem dX6_isWordAt_10 : decode cX6_isWordAt 10 = .ok (.isub, 1) := by decide +kernel
theorem dX6_isWordAt_11 : decode cX6_isWordAt 11 = .ok (.i2l, 1) := by decide +kernel
theorem dX6_isWordAt_12 : decode cX6_isWordAt 12 = .ok (.invokestatic 49, 3) := by decide +kernel
theorem dX6_isWordAt_15 : decode cX6_isWordAt 15 = .ok (.ireturn, 1) := by decide +kernel
theorem dX6_isTitle_0 : decode cX6_isTitle 0 = .ok (.iload_n 1, 1) := by decide +kernel
theorem dX6_isTitle_1 : decode cX6_isTitle 1 = .ok (.i2l, 1) := by decide +kernel
theorem dX6_isTitle_2 : decode cX6_isTitle 2 = .ok (.lconst 0, 1) := by decide +kernel
theorem dX6_isTitle_3 : decode cX6_isTitle 3 = .ok (.aload_n 0, 1) := by decide +kernel
theorem dX6_isTitle_4 : decode cX6_isTitle 4 = .ok (.getfield 9, 3) := by decide +kernel
theorem dX6_isTitle_7 : decode cX6_isTitle 7 = .ok (.iconst 1, 1) := by decide +kernel
theorem dX6_isTitle_8 : decode cX6_isTitle 8 = .ok (.iaload, 1) := by decide +kernel
theorem dX6_isTitle_9 : decode cX6_isTitle 9 = .ok (.iconst 1, 1) := by decide +kernel
theorem dX6_isTitle_10 : decode cX6_isTitle 10 = .ok (.isub, 1) := by decide +kernel
theorem dX6_isTitle_11 : decode cX6_isTitle 11 = .ok (.i2l, 1) := by decide +kernel
theorem dX6_isTitle_12 : decode cX6_isTitle 12 = .ok (.invokestatic 49, 3) := by decide +kernel
theorem dX6_isTitle_15 : decode cX6_isTitle 15 = .ok (.ireturn, 1) := by decide +kernel
theorem dX6_isBand_0 : decode cX6_isBand 0 = .ok (.iload_n 0, 1) := by decide +kernel
theorem dX6_isBand_1 : decode cX6_isBand 1 = .ok (.i2l, 1) := by decide +kernel
theorem dX6_isBand_2 : decode cX6_isBand 2 = .ok (.lconst 0, 1) := by decide +kernel
theorem dX6_isBand_3 : decode cX6_isBand 3 = .ok (.lconst 1, 1) := by decide +kernel
theorem dX6_isBand_4 : decode cX6_isBand 4 = .ok (.invokestatic 49, 3) := by decide +kernel
theorem dX6_isBand_7 : decode cX6_isBand 7 = .ok (.ireturn, 1) := by decide +kernel
theorem dX6_isSign_0 : decode cX6_isSign 0 = .ok (.iload_n 0, 1) := by decide +kernel
theorem dX6_isSign_1 : decode cX6_isSign 1 = .ok (.i2l, 1) := by decide +kernel
theorem dX6_isSign_2 : decode cX6_isSign 2 = .ok (.lconst 0, 1) := by decide +kernel
theorem dX6_isSign_3 : decode cX6_isSign 3 = .ok (.ldc2_w 53, 3) := by decide +kernel
theorem dX6_isSign_6 : decode cX6_isSign 6 = .ok (.invokestatic 49, 3) := by decide +kernel
theorem dX6_isSign_9 : decode cX6_isSign 9 = .ok (.ifCond .eq 19, 3) := by decide +kernel
theorem dX6_isSign_12 : decode cX6_isSign 12 = .ok (.iload_n 1, 1) := by decide +kernel
theorem dX6_isSign_13 : decode cX6_isSign 13 = .ok (.i2l, 1) := by decide +kernel
theorem dX6_isSign_14 : decode cX6_isSign 14 = .ok (.lconst 0, 1) := by decide +kernel
theorem dX6_isSign_15 : decode cX6_isSign 15 = .ok (.ldc2_w 55, 3) := by decide +kernel
theorem dX6_isSign_18 : decode cX6_isSign 18 = .ok (.invokestatic 49, 3) := by decide +kernel
theorem dX6_isSign_21 : decode cX6_isSign 21 = .ok (.ifCond .eq 7, 3) := by decide +kernel
theorem dX6_isSign_24 : decode cX6_isSign 24 = .ok (.iconst 1, 1) := by decide +kernel
theorem dX6_isSign_25 : decode cX6_isSign 25 = .ok (.goto 4, 3) := by decide +kernel
theorem dX6_isSign_28 : decode cX6_isSign 28 = .ok (.iconst 0, 1) := by decide +kernel
theorem dX6_isSign_29 : decode cX6_isSign 29 = .ok (.ireturn, 1) := by decide +kernel
theorem dX6_isSet_0 : decode cX6_isSet 0 = .ok (.iload_n 1, 1) := by decide +kernel
theorem dX6_isSet_1 : decode cX6_isSet 1 = .ok (.i2l, 1) := by decide +kernel
theorem dX6_isSet_2 : decode cX6_isSet 2 = .ok (.lconst 0, 1) := by decide +kernel
theorem dX6_isSet_3 : decode cX6_isSet 3 = .ok (.iconst 1, 1) := by decide +kernel
theorem dX6_isSet_4 : decode cX6_isSet 4 = .ok (.aload_n 0, 1) := by decide +kernel
theorem dX6_isSet_5 : decode cX6_isSet 5 = .ok (.getfield 9, 3) := by decide +kernel
theorem dX6_isSet_8 : decode cX6_isSet 8 = .ok (.iconst 1, 1) := by decide +kernel
theorem dX6_isSet_9 : decode cX6_isSet 9 = .ok (.iaload, 1) := by decide +kernel
theorem dX6_isSet_10 : decode cX6_isSet 10 = .ok (.ishl, 1) := by decide +kernel
theorem dX6_isSet_11 : decode cX6_isSet 11 = .ok (.iconst 1, 1) := by decide +kernel
theorem dX6_isSet_12 : decode cX6_isSet 12 = .ok (.isub, 1) := by decide +kernel
theorem dX6_isSet_13 : decode cX6_isSet 13 = .ok (.i2l, 1) := by decide +kernel
theorem dX6_isSet_14 : decode cX6_isSet 14 = .ok (.invokestatic 49, 3) := by decide +kernel
theorem dX6_isSet_17 : decode cX6_isSet 17 = .ok (.ireturn, 1) := by decide +kernel
theorem dX6_of_0 : decode cX6_of 0 = .ok (.aload_n 0, 1) := by decide +kernel
theorem dX6_of_1 : decode cX6_of 1 = .ok (.getfield 9, 3) := by decide +kernel
theorem dX6_of_4 : decode cX6_of 4 = .ok (.bipush 10, 2) := by decide +kernel
theorem dX6_of_6 : decode cX6_of 6 = .ok (.iconst 3, 1) := by decide +kernel
theorem dX6_of_7 : decode cX6_of 7 = .ok (.iload_n 1, 1) := by decide +kernel
theorem dX6_of_8 : decode cX6_of 8 = .ok (.imul, 1) := by decide +kernel
theorem dX6_of_9 : decode cX6_of 9 = .ok (.iadd, 1) := by decide +kernel
theorem dX6_of_10 : decode cX6_of 10 = .ok (.iload_n 2, 1) := by decide +kernel
theorem dX6_of_11 : decode cX6_of 11 = .ok (.iadd, 1) := by decide +kernel
theorem dX6_of_12 : decode cX6_of 12 = .ok (.iaload, 1) := by decide +kernel
theorem dX6_of_13 : decode cX6_of 13 = .ok (.ireturn, 1) := by decide +kernel
theorem dX6_is_0 : decode cX6_is 0 = .ok (.aload_n 0, 1) := by decide +kernel
theorem dX6_is_1 : decode cX6_is 1 = .ok (.getfield 9, 3) := by decide +kernel
theorem dX6_is_4 : decode cX6_is 4 = .ok (.bipush 58, 2) := by decide +kernel
theorem dX6_is_6 : decode cX6_is 6 = .ok (.bipush 6, 2) := by decide +kernel
theorem dX6_is_8 : decode cX6_is 8 = .ok (.iload_n 1, 1) := by decide +kernel
theorem dX6_is_9 : decode cX6_is 9 = .ok (.imul, 1) := by decide +kernel
theorem dX6_is_10 : decode cX6_is 10 = .ok (.iadd, 1) := by decide +kernel
theorem dX6_is_11 : decode cX6_is 11 = .ok (.iload_n 2, 1) := by decide +kernel
theorem dX6_is_12 : decode cX6_is 12 = .ok (.iadd, 1) := by decide +kernel
theorem dX6_is_13 : decode cX6_is 13 = .ok (.iaload, 1) := by decide +kernel
theorem dX6_is_14 : decode cX6_is 14 = .ok (.ireturn, 1) := by decide +kernel
theorem dX6_many_0 : decode cX6_many 0 = .ok (.iload_n 0, 1) := by decide +kernel
theorem dX6_many_1 : decode cX6_many 1 = .ok (.iload_n 0, 1) := by decide +kernel
theorem dX6_many_2 : decode cX6_many 2 = .ok (.iconst 1, 1) := by decide +kernel
theorem dX6_many_3 : decode cX6_many 3 = .ok (.iushr, 1) := by decide +kernel
theorem dX6_many_4 : decode cX6_many 4 = .ok (.ldc 57, 2) := by decide +kernel
theorem dX6_many_6 : decode cX6_many 6 = .ok (.iand, 1) := by decide +kernel
theorem dX6_many_7 : decode cX6_many 7 = .ok (.isub, 1) := by decide +kernel
theorem dX6_many_8 : decode cX6_many 8 = .ok (.istore_n 1, 1) := by decide +kernel
theorem dX6_many_9 : decode cX6_many 9 = .ok (.iload_n 1, 1) := by decide +kernel
theorem dX6_many_10 : decode cX6_many 10 = .ok (.ldc 58, 2) := by decide +kernel
theorem dX6_many_12 : decode cX6_many 12 = .ok (.iand, 1) := by decide +kernel
theorem dX6_many_13 : decode cX6_many 13 = .ok (.iload_n 1, 1) := by decide +kernel
theorem dX6_many_14 : decode cX6_many 14 = .ok (.iconst 2, 1) := by decide +kernel
theorem dX6_many_15 : decode cX6_many 15 = .ok (.iushr, 1) := by decide +kernel
theorem dX6_many_16 : decode cX6_many 16 = .ok (.ldc 58, 2) := by decide +kernel
theorem dX6_many_18 : decode cX6_many 18 = .ok (.iand, 1) := by decide +kernel
theorem dX6_many_19 : decode cX6_many 19 = .ok (.iadd, 1) := by decide +kernel
theorem dX6_many_20 : decode cX6_many 20 = .ok (.istore_n 1, 1) := by decide +kernel
theorem dX6_many_21 : decode cX6_many 21 = .ok (.iload_n 1, 1) := by decide +kernel
theorem dX6_many_22 : decode cX6_many 22 = .ok (.iload_n 1, 1) := by decide +kernel
theorem dX6_many_23 : decode cX6_many 23 = .ok (.iconst 4, 1) := by decide +kernel
theorem dX6_many_24 : decode cX6_many 24 = .ok (.iushr, 1) := by decide +kernel
theorem dX6_many_25 : decode cX6_many 25 = .ok (.iadd, 1) := by decide +kernel
theorem dX6_many_26 : decode cX6_many 26 = .ok (.ldc 59, 2) := by decide +kernel
theorem dX6_many_28 : decode cX6_many 28 = .ok (.iand, 1) := by decide +kernel
theorem dX6_many_29 : decode cX6_many 29 = .ok (.istore_n 1, 1) := by decide +kernel
theorem dX6_many_30 : decode cX6_many 30 = .ok (.iload_n 1, 1) := by decide +kernel
theorem dX6_many_31 : decode cX6_many 31 = .ok (.ldc 60, 2) := by decide +kernel
theorem dX6_many_33 : decode cX6_many 33 = .ok (.imul, 1) := by decide +kernel
theorem dX6_many_34 : decode cX6_many 34 = .ok (.bipush 24, 2) := by decide +kernel
theorem dX6_many_36 : decode cX6_many 36 = .ok (.iushr, 1) := by decide +kernel
theorem dX6_many_37 : decode cX6_many 37 = .ok (.ireturn, 1) := by decide +kernel
theorem dX6_wordComes_0 : decode cX6_wordComes 0 = .ok (.aload_n 0, 1) := by decide +kernel
theorem dX6_wordComes_1 : decode cX6_wordComes 1 = .ok (.getfield 9, 3) := by decide +kernel
theorem dX6_wordComes_4 : decode cX6_wordComes 4 = .ok (.iconst 0, 1) := by decide +kernel
theorem dX6_wordComes_5 : decode cX6_wordComes 5 = .ok (.iaload, 1) := by decide +kernel
theorem dX6_wordComes_6 : decode cX6_wordComes 6 = .ok (.istore 4, 2) := by decide +kernel
theorem dX6_wordComes_8 : decode cX6_wordComes 8 = .ok (.aload_n 0, 1) := by decide +kernel
theorem dX6_wordComes_9 : decode cX6_wordComes 9 = .ok (.getfield 9, 3) := by decide +kernel
theorem dX6_wordComes_12 : decode cX6_wordComes 12 = .ok (.iconst 0, 1) := by decide +kernel
theorem dX6_wordComes_13 : decode cX6_wordComes 13 = .ok (.dup2, 1) := by decide +kernel
theorem dX6_wordComes_14 : decode cX6_wordComes 14 = .ok (.iaload, 1) := by decide +kernel
theorem dX6_wordComes_15 : decode cX6_wordComes 15 = .ok (.iconst 1, 1) := by decide +kernel
theorem dX6_wordComes_16 : decode cX6_wordComes 16 = .ok (.iadd, 1) := by decide +kernel
theorem dX6_wordComes_17 : decode cX6_wordComes 17 = .ok (.iastore, 1) := by decide +kernel
theorem dX6_wordComes_18 : decode cX6_wordComes 18 = .ok (.aload_n 0, 1) := by decide +kernel
theorem dX6_wordComes_19 : decode cX6_wordComes 19 = .ok (.getfield 9, 3) := by decide +kernel
theorem dX6_wordComes_22 : decode cX6_wordComes 22 = .ok (.bipush 10, 2) := by decide +kernel
theorem dX6_wordComes_24 : decode cX6_wordComes 24 = .ok (.iconst 3, 1) := by decide +kernel
theorem dX6_wordComes_25 : decode cX6_wordComes 25 = .ok (.iload 4, 2) := by decide +kernel
theorem dX6_wordComes_27 : decode cX6_wordComes 27 = .ok (.imul, 1) := by decide +kernel
theorem dX6_wordComes_28 : decode cX6_wordComes 28 = .ok (.iadd, 1) := by decide +kernel
theorem dX6_wordComes_29 : decode cX6_wordComes 29 = .ok (.iload_n 1, 1) := by decide +kernel
theorem dX6_wordComes_30 : decode cX6_wordComes 30 = .ok (.iastore, 1) := by decide +kernel
theorem dX6_wordComes_31 : decode cX6_wordComes 31 = .ok (.aload_n 0, 1) := by decide +kernel
theorem dX6_wordComes_32 : decode cX6_wordComes 32 = .ok (.getfield 9, 3) := by decide +kernel
theorem dX6_wordComes_35 : decode cX6_wordComes 35 = .ok (.bipush 10, 2) := by decide +kernel
theorem dX6_wordComes_37 : decode cX6_wordComes 37 = .ok (.iconst 3, 1) := by decide +kernel
theorem dX6_wordComes_38 : decode cX6_wordComes 38 = .ok (.iload 4, 2) := by decide +kernel
theorem dX6_wordComes_40 : decode cX6_wordComes 40 = .ok (.imul, 1) := by decide +kernel
theorem dX6_wordComes_41 : decode cX6_wordComes 41 = .ok (.iadd, 1) := by decide +kernel
theorem dX6_wordComes_42 : decode cX6_wordComes 42 = .ok (.iconst 1, 1) := by decide +kernel
theorem dX6_wordComes_43 : decode cX6_wordComes 43 = .ok (.iadd, 1) := by decide +kernel
theorem dX6_wordComes_44 : decode cX6_wordComes 44 = .ok (.iload_n 2, 1) := by decide +kernel
theorem dX6_wordComes_45 : decode cX6_wordComes 45 = .ok (.iastore, 1) := by decide +kernel
theorem dX6_wordComes_46 : decode cX6_wordComes 46 = .ok (.aload_n 0, 1) := by decide +kernel
theorem dX6_wordComes_47 : decode cX6_wordComes 47 = .ok (.getfield 9, 3) := by decide +kernel
theorem dX6_wordComes_50 : decode cX6_wordComes 50 = .ok (.bipush 10, 2) := by decide +kernel
theorem dX6_wordComes_52 : decode cX6_wordComes 52 = .ok (.iconst 3, 1) := by decide +kernel
theorem dX6_wordComes_53 : decode cX6_wordComes 53 = .ok (.iload 4, 2) := by decide +kernel
theorem dX6_wordComes_55 : decode cX6_wordComes 55 = .ok (.imul, 1) := by decide +kernel
theorem dX6_wordComes_56 : decode cX6_wordComes 56 = .ok (.iadd, 1) := by decide +kernel
theorem dX6_wordComes_57 : decode cX6_wordComes 57 = .ok (.iconst 2, 1) := by decide +kernel
theorem dX6_wordComes_58 : decode cX6_wordComes 58 = .ok (.iadd, 1) := by decide +kernel
theorem dX6_wordComes_59 : decode cX6_wordComes 59 = .ok (.iload_n 3, 1) := by decide +kernel
theorem dX6_wordComes_60 : decode cX6_wordComes 60 = .ok (.iastore, 1) := by decide +kernel
theorem dX6_wordComes_61 : decode cX6_wordComes 61 = .ok (.iload 4, 2) := by decide +kernel
theorem dX6_wordComes_63 : decode cX6_wordComes 63 = .ok (.ireturn, 1) := by decide +kernel
theorem dX6_isPart_0 : decode cX6_isPart 0 = .ok (.iload_n 0, 1) := by decide +kernel
theorem dX6_isPart_1 : decode cX6_isPart 1 = .ok (.ifCond .ne 15, 3) := by decide +kernel
theorem dX6_isPart_4 : decode cX6_isPart 4 = .ok (.iload_n 1, 1) := by decide +kernel
theorem dX6_isPart_5 : decode cX6_isPart 5 = .ok (.i2l, 1) := by decide +kernel
theorem dX6_isPart_6 : decode cX6_isPart 6 = .ok (.lconst 1, 1) := by decide +kernel
theorem dX6_isPart_7 : decode cX6_isPart 7 = .ok (.ldc2_w 53, 3) := by decide +kernel
theorem dX6_isPart_10 : decode cX6_isPart 10 = .ok (.invokestatic 49, 3) := by decide +kernel
theorem dX6_isPart_13 : decode cX6_isPart 13 = .ok (.goto 32, 3) := by decide +kernel
theorem dX6_isPart_16 : decode cX6_isPart 16 = .ok (.iload_n 0, 1) := by decide +kernel
theorem dX6_isPart_17 : decode cX6_isPart 17 = .ok (.i2l, 1) := by decide +kernel
theorem dX6_isPart_18 : decode cX6_isPart 18 = .ok (.lconst 1, 1) := by decide +kernel
theorem dX6_isPart_19 : decode cX6_isPart 19 = .ok (.ldc2_w 61, 3) := by decide +kernel
theorem dX6_isPart_22 : decode cX6_isPart 22 = .ok (.invokestatic 49, 3) := by decide +kernel
theorem dX6_isPart_25 : decode cX6_isPart 25 = .ok (.ifCond .eq 19, 3) := by decide +kernel
theorem dX6_isPart_28 : decode cX6_isPart 28 = .ok (.iload_n 1, 1) := by decide +kernel
theorem dX6_isPart_29 : decode cX6_isPart 29 = .ok (.i2l, 1) := by decide +kernel
theorem dX6_isPart_30 : decode cX6_isPart 30 = .ok (.lconst 0, 1) := by decide +kernel
theorem dX6_isPart_31 : decode cX6_isPart 31 = .ok (.ldc2_w 63, 3) := by decide +kernel
theorem dX6_isPart_34 : decode cX6_isPart 34 = .ok (.invokestatic 49, 3) := by decide +kernel
theorem dX6_isPart_37 : decode cX6_isPart 37 = .ok (.ifCond .eq 7, 3) := by decide +kernel
theorem dX6_isPart_40 : decode cX6_isPart 40 = .ok (.iconst 1, 1) := by decide +kernel
theorem dX6_isPart_41 : decode cX6_isPart 41 = .ok (.goto 4, 3) := by decide +kernel
theorem dX6_isPart_44 : decode cX6_isPart 44 = .ok (.iconst 0, 1) := by decide +kernel
theorem dX6_isPart_45 : decode cX6_isPart 45 = .ok (.ireturn, 1) := by decide +kernel
theorem dX6_word_0 : decode cX6_word 0 = .ok (.iconst 0, 1) := by decide +kernel
theorem dX6_word_1 : decode cX6_word 1 = .ok (.iload_n 1, 1) := by decide +kernel
theorem dX6_word_2 : decode cX6_word 2 = .ok (.invokestatic 65, 3) := by decide +kernel
theorem dX6_word_5 : decode cX6_word 5 = .ok (.ifCond .eq 19, 3) := by decide +kernel
theorem dX6_word_8 : decode cX6_word 8 = .ok (.iconst 1, 1) := by decide +kernel
theorem dX6_word_9 : decode cX6_word 9 = .ok (.iload_n 2, 1) := by decide +kernel
theorem dX6_word_10 : decode cX6_word 10 = .ok (.invokestatic 65, 3) := by decide +kernel
theorem dX6_word_13 : decode cX6_word 13 = .ok (.ifCond .eq 11, 3) := by decide +kernel
theorem dX6_word_16 : decode cX6_word 16 = .ok (.iconst 2, 1) := by decide +kernel
theorem dX6_word_17 : decode cX6_word 17 = .ok (.iload_n 3, 1) := by decide +kernel
theorem dX6_word_18 : decode cX6_word 18 = .ok (.invokestatic 65, 3) := by decide +kernel
theorem dX6_word_21 : decode cX6_word 21 = .ok (.ifCond .ne 10, 3) := by decide +kernel
theorem dX6_word_24 : decode cX6_word 24 = .ok (.aload_n 0, 1) := by decide +kernel
theorem dX6_word_25 : decode cX6_word 25 = .ok (.ldc 43, 2) := by decide +kernel
theorem dX6_word_27 : decode cX6_word 27 = .ok (.invokevirtual 45, 3) := by decide +kernel
theorem dX6_word_30 : decode cX6_word 30 = .ok (.ireturn, 1) := by decide +kernel
theorem dX6_word_31 : decode cX6_word 31 = .ok (.aload_n 0, 1) := by decide +kernel
theorem dX6_word_32 : decode cX6_word 32 = .ok (.getfield 9, 3) := by decide +kernel
theorem dX6_word_35 : decode cX6_word 35 = .ok (.iconst 0, 1) := by decide +kernel
theorem dX6_word_36 : decode cX6_word 36 = .ok (.iaload, 1) := by decide +kernel
theorem dX6_word_37 : decode cX6_word 37 = .ok (.bipush 16, 2) := by decide +kernel
theorem dX6_word_39 : decode cX6_word 39 = .ok (.if_icmp .ne 12, 3) := by decide +kernel
theorem dX6_word_42 : decode cX6_word 42 = .ok (.aload_n 0, 1) := by decide +kernel
theorem dX6_word_43 : decode cX6_word 43 = .ok (.ldc 69, 2) := by decide +kernel
theorem dX6_word_45 : decode cX6_word 45 = .ok (.invokevirtual 45, 3) := by decide +kernel
theorem dX6_word_48 : decode cX6_word 48 = .ok (.goto 10, 3) := by decide +kernel
theorem dX6_word_51 : decode cX6_word 51 = .ok (.aload_n 0, 1) := by decide +kernel
theorem dX6_word_52 : decode cX6_word 52 = .ok (.iload_n 1, 1) := by decide +kernel
theorem dX6_word_53 : decode cX6_word 53 = .ok (.iload_n 2, 1) := by decide +kernel
theorem dX6_word_54 : decode cX6_word 54 = .ok (.iload_n 3, 1) := by decide +kernel
theorem dX6_word_55 : decode cX6_word 55 = .ok (.invokevirtual 70, 3) := by decide +kernel
theorem dX6_word_58 : decode cX6_word 58 = .ok (.ireturn, 1) := by decide +kernel
theorem dX6_titlesWith_0 : decode cX6_titlesWith 0 = .ok (.iconst 0, 1) := by decide +kernel
theorem dX6_titlesWith_1 : decode cX6_titlesWith 1 = .ok (.istore_n 2, 1) := by decide +kernel
theorem dX6_titlesWith_2 : decode cX6_titlesWith 2 = .ok (.iconst 0, 1) := by decide +kernel
theorem dX6_titlesWith_3 : decode cX6_titlesWith 3 = .ok (.istore_n 3, 1) := by decide +kernel
theorem dX6_titlesWith_4 : decode cX6_titlesWith 4 = .ok (.iload_n 3, 1) := by decide +kernel
theorem dX6_titlesWith_5 : decode cX6_titlesWith 5 = .ok (.aload_n 0, 1) := by decide +kernel
theorem dX6_titlesWith_6 : decode cX6_titlesWith 6 = .ok (.getfield 9, 3) := by decide +kernel
theorem dX6_titlesWith_9 : decode cX6_titlesWith 9 = .ok (.iconst 1, 1) := by decide +kernel
theorem dX6_titlesWith_10 : decode cX6_titlesWith 10 = .ok (.iaload, 1) := by decide +kernel
theorem dX6_titlesWith_11 : decode cX6_titlesWith 11 = .ok (.if_icmp .ge 70, 3) := by decide +kernel
theorem dX6_titlesWith_14 : decode cX6_titlesWith 14 = .ok (.iconst 0, 1) := by decide +kernel
theorem dX6_titlesWith_15 : decode cX6_titlesWith 15 = .ok (.istore 4, 2) := by decide +kernel
theorem dX6_titlesWith_17 : decode cX6_titlesWith 17 = .ok (.iconst 0, 1) := by decide +kernel
theorem dX6_titlesWith_18 : decode cX6_titlesWith 18 = .ok (.istore 5, 2) := by decide +kernel
theorem dX6_titlesWith_20 : decode cX6_titlesWith 20 = .ok (.iload 5, 2) := by decide +kernel
theorem dX6_titlesWith_22 : decode cX6_titlesWith 22 = .ok (.aload_n 0, 1) := by decide +kernel
theorem dX6_titlesWith_23 : decode cX6_titlesWith 23 = .ok (.iload_n 3, 1) := by decide +kernel
theorem dX6_titlesWith_24 : decode cX6_titlesWith 24 = .ok (.iconst 0, 1) := by decide +kernel
theorem dX6_titlesWith_25 : decode cX6_titlesWith 25 = .ok (.invokevirtual 74, 3) := by decide +kernel
theorem dX6_titlesWith_28 : decode cX6_titlesWith 28 = .ok (.if_icmp .ge 34, 3) := by decide +kernel
theorem dX6_titlesWith_31 : decode cX6_titlesWith 31 = .ok (.iload 4, 2) := by decide +kernel
theorem dX6_titlesWith_33 : decode cX6_titlesWith 33 = .ok (.ifCond .ne 16, 3) := by decide +kernel
theorem dX6_titlesWith_36 : decode cX6_titlesWith 36 = .ok (.aload_n 0, 1) := by decide +kernel
theorem dX6_titlesWith_37 : decode cX6_titlesWith 37 = .ok (.iload_n 3, 1) := by decide +kernel
theorem dX6_titlesWith_38 : decode cX6_titlesWith 38 = .ok (.iconst 1, 1) := by decide +kernel
theorem dX6_titlesWith_39 : decode cX6_titlesWith 39 = .ok (.iload 5, 2) := by decide +kernel
theorem dX6_titlesWith_41 : decode cX6_titlesWith 41 = .ok (.iadd, 1) := by decide +kernel
theorem dX6_titlesWith_42 : decode cX6_titlesWith 42 = .ok (.invokevirtual 74, 3) := by decide +kernel
theorem dX6_titlesWith_45 : decode cX6_titlesWith 45 = .ok (.iload_n 1, 1) := by decide +kernel
theorem dX6_titlesWith_46 : decode cX6_titlesWith 46 = .ok (.if_icmp .ne 7, 3) := by decide +kernel
theorem dX6_titlesWith_49 : decode cX6_titlesWith 49 = .ok (.iconst 1, 1) := by decide +kernel
theorem dX6_titlesWith_50 : decode cX6_titlesWith 50 = .ok (.goto 4, 3) := by decide +kernel
theorem dX6_titlesWith_53 : decode cX6_titlesWith 53 = .ok (.iconst 0, 1) := by decide +kernel
theorem dX6_titlesWith_54 : decode cX6_titlesWith 54 = .ok (.istore 4, 2) := by decide +kernel
theorem dX6_titlesWith_56 : decode cX6_titlesWith 56 = .ok (.iinc 5 1, 3) := by decide +kernel
theorem dX6_titlesWith_59 : decode cX6_titlesWith 59 = .ok (.goto (-39), 3) := by decide +kernel
theorem dX6_titlesWith_62 : decode cX6_titlesWith 62 = .ok (.iload_n 2, 1) := by decide +kernel
theorem dX6_titlesWith_63 : decode cX6_titlesWith 63 = .ok (.iload 4, 2) := by decide +kernel
theorem dX6_titlesWith_65 : decode cX6_titlesWith 65 = .ok (.ifCond .eq 7, 3) := by decide +kernel
theorem dX6_titlesWith_68 : decode cX6_titlesWith 68 = .ok (.iconst 1, 1) := by decide +kernel
theorem dX6_titlesWith_69 : decode cX6_titlesWith 69 = .ok (.goto 4, 3) := by decide +kernel
theorem dX6_titlesWith_72 : decode cX6_titlesWith 72 = .ok (.iconst 0, 1) := by decide +kernel
theorem dX6_titlesWith_73 : decode cX6_titlesWith 73 = .ok (.iadd, 1) := by decide +kernel
theorem dX6_titlesWith_74 : decode cX6_titlesWith 74 = .ok (.istore_n 2, 1) := by decide +kernel
theorem dX6_titlesWith_75 : decode cX6_titlesWith 75 = .ok (.iinc 3 1, 3) := by decide +kernel
theorem dX6_titlesWith_78 : decode cX6_titlesWith 78 = .ok (.goto (-74), 3) := by decide +kernel
theorem dX6_titlesWith_81 : decode cX6_titlesWith 81 = .ok (.iload_n 2, 1) := by decide +kernel
theorem dX6_titlesWith_82 : decode cX6_titlesWith 82 = .ok (.ireturn, 1) := by decide +kernel
theorem dX6_wordOf_0 : decode cX6_wordOf 0 = .ok (.aload_n 0, 1) := by decide +kernel
theorem dX6_wordOf_1 : decode cX6_wordOf 1 = .ok (.iload_n 1, 1) := by decide +kernel
theorem dX6_wordOf_2 : decode cX6_wordOf 2 = .ok (.invokevirtual 78, 3) := by decide +kernel
theorem dX6_wordOf_5 : decode cX6_wordOf 5 = .ok (.ifCond .eq 15, 3) := by decide +kernel
theorem dX6_wordOf_8 : decode cX6_wordOf 8 = .ok (.iload_n 2, 1) := by decide +kernel
theorem dX6_wordOf_9 : decode cX6_wordOf 9 = .ok (.i2l, 1) := by decide +kernel
theorem dX6_wordOf_10 : decode cX6_wordOf 10 = .ok (.lconst 0, 1) := by decide +kernel
theorem dX6_wordOf_11 : decode cX6_wordOf 11 = .ok (.ldc2_w 55, 3) := by decide +kernel
theorem dX6_wordOf_14 : decode cX6_wordOf 14 = .ok (.invokestatic 49, 3) := by decide +kernel
theorem dX6_wordOf_17 : decode cX6_wordOf 17 = .ok (.ifCond .ne 10, 3) := by decide +kernel
theorem dX6_wordOf_20 : decode cX6_wordOf 20 = .ok (.aload_n 0, 1) := by decide +kernel
theorem dX6_wordOf_21 : decode cX6_wordOf 21 = .ok (.ldc 43, 2) := by decide +kernel
theorem dX6_wordOf_23 : decode cX6_wordOf 23 = .ok (.invokevirtual 45, 3) := by decide +kernel
theorem dX6_wordOf_26 : decode cX6_wordOf 26 = .ok (.ireturn, 1) := by decide +kernel
theorem dX6_wordOf_27 : decode cX6_wordOf 27 = .ok (.iload_n 2, 1) := by decide +kernel
theorem dX6_wordOf_28 : decode cX6_wordOf 28 = .ok (.iconst 3, 1) := by decide +kernel
theorem dX6_wordOf_29 : decode cX6_wordOf 29 = .ok (.if_icmp .ge 12, 3) := by decide +kernel
theorem dX6_wordOf_32 : decode cX6_wordOf 32 = .ok (.aload_n 0, 1) := by decide +kernel
theorem dX6_wordOf_33 : decode cX6_wordOf 33 = .ok (.iload_n 1, 1) := by decide +kernel
theorem dX6_wordOf_34 : decode cX6_wordOf 34 = .ok (.iload_n 2, 1) := by decide +kernel
theorem dX6_wordOf_35 : decode cX6_wordOf 35 = .ok (.invokevirtual 82, 3) := by decide +kernel
theorem dX6_wordOf_38 : decode cX6_wordOf 38 = .ok (.goto 8, 3) := by decide +kernel
theorem dX6_wordOf_41 : decode cX6_wordOf 41 = .ok (.aload_n 0, 1) := by decide +kernel
theorem dX6_wordOf_42 : decode cX6_wordOf 42 = .ok (.iload_n 1, 1) := by decide +kernel
theorem dX6_wordOf_43 : decode cX6_wordOf 43 = .ok (.invokevirtual 85, 3) := by decide +kernel
theorem dX6_wordOf_46 : decode cX6_wordOf 46 = .ok (.ireturn, 1) := by decide +kernel
theorem dX6_change_0 : decode cX6_change 0 = .ok (.aload_n 0, 1) := by decide +kernel
theorem dX6_change_1 : decode cX6_change 1 = .ok (.iload_n 1, 1) := by decide +kernel
theorem dX6_change_2 : decode cX6_change 2 = .ok (.invokevirtual 78, 3) := by decide +kernel
theorem dX6_change_5 : decode cX6_change 5 = .ok (.ifCond .eq 27, 3) := by decide +kernel
theorem dX6_change_8 : decode cX6_change 8 = .ok (.iload_n 2, 1) := by decide +kernel
theorem dX6_change_9 : decode cX6_change 9 = .ok (.iload_n 3, 1) := by decide +kernel
theorem dX6_change_10 : decode cX6_change 10 = .ok (.invokestatic 65, 3) := by decide +kernel
theorem dX6_change_13 : decode cX6_change 13 = .ok (.ifCond .eq 19, 3) := by decide +kernel
theorem dX6_change_16 : decode cX6_change 16 = .ok (.aload_n 0, 1) := by decide +kernel
theorem dX6_change_17 : decode cX6_change 17 = .ok (.bipush 10, 2) := by decide +kernel
theorem dX6_change_19 : decode cX6_change 19 = .ok (.iconst 3, 1) := by decide +kernel
theorem dX6_change_20 : decode cX6_change 20 = .ok (.iload_n 1, 1) := by decide +kernel
theorem dX6_change_21 : decode cX6_change 21 = .ok (.imul, 1) := by decide +kernel
theorem dX6_change_22 : decode cX6_change 22 = .ok (.iadd, 1) := by decide +kernel
theorem dX6_change_23 : decode cX6_change 23 = .ok (.iload_n 2, 1) := by decide +kernel
theorem dX6_change_24 : decode cX6_change 24 = .ok (.iadd, 1) := by decide +kernel
theorem dX6_change_25 : decode cX6_change 25 = .ok (.iload_n 3, 1) := by decide +kernel
theorem dX6_change_26 : decode cX6_change 26 = .ok (.invokevirtual 88, 3) := by decide +kernel
theorem dX6_change_29 : decode cX6_change 29 = .ok (.goto 9, 3) := by decide +kernel
theorem dX6_change_32 : decode cX6_change 32 = .ok (.aload_n 0, 1) := by decide +kernel
theorem dX6_change_33 : decode cX6_change 33 = .ok (.ldc 43, 2) := by decide +kernel
theorem dX6_change_35 : decode cX6_change 35 = .ok (.invokevirtual 45, 3) := by decide +kernel
theorem dX6_change_38 : decode cX6_change 38 = .ok (.ireturn, 1) := by decide +kernel
theorem dX6_titleComes_0 : decode cX6_titleComes 0 = .ok (.aload_n 0, 1) := by decide +kernel
theorem dX6_titleComes_1 : decode cX6_titleComes 1 = .ok (.getfield 9, 3) := by decide +kernel
theorem dX6_titleComes_4 : decode cX6_titleComes 4 = .ok (.iconst 1, 1) := by decide +kernel
theorem dX6_titleComes_5 : decode cX6_titleComes 5 = .ok (.iaload, 1) := by decide +kernel
theorem dX6_titleComes_6 : decode cX6_titleComes 6 = .ok (.istore_n 2, 1) := by decide +kernel
theorem dX6_titleComes_7 : decode cX6_titleComes 7 = .ok (.aload_n 0, 1) := by decide +kernel
theorem dX6_titleComes_8 : decode cX6_titleComes 8 = .ok (.getfield 9, 3) := by decide +kernel
theorem dX6_titleComes_11 : decode cX6_titleComes 11 = .ok (.iconst 1, 1) := by decide +kernel
theorem dX6_titleComes_12 : decode cX6_titleComes 12 = .ok (.dup2, 1) := by decide +kernel
theorem dX6_titleComes_13 : decode cX6_titleComes 13 = .ok (.iaload, 1) := by decide +kernel
theorem dX6_titleComes_14 : decode cX6_titleComes 14 = .ok (.iconst 1, 1) := by decide +kernel
theorem dX6_titleComes_15 : decode cX6_titleComes 15 = .ok (.iadd, 1) := by decide +kernel
theorem dX6_titleComes_16 : decode cX6_titleComes 16 = .ok (.iastore, 1) := by decide +kernel
theorem dX6_titleComes_17 : decode cX6_titleComes 17 = .ok (.bipush 58, 2) := by decide +kernel
theorem dX6_titleComes_19 : decode cX6_titleComes 19 = .ok (.bipush 6, 2) := by decide +kernel
theorem dX6_titleComes_21 : decode cX6_titleComes 21 = .ok (.iload_n 2, 1) := by decide +kernel
theorem dX6_titleComes_22 : decode cX6_titleComes 22 = .ok (.imul, 1) := by decide +kernel
theorem dX6_titleComes_23 : decode cX6_titleComes 23 = .ok (.iadd, 1) := by decide +kernel
theorem dX6_titleComes_24 : decode cX6_titleComes 24 = .ok (.istore_n 3, 1) := by decide +kernel
theorem dX6_titleComes_25 : decode cX6_titleComes 25 = .ok (.iconst 0, 1) := by decide +kernel
theorem dX6_titleComes_26 : decode cX6_titleComes 26 = .ok (.istore 4, 2) := by decide +kernel
theorem dX6_titleComes_28 : decode cX6_titleComes 28 = .ok (.iload 4, 2) := by decide +kernel
theorem dX6_titleComes_30 : decode cX6_titleComes 30 = .ok (.bipush 6, 2) := by decide +kernel
theorem dX6_titleComes_32 : decode cX6_titleComes 32 = .ok (.if_icmp .ge 19, 3) := by decide +kernel
theorem dX6_titleComes_35 : decode cX6_titleComes 35 = .ok (.aload_n 0, 1) := by decide +kernel
theorem dX6_titleComes_36 : decode cX6_titleComes 36 = .ok (.getfield 9, 3) := by decide +kernel
theorem dX6_titleComes_39 : decode cX6_titleComes 39 = .ok (.iload_n 3, 1) := by decide +kernel
theorem dX6_titleComes_40 : decode cX6_titleComes 40 = .ok (.iload 4, 2) := by decide +kernel
theorem dX6_titleComes_42 : decode cX6_titleComes 42 = .ok (.iadd, 1) := by decide +kernel
theorem dX6_titleComes_43 : decode cX6_titleComes 43 = .ok (.iconst 0, 1) := by decide +kernel
theorem dX6_titleComes_44 : decode cX6_titleComes 44 = .ok (.iastore, 1) := by decide +kernel
theorem dX6_titleComes_45 : decode cX6_titleComes 45 = .ok (.iinc 4 1, 3) := by decide +kernel
theorem dX6_titleComes_48 : decode cX6_titleComes 48 = .ok (.goto (-20), 3) := by decide +kernel
theorem dX6_titleComes_51 : decode cX6_titleComes 51 = .ok (.aload_n 0, 1) := by decide +kernel
theorem dX6_titleComes_52 : decode cX6_titleComes 52 = .ok (.getfield 9, 3) := by decide +kernel
theorem dX6_titleComes_55 : decode cX6_titleComes 55 = .ok (.iload_n 3, 1) := by decide +kernel
theorem dX6_titleComes_56 : decode cX6_titleComes 56 = .ok (.iconst 1, 1) := by decide +kernel
theorem dX6_titleComes_57 : decode cX6_titleComes 57 = .ok (.iastore, 1) := by decide +kernel
theorem dX6_titleComes_58 : decode cX6_titleComes 58 = .ok (.aload_n 0, 1) := by decide +kernel
theorem dX6_titleComes_59 : decode cX6_titleComes 59 = .ok (.getfield 9, 3) := by decide +kernel
theorem dX6_titleComes_62 : decode cX6_titleComes 62 = .ok (.iload_n 3, 1) := by decide +kernel
theorem dX6_titleComes_63 : decode cX6_titleComes 63 = .ok (.iconst 1, 1) := by decide +kernel
theorem dX6_titleComes_64 : decode cX6_titleComes 64 = .ok (.iadd, 1) := by decide +kernel
theorem dX6_titleComes_65 : decode cX6_titleComes 65 = .ok (.iload_n 1, 1) := by decide +kernel
theorem dX6_titleComes_66 : decode cX6_titleComes 66 = .ok (.iastore, 1) := by decide +kernel
theorem dX6_titleComes_67 : decode cX6_titleComes 67 = .ok (.aload_n 0, 1) := by decide +kernel
theorem dX6_titleComes_68 : decode cX6_titleComes 68 = .ok (.getfield 9, 3) := by decide +kernel
theorem dX6_titleComes_71 : decode cX6_titleComes 71 = .ok (.iload_n 3, 1) := by decide +kernel
theorem dX6_titleComes_72 : decode cX6_titleComes 72 = .ok (.iconst 5, 1) := by decide +kernel
theorem dX6_titleComes_73 : decode cX6_titleComes 73 = .ok (.iadd, 1) := by decide +kernel
theorem dX6_titleComes_74 : decode cX6_titleComes 74 = .ok (.iconst 3, 1) := by decide +kernel
theorem dX6_titleComes_75 : decode cX6_titleComes 75 = .ok (.iastore, 1) := by decide +kernel
theorem dX6_titleComes_76 : decode cX6_titleComes 76 = .ok (.iload_n 2, 1) := by decide +kernel
theorem dX6_titleComes_77 : decode cX6_titleComes 77 = .ok (.ireturn, 1) := by decide +kernel
theorem dX6_title_0 : decode cX6_title 0 = .ok (.aload_n 0, 1) := by decide +kernel
theorem dX6_title_1 : decode cX6_title 1 = .ok (.iload_n 1, 1) := by decide +kernel
theorem dX6_title_2 : decode cX6_title 2 = .ok (.invokevirtual 78, 3) := by decide +kernel
theorem dX6_title_5 : decode cX6_title 5 = .ok (.ifCond .ne 10, 3) := by decide +kernel
theorem dX6_title_8 : decode cX6_title 8 = .ok (.aload_n 0, 1) := by decide +kernel
theorem dX6_title_9 : decode cX6_title 9 = .ok (.ldc 43, 2) := by decide +kernel
theorem dX6_title_11 : decode cX6_title 11 = .ok (.invokevirtual 45, 3) := by decide +kernel
theorem dX6_title_14 : decode cX6_title 14 = .ok (.ireturn, 1) := by decide +kernel
theorem dX6_title_15 : decode cX6_title 15 = .ok (.aload_n 0, 1) := by decide +kernel
theorem dX6_title_16 : decode cX6_title 16 = .ok (.getfield 9, 3) := by decide +kernel
theorem dX6_title_19 : decode cX6_title 19 = .ok (.iconst 1, 1) := by decide +kernel
theorem dX6_title_20 : decode cX6_title 20 = .ok (.iaload, 1) := by decide +kernel
theorem dX6_title_21 : decode cX6_title 21 = .ok (.bipush 24, 2) := by decide +kernel
theorem dX6_title_23 : decode cX6_title 23 = .ok (.if_icmp .ne 12, 3) := by decide +kernel
theorem dX6_title_26 : decode cX6_title 26 = .ok (.aload_n 0, 1) := by decide +kernel
theorem dX6_title_27 : decode cX6_title 27 = .ok (.ldc 69, 2) := by decide +kernel
theorem dX6_title_29 : decode cX6_title 29 = .ok (.invokevirtual 45, 3) := by decide +kernel
theorem dX6_title_32 : decode cX6_title 32 = .ok (.goto 8, 3) := by decide +kernel
theorem dX6_title_35 : decode cX6_title 35 = .ok (.aload_n 0, 1) := by decide +kernel
theorem dX6_title_36 : decode cX6_title 36 = .ok (.iload_n 1, 1) := by decide +kernel
theorem dX6_title_37 : decode cX6_title 37 = .ok (.invokevirtual 91, 3) := by decide +kernel
theorem dX6_title_40 : decode cX6_title 40 = .ok (.ireturn, 1) := by decide +kernel
theorem dX6_goesBehind_0 : decode cX6_goesBehind 0 = .ok (.bipush 58, 2) := by decide +kernel
theorem dX6_goesBehind_2 : decode cX6_goesBehind 2 = .ok (.bipush 6, 2) := by decide +kernel
theorem dX6_goesBehind_4 : decode cX6_goesBehind 4 = .ok (.iload_n 1, 1) := by decide +kernel
theorem dX6_goesBehind_5 : decode cX6_goesBehind 5 = .ok (.imul, 1) := by decide +kernel
theorem dX6_goesBehind_6 : decode cX6_goesBehind 6 = .ok (.iadd, 1) := by decide +kernel
theorem dX6_goesBehind_7 : decode cX6_goesBehind 7 = .ok (.istore_n 3, 1) := by decide +kernel
theorem dX6_goesBehind_8 : decode cX6_goesBehind 8 = .ok (.aload_n 0, 1) := by decide +kernel
theorem dX6_goesBehind_9 : decode cX6_goesBehind 9 = .ok (.getfield 9, 3) := by decide +kernel
theorem dX6_goesBehind_12 : decode cX6_goesBehind 12 = .ok (.iload_n 3, 1) := by decide +kernel
theorem dX6_goesBehind_13 : decode cX6_goesBehind 13 = .ok (.iconst 1, 1) := by decide +kernel
theorem dX6_goesBehind_14 : decode cX6_goesBehind 14 = .ok (.iadd, 1) := by decide +kernel
theorem dX6_goesBehind_15 : decode cX6_goesBehind 15 = .ok (.aload_n 0, 1) := by decide +kernel
theorem dX6_goesBehind_16 : decode cX6_goesBehind 16 = .ok (.getfield 9, 3) := by decide +kernel
theorem dX6_goesBehind_19 : decode cX6_goesBehind 19 = .ok (.iload_n 3, 1) := by decide +kernel
theorem dX6_goesBehind_20 : decode cX6_goesBehind 20 = .ok (.iaload, 1) := by decide +kernel
theorem dX6_goesBehind_21 : decode cX6_goesBehind 21 = .ok (.iadd, 1) := by decide +kernel
theorem dX6_goesBehind_22 : decode cX6_goesBehind 22 = .ok (.iload_n 2, 1) := by decide +kernel
theorem dX6_goesBehind_23 : decode cX6_goesBehind 23 = .ok (.iastore, 1) := by decide +kernel
theorem dX6_goesBehind_24 : decode cX6_goesBehind 24 = .ok (.aload_n 0, 1) := by decide +kernel
theorem dX6_goesBehind_25 : decode cX6_goesBehind 25 = .ok (.getfield 9, 3) := by decide +kernel
theorem dX6_goesBehind_28 : decode cX6_goesBehind 28 = .ok (.iload_n 3, 1) := by decide +kernel
theorem dX6_goesBehind_29 : decode cX6_goesBehind 29 = .ok (.dup2, 1) := by decide +kernel
theorem dX6_goesBehind_30 : decode cX6_goesBehind 30 = .ok (.iaload, 1) := by decide +kernel
theorem dX6_goesBehind_31 : decode cX6_goesBehind 31 = .ok (.iconst 1, 1) := by decide +kernel
theorem dX6_goesBehind_32 : decode cX6_goesBehind 32 = .ok (.iadd, 1) := by decide +kernel
theorem dX6_goesBehind_33 : decode cX6_goesBehind 33 = .ok (.iastore, 1) := by decide +kernel
theorem dX6_goesBehind_34 : decode cX6_goesBehind 34 = .ok (.aload_n 0, 1) := by decide +kernel
theorem dX6_goesBehind_35 : decode cX6_goesBehind 35 = .ok (.getfield 9, 3) := by decide +kernel
theorem dX6_goesBehind_38 : decode cX6_goesBehind 38 = .ok (.iload_n 3, 1) := by decide +kernel
theorem dX6_goesBehind_39 : decode cX6_goesBehind 39 = .ok (.iaload, 1) := by decide +kernel
theorem dX6_goesBehind_40 : decode cX6_goesBehind 40 = .ok (.ireturn, 1) := by decide +kernel
theorem dX6_more_0 : decode cX6_more 0 = .ok (.aload_n 0, 1) := by decide +kernel
theorem dX6_more_1 : decode cX6_more 1 = .ok (.iload_n 1, 1) := by decide +kernel
theorem dX6_more_2 : decode cX6_more 2 = .ok (.invokevirtual 94, 3) := by decide +kernel
theorem dX6_more_5 : decode cX6_more 5 = .ok (.ifCond .eq 11, 3) := by decide +kernel
theorem dX6_more_8 : decode cX6_more 8 = .ok (.aload_n 0, 1) := by decide +kernel
theorem dX6_more_9 : decode cX6_more 9 = .ok (.iload_n 2, 1) := by decide +kernel
theorem dX6_more_10 : decode cX6_more 10 = .ok (.invokevirtual 78, 3) := by decide +kernel
theorem dX6_more_13 : decode cX6_more 13 = .ok (.ifCond .ne 10, 3) := by decide +kernel
theorem dX6_more_16 : decode cX6_more 16 = .ok (.aload_n 0, 1) := by decide +kernel
theorem dX6_more_17 : decode cX6_more 17 = .ok (.ldc 43, 2) := by decide +kernel
theorem dX6_more_19 : decode cX6_more 19 = .ok (.invokevirtual 45, 3) := by decide +kernel
theorem dX6_more_22 : decode cX6_more 22 = .ok (.ireturn, 1) := by decide +kernel
theorem dX6_more_23 : decode cX6_more 23 = .ok (.aload_n 0, 1) := by decide +kernel
theorem dX6_more_24 : decode cX6_more 24 = .ok (.iload_n 1, 1) := by decide +kernel
theorem dX6_more_25 : decode cX6_more 25 = .ok (.iconst 0, 1) := by decide +kernel
theorem dX6_more_26 : decode cX6_more 26 = .ok (.invokevirtual 74, 3) := by decide +kernel
theorem dX6_more_29 : decode cX6_more 29 = .ok (.iconst 4, 1) := by decide +kernel
theorem dX6_more_30 : decode cX6_more 30 = .ok (.if_icmp .ne 12, 3) := by decide +kernel
theorem dX6_more_33 : decode cX6_more 33 = .ok (.aload_n 0, 1) := by decide +kernel
theorem dX6_more_34 : decode cX6_more 34 = .ok (.ldc 69, 2) := by decide +kernel
theorem dX6_more_36 : decode cX6_more 36 = .ok (.invokevirtual 45, 3) := by decide +kernel
theorem dX6_more_39 : decode cX6_more 39 = .ok (.goto 9, 3) := by decide +kernel
theorem dX6_more_42 : decode cX6_more 42 = .ok (.aload_n 0, 1) := by decide +kernel
theorem dX6_more_43 : decode cX6_more 43 = .ok (.iload_n 1, 1) := by decide +kernel
theorem dX6_more_44 : decode cX6_more 44 = .ok (.iload_n 2, 1) := by decide +kernel
theorem dX6_more_45 : decode cX6_more 45 = .ok (.invokevirtual 97, 3) := by decide +kernel
theorem dX6_more_48 : decode cX6_more 48 = .ok (.ireturn, 1) := by decide +kernel
theorem dX6_ith_0 : decode cX6_ith 0 = .ok (.aload_n 0, 1) := by decide +kernel
theorem dX6_ith_1 : decode cX6_ith 1 = .ok (.iload_n 1, 1) := by decide +kernel
theorem dX6_ith_2 : decode cX6_ith 2 = .ok (.invokevirtual 94, 3) := by decide +kernel
theorem dX6_ith_5 : decode cX6_ith 5 = .ok (.ifCond .eq 15, 3) := by decide +kernel
theorem dX6_ith_8 : decode cX6_ith 8 = .ok (.iload_n 2, 1) := by decide +kernel
theorem dX6_ith_9 : decode cX6_ith 9 = .ok (.i2l, 1) := by decide +kernel
theorem dX6_ith_10 : decode cX6_ith 10 = .ok (.lconst 0, 1) := by decide +kernel
theorem dX6_ith_11 : decode cX6_ith 11 = .ok (.ldc2_w 55, 3) := by decide +kernel
theorem dX6_ith_14 : decode cX6_ith 14 = .ok (.invokestatic 49, 3) := by decide +kernel
theorem dX6_ith_17 : decode cX6_ith 17 = .ok (.ifCond .ne 10, 3) := by decide +kernel
theorem dX6_ith_20 : decode cX6_ith 20 = .ok (.aload_n 0, 1) := by decide +kernel
theorem dX6_ith_21 : decode cX6_ith 21 = .ok (.ldc 43, 2) := by decide +kernel
theorem dX6_ith_23 : decode cX6_ith 23 = .ok (.invokevirtual 45, 3) := by decide +kernel
theorem dX6_ith_26 : decode cX6_ith 26 = .ok (.ireturn, 1) := by decide +kernel
theorem dX6_ith_27 : decode cX6_ith 27 = .ok (.iload_n 2, 1) := by decide +kernel
theorem dX6_ith_28 : decode cX6_ith 28 = .ok (.aload_n 0, 1) := by decide +kernel
theorem dX6_ith_29 : decode cX6_ith 29 = .ok (.iload_n 1, 1) := by decide +kernel
theorem dX6_ith_30 : decode cX6_ith 30 = .ok (.iconst 0, 1) := by decide +kernel
theorem dX6_ith_31 : decode cX6_ith 31 = .ok (.invokevirtual 74, 3) := by decide +kernel
theorem dX6_ith_34 : decode cX6_ith 34 = .ok (.if_icmp .ge 14, 3) := by decide +kernel
theorem dX6_ith_37 : decode cX6_ith 37 = .ok (.aload_n 0, 1) := by decide +kernel
theorem dX6_ith_38 : decode cX6_ith 38 = .ok (.iload_n 1, 1) := by decide +kernel
theorem dX6_ith_39 : decode cX6_ith 39 = .ok (.iconst 1, 1) := by decide +kernel
theorem dX6_ith_40 : decode cX6_ith 40 = .ok (.iload_n 2, 1) := by decide +kernel
theorem dX6_ith_41 : decode cX6_ith 41 = .ok (.iadd, 1) := by decide +kernel
theorem dX6_ith_42 : decode cX6_ith 42 = .ok (.invokevirtual 74, 3) := by decide +kernel
theorem dX6_ith_45 : decode cX6_ith 45 = .ok (.goto 9, 3) := by decide +kernel
theorem dX6_ith_48 : decode cX6_ith 48 = .ok (.aload_n 0, 1) := by decide +kernel
theorem dX6_ith_49 : decode cX6_ith 49 = .ok (.ldc 44, 2) := by decide +kernel
theorem dX6_ith_51 : decode cX6_ith 51 = .ok (.invokevirtual 45, 3) := by decide +kernel
theorem dX6_ith_54 : decode cX6_ith 54 = .ok (.ireturn, 1) := by decide +kernel
theorem dX6_knows_0 : decode cX6_knows 0 = .ok (.aload_n 0, 1) := by decide +kernel
theorem dX6_knows_1 : decode cX6_knows 1 = .ok (.iload_n 1, 1) := by decide +kernel
theorem dX6_knows_2 : decode cX6_knows 2 = .ok (.iconst 5, 1) := by decide +kernel
theorem dX6_knows_3 : decode cX6_knows 3 = .ok (.invokevirtual 74, 3) := by decide +kernel
theorem dX6_knows_6 : decode cX6_knows 6 = .ok (.iload_n 2, 1) := by decide +kernel
theorem dX6_knows_7 : decode cX6_knows 7 = .ok (.ishr, 1) := by decide +kernel
theorem dX6_knows_8 : decode cX6_knows 8 = .ok (.iconst 1, 1) := by decide +kernel
theorem dX6_knows_9 : decode cX6_knows 9 = .ok (.iand, 1) := by decide +kernel
theorem dX6_knows_10 : decode cX6_knows 10 = .ok (.iconst 1, 1) := by decide +kernel
theorem dX6_knows_11 : decode cX6_knows 11 = .ok (.if_icmp .ne 7, 3) := by decide +kernel
theorem dX6_knows_14 : decode cX6_knows 14 = .ok (.iconst 1, 1) := by decide +kernel
theorem dX6_knows_15 : decode cX6_knows 15 = .ok (.goto 4, 3) := by decide +kernel
theorem dX6_knows_18 : decode cX6_knows 18 = .ok (.iconst 0, 1) := by decide +kernel
theorem dX6_knows_19 : decode cX6_knows 19 = .ok (.ireturn, 1) := by decide +kernel
theorem dX6_know_0 : decode cX6_know 0 = .ok (.aload_n 0, 1) := by decide +kernel
theorem dX6_know_1 : decode cX6_know 1 = .ok (.iload_n 1, 1) := by decide +kernel
theorem dX6_know_2 : decode cX6_know 2 = .ok (.invokevirtual 94, 3) := by decide +kernel
theorem dX6_know_5 : decode cX6_know 5 = .ok (.ifCond .eq 10, 3) := by decide +kernel
theorem dX6_know_8 : decode cX6_know 8 = .ok (.iload_n 2, 1) := by decide +kernel
theorem dX6_know_9 : decode cX6_know 9 = .ok (.invokestatic 100, 3) := by decide +kernel
theorem dX6_know_12 : decode cX6_know 12 = .ok (.ifCond .ne 10, 3) := by decide +kernel
theorem dX6_know_15 : decode cX6_know 15 = .ok (.aload_n 0, 1) := by decide +kernel
theorem dX6_know_16 : decode cX6_know 16 = .ok (.ldc 43, 2) := by decide +kernel
theorem dX6_know_18 : decode cX6_know 18 = .ok (.invokevirtual 45, 3) := by decide +kernel
theorem dX6_know_21 : decode cX6_know 21 = .ok (.ireturn, 1) := by decide +kernel
theorem dX6_know_22 : decode cX6_know 22 = .ok (.aload_n 0, 1) := by decide +kernel
theorem dX6_know_23 : decode cX6_know 23 = .ok (.iload_n 1, 1) := by decide +kernel
theorem dX6_know_24 : decode cX6_know 24 = .ok (.iload_n 2, 1) := by decide +kernel
theorem dX6_know_25 : decode cX6_know 25 = .ok (.invokevirtual 103, 3) := by decide +kernel
theorem dX6_know_28 : decode cX6_know 28 = .ok (.ifCond .eq 7, 3) := by decide +kernel
theorem dX6_know_31 : decode cX6_know 31 = .ok (.iconst 1, 1) := by decide +kernel
theorem dX6_know_32 : decode cX6_know 32 = .ok (.goto 4, 3) := by decide +kernel
theorem dX6_know_35 : decode cX6_know 35 = .ok (.iconst 0, 1) := by decide +kernel
theorem dX6_know_36 : decode cX6_know 36 = .ok (.istore 4, 2) := by decide +kernel
theorem dX6_know_38 : decode cX6_know 38 = .ok (.bipush 58, 2) := by decide +kernel
theorem dX6_know_40 : decode cX6_know 40 = .ok (.bipush 6, 2) := by decide +kernel
theorem dX6_know_42 : decode cX6_know 42 = .ok (.iload_n 1, 1) := by decide +kernel
theorem dX6_know_43 : decode cX6_know 43 = .ok (.imul, 1) := by decide +kernel
theorem dX6_know_44 : decode cX6_know 44 = .ok (.iadd, 1) := by decide +kernel
theorem dX6_know_45 : decode cX6_know 45 = .ok (.iconst 5, 1) := by decide +kernel
theorem dX6_know_46 : decode cX6_know 46 = .ok (.iadd, 1) := by decide +kernel
theorem dX6_know_47 : decode cX6_know 47 = .ok (.istore 5, 2) := by decide +kernel
theorem dX6_know_49 : decode cX6_know 49 = .ok (.aload_n 0, 1) := by decide +kernel
theorem dX6_know_50 : decode cX6_know 50 = .ok (.getfield 9, 3) := by decide +kernel
theorem dX6_know_53 : decode cX6_know 53 = .ok (.iload 5, 2) := by decide +kernel
theorem dX6_know_55 : decode cX6_know 55 = .ok (.iload_n 3, 1) := by decide +kernel
theorem dX6_know_56 : decode cX6_know 56 = .ok (.ifCond .eq 17, 3) := by decide +kernel
theorem dX6_know_59 : decode cX6_know 59 = .ok (.aload_n 0, 1) := by decide +kernel
theorem dX6_know_60 : decode cX6_know 60 = .ok (.getfield 9, 3) := by decide +kernel
theorem dX6_know_63 : decode cX6_know 63 = .ok (.iload 5, 2) := by decide +kernel
theorem dX6_know_65 : decode cX6_know 65 = .ok (.iaload, 1) := by decide +kernel
theorem dX6_know_66 : decode cX6_know 66 = .ok (.iconst 1, 1) := by decide +kernel
theorem dX6_know_67 : decode cX6_know 67 = .ok (.iload_n 2, 1) := by decide +kernel
theorem dX6_know_68 : decode cX6_know 68 = .ok (.ishl, 1) := by decide +kernel
theorem dX6_know_69 : decode cX6_know 69 = .ok (.ior, 1) := by decide +kernel
theorem dX6_know_70 : decode cX6_know 70 = .ok (.goto 16, 3) := by decide +kernel
theorem dX6_know_73 : decode cX6_know 73 = .ok (.aload_n 0, 1) := by decide +kernel
theorem dX6_know_74 : decode cX6_know 74 = .ok (.getfield 9, 3) := by decide +kernel
theorem dX6_know_77 : decode cX6_know 77 = .ok (.iload 5, 2) := by decide +kernel
theorem dX6_know_79 : decode cX6_know 79 = .ok (.iaload, 1) := by decide +kernel
theorem dX6_know_80 : decode cX6_know 80 = .ok (.iconst 1, 1) := by decide +kernel
theorem dX6_know_81 : decode cX6_know 81 = .ok (.iload_n 2, 1) := by decide +kernel
theorem dX6_know_82 : decode cX6_know 82 = .ok (.ishl, 1) := by decide +kernel
theorem dX6_know_83 : decode cX6_know 83 = .ok (.iconst (-1), 1) := by decide +kernel
theorem dX6_know_84 : decode cX6_know 84 = .ok (.ixor, 1) := by decide +kernel
theorem dX6_know_85 : decode cX6_know 85 = .ok (.iand, 1) := by decide +kernel
theorem dX6_know_86 : decode cX6_know 86 = .ok (.iastore, 1) := by decide +kernel
theorem dX6_know_87 : decode cX6_know 87 = .ok (.iload 4, 2) := by decide +kernel
theorem dX6_know_89 : decode cX6_know 89 = .ok (.ireturn, 1) := by decide +kernel
theorem dX6_knownTo_0 : decode cX6_knownTo 0 = .ok (.iconst 0, 1) := by decide +kernel
theorem dX6_knownTo_1 : decode cX6_knownTo 1 = .ok (.istore_n 2, 1) := by decide +kernel
theorem dX6_knownTo_2 : decode cX6_knownTo 2 = .ok (.iconst 0, 1) := by decide +kernel
theorem dX6_knownTo_3 : decode cX6_knownTo 3 = .ok (.istore_n 3, 1) := by decide +kernel
theorem dX6_knownTo_4 : decode cX6_knownTo 4 = .ok (.iload_n 3, 1) := by decide +kernel
theorem dX6_knownTo_5 : decode cX6_knownTo 5 = .ok (.aload_n 0, 1) := by decide +kernel
theorem dX6_knownTo_6 : decode cX6_knownTo 6 = .ok (.getfield 9, 3) := by decide +kernel
theorem dX6_knownTo_9 : decode cX6_knownTo 9 = .ok (.iconst 1, 1) := by decide +kernel
theorem dX6_knownTo_10 : decode cX6_knownTo 10 = .ok (.iaload, 1) := by decide +kernel
theorem dX6_knownTo_11 : decode cX6_knownTo 11 = .ok (.if_icmp .ge 28, 3) := by decide +kernel
theorem dX6_knownTo_14 : decode cX6_knownTo 14 = .ok (.iload_n 2, 1) := by decide +kernel
theorem dX6_knownTo_15 : decode cX6_knownTo 15 = .ok (.aload_n 0, 1) := by decide +kernel
theorem dX6_knownTo_16 : decode cX6_knownTo 16 = .ok (.iload_n 3, 1) := by decide +kernel
theorem dX6_knownTo_17 : decode cX6_knownTo 17 = .ok (.iload_n 1, 1) := by decide +kernel
theorem dX6_knownTo_18 : decode cX6_knownTo 18 = .ok (.invokevirtual 103, 3) := by decide +kernel
theorem dX6_knownTo_21 : decode cX6_knownTo 21 = .ok (.ifCond .eq 9, 3) := by decide +kernel
theorem dX6_knownTo_24 : decode cX6_knownTo 24 = .ok (.iconst 1, 1) := by decide +kernel
theorem dX6_knownTo_25 : decode cX6_knownTo 25 = .ok (.iload_n 3, 1) := by decide +kernel
theorem dX6_knownTo_26 : decode cX6_knownTo 26 = .ok (.ishl, 1) := by decide +kernel
theorem dX6_knownTo_27 : decode cX6_knownTo 27 = .ok (.goto 4, 3) := by decide +kernel
theorem dX6_knownTo_30 : decode cX6_knownTo 30 = .ok (.iconst 0, 1) := by decide +kernel
theorem dX6_knownTo_31 : decode cX6_knownTo 31 = .ok (.ior, 1) := by decide +kernel
theorem dX6_knownTo_32 : decode cX6_knownTo 32 = .ok (.istore_n 2, 1) := by decide +kernel
theorem dX6_knownTo_33 : decode cX6_knownTo 33 = .ok (.iinc 3 1, 3) := by decide +kernel
theorem dX6_knownTo_36 : decode cX6_knownTo 36 = .ok (.goto (-32), 3) := by decide +kernel
theorem dX6_knownTo_39 : decode cX6_knownTo 39 = .ok (.iload_n 2, 1) := by decide +kernel
theorem dX6_knownTo_40 : decode cX6_knownTo 40 = .ok (.ireturn, 1) := by decide +kernel
theorem dX6_known_0 : decode cX6_known 0 = .ok (.iload_n 1, 1) := by decide +kernel
theorem dX6_known_1 : decode cX6_known 1 = .ok (.invokestatic 100, 3) := by decide +kernel
theorem dX6_known_4 : decode cX6_known 4 = .ok (.ifCond .eq 11, 3) := by decide +kernel
theorem dX6_known_7 : decode cX6_known 7 = .ok (.aload_n 0, 1) := by decide +kernel
theorem dX6_known_8 : decode cX6_known 8 = .ok (.iload_n 1, 1) := by decide +kernel
theorem dX6_known_9 : decode cX6_known 9 = .ok (.invokevirtual 106, 3) := by decide +kernel
theorem dX6_known_12 : decode cX6_known 12 = .ok (.goto 9, 3) := by decide +kernel
theorem dX6_known_15 : decode cX6_known 15 = .ok (.aload_n 0, 1) := by decide +kernel
theorem dX6_known_16 : decode cX6_known 16 = .ok (.ldc 43, 2) := by decide +kernel
theorem dX6_known_18 : decode cX6_known 18 = .ok (.invokevirtual 45, 3) := by decide +kernel
theorem dX6_known_21 : decode cX6_known 21 = .ok (.ireturn, 1) := by decide +kernel
theorem dX6_ofSize_0 : decode cX6_ofSize 0 = .ok (.iload_n 1, 1) := by decide +kernel
theorem dX6_ofSize_1 : decode cX6_ofSize 1 = .ok (.i2l, 1) := by decide +kernel
theorem dX6_ofSize_2 : decode cX6_ofSize 2 = .ok (.lconst 1, 1) := by decide +kernel
theorem dX6_ofSize_3 : decode cX6_ofSize 3 = .ok (.ldc2_w 109, 3) := by decide +kernel
theorem dX6_ofSize_6 : decode cX6_ofSize 6 = .ok (.invokestatic 49, 3) := by decide +kernel
theorem dX6_ofSize_9 : decode cX6_ofSize 9 = .ok (.ifCond .ne 10, 3) := by decide +kernel
theorem dX6_ofSize_12 : decode cX6_ofSize 12 = .ok (.aload_n 0, 1) := by decide +kernel
theorem dX6_ofSize_13 : decode cX6_ofSize 13 = .ok (.ldc 43, 2) := by decide +kernel
theorem dX6_ofSize_15 : decode cX6_ofSize 15 = .ok (.invokevirtual 45, 3) := by decide +kernel
theorem dX6_ofSize_18 : decode cX6_ofSize 18 = .ok (.ireturn, 1) := by decide +kernel
theorem dX6_ofSize_19 : decode cX6_ofSize 19 = .ok (.iconst 0, 1) := by decide +kernel
theorem dX6_ofSize_20 : decode cX6_ofSize 20 = .ok (.istore_n 2, 1) := by decide +kernel
theorem dX6_ofSize_21 : decode cX6_ofSize 21 = .ok (.iconst 0, 1) := by decide +kernel
theorem dX6_ofSize_22 : decode cX6_ofSize 22 = .ok (.istore_n 3, 1) := by decide +kernel
theorem dX6_ofSize_23 : decode cX6_ofSize 23 = .ok (.iload_n 3, 1) := by decide +kernel
theorem dX6_ofSize_24 : decode cX6_ofSize 24 = .ok (.aload_n 0, 1) := by decide +kernel
theorem dX6_ofSize_25 : decode cX6_ofSize 25 = .ok (.getfield 9, 3) := by decide +kernel
theorem dX6_ofSize_28 : decode cX6_ofSize 28 = .ok (.iconst 1, 1) := by decide +kernel
theorem dX6_ofSize_29 : decode cX6_ofSize 29 = .ok (.iaload, 1) := by decide +kernel
theorem dX6_ofSize_30 : decode cX6_ofSize 30 = .ok (.if_icmp .ge 29, 3) := by decide +kernel
theorem dX6_ofSize_33 : decode cX6_ofSize 33 = .ok (.iload_n 2, 1) := by decide +kernel
theorem dX6_ofSize_34 : decode cX6_ofSize 34 = .ok (.aload_n 0, 1) := by decide +kernel
theorem dX6_ofSize_35 : decode cX6_ofSize 35 = .ok (.iload_n 3, 1) := by decide +kernel
theorem dX6_ofSize_36 : decode cX6_ofSize 36 = .ok (.iconst 0, 1) := by decide +kernel
theorem dX6_ofSize_37 : decode cX6_ofSize 37 = .ok (.invokevirtual 74, 3) := by decide +kernel
theorem dX6_ofSize_40 : decode cX6_ofSize 40 = .ok (.iload_n 1, 1) := by decide +kernel
theorem dX6_ofSize_41 : decode cX6_ofSize 41 = .ok (.if_icmp .ne 9, 3) := by decide +kernel
theorem dX6_ofSize_44 : decode cX6_ofSize 44 = .ok (.iconst 1, 1) := by decide +kernel
theorem dX6_ofSize_45 : decode cX6_ofSize 45 = .ok (.iload_n 3, 1) := by decide +kernel
theorem dX6_ofSize_46 : decode cX6_ofSize 46 = .ok (.ishl, 1) := by decide +kernel
theorem dX6_ofSize_47 : decode cX6_ofSize 47 = .ok (.goto 4, 3) := by decide +kernel
theorem dX6_ofSize_50 : decode cX6_ofSize 50 = .ok (.iconst 0, 1) := by decide +kernel
theorem dX6_ofSize_51 : decode cX6_ofSize 51 = .ok (.ior, 1) := by decide +kernel
theorem dX6_ofSize_52 : decode cX6_ofSize 52 = .ok (.istore_n 2, 1) := by decide +kernel
theorem dX6_ofSize_53 : decode cX6_ofSize 53 = .ok (.iinc 3 1, 3) := by decide +kernel
theorem dX6_ofSize_56 : decode cX6_ofSize 56 = .ok (.goto (-33), 3) := by decide +kernel
theorem dX6_ofSize_59 : decode cX6_ofSize 59 = .ok (.iload_n 2, 1) := by decide +kernel
theorem dX6_ofSize_60 : decode cX6_ofSize 60 = .ok (.ireturn, 1) := by decide +kernel
theorem dX6_tellsOf_0 : decode cX6_tellsOf 0 = .ok (.iload_n 1, 1) := by decide +kernel
theorem dX6_tellsOf_1 : decode cX6_tellsOf 1 = .ok (.iconst 4, 1) := by decide +kernel
theorem dX6_tellsOf_2 : decode cX6_tellsOf 2 = .ok (.idiv, 1) := by decide +kernel
theorem dX6_tellsOf_3 : decode cX6_tellsOf 3 = .ok (.istore_n 3, 1) := by decide +kernel
theorem dX6_tellsOf_4 : decode cX6_tellsOf 4 = .ok (.iload_n 1, 1) := by decide +kernel
theorem dX6_tellsOf_5 : decode cX6_tellsOf 5 = .ok (.iconst 4, 1) := by decide +kernel
theorem dX6_tellsOf_6 : decode cX6_tellsOf 6 = .ok (.irem, 1) := by decide +kernel
theorem dX6_tellsOf_7 : decode cX6_tellsOf 7 = .ok (.istore 4, 2) := by decide +kernel
theorem dX6_tellsOf_9 : decode cX6_tellsOf 9 = .ok (.iload_n 3, 1) := by decide +kernel
theorem dX6_tellsOf_10 : decode cX6_tellsOf 10 = .ok (.ifCond .ne 10, 3) := by decide +kernel
theorem dX6_tellsOf_13 : decode cX6_tellsOf 13 = .ok (.aload_n 0, 1) := by decide +kernel
theorem dX6_tellsOf_14 : decode cX6_tellsOf 14 = .ok (.iload_n 2, 1) := by decide +kernel
theorem dX6_tellsOf_15 : decode cX6_tellsOf 15 = .ok (.iconst 0, 1) := by decide +kernel
theorem dX6_tellsOf_16 : decode cX6_tellsOf 16 = .ok (.invokevirtual 74, 3) := by decide +kernel
theorem dX6_tellsOf_19 : decode cX6_tellsOf 19 = .ok (.ireturn, 1) := by decide +kernel
theorem dX6_tellsOf_20 : decode cX6_tellsOf 20 = .ok (.iload 4, 2) := by decide +kernel
theorem dX6_tellsOf_22 : decode cX6_tellsOf 22 = .ok (.aload_n 0, 1) := by decide +kernel
theorem dX6_tellsOf_23 : decode cX6_tellsOf 23 = .ok (.iload_n 2, 1) := by decide +kernel
theorem dX6_tellsOf_24 : decode cX6_tellsOf 24 = .ok (.iconst 0, 1) := by decide +kernel
theorem dX6_tellsOf_25 : decode cX6_tellsOf 25 = .ok (.invokevirtual 74, 3) := by decide +kernel
theorem dX6_tellsOf_28 : decode cX6_tellsOf 28 = .ok (.if_icmp .lt 5, 3) := by decide +kernel
theorem dX6_tellsOf_31 : decode cX6_tellsOf 31 = .ok (.iconst 0, 1) := by decide +kernel
theorem dX6_tellsOf_32 : decode cX6_tellsOf 32 = .ok (.ireturn, 1) := by decide +kernel
theorem dX6_tellsOf_33 : decode cX6_tellsOf 33 = .ok (.aload_n 0, 1) := by decide +kernel
theorem dX6_tellsOf_34 : decode cX6_tellsOf 34 = .ok (.iload_n 2, 1) := by decide +kernel
theorem dX6_tellsOf_35 : decode cX6_tellsOf 35 = .ok (.iconst 1, 1) := by decide +kernel
theorem dX6_tellsOf_36 : decode cX6_tellsOf 36 = .ok (.iload 4, 2) := by decide +kernel
theorem dX6_tellsOf_38 : decode cX6_tellsOf 38 = .ok (.iadd, 1) := by decide +kernel
theorem dX6_tellsOf_39 : decode cX6_tellsOf 39 = .ok (.invokevirtual 74, 3) := by decide +kernel
theorem dX6_tellsOf_42 : decode cX6_tellsOf 42 = .ok (.istore 5, 2) := by decide +kernel
theorem dX6_tellsOf_44 : decode cX6_tellsOf 44 = .ok (.iload_n 3, 1) := by decide +kernel
theorem dX6_tellsOf_45 : decode cX6_tellsOf 45 = .ok (.tableswitch 101 1 5 #[35, 43, 53, 72, 84], 35) := by decide +kernel
theorem dX6_tellsOf_80 : decode cX6_tellsOf 80 = .ok (.aload_n 0, 1) := by decide +kernel
theorem dX6_tellsOf_81 : decode cX6_tellsOf 81 = .ok (.iload 5, 2) := by decide +kernel
theorem dX6_tellsOf_83 : decode cX6_tellsOf 83 = .ok (.iconst 0, 1) := by decide +kernel
theorem dX6_tellsOf_84 : decode cX6_tellsOf 84 = .ok (.invokevirtual 82, 3) := by decide +kernel
theorem dX6_tellsOf_87 : decode cX6_tellsOf 87 = .ok (.ireturn, 1) := by decide +kernel
theorem dX6_tellsOf_88 : decode cX6_tellsOf 88 = .ok (.aload_n 0, 1) := by decide +kernel
theorem dX6_tellsOf_89 : decode cX6_tellsOf 89 = .ok (.iload 5, 2) := by decide +kernel
theorem dX6_tellsOf_91 : decode cX6_tellsOf 91 = .ok (.iconst 1, 1) := by decide +kernel
theorem dX6_tellsOf_92 : decode cX6_tellsOf 92 = .ok (.invokevirtual 82, 3) := by decide +kernel
theorem dX6_tellsOf_95 : decode cX6_tellsOf 95 = .ok (.iconst 1, 1) := by decide +kernel
theorem dX6_tellsOf_96 : decode cX6_tellsOf 96 = .ok (.iadd, 1) := by decide +kernel
theorem dX6_tellsOf_97 : decode cX6_tellsOf 97 = .ok (.ireturn, 1) := by decide +kernel
theorem dX6_tellsOf_98 : decode cX6_tellsOf 98 = .ok (.aload_n 0, 1) := by decide +kernel
theorem dX6_tellsOf_99 : decode cX6_tellsOf 99 = .ok (.iload 5, 2) := by decide +kernel
theorem dX6_tellsOf_101 : decode cX6_tellsOf 101 = .ok (.iconst 0, 1) := by decide +kernel
theorem dX6_tellsOf_102 : decode cX6_tellsOf 102 = .ok (.invokevirtual 82, 3) := by decide +kernel
theorem dX6_tellsOf_105 : decode cX6_tellsOf 105 = .ok (.bipush 10, 2) := by decide +kernel
theorem dX6_tellsOf_107 : decode cX6_tellsOf 107 = .ok (.aload_n 0, 1) := by decide +kernel
theorem dX6_tellsOf_108 : decode cX6_tellsOf 108 = .ok (.iload 5, 2) := by decide +kernel
theorem dX6_tellsOf_110 : decode cX6_tellsOf 110 = .ok (.iconst 2, 1) := by decide +kernel
theorem dX6_tellsOf_111 : decode cX6_tellsOf 111 = .ok (.invokevirtual 82, 3) := by decide +kernel
theorem dX6_tellsOf_114 : decode cX6_tellsOf 114 = .ok (.imul, 1) := by decide +kernel
theorem dX6_tellsOf_115 : decode cX6_tellsOf 115 = .ok (.iadd, 1) := by decide +kernel
theorem dX6_tellsOf_116 : decode cX6_tellsOf 116 = .ok (.ireturn, 1) := by decide +kernel
theorem dX6_tellsOf_117 : decode cX6_tellsOf 117 = .ok (.aload_n 0, 1) := by decide +kernel
theorem dX6_tellsOf_118 : decode cX6_tellsOf 118 = .ok (.iload 5, 2) := by decide +kernel
theorem dX6_tellsOf_120 : decode cX6_tellsOf 120 = .ok (.iconst 1, 1) := by decide +kernel
theorem dX6_tellsOf_121 : decode cX6_tellsOf 121 = .ok (.invokevirtual 82, 3) := by decide +kernel
theorem dX6_tellsOf_124 : decode cX6_tellsOf 124 = .ok (.iconst 1, 1) := by decide +kernel
theorem dX6_tellsOf_125 : decode cX6_tellsOf 125 = .ok (.iadd, 1) := by decide +kernel
theorem dX6_tellsOf_126 : decode cX6_tellsOf 126 = .ok (.iconst 3, 1) := by decide +kernel
theorem dX6_tellsOf_127 : decode cX6_tellsOf 127 = .ok (.idiv, 1) := by decide +kernel
theorem dX6_tellsOf_128 : decode cX6_tellsOf 128 = .ok (.ireturn, 1) := by decide +kernel
theorem dX6_tellsOf_129 : decode cX6_tellsOf 129 = .ok (.aload_n 0, 1) := by decide +kernel
theorem dX6_tellsOf_130 : decode cX6_tellsOf 130 = .ok (.iload 5, 2) := by decide +kernel
theorem dX6_tellsOf_132 : decode cX6_tellsOf 132 = .ok (.iconst 0, 1) := by decide +kernel
theorem dX6_tellsOf_133 : decode cX6_tellsOf 133 = .ok (.invokevirtual 82, 3) := by decide +kernel
theorem dX6_tellsOf_136 : decode cX6_tellsOf 136 = .ok (.iconst 1, 1) := by decide +kernel
theorem dX6_tellsOf_137 : decode cX6_tellsOf 137 = .ok (.if_icmp .ne 7, 3) := by decide +kernel
theorem dX6_tellsOf_140 : decode cX6_tellsOf 140 = .ok (.iconst 1, 1) := by decide +kernel
theorem dX6_tellsOf_141 : decode cX6_tellsOf 141 = .ok (.goto 4, 3) := by decide +kernel
theorem dX6_tellsOf_144 : decode cX6_tellsOf 144 = .ok (.iconst 0, 1) := by decide +kernel
theorem dX6_tellsOf_145 : decode cX6_tellsOf 145 = .ok (.ireturn, 1) := by decide +kernel
theorem dX6_tellsOf_146 : decode cX6_tellsOf 146 = .ok (.iload 5, 2) := by decide +kernel
theorem dX6_tellsOf_148 : decode cX6_tellsOf 148 = .ok (.iconst 1, 1) := by decide +kernel
theorem dX6_tellsOf_149 : decode cX6_tellsOf 149 = .ok (.iadd, 1) := by decide +kernel
theorem dX6_tellsOf_150 : decode cX6_tellsOf 150 = .ok (.ireturn, 1) := by decide +kernel
theorem dX6_takesOf_0 : decode cX6_takesOf 0 = .ok (.iload_n 0, 1) := by decide +kernel
theorem dX6_takesOf_1 : decode cX6_takesOf 1 = .ok (.iconst 4, 1) := by decide +kernel
theorem dX6_takesOf_2 : decode cX6_takesOf 2 = .ok (.idiv, 1) := by decide +kernel
theorem dX6_takesOf_3 : decode cX6_takesOf 3 = .ok (.tableswitch 51 0 5 #[37, 39, 41, 44, 47, 49], 37) := by decide +kernel
theorem dX6_takesOf_40 : decode cX6_takesOf 40 = .ok (.iconst 3, 1) := by decide +kernel
theorem dX6_takesOf_41 : decode cX6_takesOf 41 = .ok (.ireturn, 1) := by decide +kernel
theorem dX6_takesOf_42 : decode cX6_takesOf 42 = .ok (.iconst 5, 1) := by decide +kernel
theorem dX6_takesOf_43 : decode cX6_takesOf 43 = .ok (.ireturn, 1) := by decide +kernel
theorem dX6_takesOf_44 : decode cX6_takesOf 44 = .ok (.bipush 8, 2) := by decide +kernel
theorem dX6_takesOf_46 : decode cX6_takesOf 46 = .ok (.ireturn, 1) := by decide +kernel
theorem dX6_takesOf_47 : decode cX6_takesOf 47 = .ok (.bipush 12, 2) := by decide +kernel
theorem dX6_takesOf_49 : decode cX6_takesOf 49 = .ok (.ireturn, 1) := by decide +kernel
theorem dX6_takesOf_50 : decode cX6_takesOf 50 = .ok (.iconst 4, 1) := by decide +kernel
theorem dX6_takesOf_51 : decode cX6_takesOf 51 = .ok (.ireturn, 1) := by decide +kernel
theorem dX6_takesOf_52 : decode cX6_takesOf 52 = .ok (.iconst 2, 1) := by decide +kernel
theorem dX6_takesOf_53 : decode cX6_takesOf 53 = .ok (.ireturn, 1) := by decide +kernel
theorem dX6_takesOf_54 : decode cX6_takesOf 54 = .ok (.bipush 20, 2) := by decide +kernel
theorem dX6_takesOf_56 : decode cX6_takesOf 56 = .ok (.iload_n 0, 1) := by decide +kernel
theorem dX6_takesOf_57 : decode cX6_takesOf 57 = .ok (.iconst 4, 1) := by decide +kernel
theorem dX6_takesOf_58 : decode cX6_takesOf 58 = .ok (.irem, 1) := by decide +kernel
theorem dX6_takesOf_59 : decode cX6_takesOf 59 = .ok (.iadd, 1) := by decide +kernel
theorem dX6_takesOf_60 : decode cX6_takesOf 60 = .ok (.ireturn, 1) := by decide +kernel
theorem dX6_tells_0 : decode cX6_tells 0 = .ok (.iload_n 1, 1) := by decide +kernel
theorem dX6_tells_1 : decode cX6_tells 1 = .ok (.iload_n 2, 1) := by decide +kernel
theorem dX6_tells_2 : decode cX6_tells 2 = .ok (.invokestatic 111, 3) := by decide +kernel
theorem dX6_tells_5 : decode cX6_tells 5 = .ok (.ifCond .eq 24, 3) := by decide +kernel
theorem dX6_tells_8 : decode cX6_tells 8 = .ok (.aload_n 0, 1) := by decide +kernel
theorem dX6_tells_9 : decode cX6_tells 9 = .ok (.iload_n 3, 1) := by decide +kernel
theorem dX6_tells_10 : decode cX6_tells 10 = .ok (.invokevirtual 94, 3) := by decide +kernel
theorem dX6_tells_13 : decode cX6_tells 13 = .ok (.ifCond .eq 16, 3) := by decide +kernel
theorem dX6_tells_16 : decode cX6_tells 16 = .ok (.aload_n 0, 1) := by decide +kernel
theorem dX6_tells_17 : decode cX6_tells 17 = .ok (.iconst 4, 1) := by decide +kernel
theorem dX6_tells_18 : decode cX6_tells 18 = .ok (.iload_n 1, 1) := by decide +kernel
theorem dX6_tells_19 : decode cX6_tells 19 = .ok (.imul, 1) := by decide +kernel
theorem dX6_tells_20 : decode cX6_tells 20 = .ok (.iload_n 2, 1) := by decide +kernel
theorem dX6_tells_21 : decode cX6_tells 21 = .ok (.iadd, 1) := by decide +kernel
theorem dX6_tells_22 : decode cX6_tells 22 = .ok (.iload_n 3, 1) := by decide +kernel
theorem dX6_tells_23 : decode cX6_tells 23 = .ok (.invokevirtual 114, 3) := by decide +kernel
theorem dX6_tells_26 : decode cX6_tells 26 = .ok (.goto 9, 3) := by decide +kernel
theorem dX6_tells_29 : decode cX6_tells 29 = .ok (.aload_n 0, 1) := by decide +kernel
theorem dX6_tells_30 : decode cX6_tells 30 = .ok (.ldc 43, 2) := by decide +kernel
theorem dX6_tells_32 : decode cX6_tells 32 = .ok (.invokevirtual 45, 3) := by decide +kernel
theorem dX6_tells_35 : decode cX6_tells 35 = .ok (.ireturn, 1) := by decide +kernel
theorem dX6_takes_0 : decode cX6_takes 0 = .ok (.iload_n 1, 1) := by decide +kernel
theorem dX6_takes_1 : decode cX6_takes 1 = .ok (.iload_n 2, 1) := by decide +kernel
theorem dX6_takes_2 : decode cX6_takes 2 = .ok (.invokestatic 111, 3) := by decide +kernel
theorem dX6_takes_5 : decode cX6_takes 5 = .ok (.ifCond .eq 14, 3) := by decide +kernel
theorem dX6_takes_8 : decode cX6_takes 8 = .ok (.iconst 4, 1) := by decide +kernel
theorem dX6_takes_9 : decode cX6_takes 9 = .ok (.iload_n 1, 1) := by decide +kernel
theorem dX6_takes_10 : decode cX6_takes 10 = .ok (.imul, 1) := by decide +kernel
theorem dX6_takes_11 : decode cX6_takes 11 = .ok (.iload_n 2, 1) := by decide +kernel
theorem dX6_takes_12 : decode cX6_takes 12 = .ok (.iadd, 1) := by decide +kernel
theorem dX6_takes_13 : decode cX6_takes 13 = .ok (.invokestatic 117, 3) := by decide +kernel
theorem dX6_takes_16 : decode cX6_takes 16 = .ok (.goto 9, 3) := by decide +kernel
theorem dX6_takes_19 : decode cX6_takes 19 = .ok (.aload_n 0, 1) := by decide +kernel
theorem dX6_takes_20 : decode cX6_takes 20 = .ok (.ldc 43, 2) := by decide +kernel
theorem dX6_takes_22 : decode cX6_takes 22 = .ok (.invokevirtual 45, 3) := by decide +kernel
theorem dX6_takes_25 : decode cX6_takes 25 = .ok (.ireturn, 1) := by decide +kernel
theorem dX6_partOf_0 : decode cX6_partOf 0 = .ok (.iload_n 3, 1) := by decide +kernel
theorem dX6_partOf_1 : decode cX6_partOf 1 = .ok (.aload_n 0, 1) := by decide +kernel
theorem dX6_partOf_2 : decode cX6_partOf 2 = .ok (.getfield 22, 3) := by decide +kernel
theorem dX6_partOf_5 : decode cX6_partOf 5 = .ok (.bipush 24, 2) := by decide +kernel
theorem dX6_partOf_7 : decode cX6_partOf 7 = .ok (.iload_n 1, 1) := by decide +kernel
theorem dX6_partOf_8 : decode cX6_partOf 8 = .ok (.imul, 1) := by decide +kernel
theorem dX6_partOf_9 : decode cX6_partOf 9 = .ok (.iload_n 2, 1) := by decide +kernel
theorem dX6_partOf_10 : decode cX6_partOf 10 = .ok (.iadd, 1) := by decide +kernel
theorem dX6_partOf_11 : decode cX6_partOf 11 = .ok (.iaload, 1) := by decide +kernel
theorem dX6_partOf_12 : decode cX6_partOf 12 = .ok (.iand, 1) := by decide +kernel
theorem dX6_partOf_13 : decode cX6_partOf 13 = .ok (.ireturn, 1) := by decide +kernel
theorem dX6_looks_0 : decode cX6_looks 0 = .ok (.iconst 0, 1) := by decide +kernel
theorem dX6_looks_1 : decode cX6_looks 1 = .ok (.istore_n 1, 1) := by decide +kernel
theorem dX6_looks_2 : decode cX6_looks 2 = .ok (.iload_n 1, 1) := by decide +kernel
theorem dX6_looks_3 : decode cX6_looks 3 = .ok (.bipush 28, 2) := by decide +kernel
theorem dX6_looks_5 : decode cX6_looks 5 = .ok (.if_icmp .ge 118, 3) := by decide +kernel
theorem dX6_looks_8 : decode cX6_looks 8 = .ok (.iconst 0, 1) := by decide +kernel
theorem dX6_looks_9 : decode cX6_looks 9 = .ok (.istore_n 2, 1) := by decide +kernel
theorem dX6_looks_10 : decode cX6_looks 10 = .ok (.iload_n 2, 1) := by decide +kernel
theorem dX6_looks_11 : decode cX6_looks 11 = .ok (.aload_n 0, 1) := by decide +kernel
theorem dX6_looks_12 : decode cX6_looks 12 = .ok (.getfield 9, 3) := by decide +kernel
theorem dX6_looks_15 : decode cX6_looks 15 = .ok (.iconst 1, 1) := by decide +kernel
theorem dX6_looks_16 : decode cX6_looks 16 = .ok (.iaload, 1) := by decide +kernel
theorem dX6_looks_17 : decode cX6_looks 17 = .ok (.if_icmp .ge 21, 3) := by decide +kernel
theorem dX6_looks_20 : decode cX6_looks 20 = .ok (.aload_n 0, 1) := by decide +kernel
theorem dX6_looks_21 : decode cX6_looks 21 = .ok (.getfield 25, 3) := by decide +kernel
theorem dX6_looks_24 : decode cX6_looks 24 = .ok (.iload_n 2, 1) := by decide +kernel
theorem dX6_looks_25 : decode cX6_looks 25 = .ok (.aload_n 0, 1) := by decide +kernel
theorem dX6_looks_26 : decode cX6_looks 26 = .ok (.iload_n 1, 1) := by decide +kernel
theorem dX6_looks_27 : decode cX6_looks 27 = .ok (.iload_n 2, 1) := by decide +kernel
theorem dX6_looks_28 : decode cX6_looks 28 = .ok (.invokevirtual 114, 3) := by decide +kernel
theorem dX6_looks_31 : decode cX6_looks 31 = .ok (.iastore, 1) := by decide +kernel
theorem dX6_looks_32 : decode cX6_looks 32 = .ok (.iinc 2 1, 3) := by decide +kernel
theorem dX6_looks_35 : decode cX6_looks 35 = .ok (.goto (-25), 3) := by decide +kernel
theorem dX6_looks_38 : decode cX6_looks 38 = .ok (.iconst 0, 1) := by decide +kernel
theorem dX6_looks_39 : decode cX6_looks 39 = .ok (.istore_n 2, 1) := by decide +kernel
theorem dX6_looks_40 : decode cX6_looks 40 = .ok (.iload_n 2, 1) := by decide +kernel
theorem dX6_looks_41 : decode cX6_looks 41 = .ok (.aload_n 0, 1) := by decide +kernel
theorem dX6_looks_42 : decode cX6_looks 42 = .ok (.getfield 9, 3) := by decide +kernel
theorem dX6_looks_45 : decode cX6_looks 45 = .ok (.iconst 1, 1) := by decide +kernel
theorem dX6_looks_46 : decode cX6_looks 46 = .ok (.iaload, 1) := by decide +kernel
theorem dX6_looks_47 : decode cX6_looks 47 = .ok (.if_icmp .ge 70, 3) := by decide +kernel
theorem dX6_looks_50 : decode cX6_looks 50 = .ok (.iconst 0, 1) := by decide +kernel
theorem dX6_looks_51 : decode cX6_looks 51 = .ok (.istore_n 3, 1) := by decide +kernel
theorem dX6_looks_52 : decode cX6_looks 52 = .ok (.iconst 0, 1) := by decide +kernel
theorem dX6_looks_53 : decode cX6_looks 53 = .ok (.istore 4, 2) := by decide +kernel
theorem dX6_looks_55 : decode cX6_looks 55 = .ok (.iload 4, 2) := by decide +kernel
theorem dX6_looks_57 : decode cX6_looks 57 = .ok (.aload_n 0, 1) := by decide +kernel
theorem dX6_looks_58 : decode cX6_looks 58 = .ok (.getfield 9, 3) := by decide +kernel
theorem dX6_looks_61 : decode cX6_looks 61 = .ok (.iconst 1, 1) := by decide +kernel
theorem dX6_looks_62 : decode cX6_looks 62 = .ok (.iaload, 1) := by decide +kernel
theorem dX6_looks_63 : decode cX6_looks 63 = .ok (.if_icmp .ge 36, 3) := by decide +kernel
theorem dX6_looks_66 : decode cX6_looks 66 = .ok (.iload_n 3, 1) := by decide +kernel
theorem dX6_looks_67 : decode cX6_looks 67 = .ok (.aload_n 0, 1) := by decide +kernel
theorem dX6_looks_68 : decode cX6_looks 68 = .ok (.getfield 25, 3) := by decide +kernel
theorem dX6_looks_71 : decode cX6_looks 71 = .ok (.iload 4, 2) := by decide +kernel
theorem dX6_looks_73 : decode cX6_looks 73 = .ok (.iaload, 1) := by decide +kernel
theorem dX6_looks_74 : decode cX6_looks 74 = .ok (.aload_n 0, 1) := by decide +kernel
theorem dX6_looks_75 : decode cX6_looks 75 = .ok (.getfield 25, 3) := by decide +kernel
theorem dX6_looks_78 : decode cX6_looks 78 = .ok (.iload_n 2, 1) := by decide +kernel
theorem dX6_looks_79 : decode cX6_looks 79 = .ok (.iaload, 1) := by decide +kernel
theorem dX6_looks_80 : decode cX6_looks 80 = .ok (.if_icmp .ne 10, 3) := by decide +kernel
theorem dX6_looks_83 : decode cX6_looks 83 = .ok (.iconst 1, 1) := by decide +kernel
theorem dX6_looks_84 : decode cX6_looks 84 = .ok (.iload 4, 2) := by decide +kernel
theorem dX6_looks_86 : decode cX6_looks 86 = .ok (.ishl, 1) := by decide +kernel
theorem dX6_looks_87 : decode cX6_looks 87 = .ok (.goto 4, 3) := by decide +kernel
theorem dX6_looks_90 : decode cX6_looks 90 = .ok (.iconst 0, 1) := by decide +kernel
theorem dX6_looks_91 : decode cX6_looks 91 = .ok (.ior, 1) := by decide +kernel
theorem dX6_looks_92 : decode cX6_looks 92 = .ok (.istore_n 3, 1) := by decide +kernel
theorem dX6_looks_93 : decode cX6_looks 93 = .ok (.iinc 4 1, 3) := by decide +kernel
theorem dX6_looks_96 : decode cX6_looks 96 = .ok (.goto (-41), 3) := by decide +kernel
theorem dX6_looks_99 : decode cX6_looks 99 = .ok (.aload_n 0, 1) := by decide +kernel
theorem dX6_looks_100 : decode cX6_looks 100 = .ok (.getfield 22, 3) := by decide +kernel
theorem dX6_looks_103 : decode cX6_looks 103 = .ok (.bipush 24, 2) := by decide +kernel
theorem dX6_looks_105 : decode cX6_looks 105 = .ok (.iload_n 1, 1) := by decide +kernel
theorem dX6_looks_106 : decode cX6_looks 106 = .ok (.imul, 1) := by decide +kernel
theorem dX6_looks_107 : decode cX6_looks 107 = .ok (.iload_n 2, 1) := by decide +kernel
theorem dX6_looks_108 : decode cX6_looks 108 = .ok (.iadd, 1) := by decide +kernel
theorem dX6_looks_109 : decode cX6_looks 109 = .ok (.iload_n 3, 1) := by decide +kernel
theorem dX6_looks_110 : decode cX6_looks 110 = .ok (.iastore, 1) := by decide +kernel
theorem dX6_looks_111 : decode cX6_looks 111 = .ok (.iinc 2 1, 3) := by decide +kernel
theorem dX6_looks_114 : decode cX6_looks 114 = .ok (.goto (-74), 3) := by decide +kernel
theorem dX6_looks_117 : decode cX6_looks 117 = .ok (.iinc 1 1, 3) := by decide +kernel
theorem dX6_looks_120 : decode cX6_looks 120 = .ok (.goto (-118), 3) := by decide +kernel
theorem dX6_looks_123 : decode cX6_looks 123 = .ok (.return_, 1) := by decide +kernel
theorem dX6_divides_0 : decode cX6_divides 0 = .ok (.aload_n 0, 1) := by decide +kernel
theorem dX6_divides_1 : decode cX6_divides 1 = .ok (.iconst 0, 1) := by decide +kernel
theorem dX6_divides_2 : decode cX6_divides 2 = .ok (.putfield 120, 3) := by decide +kernel
theorem dX6_divides_5 : decode cX6_divides 5 = .ok (.aload_n 0, 1) := by decide +kernel
theorem dX6_divides_6 : decode cX6_divides 6 = .ok (.iconst 0, 1) := by decide +kernel
theorem dX6_divides_7 : decode cX6_divides 7 = .ok (.putfield 124, 3) := by decide +kernel
theorem dX6_divides_10 : decode cX6_divides 10 = .ok (.aload_n 0, 1) := by decide +kernel
theorem dX6_divides_11 : decode cX6_divides 11 = .ok (.iconst 0, 1) := by decide +kernel
theorem dX6_divides_12 : decode cX6_divides 12 = .ok (.putfield 127, 3) := by decide +kernel
theorem dX6_divides_15 : decode cX6_divides 15 = .ok (.iload_n 3, 1) := by decide +kernel
theorem dX6_divides_16 : decode cX6_divides 16 = .ok (.istore 4, 2) := by decide +kernel
theorem dX6_divides_18 : decode cX6_divides 18 = .ok (.iconst 0, 1) := by decide +kernel
theorem dX6_divides_19 : decode cX6_divides 19 = .ok (.istore 5, 2) := by decide +kernel
theorem dX6_divides_21 : decode cX6_divides 21 = .ok (.iload 5, 2) := by decide +kernel
theorem dX6_divides_23 : decode cX6_divides 23 = .ok (.aload_n 0, 1) := by decide +kernel
theorem dX6_divides_24 : decode cX6_divides 24 = .ok (.getfield 9, 3) := by decide +kernel
theorem dX6_divides_27 : decode cX6_divides 27 = .ok (.iconst 1, 1) := by decide +kernel
theorem dX6_divides_28 : decode cX6_divides 28 = .ok (.iaload, 1) := by decide +kernel
theorem dX6_divides_29 : decode cX6_divides 29 = .ok (.if_icmp .ge 101, 3) := by decide +kernel
theorem dX6_divides_32 : decode cX6_divides 32 = .ok (.iload 4, 2) := by decide +kernel
theorem dX6_divides_34 : decode cX6_divides 34 = .ok (.iload 5, 2) := by decide +kernel
theorem dX6_divides_36 : decode cX6_divides 36 = .ok (.ishr, 1) := by decide +kernel
theorem dX6_divides_37 : decode cX6_divides 37 = .ok (.iconst 1, 1) := by decide +kernel
theorem dX6_divides_38 : decode cX6_divides 38 = .ok (.iand, 1) := by decide +kernel
theorem dX6_divides_39 : decode cX6_divides 39 = .ok (.ifCond .ne 6, 3) := by decide +kernel
theorem dX6_divides_42 : decode cX6_divides 42 = .ok (.goto 82, 3) := by decide +kernel
theorem dX6_divides_45 : decode cX6_divides 45 = .ok (.aload_n 0, 1) := by decide +kernel
theorem dX6_divides_46 : decode cX6_divides 46 = .ok (.iload_n 2, 1) := by decide +kernel
theorem dX6_divides_47 : decode cX6_divides 47 = .ok (.iload 5, 2) := by decide +kernel
theorem dX6_divides_49 : decode cX6_divides 49 = .ok (.aload_n 0, 1) := by decide +kernel
theorem dX6_divides_50 : decode cX6_divides 50 = .ok (.iload_n 1, 1) := by decide +kernel
theorem dX6_divides_51 : decode cX6_divides 51 = .ok (.iload 5, 2) := by decide +kernel
theorem dX6_divides_53 : decode cX6_divides 53 = .ok (.iload_n 3, 1) := by decide +kernel
theorem dX6_divides_54 : decode cX6_divides 54 = .ok (.invokevirtual 130, 3) := by decide +kernel
theorem dX6_divides_57 : decode cX6_divides 57 = .ok (.invokevirtual 130, 3) := by decide +kernel
theorem dX6_divides_60 : decode cX6_divides 60 = .ok (.istore 6, 2) := by decide +kernel
theorem dX6_divides_62 : decode cX6_divides 62 = .ok (.iload 6, 2) := by decide +kernel
theorem dX6_divides_64 : decode cX6_divides 64 = .ok (.invokestatic 133, 3) := by decide +kernel
theorem dX6_divides_67 : decode cX6_divides 67 = .ok (.istore 7, 2) := by decide +kernel
theorem dX6_divides_69 : decode cX6_divides 69 = .ok (.iload 4, 2) := by decide +kernel
theorem dX6_divides_71 : decode cX6_divides 71 = .ok (.iload 6, 2) := by decide +kernel
theorem dX6_divides_73 : decode cX6_divides 73 = .ok (.iconst (-1), 1) := by decide +kernel
theorem dX6_divides_74 : decode cX6_divides 74 = .ok (.ixor, 1) := by decide +kernel
theorem dX6_divides_75 : decode cX6_divides 75 = .ok (.iand, 1) := by decide +kernel
theorem dX6_divides_76 : decode cX6_divides 76 = .ok (.istore 4, 2) := by decide +kernel
theorem dX6_divides_78 : decode cX6_divides 78 = .ok (.aload_n 0, 1) := by decide +kernel
theorem dX6_divides_79 : decode cX6_divides 79 = .ok (.dup, 1) := by decide +kernel
theorem dX6_divides_80 : decode cX6_divides 80 = .ok (.getfield 120, 3) := by decide +kernel
theorem dX6_divides_83 : decode cX6_divides 83 = .ok (.iconst 1, 1) := by decide +kernel
theorem dX6_divides_84 : decode cX6_divides 84 = .ok (.iadd, 1) := by decide +kernel
theorem dX6_divides_85 : decode cX6_divides 85 = .ok (.putfield 120, 3) := by decide +kernel
theorem dX6_divides_88 : decode cX6_divides 88 = .ok (.aload_n 0, 1) := by decide +kernel
theorem dX6_divides_89 : decode cX6_divides 89 = .ok (.iload 7, 2) := by decide +kernel
theorem dX6_divides_91 : decode cX6_divides 91 = .ok (.aload_n 0, 1) := by decide +kernel
theorem dX6_divides_92 : decode cX6_divides 92 = .ok (.getfield 124, 3) := by decide +kernel
theorem dX6_divides_95 : decode cX6_divides 95 = .ok (.if_icmp .le 8, 3) := by decide +kernel
theorem dX6_divides_98 : decode cX6_divides 98 = .ok (.iload 7, 2) := by decide +kernel
theorem dX6_divides_100 : decode cX6_divides 100 = .ok (.goto 7, 3) := by decide +kernel
theorem dX6_divides_103 : decode cX6_divides 103 = .ok (.aload_n 0, 1) := by decide +kernel
theorem dX6_divides_104 : decode cX6_divides 104 = .ok (.getfield 124, 3) := by decide +kernel
theorem dX6_divides_107 : decode cX6_divides 107 = .ok (.putfield 124, 3) := by decide +kernel
theorem dX6_divides_110 : decode cX6_divides 110 = .ok (.aload_n 0, 1) := by decide +kernel
theorem dX6_divides_111 : decode cX6_divides 111 = .ok (.dup, 1) := by decide +kernel
theorem dX6_divides_112 : decode cX6_divides 112 = .ok (.getfield 127, 3) := by decide +kernel
theorem dX6_divides_115 : decode cX6_divides 115 = .ok (.iload 7, 2) := by decide +kernel
theorem dX6_divides_117 : decode cX6_divides 117 = .ok (.iload 7, 2) := by decide +kernel
theorem dX6_divides_119 : decode cX6_divides 119 = .ok (.imul, 1) := by decide +kernel
theorem dX6_divides_120 : decode cX6_divides 120 = .ok (.iadd, 1) := by decide +kernel
theorem dX6_divides_121 : decode cX6_divides 121 = .ok (.putfield 127, 3) := by decide +kernel
theorem dX6_divides_124 : decode cX6_divides 124 = .ok (.iinc 5 1, 3) := by decide +kernel
theorem dX6_divides_127 : decode cX6_divides 127 = .ok (.goto (-106), 3) := by decide +kernel
theorem dX6_divides_130 : decode cX6_divides 130 = .ok (.return_, 1) := by decide +kernel
theorem dX6_canDivide_0 : decode cX6_canDivide 0 = .ok (.aload_n 0, 1) := by decide +kernel
theorem dX6_canDivide_1 : decode cX6_canDivide 1 = .ok (.invokevirtual 136, 3) := by decide +kernel
theorem dX6_canDivide_4 : decode cX6_canDivide 4 = .ok (.iload_n 1, 1) := by decide +kernel
theorem dX6_canDivide_5 : decode cX6_canDivide 5 = .ok (.iload_n 2, 1) := by decide +kernel
theorem dX6_canDivide_6 : decode cX6_canDivide 6 = .ok (.invokestatic 111, 3) := by decide +kernel
theorem dX6_canDivide_9 : decode cX6_canDivide 9 = .ok (.ifCond .eq 15, 3) := by decide +kernel
theorem dX6_canDivide_12 : decode cX6_canDivide 12 = .ok (.aload_n 0, 1) := by decide +kernel
theorem dX6_canDivide_13 : decode cX6_canDivide 13 = .ok (.iload_n 3, 1) := by decide +kernel
theorem dX6_canDivide_14 : decode cX6_canDivide 14 = .ok (.invokevirtual 139, 3) := by decide +kernel
theorem dX6_canDivide_17 : decode cX6_canDivide 17 = .ok (.ifCond .eq 7, 3) := by decide +kernel
theorem dX6_canDivide_20 : decode cX6_canDivide 20 = .ok (.iconst 1, 1) := by decide +kernel
theorem dX6_canDivide_21 : decode cX6_canDivide 21 = .ok (.goto 4, 3) := by decide +kernel
theorem dX6_canDivide_24 : decode cX6_canDivide 24 = .ok (.iconst 0, 1) := by decide +kernel
theorem dX6_canDivide_25 : decode cX6_canDivide 25 = .ok (.ireturn, 1) := by decide +kernel
theorem dX6_parts_0 : decode cX6_parts 0 = .ok (.aload_n 0, 1) := by decide +kernel
theorem dX6_parts_1 : decode cX6_parts 1 = .ok (.iload_n 1, 1) := by decide +kernel
theorem dX6_parts_2 : decode cX6_parts 2 = .ok (.iload_n 2, 1) := by decide +kernel
theorem dX6_parts_3 : decode cX6_parts 3 = .ok (.iload_n 3, 1) := by decide +kernel
theorem dX6_parts_4 : decode cX6_parts 4 = .ok (.invokevirtual 142, 3) := by decide +kernel
theorem dX6_parts_7 : decode cX6_parts 7 = .ok (.ifCond .ne 10, 3) := by decide +kernel
theorem dX6_parts_10 : decode cX6_parts 10 = .ok (.aload_n 0, 1) := by decide +kernel
theorem dX6_parts_11 : decode cX6_parts 11 = .ok (.ldc 43, 2) := by decide +kernel
theorem dX6_parts_13 : decode cX6_parts 13 = .ok (.invokevirtual 45, 3) := by decide +kernel
theorem dX6_parts_16 : decode cX6_parts 16 = .ok (.ireturn, 1) := by decide +kernel
theorem dX6_parts_17 : decode cX6_parts 17 = .ok (.aload_n 0, 1) := by decide +kernel
theorem dX6_parts_18 : decode cX6_parts 18 = .ok (.iconst 4, 1) := by decide +kernel
theorem dX6_parts_19 : decode cX6_parts 19 = .ok (.iload_n 1, 1) := by decide +kernel
theorem dX6_parts_20 : decode cX6_parts 20 = .ok (.imul, 1) := by decide +kernel
theorem dX6_parts_21 : decode cX6_parts 21 = .ok (.iload_n 2, 1) := by decide +kernel
theorem dX6_parts_22 : decode cX6_parts 22 = .ok (.iadd, 1) := by decide +kernel
theorem dX6_parts_23 : decode cX6_parts 23 = .ok (.iconst 4, 1) := by decide +kernel
theorem dX6_parts_24 : decode cX6_parts 24 = .ok (.iload_n 1, 1) := by decide +kernel
theorem dX6_parts_25 : decode cX6_parts 25 = .ok (.imul, 1) := by decide +kernel
theorem dX6_parts_26 : decode cX6_parts 26 = .ok (.iload_n 2, 1) := by decide +kernel
theorem dX6_parts_27 : decode cX6_parts 27 = .ok (.iadd, 1) := by decide +kernel
theorem dX6_parts_28 : decode cX6_parts 28 = .ok (.iload_n 3, 1) := by decide +kernel
theorem dX6_parts_29 : decode cX6_parts 29 = .ok (.invokevirtual 146, 3) := by decide +kernel
theorem dX6_parts_32 : decode cX6_parts 32 = .ok (.aload_n 0, 1) := by decide +kernel
theorem dX6_parts_33 : decode cX6_parts 33 = .ok (.getfield 120, 3) := by decide +kernel
theorem dX6_parts_36 : decode cX6_parts 36 = .ok (.ireturn, 1) := by decide +kernel
theorem dX6_worst_0 : decode cX6_worst 0 = .ok (.aload_n 0, 1) := by decide +kernel
theorem dX6_worst_1 : decode cX6_worst 1 = .ok (.iload_n 1, 1) := by decide +kernel
theorem dX6_worst_2 : decode cX6_worst 2 = .ok (.iload_n 2, 1) := by decide +kernel
theorem dX6_worst_3 : decode cX6_worst 3 = .ok (.iload_n 3, 1) := by decide +kernel
theorem dX6_worst_4 : decode cX6_worst 4 = .ok (.invokevirtual 142, 3) := by decide +kernel
theorem dX6_worst_7 : decode cX6_worst 7 = .ok (.ifCond .ne 10, 3) := by decide +kernel
theorem dX6_worst_10 : decode cX6_worst 10 = .ok (.aload_n 0, 1) := by decide +kernel
theorem dX6_worst_11 : decode cX6_worst 11 = .ok (.ldc 43, 2) := by decide +kernel
theorem dX6_worst_13 : decode cX6_worst 13 = .ok (.invokevirtual 45, 3) := by decide +kernel
theorem dX6_worst_16 : decode cX6_worst 16 = .ok (.ireturn, 1) := by decide +kernel
theorem dX6_worst_17 : decode cX6_worst 17 = .ok (.aload_n 0, 1) := by decide +kernel
theorem dX6_worst_18 : decode cX6_worst 18 = .ok (.iconst 4, 1) := by decide +kernel
theorem dX6_worst_19 : decode cX6_worst 19 = .ok (.iload_n 1, 1) := by decide +kernel
theorem dX6_worst_20 : decode cX6_worst 20 = .ok (.imul, 1) := by decide +kernel
theorem dX6_worst_21 : decode cX6_worst 21 = .ok (.iload_n 2, 1) := by decide +kernel
theorem dX6_worst_22 : decode cX6_worst 22 = .ok (.iadd, 1) := by decide +kernel
theorem dX6_worst_23 : decode cX6_worst 23 = .ok (.iconst 4, 1) := by decide +kernel
theorem dX6_worst_24 : decode cX6_worst 24 = .ok (.iload_n 1, 1) := by decide +kernel
theorem dX6_worst_25 : decode cX6_worst 25 = .ok (.imul, 1) := by decide +kernel
theorem dX6_worst_26 : decode cX6_worst 26 = .ok (.iload_n 2, 1) := by decide +kernel
theorem dX6_worst_27 : decode cX6_worst 27 = .ok (.iadd, 1) := by decide +kernel
theorem dX6_worst_28 : decode cX6_worst 28 = .ok (.iload_n 3, 1) := by decide +kernel
theorem dX6_worst_29 : decode cX6_worst 29 = .ok (.invokevirtual 146, 3) := by decide +kernel
theorem dX6_worst_32 : decode cX6_worst 32 = .ok (.aload_n 0, 1) := by decide +kernel
theorem dX6_worst_33 : decode cX6_worst 33 = .ok (.getfield 124, 3) := by decide +kernel
theorem dX6_worst_36 : decode cX6_worst 36 = .ok (.ireturn, 1) := by decide +kernel
theorem dX6_sum_0 : decode cX6_sum 0 = .ok (.aload_n 0, 1) := by decide +kernel
theorem dX6_sum_1 : decode cX6_sum 1 = .ok (.iload_n 1, 1) := by decide +kernel
theorem dX6_sum_2 : decode cX6_sum 2 = .ok (.iload_n 2, 1) := by decide +kernel
theorem dX6_sum_3 : decode cX6_sum 3 = .ok (.iload_n 3, 1) := by decide +kernel
theorem dX6_sum_4 : decode cX6_sum 4 = .ok (.invokevirtual 142, 3) := by decide +kernel
theorem dX6_sum_7 : decode cX6_sum 7 = .ok (.ifCond .ne 10, 3) := by decide +kernel
theorem dX6_sum_10 : decode cX6_sum 10 = .ok (.aload_n 0, 1) := by decide +kernel
theorem dX6_sum_11 : decode cX6_sum 11 = .ok (.ldc 43, 2) := by decide +kernel
theorem dX6_sum_13 : decode cX6_sum 13 = .ok (.invokevirtual 45, 3) := by decide +kernel
theorem dX6_sum_16 : decode cX6_sum 16 = .ok (.ireturn, 1) := by decide +kernel
theorem dX6_sum_17 : decode cX6_sum 17 = .ok (.aload_n 0, 1) := by decide +kernel
theorem dX6_sum_18 : decode cX6_sum 18 = .ok (.iconst 4, 1) := by decide +kernel
theorem dX6_sum_19 : decode cX6_sum 19 = .ok (.iload_n 1, 1) := by decide +kernel
theorem dX6_sum_20 : decode cX6_sum 20 = .ok (.imul, 1) := by decide +kernel
theorem dX6_sum_21 : decode cX6_sum 21 = .ok (.iload_n 2, 1) := by decide +kernel
theorem dX6_sum_22 : decode cX6_sum 22 = .ok (.iadd, 1) := by decide +kernel
theorem dX6_sum_23 : decode cX6_sum 23 = .ok (.iconst 4, 1) := by decide +kernel
theorem dX6_sum_24 : decode cX6_sum 24 = .ok (.iload_n 1, 1) := by decide +kernel
theorem dX6_sum_25 : decode cX6_sum 25 = .ok (.imul, 1) := by decide +kernel
theorem dX6_sum_26 : decode cX6_sum 26 = .ok (.iload_n 2, 1) := by decide +kernel
theorem dX6_sum_27 : decode cX6_sum 27 = .ok (.iadd, 1) := by decide +kernel
theorem dX6_sum_28 : decode cX6_sum 28 = .ok (.iload_n 3, 1) := by decide +kernel
theorem dX6_sum_29 : decode cX6_sum 29 = .ok (.invokevirtual 146, 3) := by decide +kernel
theorem dX6_sum_32 : decode cX6_sum 32 = .ok (.aload_n 0, 1) := by decide +kernel
theorem dX6_sum_33 : decode cX6_sum 33 = .ok (.getfield 127, 3) := by decide +kernel
theorem dX6_sum_36 : decode cX6_sum 36 = .ok (.ireturn, 1) := by decide +kernel
theorem dX6_slip_0 : decode cX6_slip 0 = .ok (.aload_n 0, 1) := by decide +kernel
theorem dX6_slip_1 : decode cX6_slip 1 = .ok (.iload_n 1, 1) := by decide +kernel
theorem dX6_slip_2 : decode cX6_slip 2 = .ok (.invokevirtual 94, 3) := by decide +kernel
theorem dX6_slip_5 : decode cX6_slip 5 = .ok (.ifCond .eq 10, 3) := by decide +kernel
theorem dX6_slip_8 : decode cX6_slip 8 = .ok (.iload_n 2, 1) := by decide +kernel
theorem dX6_slip_9 : decode cX6_slip 9 = .ok (.invokestatic 100, 3) := by decide +kernel
theorem dX6_slip_12 : decode cX6_slip 12 = .ok (.ifCond .ne 10, 3) := by decide +kernel
theorem dX6_slip_15 : decode cX6_slip 15 = .ok (.aload_n 0, 1) := by decide +kernel
theorem dX6_slip_16 : decode cX6_slip 16 = .ok (.ldc 43, 2) := by decide +kernel
theorem dX6_slip_18 : decode cX6_slip 18 = .ok (.invokevirtual 45, 3) := by decide +kernel
theorem dX6_slip_21 : decode cX6_slip 21 = .ok (.ireturn, 1) := by decide +kernel
theorem dX6_slip_22 : decode cX6_slip 22 = .ok (.aload_n 0, 1) := by decide +kernel
theorem dX6_slip_23 : decode cX6_slip 23 = .ok (.iload_n 1, 1) := by decide +kernel
theorem dX6_slip_24 : decode cX6_slip 24 = .ok (.iload_n 2, 1) := by decide +kernel
theorem dX6_slip_25 : decode cX6_slip 25 = .ok (.invokevirtual 103, 3) := by decide +kernel
theorem dX6_slip_28 : decode cX6_slip 28 = .ok (.ifCond .ne 10, 3) := by decide +kernel
theorem dX6_slip_31 : decode cX6_slip 31 = .ok (.aload_n 0, 1) := by decide +kernel
theorem dX6_slip_32 : decode cX6_slip 32 = .ok (.ldc 150, 2) := by decide +kernel
theorem dX6_slip_34 : decode cX6_slip 34 = .ok (.invokevirtual 45, 3) := by decide +kernel
theorem dX6_slip_37 : decode cX6_slip 37 = .ok (.ireturn, 1) := by decide +kernel
theorem dX6_slip_38 : decode cX6_slip 38 = .ok (.aload_n 0, 1) := by decide +kernel
theorem dX6_slip_39 : decode cX6_slip 39 = .ok (.getfield 9, 3) := by decide +kernel
theorem dX6_slip_42 : decode cX6_slip 42 = .ok (.iconst 5, 1) := by decide +kernel
theorem dX6_slip_43 : decode cX6_slip 43 = .ok (.iload_n 1, 1) := by decide +kernel
theorem dX6_slip_44 : decode cX6_slip 44 = .ok (.iastore, 1) := by decide +kernel
theorem dX6_slip_45 : decode cX6_slip 45 = .ok (.aload_n 0, 1) := by decide +kernel
theorem dX6_slip_46 : decode cX6_slip 46 = .ok (.getfield 9, 3) := by decide +kernel
theorem dX6_slip_49 : decode cX6_slip 49 = .ok (.bipush 6, 2) := by decide +kernel
theorem dX6_slip_51 : decode cX6_slip 51 = .ok (.iload_n 2, 1) := by decide +kernel
theorem dX6_slip_52 : decode cX6_slip 52 = .ok (.iastore, 1) := by decide +kernel
theorem dX6_slip_53 : decode cX6_slip 53 = .ok (.aload_n 0, 1) := by decide +kernel
theorem dX6_slip_54 : decode cX6_slip 54 = .ok (.getfield 9, 3) := by decide +kernel
theorem dX6_slip_57 : decode cX6_slip 57 = .ok (.bipush 7, 2) := by decide +kernel
theorem dX6_slip_59 : decode cX6_slip 59 = .ok (.iconst 0, 1) := by decide +kernel
theorem dX6_slip_60 : decode cX6_slip 60 = .ok (.iastore, 1) := by decide +kernel
theorem dX6_slip_61 : decode cX6_slip 61 = .ok (.aload_n 0, 1) := by decide +kernel
theorem dX6_slip_62 : decode cX6_slip 62 = .ok (.getfield 9, 3) := by decide +kernel
theorem dX6_slip_65 : decode cX6_slip 65 = .ok (.bipush 8, 2) := by decide +kernel
theorem dX6_slip_67 : decode cX6_slip 67 = .ok (.iconst 0, 1) := by decide +kernel
theorem dX6_slip_68 : decode cX6_slip 68 = .ok (.iastore, 1) := by decide +kernel
theorem dX6_slip_69 : decode cX6_slip 69 = .ok (.aload_n 0, 1) := by decide +kernel
theorem dX6_slip_70 : decode cX6_slip 70 = .ok (.getfield 9, 3) := by decide +kernel
theorem dX6_slip_73 : decode cX6_slip 73 = .ok (.bipush 9, 2) := by decide +kernel
theorem dX6_slip_75 : decode cX6_slip 75 = .ok (.aload_n 0, 1) := by decide +kernel
theorem dX6_slip_76 : decode cX6_slip 76 = .ok (.iload_n 2, 1) := by decide +kernel
theorem dX6_slip_77 : decode cX6_slip 77 = .ok (.invokevirtual 106, 3) := by decide +kernel
theorem dX6_slip_80 : decode cX6_slip 80 = .ok (.iastore, 1) := by decide +kernel
theorem dX6_slip_81 : decode cX6_slip 81 = .ok (.aload_n 0, 1) := by decide +kernel
theorem dX6_slip_82 : decode cX6_slip 82 = .ok (.getfield 9, 3) := by decide +kernel
theorem dX6_slip_85 : decode cX6_slip 85 = .ok (.bipush 9, 2) := by decide +kernel
theorem dX6_slip_87 : decode cX6_slip 87 = .ok (.iaload, 1) := by decide +kernel
theorem dX6_slip_88 : decode cX6_slip 88 = .ok (.invokestatic 133, 3) := by decide +kernel
theorem dX6_slip_91 : decode cX6_slip 91 = .ok (.ireturn, 1) := by decide +kernel
theorem dX6_show_0 : decode cX6_show 0 = .ok (.iload_n 1, 1) := by decide +kernel
theorem dX6_show_1 : decode cX6_show 1 = .ok (.iload_n 2, 1) := by decide +kernel
theorem dX6_show_2 : decode cX6_show 2 = .ok (.invokestatic 111, 3) := by decide +kernel
theorem dX6_show_5 : decode cX6_show 5 = .ok (.ifCond .ne 10, 3) := by decide +kernel
theorem dX6_show_8 : decode cX6_show 8 = .ok (.aload_n 0, 1) := by decide +kernel
theorem dX6_show_9 : decode cX6_show 9 = .ok (.ldc 43, 2) := by decide +kernel
theorem dX6_show_11 : decode cX6_show 11 = .ok (.invokevirtual 45, 3) := by decide +kernel
theorem dX6_show_14 : decode cX6_show 14 = .ok (.ireturn, 1) := by decide +kernel
theorem dX6_show_15 : decode cX6_show 15 = .ok (.aload_n 0, 1) := by decide +kernel
theorem dX6_show_16 : decode cX6_show 16 = .ok (.getfield 9, 3) := by decide +kernel
theorem dX6_show_19 : decode cX6_show 19 = .ok (.iconst 5, 1) := by decide +kernel
theorem dX6_show_20 : decode cX6_show 20 = .ok (.iaload, 1) := by decide +kernel
theorem dX6_show_21 : decode cX6_show 21 = .ok (.ifCond .ge 10, 3) := by decide +kernel
theorem dX6_show_24 : decode cX6_show 24 = .ok (.aload_n 0, 1) := by decide +kernel
theorem dX6_show_25 : decode cX6_show 25 = .ok (.ldc 44, 2) := by decide +kernel
theorem dX6_show_27 : decode cX6_show 27 = .ok (.invokevirtual 45, 3) := by decide +kernel
theorem dX6_show_30 : decode cX6_show 30 = .ok (.ireturn, 1) := by decide +kernel
theorem dX6_show_31 : decode cX6_show 31 = .ok (.iconst 4, 1) := by decide +kernel
theorem dX6_show_32 : decode cX6_show 32 = .ok (.iload_n 1, 1) := by decide +kernel
theorem dX6_show_33 : decode cX6_show 33 = .ok (.imul, 1) := by decide +kernel
theorem dX6_show_34 : decode cX6_show 34 = .ok (.iload_n 2, 1) := by decide +kernel
theorem dX6_show_35 : decode cX6_show 35 = .ok (.iadd, 1) := by decide +kernel
theorem dX6_show_36 : decode cX6_show 36 = .ok (.istore_n 3, 1) := by decide +kernel
theorem dX6_show_37 : decode cX6_show 37 = .ok (.aload_n 0, 1) := by decide +kernel
theorem dX6_show_38 : decode cX6_show 38 = .ok (.getfield 9, 3) := by decide +kernel
theorem dX6_show_41 : decode cX6_show 41 = .ok (.bipush 7, 2) := by decide +kernel
theorem dX6_show_43 : decode cX6_show 43 = .ok (.iaload, 1) := by decide +kernel
theorem dX6_show_44 : decode cX6_show 44 = .ok (.iload_n 3, 1) := by decide +kernel
theorem dX6_show_45 : decode cX6_show 45 = .ok (.invokestatic 117, 3) := by decide +kernel
theorem dX6_show_48 : decode cX6_show 48 = .ok (.iadd, 1) := by decide +kernel
theorem dX6_show_49 : decode cX6_show 49 = .ok (.bipush 60, 2) := by decide +kernel
theorem dX6_show_51 : decode cX6_show 51 = .ok (.if_icmp .le 10, 3) := by decide +kernel
theorem dX6_show_54 : decode cX6_show 54 = .ok (.aload_n 0, 1) := by decide +kernel
theorem dX6_show_55 : decode cX6_show 55 = .ok (.ldc 150, 2) := by decide +kernel
theorem dX6_show_57 : decode cX6_show 57 = .ok (.invokevirtual 45, 3) := by decide +kernel
theorem dX6_show_60 : decode cX6_show 60 = .ok (.ireturn, 1) := by decide +kernel
theorem dX6_show_61 : decode cX6_show 61 = .ok (.aload_n 0, 1) := by decide +kernel
theorem dX6_show_62 : decode cX6_show 62 = .ok (.getfield 9, 3) := by decide +kernel
theorem dX6_show_65 : decode cX6_show 65 = .ok (.bipush 7, 2) := by decide +kernel
theorem dX6_show_67 : decode cX6_show 67 = .ok (.dup2, 1) := by decide +kernel
theorem dX6_show_68 : decode cX6_show 68 = .ok (.iaload, 1) := by decide +kernel
theorem dX6_show_69 : decode cX6_show 69 = .ok (.iload_n 3, 1) := by decide +kernel
theorem dX6_show_70 : decode cX6_show 70 = .ok (.invokestatic 117, 3) := by decide +kernel
theorem dX6_show_73 : decode cX6_show 73 = .ok (.iadd, 1) := by decide +kernel
theorem dX6_show_74 : decode cX6_show 74 = .ok (.iastore, 1) := by decide +kernel
theorem dX6_show_75 : decode cX6_show 75 = .ok (.aload_n 0, 1) := by decide +kernel
theorem dX6_show_76 : decode cX6_show 76 = .ok (.getfield 9, 3) := by decide +kernel
theorem dX6_show_79 : decode cX6_show 79 = .ok (.bipush 8, 2) := by decide +kernel
theorem dX6_show_81 : decode cX6_show 81 = .ok (.dup2, 1) := by decide +kernel
theorem dX6_show_82 : decode cX6_show 82 = .ok (.iaload, 1) := by decide +kernel
theorem dX6_show_83 : decode cX6_show 83 = .ok (.iconst 1, 1) := by decide +kernel
theorem dX6_show_84 : decode cX6_show 84 = .ok (.iadd, 1) := by decide +kernel
theorem dX6_show_85 : decode cX6_show 85 = .ok (.iastore, 1) := by decide +kernel
theorem dX6_show_86 : decode cX6_show 86 = .ok (.aload_n 0, 1) := by decide +kernel
theorem dX6_show_87 : decode cX6_show 87 = .ok (.invokevirtual 136, 3) := by decide +kernel
theorem dX6_show_90 : decode cX6_show 90 = .ok (.aload_n 0, 1) := by decide +kernel
theorem dX6_show_91 : decode cX6_show 91 = .ok (.getfield 9, 3) := by decide +kernel
theorem dX6_show_94 : decode cX6_show 94 = .ok (.bipush 9, 2) := by decide +kernel
theorem dX6_show_96 : decode cX6_show 96 = .ok (.aload_n 0, 1) := by decide +kernel
theorem dX6_show_97 : decode cX6_show 97 = .ok (.iload_n 3, 1) := by decide +kernel
theorem dX6_show_98 : decode cX6_show 98 = .ok (.aload_n 0, 1) := by decide +kernel
theorem dX6_show_99 : decode cX6_show 99 = .ok (.getfield 9, 3) := by decide +kernel
theorem dX6_show_102 : decode cX6_show 102 = .ok (.iconst 5, 1) := by decide +kernel
theorem dX6_show_103 : decode cX6_show 103 = .ok (.iaload, 1) := by decide +kernel
theorem dX6_show_104 : decode cX6_show 104 = .ok (.aload_n 0, 1) := by decide +kernel
theorem dX6_show_105 : decode cX6_show 105 = .ok (.getfield 9, 3) := by decide +kernel
theorem dX6_show_108 : decode cX6_show 108 = .ok (.bipush 9, 2) := by decide +kernel
theorem dX6_show_110 : decode cX6_show 110 = .ok (.iaload, 1) := by decide +kernel
theorem dX6_show_111 : decode cX6_show 111 = .ok (.invokevirtual 130, 3) := by decide +kernel
theorem dX6_show_114 : decode cX6_show 114 = .ok (.iastore, 1) := by decide +kernel
theorem dX6_show_115 : decode cX6_show 115 = .ok (.aload_n 0, 1) := by decide +kernel
theorem dX6_show_116 : decode cX6_show 116 = .ok (.getfield 9, 3) := by decide +kernel
theorem dX6_show_119 : decode cX6_show 119 = .ok (.bipush 9, 2) := by decide +kernel
theorem dX6_show_121 : decode cX6_show 121 = .ok (.iaload, 1) := by decide +kernel
theorem dX6_show_122 : decode cX6_show 122 = .ok (.invokestatic 133, 3) := by decide +kernel
theorem dX6_show_125 : decode cX6_show 125 = .ok (.ireturn, 1) := by decide +kernel
theorem dX6_now_0 : decode cX6_now 0 = .ok (.iload_n 1, 1) := by decide +kernel
theorem dX6_now_1 : decode cX6_now 1 = .ok (.i2l, 1) := by decide +kernel
theorem dX6_now_2 : decode cX6_now 2 = .ok (.lconst 0, 1) := by decide +kernel
theorem dX6_now_3 : decode cX6_now 3 = .ok (.ldc2_w 151, 3) := by decide +kernel
theorem dX6_now_6 : decode cX6_now 6 = .ok (.invokestatic 49, 3) := by decide +kernel
theorem dX6_now_9 : decode cX6_now 9 = .ok (.ifCond .ne 10, 3) := by decide +kernel
theorem dX6_now_12 : decode cX6_now 12 = .ok (.aload_n 0, 1) := by decide +kernel
theorem dX6_now_13 : decode cX6_now 13 = .ok (.ldc 43, 2) := by decide +kernel
theorem dX6_now_15 : decode cX6_now 15 = .ok (.invokevirtual 45, 3) := by decide +kernel
theorem dX6_now_18 : decode cX6_now 18 = .ok (.ireturn, 1) := by decide +kernel
theorem dX6_now_19 : decode cX6_now 19 = .ok (.aload_n 0, 1) := by decide +kernel
theorem dX6_now_20 : decode cX6_now 20 = .ok (.getfield 9, 3) := by decide +kernel
theorem dX6_now_23 : decode cX6_now 23 = .ok (.iconst 5, 1) := by decide +kernel
theorem dX6_now_24 : decode cX6_now 24 = .ok (.iaload, 1) := by decide +kernel
theorem dX6_now_25 : decode cX6_now 25 = .ok (.ifCond .ge 10, 3) := by decide +kernel
theorem dX6_now_28 : decode cX6_now 28 = .ok (.aload_n 0, 1) := by decide +kernel
theorem dX6_now_29 : decode cX6_now 29 = .ok (.ldc 44, 2) := by decide +kernel
theorem dX6_now_31 : decode cX6_now 31 = .ok (.invokevirtual 45, 3) := by decide +kernel
theorem dX6_now_34 : decode cX6_now 34 = .ok (.ireturn, 1) := by decide +kernel
theorem dX6_now_35 : decode cX6_now 35 = .ok (.iload_n 1, 1) := by decide +kernel
theorem dX6_now_36 : decode cX6_now 36 = .ok (.iconst 5, 1) := by decide +kernel
theorem dX6_now_37 : decode cX6_now 37 = .ok (.if_icmp .ge 14, 3) := by decide +kernel
theorem dX6_now_40 : decode cX6_now 40 = .ok (.aload_n 0, 1) := by decide +kernel
theorem dX6_now_41 : decode cX6_now 41 = .ok (.getfield 9, 3) := by decide +kernel
theorem dX6_now_44 : decode cX6_now 44 = .ok (.iconst 5, 1) := by decide +kernel
theorem dX6_now_45 : decode cX6_now 45 = .ok (.iload_n 1, 1) := by decide +kernel
theorem dX6_now_46 : decode cX6_now 46 = .ok (.iadd, 1) := by decide +kernel
theorem dX6_now_47 : decode cX6_now 47 = .ok (.iaload, 1) := by decide +kernel
theorem dX6_now_48 : decode cX6_now 48 = .ok (.goto 22, 3) := by decide +kernel
theorem dX6_now_51 : decode cX6_now 51 = .ok (.aload_n 0, 1) := by decide +kernel
theorem dX6_now_52 : decode cX6_now 52 = .ok (.getfield 9, 3) := by decide +kernel
theorem dX6_now_55 : decode cX6_now 55 = .ok (.bipush 9, 2) := by decide +kernel
theorem dX6_now_57 : decode cX6_now 57 = .ok (.iaload, 1) := by decide +kernel
theorem dX6_now_58 : decode cX6_now 58 = .ok (.invokestatic 133, 3) := by decide +kernel
theorem dX6_now_61 : decode cX6_now 61 = .ok (.iconst 1, 1) := by decide +kernel
theorem dX6_now_62 : decode cX6_now 62 = .ok (.if_icmp .ne 7, 3) := by decide +kernel
theorem dX6_now_65 : decode cX6_now 65 = .ok (.iconst 1, 1) := by decide +kernel
theorem dX6_now_66 : decode cX6_now 66 = .ok (.goto 4, 3) := by decide +kernel
theorem dX6_now_69 : decode cX6_now 69 = .ok (.iconst 0, 1) := by decide +kernel
theorem dX6_now_70 : decode cX6_now 70 = .ok (.ireturn, 1) := by decide +kernel
theorem dX6_shout_0 : decode cX6_shout 0 = .ok (.aload_n 0, 1) := by decide +kernel
theorem dX6_shout_1 : decode cX6_shout 1 = .ok (.iload_n 1, 1) := by decide +kernel
theorem dX6_shout_2 : decode cX6_shout 2 = .ok (.invokevirtual 94, 3) := by decide +kernel
theorem dX6_shout_5 : decode cX6_shout 5 = .ok (.ifCond .ne 10, 3) := by decide +kernel
theorem dX6_shout_8 : decode cX6_shout 8 = .ok (.aload_n 0, 1) := by decide +kernel
theorem dX6_shout_9 : decode cX6_shout 9 = .ok (.ldc 43, 2) := by decide +kernel
theorem dX6_shout_11 : decode cX6_shout 11 = .ok (.invokevirtual 45, 3) := by decide +kernel
theorem dX6_shout_14 : decode cX6_shout 14 = .ok (.ireturn, 1) := by decide +kernel
theorem dX6_shout_15 : decode cX6_shout 15 = .ok (.aload_n 0, 1) := by decide +kernel
theorem dX6_shout_16 : decode cX6_shout 16 = .ok (.getfield 9, 3) := by decide +kernel
theorem dX6_shout_19 : decode cX6_shout 19 = .ok (.iconst 5, 1) := by decide +kernel
theorem dX6_shout_20 : decode cX6_shout 20 = .ok (.iaload, 1) := by decide +kernel
theorem dX6_shout_21 : decode cX6_shout 21 = .ok (.ifCond .ge 10, 3) := by decide +kernel
theorem dX6_shout_24 : decode cX6_shout 24 = .ok (.aload_n 0, 1) := by decide +kernel
theorem dX6_shout_25 : decode cX6_shout 25 = .ok (.ldc 44, 2) := by decide +kernel
theorem dX6_shout_27 : decode cX6_shout 27 = .ok (.invokevirtual 45, 3) := by decide +kernel
theorem dX6_shout_30 : decode cX6_shout 30 = .ok (.ireturn, 1) := by decide +kernel
theorem dX6_shout_31 : decode cX6_shout 31 = .ok (.aload_n 0, 1) := by decide +kernel
theorem dX6_shout_32 : decode cX6_shout 32 = .ok (.getfield 9, 3) := by decide +kernel
theorem dX6_shout_35 : decode cX6_shout 35 = .ok (.bipush 9, 2) := by decide +kernel
theorem dX6_shout_37 : decode cX6_shout 37 = .ok (.iaload, 1) := by decide +kernel
theorem dX6_shout_38 : decode cX6_shout 38 = .ok (.iload_n 1, 1) := by decide +kernel
theorem dX6_shout_39 : decode cX6_shout 39 = .ok (.ishr, 1) := by decide +kernel
theorem dX6_shout_40 : decode cX6_shout 40 = .ok (.iconst 1, 1) := by decide +kernel
theorem dX6_shout_41 : decode cX6_shout 41 = .ok (.iand, 1) := by decide +kernel
theorem dX6_shout_42 : decode cX6_shout 42 = .ok (.ifCond .ne 10, 3) := by decide +kernel
theorem dX6_shout_45 : decode cX6_shout 45 = .ok (.aload_n 0, 1) := by decide +kernel
theorem dX6_shout_46 : decode cX6_shout 46 = .ok (.ldc 150, 2) := by decide +kernel
theorem dX6_shout_48 : decode cX6_shout 48 = .ok (.invokevirtual 45, 3) := by decide +kernel
theorem dX6_shout_51 : decode cX6_shout 51 = .ok (.ireturn, 1) := by decide +kernel
theorem dX6_shout_52 : decode cX6_shout 52 = .ok (.aload_n 0, 1) := by decide +kernel
theorem dX6_shout_53 : decode cX6_shout 53 = .ok (.getfield 9, 3) := by decide +kernel
theorem dX6_shout_56 : decode cX6_shout 56 = .ok (.bipush 9, 2) := by decide +kernel
theorem dX6_shout_58 : decode cX6_shout 58 = .ok (.iload_n 1, 1) := by decide +kernel
theorem dX6_shout_59 : decode cX6_shout 59 = .ok (.aload_n 0, 1) := by decide +kernel
theorem dX6_shout_60 : decode cX6_shout 60 = .ok (.getfield 9, 3) := by decide +kernel
theorem dX6_shout_63 : decode cX6_shout 63 = .ok (.iconst 5, 1) := by decide +kernel
theorem dX6_shout_64 : decode cX6_shout 64 = .ok (.iaload, 1) := by decide +kernel
theorem dX6_shout_65 : decode cX6_shout 65 = .ok (.if_icmp .ne 9, 3) := by decide +kernel
theorem dX6_shout_68 : decode cX6_shout 68 = .ok (.iconst 1, 1) := by decide +kernel
theorem dX6_shout_69 : decode cX6_shout 69 = .ok (.iload_n 1, 1) := by decide +kernel
theorem dX6_shout_70 : decode cX6_shout 70 = .ok (.ishl, 1) := by decide +kernel
theorem dX6_shout_71 : decode cX6_shout 71 = .ok (.goto 16, 3) := by decide +kernel
theorem dX6_shout_74 : decode cX6_shout 74 = .ok (.aload_n 0, 1) := by decide +kernel
theorem dX6_shout_75 : decode cX6_shout 75 = .ok (.getfield 9, 3) := by decide +kernel
theorem dX6_shout_78 : decode cX6_shout 78 = .ok (.bipush 9, 2) := by decide +kernel
theorem dX6_shout_80 : decode cX6_shout 80 = .ok (.iaload, 1) := by decide +kernel
theorem dX6_shout_81 : decode cX6_shout 81 = .ok (.iconst 1, 1) := by decide +kernel
theorem dX6_shout_82 : decode cX6_shout 82 = .ok (.iload_n 1, 1) := by decide +kernel
theorem dX6_shout_83 : decode cX6_shout 83 = .ok (.ishl, 1) := by decide +kernel
theorem dX6_shout_84 : decode cX6_shout 84 = .ok (.iconst (-1), 1) := by decide +kernel
theorem dX6_shout_85 : decode cX6_shout 85 = .ok (.ixor, 1) := by decide +kernel
theorem dX6_shout_86 : decode cX6_shout 86 = .ok (.iand, 1) := by decide +kernel
theorem dX6_shout_87 : decode cX6_shout 87 = .ok (.iastore, 1) := by decide +kernel
theorem dX6_shout_88 : decode cX6_shout 88 = .ok (.aload_n 0, 1) := by decide +kernel
theorem dX6_shout_89 : decode cX6_shout 89 = .ok (.getfield 9, 3) := by decide +kernel
theorem dX6_shout_92 : decode cX6_shout 92 = .ok (.bipush 9, 2) := by decide +kernel
theorem dX6_shout_94 : decode cX6_shout 94 = .ok (.iaload, 1) := by decide +kernel
theorem dX6_shout_95 : decode cX6_shout 95 = .ok (.invokestatic 133, 3) := by decide +kernel
theorem dX6_shout_98 : decode cX6_shout 98 = .ok (.ireturn, 1) := by decide +kernel
theorem dX6_end_0 : decode cX6_end 0 = .ok (.aload_n 0, 1) := by decide +kernel
theorem dX6_end_1 : decode cX6_end 1 = .ok (.getfield 9, 3) := by decide +kernel
theorem dX6_end_4 : decode cX6_end 4 = .ok (.iconst 5, 1) := by decide +kernel
theorem dX6_end_5 : decode cX6_end 5 = .ok (.iaload, 1) := by decide +kernel
theorem dX6_end_6 : decode cX6_end 6 = .ok (.ifCond .ge 10, 3) := by decide +kernel
theorem dX6_end_9 : decode cX6_end 9 = .ok (.aload_n 0, 1) := by decide +kernel
theorem dX6_end_10 : decode cX6_end 10 = .ok (.ldc 44, 2) := by decide +kernel
theorem dX6_end_12 : decode cX6_end 12 = .ok (.invokevirtual 45, 3) := by decide +kernel
theorem dX6_end_15 : decode cX6_end 15 = .ok (.ireturn, 1) := by decide +kernel
theorem dX6_end_16 : decode cX6_end 16 = .ok (.aload_n 0, 1) := by decide +kernel
theorem dX6_end_17 : decode cX6_end 17 = .ok (.getfield 9, 3) := by decide +kernel
theorem dX6_end_20 : decode cX6_end 20 = .ok (.bipush 9, 2) := by decide +kernel
theorem dX6_end_22 : decode cX6_end 22 = .ok (.iaload, 1) := by decide +kernel
theorem dX6_end_23 : decode cX6_end 23 = .ok (.invokestatic 133, 3) := by decide +kernel
theorem dX6_end_26 : decode cX6_end 26 = .ok (.iconst 1, 1) := by decide +kernel
theorem dX6_end_27 : decode cX6_end 27 = .ok (.if_icmp .ne 16, 3) := by decide +kernel
theorem dX6_end_30 : decode cX6_end 30 = .ok (.bipush 60, 2) := by decide +kernel
theorem dX6_end_32 : decode cX6_end 32 = .ok (.aload_n 0, 1) := by decide +kernel
theorem dX6_end_33 : decode cX6_end 33 = .ok (.getfield 9, 3) := by decide +kernel
theorem dX6_end_36 : decode cX6_end 36 = .ok (.bipush 7, 2) := by decide +kernel
theorem dX6_end_38 : decode cX6_end 38 = .ok (.iaload, 1) := by decide +kernel
theorem dX6_end_39 : decode cX6_end 39 = .ok (.isub, 1) := by decide +kernel
theorem dX6_end_40 : decode cX6_end 40 = .ok (.goto 4, 3) := by decide +kernel
theorem dX6_end_43 : decode cX6_end 43 = .ok (.iconst 0, 1) := by decide +kernel
theorem dX6_end_44 : decode cX6_end 44 = .ok (.istore_n 1, 1) := by decide +kernel
theorem dX6_end_45 : decode cX6_end 45 = .ok (.aload_n 0, 1) := by decide +kernel
theorem dX6_end_46 : decode cX6_end 46 = .ok (.getfield 9, 3) := by decide +kernel
theorem dX6_end_49 : decode cX6_end 49 = .ok (.iconst 2, 1) := by decide +kernel
theorem dX6_end_50 : decode cX6_end 50 = .ok (.aload_n 0, 1) := by decide +kernel
theorem dX6_end_51 : decode cX6_end 51 = .ok (.getfield 9, 3) := by decide +kernel
theorem dX6_end_54 : decode cX6_end 54 = .ok (.bipush 6, 2) := by decide +kernel
theorem dX6_end_56 : decode cX6_end 56 = .ok (.iaload, 1) := by decide +kernel
theorem dX6_end_57 : decode cX6_end 57 = .ok (.iadd, 1) := by decide +kernel
theorem dX6_end_58 : decode cX6_end 58 = .ok (.dup2, 1) := by decide +kernel
theorem dX6_end_59 : decode cX6_end 59 = .ok (.iaload, 1) := by decide +kernel
theorem dX6_end_60 : decode cX6_end 60 = .ok (.iload_n 1, 1) := by decide +kernel
theorem dX6_end_61 : decode cX6_end 61 = .ok (.iadd, 1) := by decide +kernel
theorem dX6_end_62 : decode cX6_end 62 = .ok (.iastore, 1) := by decide +kernel
theorem dX6_end_63 : decode cX6_end 63 = .ok (.aload_n 0, 1) := by decide +kernel
theorem dX6_end_64 : decode cX6_end 64 = .ok (.getfield 9, 3) := by decide +kernel
theorem dX6_end_67 : decode cX6_end 67 = .ok (.iconst 5, 1) := by decide +kernel
theorem dX6_end_68 : decode cX6_end 68 = .ok (.iconst (-1), 1) := by decide +kernel
theorem dX6_end_69 : decode cX6_end 69 = .ok (.iastore, 1) := by decide +kernel
theorem dX6_end_70 : decode cX6_end 70 = .ok (.iload_n 1, 1) := by decide +kernel
theorem dX6_end_71 : decode cX6_end 71 = .ok (.ireturn, 1) := by decide +kernel
theorem dX6_score_0 : decode cX6_score 0 = .ok (.iload_n 1, 1) := by decide +kernel
theorem dX6_score_1 : decode cX6_score 1 = .ok (.invokestatic 100, 3) := by decide +kernel
theorem dX6_score_4 : decode cX6_score 4 = .ok (.ifCond .eq 14, 3) := by decide +kernel
theorem dX6_score_7 : decode cX6_score 7 = .ok (.aload_n 0, 1) := by decide +kernel
theorem dX6_score_8 : decode cX6_score 8 = .ok (.getfield 9, 3) := by decide +kernel
theorem dX6_score_11 : decode cX6_score 11 = .ok (.iconst 2, 1) := by decide +kernel
theorem dX6_score_12 : decode cX6_score 12 = .ok (.iload_n 1, 1) := by decide +kernel
theorem dX6_score_13 : decode cX6_score 13 = .ok (.iadd, 1) := by decide +kernel
theorem dX6_score_14 : decode cX6_score 14 = .ok (.iaload, 1) := by decide +kernel
theorem dX6_score_15 : decode cX6_score 15 = .ok (.goto 9, 3) := by decide +kernel
theorem dX6_score_18 : decode cX6_score 18 = .ok (.aload_n 0, 1) := by decide +kernel
theorem dX6_score_19 : decode cX6_score 19 = .ok (.ldc 43, 2) := by decide +kernel
theorem dX6_score_21 : decode cX6_score 21 = .ok (.invokevirtual 45, 3) := by decide +kernel
theorem dX6_score_24 : decode cX6_score 24 = .ok (.ireturn, 1) := by decide +kernel
theorem dX6_bestSign_0 : decode cX6_bestSign 0 = .ok (.iconst (-1), 1) := by decide +kernel
theorem dX6_bestSign_1 : decode cX6_bestSign 1 = .ok (.istore 4, 2) := by decide +kernel
theorem dX6_bestSign_3 : decode cX6_bestSign 3 = .ok (.iconst 0, 1) := by decide +kernel
theorem dX6_bestSign_4 : decode cX6_bestSign 4 = .ok (.istore 5, 2) := by decide +kernel
theorem dX6_bestSign_6 : decode cX6_bestSign 6 = .ok (.iconst 0, 1) := by decide +kernel
theorem dX6_bestSign_7 : decode cX6_bestSign 7 = .ok (.istore 6, 2) := by decide +kernel
theorem dX6_bestSign_9 : decode cX6_bestSign 9 = .ok (.iload 6, 2) := by decide +kernel
theorem dX6_bestSign_11 : decode cX6_bestSign 11 = .ok (.bipush 28, 2) := by decide +kernel
theorem dX6_bestSign_13 : decode cX6_bestSign 13 = .ok (.if_icmp .ge 90, 3) := by decide +kernel
theorem dX6_bestSign_16 : decode cX6_bestSign 16 = .ok (.iload 6, 2) := by decide +kernel
theorem dX6_bestSign_18 : decode cX6_bestSign 18 = .ok (.invokestatic 117, 3) := by decide +kernel
theorem dX6_bestSign_21 : decode cX6_bestSign 21 = .ok (.iload_n 2, 1) := by decide +kernel
theorem dX6_bestSign_22 : decode cX6_bestSign 22 = .ok (.if_icmp .le 6, 3) := by decide +kernel
theorem dX6_bestSign_25 : decode cX6_bestSign 25 = .ok (.goto 72, 3) := by decide +kernel
theorem dX6_bestSign_28 : decode cX6_bestSign 28 = .ok (.aload_n 0, 1) := by decide +kernel
theorem dX6_bestSign_29 : decode cX6_bestSign 29 = .ok (.iload 6, 2) := by decide +kernel
theorem dX6_bestSign_31 : decode cX6_bestSign 31 = .ok (.iload 6, 2) := by decide +kernel
theorem dX6_bestSign_33 : decode cX6_bestSign 33 = .ok (.iload_n 1, 1) := by decide +kernel
theorem dX6_bestSign_34 : decode cX6_bestSign 34 = .ok (.invokevirtual 146, 3) := by decide +kernel
theorem dX6_bestSign_37 : decode cX6_bestSign 37 = .ok (.iload_n 3, 1) := by decide +kernel
theorem dX6_bestSign_38 : decode cX6_bestSign 38 = .ok (.ifCond .eq 10, 3) := by decide +kernel
theorem dX6_bestSign_41 : decode cX6_bestSign 41 = .ok (.aload_n 0, 1) := by decide +kernel
theorem dX6_bestSign_42 : decode cX6_bestSign 42 = .ok (.getfield 127, 3) := by decide +kernel
theorem dX6_bestSign_45 : decode cX6_bestSign 45 = .ok (.goto 7, 3) := by decide +kernel
theorem dX6_bestSign_48 : decode cX6_bestSign 48 = .ok (.aload_n 0, 1) := by decide +kernel
theorem dX6_bestSign_49 : decode cX6_bestSign 49 = .ok (.getfield 124, 3) := by decide +kernel
theorem dX6_bestSign_52 : decode cX6_bestSign 52 = .ok (.istore 7, 2) := by decide +kernel
theorem dX6_bestSign_54 : decode cX6_bestSign 54 = .ok (.iload 4, 2) := by decide +kernel
theorem dX6_bestSign_56 : decode cX6_bestSign 56 = .ok (.ifCond .lt 33, 3) := by decide +kernel
theorem dX6_bestSign_59 : decode cX6_bestSign 59 = .ok (.iload 7, 2) := by decide +kernel
theorem dX6_bestSign_61 : decode cX6_bestSign 61 = .ok (.iload 5, 2) := by decide +kernel
theorem dX6_bestSign_63 : decode cX6_bestSign 63 = .ok (.if_icmp .gt 34, 3) := by decide +kernel
theorem dX6_bestSign_66 : decode cX6_bestSign 66 = .ok (.iload 7, 2) := by decide +kernel
theorem dX6_bestSign_68 : decode cX6_bestSign 68 = .ok (.iload 5, 2) := by decide +kernel
theorem dX6_bestSign_70 : decode cX6_bestSign 70 = .ok (.if_icmp .ne 19, 3) := by decide +kernel
theorem dX6_bestSign_73 : decode cX6_bestSign 73 = .ok (.iload 6, 2) := by decide +kernel
theorem dX6_bestSign_75 : decode cX6_bestSign 75 = .ok (.invokestatic 117, 3) := by decide +kernel
theorem dX6_bestSign_78 : decode cX6_bestSign 78 = .ok (.iload 4, 2) := by decide +kernel
theorem dX6_bestSign_80 : decode cX6_bestSign 80 = .ok (.invokestatic 117, 3) := by decide +kernel
theorem dX6_bestSign_83 : decode cX6_bestSign 83 = .ok (.if_icmp .lt 6, 3) := by decide +kernel
theorem dX6_bestSign_86 : decode cX6_bestSign 86 = .ok (.goto 11, 3) := by decide +kernel
theorem dX6_bestSign_89 : decode cX6_bestSign 89 = .ok (.iload 6, 2) := by decide +kernel
theorem dX6_bestSign_91 : decode cX6_bestSign 91 = .ok (.istore 4, 2) := by decide +kernel
theorem dX6_bestSign_93 : decode cX6_bestSign 93 = .ok (.iload 7, 2) := by decide +kernel
theorem dX6_bestSign_95 : decode cX6_bestSign 95 = .ok (.istore 5, 2) := by decide +kernel
theorem dX6_bestSign_97 : decode cX6_bestSign 97 = .ok (.iinc 6 1, 3) := by decide +kernel
theorem dX6_bestSign_100 : decode cX6_bestSign 100 = .ok (.goto (-91), 3) := by decide +kernel
theorem dX6_bestSign_103 : decode cX6_bestSign 103 = .ok (.iload 4, 2) := by decide +kernel
theorem dX6_bestSign_105 : decode cX6_bestSign 105 = .ok (.ireturn, 1) := by decide +kernel
theorem dX6_best_0 : decode cX6_best 0 = .ok (.aload_n 0, 1) := by decide +kernel
theorem dX6_best_1 : decode cX6_best 1 = .ok (.invokevirtual 136, 3) := by decide +kernel
theorem dX6_best_4 : decode cX6_best 4 = .ok (.aload_n 0, 1) := by decide +kernel
theorem dX6_best_5 : decode cX6_best 5 = .ok (.iload_n 1, 1) := by decide +kernel
theorem dX6_best_6 : decode cX6_best 6 = .ok (.invokevirtual 139, 3) := by decide +kernel
theorem dX6_best_9 : decode cX6_best 9 = .ok (.ifCond .eq 14, 3) := by decide +kernel
theorem dX6_best_12 : decode cX6_best 12 = .ok (.aload_n 0, 1) := by decide +kernel
theorem dX6_best_13 : decode cX6_best 13 = .ok (.iload_n 1, 1) := by decide +kernel
theorem dX6_best_14 : decode cX6_best 14 = .ok (.bipush 60, 2) := by decide +kernel
theorem dX6_best_16 : decode cX6_best 16 = .ok (.iconst 0, 1) := by decide +kernel
theorem dX6_best_17 : decode cX6_best 17 = .ok (.invokevirtual 153, 3) := by decide +kernel
theorem dX6_best_20 : decode cX6_best 20 = .ok (.goto 9, 3) := by decide +kernel
theorem dX6_best_23 : decode cX6_best 23 = .ok (.aload_n 0, 1) := by decide +kernel
theorem dX6_best_24 : decode cX6_best 24 = .ok (.ldc 43, 2) := by decide +kernel
theorem dX6_best_26 : decode cX6_best 26 = .ok (.invokevirtual 45, 3) := by decide +kernel
theorem dX6_best_29 : decode cX6_best 29 = .ok (.ireturn, 1) := by decide +kernel
theorem dX6_mean_0 : decode cX6_mean 0 = .ok (.aload_n 0, 1) := by decide +kernel
theorem dX6_mean_1 : decode cX6_mean 1 = .ok (.invokevirtual 136, 3) := by decide +kernel
theorem dX6_mean_4 : decode cX6_mean 4 = .ok (.aload_n 0, 1) := by decide +kernel
theorem dX6_mean_5 : decode cX6_mean 5 = .ok (.iload_n 1, 1) := by decide +kernel
theorem dX6_mean_6 : decode cX6_mean 6 = .ok (.invokevirtual 139, 3) := by decide +kernel
theorem dX6_mean_9 : decode cX6_mean 9 = .ok (.ifCond .eq 14, 3) := by decide +kernel
theorem dX6_mean_12 : decode cX6_mean 12 = .ok (.aload_n 0, 1) := by decide +kernel
theorem dX6_mean_13 : decode cX6_mean 13 = .ok (.iload_n 1, 1) := by decide +kernel
theorem dX6_mean_14 : decode cX6_mean 14 = .ok (.bipush 60, 2) := by decide +kernel
theorem dX6_mean_16 : decode cX6_mean 16 = .ok (.iconst 1, 1) := by decide +kernel
theorem dX6_mean_17 : decode cX6_mean 17 = .ok (.invokevirtual 153, 3) := by decide +kernel
theorem dX6_mean_20 : decode cX6_mean 20 = .ok (.goto 9, 3) := by decide +kernel
theorem dX6_mean_23 : decode cX6_mean 23 = .ok (.aload_n 0, 1) := by decide +kernel
theorem dX6_mean_24 : decode cX6_mean 24 = .ok (.ldc 43, 2) := by decide +kernel
theorem dX6_mean_26 : decode cX6_mean 26 = .ok (.invokevirtual 45, 3) := by decide +kernel
theorem dX6_mean_29 : decode cX6_mean 29 = .ok (.ireturn, 1) := by decide +kernel
theorem dX6_quick_0 : decode cX6_quick 0 = .ok (.aload_n 0, 1) := by decide +kernel
theorem dX6_quick_1 : decode cX6_quick 1 = .ok (.invokevirtual 136, 3) := by decide +kernel
theorem dX6_quick_4 : decode cX6_quick 4 = .ok (.aload_n 0, 1) := by decide +kernel
theorem dX6_quick_5 : decode cX6_quick 5 = .ok (.iload_n 1, 1) := by decide +kernel
theorem dX6_quick_6 : decode cX6_quick 6 = .ok (.invokevirtual 139, 3) := by decide +kernel
theorem dX6_quick_9 : decode cX6_quick 9 = .ok (.ifCond .eq 29, 3) := by decide +kernel
theorem dX6_quick_12 : decode cX6_quick 12 = .ok (.iload_n 2, 1) := by decide +kernel
theorem dX6_quick_13 : decode cX6_quick 13 = .ok (.i2l, 1) := by decide +kernel
theorem dX6_quick_14 : decode cX6_quick 14 = .ok (.lconst 0, 1) := by decide +kernel
theorem dX6_quick_15 : decode cX6_quick 15 = .ok (.ldc2_w 157, 3) := by decide +kernel
theorem dX6_quick_18 : decode cX6_quick 18 = .ok (.invokestatic 49, 3) := by decide +kernel
theorem dX6_quick_21 : decode cX6_quick 21 = .ok (.ifCond .eq 17, 3) := by decide +kernel
theorem dX6_quick_24 : decode cX6_quick 24 = .ok (.aload_n 0, 1) := by decide +kernel
theorem dX6_quick_25 : decode cX6_quick 25 = .ok (.aload_n 0, 1) := by decide +kernel
theorem dX6_quick_26 : decode cX6_quick 26 = .ok (.iload_n 1, 1) := by decide +kernel
theorem dX6_quick_27 : decode cX6_quick 27 = .ok (.iload_n 2, 1) := by decide +kernel
theorem dX6_quick_28 : decode cX6_quick 28 = .ok (.iconst 0, 1) := by decide +kernel
theorem dX6_quick_29 : decode cX6_quick 29 = .ok (.invokevirtual 153, 3) := by decide +kernel
theorem dX6_quick_32 : decode cX6_quick 32 = .ok (.invokevirtual 159, 3) := by decide +kernel
theorem dX6_quick_35 : decode cX6_quick 35 = .ok (.goto 9, 3) := by decide +kernel
theorem dX6_quick_38 : decode cX6_quick 38 = .ok (.aload_n 0, 1) := by decide +kernel
theorem dX6_quick_39 : decode cX6_quick 39 = .ok (.ldc 43, 2) := by decide +kernel
theorem dX6_quick_41 : decode cX6_quick 41 = .ok (.invokevirtual 45, 3) := by decide +kernel
theorem dX6_quick_44 : decode cX6_quick 44 = .ok (.ireturn, 1) := by decide +kernel
theorem dX6_bestTwo_0 : decode cX6_bestTwo 0 = .ok (.aload_n 0, 1) := by decide +kernel
theorem dX6_bestTwo_1 : decode cX6_bestTwo 1 = .ok (.invokevirtual 136, 3) := by decide +kernel
theorem dX6_bestTwo_4 : decode cX6_bestTwo 4 = .ok (.iconst (-1), 1) := by decide +kernel
theorem dX6_bestTwo_5 : decode cX6_bestTwo 5 = .ok (.istore_n 2, 1) := by decide +kernel
theorem dX6_bestTwo_6 : decode cX6_bestTwo 6 = .ok (.iconst 0, 1) := by decide +kernel
theorem dX6_bestTwo_7 : decode cX6_bestTwo 7 = .ok (.istore_n 3, 1) := by decide +kernel
theorem dX6_bestTwo_8 : decode cX6_bestTwo 8 = .ok (.iload_n 3, 1) := by decide +kernel
theorem dX6_bestTwo_9 : decode cX6_bestTwo 9 = .ok (.bipush 28, 2) := by decide +kernel
theorem dX6_bestTwo_11 : decode cX6_bestTwo 11 = .ok (.if_icmp .ge 69, 3) := by decide +kernel
theorem dX6_bestTwo_14 : decode cX6_bestTwo 14 = .ok (.iload_n 3, 1) := by decide +kernel
theorem dX6_bestTwo_15 : decode cX6_bestTwo 15 = .ok (.iconst 1, 1) := by decide +kernel
theorem dX6_bestTwo_16 : decode cX6_bestTwo 16 = .ok (.iadd, 1) := by decide +kernel
theorem dX6_bestTwo_17 : decode cX6_bestTwo 17 = .ok (.istore 4, 2) := by decide +kernel
theorem dX6_bestTwo_19 : decode cX6_bestTwo 19 = .ok (.iload 4, 2) := by decide +kernel
theorem dX6_bestTwo_21 : decode cX6_bestTwo 21 = .ok (.bipush 28, 2) := by decide +kernel
theorem dX6_bestTwo_23 : decode cX6_bestTwo 23 = .ok (.if_icmp .ge 51, 3) := by decide +kernel
theorem dX6_bestTwo_26 : decode cX6_bestTwo 26 = .ok (.aload_n 0, 1) := by decide +kernel
theorem dX6_bestTwo_27 : decode cX6_bestTwo 27 = .ok (.iload_n 3, 1) := by decide +kernel
theorem dX6_bestTwo_28 : decode cX6_bestTwo 28 = .ok (.iload 4, 2) := by decide +kernel
theorem dX6_bestTwo_30 : decode cX6_bestTwo 30 = .ok (.iload_n 1, 1) := by decide +kernel
theorem dX6_bestTwo_31 : decode cX6_bestTwo 31 = .ok (.invokevirtual 146, 3) := by decide +kernel
theorem dX6_bestTwo_34 : decode cX6_bestTwo 34 = .ok (.iload_n 2, 1) := by decide +kernel
theorem dX6_bestTwo_35 : decode cX6_bestTwo 35 = .ok (.ifCond .lt 17, 3) := by decide +kernel
theorem dX6_bestTwo_38 : decode cX6_bestTwo 38 = .ok (.aload_n 0, 1) := by decide +kernel
theorem dX6_bestTwo_39 : decode cX6_bestTwo 39 = .ok (.getfield 124, 3) := by decide +kernel
theorem dX6_bestTwo_42 : decode cX6_bestTwo 42 = .ok (.aload_n 0, 1) := by decide +kernel
theorem dX6_bestTwo_43 : decode cX6_bestTwo 43 = .ok (.getfield 162, 3) := by decide +kernel
theorem dX6_bestTwo_46 : decode cX6_bestTwo 46 = .ok (.if_icmp .lt 6, 3) := by decide +kernel
theorem dX6_bestTwo_49 : decode cX6_bestTwo 49 = .ok (.goto 19, 3) := by decide +kernel
theorem dX6_bestTwo_52 : decode cX6_bestTwo 52 = .ok (.bipush 100, 2) := by decide +kernel
theorem dX6_bestTwo_54 : decode cX6_bestTwo 54 = .ok (.iload_n 3, 1) := by decide +kernel
theorem dX6_bestTwo_55 : decode cX6_bestTwo 55 = .ok (.imul, 1) := by decide +kernel
theorem dX6_bestTwo_56 : decode cX6_bestTwo 56 = .ok (.iload 4, 2) := by decide +kernel
theorem dX6_bestTwo_58 : decode cX6_bestTwo 58 = .ok (.iadd, 1) := by decide +kernel
theorem dX6_bestTwo_59 : decode cX6_bestTwo 59 = .ok (.istore_n 2, 1) := by decide +kernel
theorem dX6_bestTwo_60 : decode cX6_bestTwo 60 = .ok (.aload_n 0, 1) := by decide +kernel
theorem dX6_bestTwo_61 : decode cX6_bestTwo 61 = .ok (.aload_n 0, 1) := by decide +kernel
theorem dX6_bestTwo_62 : decode cX6_bestTwo 62 = .ok (.getfield 124, 3) := by decide +kernel
theorem dX6_bestTwo_65 : decode cX6_bestTwo 65 = .ok (.putfield 162, 3) := by decide +kernel
theorem dX6_bestTwo_68 : decode cX6_bestTwo 68 = .ok (.iinc 4 1, 3) := by decide +kernel
theorem dX6_bestTwo_71 : decode cX6_bestTwo 71 = .ok (.goto (-52), 3) := by decide +kernel
theorem dX6_bestTwo_74 : decode cX6_bestTwo 74 = .ok (.iinc 3 1, 3) := by decide +kernel
theorem dX6_bestTwo_77 : decode cX6_bestTwo 77 = .ok (.goto (-69), 3) := by decide +kernel
theorem dX6_bestTwo_80 : decode cX6_bestTwo 80 = .ok (.iload_n 2, 1) := by decide +kernel
theorem dX6_bestTwo_81 : decode cX6_bestTwo 81 = .ok (.ireturn, 1) := by decide +kernel
theorem dX6_two_0 : decode cX6_two 0 = .ok (.aload_n 0, 1) := by decide +kernel
theorem dX6_two_1 : decode cX6_two 1 = .ok (.iload_n 1, 1) := by decide +kernel
theorem dX6_two_2 : decode cX6_two 2 = .ok (.invokevirtual 139, 3) := by decide +kernel
theorem dX6_two_5 : decode cX6_two 5 = .ok (.ifCond .eq 11, 3) := by decide +kernel
theorem dX6_two_8 : decode cX6_two 8 = .ok (.aload_n 0, 1) := by decide +kernel
theorem dX6_two_9 : decode cX6_two 9 = .ok (.iload_n 1, 1) := by decide +kernel
theorem dX6_two_10 : decode cX6_two 10 = .ok (.invokevirtual 165, 3) := by decide +kernel
theorem dX6_two_13 : decode cX6_two 13 = .ok (.goto 9, 3) := by decide +kernel
theorem dX6_two_16 : decode cX6_two 16 = .ok (.aload_n 0, 1) := by decide +kernel
theorem dX6_two_17 : decode cX6_two 17 = .ok (.ldc 43, 2) := by decide +kernel
theorem dX6_two_19 : decode cX6_two 19 = .ok (.invokevirtual 45, 3) := by decide +kernel
theorem dX6_two_22 : decode cX6_two 22 = .ok (.ireturn, 1) := by decide +kernel
theorem dX6_twoWorst_0 : decode cX6_twoWorst 0 = .ok (.aload_n 0, 1) := by decide +kernel
theorem dX6_twoWorst_1 : decode cX6_twoWorst 1 = .ok (.iload_n 1, 1) := by decide +kernel
theorem dX6_twoWorst_2 : decode cX6_twoWorst 2 = .ok (.invokevirtual 139, 3) := by decide +kernel
theorem dX6_twoWorst_5 : decode cX6_twoWorst 5 = .ok (.ifCond .ne 10, 3) := by decide +kernel
theorem dX6_twoWorst_8 : decode cX6_twoWorst 8 = .ok (.aload_n 0, 1) := by decide +kernel
theorem dX6_twoWorst_9 : decode cX6_twoWorst 9 = .ok (.ldc 43, 2) := by decide +kernel
theorem dX6_twoWorst_11 : decode cX6_twoWorst 11 = .ok (.invokevirtual 45, 3) := by decide +kernel
theorem dX6_twoWorst_14 : decode cX6_twoWorst 14 = .ok (.ireturn, 1) := by decide +kernel
theorem dX6_twoWorst_15 : decode cX6_twoWorst 15 = .ok (.aload_n 0, 1) := by decide +kernel
theorem dX6_twoWorst_16 : decode cX6_twoWorst 16 = .ok (.iload_n 1, 1) := by decide +kernel
theorem dX6_twoWorst_17 : decode cX6_twoWorst 17 = .ok (.invokevirtual 165, 3) := by decide +kernel
theorem dX6_twoWorst_20 : decode cX6_twoWorst 20 = .ok (.pop, 1) := by decide +kernel
theorem dX6_twoWorst_21 : decode cX6_twoWorst 21 = .ok (.aload_n 0, 1) := by decide +kernel
theorem dX6_twoWorst_22 : decode cX6_twoWorst 22 = .ok (.getfield 162, 3) := by decide +kernel
theorem dX6_twoWorst_25 : decode cX6_twoWorst 25 = .ok (.ireturn, 1) := by decide +kernel
theorem dX6_isAlone_0 : decode cX6_isAlone 0 = .ok (.iload_n 2, 1) := by decide +kernel
theorem dX6_isAlone_1 : decode cX6_isAlone 1 = .ok (.invokestatic 133, 3) := by decide +kernel
theorem dX6_isAlone_4 : decode cX6_isAlone 4 = .ok (.iconst 1, 1) := by decide +kernel
theorem dX6_isAlone_5 : decode cX6_isAlone 5 = .ok (.if_icmp .ne 5, 3) := by decide +kernel
theorem dX6_isAlone_8 : decode cX6_isAlone 8 = .ok (.iconst 1, 1) := by decide +kernel
theorem dX6_isAlone_9 : decode cX6_isAlone 9 = .ok (.ireturn, 1) := by decide +kernel
theorem dX6_isAlone_10 : decode cX6_isAlone 10 = .ok (.iload 4, 2) := by decide +kernel
theorem dX6_isAlone_12 : decode cX6_isAlone 12 = .ok (.ifCond .ne 5, 3) := by decide +kernel
theorem dX6_isAlone_15 : decode cX6_isAlone 15 = .ok (.iconst 0, 1) := by decide +kernel
theorem dX6_isAlone_16 : decode cX6_isAlone 16 = .ok (.ireturn, 1) := by decide +kernel
theorem dX6_isAlone_17 : decode cX6_isAlone 17 = .ok (.iload_n 3, 1) := by decide +kernel
theorem dX6_isAlone_18 : decode cX6_isAlone 18 = .ok (.istore 5, 2) := by decide +kernel
theorem dX6_isAlone_20 : decode cX6_isAlone 20 = .ok (.iload 5, 2) := by decide +kernel
theorem dX6_isAlone_22 : decode cX6_isAlone 22 = .ok (.bipush 28, 2) := by decide +kernel
theorem dX6_isAlone_24 : decode cX6_isAlone 24 = .ok (.if_icmp .ge 35, 3) := by decide +kernel
theorem dX6_isAlone_27 : decode cX6_isAlone 27 = .ok (.aload_n 0, 1) := by decide +kernel
theorem dX6_isAlone_28 : decode cX6_isAlone 28 = .ok (.iload_n 1, 1) := by decide +kernel
theorem dX6_isAlone_29 : decode cX6_isAlone 29 = .ok (.aload_n 0, 1) := by decide +kernel
theorem dX6_isAlone_30 : decode cX6_isAlone 30 = .ok (.iload 5, 2) := by decide +kernel
theorem dX6_isAlone_32 : decode cX6_isAlone 32 = .ok (.iload_n 1, 1) := by decide +kernel
theorem dX6_isAlone_33 : decode cX6_isAlone 33 = .ok (.iload_n 2, 1) := by decide +kernel
theorem dX6_isAlone_34 : decode cX6_isAlone 34 = .ok (.invokevirtual 130, 3) := by decide +kernel
theorem dX6_isAlone_37 : decode cX6_isAlone 37 = .ok (.iload 5, 2) := by decide +kernel
theorem dX6_isAlone_39 : decode cX6_isAlone 39 = .ok (.iconst 1, 1) := by decide +kernel
theorem dX6_isAlone_40 : decode cX6_isAlone 40 = .ok (.iadd, 1) := by decide +kernel
theorem dX6_isAlone_41 : decode cX6_isAlone 41 = .ok (.iload 4, 2) := by decide +kernel
theorem dX6_isAlone_43 : decode cX6_isAlone 43 = .ok (.iconst 1, 1) := by decide +kernel
theorem dX6_isAlone_44 : decode cX6_isAlone 44 = .ok (.isub, 1) := by decide +kernel
theorem dX6_isAlone_45 : decode cX6_isAlone 45 = .ok (.invokevirtual 168, 3) := by decide +kernel
theorem dX6_isAlone_48 : decode cX6_isAlone 48 = .ok (.ifCond .eq 5, 3) := by decide +kernel
theorem dX6_isAlone_51 : decode cX6_isAlone 51 = .ok (.iconst 1, 1) := by decide +kernel
theorem dX6_isAlone_52 : decode cX6_isAlone 52 = .ok (.ireturn, 1) := by decide +kernel
theorem dX6_isAlone_53 : decode cX6_isAlone 53 = .ok (.iinc 5 1, 3) := by decide +kernel
theorem dX6_isAlone_56 : decode cX6_isAlone 56 = .ok (.goto (-36), 3) := by decide +kernel
theorem dX6_isAlone_59 : decode cX6_isAlone 59 = .ok (.iconst 0, 1) := by decide +kernel
theorem dX6_isAlone_60 : decode cX6_isAlone 60 = .ok (.ireturn, 1) := by decide +kernel
theorem dX6_fewestOf_0 : decode cX6_fewestOf 0 = .ok (.iconst 0, 1) := by decide +kernel
theorem dX6_fewestOf_1 : decode cX6_fewestOf 1 = .ok (.istore_n 3, 1) := by decide +kernel
theorem dX6_fewestOf_2 : decode cX6_fewestOf 2 = .ok (.iload_n 3, 1) := by decide +kernel
theorem dX6_fewestOf_3 : decode cX6_fewestOf 3 = .ok (.iconst 4, 1) := by decide +kernel
theorem dX6_fewestOf_4 : decode cX6_fewestOf 4 = .ok (.if_icmp .ge 20, 3) := by decide +kernel
theorem dX6_fewestOf_7 : decode cX6_fewestOf 7 = .ok (.aload_n 0, 1) := by decide +kernel
theorem dX6_fewestOf_8 : decode cX6_fewestOf 8 = .ok (.iload_n 1, 1) := by decide +kernel
theorem dX6_fewestOf_9 : decode cX6_fewestOf 9 = .ok (.iload_n 2, 1) := by decide +kernel
theorem dX6_fewestOf_10 : decode cX6_fewestOf 10 = .ok (.iconst 0, 1) := by decide +kernel
theorem dX6_fewestOf_11 : decode cX6_fewestOf 11 = .ok (.iload_n 3, 1) := by decide +kernel
theorem dX6_fewestOf_12 : decode cX6_fewestOf 12 = .ok (.invokevirtual 168, 3) := by decide +kernel
theorem dX6_fewestOf_15 : decode cX6_fewestOf 15 = .ok (.ifCond .ne 9, 3) := by decide +kernel
theorem dX6_fewestOf_18 : decode cX6_fewestOf 18 = .ok (.iinc 3 1, 3) := by decide +kernel
theorem dX6_fewestOf_21 : decode cX6_fewestOf 21 = .ok (.goto (-19), 3) := by decide +kernel
theorem dX6_fewestOf_24 : decode cX6_fewestOf 24 = .ok (.iload_n 3, 1) := by decide +kernel
theorem dX6_fewestOf_25 : decode cX6_fewestOf 25 = .ok (.ireturn, 1) := by decide +kernel
theorem dX6_isOf_0 : decode cX6_isOf 0 = .ok (.aload_n 0, 1) := by decide +kernel
theorem dX6_isOf_1 : decode cX6_isOf 1 = .ok (.invokevirtual 136, 3) := by decide +kernel
theorem dX6_isOf_4 : decode cX6_isOf 4 = .ok (.aload_n 0, 1) := by decide +kernel
theorem dX6_isOf_5 : decode cX6_isOf 5 = .ok (.iload_n 2, 1) := by decide +kernel
theorem dX6_isOf_6 : decode cX6_isOf 6 = .ok (.invokevirtual 139, 3) := by decide +kernel
theorem dX6_isOf_9 : decode cX6_isOf 9 = .ok (.ifCond .eq 24, 3) := by decide +kernel
theorem dX6_isOf_12 : decode cX6_isOf 12 = .ok (.aload_n 0, 1) := by decide +kernel
theorem dX6_isOf_13 : decode cX6_isOf 13 = .ok (.iload_n 1, 1) := by decide +kernel
theorem dX6_isOf_14 : decode cX6_isOf 14 = .ok (.invokevirtual 94, 3) := by decide +kernel
theorem dX6_isOf_17 : decode cX6_isOf 17 = .ok (.ifCond .eq 16, 3) := by decide +kernel
theorem dX6_isOf_20 : decode cX6_isOf 20 = .ok (.iload_n 2, 1) := by decide +kernel
theorem dX6_isOf_21 : decode cX6_isOf 21 = .ok (.iload_n 1, 1) := by decide +kernel
theorem dX6_isOf_22 : decode cX6_isOf 22 = .ok (.ishr, 1) := by decide +kernel
theorem dX6_isOf_23 : decode cX6_isOf 23 = .ok (.iconst 1, 1) := by decide +kernel
theorem dX6_isOf_24 : decode cX6_isOf 24 = .ok (.iand, 1) := by decide +kernel
theorem dX6_isOf_25 : decode cX6_isOf 25 = .ok (.iconst 1, 1) := by decide +kernel
theorem dX6_isOf_26 : decode cX6_isOf 26 = .ok (.if_icmp .ne 7, 3) := by decide +kernel
theorem dX6_isOf_29 : decode cX6_isOf 29 = .ok (.iconst 1, 1) := by decide +kernel
theorem dX6_isOf_30 : decode cX6_isOf 30 = .ok (.goto 4, 3) := by decide +kernel
theorem dX6_isOf_33 : decode cX6_isOf 33 = .ok (.iconst 0, 1) := by decide +kernel
theorem dX6_isOf_34 : decode cX6_isOf 34 = .ok (.ireturn, 1) := by decide +kernel
theorem dX6_fewest_0 : decode cX6_fewest 0 = .ok (.aload_n 0, 1) := by decide +kernel
theorem dX6_fewest_1 : decode cX6_fewest 1 = .ok (.iload_n 1, 1) := by decide +kernel
theorem dX6_fewest_2 : decode cX6_fewest 2 = .ok (.iload_n 2, 1) := by decide +kernel
theorem dX6_fewest_3 : decode cX6_fewest 3 = .ok (.invokevirtual 172, 3) := by decide +kernel
theorem dX6_fewest_6 : decode cX6_fewest 6 = .ok (.ifCond .ne 10, 3) := by decide +kernel
theorem dX6_fewest_9 : decode cX6_fewest 9 = .ok (.aload_n 0, 1) := by decide +kernel
theorem dX6_fewest_10 : decode cX6_fewest 10 = .ok (.ldc 43, 2) := by decide +kernel
theorem dX6_fewest_12 : decode cX6_fewest 12 = .ok (.invokevirtual 45, 3) := by decide +kernel
theorem dX6_fewest_15 : decode cX6_fewest 15 = .ok (.ireturn, 1) := by decide +kernel
theorem dX6_fewest_16 : decode cX6_fewest 16 = .ok (.aload_n 0, 1) := by decide +kernel
theorem dX6_fewest_17 : decode cX6_fewest 17 = .ok (.iload_n 1, 1) := by decide +kernel
theorem dX6_fewest_18 : decode cX6_fewest 18 = .ok (.iload_n 2, 1) := by decide +kernel
theorem dX6_fewest_19 : decode cX6_fewest 19 = .ok (.invokevirtual 175, 3) := by decide +kernel
theorem dX6_fewest_22 : decode cX6_fewest 22 = .ok (.istore_n 3, 1) := by decide +kernel
theorem dX6_fewest_23 : decode cX6_fewest 23 = .ok (.iload_n 3, 1) := by decide +kernel
theorem dX6_fewest_24 : decode cX6_fewest 24 = .ok (.iconst 3, 1) := by decide +kernel
theorem dX6_fewest_25 : decode cX6_fewest 25 = .ok (.if_icmp .le 12, 3) := by decide +kernel
theorem dX6_fewest_28 : decode cX6_fewest 28 = .ok (.aload_n 0, 1) := by decide +kernel
theorem dX6_fewest_29 : decode cX6_fewest 29 = .ok (.ldc 44, 2) := by decide +kernel
theorem dX6_fewest_31 : decode cX6_fewest 31 = .ok (.invokevirtual 45, 3) := by decide +kernel
theorem dX6_fewest_34 : decode cX6_fewest 34 = .ok (.goto 4, 3) := by decide +kernel
theorem dX6_fewest_37 : decode cX6_fewest 37 = .ok (.iload_n 3, 1) := by decide +kernel
theorem dX6_fewest_38 : decode cX6_fewest 38 = .ok (.ireturn, 1) := by decide +kernel
theorem dX6_seconds_0 : decode cX6_seconds 0 = .ok (.aload_n 0, 1) := by decide +kernel
theorem dX6_seconds_1 : decode cX6_seconds 1 = .ok (.iload_n 1, 1) := by decide +kernel
theorem dX6_seconds_2 : decode cX6_seconds 2 = .ok (.iload_n 2, 1) := by decide +kernel
theorem dX6_seconds_3 : decode cX6_seconds 3 = .ok (.invokevirtual 172, 3) := by decide +kernel
theorem dX6_seconds_6 : decode cX6_seconds 6 = .ok (.ifCond .ne 10, 3) := by decide +kernel
theorem dX6_seconds_9 : decode cX6_seconds 9 = .ok (.aload_n 0, 1) := by decide +kernel
theorem dX6_seconds_10 : decode cX6_seconds 10 = .ok (.ldc 43, 2) := by decide +kernel
theorem dX6_seconds_12 : decode cX6_seconds 12 = .ok (.invokevirtual 45, 3) := by decide +kernel
theorem dX6_seconds_15 : decode cX6_seconds 15 = .ok (.ireturn, 1) := by decide +kernel
theorem dX6_seconds_16 : decode cX6_seconds 16 = .ok (.iload_n 2, 1) := by decide +kernel
theorem dX6_seconds_17 : decode cX6_seconds 17 = .ok (.invokestatic 133, 3) := by decide +kernel
theorem dX6_seconds_20 : decode cX6_seconds 20 = .ok (.iconst 1, 1) := by decide +kernel
theorem dX6_seconds_21 : decode cX6_seconds 21 = .ok (.if_icmp .ne 5, 3) := by decide +kernel
theorem dX6_seconds_24 : decode cX6_seconds 24 = .ok (.iconst 0, 1) := by decide +kernel
theorem dX6_seconds_25 : decode cX6_seconds 25 = .ok (.ireturn, 1) := by decide +kernel
theorem dX6_seconds_26 : decode cX6_seconds 26 = .ok (.iconst (-1), 1) := by decide +kernel
theorem dX6_seconds_27 : decode cX6_seconds 27 = .ok (.istore_n 3, 1) := by decide +kernel
theorem dX6_seconds_28 : decode cX6_seconds 28 = .ok (.iconst 0, 1) := by decide +kernel
theorem dX6_seconds_29 : decode cX6_seconds 29 = .ok (.istore 4, 2) := by decide +kernel
theorem dX6_seconds_31 : decode cX6_seconds 31 = .ok (.iload 4, 2) := by decide +kernel
theorem dX6_seconds_33 : decode cX6_seconds 33 = .ok (.bipush 28, 2) := by decide +kernel
theorem dX6_seconds_35 : decode cX6_seconds 35 = .ok (.if_icmp .ge 108, 3) := by decide +kernel
theorem dX6_seconds_38 : decode cX6_seconds 38 = .ok (.aload_n 0, 1) := by decide +kernel
theorem dX6_seconds_39 : decode cX6_seconds 39 = .ok (.iload 4, 2) := by decide +kernel
theorem dX6_seconds_41 : decode cX6_seconds 41 = .ok (.iload_n 1, 1) := by decide +kernel
theorem dX6_seconds_42 : decode cX6_seconds 42 = .ok (.iload_n 2, 1) := by decide +kernel
theorem dX6_seconds_43 : decode cX6_seconds 43 = .ok (.invokevirtual 130, 3) := by decide +kernel
theorem dX6_seconds_46 : decode cX6_seconds 46 = .ok (.istore 5, 2) := by decide +kernel
theorem dX6_seconds_48 : decode cX6_seconds 48 = .ok (.iload 5, 2) := by decide +kernel
theorem dX6_seconds_50 : decode cX6_seconds 50 = .ok (.invokestatic 133, 3) := by decide +kernel
theorem dX6_seconds_53 : decode cX6_seconds 53 = .ok (.iconst 1, 1) := by decide +kernel
theorem dX6_seconds_54 : decode cX6_seconds 54 = .ok (.if_icmp .ne 22, 3) := by decide +kernel
theorem dX6_seconds_57 : decode cX6_seconds 57 = .ok (.iload_n 3, 1) := by decide +kernel
theorem dX6_seconds_58 : decode cX6_seconds 58 = .ok (.ifCond .lt 12, 3) := by decide +kernel
theorem dX6_seconds_61 : decode cX6_seconds 61 = .ok (.iload 4, 2) := by decide +kernel
theorem dX6_seconds_63 : decode cX6_seconds 63 = .ok (.invokestatic 117, 3) := by decide +kernel
theorem dX6_seconds_66 : decode cX6_seconds 66 = .ok (.iload_n 3, 1) := by decide +kernel
theorem dX6_seconds_67 : decode cX6_seconds 67 = .ok (.if_icmp .ge 9, 3) := by decide +kernel
theorem dX6_seconds_70 : decode cX6_seconds 70 = .ok (.iload 4, 2) := by decide +kernel
theorem dX6_seconds_72 : decode cX6_seconds 72 = .ok (.invokestatic 117, 3) := by decide +kernel
theorem dX6_seconds_75 : decode cX6_seconds 75 = .ok (.istore_n 3, 1) := by decide +kernel
theorem dX6_seconds_76 : decode cX6_seconds 76 = .ok (.iload 4, 2) := by decide +kernel
theorem dX6_seconds_78 : decode cX6_seconds 78 = .ok (.iconst 1, 1) := by decide +kernel
theorem dX6_seconds_79 : decode cX6_seconds 79 = .ok (.iadd, 1) := by decide +kernel
theorem dX6_seconds_80 : decode cX6_seconds 80 = .ok (.istore 6, 2) := by decide +kernel
theorem dX6_seconds_82 : decode cX6_seconds 82 = .ok (.iload 6, 2) := by decide +kernel
theorem dX6_seconds_84 : decode cX6_seconds 84 = .ok (.bipush 28, 2) := by decide +kernel
theorem dX6_seconds_86 : decode cX6_seconds 86 = .ok (.if_icmp .ge 51, 3) := by decide +kernel
theorem dX6_seconds_89 : decode cX6_seconds 89 = .ok (.iload 4, 2) := by decide +kernel
theorem dX6_seconds_91 : decode cX6_seconds 91 = .ok (.invokestatic 117, 3) := by decide +kernel
theorem dX6_seconds_94 : decode cX6_seconds 94 = .ok (.iload 6, 2) := by decide +kernel
theorem dX6_seconds_96 : decode cX6_seconds 96 = .ok (.invokestatic 117, 3) := by decide +kernel
theorem dX6_seconds_99 : decode cX6_seconds 99 = .ok (.iadd, 1) := by decide +kernel
theorem dX6_seconds_100 : decode cX6_seconds 100 = .ok (.istore 7, 2) := by decide +kernel
theorem dX6_seconds_102 : decode cX6_seconds 102 = .ok (.iload_n 3, 1) := by decide +kernel
theorem dX6_seconds_103 : decode cX6_seconds 103 = .ok (.ifCond .lt 9, 3) := by decide +kernel
theorem dX6_seconds_106 : decode cX6_seconds 106 = .ok (.iload 7, 2) := by decide +kernel
theorem dX6_seconds_108 : decode cX6_seconds 108 = .ok (.iload_n 3, 1) := by decide +kernel
theorem dX6_seconds_109 : decode cX6_seconds 109 = .ok (.if_icmp .ge 22, 3) := by decide +kernel
theorem dX6_seconds_112 : decode cX6_seconds 112 = .ok (.aload_n 0, 1) := by decide +kernel
theorem dX6_seconds_113 : decode cX6_seconds 113 = .ok (.iload 6, 2) := by decide +kernel
theorem dX6_seconds_115 : decode cX6_seconds 115 = .ok (.iload_n 1, 1) := by decide +kernel
theorem dX6_seconds_116 : decode cX6_seconds 116 = .ok (.iload 5, 2) := by decide +kernel
theorem dX6_seconds_118 : decode cX6_seconds 118 = .ok (.invokevirtual 130, 3) := by decide +kernel
theorem dX6_seconds_121 : decode cX6_seconds 121 = .ok (.invokestatic 133, 3) := by decide +kernel
theorem dX6_seconds_124 : decode cX6_seconds 124 = .ok (.iconst 1, 1) := by decide +kernel
theorem dX6_seconds_125 : decode cX6_seconds 125 = .ok (.if_icmp .ne 6, 3) := by decide +kernel
theorem dX6_seconds_128 : decode cX6_seconds 128 = .ok (.iload 7, 2) := by decide +kernel
theorem dX6_seconds_130 : decode cX6_seconds 130 = .ok (.istore_n 3, 1) := by decide +kernel
theorem dX6_seconds_131 : decode cX6_seconds 131 = .ok (.iinc 6 1, 3) := by decide +kernel
theorem dX6_seconds_134 : decode cX6_seconds 134 = .ok (.goto (-52), 3) := by decide +kernel
theorem dX6_seconds_137 : decode cX6_seconds 137 = .ok (.iinc 4 1, 3) := by decide +kernel
theorem dX6_seconds_140 : decode cX6_seconds 140 = .ok (.goto (-109), 3) := by decide +kernel
theorem dX6_seconds_143 : decode cX6_seconds 143 = .ok (.aload_n 0, 1) := by decide +kernel
theorem dX6_seconds_144 : decode cX6_seconds 144 = .ok (.iload_n 3, 1) := by decide +kernel
theorem dX6_seconds_145 : decode cX6_seconds 145 = .ok (.invokevirtual 159, 3) := by decide +kernel
theorem dX6_seconds_148 : decode cX6_seconds 148 = .ok (.ireturn, 1) := by decide +kernel
theorem dX6_hardest_0 : decode cX6_hardest 0 = .ok (.aload_n 0, 1) := by decide +kernel
theorem dX6_hardest_1 : decode cX6_hardest 1 = .ok (.iload_n 1, 1) := by decide +kernel
theorem dX6_hardest_2 : decode cX6_hardest 2 = .ok (.invokevirtual 139, 3) := by decide +kernel
theorem dX6_hardest_5 : decode cX6_hardest 5 = .ok (.ifCond .ne 10, 3) := by decide +kernel
theorem dX6_hardest_8 : decode cX6_hardest 8 = .ok (.aload_n 0, 1) := by decide +kernel
theorem dX6_hardest_9 : decode cX6_hardest 9 = .ok (.ldc 43, 2) := by decide +kernel
theorem dX6_hardest_11 : decode cX6_hardest 11 = .ok (.invokevirtual 45, 3) := by decide +kernel
theorem dX6_hardest_14 : decode cX6_hardest 14 = .ok (.ireturn, 1) := by decide +kernel
theorem dX6_hardest_15 : decode cX6_hardest 15 = .ok (.aload_n 0, 1) := by decide +kernel
theorem dX6_hardest_16 : decode cX6_hardest 16 = .ok (.invokevirtual 136, 3) := by decide +kernel
theorem dX6_hardest_19 : decode cX6_hardest 19 = .ok (.iconst (-1), 1) := by decide +kernel
theorem dX6_hardest_20 : decode cX6_hardest 20 = .ok (.istore_n 2, 1) := by decide +kernel
theorem dX6_hardest_21 : decode cX6_hardest 21 = .ok (.iconst (-1), 1) := by decide +kernel
theorem dX6_hardest_22 : decode cX6_hardest 22 = .ok (.istore_n 3, 1) := by decide +kernel
theorem dX6_hardest_23 : decode cX6_hardest 23 = .ok (.iconst 0, 1) := by decide +kernel
theorem dX6_hardest_24 : decode cX6_hardest 24 = .ok (.istore 4, 2) := by decide +kernel
theorem dX6_hardest_26 : decode cX6_hardest 26 = .ok (.iload 4, 2) := by decide +kernel
theorem dX6_hardest_28 : decode cX6_hardest 28 = .ok (.aload_n 0, 1) := by decide +kernel
theorem dX6_hardest_29 : decode cX6_hardest 29 = .ok (.getfield 9, 3) := by decide +kernel
theorem dX6_hardest_32 : decode cX6_hardest 32 = .ok (.iconst 1, 1) := by decide +kernel
theorem dX6_hardest_33 : decode cX6_hardest 33 = .ok (.iaload, 1) := by decide +kernel
theorem dX6_hardest_34 : decode cX6_hardest 34 = .ok (.if_icmp .ge 56, 3) := by decide +kernel
theorem dX6_hardest_37 : decode cX6_hardest 37 = .ok (.iload_n 1, 1) := by decide +kernel
theorem dX6_hardest_38 : decode cX6_hardest 38 = .ok (.iload 4, 2) := by decide +kernel
theorem dX6_hardest_40 : decode cX6_hardest 40 = .ok (.ishr, 1) := by decide +kernel
theorem dX6_hardest_41 : decode cX6_hardest 41 = .ok (.iconst 1, 1) := by decide +kernel
theorem dX6_hardest_42 : decode cX6_hardest 42 = .ok (.iand, 1) := by decide +kernel
theorem dX6_hardest_43 : decode cX6_hardest 43 = .ok (.ifCond .ne 6, 3) := by decide +kernel
theorem dX6_hardest_46 : decode cX6_hardest 46 = .ok (.goto 38, 3) := by decide +kernel
theorem dX6_hardest_49 : decode cX6_hardest 49 = .ok (.aload_n 0, 1) := by decide +kernel
theorem dX6_hardest_50 : decode cX6_hardest 50 = .ok (.iload 4, 2) := by decide +kernel
theorem dX6_hardest_52 : decode cX6_hardest 52 = .ok (.iload_n 1, 1) := by decide +kernel
theorem dX6_hardest_53 : decode cX6_hardest 53 = .ok (.invokevirtual 175, 3) := by decide +kernel
theorem dX6_hardest_56 : decode cX6_hardest 56 = .ok (.istore 5, 2) := by decide +kernel
theorem dX6_hardest_58 : decode cX6_hardest 58 = .ok (.iload 5, 2) := by decide +kernel
theorem dX6_hardest_60 : decode cX6_hardest 60 = .ok (.iload_n 3, 1) := by decide +kernel
theorem dX6_hardest_61 : decode cX6_hardest 61 = .ok (.if_icmp .le 8, 3) := by decide +kernel
theorem dX6_hardest_64 : decode cX6_hardest 64 = .ok (.iload 4, 2) := by decide +kernel
theorem dX6_hardest_66 : decode cX6_hardest 66 = .ok (.goto 4, 3) := by decide +kernel
theorem dX6_hardest_69 : decode cX6_hardest 69 = .ok (.iload_n 2, 1) := by decide +kernel
theorem dX6_hardest_70 : decode cX6_hardest 70 = .ok (.istore_n 2, 1) := by decide +kernel
theorem dX6_hardest_71 : decode cX6_hardest 71 = .ok (.iload 5, 2) := by decide +kernel
theorem dX6_hardest_73 : decode cX6_hardest 73 = .ok (.iload_n 3, 1) := by decide +kernel
theorem dX6_hardest_74 : decode cX6_hardest 74 = .ok (.if_icmp .le 8, 3) := by decide +kernel
theorem dX6_hardest_77 : decode cX6_hardest 77 = .ok (.iload 5, 2) := by decide +kernel
theorem dX6_hardest_79 : decode cX6_hardest 79 = .ok (.goto 4, 3) := by decide +kernel
theorem dX6_hardest_82 : decode cX6_hardest 82 = .ok (.iload_n 3, 1) := by decide +kernel
theorem dX6_hardest_83 : decode cX6_hardest 83 = .ok (.istore_n 3, 1) := by decide +kernel
theorem dX6_hardest_84 : decode cX6_hardest 84 = .ok (.iinc 4 1, 3) := by decide +kernel
theorem dX6_hardest_87 : decode cX6_hardest 87 = .ok (.goto (-61), 3) := by decide +kernel
theorem dX6_hardest_90 : decode cX6_hardest 90 = .ok (.aload_n 0, 1) := by decide +kernel
theorem dX6_hardest_91 : decode cX6_hardest 91 = .ok (.iload_n 2, 1) := by decide +kernel
theorem dX6_hardest_92 : decode cX6_hardest 92 = .ok (.invokevirtual 159, 3) := by decide +kernel
theorem dX6_hardest_95 : decode cX6_hardest 95 = .ok (.ireturn, 1) := by decide +kernel
theorem dX6_areAlike_0 : decode cX6_areAlike 0 = .ok (.iconst 0, 1) := by decide +kernel
theorem dX6_areAlike_1 : decode cX6_areAlike 1 = .ok (.istore_n 3, 1) := by decide +kernel
theorem dX6_areAlike_2 : decode cX6_areAlike 2 = .ok (.iload_n 3, 1) := by decide +kernel
theorem dX6_areAlike_3 : decode cX6_areAlike 3 = .ok (.bipush 28, 2) := by decide +kernel
theorem dX6_areAlike_5 : decode cX6_areAlike 5 = .ok (.if_icmp .ge 26, 3) := by decide +kernel
theorem dX6_areAlike_8 : decode cX6_areAlike 8 = .ok (.aload_n 0, 1) := by decide +kernel
theorem dX6_areAlike_9 : decode cX6_areAlike 9 = .ok (.iload_n 3, 1) := by decide +kernel
theorem dX6_areAlike_10 : decode cX6_areAlike 10 = .ok (.iload_n 1, 1) := by decide +kernel
theorem dX6_areAlike_11 : decode cX6_areAlike 11 = .ok (.invokevirtual 114, 3) := by decide +kernel
theorem dX6_areAlike_14 : decode cX6_areAlike 14 = .ok (.aload_n 0, 1) := by decide +kernel
theorem dX6_areAlike_15 : decode cX6_areAlike 15 = .ok (.iload_n 3, 1) := by decide +kernel
theorem dX6_areAlike_16 : decode cX6_areAlike 16 = .ok (.iload_n 2, 1) := by decide +kernel
theorem dX6_areAlike_17 : decode cX6_areAlike 17 = .ok (.invokevirtual 114, 3) := by decide +kernel
theorem dX6_areAlike_20 : decode cX6_areAlike 20 = .ok (.if_icmp .eq 5, 3) := by decide +kernel
theorem dX6_areAlike_23 : decode cX6_areAlike 23 = .ok (.iconst 0, 1) := by decide +kernel
theorem dX6_areAlike_24 : decode cX6_areAlike 24 = .ok (.ireturn, 1) := by decide +kernel
theorem dX6_areAlike_25 : decode cX6_areAlike 25 = .ok (.iinc 3 1, 3) := by decide +kernel
theorem dX6_areAlike_28 : decode cX6_areAlike 28 = .ok (.goto (-26), 3) := by decide +kernel
theorem dX6_areAlike_31 : decode cX6_areAlike 31 = .ok (.iconst 1, 1) := by decide +kernel
theorem dX6_areAlike_32 : decode cX6_areAlike 32 = .ok (.ireturn, 1) := by decide +kernel
theorem dX6_alike_0 : decode cX6_alike 0 = .ok (.aload_n 0, 1) := by decide +kernel
theorem dX6_alike_1 : decode cX6_alike 1 = .ok (.iload_n 1, 1) := by decide +kernel
theorem dX6_alike_2 : decode cX6_alike 2 = .ok (.invokevirtual 139, 3) := by decide +kernel
theorem dX6_alike_5 : decode cX6_alike 5 = .ok (.ifCond .ne 10, 3) := by decide +kernel
theorem dX6_alike_8 : decode cX6_alike 8 = .ok (.aload_n 0, 1) := by decide +kernel
theorem dX6_alike_9 : decode cX6_alike 9 = .ok (.ldc 43, 2) := by decide +kernel
theorem dX6_alike_11 : decode cX6_alike 11 = .ok (.invokevirtual 45, 3) := by decide +kernel
theorem dX6_alike_14 : decode cX6_alike 14 = .ok (.ireturn, 1) := by decide +kernel
theorem dX6_alike_15 : decode cX6_alike 15 = .ok (.iconst 0, 1) := by decide +kernel
theorem dX6_alike_16 : decode cX6_alike 16 = .ok (.istore_n 2, 1) := by decide +kernel
theorem dX6_alike_17 : decode cX6_alike 17 = .ok (.iconst 0, 1) := by decide +kernel
theorem dX6_alike_18 : decode cX6_alike 18 = .ok (.istore_n 3, 1) := by decide +kernel
theorem dX6_alike_19 : decode cX6_alike 19 = .ok (.iload_n 3, 1) := by decide +kernel
theorem dX6_alike_20 : decode cX6_alike 20 = .ok (.aload_n 0, 1) := by decide +kernel
theorem dX6_alike_21 : decode cX6_alike 21 = .ok (.getfield 9, 3) := by decide +kernel
theorem dX6_alike_24 : decode cX6_alike 24 = .ok (.iconst 1, 1) := by decide +kernel
theorem dX6_alike_25 : decode cX6_alike 25 = .ok (.iaload, 1) := by decide +kernel
theorem dX6_alike_26 : decode cX6_alike 26 = .ok (.if_icmp .ge 56, 3) := by decide +kernel
theorem dX6_alike_29 : decode cX6_alike 29 = .ok (.iconst 0, 1) := by decide +kernel
theorem dX6_alike_30 : decode cX6_alike 30 = .ok (.istore 4, 2) := by decide +kernel
theorem dX6_alike_32 : decode cX6_alike 32 = .ok (.iload 4, 2) := by decide +kernel
theorem dX6_alike_34 : decode cX6_alike 34 = .ok (.iload_n 3, 1) := by decide +kernel
theorem dX6_alike_35 : decode cX6_alike 35 = .ok (.if_icmp .ge 41, 3) := by decide +kernel
theorem dX6_alike_38 : decode cX6_alike 38 = .ok (.iload_n 2, 1) := by decide +kernel
theorem dX6_alike_39 : decode cX6_alike 39 = .ok (.iload_n 1, 1) := by decide +kernel
theorem dX6_alike_40 : decode cX6_alike 40 = .ok (.iload_n 3, 1) := by decide +kernel
theorem dX6_alike_41 : decode cX6_alike 41 = .ok (.ishr, 1) := by decide +kernel
theorem dX6_alike_42 : decode cX6_alike 42 = .ok (.iload_n 1, 1) := by decide +kernel
theorem dX6_alike_43 : decode cX6_alike 43 = .ok (.iload 4, 2) := by decide +kernel
theorem dX6_alike_45 : decode cX6_alike 45 = .ok (.ishr, 1) := by decide +kernel
theorem dX6_alike_46 : decode cX6_alike 46 = .ok (.iand, 1) := by decide +kernel
theorem dX6_alike_47 : decode cX6_alike 47 = .ok (.iconst 1, 1) := by decide +kernel
theorem dX6_alike_48 : decode cX6_alike 48 = .ok (.iand, 1) := by decide +kernel
theorem dX6_alike_49 : decode cX6_alike 49 = .ok (.iconst 1, 1) := by decide +kernel
theorem dX6_alike_50 : decode cX6_alike 50 = .ok (.if_icmp .ne 17, 3) := by decide +kernel
theorem dX6_alike_53 : decode cX6_alike 53 = .ok (.aload_n 0, 1) := by decide +kernel
theorem dX6_alike_54 : decode cX6_alike 54 = .ok (.iload_n 3, 1) := by decide +kernel
theorem dX6_alike_55 : decode cX6_alike 55 = .ok (.iload 4, 2) := by decide +kernel
theorem dX6_alike_57 : decode cX6_alike 57 = .ok (.invokevirtual 178, 3) := by decide +kernel
theorem dX6_alike_60 : decode cX6_alike 60 = .ok (.ifCond .eq 7, 3) := by decide +kernel
theorem dX6_alike_63 : decode cX6_alike 63 = .ok (.iconst 1, 1) := by decide +kernel
theorem dX6_alike_64 : decode cX6_alike 64 = .ok (.goto 4, 3) := by decide +kernel
theorem dX6_alike_67 : decode cX6_alike 67 = .ok (.iconst 0, 1) := by decide +kernel
theorem dX6_alike_68 : decode cX6_alike 68 = .ok (.iadd, 1) := by decide +kernel
theorem dX6_alike_69 : decode cX6_alike 69 = .ok (.istore_n 2, 1) := by decide +kernel
theorem dX6_alike_70 : decode cX6_alike 70 = .ok (.iinc 4 1, 3) := by decide +kernel
theorem dX6_alike_73 : decode cX6_alike 73 = .ok (.goto (-41), 3) := by decide +kernel
theorem dX6_alike_76 : decode cX6_alike 76 = .ok (.iinc 3 1, 3) := by decide +kernel
theorem dX6_alike_79 : decode cX6_alike 79 = .ok (.goto (-60), 3) := by decide +kernel
theorem dX6_alike_82 : decode cX6_alike 82 = .ok (.iload_n 2, 1) := by decide +kernel
theorem dX6_alike_83 : decode cX6_alike 83 = .ok (.ireturn, 1) := by decide +kernel
theorem dX6_like_0 : decode cX6_like 0 = .ok (.aload_n 0, 1) := by decide +kernel
theorem dX6_like_1 : decode cX6_like 1 = .ok (.iload_n 1, 1) := by decide +kernel
theorem dX6_like_2 : decode cX6_like 2 = .ok (.invokevirtual 78, 3) := by decide +kernel
theorem dX6_like_5 : decode cX6_like 5 = .ok (.ifCond .ne 10, 3) := by decide +kernel
theorem dX6_like_8 : decode cX6_like 8 = .ok (.aload_n 0, 1) := by decide +kernel
theorem dX6_like_9 : decode cX6_like 9 = .ok (.ldc 43, 2) := by decide +kernel
theorem dX6_like_11 : decode cX6_like 11 = .ok (.invokevirtual 45, 3) := by decide +kernel
theorem dX6_like_14 : decode cX6_like 14 = .ok (.ireturn, 1) := by decide +kernel
theorem dX6_like_15 : decode cX6_like 15 = .ok (.iconst (-1), 1) := by decide +kernel
theorem dX6_like_16 : decode cX6_like 16 = .ok (.istore_n 2, 1) := by decide +kernel
theorem dX6_like_17 : decode cX6_like 17 = .ok (.iconst 0, 1) := by decide +kernel
theorem dX6_like_18 : decode cX6_like 18 = .ok (.istore_n 3, 1) := by decide +kernel
theorem dX6_like_19 : decode cX6_like 19 = .ok (.iconst 0, 1) := by decide +kernel
theorem dX6_like_20 : decode cX6_like 20 = .ok (.istore 4, 2) := by decide +kernel
theorem dX6_like_22 : decode cX6_like 22 = .ok (.iload 4, 2) := by decide +kernel
theorem dX6_like_24 : decode cX6_like 24 = .ok (.aload_n 0, 1) := by decide +kernel
theorem dX6_like_25 : decode cX6_like 25 = .ok (.getfield 9, 3) := by decide +kernel
theorem dX6_like_28 : decode cX6_like 28 = .ok (.iconst 0, 1) := by decide +kernel
theorem dX6_like_29 : decode cX6_like 29 = .ok (.iaload, 1) := by decide +kernel
theorem dX6_like_30 : decode cX6_like 30 = .ok (.if_icmp .ge 84, 3) := by decide +kernel
theorem dX6_like_33 : decode cX6_like 33 = .ok (.iload 4, 2) := by decide +kernel
theorem dX6_like_35 : decode cX6_like 35 = .ok (.iload_n 1, 1) := by decide +kernel
theorem dX6_like_36 : decode cX6_like 36 = .ok (.if_icmp .eq 72, 3) := by decide +kernel
theorem dX6_like_39 : decode cX6_like 39 = .ok (.aload_n 0, 1) := by decide +kernel
theorem dX6_like_40 : decode cX6_like 40 = .ok (.iload 4, 2) := by decide +kernel
theorem dX6_like_42 : decode cX6_like 42 = .ok (.iconst 1, 1) := by decide +kernel
theorem dX6_like_43 : decode cX6_like 43 = .ok (.invokevirtual 82, 3) := by decide +kernel
theorem dX6_like_46 : decode cX6_like 46 = .ok (.aload_n 0, 1) := by decide +kernel
theorem dX6_like_47 : decode cX6_like 47 = .ok (.iload_n 1, 1) := by decide +kernel
theorem dX6_like_48 : decode cX6_like 48 = .ok (.iconst 1, 1) := by decide +kernel
theorem dX6_like_49 : decode cX6_like 49 = .ok (.invokevirtual 82, 3) := by decide +kernel
theorem dX6_like_52 : decode cX6_like 52 = .ok (.if_icmp .eq 6, 3) := by decide +kernel
theorem dX6_like_55 : decode cX6_like 55 = .ok (.goto 53, 3) := by decide +kernel
theorem dX6_like_58 : decode cX6_like 58 = .ok (.aload_n 0, 1) := by decide +kernel
theorem dX6_like_59 : decode cX6_like 59 = .ok (.iload 4, 2) := by decide +kernel
theorem dX6_like_61 : decode cX6_like 61 = .ok (.iconst 0, 1) := by decide +kernel
theorem dX6_like_62 : decode cX6_like 62 = .ok (.invokevirtual 82, 3) := by decide +kernel
theorem dX6_like_65 : decode cX6_like 65 = .ok (.aload_n 0, 1) := by decide +kernel
theorem dX6_like_66 : decode cX6_like 66 = .ok (.iload_n 1, 1) := by decide +kernel
theorem dX6_like_67 : decode cX6_like 67 = .ok (.iconst 0, 1) := by decide +kernel
theorem dX6_like_68 : decode cX6_like 68 = .ok (.invokevirtual 82, 3) := by decide +kernel
theorem dX6_like_71 : decode cX6_like 71 = .ok (.isub, 1) := by decide +kernel
theorem dX6_like_72 : decode cX6_like 72 = .ok (.istore 5, 2) := by decide +kernel
theorem dX6_like_74 : decode cX6_like 74 = .ok (.iload 5, 2) := by decide +kernel
theorem dX6_like_76 : decode cX6_like 76 = .ok (.ifCond .ge 9, 3) := by decide +kernel
theorem dX6_like_79 : decode cX6_like 79 = .ok (.iload 5, 2) := by decide +kernel
theorem dX6_like_81 : decode cX6_like 81 = .ok (.ineg, 1) := by decide +kernel
theorem dX6_like_82 : decode cX6_like 82 = .ok (.goto 5, 3) := by decide +kernel
theorem dX6_like_85 : decode cX6_like 85 = .ok (.iload 5, 2) := by decide +kernel
theorem dX6_like_87 : decode cX6_like 87 = .ok (.istore 5, 2) := by decide +kernel
theorem dX6_like_89 : decode cX6_like 89 = .ok (.iload_n 2, 1) := by decide +kernel
theorem dX6_like_90 : decode cX6_like 90 = .ok (.ifCond .lt 12, 3) := by decide +kernel
theorem dX6_like_93 : decode cX6_like 93 = .ok (.iload 5, 2) := by decide +kernel
theorem dX6_like_95 : decode cX6_like 95 = .ok (.iload_n 3, 1) := by decide +kernel
theorem dX6_like_96 : decode cX6_like 96 = .ok (.if_icmp .lt 6, 3) := by decide +kernel
theorem dX6_like_99 : decode cX6_like 99 = .ok (.goto 9, 3) := by decide +kernel
theorem dX6_like_102 : decode cX6_like 102 = .ok (.iload 4, 2) := by decide +kernel
theorem dX6_like_104 : decode cX6_like 104 = .ok (.istore_n 2, 1) := by decide +kernel
theorem dX6_like_105 : decode cX6_like 105 = .ok (.iload 5, 2) := by decide +kernel
theorem dX6_like_107 : decode cX6_like 107 = .ok (.istore_n 3, 1) := by decide +kernel
theorem dX6_like_108 : decode cX6_like 108 = .ok (.iinc 4 1, 3) := by decide +kernel
theorem dX6_like_111 : decode cX6_like 111 = .ok (.goto (-89), 3) := by decide +kernel
theorem dX6_like_114 : decode cX6_like 114 = .ok (.aload_n 0, 1) := by decide +kernel
theorem dX6_like_115 : decode cX6_like 115 = .ok (.iload_n 2, 1) := by decide +kernel
theorem dX6_like_116 : decode cX6_like 116 = .ok (.invokevirtual 159, 3) := by decide +kernel
theorem dX6_like_119 : decode cX6_like 119 = .ok (.ireturn, 1) := by decide +kernel
theorem dX6_sense_0 : decode cX6_sense 0 = .ok (.aload_n 0, 1) := by decide +kernel
theorem dX6_sense_1 : decode cX6_sense 1 = .ok (.iload_n 1, 1) := by decide +kernel
theorem dX6_sense_2 : decode cX6_sense 2 = .ok (.invokevirtual 78, 3) := by decide +kernel
theorem dX6_sense_5 : decode cX6_sense 5 = .ok (.ifCond .ne 10, 3) := by decide +kernel
theorem dX6_sense_8 : decode cX6_sense 8 = .ok (.aload_n 0, 1) := by decide +kernel
theorem dX6_sense_9 : decode cX6_sense 9 = .ok (.ldc 43, 2) := by decide +kernel
theorem dX6_sense_11 : decode cX6_sense 11 = .ok (.invokevirtual 45, 3) := by decide +kernel
theorem dX6_sense_14 : decode cX6_sense 14 = .ok (.ireturn, 1) := by decide +kernel
theorem dX6_sense_15 : decode cX6_sense 15 = .ok (.iconst 0, 1) := by decide +kernel
theorem dX6_sense_16 : decode cX6_sense 16 = .ok (.istore_n 2, 1) := by decide +kernel
theorem dX6_sense_17 : decode cX6_sense 17 = .ok (.iconst 0, 1) := by decide +kernel
theorem dX6_sense_18 : decode cX6_sense 18 = .ok (.istore_n 3, 1) := by decide +kernel
theorem dX6_sense_19 : decode cX6_sense 19 = .ok (.iload_n 3, 1) := by decide +kernel
theorem dX6_sense_20 : decode cX6_sense 20 = .ok (.aload_n 0, 1) := by decide +kernel
theorem dX6_sense_21 : decode cX6_sense 21 = .ok (.getfield 9, 3) := by decide +kernel
theorem dX6_sense_24 : decode cX6_sense 24 = .ok (.iconst 0, 1) := by decide +kernel
theorem dX6_sense_25 : decode cX6_sense 25 = .ok (.iaload, 1) := by decide +kernel
theorem dX6_sense_26 : decode cX6_sense 26 = .ok (.if_icmp .ge 34, 3) := by decide +kernel
theorem dX6_sense_29 : decode cX6_sense 29 = .ok (.iload_n 2, 1) := by decide +kernel
theorem dX6_sense_30 : decode cX6_sense 30 = .ok (.aload_n 0, 1) := by decide +kernel
theorem dX6_sense_31 : decode cX6_sense 31 = .ok (.iload_n 3, 1) := by decide +kernel
theorem dX6_sense_32 : decode cX6_sense 32 = .ok (.iconst 2, 1) := by decide +kernel
theorem dX6_sense_33 : decode cX6_sense 33 = .ok (.invokevirtual 82, 3) := by decide +kernel
theorem dX6_sense_36 : decode cX6_sense 36 = .ok (.aload_n 0, 1) := by decide +kernel
theorem dX6_sense_37 : decode cX6_sense 37 = .ok (.iload_n 1, 1) := by decide +kernel
theorem dX6_sense_38 : decode cX6_sense 38 = .ok (.iconst 2, 1) := by decide +kernel
theorem dX6_sense_39 : decode cX6_sense 39 = .ok (.invokevirtual 82, 3) := by decide +kernel
theorem dX6_sense_42 : decode cX6_sense 42 = .ok (.if_icmp .ne 9, 3) := by decide +kernel
theorem dX6_sense_45 : decode cX6_sense 45 = .ok (.iconst 1, 1) := by decide +kernel
theorem dX6_sense_46 : decode cX6_sense 46 = .ok (.iload_n 3, 1) := by decide +kernel
theorem dX6_sense_47 : decode cX6_sense 47 = .ok (.ishl, 1) := by decide +kernel
theorem dX6_sense_48 : decode cX6_sense 48 = .ok (.goto 4, 3) := by decide +kernel
theorem dX6_sense_51 : decode cX6_sense 51 = .ok (.iconst 0, 1) := by decide +kernel
theorem dX6_sense_52 : decode cX6_sense 52 = .ok (.ior, 1) := by decide +kernel
theorem dX6_sense_53 : decode cX6_sense 53 = .ok (.istore_n 2, 1) := by decide +kernel
theorem dX6_sense_54 : decode cX6_sense 54 = .ok (.iinc 3 1, 3) := by decide +kernel
theorem dX6_sense_57 : decode cX6_sense 57 = .ok (.goto (-38), 3) := by decide +kernel
theorem dX6_sense_60 : decode cX6_sense 60 = .ok (.iload_n 2, 1) := by decide +kernel
theorem dX6_sense_61 : decode cX6_sense 61 = .ok (.ireturn, 1) := by decide +kernel
theorem dX6_length_0 : decode cX6_length 0 = .ok (.aload_n 0, 1) := by decide +kernel
theorem dX6_length_1 : decode cX6_length 1 = .ok (.iload_n 1, 1) := by decide +kernel
theorem dX6_length_2 : decode cX6_length 2 = .ok (.invokevirtual 94, 3) := by decide +kernel
theorem dX6_length_5 : decode cX6_length 5 = .ok (.ifCond .ne 10, 3) := by decide +kernel
theorem dX6_length_8 : decode cX6_length 8 = .ok (.aload_n 0, 1) := by decide +kernel
theorem dX6_length_9 : decode cX6_length 9 = .ok (.ldc 43, 2) := by decide +kernel
theorem dX6_length_11 : decode cX6_length 11 = .ok (.invokevirtual 45, 3) := by decide +kernel
theorem dX6_length_14 : decode cX6_length 14 = .ok (.ireturn, 1) := by decide +kernel
theorem dX6_length_15 : decode cX6_length 15 = .ok (.iconst 0, 1) := by decide +kernel
theorem dX6_length_16 : decode cX6_length 16 = .ok (.istore_n 2, 1) := by decide +kernel
theorem dX6_length_17 : decode cX6_length 17 = .ok (.iconst 0, 1) := by decide +kernel
theorem dX6_length_18 : decode cX6_length 18 = .ok (.istore_n 3, 1) := by decide +kernel
theorem dX6_length_19 : decode cX6_length 19 = .ok (.iload_n 3, 1) := by decide +kernel
theorem dX6_length_20 : decode cX6_length 20 = .ok (.aload_n 0, 1) := by decide +kernel
theorem dX6_length_21 : decode cX6_length 21 = .ok (.iload_n 1, 1) := by decide +kernel
theorem dX6_length_22 : decode cX6_length 22 = .ok (.iconst 0, 1) := by decide +kernel
theorem dX6_length_23 : decode cX6_length 23 = .ok (.invokevirtual 74, 3) := by decide +kernel
theorem dX6_length_26 : decode cX6_length 26 = .ok (.if_icmp .ge 25, 3) := by decide +kernel
theorem dX6_length_29 : decode cX6_length 29 = .ok (.iload_n 2, 1) := by decide +kernel
theorem dX6_length_30 : decode cX6_length 30 = .ok (.aload_n 0, 1) := by decide +kernel
theorem dX6_length_31 : decode cX6_length 31 = .ok (.aload_n 0, 1) := by decide +kernel
theorem dX6_length_32 : decode cX6_length 32 = .ok (.iload_n 1, 1) := by decide +kernel
theorem dX6_length_33 : decode cX6_length 33 = .ok (.iconst 1, 1) := by decide +kernel
theorem dX6_length_34 : decode cX6_length 34 = .ok (.iload_n 3, 1) := by decide +kernel
theorem dX6_length_35 : decode cX6_length 35 = .ok (.iadd, 1) := by decide +kernel
theorem dX6_length_36 : decode cX6_length 36 = .ok (.invokevirtual 74, 3) := by decide +kernel
theorem dX6_length_39 : decode cX6_length 39 = .ok (.iconst 0, 1) := by decide +kernel
theorem dX6_length_40 : decode cX6_length 40 = .ok (.invokevirtual 82, 3) := by decide +kernel
theorem dX6_length_43 : decode cX6_length 43 = .ok (.iadd, 1) := by decide +kernel
theorem dX6_length_44 : decode cX6_length 44 = .ok (.istore_n 2, 1) := by decide +kernel
theorem dX6_length_45 : decode cX6_length 45 = .ok (.iinc 3 1, 3) := by decide +kernel
theorem dX6_length_48 : decode cX6_length 48 = .ok (.goto (-29), 3) := by decide +kernel
theorem dX6_length_51 : decode cX6_length 51 = .ok (.iload_n 2, 1) := by decide +kernel
theorem dX6_length_52 : decode cX6_length 52 = .ok (.ireturn, 1) := by decide +kernel
theorem dX6_rare_0 : decode cX6_rare 0 = .ok (.aload_n 0, 1) := by decide +kernel
theorem dX6_rare_1 : decode cX6_rare 1 = .ok (.iload_n 1, 1) := by decide +kernel
theorem dX6_rare_2 : decode cX6_rare 2 = .ok (.invokevirtual 94, 3) := by decide +kernel
theorem dX6_rare_5 : decode cX6_rare 5 = .ok (.ifCond .ne 10, 3) := by decide +kernel
theorem dX6_rare_8 : decode cX6_rare 8 = .ok (.aload_n 0, 1) := by decide +kernel
theorem dX6_rare_9 : decode cX6_rare 9 = .ok (.ldc 43, 2) := by decide +kernel
theorem dX6_rare_11 : decode cX6_rare 11 = .ok (.invokevirtual 45, 3) := by decide +kernel
theorem dX6_rare_14 : decode cX6_rare 14 = .ok (.ireturn, 1) := by decide +kernel
theorem dX6_rare_15 : decode cX6_rare 15 = .ok (.iconst 0, 1) := by decide +kernel
theorem dX6_rare_16 : decode cX6_rare 16 = .ok (.istore_n 2, 1) := by decide +kernel
theorem dX6_rare_17 : decode cX6_rare 17 = .ok (.iconst 1, 1) := by decide +kernel
theorem dX6_rare_18 : decode cX6_rare 18 = .ok (.istore_n 3, 1) := by decide +kernel
theorem dX6_rare_19 : decode cX6_rare 19 = .ok (.iload_n 3, 1) := by decide +kernel
theorem dX6_rare_20 : decode cX6_rare 20 = .ok (.aload_n 0, 1) := by decide +kernel
theorem dX6_rare_21 : decode cX6_rare 21 = .ok (.iload_n 1, 1) := by decide +kernel
theorem dX6_rare_22 : decode cX6_rare 22 = .ok (.iconst 0, 1) := by decide +kernel
theorem dX6_rare_23 : decode cX6_rare 23 = .ok (.invokevirtual 74, 3) := by decide +kernel
theorem dX6_rare_26 : decode cX6_rare 26 = .ok (.if_icmp .ge 38, 3) := by decide +kernel
theorem dX6_rare_29 : decode cX6_rare 29 = .ok (.aload_n 0, 1) := by decide +kernel
theorem dX6_rare_30 : decode cX6_rare 30 = .ok (.aload_n 0, 1) := by decide +kernel
theorem dX6_rare_31 : decode cX6_rare 31 = .ok (.iload_n 1, 1) := by decide +kernel
theorem dX6_rare_32 : decode cX6_rare 32 = .ok (.iconst 1, 1) := by decide +kernel
theorem dX6_rare_33 : decode cX6_rare 33 = .ok (.iload_n 3, 1) := by decide +kernel
theorem dX6_rare_34 : decode cX6_rare 34 = .ok (.iadd, 1) := by decide +kernel
theorem dX6_rare_35 : decode cX6_rare 35 = .ok (.invokevirtual 74, 3) := by decide +kernel
theorem dX6_rare_38 : decode cX6_rare 38 = .ok (.invokevirtual 85, 3) := by decide +kernel
theorem dX6_rare_41 : decode cX6_rare 41 = .ok (.aload_n 0, 1) := by decide +kernel
theorem dX6_rare_42 : decode cX6_rare 42 = .ok (.aload_n 0, 1) := by decide +kernel
theorem dX6_rare_43 : decode cX6_rare 43 = .ok (.iload_n 1, 1) := by decide +kernel
theorem dX6_rare_44 : decode cX6_rare 44 = .ok (.iconst 1, 1) := by decide +kernel
theorem dX6_rare_45 : decode cX6_rare 45 = .ok (.iload_n 2, 1) := by decide +kernel
theorem dX6_rare_46 : decode cX6_rare 46 = .ok (.iadd, 1) := by decide +kernel
theorem dX6_rare_47 : decode cX6_rare 47 = .ok (.invokevirtual 74, 3) := by decide +kernel
theorem dX6_rare_50 : decode cX6_rare 50 = .ok (.invokevirtual 85, 3) := by decide +kernel
theorem dX6_rare_53 : decode cX6_rare 53 = .ok (.if_icmp .ge 5, 3) := by decide +kernel
theorem dX6_rare_56 : decode cX6_rare 56 = .ok (.iload_n 3, 1) := by decide +kernel
theorem dX6_rare_57 : decode cX6_rare 57 = .ok (.istore_n 2, 1) := by decide +kernel
theorem dX6_rare_58 : decode cX6_rare 58 = .ok (.iinc 3 1, 3) := by decide +kernel
theorem dX6_rare_61 : decode cX6_rare 61 = .ok (.goto (-42), 3) := by decide +kernel
theorem dX6_rare_64 : decode cX6_rare 64 = .ok (.iload_n 2, 1) := by decide +kernel
theorem dX6_rare_65 : decode cX6_rare 65 = .ok (.ireturn, 1) := by decide +kernel
theorem dX6_plays_0 : decode cX6_plays 0 = .ok (.aload_n 0, 1) := by decide +kernel
theorem dX6_plays_1 : decode cX6_plays 1 = .ok (.iload_n 2, 1) := by decide +kernel
theorem dX6_plays_2 : decode cX6_plays 2 = .ok (.invokevirtual 106, 3) := by decide +kernel
theorem dX6_plays_5 : decode cX6_plays 5 = .ok (.istore_n 3, 1) := by decide +kernel
theorem dX6_plays_6 : decode cX6_plays 6 = .ok (.iconst 0, 1) := by decide +kernel
theorem dX6_plays_7 : decode cX6_plays 7 = .ok (.istore 4, 2) := by decide +kernel
theorem dX6_plays_9 : decode cX6_plays 9 = .ok (.iconst 1, 1) := by decide +kernel
theorem dX6_plays_10 : decode cX6_plays 10 = .ok (.istore 5, 2) := by decide +kernel
theorem dX6_plays_12 : decode cX6_plays 12 = .ok (.iload 5, 2) := by decide +kernel
theorem dX6_plays_14 : decode cX6_plays 14 = .ok (.ifCond .eq 91, 3) := by decide +kernel
theorem dX6_plays_17 : decode cX6_plays 17 = .ok (.iload_n 3, 1) := by decide +kernel
theorem dX6_plays_18 : decode cX6_plays 18 = .ok (.invokestatic 133, 3) := by decide +kernel
theorem dX6_plays_21 : decode cX6_plays 21 = .ok (.iconst 1, 1) := by decide +kernel
theorem dX6_plays_22 : decode cX6_plays 22 = .ok (.if_icmp .le 83, 3) := by decide +kernel
theorem dX6_plays_25 : decode cX6_plays 25 = .ok (.aload_n 0, 1) := by decide +kernel
theorem dX6_plays_26 : decode cX6_plays 26 = .ok (.iload_n 3, 1) := by decide +kernel
theorem dX6_plays_27 : decode cX6_plays 27 = .ok (.bipush 60, 2) := by decide +kernel
theorem dX6_plays_29 : decode cX6_plays 29 = .ok (.iconst 0, 1) := by decide +kernel
theorem dX6_plays_30 : decode cX6_plays 30 = .ok (.invokevirtual 153, 3) := by decide +kernel
theorem dX6_plays_33 : decode cX6_plays 33 = .ok (.istore 6, 2) := by decide +kernel
theorem dX6_plays_35 : decode cX6_plays 35 = .ok (.aload_n 0, 1) := by decide +kernel
theorem dX6_plays_36 : decode cX6_plays 36 = .ok (.iload 6, 2) := by decide +kernel
theorem dX6_plays_38 : decode cX6_plays 38 = .ok (.iload 6, 2) := by decide +kernel
theorem dX6_plays_40 : decode cX6_plays 40 = .ok (.iload_n 3, 1) := by decide +kernel
theorem dX6_plays_41 : decode cX6_plays 41 = .ok (.invokevirtual 146, 3) := by decide +kernel
theorem dX6_plays_44 : decode cX6_plays 44 = .ok (.iload 4, 2) := by decide +kernel
theorem dX6_plays_46 : decode cX6_plays 46 = .ok (.iload 6, 2) := by decide +kernel
theorem dX6_plays_48 : decode cX6_plays 48 = .ok (.invokestatic 117, 3) := by decide +kernel
theorem dX6_plays_51 : decode cX6_plays 51 = .ok (.iadd, 1) := by decide +kernel
theorem dX6_plays_52 : decode cX6_plays 52 = .ok (.bipush 60, 2) := by decide +kernel
theorem dX6_plays_54 : decode cX6_plays 54 = .ok (.if_icmp .gt 18, 3) := by decide +kernel
theorem dX6_plays_57 : decode cX6_plays 57 = .ok (.aload_n 0, 1) := by decide +kernel
theorem dX6_plays_58 : decode cX6_plays 58 = .ok (.getfield 124, 3) := by decide +kernel
theorem dX6_plays_61 : decode cX6_plays 61 = .ok (.iload_n 3, 1) := by decide +kernel
theorem dX6_plays_62 : decode cX6_plays 62 = .ok (.invokestatic 133, 3) := by decide +kernel
theorem dX6_plays_65 : decode cX6_plays 65 = .ok (.if_icmp .ge 7, 3) := by decide +kernel
theorem dX6_plays_68 : decode cX6_plays 68 = .ok (.iconst 1, 1) := by decide +kernel
theorem dX6_plays_69 : decode cX6_plays 69 = .ok (.goto 4, 3) := by decide +kernel
theorem dX6_plays_72 : decode cX6_plays 72 = .ok (.iconst 0, 1) := by decide +kernel
theorem dX6_plays_73 : decode cX6_plays 73 = .ok (.istore 5, 2) := by decide +kernel
theorem dX6_plays_75 : decode cX6_plays 75 = .ok (.iload 5, 2) := by decide +kernel
theorem dX6_plays_77 : decode cX6_plays 77 = .ok (.ifCond .ne 6, 3) := by decide +kernel
theorem dX6_plays_80 : decode cX6_plays 80 = .ok (.goto (-68), 3) := by decide +kernel
theorem dX6_plays_83 : decode cX6_plays 83 = .ok (.iload 4, 2) := by decide +kernel
theorem dX6_plays_85 : decode cX6_plays 85 = .ok (.iload 6, 2) := by decide +kernel
theorem dX6_plays_87 : decode cX6_plays 87 = .ok (.invokestatic 117, 3) := by decide +kernel
theorem dX6_plays_90 : decode cX6_plays 90 = .ok (.iadd, 1) := by decide +kernel
theorem dX6_plays_91 : decode cX6_plays 91 = .ok (.istore 4, 2) := by decide +kernel
theorem dX6_plays_93 : decode cX6_plays 93 = .ok (.aload_n 0, 1) := by decide +kernel
theorem dX6_plays_94 : decode cX6_plays 94 = .ok (.iload 6, 2) := by decide +kernel
theorem dX6_plays_96 : decode cX6_plays 96 = .ok (.iload_n 1, 1) := by decide +kernel
theorem dX6_plays_97 : decode cX6_plays 97 = .ok (.iload_n 3, 1) := by decide +kernel
theorem dX6_plays_98 : decode cX6_plays 98 = .ok (.invokevirtual 130, 3) := by decide +kernel
theorem dX6_plays_101 : decode cX6_plays 101 = .ok (.istore_n 3, 1) := by decide +kernel
theorem dX6_plays_102 : decode cX6_plays 102 = .ok (.goto (-90), 3) := by decide +kernel
theorem dX6_plays_105 : decode cX6_plays 105 = .ok (.aload_n 0, 1) := by decide +kernel
theorem dX6_plays_106 : decode cX6_plays 106 = .ok (.iload_n 3, 1) := by decide +kernel
theorem dX6_plays_107 : decode cX6_plays 107 = .ok (.invokestatic 133, 3) := by decide +kernel
theorem dX6_plays_110 : decode cX6_plays 110 = .ok (.iconst 1, 1) := by decide +kernel
theorem dX6_plays_111 : decode cX6_plays 111 = .ok (.if_icmp .ne 7, 3) := by decide +kernel
theorem dX6_plays_114 : decode cX6_plays 114 = .ok (.iconst 1, 1) := by decide +kernel
theorem dX6_plays_115 : decode cX6_plays 115 = .ok (.goto 4, 3) := by decide +kernel
theorem dX6_plays_118 : decode cX6_plays 118 = .ok (.iconst 0, 1) := by decide +kernel
theorem dX6_plays_119 : decode cX6_plays 119 = .ok (.putfield 181, 3) := by decide +kernel
theorem dX6_plays_122 : decode cX6_plays 122 = .ok (.iload 4, 2) := by decide +kernel
theorem dX6_plays_124 : decode cX6_plays 124 = .ok (.ireturn, 1) := by decide +kernel
theorem dX6_pointsOf_0 : decode cX6_pointsOf 0 = .ok (.aload_n 0, 1) := by decide +kernel
theorem dX6_pointsOf_1 : decode cX6_pointsOf 1 = .ok (.iload_n 1, 1) := by decide +kernel
theorem dX6_pointsOf_2 : decode cX6_pointsOf 2 = .ok (.iload_n 2, 1) := by decide +kernel
theorem dX6_pointsOf_3 : decode cX6_pointsOf 3 = .ok (.invokevirtual 185, 3) := by decide +kernel
theorem dX6_pointsOf_6 : decode cX6_pointsOf 6 = .ok (.istore_n 3, 1) := by decide +kernel
theorem dX6_pointsOf_7 : decode cX6_pointsOf 7 = .ok (.aload_n 0, 1) := by decide +kernel
theorem dX6_pointsOf_8 : decode cX6_pointsOf 8 = .ok (.getfield 181, 3) := by decide +kernel
theorem dX6_pointsOf_11 : decode cX6_pointsOf 11 = .ok (.ifCond .eq 10, 3) := by decide +kernel
theorem dX6_pointsOf_14 : decode cX6_pointsOf 14 = .ok (.bipush 60, 2) := by decide +kernel
theorem dX6_pointsOf_16 : decode cX6_pointsOf 16 = .ok (.iload_n 3, 1) := by decide +kernel
theorem dX6_pointsOf_17 : decode cX6_pointsOf 17 = .ok (.isub, 1) := by decide +kernel
theorem dX6_pointsOf_18 : decode cX6_pointsOf 18 = .ok (.goto 4, 3) := by decide +kernel
theorem dX6_pointsOf_21 : decode cX6_pointsOf 21 = .ok (.iconst 0, 1) := by decide +kernel
theorem dX6_pointsOf_22 : decode cX6_pointsOf 22 = .ok (.ireturn, 1) := by decide +kernel
theorem dX6_minute_0 : decode cX6_minute 0 = .ok (.aload_n 0, 1) := by decide +kernel
theorem dX6_minute_1 : decode cX6_minute 1 = .ok (.iload_n 1, 1) := by decide +kernel
theorem dX6_minute_2 : decode cX6_minute 2 = .ok (.invokevirtual 94, 3) := by decide +kernel
theorem dX6_minute_5 : decode cX6_minute 5 = .ok (.ifCond .eq 10, 3) := by decide +kernel
theorem dX6_minute_8 : decode cX6_minute 8 = .ok (.iload_n 2, 1) := by decide +kernel
theorem dX6_minute_9 : decode cX6_minute 9 = .ok (.invokestatic 100, 3) := by decide +kernel
theorem dX6_minute_12 : decode cX6_minute 12 = .ok (.ifCond .ne 10, 3) := by decide +kernel
theorem dX6_minute_15 : decode cX6_minute 15 = .ok (.aload_n 0, 1) := by decide +kernel
theorem dX6_minute_16 : decode cX6_minute 16 = .ok (.ldc 43, 2) := by decide +kernel
theorem dX6_minute_18 : decode cX6_minute 18 = .ok (.invokevirtual 45, 3) := by decide +kernel
theorem dX6_minute_21 : decode cX6_minute 21 = .ok (.ireturn, 1) := by decide +kernel
theorem dX6_minute_22 : decode cX6_minute 22 = .ok (.aload_n 0, 1) := by decide +kernel
theorem dX6_minute_23 : decode cX6_minute 23 = .ok (.invokevirtual 136, 3) := by decide +kernel
theorem dX6_minute_26 : decode cX6_minute 26 = .ok (.aload_n 0, 1) := by decide +kernel
theorem dX6_minute_27 : decode cX6_minute 27 = .ok (.iload_n 1, 1) := by decide +kernel
theorem dX6_minute_28 : decode cX6_minute 28 = .ok (.iload_n 2, 1) := by decide +kernel
theorem dX6_minute_29 : decode cX6_minute 29 = .ok (.invokevirtual 103, 3) := by decide +kernel
theorem dX6_minute_32 : decode cX6_minute 32 = .ok (.ifCond .eq 12, 3) := by decide +kernel
theorem dX6_minute_35 : decode cX6_minute 35 = .ok (.aload_n 0, 1) := by decide +kernel
theorem dX6_minute_36 : decode cX6_minute 36 = .ok (.iload_n 1, 1) := by decide +kernel
theorem dX6_minute_37 : decode cX6_minute 37 = .ok (.iload_n 2, 1) := by decide +kernel
theorem dX6_minute_38 : decode cX6_minute 38 = .ok (.invokevirtual 185, 3) := by decide +kernel
theorem dX6_minute_41 : decode cX6_minute 41 = .ok (.goto 9, 3) := by decide +kernel
theorem dX6_minute_44 : decode cX6_minute 44 = .ok (.aload_n 0, 1) := by decide +kernel
theorem dX6_minute_45 : decode cX6_minute 45 = .ok (.ldc 150, 2) := by decide +kernel
theorem dX6_minute_47 : decode cX6_minute 47 = .ok (.invokevirtual 45, 3) := by decide +kernel
theorem dX6_minute_50 : decode cX6_minute 50 = .ok (.ireturn, 1) := by decide +kernel
theorem dX6_points_0 : decode cX6_points 0 = .ok (.aload_n 0, 1) := by decide +kernel
theorem dX6_points_1 : decode cX6_points 1 = .ok (.iload_n 1, 1) := by decide +kernel
theorem dX6_points_2 : decode cX6_points 2 = .ok (.invokevirtual 94, 3) := by decide +kernel
theorem dX6_points_5 : decode cX6_points 5 = .ok (.ifCond .eq 10, 3) := by decide +kernel
theorem dX6_points_8 : decode cX6_points 8 = .ok (.iload_n 2, 1) := by decide +kernel
theorem dX6_points_9 : decode cX6_points 9 = .ok (.invokestatic 100, 3) := by decide +kernel
theorem dX6_points_12 : decode cX6_points 12 = .ok (.ifCond .ne 10, 3) := by decide +kernel
theorem dX6_points_15 : decode cX6_points 15 = .ok (.aload_n 0, 1) := by decide +kernel
theorem dX6_points_16 : decode cX6_points 16 = .ok (.ldc 43, 2) := by decide +kernel
theorem dX6_points_18 : decode cX6_points 18 = .ok (.invokevirtual 45, 3) := by decide +kernel
theorem dX6_points_21 : decode cX6_points 21 = .ok (.ireturn, 1) := by decide +kernel
theorem dX6_points_22 : decode cX6_points 22 = .ok (.aload_n 0, 1) := by decide +kernel
theorem dX6_points_23 : decode cX6_points 23 = .ok (.invokevirtual 136, 3) := by decide +kernel
theorem dX6_points_26 : decode cX6_points 26 = .ok (.aload_n 0, 1) := by decide +kernel
theorem dX6_points_27 : decode cX6_points 27 = .ok (.iload_n 1, 1) := by decide +kernel
theorem dX6_points_28 : decode cX6_points 28 = .ok (.iload_n 2, 1) := by decide +kernel
theorem dX6_points_29 : decode cX6_points 29 = .ok (.invokevirtual 103, 3) := by decide +kernel
theorem dX6_points_32 : decode cX6_points 32 = .ok (.ifCond .eq 12, 3) := by decide +kernel
theorem dX6_points_35 : decode cX6_points 35 = .ok (.aload_n 0, 1) := by decide +kernel
theorem dX6_points_36 : decode cX6_points 36 = .ok (.iload_n 1, 1) := by decide +kernel
theorem dX6_points_37 : decode cX6_points 37 = .ok (.iload_n 2, 1) := by decide +kernel
theorem dX6_points_38 : decode cX6_points 38 = .ok (.invokevirtual 188, 3) := by decide +kernel
theorem dX6_points_41 : decode cX6_points 41 = .ok (.goto 9, 3) := by decide +kernel
theorem dX6_points_44 : decode cX6_points 44 = .ok (.aload_n 0, 1) := by decide +kernel
theorem dX6_points_45 : decode cX6_points 45 = .ok (.ldc 150, 2) := by decide +kernel
theorem dX6_points_47 : decode cX6_points 47 = .ok (.invokevirtual 45, 3) := by decide +kernel
theorem dX6_points_50 : decode cX6_points 50 = .ok (.ireturn, 1) := by decide +kernel
theorem dX6_had_0 : decode cX6_had 0 = .ok (.iload_n 1, 1) := by decide +kernel
theorem dX6_had_1 : decode cX6_had 1 = .ok (.invokestatic 100, 3) := by decide +kernel
theorem dX6_had_4 : decode cX6_had 4 = .ok (.ifCond .ne 10, 3) := by decide +kernel
theorem dX6_had_7 : decode cX6_had 7 = .ok (.aload_n 0, 1) := by decide +kernel
theorem dX6_had_8 : decode cX6_had 8 = .ok (.ldc 43, 2) := by decide +kernel
theorem dX6_had_10 : decode cX6_had 10 = .ok (.invokevirtual 45, 3) := by decide +kernel
theorem dX6_had_13 : decode cX6_had 13 = .ok (.ireturn, 1) := by decide +kernel
theorem dX6_had_14 : decode cX6_had 14 = .ok (.aload_n 0, 1) := by decide +kernel
theorem dX6_had_15 : decode cX6_had 15 = .ok (.invokevirtual 136, 3) := by decide +kernel
theorem dX6_had_18 : decode cX6_had 18 = .ok (.iconst 0, 1) := by decide +kernel
theorem dX6_had_19 : decode cX6_had 19 = .ok (.istore_n 2, 1) := by decide +kernel
theorem dX6_had_20 : decode cX6_had 20 = .ok (.iconst 0, 1) := by decide +kernel
theorem dX6_had_21 : decode cX6_had 21 = .ok (.istore_n 3, 1) := by decide +kernel
theorem dX6_had_22 : decode cX6_had 22 = .ok (.iload_n 3, 1) := by decide +kernel
theorem dX6_had_23 : decode cX6_had 23 = .ok (.aload_n 0, 1) := by decide +kernel
theorem dX6_had_24 : decode cX6_had 24 = .ok (.getfield 9, 3) := by decide +kernel
theorem dX6_had_27 : decode cX6_had 27 = .ok (.iconst 1, 1) := by decide +kernel
theorem dX6_had_28 : decode cX6_had 28 = .ok (.iaload, 1) := by decide +kernel
theorem dX6_had_29 : decode cX6_had 29 = .ok (.if_icmp .ge 43, 3) := by decide +kernel
theorem dX6_had_32 : decode cX6_had 32 = .ok (.aload_n 0, 1) := by decide +kernel
theorem dX6_had_33 : decode cX6_had 33 = .ok (.iload_n 3, 1) := by decide +kernel
theorem dX6_had_34 : decode cX6_had 34 = .ok (.iload_n 1, 1) := by decide +kernel
theorem dX6_had_35 : decode cX6_had 35 = .ok (.invokevirtual 103, 3) := by decide +kernel
theorem dX6_had_38 : decode cX6_had 38 = .ok (.ifCond .ne 6, 3) := by decide +kernel
theorem dX6_had_41 : decode cX6_had 41 = .ok (.goto 25, 3) := by decide +kernel
theorem dX6_had_44 : decode cX6_had 44 = .ok (.aload_n 0, 1) := by decide +kernel
theorem dX6_had_45 : decode cX6_had 45 = .ok (.iload_n 3, 1) := by decide +kernel
theorem dX6_had_46 : decode cX6_had 46 = .ok (.iload_n 1, 1) := by decide +kernel
theorem dX6_had_47 : decode cX6_had 47 = .ok (.invokevirtual 185, 3) := by decide +kernel
theorem dX6_had_50 : decode cX6_had 50 = .ok (.pop, 1) := by decide +kernel
theorem dX6_had_51 : decode cX6_had 51 = .ok (.iload_n 2, 1) := by decide +kernel
theorem dX6_had_52 : decode cX6_had 52 = .ok (.aload_n 0, 1) := by decide +kernel
theorem dX6_had_53 : decode cX6_had 53 = .ok (.getfield 181, 3) := by decide +kernel
theorem dX6_had_56 : decode cX6_had 56 = .ok (.ifCond .eq 7, 3) := by decide +kernel
theorem dX6_had_59 : decode cX6_had 59 = .ok (.iconst 1, 1) := by decide +kernel
theorem dX6_had_60 : decode cX6_had 60 = .ok (.goto 4, 3) := by decide +kernel
theorem dX6_had_63 : decode cX6_had 63 = .ok (.iconst 0, 1) := by decide +kernel
theorem dX6_had_64 : decode cX6_had 64 = .ok (.iadd, 1) := by decide +kernel
theorem dX6_had_65 : decode cX6_had 65 = .ok (.istore_n 2, 1) := by decide +kernel
theorem dX6_had_66 : decode cX6_had 66 = .ok (.iinc 3 1, 3) := by decide +kernel
theorem dX6_had_69 : decode cX6_had 69 = .ok (.goto (-47), 3) := by decide +kernel
theorem dX6_had_72 : decode cX6_had 72 = .ok (.iload_n 2, 1) := by decide +kernel
theorem dX6_had_73 : decode cX6_had 73 = .ok (.ireturn, 1) := by decide +kernel
theorem dX6_draw_0 : decode cX6_draw 0 = .ok (.aload_n 0, 1) := by decide +kernel
theorem dX6_draw_1 : decode cX6_draw 1 = .ok (.getfield 9, 3) := by decide +kernel
theorem dX6_draw_4 : decode cX6_draw 4 = .ok (.iconst 4, 1) := by decide +kernel
theorem dX6_draw_5 : decode cX6_draw 5 = .ok (.aload_n 0, 1) := by decide +kernel
theorem dX6_draw_6 : decode cX6_draw 6 = .ok (.getfield 9, 3) := by decide +kernel
theorem dX6_draw_9 : decode cX6_draw 9 = .ok (.iconst 4, 1) := by decide +kernel
theorem dX6_draw_10 : decode cX6_draw 10 = .ok (.iaload, 1) := by decide +kernel
theorem dX6_draw_11 : decode cX6_draw 11 = .ok (.ldc 191, 2) := by decide +kernel
theorem dX6_draw_13 : decode cX6_draw 13 = .ok (.imul, 1) := by decide +kernel
theorem dX6_draw_14 : decode cX6_draw 14 = .ok (.sipush 12345, 3) := by decide +kernel
theorem dX6_draw_17 : decode cX6_draw 17 = .ok (.iadd, 1) := by decide +kernel
theorem dX6_draw_18 : decode cX6_draw 18 = .ok (.iastore, 1) := by decide +kernel
theorem dX6_draw_19 : decode cX6_draw 19 = .ok (.aload_n 0, 1) := by decide +kernel
theorem dX6_draw_20 : decode cX6_draw 20 = .ok (.getfield 9, 3) := by decide +kernel
theorem dX6_draw_23 : decode cX6_draw 23 = .ok (.iconst 4, 1) := by decide +kernel
theorem dX6_draw_24 : decode cX6_draw 24 = .ok (.iaload, 1) := by decide +kernel
theorem dX6_draw_25 : decode cX6_draw 25 = .ok (.bipush 8, 2) := by decide +kernel
theorem dX6_draw_27 : decode cX6_draw 27 = .ok (.iushr, 1) := by decide +kernel
theorem dX6_draw_28 : decode cX6_draw 28 = .ok (.ireturn, 1) := by decide +kernel
theorem dX6_playsMany_0 : decode cX6_playsMany 0 = .ok (.aload_n 0, 1) := by decide +kernel
theorem dX6_playsMany_1 : decode cX6_playsMany 1 = .ok (.invokevirtual 136, 3) := by decide +kernel
theorem dX6_playsMany_4 : decode cX6_playsMany 4 = .ok (.aload_n 0, 1) := by decide +kernel
theorem dX6_playsMany_5 : decode cX6_playsMany 5 = .ok (.iload_n 1, 1) := by decide +kernel
theorem dX6_playsMany_6 : decode cX6_playsMany 6 = .ok (.invokevirtual 106, 3) := by decide +kernel
theorem dX6_playsMany_9 : decode cX6_playsMany 9 = .ok (.istore_n 3, 1) := by decide +kernel
theorem dX6_playsMany_10 : decode cX6_playsMany 10 = .ok (.iconst 0, 1) := by decide +kernel
theorem dX6_playsMany_11 : decode cX6_playsMany 11 = .ok (.istore 4, 2) := by decide +kernel
theorem dX6_playsMany_13 : decode cX6_playsMany 13 = .ok (.iconst 0, 1) := by decide +kernel
theorem dX6_playsMany_14 : decode cX6_playsMany 14 = .ok (.istore 5, 2) := by decide +kernel
theorem dX6_playsMany_16 : decode cX6_playsMany 16 = .ok (.iload 5, 2) := by decide +kernel
theorem dX6_playsMany_18 : decode cX6_playsMany 18 = .ok (.iload_n 2, 1) := by decide +kernel
theorem dX6_playsMany_19 : decode cX6_playsMany 19 = .ok (.if_icmp .ge 66, 3) := by decide +kernel
theorem dX6_playsMany_22 : decode cX6_playsMany 22 = .ok (.aload_n 0, 1) := by decide +kernel
theorem dX6_playsMany_23 : decode cX6_playsMany 23 = .ok (.invokevirtual 192, 3) := by decide +kernel
theorem dX6_playsMany_26 : decode cX6_playsMany 26 = .ok (.iload_n 3, 1) := by decide +kernel
theorem dX6_playsMany_27 : decode cX6_playsMany 27 = .ok (.invokestatic 133, 3) := by decide +kernel
theorem dX6_playsMany_30 : decode cX6_playsMany 30 = .ok (.irem, 1) := by decide +kernel
theorem dX6_playsMany_31 : decode cX6_playsMany 31 = .ok (.istore 6, 2) := by decide +kernel
theorem dX6_playsMany_33 : decode cX6_playsMany 33 = .ok (.iconst 0, 1) := by decide +kernel
theorem dX6_playsMany_34 : decode cX6_playsMany 34 = .ok (.istore 7, 2) := by decide +kernel
theorem dX6_playsMany_36 : decode cX6_playsMany 36 = .ok (.iload 6, 2) := by decide +kernel
theorem dX6_playsMany_38 : decode cX6_playsMany 38 = .ok (.ifCond .gt 12, 3) := by decide +kernel
theorem dX6_playsMany_41 : decode cX6_playsMany 41 = .ok (.iload_n 3, 1) := by decide +kernel
theorem dX6_playsMany_42 : decode cX6_playsMany 42 = .ok (.iload 7, 2) := by decide +kernel
theorem dX6_playsMany_44 : decode cX6_playsMany 44 = .ok (.ishr, 1) := by decide +kernel
theorem dX6_playsMany_45 : decode cX6_playsMany 45 = .ok (.iconst 1, 1) := by decide +kernel
theorem dX6_playsMany_46 : decode cX6_playsMany 46 = .ok (.iand, 1) := by decide +kernel
theorem dX6_playsMany_47 : decode cX6_playsMany 47 = .ok (.ifCond .ne 20, 3) := by decide +kernel
theorem dX6_playsMany_50 : decode cX6_playsMany 50 = .ok (.iload 6, 2) := by decide +kernel
theorem dX6_playsMany_52 : decode cX6_playsMany 52 = .ok (.iload_n 3, 1) := by decide +kernel
theorem dX6_playsMany_53 : decode cX6_playsMany 53 = .ok (.iload 7, 2) := by decide +kernel
theorem dX6_playsMany_55 : decode cX6_playsMany 55 = .ok (.ishr, 1) := by decide +kernel
theorem dX6_playsMany_56 : decode cX6_playsMany 56 = .ok (.iconst 1, 1) := by decide +kernel
theorem dX6_playsMany_57 : decode cX6_playsMany 57 = .ok (.iand, 1) := by decide +kernel
theorem dX6_playsMany_58 : decode cX6_playsMany 58 = .ok (.isub, 1) := by decide +kernel
theorem dX6_playsMany_59 : decode cX6_playsMany 59 = .ok (.istore 6, 2) := by decide +kernel
theorem dX6_playsMany_61 : decode cX6_playsMany 61 = .ok (.iinc 7 1, 3) := by decide +kernel
theorem dX6_playsMany_64 : decode cX6_playsMany 64 = .ok (.goto (-28), 3) := by decide +kernel
theorem dX6_playsMany_67 : decode cX6_playsMany 67 = .ok (.iload 4, 2) := by decide +kernel
theorem dX6_playsMany_69 : decode cX6_playsMany 69 = .ok (.aload_n 0, 1) := by decide +kernel
theorem dX6_playsMany_70 : decode cX6_playsMany 70 = .ok (.iload 7, 2) := by decide +kernel
theorem dX6_playsMany_72 : decode cX6_playsMany 72 = .ok (.iload_n 1, 1) := by decide +kernel
theorem dX6_playsMany_73 : decode cX6_playsMany 73 = .ok (.invokevirtual 188, 3) := by decide +kernel
theorem dX6_playsMany_76 : decode cX6_playsMany 76 = .ok (.iadd, 1) := by decide +kernel
theorem dX6_playsMany_77 : decode cX6_playsMany 77 = .ok (.istore 4, 2) := by decide +kernel
theorem dX6_playsMany_79 : decode cX6_playsMany 79 = .ok (.iinc 5 1, 3) := by decide +kernel
theorem dX6_playsMany_82 : decode cX6_playsMany 82 = .ok (.goto (-66), 3) := by decide +kernel
theorem dX6_playsMany_85 : decode cX6_playsMany 85 = .ok (.aload_n 0, 1) := by decide +kernel
theorem dX6_playsMany_86 : decode cX6_playsMany 86 = .ok (.getfield 9, 3) := by decide +kernel
theorem dX6_playsMany_89 : decode cX6_playsMany 89 = .ok (.iconst 2, 1) := by decide +kernel
theorem dX6_playsMany_90 : decode cX6_playsMany 90 = .ok (.iload_n 1, 1) := by decide +kernel
theorem dX6_playsMany_91 : decode cX6_playsMany 91 = .ok (.iadd, 1) := by decide +kernel
theorem dX6_playsMany_92 : decode cX6_playsMany 92 = .ok (.dup2, 1) := by decide +kernel
theorem dX6_playsMany_93 : decode cX6_playsMany 93 = .ok (.iaload, 1) := by decide +kernel
theorem dX6_playsMany_94 : decode cX6_playsMany 94 = .ok (.iload 4, 2) := by decide +kernel
theorem dX6_playsMany_96 : decode cX6_playsMany 96 = .ok (.iadd, 1) := by decide +kernel
theorem dX6_playsMany_97 : decode cX6_playsMany 97 = .ok (.iastore, 1) := by decide +kernel
theorem dX6_playsMany_98 : decode cX6_playsMany 98 = .ok (.iload 4, 2) := by decide +kernel
theorem dX6_playsMany_100 : decode cX6_playsMany 100 = .ok (.ireturn, 1) := by decide +kernel
theorem dX6_evening_0 : decode cX6_evening 0 = .ok (.iload_n 1, 1) := by decide +kernel
theorem dX6_evening_1 : decode cX6_evening 1 = .ok (.invokestatic 100, 3) := by decide +kernel
theorem dX6_evening_4 : decode cX6_evening 4 = .ok (.ifCond .eq 15, 3) := by decide +kernel
theorem dX6_evening_7 : decode cX6_evening 7 = .ok (.iload_n 2, 1) := by decide +kernel
theorem dX6_evening_8 : decode cX6_evening 8 = .ok (.i2l, 1) := by decide +kernel
theorem dX6_evening_9 : decode cX6_evening 9 = .ok (.lconst 1, 1) := by decide +kernel
theorem dX6_evening_10 : decode cX6_evening 10 = .ok (.ldc2_w 196, 3) := by decide +kernel
theorem dX6_evening_13 : decode cX6_evening 13 = .ok (.invokestatic 49, 3) := by decide +kernel
theorem dX6_evening_16 : decode cX6_evening 16 = .ok (.ifCond .ne 10, 3) := by decide +kernel
theorem dX6_evening_19 : decode cX6_evening 19 = .ok (.aload_n 0, 1) := by decide +kernel
theorem dX6_evening_20 : decode cX6_evening 20 = .ok (.ldc 43, 2) := by decide +kernel
theorem dX6_evening_22 : decode cX6_evening 22 = .ok (.invokevirtual 45, 3) := by decide +kernel
theorem dX6_evening_25 : decode cX6_evening 25 = .ok (.ireturn, 1) := by decide +kernel
theorem dX6_evening_26 : decode cX6_evening 26 = .ok (.aload_n 0, 1) := by decide +kernel
theorem dX6_evening_27 : decode cX6_evening 27 = .ok (.iload_n 1, 1) := by decide +kernel
theorem dX6_evening_28 : decode cX6_evening 28 = .ok (.invokevirtual 106, 3) := by decide +kernel
theorem dX6_evening_31 : decode cX6_evening 31 = .ok (.ifCond .ne 12, 3) := by decide +kernel
theorem dX6_evening_34 : decode cX6_evening 34 = .ok (.aload_n 0, 1) := by decide +kernel
theorem dX6_evening_35 : decode cX6_evening 35 = .ok (.ldc 150, 2) := by decide +kernel
theorem dX6_evening_37 : decode cX6_evening 37 = .ok (.invokevirtual 45, 3) := by decide +kernel
theorem dX6_evening_40 : decode cX6_evening 40 = .ok (.goto 9, 3) := by decide +kernel
theorem dX6_evening_43 : decode cX6_evening 43 = .ok (.aload_n 0, 1) := by decide +kernel
theorem dX6_evening_44 : decode cX6_evening 44 = .ok (.iload_n 1, 1) := by decide +kernel
theorem dX6_evening_45 : decode cX6_evening 45 = .ok (.iload_n 2, 1) := by decide +kernel
theorem dX6_evening_46 : decode cX6_evening 46 = .ok (.invokevirtual 198, 3) := by decide +kernel
theorem dX6_evening_49 : decode cX6_evening 49 = .ok (.ireturn, 1) := by decide +kernel
theorem dX6_ahead_0 : decode cX6_ahead 0 = .ok (.iload_n 1, 1) := by decide +kernel
theorem dX6_ahead_1 : decode cX6_ahead 1 = .ok (.invokestatic 100, 3) := by decide +kernel
theorem dX6_ahead_4 : decode cX6_ahead 4 = .ok (.ifCond .eq 15, 3) := by decide +kernel
theorem dX6_ahead_7 : decode cX6_ahead 7 = .ok (.iload_n 2, 1) := by decide +kernel
theorem dX6_ahead_8 : decode cX6_ahead 8 = .ok (.i2l, 1) := by decide +kernel
theorem dX6_ahead_9 : decode cX6_ahead 9 = .ok (.lconst 1, 1) := by decide +kernel
theorem dX6_ahead_10 : decode cX6_ahead 10 = .ok (.ldc2_w 196, 3) := by decide +kernel
theorem dX6_ahead_13 : decode cX6_ahead 13 = .ok (.invokestatic 49, 3) := by decide +kernel
theorem dX6_ahead_16 : decode cX6_ahead 16 = .ok (.ifCond .ne 10, 3) := by decide +kernel
theorem dX6_ahead_19 : decode cX6_ahead 19 = .ok (.aload_n 0, 1) := by decide +kernel
theorem dX6_ahead_20 : decode cX6_ahead 20 = .ok (.ldc 43, 2) := by decide +kernel
theorem dX6_ahead_22 : decode cX6_ahead 22 = .ok (.invokevirtual 45, 3) := by decide +kernel
theorem dX6_ahead_25 : decode cX6_ahead 25 = .ok (.ireturn, 1) := by decide +kernel
theorem dX6_ahead_26 : decode cX6_ahead 26 = .ok (.aload_n 0, 1) := by decide +kernel
theorem dX6_ahead_27 : decode cX6_ahead 27 = .ok (.iload_n 1, 1) := by decide +kernel
theorem dX6_ahead_28 : decode cX6_ahead 28 = .ok (.invokevirtual 106, 3) := by decide +kernel
theorem dX6_ahead_31 : decode cX6_ahead 31 = .ok (.ifCond .ne 10, 3) := by decide +kernel
theorem dX6_ahead_34 : decode cX6_ahead 34 = .ok (.aload_n 0, 1) := by decide +kernel
theorem dX6_ahead_35 : decode cX6_ahead 35 = .ok (.ldc 150, 2) := by decide +kernel
theorem dX6_ahead_37 : decode cX6_ahead 37 = .ok (.invokevirtual 45, 3) := by decide +kernel
theorem dX6_ahead_40 : decode cX6_ahead 40 = .ok (.ireturn, 1) := by decide +kernel
theorem dX6_ahead_41 : decode cX6_ahead 41 = .ok (.aload_n 0, 1) := by decide +kernel
theorem dX6_ahead_42 : decode cX6_ahead 42 = .ok (.getfield 9, 3) := by decide +kernel
theorem dX6_ahead_45 : decode cX6_ahead 45 = .ok (.aload_n 0, 1) := by decide +kernel
theorem dX6_ahead_46 : decode cX6_ahead 46 = .ok (.getfield 16, 3) := by decide +kernel
theorem dX6_ahead_49 : decode cX6_ahead 49 = .ok (.invokestatic 201, 3) := by decide +kernel
theorem dX6_ahead_52 : decode cX6_ahead 52 = .ok (.aload_n 0, 1) := by decide +kernel
theorem dX6_ahead_53 : decode cX6_ahead 53 = .ok (.iload_n 1, 1) := by decide +kernel
theorem dX6_ahead_54 : decode cX6_ahead 54 = .ok (.iload_n 2, 1) := by decide +kernel
theorem dX6_ahead_55 : decode cX6_ahead 55 = .ok (.invokevirtual 198, 3) := by decide +kernel
theorem dX6_ahead_58 : decode cX6_ahead 58 = .ok (.istore_n 3, 1) := by decide +kernel
theorem dX6_ahead_59 : decode cX6_ahead 59 = .ok (.aload_n 0, 1) := by decide +kernel
theorem dX6_ahead_60 : decode cX6_ahead 60 = .ok (.getfield 16, 3) := by decide +kernel
theorem dX6_ahead_63 : decode cX6_ahead 63 = .ok (.aload_n 0, 1) := by decide +kernel
theorem dX6_ahead_64 : decode cX6_ahead 64 = .ok (.getfield 9, 3) := by decide +kernel
theorem dX6_ahead_67 : decode cX6_ahead 67 = .ok (.invokestatic 201, 3) := by decide +kernel
theorem dX6_ahead_70 : decode cX6_ahead 70 = .ok (.iload_n 3, 1) := by decide +kernel
theorem dX6_ahead_71 : decode cX6_ahead 71 = .ok (.ireturn, 1) := by decide +kernel
theorem dX6_hats_0 : decode cX6_hats 0 = .ok (.iload_n 3, 1) := by decide +kernel
theorem dX6_hats_1 : decode cX6_hats 1 = .ok (.ifCond .ne 49, 3) := by decide +kernel
theorem dX6_hats_4 : decode cX6_hats 4 = .ok (.aload_n 0, 1) := by decide +kernel
theorem dX6_hats_5 : decode cX6_hats 5 = .ok (.getfield 205, 3) := by decide +kernel
theorem dX6_hats_8 : decode cX6_hats 8 = .ok (.ifCond .lt 30, 3) := by decide +kernel
theorem dX6_hats_11 : decode cX6_hats 11 = .ok (.iload 4, 2) := by decide +kernel
theorem dX6_hats_13 : decode cX6_hats 13 = .ok (.aload_n 0, 1) := by decide +kernel
theorem dX6_hats_14 : decode cX6_hats 14 = .ok (.getfield 208, 3) := by decide +kernel
theorem dX6_hats_17 : decode cX6_hats 17 = .ok (.if_icmp .lt 20, 3) := by decide +kernel
theorem dX6_hats_20 : decode cX6_hats 20 = .ok (.iload 4, 2) := by decide +kernel
theorem dX6_hats_22 : decode cX6_hats 22 = .ok (.aload_n 0, 1) := by decide +kernel
theorem dX6_hats_23 : decode cX6_hats 23 = .ok (.getfield 208, 3) := by decide +kernel
theorem dX6_hats_26 : decode cX6_hats 26 = .ok (.if_icmp .ne 12, 3) := by decide +kernel
theorem dX6_hats_29 : decode cX6_hats 29 = .ok (.iload_n 1, 1) := by decide +kernel
theorem dX6_hats_30 : decode cX6_hats 30 = .ok (.aload_n 0, 1) := by decide +kernel
theorem dX6_hats_31 : decode cX6_hats 31 = .ok (.getfield 205, 3) := by decide +kernel
theorem dX6_hats_34 : decode cX6_hats 34 = .ok (.if_icmp .lt 4, 3) := by decide +kernel
theorem dX6_hats_37 : decode cX6_hats 37 = .ok (.return_, 1) := by decide +kernel
theorem dX6_hats_38 : decode cX6_hats 38 = .ok (.aload_n 0, 1) := by decide +kernel
theorem dX6_hats_39 : decode cX6_hats 39 = .ok (.iload_n 1, 1) := by decide +kernel
theorem dX6_hats_40 : decode cX6_hats 40 = .ok (.putfield 205, 3) := by decide +kernel
theorem dX6_hats_43 : decode cX6_hats 43 = .ok (.aload_n 0, 1) := by decide +kernel
theorem dX6_hats_44 : decode cX6_hats 44 = .ok (.iload 4, 2) := by decide +kernel
theorem dX6_hats_46 : decode cX6_hats 46 = .ok (.putfield 208, 3) := by decide +kernel
theorem dX6_hats_49 : decode cX6_hats 49 = .ok (.return_, 1) := by decide +kernel
theorem dX6_hats_50 : decode cX6_hats 50 = .ok (.iload_n 2, 1) := by decide +kernel
theorem dX6_hats_51 : decode cX6_hats 51 = .ok (.istore 5, 2) := by decide +kernel
theorem dX6_hats_53 : decode cX6_hats 53 = .ok (.iload 5, 2) := by decide +kernel
theorem dX6_hats_55 : decode cX6_hats 55 = .ok (.aload_n 0, 1) := by decide +kernel
theorem dX6_hats_56 : decode cX6_hats 56 = .ok (.getfield 9, 3) := by decide +kernel
theorem dX6_hats_59 : decode cX6_hats 59 = .ok (.iconst 1, 1) := by decide +kernel
theorem dX6_hats_60 : decode cX6_hats 60 = .ok (.iaload, 1) := by decide +kernel
theorem dX6_hats_61 : decode cX6_hats 61 = .ok (.if_icmp .ge 47, 3) := by decide +kernel
theorem dX6_hats_64 : decode cX6_hats 64 = .ok (.aload_n 0, 1) := by decide +kernel
theorem dX6_hats_65 : decode cX6_hats 65 = .ok (.iload 5, 2) := by decide +kernel
theorem dX6_hats_67 : decode cX6_hats 67 = .ok (.iconst 5, 1) := by decide +kernel
theorem dX6_hats_68 : decode cX6_hats 68 = .ok (.invokevirtual 74, 3) := by decide +kernel
theorem dX6_hats_71 : decode cX6_hats 71 = .ok (.iconst 3, 1) := by decide +kernel
theorem dX6_hats_72 : decode cX6_hats 72 = .ok (.if_icmp .ne 30, 3) := by decide +kernel
theorem dX6_hats_75 : decode cX6_hats 75 = .ok (.aload_n 0, 1) := by decide +kernel
theorem dX6_hats_76 : decode cX6_hats 76 = .ok (.iload_n 1, 1) := by decide +kernel
theorem dX6_hats_77 : decode cX6_hats 77 = .ok (.iconst 1, 1) := by decide +kernel
theorem dX6_hats_78 : decode cX6_hats 78 = .ok (.iload 5, 2) := by decide +kernel
theorem dX6_hats_80 : decode cX6_hats 80 = .ok (.ishl, 1) := by decide +kernel
theorem dX6_hats_81 : decode cX6_hats 81 = .ok (.ior, 1) := by decide +kernel
theorem dX6_hats_82 : decode cX6_hats 82 = .ok (.iload 5, 2) := by decide +kernel
theorem dX6_hats_84 : decode cX6_hats 84 = .ok (.iconst 1, 1) := by decide +kernel
theorem dX6_hats_85 : decode cX6_hats 85 = .ok (.iadd, 1) := by decide +kernel
theorem dX6_hats_86 : decode cX6_hats 86 = .ok (.iload_n 3, 1) := by decide +kernel
theorem dX6_hats_87 : decode cX6_hats 87 = .ok (.iconst 1, 1) := by decide +kernel
theorem dX6_hats_88 : decode cX6_hats 88 = .ok (.isub, 1) := by decide +kernel
theorem dX6_hats_89 : decode cX6_hats 89 = .ok (.iload 4, 2) := by decide +kernel
theorem dX6_hats_91 : decode cX6_hats 91 = .ok (.aload_n 0, 1) := by decide +kernel
theorem dX6_hats_92 : decode cX6_hats 92 = .ok (.getfield 28, 3) := by decide +kernel
theorem dX6_hats_95 : decode cX6_hats 95 = .ok (.iload 5, 2) := by decide +kernel
theorem dX6_hats_97 : decode cX6_hats 97 = .ok (.iaload, 1) := by decide +kernel
theorem dX6_hats_98 : decode cX6_hats 98 = .ok (.iadd, 1) := by decide +kernel
theorem dX6_hats_99 : decode cX6_hats 99 = .ok (.invokevirtual 211, 3) := by decide +kernel
theorem dX6_hats_102 : decode cX6_hats 102 = .ok (.iinc 5 1, 3) := by decide +kernel
theorem dX6_hats_105 : decode cX6_hats 105 = .ok (.goto (-52), 3) := by decide +kernel
theorem dX6_hats_108 : decode cX6_hats 108 = .ok (.return_, 1) := by decide +kernel
theorem dX6_hat_0 : decode cX6_hat 0 = .ok (.iload_n 1, 1) := by decide +kernel
theorem dX6_hat_1 : decode cX6_hat 1 = .ok (.i2l, 1) := by decide +kernel
theorem dX6_hat_2 : decode cX6_hat 2 = .ok (.lconst 1, 1) := by decide +kernel
theorem dX6_hat_3 : decode cX6_hat 3 = .ok (.ldc2_w 109, 3) := by decide +kernel
theorem dX6_hat_6 : decode cX6_hat 6 = .ok (.invokestatic 49, 3) := by decide +kernel
theorem dX6_hat_9 : decode cX6_hat 9 = .ok (.ifCond .ne 10, 3) := by decide +kernel
theorem dX6_hat_12 : decode cX6_hat 12 = .ok (.aload_n 0, 1) := by decide +kernel
theorem dX6_hat_13 : decode cX6_hat 13 = .ok (.ldc 43, 2) := by decide +kernel
theorem dX6_hat_15 : decode cX6_hat 15 = .ok (.invokevirtual 45, 3) := by decide +kernel
theorem dX6_hat_18 : decode cX6_hat 18 = .ok (.ireturn, 1) := by decide +kernel
theorem dX6_hat_19 : decode cX6_hat 19 = .ok (.aload_n 0, 1) := by decide +kernel
theorem dX6_hat_20 : decode cX6_hat 20 = .ok (.invokevirtual 136, 3) := by decide +kernel
theorem dX6_hat_23 : decode cX6_hat 23 = .ok (.iconst 0, 1) := by decide +kernel
theorem dX6_hat_24 : decode cX6_hat 24 = .ok (.istore_n 2, 1) := by decide +kernel
theorem dX6_hat_25 : decode cX6_hat 25 = .ok (.iload_n 2, 1) := by decide +kernel
theorem dX6_hat_26 : decode cX6_hat 26 = .ok (.aload_n 0, 1) := by decide +kernel
theorem dX6_hat_27 : decode cX6_hat 27 = .ok (.getfield 9, 3) := by decide +kernel
theorem dX6_hat_30 : decode cX6_hat 30 = .ok (.iconst 1, 1) := by decide +kernel
theorem dX6_hat_31 : decode cX6_hat 31 = .ok (.iaload, 1) := by decide +kernel
theorem dX6_hat_32 : decode cX6_hat 32 = .ok (.if_icmp .ge 42, 3) := by decide +kernel
theorem dX6_hat_35 : decode cX6_hat 35 = .ok (.aload_n 0, 1) := by decide +kernel
theorem dX6_hat_36 : decode cX6_hat 36 = .ok (.getfield 28, 3) := by decide +kernel
theorem dX6_hat_39 : decode cX6_hat 39 = .ok (.iload_n 2, 1) := by decide +kernel
theorem dX6_hat_40 : decode cX6_hat 40 = .ok (.aload_n 0, 1) := by decide +kernel
theorem dX6_hat_41 : decode cX6_hat 41 = .ok (.iload_n 2, 1) := by decide +kernel
theorem dX6_hat_42 : decode cX6_hat 42 = .ok (.iconst 5, 1) := by decide +kernel
theorem dX6_hat_43 : decode cX6_hat 43 = .ok (.invokevirtual 74, 3) := by decide +kernel
theorem dX6_hat_46 : decode cX6_hat 46 = .ok (.iconst 3, 1) := by decide +kernel
theorem dX6_hat_47 : decode cX6_hat 47 = .ok (.if_icmp .ne 19, 3) := by decide +kernel
theorem dX6_hat_50 : decode cX6_hat 50 = .ok (.aload_n 0, 1) := by decide +kernel
theorem dX6_hat_51 : decode cX6_hat 51 = .ok (.iload_n 2, 1) := by decide +kernel
theorem dX6_hat_52 : decode cX6_hat 52 = .ok (.iconst 0, 1) := by decide +kernel
theorem dX6_hat_53 : decode cX6_hat 53 = .ok (.invokevirtual 188, 3) := by decide +kernel
theorem dX6_hat_56 : decode cX6_hat 56 = .ok (.aload_n 0, 1) := by decide +kernel
theorem dX6_hat_57 : decode cX6_hat 57 = .ok (.iload_n 2, 1) := by decide +kernel
theorem dX6_hat_58 : decode cX6_hat 58 = .ok (.iconst 1, 1) := by decide +kernel
theorem dX6_hat_59 : decode cX6_hat 59 = .ok (.invokevirtual 188, 3) := by decide +kernel
theorem dX6_hat_62 : decode cX6_hat 62 = .ok (.iadd, 1) := by decide +kernel
theorem dX6_hat_63 : decode cX6_hat 63 = .ok (.goto 4, 3) := by decide +kernel
theorem dX6_hat_66 : decode cX6_hat 66 = .ok (.iconst 0, 1) := by decide +kernel
theorem dX6_hat_67 : decode cX6_hat 67 = .ok (.iastore, 1) := by decide +kernel
theorem dX6_hat_68 : decode cX6_hat 68 = .ok (.iinc 2 1, 3) := by decide +kernel
theorem dX6_hat_71 : decode cX6_hat 71 = .ok (.goto (-46), 3) := by decide +kernel
theorem dX6_hat_74 : decode cX6_hat 74 = .ok (.aload_n 0, 1) := by decide +kernel
theorem dX6_hat_75 : decode cX6_hat 75 = .ok (.iconst (-1), 1) := by decide +kernel
theorem dX6_hat_76 : decode cX6_hat 76 = .ok (.putfield 205, 3) := by decide +kernel
theorem dX6_hat_79 : decode cX6_hat 79 = .ok (.aload_n 0, 1) := by decide +kernel
theorem dX6_hat_80 : decode cX6_hat 80 = .ok (.iconst 0, 1) := by decide +kernel
theorem dX6_hat_81 : decode cX6_hat 81 = .ok (.putfield 208, 3) := by decide +kernel
theorem dX6_hat_84 : decode cX6_hat 84 = .ok (.aload_n 0, 1) := by decide +kernel
theorem dX6_hat_85 : decode cX6_hat 85 = .ok (.iconst 0, 1) := by decide +kernel
theorem dX6_hat_86 : decode cX6_hat 86 = .ok (.iconst 0, 1) := by decide +kernel
theorem dX6_hat_87 : decode cX6_hat 87 = .ok (.iload_n 1, 1) := by decide +kernel
theorem dX6_hat_88 : decode cX6_hat 88 = .ok (.iconst 0, 1) := by decide +kernel
theorem dX6_hat_89 : decode cX6_hat 89 = .ok (.invokevirtual 211, 3) := by decide +kernel
theorem dX6_hat_92 : decode cX6_hat 92 = .ok (.aload_n 0, 1) := by decide +kernel
theorem dX6_hat_93 : decode cX6_hat 93 = .ok (.aload_n 0, 1) := by decide +kernel
theorem dX6_hat_94 : decode cX6_hat 94 = .ok (.getfield 205, 3) := by decide +kernel
theorem dX6_hat_97 : decode cX6_hat 97 = .ok (.invokevirtual 159, 3) := by decide +kernel
theorem dX6_hat_100 : decode cX6_hat 100 = .ok (.ireturn, 1) := by decide +kernel
theorem dX6_unfair_0 : decode cX6_unfair 0 = .ok (.aload_n 0, 1) := by decide +kernel
theorem dX6_unfair_1 : decode cX6_unfair 1 = .ok (.invokevirtual 136, 3) := by decide +kernel
theorem dX6_unfair_4 : decode cX6_unfair 4 = .ok (.iconst (-1), 1) := by decide +kernel
theorem dX6_unfair_5 : decode cX6_unfair 5 = .ok (.istore_n 1, 1) := by decide +kernel
theorem dX6_unfair_6 : decode cX6_unfair 6 = .ok (.iconst (-1), 1) := by decide +kernel
theorem dX6_unfair_7 : decode cX6_unfair 7 = .ok (.istore_n 2, 1) := by decide +kernel
theorem dX6_unfair_8 : decode cX6_unfair 8 = .ok (.iconst 0, 1) := by decide +kernel
theorem dX6_unfair_9 : decode cX6_unfair 9 = .ok (.istore_n 3, 1) := by decide +kernel
theorem dX6_unfair_10 : decode cX6_unfair 10 = .ok (.iload_n 3, 1) := by decide +kernel
theorem dX6_unfair_11 : decode cX6_unfair 11 = .ok (.aload_n 0, 1) := by decide +kernel
theorem dX6_unfair_12 : decode cX6_unfair 12 = .ok (.getfield 9, 3) := by decide +kernel
theorem dX6_unfair_15 : decode cX6_unfair 15 = .ok (.iconst 1, 1) := by decide +kernel
theorem dX6_unfair_16 : decode cX6_unfair 16 = .ok (.iaload, 1) := by decide +kernel
theorem dX6_unfair_17 : decode cX6_unfair 17 = .ok (.if_icmp .ge 77, 3) := by decide +kernel
theorem dX6_unfair_20 : decode cX6_unfair 20 = .ok (.aload_n 0, 1) := by decide +kernel
theorem dX6_unfair_21 : decode cX6_unfair 21 = .ok (.iload_n 3, 1) := by decide +kernel
theorem dX6_unfair_22 : decode cX6_unfair 22 = .ok (.iconst 5, 1) := by decide +kernel
theorem dX6_unfair_23 : decode cX6_unfair 23 = .ok (.invokevirtual 74, 3) := by decide +kernel
theorem dX6_unfair_26 : decode cX6_unfair 26 = .ok (.iconst 3, 1) := by decide +kernel
theorem dX6_unfair_27 : decode cX6_unfair 27 = .ok (.if_icmp .eq 6, 3) := by decide +kernel
theorem dX6_unfair_30 : decode cX6_unfair 30 = .ok (.goto 58, 3) := by decide +kernel
theorem dX6_unfair_33 : decode cX6_unfair 33 = .ok (.aload_n 0, 1) := by decide +kernel
theorem dX6_unfair_34 : decode cX6_unfair 34 = .ok (.iload_n 3, 1) := by decide +kernel
theorem dX6_unfair_35 : decode cX6_unfair 35 = .ok (.iconst 0, 1) := by decide +kernel
theorem dX6_unfair_36 : decode cX6_unfair 36 = .ok (.invokevirtual 188, 3) := by decide +kernel
theorem dX6_unfair_39 : decode cX6_unfair 39 = .ok (.aload_n 0, 1) := by decide +kernel
theorem dX6_unfair_40 : decode cX6_unfair 40 = .ok (.iload_n 3, 1) := by decide +kernel
theorem dX6_unfair_41 : decode cX6_unfair 41 = .ok (.iconst 1, 1) := by decide +kernel
theorem dX6_unfair_42 : decode cX6_unfair 42 = .ok (.invokevirtual 188, 3) := by decide +kernel
theorem dX6_unfair_45 : decode cX6_unfair 45 = .ok (.isub, 1) := by decide +kernel
theorem dX6_unfair_46 : decode cX6_unfair 46 = .ok (.istore 4, 2) := by decide +kernel
theorem dX6_unfair_48 : decode cX6_unfair 48 = .ok (.iload 4, 2) := by decide +kernel
theorem dX6_unfair_50 : decode cX6_unfair 50 = .ok (.ifCond .ge 9, 3) := by decide +kernel
theorem dX6_unfair_53 : decode cX6_unfair 53 = .ok (.iload 4, 2) := by decide +kernel
theorem dX6_unfair_55 : decode cX6_unfair 55 = .ok (.ineg, 1) := by decide +kernel
theorem dX6_unfair_56 : decode cX6_unfair 56 = .ok (.goto 5, 3) := by decide +kernel
theorem dX6_unfair_59 : decode cX6_unfair 59 = .ok (.iload 4, 2) := by decide +kernel
theorem dX6_unfair_61 : decode cX6_unfair 61 = .ok (.istore 4, 2) := by decide +kernel
theorem dX6_unfair_63 : decode cX6_unfair 63 = .ok (.iload 4, 2) := by decide +kernel
theorem dX6_unfair_65 : decode cX6_unfair 65 = .ok (.iload_n 2, 1) := by decide +kernel
theorem dX6_unfair_66 : decode cX6_unfair 66 = .ok (.if_icmp .le 7, 3) := by decide +kernel
theorem dX6_unfair_69 : decode cX6_unfair 69 = .ok (.iload_n 3, 1) := by decide +kernel
theorem dX6_unfair_70 : decode cX6_unfair 70 = .ok (.goto 4, 3) := by decide +kernel
theorem dX6_unfair_73 : decode cX6_unfair 73 = .ok (.iload_n 1, 1) := by decide +kernel
theorem dX6_unfair_74 : decode cX6_unfair 74 = .ok (.istore_n 1, 1) := by decide +kernel
theorem dX6_unfair_75 : decode cX6_unfair 75 = .ok (.iload 4, 2) := by decide +kernel
theorem dX6_unfair_77 : decode cX6_unfair 77 = .ok (.iload_n 2, 1) := by decide +kernel
theorem dX6_unfair_78 : decode cX6_unfair 78 = .ok (.if_icmp .le 8, 3) := by decide +kernel
theorem dX6_unfair_81 : decode cX6_unfair 81 = .ok (.iload 4, 2) := by decide +kernel
theorem dX6_unfair_83 : decode cX6_unfair 83 = .ok (.goto 4, 3) := by decide +kernel
theorem dX6_unfair_86 : decode cX6_unfair 86 = .ok (.iload_n 2, 1) := by decide +kernel
theorem dX6_unfair_87 : decode cX6_unfair 87 = .ok (.istore_n 2, 1) := by decide +kernel
theorem dX6_unfair_88 : decode cX6_unfair 88 = .ok (.iinc 3 1, 3) := by decide +kernel
theorem dX6_unfair_91 : decode cX6_unfair 91 = .ok (.goto (-81), 3) := by decide +kernel
theorem dX6_unfair_94 : decode cX6_unfair 94 = .ok (.aload_n 0, 1) := by decide +kernel
theorem dX6_unfair_95 : decode cX6_unfair 95 = .ok (.iload_n 1, 1) := by decide +kernel
theorem dX6_unfair_96 : decode cX6_unfair 96 = .ok (.invokevirtual 159, 3) := by decide +kernel
theorem dX6_unfair_99 : decode cX6_unfair 99 = .ok (.ireturn, 1) := by decide +kernel
theorem dX6_seed_0 : decode cX6_seed 0 = .ok (.aload_n 0, 1) := by decide +kernel
theorem dX6_seed_1 : decode cX6_seed 1 = .ok (.iconst 4, 1) := by decide +kernel
theorem dX6_seed_2 : decode cX6_seed 2 = .ok (.iload_n 1, 1) := by decide +kernel
theorem dX6_seed_3 : decode cX6_seed 3 = .ok (.invokevirtual 88, 3) := by decide +kernel
theorem dX6_seed_6 : decode cX6_seed 6 = .ok (.ireturn, 1) := by decide +kernel
theorem dX6_feed_0 : decode cX6_feed 0 = .ok (.iload_n 2, 1) := by decide +kernel
theorem dX6_feed_1 : decode cX6_feed 1 = .ok (.i2l, 1) := by decide +kernel
theorem dX6_feed_2 : decode cX6_feed 2 = .ok (.lconst 1, 1) := by decide +kernel
theorem dX6_feed_3 : decode cX6_feed 3 = .ok (.ldc2_w 109, 3) := by decide +kernel
theorem dX6_feed_6 : decode cX6_feed 6 = .ok (.invokestatic 49, 3) := by decide +kernel
theorem dX6_feed_9 : decode cX6_feed 9 = .ok (.ifCond .ne 10, 3) := by decide +kernel
theorem dX6_feed_12 : decode cX6_feed 12 = .ok (.aload_n 0, 1) := by decide +kernel
theorem dX6_feed_13 : decode cX6_feed 13 = .ok (.ldc 43, 2) := by decide +kernel
theorem dX6_feed_15 : decode cX6_feed 15 = .ok (.invokevirtual 45, 3) := by decide +kernel
theorem dX6_feed_18 : decode cX6_feed 18 = .ok (.ireturn, 1) := by decide +kernel
theorem dX6_feed_19 : decode cX6_feed 19 = .ok (.aload_n 0, 1) := by decide +kernel
theorem dX6_feed_20 : decode cX6_feed 20 = .ok (.getfield 215, 3) := by decide +kernel
theorem dX6_feed_23 : decode cX6_feed 23 = .ok (.iload_n 2, 1) := by decide +kernel
theorem dX6_feed_24 : decode cX6_feed 24 = .ok (.iadd, 1) := by decide +kernel
theorem dX6_feed_25 : decode cX6_feed 25 = .ok (.bipush 120, 2) := by decide +kernel
theorem dX6_feed_27 : decode cX6_feed 27 = .ok (.if_icmp .le 10, 3) := by decide +kernel
theorem dX6_feed_30 : decode cX6_feed 30 = .ok (.aload_n 0, 1) := by decide +kernel
theorem dX6_feed_31 : decode cX6_feed 31 = .ok (.ldc 69, 2) := by decide +kernel
theorem dX6_feed_33 : decode cX6_feed 33 = .ok (.invokevirtual 45, 3) := by decide +kernel
theorem dX6_feed_36 : decode cX6_feed 36 = .ok (.ireturn, 1) := by decide +kernel
theorem dX6_feed_37 : decode cX6_feed 37 = .ok (.iload_n 2, 1) := by decide +kernel
theorem dX6_feed_38 : decode cX6_feed 38 = .ok (.iconst 1, 1) := by decide +kernel
theorem dX6_feed_39 : decode cX6_feed 39 = .ok (.isub, 1) := by decide +kernel
theorem dX6_feed_40 : decode cX6_feed 40 = .ok (.istore_n 3, 1) := by decide +kernel
theorem dX6_feed_41 : decode cX6_feed 41 = .ok (.iload_n 3, 1) := by decide +kernel
theorem dX6_feed_42 : decode cX6_feed 42 = .ok (.ifCond .lt 38, 3) := by decide +kernel
theorem dX6_feed_45 : decode cX6_feed 45 = .ok (.aload_n 0, 1) := by decide +kernel
theorem dX6_feed_46 : decode cX6_feed 46 = .ok (.getfield 31, 3) := by decide +kernel
theorem dX6_feed_49 : decode cX6_feed 49 = .ok (.aload_n 0, 1) := by decide +kernel
theorem dX6_feed_50 : decode cX6_feed 50 = .ok (.getfield 215, 3) := by decide +kernel
theorem dX6_feed_53 : decode cX6_feed 53 = .ok (.iload_n 1, 1) := by decide +kernel
theorem dX6_feed_54 : decode cX6_feed 54 = .ok (.bipush 8, 2) := by decide +kernel
theorem dX6_feed_56 : decode cX6_feed 56 = .ok (.iload_n 3, 1) := by decide +kernel
theorem dX6_feed_57 : decode cX6_feed 57 = .ok (.imul, 1) := by decide +kernel
theorem dX6_feed_58 : decode cX6_feed 58 = .ok (.ishr, 1) := by decide +kernel
theorem dX6_feed_59 : decode cX6_feed 59 = .ok (.sipush 255, 3) := by decide +kernel
theorem dX6_feed_62 : decode cX6_feed 62 = .ok (.iand, 1) := by decide +kernel
theorem dX6_feed_63 : decode cX6_feed 63 = .ok (.iastore, 1) := by decide +kernel
theorem dX6_feed_64 : decode cX6_feed 64 = .ok (.aload_n 0, 1) := by decide +kernel
theorem dX6_feed_65 : decode cX6_feed 65 = .ok (.dup, 1) := by decide +kernel
theorem dX6_feed_66 : decode cX6_feed 66 = .ok (.getfield 215, 3) := by decide +kernel
theorem dX6_feed_69 : decode cX6_feed 69 = .ok (.iconst 1, 1) := by decide +kernel
theorem dX6_feed_70 : decode cX6_feed 70 = .ok (.iadd, 1) := by decide +kernel
theorem dX6_feed_71 : decode cX6_feed 71 = .ok (.putfield 215, 3) := by decide +kernel
theorem dX6_feed_74 : decode cX6_feed 74 = .ok (.iinc 3 (-1), 3) := by decide +kernel
theorem dX6_feed_77 : decode cX6_feed 77 = .ok (.goto (-36), 3) := by decide +kernel
theorem dX6_feed_80 : decode cX6_feed 80 = .ok (.aload_n 0, 1) := by decide +kernel
theorem dX6_feed_81 : decode cX6_feed 81 = .ok (.getfield 215, 3) := by decide +kernel
theorem dX6_feed_84 : decode cX6_feed 84 = .ok (.ireturn, 1) := by decide +kernel
theorem dX6_wipe_0 : decode cX6_wipe 0 = .ok (.aload_n 0, 1) := by decide +kernel
theorem dX6_wipe_1 : decode cX6_wipe 1 = .ok (.getfield 215, 3) := by decide +kernel
theorem dX6_wipe_4 : decode cX6_wipe 4 = .ok (.istore_n 1, 1) := by decide +kernel
theorem dX6_wipe_5 : decode cX6_wipe 5 = .ok (.aload_n 0, 1) := by decide +kernel
theorem dX6_wipe_6 : decode cX6_wipe 6 = .ok (.iconst 0, 1) := by decide +kernel
theorem dX6_wipe_7 : decode cX6_wipe 7 = .ok (.putfield 215, 3) := by decide +kernel
theorem dX6_wipe_10 : decode cX6_wipe 10 = .ok (.iload_n 1, 1) := by decide +kernel
theorem dX6_wipe_11 : decode cX6_wipe 11 = .ok (.ireturn, 1) := by decide +kernel
theorem dX6_isByte_0 : decode cX6_isByte 0 = .ok (.iload_n 1, 1) := by decide +kernel
theorem dX6_isByte_1 : decode cX6_isByte 1 = .ok (.aload_n 0, 1) := by decide +kernel
theorem dX6_isByte_2 : decode cX6_isByte 2 = .ok (.getfield 215, 3) := by decide +kernel
theorem dX6_isByte_5 : decode cX6_isByte 5 = .ok (.if_icmp .ge 24, 3) := by decide +kernel
theorem dX6_isByte_8 : decode cX6_isByte 8 = .ok (.aload_n 0, 1) := by decide +kernel
theorem dX6_isByte_9 : decode cX6_isByte 9 = .ok (.getfield 31, 3) := by decide +kernel
theorem dX6_isByte_12 : decode cX6_isByte 12 = .ok (.iload_n 1, 1) := by decide +kernel
theorem dX6_isByte_13 : decode cX6_isByte 13 = .ok (.iaload, 1) := by decide +kernel
theorem dX6_isByte_14 : decode cX6_isByte 14 = .ok (.i2l, 1) := by decide +kernel
theorem dX6_isByte_15 : decode cX6_isByte 15 = .ok (.iload_n 2, 1) := by decide +kernel
theorem dX6_isByte_16 : decode cX6_isByte 16 = .ok (.i2l, 1) := by decide +kernel
theorem dX6_isByte_17 : decode cX6_isByte 17 = .ok (.iload_n 3, 1) := by decide +kernel
theorem dX6_isByte_18 : decode cX6_isByte 18 = .ok (.i2l, 1) := by decide +kernel
theorem dX6_isByte_19 : decode cX6_isByte 19 = .ok (.invokestatic 49, 3) := by decide +kernel
theorem dX6_isByte_22 : decode cX6_isByte 22 = .ok (.ifCond .eq 7, 3) := by decide +kernel
theorem dX6_isByte_25 : decode cX6_isByte 25 = .ok (.iconst 1, 1) := by decide +kernel
theorem dX6_isByte_26 : decode cX6_isByte 26 = .ok (.goto 4, 3) := by decide +kernel
theorem dX6_isByte_29 : decode cX6_isByte 29 = .ok (.iconst 0, 1) := by decide +kernel
theorem dX6_isByte_30 : decode cX6_isByte 30 = .ok (.ireturn, 1) := by decide +kernel
theorem dX6_token_0 : decode cX6_token 0 = .ok (.aload_n 0, 1) := by decide +kernel
theorem dX6_token_1 : decode cX6_token 1 = .ok (.aload_n 0, 1) := by decide +kernel
theorem dX6_token_2 : decode cX6_token 2 = .ok (.getfield 218, 3) := by decide +kernel
theorem dX6_token_5 : decode cX6_token 5 = .ok (.putfield 221, 3) := by decide +kernel
theorem dX6_token_8 : decode cX6_token 8 = .ok (.aload_n 0, 1) := by decide +kernel
theorem dX6_token_9 : decode cX6_token 9 = .ok (.aload_n 0, 1) := by decide +kernel
theorem dX6_token_10 : decode cX6_token 10 = .ok (.getfield 221, 3) := by decide +kernel
theorem dX6_token_13 : decode cX6_token 13 = .ok (.bipush 32, 2) := by decide +kernel
theorem dX6_token_15 : decode cX6_token 15 = .ok (.bipush 32, 2) := by decide +kernel
theorem dX6_token_17 : decode cX6_token 17 = .ok (.invokevirtual 224, 3) := by decide +kernel
theorem dX6_token_20 : decode cX6_token 20 = .ok (.ifCond .eq 16, 3) := by decide +kernel
theorem dX6_token_23 : decode cX6_token 23 = .ok (.aload_n 0, 1) := by decide +kernel
theorem dX6_token_24 : decode cX6_token 24 = .ok (.dup, 1) := by decide +kernel
theorem dX6_token_25 : decode cX6_token 25 = .ok (.getfield 221, 3) := by decide +kernel
theorem dX6_token_28 : decode cX6_token 28 = .ok (.iconst 1, 1) := by decide +kernel
theorem dX6_token_29 : decode cX6_token 29 = .ok (.iadd, 1) := by decide +kernel
theorem dX6_token_30 : decode cX6_token 30 = .ok (.putfield 221, 3) := by decide +kernel
theorem dX6_token_33 : decode cX6_token 33 = .ok (.goto (-25), 3) := by decide +kernel
theorem dX6_token_36 : decode cX6_token 36 = .ok (.aload_n 0, 1) := by decide +kernel
theorem dX6_token_37 : decode cX6_token 37 = .ok (.aload_n 0, 1) := by decide +kernel
theorem dX6_token_38 : decode cX6_token 38 = .ok (.getfield 221, 3) := by decide +kernel
theorem dX6_token_41 : decode cX6_token 41 = .ok (.putfield 218, 3) := by decide +kernel
theorem dX6_token_44 : decode cX6_token 44 = .ok (.aload_n 0, 1) := by decide +kernel
theorem dX6_token_45 : decode cX6_token 45 = .ok (.iconst 0, 1) := by decide +kernel
theorem dX6_token_46 : decode cX6_token 46 = .ok (.putfield 227, 3) := by decide +kernel
theorem dX6_token_49 : decode cX6_token 49 = .ok (.aload_n 0, 1) := by decide +kernel
theorem dX6_token_50 : decode cX6_token 50 = .ok (.aload_n 0, 1) := by decide +kernel
theorem dX6_token_51 : decode cX6_token 51 = .ok (.getfield 221, 3) := by decide +kernel
theorem dX6_token_54 : decode cX6_token 54 = .ok (.aload_n 0, 1) := by decide +kernel
theorem dX6_token_55 : decode cX6_token 55 = .ok (.getfield 215, 3) := by decide +kernel
theorem dX6_token_58 : decode cX6_token 58 = .ok (.if_icmp .ne 7, 3) := by decide +kernel
theorem dX6_token_61 : decode cX6_token 61 = .ok (.iconst 0, 1) := by decide +kernel
theorem dX6_token_62 : decode cX6_token 62 = .ok (.goto 42, 3) := by decide +kernel
theorem dX6_token_65 : decode cX6_token 65 = .ok (.aload_n 0, 1) := by decide +kernel
theorem dX6_token_66 : decode cX6_token 66 = .ok (.aload_n 0, 1) := by decide +kernel
theorem dX6_token_67 : decode cX6_token 67 = .ok (.getfield 221, 3) := by decide +kernel
theorem dX6_token_70 : decode cX6_token 70 = .ok (.bipush 97, 2) := by decide +kernel
theorem dX6_token_72 : decode cX6_token 72 = .ok (.bipush 122, 2) := by decide +kernel
theorem dX6_token_74 : decode cX6_token 74 = .ok (.invokevirtual 224, 3) := by decide +kernel
theorem dX6_token_77 : decode cX6_token 77 = .ok (.ifCond .eq 7, 3) := by decide +kernel
theorem dX6_token_80 : decode cX6_token 80 = .ok (.iconst 1, 1) := by decide +kernel
theorem dX6_token_81 : decode cX6_token 81 = .ok (.goto 23, 3) := by decide +kernel
theorem dX6_token_84 : decode cX6_token 84 = .ok (.aload_n 0, 1) := by decide +kernel
theorem dX6_token_85 : decode cX6_token 85 = .ok (.aload_n 0, 1) := by decide +kernel
theorem dX6_token_86 : decode cX6_token 86 = .ok (.getfield 221, 3) := by decide +kernel
theorem dX6_token_89 : decode cX6_token 89 = .ok (.bipush 48, 2) := by decide +kernel
theorem dX6_token_91 : decode cX6_token 91 = .ok (.bipush 57, 2) := by decide +kernel
theorem dX6_token_93 : decode cX6_token 93 = .ok (.invokevirtual 224, 3) := by decide +kernel
theorem dX6_token_96 : decode cX6_token 96 = .ok (.ifCond .eq 7, 3) := by decide +kernel
theorem dX6_token_99 : decode cX6_token 99 = .ok (.iconst 2, 1) := by decide +kernel
theorem dX6_token_100 : decode cX6_token 100 = .ok (.goto 4, 3) := by decide +kernel
theorem dX6_token_103 : decode cX6_token 103 = .ok (.iconst 3, 1) := by decide +kernel
theorem dX6_token_104 : decode cX6_token 104 = .ok (.putfield 230, 3) := by decide +kernel
theorem dX6_token_107 : decode cX6_token 107 = .ok (.aload_n 0, 1) := by decide +kernel
theorem dX6_token_108 : decode cX6_token 108 = .ok (.getfield 230, 3) := by decide +kernel
theorem dX6_token_111 : decode cX6_token 111 = .ok (.iconst 3, 1) := by decide +kernel
theorem dX6_token_112 : decode cX6_token 112 = .ok (.if_icmp .ne 13, 3) := by decide +kernel
theorem dX6_token_115 : decode cX6_token 115 = .ok (.aload_n 0, 1) := by decide +kernel
theorem dX6_token_116 : decode cX6_token 116 = .ok (.dup, 1) := by decide +kernel
theorem dX6_token_117 : decode cX6_token 117 = .ok (.getfield 218, 3) := by decide +kernel
theorem dX6_token_120 : decode cX6_token 120 = .ok (.iconst 1, 1) := by decide +kernel
theorem dX6_token_121 : decode cX6_token 121 = .ok (.iadd, 1) := by decide +kernel
theorem dX6_token_122 : decode cX6_token 122 = .ok (.putfield 218, 3) := by decide +kernel
theorem dX6_token_125 : decode cX6_token 125 = .ok (.aload_n 0, 1) := by decide +kernel
theorem dX6_token_126 : decode cX6_token 126 = .ok (.getfield 230, 3) := by decide +kernel
theorem dX6_token_129 : decode cX6_token 129 = .ok (.iconst 1, 1) := by decide +kernel
theorem dX6_token_130 : decode cX6_token 130 = .ok (.if_icmp .ne 31, 3) := by decide +kernel
theorem dX6_token_133 : decode cX6_token 133 = .ok (.aload_n 0, 1) := by decide +kernel
theorem dX6_token_134 : decode cX6_token 134 = .ok (.aload_n 0, 1) := by decide +kernel
theorem dX6_token_135 : decode cX6_token 135 = .ok (.getfield 218, 3) := by decide +kernel
theorem dX6_token_138 : decode cX6_token 138 = .ok (.bipush 97, 2) := by decide +kernel
theorem dX6_token_140 : decode cX6_token 140 = .ok (.bipush 122, 2) := by decide +kernel
theorem dX6_token_142 : decode cX6_token 142 = .ok (.invokevirtual 224, 3) := by decide +kernel
theorem dX6_token_145 : decode cX6_token 145 = .ok (.ifCond .eq 16, 3) := by decide +kernel
theorem dX6_token_148 : decode cX6_token 148 = .ok (.aload_n 0, 1) := by decide +kernel
theorem dX6_token_149 : decode cX6_token 149 = .ok (.dup, 1) := by decide +kernel
theorem dX6_token_150 : decode cX6_token 150 = .ok (.getfield 218, 3) := by decide +kernel
theorem dX6_token_153 : decode cX6_token 153 = .ok (.iconst 1, 1) := by decide +kernel
theorem dX6_token_154 : decode cX6_token 154 = .ok (.iadd, 1) := by decide +kernel
theorem dX6_token_155 : decode cX6_token 155 = .ok (.putfield 218, 3) := by decide +kernel
theorem dX6_token_158 : decode cX6_token 158 = .ok (.goto (-33), 3) := by decide +kernel
theorem dX6_token_161 : decode cX6_token 161 = .ok (.aload_n 0, 1) := by decide +kernel
theorem dX6_token_162 : decode cX6_token 162 = .ok (.getfield 230, 3) := by decide +kernel
theorem dX6_token_165 : decode cX6_token 165 = .ok (.iconst 2, 1) := by decide +kernel
theorem dX6_token_166 : decode cX6_token 166 = .ok (.if_icmp .ne 72, 3) := by decide +kernel
theorem dX6_token_169 : decode cX6_token 169 = .ok (.aload_n 0, 1) := by decide +kernel
theorem dX6_token_170 : decode cX6_token 170 = .ok (.aload_n 0, 1) := by decide +kernel
theorem dX6_token_171 : decode cX6_token 171 = .ok (.getfield 218, 3) := by decide +kernel
theorem dX6_token_174 : decode cX6_token 174 = .ok (.bipush 48, 2) := by decide +kernel
theorem dX6_token_176 : decode cX6_token 176 = .ok (.bipush 57, 2) := by decide +kernel
theorem dX6_token_178 : decode cX6_token 178 = .ok (.invokevirtual 224, 3) := by decide +kernel
theorem dX6_token_181 : decode cX6_token 181 = .ok (.ifCond .eq 57, 3) := by decide +kernel
theorem dX6_token_184 : decode cX6_token 184 = .ok (.aload_n 0, 1) := by decide +kernel
theorem dX6_token_185 : decode cX6_token 185 = .ok (.aload_n 0, 1) := by decide +kernel
theorem dX6_token_186 : decode cX6_token 186 = .ok (.getfield 227, 3) := by decide +kernel
theorem dX6_token_189 : decode cX6_token 189 = .ok (.sipush 999, 3) := by decide +kernel
theorem dX6_token_192 : decode cX6_token 192 = .ok (.if_icmp .le 10, 3) := by decide +kernel
theorem dX6_token_195 : decode cX6_token 195 = .ok (.aload_n 0, 1) := by decide +kernel
theorem dX6_token_196 : decode cX6_token 196 = .ok (.getfield 227, 3) := by decide +kernel
theorem dX6_token_199 : decode cX6_token 199 = .ok (.goto 23, 3) := by decide +kernel
theorem dX6_token_202 : decode cX6_token 202 = .ok (.bipush 10, 2) := by decide +kernel
theorem dX6_token_204 : decode cX6_token 204 = .ok (.aload_n 0, 1) := by decide +kernel
theorem dX6_token_205 : decode cX6_token 205 = .ok (.getfield 227, 3) := by decide +kernel
theorem dX6_token_208 : decode cX6_token 208 = .ok (.imul, 1) := by decide +kernel
theorem dX6_token_209 : decode cX6_token 209 = .ok (.aload_n 0, 1) := by decide +kernel
theorem dX6_token_210 : decode cX6_token 210 = .ok (.getfield 31, 3) := by decide +kernel
theorem dX6_token_213 : decode cX6_token 213 = .ok (.aload_n 0, 1) := by decide +kernel
theorem dX6_token_214 : decode cX6_token 214 = .ok (.getfield 218, 3) := by decide +kernel
theorem dX6_token_217 : decode cX6_token 217 = .ok (.iaload, 1) := by decide +kernel
theorem dX6_token_218 : decode cX6_token 218 = .ok (.iadd, 1) := by decide +kernel
theorem dX6_token_219 : decode cX6_token 219 = .ok (.bipush 48, 2) := by decide +kernel
theorem dX6_token_221 : decode cX6_token 221 = .ok (.isub, 1) := by decide +kernel
theorem dX6_token_222 : decode cX6_token 222 = .ok (.putfield 227, 3) := by decide +kernel
theorem dX6_token_225 : decode cX6_token 225 = .ok (.aload_n 0, 1) := by decide +kernel
theorem dX6_token_226 : decode cX6_token 226 = .ok (.dup, 1) := by decide +kernel
theorem dX6_token_227 : decode cX6_token 227 = .ok (.getfield 218, 3) := by decide +kernel
theorem dX6_token_230 : decode cX6_token 230 = .ok (.iconst 1, 1) := by decide +kernel
theorem dX6_token_231 : decode cX6_token 231 = .ok (.iadd, 1) := by decide +kernel
theorem dX6_token_232 : decode cX6_token 232 = .ok (.putfield 218, 3) := by decide +kernel
theorem dX6_token_235 : decode cX6_token 235 = .ok (.goto (-74), 3) := by decide +kernel
theorem dX6_token_238 : decode cX6_token 238 = .ok (.return_, 1) := by decide +kernel
theorem dX6_isHere_0 : decode cX6_isHere 0 = .ok (.aload_n 0, 1) := by decide +kernel
theorem dX6_isHere_1 : decode cX6_isHere 1 = .ok (.getfield 233, 3) := by decide +kernel
theorem dX6_isHere_4 : decode cX6_isHere 4 = .ok (.ifCond .ne 31, 3) := by decide +kernel
theorem dX6_isHere_7 : decode cX6_isHere 7 = .ok (.aload_n 0, 1) := by decide +kernel
theorem dX6_isHere_8 : decode cX6_isHere 8 = .ok (.getfield 230, 3) := by decide +kernel
theorem dX6_isHere_11 : decode cX6_isHere 11 = .ok (.iconst 1, 1) := by decide +kernel
theorem dX6_isHere_12 : decode cX6_isHere 12 = .ok (.if_icmp .ne 23, 3) := by decide +kernel
theorem dX6_isHere_15 : decode cX6_isHere 15 = .ok (.aload_n 0, 1) := by decide +kernel
theorem dX6_isHere_16 : decode cX6_isHere 16 = .ok (.getfield 218, 3) := by decide +kernel
theorem dX6_isHere_19 : decode cX6_isHere 19 = .ok (.aload_n 0, 1) := by decide +kernel
theorem dX6_isHere_20 : decode cX6_isHere 20 = .ok (.getfield 221, 3) := by decide +kernel
theorem dX6_isHere_23 : decode cX6_isHere 23 = .ok (.isub, 1) := by decide +kernel
theorem dX6_isHere_24 : decode cX6_isHere 24 = .ok (.aload_n 1, 1) := by decide +kernel
theorem dX6_isHere_25 : decode cX6_isHere 25 = .ok (.invokevirtual 236, 3) := by decide +kernel
theorem dX6_isHere_28 : decode cX6_isHere 28 = .ok (.if_icmp .ne 7, 3) := by decide +kernel
theorem dX6_isHere_31 : decode cX6_isHere 31 = .ok (.iconst 1, 1) := by decide +kernel
theorem dX6_isHere_32 : decode cX6_isHere 32 = .ok (.goto 4, 3) := by decide +kernel
theorem dX6_isHere_35 : decode cX6_isHere 35 = .ok (.iconst 0, 1) := by decide +kernel
theorem dX6_isHere_36 : decode cX6_isHere 36 = .ok (.istore_n 2, 1) := by decide +kernel
theorem dX6_isHere_37 : decode cX6_isHere 37 = .ok (.iconst 0, 1) := by decide +kernel
theorem dX6_isHere_38 : decode cX6_isHere 38 = .ok (.istore_n 3, 1) := by decide +kernel
theorem dX6_isHere_39 : decode cX6_isHere 39 = .ok (.iload_n 2, 1) := by decide +kernel
theorem dX6_isHere_40 : decode cX6_isHere 40 = .ok (.ifCond .eq 42, 3) := by decide +kernel
theorem dX6_isHere_43 : decode cX6_isHere 43 = .ok (.iload_n 3, 1) := by decide +kernel
theorem dX6_isHere_44 : decode cX6_isHere 44 = .ok (.aload_n 1, 1) := by decide +kernel
theorem dX6_isHere_45 : decode cX6_isHere 45 = .ok (.invokevirtual 236, 3) := by decide +kernel
theorem dX6_isHere_48 : decode cX6_isHere 48 = .ok (.if_icmp .ge 34, 3) := by decide +kernel
theorem dX6_isHere_51 : decode cX6_isHere 51 = .ok (.aload_n 0, 1) := by decide +kernel
theorem dX6_isHere_52 : decode cX6_isHere 52 = .ok (.getfield 31, 3) := by decide +kernel
theorem dX6_isHere_55 : decode cX6_isHere 55 = .ok (.aload_n 0, 1) := by decide +kernel
theorem dX6_isHere_56 : decode cX6_isHere 56 = .ok (.getfield 221, 3) := by decide +kernel
theorem dX6_isHere_59 : decode cX6_isHere 59 = .ok (.iload_n 3, 1) := by decide +kernel
theorem dX6_isHere_60 : decode cX6_isHere 60 = .ok (.iadd, 1) := by decide +kernel
theorem dX6_isHere_61 : decode cX6_isHere 61 = .ok (.iaload, 1) := by decide +kernel
theorem dX6_isHere_62 : decode cX6_isHere 62 = .ok (.aload_n 1, 1) := by decide +kernel
theorem dX6_isHere_63 : decode cX6_isHere 63 = .ok (.iload_n 3, 1) := by decide +kernel
theorem dX6_isHere_64 : decode cX6_isHere 64 = .ok (.invokevirtual 241, 3) := by decide +kernel
theorem dX6_isHere_67 : decode cX6_isHere 67 = .ok (.if_icmp .ne 7, 3) := by decide +kernel
theorem dX6_isHere_70 : decode cX6_isHere 70 = .ok (.iconst 1, 1) := by decide +kernel
theorem dX6_isHere_71 : decode cX6_isHere 71 = .ok (.goto 4, 3) := by decide +kernel
theorem dX6_isHere_74 : decode cX6_isHere 74 = .ok (.iconst 0, 1) := by decide +kernel
theorem dX6_isHere_75 : decode cX6_isHere 75 = .ok (.istore_n 2, 1) := by decide +kernel
theorem dX6_isHere_76 : decode cX6_isHere 76 = .ok (.iinc 3 1, 3) := by decide +kernel
theorem dX6_isHere_79 : decode cX6_isHere 79 = .ok (.goto (-40), 3) := by decide +kernel
theorem dX6_isHere_82 : decode cX6_isHere 82 = .ok (.iload_n 2, 1) := by decide +kernel
theorem dX6_isHere_83 : decode cX6_isHere 83 = .ok (.ireturn, 1) := by decide +kernel
theorem dX6_takesWord_0 : decode cX6_takesWord 0 = .ok (.aload_n 0, 1) := by decide +kernel
theorem dX6_takesWord_1 : decode cX6_takesWord 1 = .ok (.aload_n 1, 1) := by decide +kernel
theorem dX6_takesWord_2 : decode cX6_takesWord 2 = .ok (.invokevirtual 245, 3) := by decide +kernel
theorem dX6_takesWord_5 : decode cX6_takesWord 5 = .ok (.ifCond .ne 5, 3) := by decide +kernel
theorem dX6_takesWord_8 : decode cX6_takesWord 8 = .ok (.iconst 0, 1) := by decide +kernel
theorem dX6_takesWord_9 : decode cX6_takesWord 9 = .ok (.ireturn, 1) := by decide +kernel
theorem dX6_takesWord_10 : decode cX6_takesWord 10 = .ok (.aload_n 0, 1) := by decide +kernel
theorem dX6_takesWord_11 : decode cX6_takesWord 11 = .ok (.invokevirtual 249, 3) := by decide +kernel
theorem dX6_takesWord_14 : decode cX6_takesWord 14 = .ok (.iconst 1, 1) := by decide +kernel
theorem dX6_takesWord_15 : decode cX6_takesWord 15 = .ok (.ireturn, 1) := by decide +kernel
theorem dX6_isMark_0 : decode cX6_isMark 0 = .ok (.aload_n 0, 1) := by decide +kernel
theorem dX6_isMark_1 : decode cX6_isMark 1 = .ok (.getfield 233, 3) := by decide +kernel
theorem dX6_isMark_4 : decode cX6_isMark 4 = .ok (.ifCond .ne 28, 3) := by decide +kernel
theorem dX6_isMark_7 : decode cX6_isMark 7 = .ok (.aload_n 0, 1) := by decide +kernel
theorem dX6_isMark_8 : decode cX6_isMark 8 = .ok (.getfield 230, 3) := by decide +kernel
theorem dX6_isMark_11 : decode cX6_isMark 11 = .ok (.iconst 3, 1) := by decide +kernel
theorem dX6_isMark_12 : decode cX6_isMark 12 = .ok (.if_icmp .ne 20, 3) := by decide +kernel
theorem dX6_isMark_15 : decode cX6_isMark 15 = .ok (.aload_n 0, 1) := by decide +kernel
theorem dX6_isMark_16 : decode cX6_isMark 16 = .ok (.getfield 31, 3) := by decide +kernel
theorem dX6_isMark_19 : decode cX6_isMark 19 = .ok (.aload_n 0, 1) := by decide +kernel
theorem dX6_isMark_20 : decode cX6_isMark 20 = .ok (.getfield 221, 3) := by decide +kernel
theorem dX6_isMark_23 : decode cX6_isMark 23 = .ok (.iaload, 1) := by decide +kernel
theorem dX6_isMark_24 : decode cX6_isMark 24 = .ok (.iload_n 1, 1) := by decide +kernel
theorem dX6_isMark_25 : decode cX6_isMark 25 = .ok (.if_icmp .ne 7, 3) := by decide +kernel
theorem dX6_isMark_28 : decode cX6_isMark 28 = .ok (.iconst 1, 1) := by decide +kernel
theorem dX6_isMark_29 : decode cX6_isMark 29 = .ok (.goto 4, 3) := by decide +kernel
theorem dX6_isMark_32 : decode cX6_isMark 32 = .ok (.iconst 0, 1) := by decide +kernel
theorem dX6_isMark_33 : decode cX6_isMark 33 = .ok (.ireturn, 1) := by decide +kernel
theorem dX6_number_0 : decode cX6_number 0 = .ok (.aload_n 0, 1) := by decide +kernel
theorem dX6_number_1 : decode cX6_number 1 = .ok (.aload_n 0, 1) := by decide +kernel
theorem dX6_number_2 : decode cX6_number 2 = .ok (.getfield 233, 3) := by decide +kernel
theorem dX6_number_5 : decode cX6_number 5 = .ok (.ifCond .ne 26, 3) := by decide +kernel
theorem dX6_number_8 : decode cX6_number 8 = .ok (.aload_n 0, 1) := by decide +kernel
theorem dX6_number_9 : decode cX6_number 9 = .ok (.getfield 230, 3) := by decide +kernel
theorem dX6_number_12 : decode cX6_number 12 = .ok (.iconst 2, 1) := by decide +kernel
theorem dX6_number_13 : decode cX6_number 13 = .ok (.if_icmp .ne 18, 3) := by decide +kernel
theorem dX6_number_16 : decode cX6_number 16 = .ok (.aload_n 0, 1) := by decide +kernel
theorem dX6_number_17 : decode cX6_number 17 = .ok (.getfield 227, 3) := by decide +kernel
theorem dX6_number_20 : decode cX6_number 20 = .ok (.i2l, 1) := by decide +kernel
theorem dX6_number_21 : decode cX6_number 21 = .ok (.iload_n 1, 1) := by decide +kernel
theorem dX6_number_22 : decode cX6_number 22 = .ok (.i2l, 1) := by decide +kernel
theorem dX6_number_23 : decode cX6_number 23 = .ok (.iload_n 2, 1) := by decide +kernel
theorem dX6_number_24 : decode cX6_number 24 = .ok (.i2l, 1) := by decide +kernel
theorem dX6_number_25 : decode cX6_number 25 = .ok (.invokestatic 49, 3) := by decide +kernel
theorem dX6_number_28 : decode cX6_number 28 = .ok (.ifCond .ne 7, 3) := by decide +kernel
theorem dX6_number_31 : decode cX6_number 31 = .ok (.iconst 1, 1) := by decide +kernel
theorem dX6_number_32 : decode cX6_number 32 = .ok (.goto 4, 3) := by decide +kernel
theorem dX6_number_35 : decode cX6_number 35 = .ok (.iconst 0, 1) := by decide +kernel
theorem dX6_number_36 : decode cX6_number 36 = .ok (.putfield 233, 3) := by decide +kernel
theorem dX6_number_39 : decode cX6_number 39 = .ok (.aload_n 0, 1) := by decide +kernel
theorem dX6_number_40 : decode cX6_number 40 = .ok (.getfield 227, 3) := by decide +kernel
theorem dX6_number_43 : decode cX6_number 43 = .ok (.istore_n 3, 1) := by decide +kernel
theorem dX6_number_44 : decode cX6_number 44 = .ok (.aload_n 0, 1) := by decide +kernel
theorem dX6_number_45 : decode cX6_number 45 = .ok (.getfield 233, 3) := by decide +kernel
theorem dX6_number_48 : decode cX6_number 48 = .ok (.ifCond .ne 7, 3) := by decide +kernel
theorem dX6_number_51 : decode cX6_number 51 = .ok (.aload_n 0, 1) := by decide +kernel
theorem dX6_number_52 : decode cX6_number 52 = .ok (.invokevirtual 249, 3) := by decide +kernel
theorem dX6_number_55 : decode cX6_number 55 = .ok (.iload_n 3, 1) := by decide +kernel
theorem dX6_number_56 : decode cX6_number 56 = .ok (.ireturn, 1) := by decide +kernel
theorem dX6_wordItem_0 : decode cX6_wordItem 0 = .ok (.aload_n 0, 1) := by decide +kernel
theorem dX6_wordItem_1 : decode cX6_wordItem 1 = .ok (.aload_n 0, 1) := by decide +kernel
theorem dX6_wordItem_2 : decode cX6_wordItem 2 = .ok (.getfield 9, 3) := by decide +kernel
theorem dX6_wordItem_5 : decode cX6_wordItem 5 = .ok (.iconst 0, 1) := by decide +kernel
theorem dX6_wordItem_6 : decode cX6_wordItem 6 = .ok (.iaload, 1) := by decide +kernel
theorem dX6_wordItem_7 : decode cX6_wordItem 7 = .ok (.bipush 16, 2) := by decide +kernel
theorem dX6_wordItem_9 : decode cX6_wordItem 9 = .ok (.if_icmp .ne 7, 3) := by decide +kernel
theorem dX6_wordItem_12 : decode cX6_wordItem 12 = .ok (.iconst 1, 1) := by decide +kernel
theorem dX6_wordItem_13 : decode cX6_wordItem 13 = .ok (.goto 4, 3) := by decide +kernel
theorem dX6_wordItem_16 : decode cX6_wordItem 16 = .ok (.iconst 0, 1) := by decide +kernel
theorem dX6_wordItem_17 : decode cX6_wordItem 17 = .ok (.putfield 233, 3) := by decide +kernel
theorem dX6_wordItem_20 : decode cX6_wordItem 20 = .ok (.aload_n 0, 1) := by decide +kernel
theorem dX6_wordItem_21 : decode cX6_wordItem 21 = .ok (.getfield 233, 3) := by decide +kernel
theorem dX6_wordItem_24 : decode cX6_wordItem 24 = .ok (.ifCond .eq 4, 3) := by decide +kernel
theorem dX6_wordItem_27 : decode cX6_wordItem 27 = .ok (.return_, 1) := by decide +kernel
theorem dX6_wordItem_28 : decode cX6_wordItem 28 = .ok (.aload_n 0, 1) := by decide +kernel
theorem dX6_wordItem_29 : decode cX6_wordItem 29 = .ok (.invokevirtual 249, 3) := by decide +kernel
theorem dX6_wordItem_32 : decode cX6_wordItem 32 = .ok (.aload_n 0, 1) := by decide +kernel
theorem dX6_wordItem_33 : decode cX6_wordItem 33 = .ok (.iconst 1, 1) := by decide +kernel
theorem dX6_wordItem_34 : decode cX6_wordItem 34 = .ok (.bipush 6, 2) := by decide +kernel
theorem dX6_wordItem_36 : decode cX6_wordItem 36 = .ok (.invokevirtual 252, 3) := by decide +kernel
theorem dX6_wordItem_39 : decode cX6_wordItem 39 = .ok (.istore_n 1, 1) := by decide +kernel
theorem dX6_wordItem_40 : decode cX6_wordItem 40 = .ok (.aload_n 0, 1) := by decide +kernel
theorem dX6_wordItem_41 : decode cX6_wordItem 41 = .ok (.ldc 255, 2) := by decide +kernel
theorem dX6_wordItem_43 : decode cX6_wordItem 43 = .ok (.invokevirtual 257, 3) := by decide +kernel
theorem dX6_wordItem_46 : decode cX6_wordItem 46 = .ok (.ifCond .eq 13, 3) := by decide +kernel
theorem dX6_wordItem_49 : decode cX6_wordItem 49 = .ok (.aload_n 0, 1) := by decide +kernel
theorem dX6_wordItem_50 : decode cX6_wordItem 50 = .ok (.iconst 0, 1) := by decide +kernel
theorem dX6_wordItem_51 : decode cX6_wordItem 51 = .ok (.bipush 9, 2) := by decide +kernel
theorem dX6_wordItem_53 : decode cX6_wordItem 53 = .ok (.invokevirtual 252, 3) := by decide +kernel
theorem dX6_wordItem_56 : decode cX6_wordItem 56 = .ok (.goto 4, 3) := by decide +kernel
theorem dX6_wordItem_59 : decode cX6_wordItem 59 = .ok (.iconst 0, 1) := by decide +kernel
theorem dX6_wordItem_60 : decode cX6_wordItem 60 = .ok (.istore_n 2, 1) := by decide +kernel
theorem dX6_wordItem_61 : decode cX6_wordItem 61 = .ok (.aload_n 0, 1) := by decide +kernel
theorem dX6_wordItem_62 : decode cX6_wordItem 62 = .ok (.ldc_w 260, 3) := by decide +kernel
theorem dX6_wordItem_65 : decode cX6_wordItem 65 = .ok (.invokevirtual 257, 3) := by decide +kernel
theorem dX6_wordItem_68 : decode cX6_wordItem 68 = .ok (.ifCond .eq 13, 3) := by decide +kernel
theorem dX6_wordItem_71 : decode cX6_wordItem 71 = .ok (.aload_n 0, 1) := by decide +kernel
theorem dX6_wordItem_72 : decode cX6_wordItem 72 = .ok (.iconst 0, 1) := by decide +kernel
theorem dX6_wordItem_73 : decode cX6_wordItem 73 = .ok (.bipush 9, 2) := by decide +kernel
theorem dX6_wordItem_75 : decode cX6_wordItem 75 = .ok (.invokevirtual 252, 3) := by decide +kernel
theorem dX6_wordItem_78 : decode cX6_wordItem 78 = .ok (.goto 4, 3) := by decide +kernel
theorem dX6_wordItem_81 : decode cX6_wordItem 81 = .ok (.iconst 0, 1) := by decide +kernel
theorem dX6_wordItem_82 : decode cX6_wordItem 82 = .ok (.istore_n 3, 1) := by decide +kernel
theorem dX6_wordItem_83 : decode cX6_wordItem 83 = .ok (.aload_n 0, 1) := by decide +kernel
theorem dX6_wordItem_84 : decode cX6_wordItem 84 = .ok (.getfield 233, 3) := by decide +kernel
theorem dX6_wordItem_87 : decode cX6_wordItem 87 = .ok (.ifCond .ne 11, 3) := by decide +kernel
theorem dX6_wordItem_90 : decode cX6_wordItem 90 = .ok (.aload_n 0, 1) := by decide +kernel
theorem dX6_wordItem_91 : decode cX6_wordItem 91 = .ok (.iload_n 1, 1) := by decide +kernel
theorem dX6_wordItem_92 : decode cX6_wordItem 92 = .ok (.iload_n 2, 1) := by decide +kernel
theorem dX6_wordItem_93 : decode cX6_wordItem 93 = .ok (.iload_n 3, 1) := by decide +kernel
theorem dX6_wordItem_94 : decode cX6_wordItem 94 = .ok (.invokevirtual 70, 3) := by decide +kernel
theorem dX6_wordItem_97 : decode cX6_wordItem 97 = .ok (.pop, 1) := by decide +kernel
theorem dX6_wordItem_98 : decode cX6_wordItem 98 = .ok (.return_, 1) := by decide +kernel
theorem dX6_titleItem_0 : decode cX6_titleItem 0 = .ok (.aload_n 0, 1) := by decide +kernel
theorem dX6_titleItem_1 : decode cX6_titleItem 1 = .ok (.aload_n 0, 1) := by decide +kernel
theorem dX6_titleItem_2 : decode cX6_titleItem 2 = .ok (.getfield 9, 3) := by decide +kernel
theorem dX6_titleItem_5 : decode cX6_titleItem 5 = .ok (.iconst 1, 1) := by decide +kernel
theorem dX6_titleItem_6 : decode cX6_titleItem 6 = .ok (.iaload, 1) := by decide +kernel
theorem dX6_titleItem_7 : decode cX6_titleItem 7 = .ok (.bipush 24, 2) := by decide +kernel
theorem dX6_titleItem_9 : decode cX6_titleItem 9 = .ok (.if_icmp .ne 7, 3) := by decide +kernel
theorem dX6_titleItem_12 : decode cX6_titleItem 12 = .ok (.iconst 1, 1) := by decide +kernel
theorem dX6_titleItem_13 : decode cX6_titleItem 13 = .ok (.goto 4, 3) := by decide +kernel
theorem dX6_titleItem_16 : decode cX6_titleItem 16 = .ok (.iconst 0, 1) := by decide +kernel
theorem dX6_titleItem_17 : decode cX6_titleItem 17 = .ok (.putfield 233, 3) := by decide +kernel
theorem dX6_titleItem_20 : decode cX6_titleItem 20 = .ok (.aload_n 0, 1) := by decide +kernel
theorem dX6_titleItem_21 : decode cX6_titleItem 21 = .ok (.getfield 233, 3) := by decide +kernel
theorem dX6_titleItem_24 : decode cX6_titleItem 24 = .ok (.ifCond .eq 4, 3) := by decide +kernel
theorem dX6_titleItem_27 : decode cX6_titleItem 27 = .ok (.return_, 1) := by decide +kernel
theorem dX6_titleItem_28 : decode cX6_titleItem 28 = .ok (.aload_n 0, 1) := by decide +kernel
theorem dX6_titleItem_29 : decode cX6_titleItem 29 = .ok (.invokevirtual 249, 3) := by decide +kernel
theorem dX6_titleItem_32 : decode cX6_titleItem 32 = .ok (.aload_n 0, 1) := by decide +kernel
theorem dX6_titleItem_33 : decode cX6_titleItem 33 = .ok (.iconst 0, 1) := by decide +kernel
theorem dX6_titleItem_34 : decode cX6_titleItem 34 = .ok (.aload_n 0, 1) := by decide +kernel
theorem dX6_titleItem_35 : decode cX6_titleItem 35 = .ok (.getfield 9, 3) := by decide +kernel
theorem dX6_titleItem_38 : decode cX6_titleItem 38 = .ok (.iconst 0, 1) := by decide +kernel
theorem dX6_titleItem_39 : decode cX6_titleItem 39 = .ok (.iaload, 1) := by decide +kernel
theorem dX6_titleItem_40 : decode cX6_titleItem 40 = .ok (.iconst 1, 1) := by decide +kernel
theorem dX6_titleItem_41 : decode cX6_titleItem 41 = .ok (.isub, 1) := by decide +kernel
theorem dX6_titleItem_42 : decode cX6_titleItem 42 = .ok (.invokevirtual 252, 3) := by decide +kernel
theorem dX6_titleItem_45 : decode cX6_titleItem 45 = .ok (.istore_n 1, 1) := by decide +kernel
theorem dX6_titleItem_46 : decode cX6_titleItem 46 = .ok (.aload_n 0, 1) := by decide +kernel
theorem dX6_titleItem_47 : decode cX6_titleItem 47 = .ok (.getfield 233, 3) := by decide +kernel
theorem dX6_titleItem_50 : decode cX6_titleItem 50 = .ok (.ifCond .eq 4, 3) := by decide +kernel
theorem dX6_titleItem_53 : decode cX6_titleItem 53 = .ok (.return_, 1) := by decide +kernel
theorem dX6_titleItem_54 : decode cX6_titleItem 54 = .ok (.aload_n 0, 1) := by decide +kernel
theorem dX6_titleItem_55 : decode cX6_titleItem 55 = .ok (.iload_n 1, 1) := by decide +kernel
theorem dX6_titleItem_56 : decode cX6_titleItem 56 = .ok (.invokevirtual 91, 3) := by decide +kernel
theorem dX6_titleItem_59 : decode cX6_titleItem 59 = .ok (.istore_n 2, 1) := by decide +kernel
theorem dX6_titleItem_60 : decode cX6_titleItem 60 = .ok (.aload_n 0, 1) := by decide +kernel
theorem dX6_titleItem_61 : decode cX6_titleItem 61 = .ok (.getfield 233, 3) := by decide +kernel
theorem dX6_titleItem_64 : decode cX6_titleItem 64 = .ok (.ifCond .ne 61, 3) := by decide +kernel
theorem dX6_titleItem_67 : decode cX6_titleItem 67 = .ok (.aload_n 0, 1) := by decide +kernel
theorem dX6_titleItem_68 : decode cX6_titleItem 68 = .ok (.getfield 230, 3) := by decide +kernel
theorem dX6_titleItem_71 : decode cX6_titleItem 71 = .ok (.iconst 2, 1) := by decide +kernel
theorem dX6_titleItem_72 : decode cX6_titleItem 72 = .ok (.if_icmp .ne 53, 3) := by decide +kernel
theorem dX6_titleItem_75 : decode cX6_titleItem 75 = .ok (.aload_n 0, 1) := by decide +kernel
theorem dX6_titleItem_76 : decode cX6_titleItem 76 = .ok (.aload_n 0, 1) := by decide +kernel
theorem dX6_titleItem_77 : decode cX6_titleItem 77 = .ok (.iload_n 2, 1) := by decide +kernel
theorem dX6_titleItem_78 : decode cX6_titleItem 78 = .ok (.iconst 0, 1) := by decide +kernel
theorem dX6_titleItem_79 : decode cX6_titleItem 79 = .ok (.invokevirtual 74, 3) := by decide +kernel
theorem dX6_titleItem_82 : decode cX6_titleItem 82 = .ok (.iconst 4, 1) := by decide +kernel
theorem dX6_titleItem_83 : decode cX6_titleItem 83 = .ok (.if_icmp .ne 7, 3) := by decide +kernel
theorem dX6_titleItem_86 : decode cX6_titleItem 86 = .ok (.iconst 1, 1) := by decide +kernel
theorem dX6_titleItem_87 : decode cX6_titleItem 87 = .ok (.goto 4, 3) := by decide +kernel
theorem dX6_titleItem_90 : decode cX6_titleItem 90 = .ok (.iconst 0, 1) := by decide +kernel
theorem dX6_titleItem_91 : decode cX6_titleItem 91 = .ok (.putfield 233, 3) := by decide +kernel
theorem dX6_titleItem_94 : decode cX6_titleItem 94 = .ok (.aload_n 0, 1) := by decide +kernel
theorem dX6_titleItem_95 : decode cX6_titleItem 95 = .ok (.iconst 0, 1) := by decide +kernel
theorem dX6_titleItem_96 : decode cX6_titleItem 96 = .ok (.aload_n 0, 1) := by decide +kernel
theorem dX6_titleItem_97 : decode cX6_titleItem 97 = .ok (.getfield 9, 3) := by decide +kernel
theorem dX6_titleItem_100 : decode cX6_titleItem 100 = .ok (.iconst 0, 1) := by decide +kernel
theorem dX6_titleItem_101 : decode cX6_titleItem 101 = .ok (.iaload, 1) := by decide +kernel
theorem dX6_titleItem_102 : decode cX6_titleItem 102 = .ok (.iconst 1, 1) := by decide +kernel
theorem dX6_titleItem_103 : decode cX6_titleItem 103 = .ok (.isub, 1) := by decide +kernel
theorem dX6_titleItem_104 : decode cX6_titleItem 104 = .ok (.invokevirtual 252, 3) := by decide +kernel
theorem dX6_titleItem_107 : decode cX6_titleItem 107 = .ok (.istore_n 1, 1) := by decide +kernel
theorem dX6_titleItem_108 : decode cX6_titleItem 108 = .ok (.aload_n 0, 1) := by decide +kernel
theorem dX6_titleItem_109 : decode cX6_titleItem 109 = .ok (.getfield 233, 3) := by decide +kernel
theorem dX6_titleItem_112 : decode cX6_titleItem 112 = .ok (.ifCond .ne (-52), 3) := by decide +kernel
theorem dX6_titleItem_115 : decode cX6_titleItem 115 = .ok (.aload_n 0, 1) := by decide +kernel
theorem dX6_titleItem_116 : decode cX6_titleItem 116 = .ok (.iload_n 2, 1) := by decide +kernel
theorem dX6_titleItem_117 : decode cX6_titleItem 117 = .ok (.iload_n 1, 1) := by decide +kernel
theorem dX6_titleItem_118 : decode cX6_titleItem 118 = .ok (.invokevirtual 97, 3) := by decide +kernel
theorem dX6_titleItem_121 : decode cX6_titleItem 121 = .ok (.pop, 1) := by decide +kernel
theorem dX6_titleItem_122 : decode cX6_titleItem 122 = .ok (.goto (-62), 3) := by decide +kernel
theorem dX6_titleItem_125 : decode cX6_titleItem 125 = .ok (.return_, 1) := by decide +kernel
theorem dX6_onlyItem_0 : decode cX6_onlyItem 0 = .ok (.aload_n 0, 1) := by decide +kernel
theorem dX6_onlyItem_1 : decode cX6_onlyItem 1 = .ok (.iconst 0, 1) := by decide +kernel
theorem dX6_onlyItem_2 : decode cX6_onlyItem 2 = .ok (.aload_n 0, 1) := by decide +kernel
theorem dX6_onlyItem_3 : decode cX6_onlyItem 3 = .ok (.getfield 9, 3) := by decide +kernel
theorem dX6_onlyItem_6 : decode cX6_onlyItem 6 = .ok (.iconst 1, 1) := by decide +kernel
theorem dX6_onlyItem_7 : decode cX6_onlyItem 7 = .ok (.iaload, 1) := by decide +kernel
theorem dX6_onlyItem_8 : decode cX6_onlyItem 8 = .ok (.iconst 1, 1) := by decide +kernel
theorem dX6_onlyItem_9 : decode cX6_onlyItem 9 = .ok (.isub, 1) := by decide +kernel
theorem dX6_onlyItem_10 : decode cX6_onlyItem 10 = .ok (.invokevirtual 252, 3) := by decide +kernel
theorem dX6_onlyItem_13 : decode cX6_onlyItem 13 = .ok (.istore_n 1, 1) := by decide +kernel
theorem dX6_onlyItem_14 : decode cX6_onlyItem 14 = .ok (.aload_n 0, 1) := by decide +kernel
theorem dX6_onlyItem_15 : decode cX6_onlyItem 15 = .ok (.iconst 0, 1) := by decide +kernel
theorem dX6_onlyItem_16 : decode cX6_onlyItem 16 = .ok (.iconst 1, 1) := by decide +kernel
theorem dX6_onlyItem_17 : decode cX6_onlyItem 17 = .ok (.invokevirtual 252, 3) := by decide +kernel
theorem dX6_onlyItem_20 : decode cX6_onlyItem 20 = .ok (.istore_n 2, 1) := by decide +kernel
theorem dX6_onlyItem_21 : decode cX6_onlyItem 21 = .ok (.aload_n 0, 1) := by decide +kernel
theorem dX6_onlyItem_22 : decode cX6_onlyItem 22 = .ok (.getfield 233, 3) := by decide +kernel
theorem dX6_onlyItem_25 : decode cX6_onlyItem 25 = .ok (.ifCond .ne 20, 3) := by decide +kernel
theorem dX6_onlyItem_28 : decode cX6_onlyItem 28 = .ok (.aload_n 0, 1) := by decide +kernel
theorem dX6_onlyItem_29 : decode cX6_onlyItem 29 = .ok (.getfield 9, 3) := by decide +kernel
theorem dX6_onlyItem_32 : decode cX6_onlyItem 32 = .ok (.bipush 58, 2) := by decide +kernel
theorem dX6_onlyItem_34 : decode cX6_onlyItem 34 = .ok (.bipush 6, 2) := by decide +kernel
theorem dX6_onlyItem_36 : decode cX6_onlyItem 36 = .ok (.iload_n 1, 1) := by decide +kernel
theorem dX6_onlyItem_37 : decode cX6_onlyItem 37 = .ok (.imul, 1) := by decide +kernel
theorem dX6_onlyItem_38 : decode cX6_onlyItem 38 = .ok (.iadd, 1) := by decide +kernel
theorem dX6_onlyItem_39 : decode cX6_onlyItem 39 = .ok (.iconst 5, 1) := by decide +kernel
theorem dX6_onlyItem_40 : decode cX6_onlyItem 40 = .ok (.iadd, 1) := by decide +kernel
theorem dX6_onlyItem_41 : decode cX6_onlyItem 41 = .ok (.iconst 1, 1) := by decide +kernel
theorem dX6_onlyItem_42 : decode cX6_onlyItem 42 = .ok (.iload_n 2, 1) := by decide +kernel
theorem dX6_onlyItem_43 : decode cX6_onlyItem 43 = .ok (.ishl, 1) := by decide +kernel
theorem dX6_onlyItem_44 : decode cX6_onlyItem 44 = .ok (.iastore, 1) := by decide +kernel
theorem dX6_onlyItem_45 : decode cX6_onlyItem 45 = .ok (.return_, 1) := by decide +kernel
theorem dX6_item_0 : decode cX6_item 0 = .ok (.aload_n 0, 1) := by decide +kernel
theorem dX6_item_1 : decode cX6_item 1 = .ok (.ldc_w 262, 3) := by decide +kernel
theorem dX6_item_4 : decode cX6_item 4 = .ok (.invokevirtual 245, 3) := by decide +kernel
theorem dX6_item_7 : decode cX6_item 7 = .ok (.ifCond .eq 10, 3) := by decide +kernel
theorem dX6_item_10 : decode cX6_item 10 = .ok (.aload_n 0, 1) := by decide +kernel
theorem dX6_item_11 : decode cX6_item 11 = .ok (.invokevirtual 264, 3) := by decide +kernel
theorem dX6_item_14 : decode cX6_item 14 = .ok (.goto 42, 3) := by decide +kernel
theorem dX6_item_17 : decode cX6_item 17 = .ok (.aload_n 0, 1) := by decide +kernel
theorem dX6_item_18 : decode cX6_item 18 = .ok (.ldc_w 267, 3) := by decide +kernel
theorem dX6_item_21 : decode cX6_item 21 = .ok (.invokevirtual 245, 3) := by decide +kernel
theorem dX6_item_24 : decode cX6_item 24 = .ok (.ifCond .eq 10, 3) := by decide +kernel
theorem dX6_item_27 : decode cX6_item 27 = .ok (.aload_n 0, 1) := by decide +kernel
theorem dX6_item_28 : decode cX6_item 28 = .ok (.invokevirtual 269, 3) := by decide +kernel
theorem dX6_item_31 : decode cX6_item 31 = .ok (.goto 25, 3) := by decide +kernel
theorem dX6_item_34 : decode cX6_item 34 = .ok (.aload_n 0, 1) := by decide +kernel
theorem dX6_item_35 : decode cX6_item 35 = .ok (.ldc_w 272, 3) := by decide +kernel
theorem dX6_item_38 : decode cX6_item 38 = .ok (.invokevirtual 257, 3) := by decide +kernel
theorem dX6_item_41 : decode cX6_item 41 = .ok (.ifCond .eq 10, 3) := by decide +kernel
theorem dX6_item_44 : decode cX6_item 44 = .ok (.aload_n 0, 1) := by decide +kernel
theorem dX6_item_45 : decode cX6_item 45 = .ok (.invokevirtual 274, 3) := by decide +kernel
theorem dX6_item_48 : decode cX6_item 48 = .ok (.goto 8, 3) := by decide +kernel
theorem dX6_item_51 : decode cX6_item 51 = .ok (.aload_n 0, 1) := by decide +kernel
theorem dX6_item_52 : decode cX6_item 52 = .ok (.iconst 1, 1) := by decide +kernel
theorem dX6_item_53 : decode cX6_item 53 = .ok (.putfield 233, 3) := by decide +kernel
theorem dX6_item_56 : decode cX6_item 56 = .ok (.return_, 1) := by decide +kernel
theorem dX6_text_0 : decode cX6_text 0 = .ok (.aload_n 0, 1) := by decide +kernel
theorem dX6_text_1 : decode cX6_text 1 = .ok (.getfield 9, 3) := by decide +kernel
theorem dX6_text_4 : decode cX6_text 4 = .ok (.aload_n 0, 1) := by decide +kernel
theorem dX6_text_5 : decode cX6_text 5 = .ok (.getfield 16, 3) := by decide +kernel
theorem dX6_text_8 : decode cX6_text 8 = .ok (.invokestatic 201, 3) := by decide +kernel
theorem dX6_text_11 : decode cX6_text 11 = .ok (.aload_n 0, 1) := by decide +kernel
theorem dX6_text_12 : decode cX6_text 12 = .ok (.iconst 0, 1) := by decide +kernel
theorem dX6_text_13 : decode cX6_text 13 = .ok (.putfield 218, 3) := by decide +kernel
theorem dX6_text_16 : decode cX6_text 16 = .ok (.aload_n 0, 1) := by decide +kernel
theorem dX6_text_17 : decode cX6_text 17 = .ok (.iconst 0, 1) := by decide +kernel
theorem dX6_text_18 : decode cX6_text 18 = .ok (.putfield 233, 3) := by decide +kernel
theorem dX6_text_21 : decode cX6_text 21 = .ok (.aload_n 0, 1) := by decide +kernel
theorem dX6_text_22 : decode cX6_text 22 = .ok (.invokevirtual 249, 3) := by decide +kernel
theorem dX6_text_25 : decode cX6_text 25 = .ok (.iconst 0, 1) := by decide +kernel
theorem dX6_text_26 : decode cX6_text 26 = .ok (.istore_n 1, 1) := by decide +kernel
theorem dX6_text_27 : decode cX6_text 27 = .ok (.iconst 1, 1) := by decide +kernel
theorem dX6_text_28 : decode cX6_text 28 = .ok (.istore_n 2, 1) := by decide +kernel
theorem dX6_text_29 : decode cX6_text 29 = .ok (.iload_n 2, 1) := by decide +kernel
theorem dX6_text_30 : decode cX6_text 30 = .ok (.ifCond .eq 28, 3) := by decide +kernel
theorem dX6_text_33 : decode cX6_text 33 = .ok (.aload_n 0, 1) := by decide +kernel
theorem dX6_text_34 : decode cX6_text 34 = .ok (.invokevirtual 277, 3) := by decide +kernel
theorem dX6_text_37 : decode cX6_text 37 = .ok (.iinc 1 1, 3) := by decide +kernel
theorem dX6_text_40 : decode cX6_text 40 = .ok (.aload_n 0, 1) := by decide +kernel
theorem dX6_text_41 : decode cX6_text 41 = .ok (.bipush 59, 2) := by decide +kernel
theorem dX6_text_43 : decode cX6_text 43 = .ok (.invokevirtual 280, 3) := by decide +kernel
theorem dX6_text_46 : decode cX6_text 46 = .ok (.istore_n 2, 1) := by decide +kernel
theorem dX6_text_47 : decode cX6_text 47 = .ok (.iload_n 2, 1) := by decide +kernel
theorem dX6_text_48 : decode cX6_text 48 = .ok (.ifCond .eq (-19), 3) := by decide +kernel
theorem dX6_text_51 : decode cX6_text 51 = .ok (.aload_n 0, 1) := by decide +kernel
theorem dX6_text_52 : decode cX6_text 52 = .ok (.invokevirtual 249, 3) := by decide +kernel
theorem dX6_text_55 : decode cX6_text 55 = .ok (.goto (-26), 3) := by decide +kernel
theorem dX6_text_58 : decode cX6_text 58 = .ok (.aload_n 0, 1) := by decide +kernel
theorem dX6_text_59 : decode cX6_text 59 = .ok (.aload_n 0, 1) := by decide +kernel
theorem dX6_text_60 : decode cX6_text 60 = .ok (.getfield 233, 3) := by decide +kernel
theorem dX6_text_63 : decode cX6_text 63 = .ok (.ifCond .ne 10, 3) := by decide +kernel
theorem dX6_text_66 : decode cX6_text 66 = .ok (.aload_n 0, 1) := by decide +kernel
theorem dX6_text_67 : decode cX6_text 67 = .ok (.getfield 230, 3) := by decide +kernel
theorem dX6_text_70 : decode cX6_text 70 = .ok (.ifCond .eq 7, 3) := by decide +kernel
theorem dX6_text_73 : decode cX6_text 73 = .ok (.iconst 1, 1) := by decide +kernel
theorem dX6_text_74 : decode cX6_text 74 = .ok (.goto 4, 3) := by decide +kernel
theorem dX6_text_77 : decode cX6_text 77 = .ok (.iconst 0, 1) := by decide +kernel
theorem dX6_text_78 : decode cX6_text 78 = .ok (.putfield 233, 3) := by decide +kernel
theorem dX6_text_81 : decode cX6_text 81 = .ok (.aload_n 0, 1) := by decide +kernel
theorem dX6_text_82 : decode cX6_text 82 = .ok (.getfield 221, 3) := by decide +kernel
theorem dX6_text_85 : decode cX6_text 85 = .ok (.istore_n 3, 1) := by decide +kernel
theorem dX6_text_86 : decode cX6_text 86 = .ok (.aload_n 0, 1) := by decide +kernel
theorem dX6_text_87 : decode cX6_text 87 = .ok (.iconst 0, 1) := by decide +kernel
theorem dX6_text_88 : decode cX6_text 88 = .ok (.putfield 215, 3) := by decide +kernel
theorem dX6_text_91 : decode cX6_text 91 = .ok (.aload_n 0, 1) := by decide +kernel
theorem dX6_text_92 : decode cX6_text 92 = .ok (.getfield 233, 3) := by decide +kernel
theorem dX6_text_95 : decode cX6_text 95 = .ok (.ifCond .ne 5, 3) := by decide +kernel
theorem dX6_text_98 : decode cX6_text 98 = .ok (.iload_n 1, 1) := by decide +kernel
theorem dX6_text_99 : decode cX6_text 99 = .ok (.ireturn, 1) := by decide +kernel
theorem dX6_text_100 : decode cX6_text 100 = .ok (.aload_n 0, 1) := by decide +kernel
theorem dX6_text_101 : decode cX6_text 101 = .ok (.getfield 16, 3) := by decide +kernel
theorem dX6_text_104 : decode cX6_text 104 = .ok (.aload_n 0, 1) := by decide +kernel
theorem dX6_text_105 : decode cX6_text 105 = .ok (.getfield 9, 3) := by decide +kernel
theorem dX6_text_108 : decode cX6_text 108 = .ok (.invokestatic 201, 3) := by decide +kernel
theorem dX6_text_111 : decode cX6_text 111 = .ok (.iconst (-1), 1) := by decide +kernel
theorem dX6_text_112 : decode cX6_text 112 = .ok (.iload_n 3, 1) := by decide +kernel
theorem dX6_text_113 : decode cX6_text 113 = .ok (.isub, 1) := by decide +kernel
theorem dX6_text_114 : decode cX6_text 114 = .ok (.ireturn, 1) := by decide +kernel
theorem dX6_hold_0 : decode cX6_hold 0 = .ok (.iload_n 1, 1) := by decide +kernel
theorem dX6_hold_1 : decode cX6_hold 1 = .ok (.i2l, 1) := by decide +kernel
theorem dX6_hold_2 : decode cX6_hold 2 = .ok (.lconst 0, 1) := by decide +kernel
theorem dX6_hold_3 : decode cX6_hold 3 = .ok (.ldc2_w 63, 3) := by decide +kernel
theorem dX6_hold_6 : decode cX6_hold 6 = .ok (.invokestatic 49, 3) := by decide +kernel
theorem dX6_hold_9 : decode cX6_hold 9 = .ok (.ifCond .eq 17, 3) := by decide +kernel
theorem dX6_hold_12 : decode cX6_hold 12 = .ok (.iload_n 2, 1) := by decide +kernel
theorem dX6_hold_13 : decode cX6_hold 13 = .ok (.i2l, 1) := by decide +kernel
theorem dX6_hold_14 : decode cX6_hold 14 = .ok (.ldc2_w 283, 3) := by decide +kernel
theorem dX6_hold_17 : decode cX6_hold 17 = .ok (.ldc2_w 285, 3) := by decide +kernel
theorem dX6_hold_20 : decode cX6_hold 20 = .ok (.invokestatic 49, 3) := by decide +kernel
theorem dX6_hold_23 : decode cX6_hold 23 = .ok (.ifCond .ne 10, 3) := by decide +kernel
theorem dX6_hold_26 : decode cX6_hold 26 = .ok (.aload_n 0, 1) := by decide +kernel
theorem dX6_hold_27 : decode cX6_hold 27 = .ok (.ldc 43, 2) := by decide +kernel
theorem dX6_hold_29 : decode cX6_hold 29 = .ok (.invokevirtual 45, 3) := by decide +kernel
theorem dX6_hold_32 : decode cX6_hold 32 = .ok (.ireturn, 1) := by decide +kernel
theorem dX6_hold_33 : decode cX6_hold 33 = .ok (.aload_n 0, 1) := by decide +kernel
theorem dX6_hold_34 : decode cX6_hold 34 = .ok (.getfield 9, 3) := by decide +kernel
theorem dX6_hold_37 : decode cX6_hold 37 = .ok (.sipush 202, 3) := by decide +kernel
theorem dX6_hold_40 : decode cX6_hold 40 = .ok (.iload_n 1, 1) := by decide +kernel
theorem dX6_hold_41 : decode cX6_hold 41 = .ok (.iadd, 1) := by decide +kernel
theorem dX6_hold_42 : decode cX6_hold 42 = .ok (.iload_n 2, 1) := by decide +kernel
theorem dX6_hold_43 : decode cX6_hold 43 = .ok (.iastore, 1) := by decide +kernel
theorem dX6_hold_44 : decode cX6_hold 44 = .ok (.iconst 1, 1) := by decide +kernel
theorem dX6_hold_45 : decode cX6_hold 45 = .ok (.ireturn, 1) := by decide +kernel
theorem dX6_above_0 : decode cX6_above 0 = .ok (.iload_n 0, 1) := by decide +kernel
theorem dX6_above_1 : decode cX6_above 1 = .ok (.tableswitch 51 0 6 #[43, 51, 51, 45, 47, 51, 49], 43) := by decide +kernel
theorem dX6_above_44 : decode cX6_above 44 = .ok (.iconst (-1), 1) := by decide +kernel
theorem dX6_above_45 : decode cX6_above 45 = .ok (.ireturn, 1) := by decide +kernel
theorem dX6_above_46 : decode cX6_above 46 = .ok (.iconst 1, 1) := by decide +kernel
theorem dX6_above_47 : decode cX6_above 47 = .ok (.ireturn, 1) := by decide +kernel
theorem dX6_above_48 : decode cX6_above 48 = .ok (.iconst 2, 1) := by decide +kernel
theorem dX6_above_49 : decode cX6_above 49 = .ok (.ireturn, 1) := by decide +kernel
theorem dX6_above_50 : decode cX6_above 50 = .ok (.iconst 5, 1) := by decide +kernel
theorem dX6_above_51 : decode cX6_above 51 = .ok (.ireturn, 1) := by decide +kernel
theorem dX6_above_52 : decode cX6_above 52 = .ok (.iconst 0, 1) := by decide +kernel
theorem dX6_above_53 : decode cX6_above 53 = .ok (.ireturn, 1) := by decide +kernel
theorem dX6_as_0 : decode cX6_as 0 = .ok (.iload_n 1, 1) := by decide +kernel
theorem dX6_as_1 : decode cX6_as 1 = .ok (.i2l, 1) := by decide +kernel
theorem dX6_as_2 : decode cX6_as 2 = .ok (.lconst 0, 1) := by decide +kernel
theorem dX6_as_3 : decode cX6_as 3 = .ok (.ldc2_w 63, 3) := by decide +kernel
theorem dX6_as_6 : decode cX6_as 6 = .ok (.invokestatic 49, 3) := by decide +kernel
theorem dX6_as_9 : decode cX6_as 9 = .ok (.ifCond .eq 15, 3) := by decide +kernel
theorem dX6_as_12 : decode cX6_as 12 = .ok (.iload_n 2, 1) := by decide +kernel
theorem dX6_as_13 : decode cX6_as 13 = .ok (.i2l, 1) := by decide +kernel
theorem dX6_as_14 : decode cX6_as 14 = .ok (.lconst 0, 1) := by decide +kernel
theorem dX6_as_15 : decode cX6_as 15 = .ok (.ldc2_w 53, 3) := by decide +kernel
theorem dX6_as_18 : decode cX6_as 18 = .ok (.invokestatic 49, 3) := by decide +kernel
theorem dX6_as_21 : decode cX6_as 21 = .ok (.ifCond .ne 10, 3) := by decide +kernel
theorem dX6_as_24 : decode cX6_as 24 = .ok (.aload_n 0, 1) := by decide +kernel
theorem dX6_as_25 : decode cX6_as 25 = .ok (.ldc 43, 2) := by decide +kernel
theorem dX6_as_27 : decode cX6_as 27 = .ok (.invokevirtual 45, 3) := by decide +kernel
theorem dX6_as_30 : decode cX6_as 30 = .ok (.ireturn, 1) := by decide +kernel
theorem dX6_as_31 : decode cX6_as 31 = .ok (.aload_n 0, 1) := by decide +kernel
theorem dX6_as_32 : decode cX6_as 32 = .ok (.getfield 9, 3) := by decide +kernel
theorem dX6_as_35 : decode cX6_as 35 = .ok (.sipush 202, 3) := by decide +kernel
theorem dX6_as_38 : decode cX6_as 38 = .ok (.iload_n 1, 1) := by decide +kernel
theorem dX6_as_39 : decode cX6_as 39 = .ok (.iadd, 1) := by decide +kernel
theorem dX6_as_40 : decode cX6_as 40 = .ok (.iaload, 1) := by decide +kernel
theorem dX6_as_41 : decode cX6_as 41 = .ok (.istore_n 3, 1) := by decide +kernel
theorem dX6_as_42 : decode cX6_as 42 = .ok (.iload_n 3, 1) := by decide +kernel
theorem dX6_as_43 : decode cX6_as 43 = .ok (.ifCond .ge 11, 3) := by decide +kernel
theorem dX6_as_46 : decode cX6_as 46 = .ok (.aload_n 0, 1) := by decide +kernel
theorem dX6_as_47 : decode cX6_as 47 = .ok (.ldc_w 287, 3) := by decide +kernel
theorem dX6_as_50 : decode cX6_as 50 = .ok (.invokevirtual 45, 3) := by decide +kernel
theorem dX6_as_53 : decode cX6_as 53 = .ok (.ireturn, 1) := by decide +kernel
theorem dX6_as_54 : decode cX6_as 54 = .ok (.iload_n 3, 1) := by decide +kernel
theorem dX6_as_55 : decode cX6_as 55 = .ok (.iconst 4, 1) := by decide +kernel
theorem dX6_as_56 : decode cX6_as 56 = .ok (.idiv, 1) := by decide +kernel
theorem dX6_as_57 : decode cX6_as 57 = .ok (.istore 4, 2) := by decide +kernel
theorem dX6_as_59 : decode cX6_as 59 = .ok (.iload 4, 2) := by decide +kernel
theorem dX6_as_61 : decode cX6_as 61 = .ok (.ifCond .lt 23, 3) := by decide +kernel
theorem dX6_as_64 : decode cX6_as 64 = .ok (.iload 4, 2) := by decide +kernel
theorem dX6_as_66 : decode cX6_as 66 = .ok (.iload_n 2, 1) := by decide +kernel
theorem dX6_as_67 : decode cX6_as 67 = .ok (.if_icmp .ne 7, 3) := by decide +kernel
theorem dX6_as_70 : decode cX6_as 70 = .ok (.iload_n 3, 1) := by decide +kernel
theorem dX6_as_71 : decode cX6_as 71 = .ok (.iconst 4, 1) := by decide +kernel
theorem dX6_as_72 : decode cX6_as 72 = .ok (.irem, 1) := by decide +kernel
theorem dX6_as_73 : decode cX6_as 73 = .ok (.ireturn, 1) := by decide +kernel
theorem dX6_as_74 : decode cX6_as 74 = .ok (.iload 4, 2) := by decide +kernel
theorem dX6_as_76 : decode cX6_as 76 = .ok (.invokestatic 288, 3) := by decide +kernel
theorem dX6_as_79 : decode cX6_as 79 = .ok (.istore 4, 2) := by decide +kernel
theorem dX6_as_81 : decode cX6_as 81 = .ok (.goto (-22), 3) := by decide +kernel
theorem dX6_as_84 : decode cX6_as 84 = .ok (.aload_n 0, 1) := by decide +kernel
theorem dX6_as_85 : decode cX6_as 85 = .ok (.ldc_w 291, 3) := by decide +kernel
theorem dX6_as_88 : decode cX6_as 88 = .ok (.invokevirtual 45, 3) := by decide +kernel
theorem dX6_as_91 : decode cX6_as 91 = .ok (.ireturn, 1) := by decide +kernel
theorem dX6_isSheet_0 : decode cX6_isSheet 0 = .ok (.iload_n 0, 1) := by decide +kernel
theorem dX6_isSheet_1 : decode cX6_isSheet 1 = .ok (.i2l, 1) := by decide +kernel
theorem dX6_isSheet_2 : decode cX6_isSheet 2 = .ok (.lconst 0, 1) := by decide +kernel
theorem dX6_isSheet_3 : decode cX6_isSheet 3 = .ok (.ldc2_w 55, 3) := by decide +kernel
theorem dX6_isSheet_6 : decode cX6_isSheet 6 = .ok (.invokestatic 49, 3) := by decide +kernel
theorem dX6_isSheet_9 : decode cX6_isSheet 9 = .ok (.ireturn, 1) := by decide +kernel
theorem dX6_sheet_0 : decode cX6_sheet 0 = .ok (.iload_n 1, 1) := by decide +kernel
theorem dX6_sheet_1 : decode cX6_sheet 1 = .ok (.invokestatic 292, 3) := by decide +kernel
theorem dX6_sheet_4 : decode cX6_sheet 4 = .ok (.ifCond .eq 25, 3) := by decide +kernel
theorem dX6_sheet_7 : decode cX6_sheet 7 = .ok (.iload_n 2, 1) := by decide +kernel
theorem dX6_sheet_8 : decode cX6_sheet 8 = .ok (.ifCond .eq 28, 3) := by decide +kernel
theorem dX6_sheet_11 : decode cX6_sheet 11 = .ok (.iload_n 2, 1) := by decide +kernel
theorem dX6_sheet_12 : decode cX6_sheet 12 = .ok (.bipush 8, 2) := by decide +kernel
theorem dX6_sheet_14 : decode cX6_sheet 14 = .ok (.if_icmp .eq 22, 3) := by decide +kernel
theorem dX6_sheet_17 : decode cX6_sheet 17 = .ok (.iload_n 2, 1) := by decide +kernel
theorem dX6_sheet_18 : decode cX6_sheet 18 = .ok (.bipush 16, 2) := by decide +kernel
theorem dX6_sheet_20 : decode cX6_sheet 20 = .ok (.if_icmp .eq 16, 3) := by decide +kernel
theorem dX6_sheet_23 : decode cX6_sheet 23 = .ok (.iload_n 2, 1) := by decide +kernel
theorem dX6_sheet_24 : decode cX6_sheet 24 = .ok (.bipush 32, 2) := by decide +kernel
theorem dX6_sheet_26 : decode cX6_sheet 26 = .ok (.if_icmp .eq 10, 3) := by decide +kernel
theorem dX6_sheet_29 : decode cX6_sheet 29 = .ok (.aload_n 0, 1) := by decide +kernel
theorem dX6_sheet_30 : decode cX6_sheet 30 = .ok (.ldc 43, 2) := by decide +kernel
theorem dX6_sheet_32 : decode cX6_sheet 32 = .ok (.invokevirtual 45, 3) := by decide +kernel
theorem dX6_sheet_35 : decode cX6_sheet 35 = .ok (.ireturn, 1) := by decide +kernel
theorem dX6_sheet_36 : decode cX6_sheet 36 = .ok (.iload_n 3, 1) := by decide +kernel
theorem dX6_sheet_37 : decode cX6_sheet 37 = .ok (.ifCond .ge 11, 3) := by decide +kernel
theorem dX6_sheet_40 : decode cX6_sheet 40 = .ok (.aload_n 0, 1) := by decide +kernel
theorem dX6_sheet_41 : decode cX6_sheet 41 = .ok (.ldc_w 295, 3) := by decide +kernel
theorem dX6_sheet_44 : decode cX6_sheet 44 = .ok (.invokevirtual 45, 3) := by decide +kernel
theorem dX6_sheet_47 : decode cX6_sheet 47 = .ok (.ireturn, 1) := by decide +kernel
theorem dX6_sheet_48 : decode cX6_sheet 48 = .ok (.iload_n 3, 1) := by decide +kernel
theorem dX6_sheet_49 : decode cX6_sheet 49 = .ok (.bipush 40, 2) := by decide +kernel
theorem dX6_sheet_51 : decode cX6_sheet 51 = .ok (.if_icmp .le 10, 3) := by decide +kernel
theorem dX6_sheet_54 : decode cX6_sheet 54 = .ok (.aload_n 0, 1) := by decide +kernel
theorem dX6_sheet_55 : decode cX6_sheet 55 = .ok (.ldc 43, 2) := by decide +kernel
theorem dX6_sheet_57 : decode cX6_sheet 57 = .ok (.invokevirtual 45, 3) := by decide +kernel
theorem dX6_sheet_60 : decode cX6_sheet 60 = .ok (.ireturn, 1) := by decide +kernel
theorem dX6_sheet_61 : decode cX6_sheet 61 = .ok (.aload_n 0, 1) := by decide +kernel
theorem dX6_sheet_62 : decode cX6_sheet 62 = .ok (.getfield 34, 3) := by decide +kernel
theorem dX6_sheet_65 : decode cX6_sheet 65 = .ok (.iload_n 1, 1) := by decide +kernel
theorem dX6_sheet_66 : decode cX6_sheet 66 = .ok (.iload_n 2, 1) := by decide +kernel
theorem dX6_sheet_67 : decode cX6_sheet 67 = .ok (.iastore, 1) := by decide +kernel
theorem dX6_sheet_68 : decode cX6_sheet 68 = .ok (.aload_n 0, 1) := by decide +kernel
theorem dX6_sheet_69 : decode cX6_sheet 69 = .ok (.getfield 37, 3) := by decide +kernel
theorem dX6_sheet_72 : decode cX6_sheet 72 = .ok (.iload_n 1, 1) := by decide +kernel
theorem dX6_sheet_73 : decode cX6_sheet 73 = .ok (.iload_n 2, 1) := by decide +kernel
theorem dX6_sheet_74 : decode cX6_sheet 74 = .ok (.ifCond .ne 7, 3) := by decide +kernel
theorem dX6_sheet_77 : decode cX6_sheet 77 = .ok (.iconst 0, 1) := by decide +kernel
theorem dX6_sheet_78 : decode cX6_sheet 78 = .ok (.goto 4, 3) := by decide +kernel
theorem dX6_sheet_81 : decode cX6_sheet 81 = .ok (.iload_n 3, 1) := by decide +kernel
theorem dX6_sheet_82 : decode cX6_sheet 82 = .ok (.iastore, 1) := by decide +kernel
theorem dX6_sheet_83 : decode cX6_sheet 83 = .ok (.iconst 0, 1) := by decide +kernel
theorem dX6_sheet_84 : decode cX6_sheet 84 = .ok (.istore 4, 2) := by decide +kernel
theorem dX6_sheet_86 : decode cX6_sheet 86 = .ok (.iload 4, 2) := by decide +kernel
theorem dX6_sheet_88 : decode cX6_sheet 88 = .ok (.bipush 40, 2) := by decide +kernel
theorem dX6_sheet_90 : decode cX6_sheet 90 = .ok (.if_icmp .ge 22, 3) := by decide +kernel
theorem dX6_sheet_93 : decode cX6_sheet 93 = .ok (.aload_n 0, 1) := by decide +kernel
theorem dX6_sheet_94 : decode cX6_sheet 94 = .ok (.getfield 40, 3) := by decide +kernel
theorem dX6_sheet_97 : decode cX6_sheet 97 = .ok (.bipush 40, 2) := by decide +kernel
theorem dX6_sheet_99 : decode cX6_sheet 99 = .ok (.iload_n 1, 1) := by decide +kernel
theorem dX6_sheet_100 : decode cX6_sheet 100 = .ok (.imul, 1) := by decide +kernel
theorem dX6_sheet_101 : decode cX6_sheet 101 = .ok (.iload 4, 2) := by decide +kernel
theorem dX6_sheet_103 : decode cX6_sheet 103 = .ok (.iadd, 1) := by decide +kernel
theorem dX6_sheet_104 : decode cX6_sheet 104 = .ok (.iconst 0, 1) := by decide +kernel
theorem dX6_sheet_105 : decode cX6_sheet 105 = .ok (.iastore, 1) := by decide +kernel
theorem dX6_sheet_106 : decode cX6_sheet 106 = .ok (.iinc 4 1, 3) := by decide +kernel
theorem dX6_sheet_109 : decode cX6_sheet 109 = .ok (.goto (-23), 3) := by decide +kernel
theorem dX6_sheet_112 : decode cX6_sheet 112 = .ok (.aload_n 0, 1) := by decide +kernel
theorem dX6_sheet_113 : decode cX6_sheet 113 = .ok (.getfield 37, 3) := by decide +kernel
theorem dX6_sheet_116 : decode cX6_sheet 116 = .ok (.iload_n 1, 1) := by decide +kernel
theorem dX6_sheet_117 : decode cX6_sheet 117 = .ok (.iaload, 1) := by decide +kernel
theorem dX6_sheet_118 : decode cX6_sheet 118 = .ok (.ireturn, 1) := by decide +kernel
theorem dX6_write_0 : decode cX6_write 0 = .ok (.iload_n 1, 1) := by decide +kernel
theorem dX6_write_1 : decode cX6_write 1 = .ok (.invokestatic 292, 3) := by decide +kernel
theorem dX6_write_4 : decode cX6_write 4 = .ok (.ifCond .ne 10, 3) := by decide +kernel
theorem dX6_write_7 : decode cX6_write 7 = .ok (.aload_n 0, 1) := by decide +kernel
theorem dX6_write_8 : decode cX6_write 8 = .ok (.ldc 43, 2) := by decide +kernel
theorem dX6_write_10 : decode cX6_write 10 = .ok (.invokevirtual 45, 3) := by decide +kernel
theorem dX6_write_13 : decode cX6_write 13 = .ok (.ireturn, 1) := by decide +kernel
theorem dX6_write_14 : decode cX6_write 14 = .ok (.aload_n 0, 1) := by decide +kernel
theorem dX6_write_15 : decode cX6_write 15 = .ok (.getfield 34, 3) := by decide +kernel
theorem dX6_write_18 : decode cX6_write 18 = .ok (.iload_n 1, 1) := by decide +kernel
theorem dX6_write_19 : decode cX6_write 19 = .ok (.iaload, 1) := by decide +kernel
theorem dX6_write_20 : decode cX6_write 20 = .ok (.ifCond .ne 11, 3) := by decide +kernel
theorem dX6_write_23 : decode cX6_write 23 = .ok (.aload_n 0, 1) := by decide +kernel
theorem dX6_write_24 : decode cX6_write 24 = .ok (.ldc_w 287, 3) := by decide +kernel
theorem dX6_write_27 : decode cX6_write 27 = .ok (.invokevirtual 45, 3) := by decide +kernel
theorem dX6_write_30 : decode cX6_write 30 = .ok (.ireturn, 1) := by decide +kernel
theorem dX6_write_31 : decode cX6_write 31 = .ok (.iload_n 2, 1) := by decide +kernel
theorem dX6_write_32 : decode cX6_write 32 = .ok (.i2l, 1) := by decide +kernel
theorem dX6_write_33 : decode cX6_write 33 = .ok (.lconst 0, 1) := by decide +kernel
theorem dX6_write_34 : decode cX6_write 34 = .ok (.aload_n 0, 1) := by decide +kernel
theorem dX6_write_35 : decode cX6_write 35 = .ok (.getfield 37, 3) := by decide +kernel
theorem dX6_write_38 : decode cX6_write 38 = .ok (.iload_n 1, 1) := by decide +kernel
theorem dX6_write_39 : decode cX6_write 39 = .ok (.iaload, 1) := by decide +kernel
theorem dX6_write_40 : decode cX6_write 40 = .ok (.iconst 1, 1) := by decide +kernel
theorem dX6_write_41 : decode cX6_write 41 = .ok (.isub, 1) := by decide +kernel
theorem dX6_write_42 : decode cX6_write 42 = .ok (.i2l, 1) := by decide +kernel
theorem dX6_write_43 : decode cX6_write 43 = .ok (.invokestatic 49, 3) := by decide +kernel
theorem dX6_write_46 : decode cX6_write 46 = .ok (.ifCond .ne 10, 3) := by decide +kernel
theorem dX6_write_49 : decode cX6_write 49 = .ok (.aload_n 0, 1) := by decide +kernel
theorem dX6_write_50 : decode cX6_write 50 = .ok (.ldc 43, 2) := by decide +kernel
theorem dX6_write_52 : decode cX6_write 52 = .ok (.invokevirtual 45, 3) := by decide +kernel
theorem dX6_write_55 : decode cX6_write 55 = .ok (.ireturn, 1) := by decide +kernel
theorem dX6_write_56 : decode cX6_write 56 = .ok (.aload_n 0, 1) := by decide +kernel
theorem dX6_write_57 : decode cX6_write 57 = .ok (.getfield 40, 3) := by decide +kernel
theorem dX6_write_60 : decode cX6_write 60 = .ok (.bipush 40, 2) := by decide +kernel
theorem dX6_write_62 : decode cX6_write 62 = .ok (.iload_n 1, 1) := by decide +kernel
theorem dX6_write_63 : decode cX6_write 63 = .ok (.imul, 1) := by decide +kernel
theorem dX6_write_64 : decode cX6_write 64 = .ok (.iload_n 2, 1) := by decide +kernel
theorem dX6_write_65 : decode cX6_write 65 = .ok (.iadd, 1) := by decide +kernel
theorem dX6_write_66 : decode cX6_write 66 = .ok (.aload_n 0, 1) := by decide +kernel
theorem dX6_write_67 : decode cX6_write 67 = .ok (.getfield 34, 3) := by decide +kernel
theorem dX6_write_70 : decode cX6_write 70 = .ok (.iload_n 1, 1) := by decide +kernel
theorem dX6_write_71 : decode cX6_write 71 = .ok (.iaload, 1) := by decide +kernel
theorem dX6_write_72 : decode cX6_write 72 = .ok (.bipush 8, 2) := by decide +kernel
theorem dX6_write_74 : decode cX6_write 74 = .ok (.if_icmp .ne 8, 3) := by decide +kernel
theorem dX6_write_77 : decode cX6_write 77 = .ok (.iload_n 3, 1) := by decide +kernel
theorem dX6_write_78 : decode cX6_write 78 = .ok (.i2b, 1) := by decide +kernel
theorem dX6_write_79 : decode cX6_write 79 = .ok (.goto 20, 3) := by decide +kernel
theorem dX6_write_82 : decode cX6_write 82 = .ok (.aload_n 0, 1) := by decide +kernel
theorem dX6_write_83 : decode cX6_write 83 = .ok (.getfield 34, 3) := by decide +kernel
theorem dX6_write_86 : decode cX6_write 86 = .ok (.iload_n 1, 1) := by decide +kernel
theorem dX6_write_87 : decode cX6_write 87 = .ok (.iaload, 1) := by decide +kernel
theorem dX6_write_88 : decode cX6_write 88 = .ok (.bipush 16, 2) := by decide +kernel
theorem dX6_write_90 : decode cX6_write 90 = .ok (.if_icmp .ne 8, 3) := by decide +kernel
theorem dX6_write_93 : decode cX6_write 93 = .ok (.iload_n 3, 1) := by decide +kernel
theorem dX6_write_94 : decode cX6_write 94 = .ok (.i2s, 1) := by decide +kernel
theorem dX6_write_95 : decode cX6_write 95 = .ok (.goto 4, 3) := by decide +kernel
theorem dX6_write_98 : decode cX6_write 98 = .ok (.iload_n 3, 1) := by decide +kernel
theorem dX6_write_99 : decode cX6_write 99 = .ok (.iastore, 1) := by decide +kernel
theorem dX6_write_100 : decode cX6_write 100 = .ok (.iconst 1, 1) := by decide +kernel
theorem dX6_write_101 : decode cX6_write 101 = .ok (.ireturn, 1) := by decide +kernel
theorem dX6_copy_0 : decode cX6_copy 0 = .ok (.iload_n 1, 1) := by decide +kernel
theorem dX6_copy_1 : decode cX6_copy 1 = .ok (.invokestatic 292, 3) := by decide +kernel
theorem dX6_copy_4 : decode cX6_copy 4 = .ok (.ifCond .eq 10, 3) := by decide +kernel
theorem dX6_copy_7 : decode cX6_copy 7 = .ok (.iload_n 3, 1) := by decide +kernel
theorem dX6_copy_8 : decode cX6_copy 8 = .ok (.invokestatic 292, 3) := by decide +kernel
theorem dX6_copy_11 : decode cX6_copy 11 = .ok (.ifCond .ne 10, 3) := by decide +kernel
theorem dX6_copy_14 : decode cX6_copy 14 = .ok (.aload_n 0, 1) := by decide +kernel
theorem dX6_copy_15 : decode cX6_copy 15 = .ok (.ldc 43, 2) := by decide +kernel
theorem dX6_copy_17 : decode cX6_copy 17 = .ok (.invokevirtual 45, 3) := by decide +kernel
theorem dX6_copy_20 : decode cX6_copy 20 = .ok (.ireturn, 1) := by decide +kernel
theorem dX6_copy_21 : decode cX6_copy 21 = .ok (.aload_n 0, 1) := by decide +kernel
theorem dX6_copy_22 : decode cX6_copy 22 = .ok (.getfield 34, 3) := by decide +kernel
theorem dX6_copy_25 : decode cX6_copy 25 = .ok (.iload_n 1, 1) := by decide +kernel
theorem dX6_copy_26 : decode cX6_copy 26 = .ok (.iaload, 1) := by decide +kernel
theorem dX6_copy_27 : decode cX6_copy 27 = .ok (.ifCond .eq 12, 3) := by decide +kernel
theorem dX6_copy_30 : decode cX6_copy 30 = .ok (.aload_n 0, 1) := by decide +kernel
theorem dX6_copy_31 : decode cX6_copy 31 = .ok (.getfield 34, 3) := by decide +kernel
theorem dX6_copy_34 : decode cX6_copy 34 = .ok (.iload_n 3, 1) := by decide +kernel
theorem dX6_copy_35 : decode cX6_copy 35 = .ok (.iaload, 1) := by decide +kernel
theorem dX6_copy_36 : decode cX6_copy 36 = .ok (.ifCond .ne 11, 3) := by decide +kernel
theorem dX6_copy_39 : decode cX6_copy 39 = .ok (.aload_n 0, 1) := by decide +kernel
theorem dX6_copy_40 : decode cX6_copy 40 = .ok (.ldc_w 287, 3) := by decide +kernel
theorem dX6_copy_43 : decode cX6_copy 43 = .ok (.invokevirtual 45, 3) := by decide +kernel
theorem dX6_copy_46 : decode cX6_copy 46 = .ok (.ireturn, 1) := by decide +kernel
theorem dX6_copy_47 : decode cX6_copy 47 = .ok (.aload_n 0, 1) := by decide +kernel
theorem dX6_copy_48 : decode cX6_copy 48 = .ok (.getfield 34, 3) := by decide +kernel
theorem dX6_copy_51 : decode cX6_copy 51 = .ok (.iload_n 1, 1) := by decide +kernel
theorem dX6_copy_52 : decode cX6_copy 52 = .ok (.iaload, 1) := by decide +kernel
theorem dX6_copy_53 : decode cX6_copy 53 = .ok (.aload_n 0, 1) := by decide +kernel
theorem dX6_copy_54 : decode cX6_copy 54 = .ok (.getfield 34, 3) := by decide +kernel
theorem dX6_copy_57 : decode cX6_copy 57 = .ok (.iload_n 3, 1) := by decide +kernel
theorem dX6_copy_58 : decode cX6_copy 58 = .ok (.iaload, 1) := by decide +kernel
theorem dX6_copy_59 : decode cX6_copy 59 = .ok (.if_icmp .eq 11, 3) := by decide +kernel
theorem dX6_copy_62 : decode cX6_copy 62 = .ok (.aload_n 0, 1) := by decide +kernel
theorem dX6_copy_63 : decode cX6_copy 63 = .ok (.ldc_w 291, 3) := by decide +kernel
theorem dX6_copy_66 : decode cX6_copy 66 = .ok (.invokevirtual 45, 3) := by decide +kernel
theorem dX6_copy_69 : decode cX6_copy 69 = .ok (.ireturn, 1) := by decide +kernel
theorem dX6_copy_70 : decode cX6_copy 70 = .ok (.iload 5, 2) := by decide +kernel
theorem dX6_copy_72 : decode cX6_copy 72 = .ok (.ifCond .lt 39, 3) := by decide +kernel
theorem dX6_copy_75 : decode cX6_copy 75 = .ok (.iload_n 2, 1) := by decide +kernel
theorem dX6_copy_76 : decode cX6_copy 76 = .ok (.ifCond .lt 35, 3) := by decide +kernel
theorem dX6_copy_79 : decode cX6_copy 79 = .ok (.iload 4, 2) := by decide +kernel
theorem dX6_copy_81 : decode cX6_copy 81 = .ok (.ifCond .lt 30, 3) := by decide +kernel
theorem dX6_copy_84 : decode cX6_copy 84 = .ok (.iload 5, 2) := by decide +kernel
theorem dX6_copy_86 : decode cX6_copy 86 = .ok (.aload_n 0, 1) := by decide +kernel
theorem dX6_copy_87 : decode cX6_copy 87 = .ok (.getfield 37, 3) := by decide +kernel
theorem dX6_copy_90 : decode cX6_copy 90 = .ok (.iload_n 1, 1) := by decide +kernel
theorem dX6_copy_91 : decode cX6_copy 91 = .ok (.iaload, 1) := by decide +kernel
theorem dX6_copy_92 : decode cX6_copy 92 = .ok (.iload_n 2, 1) := by decide +kernel
theorem dX6_copy_93 : decode cX6_copy 93 = .ok (.isub, 1) := by decide +kernel
theorem dX6_copy_94 : decode cX6_copy 94 = .ok (.if_icmp .gt 17, 3) := by decide +kernel
theorem dX6_copy_97 : decode cX6_copy 97 = .ok (.iload 5, 2) := by decide +kernel
theorem dX6_copy_99 : decode cX6_copy 99 = .ok (.aload_n 0, 1) := by decide +kernel
theorem dX6_copy_100 : decode cX6_copy 100 = .ok (.getfield 37, 3) := by decide +kernel
theorem dX6_copy_103 : decode cX6_copy 103 = .ok (.iload_n 3, 1) := by decide +kernel
theorem dX6_copy_104 : decode cX6_copy 104 = .ok (.iaload, 1) := by decide +kernel
theorem dX6_copy_105 : decode cX6_copy 105 = .ok (.iload 4, 2) := by decide +kernel
theorem dX6_copy_107 : decode cX6_copy 107 = .ok (.isub, 1) := by decide +kernel
theorem dX6_copy_108 : decode cX6_copy 108 = .ok (.if_icmp .le 10, 3) := by decide +kernel
theorem dX6_copy_111 : decode cX6_copy 111 = .ok (.aload_n 0, 1) := by decide +kernel
theorem dX6_copy_112 : decode cX6_copy 112 = .ok (.ldc 43, 2) := by decide +kernel
theorem dX6_copy_114 : decode cX6_copy 114 = .ok (.invokevirtual 45, 3) := by decide +kernel
theorem dX6_copy_117 : decode cX6_copy 117 = .ok (.ireturn, 1) := by decide +kernel
theorem dX6_copy_118 : decode cX6_copy 118 = .ok (.iload_n 1, 1) := by decide +kernel
theorem dX6_copy_119 : decode cX6_copy 119 = .ok (.iload_n 3, 1) := by decide +kernel
theorem dX6_copy_120 : decode cX6_copy 120 = .ok (.if_icmp .ne 13, 3) := by decide +kernel
theorem dX6_copy_123 : decode cX6_copy 123 = .ok (.iload_n 2, 1) := by decide +kernel
theorem dX6_copy_124 : decode cX6_copy 124 = .ok (.iload 4, 2) := by decide +kernel
theorem dX6_copy_126 : decode cX6_copy 126 = .ok (.if_icmp .ge 7, 3) := by decide +kernel
theorem dX6_copy_129 : decode cX6_copy 129 = .ok (.iconst 1, 1) := by decide +kernel
theorem dX6_copy_130 : decode cX6_copy 130 = .ok (.goto 4, 3) := by decide +kernel
theorem dX6_copy_133 : decode cX6_copy 133 = .ok (.iconst 0, 1) := by decide +kernel
theorem dX6_copy_134 : decode cX6_copy 134 = .ok (.istore 6, 2) := by decide +kernel
theorem dX6_copy_136 : decode cX6_copy 136 = .ok (.iconst 0, 1) := by decide +kernel
theorem dX6_copy_137 : decode cX6_copy 137 = .ok (.istore 7, 2) := by decide +kernel
theorem dX6_copy_139 : decode cX6_copy 139 = .ok (.iload 7, 2) := by decide +kernel
theorem dX6_copy_141 : decode cX6_copy 141 = .ok (.iload 5, 2) := by decide +kernel
theorem dX6_copy_143 : decode cX6_copy 143 = .ok (.if_icmp .ge 57, 3) := by decide +kernel
theorem dX6_copy_146 : decode cX6_copy 146 = .ok (.iload 6, 2) := by decide +kernel
theorem dX6_copy_148 : decode cX6_copy 148 = .ok (.ifCond .eq 13, 3) := by decide +kernel
theorem dX6_copy_151 : decode cX6_copy 151 = .ok (.iload 5, 2) := by decide +kernel
theorem dX6_copy_153 : decode cX6_copy 153 = .ok (.iconst 1, 1) := by decide +kernel
theorem dX6_copy_154 : decode cX6_copy 154 = .ok (.isub, 1) := by decide +kernel
theorem dX6_copy_155 : decode cX6_copy 155 = .ok (.iload 7, 2) := by decide +kernel
theorem dX6_copy_157 : decode cX6_copy 157 = .ok (.isub, 1) := by decide +kernel
theorem dX6_copy_158 : decode cX6_copy 158 = .ok (.goto 5, 3) := by decide +kernel
theorem dX6_copy_161 : decode cX6_copy 161 = .ok (.iload 7, 2) := by decide +kernel
theorem dX6_copy_163 : decode cX6_copy 163 = .ok (.istore 8, 2) := by decide +kernel
theorem dX6_copy_165 : decode cX6_copy 165 = .ok (.aload_n 0, 1) := by decide +kernel
theorem dX6_copy_166 : decode cX6_copy 166 = .ok (.getfield 40, 3) := by decide +kernel
theorem dX6_copy_169 : decode cX6_copy 169 = .ok (.bipush 40, 2) := by decide +kernel
theorem dX6_copy_171 : decode cX6_copy 171 = .ok (.iload_n 3, 1) := by decide +kernel
theorem dX6_copy_172 : decode cX6_copy 172 = .ok (.imul, 1) := by decide +kernel
theorem dX6_copy_173 : decode cX6_copy 173 = .ok (.iload 4, 2) := by decide +kernel
theorem dX6_copy_175 : decode cX6_copy 175 = .ok (.iadd, 1) := by decide +kernel
theorem dX6_copy_176 : decode cX6_copy 176 = .ok (.iload 8, 2) := by decide +kernel
theorem dX6_copy_178 : decode cX6_copy 178 = .ok (.iadd, 1) := by decide +kernel
theorem dX6_copy_179 : decode cX6_copy 179 = .ok (.aload_n 0, 1) := by decide +kernel
theorem dX6_copy_180 : decode cX6_copy 180 = .ok (.getfield 40, 3) := by decide +kernel
theorem dX6_copy_183 : decode cX6_copy 183 = .ok (.bipush 40, 2) := by decide +kernel
theorem dX6_copy_185 : decode cX6_copy 185 = .ok (.iload_n 1, 1) := by decide +kernel
theorem dX6_copy_186 : decode cX6_copy 186 = .ok (.imul, 1) := by decide +kernel
theorem dX6_copy_187 : decode cX6_copy 187 = .ok (.iload_n 2, 1) := by decide +kernel
theorem dX6_copy_188 : decode cX6_copy 188 = .ok (.iadd, 1) := by decide +kernel
theorem dX6_copy_189 : decode cX6_copy 189 = .ok (.iload 8, 2) := by decide +kernel
theorem dX6_copy_191 : decode cX6_copy 191 = .ok (.iadd, 1) := by decide +kernel
theorem dX6_copy_192 : decode cX6_copy 192 = .ok (.iaload, 1) := by decide +kernel
theorem dX6_copy_193 : decode cX6_copy 193 = .ok (.iastore, 1) := by decide +kernel
theorem dX6_copy_194 : decode cX6_copy 194 = .ok (.iinc 7 1, 3) := by decide +kernel
theorem dX6_copy_197 : decode cX6_copy 197 = .ok (.goto (-58), 3) := by decide +kernel
theorem dX6_copy_200 : decode cX6_copy 200 = .ok (.iload 5, 2) := by decide +kernel
theorem dX6_copy_202 : decode cX6_copy 202 = .ok (.ireturn, 1) := by decide +kernel
theorem dX6_load_0 : decode cX6_load 0 = .ok (.iload_n 1, 1) := by decide +kernel
theorem dX6_load_1 : decode cX6_load 1 = .ok (.invokestatic 292, 3) := by decide +kernel
theorem dX6_load_4 : decode cX6_load 4 = .ok (.ifCond .ne 10, 3) := by decide +kernel
theorem dX6_load_7 : decode cX6_load 7 = .ok (.aload_n 0, 1) := by decide +kernel
theorem dX6_load_8 : decode cX6_load 8 = .ok (.ldc 43, 2) := by decide +kernel
theorem dX6_load_10 : decode cX6_load 10 = .ok (.invokevirtual 45, 3) := by decide +kernel
theorem dX6_load_13 : decode cX6_load 13 = .ok (.ireturn, 1) := by decide +kernel
theorem dX6_load_14 : decode cX6_load 14 = .ok (.aload_n 0, 1) := by decide +kernel
theorem dX6_load_15 : decode cX6_load 15 = .ok (.getfield 34, 3) := by decide +kernel
theorem dX6_load_18 : decode cX6_load 18 = .ok (.iload_n 1, 1) := by decide +kernel
theorem dX6_load_19 : decode cX6_load 19 = .ok (.iaload, 1) := by decide +kernel
theorem dX6_load_20 : decode cX6_load 20 = .ok (.ifCond .ne 11, 3) := by decide +kernel
theorem dX6_load_23 : decode cX6_load 23 = .ok (.aload_n 0, 1) := by decide +kernel
theorem dX6_load_24 : decode cX6_load 24 = .ok (.ldc_w 287, 3) := by decide +kernel
theorem dX6_load_27 : decode cX6_load 27 = .ok (.invokevirtual 45, 3) := by decide +kernel
theorem dX6_load_30 : decode cX6_load 30 = .ok (.ireturn, 1) := by decide +kernel
theorem dX6_load_31 : decode cX6_load 31 = .ok (.iconst 0, 1) := by decide +kernel
theorem dX6_load_32 : decode cX6_load 32 = .ok (.istore_n 2, 1) := by decide +kernel
theorem dX6_load_33 : decode cX6_load 33 = .ok (.iload_n 2, 1) := by decide +kernel
theorem dX6_load_34 : decode cX6_load 34 = .ok (.aload_n 0, 1) := by decide +kernel
theorem dX6_load_35 : decode cX6_load 35 = .ok (.getfield 37, 3) := by decide +kernel
theorem dX6_load_38 : decode cX6_load 38 = .ok (.iload_n 1, 1) := by decide +kernel
theorem dX6_load_39 : decode cX6_load 39 = .ok (.iaload, 1) := by decide +kernel
theorem dX6_load_40 : decode cX6_load 40 = .ok (.if_icmp .ge 65, 3) := by decide +kernel
theorem dX6_load_43 : decode cX6_load 43 = .ok (.iload_n 2, 1) := by decide +kernel
theorem dX6_load_44 : decode cX6_load 44 = .ok (.aload_n 0, 1) := by decide +kernel
theorem dX6_load_45 : decode cX6_load 45 = .ok (.getfield 9, 3) := by decide +kernel
theorem dX6_load_48 : decode cX6_load 48 = .ok (.iconst 0, 1) := by decide +kernel
theorem dX6_load_49 : decode cX6_load 49 = .ok (.iaload, 1) := by decide +kernel
theorem dX6_load_50 : decode cX6_load 50 = .ok (.if_icmp .ge 55, 3) := by decide +kernel
theorem dX6_load_53 : decode cX6_load 53 = .ok (.aload_n 0, 1) := by decide +kernel
theorem dX6_load_54 : decode cX6_load 54 = .ok (.getfield 40, 3) := by decide +kernel
theorem dX6_load_57 : decode cX6_load 57 = .ok (.bipush 40, 2) := by decide +kernel
theorem dX6_load_59 : decode cX6_load 59 = .ok (.iload_n 1, 1) := by decide +kernel
theorem dX6_load_60 : decode cX6_load 60 = .ok (.imul, 1) := by decide +kernel
theorem dX6_load_61 : decode cX6_load 61 = .ok (.iload_n 2, 1) := by decide +kernel
theorem dX6_load_62 : decode cX6_load 62 = .ok (.iadd, 1) := by decide +kernel
theorem dX6_load_63 : decode cX6_load 63 = .ok (.iaload, 1) := by decide +kernel
theorem dX6_load_64 : decode cX6_load 64 = .ok (.i2l, 1) := by decide +kernel
theorem dX6_load_65 : decode cX6_load 65 = .ok (.lconst 0, 1) := by decide +kernel
theorem dX6_load_66 : decode cX6_load 66 = .ok (.ldc2_w 63, 3) := by decide +kernel
theorem dX6_load_69 : decode cX6_load 69 = .ok (.invokestatic 49, 3) := by decide +kernel
theorem dX6_load_72 : decode cX6_load 72 = .ok (.ifCond .eq 33, 3) := by decide +kernel
theorem dX6_load_75 : decode cX6_load 75 = .ok (.aload_n 0, 1) := by decide +kernel
theorem dX6_load_76 : decode cX6_load 76 = .ok (.getfield 9, 3) := by decide +kernel
theorem dX6_load_79 : decode cX6_load 79 = .ok (.bipush 10, 2) := by decide +kernel
theorem dX6_load_81 : decode cX6_load 81 = .ok (.iconst 3, 1) := by decide +kernel
theorem dX6_load_82 : decode cX6_load 82 = .ok (.iload_n 2, 1) := by decide +kernel
theorem dX6_load_83 : decode cX6_load 83 = .ok (.imul, 1) := by decide +kernel
theorem dX6_load_84 : decode cX6_load 84 = .ok (.iadd, 1) := by decide +kernel
theorem dX6_load_85 : decode cX6_load 85 = .ok (.iconst 2, 1) := by decide +kernel
theorem dX6_load_86 : decode cX6_load 86 = .ok (.iadd, 1) := by decide +kernel
theorem dX6_load_87 : decode cX6_load 87 = .ok (.aload_n 0, 1) := by decide +kernel
theorem dX6_load_88 : decode cX6_load 88 = .ok (.getfield 40, 3) := by decide +kernel
theorem dX6_load_91 : decode cX6_load 91 = .ok (.bipush 40, 2) := by decide +kernel
theorem dX6_load_93 : decode cX6_load 93 = .ok (.iload_n 1, 1) := by decide +kernel
theorem dX6_load_94 : decode cX6_load 94 = .ok (.imul, 1) := by decide +kernel
theorem dX6_load_95 : decode cX6_load 95 = .ok (.iload_n 2, 1) := by decide +kernel
theorem dX6_load_96 : decode cX6_load 96 = .ok (.iadd, 1) := by decide +kernel
theorem dX6_load_97 : decode cX6_load 97 = .ok (.iaload, 1) := by decide +kernel
theorem dX6_load_98 : decode cX6_load 98 = .ok (.iastore, 1) := by decide +kernel
theorem dX6_load_99 : decode cX6_load 99 = .ok (.iinc 2 1, 3) := by decide +kernel
theorem dX6_load_102 : decode cX6_load 102 = .ok (.goto (-69), 3) := by decide +kernel
theorem dX6_load_105 : decode cX6_load 105 = .ok (.iload_n 2, 1) := by decide +kernel
theorem dX6_load_106 : decode cX6_load 106 = .ok (.ireturn, 1) := by decide +kernel
theorem dX6_judge_0 : decode cX6_judge 0 = .ok (.iload_n 1, 1) := by decide +kernel
theorem dX6_judge_1 : decode cX6_judge 1 = .ok (.invokestatic 292, 3) := by decide +kernel
theorem dX6_judge_4 : decode cX6_judge 4 = .ok (.ifCond .ne 10, 3) := by decide +kernel
theorem dX6_judge_7 : decode cX6_judge 7 = .ok (.aload_n 0, 1) := by decide +kernel
theorem dX6_judge_8 : decode cX6_judge 8 = .ok (.ldc 43, 2) := by decide +kernel
theorem dX6_judge_10 : decode cX6_judge 10 = .ok (.invokevirtual 45, 3) := by decide +kernel
theorem dX6_judge_13 : decode cX6_judge 13 = .ok (.ireturn, 1) := by decide +kernel
theorem dX6_judge_14 : decode cX6_judge 14 = .ok (.aload_n 0, 1) := by decide +kernel
theorem dX6_judge_15 : decode cX6_judge 15 = .ok (.getfield 34, 3) := by decide +kernel
theorem dX6_judge_18 : decode cX6_judge 18 = .ok (.iload_n 1, 1) := by decide +kernel
theorem dX6_judge_19 : decode cX6_judge 19 = .ok (.iaload, 1) := by decide +kernel
theorem dX6_judge_20 : decode cX6_judge 20 = .ok (.ifCond .ne 11, 3) := by decide +kernel
theorem dX6_judge_23 : decode cX6_judge 23 = .ok (.aload_n 0, 1) := by decide +kernel
theorem dX6_judge_24 : decode cX6_judge 24 = .ok (.ldc_w 287, 3) := by decide +kernel
theorem dX6_judge_27 : decode cX6_judge 27 = .ok (.invokevirtual 45, 3) := by decide +kernel
theorem dX6_judge_30 : decode cX6_judge 30 = .ok (.ireturn, 1) := by decide +kernel
theorem dX6_judge_31 : decode cX6_judge 31 = .ok (.iconst 1, 1) := by decide +kernel
theorem dX6_judge_32 : decode cX6_judge 32 = .ok (.aload_n 0, 1) := by decide +kernel
theorem dX6_judge_33 : decode cX6_judge 33 = .ok (.getfield 9, 3) := by decide +kernel
theorem dX6_judge_36 : decode cX6_judge 36 = .ok (.iconst 1, 1) := by decide +kernel
theorem dX6_judge_37 : decode cX6_judge 37 = .ok (.iaload, 1) := by decide +kernel
theorem dX6_judge_38 : decode cX6_judge 38 = .ok (.ishl, 1) := by decide +kernel
theorem dX6_judge_39 : decode cX6_judge 39 = .ok (.iconst 1, 1) := by decide +kernel
theorem dX6_judge_40 : decode cX6_judge 40 = .ok (.isub, 1) := by decide +kernel
theorem dX6_judge_41 : decode cX6_judge 41 = .ok (.istore_n 2, 1) := by decide +kernel
theorem dX6_judge_42 : decode cX6_judge 42 = .ok (.iconst 0, 1) := by decide +kernel
theorem dX6_judge_43 : decode cX6_judge 43 = .ok (.istore_n 3, 1) := by decide +kernel
theorem dX6_judge_44 : decode cX6_judge 44 = .ok (.iload_n 3, 1) := by decide +kernel
theorem dX6_judge_45 : decode cX6_judge 45 = .ok (.iconst 1, 1) := by decide +kernel
theorem dX6_judge_46 : decode cX6_judge 46 = .ok (.iadd, 1) := by decide +kernel
theorem dX6_judge_47 : decode cX6_judge 47 = .ok (.aload_n 0, 1) := by decide +kernel
theorem dX6_judge_48 : decode cX6_judge 48 = .ok (.getfield 37, 3) := by decide +kernel
theorem dX6_judge_51 : decode cX6_judge 51 = .ok (.iload_n 1, 1) := by decide +kernel
theorem dX6_judge_52 : decode cX6_judge 52 = .ok (.iaload, 1) := by decide +kernel
theorem dX6_judge_53 : decode cX6_judge 53 = .ok (.if_icmp .ge 95, 3) := by decide +kernel
theorem dX6_judge_56 : decode cX6_judge 56 = .ok (.aload_n 0, 1) := by decide +kernel
theorem dX6_judge_57 : decode cX6_judge 57 = .ok (.getfield 40, 3) := by decide +kernel
theorem dX6_judge_60 : decode cX6_judge 60 = .ok (.bipush 40, 2) := by decide +kernel
theorem dX6_judge_62 : decode cX6_judge 62 = .ok (.iload_n 1, 1) := by decide +kernel
theorem dX6_judge_63 : decode cX6_judge 63 = .ok (.imul, 1) := by decide +kernel
theorem dX6_judge_64 : decode cX6_judge 64 = .ok (.iload_n 3, 1) := by decide +kernel
theorem dX6_judge_65 : decode cX6_judge 65 = .ok (.iadd, 1) := by decide +kernel
theorem dX6_judge_66 : decode cX6_judge 66 = .ok (.iaload, 1) := by decide +kernel
theorem dX6_judge_67 : decode cX6_judge 67 = .ok (.istore 4, 2) := by decide +kernel
theorem dX6_judge_69 : decode cX6_judge 69 = .ok (.iload 4, 2) := by decide +kernel
theorem dX6_judge_71 : decode cX6_judge 71 = .ok (.i2l, 1) := by decide +kernel
theorem dX6_judge_72 : decode cX6_judge 72 = .ok (.lconst 0, 1) := by decide +kernel
theorem dX6_judge_73 : decode cX6_judge 73 = .ok (.ldc2_w 285, 3) := by decide +kernel
theorem dX6_judge_76 : decode cX6_judge 76 = .ok (.invokestatic 49, 3) := by decide +kernel
theorem dX6_judge_79 : decode cX6_judge 79 = .ok (.ifCond .ne 10, 3) := by decide +kernel
theorem dX6_judge_82 : decode cX6_judge 82 = .ok (.aload_n 0, 1) := by decide +kernel
theorem dX6_judge_83 : decode cX6_judge 83 = .ok (.ldc 150, 2) := by decide +kernel
theorem dX6_judge_85 : decode cX6_judge 85 = .ok (.invokevirtual 45, 3) := by decide +kernel
theorem dX6_judge_88 : decode cX6_judge 88 = .ok (.ireturn, 1) := by decide +kernel
theorem dX6_judge_89 : decode cX6_judge 89 = .ok (.iconst 0, 1) := by decide +kernel
theorem dX6_judge_90 : decode cX6_judge 90 = .ok (.istore 5, 2) := by decide +kernel
theorem dX6_judge_92 : decode cX6_judge 92 = .ok (.iload 5, 2) := by decide +kernel
theorem dX6_judge_94 : decode cX6_judge 94 = .ok (.aload_n 0, 1) := by decide +kernel
theorem dX6_judge_95 : decode cX6_judge 95 = .ok (.getfield 9, 3) := by decide +kernel
theorem dX6_judge_98 : decode cX6_judge 98 = .ok (.iconst 1, 1) := by decide +kernel
theorem dX6_judge_99 : decode cX6_judge 99 = .ok (.iaload, 1) := by decide +kernel
theorem dX6_judge_100 : decode cX6_judge 100 = .ok (.if_icmp .ge 42, 3) := by decide +kernel
theorem dX6_judge_103 : decode cX6_judge 103 = .ok (.aload_n 0, 1) := by decide +kernel
theorem dX6_judge_104 : decode cX6_judge 104 = .ok (.iload 4, 2) := by decide +kernel
theorem dX6_judge_106 : decode cX6_judge 106 = .ok (.iload 5, 2) := by decide +kernel
theorem dX6_judge_108 : decode cX6_judge 108 = .ok (.invokevirtual 114, 3) := by decide +kernel
theorem dX6_judge_111 : decode cX6_judge 111 = .ok (.aload_n 0, 1) := by decide +kernel
theorem dX6_judge_112 : decode cX6_judge 112 = .ok (.getfield 40, 3) := by decide +kernel
theorem dX6_judge_115 : decode cX6_judge 115 = .ok (.bipush 40, 2) := by decide +kernel
theorem dX6_judge_117 : decode cX6_judge 117 = .ok (.iload_n 1, 1) := by decide +kernel
theorem dX6_judge_118 : decode cX6_judge 118 = .ok (.imul, 1) := by decide +kernel
theorem dX6_judge_119 : decode cX6_judge 119 = .ok (.iload_n 3, 1) := by decide +kernel
theorem dX6_judge_120 : decode cX6_judge 120 = .ok (.iadd, 1) := by decide +kernel
theorem dX6_judge_121 : decode cX6_judge 121 = .ok (.iconst 1, 1) := by decide +kernel
theorem dX6_judge_122 : decode cX6_judge 122 = .ok (.iadd, 1) := by decide +kernel
theorem dX6_judge_123 : decode cX6_judge 123 = .ok (.iaload, 1) := by decide +kernel
theorem dX6_judge_124 : decode cX6_judge 124 = .ok (.if_icmp .eq 12, 3) := by decide +kernel
theorem dX6_judge_127 : decode cX6_judge 127 = .ok (.iload_n 2, 1) := by decide +kernel
theorem dX6_judge_128 : decode cX6_judge 128 = .ok (.iconst 1, 1) := by decide +kernel
theorem dX6_judge_129 : decode cX6_judge 129 = .ok (.iload 5, 2) := by decide +kernel
theorem dX6_judge_131 : decode cX6_judge 131 = .ok (.ishl, 1) := by decide +kernel
theorem dX6_judge_132 : decode cX6_judge 132 = .ok (.iconst (-1), 1) := by decide +kernel
theorem dX6_judge_133 : decode cX6_judge 133 = .ok (.ixor, 1) := by decide +kernel
theorem dX6_judge_134 : decode cX6_judge 134 = .ok (.iand, 1) := by decide +kernel
theorem dX6_judge_135 : decode cX6_judge 135 = .ok (.istore_n 2, 1) := by decide +kernel
theorem dX6_judge_136 : decode cX6_judge 136 = .ok (.iinc 5 1, 3) := by decide +kernel
theorem dX6_judge_139 : decode cX6_judge 139 = .ok (.goto (-47), 3) := by decide +kernel
theorem dX6_judge_142 : decode cX6_judge 142 = .ok (.iinc 3 2, 3) := by decide +kernel
theorem dX6_judge_145 : decode cX6_judge 145 = .ok (.goto (-101), 3) := by decide +kernel
theorem dX6_judge_148 : decode cX6_judge 148 = .ok (.iload_n 2, 1) := by decide +kernel
theorem dX6_judge_149 : decode cX6_judge 149 = .ok (.ireturn, 1) := by decide +kernel
theorem dX6_image_0 : decode cX6_image 0 = .ok (.aload_n 0, 1) := by decide +kernel
theorem dX6_image_1 : decode cX6_image 1 = .ok (.getfield 9, 3) := by decide +kernel
theorem dX6_image_4 : decode cX6_image 4 = .ok (.aload_n 0, 1) := by decide +kernel
theorem dX6_image_5 : decode cX6_image 5 = .ok (.getfield 13, 3) := by decide +kernel
theorem dX6_image_8 : decode cX6_image 8 = .ok (.invokestatic 201, 3) := by decide +kernel
theorem dX6_image_11 : decode cX6_image 11 = .ok (.aload_n 0, 1) := by decide +kernel
theorem dX6_image_12 : decode cX6_image 12 = .ok (.iconst 1, 1) := by decide +kernel
theorem dX6_image_13 : decode cX6_image 13 = .ok (.putfield 296, 3) := by decide +kernel
theorem dX6_image_16 : decode cX6_image 16 = .ok (.iconst 1, 1) := by decide +kernel
theorem dX6_image_17 : decode cX6_image 17 = .ok (.ireturn, 1) := by decide +kernel
theorem dX6_undo_0 : decode cX6_undo 0 = .ok (.aload_n 0, 1) := by decide +kernel
theorem dX6_undo_1 : decode cX6_undo 1 = .ok (.getfield 296, 3) := by decide +kernel
theorem dX6_undo_4 : decode cX6_undo 4 = .ok (.ifCond .ne 10, 3) := by decide +kernel
theorem dX6_undo_7 : decode cX6_undo 7 = .ok (.aload_n 0, 1) := by decide +kernel
theorem dX6_undo_8 : decode cX6_undo 8 = .ok (.ldc 44, 2) := by decide +kernel
theorem dX6_undo_10 : decode cX6_undo 10 = .ok (.invokevirtual 45, 3) := by decide +kernel
theorem dX6_undo_13 : decode cX6_undo 13 = .ok (.ireturn, 1) := by decide +kernel
theorem dX6_undo_14 : decode cX6_undo 14 = .ok (.aload_n 0, 1) := by decide +kernel
theorem dX6_undo_15 : decode cX6_undo 15 = .ok (.getfield 13, 3) := by decide +kernel
theorem dX6_undo_18 : decode cX6_undo 18 = .ok (.aload_n 0, 1) := by decide +kernel
theorem dX6_undo_19 : decode cX6_undo 19 = .ok (.getfield 9, 3) := by decide +kernel
theorem dX6_undo_22 : decode cX6_undo 22 = .ok (.invokestatic 201, 3) := by decide +kernel
theorem dX6_undo_25 : decode cX6_undo 25 = .ok (.aload_n 0, 1) := by decide +kernel
theorem dX6_undo_26 : decode cX6_undo 26 = .ok (.getfield 9, 3) := by decide +kernel
theorem dX6_undo_29 : decode cX6_undo 29 = .ok (.iconst 1, 1) := by decide +kernel
theorem dX6_undo_30 : decode cX6_undo 30 = .ok (.iaload, 1) := by decide +kernel
theorem dX6_undo_31 : decode cX6_undo 31 = .ok (.ireturn, 1) := by decide +kernel
theorem dX6_tear_0 : decode cX6_tear 0 = .ok (.aload_n 0, 1) := by decide +kernel
theorem dX6_tear_1 : decode cX6_tear 1 = .ok (.getfield 296, 3) := by decide +kernel
theorem dX6_tear_4 : decode cX6_tear 4 = .ok (.ifCond .eq 7, 3) := by decide +kernel
theorem dX6_tear_7 : decode cX6_tear 7 = .ok (.iconst 1, 1) := by decide +kernel
theorem dX6_tear_8 : decode cX6_tear 8 = .ok (.goto 4, 3) := by decide +kernel
theorem dX6_tear_11 : decode cX6_tear 11 = .ok (.iconst 0, 1) := by decide +kernel
theorem dX6_tear_12 : decode cX6_tear 12 = .ok (.istore_n 1, 1) := by decide +kernel
theorem dX6_tear_13 : decode cX6_tear 13 = .ok (.aload_n 0, 1) := by decide +kernel
theorem dX6_tear_14 : decode cX6_tear 14 = .ok (.iconst 0, 1) := by decide +kernel
theorem dX6_tear_15 : decode cX6_tear 15 = .ok (.putfield 296, 3) := by decide +kernel
theorem dX6_tear_18 : decode cX6_tear 18 = .ok (.iload_n 1, 1) := by decide +kernel
theorem dX6_tear_19 : decode cX6_tear 19 = .ok (.ireturn, 1) := by decide +kernel
theorem dX6_allSyllables_0 : decode cX6_allSyllables 0 = .ok (.iconst 0, 1) := by decide +kernel
theorem dX6_allSyllables_1 : decode cX6_allSyllables 1 = .ok (.istore_n 1, 1) := by decide +kernel
theorem dX6_allSyllables_2 : decode cX6_allSyllables 2 = .ok (.iconst 0, 1) := by decide +kernel
theorem dX6_allSyllables_3 : decode cX6_allSyllables 3 = .ok (.istore_n 2, 1) := by decide +kernel
theorem dX6_allSyllables_4 : decode cX6_allSyllables 4 = .ok (.iload_n 2, 1) := by decide +kernel
theorem dX6_allSyllables_5 : decode cX6_allSyllables 5 = .ok (.aload_n 0, 1) := by decide +kernel
theorem dX6_allSyllables_6 : decode cX6_allSyllables 6 = .ok (.getfield 9, 3) := by decide +kernel
theorem dX6_allSyllables_9 : decode cX6_allSyllables 9 = .ok (.iconst 0, 1) := by decide +kernel
theorem dX6_allSyllables_10 : decode cX6_allSyllables 10 = .ok (.iaload, 1) := by decide +kernel
theorem dX6_allSyllables_11 : decode cX6_allSyllables 11 = .ok (.if_icmp .ge 18, 3) := by decide +kernel
theorem dX6_allSyllables_14 : decode cX6_allSyllables 14 = .ok (.iload_n 1, 1) := by decide +kernel
theorem dX6_allSyllables_15 : decode cX6_allSyllables 15 = .ok (.aload_n 0, 1) := by decide +kernel
theorem dX6_allSyllables_16 : decode cX6_allSyllables 16 = .ok (.iload_n 2, 1) := by decide +kernel
theorem dX6_allSyllables_17 : decode cX6_allSyllables 17 = .ok (.iconst 0, 1) := by decide +kernel
theorem dX6_allSyllables_18 : decode cX6_allSyllables 18 = .ok (.invokevirtual 82, 3) := by decide +kernel
theorem dX6_allSyllables_21 : decode cX6_allSyllables 21 = .ok (.iadd, 1) := by decide +kernel
theorem dX6_allSyllables_22 : decode cX6_allSyllables 22 = .ok (.istore_n 1, 1) := by decide +kernel
theorem dX6_allSyllables_23 : decode cX6_allSyllables 23 = .ok (.iinc 2 1, 3) := by decide +kernel
theorem dX6_allSyllables_26 : decode cX6_allSyllables 26 = .ok (.goto (-22), 3) := by decide +kernel
theorem dX6_allSyllables_29 : decode cX6_allSyllables 29 = .ok (.iload_n 1, 1) := by decide +kernel
theorem dX6_allSyllables_30 : decode cX6_allSyllables 30 = .ok (.ireturn, 1) := by decide +kernel
theorem dX6_holding_0 : decode cX6_holding 0 = .ok (.iconst 0, 1) := by decide +kernel
theorem dX6_holding_1 : decode cX6_holding 1 = .ok (.istore_n 1, 1) := by decide +kernel
theorem dX6_holding_2 : decode cX6_holding 2 = .ok (.iconst 0, 1) := by decide +kernel
theorem dX6_holding_3 : decode cX6_holding 3 = .ok (.istore_n 2, 1) := by decide +kernel
theorem dX6_holding_4 : decode cX6_holding 4 = .ok (.iload_n 2, 1) := by decide +kernel
theorem dX6_holding_5 : decode cX6_holding 5 = .ok (.bipush 10, 2) := by decide +kernel
theorem dX6_holding_7 : decode cX6_holding 7 = .ok (.if_icmp .ge 30, 3) := by decide +kernel
theorem dX6_holding_10 : decode cX6_holding 10 = .ok (.iload_n 1, 1) := by decide +kernel
theorem dX6_holding_11 : decode cX6_holding 11 = .ok (.aload_n 0, 1) := by decide +kernel
theorem dX6_holding_12 : decode cX6_holding 12 = .ok (.getfield 9, 3) := by decide +kernel
theorem dX6_holding_15 : decode cX6_holding 15 = .ok (.sipush 202, 3) := by decide +kernel
theorem dX6_holding_18 : decode cX6_holding 18 = .ok (.iload_n 2, 1) := by decide +kernel
theorem dX6_holding_19 : decode cX6_holding 19 = .ok (.iadd, 1) := by decide +kernel
theorem dX6_holding_20 : decode cX6_holding 20 = .ok (.iaload, 1) := by decide +kernel
theorem dX6_holding_21 : decode cX6_holding 21 = .ok (.ifCond .ge 7, 3) := by decide +kernel
theorem dX6_holding_24 : decode cX6_holding 24 = .ok (.iconst 0, 1) := by decide +kernel
theorem dX6_holding_25 : decode cX6_holding 25 = .ok (.goto 4, 3) := by decide +kernel
theorem dX6_holding_28 : decode cX6_holding 28 = .ok (.iconst 1, 1) := by decide +kernel
theorem dX6_holding_29 : decode cX6_holding 29 = .ok (.iadd, 1) := by decide +kernel
theorem dX6_holding_30 : decode cX6_holding 30 = .ok (.istore_n 1, 1) := by decide +kernel
theorem dX6_holding_31 : decode cX6_holding 31 = .ok (.iinc 2 1, 3) := by decide +kernel
theorem dX6_holding_34 : decode cX6_holding 34 = .ok (.goto (-30), 3) := by decide +kernel
theorem dX6_holding_37 : decode cX6_holding 37 = .ok (.iload_n 1, 1) := by decide +kernel
theorem dX6_holding_38 : decode cX6_holding 38 = .ok (.ireturn, 1) := by decide +kernel
theorem dX6_count_0 : decode cX6_count 0 = .ok (.iload_n 1, 1) := by decide +kernel
theorem dX6_count_1 : decode cX6_count 1 = .ok (.tableswitch 93 0 6 #[43, 50, 57, 71, 76, 81, 88], 43) := by decide +kernel
theorem dX6_count_44 : decode cX6_count 44 = .ok (.aload_n 0, 1) := by decide +kernel
theorem dX6_count_45 : decode cX6_count 45 = .ok (.getfield 9, 3) := by decide +kernel
theorem dX6_count_48 : decode cX6_count 48 = .ok (.iconst 0, 1) := by decide +kernel
theorem dX6_count_49 : decode cX6_count 49 = .ok (.iaload, 1) := by decide +kernel
theorem dX6_count_50 : decode cX6_count 50 = .ok (.ireturn, 1) := by decide +kernel
theorem dX6_count_51 : decode cX6_count 51 = .ok (.aload_n 0, 1) := by decide +kernel
theorem dX6_count_52 : decode cX6_count 52 = .ok (.getfield 9, 3) := by decide +kernel
theorem dX6_count_55 : decode cX6_count 55 = .ok (.iconst 1, 1) := by decide +kernel
theorem dX6_count_56 : decode cX6_count 56 = .ok (.iaload, 1) := by decide +kernel
theorem dX6_count_57 : decode cX6_count 57 = .ok (.ireturn, 1) := by decide +kernel
theorem dX6_count_58 : decode cX6_count 58 = .ok (.aload_n 0, 1) := by decide +kernel
theorem dX6_count_59 : decode cX6_count 59 = .ok (.getfield 9, 3) := by decide +kernel
theorem dX6_count_62 : decode cX6_count 62 = .ok (.iconst 2, 1) := by decide +kernel
theorem dX6_count_63 : decode cX6_count 63 = .ok (.iaload, 1) := by decide +kernel
theorem dX6_count_64 : decode cX6_count 64 = .ok (.aload_n 0, 1) := by decide +kernel
theorem dX6_count_65 : decode cX6_count 65 = .ok (.getfield 9, 3) := by decide +kernel
theorem dX6_count_68 : decode cX6_count 68 = .ok (.iconst 3, 1) := by decide +kernel
theorem dX6_count_69 : decode cX6_count 69 = .ok (.iaload, 1) := by decide +kernel
theorem dX6_count_70 : decode cX6_count 70 = .ok (.iadd, 1) := by decide +kernel
theorem dX6_count_71 : decode cX6_count 71 = .ok (.ireturn, 1) := by decide +kernel
theorem dX6_count_72 : decode cX6_count 72 = .ok (.aload_n 0, 1) := by decide +kernel
theorem dX6_count_73 : decode cX6_count 73 = .ok (.invokevirtual 299, 3) := by decide +kernel
theorem dX6_count_76 : decode cX6_count 76 = .ok (.ireturn, 1) := by decide +kernel
theorem dX6_count_77 : decode cX6_count 77 = .ok (.aload_n 0, 1) := by decide +kernel
theorem dX6_count_78 : decode cX6_count 78 = .ok (.getfield 215, 3) := by decide +kernel
theorem dX6_count_81 : decode cX6_count 81 = .ok (.ireturn, 1) := by decide +kernel
theorem dX6_count_82 : decode cX6_count 82 = .ok (.aload_n 0, 1) := by decide +kernel
theorem dX6_count_83 : decode cX6_count 83 = .ok (.getfield 9, 3) := by decide +kernel
theorem dX6_count_86 : decode cX6_count 86 = .ok (.iconst 4, 1) := by decide +kernel
theorem dX6_count_87 : decode cX6_count 87 = .ok (.iaload, 1) := by decide +kernel
theorem dX6_count_88 : decode cX6_count 88 = .ok (.ireturn, 1) := by decide +kernel
theorem dX6_count_89 : decode cX6_count 89 = .ok (.aload_n 0, 1) := by decide +kernel
theorem dX6_count_90 : decode cX6_count 90 = .ok (.invokevirtual 302, 3) := by decide +kernel
theorem dX6_count_93 : decode cX6_count 93 = .ok (.ireturn, 1) := by decide +kernel
theorem dX6_count_94 : decode cX6_count 94 = .ok (.aload_n 0, 1) := by decide +kernel
theorem dX6_count_95 : decode cX6_count 95 = .ok (.ldc 43, 2) := by decide +kernel
theorem dX6_count_97 : decode cX6_count 97 = .ok (.invokevirtual 45, 3) := by decide +kernel
theorem dX6_count_100 : decode cX6_count 100 = .ok (.ireturn, 1) := by decide +kernel
theorem dX6_status_0 : decode cX6_status 0 = .ok (.iload_n 1, 1) := by decide +kernel
theorem dX6_status_1 : decode cX6_status 1 = .ok (.i2l, 1) := by decide +kernel
theorem dX6_status_2 : decode cX6_status 2 = .ok (.ldc2_w 283, 3) := by decide +kernel
theorem dX6_status_5 : decode cX6_status 5 = .ok (.ldc2_w 53, 3) := by decide +kernel
theorem dX6_status_8 : decode cX6_status 8 = .ok (.invokestatic 49, 3) := by decide +kernel
theorem dX6_status_11 : decode cX6_status 11 = .ok (.ifCond .ne 10, 3) := by decide +kernel
theorem dX6_status_14 : decode cX6_status 14 = .ok (.aload_n 0, 1) := by decide +kernel
theorem dX6_status_15 : decode cX6_status 15 = .ok (.ldc 43, 2) := by decide +kernel
theorem dX6_status_17 : decode cX6_status 17 = .ok (.invokevirtual 45, 3) := by decide +kernel
theorem dX6_status_20 : decode cX6_status 20 = .ok (.ireturn, 1) := by decide +kernel
theorem dX6_status_21 : decode cX6_status 21 = .ok (.iconst 0, 1) := by decide +kernel
theorem dX6_status_22 : decode cX6_status 22 = .ok (.istore_n 2, 1) := by decide +kernel
theorem dX6_status_23 : decode cX6_status 23 = .ok (.iconst 0, 1) := by decide +kernel
theorem dX6_status_24 : decode cX6_status 24 = .ok (.istore_n 3, 1) := by decide +kernel
theorem dX6_status_25 : decode cX6_status 25 = .ok (.iload_n 3, 1) := by decide +kernel
theorem dX6_status_26 : decode cX6_status 26 = .ok (.bipush 7, 2) := by decide +kernel
theorem dX6_status_28 : decode cX6_status 28 = .ok (.if_icmp .ge 31, 3) := by decide +kernel
theorem dX6_status_31 : decode cX6_status 31 = .ok (.iload_n 2, 1) := by decide +kernel
theorem dX6_status_32 : decode cX6_status 32 = .ok (.iload_n 1, 1) := by decide +kernel
theorem dX6_status_33 : decode cX6_status 33 = .ok (.ifCond .lt 8, 3) := by decide +kernel
theorem dX6_status_36 : decode cX6_status 36 = .ok (.iload_n 1, 1) := by decide +kernel
theorem dX6_status_37 : decode cX6_status 37 = .ok (.iload_n 3, 1) := by decide +kernel
theorem dX6_status_38 : decode cX6_status 38 = .ok (.if_icmp .ne 12, 3) := by decide +kernel
theorem dX6_status_41 : decode cX6_status 41 = .ok (.aload_n 0, 1) := by decide +kernel
theorem dX6_status_42 : decode cX6_status 42 = .ok (.getfield 19, 3) := by decide +kernel
theorem dX6_status_45 : decode cX6_status 45 = .ok (.iload_n 3, 1) := by decide +kernel
theorem dX6_status_46 : decode cX6_status 46 = .ok (.iaload, 1) := by decide +kernel
theorem dX6_status_47 : decode cX6_status 47 = .ok (.goto 4, 3) := by decide +kernel
theorem dX6_status_50 : decode cX6_status 50 = .ok (.iconst 0, 1) := by decide +kernel
theorem dX6_status_51 : decode cX6_status 51 = .ok (.iadd, 1) := by decide +kernel
theorem dX6_status_52 : decode cX6_status 52 = .ok (.istore_n 2, 1) := by decide +kernel
theorem dX6_status_53 : decode cX6_status 53 = .ok (.iinc 3 1, 3) := by decide +kernel
theorem dX6_status_56 : decode cX6_status 56 = .ok (.goto (-31), 3) := by decide +kernel
theorem dX6_status_59 : decode cX6_status 59 = .ok (.iload_n 2, 1) := by decide +kernel
theorem dX6_status_60 : decode cX6_status 60 = .ok (.ireturn, 1) := by decide +kernel
