theorem dX13_init_0 : decode cX13_init 0 = .ok (.aload_n 0, 1) := by decide +kernel
theorem dX13_init_1 : decode cX13_init 1 = .ok (.invokespecial 1, 3) := by decide +kernel
theorem dX13_init_4 : decode cX13_init 4 = .ok (.aload_n 0, 1) := by decide +kernel
theorem dX13_init_5 : decode cX13_init 5 = .ok (.sipush 400, 3) := by decide +kernel
theorem dX13_init_8 : decode cX13_init 8 = .ok (.newarray .int, 2) := by decide +kernel
theorem dX13_init_10 : decode cX13_init 10 = .ok (.putfield 7, 3) := by decide +kernel
theorem dX13_init_13 : decode cX13_init 13 = .ok (.aload_n 0, 1) := by decide +kernel
theorem dX13_init_14 : decode cX13_init 14 = .ok (.sipush 386, 3) := by decide +kernel
theorem dX13_init_17 : decode cX13_init 17 = .ok (.newarray .int, 2) := by decide +kernel
theorem dX13_init_19 : decode cX13_init 19 = .ok (.putfield 13, 3) := by decide +kernel
theorem dX13_init_22 : decode cX13_init 22 = .ok (.aload_n 0, 1) := by decide +kernel
theorem dX13_init_23 : decode cX13_init 23 = .ok (.sipush 772, 3) := by decide +kernel
theorem dX13_init_26 : decode cX13_init 26 = .ok (.newarray .int, 2) := by decide +kernel
theorem dX13_init_28 : decode cX13_init 28 = .ok (.putfield 16, 3) := by decide +kernel
theorem dX13_init_31 : decode cX13_init 31 = .ok (.aload_n 0, 1) := by decide +kernel
theorem dX13_init_32 : decode cX13_init 32 = .ok (.iconst 2, 1) := by decide +kernel
theorem dX13_init_33 : decode cX13_init 33 = .ok (.newarray .boolean, 2) := by decide +kernel
theorem dX13_init_35 : decode cX13_init 35 = .ok (.putfield 19, 3) := by decide +kernel
theorem dX13_init_38 : decode cX13_init 38 = .ok (.aload_n 0, 1) := by decide +kernel
theorem dX13_init_39 : decode cX13_init 39 = .ok (.bipush 6, 2) := by decide +kernel
theorem dX13_init_41 : decode cX13_init 41 = .ok (.newarray .int, 2) := by decide +kernel
theorem dX13_init_43 : decode cX13_init 43 = .ok (.putfield 23, 3) := by decide +kernel
theorem dX13_init_46 : decode cX13_init 46 = .ok (.aload_n 0, 1) := by decide +kernel
theorem dX13_init_47 : decode cX13_init 47 = .ok (.bipush 6, 2) := by decide +kernel
theorem dX13_init_49 : decode cX13_init 49 = .ok (.newarray .int, 2) := by decide +kernel
theorem dX13_init_51 : decode cX13_init 51 = .ok (.putfield 26, 3) := by decide +kernel
theorem dX13_init_54 : decode cX13_init 54 = .ok (.aload_n 0, 1) := by decide +kernel
theorem dX13_init_55 : decode cX13_init 55 = .ok (.bipush 84, 2) := by decide +kernel
theorem dX13_init_57 : decode cX13_init 57 = .ok (.newarray .int, 2) := by decide +kernel
theorem dX13_init_59 : decode cX13_init 59 = .ok (.putfield 29, 3) := by decide +kernel
theorem dX13_init_62 : decode cX13_init 62 = .ok (.aload_n 0, 1) := by decide +kernel
theorem dX13_init_63 : decode cX13_init 63 = .ok (.bipush 6, 2) := by decide +kernel
theorem dX13_init_65 : decode cX13_init 65 = .ok (.newarray .int, 2) := by decide +kernel
theorem dX13_init_67 : decode cX13_init 67 = .ok (.putfield 32, 3) := by decide +kernel
theorem dX13_init_70 : decode cX13_init 70 = .ok (.aload_n 0, 1) := by decide +kernel
theorem dX13_init_71 : decode cX13_init 71 = .ok (.bipush 6, 2) := by decide +kernel
theorem dX13_init_73 : decode cX13_init 73 = .ok (.newarray .int, 2) := by decide +kernel
theorem dX13_init_75 : decode cX13_init 75 = .ok (.putfield 35, 3) := by decide +kernel
theorem dX13_init_78 : decode cX13_init 78 = .ok (.aload_n 0, 1) := by decide +kernel
theorem dX13_init_79 : decode cX13_init 79 = .ok (.iconst 4, 1) := by decide +kernel
theorem dX13_init_80 : decode cX13_init 80 = .ok (.newarray .int, 2) := by decide +kernel
theorem dX13_init_82 : decode cX13_init 82 = .ok (.putfield 38, 3) := by decide +kernel
theorem dX13_init_85 : decode cX13_init 85 = .ok (.aload_n 0, 1) := by decide +kernel
theorem dX13_init_86 : decode cX13_init 86 = .ok (.bipush 7, 2) := by decide +kernel
theorem dX13_init_88 : decode cX13_init 88 = .ok (.newarray .int, 2) := by decide +kernel
theorem dX13_init_90 : decode cX13_init 90 = .ok (.putfield 41, 3) := by decide +kernel
theorem dX13_init_93 : decode cX13_init 93 = .ok (.aload_n 0, 1) := by decide +kernel
theorem dX13_init_94 : decode cX13_init 94 = .ok (.bipush 24, 2) := by decide +kernel
theorem dX13_init_96 : decode cX13_init 96 = .ok (.newarray .int, 2) := by decide +kernel
theorem dX13_init_98 : decode cX13_init 98 = .ok (.putfield 44, 3) := by decide +kernel
theorem dX13_init_101 : decode cX13_init 101 = .ok (.aload_n 0, 1) := by decide +kernel
theorem dX13_init_102 : decode cX13_init 102 = .ok (.bipush 12, 2) := by decide +kernel
theorem dX13_init_104 : decode cX13_init 104 = .ok (.newarray .int, 2) := by decide +kernel
theorem dX13_init_106 : decode cX13_init 106 = .ok (.putfield 47, 3) := by decide +kernel
theorem dX13_init_109 : decode cX13_init 109 = .ok (.aload_n 0, 1) := by decide +kernel
theorem dX13_init_110 : decode cX13_init 110 = .ok (.iconst 5, 1) := by decide +kernel
theorem dX13_init_111 : decode cX13_init 111 = .ok (.newarray .int, 2) := by decide +kernel
theorem dX13_init_113 : decode cX13_init 113 = .ok (.putfield 50, 3) := by decide +kernel
theorem dX13_init_116 : decode cX13_init 116 = .ok (.aload_n 0, 1) := by decide +kernel
theorem dX13_init_117 : decode cX13_init 117 = .ok (.getfield 38, 3) := by decide +kernel
theorem dX13_init_120 : decode cX13_init 120 = .ok (.iconst 0, 1) := by decide +kernel
theorem dX13_init_121 : decode cX13_init 121 = .ok (.iconst 4, 1) := by decide +kernel
theorem dX13_init_122 : decode cX13_init 122 = .ok (.iastore, 1) := by decide +kernel
theorem dX13_init_123 : decode cX13_init 123 = .ok (.aload_n 0, 1) := by decide +kernel
theorem dX13_init_124 : decode cX13_init 124 = .ok (.getfield 38, 3) := by decide +kernel
theorem dX13_init_127 : decode cX13_init 127 = .ok (.iconst 1, 1) := by decide +kernel
theorem dX13_init_128 : decode cX13_init 128 = .ok (.bipush 15, 2) := by decide +kernel
theorem dX13_init_130 : decode cX13_init 130 = .ok (.iastore, 1) := by decide +kernel
theorem dX13_init_131 : decode cX13_init 131 = .ok (.aload_n 0, 1) := by decide +kernel
theorem dX13_init_132 : decode cX13_init 132 = .ok (.getfield 38, 3) := by decide +kernel
theorem dX13_init_135 : decode cX13_init 135 = .ok (.iconst 2, 1) := by decide +kernel
theorem dX13_init_136 : decode cX13_init 136 = .ok (.bipush 10, 2) := by decide +kernel
theorem dX13_init_138 : decode cX13_init 138 = .ok (.iastore, 1) := by decide +kernel
theorem dX13_init_139 : decode cX13_init 139 = .ok (.aload_n 0, 1) := by decide +kernel
theorem dX13_init_140 : decode cX13_init 140 = .ok (.getfield 13, 3) := by decide +kernel
theorem dX13_init_143 : decode cX13_init 143 = .ok (.bipush 84, 2) := by decide +kernel
theorem dX13_init_145 : decode cX13_init 145 = .ok (.iconst 1, 1) := by decide +kernel
theorem dX13_init_146 : decode cX13_init 146 = .ok (.iastore, 1) := by decide +kernel
theorem dX13_init_147 : decode cX13_init 147 = .ok (.return_, 1) := by decide +kernel
theorem dX13_in_0 : decode cX13_in 0 = .ok (.iload_n 0, 1) := by decide +kernel
theorem dX13_in_1 : decode cX13_in 1 = .ok (.iload_n 1, 1) := by decide +kernel
theorem dX13_in_2 : decode cX13_in 2 = .ok (.if_icmp .lt 12, 3) := by decide +kernel
theorem dX13_in_5 : decode cX13_in 5 = .ok (.iload_n 0, 1) := by decide +kernel
theorem dX13_in_6 : decode cX13_in 6 = .ok (.iload_n 2, 1) := by decide +kernel
theorem dX13_in_7 : decode cX13_in 7 = .ok (.if_icmp .gt 7, 3) := by decide +kernel
theorem dX13_in_10 : decode cX13_in 10 = .ok (.iconst 1, 1) := by decide +kernel
theorem dX13_in_11 : decode cX13_in 11 = .ok (.goto 4, 3) := by decide +kernel
theorem dX13_in_14 : decode cX13_in 14 = .ok (.iconst 0, 1) := by decide +kernel
theorem dX13_in_15 : decode cX13_in 15 = .ok (.ireturn, 1) := by decide +kernel
theorem dX13_size_0 : decode cX13_size 0 = .ok (.iload_n 0, 1) := by decide +kernel
theorem dX13_size_1 : decode cX13_size 1 = .ok (.ifCond .ge 8, 3) := by decide +kernel
theorem dX13_size_4 : decode cX13_size 4 = .ok (.iload_n 0, 1) := by decide +kernel
theorem dX13_size_5 : decode cX13_size 5 = .ok (.ineg, 1) := by decide +kernel
theorem dX13_size_6 : decode cX13_size 6 = .ok (.goto 4, 3) := by decide +kernel
theorem dX13_size_9 : decode cX13_size 9 = .ok (.iload_n 0, 1) := by decide +kernel
theorem dX13_size_10 : decode cX13_size 10 = .ok (.ireturn, 1) := by decide +kernel
theorem dX13_type_0 : decode cX13_type 0 = .ok (.aload_n 0, 1) := by decide +kernel
theorem dX13_type_1 : decode cX13_type 1 = .ok (.iconst 0, 1) := by decide +kernel
theorem dX13_type_2 : decode cX13_type 2 = .ok (.putfield 53, 3) := by decide +kernel
theorem dX13_type_5 : decode cX13_type 5 = .ok (.iload_n 3, 1) := by decide +kernel
theorem dX13_type_6 : decode cX13_type 6 = .ok (.iconst 1, 1) := by decide +kernel
theorem dX13_type_7 : decode cX13_type 7 = .ok (.bipush 8, 2) := by decide +kernel
theorem dX13_type_9 : decode cX13_type 9 = .ok (.invokestatic 57, 3) := by decide +kernel
theorem dX13_type_12 : decode cX13_type 12 = .ok (.ifCond .ne 5, 3) := by decide +kernel
theorem dX13_type_15 : decode cX13_type 15 = .ok (.iconst (-1), 1) := by decide +kernel
theorem dX13_type_16 : decode cX13_type 16 = .ok (.ireturn, 1) := by decide +kernel
theorem dX13_type_17 : decode cX13_type 17 = .ok (.aload_n 0, 1) := by decide +kernel
theorem dX13_type_18 : decode cX13_type 18 = .ok (.getfield 61, 3) := by decide +kernel
theorem dX13_type_21 : decode cX13_type 21 = .ok (.iload_n 3, 1) := by decide +kernel
theorem dX13_type_22 : decode cX13_type 22 = .ok (.iadd, 1) := by decide +kernel
theorem dX13_type_23 : decode cX13_type 23 = .ok (.sipush 400, 3) := by decide +kernel
theorem dX13_type_26 : decode cX13_type 26 = .ok (.if_icmp .le 6, 3) := by decide +kernel
theorem dX13_type_29 : decode cX13_type 29 = .ok (.bipush (-3), 2) := by decide +kernel
theorem dX13_type_31 : decode cX13_type 31 = .ok (.ireturn, 1) := by decide +kernel
theorem dX13_type_32 : decode cX13_type 32 = .ok (.iload_n 3, 1) := by decide +kernel
theorem dX13_type_33 : decode cX13_type 33 = .ok (.iconst 1, 1) := by decide +kernel
theorem dX13_type_34 : decode cX13_type 34 = .ok (.isub, 1) := by decide +kernel
theorem dX13_type_35 : decode cX13_type 35 = .ok (.istore 4, 2) := by decide +kernel
theorem dX13_type_37 : decode cX13_type 37 = .ok (.iload 4, 2) := by decide +kernel
theorem dX13_type_39 : decode cX13_type 39 = .ok (.ifCond .lt 40, 3) := by decide +kernel
theorem dX13_type_42 : decode cX13_type 42 = .ok (.aload_n 0, 1) := by decide +kernel
theorem dX13_type_43 : decode cX13_type 43 = .ok (.getfield 7, 3) := by decide +kernel
theorem dX13_type_46 : decode cX13_type 46 = .ok (.aload_n 0, 1) := by decide +kernel
theorem dX13_type_47 : decode cX13_type 47 = .ok (.getfield 61, 3) := by decide +kernel
theorem dX13_type_50 : decode cX13_type 50 = .ok (.lload_n 1, 1) := by decide +kernel
theorem dX13_type_51 : decode cX13_type 51 = .ok (.bipush 8, 2) := by decide +kernel
theorem dX13_type_53 : decode cX13_type 53 = .ok (.iload 4, 2) := by decide +kernel
theorem dX13_type_55 : decode cX13_type 55 = .ok (.imul, 1) := by decide +kernel
theorem dX13_type_56 : decode cX13_type 56 = .ok (.lshr, 1) := by decide +kernel
theorem dX13_type_57 : decode cX13_type 57 = .ok (.ldc2_w 64, 3) := by decide +kernel
theorem dX13_type_60 : decode cX13_type 60 = .ok (.land, 1) := by decide +kernel
theorem dX13_type_61 : decode cX13_type 61 = .ok (.l2i, 1) := by decide +kernel
theorem dX13_type_62 : decode cX13_type 62 = .ok (.iastore, 1) := by decide +kernel
theorem dX13_type_63 : decode cX13_type 63 = .ok (.aload_n 0, 1) := by decide +kernel
theorem dX13_type_64 : decode cX13_type 64 = .ok (.dup, 1) := by decide +kernel
theorem dX13_type_65 : decode cX13_type 65 = .ok (.getfield 61, 3) := by decide +kernel
theorem dX13_type_68 : decode cX13_type 68 = .ok (.iconst 1, 1) := by decide +kernel
theorem dX13_type_69 : decode cX13_type 69 = .ok (.iadd, 1) := by decide +kernel
theorem dX13_type_70 : decode cX13_type 70 = .ok (.putfield 61, 3) := by decide +kernel
theorem dX13_type_73 : decode cX13_type 73 = .ok (.iinc 4 (-1), 3) := by decide +kernel
theorem dX13_type_76 : decode cX13_type 76 = .ok (.goto (-39), 3) := by decide +kernel
theorem dX13_type_79 : decode cX13_type 79 = .ok (.aload_n 0, 1) := by decide +kernel
theorem dX13_type_80 : decode cX13_type 80 = .ok (.getfield 61, 3) := by decide +kernel
theorem dX13_type_83 : decode cX13_type 83 = .ok (.ireturn, 1) := by decide +kernel
theorem dX13_clear_0 : decode cX13_clear 0 = .ok (.aload_n 0, 1) := by decide +kernel
theorem dX13_clear_1 : decode cX13_clear 1 = .ok (.iconst 0, 1) := by decide +kernel
theorem dX13_clear_2 : decode cX13_clear 2 = .ok (.putfield 53, 3) := by decide +kernel
theorem dX13_clear_5 : decode cX13_clear 5 = .ok (.aload_n 0, 1) := by decide +kernel
theorem dX13_clear_6 : decode cX13_clear 6 = .ok (.getfield 61, 3) := by decide +kernel
theorem dX13_clear_9 : decode cX13_clear 9 = .ok (.istore_n 1, 1) := by decide +kernel
theorem dX13_clear_10 : decode cX13_clear 10 = .ok (.aload_n 0, 1) := by decide +kernel
theorem dX13_clear_11 : decode cX13_clear 11 = .ok (.iconst 0, 1) := by decide +kernel
theorem dX13_clear_12 : decode cX13_clear 12 = .ok (.putfield 61, 3) := by decide +kernel
theorem dX13_clear_15 : decode cX13_clear 15 = .ok (.iload_n 1, 1) := by decide +kernel
theorem dX13_clear_16 : decode cX13_clear 16 = .ok (.ireturn, 1) := by decide +kernel
theorem dX13_byteAt_0 : decode cX13_byteAt 0 = .ok (.iload_n 1, 1) := by decide +kernel
theorem dX13_byteAt_1 : decode cX13_byteAt 1 = .ok (.aload_n 0, 1) := by decide +kernel
theorem dX13_byteAt_2 : decode cX13_byteAt 2 = .ok (.getfield 61, 3) := by decide +kernel
theorem dX13_byteAt_5 : decode cX13_byteAt 5 = .ok (.if_icmp .ge 12, 3) := by decide +kernel
theorem dX13_byteAt_8 : decode cX13_byteAt 8 = .ok (.aload_n 0, 1) := by decide +kernel
theorem dX13_byteAt_9 : decode cX13_byteAt 9 = .ok (.getfield 7, 3) := by decide +kernel
theorem dX13_byteAt_12 : decode cX13_byteAt 12 = .ok (.iload_n 1, 1) := by decide +kernel
theorem dX13_byteAt_13 : decode cX13_byteAt 13 = .ok (.iaload, 1) := by decide +kernel
theorem dX13_byteAt_14 : decode cX13_byteAt 14 = .ok (.goto 4, 3) := by decide +kernel
theorem dX13_byteAt_17 : decode cX13_byteAt 17 = .ok (.iconst (-1), 1) := by decide +kernel
theorem dX13_byteAt_18 : decode cX13_byteAt 18 = .ok (.ireturn, 1) := by decide +kernel
theorem dX13_add_0 : decode cX13_add 0 = .ok (.iload_n 2, 1) := by decide +kernel
theorem dX13_add_1 : decode cX13_add 1 = .ok (.ifCond .ne 7, 3) := by decide +kernel
theorem dX13_add_4 : decode cX13_add 4 = .ok (.lload_n 0, 1) := by decide +kernel
theorem dX13_add_5 : decode cX13_add 5 = .ok (.goto 11, 3) := by decide +kernel
theorem dX13_add_8 : decode cX13_add 8 = .ok (.ldc2_w 66, 3) := by decide +kernel
theorem dX13_add_11 : decode cX13_add 11 = .ok (.lload_n 0, 1) := by decide +kernel
theorem dX13_add_12 : decode cX13_add 12 = .ok (.lmul, 1) := by decide +kernel
theorem dX13_add_13 : decode cX13_add 13 = .ok (.iload_n 2, 1) := by decide +kernel
theorem dX13_add_14 : decode cX13_add 14 = .ok (.i2l, 1) := by decide +kernel
theorem dX13_add_15 : decode cX13_add 15 = .ok (.ladd, 1) := by decide +kernel
theorem dX13_add_16 : decode cX13_add 16 = .ok (.lreturn, 1) := by decide +kernel
theorem dX13_named_0 : decode cX13_named 0 = .ok (.lconst 0, 1) := by decide +kernel
theorem dX13_named_1 : decode cX13_named 1 = .ok (.iload_n 0, 1) := by decide +kernel
theorem dX13_named_2 : decode cX13_named 2 = .ok (.invokestatic 68, 3) := by decide +kernel
theorem dX13_named_5 : decode cX13_named 5 = .ok (.iload_n 1, 1) := by decide +kernel
theorem dX13_named_6 : decode cX13_named 6 = .ok (.invokestatic 68, 3) := by decide +kernel
theorem dX13_named_9 : decode cX13_named 9 = .ok (.iload_n 2, 1) := by decide +kernel
theorem dX13_named_10 : decode cX13_named 10 = .ok (.invokestatic 68, 3) := by decide +kernel
theorem dX13_named_13 : decode cX13_named 13 = .ok (.iload_n 3, 1) := by decide +kernel
theorem dX13_named_14 : decode cX13_named 14 = .ok (.invokestatic 68, 3) := by decide +kernel
theorem dX13_named_17 : decode cX13_named 17 = .ok (.iload 4, 2) := by decide +kernel
theorem dX13_named_19 : decode cX13_named 19 = .ok (.invokestatic 68, 3) := by decide +kernel
theorem dX13_named_22 : decode cX13_named 22 = .ok (.iload 5, 2) := by decide +kernel
theorem dX13_named_24 : decode cX13_named 24 = .ok (.invokestatic 68, 3) := by decide +kernel
theorem dX13_named_27 : decode cX13_named 27 = .ok (.lreturn, 1) := by decide +kernel
theorem dX13_wordOf_0 : decode cX13_wordOf 0 = .ok (.lload_n 0, 1) := by decide +kernel
theorem dX13_wordOf_1 : decode cX13_wordOf 1 = .ok (.bipush 115, 2) := by decide +kernel
theorem dX13_wordOf_3 : decode cX13_wordOf 3 = .ok (.bipush 116, 2) := by decide +kernel
theorem dX13_wordOf_5 : decode cX13_wordOf 5 = .ok (.bipush 105, 2) := by decide +kernel
theorem dX13_wordOf_7 : decode cX13_wordOf 7 = .ok (.bipush 99, 2) := by decide +kernel
theorem dX13_wordOf_9 : decode cX13_wordOf 9 = .ok (.bipush 107, 2) := by decide +kernel
theorem dX13_wordOf_11 : decode cX13_wordOf 11 = .ok (.iconst 0, 1) := by decide +kernel
theorem dX13_wordOf_12 : decode cX13_wordOf 12 = .ok (.invokestatic 72, 3) := by decide +kernel
theorem dX13_wordOf_15 : decode cX13_wordOf 15 = .ok (.lcmp, 1) := by decide +kernel
theorem dX13_wordOf_16 : decode cX13_wordOf 16 = .ok (.ifCond .ne 7, 3) := by decide +kernel
theorem dX13_wordOf_19 : decode cX13_wordOf 19 = .ok (.iconst 0, 1) := by decide +kernel
theorem dX13_wordOf_20 : decode cX13_wordOf 20 = .ok (.goto 50, 3) := by decide +kernel
theorem dX13_wordOf_23 : decode cX13_wordOf 23 = .ok (.lload_n 0, 1) := by decide +kernel
theorem dX13_wordOf_24 : decode cX13_wordOf 24 = .ok (.bipush 98, 2) := by decide +kernel
theorem dX13_wordOf_26 : decode cX13_wordOf 26 = .ok (.bipush 111, 2) := by decide +kernel
theorem dX13_wordOf_28 : decode cX13_wordOf 28 = .ok (.bipush 119, 2) := by decide +kernel
theorem dX13_wordOf_30 : decode cX13_wordOf 30 = .ok (.iconst 0, 1) := by decide +kernel
theorem dX13_wordOf_31 : decode cX13_wordOf 31 = .ok (.iconst 0, 1) := by decide +kernel
theorem dX13_wordOf_32 : decode cX13_wordOf 32 = .ok (.iconst 0, 1) := by decide +kernel
theorem dX13_wordOf_33 : decode cX13_wordOf 33 = .ok (.invokestatic 72, 3) := by decide +kernel
theorem dX13_wordOf_36 : decode cX13_wordOf 36 = .ok (.lcmp, 1) := by decide +kernel
theorem dX13_wordOf_37 : decode cX13_wordOf 37 = .ok (.ifCond .ne 7, 3) := by decide +kernel
theorem dX13_wordOf_40 : decode cX13_wordOf 40 = .ok (.iconst 1, 1) := by decide +kernel
theorem dX13_wordOf_41 : decode cX13_wordOf 41 = .ok (.goto 29, 3) := by decide +kernel
theorem dX13_wordOf_44 : decode cX13_wordOf 44 = .ok (.lload_n 0, 1) := by decide +kernel
theorem dX13_wordOf_45 : decode cX13_wordOf 45 = .ok (.bipush 97, 2) := by decide +kernel
theorem dX13_wordOf_47 : decode cX13_wordOf 47 = .ok (.bipush 114, 2) := by decide +kernel
theorem dX13_wordOf_49 : decode cX13_wordOf 49 = .ok (.bipush 99, 2) := by decide +kernel
theorem dX13_wordOf_51 : decode cX13_wordOf 51 = .ok (.bipush 104, 2) := by decide +kernel
theorem dX13_wordOf_53 : decode cX13_wordOf 53 = .ok (.bipush 101, 2) := by decide +kernel
theorem dX13_wordOf_55 : decode cX13_wordOf 55 = .ok (.bipush 114, 2) := by decide +kernel
theorem dX13_wordOf_57 : decode cX13_wordOf 57 = .ok (.invokestatic 72, 3) := by decide +kernel
theorem dX13_wordOf_60 : decode cX13_wordOf 60 = .ok (.lcmp, 1) := by decide +kernel
theorem dX13_wordOf_61 : decode cX13_wordOf 61 = .ok (.ifCond .ne 7, 3) := by decide +kernel
theorem dX13_wordOf_64 : decode cX13_wordOf 64 = .ok (.iconst 2, 1) := by decide +kernel
theorem dX13_wordOf_65 : decode cX13_wordOf 65 = .ok (.goto 5, 3) := by decide +kernel
theorem dX13_wordOf_68 : decode cX13_wordOf 68 = .ok (.bipush (-9), 2) := by decide +kernel
theorem dX13_wordOf_70 : decode cX13_wordOf 70 = .ok (.istore_n 2, 1) := by decide +kernel
theorem dX13_wordOf_71 : decode cX13_wordOf 71 = .ok (.iload_n 2, 1) := by decide +kernel
theorem dX13_wordOf_72 : decode cX13_wordOf 72 = .ok (.bipush (-9), 2) := by decide +kernel
theorem dX13_wordOf_74 : decode cX13_wordOf 74 = .ok (.if_icmp .eq 7, 3) := by decide +kernel
theorem dX13_wordOf_77 : decode cX13_wordOf 77 = .ok (.iload_n 2, 1) := by decide +kernel
theorem dX13_wordOf_78 : decode cX13_wordOf 78 = .ok (.goto 50, 3) := by decide +kernel
theorem dX13_wordOf_81 : decode cX13_wordOf 81 = .ok (.lload_n 0, 1) := by decide +kernel
theorem dX13_wordOf_82 : decode cX13_wordOf 82 = .ok (.bipush 108, 2) := by decide +kernel
theorem dX13_wordOf_84 : decode cX13_wordOf 84 = .ok (.bipush 101, 2) := by decide +kernel
theorem dX13_wordOf_86 : decode cX13_wordOf 86 = .ok (.bipush 102, 2) := by decide +kernel
theorem dX13_wordOf_88 : decode cX13_wordOf 88 = .ok (.bipush 116, 2) := by decide +kernel
theorem dX13_wordOf_90 : decode cX13_wordOf 90 = .ok (.iconst 0, 1) := by decide +kernel
theorem dX13_wordOf_91 : decode cX13_wordOf 91 = .ok (.iconst 0, 1) := by decide +kernel
theorem dX13_wordOf_92 : decode cX13_wordOf 92 = .ok (.invokestatic 72, 3) := by decide +kernel
theorem dX13_wordOf_95 : decode cX13_wordOf 95 = .ok (.lcmp, 1) := by decide +kernel
theorem dX13_wordOf_96 : decode cX13_wordOf 96 = .ok (.ifCond .ne 7, 3) := by decide +kernel
theorem dX13_wordOf_99 : decode cX13_wordOf 99 = .ok (.iconst 3, 1) := by decide +kernel
theorem dX13_wordOf_100 : decode cX13_wordOf 100 = .ok (.goto 28, 3) := by decide +kernel
theorem dX13_wordOf_103 : decode cX13_wordOf 103 = .ok (.lload_n 0, 1) := by decide +kernel
theorem dX13_wordOf_104 : decode cX13_wordOf 104 = .ok (.bipush 114, 2) := by decide +kernel
theorem dX13_wordOf_106 : decode cX13_wordOf 106 = .ok (.bipush 105, 2) := by decide +kernel
theorem dX13_wordOf_108 : decode cX13_wordOf 108 = .ok (.bipush 103, 2) := by decide +kernel
theorem dX13_wordOf_110 : decode cX13_wordOf 110 = .ok (.bipush 104, 2) := by decide +kernel
theorem dX13_wordOf_112 : decode cX13_wordOf 112 = .ok (.bipush 116, 2) := by decide +kernel
theorem dX13_wordOf_114 : decode cX13_wordOf 114 = .ok (.iconst 0, 1) := by decide +kernel
theorem dX13_wordOf_115 : decode cX13_wordOf 115 = .ok (.invokestatic 72, 3) := by decide +kernel
theorem dX13_wordOf_118 : decode cX13_wordOf 118 = .ok (.lcmp, 1) := by decide +kernel
theorem dX13_wordOf_119 : decode cX13_wordOf 119 = .ok (.ifCond .ne 7, 3) := by decide +kernel
theorem dX13_wordOf_122 : decode cX13_wordOf 122 = .ok (.iconst 4, 1) := by decide +kernel
theorem dX13_wordOf_123 : decode cX13_wordOf 123 = .ok (.goto 5, 3) := by decide +kernel
theorem dX13_wordOf_126 : decode cX13_wordOf 126 = .ok (.bipush (-9), 2) := by decide +kernel
theorem dX13_wordOf_128 : decode cX13_wordOf 128 = .ok (.ireturn, 1) := by decide +kernel
theorem dX13_advances_0 : decode cX13_advances 0 = .ok (.aload_n 0, 1) := by decide +kernel
theorem dX13_advances_1 : decode cX13_advances 1 = .ok (.aload_n 0, 1) := by decide +kernel
theorem dX13_advances_2 : decode cX13_advances 2 = .ok (.getfield 76, 3) := by decide +kernel
theorem dX13_advances_5 : decode cX13_advances 5 = .ok (.invokevirtual 79, 3) := by decide +kernel
theorem dX13_advances_8 : decode cX13_advances 8 = .ok (.bipush 32, 2) := by decide +kernel
theorem dX13_advances_10 : decode cX13_advances 10 = .ok (.if_icmp .ne 16, 3) := by decide +kernel
theorem dX13_advances_13 : decode cX13_advances 13 = .ok (.aload_n 0, 1) := by decide +kernel
theorem dX13_advances_14 : decode cX13_advances 14 = .ok (.dup, 1) := by decide +kernel
theorem dX13_advances_15 : decode cX13_advances 15 = .ok (.getfield 76, 3) := by decide +kernel
theorem dX13_advances_18 : decode cX13_advances 18 = .ok (.iconst 1, 1) := by decide +kernel
theorem dX13_advances_19 : decode cX13_advances 19 = .ok (.iadd, 1) := by decide +kernel
theorem dX13_advances_20 : decode cX13_advances 20 = .ok (.putfield 76, 3) := by decide +kernel
theorem dX13_advances_23 : decode cX13_advances 23 = .ok (.goto (-23), 3) := by decide +kernel
theorem dX13_advances_26 : decode cX13_advances 26 = .ok (.aload_n 0, 1) := by decide +kernel
theorem dX13_advances_27 : decode cX13_advances 27 = .ok (.aload_n 0, 1) := by decide +kernel
theorem dX13_advances_28 : decode cX13_advances 28 = .ok (.getfield 76, 3) := by decide +kernel
theorem dX13_advances_31 : decode cX13_advances 31 = .ok (.putfield 83, 3) := by decide +kernel
theorem dX13_advances_34 : decode cX13_advances 34 = .ok (.aload_n 0, 1) := by decide +kernel
theorem dX13_advances_35 : decode cX13_advances 35 = .ok (.aload_n 0, 1) := by decide +kernel
theorem dX13_advances_36 : decode cX13_advances 36 = .ok (.getfield 76, 3) := by decide +kernel
theorem dX13_advances_39 : decode cX13_advances 39 = .ok (.invokevirtual 79, 3) := by decide +kernel
theorem dX13_advances_42 : decode cX13_advances 42 = .ok (.istore_n 1, 1) := by decide +kernel
theorem dX13_advances_43 : decode cX13_advances 43 = .ok (.iload_n 1, 1) := by decide +kernel
theorem dX13_advances_44 : decode cX13_advances 44 = .ok (.ifCond .ge 11, 3) := by decide +kernel
theorem dX13_advances_47 : decode cX13_advances 47 = .ok (.aload_n 0, 1) := by decide +kernel
theorem dX13_advances_48 : decode cX13_advances 48 = .ok (.iconst 0, 1) := by decide +kernel
theorem dX13_advances_49 : decode cX13_advances 49 = .ok (.putfield 86, 3) := by decide +kernel
theorem dX13_advances_52 : decode cX13_advances 52 = .ok (.goto 260, 3) := by decide +kernel
theorem dX13_advances_55 : decode cX13_advances 55 = .ok (.iload_n 1, 1) := by decide +kernel
theorem dX13_advances_56 : decode cX13_advances 56 = .ok (.bipush 97, 2) := by decide +kernel
theorem dX13_advances_58 : decode cX13_advances 58 = .ok (.bipush 122, 2) := by decide +kernel
theorem dX13_advances_60 : decode cX13_advances 60 = .ok (.invokestatic 57, 3) := by decide +kernel
theorem dX13_advances_63 : decode cX13_advances 63 = .ok (.ifCond .eq 96, 3) := by decide +kernel
theorem dX13_advances_66 : decode cX13_advances 66 = .ok (.lconst 0, 1) := by decide +kernel
theorem dX13_advances_67 : decode cX13_advances 67 = .ok (.lstore_n 2, 1) := by decide +kernel
theorem dX13_advances_68 : decode cX13_advances 68 = .ok (.aload_n 0, 1) := by decide +kernel
theorem dX13_advances_69 : decode cX13_advances 69 = .ok (.aload_n 0, 1) := by decide +kernel
theorem dX13_advances_70 : decode cX13_advances 70 = .ok (.getfield 76, 3) := by decide +kernel
theorem dX13_advances_73 : decode cX13_advances 73 = .ok (.invokevirtual 79, 3) := by decide +kernel
theorem dX13_advances_76 : decode cX13_advances 76 = .ok (.bipush 97, 2) := by decide +kernel
theorem dX13_advances_78 : decode cX13_advances 78 = .ok (.bipush 122, 2) := by decide +kernel
theorem dX13_advances_80 : decode cX13_advances 80 = .ok (.invokestatic 57, 3) := by decide +kernel
theorem dX13_advances_83 : decode cX13_advances 83 = .ok (.ifCond .eq 47, 3) := by decide +kernel
theorem dX13_advances_86 : decode cX13_advances 86 = .ok (.aload_n 0, 1) := by decide +kernel
theorem dX13_advances_87 : decode cX13_advances 87 = .ok (.getfield 76, 3) := by decide +kernel
theorem dX13_advances_90 : decode cX13_advances 90 = .ok (.aload_n 0, 1) := by decide +kernel
theorem dX13_advances_91 : decode cX13_advances 91 = .ok (.getfield 83, 3) := by decide +kernel
theorem dX13_advances_94 : decode cX13_advances 94 = .ok (.isub, 1) := by decide +kernel
theorem dX13_advances_95 : decode cX13_advances 95 = .ok (.bipush 7, 2) := by decide +kernel
theorem dX13_advances_97 : decode cX13_advances 97 = .ok (.if_icmp .ge 18, 3) := by decide +kernel
theorem dX13_advances_100 : decode cX13_advances 100 = .ok (.lload_n 2, 1) := by decide +kernel
theorem dX13_advances_101 : decode cX13_advances 101 = .ok (.aload_n 0, 1) := by decide +kernel
theorem dX13_advances_102 : decode cX13_advances 102 = .ok (.aload_n 0, 1) := by decide +kernel
theorem dX13_advances_103 : decode cX13_advances 103 = .ok (.getfield 76, 3) := by decide +kernel
theorem dX13_advances_106 : decode cX13_advances 106 = .ok (.invokevirtual 79, 3) := by decide +kernel
theorem dX13_advances_109 : decode cX13_advances 109 = .ok (.invokestatic 68, 3) := by decide +kernel
theorem dX13_advances_112 : decode cX13_advances 112 = .ok (.goto 4, 3) := by decide +kernel
theorem dX13_advances_115 : decode cX13_advances 115 = .ok (.lload_n 2, 1) := by decide +kernel
theorem dX13_advances_116 : decode cX13_advances 116 = .ok (.lstore_n 2, 1) := by decide +kernel
theorem dX13_advances_117 : decode cX13_advances 117 = .ok (.aload_n 0, 1) := by decide +kernel
theorem dX13_advances_118 : decode cX13_advances 118 = .ok (.dup, 1) := by decide +kernel
theorem dX13_advances_119 : decode cX13_advances 119 = .ok (.getfield 76, 3) := by decide +kernel
theorem dX13_advances_122 : decode cX13_advances 122 = .ok (.iconst 1, 1) := by decide +kernel
theorem dX13_advances_123 : decode cX13_advances 123 = .ok (.iadd, 1) := by decide +kernel
theorem dX13_advances_124 : decode cX13_advances 124 = .ok (.putfield 76, 3) := by decide +kernel
theorem dX13_advances_127 : decode cX13_advances 127 = .ok (.goto (-59), 3) := by decide +kernel
theorem dX13_advances_130 : decode cX13_advances 130 = .ok (.aload_n 0, 1) := by decide +kernel
theorem dX13_advances_131 : decode cX13_advances 131 = .ok (.lload_n 2, 1) := by decide +kernel
theorem dX13_advances_132 : decode cX13_advances 132 = .ok (.invokestatic 89, 3) := by decide +kernel
theorem dX13_advances_135 : decode cX13_advances 135 = .ok (.putfield 93, 3) := by decide +kernel
theorem dX13_advances_138 : decode cX13_advances 138 = .ok (.aload_n 0, 1) := by decide +kernel
theorem dX13_advances_139 : decode cX13_advances 139 = .ok (.aload_n 0, 1) := by decide +kernel
theorem dX13_advances_140 : decode cX13_advances 140 = .ok (.getfield 93, 3) := by decide +kernel
theorem dX13_advances_143 : decode cX13_advances 143 = .ok (.bipush (-9), 2) := by decide +kernel
theorem dX13_advances_145 : decode cX13_advances 145 = .ok (.if_icmp .ne 7, 3) := by decide +kernel
theorem dX13_advances_148 : decode cX13_advances 148 = .ok (.iconst 4, 1) := by decide +kernel
theorem dX13_advances_149 : decode cX13_advances 149 = .ok (.goto 4, 3) := by decide +kernel
theorem dX13_advances_152 : decode cX13_advances 152 = .ok (.iconst 1, 1) := by decide +kernel
theorem dX13_advances_153 : decode cX13_advances 153 = .ok (.putfield 86, 3) := by decide +kernel
theorem dX13_advances_156 : decode cX13_advances 156 = .ok (.goto 156, 3) := by decide +kernel
theorem dX13_advances_159 : decode cX13_advances 159 = .ok (.iload_n 1, 1) := by decide +kernel
theorem dX13_advances_160 : decode cX13_advances 160 = .ok (.bipush 48, 2) := by decide +kernel
theorem dX13_advances_162 : decode cX13_advances 162 = .ok (.bipush 57, 2) := by decide +kernel
theorem dX13_advances_164 : decode cX13_advances 164 = .ok (.invokestatic 57, 3) := by decide +kernel
theorem dX13_advances_167 : decode cX13_advances 167 = .ok (.ifCond .eq 120, 3) := by decide +kernel
theorem dX13_advances_170 : decode cX13_advances 170 = .ok (.aload_n 0, 1) := by decide +kernel
theorem dX13_advances_171 : decode cX13_advances 171 = .ok (.iconst 0, 1) := by decide +kernel
theorem dX13_advances_172 : decode cX13_advances 172 = .ok (.putfield 93, 3) := by decide +kernel
theorem dX13_advances_175 : decode cX13_advances 175 = .ok (.aload_n 0, 1) := by decide +kernel
theorem dX13_advances_176 : decode cX13_advances 176 = .ok (.aload_n 0, 1) := by decide +kernel
theorem dX13_advances_177 : decode cX13_advances 177 = .ok (.getfield 76, 3) := by decide +kernel
theorem dX13_advances_180 : decode cX13_advances 180 = .ok (.invokevirtual 79, 3) := by decide +kernel
theorem dX13_advances_183 : decode cX13_advances 183 = .ok (.bipush 48, 2) := by decide +kernel
theorem dX13_advances_185 : decode cX13_advances 185 = .ok (.bipush 57, 2) := by decide +kernel
theorem dX13_advances_187 : decode cX13_advances 187 = .ok (.invokestatic 57, 3) := by decide +kernel
theorem dX13_advances_190 : decode cX13_advances 190 = .ok (.ifCond .eq 56, 3) := by decide +kernel
theorem dX13_advances_193 : decode cX13_advances 193 = .ok (.aload_n 0, 1) := by decide +kernel
theorem dX13_advances_194 : decode cX13_advances 194 = .ok (.aload_n 0, 1) := by decide +kernel
theorem dX13_advances_195 : decode cX13_advances 195 = .ok (.getfield 93, 3) := by decide +kernel
theorem dX13_advances_198 : decode cX13_advances 198 = .ok (.sipush 999, 3) := by decide +kernel
theorem dX13_advances_201 : decode cX13_advances 201 = .ok (.if_icmp .le 10, 3) := by decide +kernel
theorem dX13_advances_204 : decode cX13_advances 204 = .ok (.aload_n 0, 1) := by decide +kernel
theorem dX13_advances_205 : decode cX13_advances 205 = .ok (.getfield 93, 3) := by decide +kernel
theorem dX13_advances_208 : decode cX13_advances 208 = .ok (.goto 22, 3) := by decide +kernel
theorem dX13_advances_211 : decode cX13_advances 211 = .ok (.bipush 10, 2) := by decide +kernel
theorem dX13_advances_213 : decode cX13_advances 213 = .ok (.aload_n 0, 1) := by decide +kernel
theorem dX13_advances_214 : decode cX13_advances 214 = .ok (.getfield 93, 3) := by decide +kernel
theorem dX13_advances_217 : decode cX13_advances 217 = .ok (.imul, 1) := by decide +kernel
theorem dX13_advances_218 : decode cX13_advances 218 = .ok (.aload_n 0, 1) := by decide +kernel
theorem dX13_advances_219 : decode cX13_advances 219 = .ok (.aload_n 0, 1) := by decide +kernel
theorem dX13_advances_220 : decode cX13_advances 220 = .ok (.getfield 76, 3) := by decide +kernel
theorem dX13_advances_223 : decode cX13_advances 223 = .ok (.invokevirtual 79, 3) := by decide +kernel
theorem dX13_advances_226 : decode cX13_advances 226 = .ok (.iadd, 1) := by decide +kernel
theorem dX13_advances_227 : decode cX13_advances 227 = .ok (.bipush 48, 2) := by decide +kernel
theorem dX13_advances_229 : decode cX13_advances 229 = .ok (.isub, 1) := by decide +kernel
theorem dX13_advances_230 : decode cX13_advances 230 = .ok (.putfield 93, 3) := by decide +kernel
theorem dX13_advances_233 : decode cX13_advances 233 = .ok (.aload_n 0, 1) := by decide +kernel
theorem dX13_advances_234 : decode cX13_advances 234 = .ok (.dup, 1) := by decide +kernel
theorem dX13_advances_235 : decode cX13_advances 235 = .ok (.getfield 76, 3) := by decide +kernel
theorem dX13_advances_238 : decode cX13_advances 238 = .ok (.iconst 1, 1) := by decide +kernel
theorem dX13_advances_239 : decode cX13_advances 239 = .ok (.iadd, 1) := by decide +kernel
theorem dX13_advances_240 : decode cX13_advances 240 = .ok (.putfield 76, 3) := by decide +kernel
theorem dX13_advances_243 : decode cX13_advances 243 = .ok (.goto (-68), 3) := by decide +kernel
theorem dX13_advances_246 : decode cX13_advances 246 = .ok (.aload_n 0, 1) := by decide +kernel
theorem dX13_advances_247 : decode cX13_advances 247 = .ok (.aload_n 0, 1) := by decide +kernel
theorem dX13_advances_248 : decode cX13_advances 248 = .ok (.getfield 93, 3) := by decide +kernel
theorem dX13_advances_251 : decode cX13_advances 251 = .ok (.sipush 999, 3) := by decide +kernel
theorem dX13_advances_254 : decode cX13_advances 254 = .ok (.if_icmp .gt 22, 3) := by decide +kernel
theorem dX13_advances_257 : decode cX13_advances 257 = .ok (.iload_n 1, 1) := by decide +kernel
theorem dX13_advances_258 : decode cX13_advances 258 = .ok (.bipush 48, 2) := by decide +kernel
theorem dX13_advances_260 : decode cX13_advances 260 = .ok (.if_icmp .ne 20, 3) := by decide +kernel
theorem dX13_advances_263 : decode cX13_advances 263 = .ok (.aload_n 0, 1) := by decide +kernel
theorem dX13_advances_264 : decode cX13_advances 264 = .ok (.getfield 76, 3) := by decide +kernel
theorem dX13_advances_267 : decode cX13_advances 267 = .ok (.aload_n 0, 1) := by decide +kernel
theorem dX13_advances_268 : decode cX13_advances 268 = .ok (.getfield 83, 3) := by decide +kernel
theorem dX13_advances_271 : decode cX13_advances 271 = .ok (.isub, 1) := by decide +kernel
theorem dX13_advances_272 : decode cX13_advances 272 = .ok (.iconst 1, 1) := by decide +kernel
theorem dX13_advances_273 : decode cX13_advances 273 = .ok (.if_icmp .le 7, 3) := by decide +kernel
theorem dX13_advances_276 : decode cX13_advances 276 = .ok (.iconst 4, 1) := by decide +kernel
theorem dX13_advances_277 : decode cX13_advances 277 = .ok (.goto 4, 3) := by decide +kernel
theorem dX13_advances_280 : decode cX13_advances 280 = .ok (.iconst 2, 1) := by decide +kernel
theorem dX13_advances_281 : decode cX13_advances 281 = .ok (.putfield 86, 3) := by decide +kernel
theorem dX13_advances_284 : decode cX13_advances 284 = .ok (.goto 28, 3) := by decide +kernel
theorem dX13_advances_287 : decode cX13_advances 287 = .ok (.aload_n 0, 1) := by decide +kernel
theorem dX13_advances_288 : decode cX13_advances 288 = .ok (.dup, 1) := by decide +kernel
theorem dX13_advances_289 : decode cX13_advances 289 = .ok (.getfield 76, 3) := by decide +kernel
theorem dX13_advances_292 : decode cX13_advances 292 = .ok (.iconst 1, 1) := by decide +kernel
theorem dX13_advances_293 : decode cX13_advances 293 = .ok (.iadd, 1) := by decide +kernel
theorem dX13_advances_294 : decode cX13_advances 294 = .ok (.putfield 76, 3) := by decide +kernel
theorem dX13_advances_297 : decode cX13_advances 297 = .ok (.aload_n 0, 1) := by decide +kernel
theorem dX13_advances_298 : decode cX13_advances 298 = .ok (.iload_n 1, 1) := by decide +kernel
theorem dX13_advances_299 : decode cX13_advances 299 = .ok (.bipush 59, 2) := by decide +kernel
theorem dX13_advances_301 : decode cX13_advances 301 = .ok (.if_icmp .ne 7, 3) := by decide +kernel
theorem dX13_advances_304 : decode cX13_advances 304 = .ok (.iconst 3, 1) := by decide +kernel
theorem dX13_advances_305 : decode cX13_advances 305 = .ok (.goto 4, 3) := by decide +kernel
theorem dX13_advances_308 : decode cX13_advances 308 = .ok (.iconst 4, 1) := by decide +kernel
theorem dX13_advances_309 : decode cX13_advances 309 = .ok (.putfield 86, 3) := by decide +kernel
theorem dX13_advances_312 : decode cX13_advances 312 = .ok (.return_, 1) := by decide +kernel
theorem dX13_isWell_0 : decode cX13_isWell 0 = .ok (.aload_n 0, 1) := by decide +kernel
theorem dX13_isWell_1 : decode cX13_isWell 1 = .ok (.getfield 96, 3) := by decide +kernel
theorem dX13_isWell_4 : decode cX13_isWell 4 = .ok (.ifCond .ge 7, 3) := by decide +kernel
theorem dX13_isWell_7 : decode cX13_isWell 7 = .ok (.iconst 1, 1) := by decide +kernel
theorem dX13_isWell_8 : decode cX13_isWell 8 = .ok (.goto 4, 3) := by decide +kernel
theorem dX13_isWell_11 : decode cX13_isWell 11 = .ok (.iconst 0, 1) := by decide +kernel
theorem dX13_isWell_12 : decode cX13_isWell 12 = .ok (.ireturn, 1) := by decide +kernel
theorem dX13_takes_0 : decode cX13_takes 0 = .ok (.aload_n 0, 1) := by decide +kernel
theorem dX13_takes_1 : decode cX13_takes 1 = .ok (.invokevirtual 99, 3) := by decide +kernel
theorem dX13_takes_4 : decode cX13_takes 4 = .ok (.ifCond .ne 5, 3) := by decide +kernel
theorem dX13_takes_7 : decode cX13_takes 7 = .ok (.iconst 0, 1) := by decide +kernel
theorem dX13_takes_8 : decode cX13_takes 8 = .ok (.ireturn, 1) := by decide +kernel
theorem dX13_takes_9 : decode cX13_takes 9 = .ok (.iload_n 1, 1) := by decide +kernel
theorem dX13_takes_10 : decode cX13_takes 10 = .ok (.ifCond .ne 13, 3) := by decide +kernel
theorem dX13_takes_13 : decode cX13_takes 13 = .ok (.aload_n 0, 1) := by decide +kernel
theorem dX13_takes_14 : decode cX13_takes 14 = .ok (.aload_n 0, 1) := by decide +kernel
theorem dX13_takes_15 : decode cX13_takes 15 = .ok (.getfield 83, 3) := by decide +kernel
theorem dX13_takes_18 : decode cX13_takes 18 = .ok (.putfield 96, 3) := by decide +kernel
theorem dX13_takes_21 : decode cX13_takes 21 = .ok (.iconst 0, 1) := by decide +kernel
theorem dX13_takes_22 : decode cX13_takes 22 = .ok (.ireturn, 1) := by decide +kernel
theorem dX13_takes_23 : decode cX13_takes 23 = .ok (.aload_n 0, 1) := by decide +kernel
theorem dX13_takes_24 : decode cX13_takes 24 = .ok (.getfield 93, 3) := by decide +kernel
theorem dX13_takes_27 : decode cX13_takes 27 = .ok (.istore_n 2, 1) := by decide +kernel
theorem dX13_takes_28 : decode cX13_takes 28 = .ok (.aload_n 0, 1) := by decide +kernel
theorem dX13_takes_29 : decode cX13_takes 29 = .ok (.invokevirtual 103, 3) := by decide +kernel
theorem dX13_takes_32 : decode cX13_takes 32 = .ok (.iload_n 2, 1) := by decide +kernel
theorem dX13_takes_33 : decode cX13_takes 33 = .ok (.ireturn, 1) := by decide +kernel
theorem dX13_number_0 : decode cX13_number 0 = .ok (.aload_n 0, 1) := by decide +kernel
theorem dX13_number_1 : decode cX13_number 1 = .ok (.aload_n 0, 1) := by decide +kernel
theorem dX13_number_2 : decode cX13_number 2 = .ok (.getfield 86, 3) := by decide +kernel
theorem dX13_number_5 : decode cX13_number 5 = .ok (.iconst 2, 1) := by decide +kernel
theorem dX13_number_6 : decode cX13_number 6 = .ok (.if_icmp .ne 19, 3) := by decide +kernel
theorem dX13_number_9 : decode cX13_number 9 = .ok (.aload_n 0, 1) := by decide +kernel
theorem dX13_number_10 : decode cX13_number 10 = .ok (.getfield 93, 3) := by decide +kernel
theorem dX13_number_13 : decode cX13_number 13 = .ok (.iload_n 1, 1) := by decide +kernel
theorem dX13_number_14 : decode cX13_number 14 = .ok (.iload_n 2, 1) := by decide +kernel
theorem dX13_number_15 : decode cX13_number 15 = .ok (.invokestatic 57, 3) := by decide +kernel
theorem dX13_number_18 : decode cX13_number 18 = .ok (.ifCond .eq 7, 3) := by decide +kernel
theorem dX13_number_21 : decode cX13_number 21 = .ok (.iconst 1, 1) := by decide +kernel
theorem dX13_number_22 : decode cX13_number 22 = .ok (.goto 4, 3) := by decide +kernel
theorem dX13_number_25 : decode cX13_number 25 = .ok (.iconst 0, 1) := by decide +kernel
theorem dX13_number_26 : decode cX13_number 26 = .ok (.invokevirtual 106, 3) := by decide +kernel
theorem dX13_number_29 : decode cX13_number 29 = .ok (.ireturn, 1) := by decide +kernel
theorem dX13_readsItem_0 : decode cX13_readsItem 0 = .ok (.iload_n 1, 1) := by decide +kernel
theorem dX13_readsItem_1 : decode cX13_readsItem 1 = .ok (.ifCond .ne 134, 3) := by decide +kernel
theorem dX13_readsItem_4 : decode cX13_readsItem 4 = .ok (.bipush 7, 2) := by decide +kernel
theorem dX13_readsItem_6 : decode cX13_readsItem 6 = .ok (.aload_n 0, 1) := by decide +kernel
theorem dX13_readsItem_7 : decode cX13_readsItem 7 = .ok (.getfield 110, 3) := by decide +kernel
theorem dX13_readsItem_10 : decode cX13_readsItem 10 = .ok (.imul, 1) := by decide +kernel
theorem dX13_readsItem_11 : decode cX13_readsItem 11 = .ok (.istore_n 2, 1) := by decide +kernel
theorem dX13_readsItem_12 : decode cX13_readsItem 12 = .ok (.aload_n 0, 1) := by decide +kernel
theorem dX13_readsItem_13 : decode cX13_readsItem 13 = .ok (.getfield 29, 3) := by decide +kernel
theorem dX13_readsItem_16 : decode cX13_readsItem 16 = .ok (.iload_n 2, 1) := by decide +kernel
theorem dX13_readsItem_17 : decode cX13_readsItem 17 = .ok (.iconst 0, 1) := by decide +kernel
theorem dX13_readsItem_18 : decode cX13_readsItem 18 = .ok (.iadd, 1) := by decide +kernel
theorem dX13_readsItem_19 : decode cX13_readsItem 19 = .ok (.aload_n 0, 1) := by decide +kernel
theorem dX13_readsItem_20 : decode cX13_readsItem 20 = .ok (.bipush 80, 2) := by decide +kernel
theorem dX13_readsItem_22 : decode cX13_readsItem 22 = .ok (.sipush 130, 3) := by decide +kernel
theorem dX13_readsItem_25 : decode cX13_readsItem 25 = .ok (.invokevirtual 113, 3) := by decide +kernel
theorem dX13_readsItem_28 : decode cX13_readsItem 28 = .ok (.iastore, 1) := by decide +kernel
theorem dX13_readsItem_29 : decode cX13_readsItem 29 = .ok (.aload_n 0, 1) := by decide +kernel
theorem dX13_readsItem_30 : decode cX13_readsItem 30 = .ok (.getfield 29, 3) := by decide +kernel
theorem dX13_readsItem_33 : decode cX13_readsItem 33 = .ok (.iload_n 2, 1) := by decide +kernel
theorem dX13_readsItem_34 : decode cX13_readsItem 34 = .ok (.iconst 1, 1) := by decide +kernel
theorem dX13_readsItem_35 : decode cX13_readsItem 35 = .ok (.iadd, 1) := by decide +kernel
theorem dX13_readsItem_36 : decode cX13_readsItem 36 = .ok (.aload_n 0, 1) := by decide +kernel
theorem dX13_readsItem_37 : decode cX13_readsItem 37 = .ok (.sipush 200, 3) := by decide +kernel
theorem dX13_readsItem_40 : decode cX13_readsItem 40 = .ok (.sipush 600, 3) := by decide +kernel
theorem dX13_readsItem_43 : decode cX13_readsItem 43 = .ok (.invokevirtual 113, 3) := by decide +kernel
theorem dX13_readsItem_46 : decode cX13_readsItem 46 = .ok (.iastore, 1) := by decide +kernel
theorem dX13_readsItem_47 : decode cX13_readsItem 47 = .ok (.aload_n 0, 1) := by decide +kernel
theorem dX13_readsItem_48 : decode cX13_readsItem 48 = .ok (.getfield 29, 3) := by decide +kernel
theorem dX13_readsItem_51 : decode cX13_readsItem 51 = .ok (.iload_n 2, 1) := by decide +kernel
theorem dX13_readsItem_52 : decode cX13_readsItem 52 = .ok (.iconst 2, 1) := by decide +kernel
theorem dX13_readsItem_53 : decode cX13_readsItem 53 = .ok (.iadd, 1) := by decide +kernel
theorem dX13_readsItem_54 : decode cX13_readsItem 54 = .ok (.aload_n 0, 1) := by decide +kernel
theorem dX13_readsItem_55 : decode cX13_readsItem 55 = .ok (.bipush 20, 2) := by decide +kernel
theorem dX13_readsItem_57 : decode cX13_readsItem 57 = .ok (.bipush 99, 2) := by decide +kernel
theorem dX13_readsItem_59 : decode cX13_readsItem 59 = .ok (.invokevirtual 113, 3) := by decide +kernel
theorem dX13_readsItem_62 : decode cX13_readsItem 62 = .ok (.iastore, 1) := by decide +kernel
theorem dX13_readsItem_63 : decode cX13_readsItem 63 = .ok (.aload_n 0, 1) := by decide +kernel
theorem dX13_readsItem_64 : decode cX13_readsItem 64 = .ok (.getfield 29, 3) := by decide +kernel
theorem dX13_readsItem_67 : decode cX13_readsItem 67 = .ok (.iload_n 2, 1) := by decide +kernel
theorem dX13_readsItem_68 : decode cX13_readsItem 68 = .ok (.iconst 2, 1) := by decide +kernel
theorem dX13_readsItem_69 : decode cX13_readsItem 69 = .ok (.iadd, 1) := by decide +kernel
theorem dX13_readsItem_70 : decode cX13_readsItem 70 = .ok (.iconst 1, 1) := by decide +kernel
theorem dX13_readsItem_71 : decode cX13_readsItem 71 = .ok (.iadd, 1) := by decide +kernel
theorem dX13_readsItem_72 : decode cX13_readsItem 72 = .ok (.aload_n 0, 1) := by decide +kernel
theorem dX13_readsItem_73 : decode cX13_readsItem 73 = .ok (.bipush 20, 2) := by decide +kernel
theorem dX13_readsItem_75 : decode cX13_readsItem 75 = .ok (.bipush 99, 2) := by decide +kernel
theorem dX13_readsItem_77 : decode cX13_readsItem 77 = .ok (.invokevirtual 113, 3) := by decide +kernel
theorem dX13_readsItem_80 : decode cX13_readsItem 80 = .ok (.iastore, 1) := by decide +kernel
theorem dX13_readsItem_81 : decode cX13_readsItem 81 = .ok (.aload_n 0, 1) := by decide +kernel
theorem dX13_readsItem_82 : decode cX13_readsItem 82 = .ok (.getfield 29, 3) := by decide +kernel
theorem dX13_readsItem_85 : decode cX13_readsItem 85 = .ok (.iload_n 2, 1) := by decide +kernel
theorem dX13_readsItem_86 : decode cX13_readsItem 86 = .ok (.iconst 4, 1) := by decide +kernel
theorem dX13_readsItem_87 : decode cX13_readsItem 87 = .ok (.iadd, 1) := by decide +kernel
theorem dX13_readsItem_88 : decode cX13_readsItem 88 = .ok (.aload_n 0, 1) := by decide +kernel
theorem dX13_readsItem_89 : decode cX13_readsItem 89 = .ok (.iconst 0, 1) := by decide +kernel
theorem dX13_readsItem_90 : decode cX13_readsItem 90 = .ok (.sipush 200, 3) := by decide +kernel
theorem dX13_readsItem_93 : decode cX13_readsItem 93 = .ok (.invokevirtual 113, 3) := by decide +kernel
theorem dX13_readsItem_96 : decode cX13_readsItem 96 = .ok (.iastore, 1) := by decide +kernel
theorem dX13_readsItem_97 : decode cX13_readsItem 97 = .ok (.aload_n 0, 1) := by decide +kernel
theorem dX13_readsItem_98 : decode cX13_readsItem 98 = .ok (.getfield 29, 3) := by decide +kernel
theorem dX13_readsItem_101 : decode cX13_readsItem 101 = .ok (.iload_n 2, 1) := by decide +kernel
theorem dX13_readsItem_102 : decode cX13_readsItem 102 = .ok (.iconst 5, 1) := by decide +kernel
theorem dX13_readsItem_103 : decode cX13_readsItem 103 = .ok (.iadd, 1) := by decide +kernel
theorem dX13_readsItem_104 : decode cX13_readsItem 104 = .ok (.aload_n 0, 1) := by decide +kernel
theorem dX13_readsItem_105 : decode cX13_readsItem 105 = .ok (.iconst 0, 1) := by decide +kernel
theorem dX13_readsItem_106 : decode cX13_readsItem 106 = .ok (.bipush 9, 2) := by decide +kernel
theorem dX13_readsItem_108 : decode cX13_readsItem 108 = .ok (.invokevirtual 113, 3) := by decide +kernel
theorem dX13_readsItem_111 : decode cX13_readsItem 111 = .ok (.iastore, 1) := by decide +kernel
theorem dX13_readsItem_112 : decode cX13_readsItem 112 = .ok (.aload_n 0, 1) := by decide +kernel
theorem dX13_readsItem_113 : decode cX13_readsItem 113 = .ok (.getfield 29, 3) := by decide +kernel
theorem dX13_readsItem_116 : decode cX13_readsItem 116 = .ok (.iload_n 2, 1) := by decide +kernel
theorem dX13_readsItem_117 : decode cX13_readsItem 117 = .ok (.bipush 6, 2) := by decide +kernel
theorem dX13_readsItem_119 : decode cX13_readsItem 119 = .ok (.iadd, 1) := by decide +kernel
theorem dX13_readsItem_120 : decode cX13_readsItem 120 = .ok (.iconst 0, 1) := by decide +kernel
theorem dX13_readsItem_121 : decode cX13_readsItem 121 = .ok (.iastore, 1) := by decide +kernel
theorem dX13_readsItem_122 : decode cX13_readsItem 122 = .ok (.aload_n 0, 1) := by decide +kernel
theorem dX13_readsItem_123 : decode cX13_readsItem 123 = .ok (.dup, 1) := by decide +kernel
theorem dX13_readsItem_124 : decode cX13_readsItem 124 = .ok (.getfield 110, 3) := by decide +kernel
theorem dX13_readsItem_127 : decode cX13_readsItem 127 = .ok (.iconst 1, 1) := by decide +kernel
theorem dX13_readsItem_128 : decode cX13_readsItem 128 = .ok (.iadd, 1) := by decide +kernel
theorem dX13_readsItem_129 : decode cX13_readsItem 129 = .ok (.putfield 110, 3) := by decide +kernel
theorem dX13_readsItem_132 : decode cX13_readsItem 132 = .ok (.goto 150, 3) := by decide +kernel
theorem dX13_readsItem_135 : decode cX13_readsItem 135 = .ok (.iload_n 1, 1) := by decide +kernel
theorem dX13_readsItem_136 : decode cX13_readsItem 136 = .ok (.iconst 1, 1) := by decide +kernel
theorem dX13_readsItem_137 : decode cX13_readsItem 137 = .ok (.if_icmp .ne 55, 3) := by decide +kernel
theorem dX13_readsItem_140 : decode cX13_readsItem 140 = .ok (.aload_n 0, 1) := by decide +kernel
theorem dX13_readsItem_141 : decode cX13_readsItem 141 = .ok (.getfield 32, 3) := by decide +kernel
theorem dX13_readsItem_144 : decode cX13_readsItem 144 = .ok (.iconst 2, 1) := by decide +kernel
theorem dX13_readsItem_145 : decode cX13_readsItem 145 = .ok (.aload_n 0, 1) := by decide +kernel
theorem dX13_readsItem_146 : decode cX13_readsItem 146 = .ok (.getfield 117, 3) := by decide +kernel
theorem dX13_readsItem_149 : decode cX13_readsItem 149 = .ok (.imul, 1) := by decide +kernel
theorem dX13_readsItem_150 : decode cX13_readsItem 150 = .ok (.aload_n 0, 1) := by decide +kernel
theorem dX13_readsItem_151 : decode cX13_readsItem 151 = .ok (.bipush 20, 2) := by decide +kernel
theorem dX13_readsItem_153 : decode cX13_readsItem 153 = .ok (.bipush 70, 2) := by decide +kernel
theorem dX13_readsItem_155 : decode cX13_readsItem 155 = .ok (.invokevirtual 113, 3) := by decide +kernel
theorem dX13_readsItem_158 : decode cX13_readsItem 158 = .ok (.iastore, 1) := by decide +kernel
theorem dX13_readsItem_159 : decode cX13_readsItem 159 = .ok (.aload_n 0, 1) := by decide +kernel
theorem dX13_readsItem_160 : decode cX13_readsItem 160 = .ok (.getfield 32, 3) := by decide +kernel
theorem dX13_readsItem_163 : decode cX13_readsItem 163 = .ok (.iconst 2, 1) := by decide +kernel
theorem dX13_readsItem_164 : decode cX13_readsItem 164 = .ok (.aload_n 0, 1) := by decide +kernel
theorem dX13_readsItem_165 : decode cX13_readsItem 165 = .ok (.getfield 117, 3) := by decide +kernel
theorem dX13_readsItem_168 : decode cX13_readsItem 168 = .ok (.imul, 1) := by decide +kernel
theorem dX13_readsItem_169 : decode cX13_readsItem 169 = .ok (.iconst 1, 1) := by decide +kernel
theorem dX13_readsItem_170 : decode cX13_readsItem 170 = .ok (.iadd, 1) := by decide +kernel
theorem dX13_readsItem_171 : decode cX13_readsItem 171 = .ok (.aload_n 0, 1) := by decide +kernel
theorem dX13_readsItem_172 : decode cX13_readsItem 172 = .ok (.iconst 0, 1) := by decide +kernel
theorem dX13_readsItem_173 : decode cX13_readsItem 173 = .ok (.bipush 9, 2) := by decide +kernel
theorem dX13_readsItem_175 : decode cX13_readsItem 175 = .ok (.invokevirtual 113, 3) := by decide +kernel
theorem dX13_readsItem_178 : decode cX13_readsItem 178 = .ok (.iastore, 1) := by decide +kernel
theorem dX13_readsItem_179 : decode cX13_readsItem 179 = .ok (.aload_n 0, 1) := by decide +kernel
theorem dX13_readsItem_180 : decode cX13_readsItem 180 = .ok (.dup, 1) := by decide +kernel
theorem dX13_readsItem_181 : decode cX13_readsItem 181 = .ok (.getfield 117, 3) := by decide +kernel
theorem dX13_readsItem_184 : decode cX13_readsItem 184 = .ok (.iconst 1, 1) := by decide +kernel
theorem dX13_readsItem_185 : decode cX13_readsItem 185 = .ok (.iadd, 1) := by decide +kernel
theorem dX13_readsItem_186 : decode cX13_readsItem 186 = .ok (.putfield 117, 3) := by decide +kernel
theorem dX13_readsItem_189 : decode cX13_readsItem 189 = .ok (.goto 93, 3) := by decide +kernel
theorem dX13_readsItem_192 : decode cX13_readsItem 192 = .ok (.aload_n 0, 1) := by decide +kernel
theorem dX13_readsItem_193 : decode cX13_readsItem 193 = .ok (.aload_n 0, 1) := by decide +kernel
theorem dX13_readsItem_194 : decode cX13_readsItem 194 = .ok (.getfield 86, 3) := by decide +kernel
theorem dX13_readsItem_197 : decode cX13_readsItem 197 = .ok (.iconst 1, 1) := by decide +kernel
theorem dX13_readsItem_198 : decode cX13_readsItem 198 = .ok (.if_icmp .ne 19, 3) := by decide +kernel
theorem dX13_readsItem_201 : decode cX13_readsItem 201 = .ok (.aload_n 0, 1) := by decide +kernel
theorem dX13_readsItem_202 : decode cX13_readsItem 202 = .ok (.getfield 93, 3) := by decide +kernel
theorem dX13_readsItem_205 : decode cX13_readsItem 205 = .ok (.iconst 3, 1) := by decide +kernel
theorem dX13_readsItem_206 : decode cX13_readsItem 206 = .ok (.iconst 4, 1) := by decide +kernel
theorem dX13_readsItem_207 : decode cX13_readsItem 207 = .ok (.invokestatic 57, 3) := by decide +kernel
theorem dX13_readsItem_210 : decode cX13_readsItem 210 = .ok (.ifCond .eq 7, 3) := by decide +kernel
theorem dX13_readsItem_213 : decode cX13_readsItem 213 = .ok (.iconst 1, 1) := by decide +kernel
theorem dX13_readsItem_214 : decode cX13_readsItem 214 = .ok (.goto 4, 3) := by decide +kernel
theorem dX13_readsItem_217 : decode cX13_readsItem 217 = .ok (.iconst 0, 1) := by decide +kernel
theorem dX13_readsItem_218 : decode cX13_readsItem 218 = .ok (.invokevirtual 106, 3) := by decide +kernel
theorem dX13_readsItem_221 : decode cX13_readsItem 221 = .ok (.istore_n 2, 1) := by decide +kernel
theorem dX13_readsItem_222 : decode cX13_readsItem 222 = .ok (.aload_n 0, 1) := by decide +kernel
theorem dX13_readsItem_223 : decode cX13_readsItem 223 = .ok (.iconst 0, 1) := by decide +kernel
theorem dX13_readsItem_224 : decode cX13_readsItem 224 = .ok (.bipush 30, 2) := by decide +kernel
theorem dX13_readsItem_226 : decode cX13_readsItem 226 = .ok (.invokevirtual 113, 3) := by decide +kernel
theorem dX13_readsItem_229 : decode cX13_readsItem 229 = .ok (.istore_n 3, 1) := by decide +kernel
theorem dX13_readsItem_230 : decode cX13_readsItem 230 = .ok (.aload_n 0, 1) := by decide +kernel
theorem dX13_readsItem_231 : decode cX13_readsItem 231 = .ok (.getfield 35, 3) := by decide +kernel
theorem dX13_readsItem_234 : decode cX13_readsItem 234 = .ok (.iconst 2, 1) := by decide +kernel
theorem dX13_readsItem_235 : decode cX13_readsItem 235 = .ok (.aload_n 0, 1) := by decide +kernel
theorem dX13_readsItem_236 : decode cX13_readsItem 236 = .ok (.getfield 120, 3) := by decide +kernel
theorem dX13_readsItem_239 : decode cX13_readsItem 239 = .ok (.imul, 1) := by decide +kernel
theorem dX13_readsItem_240 : decode cX13_readsItem 240 = .ok (.iload_n 2, 1) := by decide +kernel
theorem dX13_readsItem_241 : decode cX13_readsItem 241 = .ok (.iconst 3, 1) := by decide +kernel
theorem dX13_readsItem_242 : decode cX13_readsItem 242 = .ok (.if_icmp .ne 8, 3) := by decide +kernel
theorem dX13_readsItem_245 : decode cX13_readsItem 245 = .ok (.iload_n 3, 1) := by decide +kernel
theorem dX13_readsItem_246 : decode cX13_readsItem 246 = .ok (.ineg, 1) := by decide +kernel
theorem dX13_readsItem_247 : decode cX13_readsItem 247 = .ok (.goto 4, 3) := by decide +kernel
theorem dX13_readsItem_250 : decode cX13_readsItem 250 = .ok (.iload_n 3, 1) := by decide +kernel
theorem dX13_readsItem_251 : decode cX13_readsItem 251 = .ok (.iastore, 1) := by decide +kernel
theorem dX13_readsItem_252 : decode cX13_readsItem 252 = .ok (.aload_n 0, 1) := by decide +kernel
theorem dX13_readsItem_253 : decode cX13_readsItem 253 = .ok (.getfield 35, 3) := by decide +kernel
theorem dX13_readsItem_256 : decode cX13_readsItem 256 = .ok (.iconst 2, 1) := by decide +kernel
theorem dX13_readsItem_257 : decode cX13_readsItem 257 = .ok (.aload_n 0, 1) := by decide +kernel
theorem dX13_readsItem_258 : decode cX13_readsItem 258 = .ok (.getfield 120, 3) := by decide +kernel
theorem dX13_readsItem_261 : decode cX13_readsItem 261 = .ok (.imul, 1) := by decide +kernel
theorem dX13_readsItem_262 : decode cX13_readsItem 262 = .ok (.iconst 1, 1) := by decide +kernel
theorem dX13_readsItem_263 : decode cX13_readsItem 263 = .ok (.iadd, 1) := by decide +kernel
theorem dX13_readsItem_264 : decode cX13_readsItem 264 = .ok (.aload_n 0, 1) := by decide +kernel
theorem dX13_readsItem_265 : decode cX13_readsItem 265 = .ok (.iconst 0, 1) := by decide +kernel
theorem dX13_readsItem_266 : decode cX13_readsItem 266 = .ok (.bipush 20, 2) := by decide +kernel
theorem dX13_readsItem_268 : decode cX13_readsItem 268 = .ok (.invokevirtual 113, 3) := by decide +kernel
theorem dX13_readsItem_271 : decode cX13_readsItem 271 = .ok (.iastore, 1) := by decide +kernel
theorem dX13_readsItem_272 : decode cX13_readsItem 272 = .ok (.aload_n 0, 1) := by decide +kernel
theorem dX13_readsItem_273 : decode cX13_readsItem 273 = .ok (.dup, 1) := by decide +kernel
theorem dX13_readsItem_274 : decode cX13_readsItem 274 = .ok (.getfield 120, 3) := by decide +kernel
theorem dX13_readsItem_277 : decode cX13_readsItem 277 = .ok (.iconst 1, 1) := by decide +kernel
theorem dX13_readsItem_278 : decode cX13_readsItem 278 = .ok (.iadd, 1) := by decide +kernel
theorem dX13_readsItem_279 : decode cX13_readsItem 279 = .ok (.putfield 120, 3) := by decide +kernel
theorem dX13_readsItem_282 : decode cX13_readsItem 282 = .ok (.return_, 1) := by decide +kernel
theorem dX13_arrows_0 : decode cX13_arrows 0 = .ok (.aload_n 0, 1) := by decide +kernel
theorem dX13_arrows_1 : decode cX13_arrows 1 = .ok (.iconst 0, 1) := by decide +kernel
theorem dX13_arrows_2 : decode cX13_arrows 2 = .ok (.putfield 53, 3) := by decide +kernel
theorem dX13_arrows_5 : decode cX13_arrows 5 = .ok (.aload_n 0, 1) := by decide +kernel
theorem dX13_arrows_6 : decode cX13_arrows 6 = .ok (.iconst (-1), 1) := by decide +kernel
theorem dX13_arrows_7 : decode cX13_arrows 7 = .ok (.putfield 96, 3) := by decide +kernel
theorem dX13_arrows_10 : decode cX13_arrows 10 = .ok (.aload_n 0, 1) := by decide +kernel
theorem dX13_arrows_11 : decode cX13_arrows 11 = .ok (.iconst 0, 1) := by decide +kernel
theorem dX13_arrows_12 : decode cX13_arrows 12 = .ok (.putfield 76, 3) := by decide +kernel
theorem dX13_arrows_15 : decode cX13_arrows 15 = .ok (.iconst 0, 1) := by decide +kernel
theorem dX13_arrows_16 : decode cX13_arrows 16 = .ok (.istore_n 1, 1) := by decide +kernel
theorem dX13_arrows_17 : decode cX13_arrows 17 = .ok (.aload_n 0, 1) := by decide +kernel
theorem dX13_arrows_18 : decode cX13_arrows 18 = .ok (.iconst 0, 1) := by decide +kernel
theorem dX13_arrows_19 : decode cX13_arrows 19 = .ok (.putfield 110, 3) := by decide +kernel
theorem dX13_arrows_22 : decode cX13_arrows 22 = .ok (.aload_n 0, 1) := by decide +kernel
theorem dX13_arrows_23 : decode cX13_arrows 23 = .ok (.iconst 0, 1) := by decide +kernel
theorem dX13_arrows_24 : decode cX13_arrows 24 = .ok (.putfield 117, 3) := by decide +kernel
theorem dX13_arrows_27 : decode cX13_arrows 27 = .ok (.aload_n 0, 1) := by decide +kernel
theorem dX13_arrows_28 : decode cX13_arrows 28 = .ok (.iconst 0, 1) := by decide +kernel
theorem dX13_arrows_29 : decode cX13_arrows 29 = .ok (.putfield 120, 3) := by decide +kernel
theorem dX13_arrows_32 : decode cX13_arrows 32 = .ok (.aload_n 0, 1) := by decide +kernel
theorem dX13_arrows_33 : decode cX13_arrows 33 = .ok (.invokevirtual 103, 3) := by decide +kernel
theorem dX13_arrows_36 : decode cX13_arrows 36 = .ok (.aload_n 0, 1) := by decide +kernel
theorem dX13_arrows_37 : decode cX13_arrows 37 = .ok (.invokevirtual 99, 3) := by decide +kernel
theorem dX13_arrows_40 : decode cX13_arrows 40 = .ok (.ifCond .eq 118, 3) := by decide +kernel
theorem dX13_arrows_43 : decode cX13_arrows 43 = .ok (.aload_n 0, 1) := by decide +kernel
theorem dX13_arrows_44 : decode cX13_arrows 44 = .ok (.getfield 86, 3) := by decide +kernel
theorem dX13_arrows_47 : decode cX13_arrows 47 = .ok (.ifCond .eq 111, 3) := by decide +kernel
theorem dX13_arrows_50 : decode cX13_arrows 50 = .ok (.aload_n 0, 1) := by decide +kernel
theorem dX13_arrows_51 : decode cX13_arrows 51 = .ok (.aload_n 0, 1) := by decide +kernel
theorem dX13_arrows_52 : decode cX13_arrows 52 = .ok (.getfield 86, 3) := by decide +kernel
theorem dX13_arrows_55 : decode cX13_arrows 55 = .ok (.iconst 1, 1) := by decide +kernel
theorem dX13_arrows_56 : decode cX13_arrows 56 = .ok (.if_icmp .ne 61, 3) := by decide +kernel
theorem dX13_arrows_59 : decode cX13_arrows 59 = .ok (.aload_n 0, 1) := by decide +kernel
theorem dX13_arrows_60 : decode cX13_arrows 60 = .ok (.getfield 93, 3) := by decide +kernel
theorem dX13_arrows_63 : decode cX13_arrows 63 = .ok (.ifCond .ne 15, 3) := by decide +kernel
theorem dX13_arrows_66 : decode cX13_arrows 66 = .ok (.aload_n 0, 1) := by decide +kernel
theorem dX13_arrows_67 : decode cX13_arrows 67 = .ok (.getfield 110, 3) := by decide +kernel
theorem dX13_arrows_70 : decode cX13_arrows 70 = .ok (.bipush 12, 2) := by decide +kernel
theorem dX13_arrows_72 : decode cX13_arrows 72 = .ok (.if_icmp .ge 45, 3) := by decide +kernel
theorem dX13_arrows_75 : decode cX13_arrows 75 = .ok (.goto 38, 3) := by decide +kernel
theorem dX13_arrows_78 : decode cX13_arrows 78 = .ok (.aload_n 0, 1) := by decide +kernel
theorem dX13_arrows_79 : decode cX13_arrows 79 = .ok (.getfield 93, 3) := by decide +kernel
theorem dX13_arrows_82 : decode cX13_arrows 82 = .ok (.iconst 1, 1) := by decide +kernel
theorem dX13_arrows_83 : decode cX13_arrows 83 = .ok (.if_icmp .ne 14, 3) := by decide +kernel
theorem dX13_arrows_86 : decode cX13_arrows 86 = .ok (.aload_n 0, 1) := by decide +kernel
theorem dX13_arrows_87 : decode cX13_arrows 87 = .ok (.getfield 117, 3) := by decide +kernel
theorem dX13_arrows_90 : decode cX13_arrows 90 = .ok (.iconst 3, 1) := by decide +kernel
theorem dX13_arrows_91 : decode cX13_arrows 91 = .ok (.if_icmp .ge 26, 3) := by decide +kernel
theorem dX13_arrows_94 : decode cX13_arrows 94 = .ok (.goto 19, 3) := by decide +kernel
theorem dX13_arrows_97 : decode cX13_arrows 97 = .ok (.aload_n 0, 1) := by decide +kernel
theorem dX13_arrows_98 : decode cX13_arrows 98 = .ok (.getfield 93, 3) := by decide +kernel
theorem dX13_arrows_101 : decode cX13_arrows 101 = .ok (.iconst 2, 1) := by decide +kernel
theorem dX13_arrows_102 : decode cX13_arrows 102 = .ok (.if_icmp .ne 15, 3) := by decide +kernel
theorem dX13_arrows_105 : decode cX13_arrows 105 = .ok (.aload_n 0, 1) := by decide +kernel
theorem dX13_arrows_106 : decode cX13_arrows 106 = .ok (.getfield 120, 3) := by decide +kernel
theorem dX13_arrows_109 : decode cX13_arrows 109 = .ok (.iconst 3, 1) := by decide +kernel
theorem dX13_arrows_110 : decode cX13_arrows 110 = .ok (.if_icmp .ge 7, 3) := by decide +kernel
theorem dX13_arrows_113 : decode cX13_arrows 113 = .ok (.iconst 1, 1) := by decide +kernel
theorem dX13_arrows_114 : decode cX13_arrows 114 = .ok (.goto 4, 3) := by decide +kernel
theorem dX13_arrows_117 : decode cX13_arrows 117 = .ok (.iconst 0, 1) := by decide +kernel
theorem dX13_arrows_118 : decode cX13_arrows 118 = .ok (.invokevirtual 106, 3) := by decide +kernel
theorem dX13_arrows_121 : decode cX13_arrows 121 = .ok (.istore_n 2, 1) := by decide +kernel
theorem dX13_arrows_122 : decode cX13_arrows 122 = .ok (.aload_n 0, 1) := by decide +kernel
theorem dX13_arrows_123 : decode cX13_arrows 123 = .ok (.invokevirtual 99, 3) := by decide +kernel
theorem dX13_arrows_126 : decode cX13_arrows 126 = .ok (.ifCond .eq 8, 3) := by decide +kernel
theorem dX13_arrows_129 : decode cX13_arrows 129 = .ok (.aload_n 0, 1) := by decide +kernel
theorem dX13_arrows_130 : decode cX13_arrows 130 = .ok (.iload_n 2, 1) := by decide +kernel
theorem dX13_arrows_131 : decode cX13_arrows 131 = .ok (.invokevirtual 123, 3) := by decide +kernel
theorem dX13_arrows_134 : decode cX13_arrows 134 = .ok (.aload_n 0, 1) := by decide +kernel
theorem dX13_arrows_135 : decode cX13_arrows 135 = .ok (.aload_n 0, 1) := by decide +kernel
theorem dX13_arrows_136 : decode cX13_arrows 136 = .ok (.getfield 86, 3) := by decide +kernel
theorem dX13_arrows_139 : decode cX13_arrows 139 = .ok (.iconst 3, 1) := by decide +kernel
theorem dX13_arrows_140 : decode cX13_arrows 140 = .ok (.if_icmp .ne 7, 3) := by decide +kernel
theorem dX13_arrows_143 : decode cX13_arrows 143 = .ok (.iconst 1, 1) := by decide +kernel
theorem dX13_arrows_144 : decode cX13_arrows 144 = .ok (.goto 4, 3) := by decide +kernel
theorem dX13_arrows_147 : decode cX13_arrows 147 = .ok (.iconst 0, 1) := by decide +kernel
theorem dX13_arrows_148 : decode cX13_arrows 148 = .ok (.invokevirtual 106, 3) := by decide +kernel
theorem dX13_arrows_151 : decode cX13_arrows 151 = .ok (.pop, 1) := by decide +kernel
theorem dX13_arrows_152 : decode cX13_arrows 152 = .ok (.iinc 1 1, 3) := by decide +kernel
theorem dX13_arrows_155 : decode cX13_arrows 155 = .ok (.goto (-119), 3) := by decide +kernel
theorem dX13_arrows_158 : decode cX13_arrows 158 = .ok (.aload_n 0, 1) := by decide +kernel
theorem dX13_arrows_159 : decode cX13_arrows 159 = .ok (.invokevirtual 99, 3) := by decide +kernel
theorem dX13_arrows_162 : decode cX13_arrows 162 = .ok (.ifCond .ne 11, 3) := by decide +kernel
theorem dX13_arrows_165 : decode cX13_arrows 165 = .ok (.bipush (-10), 2) := by decide +kernel
theorem dX13_arrows_167 : decode cX13_arrows 167 = .ok (.aload_n 0, 1) := by decide +kernel
theorem dX13_arrows_168 : decode cX13_arrows 168 = .ok (.getfield 96, 3) := by decide +kernel
theorem dX13_arrows_171 : decode cX13_arrows 171 = .ok (.isub, 1) := by decide +kernel
theorem dX13_arrows_172 : decode cX13_arrows 172 = .ok (.ireturn, 1) := by decide +kernel
theorem dX13_arrows_173 : decode cX13_arrows 173 = .ok (.iconst 0, 1) := by decide +kernel
theorem dX13_arrows_174 : decode cX13_arrows 174 = .ok (.istore_n 2, 1) := by decide +kernel
theorem dX13_arrows_175 : decode cX13_arrows 175 = .ok (.iload_n 2, 1) := by decide +kernel
theorem dX13_arrows_176 : decode cX13_arrows 176 = .ok (.bipush 84, 2) := by decide +kernel
theorem dX13_arrows_178 : decode cX13_arrows 178 = .ok (.if_icmp .ge 21, 3) := by decide +kernel
theorem dX13_arrows_181 : decode cX13_arrows 181 = .ok (.aload_n 0, 1) := by decide +kernel
theorem dX13_arrows_182 : decode cX13_arrows 182 = .ok (.getfield 13, 3) := by decide +kernel
theorem dX13_arrows_185 : decode cX13_arrows 185 = .ok (.iload_n 2, 1) := by decide +kernel
theorem dX13_arrows_186 : decode cX13_arrows 186 = .ok (.aload_n 0, 1) := by decide +kernel
theorem dX13_arrows_187 : decode cX13_arrows 187 = .ok (.getfield 29, 3) := by decide +kernel
theorem dX13_arrows_190 : decode cX13_arrows 190 = .ok (.iload_n 2, 1) := by decide +kernel
theorem dX13_arrows_191 : decode cX13_arrows 191 = .ok (.iaload, 1) := by decide +kernel
theorem dX13_arrows_192 : decode cX13_arrows 192 = .ok (.iastore, 1) := by decide +kernel
theorem dX13_arrows_193 : decode cX13_arrows 193 = .ok (.iinc 2 1, 3) := by decide +kernel
theorem dX13_arrows_196 : decode cX13_arrows 196 = .ok (.goto (-21), 3) := by decide +kernel
theorem dX13_arrows_199 : decode cX13_arrows 199 = .ok (.iconst 0, 1) := by decide +kernel
theorem dX13_arrows_200 : decode cX13_arrows 200 = .ok (.istore_n 2, 1) := by decide +kernel
theorem dX13_arrows_201 : decode cX13_arrows 201 = .ok (.iload_n 2, 1) := by decide +kernel
theorem dX13_arrows_202 : decode cX13_arrows 202 = .ok (.bipush 6, 2) := by decide +kernel
theorem dX13_arrows_204 : decode cX13_arrows 204 = .ok (.if_icmp .ge 33, 3) := by decide +kernel
theorem dX13_arrows_207 : decode cX13_arrows 207 = .ok (.aload_n 0, 1) := by decide +kernel
theorem dX13_arrows_208 : decode cX13_arrows 208 = .ok (.getfield 23, 3) := by decide +kernel
theorem dX13_arrows_211 : decode cX13_arrows 211 = .ok (.iload_n 2, 1) := by decide +kernel
theorem dX13_arrows_212 : decode cX13_arrows 212 = .ok (.aload_n 0, 1) := by decide +kernel
theorem dX13_arrows_213 : decode cX13_arrows 213 = .ok (.getfield 32, 3) := by decide +kernel
theorem dX13_arrows_216 : decode cX13_arrows 216 = .ok (.iload_n 2, 1) := by decide +kernel
theorem dX13_arrows_217 : decode cX13_arrows 217 = .ok (.iaload, 1) := by decide +kernel
theorem dX13_arrows_218 : decode cX13_arrows 218 = .ok (.iastore, 1) := by decide +kernel
theorem dX13_arrows_219 : decode cX13_arrows 219 = .ok (.aload_n 0, 1) := by decide +kernel
theorem dX13_arrows_220 : decode cX13_arrows 220 = .ok (.getfield 26, 3) := by decide +kernel
theorem dX13_arrows_223 : decode cX13_arrows 223 = .ok (.iload_n 2, 1) := by decide +kernel
theorem dX13_arrows_224 : decode cX13_arrows 224 = .ok (.aload_n 0, 1) := by decide +kernel
theorem dX13_arrows_225 : decode cX13_arrows 225 = .ok (.getfield 35, 3) := by decide +kernel
theorem dX13_arrows_228 : decode cX13_arrows 228 = .ok (.iload_n 2, 1) := by decide +kernel
theorem dX13_arrows_229 : decode cX13_arrows 229 = .ok (.iaload, 1) := by decide +kernel
theorem dX13_arrows_230 : decode cX13_arrows 230 = .ok (.iastore, 1) := by decide +kernel
theorem dX13_arrows_231 : decode cX13_arrows 231 = .ok (.iinc 2 1, 3) := by decide +kernel
theorem dX13_arrows_234 : decode cX13_arrows 234 = .ok (.goto (-33), 3) := by decide +kernel
theorem dX13_arrows_237 : decode cX13_arrows 237 = .ok (.aload_n 0, 1) := by decide +kernel
theorem dX13_arrows_238 : decode cX13_arrows 238 = .ok (.aload_n 0, 1) := by decide +kernel
theorem dX13_arrows_239 : decode cX13_arrows 239 = .ok (.getfield 110, 3) := by decide +kernel
theorem dX13_arrows_242 : decode cX13_arrows 242 = .ok (.putfield 127, 3) := by decide +kernel
theorem dX13_arrows_245 : decode cX13_arrows 245 = .ok (.aload_n 0, 1) := by decide +kernel
theorem dX13_arrows_246 : decode cX13_arrows 246 = .ok (.aload_n 0, 1) := by decide +kernel
theorem dX13_arrows_247 : decode cX13_arrows 247 = .ok (.getfield 117, 3) := by decide +kernel
theorem dX13_arrows_250 : decode cX13_arrows 250 = .ok (.putfield 130, 3) := by decide +kernel
theorem dX13_arrows_253 : decode cX13_arrows 253 = .ok (.aload_n 0, 1) := by decide +kernel
theorem dX13_arrows_254 : decode cX13_arrows 254 = .ok (.aload_n 0, 1) := by decide +kernel
theorem dX13_arrows_255 : decode cX13_arrows 255 = .ok (.getfield 120, 3) := by decide +kernel
theorem dX13_arrows_258 : decode cX13_arrows 258 = .ok (.putfield 133, 3) := by decide +kernel
theorem dX13_arrows_261 : decode cX13_arrows 261 = .ok (.aload_n 0, 1) := by decide +kernel
theorem dX13_arrows_262 : decode cX13_arrows 262 = .ok (.getfield 13, 3) := by decide +kernel
theorem dX13_arrows_265 : decode cX13_arrows 265 = .ok (.bipush 85, 2) := by decide +kernel
theorem dX13_arrows_267 : decode cX13_arrows 267 = .ok (.iconst 0, 1) := by decide +kernel
theorem dX13_arrows_268 : decode cX13_arrows 268 = .ok (.iastore, 1) := by decide +kernel
theorem dX13_arrows_269 : decode cX13_arrows 269 = .ok (.aload_n 0, 1) := by decide +kernel
theorem dX13_arrows_270 : decode cX13_arrows 270 = .ok (.getfield 19, 3) := by decide +kernel
theorem dX13_arrows_273 : decode cX13_arrows 273 = .ok (.iconst 0, 1) := by decide +kernel
theorem dX13_arrows_274 : decode cX13_arrows 274 = .ok (.iconst 0, 1) := by decide +kernel
theorem dX13_arrows_275 : decode cX13_arrows 275 = .ok (.bastore, 1) := by decide +kernel
theorem dX13_arrows_276 : decode cX13_arrows 276 = .ok (.aload_n 0, 1) := by decide +kernel
theorem dX13_arrows_277 : decode cX13_arrows 277 = .ok (.getfield 19, 3) := by decide +kernel
theorem dX13_arrows_280 : decode cX13_arrows 280 = .ok (.iconst 1, 1) := by decide +kernel
theorem dX13_arrows_281 : decode cX13_arrows 281 = .ok (.iconst 0, 1) := by decide +kernel
theorem dX13_arrows_282 : decode cX13_arrows 282 = .ok (.bastore, 1) := by decide +kernel
theorem dX13_arrows_283 : decode cX13_arrows 283 = .ok (.aload_n 0, 1) := by decide +kernel
theorem dX13_arrows_284 : decode cX13_arrows 284 = .ok (.iconst 0, 1) := by decide +kernel
theorem dX13_arrows_285 : decode cX13_arrows 285 = .ok (.putfield 61, 3) := by decide +kernel
theorem dX13_arrows_288 : decode cX13_arrows 288 = .ok (.iload_n 1, 1) := by decide +kernel
theorem dX13_arrows_289 : decode cX13_arrows 289 = .ok (.ireturn, 1) := by decide +kernel
theorem dX13_isStick_0 : decode cX13_isStick 0 = .ok (.iload_n 1, 1) := by decide +kernel
theorem dX13_isStick_1 : decode cX13_isStick 1 = .ok (.iconst 0, 1) := by decide +kernel
theorem dX13_isStick_2 : decode cX13_isStick 2 = .ok (.aload_n 0, 1) := by decide +kernel
theorem dX13_isStick_3 : decode cX13_isStick 3 = .ok (.getfield 127, 3) := by decide +kernel
theorem dX13_isStick_6 : decode cX13_isStick 6 = .ok (.iconst 1, 1) := by decide +kernel
theorem dX13_isStick_7 : decode cX13_isStick 7 = .ok (.isub, 1) := by decide +kernel
theorem dX13_isStick_8 : decode cX13_isStick 8 = .ok (.invokestatic 57, 3) := by decide +kernel
theorem dX13_isStick_11 : decode cX13_isStick 11 = .ok (.ireturn, 1) := by decide +kernel
theorem dX13_isBow_0 : decode cX13_isBow 0 = .ok (.iload_n 1, 1) := by decide +kernel
theorem dX13_isBow_1 : decode cX13_isBow 1 = .ok (.iconst 0, 1) := by decide +kernel
theorem dX13_isBow_2 : decode cX13_isBow 2 = .ok (.aload_n 0, 1) := by decide +kernel
theorem dX13_isBow_3 : decode cX13_isBow 3 = .ok (.getfield 130, 3) := by decide +kernel
theorem dX13_isBow_6 : decode cX13_isBow 6 = .ok (.iconst 1, 1) := by decide +kernel
theorem dX13_isBow_7 : decode cX13_isBow 7 = .ok (.isub, 1) := by decide +kernel
theorem dX13_isBow_8 : decode cX13_isBow 8 = .ok (.invokestatic 57, 3) := by decide +kernel
theorem dX13_isBow_11 : decode cX13_isBow 11 = .ok (.ireturn, 1) := by decide +kernel
theorem dX13_stick_0 : decode cX13_stick 0 = .ok (.aload_n 0, 1) := by decide +kernel
theorem dX13_stick_1 : decode cX13_stick 1 = .ok (.iconst 0, 1) := by decide +kernel
theorem dX13_stick_2 : decode cX13_stick 2 = .ok (.putfield 53, 3) := by decide +kernel
theorem dX13_stick_5 : decode cX13_stick 5 = .ok (.aload_n 0, 1) := by decide +kernel
theorem dX13_stick_6 : decode cX13_stick 6 = .ok (.iload_n 1, 1) := by decide +kernel
theorem dX13_stick_7 : decode cX13_stick 7 = .ok (.invokevirtual 136, 3) := by decide +kernel
theorem dX13_stick_10 : decode cX13_stick 10 = .ok (.ifCond .eq 27, 3) := by decide +kernel
theorem dX13_stick_13 : decode cX13_stick 13 = .ok (.iload_n 2, 1) := by decide +kernel
theorem dX13_stick_14 : decode cX13_stick 14 = .ok (.iconst 0, 1) := by decide +kernel
theorem dX13_stick_15 : decode cX13_stick 15 = .ok (.bipush 6, 2) := by decide +kernel
theorem dX13_stick_17 : decode cX13_stick 17 = .ok (.invokestatic 57, 3) := by decide +kernel
theorem dX13_stick_20 : decode cX13_stick 20 = .ok (.ifCond .eq 17, 3) := by decide +kernel
theorem dX13_stick_23 : decode cX13_stick 23 = .ok (.aload_n 0, 1) := by decide +kernel
theorem dX13_stick_24 : decode cX13_stick 24 = .ok (.getfield 13, 3) := by decide +kernel
theorem dX13_stick_27 : decode cX13_stick 27 = .ok (.bipush 7, 2) := by decide +kernel
theorem dX13_stick_29 : decode cX13_stick 29 = .ok (.iload_n 1, 1) := by decide +kernel
theorem dX13_stick_30 : decode cX13_stick 30 = .ok (.imul, 1) := by decide +kernel
theorem dX13_stick_31 : decode cX13_stick 31 = .ok (.iload_n 2, 1) := by decide +kernel
theorem dX13_stick_32 : decode cX13_stick 32 = .ok (.iadd, 1) := by decide +kernel
theorem dX13_stick_33 : decode cX13_stick 33 = .ok (.iaload, 1) := by decide +kernel
theorem dX13_stick_34 : decode cX13_stick 34 = .ok (.goto 4, 3) := by decide +kernel
theorem dX13_stick_37 : decode cX13_stick 37 = .ok (.iconst (-1), 1) := by decide +kernel
theorem dX13_stick_38 : decode cX13_stick 38 = .ok (.ireturn, 1) := by decide +kernel
theorem dX13_bow_0 : decode cX13_bow 0 = .ok (.aload_n 0, 1) := by decide +kernel
theorem dX13_bow_1 : decode cX13_bow 1 = .ok (.iconst 0, 1) := by decide +kernel
theorem dX13_bow_2 : decode cX13_bow 2 = .ok (.putfield 53, 3) := by decide +kernel
theorem dX13_bow_5 : decode cX13_bow 5 = .ok (.aload_n 0, 1) := by decide +kernel
theorem dX13_bow_6 : decode cX13_bow 6 = .ok (.iload_n 1, 1) := by decide +kernel
theorem dX13_bow_7 : decode cX13_bow 7 = .ok (.invokevirtual 140, 3) := by decide +kernel
theorem dX13_bow_10 : decode cX13_bow 10 = .ok (.ifCond .eq 12, 3) := by decide +kernel
theorem dX13_bow_13 : decode cX13_bow 13 = .ok (.iload_n 2, 1) := by decide +kernel
theorem dX13_bow_14 : decode cX13_bow 14 = .ok (.iconst 0, 1) := by decide +kernel
theorem dX13_bow_15 : decode cX13_bow 15 = .ok (.iconst 2, 1) := by decide +kernel
theorem dX13_bow_16 : decode cX13_bow 16 = .ok (.invokestatic 57, 3) := by decide +kernel
theorem dX13_bow_19 : decode cX13_bow 19 = .ok (.ifCond .ne 7, 3) := by decide +kernel
theorem dX13_bow_22 : decode cX13_bow 22 = .ok (.iconst (-1), 1) := by decide +kernel
theorem dX13_bow_23 : decode cX13_bow 23 = .ok (.goto 42, 3) := by decide +kernel
theorem dX13_bow_26 : decode cX13_bow 26 = .ok (.iload_n 2, 1) := by decide +kernel
theorem dX13_bow_27 : decode cX13_bow 27 = .ok (.iconst 2, 1) := by decide +kernel
theorem dX13_bow_28 : decode cX13_bow 28 = .ok (.if_icmp .ge 16, 3) := by decide +kernel
theorem dX13_bow_31 : decode cX13_bow 31 = .ok (.aload_n 0, 1) := by decide +kernel
theorem dX13_bow_32 : decode cX13_bow 32 = .ok (.getfield 23, 3) := by decide +kernel
theorem dX13_bow_35 : decode cX13_bow 35 = .ok (.iconst 2, 1) := by decide +kernel
theorem dX13_bow_36 : decode cX13_bow 36 = .ok (.iload_n 1, 1) := by decide +kernel
theorem dX13_bow_37 : decode cX13_bow 37 = .ok (.imul, 1) := by decide +kernel
theorem dX13_bow_38 : decode cX13_bow 38 = .ok (.iload_n 2, 1) := by decide +kernel
theorem dX13_bow_39 : decode cX13_bow 39 = .ok (.iadd, 1) := by decide +kernel
theorem dX13_bow_40 : decode cX13_bow 40 = .ok (.iaload, 1) := by decide +kernel
theorem dX13_bow_41 : decode cX13_bow 41 = .ok (.goto 24, 3) := by decide +kernel
theorem dX13_bow_44 : decode cX13_bow 44 = .ok (.aload_n 0, 1) := by decide +kernel
theorem dX13_bow_45 : decode cX13_bow 45 = .ok (.getfield 23, 3) := by decide +kernel
theorem dX13_bow_48 : decode cX13_bow 48 = .ok (.iconst 2, 1) := by decide +kernel
theorem dX13_bow_49 : decode cX13_bow 49 = .ok (.iload_n 1, 1) := by decide +kernel
theorem dX13_bow_50 : decode cX13_bow 50 = .ok (.imul, 1) := by decide +kernel
theorem dX13_bow_51 : decode cX13_bow 51 = .ok (.iaload, 1) := by decide +kernel
theorem dX13_bow_52 : decode cX13_bow 52 = .ok (.iconst 2, 1) := by decide +kernel
theorem dX13_bow_53 : decode cX13_bow 53 = .ok (.aload_n 0, 1) := by decide +kernel
theorem dX13_bow_54 : decode cX13_bow 54 = .ok (.getfield 23, 3) := by decide +kernel
theorem dX13_bow_57 : decode cX13_bow 57 = .ok (.iconst 2, 1) := by decide +kernel
theorem dX13_bow_58 : decode cX13_bow 58 = .ok (.iload_n 1, 1) := by decide +kernel
theorem dX13_bow_59 : decode cX13_bow 59 = .ok (.imul, 1) := by decide +kernel
theorem dX13_bow_60 : decode cX13_bow 60 = .ok (.iconst 1, 1) := by decide +kernel
theorem dX13_bow_61 : decode cX13_bow 61 = .ok (.iadd, 1) := by decide +kernel
theorem dX13_bow_62 : decode cX13_bow 62 = .ok (.iaload, 1) := by decide +kernel
theorem dX13_bow_63 : decode cX13_bow 63 = .ok (.imul, 1) := by decide +kernel
theorem dX13_bow_64 : decode cX13_bow 64 = .ok (.iadd, 1) := by decide +kernel
theorem dX13_bow_65 : decode cX13_bow 65 = .ok (.ireturn, 1) := by decide +kernel
theorem dX13_archer_0 : decode cX13_archer 0 = .ok (.aload_n 0, 1) := by decide +kernel
theorem dX13_archer_1 : decode cX13_archer 1 = .ok (.iconst 0, 1) := by decide +kernel
theorem dX13_archer_2 : decode cX13_archer 2 = .ok (.putfield 53, 3) := by decide +kernel
theorem dX13_archer_5 : decode cX13_archer 5 = .ok (.iload_n 1, 1) := by decide +kernel
theorem dX13_archer_6 : decode cX13_archer 6 = .ok (.iconst 0, 1) := by decide +kernel
theorem dX13_archer_7 : decode cX13_archer 7 = .ok (.aload_n 0, 1) := by decide +kernel
theorem dX13_archer_8 : decode cX13_archer 8 = .ok (.getfield 133, 3) := by decide +kernel
theorem dX13_archer_11 : decode cX13_archer 11 = .ok (.iconst 1, 1) := by decide +kernel
theorem dX13_archer_12 : decode cX13_archer 12 = .ok (.isub, 1) := by decide +kernel
theorem dX13_archer_13 : decode cX13_archer 13 = .ok (.invokestatic 57, 3) := by decide +kernel
theorem dX13_archer_16 : decode cX13_archer 16 = .ok (.ifCond .eq 25, 3) := by decide +kernel
theorem dX13_archer_19 : decode cX13_archer 19 = .ok (.iload_n 2, 1) := by decide +kernel
theorem dX13_archer_20 : decode cX13_archer 20 = .ok (.iconst 0, 1) := by decide +kernel
theorem dX13_archer_21 : decode cX13_archer 21 = .ok (.iconst 1, 1) := by decide +kernel
theorem dX13_archer_22 : decode cX13_archer 22 = .ok (.invokestatic 57, 3) := by decide +kernel
theorem dX13_archer_25 : decode cX13_archer 25 = .ok (.ifCond .eq 16, 3) := by decide +kernel
theorem dX13_archer_28 : decode cX13_archer 28 = .ok (.aload_n 0, 1) := by decide +kernel
theorem dX13_archer_29 : decode cX13_archer 29 = .ok (.getfield 26, 3) := by decide +kernel
theorem dX13_archer_32 : decode cX13_archer 32 = .ok (.iconst 2, 1) := by decide +kernel
theorem dX13_archer_33 : decode cX13_archer 33 = .ok (.iload_n 1, 1) := by decide +kernel
theorem dX13_archer_34 : decode cX13_archer 34 = .ok (.imul, 1) := by decide +kernel
theorem dX13_archer_35 : decode cX13_archer 35 = .ok (.iload_n 2, 1) := by decide +kernel
theorem dX13_archer_36 : decode cX13_archer 36 = .ok (.iadd, 1) := by decide +kernel
theorem dX13_archer_37 : decode cX13_archer 37 = .ok (.iaload, 1) := by decide +kernel
theorem dX13_archer_38 : decode cX13_archer 38 = .ok (.goto 5, 3) := by decide +kernel
theorem dX13_archer_41 : decode cX13_archer 41 = .ok (.ldc 143, 2) := by decide +kernel
theorem dX13_archer_43 : decode cX13_archer 43 = .ok (.ireturn, 1) := by decide +kernel
theorem dX13_tune_0 : decode cX13_tune 0 = .ok (.aload_n 0, 1) := by decide +kernel
theorem dX13_tune_1 : decode cX13_tune 1 = .ok (.iconst 0, 1) := by decide +kernel
theorem dX13_tune_2 : decode cX13_tune 2 = .ok (.putfield 53, 3) := by decide +kernel
theorem dX13_tune_5 : decode cX13_tune 5 = .ok (.iload_n 1, 1) := by decide +kernel
theorem dX13_tune_6 : decode cX13_tune 6 = .ok (.ifCond .ne 8, 3) := by decide +kernel
theorem dX13_tune_9 : decode cX13_tune 9 = .ok (.bipush 20, 2) := by decide +kernel
theorem dX13_tune_11 : decode cX13_tune 11 = .ok (.goto 25, 3) := by decide +kernel
theorem dX13_tune_14 : decode cX13_tune 14 = .ok (.iload_n 1, 1) := by decide +kernel
theorem dX13_tune_15 : decode cX13_tune 15 = .ok (.iconst 1, 1) := by decide +kernel
theorem dX13_tune_16 : decode cX13_tune 16 = .ok (.if_icmp .ne 8, 3) := by decide +kernel
theorem dX13_tune_19 : decode cX13_tune 19 = .ok (.bipush 60, 2) := by decide +kernel
theorem dX13_tune_21 : decode cX13_tune 21 = .ok (.goto 15, 3) := by decide +kernel
theorem dX13_tune_24 : decode cX13_tune 24 = .ok (.iload_n 1, 1) := by decide +kernel
theorem dX13_tune_25 : decode cX13_tune 25 = .ok (.iconst 2, 1) := by decide +kernel
theorem dX13_tune_26 : decode cX13_tune 26 = .ok (.if_icmp .ne 8, 3) := by decide +kernel
theorem dX13_tune_29 : decode cX13_tune 29 = .ok (.bipush 30, 2) := by decide +kernel
theorem dX13_tune_31 : decode cX13_tune 31 = .ok (.goto 5, 3) := by decide +kernel
theorem dX13_tune_34 : decode cX13_tune 34 = .ok (.bipush 9, 2) := by decide +kernel
theorem dX13_tune_36 : decode cX13_tune 36 = .ok (.istore_n 3, 1) := by decide +kernel
theorem dX13_tune_37 : decode cX13_tune 37 = .ok (.iload_n 1, 1) := by decide +kernel
theorem dX13_tune_38 : decode cX13_tune 38 = .ok (.iconst 0, 1) := by decide +kernel
theorem dX13_tune_39 : decode cX13_tune 39 = .ok (.iconst 3, 1) := by decide +kernel
theorem dX13_tune_40 : decode cX13_tune 40 = .ok (.invokestatic 57, 3) := by decide +kernel
theorem dX13_tune_43 : decode cX13_tune 43 = .ok (.ifCond .eq 22, 3) := by decide +kernel
theorem dX13_tune_46 : decode cX13_tune 46 = .ok (.iload_n 2, 1) := by decide +kernel
theorem dX13_tune_47 : decode cX13_tune 47 = .ok (.iload_n 1, 1) := by decide +kernel
theorem dX13_tune_48 : decode cX13_tune 48 = .ok (.iconst 3, 1) := by decide +kernel
theorem dX13_tune_49 : decode cX13_tune 49 = .ok (.if_icmp .ne 8, 3) := by decide +kernel
theorem dX13_tune_52 : decode cX13_tune 52 = .ok (.bipush (-9), 2) := by decide +kernel
theorem dX13_tune_54 : decode cX13_tune 54 = .ok (.goto 4, 3) := by decide +kernel
theorem dX13_tune_57 : decode cX13_tune 57 = .ok (.iconst 0, 1) := by decide +kernel
theorem dX13_tune_58 : decode cX13_tune 58 = .ok (.iload_n 3, 1) := by decide +kernel
theorem dX13_tune_59 : decode cX13_tune 59 = .ok (.invokestatic 57, 3) := by decide +kernel
theorem dX13_tune_62 : decode cX13_tune 62 = .ok (.ifCond .ne 6, 3) := by decide +kernel
theorem dX13_tune_65 : decode cX13_tune 65 = .ok (.ldc 143, 2) := by decide +kernel
theorem dX13_tune_67 : decode cX13_tune 67 = .ok (.ireturn, 1) := by decide +kernel
theorem dX13_tune_68 : decode cX13_tune 68 = .ok (.aload_n 0, 1) := by decide +kernel
theorem dX13_tune_69 : decode cX13_tune 69 = .ok (.getfield 38, 3) := by decide +kernel
theorem dX13_tune_72 : decode cX13_tune 72 = .ok (.iload_n 1, 1) := by decide +kernel
theorem dX13_tune_73 : decode cX13_tune 73 = .ok (.iaload, 1) := by decide +kernel
theorem dX13_tune_74 : decode cX13_tune 74 = .ok (.istore 4, 2) := by decide +kernel
theorem dX13_tune_76 : decode cX13_tune 76 = .ok (.aload_n 0, 1) := by decide +kernel
theorem dX13_tune_77 : decode cX13_tune 77 = .ok (.getfield 38, 3) := by decide +kernel
theorem dX13_tune_80 : decode cX13_tune 80 = .ok (.iload_n 1, 1) := by decide +kernel
theorem dX13_tune_81 : decode cX13_tune 81 = .ok (.iload_n 2, 1) := by decide +kernel
theorem dX13_tune_82 : decode cX13_tune 82 = .ok (.iastore, 1) := by decide +kernel
theorem dX13_tune_83 : decode cX13_tune 83 = .ok (.iload 4, 2) := by decide +kernel
theorem dX13_tune_85 : decode cX13_tune 85 = .ok (.ireturn, 1) := by decide +kernel
theorem dX13_cut_0 : decode cX13_cut 0 = .ok (.aload_n 0, 1) := by decide +kernel
theorem dX13_cut_1 : decode cX13_cut 1 = .ok (.iconst 0, 1) := by decide +kernel
theorem dX13_cut_2 : decode cX13_cut 2 = .ok (.putfield 53, 3) := by decide +kernel
theorem dX13_cut_5 : decode cX13_cut 5 = .ok (.aload_n 0, 1) := by decide +kernel
theorem dX13_cut_6 : decode cX13_cut 6 = .ok (.iload_n 1, 1) := by decide +kernel
theorem dX13_cut_7 : decode cX13_cut 7 = .ok (.invokevirtual 136, 3) := by decide +kernel
theorem dX13_cut_10 : decode cX13_cut 10 = .ok (.ifCond .ne 5, 3) := by decide +kernel
theorem dX13_cut_13 : decode cX13_cut 13 = .ok (.iconst (-1), 1) := by decide +kernel
theorem dX13_cut_14 : decode cX13_cut 14 = .ok (.ireturn, 1) := by decide +kernel
theorem dX13_cut_15 : decode cX13_cut 15 = .ok (.aload_n 0, 1) := by decide +kernel
theorem dX13_cut_16 : decode cX13_cut 16 = .ok (.getfield 13, 3) := by decide +kernel
theorem dX13_cut_19 : decode cX13_cut 19 = .ok (.bipush 7, 2) := by decide +kernel
theorem dX13_cut_21 : decode cX13_cut 21 = .ok (.iload_n 1, 1) := by decide +kernel
theorem dX13_cut_22 : decode cX13_cut 22 = .ok (.imul, 1) := by decide +kernel
theorem dX13_cut_23 : decode cX13_cut 23 = .ok (.iconst 0, 1) := by decide +kernel
theorem dX13_cut_24 : decode cX13_cut 24 = .ok (.iadd, 1) := by decide +kernel
theorem dX13_cut_25 : decode cX13_cut 25 = .ok (.iaload, 1) := by decide +kernel
theorem dX13_cut_26 : decode cX13_cut 26 = .ok (.bipush 80, 2) := by decide +kernel
theorem dX13_cut_28 : decode cX13_cut 28 = .ok (.if_icmp .ne 6, 3) := by decide +kernel
theorem dX13_cut_31 : decode cX13_cut 31 = .ok (.bipush (-2), 2) := by decide +kernel
theorem dX13_cut_33 : decode cX13_cut 33 = .ok (.ireturn, 1) := by decide +kernel
theorem dX13_cut_34 : decode cX13_cut 34 = .ok (.aload_n 0, 1) := by decide +kernel
theorem dX13_cut_35 : decode cX13_cut 35 = .ok (.getfield 13, 3) := by decide +kernel
theorem dX13_cut_38 : decode cX13_cut 38 = .ok (.bipush 7, 2) := by decide +kernel
theorem dX13_cut_40 : decode cX13_cut 40 = .ok (.iload_n 1, 1) := by decide +kernel
theorem dX13_cut_41 : decode cX13_cut 41 = .ok (.imul, 1) := by decide +kernel
theorem dX13_cut_42 : decode cX13_cut 42 = .ok (.iconst 0, 1) := by decide +kernel
theorem dX13_cut_43 : decode cX13_cut 43 = .ok (.iadd, 1) := by decide +kernel
theorem dX13_cut_44 : decode cX13_cut 44 = .ok (.dup2, 1) := by decide +kernel
theorem dX13_cut_45 : decode cX13_cut 45 = .ok (.iaload, 1) := by decide +kernel
theorem dX13_cut_46 : decode cX13_cut 46 = .ok (.iconst 1, 1) := by decide +kernel
theorem dX13_cut_47 : decode cX13_cut 47 = .ok (.isub, 1) := by decide +kernel
theorem dX13_cut_48 : decode cX13_cut 48 = .ok (.iastore, 1) := by decide +kernel
theorem dX13_cut_49 : decode cX13_cut 49 = .ok (.aload_n 0, 1) := by decide +kernel
theorem dX13_cut_50 : decode cX13_cut 50 = .ok (.getfield 13, 3) := by decide +kernel
theorem dX13_cut_53 : decode cX13_cut 53 = .ok (.bipush 7, 2) := by decide +kernel
theorem dX13_cut_55 : decode cX13_cut 55 = .ok (.iload_n 1, 1) := by decide +kernel
theorem dX13_cut_56 : decode cX13_cut 56 = .ok (.imul, 1) := by decide +kernel
theorem dX13_cut_57 : decode cX13_cut 57 = .ok (.iconst 0, 1) := by decide +kernel
theorem dX13_cut_58 : decode cX13_cut 58 = .ok (.iadd, 1) := by decide +kernel
theorem dX13_cut_59 : decode cX13_cut 59 = .ok (.iaload, 1) := by decide +kernel
theorem dX13_cut_60 : decode cX13_cut 60 = .ok (.ireturn, 1) := by decide +kernel
theorem dX13_mayScrape_0 : decode cX13_mayScrape 0 = .ok (.aload_n 1, 1) := by decide +kernel
theorem dX13_mayScrape_1 : decode cX13_mayScrape 1 = .ok (.iload_n 2, 1) := by decide +kernel
theorem dX13_mayScrape_2 : decode cX13_mayScrape 2 = .ok (.iconst 2, 1) := by decide +kernel
theorem dX13_mayScrape_3 : decode cX13_mayScrape 3 = .ok (.iadd, 1) := by decide +kernel
theorem dX13_mayScrape_4 : decode cX13_mayScrape 4 = .ok (.iaload, 1) := by decide +kernel
theorem dX13_mayScrape_5 : decode cX13_mayScrape 5 = .ok (.iload_n 3, 1) := by decide +kernel
theorem dX13_mayScrape_6 : decode cX13_mayScrape 6 = .ok (.isub, 1) := by decide +kernel
theorem dX13_mayScrape_7 : decode cX13_mayScrape 7 = .ok (.bipush 20, 2) := by decide +kernel
theorem dX13_mayScrape_9 : decode cX13_mayScrape 9 = .ok (.if_icmp .lt 36, 3) := by decide +kernel
theorem dX13_mayScrape_12 : decode cX13_mayScrape 12 = .ok (.aload_n 1, 1) := by decide +kernel
theorem dX13_mayScrape_13 : decode cX13_mayScrape 13 = .ok (.iload_n 2, 1) := by decide +kernel
theorem dX13_mayScrape_14 : decode cX13_mayScrape 14 = .ok (.iconst 2, 1) := by decide +kernel
theorem dX13_mayScrape_15 : decode cX13_mayScrape 15 = .ok (.iadd, 1) := by decide +kernel
theorem dX13_mayScrape_16 : decode cX13_mayScrape 16 = .ok (.iconst 1, 1) := by decide +kernel
theorem dX13_mayScrape_17 : decode cX13_mayScrape 17 = .ok (.iadd, 1) := by decide +kernel
theorem dX13_mayScrape_18 : decode cX13_mayScrape 18 = .ok (.iaload, 1) := by decide +kernel
theorem dX13_mayScrape_19 : decode cX13_mayScrape 19 = .ok (.iload_n 3, 1) := by decide +kernel
theorem dX13_mayScrape_20 : decode cX13_mayScrape 20 = .ok (.isub, 1) := by decide +kernel
theorem dX13_mayScrape_21 : decode cX13_mayScrape 21 = .ok (.bipush 20, 2) := by decide +kernel
theorem dX13_mayScrape_23 : decode cX13_mayScrape 23 = .ok (.if_icmp .lt 22, 3) := by decide +kernel
theorem dX13_mayScrape_26 : decode cX13_mayScrape 26 = .ok (.aload_n 1, 1) := by decide +kernel
theorem dX13_mayScrape_27 : decode cX13_mayScrape 27 = .ok (.iload_n 2, 1) := by decide +kernel
theorem dX13_mayScrape_28 : decode cX13_mayScrape 28 = .ok (.iconst 1, 1) := by decide +kernel
theorem dX13_mayScrape_29 : decode cX13_mayScrape 29 = .ok (.iadd, 1) := by decide +kernel
theorem dX13_mayScrape_30 : decode cX13_mayScrape 30 = .ok (.iaload, 1) := by decide +kernel
theorem dX13_mayScrape_31 : decode cX13_mayScrape 31 = .ok (.iconst 2, 1) := by decide +kernel
theorem dX13_mayScrape_32 : decode cX13_mayScrape 32 = .ok (.iload_n 3, 1) := by decide +kernel
theorem dX13_mayScrape_33 : decode cX13_mayScrape 33 = .ok (.imul, 1) := by decide +kernel
theorem dX13_mayScrape_34 : decode cX13_mayScrape 34 = .ok (.isub, 1) := by decide +kernel
theorem dX13_mayScrape_35 : decode cX13_mayScrape 35 = .ok (.sipush 200, 3) := by decide +kernel
theorem dX13_mayScrape_38 : decode cX13_mayScrape 38 = .ok (.if_icmp .lt 7, 3) := by decide +kernel
theorem dX13_mayScrape_41 : decode cX13_mayScrape 41 = .ok (.iconst 1, 1) := by decide +kernel
theorem dX13_mayScrape_42 : decode cX13_mayScrape 42 = .ok (.goto 4, 3) := by decide +kernel
theorem dX13_mayScrape_45 : decode cX13_mayScrape 45 = .ok (.iconst 0, 1) := by decide +kernel
theorem dX13_mayScrape_46 : decode cX13_mayScrape 46 = .ok (.ireturn, 1) := by decide +kernel
theorem dX13_scrape_0 : decode cX13_scrape 0 = .ok (.aload_n 0, 1) := by decide +kernel
theorem dX13_scrape_1 : decode cX13_scrape 1 = .ok (.iconst 0, 1) := by decide +kernel
theorem dX13_scrape_2 : decode cX13_scrape 2 = .ok (.putfield 53, 3) := by decide +kernel
theorem dX13_scrape_5 : decode cX13_scrape 5 = .ok (.aload_n 0, 1) := by decide +kernel
theorem dX13_scrape_6 : decode cX13_scrape 6 = .ok (.iload_n 1, 1) := by decide +kernel
theorem dX13_scrape_7 : decode cX13_scrape 7 = .ok (.invokevirtual 136, 3) := by decide +kernel
theorem dX13_scrape_10 : decode cX13_scrape 10 = .ok (.ifCond .ne 5, 3) := by decide +kernel
theorem dX13_scrape_13 : decode cX13_scrape 13 = .ok (.iconst (-1), 1) := by decide +kernel
theorem dX13_scrape_14 : decode cX13_scrape 14 = .ok (.ireturn, 1) := by decide +kernel
theorem dX13_scrape_15 : decode cX13_scrape 15 = .ok (.bipush 7, 2) := by decide +kernel
theorem dX13_scrape_17 : decode cX13_scrape 17 = .ok (.iload_n 1, 1) := by decide +kernel
theorem dX13_scrape_18 : decode cX13_scrape 18 = .ok (.imul, 1) := by decide +kernel
theorem dX13_scrape_19 : decode cX13_scrape 19 = .ok (.istore_n 2, 1) := by decide +kernel
theorem dX13_scrape_20 : decode cX13_scrape 20 = .ok (.aload_n 0, 1) := by decide +kernel
theorem dX13_scrape_21 : decode cX13_scrape 21 = .ok (.aload_n 0, 1) := by decide +kernel
theorem dX13_scrape_22 : decode cX13_scrape 22 = .ok (.getfield 13, 3) := by decide +kernel
theorem dX13_scrape_25 : decode cX13_scrape 25 = .ok (.iload_n 2, 1) := by decide +kernel
theorem dX13_scrape_26 : decode cX13_scrape 26 = .ok (.iconst 1, 1) := by decide +kernel
theorem dX13_scrape_27 : decode cX13_scrape 27 = .ok (.invokevirtual 144, 3) := by decide +kernel
theorem dX13_scrape_30 : decode cX13_scrape 30 = .ok (.ifCond .ne 6, 3) := by decide +kernel
theorem dX13_scrape_33 : decode cX13_scrape 33 = .ok (.bipush (-2), 2) := by decide +kernel
theorem dX13_scrape_35 : decode cX13_scrape 35 = .ok (.ireturn, 1) := by decide +kernel
theorem dX13_scrape_36 : decode cX13_scrape 36 = .ok (.aload_n 0, 1) := by decide +kernel
theorem dX13_scrape_37 : decode cX13_scrape 37 = .ok (.getfield 13, 3) := by decide +kernel
theorem dX13_scrape_40 : decode cX13_scrape 40 = .ok (.iload_n 2, 1) := by decide +kernel
theorem dX13_scrape_41 : decode cX13_scrape 41 = .ok (.iconst 2, 1) := by decide +kernel
theorem dX13_scrape_42 : decode cX13_scrape 42 = .ok (.iadd, 1) := by decide +kernel
theorem dX13_scrape_43 : decode cX13_scrape 43 = .ok (.dup2, 1) := by decide +kernel
theorem dX13_scrape_44 : decode cX13_scrape 44 = .ok (.iaload, 1) := by decide +kernel
theorem dX13_scrape_45 : decode cX13_scrape 45 = .ok (.iconst 1, 1) := by decide +kernel
theorem dX13_scrape_46 : decode cX13_scrape 46 = .ok (.isub, 1) := by decide +kernel
theorem dX13_scrape_47 : decode cX13_scrape 47 = .ok (.iastore, 1) := by decide +kernel
theorem dX13_scrape_48 : decode cX13_scrape 48 = .ok (.aload_n 0, 1) := by decide +kernel
theorem dX13_scrape_49 : decode cX13_scrape 49 = .ok (.getfield 13, 3) := by decide +kernel
theorem dX13_scrape_52 : decode cX13_scrape 52 = .ok (.iload_n 2, 1) := by decide +kernel
theorem dX13_scrape_53 : decode cX13_scrape 53 = .ok (.iconst 2, 1) := by decide +kernel
theorem dX13_scrape_54 : decode cX13_scrape 54 = .ok (.iadd, 1) := by decide +kernel
theorem dX13_scrape_55 : decode cX13_scrape 55 = .ok (.iconst 1, 1) := by decide +kernel
theorem dX13_scrape_56 : decode cX13_scrape 56 = .ok (.iadd, 1) := by decide +kernel
theorem dX13_scrape_57 : decode cX13_scrape 57 = .ok (.dup2, 1) := by decide +kernel
theorem dX13_scrape_58 : decode cX13_scrape 58 = .ok (.iaload, 1) := by decide +kernel
theorem dX13_scrape_59 : decode cX13_scrape 59 = .ok (.iconst 1, 1) := by decide +kernel
theorem dX13_scrape_60 : decode cX13_scrape 60 = .ok (.isub, 1) := by decide +kernel
theorem dX13_scrape_61 : decode cX13_scrape 61 = .ok (.iastore, 1) := by decide +kernel
theorem dX13_scrape_62 : decode cX13_scrape 62 = .ok (.aload_n 0, 1) := by decide +kernel
theorem dX13_scrape_63 : decode cX13_scrape 63 = .ok (.getfield 13, 3) := by decide +kernel
theorem dX13_scrape_66 : decode cX13_scrape 66 = .ok (.iload_n 2, 1) := by decide +kernel
theorem dX13_scrape_67 : decode cX13_scrape 67 = .ok (.iconst 1, 1) := by decide +kernel
theorem dX13_scrape_68 : decode cX13_scrape 68 = .ok (.iadd, 1) := by decide +kernel
theorem dX13_scrape_69 : decode cX13_scrape 69 = .ok (.dup2, 1) := by decide +kernel
theorem dX13_scrape_70 : decode cX13_scrape 70 = .ok (.iaload, 1) := by decide +kernel
theorem dX13_scrape_71 : decode cX13_scrape 71 = .ok (.iconst 2, 1) := by decide +kernel
theorem dX13_scrape_72 : decode cX13_scrape 72 = .ok (.isub, 1) := by decide +kernel
theorem dX13_scrape_73 : decode cX13_scrape 73 = .ok (.iastore, 1) := by decide +kernel
theorem dX13_scrape_74 : decode cX13_scrape 74 = .ok (.aload_n 0, 1) := by decide +kernel
theorem dX13_scrape_75 : decode cX13_scrape 75 = .ok (.getfield 13, 3) := by decide +kernel
theorem dX13_scrape_78 : decode cX13_scrape 78 = .ok (.iload_n 2, 1) := by decide +kernel
theorem dX13_scrape_79 : decode cX13_scrape 79 = .ok (.iconst 1, 1) := by decide +kernel
theorem dX13_scrape_80 : decode cX13_scrape 80 = .ok (.iadd, 1) := by decide +kernel
theorem dX13_scrape_81 : decode cX13_scrape 81 = .ok (.iaload, 1) := by decide +kernel
theorem dX13_scrape_82 : decode cX13_scrape 82 = .ok (.ireturn, 1) := by decide +kernel
theorem dX13_load_0 : decode cX13_load 0 = .ok (.aload_n 0, 1) := by decide +kernel
theorem dX13_load_1 : decode cX13_load 1 = .ok (.iconst 0, 1) := by decide +kernel
theorem dX13_load_2 : decode cX13_load 2 = .ok (.putfield 53, 3) := by decide +kernel
theorem dX13_load_5 : decode cX13_load 5 = .ok (.aload_n 0, 1) := by decide +kernel
theorem dX13_load_6 : decode cX13_load 6 = .ok (.iload_n 1, 1) := by decide +kernel
theorem dX13_load_7 : decode cX13_load 7 = .ok (.invokevirtual 136, 3) := by decide +kernel
theorem dX13_load_10 : decode cX13_load 10 = .ok (.ifCond .ne 5, 3) := by decide +kernel
theorem dX13_load_13 : decode cX13_load 13 = .ok (.iconst (-1), 1) := by decide +kernel
theorem dX13_load_14 : decode cX13_load 14 = .ok (.ireturn, 1) := by decide +kernel
theorem dX13_load_15 : decode cX13_load 15 = .ok (.aload_n 0, 1) := by decide +kernel
theorem dX13_load_16 : decode cX13_load 16 = .ok (.getfield 13, 3) := by decide +kernel
theorem dX13_load_19 : decode cX13_load 19 = .ok (.bipush 7, 2) := by decide +kernel
theorem dX13_load_21 : decode cX13_load 21 = .ok (.iload_n 1, 1) := by decide +kernel
theorem dX13_load_22 : decode cX13_load 22 = .ok (.imul, 1) := by decide +kernel
theorem dX13_load_23 : decode cX13_load 23 = .ok (.iconst 4, 1) := by decide +kernel
theorem dX13_load_24 : decode cX13_load 24 = .ok (.iadd, 1) := by decide +kernel
theorem dX13_load_25 : decode cX13_load 25 = .ok (.iaload, 1) := by decide +kernel
theorem dX13_load_26 : decode cX13_load 26 = .ok (.iconst 5, 1) := by decide +kernel
theorem dX13_load_27 : decode cX13_load 27 = .ok (.iadd, 1) := by decide +kernel
theorem dX13_load_28 : decode cX13_load 28 = .ok (.sipush 200, 3) := by decide +kernel
theorem dX13_load_31 : decode cX13_load 31 = .ok (.if_icmp .le 6, 3) := by decide +kernel
theorem dX13_load_34 : decode cX13_load 34 = .ok (.bipush (-2), 2) := by decide +kernel
theorem dX13_load_36 : decode cX13_load 36 = .ok (.ireturn, 1) := by decide +kernel
theorem dX13_load_37 : decode cX13_load 37 = .ok (.aload_n 0, 1) := by decide +kernel
theorem dX13_load_38 : decode cX13_load 38 = .ok (.getfield 13, 3) := by decide +kernel
theorem dX13_load_41 : decode cX13_load 41 = .ok (.bipush 7, 2) := by decide +kernel
theorem dX13_load_43 : decode cX13_load 43 = .ok (.iload_n 1, 1) := by decide +kernel
theorem dX13_load_44 : decode cX13_load 44 = .ok (.imul, 1) := by decide +kernel
theorem dX13_load_45 : decode cX13_load 45 = .ok (.iconst 4, 1) := by decide +kernel
theorem dX13_load_46 : decode cX13_load 46 = .ok (.iadd, 1) := by decide +kernel
theorem dX13_load_47 : decode cX13_load 47 = .ok (.dup2, 1) := by decide +kernel
theorem dX13_load_48 : decode cX13_load 48 = .ok (.iaload, 1) := by decide +kernel
theorem dX13_load_49 : decode cX13_load 49 = .ok (.iconst 5, 1) := by decide +kernel
theorem dX13_load_50 : decode cX13_load 50 = .ok (.iadd, 1) := by decide +kernel
theorem dX13_load_51 : decode cX13_load 51 = .ok (.iastore, 1) := by decide +kernel
theorem dX13_load_52 : decode cX13_load 52 = .ok (.aload_n 0, 1) := by decide +kernel
theorem dX13_load_53 : decode cX13_load 53 = .ok (.getfield 13, 3) := by decide +kernel
theorem dX13_load_56 : decode cX13_load 56 = .ok (.bipush 7, 2) := by decide +kernel
theorem dX13_load_58 : decode cX13_load 58 = .ok (.iload_n 1, 1) := by decide +kernel
theorem dX13_load_59 : decode cX13_load 59 = .ok (.imul, 1) := by decide +kernel
theorem dX13_load_60 : decode cX13_load 60 = .ok (.iconst 4, 1) := by decide +kernel
theorem dX13_load_61 : decode cX13_load 61 = .ok (.iadd, 1) := by decide +kernel
theorem dX13_load_62 : decode cX13_load 62 = .ok (.iaload, 1) := by decide +kernel
theorem dX13_load_63 : decode cX13_load 63 = .ok (.ireturn, 1) := by decide +kernel
theorem dX13_turn_0 : decode cX13_turn 0 = .ok (.aload_n 0, 1) := by decide +kernel
theorem dX13_turn_1 : decode cX13_turn 1 = .ok (.iconst 0, 1) := by decide +kernel
theorem dX13_turn_2 : decode cX13_turn 2 = .ok (.putfield 53, 3) := by decide +kernel
theorem dX13_turn_5 : decode cX13_turn 5 = .ok (.aload_n 0, 1) := by decide +kernel
theorem dX13_turn_6 : decode cX13_turn 6 = .ok (.iload_n 1, 1) := by decide +kernel
theorem dX13_turn_7 : decode cX13_turn 7 = .ok (.invokevirtual 136, 3) := by decide +kernel
theorem dX13_turn_10 : decode cX13_turn 10 = .ok (.ifCond .ne 5, 3) := by decide +kernel
theorem dX13_turn_13 : decode cX13_turn 13 = .ok (.iconst (-1), 1) := by decide +kernel
theorem dX13_turn_14 : decode cX13_turn 14 = .ok (.ireturn, 1) := by decide +kernel
theorem dX13_turn_15 : decode cX13_turn 15 = .ok (.aload_n 0, 1) := by decide +kernel
theorem dX13_turn_16 : decode cX13_turn 16 = .ok (.getfield 13, 3) := by decide +kernel
theorem dX13_turn_19 : decode cX13_turn 19 = .ok (.bipush 7, 2) := by decide +kernel
theorem dX13_turn_21 : decode cX13_turn 21 = .ok (.iload_n 1, 1) := by decide +kernel
theorem dX13_turn_22 : decode cX13_turn 22 = .ok (.imul, 1) := by decide +kernel
theorem dX13_turn_23 : decode cX13_turn 23 = .ok (.bipush 6, 2) := by decide +kernel
theorem dX13_turn_25 : decode cX13_turn 25 = .ok (.iadd, 1) := by decide +kernel
theorem dX13_turn_26 : decode cX13_turn 26 = .ok (.iconst 1, 1) := by decide +kernel
theorem dX13_turn_27 : decode cX13_turn 27 = .ok (.aload_n 0, 1) := by decide +kernel
theorem dX13_turn_28 : decode cX13_turn 28 = .ok (.getfield 13, 3) := by decide +kernel
theorem dX13_turn_31 : decode cX13_turn 31 = .ok (.bipush 7, 2) := by decide +kernel
theorem dX13_turn_33 : decode cX13_turn 33 = .ok (.iload_n 1, 1) := by decide +kernel
theorem dX13_turn_34 : decode cX13_turn 34 = .ok (.imul, 1) := by decide +kernel
theorem dX13_turn_35 : decode cX13_turn 35 = .ok (.bipush 6, 2) := by decide +kernel
theorem dX13_turn_37 : decode cX13_turn 37 = .ok (.iadd, 1) := by decide +kernel
theorem dX13_turn_38 : decode cX13_turn 38 = .ok (.iaload, 1) := by decide +kernel
theorem dX13_turn_39 : decode cX13_turn 39 = .ok (.isub, 1) := by decide +kernel
theorem dX13_turn_40 : decode cX13_turn 40 = .ok (.iastore, 1) := by decide +kernel
theorem dX13_turn_41 : decode cX13_turn 41 = .ok (.aload_n 0, 1) := by decide +kernel
theorem dX13_turn_42 : decode cX13_turn 42 = .ok (.getfield 13, 3) := by decide +kernel
theorem dX13_turn_45 : decode cX13_turn 45 = .ok (.bipush 7, 2) := by decide +kernel
theorem dX13_turn_47 : decode cX13_turn 47 = .ok (.iload_n 1, 1) := by decide +kernel
theorem dX13_turn_48 : decode cX13_turn 48 = .ok (.imul, 1) := by decide +kernel
theorem dX13_turn_49 : decode cX13_turn 49 = .ok (.bipush 6, 2) := by decide +kernel
theorem dX13_turn_51 : decode cX13_turn 51 = .ok (.iadd, 1) := by decide +kernel
theorem dX13_turn_52 : decode cX13_turn 52 = .ok (.iaload, 1) := by decide +kernel
theorem dX13_turn_53 : decode cX13_turn 53 = .ok (.ireturn, 1) := by decide +kernel
theorem dX13_tries_0 : decode cX13_tries 0 = .ok (.bipush 7, 2) := by decide +kernel
theorem dX13_tries_2 : decode cX13_tries 2 = .ok (.iload_n 1, 1) := by decide +kernel
theorem dX13_tries_3 : decode cX13_tries 3 = .ok (.imul, 1) := by decide +kernel
theorem dX13_tries_4 : decode cX13_tries 4 = .ok (.istore 6, 2) := by decide +kernel
theorem dX13_tries_6 : decode cX13_tries 6 = .ok (.aload_n 0, 1) := by decide +kernel
theorem dX13_tries_7 : decode cX13_tries 7 = .ok (.getfield 13, 3) := by decide +kernel
theorem dX13_tries_10 : decode cX13_tries 10 = .ok (.iload 6, 2) := by decide +kernel
theorem dX13_tries_12 : decode cX13_tries 12 = .ok (.iconst 0, 1) := by decide +kernel
theorem dX13_tries_13 : decode cX13_tries 13 = .ok (.iadd, 1) := by decide +kernel
theorem dX13_tries_14 : decode cX13_tries 14 = .ok (.iaload, 1) := by decide +kernel
theorem dX13_tries_15 : decode cX13_tries 15 = .ok (.iload_n 2, 1) := by decide +kernel
theorem dX13_tries_16 : decode cX13_tries 16 = .ok (.isub, 1) := by decide +kernel
theorem dX13_tries_17 : decode cX13_tries 17 = .ok (.bipush 80, 2) := by decide +kernel
theorem dX13_tries_19 : decode cX13_tries 19 = .ok (.if_icmp .lt 46, 3) := by decide +kernel
theorem dX13_tries_22 : decode cX13_tries 22 = .ok (.iload_n 3, 1) := by decide +kernel
theorem dX13_tries_23 : decode cX13_tries 23 = .ok (.ifCond .le 17, 3) := by decide +kernel
theorem dX13_tries_26 : decode cX13_tries 26 = .ok (.aload_n 0, 1) := by decide +kernel
theorem dX13_tries_27 : decode cX13_tries 27 = .ok (.aload_n 0, 1) := by decide +kernel
theorem dX13_tries_28 : decode cX13_tries 28 = .ok (.getfield 13, 3) := by decide +kernel
theorem dX13_tries_31 : decode cX13_tries 31 = .ok (.iload 6, 2) := by decide +kernel
theorem dX13_tries_33 : decode cX13_tries 33 = .ok (.iload_n 3, 1) := by decide +kernel
theorem dX13_tries_34 : decode cX13_tries 34 = .ok (.invokevirtual 144, 3) := by decide +kernel
theorem dX13_tries_37 : decode cX13_tries 37 = .ok (.ifCond .eq 28, 3) := by decide +kernel
theorem dX13_tries_40 : decode cX13_tries 40 = .ok (.iload 4, 2) := by decide +kernel
theorem dX13_tries_42 : decode cX13_tries 42 = .ok (.ifCond .le 25, 3) := by decide +kernel
theorem dX13_tries_45 : decode cX13_tries 45 = .ok (.aload_n 0, 1) := by decide +kernel
theorem dX13_tries_46 : decode cX13_tries 46 = .ok (.getfield 13, 3) := by decide +kernel
theorem dX13_tries_49 : decode cX13_tries 49 = .ok (.iload 6, 2) := by decide +kernel
theorem dX13_tries_51 : decode cX13_tries 51 = .ok (.iconst 4, 1) := by decide +kernel
theorem dX13_tries_52 : decode cX13_tries 52 = .ok (.iadd, 1) := by decide +kernel
theorem dX13_tries_53 : decode cX13_tries 53 = .ok (.iaload, 1) := by decide +kernel
theorem dX13_tries_54 : decode cX13_tries 54 = .ok (.iconst 5, 1) := by decide +kernel
theorem dX13_tries_55 : decode cX13_tries 55 = .ok (.iload 4, 2) := by decide +kernel
theorem dX13_tries_57 : decode cX13_tries 57 = .ok (.imul, 1) := by decide +kernel
theorem dX13_tries_58 : decode cX13_tries 58 = .ok (.iadd, 1) := by decide +kernel
theorem dX13_tries_59 : decode cX13_tries 59 = .ok (.sipush 200, 3) := by decide +kernel
theorem dX13_tries_62 : decode cX13_tries 62 = .ok (.if_icmp .le 5, 3) := by decide +kernel
theorem dX13_tries_65 : decode cX13_tries 65 = .ok (.iconst 0, 1) := by decide +kernel
theorem dX13_tries_66 : decode cX13_tries 66 = .ok (.ireturn, 1) := by decide +kernel
theorem dX13_tries_67 : decode cX13_tries 67 = .ok (.aload_n 0, 1) := by decide +kernel
theorem dX13_tries_68 : decode cX13_tries 68 = .ok (.iload_n 1, 1) := by decide +kernel
theorem dX13_tries_69 : decode cX13_tries 69 = .ok (.invokevirtual 148, 3) := by decide +kernel
theorem dX13_tries_72 : decode cX13_tries 72 = .ok (.aload_n 0, 1) := by decide +kernel
theorem dX13_tries_73 : decode cX13_tries 73 = .ok (.getfield 41, 3) := by decide +kernel
theorem dX13_tries_76 : decode cX13_tries 76 = .ok (.iconst 0, 1) := by decide +kernel
theorem dX13_tries_77 : decode cX13_tries 77 = .ok (.dup2, 1) := by decide +kernel
theorem dX13_tries_78 : decode cX13_tries 78 = .ok (.iaload, 1) := by decide +kernel
theorem dX13_tries_79 : decode cX13_tries 79 = .ok (.iload_n 2, 1) := by decide +kernel
theorem dX13_tries_80 : decode cX13_tries 80 = .ok (.isub, 1) := by decide +kernel
theorem dX13_tries_81 : decode cX13_tries 81 = .ok (.iastore, 1) := by decide +kernel
theorem dX13_tries_82 : decode cX13_tries 82 = .ok (.aload_n 0, 1) := by decide +kernel
theorem dX13_tries_83 : decode cX13_tries 83 = .ok (.getfield 41, 3) := by decide +kernel
theorem dX13_tries_86 : decode cX13_tries 86 = .ok (.iconst 2, 1) := by decide +kernel
theorem dX13_tries_87 : decode cX13_tries 87 = .ok (.dup2, 1) := by decide +kernel
theorem dX13_tries_88 : decode cX13_tries 88 = .ok (.iaload, 1) := by decide +kernel
theorem dX13_tries_89 : decode cX13_tries 89 = .ok (.iload_n 3, 1) := by decide +kernel
theorem dX13_tries_90 : decode cX13_tries 90 = .ok (.isub, 1) := by decide +kernel
theorem dX13_tries_91 : decode cX13_tries 91 = .ok (.iastore, 1) := by decide +kernel
theorem dX13_tries_92 : decode cX13_tries 92 = .ok (.aload_n 0, 1) := by decide +kernel
theorem dX13_tries_93 : decode cX13_tries 93 = .ok (.getfield 41, 3) := by decide +kernel
theorem dX13_tries_96 : decode cX13_tries 96 = .ok (.iconst 3, 1) := by decide +kernel
theorem dX13_tries_97 : decode cX13_tries 97 = .ok (.dup2, 1) := by decide +kernel
theorem dX13_tries_98 : decode cX13_tries 98 = .ok (.iaload, 1) := by decide +kernel
theorem dX13_tries_99 : decode cX13_tries 99 = .ok (.iload_n 3, 1) := by decide +kernel
theorem dX13_tries_100 : decode cX13_tries 100 = .ok (.isub, 1) := by decide +kernel
theorem dX13_tries_101 : decode cX13_tries 101 = .ok (.iastore, 1) := by decide +kernel
theorem dX13_tries_102 : decode cX13_tries 102 = .ok (.aload_n 0, 1) := by decide +kernel
theorem dX13_tries_103 : decode cX13_tries 103 = .ok (.getfield 41, 3) := by decide +kernel
theorem dX13_tries_106 : decode cX13_tries 106 = .ok (.iconst 1, 1) := by decide +kernel
theorem dX13_tries_107 : decode cX13_tries 107 = .ok (.dup2, 1) := by decide +kernel
theorem dX13_tries_108 : decode cX13_tries 108 = .ok (.iaload, 1) := by decide +kernel
theorem dX13_tries_109 : decode cX13_tries 109 = .ok (.iconst 2, 1) := by decide +kernel
theorem dX13_tries_110 : decode cX13_tries 110 = .ok (.iload_n 3, 1) := by decide +kernel
theorem dX13_tries_111 : decode cX13_tries 111 = .ok (.imul, 1) := by decide +kernel
theorem dX13_tries_112 : decode cX13_tries 112 = .ok (.isub, 1) := by decide +kernel
theorem dX13_tries_113 : decode cX13_tries 113 = .ok (.iastore, 1) := by decide +kernel
theorem dX13_tries_114 : decode cX13_tries 114 = .ok (.aload_n 0, 1) := by decide +kernel
theorem dX13_tries_115 : decode cX13_tries 115 = .ok (.getfield 41, 3) := by decide +kernel
theorem dX13_tries_118 : decode cX13_tries 118 = .ok (.iconst 4, 1) := by decide +kernel
theorem dX13_tries_119 : decode cX13_tries 119 = .ok (.dup2, 1) := by decide +kernel
theorem dX13_tries_120 : decode cX13_tries 120 = .ok (.iaload, 1) := by decide +kernel
theorem dX13_tries_121 : decode cX13_tries 121 = .ok (.iconst 5, 1) := by decide +kernel
theorem dX13_tries_122 : decode cX13_tries 122 = .ok (.iload 4, 2) := by decide +kernel
theorem dX13_tries_124 : decode cX13_tries 124 = .ok (.imul, 1) := by decide +kernel
theorem dX13_tries_125 : decode cX13_tries 125 = .ok (.iadd, 1) := by decide +kernel
theorem dX13_tries_126 : decode cX13_tries 126 = .ok (.iastore, 1) := by decide +kernel
theorem dX13_tries_127 : decode cX13_tries 127 = .ok (.aload_n 0, 1) := by decide +kernel
theorem dX13_tries_128 : decode cX13_tries 128 = .ok (.getfield 41, 3) := by decide +kernel
theorem dX13_tries_131 : decode cX13_tries 131 = .ok (.bipush 6, 2) := by decide +kernel
theorem dX13_tries_133 : decode cX13_tries 133 = .ok (.iload 5, 2) := by decide +kernel
theorem dX13_tries_135 : decode cX13_tries 135 = .ok (.ifCond .ne 13, 3) := by decide +kernel
theorem dX13_tries_138 : decode cX13_tries 138 = .ok (.aload_n 0, 1) := by decide +kernel
theorem dX13_tries_139 : decode cX13_tries 139 = .ok (.getfield 41, 3) := by decide +kernel
theorem dX13_tries_142 : decode cX13_tries 142 = .ok (.bipush 6, 2) := by decide +kernel
theorem dX13_tries_144 : decode cX13_tries 144 = .ok (.iaload, 1) := by decide +kernel
theorem dX13_tries_145 : decode cX13_tries 145 = .ok (.goto 12, 3) := by decide +kernel
theorem dX13_tries_148 : decode cX13_tries 148 = .ok (.iconst 1, 1) := by decide +kernel
theorem dX13_tries_149 : decode cX13_tries 149 = .ok (.aload_n 0, 1) := by decide +kernel
theorem dX13_tries_150 : decode cX13_tries 150 = .ok (.getfield 41, 3) := by decide +kernel
theorem dX13_tries_153 : decode cX13_tries 153 = .ok (.bipush 6, 2) := by decide +kernel
theorem dX13_tries_155 : decode cX13_tries 155 = .ok (.iaload, 1) := by decide +kernel
theorem dX13_tries_156 : decode cX13_tries 156 = .ok (.isub, 1) := by decide +kernel
theorem dX13_tries_157 : decode cX13_tries 157 = .ok (.iastore, 1) := by decide +kernel
theorem dX13_tries_158 : decode cX13_tries 158 = .ok (.iconst 1, 1) := by decide +kernel
theorem dX13_tries_159 : decode cX13_tries 159 = .ok (.ireturn, 1) := by decide +kernel
theorem dX13_isAct_0 : decode cX13_isAct 0 = .ok (.iload_n 0, 1) := by decide +kernel
theorem dX13_isAct_1 : decode cX13_isAct 1 = .ok (.iconst 0, 1) := by decide +kernel
theorem dX13_isAct_2 : decode cX13_isAct 2 = .ok (.iconst 4, 1) := by decide +kernel
theorem dX13_isAct_3 : decode cX13_isAct 3 = .ok (.invokestatic 57, 3) := by decide +kernel
theorem dX13_isAct_6 : decode cX13_isAct 6 = .ok (.ireturn, 1) := by decide +kernel
theorem dX13_least_0 : decode cX13_least 0 = .ok (.aload_n 0, 1) := by decide +kernel
theorem dX13_least_1 : decode cX13_least 1 = .ok (.iconst 0, 1) := by decide +kernel
theorem dX13_least_2 : decode cX13_least 2 = .ok (.putfield 53, 3) := by decide +kernel
theorem dX13_least_5 : decode cX13_least 5 = .ok (.aload_n 0, 1) := by decide +kernel
theorem dX13_least_6 : decode cX13_least 6 = .ok (.iload_n 1, 1) := by decide +kernel
theorem dX13_least_7 : decode cX13_least 7 = .ok (.invokevirtual 136, 3) := by decide +kernel
theorem dX13_least_10 : decode cX13_least 10 = .ok (.ifCond .eq 45, 3) := by decide +kernel
theorem dX13_least_13 : decode cX13_least 13 = .ok (.aload_n 0, 1) := by decide +kernel
theorem dX13_least_14 : decode cX13_least 14 = .ok (.iload_n 2, 1) := by decide +kernel
theorem dX13_least_15 : decode cX13_least 15 = .ok (.invokevirtual 140, 3) := by decide +kernel
theorem dX13_least_18 : decode cX13_least 18 = .ok (.ifCond .eq 37, 3) := by decide +kernel
theorem dX13_least_21 : decode cX13_least 21 = .ok (.iload 4, 2) := by decide +kernel
theorem dX13_least_23 : decode cX13_least 23 = .ok (.sipush 200, 3) := by decide +kernel
theorem dX13_least_26 : decode cX13_least 26 = .ok (.sipush 800, 3) := by decide +kernel
theorem dX13_least_29 : decode cX13_least 29 = .ok (.invokestatic 57, 3) := by decide +kernel
theorem dX13_least_32 : decode cX13_least 32 = .ok (.ifCond .eq 23, 3) := by decide +kernel
theorem dX13_least_35 : decode cX13_least 35 = .ok (.iload_n 3, 1) := by decide +kernel
theorem dX13_least_36 : decode cX13_least 36 = .ok (.sipush 200, 3) := by decide +kernel
theorem dX13_least_39 : decode cX13_least 39 = .ok (.iload 4, 2) := by decide +kernel
theorem dX13_least_41 : decode cX13_least 41 = .ok (.invokestatic 57, 3) := by decide +kernel
theorem dX13_least_44 : decode cX13_least 44 = .ok (.ifCond .eq 11, 3) := by decide +kernel
theorem dX13_least_47 : decode cX13_least 47 = .ok (.iload 5, 2) := by decide +kernel
theorem dX13_least_49 : decode cX13_least 49 = .ok (.invokestatic 151, 3) := by decide +kernel
theorem dX13_least_52 : decode cX13_least 52 = .ok (.ifCond .ne 5, 3) := by decide +kernel
theorem dX13_least_55 : decode cX13_least 55 = .ok (.iconst (-1), 1) := by decide +kernel
theorem dX13_least_56 : decode cX13_least 56 = .ok (.ireturn, 1) := by decide +kernel
theorem dX13_least_57 : decode cX13_least 57 = .ok (.aload_n 0, 1) := by decide +kernel
theorem dX13_least_58 : decode cX13_least 58 = .ok (.getfield 50, 3) := by decide +kernel
theorem dX13_least_61 : decode cX13_least 61 = .ok (.iconst 0, 1) := by decide +kernel
theorem dX13_least_62 : decode cX13_least 62 = .ok (.bipush (-9), 2) := by decide +kernel
theorem dX13_least_64 : decode cX13_least 64 = .ok (.iastore, 1) := by decide +kernel
theorem dX13_least_65 : decode cX13_least 65 = .ok (.iconst 0, 1) := by decide +kernel
theorem dX13_least_66 : decode cX13_least 66 = .ok (.istore 6, 2) := by decide +kernel
theorem dX13_least_68 : decode cX13_least 68 = .ok (.iload 6, 2) := by decide +kernel
theorem dX13_least_70 : decode cX13_least 70 = .ok (.iconst 2, 1) := by decide +kernel
theorem dX13_least_71 : decode cX13_least 71 = .ok (.if_icmp .ge 212, 3) := by decide +kernel
theorem dX13_least_74 : decode cX13_least 74 = .ok (.iconst 0, 1) := by decide +kernel
theorem dX13_least_75 : decode cX13_least 75 = .ok (.istore 7, 2) := by decide +kernel
theorem dX13_least_77 : decode cX13_least 77 = .ok (.iload 7, 2) := by decide +kernel
theorem dX13_least_79 : decode cX13_least 79 = .ok (.bipush 16, 2) := by decide +kernel
theorem dX13_least_81 : decode cX13_least 81 = .ok (.if_icmp .ge 196, 3) := by decide +kernel
theorem dX13_least_84 : decode cX13_least 84 = .ok (.iconst 0, 1) := by decide +kernel
theorem dX13_least_85 : decode cX13_least 85 = .ok (.istore 8, 2) := by decide +kernel
theorem dX13_least_87 : decode cX13_least 87 = .ok (.iload 8, 2) := by decide +kernel
theorem dX13_least_89 : decode cX13_least 89 = .ok (.bipush 16, 2) := by decide +kernel
theorem dX13_least_91 : decode cX13_least 91 = .ok (.if_icmp .ge 180, 3) := by decide +kernel
theorem dX13_least_94 : decode cX13_least 94 = .ok (.iconst 0, 1) := by decide +kernel
theorem dX13_least_95 : decode cX13_least 95 = .ok (.istore 9, 2) := by decide +kernel
theorem dX13_least_97 : decode cX13_least 97 = .ok (.iload 9, 2) := by decide +kernel
theorem dX13_least_99 : decode cX13_least 99 = .ok (.bipush 16, 2) := by decide +kernel
theorem dX13_least_101 : decode cX13_least 101 = .ok (.if_icmp .ge 164, 3) := by decide +kernel
theorem dX13_least_104 : decode cX13_least 104 = .ok (.iload 6, 2) := by decide +kernel
theorem dX13_least_106 : decode cX13_least 106 = .ok (.iload 7, 2) := by decide +kernel
theorem dX13_least_108 : decode cX13_least 108 = .ok (.iadd, 1) := by decide +kernel
theorem dX13_least_109 : decode cX13_least 109 = .ok (.iload 8, 2) := by decide +kernel
theorem dX13_least_111 : decode cX13_least 111 = .ok (.iadd, 1) := by decide +kernel
theorem dX13_least_112 : decode cX13_least 112 = .ok (.iload 9, 2) := by decide +kernel
theorem dX13_least_114 : decode cX13_least 114 = .ok (.iadd, 1) := by decide +kernel
theorem dX13_least_115 : decode cX13_least 115 = .ok (.istore 10, 2) := by decide +kernel
theorem dX13_least_117 : decode cX13_least 117 = .ok (.aload_n 0, 1) := by decide +kernel
theorem dX13_least_118 : decode cX13_least 118 = .ok (.getfield 50, 3) := by decide +kernel
theorem dX13_least_121 : decode cX13_least 121 = .ok (.iconst 0, 1) := by decide +kernel
theorem dX13_least_122 : decode cX13_least 122 = .ok (.iaload, 1) := by decide +kernel
theorem dX13_least_123 : decode cX13_least 123 = .ok (.bipush (-9), 2) := by decide +kernel
theorem dX13_least_125 : decode cX13_least 125 = .ok (.if_icmp .eq 14, 3) := by decide +kernel
theorem dX13_least_128 : decode cX13_least 128 = .ok (.iload 10, 2) := by decide +kernel
theorem dX13_least_130 : decode cX13_least 130 = .ok (.aload_n 0, 1) := by decide +kernel
theorem dX13_least_131 : decode cX13_least 131 = .ok (.getfield 50, 3) := by decide +kernel
theorem dX13_least_134 : decode cX13_least 134 = .ok (.iconst 0, 1) := by decide +kernel
theorem dX13_least_135 : decode cX13_least 135 = .ok (.iaload, 1) := by decide +kernel
theorem dX13_least_136 : decode cX13_least 136 = .ok (.if_icmp .ge 7, 3) := by decide +kernel
theorem dX13_least_139 : decode cX13_least 139 = .ok (.iconst 1, 1) := by decide +kernel
theorem dX13_least_140 : decode cX13_least 140 = .ok (.goto 4, 3) := by decide +kernel
theorem dX13_least_143 : decode cX13_least 143 = .ok (.iconst 0, 1) := by decide +kernel
theorem dX13_least_144 : decode cX13_least 144 = .ok (.istore 11, 2) := by decide +kernel
theorem dX13_least_146 : decode cX13_least 146 = .ok (.iload 11, 2) := by decide +kernel
theorem dX13_least_148 : decode cX13_least 148 = .ok (.ifCond .eq 111, 3) := by decide +kernel
theorem dX13_least_151 : decode cX13_least 151 = .ok (.aload_n 0, 1) := by decide +kernel
theorem dX13_least_152 : decode cX13_least 152 = .ok (.iload_n 1, 1) := by decide +kernel
theorem dX13_least_153 : decode cX13_least 153 = .ok (.iload 7, 2) := by decide +kernel
theorem dX13_least_155 : decode cX13_least 155 = .ok (.iload 8, 2) := by decide +kernel
theorem dX13_least_157 : decode cX13_least 157 = .ok (.iload 9, 2) := by decide +kernel
theorem dX13_least_159 : decode cX13_least 159 = .ok (.iload 6, 2) := by decide +kernel
theorem dX13_least_161 : decode cX13_least 161 = .ok (.invokevirtual 154, 3) := by decide +kernel
theorem dX13_least_164 : decode cX13_least 164 = .ok (.ifCond .eq 95, 3) := by decide +kernel
theorem dX13_least_167 : decode cX13_least 167 = .ok (.aload_n 0, 1) := by decide +kernel
theorem dX13_least_168 : decode cX13_least 168 = .ok (.getfield 41, 3) := by decide +kernel
theorem dX13_least_171 : decode cX13_least 171 = .ok (.iconst 1, 1) := by decide +kernel
theorem dX13_least_172 : decode cX13_least 172 = .ok (.iaload, 1) := by decide +kernel
theorem dX13_least_173 : decode cX13_least 173 = .ok (.aload_n 0, 1) := by decide +kernel
theorem dX13_least_174 : decode cX13_least 174 = .ok (.getfield 41, 3) := by decide +kernel
theorem dX13_least_177 : decode cX13_least 177 = .ok (.iconst 4, 1) := by decide +kernel
theorem dX13_least_178 : decode cX13_least 178 = .ok (.iaload, 1) := by decide +kernel
theorem dX13_least_179 : decode cX13_least 179 = .ok (.iadd, 1) := by decide +kernel
theorem dX13_least_180 : decode cX13_least 180 = .ok (.iload_n 3, 1) := by decide +kernel
theorem dX13_least_181 : decode cX13_least 181 = .ok (.iload 4, 2) := by decide +kernel
theorem dX13_least_183 : decode cX13_least 183 = .ok (.invokestatic 57, 3) := by decide +kernel
theorem dX13_least_186 : decode cX13_least 186 = .ok (.ifCond .eq 73, 3) := by decide +kernel
theorem dX13_least_189 : decode cX13_least 189 = .ok (.aload_n 0, 1) := by decide +kernel
theorem dX13_least_190 : decode cX13_least 190 = .ok (.aload_n 0, 1) := by decide +kernel
theorem dX13_least_191 : decode cX13_least 191 = .ok (.getfield 23, 3) := by decide +kernel
theorem dX13_least_194 : decode cX13_least 194 = .ok (.iconst 2, 1) := by decide +kernel
theorem dX13_least_195 : decode cX13_least 195 = .ok (.iload_n 2, 1) := by decide +kernel
theorem dX13_least_196 : decode cX13_least 196 = .ok (.imul, 1) := by decide +kernel
theorem dX13_least_197 : decode cX13_least 197 = .ok (.iaload, 1) := by decide +kernel
theorem dX13_least_198 : decode cX13_least 198 = .ok (.aload_n 0, 1) := by decide +kernel
theorem dX13_least_199 : decode cX13_least 199 = .ok (.getfield 23, 3) := by decide +kernel
theorem dX13_least_202 : decode cX13_least 202 = .ok (.iconst 2, 1) := by decide +kernel
theorem dX13_least_203 : decode cX13_least 203 = .ok (.iload_n 2, 1) := by decide +kernel
theorem dX13_least_204 : decode cX13_least 204 = .ok (.imul, 1) := by decide +kernel
theorem dX13_least_205 : decode cX13_least 205 = .ok (.iconst 1, 1) := by decide +kernel
theorem dX13_least_206 : decode cX13_least 206 = .ok (.iadd, 1) := by decide +kernel
theorem dX13_least_207 : decode cX13_least 207 = .ok (.iaload, 1) := by decide +kernel
theorem dX13_least_208 : decode cX13_least 208 = .ok (.invokevirtual 158, 3) := by decide +kernel
theorem dX13_least_211 : decode cX13_least 211 = .ok (.aload_n 0, 1) := by decide +kernel
theorem dX13_least_212 : decode cX13_least 212 = .ok (.getfield 162, 3) := by decide +kernel
theorem dX13_least_215 : decode cX13_least 215 = .ok (.iconst 1, 1) := by decide +kernel
theorem dX13_least_216 : decode cX13_least 216 = .ok (.if_icmp .ne 43, 3) := by decide +kernel
theorem dX13_least_219 : decode cX13_least 219 = .ok (.aload_n 0, 1) := by decide +kernel
theorem dX13_least_220 : decode cX13_least 220 = .ok (.getfield 50, 3) := by decide +kernel
theorem dX13_least_223 : decode cX13_least 223 = .ok (.iconst 0, 1) := by decide +kernel
theorem dX13_least_224 : decode cX13_least 224 = .ok (.iload 10, 2) := by decide +kernel
theorem dX13_least_226 : decode cX13_least 226 = .ok (.iastore, 1) := by decide +kernel
theorem dX13_least_227 : decode cX13_least 227 = .ok (.aload_n 0, 1) := by decide +kernel
theorem dX13_least_228 : decode cX13_least 228 = .ok (.getfield 50, 3) := by decide +kernel
theorem dX13_least_231 : decode cX13_least 231 = .ok (.iconst 1, 1) := by decide +kernel
theorem dX13_least_232 : decode cX13_least 232 = .ok (.iload 7, 2) := by decide +kernel
theorem dX13_least_234 : decode cX13_least 234 = .ok (.iastore, 1) := by decide +kernel
theorem dX13_least_235 : decode cX13_least 235 = .ok (.aload_n 0, 1) := by decide +kernel
theorem dX13_least_236 : decode cX13_least 236 = .ok (.getfield 50, 3) := by decide +kernel
theorem dX13_least_239 : decode cX13_least 239 = .ok (.iconst 2, 1) := by decide +kernel
theorem dX13_least_240 : decode cX13_least 240 = .ok (.iload 8, 2) := by decide +kernel
theorem dX13_least_242 : decode cX13_least 242 = .ok (.iastore, 1) := by decide +kernel
theorem dX13_least_243 : decode cX13_least 243 = .ok (.aload_n 0, 1) := by decide +kernel
theorem dX13_least_244 : decode cX13_least 244 = .ok (.getfield 50, 3) := by decide +kernel
theorem dX13_least_247 : decode cX13_least 247 = .ok (.iconst 3, 1) := by decide +kernel
theorem dX13_least_248 : decode cX13_least 248 = .ok (.iload 9, 2) := by decide +kernel
theorem dX13_least_250 : decode cX13_least 250 = .ok (.iastore, 1) := by decide +kernel
theorem dX13_least_251 : decode cX13_least 251 = .ok (.aload_n 0, 1) := by decide +kernel
theorem dX13_least_252 : decode cX13_least 252 = .ok (.getfield 50, 3) := by decide +kernel
theorem dX13_least_255 : decode cX13_least 255 = .ok (.iconst 4, 1) := by decide +kernel
theorem dX13_least_256 : decode cX13_least 256 = .ok (.iload 6, 2) := by decide +kernel
theorem dX13_least_258 : decode cX13_least 258 = .ok (.iastore, 1) := by decide +kernel
theorem dX13_least_259 : decode cX13_least 259 = .ok (.iinc 9 1, 3) := by decide +kernel
theorem dX13_least_262 : decode cX13_least 262 = .ok (.goto (-165), 3) := by decide +kernel
theorem dX13_least_265 : decode cX13_least 265 = .ok (.iinc 8 1, 3) := by decide +kernel
theorem dX13_least_268 : decode cX13_least 268 = .ok (.goto (-181), 3) := by decide +kernel
theorem dX13_least_271 : decode cX13_least 271 = .ok (.iinc 7 1, 3) := by decide +kernel
theorem dX13_least_274 : decode cX13_least 274 = .ok (.goto (-197), 3) := by decide +kernel
theorem dX13_least_277 : decode cX13_least 277 = .ok (.iinc 6 1, 3) := by decide +kernel
theorem dX13_least_280 : decode cX13_least 280 = .ok (.goto (-212), 3) := by decide +kernel
theorem dX13_least_283 : decode cX13_least 283 = .ok (.aload_n 0, 1) := by decide +kernel
theorem dX13_least_284 : decode cX13_least 284 = .ok (.getfield 50, 3) := by decide +kernel
theorem dX13_least_287 : decode cX13_least 287 = .ok (.iconst 0, 1) := by decide +kernel
theorem dX13_least_288 : decode cX13_least 288 = .ok (.iaload, 1) := by decide +kernel
theorem dX13_least_289 : decode cX13_least 289 = .ok (.bipush (-9), 2) := by decide +kernel
theorem dX13_least_291 : decode cX13_least 291 = .ok (.if_icmp .ne 8, 3) := by decide +kernel
theorem dX13_least_294 : decode cX13_least 294 = .ok (.bipush (-9), 2) := by decide +kernel
theorem dX13_least_296 : decode cX13_least 296 = .ok (.goto 10, 3) := by decide +kernel
theorem dX13_least_299 : decode cX13_least 299 = .ok (.aload_n 0, 1) := by decide +kernel
theorem dX13_least_300 : decode cX13_least 300 = .ok (.getfield 50, 3) := by decide +kernel
theorem dX13_least_303 : decode cX13_least 303 = .ok (.iload 5, 2) := by decide +kernel
theorem dX13_least_305 : decode cX13_least 305 = .ok (.iaload, 1) := by decide +kernel
theorem dX13_least_306 : decode cX13_least 306 = .ok (.ireturn, 1) := by decide +kernel
theorem dX13_lays_0 : decode cX13_lays 0 = .ok (.iconst 0, 1) := by decide +kernel
theorem dX13_lays_1 : decode cX13_lays 1 = .ok (.istore_n 2, 1) := by decide +kernel
theorem dX13_lays_2 : decode cX13_lays 2 = .ok (.iload_n 2, 1) := by decide +kernel
theorem dX13_lays_3 : decode cX13_lays 3 = .ok (.bipush 7, 2) := by decide +kernel
theorem dX13_lays_5 : decode cX13_lays 5 = .ok (.if_icmp .ge 26, 3) := by decide +kernel
theorem dX13_lays_8 : decode cX13_lays 8 = .ok (.aload_n 0, 1) := by decide +kernel
theorem dX13_lays_9 : decode cX13_lays 9 = .ok (.getfield 41, 3) := by decide +kernel
theorem dX13_lays_12 : decode cX13_lays 12 = .ok (.iload_n 2, 1) := by decide +kernel
theorem dX13_lays_13 : decode cX13_lays 13 = .ok (.aload_n 0, 1) := by decide +kernel
theorem dX13_lays_14 : decode cX13_lays 14 = .ok (.getfield 13, 3) := by decide +kernel
theorem dX13_lays_17 : decode cX13_lays 17 = .ok (.bipush 7, 2) := by decide +kernel
theorem dX13_lays_19 : decode cX13_lays 19 = .ok (.iload_n 1, 1) := by decide +kernel
theorem dX13_lays_20 : decode cX13_lays 20 = .ok (.imul, 1) := by decide +kernel
theorem dX13_lays_21 : decode cX13_lays 21 = .ok (.iload_n 2, 1) := by decide +kernel
theorem dX13_lays_22 : decode cX13_lays 22 = .ok (.iadd, 1) := by decide +kernel
theorem dX13_lays_23 : decode cX13_lays 23 = .ok (.iaload, 1) := by decide +kernel
theorem dX13_lays_24 : decode cX13_lays 24 = .ok (.iastore, 1) := by decide +kernel
theorem dX13_lays_25 : decode cX13_lays 25 = .ok (.iinc 2 1, 3) := by decide +kernel
theorem dX13_lays_28 : decode cX13_lays 28 = .ok (.goto (-26), 3) := by decide +kernel
theorem dX13_lays_31 : decode cX13_lays 31 = .ok (.return_, 1) := by decide +kernel
theorem dX13_kindOf_0 : decode cX13_kindOf 0 = .ok (.iload_n 1, 1) := by decide +kernel
theorem dX13_kindOf_1 : decode cX13_kindOf 1 = .ok (.invokestatic 165, 3) := by decide +kernel
theorem dX13_kindOf_4 : decode cX13_kindOf 4 = .ok (.aload_n 0, 1) := by decide +kernel
theorem dX13_kindOf_5 : decode cX13_kindOf 5 = .ok (.getfield 38, 3) := by decide +kernel
theorem dX13_kindOf_8 : decode cX13_kindOf 8 = .ok (.iconst 0, 1) := by decide +kernel
theorem dX13_kindOf_9 : decode cX13_kindOf 9 = .ok (.iaload, 1) := by decide +kernel
theorem dX13_kindOf_10 : decode cX13_kindOf 10 = .ok (.if_icmp .gt 7, 3) := by decide +kernel
theorem dX13_kindOf_13 : decode cX13_kindOf 13 = .ok (.iconst 1, 1) := by decide +kernel
theorem dX13_kindOf_14 : decode cX13_kindOf 14 = .ok (.goto 29, 3) := by decide +kernel
theorem dX13_kindOf_17 : decode cX13_kindOf 17 = .ok (.iload_n 1, 1) := by decide +kernel
theorem dX13_kindOf_18 : decode cX13_kindOf 18 = .ok (.invokestatic 165, 3) := by decide +kernel
theorem dX13_kindOf_21 : decode cX13_kindOf 21 = .ok (.aload_n 0, 1) := by decide +kernel
theorem dX13_kindOf_22 : decode cX13_kindOf 22 = .ok (.getfield 38, 3) := by decide +kernel
theorem dX13_kindOf_25 : decode cX13_kindOf 25 = .ok (.iconst 1, 1) := by decide +kernel
theorem dX13_kindOf_26 : decode cX13_kindOf 26 = .ok (.iaload, 1) := by decide +kernel
theorem dX13_kindOf_27 : decode cX13_kindOf 27 = .ok (.if_icmp .le 7, 3) := by decide +kernel
theorem dX13_kindOf_30 : decode cX13_kindOf 30 = .ok (.iconst 4, 1) := by decide +kernel
theorem dX13_kindOf_31 : decode cX13_kindOf 31 = .ok (.goto 12, 3) := by decide +kernel
theorem dX13_kindOf_34 : decode cX13_kindOf 34 = .ok (.iload_n 1, 1) := by decide +kernel
theorem dX13_kindOf_35 : decode cX13_kindOf 35 = .ok (.ifCond .le 7, 3) := by decide +kernel
theorem dX13_kindOf_38 : decode cX13_kindOf 38 = .ok (.iconst 2, 1) := by decide +kernel
theorem dX13_kindOf_39 : decode cX13_kindOf 39 = .ok (.goto 4, 3) := by decide +kernel
theorem dX13_kindOf_42 : decode cX13_kindOf 42 = .ok (.iconst 5, 1) := by decide +kernel
theorem dX13_kindOf_43 : decode cX13_kindOf 43 = .ok (.ireturn, 1) := by decide +kernel
theorem dX13_bareOf_0 : decode cX13_bareOf 0 = .ok (.aload_n 0, 1) := by decide +kernel
theorem dX13_bareOf_1 : decode cX13_bareOf 1 = .ok (.iload_n 1, 1) := by decide +kernel
theorem dX13_bareOf_2 : decode cX13_bareOf 2 = .ok (.invokevirtual 168, 3) := by decide +kernel
theorem dX13_bareOf_5 : decode cX13_bareOf 5 = .ok (.istore_n 2, 1) := by decide +kernel
theorem dX13_bareOf_6 : decode cX13_bareOf 6 = .ok (.iload_n 1, 1) := by decide +kernel
theorem dX13_bareOf_7 : decode cX13_bareOf 7 = .ok (.ineg, 1) := by decide +kernel
theorem dX13_bareOf_8 : decode cX13_bareOf 8 = .ok (.aload_n 0, 1) := by decide +kernel
theorem dX13_bareOf_9 : decode cX13_bareOf 9 = .ok (.getfield 38, 3) := by decide +kernel
theorem dX13_bareOf_12 : decode cX13_bareOf 12 = .ok (.iconst 2, 1) := by decide +kernel
theorem dX13_bareOf_13 : decode cX13_bareOf 13 = .ok (.iaload, 1) := by decide +kernel
theorem dX13_bareOf_14 : decode cX13_bareOf 14 = .ok (.imul, 1) := by decide +kernel
theorem dX13_bareOf_15 : decode cX13_bareOf 15 = .ok (.bipush 10, 2) := by decide +kernel
theorem dX13_bareOf_17 : decode cX13_bareOf 17 = .ok (.idiv, 1) := by decide +kernel
theorem dX13_bareOf_18 : decode cX13_bareOf 18 = .ok (.istore_n 3, 1) := by decide +kernel
theorem dX13_bareOf_19 : decode cX13_bareOf 19 = .ok (.iload_n 2, 1) := by decide +kernel
theorem dX13_bareOf_20 : decode cX13_bareOf 20 = .ok (.iconst 1, 1) := by decide +kernel
theorem dX13_bareOf_21 : decode cX13_bareOf 21 = .ok (.if_icmp .ne 7, 3) := by decide +kernel
theorem dX13_bareOf_24 : decode cX13_bareOf 24 = .ok (.iconst 0, 1) := by decide +kernel
theorem dX13_bareOf_25 : decode cX13_bareOf 25 = .ok (.goto 15, 3) := by decide +kernel
theorem dX13_bareOf_28 : decode cX13_bareOf 28 = .ok (.iload_n 2, 1) := by decide +kernel
theorem dX13_bareOf_29 : decode cX13_bareOf 29 = .ok (.iconst 4, 1) := by decide +kernel
theorem dX13_bareOf_30 : decode cX13_bareOf 30 = .ok (.if_icmp .ne 9, 3) := by decide +kernel
theorem dX13_bareOf_33 : decode cX13_bareOf 33 = .ok (.iconst 2, 1) := by decide +kernel
theorem dX13_bareOf_34 : decode cX13_bareOf 34 = .ok (.iload_n 3, 1) := by decide +kernel
theorem dX13_bareOf_35 : decode cX13_bareOf 35 = .ok (.imul, 1) := by decide +kernel
theorem dX13_bareOf_36 : decode cX13_bareOf 36 = .ok (.goto 4, 3) := by decide +kernel
theorem dX13_bareOf_39 : decode cX13_bareOf 39 = .ok (.iload_n 3, 1) := by decide +kernel
theorem dX13_bareOf_40 : decode cX13_bareOf 40 = .ok (.ireturn, 1) := by decide +kernel
theorem dX13_flies_0 : decode cX13_flies 0 = .ok (.aload_n 0, 1) := by decide +kernel
theorem dX13_flies_1 : decode cX13_flies 1 = .ok (.aload_n 0, 1) := by decide +kernel
theorem dX13_flies_2 : decode cX13_flies 2 = .ok (.getfield 41, 3) := by decide +kernel
theorem dX13_flies_5 : decode cX13_flies 5 = .ok (.iconst 2, 1) := by decide +kernel
theorem dX13_flies_6 : decode cX13_flies 6 = .ok (.aload_n 0, 1) := by decide +kernel
theorem dX13_flies_7 : decode cX13_flies 7 = .ok (.getfield 41, 3) := by decide +kernel
theorem dX13_flies_10 : decode cX13_flies 10 = .ok (.bipush 6, 2) := by decide +kernel
theorem dX13_flies_12 : decode cX13_flies 12 = .ok (.iaload, 1) := by decide +kernel
theorem dX13_flies_13 : decode cX13_flies 13 = .ok (.iadd, 1) := by decide +kernel
theorem dX13_flies_14 : decode cX13_flies 14 = .ok (.iaload, 1) := by decide +kernel
theorem dX13_flies_15 : decode cX13_flies 15 = .ok (.bipush 112, 2) := by decide +kernel
theorem dX13_flies_17 : decode cX13_flies 17 = .ok (.imul, 1) := by decide +kernel
theorem dX13_flies_18 : decode cX13_flies 18 = .ok (.aload_n 0, 1) := by decide +kernel
theorem dX13_flies_19 : decode cX13_flies 19 = .ok (.getfield 41, 3) := by decide +kernel
theorem dX13_flies_22 : decode cX13_flies 22 = .ok (.iconst 0, 1) := by decide +kernel
theorem dX13_flies_23 : decode cX13_flies 23 = .ok (.iaload, 1) := by decide +kernel
theorem dX13_flies_24 : decode cX13_flies 24 = .ok (.idiv, 1) := by decide +kernel
theorem dX13_flies_25 : decode cX13_flies 25 = .ok (.aload_n 0, 1) := by decide +kernel
theorem dX13_flies_26 : decode cX13_flies 26 = .ok (.getfield 41, 3) := by decide +kernel
theorem dX13_flies_29 : decode cX13_flies 29 = .ok (.iconst 4, 1) := by decide +kernel
theorem dX13_flies_30 : decode cX13_flies 30 = .ok (.iaload, 1) := by decide +kernel
theorem dX13_flies_31 : decode cX13_flies 31 = .ok (.bipush 10, 2) := by decide +kernel
theorem dX13_flies_33 : decode cX13_flies 33 = .ok (.idiv, 1) := by decide +kernel
theorem dX13_flies_34 : decode cX13_flies 34 = .ok (.isub, 1) := by decide +kernel
theorem dX13_flies_35 : decode cX13_flies 35 = .ok (.putfield 171, 3) := by decide +kernel
theorem dX13_flies_38 : decode cX13_flies 38 = .ok (.aload_n 0, 1) := by decide +kernel
theorem dX13_flies_39 : decode cX13_flies 39 = .ok (.aload_n 0, 1) := by decide +kernel
theorem dX13_flies_40 : decode cX13_flies 40 = .ok (.getfield 171, 3) := by decide +kernel
theorem dX13_flies_43 : decode cX13_flies 43 = .ok (.iload_n 1, 1) := by decide +kernel
theorem dX13_flies_44 : decode cX13_flies 44 = .ok (.isub, 1) := by decide +kernel
theorem dX13_flies_45 : decode cX13_flies 45 = .ok (.iconst 2, 1) := by decide +kernel
theorem dX13_flies_46 : decode cX13_flies 46 = .ok (.iload_n 2, 1) := by decide +kernel
theorem dX13_flies_47 : decode cX13_flies 47 = .ok (.imul, 1) := by decide +kernel
theorem dX13_flies_48 : decode cX13_flies 48 = .ok (.isub, 1) := by decide +kernel
theorem dX13_flies_49 : decode cX13_flies 49 = .ok (.putfield 174, 3) := by decide +kernel
theorem dX13_flies_52 : decode cX13_flies 52 = .ok (.aload_n 0, 1) := by decide +kernel
theorem dX13_flies_53 : decode cX13_flies 53 = .ok (.aload_n 0, 1) := by decide +kernel
theorem dX13_flies_54 : decode cX13_flies 54 = .ok (.aload_n 0, 1) := by decide +kernel
theorem dX13_flies_55 : decode cX13_flies 55 = .ok (.getfield 174, 3) := by decide +kernel
theorem dX13_flies_58 : decode cX13_flies 58 = .ok (.invokevirtual 168, 3) := by decide +kernel
theorem dX13_flies_61 : decode cX13_flies 61 = .ok (.putfield 162, 3) := by decide +kernel
theorem dX13_flies_64 : decode cX13_flies 64 = .ok (.aload_n 0, 1) := by decide +kernel
theorem dX13_flies_65 : decode cX13_flies 65 = .ok (.aload_n 0, 1) := by decide +kernel
theorem dX13_flies_66 : decode cX13_flies 66 = .ok (.aload_n 0, 1) := by decide +kernel
theorem dX13_flies_67 : decode cX13_flies 67 = .ok (.getfield 174, 3) := by decide +kernel
theorem dX13_flies_70 : decode cX13_flies 70 = .ok (.invokevirtual 177, 3) := by decide +kernel
theorem dX13_flies_73 : decode cX13_flies 73 = .ok (.putfield 180, 3) := by decide +kernel
theorem dX13_flies_76 : decode cX13_flies 76 = .ok (.aload_n 0, 1) := by decide +kernel
theorem dX13_flies_77 : decode cX13_flies 77 = .ok (.aload_n 0, 1) := by decide +kernel
theorem dX13_flies_78 : decode cX13_flies 78 = .ok (.getfield 180, 3) := by decide +kernel
theorem dX13_flies_81 : decode cX13_flies 81 = .ok (.bipush 10, 2) := by decide +kernel
theorem dX13_flies_83 : decode cX13_flies 83 = .ok (.aload_n 0, 1) := by decide +kernel
theorem dX13_flies_84 : decode cX13_flies 84 = .ok (.getfield 41, 3) := by decide +kernel
theorem dX13_flies_87 : decode cX13_flies 87 = .ok (.iconst 5, 1) := by decide +kernel
theorem dX13_flies_88 : decode cX13_flies 88 = .ok (.iaload, 1) := by decide +kernel
theorem dX13_flies_89 : decode cX13_flies 89 = .ok (.isub, 1) := by decide +kernel
theorem dX13_flies_90 : decode cX13_flies 90 = .ok (.imul, 1) := by decide +kernel
theorem dX13_flies_91 : decode cX13_flies 91 = .ok (.bipush 10, 2) := by decide +kernel
theorem dX13_flies_93 : decode cX13_flies 93 = .ok (.idiv, 1) := by decide +kernel
theorem dX13_flies_94 : decode cX13_flies 94 = .ok (.aload_n 0, 1) := by decide +kernel
theorem dX13_flies_95 : decode cX13_flies 95 = .ok (.getfield 38, 3) := by decide +kernel
theorem dX13_flies_98 : decode cX13_flies 98 = .ok (.iconst 3, 1) := by decide +kernel
theorem dX13_flies_99 : decode cX13_flies 99 = .ok (.iaload, 1) := by decide +kernel
theorem dX13_flies_100 : decode cX13_flies 100 = .ok (.sipush 600, 3) := by decide +kernel
theorem dX13_flies_103 : decode cX13_flies 103 = .ok (.imul, 1) := by decide +kernel
theorem dX13_flies_104 : decode cX13_flies 104 = .ok (.aload_n 0, 1) := by decide +kernel
theorem dX13_flies_105 : decode cX13_flies 105 = .ok (.getfield 41, 3) := by decide +kernel
theorem dX13_flies_108 : decode cX13_flies 108 = .ok (.iconst 1, 1) := by decide +kernel
theorem dX13_flies_109 : decode cX13_flies 109 = .ok (.iaload, 1) := by decide +kernel
theorem dX13_flies_110 : decode cX13_flies 110 = .ok (.aload_n 0, 1) := by decide +kernel
theorem dX13_flies_111 : decode cX13_flies 111 = .ok (.getfield 41, 3) := by decide +kernel
theorem dX13_flies_114 : decode cX13_flies 114 = .ok (.iconst 4, 1) := by decide +kernel
theorem dX13_flies_115 : decode cX13_flies 115 = .ok (.iaload, 1) := by decide +kernel
theorem dX13_flies_116 : decode cX13_flies 116 = .ok (.iadd, 1) := by decide +kernel
theorem dX13_flies_117 : decode cX13_flies 117 = .ok (.idiv, 1) := by decide +kernel
theorem dX13_flies_118 : decode cX13_flies 118 = .ok (.iadd, 1) := by decide +kernel
theorem dX13_flies_119 : decode cX13_flies 119 = .ok (.putfield 183, 3) := by decide +kernel
theorem dX13_flies_122 : decode cX13_flies 122 = .ok (.aload_n 0, 1) := by decide +kernel
theorem dX13_flies_123 : decode cX13_flies 123 = .ok (.bipush 10, 2) := by decide +kernel
theorem dX13_flies_125 : decode cX13_flies 125 = .ok (.aload_n 0, 1) := by decide +kernel
theorem dX13_flies_126 : decode cX13_flies 126 = .ok (.getfield 41, 3) := by decide +kernel
theorem dX13_flies_129 : decode cX13_flies 129 = .ok (.iconst 1, 1) := by decide +kernel
theorem dX13_flies_130 : decode cX13_flies 130 = .ok (.iaload, 1) := by decide +kernel
theorem dX13_flies_131 : decode cX13_flies 131 = .ok (.aload_n 0, 1) := by decide +kernel
theorem dX13_flies_132 : decode cX13_flies 132 = .ok (.getfield 41, 3) := by decide +kernel
theorem dX13_flies_135 : decode cX13_flies 135 = .ok (.iconst 4, 1) := by decide +kernel
theorem dX13_flies_136 : decode cX13_flies 136 = .ok (.iaload, 1) := by decide +kernel
theorem dX13_flies_137 : decode cX13_flies 137 = .ok (.iadd, 1) := by decide +kernel
theorem dX13_flies_138 : decode cX13_flies 138 = .ok (.imul, 1) := by decide +kernel
theorem dX13_flies_139 : decode cX13_flies 139 = .ok (.iload_n 1, 1) := by decide +kernel
theorem dX13_flies_140 : decode cX13_flies 140 = .ok (.idiv, 1) := by decide +kernel
theorem dX13_flies_141 : decode cX13_flies 141 = .ok (.aload_n 0, 1) := by decide +kernel
theorem dX13_flies_142 : decode cX13_flies 142 = .ok (.getfield 41, 3) := by decide +kernel
theorem dX13_flies_145 : decode cX13_flies 145 = .ok (.iconst 5, 1) := by decide +kernel
theorem dX13_flies_146 : decode cX13_flies 146 = .ok (.iaload, 1) := by decide +kernel
theorem dX13_flies_147 : decode cX13_flies 147 = .ok (.iadd, 1) := by decide +kernel
theorem dX13_flies_148 : decode cX13_flies 148 = .ok (.putfield 186, 3) := by decide +kernel
theorem dX13_flies_151 : decode cX13_flies 151 = .ok (.return_, 1) := by decide +kernel
theorem dX13_fliesWith_0 : decode cX13_fliesWith 0 = .ok (.aload_n 0, 1) := by decide +kernel
theorem dX13_fliesWith_1 : decode cX13_fliesWith 1 = .ok (.iload_n 1, 1) := by decide +kernel
theorem dX13_fliesWith_2 : decode cX13_fliesWith 2 = .ok (.invokevirtual 148, 3) := by decide +kernel
theorem dX13_fliesWith_5 : decode cX13_fliesWith 5 = .ok (.aload_n 0, 1) := by decide +kernel
theorem dX13_fliesWith_6 : decode cX13_fliesWith 6 = .ok (.aload_n 0, 1) := by decide +kernel
theorem dX13_fliesWith_7 : decode cX13_fliesWith 7 = .ok (.getfield 23, 3) := by decide +kernel
theorem dX13_fliesWith_10 : decode cX13_fliesWith 10 = .ok (.iconst 2, 1) := by decide +kernel
theorem dX13_fliesWith_11 : decode cX13_fliesWith 11 = .ok (.iload_n 2, 1) := by decide +kernel
theorem dX13_fliesWith_12 : decode cX13_fliesWith 12 = .ok (.imul, 1) := by decide +kernel
theorem dX13_fliesWith_13 : decode cX13_fliesWith 13 = .ok (.iaload, 1) := by decide +kernel
theorem dX13_fliesWith_14 : decode cX13_fliesWith 14 = .ok (.aload_n 0, 1) := by decide +kernel
theorem dX13_fliesWith_15 : decode cX13_fliesWith 15 = .ok (.getfield 23, 3) := by decide +kernel
theorem dX13_fliesWith_18 : decode cX13_fliesWith 18 = .ok (.iconst 2, 1) := by decide +kernel
theorem dX13_fliesWith_19 : decode cX13_fliesWith 19 = .ok (.iload_n 2, 1) := by decide +kernel
theorem dX13_fliesWith_20 : decode cX13_fliesWith 20 = .ok (.imul, 1) := by decide +kernel
theorem dX13_fliesWith_21 : decode cX13_fliesWith 21 = .ok (.iconst 1, 1) := by decide +kernel
theorem dX13_fliesWith_22 : decode cX13_fliesWith 22 = .ok (.iadd, 1) := by decide +kernel
theorem dX13_fliesWith_23 : decode cX13_fliesWith 23 = .ok (.iaload, 1) := by decide +kernel
theorem dX13_fliesWith_24 : decode cX13_fliesWith 24 = .ok (.invokevirtual 158, 3) := by decide +kernel
theorem dX13_fliesWith_27 : decode cX13_fliesWith 27 = .ok (.return_, 1) := by decide +kernel
theorem dX13_flight_0 : decode cX13_flight 0 = .ok (.aload_n 0, 1) := by decide +kernel
theorem dX13_flight_1 : decode cX13_flight 1 = .ok (.iconst 0, 1) := by decide +kernel
theorem dX13_flight_2 : decode cX13_flight 2 = .ok (.putfield 53, 3) := by decide +kernel
theorem dX13_flight_5 : decode cX13_flight 5 = .ok (.aload_n 0, 1) := by decide +kernel
theorem dX13_flight_6 : decode cX13_flight 6 = .ok (.iload_n 1, 1) := by decide +kernel
theorem dX13_flight_7 : decode cX13_flight 7 = .ok (.invokevirtual 136, 3) := by decide +kernel
theorem dX13_flight_10 : decode cX13_flight 10 = .ok (.ifCond .eq 20, 3) := by decide +kernel
theorem dX13_flight_13 : decode cX13_flight 13 = .ok (.aload_n 0, 1) := by decide +kernel
theorem dX13_flight_14 : decode cX13_flight 14 = .ok (.iload_n 2, 1) := by decide +kernel
theorem dX13_flight_15 : decode cX13_flight 15 = .ok (.invokevirtual 140, 3) := by decide +kernel
theorem dX13_flight_18 : decode cX13_flight 18 = .ok (.ifCond .eq 12, 3) := by decide +kernel
theorem dX13_flight_21 : decode cX13_flight 21 = .ok (.iload_n 3, 1) := by decide +kernel
theorem dX13_flight_22 : decode cX13_flight 22 = .ok (.iconst 0, 1) := by decide +kernel
theorem dX13_flight_23 : decode cX13_flight 23 = .ok (.iconst 5, 1) := by decide +kernel
theorem dX13_flight_24 : decode cX13_flight 24 = .ok (.invokestatic 57, 3) := by decide +kernel
theorem dX13_flight_27 : decode cX13_flight 27 = .ok (.ifCond .ne 6, 3) := by decide +kernel
theorem dX13_flight_30 : decode cX13_flight 30 = .ok (.ldc 143, 2) := by decide +kernel
theorem dX13_flight_32 : decode cX13_flight 32 = .ok (.ireturn, 1) := by decide +kernel
theorem dX13_flight_33 : decode cX13_flight 33 = .ok (.aload_n 0, 1) := by decide +kernel
theorem dX13_flight_34 : decode cX13_flight 34 = .ok (.iload_n 1, 1) := by decide +kernel
theorem dX13_flight_35 : decode cX13_flight 35 = .ok (.iload_n 2, 1) := by decide +kernel
theorem dX13_flight_36 : decode cX13_flight 36 = .ok (.invokevirtual 189, 3) := by decide +kernel
theorem dX13_flight_39 : decode cX13_flight 39 = .ok (.iload_n 3, 1) := by decide +kernel
theorem dX13_flight_40 : decode cX13_flight 40 = .ok (.ifCond .ne 10, 3) := by decide +kernel
theorem dX13_flight_43 : decode cX13_flight 43 = .ok (.aload_n 0, 1) := by decide +kernel
theorem dX13_flight_44 : decode cX13_flight 44 = .ok (.getfield 171, 3) := by decide +kernel
theorem dX13_flight_47 : decode cX13_flight 47 = .ok (.goto 55, 3) := by decide +kernel
theorem dX13_flight_50 : decode cX13_flight 50 = .ok (.iload_n 3, 1) := by decide +kernel
theorem dX13_flight_51 : decode cX13_flight 51 = .ok (.iconst 1, 1) := by decide +kernel
theorem dX13_flight_52 : decode cX13_flight 52 = .ok (.if_icmp .ne 10, 3) := by decide +kernel
theorem dX13_flight_55 : decode cX13_flight 55 = .ok (.aload_n 0, 1) := by decide +kernel
theorem dX13_flight_56 : decode cX13_flight 56 = .ok (.getfield 174, 3) := by decide +kernel
theorem dX13_flight_59 : decode cX13_flight 59 = .ok (.goto 43, 3) := by decide +kernel
theorem dX13_flight_62 : decode cX13_flight 62 = .ok (.iload_n 3, 1) := by decide +kernel
theorem dX13_flight_63 : decode cX13_flight 63 = .ok (.iconst 2, 1) := by decide +kernel
theorem dX13_flight_64 : decode cX13_flight 64 = .ok (.if_icmp .ne 10, 3) := by decide +kernel
theorem dX13_flight_67 : decode cX13_flight 67 = .ok (.aload_n 0, 1) := by decide +kernel
theorem dX13_flight_68 : decode cX13_flight 68 = .ok (.getfield 180, 3) := by decide +kernel
theorem dX13_flight_71 : decode cX13_flight 71 = .ok (.goto 31, 3) := by decide +kernel
theorem dX13_flight_74 : decode cX13_flight 74 = .ok (.iload_n 3, 1) := by decide +kernel
theorem dX13_flight_75 : decode cX13_flight 75 = .ok (.iconst 3, 1) := by decide +kernel
theorem dX13_flight_76 : decode cX13_flight 76 = .ok (.if_icmp .ne 10, 3) := by decide +kernel
theorem dX13_flight_79 : decode cX13_flight 79 = .ok (.aload_n 0, 1) := by decide +kernel
theorem dX13_flight_80 : decode cX13_flight 80 = .ok (.getfield 183, 3) := by decide +kernel
theorem dX13_flight_83 : decode cX13_flight 83 = .ok (.goto 19, 3) := by decide +kernel
theorem dX13_flight_86 : decode cX13_flight 86 = .ok (.iload_n 3, 1) := by decide +kernel
theorem dX13_flight_87 : decode cX13_flight 87 = .ok (.iconst 4, 1) := by decide +kernel
theorem dX13_flight_88 : decode cX13_flight 88 = .ok (.if_icmp .ne 10, 3) := by decide +kernel
theorem dX13_flight_91 : decode cX13_flight 91 = .ok (.aload_n 0, 1) := by decide +kernel
theorem dX13_flight_92 : decode cX13_flight 92 = .ok (.getfield 186, 3) := by decide +kernel
theorem dX13_flight_95 : decode cX13_flight 95 = .ok (.goto 7, 3) := by decide +kernel
theorem dX13_flight_98 : decode cX13_flight 98 = .ok (.aload_n 0, 1) := by decide +kernel
theorem dX13_flight_99 : decode cX13_flight 99 = .ok (.getfield 162, 3) := by decide +kernel
theorem dX13_flight_102 : decode cX13_flight 102 = .ok (.ireturn, 1) := by decide +kernel
theorem dX13_band_0 : decode cX13_band 0 = .ok (.aload_n 0, 1) := by decide +kernel
theorem dX13_band_1 : decode cX13_band 1 = .ok (.iconst 0, 1) := by decide +kernel
theorem dX13_band_2 : decode cX13_band 2 = .ok (.putfield 53, 3) := by decide +kernel
theorem dX13_band_5 : decode cX13_band 5 = .ok (.aload_n 0, 1) := by decide +kernel
theorem dX13_band_6 : decode cX13_band 6 = .ok (.iload_n 1, 1) := by decide +kernel
theorem dX13_band_7 : decode cX13_band 7 = .ok (.invokevirtual 140, 3) := by decide +kernel
theorem dX13_band_10 : decode cX13_band 10 = .ok (.ifCond .eq 36, 3) := by decide +kernel
theorem dX13_band_13 : decode cX13_band 13 = .ok (.iload_n 2, 1) := by decide +kernel
theorem dX13_band_14 : decode cX13_band 14 = .ok (.bipush 80, 2) := by decide +kernel
theorem dX13_band_16 : decode cX13_band 16 = .ok (.sipush 130, 3) := by decide +kernel
theorem dX13_band_19 : decode cX13_band 19 = .ok (.invokestatic 57, 3) := by decide +kernel
theorem dX13_band_22 : decode cX13_band 22 = .ok (.ifCond .eq 24, 3) := by decide +kernel
theorem dX13_band_25 : decode cX13_band 25 = .ok (.iload_n 3, 1) := by decide +kernel
theorem dX13_band_26 : decode cX13_band 26 = .ok (.iconst 0, 1) := by decide +kernel
theorem dX13_band_27 : decode cX13_band 27 = .ok (.sipush 200, 3) := by decide +kernel
theorem dX13_band_30 : decode cX13_band 30 = .ok (.invokestatic 57, 3) := by decide +kernel
theorem dX13_band_33 : decode cX13_band 33 = .ok (.ifCond .eq 13, 3) := by decide +kernel
theorem dX13_band_36 : decode cX13_band 36 = .ok (.iload 4, 2) := by decide +kernel
theorem dX13_band_38 : decode cX13_band 38 = .ok (.iconst 0, 1) := by decide +kernel
theorem dX13_band_39 : decode cX13_band 39 = .ok (.iconst 1, 1) := by decide +kernel
theorem dX13_band_40 : decode cX13_band 40 = .ok (.invokestatic 57, 3) := by decide +kernel
theorem dX13_band_43 : decode cX13_band 43 = .ok (.ifCond .ne 5, 3) := by decide +kernel
theorem dX13_band_46 : decode cX13_band 46 = .ok (.iconst (-1), 1) := by decide +kernel
theorem dX13_band_47 : decode cX13_band 47 = .ok (.ireturn, 1) := by decide +kernel
theorem dX13_band_48 : decode cX13_band 48 = .ok (.bipush (-9), 2) := by decide +kernel
theorem dX13_band_50 : decode cX13_band 50 = .ok (.istore 5, 2) := by decide +kernel
theorem dX13_band_52 : decode cX13_band 52 = .ok (.bipush (-9), 2) := by decide +kernel
theorem dX13_band_54 : decode cX13_band 54 = .ok (.istore 6, 2) := by decide +kernel
theorem dX13_band_56 : decode cX13_band 56 = .ok (.bipush 20, 2) := by decide +kernel
theorem dX13_band_58 : decode cX13_band 58 = .ok (.istore 7, 2) := by decide +kernel
theorem dX13_band_60 : decode cX13_band 60 = .ok (.iload 7, 2) := by decide +kernel
theorem dX13_band_62 : decode cX13_band 62 = .ok (.bipush 100, 2) := by decide +kernel
theorem dX13_band_64 : decode cX13_band 64 = .ok (.if_icmp .ge 75, 3) := by decide +kernel
theorem dX13_band_67 : decode cX13_band 67 = .ok (.iload 7, 2) := by decide +kernel
theorem dX13_band_69 : decode cX13_band 69 = .ok (.bipush 112, 2) := by decide +kernel
theorem dX13_band_71 : decode cX13_band 71 = .ok (.imul, 1) := by decide +kernel
theorem dX13_band_72 : decode cX13_band 72 = .ok (.iload_n 2, 1) := by decide +kernel
theorem dX13_band_73 : decode cX13_band 73 = .ok (.idiv, 1) := by decide +kernel
theorem dX13_band_74 : decode cX13_band 74 = .ok (.iload_n 3, 1) := by decide +kernel
theorem dX13_band_75 : decode cX13_band 75 = .ok (.bipush 10, 2) := by decide +kernel
theorem dX13_band_77 : decode cX13_band 77 = .ok (.idiv, 1) := by decide +kernel
theorem dX13_band_78 : decode cX13_band 78 = .ok (.isub, 1) := by decide +kernel
theorem dX13_band_79 : decode cX13_band 79 = .ok (.aload_n 0, 1) := by decide +kernel
theorem dX13_band_80 : decode cX13_band 80 = .ok (.getfield 23, 3) := by decide +kernel
theorem dX13_band_83 : decode cX13_band 83 = .ok (.iconst 2, 1) := by decide +kernel
theorem dX13_band_84 : decode cX13_band 84 = .ok (.iload_n 1, 1) := by decide +kernel
theorem dX13_band_85 : decode cX13_band 85 = .ok (.imul, 1) := by decide +kernel
theorem dX13_band_86 : decode cX13_band 86 = .ok (.iaload, 1) := by decide +kernel
theorem dX13_band_87 : decode cX13_band 87 = .ok (.isub, 1) := by decide +kernel
theorem dX13_band_88 : decode cX13_band 88 = .ok (.iconst 2, 1) := by decide +kernel
theorem dX13_band_89 : decode cX13_band 89 = .ok (.aload_n 0, 1) := by decide +kernel
theorem dX13_band_90 : decode cX13_band 90 = .ok (.getfield 23, 3) := by decide +kernel
theorem dX13_band_93 : decode cX13_band 93 = .ok (.iconst 2, 1) := by decide +kernel
theorem dX13_band_94 : decode cX13_band 94 = .ok (.iload_n 1, 1) := by decide +kernel
theorem dX13_band_95 : decode cX13_band 95 = .ok (.imul, 1) := by decide +kernel
theorem dX13_band_96 : decode cX13_band 96 = .ok (.iconst 1, 1) := by decide +kernel
theorem dX13_band_97 : decode cX13_band 97 = .ok (.iadd, 1) := by decide +kernel
theorem dX13_band_98 : decode cX13_band 98 = .ok (.iaload, 1) := by decide +kernel
theorem dX13_band_99 : decode cX13_band 99 = .ok (.imul, 1) := by decide +kernel
theorem dX13_band_100 : decode cX13_band 100 = .ok (.isub, 1) := by decide +kernel
theorem dX13_band_101 : decode cX13_band 101 = .ok (.istore 8, 2) := by decide +kernel
theorem dX13_band_103 : decode cX13_band 103 = .ok (.aload_n 0, 1) := by decide +kernel
theorem dX13_band_104 : decode cX13_band 104 = .ok (.iload 8, 2) := by decide +kernel
theorem dX13_band_106 : decode cX13_band 106 = .ok (.invokevirtual 168, 3) := by decide +kernel
theorem dX13_band_109 : decode cX13_band 109 = .ok (.iconst 1, 1) := by decide +kernel
theorem dX13_band_110 : decode cX13_band 110 = .ok (.if_icmp .ne 23, 3) := by decide +kernel
theorem dX13_band_113 : decode cX13_band 113 = .ok (.iload 5, 2) := by decide +kernel
theorem dX13_band_115 : decode cX13_band 115 = .ok (.bipush (-9), 2) := by decide +kernel
theorem dX13_band_117 : decode cX13_band 117 = .ok (.if_icmp .ne 8, 3) := by decide +kernel
theorem dX13_band_120 : decode cX13_band 120 = .ok (.iload 7, 2) := by decide +kernel
theorem dX13_band_122 : decode cX13_band 122 = .ok (.goto 5, 3) := by decide +kernel
theorem dX13_band_125 : decode cX13_band 125 = .ok (.iload 5, 2) := by decide +kernel
theorem dX13_band_127 : decode cX13_band 127 = .ok (.istore 5, 2) := by decide +kernel
theorem dX13_band_129 : decode cX13_band 129 = .ok (.iload 7, 2) := by decide +kernel
theorem dX13_band_131 : decode cX13_band 131 = .ok (.istore 6, 2) := by decide +kernel
theorem dX13_band_133 : decode cX13_band 133 = .ok (.iinc 7 1, 3) := by decide +kernel
theorem dX13_band_136 : decode cX13_band 136 = .ok (.goto (-76), 3) := by decide +kernel
theorem dX13_band_139 : decode cX13_band 139 = .ok (.iload 4, 2) := by decide +kernel
theorem dX13_band_141 : decode cX13_band 141 = .ok (.ifCond .ne 8, 3) := by decide +kernel
theorem dX13_band_144 : decode cX13_band 144 = .ok (.iload 5, 2) := by decide +kernel
theorem dX13_band_146 : decode cX13_band 146 = .ok (.goto 5, 3) := by decide +kernel
theorem dX13_band_149 : decode cX13_band 149 = .ok (.iload 6, 2) := by decide +kernel
theorem dX13_band_151 : decode cX13_band 151 = .ok (.ireturn, 1) := by decide +kernel
theorem dX13_says_0 : decode cX13_says 0 = .ok (.aload_n 0, 1) := by decide +kernel
theorem dX13_says_1 : decode cX13_says 1 = .ok (.iconst 0, 1) := by decide +kernel
theorem dX13_says_2 : decode cX13_says 2 = .ok (.putfield 53, 3) := by decide +kernel
theorem dX13_says_5 : decode cX13_says 5 = .ok (.iload_n 1, 1) := by decide +kernel
theorem dX13_says_6 : decode cX13_says 6 = .ok (.sipush (-999), 3) := by decide +kernel
theorem dX13_says_9 : decode cX13_says 9 = .ok (.sipush 999, 3) := by decide +kernel
theorem dX13_says_12 : decode cX13_says 12 = .ok (.invokestatic 57, 3) := by decide +kernel
theorem dX13_says_15 : decode cX13_says 15 = .ok (.ifCond .eq 22, 3) := by decide +kernel
theorem dX13_says_18 : decode cX13_says 18 = .ok (.iload_n 2, 1) := by decide +kernel
theorem dX13_says_19 : decode cX13_says 19 = .ok (.iconst 0, 1) := by decide +kernel
theorem dX13_says_20 : decode cX13_says 20 = .ok (.bipush 9, 2) := by decide +kernel
theorem dX13_says_22 : decode cX13_says 22 = .ok (.invokestatic 57, 3) := by decide +kernel
theorem dX13_says_25 : decode cX13_says 25 = .ok (.ifCond .eq 12, 3) := by decide +kernel
theorem dX13_says_28 : decode cX13_says 28 = .ok (.iload_n 3, 1) := by decide +kernel
theorem dX13_says_29 : decode cX13_says 29 = .ok (.iconst 0, 1) := by decide +kernel
theorem dX13_says_30 : decode cX13_says 30 = .ok (.iconst 1, 1) := by decide +kernel
theorem dX13_says_31 : decode cX13_says 31 = .ok (.invokestatic 57, 3) := by decide +kernel
theorem dX13_says_34 : decode cX13_says 34 = .ok (.ifCond .ne 6, 3) := by decide +kernel
theorem dX13_says_37 : decode cX13_says 37 = .ok (.ldc 143, 2) := by decide +kernel
theorem dX13_says_39 : decode cX13_says 39 = .ok (.ireturn, 1) := by decide +kernel
theorem dX13_says_40 : decode cX13_says 40 = .ok (.ldc 143, 2) := by decide +kernel
theorem dX13_says_42 : decode cX13_says 42 = .ok (.istore 4, 2) := by decide +kernel
theorem dX13_says_44 : decode cX13_says 44 = .ok (.ldc 143, 2) := by decide +kernel
theorem dX13_says_46 : decode cX13_says 46 = .ok (.istore 5, 2) := by decide +kernel
theorem dX13_says_48 : decode cX13_says 48 = .ok (.bipush (-60), 2) := by decide +kernel
theorem dX13_says_50 : decode cX13_says 50 = .ok (.istore 6, 2) := by decide +kernel
theorem dX13_says_52 : decode cX13_says 52 = .ok (.iload 6, 2) := by decide +kernel
theorem dX13_says_54 : decode cX13_says 54 = .ok (.bipush 61, 2) := by decide +kernel
theorem dX13_says_56 : decode cX13_says 56 = .ok (.if_icmp .ge 54, 3) := by decide +kernel
theorem dX13_says_59 : decode cX13_says 59 = .ok (.aload_n 0, 1) := by decide +kernel
theorem dX13_says_60 : decode cX13_says 60 = .ok (.iload 6, 2) := by decide +kernel
theorem dX13_says_62 : decode cX13_says 62 = .ok (.invokevirtual 177, 3) := by decide +kernel
theorem dX13_says_65 : decode cX13_says 65 = .ok (.istore 7, 2) := by decide +kernel
theorem dX13_says_67 : decode cX13_says 67 = .ok (.iload 7, 2) := by decide +kernel
theorem dX13_says_69 : decode cX13_says 69 = .ok (.bipush 10, 2) := by decide +kernel
theorem dX13_says_71 : decode cX13_says 71 = .ok (.iload_n 2, 1) := by decide +kernel
theorem dX13_says_72 : decode cX13_says 72 = .ok (.isub, 1) := by decide +kernel
theorem dX13_says_73 : decode cX13_says 73 = .ok (.imul, 1) := by decide +kernel
theorem dX13_says_74 : decode cX13_says 74 = .ok (.bipush 10, 2) := by decide +kernel
theorem dX13_says_76 : decode cX13_says 76 = .ok (.idiv, 1) := by decide +kernel
theorem dX13_says_77 : decode cX13_says 77 = .ok (.iload 7, 2) := by decide +kernel
theorem dX13_says_79 : decode cX13_says 79 = .ok (.isub, 1) := by decide +kernel
theorem dX13_says_80 : decode cX13_says 80 = .ok (.iload_n 1, 1) := by decide +kernel
theorem dX13_says_81 : decode cX13_says 81 = .ok (.if_icmp .ne 23, 3) := by decide +kernel
theorem dX13_says_84 : decode cX13_says 84 = .ok (.iload 4, 2) := by decide +kernel
theorem dX13_says_86 : decode cX13_says 86 = .ok (.ldc 143, 2) := by decide +kernel
theorem dX13_says_88 : decode cX13_says 88 = .ok (.if_icmp .ne 8, 3) := by decide +kernel
theorem dX13_says_91 : decode cX13_says 91 = .ok (.iload 6, 2) := by decide +kernel
theorem dX13_says_93 : decode cX13_says 93 = .ok (.goto 5, 3) := by decide +kernel
theorem dX13_says_96 : decode cX13_says 96 = .ok (.iload 4, 2) := by decide +kernel
theorem dX13_says_98 : decode cX13_says 98 = .ok (.istore 4, 2) := by decide +kernel
theorem dX13_says_100 : decode cX13_says 100 = .ok (.iload 6, 2) := by decide +kernel
theorem dX13_says_102 : decode cX13_says 102 = .ok (.istore 5, 2) := by decide +kernel
theorem dX13_says_104 : decode cX13_says 104 = .ok (.iinc 6 1, 3) := by decide +kernel
theorem dX13_says_107 : decode cX13_says 107 = .ok (.goto (-55), 3) := by decide +kernel
theorem dX13_says_110 : decode cX13_says 110 = .ok (.iload_n 3, 1) := by decide +kernel
theorem dX13_says_111 : decode cX13_says 111 = .ok (.ifCond .ne 8, 3) := by decide +kernel
theorem dX13_says_114 : decode cX13_says 114 = .ok (.iload 4, 2) := by decide +kernel
theorem dX13_says_116 : decode cX13_says 116 = .ok (.goto 5, 3) := by decide +kernel
theorem dX13_says_119 : decode cX13_says 119 = .ok (.iload 5, 2) := by decide +kernel
theorem dX13_says_121 : decode cX13_says 121 = .ok (.ireturn, 1) := by decide +kernel
theorem dX13_areSame_0 : decode cX13_areSame 0 = .ok (.iload_n 0, 1) := by decide +kernel
theorem dX13_areSame_1 : decode cX13_areSame 1 = .ok (.iconst 0, 1) := by decide +kernel
theorem dX13_areSame_2 : decode cX13_areSame 2 = .ok (.sipush 999, 3) := by decide +kernel
theorem dX13_areSame_5 : decode cX13_areSame 5 = .ok (.invokestatic 57, 3) := by decide +kernel
theorem dX13_areSame_8 : decode cX13_areSame 8 = .ok (.ifCond .eq 18, 3) := by decide +kernel
theorem dX13_areSame_11 : decode cX13_areSame 11 = .ok (.iload_n 1, 1) := by decide +kernel
theorem dX13_areSame_12 : decode cX13_areSame 12 = .ok (.iconst 0, 1) := by decide +kernel
theorem dX13_areSame_13 : decode cX13_areSame 13 = .ok (.sipush 999, 3) := by decide +kernel
theorem dX13_areSame_16 : decode cX13_areSame 16 = .ok (.invokestatic 57, 3) := by decide +kernel
theorem dX13_areSame_19 : decode cX13_areSame 19 = .ok (.ifCond .eq 7, 3) := by decide +kernel
theorem dX13_areSame_22 : decode cX13_areSame 22 = .ok (.iconst 1, 1) := by decide +kernel
theorem dX13_areSame_23 : decode cX13_areSame 23 = .ok (.goto 4, 3) := by decide +kernel
theorem dX13_areSame_26 : decode cX13_areSame 26 = .ok (.iconst 0, 1) := by decide +kernel
theorem dX13_areSame_27 : decode cX13_areSame 27 = .ok (.ireturn, 1) := by decide +kernel
theorem dX13_fliesAll_0 : decode cX13_fliesAll 0 = .ok (.iconst 0, 1) := by decide +kernel
theorem dX13_fliesAll_1 : decode cX13_fliesAll 1 = .ok (.istore_n 2, 1) := by decide +kernel
theorem dX13_fliesAll_2 : decode cX13_fliesAll 2 = .ok (.iload_n 2, 1) := by decide +kernel
theorem dX13_fliesAll_3 : decode cX13_fliesAll 3 = .ok (.aload_n 0, 1) := by decide +kernel
theorem dX13_fliesAll_4 : decode cX13_fliesAll 4 = .ok (.getfield 127, 3) := by decide +kernel
theorem dX13_fliesAll_7 : decode cX13_fliesAll 7 = .ok (.if_icmp .ge 81, 3) := by decide +kernel
theorem dX13_fliesAll_10 : decode cX13_fliesAll 10 = .ok (.iconst 0, 1) := by decide +kernel
theorem dX13_fliesAll_11 : decode cX13_fliesAll 11 = .ok (.istore_n 3, 1) := by decide +kernel
theorem dX13_fliesAll_12 : decode cX13_fliesAll 12 = .ok (.iload_n 3, 1) := by decide +kernel
theorem dX13_fliesAll_13 : decode cX13_fliesAll 13 = .ok (.iconst 2, 1) := by decide +kernel
theorem dX13_fliesAll_14 : decode cX13_fliesAll 14 = .ok (.if_icmp .ge 68, 3) := by decide +kernel
theorem dX13_fliesAll_17 : decode cX13_fliesAll 17 = .ok (.aload_n 0, 1) := by decide +kernel
theorem dX13_fliesAll_18 : decode cX13_fliesAll 18 = .ok (.iload_n 2, 1) := by decide +kernel
theorem dX13_fliesAll_19 : decode cX13_fliesAll 19 = .ok (.invokevirtual 148, 3) := by decide +kernel
theorem dX13_fliesAll_22 : decode cX13_fliesAll 22 = .ok (.aload_n 0, 1) := by decide +kernel
theorem dX13_fliesAll_23 : decode cX13_fliesAll 23 = .ok (.getfield 41, 3) := by decide +kernel
theorem dX13_fliesAll_26 : decode cX13_fliesAll 26 = .ok (.bipush 6, 2) := by decide +kernel
theorem dX13_fliesAll_28 : decode cX13_fliesAll 28 = .ok (.iload_n 3, 1) := by decide +kernel
theorem dX13_fliesAll_29 : decode cX13_fliesAll 29 = .ok (.iastore, 1) := by decide +kernel
theorem dX13_fliesAll_30 : decode cX13_fliesAll 30 = .ok (.aload_n 0, 1) := by decide +kernel
theorem dX13_fliesAll_31 : decode cX13_fliesAll 31 = .ok (.aload_n 0, 1) := by decide +kernel
theorem dX13_fliesAll_32 : decode cX13_fliesAll 32 = .ok (.getfield 23, 3) := by decide +kernel
theorem dX13_fliesAll_35 : decode cX13_fliesAll 35 = .ok (.iconst 2, 1) := by decide +kernel
theorem dX13_fliesAll_36 : decode cX13_fliesAll 36 = .ok (.iload_n 1, 1) := by decide +kernel
theorem dX13_fliesAll_37 : decode cX13_fliesAll 37 = .ok (.imul, 1) := by decide +kernel
theorem dX13_fliesAll_38 : decode cX13_fliesAll 38 = .ok (.iaload, 1) := by decide +kernel
theorem dX13_fliesAll_39 : decode cX13_fliesAll 39 = .ok (.aload_n 0, 1) := by decide +kernel
theorem dX13_fliesAll_40 : decode cX13_fliesAll 40 = .ok (.getfield 23, 3) := by decide +kernel
theorem dX13_fliesAll_43 : decode cX13_fliesAll 43 = .ok (.iconst 2, 1) := by decide +kernel
theorem dX13_fliesAll_44 : decode cX13_fliesAll 44 = .ok (.iload_n 1, 1) := by decide +kernel
theorem dX13_fliesAll_45 : decode cX13_fliesAll 45 = .ok (.imul, 1) := by decide +kernel
theorem dX13_fliesAll_46 : decode cX13_fliesAll 46 = .ok (.iconst 1, 1) := by decide +kernel
theorem dX13_fliesAll_47 : decode cX13_fliesAll 47 = .ok (.iadd, 1) := by decide +kernel
theorem dX13_fliesAll_48 : decode cX13_fliesAll 48 = .ok (.iaload, 1) := by decide +kernel
theorem dX13_fliesAll_49 : decode cX13_fliesAll 49 = .ok (.invokevirtual 158, 3) := by decide +kernel
theorem dX13_fliesAll_52 : decode cX13_fliesAll 52 = .ok (.aload_n 0, 1) := by decide +kernel
theorem dX13_fliesAll_53 : decode cX13_fliesAll 53 = .ok (.getfield 44, 3) := by decide +kernel
theorem dX13_fliesAll_56 : decode cX13_fliesAll 56 = .ok (.iconst 2, 1) := by decide +kernel
theorem dX13_fliesAll_57 : decode cX13_fliesAll 57 = .ok (.iload_n 2, 1) := by decide +kernel
theorem dX13_fliesAll_58 : decode cX13_fliesAll 58 = .ok (.imul, 1) := by decide +kernel
theorem dX13_fliesAll_59 : decode cX13_fliesAll 59 = .ok (.iload_n 3, 1) := by decide +kernel
theorem dX13_fliesAll_60 : decode cX13_fliesAll 60 = .ok (.iadd, 1) := by decide +kernel
theorem dX13_fliesAll_61 : decode cX13_fliesAll 61 = .ok (.aload_n 0, 1) := by decide +kernel
theorem dX13_fliesAll_62 : decode cX13_fliesAll 62 = .ok (.getfield 183, 3) := by decide +kernel
theorem dX13_fliesAll_65 : decode cX13_fliesAll 65 = .ok (.iastore, 1) := by decide +kernel
theorem dX13_fliesAll_66 : decode cX13_fliesAll 66 = .ok (.aload_n 0, 1) := by decide +kernel
theorem dX13_fliesAll_67 : decode cX13_fliesAll 67 = .ok (.getfield 47, 3) := by decide +kernel
theorem dX13_fliesAll_70 : decode cX13_fliesAll 70 = .ok (.iload_n 2, 1) := by decide +kernel
theorem dX13_fliesAll_71 : decode cX13_fliesAll 71 = .ok (.aload_n 0, 1) := by decide +kernel
theorem dX13_fliesAll_72 : decode cX13_fliesAll 72 = .ok (.getfield 186, 3) := by decide +kernel
theorem dX13_fliesAll_75 : decode cX13_fliesAll 75 = .ok (.iastore, 1) := by decide +kernel
theorem dX13_fliesAll_76 : decode cX13_fliesAll 76 = .ok (.iinc 3 1, 3) := by decide +kernel
theorem dX13_fliesAll_79 : decode cX13_fliesAll 79 = .ok (.goto (-67), 3) := by decide +kernel
theorem dX13_fliesAll_82 : decode cX13_fliesAll 82 = .ok (.iinc 2 1, 3) := by decide +kernel
theorem dX13_fliesAll_85 : decode cX13_fliesAll 85 = .ok (.goto (-83), 3) := by decide +kernel
theorem dX13_fliesAll_88 : decode cX13_fliesAll 88 = .ok (.return_, 1) := by decide +kernel
theorem dX13_areAlike_0 : decode cX13_areAlike 0 = .ok (.iconst 0, 1) := by decide +kernel
theorem dX13_areAlike_1 : decode cX13_areAlike 1 = .ok (.istore 4, 2) := by decide +kernel
theorem dX13_areAlike_3 : decode cX13_areAlike 3 = .ok (.iload 4, 2) := by decide +kernel
theorem dX13_areAlike_5 : decode cX13_areAlike 5 = .ok (.aload_n 0, 1) := by decide +kernel
theorem dX13_areAlike_6 : decode cX13_areAlike 6 = .ok (.getfield 127, 3) := by decide +kernel
theorem dX13_areAlike_9 : decode cX13_areAlike 9 = .ok (.if_icmp .ge 127, 3) := by decide +kernel
theorem dX13_areAlike_12 : decode cX13_areAlike 12 = .ok (.iconst 0, 1) := by decide +kernel
theorem dX13_areAlike_13 : decode cX13_areAlike 13 = .ok (.istore 5, 2) := by decide +kernel
theorem dX13_areAlike_15 : decode cX13_areAlike 15 = .ok (.iload 5, 2) := by decide +kernel
theorem dX13_areAlike_17 : decode cX13_areAlike 17 = .ok (.iload 4, 2) := by decide +kernel
theorem dX13_areAlike_19 : decode cX13_areAlike 19 = .ok (.if_icmp .ge 111, 3) := by decide +kernel
theorem dX13_areAlike_22 : decode cX13_areAlike 22 = .ok (.iload_n 1, 1) := by decide +kernel
theorem dX13_areAlike_23 : decode cX13_areAlike 23 = .ok (.iload 4, 2) := by decide +kernel
theorem dX13_areAlike_25 : decode cX13_areAlike 25 = .ok (.ishr, 1) := by decide +kernel
theorem dX13_areAlike_26 : decode cX13_areAlike 26 = .ok (.iconst 1, 1) := by decide +kernel
theorem dX13_areAlike_27 : decode cX13_areAlike 27 = .ok (.iand, 1) := by decide +kernel
theorem dX13_areAlike_28 : decode cX13_areAlike 28 = .ok (.iconst 1, 1) := by decide +kernel
theorem dX13_areAlike_29 : decode cX13_areAlike 29 = .ok (.if_icmp .ne 95, 3) := by decide +kernel
theorem dX13_areAlike_32 : decode cX13_areAlike 32 = .ok (.iload_n 1, 1) := by decide +kernel
theorem dX13_areAlike_33 : decode cX13_areAlike 33 = .ok (.iload 5, 2) := by decide +kernel
theorem dX13_areAlike_35 : decode cX13_areAlike 35 = .ok (.ishr, 1) := by decide +kernel
theorem dX13_areAlike_36 : decode cX13_areAlike 36 = .ok (.iconst 1, 1) := by decide +kernel
theorem dX13_areAlike_37 : decode cX13_areAlike 37 = .ok (.iand, 1) := by decide +kernel
theorem dX13_areAlike_38 : decode cX13_areAlike 38 = .ok (.iconst 1, 1) := by decide +kernel
theorem dX13_areAlike_39 : decode cX13_areAlike 39 = .ok (.if_icmp .ne 85, 3) := by decide +kernel
theorem dX13_areAlike_42 : decode cX13_areAlike 42 = .ok (.aload_n 0, 1) := by decide +kernel
theorem dX13_areAlike_43 : decode cX13_areAlike 43 = .ok (.getfield 44, 3) := by decide +kernel
theorem dX13_areAlike_46 : decode cX13_areAlike 46 = .ok (.iconst 2, 1) := by decide +kernel
theorem dX13_areAlike_47 : decode cX13_areAlike 47 = .ok (.iload 4, 2) := by decide +kernel
theorem dX13_areAlike_49 : decode cX13_areAlike 49 = .ok (.imul, 1) := by decide +kernel
theorem dX13_areAlike_50 : decode cX13_areAlike 50 = .ok (.aload_n 0, 1) := by decide +kernel
theorem dX13_areAlike_51 : decode cX13_areAlike 51 = .ok (.getfield 13, 3) := by decide +kernel
theorem dX13_areAlike_54 : decode cX13_areAlike 54 = .ok (.bipush 7, 2) := by decide +kernel
theorem dX13_areAlike_56 : decode cX13_areAlike 56 = .ok (.iload 4, 2) := by decide +kernel
theorem dX13_areAlike_58 : decode cX13_areAlike 58 = .ok (.imul, 1) := by decide +kernel
theorem dX13_areAlike_59 : decode cX13_areAlike 59 = .ok (.bipush 6, 2) := by decide +kernel
theorem dX13_areAlike_61 : decode cX13_areAlike 61 = .ok (.iadd, 1) := by decide +kernel
theorem dX13_areAlike_62 : decode cX13_areAlike 62 = .ok (.iaload, 1) := by decide +kernel
theorem dX13_areAlike_63 : decode cX13_areAlike 63 = .ok (.iadd, 1) := by decide +kernel
theorem dX13_areAlike_64 : decode cX13_areAlike 64 = .ok (.iaload, 1) := by decide +kernel
theorem dX13_areAlike_65 : decode cX13_areAlike 65 = .ok (.aload_n 0, 1) := by decide +kernel
theorem dX13_areAlike_66 : decode cX13_areAlike 66 = .ok (.getfield 44, 3) := by decide +kernel
theorem dX13_areAlike_69 : decode cX13_areAlike 69 = .ok (.iconst 2, 1) := by decide +kernel
theorem dX13_areAlike_70 : decode cX13_areAlike 70 = .ok (.iload 5, 2) := by decide +kernel
theorem dX13_areAlike_72 : decode cX13_areAlike 72 = .ok (.imul, 1) := by decide +kernel
theorem dX13_areAlike_73 : decode cX13_areAlike 73 = .ok (.aload_n 0, 1) := by decide +kernel
theorem dX13_areAlike_74 : decode cX13_areAlike 74 = .ok (.getfield 13, 3) := by decide +kernel
theorem dX13_areAlike_77 : decode cX13_areAlike 77 = .ok (.bipush 7, 2) := by decide +kernel
theorem dX13_areAlike_79 : decode cX13_areAlike 79 = .ok (.iload 5, 2) := by decide +kernel
theorem dX13_areAlike_81 : decode cX13_areAlike 81 = .ok (.imul, 1) := by decide +kernel
theorem dX13_areAlike_82 : decode cX13_areAlike 82 = .ok (.bipush 6, 2) := by decide +kernel
theorem dX13_areAlike_84 : decode cX13_areAlike 84 = .ok (.iadd, 1) := by decide +kernel
theorem dX13_areAlike_85 : decode cX13_areAlike 85 = .ok (.iaload, 1) := by decide +kernel
theorem dX13_areAlike_86 : decode cX13_areAlike 86 = .ok (.iadd, 1) := by decide +kernel
theorem dX13_areAlike_87 : decode cX13_areAlike 87 = .ok (.iaload, 1) := by decide +kernel
theorem dX13_areAlike_88 : decode cX13_areAlike 88 = .ok (.isub, 1) := by decide +kernel
theorem dX13_areAlike_89 : decode cX13_areAlike 89 = .ok (.istore 6, 2) := by decide +kernel
theorem dX13_areAlike_91 : decode cX13_areAlike 91 = .ok (.iload 6, 2) := by decide +kernel
theorem dX13_areAlike_93 : decode cX13_areAlike 93 = .ok (.invokestatic 165, 3) := by decide +kernel
theorem dX13_areAlike_96 : decode cX13_areAlike 96 = .ok (.iload_n 2, 1) := by decide +kernel
theorem dX13_areAlike_97 : decode cX13_areAlike 97 = .ok (.if_icmp .gt 25, 3) := by decide +kernel
theorem dX13_areAlike_100 : decode cX13_areAlike 100 = .ok (.aload_n 0, 1) := by decide +kernel
theorem dX13_areAlike_101 : decode cX13_areAlike 101 = .ok (.getfield 47, 3) := by decide +kernel
theorem dX13_areAlike_104 : decode cX13_areAlike 104 = .ok (.iload 4, 2) := by decide +kernel
theorem dX13_areAlike_106 : decode cX13_areAlike 106 = .ok (.iaload, 1) := by decide +kernel
theorem dX13_areAlike_107 : decode cX13_areAlike 107 = .ok (.aload_n 0, 1) := by decide +kernel
theorem dX13_areAlike_108 : decode cX13_areAlike 108 = .ok (.getfield 47, 3) := by decide +kernel
theorem dX13_areAlike_111 : decode cX13_areAlike 111 = .ok (.iload 5, 2) := by decide +kernel
theorem dX13_areAlike_113 : decode cX13_areAlike 113 = .ok (.iaload, 1) := by decide +kernel
theorem dX13_areAlike_114 : decode cX13_areAlike 114 = .ok (.isub, 1) := by decide +kernel
theorem dX13_areAlike_115 : decode cX13_areAlike 115 = .ok (.invokestatic 165, 3) := by decide +kernel
theorem dX13_areAlike_118 : decode cX13_areAlike 118 = .ok (.iload_n 3, 1) := by decide +kernel
theorem dX13_areAlike_119 : decode cX13_areAlike 119 = .ok (.if_icmp .le 5, 3) := by decide +kernel
theorem dX13_areAlike_122 : decode cX13_areAlike 122 = .ok (.iconst 0, 1) := by decide +kernel
theorem dX13_areAlike_123 : decode cX13_areAlike 123 = .ok (.ireturn, 1) := by decide +kernel
theorem dX13_areAlike_124 : decode cX13_areAlike 124 = .ok (.iinc 5 1, 3) := by decide +kernel
theorem dX13_areAlike_127 : decode cX13_areAlike 127 = .ok (.goto (-112), 3) := by decide +kernel
theorem dX13_areAlike_130 : decode cX13_areAlike 130 = .ok (.iinc 4 1, 3) := by decide +kernel
theorem dX13_areAlike_133 : decode cX13_areAlike 133 = .ok (.goto (-130), 3) := by decide +kernel
theorem dX13_areAlike_136 : decode cX13_areAlike 136 = .ok (.iconst 1, 1) := by decide +kernel
theorem dX13_areAlike_137 : decode cX13_areAlike 137 = .ok (.ireturn, 1) := by decide +kernel
theorem dX13_manyOf_0 : decode cX13_manyOf 0 = .ok (.iconst 0, 1) := by decide +kernel
theorem dX13_manyOf_1 : decode cX13_manyOf 1 = .ok (.istore_n 2, 1) := by decide +kernel
theorem dX13_manyOf_2 : decode cX13_manyOf 2 = .ok (.iconst 0, 1) := by decide +kernel
theorem dX13_manyOf_3 : decode cX13_manyOf 3 = .ok (.istore_n 3, 1) := by decide +kernel
theorem dX13_manyOf_4 : decode cX13_manyOf 4 = .ok (.iload_n 3, 1) := by decide +kernel
theorem dX13_manyOf_5 : decode cX13_manyOf 5 = .ok (.aload_n 0, 1) := by decide +kernel
theorem dX13_manyOf_6 : decode cX13_manyOf 6 = .ok (.getfield 127, 3) := by decide +kernel
theorem dX13_manyOf_9 : decode cX13_manyOf 9 = .ok (.if_icmp .ge 17, 3) := by decide +kernel
theorem dX13_manyOf_12 : decode cX13_manyOf 12 = .ok (.iload_n 2, 1) := by decide +kernel
theorem dX13_manyOf_13 : decode cX13_manyOf 13 = .ok (.iload_n 1, 1) := by decide +kernel
theorem dX13_manyOf_14 : decode cX13_manyOf 14 = .ok (.iload_n 3, 1) := by decide +kernel
theorem dX13_manyOf_15 : decode cX13_manyOf 15 = .ok (.ishr, 1) := by decide +kernel
theorem dX13_manyOf_16 : decode cX13_manyOf 16 = .ok (.iconst 1, 1) := by decide +kernel
theorem dX13_manyOf_17 : decode cX13_manyOf 17 = .ok (.iand, 1) := by decide +kernel
theorem dX13_manyOf_18 : decode cX13_manyOf 18 = .ok (.iadd, 1) := by decide +kernel
theorem dX13_manyOf_19 : decode cX13_manyOf 19 = .ok (.istore_n 2, 1) := by decide +kernel
theorem dX13_manyOf_20 : decode cX13_manyOf 20 = .ok (.iinc 3 1, 3) := by decide +kernel
theorem dX13_manyOf_23 : decode cX13_manyOf 23 = .ok (.goto (-19), 3) := by decide +kernel
theorem dX13_manyOf_26 : decode cX13_manyOf 26 = .ok (.iload_n 2, 1) := by decide +kernel
theorem dX13_manyOf_27 : decode cX13_manyOf 27 = .ok (.ireturn, 1) := by decide +kernel
theorem dX13_alike_0 : decode cX13_alike 0 = .ok (.aload_n 0, 1) := by decide +kernel
theorem dX13_alike_1 : decode cX13_alike 1 = .ok (.iconst 0, 1) := by decide +kernel
theorem dX13_alike_2 : decode cX13_alike 2 = .ok (.putfield 53, 3) := by decide +kernel
theorem dX13_alike_5 : decode cX13_alike 5 = .ok (.aload_n 0, 1) := by decide +kernel
theorem dX13_alike_6 : decode cX13_alike 6 = .ok (.iload_n 1, 1) := by decide +kernel
theorem dX13_alike_7 : decode cX13_alike 7 = .ok (.invokevirtual 140, 3) := by decide +kernel
theorem dX13_alike_10 : decode cX13_alike 10 = .ok (.ifCond .eq 21, 3) := by decide +kernel
theorem dX13_alike_13 : decode cX13_alike 13 = .ok (.iload_n 2, 1) := by decide +kernel
theorem dX13_alike_14 : decode cX13_alike 14 = .ok (.iload_n 3, 1) := by decide +kernel
theorem dX13_alike_15 : decode cX13_alike 15 = .ok (.invokestatic 192, 3) := by decide +kernel
theorem dX13_alike_18 : decode cX13_alike 18 = .ok (.ifCond .eq 13, 3) := by decide +kernel
theorem dX13_alike_21 : decode cX13_alike 21 = .ok (.iload 4, 2) := by decide +kernel
theorem dX13_alike_23 : decode cX13_alike 23 = .ok (.iconst 0, 1) := by decide +kernel
theorem dX13_alike_24 : decode cX13_alike 24 = .ok (.iconst 1, 1) := by decide +kernel
theorem dX13_alike_25 : decode cX13_alike 25 = .ok (.invokestatic 57, 3) := by decide +kernel
theorem dX13_alike_28 : decode cX13_alike 28 = .ok (.ifCond .ne 5, 3) := by decide +kernel
theorem dX13_alike_31 : decode cX13_alike 31 = .ok (.iconst (-1), 1) := by decide +kernel
theorem dX13_alike_32 : decode cX13_alike 32 = .ok (.ireturn, 1) := by decide +kernel
theorem dX13_alike_33 : decode cX13_alike 33 = .ok (.aload_n 0, 1) := by decide +kernel
theorem dX13_alike_34 : decode cX13_alike 34 = .ok (.iload_n 1, 1) := by decide +kernel
theorem dX13_alike_35 : decode cX13_alike 35 = .ok (.invokevirtual 196, 3) := by decide +kernel
theorem dX13_alike_38 : decode cX13_alike 38 = .ok (.iconst 0, 1) := by decide +kernel
theorem dX13_alike_39 : decode cX13_alike 39 = .ok (.istore 5, 2) := by decide +kernel
theorem dX13_alike_41 : decode cX13_alike 41 = .ok (.iconst 0, 1) := by decide +kernel
theorem dX13_alike_42 : decode cX13_alike 42 = .ok (.istore 6, 2) := by decide +kernel
theorem dX13_alike_44 : decode cX13_alike 44 = .ok (.iload 6, 2) := by decide +kernel
theorem dX13_alike_46 : decode cX13_alike 46 = .ok (.iconst 1, 1) := by decide +kernel
theorem dX13_alike_47 : decode cX13_alike 47 = .ok (.aload_n 0, 1) := by decide +kernel
theorem dX13_alike_48 : decode cX13_alike 48 = .ok (.getfield 127, 3) := by decide +kernel
theorem dX13_alike_51 : decode cX13_alike 51 = .ok (.ishl, 1) := by decide +kernel
theorem dX13_alike_52 : decode cX13_alike 52 = .ok (.if_icmp .ge 44, 3) := by decide +kernel
theorem dX13_alike_55 : decode cX13_alike 55 = .ok (.aload_n 0, 1) := by decide +kernel
theorem dX13_alike_56 : decode cX13_alike 56 = .ok (.iload 6, 2) := by decide +kernel
theorem dX13_alike_58 : decode cX13_alike 58 = .ok (.invokevirtual 199, 3) := by decide +kernel
theorem dX13_alike_61 : decode cX13_alike 61 = .ok (.aload_n 0, 1) := by decide +kernel
theorem dX13_alike_62 : decode cX13_alike 62 = .ok (.iload 5, 2) := by decide +kernel
theorem dX13_alike_64 : decode cX13_alike 64 = .ok (.invokevirtual 199, 3) := by decide +kernel
theorem dX13_alike_67 : decode cX13_alike 67 = .ok (.if_icmp .le 19, 3) := by decide +kernel
theorem dX13_alike_70 : decode cX13_alike 70 = .ok (.aload_n 0, 1) := by decide +kernel
theorem dX13_alike_71 : decode cX13_alike 71 = .ok (.iload 6, 2) := by decide +kernel
theorem dX13_alike_73 : decode cX13_alike 73 = .ok (.iload_n 2, 1) := by decide +kernel
theorem dX13_alike_74 : decode cX13_alike 74 = .ok (.iload_n 3, 1) := by decide +kernel
theorem dX13_alike_75 : decode cX13_alike 75 = .ok (.invokevirtual 202, 3) := by decide +kernel
theorem dX13_alike_78 : decode cX13_alike 78 = .ok (.ifCond .eq 8, 3) := by decide +kernel
theorem dX13_alike_81 : decode cX13_alike 81 = .ok (.iload 6, 2) := by decide +kernel
theorem dX13_alike_83 : decode cX13_alike 83 = .ok (.goto 5, 3) := by decide +kernel
theorem dX13_alike_86 : decode cX13_alike 86 = .ok (.iload 5, 2) := by decide +kernel
theorem dX13_alike_88 : decode cX13_alike 88 = .ok (.istore 5, 2) := by decide +kernel
theorem dX13_alike_90 : decode cX13_alike 90 = .ok (.iinc 6 1, 3) := by decide +kernel
theorem dX13_alike_93 : decode cX13_alike 93 = .ok (.goto (-49), 3) := by decide +kernel
theorem dX13_alike_96 : decode cX13_alike 96 = .ok (.iload 4, 2) := by decide +kernel
theorem dX13_alike_98 : decode cX13_alike 98 = .ok (.ifCond .ne 8, 3) := by decide +kernel
theorem dX13_alike_101 : decode cX13_alike 101 = .ok (.iload 5, 2) := by decide +kernel
theorem dX13_alike_103 : decode cX13_alike 103 = .ok (.goto 9, 3) := by decide +kernel
theorem dX13_alike_106 : decode cX13_alike 106 = .ok (.aload_n 0, 1) := by decide +kernel
theorem dX13_alike_107 : decode cX13_alike 107 = .ok (.iload 5, 2) := by decide +kernel
theorem dX13_alike_109 : decode cX13_alike 109 = .ok (.invokevirtual 199, 3) := by decide +kernel
theorem dX13_alike_112 : decode cX13_alike 112 = .ok (.ireturn, 1) := by decide +kernel
theorem dX13_turned_0 : decode cX13_turned 0 = .ok (.aload_n 0, 1) := by decide +kernel
theorem dX13_turned_1 : decode cX13_turned 1 = .ok (.iconst 0, 1) := by decide +kernel
theorem dX13_turned_2 : decode cX13_turned 2 = .ok (.putfield 53, 3) := by decide +kernel
theorem dX13_turned_5 : decode cX13_turned 5 = .ok (.aload_n 0, 1) := by decide +kernel
theorem dX13_turned_6 : decode cX13_turned 6 = .ok (.iload_n 1, 1) := by decide +kernel
theorem dX13_turned_7 : decode cX13_turned 7 = .ok (.invokevirtual 140, 3) := by decide +kernel
theorem dX13_turned_10 : decode cX13_turned 10 = .ok (.ifCond .eq 11, 3) := by decide +kernel
theorem dX13_turned_13 : decode cX13_turned 13 = .ok (.iload_n 2, 1) := by decide +kernel
theorem dX13_turned_14 : decode cX13_turned 14 = .ok (.iload_n 3, 1) := by decide +kernel
theorem dX13_turned_15 : decode cX13_turned 15 = .ok (.invokestatic 192, 3) := by decide +kernel
theorem dX13_turned_18 : decode cX13_turned 18 = .ok (.ifCond .ne 5, 3) := by decide +kernel
theorem dX13_turned_21 : decode cX13_turned 21 = .ok (.iconst (-1), 1) := by decide +kernel
theorem dX13_turned_22 : decode cX13_turned 22 = .ok (.ireturn, 1) := by decide +kernel
theorem dX13_turned_23 : decode cX13_turned 23 = .ok (.aload_n 0, 1) := by decide +kernel
theorem dX13_turned_24 : decode cX13_turned 24 = .ok (.iload_n 1, 1) := by decide +kernel
theorem dX13_turned_25 : decode cX13_turned 25 = .ok (.invokevirtual 196, 3) := by decide +kernel
theorem dX13_turned_28 : decode cX13_turned 28 = .ok (.iconst 0, 1) := by decide +kernel
theorem dX13_turned_29 : decode cX13_turned 29 = .ok (.istore 4, 2) := by decide +kernel
theorem dX13_turned_31 : decode cX13_turned 31 = .ok (.iconst 0, 1) := by decide +kernel
theorem dX13_turned_32 : decode cX13_turned 32 = .ok (.istore 5, 2) := by decide +kernel
theorem dX13_turned_34 : decode cX13_turned 34 = .ok (.iload 5, 2) := by decide +kernel
theorem dX13_turned_36 : decode cX13_turned 36 = .ok (.iconst 2, 1) := by decide +kernel
theorem dX13_turned_37 : decode cX13_turned 37 = .ok (.aload_n 0, 1) := by decide +kernel
theorem dX13_turned_38 : decode cX13_turned 38 = .ok (.getfield 127, 3) := by decide +kernel
theorem dX13_turned_41 : decode cX13_turned 41 = .ok (.imul, 1) := by decide +kernel
theorem dX13_turned_42 : decode cX13_turned 42 = .ok (.if_icmp .ge 179, 3) := by decide +kernel
theorem dX13_turned_45 : decode cX13_turned 45 = .ok (.iconst 0, 1) := by decide +kernel
theorem dX13_turned_46 : decode cX13_turned 46 = .ok (.istore 6, 2) := by decide +kernel
theorem dX13_turned_48 : decode cX13_turned 48 = .ok (.iload 6, 2) := by decide +kernel
theorem dX13_turned_50 : decode cX13_turned 50 = .ok (.aload_n 0, 1) := by decide +kernel
theorem dX13_turned_51 : decode cX13_turned 51 = .ok (.getfield 127, 3) := by decide +kernel
theorem dX13_turned_54 : decode cX13_turned 54 = .ok (.if_icmp .ge 161, 3) := by decide +kernel
theorem dX13_turned_57 : decode cX13_turned 57 = .ok (.iconst 0, 1) := by decide +kernel
theorem dX13_turned_58 : decode cX13_turned 58 = .ok (.istore 7, 2) := by decide +kernel
theorem dX13_turned_60 : decode cX13_turned 60 = .ok (.iconst 0, 1) := by decide +kernel
theorem dX13_turned_61 : decode cX13_turned 61 = .ok (.istore 8, 2) := by decide +kernel
theorem dX13_turned_63 : decode cX13_turned 63 = .ok (.iload 8, 2) := by decide +kernel
theorem dX13_turned_65 : decode cX13_turned 65 = .ok (.aload_n 0, 1) := by decide +kernel
theorem dX13_turned_66 : decode cX13_turned 66 = .ok (.getfield 127, 3) := by decide +kernel
theorem dX13_turned_69 : decode cX13_turned 69 = .ok (.if_icmp .ge 124, 3) := by decide +kernel
theorem dX13_turned_72 : decode cX13_turned 72 = .ok (.aload_n 0, 1) := by decide +kernel
theorem dX13_turned_73 : decode cX13_turned 73 = .ok (.getfield 44, 3) := by decide +kernel
theorem dX13_turned_76 : decode cX13_turned 76 = .ok (.iconst 2, 1) := by decide +kernel
theorem dX13_turned_77 : decode cX13_turned 77 = .ok (.iload 8, 2) := by decide +kernel
theorem dX13_turned_79 : decode cX13_turned 79 = .ok (.imul, 1) := by decide +kernel
theorem dX13_turned_80 : decode cX13_turned 80 = .ok (.iaload, 1) := by decide +kernel
theorem dX13_turned_81 : decode cX13_turned 81 = .ok (.aload_n 0, 1) := by decide +kernel
theorem dX13_turned_82 : decode cX13_turned 82 = .ok (.getfield 44, 3) := by decide +kernel
theorem dX13_turned_85 : decode cX13_turned 85 = .ok (.iload 5, 2) := by decide +kernel
theorem dX13_turned_87 : decode cX13_turned 87 = .ok (.iaload, 1) := by decide +kernel
theorem dX13_turned_88 : decode cX13_turned 88 = .ok (.aload_n 0, 1) := by decide +kernel
theorem dX13_turned_89 : decode cX13_turned 89 = .ok (.getfield 44, 3) := by decide +kernel
theorem dX13_turned_92 : decode cX13_turned 92 = .ok (.iload 5, 2) := by decide +kernel
theorem dX13_turned_94 : decode cX13_turned 94 = .ok (.iaload, 1) := by decide +kernel
theorem dX13_turned_95 : decode cX13_turned 95 = .ok (.iload_n 2, 1) := by decide +kernel
theorem dX13_turned_96 : decode cX13_turned 96 = .ok (.iadd, 1) := by decide +kernel
theorem dX13_turned_97 : decode cX13_turned 97 = .ok (.invokestatic 57, 3) := by decide +kernel
theorem dX13_turned_100 : decode cX13_turned 100 = .ok (.ifCond .ne 36, 3) := by decide +kernel
theorem dX13_turned_103 : decode cX13_turned 103 = .ok (.aload_n 0, 1) := by decide +kernel
theorem dX13_turned_104 : decode cX13_turned 104 = .ok (.getfield 44, 3) := by decide +kernel
theorem dX13_turned_107 : decode cX13_turned 107 = .ok (.iconst 2, 1) := by decide +kernel
theorem dX13_turned_108 : decode cX13_turned 108 = .ok (.iload 8, 2) := by decide +kernel
theorem dX13_turned_110 : decode cX13_turned 110 = .ok (.imul, 1) := by decide +kernel
theorem dX13_turned_111 : decode cX13_turned 111 = .ok (.iconst 1, 1) := by decide +kernel
theorem dX13_turned_112 : decode cX13_turned 112 = .ok (.iadd, 1) := by decide +kernel
theorem dX13_turned_113 : decode cX13_turned 113 = .ok (.iaload, 1) := by decide +kernel
theorem dX13_turned_114 : decode cX13_turned 114 = .ok (.aload_n 0, 1) := by decide +kernel
theorem dX13_turned_115 : decode cX13_turned 115 = .ok (.getfield 44, 3) := by decide +kernel
theorem dX13_turned_118 : decode cX13_turned 118 = .ok (.iload 5, 2) := by decide +kernel
theorem dX13_turned_120 : decode cX13_turned 120 = .ok (.iaload, 1) := by decide +kernel
theorem dX13_turned_121 : decode cX13_turned 121 = .ok (.aload_n 0, 1) := by decide +kernel
theorem dX13_turned_122 : decode cX13_turned 122 = .ok (.getfield 44, 3) := by decide +kernel
theorem dX13_turned_125 : decode cX13_turned 125 = .ok (.iload 5, 2) := by decide +kernel
theorem dX13_turned_127 : decode cX13_turned 127 = .ok (.iaload, 1) := by decide +kernel
theorem dX13_turned_128 : decode cX13_turned 128 = .ok (.iload_n 2, 1) := by decide +kernel
theorem dX13_turned_129 : decode cX13_turned 129 = .ok (.iadd, 1) := by decide +kernel
theorem dX13_turned_130 : decode cX13_turned 130 = .ok (.invokestatic 57, 3) := by decide +kernel
theorem dX13_turned_133 : decode cX13_turned 133 = .ok (.ifCond .eq 7, 3) := by decide +kernel
theorem dX13_turned_136 : decode cX13_turned 136 = .ok (.iconst 1, 1) := by decide +kernel
theorem dX13_turned_137 : decode cX13_turned 137 = .ok (.goto 4, 3) := by decide +kernel
theorem dX13_turned_140 : decode cX13_turned 140 = .ok (.iconst 0, 1) := by decide +kernel
theorem dX13_turned_141 : decode cX13_turned 141 = .ok (.istore 9, 2) := by decide +kernel
theorem dX13_turned_143 : decode cX13_turned 143 = .ok (.iload 7, 2) := by decide +kernel
theorem dX13_turned_145 : decode cX13_turned 145 = .ok (.iload 9, 2) := by decide +kernel
theorem dX13_turned_147 : decode cX13_turned 147 = .ok (.ifCond .eq 36, 3) := by decide +kernel
theorem dX13_turned_150 : decode cX13_turned 150 = .ok (.aload_n 0, 1) := by decide +kernel
theorem dX13_turned_151 : decode cX13_turned 151 = .ok (.getfield 47, 3) := by decide +kernel
theorem dX13_turned_154 : decode cX13_turned 154 = .ok (.iload 8, 2) := by decide +kernel
theorem dX13_turned_156 : decode cX13_turned 156 = .ok (.iaload, 1) := by decide +kernel
theorem dX13_turned_157 : decode cX13_turned 157 = .ok (.aload_n 0, 1) := by decide +kernel
theorem dX13_turned_158 : decode cX13_turned 158 = .ok (.getfield 47, 3) := by decide +kernel
theorem dX13_turned_161 : decode cX13_turned 161 = .ok (.iload 6, 2) := by decide +kernel
theorem dX13_turned_163 : decode cX13_turned 163 = .ok (.iaload, 1) := by decide +kernel
theorem dX13_turned_164 : decode cX13_turned 164 = .ok (.aload_n 0, 1) := by decide +kernel
theorem dX13_turned_165 : decode cX13_turned 165 = .ok (.getfield 47, 3) := by decide +kernel
theorem dX13_turned_168 : decode cX13_turned 168 = .ok (.iload 6, 2) := by decide +kernel
theorem dX13_turned_170 : decode cX13_turned 170 = .ok (.iaload, 1) := by decide +kernel
theorem dX13_turned_171 : decode cX13_turned 171 = .ok (.iload_n 3, 1) := by decide +kernel
theorem dX13_turned_172 : decode cX13_turned 172 = .ok (.iadd, 1) := by decide +kernel
theorem dX13_turned_173 : decode cX13_turned 173 = .ok (.invokestatic 57, 3) := by decide +kernel
theorem dX13_turned_176 : decode cX13_turned 176 = .ok (.ifCond .eq 7, 3) := by decide +kernel
theorem dX13_turned_179 : decode cX13_turned 179 = .ok (.iconst 1, 1) := by decide +kernel
theorem dX13_turned_180 : decode cX13_turned 180 = .ok (.goto 4, 3) := by decide +kernel
theorem dX13_turned_183 : decode cX13_turned 183 = .ok (.iconst 0, 1) := by decide +kernel
theorem dX13_turned_184 : decode cX13_turned 184 = .ok (.iadd, 1) := by decide +kernel
theorem dX13_turned_185 : decode cX13_turned 185 = .ok (.istore 7, 2) := by decide +kernel
theorem dX13_turned_187 : decode cX13_turned 187 = .ok (.iinc 8 1, 3) := by decide +kernel
theorem dX13_turned_190 : decode cX13_turned 190 = .ok (.goto (-127), 3) := by decide +kernel
theorem dX13_turned_193 : decode cX13_turned 193 = .ok (.iload 7, 2) := by decide +kernel
theorem dX13_turned_195 : decode cX13_turned 195 = .ok (.iload 4, 2) := by decide +kernel
theorem dX13_turned_197 : decode cX13_turned 197 = .ok (.if_icmp .le 8, 3) := by decide +kernel
theorem dX13_turned_200 : decode cX13_turned 200 = .ok (.iload 7, 2) := by decide +kernel
theorem dX13_turned_202 : decode cX13_turned 202 = .ok (.goto 5, 3) := by decide +kernel
theorem dX13_turned_205 : decode cX13_turned 205 = .ok (.iload 4, 2) := by decide +kernel
theorem dX13_turned_207 : decode cX13_turned 207 = .ok (.istore 4, 2) := by decide +kernel
theorem dX13_turned_209 : decode cX13_turned 209 = .ok (.iinc 6 1, 3) := by decide +kernel
theorem dX13_turned_212 : decode cX13_turned 212 = .ok (.goto (-164), 3) := by decide +kernel
theorem dX13_turned_215 : decode cX13_turned 215 = .ok (.iinc 5 1, 3) := by decide +kernel
theorem dX13_turned_218 : decode cX13_turned 218 = .ok (.goto (-184), 3) := by decide +kernel
theorem dX13_turned_221 : decode cX13_turned 221 = .ok (.iload 4, 2) := by decide +kernel
theorem dX13_turned_223 : decode cX13_turned 223 = .ok (.ireturn, 1) := by decide +kernel
theorem dX13_wreck_0 : decode cX13_wreck 0 = .ok (.aload_n 0, 1) := by decide +kernel
theorem dX13_wreck_1 : decode cX13_wreck 1 = .ok (.iconst 0, 1) := by decide +kernel
theorem dX13_wreck_2 : decode cX13_wreck 2 = .ok (.putfield 53, 3) := by decide +kernel
theorem dX13_wreck_5 : decode cX13_wreck 5 = .ok (.aload_n 0, 1) := by decide +kernel
theorem dX13_wreck_6 : decode cX13_wreck 6 = .ok (.iload_n 1, 1) := by decide +kernel
theorem dX13_wreck_7 : decode cX13_wreck 7 = .ok (.invokevirtual 136, 3) := by decide +kernel
theorem dX13_wreck_10 : decode cX13_wreck 10 = .ok (.ifCond .eq 22, 3) := by decide +kernel
theorem dX13_wreck_13 : decode cX13_wreck 13 = .ok (.iload_n 2, 1) := by decide +kernel
theorem dX13_wreck_14 : decode cX13_wreck 14 = .ok (.iconst 0, 1) := by decide +kernel
theorem dX13_wreck_15 : decode cX13_wreck 15 = .ok (.bipush 9, 2) := by decide +kernel
theorem dX13_wreck_17 : decode cX13_wreck 17 = .ok (.invokestatic 57, 3) := by decide +kernel
theorem dX13_wreck_20 : decode cX13_wreck 20 = .ok (.ifCond .eq 12, 3) := by decide +kernel
theorem dX13_wreck_23 : decode cX13_wreck 23 = .ok (.iload_n 3, 1) := by decide +kernel
theorem dX13_wreck_24 : decode cX13_wreck 24 = .ok (.iconst 0, 1) := by decide +kernel
theorem dX13_wreck_25 : decode cX13_wreck 25 = .ok (.iconst 1, 1) := by decide +kernel
theorem dX13_wreck_26 : decode cX13_wreck 26 = .ok (.invokestatic 57, 3) := by decide +kernel
theorem dX13_wreck_29 : decode cX13_wreck 29 = .ok (.ifCond .ne 5, 3) := by decide +kernel
theorem dX13_wreck_32 : decode cX13_wreck 32 = .ok (.iconst (-1), 1) := by decide +kernel
theorem dX13_wreck_33 : decode cX13_wreck 33 = .ok (.ireturn, 1) := by decide +kernel
theorem dX13_wreck_34 : decode cX13_wreck 34 = .ok (.aload_n 0, 1) := by decide +kernel
theorem dX13_wreck_35 : decode cX13_wreck 35 = .ok (.iload_n 1, 1) := by decide +kernel
theorem dX13_wreck_36 : decode cX13_wreck 36 = .ok (.invokevirtual 148, 3) := by decide +kernel
theorem dX13_wreck_39 : decode cX13_wreck 39 = .ok (.bipush (-9), 2) := by decide +kernel
theorem dX13_wreck_41 : decode cX13_wreck 41 = .ok (.istore 4, 2) := by decide +kernel
theorem dX13_wreck_43 : decode cX13_wreck 43 = .ok (.bipush (-9), 2) := by decide +kernel
theorem dX13_wreck_45 : decode cX13_wreck 45 = .ok (.istore 5, 2) := by decide +kernel
theorem dX13_wreck_47 : decode cX13_wreck 47 = .ok (.bipush 20, 2) := by decide +kernel
theorem dX13_wreck_49 : decode cX13_wreck 49 = .ok (.istore 6, 2) := by decide +kernel
theorem dX13_wreck_51 : decode cX13_wreck 51 = .ok (.iload 6, 2) := by decide +kernel
theorem dX13_wreck_53 : decode cX13_wreck 53 = .ok (.bipush 71, 2) := by decide +kernel
theorem dX13_wreck_55 : decode cX13_wreck 55 = .ok (.if_icmp .ge 44, 3) := by decide +kernel
theorem dX13_wreck_58 : decode cX13_wreck 58 = .ok (.aload_n 0, 1) := by decide +kernel
theorem dX13_wreck_59 : decode cX13_wreck 59 = .ok (.iload 6, 2) := by decide +kernel
theorem dX13_wreck_61 : decode cX13_wreck 61 = .ok (.iload_n 2, 1) := by decide +kernel
theorem dX13_wreck_62 : decode cX13_wreck 62 = .ok (.invokevirtual 158, 3) := by decide +kernel
theorem dX13_wreck_65 : decode cX13_wreck 65 = .ok (.aload_n 0, 1) := by decide +kernel
theorem dX13_wreck_66 : decode cX13_wreck 66 = .ok (.getfield 162, 3) := by decide +kernel
theorem dX13_wreck_69 : decode cX13_wreck 69 = .ok (.iconst 1, 1) := by decide +kernel
theorem dX13_wreck_70 : decode cX13_wreck 70 = .ok (.if_icmp .ne 23, 3) := by decide +kernel
theorem dX13_wreck_73 : decode cX13_wreck 73 = .ok (.iload 4, 2) := by decide +kernel
theorem dX13_wreck_75 : decode cX13_wreck 75 = .ok (.bipush (-9), 2) := by decide +kernel
theorem dX13_wreck_77 : decode cX13_wreck 77 = .ok (.if_icmp .ne 8, 3) := by decide +kernel
theorem dX13_wreck_80 : decode cX13_wreck 80 = .ok (.iload 6, 2) := by decide +kernel
theorem dX13_wreck_82 : decode cX13_wreck 82 = .ok (.goto 5, 3) := by decide +kernel
theorem dX13_wreck_85 : decode cX13_wreck 85 = .ok (.iload 4, 2) := by decide +kernel
theorem dX13_wreck_87 : decode cX13_wreck 87 = .ok (.istore 4, 2) := by decide +kernel
theorem dX13_wreck_89 : decode cX13_wreck 89 = .ok (.iload 6, 2) := by decide +kernel
theorem dX13_wreck_91 : decode cX13_wreck 91 = .ok (.istore 5, 2) := by decide +kernel
theorem dX13_wreck_93 : decode cX13_wreck 93 = .ok (.iinc 6 1, 3) := by decide +kernel
theorem dX13_wreck_96 : decode cX13_wreck 96 = .ok (.goto (-45), 3) := by decide +kernel
theorem dX13_wreck_99 : decode cX13_wreck 99 = .ok (.iload_n 3, 1) := by decide +kernel
theorem dX13_wreck_100 : decode cX13_wreck 100 = .ok (.ifCond .ne 8, 3) := by decide +kernel
theorem dX13_wreck_103 : decode cX13_wreck 103 = .ok (.iload 4, 2) := by decide +kernel
theorem dX13_wreck_105 : decode cX13_wreck 105 = .ok (.goto 5, 3) := by decide +kernel
theorem dX13_wreck_108 : decode cX13_wreck 108 = .ok (.iload 5, 2) := by decide +kernel
theorem dX13_wreck_110 : decode cX13_wreck 110 = .ok (.ireturn, 1) := by decide +kernel
theorem dX13_feather_0 : decode cX13_feather 0 = .ok (.aload_n 0, 1) := by decide +kernel
theorem dX13_feather_1 : decode cX13_feather 1 = .ok (.iconst 0, 1) := by decide +kernel
theorem dX13_feather_2 : decode cX13_feather 2 = .ok (.putfield 53, 3) := by decide +kernel
theorem dX13_feather_5 : decode cX13_feather 5 = .ok (.aload_n 0, 1) := by decide +kernel
theorem dX13_feather_6 : decode cX13_feather 6 = .ok (.iload_n 1, 1) := by decide +kernel
theorem dX13_feather_7 : decode cX13_feather 7 = .ok (.invokevirtual 136, 3) := by decide +kernel
theorem dX13_feather_10 : decode cX13_feather 10 = .ok (.ifCond .eq 21, 3) := by decide +kernel
theorem dX13_feather_13 : decode cX13_feather 13 = .ok (.aload_n 0, 1) := by decide +kernel
theorem dX13_feather_14 : decode cX13_feather 14 = .ok (.iload_n 2, 1) := by decide +kernel
theorem dX13_feather_15 : decode cX13_feather 15 = .ok (.invokevirtual 140, 3) := by decide +kernel
theorem dX13_feather_18 : decode cX13_feather 18 = .ok (.ifCond .eq 13, 3) := by decide +kernel
theorem dX13_feather_21 : decode cX13_feather 21 = .ok (.iload_n 3, 1) := by decide +kernel
theorem dX13_feather_22 : decode cX13_feather 22 = .ok (.iconst 0, 1) := by decide +kernel
theorem dX13_feather_23 : decode cX13_feather 23 = .ok (.bipush 99, 2) := by decide +kernel
theorem dX13_feather_25 : decode cX13_feather 25 = .ok (.invokestatic 57, 3) := by decide +kernel
theorem dX13_feather_28 : decode cX13_feather 28 = .ok (.ifCond .ne 5, 3) := by decide +kernel
theorem dX13_feather_31 : decode cX13_feather 31 = .ok (.iconst (-1), 1) := by decide +kernel
theorem dX13_feather_32 : decode cX13_feather 32 = .ok (.ireturn, 1) := by decide +kernel
theorem dX13_feather_33 : decode cX13_feather 33 = .ok (.iconst 0, 1) := by decide +kernel
theorem dX13_feather_34 : decode cX13_feather 34 = .ok (.istore 4, 2) := by decide +kernel
theorem dX13_feather_36 : decode cX13_feather 36 = .ok (.iconst 0, 1) := by decide +kernel
theorem dX13_feather_37 : decode cX13_feather 37 = .ok (.istore 5, 2) := by decide +kernel
theorem dX13_feather_39 : decode cX13_feather 39 = .ok (.iconst 0, 1) := by decide +kernel
theorem dX13_feather_40 : decode cX13_feather 40 = .ok (.istore 6, 2) := by decide +kernel
theorem dX13_feather_42 : decode cX13_feather 42 = .ok (.iload 6, 2) := by decide +kernel
theorem dX13_feather_44 : decode cX13_feather 44 = .ok (.bipush 10, 2) := by decide +kernel
theorem dX13_feather_46 : decode cX13_feather 46 = .ok (.if_icmp .ge 105, 3) := by decide +kernel
theorem dX13_feather_49 : decode cX13_feather 49 = .ok (.aload_n 0, 1) := by decide +kernel
theorem dX13_feather_50 : decode cX13_feather 50 = .ok (.iload_n 1, 1) := by decide +kernel
theorem dX13_feather_51 : decode cX13_feather 51 = .ok (.invokevirtual 148, 3) := by decide +kernel
theorem dX13_feather_54 : decode cX13_feather 54 = .ok (.aload_n 0, 1) := by decide +kernel
theorem dX13_feather_55 : decode cX13_feather 55 = .ok (.getfield 41, 3) := by decide +kernel
theorem dX13_feather_58 : decode cX13_feather 58 = .ok (.iconst 5, 1) := by decide +kernel
theorem dX13_feather_59 : decode cX13_feather 59 = .ok (.iload 6, 2) := by decide +kernel
theorem dX13_feather_61 : decode cX13_feather 61 = .ok (.iastore, 1) := by decide +kernel
theorem dX13_feather_62 : decode cX13_feather 62 = .ok (.aload_n 0, 1) := by decide +kernel
theorem dX13_feather_63 : decode cX13_feather 63 = .ok (.aload_n 0, 1) := by decide +kernel
theorem dX13_feather_64 : decode cX13_feather 64 = .ok (.getfield 23, 3) := by decide +kernel
theorem dX13_feather_67 : decode cX13_feather 67 = .ok (.iconst 2, 1) := by decide +kernel
theorem dX13_feather_68 : decode cX13_feather 68 = .ok (.iload_n 2, 1) := by decide +kernel
theorem dX13_feather_69 : decode cX13_feather 69 = .ok (.imul, 1) := by decide +kernel
theorem dX13_feather_70 : decode cX13_feather 70 = .ok (.iaload, 1) := by decide +kernel
theorem dX13_feather_71 : decode cX13_feather 71 = .ok (.aload_n 0, 1) := by decide +kernel
theorem dX13_feather_72 : decode cX13_feather 72 = .ok (.getfield 23, 3) := by decide +kernel
theorem dX13_feather_75 : decode cX13_feather 75 = .ok (.iconst 2, 1) := by decide +kernel
theorem dX13_feather_76 : decode cX13_feather 76 = .ok (.iload_n 2, 1) := by decide +kernel
theorem dX13_feather_77 : decode cX13_feather 77 = .ok (.imul, 1) := by decide +kernel
theorem dX13_feather_78 : decode cX13_feather 78 = .ok (.iconst 1, 1) := by decide +kernel
theorem dX13_feather_79 : decode cX13_feather 79 = .ok (.iadd, 1) := by decide +kernel
theorem dX13_feather_80 : decode cX13_feather 80 = .ok (.iaload, 1) := by decide +kernel
theorem dX13_feather_81 : decode cX13_feather 81 = .ok (.invokevirtual 158, 3) := by decide +kernel
theorem dX13_feather_84 : decode cX13_feather 84 = .ok (.aload_n 0, 1) := by decide +kernel
theorem dX13_feather_85 : decode cX13_feather 85 = .ok (.getfield 183, 3) := by decide +kernel
theorem dX13_feather_88 : decode cX13_feather 88 = .ok (.invokestatic 165, 3) := by decide +kernel
theorem dX13_feather_91 : decode cX13_feather 91 = .ok (.aload_n 0, 1) := by decide +kernel
theorem dX13_feather_92 : decode cX13_feather 92 = .ok (.getfield 186, 3) := by decide +kernel
theorem dX13_feather_95 : decode cX13_feather 95 = .ok (.iload_n 3, 1) := by decide +kernel
theorem dX13_feather_96 : decode cX13_feather 96 = .ok (.imul, 1) := by decide +kernel
theorem dX13_feather_97 : decode cX13_feather 97 = .ok (.bipush 100, 2) := by decide +kernel
theorem dX13_feather_99 : decode cX13_feather 99 = .ok (.idiv, 1) := by decide +kernel
theorem dX13_feather_100 : decode cX13_feather 100 = .ok (.iadd, 1) := by decide +kernel
theorem dX13_feather_101 : decode cX13_feather 101 = .ok (.istore 7, 2) := by decide +kernel
theorem dX13_feather_103 : decode cX13_feather 103 = .ok (.iload 6, 2) := by decide +kernel
theorem dX13_feather_105 : decode cX13_feather 105 = .ok (.ifCond .eq 10, 3) := by decide +kernel
theorem dX13_feather_108 : decode cX13_feather 108 = .ok (.iload 7, 2) := by decide +kernel
theorem dX13_feather_110 : decode cX13_feather 110 = .ok (.iload 5, 2) := by decide +kernel
theorem dX13_feather_112 : decode cX13_feather 112 = .ok (.if_icmp .ge 8, 3) := by decide +kernel
theorem dX13_feather_115 : decode cX13_feather 115 = .ok (.iload 6, 2) := by decide +kernel
theorem dX13_feather_117 : decode cX13_feather 117 = .ok (.goto 5, 3) := by decide +kernel
theorem dX13_feather_120 : decode cX13_feather 120 = .ok (.iload 4, 2) := by decide +kernel
theorem dX13_feather_122 : decode cX13_feather 122 = .ok (.istore 4, 2) := by decide +kernel
theorem dX13_feather_124 : decode cX13_feather 124 = .ok (.iload 6, 2) := by decide +kernel
theorem dX13_feather_126 : decode cX13_feather 126 = .ok (.ifCond .eq 10, 3) := by decide +kernel
theorem dX13_feather_129 : decode cX13_feather 129 = .ok (.iload 7, 2) := by decide +kernel
theorem dX13_feather_131 : decode cX13_feather 131 = .ok (.iload 5, 2) := by decide +kernel
theorem dX13_feather_133 : decode cX13_feather 133 = .ok (.if_icmp .ge 8, 3) := by decide +kernel
theorem dX13_feather_136 : decode cX13_feather 136 = .ok (.iload 7, 2) := by decide +kernel
theorem dX13_feather_138 : decode cX13_feather 138 = .ok (.goto 5, 3) := by decide +kernel
theorem dX13_feather_141 : decode cX13_feather 141 = .ok (.iload 5, 2) := by decide +kernel
theorem dX13_feather_143 : decode cX13_feather 143 = .ok (.istore 5, 2) := by decide +kernel
theorem dX13_feather_145 : decode cX13_feather 145 = .ok (.iinc 6 1, 3) := by decide +kernel
theorem dX13_feather_148 : decode cX13_feather 148 = .ok (.goto (-106), 3) := by decide +kernel
theorem dX13_feather_151 : decode cX13_feather 151 = .ok (.iload 4, 2) := by decide +kernel
theorem dX13_feather_153 : decode cX13_feather 153 = .ok (.ireturn, 1) := by decide +kernel
theorem dX13_warm_0 : decode cX13_warm 0 = .ok (.aload_n 0, 1) := by decide +kernel
theorem dX13_warm_1 : decode cX13_warm 1 = .ok (.iconst 0, 1) := by decide +kernel
theorem dX13_warm_2 : decode cX13_warm 2 = .ok (.putfield 53, 3) := by decide +kernel
theorem dX13_warm_5 : decode cX13_warm 5 = .ok (.aload_n 0, 1) := by decide +kernel
theorem dX13_warm_6 : decode cX13_warm 6 = .ok (.iload_n 1, 1) := by decide +kernel
theorem dX13_warm_7 : decode cX13_warm 7 = .ok (.invokevirtual 140, 3) := by decide +kernel
theorem dX13_warm_10 : decode cX13_warm 10 = .ok (.ifCond .eq 22, 3) := by decide +kernel
theorem dX13_warm_13 : decode cX13_warm 13 = .ok (.iload_n 2, 1) := by decide +kernel
theorem dX13_warm_14 : decode cX13_warm 14 = .ok (.iconst 0, 1) := by decide +kernel
theorem dX13_warm_15 : decode cX13_warm 15 = .ok (.bipush 20, 2) := by decide +kernel
theorem dX13_warm_17 : decode cX13_warm 17 = .ok (.invokestatic 57, 3) := by decide +kernel
theorem dX13_warm_20 : decode cX13_warm 20 = .ok (.ifCond .eq 12, 3) := by decide +kernel
theorem dX13_warm_23 : decode cX13_warm 23 = .ok (.iload_n 3, 1) := by decide +kernel
theorem dX13_warm_24 : decode cX13_warm 24 = .ok (.iconst 0, 1) := by decide +kernel
theorem dX13_warm_25 : decode cX13_warm 25 = .ok (.iconst 1, 1) := by decide +kernel
theorem dX13_warm_26 : decode cX13_warm 26 = .ok (.invokestatic 57, 3) := by decide +kernel
theorem dX13_warm_29 : decode cX13_warm 29 = .ok (.ifCond .ne 5, 3) := by decide +kernel
theorem dX13_warm_32 : decode cX13_warm 32 = .ok (.iconst (-1), 1) := by decide +kernel
theorem dX13_warm_33 : decode cX13_warm 33 = .ok (.ireturn, 1) := by decide +kernel
theorem dX13_warm_34 : decode cX13_warm 34 = .ok (.aload_n 0, 1) := by decide +kernel
theorem dX13_warm_35 : decode cX13_warm 35 = .ok (.getfield 23, 3) := by decide +kernel
theorem dX13_warm_38 : decode cX13_warm 38 = .ok (.iconst 2, 1) := by decide +kernel
theorem dX13_warm_39 : decode cX13_warm 39 = .ok (.iload_n 1, 1) := by decide +kernel
theorem dX13_warm_40 : decode cX13_warm 40 = .ok (.imul, 1) := by decide +kernel
theorem dX13_warm_41 : decode cX13_warm 41 = .ok (.iaload, 1) := by decide +kernel
theorem dX13_warm_42 : decode cX13_warm 42 = .ok (.iload_n 2, 1) := by decide +kernel
theorem dX13_warm_43 : decode cX13_warm 43 = .ok (.isub, 1) := by decide +kernel
theorem dX13_warm_44 : decode cX13_warm 44 = .ok (.iconst 1, 1) := by decide +kernel
theorem dX13_warm_45 : decode cX13_warm 45 = .ok (.if_icmp .ge 7, 3) := by decide +kernel
theorem dX13_warm_48 : decode cX13_warm 48 = .ok (.iconst 1, 1) := by decide +kernel
theorem dX13_warm_49 : decode cX13_warm 49 = .ok (.goto 13, 3) := by decide +kernel
theorem dX13_warm_52 : decode cX13_warm 52 = .ok (.aload_n 0, 1) := by decide +kernel
theorem dX13_warm_53 : decode cX13_warm 53 = .ok (.getfield 23, 3) := by decide +kernel
theorem dX13_warm_56 : decode cX13_warm 56 = .ok (.iconst 2, 1) := by decide +kernel
theorem dX13_warm_57 : decode cX13_warm 57 = .ok (.iload_n 1, 1) := by decide +kernel
theorem dX13_warm_58 : decode cX13_warm 58 = .ok (.imul, 1) := by decide +kernel
theorem dX13_warm_59 : decode cX13_warm 59 = .ok (.iaload, 1) := by decide +kernel
theorem dX13_warm_60 : decode cX13_warm 60 = .ok (.iload_n 2, 1) := by decide +kernel
theorem dX13_warm_61 : decode cX13_warm 61 = .ok (.isub, 1) := by decide +kernel
theorem dX13_warm_62 : decode cX13_warm 62 = .ok (.istore 4, 2) := by decide +kernel
theorem dX13_warm_64 : decode cX13_warm 64 = .ok (.iconst 0, 1) := by decide +kernel
theorem dX13_warm_65 : decode cX13_warm 65 = .ok (.istore 5, 2) := by decide +kernel
theorem dX13_warm_67 : decode cX13_warm 67 = .ok (.iconst 0, 1) := by decide +kernel
theorem dX13_warm_68 : decode cX13_warm 68 = .ok (.istore 6, 2) := by decide +kernel
theorem dX13_warm_70 : decode cX13_warm 70 = .ok (.iload 6, 2) := by decide +kernel
theorem dX13_warm_72 : decode cX13_warm 72 = .ok (.aload_n 0, 1) := by decide +kernel
theorem dX13_warm_73 : decode cX13_warm 73 = .ok (.getfield 127, 3) := by decide +kernel
theorem dX13_warm_76 : decode cX13_warm 76 = .ok (.if_icmp .ge 90, 3) := by decide +kernel
theorem dX13_warm_79 : decode cX13_warm 79 = .ok (.aload_n 0, 1) := by decide +kernel
theorem dX13_warm_80 : decode cX13_warm 80 = .ok (.iload 6, 2) := by decide +kernel
theorem dX13_warm_82 : decode cX13_warm 82 = .ok (.iload_n 1, 1) := by decide +kernel
theorem dX13_warm_83 : decode cX13_warm 83 = .ok (.invokevirtual 189, 3) := by decide +kernel
theorem dX13_warm_86 : decode cX13_warm 86 = .ok (.aload_n 0, 1) := by decide +kernel
theorem dX13_warm_87 : decode cX13_warm 87 = .ok (.getfield 162, 3) := by decide +kernel
theorem dX13_warm_90 : decode cX13_warm 90 = .ok (.iconst 1, 1) := by decide +kernel
theorem dX13_warm_91 : decode cX13_warm 91 = .ok (.if_icmp .ne 7, 3) := by decide +kernel
theorem dX13_warm_94 : decode cX13_warm 94 = .ok (.iconst 1, 1) := by decide +kernel
theorem dX13_warm_95 : decode cX13_warm 95 = .ok (.goto 4, 3) := by decide +kernel
theorem dX13_warm_98 : decode cX13_warm 98 = .ok (.iconst 0, 1) := by decide +kernel
theorem dX13_warm_99 : decode cX13_warm 99 = .ok (.istore 7, 2) := by decide +kernel
theorem dX13_warm_101 : decode cX13_warm 101 = .ok (.aload_n 0, 1) := by decide +kernel
theorem dX13_warm_102 : decode cX13_warm 102 = .ok (.iload 4, 2) := by decide +kernel
theorem dX13_warm_104 : decode cX13_warm 104 = .ok (.aload_n 0, 1) := by decide +kernel
theorem dX13_warm_105 : decode cX13_warm 105 = .ok (.getfield 23, 3) := by decide +kernel
theorem dX13_warm_108 : decode cX13_warm 108 = .ok (.iconst 2, 1) := by decide +kernel
theorem dX13_warm_109 : decode cX13_warm 109 = .ok (.iload_n 1, 1) := by decide +kernel
theorem dX13_warm_110 : decode cX13_warm 110 = .ok (.imul, 1) := by decide +kernel
theorem dX13_warm_111 : decode cX13_warm 111 = .ok (.iconst 1, 1) := by decide +kernel
theorem dX13_warm_112 : decode cX13_warm 112 = .ok (.iadd, 1) := by decide +kernel
theorem dX13_warm_113 : decode cX13_warm 113 = .ok (.iaload, 1) := by decide +kernel
theorem dX13_warm_114 : decode cX13_warm 114 = .ok (.invokevirtual 158, 3) := by decide +kernel
theorem dX13_warm_117 : decode cX13_warm 117 = .ok (.iload 5, 2) := by decide +kernel
theorem dX13_warm_119 : decode cX13_warm 119 = .ok (.iload_n 3, 1) := by decide +kernel
theorem dX13_warm_120 : decode cX13_warm 120 = .ok (.ifCond .ne 19, 3) := by decide +kernel
theorem dX13_warm_123 : decode cX13_warm 123 = .ok (.iload 7, 2) := by decide +kernel
theorem dX13_warm_125 : decode cX13_warm 125 = .ok (.ifCond .eq 31, 3) := by decide +kernel
theorem dX13_warm_128 : decode cX13_warm 128 = .ok (.aload_n 0, 1) := by decide +kernel
theorem dX13_warm_129 : decode cX13_warm 129 = .ok (.getfield 162, 3) := by decide +kernel
theorem dX13_warm_132 : decode cX13_warm 132 = .ok (.iconst 1, 1) := by decide +kernel
theorem dX13_warm_133 : decode cX13_warm 133 = .ok (.if_icmp .eq 23, 3) := by decide +kernel
theorem dX13_warm_136 : decode cX13_warm 136 = .ok (.goto 16, 3) := by decide +kernel
theorem dX13_warm_139 : decode cX13_warm 139 = .ok (.iload 7, 2) := by decide +kernel
theorem dX13_warm_141 : decode cX13_warm 141 = .ok (.ifCond .ne 15, 3) := by decide +kernel
theorem dX13_warm_144 : decode cX13_warm 144 = .ok (.aload_n 0, 1) := by decide +kernel
theorem dX13_warm_145 : decode cX13_warm 145 = .ok (.getfield 162, 3) := by decide +kernel
theorem dX13_warm_148 : decode cX13_warm 148 = .ok (.iconst 1, 1) := by decide +kernel
theorem dX13_warm_149 : decode cX13_warm 149 = .ok (.if_icmp .ne 7, 3) := by decide +kernel
theorem dX13_warm_152 : decode cX13_warm 152 = .ok (.iconst 1, 1) := by decide +kernel
theorem dX13_warm_153 : decode cX13_warm 153 = .ok (.goto 4, 3) := by decide +kernel
theorem dX13_warm_156 : decode cX13_warm 156 = .ok (.iconst 0, 1) := by decide +kernel
theorem dX13_warm_157 : decode cX13_warm 157 = .ok (.iadd, 1) := by decide +kernel
theorem dX13_warm_158 : decode cX13_warm 158 = .ok (.istore 5, 2) := by decide +kernel
theorem dX13_warm_160 : decode cX13_warm 160 = .ok (.iinc 6 1, 3) := by decide +kernel
theorem dX13_warm_163 : decode cX13_warm 163 = .ok (.goto (-93), 3) := by decide +kernel
theorem dX13_warm_166 : decode cX13_warm 166 = .ok (.iload 5, 2) := by decide +kernel
theorem dX13_warm_168 : decode cX13_warm 168 = .ok (.ireturn, 1) := by decide +kernel
theorem dX13_shoot_0 : decode cX13_shoot 0 = .ok (.aload_n 0, 1) := by decide +kernel
theorem dX13_shoot_1 : decode cX13_shoot 1 = .ok (.iconst 0, 1) := by decide +kernel
theorem dX13_shoot_2 : decode cX13_shoot 2 = .ok (.putfield 53, 3) := by decide +kernel
theorem dX13_shoot_5 : decode cX13_shoot 5 = .ok (.aload_n 0, 1) := by decide +kernel
theorem dX13_shoot_6 : decode cX13_shoot 6 = .ok (.iload_n 1, 1) := by decide +kernel
theorem dX13_shoot_7 : decode cX13_shoot 7 = .ok (.invokevirtual 136, 3) := by decide +kernel
theorem dX13_shoot_10 : decode cX13_shoot 10 = .ok (.ifCond .eq 37, 3) := by decide +kernel
theorem dX13_shoot_13 : decode cX13_shoot 13 = .ok (.aload_n 0, 1) := by decide +kernel
theorem dX13_shoot_14 : decode cX13_shoot 14 = .ok (.iload_n 2, 1) := by decide +kernel
theorem dX13_shoot_15 : decode cX13_shoot 15 = .ok (.invokevirtual 140, 3) := by decide +kernel
theorem dX13_shoot_18 : decode cX13_shoot 18 = .ok (.ifCond .eq 29, 3) := by decide +kernel
theorem dX13_shoot_21 : decode cX13_shoot 21 = .ok (.iload_n 3, 1) := by decide +kernel
theorem dX13_shoot_22 : decode cX13_shoot 22 = .ok (.iconst 0, 1) := by decide +kernel
theorem dX13_shoot_23 : decode cX13_shoot 23 = .ok (.aload_n 0, 1) := by decide +kernel
theorem dX13_shoot_24 : decode cX13_shoot 24 = .ok (.getfield 133, 3) := by decide +kernel
theorem dX13_shoot_27 : decode cX13_shoot 27 = .ok (.iconst 1, 1) := by decide +kernel
theorem dX13_shoot_28 : decode cX13_shoot 28 = .ok (.isub, 1) := by decide +kernel
theorem dX13_shoot_29 : decode cX13_shoot 29 = .ok (.invokestatic 57, 3) := by decide +kernel
theorem dX13_shoot_32 : decode cX13_shoot 32 = .ok (.ifCond .eq 15, 3) := by decide +kernel
theorem dX13_shoot_35 : decode cX13_shoot 35 = .ok (.aload_n 0, 1) := by decide +kernel
theorem dX13_shoot_36 : decode cX13_shoot 36 = .ok (.getfield 13, 3) := by decide +kernel
theorem dX13_shoot_39 : decode cX13_shoot 39 = .ok (.bipush 85, 2) := by decide +kernel
theorem dX13_shoot_41 : decode cX13_shoot 41 = .ok (.iaload, 1) := by decide +kernel
theorem dX13_shoot_42 : decode cX13_shoot 42 = .ok (.bipush 60, 2) := by decide +kernel
theorem dX13_shoot_44 : decode cX13_shoot 44 = .ok (.if_icmp .ne 6, 3) := by decide +kernel
theorem dX13_shoot_47 : decode cX13_shoot 47 = .ok (.ldc 143, 2) := by decide +kernel
theorem dX13_shoot_49 : decode cX13_shoot 49 = .ok (.ireturn, 1) := by decide +kernel
theorem dX13_shoot_50 : decode cX13_shoot 50 = .ok (.aload_n 0, 1) := by decide +kernel
theorem dX13_shoot_51 : decode cX13_shoot 51 = .ok (.iload_n 1, 1) := by decide +kernel
theorem dX13_shoot_52 : decode cX13_shoot 52 = .ok (.iload_n 2, 1) := by decide +kernel
theorem dX13_shoot_53 : decode cX13_shoot 53 = .ok (.invokevirtual 189, 3) := by decide +kernel
theorem dX13_shoot_56 : decode cX13_shoot 56 = .ok (.aload_n 0, 1) := by decide +kernel
theorem dX13_shoot_57 : decode cX13_shoot 57 = .ok (.getfield 26, 3) := by decide +kernel
theorem dX13_shoot_60 : decode cX13_shoot 60 = .ok (.iconst 2, 1) := by decide +kernel
theorem dX13_shoot_61 : decode cX13_shoot 61 = .ok (.iload_n 3, 1) := by decide +kernel
theorem dX13_shoot_62 : decode cX13_shoot 62 = .ok (.imul, 1) := by decide +kernel
theorem dX13_shoot_63 : decode cX13_shoot 63 = .ok (.iconst 1, 1) := by decide +kernel
theorem dX13_shoot_64 : decode cX13_shoot 64 = .ok (.iadd, 1) := by decide +kernel
theorem dX13_shoot_65 : decode cX13_shoot 65 = .ok (.iaload, 1) := by decide +kernel
theorem dX13_shoot_66 : decode cX13_shoot 66 = .ok (.istore 4, 2) := by decide +kernel
theorem dX13_shoot_68 : decode cX13_shoot 68 = .ok (.aload_n 0, 1) := by decide +kernel
theorem dX13_shoot_69 : decode cX13_shoot 69 = .ok (.getfield 13, 3) := by decide +kernel
theorem dX13_shoot_72 : decode cX13_shoot 72 = .ok (.bipush 84, 2) := by decide +kernel
theorem dX13_shoot_74 : decode cX13_shoot 74 = .ok (.aload_n 0, 1) := by decide +kernel
theorem dX13_shoot_75 : decode cX13_shoot 75 = .ok (.getfield 13, 3) := by decide +kernel
theorem dX13_shoot_78 : decode cX13_shoot 78 = .ok (.bipush 84, 2) := by decide +kernel
theorem dX13_shoot_80 : decode cX13_shoot 80 = .ok (.iaload, 1) := by decide +kernel
theorem dX13_shoot_81 : decode cX13_shoot 81 = .ok (.ldc 205, 2) := by decide +kernel
theorem dX13_shoot_83 : decode cX13_shoot 83 = .ok (.imul, 1) := by decide +kernel
theorem dX13_shoot_84 : decode cX13_shoot 84 = .ok (.sipush 12345, 3) := by decide +kernel
theorem dX13_shoot_87 : decode cX13_shoot 87 = .ok (.iadd, 1) := by decide +kernel
theorem dX13_shoot_88 : decode cX13_shoot 88 = .ok (.iastore, 1) := by decide +kernel
theorem dX13_shoot_89 : decode cX13_shoot 89 = .ok (.aload_n 0, 1) := by decide +kernel
theorem dX13_shoot_90 : decode cX13_shoot 90 = .ok (.getfield 13, 3) := by decide +kernel
theorem dX13_shoot_93 : decode cX13_shoot 93 = .ok (.bipush 84, 2) := by decide +kernel
theorem dX13_shoot_95 : decode cX13_shoot 95 = .ok (.iaload, 1) := by decide +kernel
theorem dX13_shoot_96 : decode cX13_shoot 96 = .ok (.bipush 16, 2) := by decide +kernel
theorem dX13_shoot_98 : decode cX13_shoot 98 = .ok (.ishr, 1) := by decide +kernel
theorem dX13_shoot_99 : decode cX13_shoot 99 = .ok (.ldc 206, 2) := by decide +kernel
theorem dX13_shoot_101 : decode cX13_shoot 101 = .ok (.iand, 1) := by decide +kernel
theorem dX13_shoot_102 : decode cX13_shoot 102 = .ok (.iconst 2, 1) := by decide +kernel
theorem dX13_shoot_103 : decode cX13_shoot 103 = .ok (.iload 4, 2) := by decide +kernel
theorem dX13_shoot_105 : decode cX13_shoot 105 = .ok (.imul, 1) := by decide +kernel
theorem dX13_shoot_106 : decode cX13_shoot 106 = .ok (.iconst 1, 1) := by decide +kernel
theorem dX13_shoot_107 : decode cX13_shoot 107 = .ok (.iadd, 1) := by decide +kernel
theorem dX13_shoot_108 : decode cX13_shoot 108 = .ok (.irem, 1) := by decide +kernel
theorem dX13_shoot_109 : decode cX13_shoot 109 = .ok (.istore 5, 2) := by decide +kernel
theorem dX13_shoot_111 : decode cX13_shoot 111 = .ok (.bipush 86, 2) := by decide +kernel
theorem dX13_shoot_113 : decode cX13_shoot 113 = .ok (.iconst 5, 1) := by decide +kernel
theorem dX13_shoot_114 : decode cX13_shoot 114 = .ok (.aload_n 0, 1) := by decide +kernel
theorem dX13_shoot_115 : decode cX13_shoot 115 = .ok (.getfield 13, 3) := by decide +kernel
theorem dX13_shoot_118 : decode cX13_shoot 118 = .ok (.bipush 85, 2) := by decide +kernel
theorem dX13_shoot_120 : decode cX13_shoot 120 = .ok (.iaload, 1) := by decide +kernel
theorem dX13_shoot_121 : decode cX13_shoot 121 = .ok (.imul, 1) := by decide +kernel
theorem dX13_shoot_122 : decode cX13_shoot 122 = .ok (.iadd, 1) := by decide +kernel
theorem dX13_shoot_123 : decode cX13_shoot 123 = .ok (.istore 6, 2) := by decide +kernel
theorem dX13_shoot_125 : decode cX13_shoot 125 = .ok (.aload_n 0, 1) := by decide +kernel
theorem dX13_shoot_126 : decode cX13_shoot 126 = .ok (.getfield 13, 3) := by decide +kernel
theorem dX13_shoot_129 : decode cX13_shoot 129 = .ok (.iload 6, 2) := by decide +kernel
theorem dX13_shoot_131 : decode cX13_shoot 131 = .ok (.iload_n 1, 1) := by decide +kernel
theorem dX13_shoot_132 : decode cX13_shoot 132 = .ok (.iastore, 1) := by decide +kernel
theorem dX13_shoot_133 : decode cX13_shoot 133 = .ok (.aload_n 0, 1) := by decide +kernel
theorem dX13_shoot_134 : decode cX13_shoot 134 = .ok (.getfield 13, 3) := by decide +kernel
theorem dX13_shoot_137 : decode cX13_shoot 137 = .ok (.iload 6, 2) := by decide +kernel
theorem dX13_shoot_139 : decode cX13_shoot 139 = .ok (.iconst 1, 1) := by decide +kernel
theorem dX13_shoot_140 : decode cX13_shoot 140 = .ok (.iadd, 1) := by decide +kernel
theorem dX13_shoot_141 : decode cX13_shoot 141 = .ok (.iload_n 2, 1) := by decide +kernel
theorem dX13_shoot_142 : decode cX13_shoot 142 = .ok (.iastore, 1) := by decide +kernel
theorem dX13_shoot_143 : decode cX13_shoot 143 = .ok (.aload_n 0, 1) := by decide +kernel
theorem dX13_shoot_144 : decode cX13_shoot 144 = .ok (.getfield 13, 3) := by decide +kernel
theorem dX13_shoot_147 : decode cX13_shoot 147 = .ok (.iload 6, 2) := by decide +kernel
theorem dX13_shoot_149 : decode cX13_shoot 149 = .ok (.iconst 2, 1) := by decide +kernel
theorem dX13_shoot_150 : decode cX13_shoot 150 = .ok (.iadd, 1) := by decide +kernel
theorem dX13_shoot_151 : decode cX13_shoot 151 = .ok (.iload_n 3, 1) := by decide +kernel
theorem dX13_shoot_152 : decode cX13_shoot 152 = .ok (.iastore, 1) := by decide +kernel
theorem dX13_shoot_153 : decode cX13_shoot 153 = .ok (.aload_n 0, 1) := by decide +kernel
theorem dX13_shoot_154 : decode cX13_shoot 154 = .ok (.getfield 13, 3) := by decide +kernel
theorem dX13_shoot_157 : decode cX13_shoot 157 = .ok (.iload 6, 2) := by decide +kernel
theorem dX13_shoot_159 : decode cX13_shoot 159 = .ok (.iconst 3, 1) := by decide +kernel
theorem dX13_shoot_160 : decode cX13_shoot 160 = .ok (.iadd, 1) := by decide +kernel
theorem dX13_shoot_161 : decode cX13_shoot 161 = .ok (.aload_n 0, 1) := by decide +kernel
theorem dX13_shoot_162 : decode cX13_shoot 162 = .ok (.getfield 183, 3) := by decide +kernel
theorem dX13_shoot_165 : decode cX13_shoot 165 = .ok (.aload_n 0, 1) := by decide +kernel
theorem dX13_shoot_166 : decode cX13_shoot 166 = .ok (.getfield 26, 3) := by decide +kernel
theorem dX13_shoot_169 : decode cX13_shoot 169 = .ok (.iconst 2, 1) := by decide +kernel
theorem dX13_shoot_170 : decode cX13_shoot 170 = .ok (.iload_n 3, 1) := by decide +kernel
theorem dX13_shoot_171 : decode cX13_shoot 171 = .ok (.imul, 1) := by decide +kernel
theorem dX13_shoot_172 : decode cX13_shoot 172 = .ok (.iaload, 1) := by decide +kernel
theorem dX13_shoot_173 : decode cX13_shoot 173 = .ok (.iadd, 1) := by decide +kernel
theorem dX13_shoot_174 : decode cX13_shoot 174 = .ok (.iload 5, 2) := by decide +kernel
theorem dX13_shoot_176 : decode cX13_shoot 176 = .ok (.iadd, 1) := by decide +kernel
theorem dX13_shoot_177 : decode cX13_shoot 177 = .ok (.iload 4, 2) := by decide +kernel
theorem dX13_shoot_179 : decode cX13_shoot 179 = .ok (.isub, 1) := by decide +kernel
theorem dX13_shoot_180 : decode cX13_shoot 180 = .ok (.iastore, 1) := by decide +kernel
theorem dX13_shoot_181 : decode cX13_shoot 181 = .ok (.aload_n 0, 1) := by decide +kernel
theorem dX13_shoot_182 : decode cX13_shoot 182 = .ok (.getfield 13, 3) := by decide +kernel
theorem dX13_shoot_185 : decode cX13_shoot 185 = .ok (.iload 6, 2) := by decide +kernel
theorem dX13_shoot_187 : decode cX13_shoot 187 = .ok (.iconst 4, 1) := by decide +kernel
theorem dX13_shoot_188 : decode cX13_shoot 188 = .ok (.iadd, 1) := by decide +kernel
theorem dX13_shoot_189 : decode cX13_shoot 189 = .ok (.aload_n 0, 1) := by decide +kernel
theorem dX13_shoot_190 : decode cX13_shoot 190 = .ok (.getfield 186, 3) := by decide +kernel
theorem dX13_shoot_193 : decode cX13_shoot 193 = .ok (.iastore, 1) := by decide +kernel
theorem dX13_shoot_194 : decode cX13_shoot 194 = .ok (.aload_n 0, 1) := by decide +kernel
theorem dX13_shoot_195 : decode cX13_shoot 195 = .ok (.getfield 13, 3) := by decide +kernel
theorem dX13_shoot_198 : decode cX13_shoot 198 = .ok (.bipush 85, 2) := by decide +kernel
theorem dX13_shoot_200 : decode cX13_shoot 200 = .ok (.dup2, 1) := by decide +kernel
theorem dX13_shoot_201 : decode cX13_shoot 201 = .ok (.iaload, 1) := by decide +kernel
theorem dX13_shoot_202 : decode cX13_shoot 202 = .ok (.iconst 1, 1) := by decide +kernel
theorem dX13_shoot_203 : decode cX13_shoot 203 = .ok (.iadd, 1) := by decide +kernel
theorem dX13_shoot_204 : decode cX13_shoot 204 = .ok (.iastore, 1) := by decide +kernel
theorem dX13_shoot_205 : decode cX13_shoot 205 = .ok (.aload_n 0, 1) := by decide +kernel
theorem dX13_shoot_206 : decode cX13_shoot 206 = .ok (.getfield 13, 3) := by decide +kernel
theorem dX13_shoot_209 : decode cX13_shoot 209 = .ok (.iload 6, 2) := by decide +kernel
theorem dX13_shoot_211 : decode cX13_shoot 211 = .ok (.iconst 3, 1) := by decide +kernel
theorem dX13_shoot_212 : decode cX13_shoot 212 = .ok (.iadd, 1) := by decide +kernel
theorem dX13_shoot_213 : decode cX13_shoot 213 = .ok (.iaload, 1) := by decide +kernel
theorem dX13_shoot_214 : decode cX13_shoot 214 = .ok (.ireturn, 1) := by decide +kernel
theorem dX13_shot_0 : decode cX13_shot 0 = .ok (.aload_n 0, 1) := by decide +kernel
theorem dX13_shot_1 : decode cX13_shot 1 = .ok (.iconst 0, 1) := by decide +kernel
theorem dX13_shot_2 : decode cX13_shot 2 = .ok (.putfield 53, 3) := by decide +kernel
theorem dX13_shot_5 : decode cX13_shot 5 = .ok (.iload_n 1, 1) := by decide +kernel
theorem dX13_shot_6 : decode cX13_shot 6 = .ok (.iconst 0, 1) := by decide +kernel
theorem dX13_shot_7 : decode cX13_shot 7 = .ok (.aload_n 0, 1) := by decide +kernel
theorem dX13_shot_8 : decode cX13_shot 8 = .ok (.getfield 13, 3) := by decide +kernel
theorem dX13_shot_11 : decode cX13_shot 11 = .ok (.bipush 85, 2) := by decide +kernel
theorem dX13_shot_13 : decode cX13_shot 13 = .ok (.iaload, 1) := by decide +kernel
theorem dX13_shot_14 : decode cX13_shot 14 = .ok (.iconst 1, 1) := by decide +kernel
theorem dX13_shot_15 : decode cX13_shot 15 = .ok (.isub, 1) := by decide +kernel
theorem dX13_shot_16 : decode cX13_shot 16 = .ok (.invokestatic 57, 3) := by decide +kernel
theorem dX13_shot_19 : decode cX13_shot 19 = .ok (.ifCond .eq 28, 3) := by decide +kernel
theorem dX13_shot_22 : decode cX13_shot 22 = .ok (.iload_n 2, 1) := by decide +kernel
theorem dX13_shot_23 : decode cX13_shot 23 = .ok (.iconst 0, 1) := by decide +kernel
theorem dX13_shot_24 : decode cX13_shot 24 = .ok (.iconst 4, 1) := by decide +kernel
theorem dX13_shot_25 : decode cX13_shot 25 = .ok (.invokestatic 57, 3) := by decide +kernel
theorem dX13_shot_28 : decode cX13_shot 28 = .ok (.ifCond .eq 19, 3) := by decide +kernel
theorem dX13_shot_31 : decode cX13_shot 31 = .ok (.aload_n 0, 1) := by decide +kernel
theorem dX13_shot_32 : decode cX13_shot 32 = .ok (.getfield 13, 3) := by decide +kernel
theorem dX13_shot_35 : decode cX13_shot 35 = .ok (.bipush 86, 2) := by decide +kernel
theorem dX13_shot_37 : decode cX13_shot 37 = .ok (.iconst 5, 1) := by decide +kernel
theorem dX13_shot_38 : decode cX13_shot 38 = .ok (.iload_n 1, 1) := by decide +kernel
theorem dX13_shot_39 : decode cX13_shot 39 = .ok (.imul, 1) := by decide +kernel
theorem dX13_shot_40 : decode cX13_shot 40 = .ok (.iadd, 1) := by decide +kernel
theorem dX13_shot_41 : decode cX13_shot 41 = .ok (.iload_n 2, 1) := by decide +kernel
theorem dX13_shot_42 : decode cX13_shot 42 = .ok (.iadd, 1) := by decide +kernel
theorem dX13_shot_43 : decode cX13_shot 43 = .ok (.iaload, 1) := by decide +kernel
theorem dX13_shot_44 : decode cX13_shot 44 = .ok (.goto 5, 3) := by decide +kernel
theorem dX13_shot_47 : decode cX13_shot 47 = .ok (.ldc 143, 2) := by decide +kernel
theorem dX13_shot_49 : decode cX13_shot 49 = .ok (.ireturn, 1) := by decide +kernel
theorem dX13_wipe_0 : decode cX13_wipe 0 = .ok (.aload_n 0, 1) := by decide +kernel
theorem dX13_wipe_1 : decode cX13_wipe 1 = .ok (.iconst 0, 1) := by decide +kernel
theorem dX13_wipe_2 : decode cX13_wipe 2 = .ok (.putfield 53, 3) := by decide +kernel
theorem dX13_wipe_5 : decode cX13_wipe 5 = .ok (.aload_n 0, 1) := by decide +kernel
theorem dX13_wipe_6 : decode cX13_wipe 6 = .ok (.getfield 13, 3) := by decide +kernel
theorem dX13_wipe_9 : decode cX13_wipe 9 = .ok (.bipush 85, 2) := by decide +kernel
theorem dX13_wipe_11 : decode cX13_wipe 11 = .ok (.iaload, 1) := by decide +kernel
theorem dX13_wipe_12 : decode cX13_wipe 12 = .ok (.istore_n 1, 1) := by decide +kernel
theorem dX13_wipe_13 : decode cX13_wipe 13 = .ok (.aload_n 0, 1) := by decide +kernel
theorem dX13_wipe_14 : decode cX13_wipe 14 = .ok (.getfield 13, 3) := by decide +kernel
theorem dX13_wipe_17 : decode cX13_wipe 17 = .ok (.bipush 85, 2) := by decide +kernel
theorem dX13_wipe_19 : decode cX13_wipe 19 = .ok (.iconst 0, 1) := by decide +kernel
theorem dX13_wipe_20 : decode cX13_wipe 20 = .ok (.iastore, 1) := by decide +kernel
theorem dX13_wipe_21 : decode cX13_wipe 21 = .ok (.iload_n 1, 1) := by decide +kernel
theorem dX13_wipe_22 : decode cX13_wipe 22 = .ok (.ireturn, 1) := by decide +kernel
theorem dX13_gcd_0 : decode cX13_gcd 0 = .ok (.lload_n 0, 1) := by decide +kernel
theorem dX13_gcd_1 : decode cX13_gcd 1 = .ok (.lconst 0, 1) := by decide +kernel
theorem dX13_gcd_2 : decode cX13_gcd 2 = .ok (.lcmp, 1) := by decide +kernel
theorem dX13_gcd_3 : decode cX13_gcd 3 = .ok (.ifCond .ge 8, 3) := by decide +kernel
theorem dX13_gcd_6 : decode cX13_gcd 6 = .ok (.lload_n 0, 1) := by decide +kernel
theorem dX13_gcd_7 : decode cX13_gcd 7 = .ok (.lneg, 1) := by decide +kernel
theorem dX13_gcd_8 : decode cX13_gcd 8 = .ok (.goto 4, 3) := by decide +kernel
theorem dX13_gcd_11 : decode cX13_gcd 11 = .ok (.lload_n 0, 1) := by decide +kernel
theorem dX13_gcd_12 : decode cX13_gcd 12 = .ok (.lstore 4, 2) := by decide +kernel
theorem dX13_gcd_14 : decode cX13_gcd 14 = .ok (.lload_n 2, 1) := by decide +kernel
theorem dX13_gcd_15 : decode cX13_gcd 15 = .ok (.lstore 6, 2) := by decide +kernel
theorem dX13_gcd_17 : decode cX13_gcd 17 = .ok (.lload 6, 2) := by decide +kernel
theorem dX13_gcd_19 : decode cX13_gcd 19 = .ok (.lconst 0, 1) := by decide +kernel
theorem dX13_gcd_20 : decode cX13_gcd 20 = .ok (.lcmp, 1) := by decide +kernel
theorem dX13_gcd_21 : decode cX13_gcd 21 = .ok (.ifCond .eq 21, 3) := by decide +kernel
theorem dX13_gcd_24 : decode cX13_gcd 24 = .ok (.lload 4, 2) := by decide +kernel
theorem dX13_gcd_26 : decode cX13_gcd 26 = .ok (.lload 6, 2) := by decide +kernel
theorem dX13_gcd_28 : decode cX13_gcd 28 = .ok (.lrem, 1) := by decide +kernel
theorem dX13_gcd_29 : decode cX13_gcd 29 = .ok (.lstore 8, 2) := by decide +kernel
theorem dX13_gcd_31 : decode cX13_gcd 31 = .ok (.lload 6, 2) := by decide +kernel
theorem dX13_gcd_33 : decode cX13_gcd 33 = .ok (.lstore 4, 2) := by decide +kernel
theorem dX13_gcd_35 : decode cX13_gcd 35 = .ok (.lload 8, 2) := by decide +kernel
theorem dX13_gcd_37 : decode cX13_gcd 37 = .ok (.lstore 6, 2) := by decide +kernel
theorem dX13_gcd_39 : decode cX13_gcd 39 = .ok (.goto (-22), 3) := by decide +kernel
theorem dX13_gcd_42 : decode cX13_gcd 42 = .ok (.lload 4, 2) := by decide +kernel
theorem dX13_gcd_44 : decode cX13_gcd 44 = .ok (.lreturn, 1) := by decide +kernel
theorem dX13_adds_0 : decode cX13_adds 0 = .ok (.aload_n 0, 1) := by decide +kernel
theorem dX13_adds_1 : decode cX13_adds 1 = .ok (.getfield 207, 3) := by decide +kernel
theorem dX13_adds_4 : decode cX13_adds 4 = .ok (.lload_n 3, 1) := by decide +kernel
theorem dX13_adds_5 : decode cX13_adds 5 = .ok (.invokestatic 211, 3) := by decide +kernel
theorem dX13_adds_8 : decode cX13_adds 8 = .ok (.lstore 5, 2) := by decide +kernel
theorem dX13_adds_10 : decode cX13_adds 10 = .ok (.aload_n 0, 1) := by decide +kernel
theorem dX13_adds_11 : decode cX13_adds 11 = .ok (.aload_n 0, 1) := by decide +kernel
theorem dX13_adds_12 : decode cX13_adds 12 = .ok (.getfield 215, 3) := by decide +kernel
theorem dX13_adds_15 : decode cX13_adds 15 = .ok (.lload_n 3, 1) := by decide +kernel
theorem dX13_adds_16 : decode cX13_adds 16 = .ok (.lload 5, 2) := by decide +kernel
theorem dX13_adds_18 : decode cX13_adds 18 = .ok (.ldiv, 1) := by decide +kernel
theorem dX13_adds_19 : decode cX13_adds 19 = .ok (.lmul, 1) := by decide +kernel
theorem dX13_adds_20 : decode cX13_adds 20 = .ok (.lload_n 1, 1) := by decide +kernel
theorem dX13_adds_21 : decode cX13_adds 21 = .ok (.aload_n 0, 1) := by decide +kernel
theorem dX13_adds_22 : decode cX13_adds 22 = .ok (.getfield 207, 3) := by decide +kernel
theorem dX13_adds_25 : decode cX13_adds 25 = .ok (.lload 5, 2) := by decide +kernel
theorem dX13_adds_27 : decode cX13_adds 27 = .ok (.ldiv, 1) := by decide +kernel
theorem dX13_adds_28 : decode cX13_adds 28 = .ok (.lmul, 1) := by decide +kernel
theorem dX13_adds_29 : decode cX13_adds 29 = .ok (.ladd, 1) := by decide +kernel
theorem dX13_adds_30 : decode cX13_adds 30 = .ok (.putfield 215, 3) := by decide +kernel
theorem dX13_adds_33 : decode cX13_adds 33 = .ok (.aload_n 0, 1) := by decide +kernel
theorem dX13_adds_34 : decode cX13_adds 34 = .ok (.aload_n 0, 1) := by decide +kernel
theorem dX13_adds_35 : decode cX13_adds 35 = .ok (.getfield 207, 3) := by decide +kernel
theorem dX13_adds_38 : decode cX13_adds 38 = .ok (.lload 5, 2) := by decide +kernel
theorem dX13_adds_40 : decode cX13_adds 40 = .ok (.ldiv, 1) := by decide +kernel
theorem dX13_adds_41 : decode cX13_adds 41 = .ok (.lload_n 3, 1) := by decide +kernel
theorem dX13_adds_42 : decode cX13_adds 42 = .ok (.lmul, 1) := by decide +kernel
theorem dX13_adds_43 : decode cX13_adds 43 = .ok (.putfield 207, 3) := by decide +kernel
theorem dX13_adds_46 : decode cX13_adds 46 = .ok (.aload_n 0, 1) := by decide +kernel
theorem dX13_adds_47 : decode cX13_adds 47 = .ok (.getfield 215, 3) := by decide +kernel
theorem dX13_adds_50 : decode cX13_adds 50 = .ok (.aload_n 0, 1) := by decide +kernel
theorem dX13_adds_51 : decode cX13_adds 51 = .ok (.getfield 207, 3) := by decide +kernel
theorem dX13_adds_54 : decode cX13_adds 54 = .ok (.invokestatic 211, 3) := by decide +kernel
theorem dX13_adds_57 : decode cX13_adds 57 = .ok (.lstore 5, 2) := by decide +kernel
theorem dX13_adds_59 : decode cX13_adds 59 = .ok (.aload_n 0, 1) := by decide +kernel
theorem dX13_adds_60 : decode cX13_adds 60 = .ok (.dup, 1) := by decide +kernel
theorem dX13_adds_61 : decode cX13_adds 61 = .ok (.getfield 215, 3) := by decide +kernel
theorem dX13_adds_64 : decode cX13_adds 64 = .ok (.lload 5, 2) := by decide +kernel
theorem dX13_adds_66 : decode cX13_adds 66 = .ok (.ldiv, 1) := by decide +kernel
theorem dX13_adds_67 : decode cX13_adds 67 = .ok (.putfield 215, 3) := by decide +kernel
theorem dX13_adds_70 : decode cX13_adds 70 = .ok (.aload_n 0, 1) := by decide +kernel
theorem dX13_adds_71 : decode cX13_adds 71 = .ok (.dup, 1) := by decide +kernel
theorem dX13_adds_72 : decode cX13_adds 72 = .ok (.getfield 207, 3) := by decide +kernel
theorem dX13_adds_75 : decode cX13_adds 75 = .ok (.lload 5, 2) := by decide +kernel
theorem dX13_adds_77 : decode cX13_adds 77 = .ok (.ldiv, 1) := by decide +kernel
theorem dX13_adds_78 : decode cX13_adds 78 = .ok (.putfield 207, 3) := by decide +kernel
theorem dX13_adds_81 : decode cX13_adds 81 = .ok (.return_, 1) := by decide +kernel
theorem dX13_parts_0 : decode cX13_parts 0 = .ok (.aload_n 0, 1) := by decide +kernel
theorem dX13_parts_1 : decode cX13_parts 1 = .ok (.lconst 0, 1) := by decide +kernel
theorem dX13_parts_2 : decode cX13_parts 2 = .ok (.putfield 215, 3) := by decide +kernel
theorem dX13_parts_5 : decode cX13_parts 5 = .ok (.aload_n 0, 1) := by decide +kernel
theorem dX13_parts_6 : decode cX13_parts 6 = .ok (.lconst 1, 1) := by decide +kernel
theorem dX13_parts_7 : decode cX13_parts 7 = .ok (.putfield 207, 3) := by decide +kernel
theorem dX13_parts_10 : decode cX13_parts 10 = .ok (.iload_n 1, 1) := by decide +kernel
theorem dX13_parts_11 : decode cX13_parts 11 = .ok (.ifCond .ne 7, 3) := by decide +kernel
theorem dX13_parts_14 : decode cX13_parts 14 = .ok (.iconst 0, 1) := by decide +kernel
theorem dX13_parts_15 : decode cX13_parts 15 = .ok (.goto 13, 3) := by decide +kernel
theorem dX13_parts_18 : decode cX13_parts 18 = .ok (.iload_n 1, 1) := by decide +kernel
theorem dX13_parts_19 : decode cX13_parts 19 = .ok (.iconst 1, 1) := by decide +kernel
theorem dX13_parts_20 : decode cX13_parts 20 = .ok (.if_icmp .ne 7, 3) := by decide +kernel
theorem dX13_parts_23 : decode cX13_parts 23 = .ok (.iconst 2, 1) := by decide +kernel
theorem dX13_parts_24 : decode cX13_parts 24 = .ok (.goto 4, 3) := by decide +kernel
theorem dX13_parts_27 : decode cX13_parts 27 = .ok (.iconst 1, 1) := by decide +kernel
theorem dX13_parts_28 : decode cX13_parts 28 = .ok (.istore_n 2, 1) := by decide +kernel
theorem dX13_parts_29 : decode cX13_parts 29 = .ok (.iconst 0, 1) := by decide +kernel
theorem dX13_parts_30 : decode cX13_parts 30 = .ok (.istore_n 3, 1) := by decide +kernel
theorem dX13_parts_31 : decode cX13_parts 31 = .ok (.iload_n 3, 1) := by decide +kernel
theorem dX13_parts_32 : decode cX13_parts 32 = .ok (.bipush 12, 2) := by decide +kernel
theorem dX13_parts_34 : decode cX13_parts 34 = .ok (.if_icmp .ge 98, 3) := by decide +kernel
theorem dX13_parts_37 : decode cX13_parts 37 = .ok (.lconst 0, 1) := by decide +kernel
theorem dX13_parts_38 : decode cX13_parts 38 = .ok (.lstore 4, 2) := by decide +kernel
theorem dX13_parts_40 : decode cX13_parts 40 = .ok (.lconst 0, 1) := by decide +kernel
theorem dX13_parts_41 : decode cX13_parts 41 = .ok (.lstore 6, 2) := by decide +kernel
theorem dX13_parts_43 : decode cX13_parts 43 = .ok (.iconst 0, 1) := by decide +kernel
theorem dX13_parts_44 : decode cX13_parts 44 = .ok (.istore 8, 2) := by decide +kernel
theorem dX13_parts_46 : decode cX13_parts 46 = .ok (.iload 8, 2) := by decide +kernel
theorem dX13_parts_48 : decode cX13_parts 48 = .ok (.aload_n 0, 1) := by decide +kernel
theorem dX13_parts_49 : decode cX13_parts 49 = .ok (.getfield 13, 3) := by decide +kernel
theorem dX13_parts_52 : decode cX13_parts 52 = .ok (.bipush 85, 2) := by decide +kernel
theorem dX13_parts_54 : decode cX13_parts 54 = .ok (.iaload, 1) := by decide +kernel
theorem dX13_parts_55 : decode cX13_parts 55 = .ok (.if_icmp .ge 53, 3) := by decide +kernel
theorem dX13_parts_58 : decode cX13_parts 58 = .ok (.aload_n 0, 1) := by decide +kernel
theorem dX13_parts_59 : decode cX13_parts 59 = .ok (.getfield 13, 3) := by decide +kernel
theorem dX13_parts_62 : decode cX13_parts 62 = .ok (.bipush 86, 2) := by decide +kernel
theorem dX13_parts_64 : decode cX13_parts 64 = .ok (.iconst 5, 1) := by decide +kernel
theorem dX13_parts_65 : decode cX13_parts 65 = .ok (.iload 8, 2) := by decide +kernel
theorem dX13_parts_67 : decode cX13_parts 67 = .ok (.imul, 1) := by decide +kernel
theorem dX13_parts_68 : decode cX13_parts 68 = .ok (.iadd, 1) := by decide +kernel
theorem dX13_parts_69 : decode cX13_parts 69 = .ok (.iload_n 2, 1) := by decide +kernel
theorem dX13_parts_70 : decode cX13_parts 70 = .ok (.iadd, 1) := by decide +kernel
theorem dX13_parts_71 : decode cX13_parts 71 = .ok (.iaload, 1) := by decide +kernel
theorem dX13_parts_72 : decode cX13_parts 72 = .ok (.iload_n 3, 1) := by decide +kernel
theorem dX13_parts_73 : decode cX13_parts 73 = .ok (.if_icmp .ne 29, 3) := by decide +kernel
theorem dX13_parts_76 : decode cX13_parts 76 = .ok (.lload 4, 2) := by decide +kernel
theorem dX13_parts_78 : decode cX13_parts 78 = .ok (.aload_n 0, 1) := by decide +kernel
theorem dX13_parts_79 : decode cX13_parts 79 = .ok (.getfield 13, 3) := by decide +kernel
theorem dX13_parts_82 : decode cX13_parts 82 = .ok (.bipush 86, 2) := by decide +kernel
theorem dX13_parts_84 : decode cX13_parts 84 = .ok (.iconst 5, 1) := by decide +kernel
theorem dX13_parts_85 : decode cX13_parts 85 = .ok (.iload 8, 2) := by decide +kernel
theorem dX13_parts_87 : decode cX13_parts 87 = .ok (.imul, 1) := by decide +kernel
theorem dX13_parts_88 : decode cX13_parts 88 = .ok (.iadd, 1) := by decide +kernel
theorem dX13_parts_89 : decode cX13_parts 89 = .ok (.iconst 3, 1) := by decide +kernel
theorem dX13_parts_90 : decode cX13_parts 90 = .ok (.iadd, 1) := by decide +kernel
theorem dX13_parts_91 : decode cX13_parts 91 = .ok (.iaload, 1) := by decide +kernel
theorem dX13_parts_92 : decode cX13_parts 92 = .ok (.i2l, 1) := by decide +kernel
theorem dX13_parts_93 : decode cX13_parts 93 = .ok (.ladd, 1) := by decide +kernel
theorem dX13_parts_94 : decode cX13_parts 94 = .ok (.lstore 4, 2) := by decide +kernel
theorem dX13_parts_96 : decode cX13_parts 96 = .ok (.lload 6, 2) := by decide +kernel
theorem dX13_parts_98 : decode cX13_parts 98 = .ok (.lconst 1, 1) := by decide +kernel
theorem dX13_parts_99 : decode cX13_parts 99 = .ok (.ladd, 1) := by decide +kernel
theorem dX13_parts_100 : decode cX13_parts 100 = .ok (.lstore 6, 2) := by decide +kernel
theorem dX13_parts_102 : decode cX13_parts 102 = .ok (.iinc 8 1, 3) := by decide +kernel
theorem dX13_parts_105 : decode cX13_parts 105 = .ok (.goto (-59), 3) := by decide +kernel
theorem dX13_parts_108 : decode cX13_parts 108 = .ok (.lload 6, 2) := by decide +kernel
theorem dX13_parts_110 : decode cX13_parts 110 = .ok (.lconst 0, 1) := by decide +kernel
theorem dX13_parts_111 : decode cX13_parts 111 = .ok (.lcmp, 1) := by decide +kernel
theorem dX13_parts_112 : decode cX13_parts 112 = .ok (.ifCond .le 14, 3) := by decide +kernel
theorem dX13_parts_115 : decode cX13_parts 115 = .ok (.aload_n 0, 1) := by decide +kernel
theorem dX13_parts_116 : decode cX13_parts 116 = .ok (.lload 4, 2) := by decide +kernel
theorem dX13_parts_118 : decode cX13_parts 118 = .ok (.lload 4, 2) := by decide +kernel
theorem dX13_parts_120 : decode cX13_parts 120 = .ok (.lmul, 1) := by decide +kernel
theorem dX13_parts_121 : decode cX13_parts 121 = .ok (.lload 6, 2) := by decide +kernel
theorem dX13_parts_123 : decode cX13_parts 123 = .ok (.invokevirtual 218, 3) := by decide +kernel
theorem dX13_parts_126 : decode cX13_parts 126 = .ok (.iinc 3 1, 3) := by decide +kernel
theorem dX13_parts_129 : decode cX13_parts 129 = .ok (.goto (-98), 3) := by decide +kernel
theorem dX13_parts_132 : decode cX13_parts 132 = .ok (.return_, 1) := by decide +kernel
theorem dX13_parted_0 : decode cX13_parted 0 = .ok (.aload_n 0, 1) := by decide +kernel
theorem dX13_parted_1 : decode cX13_parted 1 = .ok (.iconst 0, 1) := by decide +kernel
theorem dX13_parted_2 : decode cX13_parted 2 = .ok (.putfield 53, 3) := by decide +kernel
theorem dX13_parted_5 : decode cX13_parted 5 = .ok (.aload_n 0, 1) := by decide +kernel
theorem dX13_parted_6 : decode cX13_parted 6 = .ok (.getfield 13, 3) := by decide +kernel
theorem dX13_parted_9 : decode cX13_parted 9 = .ok (.bipush 85, 2) := by decide +kernel
theorem dX13_parted_11 : decode cX13_parted 11 = .ok (.iaload, 1) := by decide +kernel
theorem dX13_parted_12 : decode cX13_parted 12 = .ok (.ifCond .ne 6, 3) := by decide +kernel
theorem dX13_parted_15 : decode cX13_parted 15 = .ok (.bipush (-9), 2) := by decide +kernel
theorem dX13_parted_17 : decode cX13_parted 17 = .ok (.ireturn, 1) := by decide +kernel
theorem dX13_parted_18 : decode cX13_parted 18 = .ok (.iconst 0, 1) := by decide +kernel
theorem dX13_parted_19 : decode cX13_parted 19 = .ok (.istore_n 1, 1) := by decide +kernel
theorem dX13_parted_20 : decode cX13_parted 20 = .ok (.aload_n 0, 1) := by decide +kernel
theorem dX13_parted_21 : decode cX13_parted 21 = .ok (.iconst 0, 1) := by decide +kernel
theorem dX13_parted_22 : decode cX13_parted 22 = .ok (.invokevirtual 222, 3) := by decide +kernel
theorem dX13_parted_25 : decode cX13_parted 25 = .ok (.aload_n 0, 1) := by decide +kernel
theorem dX13_parted_26 : decode cX13_parted 26 = .ok (.getfield 215, 3) := by decide +kernel
theorem dX13_parted_29 : decode cX13_parted 29 = .ok (.lstore_n 2, 1) := by decide +kernel
theorem dX13_parted_30 : decode cX13_parted 30 = .ok (.aload_n 0, 1) := by decide +kernel
theorem dX13_parted_31 : decode cX13_parted 31 = .ok (.getfield 207, 3) := by decide +kernel
theorem dX13_parted_34 : decode cX13_parted 34 = .ok (.lstore 4, 2) := by decide +kernel
theorem dX13_parted_36 : decode cX13_parted 36 = .ok (.iconst 1, 1) := by decide +kernel
theorem dX13_parted_37 : decode cX13_parted 37 = .ok (.istore 6, 2) := by decide +kernel
theorem dX13_parted_39 : decode cX13_parted 39 = .ok (.iload 6, 2) := by decide +kernel
theorem dX13_parted_41 : decode cX13_parted 41 = .ok (.iconst 3, 1) := by decide +kernel
theorem dX13_parted_42 : decode cX13_parted 42 = .ok (.if_icmp .ge 54, 3) := by decide +kernel
theorem dX13_parted_45 : decode cX13_parted 45 = .ok (.aload_n 0, 1) := by decide +kernel
theorem dX13_parted_46 : decode cX13_parted 46 = .ok (.iload 6, 2) := by decide +kernel
theorem dX13_parted_48 : decode cX13_parted 48 = .ok (.invokevirtual 222, 3) := by decide +kernel
theorem dX13_parted_51 : decode cX13_parted 51 = .ok (.aload_n 0, 1) := by decide +kernel
theorem dX13_parted_52 : decode cX13_parted 52 = .ok (.getfield 215, 3) := by decide +kernel
theorem dX13_parted_55 : decode cX13_parted 55 = .ok (.lstore 7, 2) := by decide +kernel
theorem dX13_parted_57 : decode cX13_parted 57 = .ok (.aload_n 0, 1) := by decide +kernel
theorem dX13_parted_58 : decode cX13_parted 58 = .ok (.getfield 207, 3) := by decide +kernel
theorem dX13_parted_61 : decode cX13_parted 61 = .ok (.lstore 9, 2) := by decide +kernel
theorem dX13_parted_63 : decode cX13_parted 63 = .ok (.aload_n 0, 1) := by decide +kernel
theorem dX13_parted_64 : decode cX13_parted 64 = .ok (.lload_n 2, 1) := by decide +kernel
theorem dX13_parted_65 : decode cX13_parted 65 = .ok (.lneg, 1) := by decide +kernel
theorem dX13_parted_66 : decode cX13_parted 66 = .ok (.lload 4, 2) := by decide +kernel
theorem dX13_parted_68 : decode cX13_parted 68 = .ok (.invokevirtual 218, 3) := by decide +kernel
theorem dX13_parted_71 : decode cX13_parted 71 = .ok (.aload_n 0, 1) := by decide +kernel
theorem dX13_parted_72 : decode cX13_parted 72 = .ok (.getfield 215, 3) := by decide +kernel
theorem dX13_parted_75 : decode cX13_parted 75 = .ok (.lconst 0, 1) := by decide +kernel
theorem dX13_parted_76 : decode cX13_parted 76 = .ok (.lcmp, 1) := by decide +kernel
theorem dX13_parted_77 : decode cX13_parted 77 = .ok (.ifCond .le 13, 3) := by decide +kernel
theorem dX13_parted_80 : decode cX13_parted 80 = .ok (.iload 6, 2) := by decide +kernel
theorem dX13_parted_82 : decode cX13_parted 82 = .ok (.istore_n 1, 1) := by decide +kernel
theorem dX13_parted_83 : decode cX13_parted 83 = .ok (.lload 7, 2) := by decide +kernel
theorem dX13_parted_85 : decode cX13_parted 85 = .ok (.lstore_n 2, 1) := by decide +kernel
theorem dX13_parted_86 : decode cX13_parted 86 = .ok (.lload 9, 2) := by decide +kernel
theorem dX13_parted_88 : decode cX13_parted 88 = .ok (.lstore 4, 2) := by decide +kernel
theorem dX13_parted_90 : decode cX13_parted 90 = .ok (.iinc 6 1, 3) := by decide +kernel
theorem dX13_parted_93 : decode cX13_parted 93 = .ok (.goto (-54), 3) := by decide +kernel
theorem dX13_parted_96 : decode cX13_parted 96 = .ok (.iload_n 1, 1) := by decide +kernel
theorem dX13_parted_97 : decode cX13_parted 97 = .ok (.ireturn, 1) := by decide +kernel
theorem dX13_spread_0 : decode cX13_spread 0 = .ok (.aload_n 0, 1) := by decide +kernel
theorem dX13_spread_1 : decode cX13_spread 1 = .ok (.iconst 0, 1) := by decide +kernel
theorem dX13_spread_2 : decode cX13_spread 2 = .ok (.putfield 53, 3) := by decide +kernel
theorem dX13_spread_5 : decode cX13_spread 5 = .ok (.aload_n 0, 1) := by decide +kernel
theorem dX13_spread_6 : decode cX13_spread 6 = .ok (.iload_n 1, 1) := by decide +kernel
theorem dX13_spread_7 : decode cX13_spread 7 = .ok (.invokevirtual 136, 3) := by decide +kernel
theorem dX13_spread_10 : decode cX13_spread 10 = .ok (.ifCond .ne 5, 3) := by decide +kernel
theorem dX13_spread_13 : decode cX13_spread 13 = .ok (.iconst (-1), 1) := by decide +kernel
theorem dX13_spread_14 : decode cX13_spread 14 = .ok (.ireturn, 1) := by decide +kernel
theorem dX13_spread_15 : decode cX13_spread 15 = .ok (.iconst 0, 1) := by decide +kernel
theorem dX13_spread_16 : decode cX13_spread 16 = .ok (.istore_n 2, 1) := by decide +kernel
theorem dX13_spread_17 : decode cX13_spread 17 = .ok (.iconst 0, 1) := by decide +kernel
theorem dX13_spread_18 : decode cX13_spread 18 = .ok (.istore_n 3, 1) := by decide +kernel
theorem dX13_spread_19 : decode cX13_spread 19 = .ok (.iconst 0, 1) := by decide +kernel
theorem dX13_spread_20 : decode cX13_spread 20 = .ok (.istore 4, 2) := by decide +kernel
theorem dX13_spread_22 : decode cX13_spread 22 = .ok (.iconst 0, 1) := by decide +kernel
theorem dX13_spread_23 : decode cX13_spread 23 = .ok (.istore 5, 2) := by decide +kernel
theorem dX13_spread_25 : decode cX13_spread 25 = .ok (.iload 5, 2) := by decide +kernel
theorem dX13_spread_27 : decode cX13_spread 27 = .ok (.aload_n 0, 1) := by decide +kernel
theorem dX13_spread_28 : decode cX13_spread 28 = .ok (.getfield 13, 3) := by decide +kernel
theorem dX13_spread_31 : decode cX13_spread 31 = .ok (.bipush 85, 2) := by decide +kernel
theorem dX13_spread_33 : decode cX13_spread 33 = .ok (.iaload, 1) := by decide +kernel
theorem dX13_spread_34 : decode cX13_spread 34 = .ok (.if_icmp .ge 81, 3) := by decide +kernel
theorem dX13_spread_37 : decode cX13_spread 37 = .ok (.aload_n 0, 1) := by decide +kernel
theorem dX13_spread_38 : decode cX13_spread 38 = .ok (.getfield 13, 3) := by decide +kernel
theorem dX13_spread_41 : decode cX13_spread 41 = .ok (.bipush 86, 2) := by decide +kernel
theorem dX13_spread_43 : decode cX13_spread 43 = .ok (.iconst 5, 1) := by decide +kernel
theorem dX13_spread_44 : decode cX13_spread 44 = .ok (.iload 5, 2) := by decide +kernel
theorem dX13_spread_46 : decode cX13_spread 46 = .ok (.imul, 1) := by decide +kernel
theorem dX13_spread_47 : decode cX13_spread 47 = .ok (.iadd, 1) := by decide +kernel
theorem dX13_spread_48 : decode cX13_spread 48 = .ok (.iconst 3, 1) := by decide +kernel
theorem dX13_spread_49 : decode cX13_spread 49 = .ok (.iadd, 1) := by decide +kernel
theorem dX13_spread_50 : decode cX13_spread 50 = .ok (.iaload, 1) := by decide +kernel
theorem dX13_spread_51 : decode cX13_spread 51 = .ok (.istore 6, 2) := by decide +kernel
theorem dX13_spread_53 : decode cX13_spread 53 = .ok (.aload_n 0, 1) := by decide +kernel
theorem dX13_spread_54 : decode cX13_spread 54 = .ok (.getfield 13, 3) := by decide +kernel
theorem dX13_spread_57 : decode cX13_spread 57 = .ok (.bipush 86, 2) := by decide +kernel
theorem dX13_spread_59 : decode cX13_spread 59 = .ok (.iconst 5, 1) := by decide +kernel
theorem dX13_spread_60 : decode cX13_spread 60 = .ok (.iload 5, 2) := by decide +kernel
theorem dX13_spread_62 : decode cX13_spread 62 = .ok (.imul, 1) := by decide +kernel
theorem dX13_spread_63 : decode cX13_spread 63 = .ok (.iadd, 1) := by decide +kernel
theorem dX13_spread_64 : decode cX13_spread 64 = .ok (.iaload, 1) := by decide +kernel
theorem dX13_spread_65 : decode cX13_spread 65 = .ok (.iload_n 1, 1) := by decide +kernel
theorem dX13_spread_66 : decode cX13_spread 66 = .ok (.if_icmp .ne 43, 3) := by decide +kernel
theorem dX13_spread_69 : decode cX13_spread 69 = .ok (.iload_n 2, 1) := by decide +kernel
theorem dX13_spread_70 : decode cX13_spread 70 = .ok (.ifCond .eq 9, 3) := by decide +kernel
theorem dX13_spread_73 : decode cX13_spread 73 = .ok (.iload 6, 2) := by decide +kernel
theorem dX13_spread_75 : decode cX13_spread 75 = .ok (.iload_n 3, 1) := by decide +kernel
theorem dX13_spread_76 : decode cX13_spread 76 = .ok (.if_icmp .ge 8, 3) := by decide +kernel
theorem dX13_spread_79 : decode cX13_spread 79 = .ok (.iload 6, 2) := by decide +kernel
theorem dX13_spread_81 : decode cX13_spread 81 = .ok (.goto 4, 3) := by decide +kernel
theorem dX13_spread_84 : decode cX13_spread 84 = .ok (.iload_n 3, 1) := by decide +kernel
theorem dX13_spread_85 : decode cX13_spread 85 = .ok (.istore_n 3, 1) := by decide +kernel
theorem dX13_spread_86 : decode cX13_spread 86 = .ok (.iload_n 2, 1) := by decide +kernel
theorem dX13_spread_87 : decode cX13_spread 87 = .ok (.ifCond .eq 10, 3) := by decide +kernel
theorem dX13_spread_90 : decode cX13_spread 90 = .ok (.iload 6, 2) := by decide +kernel
theorem dX13_spread_92 : decode cX13_spread 92 = .ok (.iload 4, 2) := by decide +kernel
theorem dX13_spread_94 : decode cX13_spread 94 = .ok (.if_icmp .le 8, 3) := by decide +kernel
theorem dX13_spread_97 : decode cX13_spread 97 = .ok (.iload 6, 2) := by decide +kernel
theorem dX13_spread_99 : decode cX13_spread 99 = .ok (.goto 5, 3) := by decide +kernel
theorem dX13_spread_102 : decode cX13_spread 102 = .ok (.iload 4, 2) := by decide +kernel
theorem dX13_spread_104 : decode cX13_spread 104 = .ok (.istore 4, 2) := by decide +kernel
theorem dX13_spread_106 : decode cX13_spread 106 = .ok (.iinc 2 1, 3) := by decide +kernel
theorem dX13_spread_109 : decode cX13_spread 109 = .ok (.iinc 5 1, 3) := by decide +kernel
theorem dX13_spread_112 : decode cX13_spread 112 = .ok (.goto (-87), 3) := by decide +kernel
theorem dX13_spread_115 : decode cX13_spread 115 = .ok (.iload_n 2, 1) := by decide +kernel
theorem dX13_spread_116 : decode cX13_spread 116 = .ok (.ifCond .ne 8, 3) := by decide +kernel
theorem dX13_spread_119 : decode cX13_spread 119 = .ok (.bipush (-9), 2) := by decide +kernel
theorem dX13_spread_121 : decode cX13_spread 121 = .ok (.goto 7, 3) := by decide +kernel
theorem dX13_spread_124 : decode cX13_spread 124 = .ok (.iload 4, 2) := by decide +kernel
theorem dX13_spread_126 : decode cX13_spread 126 = .ok (.iload_n 3, 1) := by decide +kernel
theorem dX13_spread_127 : decode cX13_spread 127 = .ok (.isub, 1) := by decide +kernel
theorem dX13_spread_128 : decode cX13_spread 128 = .ok (.ireturn, 1) := by decide +kernel
theorem dX13_out_0 : decode cX13_out 0 = .ok (.aload_n 0, 1) := by decide +kernel
theorem dX13_out_1 : decode cX13_out 1 = .ok (.iconst 0, 1) := by decide +kernel
theorem dX13_out_2 : decode cX13_out 2 = .ok (.putfield 53, 3) := by decide +kernel
theorem dX13_out_5 : decode cX13_out 5 = .ok (.aload_n 0, 1) := by decide +kernel
theorem dX13_out_6 : decode cX13_out 6 = .ok (.iload_n 1, 1) := by decide +kernel
theorem dX13_out_7 : decode cX13_out 7 = .ok (.invokevirtual 136, 3) := by decide +kernel
theorem dX13_out_10 : decode cX13_out 10 = .ok (.ifCond .eq 13, 3) := by decide +kernel
theorem dX13_out_13 : decode cX13_out 13 = .ok (.iload_n 2, 1) := by decide +kernel
theorem dX13_out_14 : decode cX13_out 14 = .ok (.iconst 0, 1) := by decide +kernel
theorem dX13_out_15 : decode cX13_out 15 = .ok (.bipush 99, 2) := by decide +kernel
theorem dX13_out_17 : decode cX13_out 17 = .ok (.invokestatic 57, 3) := by decide +kernel
theorem dX13_out_20 : decode cX13_out 20 = .ok (.ifCond .ne 5, 3) := by decide +kernel
theorem dX13_out_23 : decode cX13_out 23 = .ok (.iconst (-1), 1) := by decide +kernel
theorem dX13_out_24 : decode cX13_out 24 = .ok (.ireturn, 1) := by decide +kernel
theorem dX13_out_25 : decode cX13_out 25 = .ok (.iconst 0, 1) := by decide +kernel
theorem dX13_out_26 : decode cX13_out 26 = .ok (.istore_n 3, 1) := by decide +kernel
theorem dX13_out_27 : decode cX13_out 27 = .ok (.iconst 0, 1) := by decide +kernel
theorem dX13_out_28 : decode cX13_out 28 = .ok (.istore 4, 2) := by decide +kernel
theorem dX13_out_30 : decode cX13_out 30 = .ok (.iconst 0, 1) := by decide +kernel
theorem dX13_out_31 : decode cX13_out 31 = .ok (.istore 5, 2) := by decide +kernel
theorem dX13_out_33 : decode cX13_out 33 = .ok (.iconst 0, 1) := by decide +kernel
theorem dX13_out_34 : decode cX13_out 34 = .ok (.istore 6, 2) := by decide +kernel
theorem dX13_out_36 : decode cX13_out 36 = .ok (.iconst 0, 1) := by decide +kernel
theorem dX13_out_37 : decode cX13_out 37 = .ok (.istore 7, 2) := by decide +kernel
theorem dX13_out_39 : decode cX13_out 39 = .ok (.iload 7, 2) := by decide +kernel
theorem dX13_out_41 : decode cX13_out 41 = .ok (.aload_n 0, 1) := by decide +kernel
theorem dX13_out_42 : decode cX13_out 42 = .ok (.getfield 13, 3) := by decide +kernel
theorem dX13_out_45 : decode cX13_out 45 = .ok (.bipush 85, 2) := by decide +kernel
theorem dX13_out_47 : decode cX13_out 47 = .ok (.iaload, 1) := by decide +kernel
theorem dX13_out_48 : decode cX13_out 48 = .ok (.if_icmp .ge 116, 3) := by decide +kernel
theorem dX13_out_51 : decode cX13_out 51 = .ok (.aload_n 0, 1) := by decide +kernel
theorem dX13_out_52 : decode cX13_out 52 = .ok (.getfield 13, 3) := by decide +kernel
theorem dX13_out_55 : decode cX13_out 55 = .ok (.bipush 86, 2) := by decide +kernel
theorem dX13_out_57 : decode cX13_out 57 = .ok (.iconst 5, 1) := by decide +kernel
theorem dX13_out_58 : decode cX13_out 58 = .ok (.iload 7, 2) := by decide +kernel
theorem dX13_out_60 : decode cX13_out 60 = .ok (.imul, 1) := by decide +kernel
theorem dX13_out_61 : decode cX13_out 61 = .ok (.iadd, 1) := by decide +kernel
theorem dX13_out_62 : decode cX13_out 62 = .ok (.iaload, 1) := by decide +kernel
theorem dX13_out_63 : decode cX13_out 63 = .ok (.iload_n 1, 1) := by decide +kernel
theorem dX13_out_64 : decode cX13_out 64 = .ok (.if_icmp .ne 7, 3) := by decide +kernel
theorem dX13_out_67 : decode cX13_out 67 = .ok (.iconst 1, 1) := by decide +kernel
theorem dX13_out_68 : decode cX13_out 68 = .ok (.goto 4, 3) := by decide +kernel
theorem dX13_out_71 : decode cX13_out 71 = .ok (.iconst 0, 1) := by decide +kernel
theorem dX13_out_72 : decode cX13_out 72 = .ok (.istore 8, 2) := by decide +kernel
theorem dX13_out_74 : decode cX13_out 74 = .ok (.iload_n 3, 1) := by decide +kernel
theorem dX13_out_75 : decode cX13_out 75 = .ok (.iload 8, 2) := by decide +kernel
theorem dX13_out_77 : decode cX13_out 77 = .ok (.ifCond .eq 20, 3) := by decide +kernel
theorem dX13_out_80 : decode cX13_out 80 = .ok (.aload_n 0, 1) := by decide +kernel
theorem dX13_out_81 : decode cX13_out 81 = .ok (.getfield 13, 3) := by decide +kernel
theorem dX13_out_84 : decode cX13_out 84 = .ok (.bipush 86, 2) := by decide +kernel
theorem dX13_out_86 : decode cX13_out 86 = .ok (.iconst 5, 1) := by decide +kernel
theorem dX13_out_87 : decode cX13_out 87 = .ok (.iload 7, 2) := by decide +kernel
theorem dX13_out_89 : decode cX13_out 89 = .ok (.imul, 1) := by decide +kernel
theorem dX13_out_90 : decode cX13_out 90 = .ok (.iadd, 1) := by decide +kernel
theorem dX13_out_91 : decode cX13_out 91 = .ok (.iconst 3, 1) := by decide +kernel
theorem dX13_out_92 : decode cX13_out 92 = .ok (.iadd, 1) := by decide +kernel
theorem dX13_out_93 : decode cX13_out 93 = .ok (.iaload, 1) := by decide +kernel
theorem dX13_out_94 : decode cX13_out 94 = .ok (.goto 4, 3) := by decide +kernel
theorem dX13_out_97 : decode cX13_out 97 = .ok (.iconst 0, 1) := by decide +kernel
theorem dX13_out_98 : decode cX13_out 98 = .ok (.iadd, 1) := by decide +kernel
theorem dX13_out_99 : decode cX13_out 99 = .ok (.istore_n 3, 1) := by decide +kernel
theorem dX13_out_100 : decode cX13_out 100 = .ok (.iload 4, 2) := by decide +kernel
theorem dX13_out_102 : decode cX13_out 102 = .ok (.iload 8, 2) := by decide +kernel
theorem dX13_out_104 : decode cX13_out 104 = .ok (.ifCond .eq 7, 3) := by decide +kernel
theorem dX13_out_107 : decode cX13_out 107 = .ok (.iconst 1, 1) := by decide +kernel
theorem dX13_out_108 : decode cX13_out 108 = .ok (.goto 4, 3) := by decide +kernel
theorem dX13_out_111 : decode cX13_out 111 = .ok (.iconst 0, 1) := by decide +kernel
theorem dX13_out_112 : decode cX13_out 112 = .ok (.iadd, 1) := by decide +kernel
theorem dX13_out_113 : decode cX13_out 113 = .ok (.istore 4, 2) := by decide +kernel
theorem dX13_out_115 : decode cX13_out 115 = .ok (.iload 5, 2) := by decide +kernel
theorem dX13_out_117 : decode cX13_out 117 = .ok (.iload 8, 2) := by decide +kernel
theorem dX13_out_119 : decode cX13_out 119 = .ok (.ifCond .eq 7, 3) := by decide +kernel
theorem dX13_out_122 : decode cX13_out 122 = .ok (.iconst 0, 1) := by decide +kernel
theorem dX13_out_123 : decode cX13_out 123 = .ok (.goto 17, 3) := by decide +kernel
theorem dX13_out_126 : decode cX13_out 126 = .ok (.aload_n 0, 1) := by decide +kernel
theorem dX13_out_127 : decode cX13_out 127 = .ok (.getfield 13, 3) := by decide +kernel
theorem dX13_out_130 : decode cX13_out 130 = .ok (.bipush 86, 2) := by decide +kernel
theorem dX13_out_132 : decode cX13_out 132 = .ok (.iconst 5, 1) := by decide +kernel
theorem dX13_out_133 : decode cX13_out 133 = .ok (.iload 7, 2) := by decide +kernel
theorem dX13_out_135 : decode cX13_out 135 = .ok (.imul, 1) := by decide +kernel
theorem dX13_out_136 : decode cX13_out 136 = .ok (.iadd, 1) := by decide +kernel
theorem dX13_out_137 : decode cX13_out 137 = .ok (.iconst 3, 1) := by decide +kernel
theorem dX13_out_138 : decode cX13_out 138 = .ok (.iadd, 1) := by decide +kernel
theorem dX13_out_139 : decode cX13_out 139 = .ok (.iaload, 1) := by decide +kernel
theorem dX13_out_140 : decode cX13_out 140 = .ok (.iadd, 1) := by decide +kernel
theorem dX13_out_141 : decode cX13_out 141 = .ok (.istore 5, 2) := by decide +kernel
theorem dX13_out_143 : decode cX13_out 143 = .ok (.iload 6, 2) := by decide +kernel
theorem dX13_out_145 : decode cX13_out 145 = .ok (.iload 8, 2) := by decide +kernel
theorem dX13_out_147 : decode cX13_out 147 = .ok (.ifCond .eq 7, 3) := by decide +kernel
theorem dX13_out_150 : decode cX13_out 150 = .ok (.iconst 0, 1) := by decide +kernel
theorem dX13_out_151 : decode cX13_out 151 = .ok (.goto 4, 3) := by decide +kernel
theorem dX13_out_154 : decode cX13_out 154 = .ok (.iconst 1, 1) := by decide +kernel
theorem dX13_out_155 : decode cX13_out 155 = .ok (.iadd, 1) := by decide +kernel
theorem dX13_out_156 : decode cX13_out 156 = .ok (.istore 6, 2) := by decide +kernel
theorem dX13_out_158 : decode cX13_out 158 = .ok (.iinc 7 1, 3) := by decide +kernel
theorem dX13_out_161 : decode cX13_out 161 = .ok (.goto (-122), 3) := by decide +kernel
theorem dX13_out_164 : decode cX13_out 164 = .ok (.iload 4, 2) := by decide +kernel
theorem dX13_out_166 : decode cX13_out 166 = .ok (.ifCond .eq 8, 3) := by decide +kernel
theorem dX13_out_169 : decode cX13_out 169 = .ok (.iload 6, 2) := by decide +kernel
theorem dX13_out_171 : decode cX13_out 171 = .ok (.ifCond .ne 6, 3) := by decide +kernel
theorem dX13_out_174 : decode cX13_out 174 = .ok (.bipush (-2), 2) := by decide +kernel
theorem dX13_out_176 : decode cX13_out 176 = .ok (.ireturn, 1) := by decide +kernel
theorem dX13_out_177 : decode cX13_out 177 = .ok (.iload_n 3, 1) := by decide +kernel
theorem dX13_out_178 : decode cX13_out 178 = .ok (.iload 6, 2) := by decide +kernel
theorem dX13_out_180 : decode cX13_out 180 = .ok (.imul, 1) := by decide +kernel
theorem dX13_out_181 : decode cX13_out 181 = .ok (.iload 5, 2) := by decide +kernel
theorem dX13_out_183 : decode cX13_out 183 = .ok (.iload 4, 2) := by decide +kernel
theorem dX13_out_185 : decode cX13_out 185 = .ok (.imul, 1) := by decide +kernel
theorem dX13_out_186 : decode cX13_out 186 = .ok (.isub, 1) := by decide +kernel
theorem dX13_out_187 : decode cX13_out 187 = .ok (.invokestatic 165, 3) := by decide +kernel
theorem dX13_out_190 : decode cX13_out 190 = .ok (.istore 7, 2) := by decide +kernel
theorem dX13_out_192 : decode cX13_out 192 = .ok (.iload 4, 2) := by decide +kernel
theorem dX13_out_194 : decode cX13_out 194 = .ok (.iconst 2, 1) := by decide +kernel
theorem dX13_out_195 : decode cX13_out 195 = .ok (.if_icmp .le 19, 3) := by decide +kernel
theorem dX13_out_198 : decode cX13_out 198 = .ok (.iload 7, 2) := by decide +kernel
theorem dX13_out_200 : decode cX13_out 200 = .ok (.iload_n 2, 1) := by decide +kernel
theorem dX13_out_201 : decode cX13_out 201 = .ok (.iload 4, 2) := by decide +kernel
theorem dX13_out_203 : decode cX13_out 203 = .ok (.imul, 1) := by decide +kernel
theorem dX13_out_204 : decode cX13_out 204 = .ok (.iload 6, 2) := by decide +kernel
theorem dX13_out_206 : decode cX13_out 206 = .ok (.imul, 1) := by decide +kernel
theorem dX13_out_207 : decode cX13_out 207 = .ok (.if_icmp .le 7, 3) := by decide +kernel
theorem dX13_out_210 : decode cX13_out 210 = .ok (.iconst 1, 1) := by decide +kernel
theorem dX13_out_211 : decode cX13_out 211 = .ok (.goto 4, 3) := by decide +kernel
theorem dX13_out_214 : decode cX13_out 214 = .ok (.iconst 0, 1) := by decide +kernel
theorem dX13_out_215 : decode cX13_out 215 = .ok (.ireturn, 1) := by decide +kernel
theorem dX13_lot_0 : decode cX13_lot 0 = .ok (.aload_n 0, 1) := by decide +kernel
theorem dX13_lot_1 : decode cX13_lot 1 = .ok (.iconst 0, 1) := by decide +kernel
theorem dX13_lot_2 : decode cX13_lot 2 = .ok (.putfield 53, 3) := by decide +kernel
theorem dX13_lot_5 : decode cX13_lot 5 = .ok (.aload_n 0, 1) := by decide +kernel
theorem dX13_lot_6 : decode cX13_lot 6 = .ok (.getfield 13, 3) := by decide +kernel
theorem dX13_lot_9 : decode cX13_lot 9 = .ok (.bipush 84, 2) := by decide +kernel
theorem dX13_lot_11 : decode cX13_lot 11 = .ok (.iaload, 1) := by decide +kernel
theorem dX13_lot_12 : decode cX13_lot 12 = .ok (.istore_n 2, 1) := by decide +kernel
theorem dX13_lot_13 : decode cX13_lot 13 = .ok (.aload_n 0, 1) := by decide +kernel
theorem dX13_lot_14 : decode cX13_lot 14 = .ok (.getfield 13, 3) := by decide +kernel
theorem dX13_lot_17 : decode cX13_lot 17 = .ok (.bipush 84, 2) := by decide +kernel
theorem dX13_lot_19 : decode cX13_lot 19 = .ok (.iload_n 1, 1) := by decide +kernel
theorem dX13_lot_20 : decode cX13_lot 20 = .ok (.iastore, 1) := by decide +kernel
theorem dX13_lot_21 : decode cX13_lot 21 = .ok (.iload_n 2, 1) := by decide +kernel
theorem dX13_lot_22 : decode cX13_lot 22 = .ok (.ireturn, 1) := by decide +kernel
theorem dX13_rate_0 : decode cX13_rate 0 = .ok (.aload_n 0, 1) := by decide +kernel
theorem dX13_rate_1 : decode cX13_rate 1 = .ok (.iconst 0, 1) := by decide +kernel
theorem dX13_rate_2 : decode cX13_rate 2 = .ok (.putfield 53, 3) := by decide +kernel
theorem dX13_rate_5 : decode cX13_rate 5 = .ok (.iload_n 1, 1) := by decide +kernel
theorem dX13_rate_6 : decode cX13_rate 6 = .ok (.iconst 0, 1) := by decide +kernel
theorem dX13_rate_7 : decode cX13_rate 7 = .ok (.iconst 5, 1) := by decide +kernel
theorem dX13_rate_8 : decode cX13_rate 8 = .ok (.invokestatic 57, 3) := by decide +kernel
theorem dX13_rate_11 : decode cX13_rate 11 = .ok (.ifCond .eq 18, 3) := by decide +kernel
theorem dX13_rate_14 : decode cX13_rate 14 = .ok (.aload_n 0, 1) := by decide +kernel
theorem dX13_rate_15 : decode cX13_rate 15 = .ok (.iload_n 2, 1) := by decide +kernel
theorem dX13_rate_16 : decode cX13_rate 16 = .ok (.invokevirtual 136, 3) := by decide +kernel
theorem dX13_rate_19 : decode cX13_rate 19 = .ok (.ifCond .eq 10, 3) := by decide +kernel
theorem dX13_rate_22 : decode cX13_rate 22 = .ok (.aload_n 0, 1) := by decide +kernel
theorem dX13_rate_23 : decode cX13_rate 23 = .ok (.getfield 130, 3) := by decide +kernel
theorem dX13_rate_26 : decode cX13_rate 26 = .ok (.ifCond .ne 6, 3) := by decide +kernel
theorem dX13_rate_29 : decode cX13_rate 29 = .ok (.ldc 143, 2) := by decide +kernel
theorem dX13_rate_31 : decode cX13_rate 31 = .ok (.ireturn, 1) := by decide +kernel
theorem dX13_rate_32 : decode cX13_rate 32 = .ok (.aload_n 0, 1) := by decide +kernel
theorem dX13_rate_33 : decode cX13_rate 33 = .ok (.iload_n 2, 1) := by decide +kernel
theorem dX13_rate_34 : decode cX13_rate 34 = .ok (.iconst 0, 1) := by decide +kernel
theorem dX13_rate_35 : decode cX13_rate 35 = .ok (.invokevirtual 189, 3) := by decide +kernel
theorem dX13_rate_38 : decode cX13_rate 38 = .ok (.aload_n 0, 1) := by decide +kernel
theorem dX13_rate_39 : decode cX13_rate 39 = .ok (.getfield 171, 3) := by decide +kernel
theorem dX13_rate_42 : decode cX13_rate 42 = .ok (.aload_n 0, 1) := by decide +kernel
theorem dX13_rate_43 : decode cX13_rate 43 = .ok (.getfield 41, 3) := by decide +kernel
theorem dX13_rate_46 : decode cX13_rate 46 = .ok (.iconst 1, 1) := by decide +kernel
theorem dX13_rate_47 : decode cX13_rate 47 = .ok (.iaload, 1) := by decide +kernel
theorem dX13_rate_48 : decode cX13_rate 48 = .ok (.iadd, 1) := by decide +kernel
theorem dX13_rate_49 : decode cX13_rate 49 = .ok (.istore_n 3, 1) := by decide +kernel
theorem dX13_rate_50 : decode cX13_rate 50 = .ok (.aload_n 0, 1) := by decide +kernel
theorem dX13_rate_51 : decode cX13_rate 51 = .ok (.getfield 171, 3) := by decide +kernel
theorem dX13_rate_54 : decode cX13_rate 54 = .ok (.aload_n 0, 1) := by decide +kernel
theorem dX13_rate_55 : decode cX13_rate 55 = .ok (.getfield 186, 3) := by decide +kernel
theorem dX13_rate_58 : decode cX13_rate 58 = .ok (.isub, 1) := by decide +kernel
theorem dX13_rate_59 : decode cX13_rate 59 = .ok (.istore 4, 2) := by decide +kernel
theorem dX13_rate_61 : decode cX13_rate 61 = .ok (.aload_n 0, 1) := by decide +kernel
theorem dX13_rate_62 : decode cX13_rate 62 = .ok (.dup, 1) := by decide +kernel
theorem dX13_rate_63 : decode cX13_rate 63 = .ok (.getfield 225, 3) := by decide +kernel
theorem dX13_rate_66 : decode cX13_rate 66 = .ok (.iload_n 1, 1) := by decide +kernel
theorem dX13_rate_67 : decode cX13_rate 67 = .ok (.ifCond .ne 7, 3) := by decide +kernel
theorem dX13_rate_70 : decode cX13_rate 70 = .ok (.lconst 1, 1) := by decide +kernel
theorem dX13_rate_71 : decode cX13_rate 71 = .ok (.goto 50, 3) := by decide +kernel
theorem dX13_rate_74 : decode cX13_rate 74 = .ok (.iload_n 1, 1) := by decide +kernel
theorem dX13_rate_75 : decode cX13_rate 75 = .ok (.iconst 1, 1) := by decide +kernel
theorem dX13_rate_76 : decode cX13_rate 76 = .ok (.if_icmp .ne 9, 3) := by decide +kernel
theorem dX13_rate_79 : decode cX13_rate 79 = .ok (.ldc2_w 228, 3) := by decide +kernel
theorem dX13_rate_82 : decode cX13_rate 82 = .ok (.goto 39, 3) := by decide +kernel
theorem dX13_rate_85 : decode cX13_rate 85 = .ok (.iload_n 1, 1) := by decide +kernel
theorem dX13_rate_86 : decode cX13_rate 86 = .ok (.iconst 2, 1) := by decide +kernel
theorem dX13_rate_87 : decode cX13_rate 87 = .ok (.if_icmp .ne 9, 3) := by decide +kernel
theorem dX13_rate_90 : decode cX13_rate 90 = .ok (.ldc2_w 230, 3) := by decide +kernel
theorem dX13_rate_93 : decode cX13_rate 93 = .ok (.goto 28, 3) := by decide +kernel
theorem dX13_rate_96 : decode cX13_rate 96 = .ok (.iload_n 1, 1) := by decide +kernel
theorem dX13_rate_97 : decode cX13_rate 97 = .ok (.iconst 3, 1) := by decide +kernel
theorem dX13_rate_98 : decode cX13_rate 98 = .ok (.if_icmp .ne 9, 3) := by decide +kernel
theorem dX13_rate_101 : decode cX13_rate 101 = .ok (.ldc2_w 232, 3) := by decide +kernel
theorem dX13_rate_104 : decode cX13_rate 104 = .ok (.goto 17, 3) := by decide +kernel
theorem dX13_rate_107 : decode cX13_rate 107 = .ok (.iload_n 1, 1) := by decide +kernel
theorem dX13_rate_108 : decode cX13_rate 108 = .ok (.iconst 4, 1) := by decide +kernel
theorem dX13_rate_109 : decode cX13_rate 109 = .ok (.if_icmp .ne 9, 3) := by decide +kernel
theorem dX13_rate_112 : decode cX13_rate 112 = .ok (.ldc2_w 234, 3) := by decide +kernel
theorem dX13_rate_115 : decode cX13_rate 115 = .ok (.goto 6, 3) := by decide +kernel
theorem dX13_rate_118 : decode cX13_rate 118 = .ok (.ldc2_w 236, 3) := by decide +kernel
theorem dX13_rate_121 : decode cX13_rate 121 = .ok (.ladd, 1) := by decide +kernel
theorem dX13_rate_122 : decode cX13_rate 122 = .ok (.putfield 225, 3) := by decide +kernel
theorem dX13_rate_125 : decode cX13_rate 125 = .ok (.iload_n 1, 1) := by decide +kernel
theorem dX13_rate_126 : decode cX13_rate 126 = .ok (.ifCond .ne 10, 3) := by decide +kernel
theorem dX13_rate_129 : decode cX13_rate 129 = .ok (.aload_n 0, 1) := by decide +kernel
theorem dX13_rate_130 : decode cX13_rate 130 = .ok (.getfield 171, 3) := by decide +kernel
theorem dX13_rate_133 : decode cX13_rate 133 = .ok (.goto 61, 3) := by decide +kernel
theorem dX13_rate_136 : decode cX13_rate 136 = .ok (.iload_n 1, 1) := by decide +kernel
theorem dX13_rate_137 : decode cX13_rate 137 = .ok (.iconst 1, 1) := by decide +kernel
theorem dX13_rate_138 : decode cX13_rate 138 = .ok (.if_icmp .ne 7, 3) := by decide +kernel
theorem dX13_rate_141 : decode cX13_rate 141 = .ok (.iload_n 3, 1) := by decide +kernel
theorem dX13_rate_142 : decode cX13_rate 142 = .ok (.goto 52, 3) := by decide +kernel
theorem dX13_rate_145 : decode cX13_rate 145 = .ok (.iload_n 1, 1) := by decide +kernel
theorem dX13_rate_146 : decode cX13_rate 146 = .ok (.iconst 2, 1) := by decide +kernel
theorem dX13_rate_147 : decode cX13_rate 147 = .ok (.if_icmp .ne 8, 3) := by decide +kernel
theorem dX13_rate_150 : decode cX13_rate 150 = .ok (.iload 4, 2) := by decide +kernel
theorem dX13_rate_152 : decode cX13_rate 152 = .ok (.goto 42, 3) := by decide +kernel
theorem dX13_rate_155 : decode cX13_rate 155 = .ok (.iload_n 1, 1) := by decide +kernel
theorem dX13_rate_156 : decode cX13_rate 156 = .ok (.iconst 3, 1) := by decide +kernel
theorem dX13_rate_157 : decode cX13_rate 157 = .ok (.if_icmp .ne 14, 3) := by decide +kernel
theorem dX13_rate_160 : decode cX13_rate 160 = .ok (.iload_n 3, 1) := by decide +kernel
theorem dX13_rate_161 : decode cX13_rate 161 = .ok (.aload_n 0, 1) := by decide +kernel
theorem dX13_rate_162 : decode cX13_rate 162 = .ok (.getfield 38, 3) := by decide +kernel
theorem dX13_rate_165 : decode cX13_rate 165 = .ok (.iconst 3, 1) := by decide +kernel
theorem dX13_rate_166 : decode cX13_rate 166 = .ok (.iaload, 1) := by decide +kernel
theorem dX13_rate_167 : decode cX13_rate 167 = .ok (.iadd, 1) := by decide +kernel
theorem dX13_rate_168 : decode cX13_rate 168 = .ok (.goto 26, 3) := by decide +kernel
theorem dX13_rate_171 : decode cX13_rate 171 = .ok (.iload_n 1, 1) := by decide +kernel
theorem dX13_rate_172 : decode cX13_rate 172 = .ok (.iconst 4, 1) := by decide +kernel
theorem dX13_rate_173 : decode cX13_rate 173 = .ok (.if_icmp .ne 10, 3) := by decide +kernel
theorem dX13_rate_176 : decode cX13_rate 176 = .ok (.iconst 2, 1) := by decide +kernel
theorem dX13_rate_177 : decode cX13_rate 177 = .ok (.iload 4, 2) := by decide +kernel
theorem dX13_rate_179 : decode cX13_rate 179 = .ok (.imul, 1) := by decide +kernel
theorem dX13_rate_180 : decode cX13_rate 180 = .ok (.goto 14, 3) := by decide +kernel
theorem dX13_rate_183 : decode cX13_rate 183 = .ok (.aload_n 0, 1) := by decide +kernel
theorem dX13_rate_184 : decode cX13_rate 184 = .ok (.getfield 171, 3) := by decide +kernel
theorem dX13_rate_187 : decode cX13_rate 187 = .ok (.aload_n 0, 1) := by decide +kernel
theorem dX13_rate_188 : decode cX13_rate 188 = .ok (.getfield 41, 3) := by decide +kernel
theorem dX13_rate_191 : decode cX13_rate 191 = .ok (.iconst 4, 1) := by decide +kernel
theorem dX13_rate_192 : decode cX13_rate 192 = .ok (.iaload, 1) := by decide +kernel
theorem dX13_rate_193 : decode cX13_rate 193 = .ok (.iadd, 1) := by decide +kernel
theorem dX13_rate_194 : decode cX13_rate 194 = .ok (.ireturn, 1) := by decide +kernel
theorem dX13_keep_0 : decode cX13_keep 0 = .ok (.aload_n 0, 1) := by decide +kernel
theorem dX13_keep_1 : decode cX13_keep 1 = .ok (.iconst 0, 1) := by decide +kernel
theorem dX13_keep_2 : decode cX13_keep 2 = .ok (.putfield 53, 3) := by decide +kernel
theorem dX13_keep_5 : decode cX13_keep 5 = .ok (.iload_n 1, 1) := by decide +kernel
theorem dX13_keep_6 : decode cX13_keep 6 = .ok (.iconst 0, 1) := by decide +kernel
theorem dX13_keep_7 : decode cX13_keep 7 = .ok (.iconst 1, 1) := by decide +kernel
theorem dX13_keep_8 : decode cX13_keep 8 = .ok (.invokestatic 57, 3) := by decide +kernel
theorem dX13_keep_11 : decode cX13_keep 11 = .ok (.ifCond .ne 5, 3) := by decide +kernel
theorem dX13_keep_14 : decode cX13_keep 14 = .ok (.iconst (-1), 1) := by decide +kernel
theorem dX13_keep_15 : decode cX13_keep 15 = .ok (.ireturn, 1) := by decide +kernel
theorem dX13_keep_16 : decode cX13_keep 16 = .ok (.iconst 0, 1) := by decide +kernel
theorem dX13_keep_17 : decode cX13_keep 17 = .ok (.istore_n 2, 1) := by decide +kernel
theorem dX13_keep_18 : decode cX13_keep 18 = .ok (.iload_n 2, 1) := by decide +kernel
theorem dX13_keep_19 : decode cX13_keep 19 = .ok (.sipush 386, 3) := by decide +kernel
theorem dX13_keep_22 : decode cX13_keep 22 = .ok (.if_icmp .ge 27, 3) := by decide +kernel
theorem dX13_keep_25 : decode cX13_keep 25 = .ok (.aload_n 0, 1) := by decide +kernel
theorem dX13_keep_26 : decode cX13_keep 26 = .ok (.getfield 16, 3) := by decide +kernel
theorem dX13_keep_29 : decode cX13_keep 29 = .ok (.sipush 386, 3) := by decide +kernel
theorem dX13_keep_32 : decode cX13_keep 32 = .ok (.iload_n 1, 1) := by decide +kernel
theorem dX13_keep_33 : decode cX13_keep 33 = .ok (.imul, 1) := by decide +kernel
theorem dX13_keep_34 : decode cX13_keep 34 = .ok (.iload_n 2, 1) := by decide +kernel
theorem dX13_keep_35 : decode cX13_keep 35 = .ok (.iadd, 1) := by decide +kernel
theorem dX13_keep_36 : decode cX13_keep 36 = .ok (.aload_n 0, 1) := by decide +kernel
theorem dX13_keep_37 : decode cX13_keep 37 = .ok (.getfield 13, 3) := by decide +kernel
theorem dX13_keep_40 : decode cX13_keep 40 = .ok (.iload_n 2, 1) := by decide +kernel
theorem dX13_keep_41 : decode cX13_keep 41 = .ok (.iaload, 1) := by decide +kernel
theorem dX13_keep_42 : decode cX13_keep 42 = .ok (.iastore, 1) := by decide +kernel
theorem dX13_keep_43 : decode cX13_keep 43 = .ok (.iinc 2 1, 3) := by decide +kernel
theorem dX13_keep_46 : decode cX13_keep 46 = .ok (.goto (-28), 3) := by decide +kernel
theorem dX13_keep_49 : decode cX13_keep 49 = .ok (.aload_n 0, 1) := by decide +kernel
theorem dX13_keep_50 : decode cX13_keep 50 = .ok (.getfield 19, 3) := by decide +kernel
theorem dX13_keep_53 : decode cX13_keep 53 = .ok (.iload_n 1, 1) := by decide +kernel
theorem dX13_keep_54 : decode cX13_keep 54 = .ok (.iconst 1, 1) := by decide +kernel
theorem dX13_keep_55 : decode cX13_keep 55 = .ok (.bastore, 1) := by decide +kernel
theorem dX13_keep_56 : decode cX13_keep 56 = .ok (.aload_n 0, 1) := by decide +kernel
theorem dX13_keep_57 : decode cX13_keep 57 = .ok (.getfield 13, 3) := by decide +kernel
theorem dX13_keep_60 : decode cX13_keep 60 = .ok (.bipush 85, 2) := by decide +kernel
theorem dX13_keep_62 : decode cX13_keep 62 = .ok (.iaload, 1) := by decide +kernel
theorem dX13_keep_63 : decode cX13_keep 63 = .ok (.ireturn, 1) := by decide +kernel
theorem dX13_back_0 : decode cX13_back 0 = .ok (.aload_n 0, 1) := by decide +kernel
theorem dX13_back_1 : decode cX13_back 1 = .ok (.iconst 0, 1) := by decide +kernel
theorem dX13_back_2 : decode cX13_back 2 = .ok (.putfield 53, 3) := by decide +kernel
theorem dX13_back_5 : decode cX13_back 5 = .ok (.iload_n 1, 1) := by decide +kernel
theorem dX13_back_6 : decode cX13_back 6 = .ok (.iconst 0, 1) := by decide +kernel
theorem dX13_back_7 : decode cX13_back 7 = .ok (.iconst 1, 1) := by decide +kernel
theorem dX13_back_8 : decode cX13_back 8 = .ok (.invokestatic 57, 3) := by decide +kernel
theorem dX13_back_11 : decode cX13_back 11 = .ok (.ifCond .ne 5, 3) := by decide +kernel
theorem dX13_back_14 : decode cX13_back 14 = .ok (.iconst (-1), 1) := by decide +kernel
theorem dX13_back_15 : decode cX13_back 15 = .ok (.ireturn, 1) := by decide +kernel
theorem dX13_back_16 : decode cX13_back 16 = .ok (.aload_n 0, 1) := by decide +kernel
theorem dX13_back_17 : decode cX13_back 17 = .ok (.getfield 19, 3) := by decide +kernel
theorem dX13_back_20 : decode cX13_back 20 = .ok (.iload_n 1, 1) := by decide +kernel
theorem dX13_back_21 : decode cX13_back 21 = .ok (.baload, 1) := by decide +kernel
theorem dX13_back_22 : decode cX13_back 22 = .ok (.ifCond .ne 6, 3) := by decide +kernel
theorem dX13_back_25 : decode cX13_back 25 = .ok (.bipush (-2), 2) := by decide +kernel
theorem dX13_back_27 : decode cX13_back 27 = .ok (.ireturn, 1) := by decide +kernel
theorem dX13_back_28 : decode cX13_back 28 = .ok (.iconst 0, 1) := by decide +kernel
theorem dX13_back_29 : decode cX13_back 29 = .ok (.istore_n 2, 1) := by decide +kernel
theorem dX13_back_30 : decode cX13_back 30 = .ok (.iload_n 2, 1) := by decide +kernel
theorem dX13_back_31 : decode cX13_back 31 = .ok (.sipush 386, 3) := by decide +kernel
theorem dX13_back_34 : decode cX13_back 34 = .ok (.if_icmp .ge 27, 3) := by decide +kernel
theorem dX13_back_37 : decode cX13_back 37 = .ok (.aload_n 0, 1) := by decide +kernel
theorem dX13_back_38 : decode cX13_back 38 = .ok (.getfield 13, 3) := by decide +kernel
theorem dX13_back_41 : decode cX13_back 41 = .ok (.iload_n 2, 1) := by decide +kernel
theorem dX13_back_42 : decode cX13_back 42 = .ok (.aload_n 0, 1) := by decide +kernel
theorem dX13_back_43 : decode cX13_back 43 = .ok (.getfield 16, 3) := by decide +kernel
theorem dX13_back_46 : decode cX13_back 46 = .ok (.sipush 386, 3) := by decide +kernel
theorem dX13_back_49 : decode cX13_back 49 = .ok (.iload_n 1, 1) := by decide +kernel
theorem dX13_back_50 : decode cX13_back 50 = .ok (.imul, 1) := by decide +kernel
theorem dX13_back_51 : decode cX13_back 51 = .ok (.iload_n 2, 1) := by decide +kernel
theorem dX13_back_52 : decode cX13_back 52 = .ok (.iadd, 1) := by decide +kernel
theorem dX13_back_53 : decode cX13_back 53 = .ok (.iaload, 1) := by decide +kernel
theorem dX13_back_54 : decode cX13_back 54 = .ok (.iastore, 1) := by decide +kernel
theorem dX13_back_55 : decode cX13_back 55 = .ok (.iinc 2 1, 3) := by decide +kernel
theorem dX13_back_58 : decode cX13_back 58 = .ok (.goto (-28), 3) := by decide +kernel
theorem dX13_back_61 : decode cX13_back 61 = .ok (.aload_n 0, 1) := by decide +kernel
theorem dX13_back_62 : decode cX13_back 62 = .ok (.getfield 13, 3) := by decide +kernel
theorem dX13_back_65 : decode cX13_back 65 = .ok (.bipush 85, 2) := by decide +kernel
theorem dX13_back_67 : decode cX13_back 67 = .ok (.iaload, 1) := by decide +kernel
theorem dX13_back_68 : decode cX13_back 68 = .ok (.ireturn, 1) := by decide +kernel
theorem dX13_count_0 : decode cX13_count 0 = .ok (.aload_n 0, 1) := by decide +kernel
theorem dX13_count_1 : decode cX13_count 1 = .ok (.iconst 0, 1) := by decide +kernel
theorem dX13_count_2 : decode cX13_count 2 = .ok (.putfield 53, 3) := by decide +kernel
theorem dX13_count_5 : decode cX13_count 5 = .ok (.iload_n 1, 1) := by decide +kernel
theorem dX13_count_6 : decode cX13_count 6 = .ok (.ifCond .ne 10, 3) := by decide +kernel
theorem dX13_count_9 : decode cX13_count 9 = .ok (.aload_n 0, 1) := by decide +kernel
theorem dX13_count_10 : decode cX13_count 10 = .ok (.getfield 127, 3) := by decide +kernel
theorem dX13_count_13 : decode cX13_count 13 = .ok (.goto 55, 3) := by decide +kernel
theorem dX13_count_16 : decode cX13_count 16 = .ok (.iload_n 1, 1) := by decide +kernel
theorem dX13_count_17 : decode cX13_count 17 = .ok (.iconst 1, 1) := by decide +kernel
theorem dX13_count_18 : decode cX13_count 18 = .ok (.if_icmp .ne 10, 3) := by decide +kernel
theorem dX13_count_21 : decode cX13_count 21 = .ok (.aload_n 0, 1) := by decide +kernel
theorem dX13_count_22 : decode cX13_count 22 = .ok (.getfield 130, 3) := by decide +kernel
theorem dX13_count_25 : decode cX13_count 25 = .ok (.goto 43, 3) := by decide +kernel
theorem dX13_count_28 : decode cX13_count 28 = .ok (.iload_n 1, 1) := by decide +kernel
theorem dX13_count_29 : decode cX13_count 29 = .ok (.iconst 2, 1) := by decide +kernel
theorem dX13_count_30 : decode cX13_count 30 = .ok (.if_icmp .ne 10, 3) := by decide +kernel
theorem dX13_count_33 : decode cX13_count 33 = .ok (.aload_n 0, 1) := by decide +kernel
theorem dX13_count_34 : decode cX13_count 34 = .ok (.getfield 133, 3) := by decide +kernel
theorem dX13_count_37 : decode cX13_count 37 = .ok (.goto 31, 3) := by decide +kernel
theorem dX13_count_40 : decode cX13_count 40 = .ok (.iload_n 1, 1) := by decide +kernel
theorem dX13_count_41 : decode cX13_count 41 = .ok (.iconst 3, 1) := by decide +kernel
theorem dX13_count_42 : decode cX13_count 42 = .ok (.if_icmp .ne 13, 3) := by decide +kernel
theorem dX13_count_45 : decode cX13_count 45 = .ok (.aload_n 0, 1) := by decide +kernel
theorem dX13_count_46 : decode cX13_count 46 = .ok (.getfield 13, 3) := by decide +kernel
theorem dX13_count_49 : decode cX13_count 49 = .ok (.bipush 85, 2) := by decide +kernel
theorem dX13_count_51 : decode cX13_count 51 = .ok (.iaload, 1) := by decide +kernel
theorem dX13_count_52 : decode cX13_count 52 = .ok (.goto 16, 3) := by decide +kernel
theorem dX13_count_55 : decode cX13_count 55 = .ok (.iload_n 1, 1) := by decide +kernel
theorem dX13_count_56 : decode cX13_count 56 = .ok (.iconst 4, 1) := by decide +kernel
theorem dX13_count_57 : decode cX13_count 57 = .ok (.if_icmp .ne 10, 3) := by decide +kernel
theorem dX13_count_60 : decode cX13_count 60 = .ok (.aload_n 0, 1) := by decide +kernel
theorem dX13_count_61 : decode cX13_count 61 = .ok (.getfield 61, 3) := by decide +kernel
theorem dX13_count_64 : decode cX13_count 64 = .ok (.goto 4, 3) := by decide +kernel
theorem dX13_count_67 : decode cX13_count 67 = .ok (.iconst (-1), 1) := by decide +kernel
theorem dX13_count_68 : decode cX13_count 68 = .ok (.ireturn, 1) := by decide +kernel
theorem dX13_trace_0 : decode cX13_trace 0 = .ok (.aload_n 0, 1) := by decide +kernel
theorem dX13_trace_1 : decode cX13_trace 1 = .ok (.iconst 0, 1) := by decide +kernel
theorem dX13_trace_2 : decode cX13_trace 2 = .ok (.putfield 53, 3) := by decide +kernel
theorem dX13_trace_5 : decode cX13_trace 5 = .ok (.aload_n 0, 1) := by decide +kernel
theorem dX13_trace_6 : decode cX13_trace 6 = .ok (.getfield 225, 3) := by decide +kernel
theorem dX13_trace_9 : decode cX13_trace 9 = .ok (.lreturn, 1) := by decide +kernel
