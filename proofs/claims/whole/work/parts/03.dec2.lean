theorem dX12_init_0 : decode cX12_init 0 = .ok (.aload_n 0, 1) := by decide +kernel
theorem dX12_init_1 : decode cX12_init 1 = .ok (.invokespecial 1, 3) := by decide +kernel
theorem dX12_init_4 : decode cX12_init 4 = .ok (.aload_n 0, 1) := by decide +kernel
theorem dX12_init_5 : decode cX12_init 5 = .ok (.sipush 400, 3) := by decide +kernel
theorem dX12_init_8 : decode cX12_init 8 = .ok (.newarray .int, 2) := by decide +kernel
theorem dX12_init_10 : decode cX12_init 10 = .ok (.putfield 7, 3) := by decide +kernel
theorem dX12_init_13 : decode cX12_init 13 = .ok (.aload_n 0, 1) := by decide +kernel
theorem dX12_init_14 : decode cX12_init 14 = .ok (.sipush 386, 3) := by decide +kernel
theorem dX12_init_17 : decode cX12_init 17 = .ok (.newarray .int, 2) := by decide +kernel
theorem dX12_init_19 : decode cX12_init 19 = .ok (.putfield 13, 3) := by decide +kernel
theorem dX12_init_22 : decode cX12_init 22 = .ok (.aload_n 0, 1) := by decide +kernel
theorem dX12_init_23 : decode cX12_init 23 = .ok (.sipush 772, 3) := by decide +kernel
theorem dX12_init_26 : decode cX12_init 26 = .ok (.newarray .int, 2) := by decide +kernel
theorem dX12_init_28 : decode cX12_init 28 = .ok (.putfield 16, 3) := by decide +kernel
theorem dX12_init_31 : decode cX12_init 31 = .ok (.aload_n 0, 1) := by decide +kernel
theorem dX12_init_32 : decode cX12_init 32 = .ok (.iconst 2, 1) := by decide +kernel
theorem dX12_init_33 : decode cX12_init 33 = .ok (.newarray .boolean, 2) := by decide +kernel
theorem dX12_init_35 : decode cX12_init 35 = .ok (.putfield 19, 3) := by decide +kernel
theorem dX12_init_38 : decode cX12_init 38 = .ok (.aload_n 0, 1) := by decide +kernel
theorem dX12_init_39 : decode cX12_init 39 = .ok (.bipush 6, 2) := by decide +kernel
theorem dX12_init_41 : decode cX12_init 41 = .ok (.newarray .int, 2) := by decide +kernel
theorem dX12_init_43 : decode cX12_init 43 = .ok (.putfield 23, 3) := by decide +kernel
theorem dX12_init_46 : decode cX12_init 46 = .ok (.aload_n 0, 1) := by decide +kernel
theorem dX12_init_47 : decode cX12_init 47 = .ok (.bipush 6, 2) := by decide +kernel
theorem dX12_init_49 : decode cX12_init 49 = .ok (.newarray .int, 2) := by decide +kernel
theorem dX12_init_51 : decode cX12_init 51 = .ok (.putfield 26, 3) := by decide +kernel
theorem dX12_init_54 : decode cX12_init 54 = .ok (.aload_n 0, 1) := by decide +kernel
theorem dX12_init_55 : decode cX12_init 55 = .ok (.bipush 84, 2) := by decide +kernel
theorem dX12_init_57 : decode cX12_init 57 = .ok (.newarray .int, 2) := by decide +kernel
theorem dX12_init_59 : decode cX12_init 59 = .ok (.putfield 29, 3) := by decide +kernel
theorem dX12_init_62 : decode cX12_init 62 = .ok (.aload_n 0, 1) := by decide +kernel
theorem dX12_init_63 : decode cX12_init 63 = .ok (.bipush 6, 2) := by decide +kernel
theorem dX12_init_65 : decode cX12_init 65 = .ok (.newarray .int, 2) := by decide +kernel
theorem dX12_init_67 : decode cX12_init 67 = .ok (.putfield 32, 3) := by decide +kernel
theorem dX12_init_70 : decode cX12_init 70 = .ok (.aload_n 0, 1) := by decide +kernel
theorem dX12_init_71 : decode cX12_init 71 = .ok (.bipush 6, 2) := by decide +kernel
theorem dX12_init_73 : decode cX12_init 73 = .ok (.newarray .int, 2) := by decide +kernel
theorem dX12_init_75 : decode cX12_init 75 = .ok (.putfield 35, 3) := by decide +kernel
theorem dX12_init_78 : decode cX12_init 78 = .ok (.aload_n 0, 1) := by decide +kernel
theorem dX12_init_79 : decode cX12_init 79 = .ok (.iconst 4, 1) := by decide +kernel
theorem dX12_init_80 : decode cX12_init 80 = .ok (.newarray .int, 2) := by decide +kernel
theorem dX12_init_82 : decode cX12_init 82 = .ok (.putfield 38, 3) := by decide +kernel
theorem dX12_init_85 : decode cX12_init 85 = .ok (.aload_n 0, 1) := by decide +kernel
theorem dX12_init_86 : decode cX12_init 86 = .ok (.bipush 7, 2) := by decide +kernel
theorem dX12_init_88 : decode cX12_init 88 = .ok (.newarray .int, 2) := by decide +kernel
theorem dX12_init_90 : decode cX12_init 90 = .ok (.putfield 41, 3) := by decide +kernel
theorem dX12_init_93 : decode cX12_init 93 = .ok (.aload_n 0, 1) := by decide +kernel
theorem dX12_init_94 : decode cX12_init 94 = .ok (.bipush 24, 2) := by decide +kernel
theorem dX12_init_96 : decode cX12_init 96 = .ok (.newarray .int, 2) := by decide +kernel
theorem dX12_init_98 : decode cX12_init 98 = .ok (.putfield 44, 3) := by decide +kernel
theorem dX12_init_101 : decode cX12_init 101 = .ok (.aload_n 0, 1) := by decide +kernel
theorem dX12_init_102 : decode cX12_init 102 = .ok (.bipush 12, 2) := by decide +kernel
theorem dX12_init_104 : decode cX12_init 104 = .ok (.newarray .int, 2) := by decide +kernel
theorem dX12_init_106 : decode cX12_init 106 = .ok (.putfield 47, 3) := by decide +kernel
theorem dX12_init_109 : decode cX12_init 109 = .ok (.aload_n 0, 1) := by decide +kernel
theorem dX12_init_110 : decode cX12_init 110 = .ok (.iconst 5, 1) := by decide +kernel
theorem dX12_init_111 : decode cX12_init 111 = .ok (.newarray .int, 2) := by decide +kernel
theorem dX12_init_113 : decode cX12_init 113 = .ok (.putfield 50, 3) := by decide +kernel
theorem dX12_init_116 : decode cX12_init 116 = .ok (.aload_n 0, 1) := by decide +kernel
theorem dX12_init_117 : decode cX12_init 117 = .ok (.getfield 38, 3) := by decide +kernel
theorem dX12_init_120 : decode cX12_init 120 = .ok (.iconst 0, 1) := by decide +kernel
theorem dX12_init_121 : decode cX12_init 121 = .ok (.iconst 4, 1) := by decide +kernel
theorem dX12_init_122 : decode cX12_init 122 = .ok (.iastore, 1) := by decide +kernel
theorem dX12_init_123 : decode cX12_init 123 = .ok (.aload_n 0, 1) := by decide +kernel
theorem dX12_init_124 : decode cX12_init 124 = .ok (.getfield 38, 3) := by decide +kernel
theorem dX12_init_127 : decode cX12_init 127 = .ok (.iconst 1, 1) := by decide +kernel
theorem dX12_init_128 : decode cX12_init 128 = .ok (.bipush 15, 2) := by decide +kernel
theorem dX12_init_130 : decode cX12_init 130 = .ok (.iastore, 1) := by decide +kernel
theorem dX12_init_131 : decode cX12_init 131 = .ok (.aload_n 0, 1) := by decide +kernel
theorem dX12_init_132 : decode cX12_init 132 = .ok (.getfield 38, 3) := by decide +kernel
theorem dX12_init_135 : decode cX12_init 135 = .ok (.iconst 2, 1) := by decide +kernel
theorem dX12_init_136 : decode cX12_init 136 = .ok (.bipush 10, 2) := by decide +kernel
theorem dX12_init_138 : decode cX12_init 138 = .ok (.iastore, 1) := by decide +kernel
theorem dX12_init_139 : decode cX12_init 139 = .ok (.aload_n 0, 1) := by decide +kernel
theorem dX12_init_140 : decode cX12_init 140 = .ok (.getfield 13, 3) := by decide +kernel
theorem dX12_init_143 : decode cX12_init 143 = .ok (.bipush 84, 2) := by decide +kernel
theorem dX12_init_145 : decode cX12_init 145 = .ok (.iconst 1, 1) := by decide +kernel
theorem dX12_init_146 : decode cX12_init 146 = .ok (.iastore, 1) := by decide +kernel
theorem dX12_init_147 : decode cX12_init 147 = .ok (.return_, 1) := by decide +kernel
theorem dX12_in_0 : decode cX12_in 0 = .ok (.iload_n 0, 1) := by decide +kernel
theorem dX12_in_1 : decode cX12_in 1 = .ok (.iload_n 1, 1) := by decide +kernel
theorem dX12_in_2 : decode cX12_in 2 = .ok (.if_icmp .lt 12, 3) := by decide +kernel
theorem dX12_in_5 : decode cX12_in 5 = .ok (.iload_n 0, 1) := by decide +kernel
theorem dX12_in_6 : decode cX12_in 6 = .ok (.iload_n 2, 1) := by decide +kernel
theorem dX12_in_7 : decode cX12_in 7 = .ok (.if_icmp .gt 7, 3) := by decide +kernel
theorem dX12_in_10 : decode cX12_in 10 = .ok (.iconst 1, 1) := by decide +kernel
theorem dX12_in_11 : decode cX12_in 11 = .ok (.goto 4, 3) := by decide +kernel
theorem dX12_in_14 : decode cX12_in 14 = .ok (.iconst 0, 1) := by decide +kernel
theorem dX12_in_15 : decode cX12_in 15 = .ok (.ireturn, 1) := by decide +kernel
theorem dX12_size_0 : decode cX12_size 0 = .ok (.iload_n 0, 1) := by decide +kernel
theorem dX12_size_1 : decode cX12_size 1 = .ok (.ifCond .ge 8, 3) := by decide +kernel
theorem dX12_size_4 : decode cX12_size 4 = .ok (.iload_n 0, 1) := by decide +kernel
theorem dX12_size_5 : decode cX12_size 5 = .ok (.ineg, 1) := by decide +kernel
theorem dX12_size_6 : decode cX12_size 6 = .ok (.goto 4, 3) := by decide +kernel
theorem dX12_size_9 : decode cX12_size 9 = .ok (.iload_n 0, 1) := by decide +kernel
theorem dX12_size_10 : decode cX12_size 10 = .ok (.ireturn, 1) := by decide +kernel
theorem dX12_type_0 : decode cX12_type 0 = .ok (.aload_n 0, 1) := by decide +kernel
theorem dX12_type_1 : decode cX12_type 1 = .ok (.iconst 0, 1) := by decide +kernel
theorem dX12_type_2 : decode cX12_type 2 = .ok (.putfield 53, 3) := by decide +kernel
theorem dX12_type_5 : decode cX12_type 5 = .ok (.iload_n 3, 1) := by decide +kernel
theorem dX12_type_6 : decode cX12_type 6 = .ok (.iconst 1, 1) := by decide +kernel
theorem dX12_type_7 : decode cX12_type 7 = .ok (.bipush 8, 2) := by decide +kernel
theorem dX12_type_9 : decode cX12_type 9 = .ok (.invokestatic 57, 3) := by decide +kernel
theorem dX12_type_12 : decode cX12_type 12 = .ok (.ifCond .ne 5, 3) := by decide +kernel
theorem dX12_type_15 : decode cX12_type 15 = .ok (.iconst (-1), 1) := by decide +kernel
theorem dX12_type_16 : decode cX12_type 16 = .ok (.ireturn, 1) := by decide +kernel
theorem dX12_type_17 : decode cX12_type 17 = .ok (.aload_n 0, 1) := by decide +kernel
theorem dX12_type_18 : decode cX12_type 18 = .ok (.getfield 61, 3) := by decide +kernel
theorem dX12_type_21 : decode cX12_type 21 = .ok (.iload_n 3, 1) := by decide +kernel
theorem dX12_type_22 : decode cX12_type 22 = .ok (.iadd, 1) := by decide +kernel
theorem dX12_type_23 : decode cX12_type 23 = .ok (.sipush 400, 3) := by decide +kernel
theorem dX12_type_26 : decode cX12_type 26 = .ok (.if_icmp .le 6, 3) := by decide +kernel
theorem dX12_type_29 : decode cX12_type 29 = .ok (.bipush (-3), 2) := by decide +kernel
theorem dX12_type_31 : decode cX12_type 31 = .ok (.ireturn, 1) := by decide +kernel
theorem dX12_type_32 : decode cX12_type 32 = .ok (.iload_n 3, 1) := by decide +kernel
theorem dX12_type_33 : decode cX12_type 33 = .ok (.iconst 1, 1) := by decide +kernel
theorem dX12_type_34 : decode cX12_type 34 = .ok (.isub, 1) := by decide +kernel
theorem dX12_type_35 : decode cX12_type 35 = .ok (.istore 4, 2) := by decide +kernel
theorem dX12_type_37 : decode cX12_type 37 = .ok (.iload 4, 2) := by decide +kernel
theorem dX12_type_39 : decode cX12_type 39 = .ok (.ifCond .lt 40, 3) := by decide +kernel
theorem dX12_type_42 : decode cX12_type 42 = .ok (.aload_n 0, 1) := by decide +kernel
theorem dX12_type_43 : decode cX12_type 43 = .ok (.getfield 7, 3) := by decide +kernel
theorem dX12_type_46 : decode cX12_type 46 = .ok (.aload_n 0, 1) := by decide +kernel
theorem dX12_type_47 : decode cX12_type 47 = .ok (.getfield 61, 3) := by decide +kernel
theorem dX12_type_50 : decode cX12_type 50 = .ok (.lload_n 1, 1) := by decide +kernel
theorem dX12_type_51 : decode cX12_type 51 = .ok (.bipush 8, 2) := by decide +kernel
theorem dX12_type_53 : decode cX12_type 53 = .ok (.iload 4, 2) := by decide +kernel
theorem dX12_type_55 : decode cX12_type 55 = .ok (.imul, 1) := by decide +kernel
theorem dX12_type_56 : decode cX12_type 56 = .ok (.lshr, 1) := by decide +kernel
theorem dX12_type_57 : decode cX12_type 57 = .ok (.ldc2_w 64, 3) := by decide +kernel
theorem dX12_type_60 : decode cX12_type 60 = .ok (.land, 1) := by decide +kernel
theorem dX12_type_61 : decode cX12_type 61 = .ok (.l2i, 1) := by decide +kernel
theorem dX12_type_62 : decode cX12_type 62 = .ok (.iastore, 1) := by decide +kernel
theorem dX12_type_63 : decode cX12_type 63 = .ok (.aload_n 0, 1) := by decide +kernel
theorem dX12_type_64 : decode cX12_type 64 = .ok (.dup, 1) := by decide +kernel
theorem dX12_type_65 : decode cX12_type 65 = .ok (.getfield 61, 3) := by decide +kernel
theorem dX12_type_68 : decode cX12_type 68 = .ok (.iconst 1, 1) := by decide +kernel
theorem dX12_type_69 : decode cX12_type 69 = .ok (.iadd, 1) := by decide +kernel
theorem dX12_type_70 : decode cX12_type 70 = .ok (.putfield 61, 3) := by decide +kernel
theorem dX12_type_73 : decode cX12_type 73 = .ok (.iinc 4 (-1), 3) := by decide +kernel
theorem dX12_type_76 : decode cX12_type 76 = .ok (.goto (-39), 3) := by decide +kernel
theorem dX12_type_79 : decode cX12_type 79 = .ok (.aload_n 0, 1) := by decide +kernel
theorem dX12_type_80 : decode cX12_type 80 = .ok (.getfield 61, 3) := by decide +kernel
theorem dX12_type_83 : decode cX12_type 83 = .ok (.ireturn, 1) := by decide +kernel
theorem dX12_clear_0 : decode cX12_clear 0 = .ok (.aload_n 0, 1) := by decide +kernel
theorem dX12_clear_1 : decode cX12_clear 1 = .ok (.iconst 0, 1) := by decide +kernel
theorem dX12_clear_2 : decode cX12_clear 2 = .ok (.putfield 53, 3) := by decide +kernel
theorem dX12_clear_5 : decode cX12_clear 5 = .ok (.aload_n 0, 1) := by decide +kernel
theorem dX12_clear_6 : decode cX12_clear 6 = .ok (.getfield 61, 3) := by decide +kernel
theorem dX12_clear_9 : decode cX12_clear 9 = .ok (.istore_n 1, 1) := by decide +kernel
theorem dX12_clear_10 : decode cX12_clear 10 = .ok (.aload_n 0, 1) := by decide +kernel
theorem dX12_clear_11 : decode cX12_clear 11 = .ok (.iconst 0, 1) := by decide +kernel
theorem dX12_clear_12 : decode cX12_clear 12 = .ok (.putfield 61, 3) := by decide +kernel
theorem dX12_clear_15 : decode cX12_clear 15 = .ok (.iload_n 1, 1) := by decide +kernel
theorem dX12_clear_16 : decode cX12_clear 16 = .ok (.ireturn, 1) := by decide +kernel
theorem dX12_byteAt_0 : decode cX12_byteAt 0 = .ok (.iload_n 1, 1) := by decide +kernel
theorem dX12_byteAt_1 : decode cX12_byteAt 1 = .ok (.aload_n 0, 1) := by decide +kernel
theorem dX12_byteAt_2 : decode cX12_byteAt 2 = .ok (.getfield 61, 3) := by decide +kernel
theorem dX12_byteAt_5 : decode cX12_byteAt 5 = .ok (.if_icmp .ge 12, 3) := by decide +kernel
theorem dX12_byteAt_8 : decode cX12_byteAt 8 = .ok (.aload_n 0, 1) := by decide +kernel
theorem dX12_byteAt_9 : decode cX12_byteAt 9 = .ok (.getfield 7, 3) := by decide +kernel
theorem dX12_byteAt_12 : decode cX12_byteAt 12 = .ok (.iload_n 1, 1) := by decide +kernel
theorem dX12_byteAt_13 : decode cX12_byteAt 13 = .ok (.iaload, 1) := by decide +kernel
theorem dX12_byteAt_14 : decode cX12_byteAt 14 = .ok (.goto 4, 3) := by decide +kernel
theorem dX12_byteAt_17 : decode cX12_byteAt 17 = .ok (.iconst (-1), 1) := by decide +kernel
theorem dX12_byteAt_18 : decode cX12_byteAt 18 = .ok (.ireturn, 1) := by decide +kernel
theorem dX12_add_0 : decode cX12_add 0 = .ok (.iload_n 2, 1) := by decide +kernel
theorem dX12_add_1 : decode cX12_add 1 = .ok (.ifCond .ne 7, 3) := by decide +kernel
theorem dX12_add_4 : decode cX12_add 4 = .ok (.lload_n 0, 1) := by decide +kernel
theorem dX12_add_5 : decode cX12_add 5 = .ok (.goto 11, 3) := by decide +kernel
theorem dX12_add_8 : decode cX12_add 8 = .ok (.ldc2_w 66, 3) := by decide +kernel
theorem dX12_add_11 : decode cX12_add 11 = .ok (.lload_n 0, 1) := by decide +kernel
theorem dX12_add_12 : decode cX12_add 12 = .ok (.lmul, 1) := by decide +kernel
theorem dX12_add_13 : decode cX12_add 13 = .ok (.iload_n 2, 1) := by decide +kernel
theorem dX12_add_14 : decode cX12_add 14 = .ok (.i2l, 1) := by decide +kernel
theorem dX12_add_15 : decode cX12_add 15 = .ok (.ladd, 1) := by decide +kernel
theorem dX12_add_16 : decode cX12_add 16 = .ok (.lreturn, 1) := by decide +kernel
theorem dX12_named_0 : decode cX12_named 0 = .ok (.lconst 0, 1) := by decide +kernel
theorem dX12_named_1 : decode cX12_named 1 = .ok (.iload_n 0, 1) := by decide +kernel
theorem dX12_named_2 : decode cX12_named 2 = .ok (.invokestatic 68, 3) := by decide +kernel
theorem dX12_named_5 : decode cX12_named 5 = .ok (.iload_n 1, 1) := by decide +kernel
theorem dX12_named_6 : decode cX12_named 6 = .ok (.invokestatic 68, 3) := by decide +kernel
theorem dX12_named_9 : decode cX12_named 9 = .ok (.iload_n 2, 1) := by decide +kernel
theorem dX12_named_10 : decode cX12_named 10 = .ok (.invokestatic 68, 3) := by decide +kernel
theorem dX12_named_13 : decode cX12_named 13 = .ok (.iload_n 3, 1) := by decide +kernel
theorem dX12_named_14 : decode cX12_named 14 = .ok (.invokestatic 68, 3) := by decide +kernel
theorem dX12_named_17 : decode cX12_named 17 = .ok (.iload 4, 2) := by decide +kernel
theorem dX12_named_19 : decode cX12_named 19 = .ok (.invokestatic 68, 3) := by decide +kernel
theorem dX12_named_22 : decode cX12_named 22 = .ok (.iload 5, 2) := by decide +kernel
theorem dX12_named_24 : decode cX12_named 24 = .ok (.invokestatic 68, 3) := by decide +kernel
theorem dX12_named_27 : decode cX12_named 27 = .ok (.lreturn, 1) := by decide +kernel
theorem dX12_wordOf_0 : decode cX12_wordOf 0 = .ok (.lload_n 0, 1) := by decide +kernel
theorem dX12_wordOf_1 : decode cX12_wordOf 1 = .ok (.bipush 115, 2) := by decide +kernel
theorem dX12_wordOf_3 : decode cX12_wordOf 3 = .ok (.bipush 116, 2) := by decide +kernel
theorem dX12_wordOf_5 : decode cX12_wordOf 5 = .ok (.bipush 105, 2) := by decide +kernel
theorem dX12_wordOf_7 : decode cX12_wordOf 7 = .ok (.bipush 99, 2) := by decide +kernel
theorem dX12_wordOf_9 : decode cX12_wordOf 9 = .ok (.bipush 107, 2) := by decide +kernel
theorem dX12_wordOf_11 : decode cX12_wordOf 11 = .ok (.iconst 0, 1) := by decide +kernel
theorem dX12_wordOf_12 : decode cX12_wordOf 12 = .ok (.invokestatic 72, 3) := by decide +kernel
theorem dX12_wordOf_15 : decode cX12_wordOf 15 = .ok (.lcmp, 1) := by decide +kernel
theorem dX12_wordOf_16 : decode cX12_wordOf 16 = .ok (.ifCond .ne 7, 3) := by decide +kernel
theorem dX12_wordOf_19 : decode cX12_wordOf 19 = .ok (.iconst 0, 1) := by decide +kernel
theorem dX12_wordOf_20 : decode cX12_wordOf 20 = .ok (.goto 50, 3) := by decide +kernel
theorem dX12_wordOf_23 : decode cX12_wordOf 23 = .ok (.lload_n 0, 1) := by decide +kernel
theorem dX12_wordOf_24 : decode cX12_wordOf 24 = .ok (.bipush 98, 2) := by decide +kernel
theorem dX12_wordOf_26 : decode cX12_wordOf 26 = .ok (.bipush 111, 2) := by decide +kernel
theorem dX12_wordOf_28 : decode cX12_wordOf 28 = .ok (.bipush 119, 2) := by decide +kernel
theorem dX12_wordOf_30 : decode cX12_wordOf 30 = .ok (.iconst 0, 1) := by decide +kernel
theorem dX12_wordOf_31 : decode cX12_wordOf 31 = .ok (.iconst 0, 1) := by decide +kernel
theorem dX12_wordOf_32 : decode cX12_wordOf 32 = .ok (.iconst 0, 1) := by decide +kernel
theorem dX12_wordOf_33 : decode cX12_wordOf 33 = .ok (.invokestatic 72, 3) := by decide +kernel
theorem dX12_wordOf_36 : decode cX12_wordOf 36 = .ok (.lcmp, 1) := by decide +kernel
theorem dX12_wordOf_37 : decode cX12_wordOf 37 = .ok (.ifCond .ne 7, 3) := by decide +kernel
theorem dX12_wordOf_40 : decode cX12_wordOf 40 = .ok (.iconst 1, 1) := by decide +kernel
theorem dX12_wordOf_41 : decode cX12_wordOf 41 = .ok (.goto 29, 3) := by decide +kernel
theorem dX12_wordOf_44 : decode cX12_wordOf 44 = .ok (.lload_n 0, 1) := by decide +kernel
theorem dX12_wordOf_45 : decode cX12_wordOf 45 = .ok (.bipush 97, 2) := by decide +kernel
theorem dX12_wordOf_47 : decode cX12_wordOf 47 = .ok (.bipush 114, 2) := by decide +kernel
theorem dX12_wordOf_49 : decode cX12_wordOf 49 = .ok (.bipush 99, 2) := by decide +kernel
theorem dX12_wordOf_51 : decode cX12_wordOf 51 = .ok (.bipush 104, 2) := by decide +kernel
theorem dX12_wordOf_53 : decode cX12_wordOf 53 = .ok (.bipush 101, 2) := by decide +kernel
theorem dX12_wordOf_55 : decode cX12_wordOf 55 = .ok (.bipush 114, 2) := by decide +kernel
theorem dX12_wordOf_57 : decode cX12_wordOf 57 = .ok (.invokestatic 72, 3) := by decide +kernel
theorem dX12_wordOf_60 : decode cX12_wordOf 60 = .ok (.lcmp, 1) := by decide +kernel
theorem dX12_wordOf_61 : decode cX12_wordOf 61 = .ok (.ifCond .ne 7, 3) := by decide +kernel
theorem dX12_wordOf_64 : decode cX12_wordOf 64 = .ok (.iconst 2, 1) := by decide +kernel
theorem dX12_wordOf_65 : decode cX12_wordOf 65 = .ok (.goto 5, 3) := by decide +kernel
theorem dX12_wordOf_68 : decode cX12_wordOf 68 = .ok (.bipush (-9), 2) := by decide +kernel
theorem dX12_wordOf_70 : decode cX12_wordOf 70 = .ok (.istore_n 2, 1) := by decide +kernel
theorem dX12_wordOf_71 : decode cX12_wordOf 71 = .ok (.iload_n 2, 1) := by decide +kernel
theorem dX12_wordOf_72 : decode cX12_wordOf 72 = .ok (.bipush (-9), 2) := by decide +kernel
theorem dX12_wordOf_74 : decode cX12_wordOf 74 = .ok (.if_icmp .eq 7, 3) := by decide +kernel
theorem dX12_wordOf_77 : decode cX12_wordOf 77 = .ok (.iload_n 2, 1) := by decide +kernel
theorem dX12_wordOf_78 : decode cX12_wordOf 78 = .ok (.goto 50, 3) := by decide +kernel
theorem dX12_wordOf_81 : decode cX12_wordOf 81 = .ok (.lload_n 0, 1) := by decide +kernel
theorem dX12_wordOf_82 : decode cX12_wordOf 82 = .ok (.bipush 108, 2) := by decide +kernel
theorem dX12_wordOf_84 : decode cX12_wordOf 84 = .ok (.bipush 101, 2) := by decide +kernel
theorem dX12_wordOf_86 : decode cX12_wordOf 86 = .ok (.bipush 102, 2) := by decide +kernel
theorem dX12_wordOf_88 : decode cX12_wordOf 88 = .ok (.bipush 116, 2) := by decide +kernel
theorem dX12_wordOf_90 : decode cX12_wordOf 90 = .ok (.iconst 0, 1) := by decide +kernel
theorem dX12_wordOf_91 : decode cX12_wordOf 91 = .ok (.iconst 0, 1) := by decide +kernel
theorem dX12_wordOf_92 : decode cX12_wordOf 92 = .ok (.invokestatic 72, 3) := by decide +kernel
theorem dX12_wordOf_95 : decode cX12_wordOf 95 = .ok (.lcmp, 1) := by decide +kernel
theorem dX12_wordOf_96 : decode cX12_wordOf 96 = .ok (.ifCond .ne 7, 3) := by decide +kernel
theorem dX12_wordOf_99 : decode cX12_wordOf 99 = .ok (.iconst 3, 1) := by decide +kernel
theorem dX12_wordOf_100 : decode cX12_wordOf 100 = .ok (.goto 28, 3) := by decide +kernel
theorem dX12_wordOf_103 : decode cX12_wordOf 103 = .ok (.lload_n 0, 1) := by decide +kernel
theorem dX12_wordOf_104 : decode cX12_wordOf 104 = .ok (.bipush 114, 2) := by decide +kernel
theorem dX12_wordOf_106 : decode cX12_wordOf 106 = .ok (.bipush 105, 2) := by decide +kernel
theorem dX12_wordOf_108 : decode cX12_wordOf 108 = .ok (.bipush 103, 2) := by decide +kernel
theorem dX12_wordOf_110 : decode cX12_wordOf 110 = .ok (.bipush 104, 2) := by decide +kernel
theorem dX12_wordOf_112 : decode cX12_wordOf 112 = .ok (.bipush 116, 2) := by decide +kernel
theorem dX12_wordOf_114 : decode cX12_wordOf 114 = .ok (.iconst 0, 1) := by decide +kernel
theorem dX12_wordOf_115 : decode cX12_wordOf 115 = .ok (.invokestatic 72, 3) := by decide +kernel
theorem dX12_wordOf_118 : decode cX12_wordOf 118 = .ok (.lcmp, 1) := by decide +kernel
theorem dX12_wordOf_119 : decode cX12_wordOf 119 = .ok (.ifCond .ne 7, 3) := by decide +kernel
theorem dX12_wordOf_122 : decode cX12_wordOf 122 = .ok (.iconst 4, 1) := by decide +kernel
theorem dX12_wordOf_123 : decode cX12_wordOf 123 = .ok (.goto 5, 3) := by decide +kernel
theorem dX12_wordOf_126 : decode cX12_wordOf 126 = .ok (.bipush (-9), 2) := by decide +kernel
theorem dX12_wordOf_128 : decode cX12_wordOf 128 = .ok (.ireturn, 1) := by decide +kernel
theorem dX12_advances_0 : decode cX12_advances 0 = .ok (.aload_n 0, 1) := by decide +kernel
theorem dX12_advances_1 : decode cX12_advances 1 = .ok (.aload_n 0, 1) := by decide +kernel
theorem dX12_advances_2 : decode cX12_advances 2 = .ok (.getfield 76, 3) := by decide +kernel
theorem dX12_advances_5 : decode cX12_advances 5 = .ok (.invokevirtual 79, 3) := by decide +kernel
theorem dX12_advances_8 : decode cX12_advances 8 = .ok (.bipush 32, 2) := by decide +kernel
theorem dX12_advances_10 : decode cX12_advances 10 = .ok (.if_icmp .ne 16, 3) := by decide +kernel
theorem dX12_advances_13 : decode cX12_advances 13 = .ok (.aload_n 0, 1) := by decide +kernel
theorem dX12_advances_14 : decode cX12_advances 14 = .ok (.dup, 1) := by decide +kernel
theorem dX12_advances_15 : decode cX12_advances 15 = .ok (.getfield 76, 3) := by decide +kernel
theorem dX12_advances_18 : decode cX12_advances 18 = .ok (.iconst 1, 1) := by decide +kernel
theorem dX12_advances_19 : decode cX12_advances 19 = .ok (.iadd, 1) := by decide +kernel
theorem dX12_advances_20 : decode cX12_advances 20 = .ok (.putfield 76, 3) := by decide +kernel
theorem dX12_advances_23 : decode cX12_advances 23 = .ok (.goto (-23), 3) := by decide +kernel
theorem dX12_advances_26 : decode cX12_advances 26 = .ok (.aload_n 0, 1) := by decide +kernel
theorem dX12_advances_27 : decode cX12_advances 27 = .ok (.aload_n 0, 1) := by decide +kernel
theorem dX12_advances_28 : decode cX12_advances 28 = .ok (.getfield 76, 3) := by decide +kernel
theorem dX12_advances_31 : decode cX12_advances 31 = .ok (.putfield 83, 3) := by decide +kernel
theorem dX12_advances_34 : decode cX12_advances 34 = .ok (.aload_n 0, 1) := by decide +kernel
theorem dX12_advances_35 : decode cX12_advances 35 = .ok (.aload_n 0, 1) := by decide +kernel
theorem dX12_advances_36 : decode cX12_advances 36 = .ok (.getfield 76, 3) := by decide +kernel
theorem dX12_advances_39 : decode cX12_advances 39 = .ok (.invokevirtual 79, 3) := by decide +kernel
theorem dX12_advances_42 : decode cX12_advances 42 = .ok (.istore_n 1, 1) := by decide +kernel
theorem dX12_advances_43 : decode cX12_advances 43 = .ok (.iload_n 1, 1) := by decide +kernel
theorem dX12_advances_44 : decode cX12_advances 44 = .ok (.ifCond .ge 11, 3) := by decide +kernel
theorem dX12_advances_47 : decode cX12_advances 47 = .ok (.aload_n 0, 1) := by decide +kernel
theorem dX12_advances_48 : decode cX12_advances 48 = .ok (.iconst 0, 1) := by decide +kernel
theorem dX12_advances_49 : decode cX12_advances 49 = .ok (.putfield 86, 3) := by decide +kernel
theorem dX12_advances_52 : decode cX12_advances 52 = .ok (.goto 260, 3) := by decide +kernel
theorem dX12_advances_55 : decode cX12_advances 55 = .ok (.iload_n 1, 1) := by decide +kernel
theorem dX12_advances_56 : decode cX12_advances 56 = .ok (.bipush 97, 2) := by decide +kernel
theorem dX12_advances_58 : decode cX12_advances 58 = .ok (.bipush 122, 2) := by decide +kernel
theorem dX12_advances_60 : decode cX12_advances 60 = .ok (.invokestatic 57, 3) := by decide +kernel
theorem dX12_advances_63 : decode cX12_advances 63 = .ok (.ifCond .eq 96, 3) := by decide +kernel
theorem dX12_advances_66 : decode cX12_advances 66 = .ok (.lconst 0, 1) := by decide +kernel
theorem dX12_advances_67 : decode cX12_advances 67 = .ok (.lstore_n 2, 1) := by decide +kernel
theorem dX12_advances_68 : decode cX12_advances 68 = .ok (.aload_n 0, 1) := by decide +kernel
theorem dX12_advances_69 : decode cX12_advances 69 = .ok (.aload_n 0, 1) := by decide +kernel
theorem dX12_advances_70 : decode cX12_advances 70 = .ok (.getfield 76, 3) := by decide +kernel
theorem dX12_advances_73 : decode cX12_advances 73 = .ok (.invokevirtual 79, 3) := by decide +kernel
theorem dX12_advances_76 : decode cX12_advances 76 = .ok (.bipush 97, 2) := by decide +kernel
theorem dX12_advances_78 : decode cX12_advances 78 = .ok (.bipush 122, 2) := by decide +kernel
theorem dX12_advances_80 : decode cX12_advances 80 = .ok (.invokestatic 57, 3) := by decide +kernel
theorem dX12_advances_83 : decode cX12_advances 83 = .ok (.ifCond .eq 47, 3) := by decide +kernel
theorem dX12_advances_86 : decode cX12_advances 86 = .ok (.aload_n 0, 1) := by decide +kernel
theorem dX12_advances_87 : decode cX12_advances 87 = .ok (.getfield 76, 3) := by decide +kernel
theorem dX12_advances_90 : decode cX12_advances 90 = .ok (.aload_n 0, 1) := by decide +kernel
theorem dX12_advances_91 : decode cX12_advances 91 = .ok (.getfield 83, 3) := by decide +kernel
theorem dX12_advances_94 : decode cX12_advances 94 = .ok (.isub, 1) := by decide +kernel
theorem dX12_advances_95 : decode cX12_advances 95 = .ok (.bipush 7, 2) := by decide +kernel
theorem dX12_advances_97 : decode cX12_advances 97 = .ok (.if_icmp .ge 18, 3) := by decide +kernel
theorem dX12_advances_100 : decode cX12_advances 100 = .ok (.lload_n 2, 1) := by decide +kernel
theorem dX12_advances_101 : decode cX12_advances 101 = .ok (.aload_n 0, 1) := by decide +kernel
theorem dX12_advances_102 : decode cX12_advances 102 = .ok (.aload_n 0, 1) := by decide +kernel
theorem dX12_advances_103 : decode cX12_advances 103 = .ok (.getfield 76, 3) := by decide +kernel
theorem dX12_advances_106 : decode cX12_advances 106 = .ok (.invokevirtual 79, 3) := by decide +kernel
theorem dX12_advances_109 : decode cX12_advances 109 = .ok (.invokestatic 68, 3) := by decide +kernel
theorem dX12_advances_112 : decode cX12_advances 112 = .ok (.goto 4, 3) := by decide +kernel
theorem dX12_advances_115 : decode cX12_advances 115 = .ok (.lload_n 2, 1) := by decide +kernel
theorem dX12_advances_116 : decode cX12_advances 116 = .ok (.lstore_n 2, 1) := by decide +kernel
theorem dX12_advances_117 : decode cX12_advances 117 = .ok (.aload_n 0, 1) := by decide +kernel
theorem dX12_advances_118 : decode cX12_advances 118 = .ok (.dup, 1) := by decide +kernel
theorem dX12_advances_119 : decode cX12_advances 119 = .ok (.getfield 76, 3) := by decide +kernel
theorem dX12_advances_122 : decode cX12_advances 122 = .ok (.iconst 1, 1) := by decide +kernel
theorem dX12_advances_123 : decode cX12_advances 123 = .ok (.iadd, 1) := by decide +kernel
theorem dX12_advances_124 : decode cX12_advances 124 = .ok (.putfield 76, 3) := by decide +kernel
theorem dX12_advances_127 : decode cX12_advances 127 = .ok (.goto (-59), 3) := by decide +kernel
theorem dX12_advances_130 : decode cX12_advances 130 = .ok (.aload_n 0, 1) := by decide +kernel
theorem dX12_advances_131 : decode cX12_advances 131 = .ok (.lload_n 2, 1) := by decide +kernel
theorem dX12_advances_132 : decode cX12_advances 132 = .ok (.invokestatic 89, 3) := by decide +kernel
theorem dX12_advances_135 : decode cX12_advances 135 = .ok (.putfield 93, 3) := by decide +kernel
theorem dX12_advances_138 : decode cX12_advances 138 = .ok (.aload_n 0, 1) := by decide +kernel
theorem dX12_advances_139 : decode cX12_advances 139 = .ok (.aload_n 0, 1) := by decide +kernel
theorem dX12_advances_140 : decode cX12_advances 140 = .ok (.getfield 93, 3) := by decide +kernel
theorem dX12_advances_143 : decode cX12_advances 143 = .ok (.bipush (-9), 2) := by decide +kernel
theorem dX12_advances_145 : decode cX12_advances 145 = .ok (.if_icmp .ne 7, 3) := by decide +kernel
theorem dX12_advances_148 : decode cX12_advances 148 = .ok (.iconst 4, 1) := by decide +kernel
theorem dX12_advances_149 : decode cX12_advances 149 = .ok (.goto 4, 3) := by decide +kernel
theorem dX12_advances_152 : decode cX12_advances 152 = .ok (.iconst 1, 1) := by decide +kernel
theorem dX12_advances_153 : decode cX12_advances 153 = .ok (.putfield 86, 3) := by decide +kernel
theorem dX12_advances_156 : decode cX12_advances 156 = .ok (.goto 156, 3) := by decide +kernel
theorem dX12_advances_159 : decode cX12_advances 159 = .ok (.iload_n 1, 1) := by decide +kernel
theorem dX12_advances_160 : decode cX12_advances 160 = .ok (.bipush 48, 2) := by decide +kernel
theorem dX12_advances_162 : decode cX12_advances 162 = .ok (.bipush 57, 2) := by decide +kernel
theorem dX12_advances_164 : decode cX12_advances 164 = .ok (.invokestatic 57, 3) := by decide +kernel
theorem dX12_advances_167 : decode cX12_advances 167 = .ok (.ifCond .eq 120, 3) := by decide +kernel
theorem dX12_advances_170 : decode cX12_advances 170 = .ok (.aload_n 0, 1) := by decide +kernel
theorem dX12_advances_171 : decode cX12_advances 171 = .ok (.iconst 0, 1) := by decide +kernel
theorem dX12_advances_172 : decode cX12_advances 172 = .ok (.putfield 93, 3) := by decide +kernel
theorem dX12_advances_175 : decode cX12_advances 175 = .ok (.aload_n 0, 1) := by decide +kernel
theorem dX12_advances_176 : decode cX12_advances 176 = .ok (.aload_n 0, 1) := by decide +kernel
theorem dX12_advances_177 : decode cX12_advances 177 = .ok (.getfield 76, 3) := by decide +kernel
theorem dX12_advances_180 : decode cX12_advances 180 = .ok (.invokevirtual 79, 3) := by decide +kernel
theorem dX12_advances_183 : decode cX12_advances 183 = .ok (.bipush 48, 2) := by decide +kernel
theorem dX12_advances_185 : decode cX12_advances 185 = .ok (.bipush 57, 2) := by decide +kernel
theorem dX12_advances_187 : decode cX12_advances 187 = .ok (.invokestatic 57, 3) := by decide +kernel
theorem dX12_advances_190 : decode cX12_advances 190 = .ok (.ifCond .eq 56, 3) := by decide +kernel
theorem dX12_advances_193 : decode cX12_advances 193 = .ok (.aload_n 0, 1) := by decide +kernel
theorem dX12_advances_194 : decode cX12_advances 194 = .ok (.aload_n 0, 1) := by decide +kernel
theorem dX12_advances_195 : decode cX12_advances 195 = .ok (.getfield 93, 3) := by decide +kernel
theorem dX12_advances_198 : decode cX12_advances 198 = .ok (.sipush 999, 3) := by decide +kernel
theorem dX12_advances_201 : decode cX12_advances 201 = .ok (.if_icmp .le 10, 3) := by decide +kernel
theorem dX12_advances_204 : decode cX12_advances 204 = .ok (.aload_n 0, 1) := by decide +kernel
theorem dX12_advances_205 : decode cX12_advances 205 = .ok (.getfield 93, 3) := by decide +kernel
theorem dX12_advances_208 : decode cX12_advances 208 = .ok (.goto 22, 3) := by decide +kernel
theorem dX12_advances_211 : decode cX12_advances 211 = .ok (.bipush 10, 2) := by decide +kernel
theorem dX12_advances_213 : decode cX12_advances 213 = .ok (.aload_n 0, 1) := by decide +kernel
theorem dX12_advances_214 : decode cX12_advances 214 = .ok (.getfield 93, 3) := by decide +kernel
theorem dX12_advances_217 : decode cX12_advances 217 = .ok (.imul, 1) := by decide +kernel
theorem dX12_advances_218 : decode cX12_advances 218 = .ok (.aload_n 0, 1) := by decide +kernel
theorem dX12_advances_219 : decode cX12_advances 219 = .ok (.aload_n 0, 1) := by decide +kernel
theorem dX12_advances_220 : decode cX12_advances 220 = .ok (.getfield 76, 3) := by decide +kernel
theorem dX12_advances_223 : decode cX12_advances 223 = .ok (.invokevirtual 79, 3) := by decide +kernel
theorem dX12_advances_226 : decode cX12_advances 226 = .ok (.iadd, 1) := by decide +kernel
theorem dX12_advances_227 : decode cX12_advances 227 = .ok (.bipush 48, 2) := by decide +kernel
theorem dX12_advances_229 : decode cX12_advances 229 = .ok (.isub, 1) := by decide +kernel
theorem dX12_advances_230 : decode cX12_advances 230 = .ok (.putfield 93, 3) := by decide +kernel
theorem dX12_advances_233 : decode cX12_advances 233 = .ok (.aload_n 0, 1) := by decide +kernel
theorem dX12_advances_234 : decode cX12_advances 234 = .ok (.dup, 1) := by decide +kernel
theorem dX12_advances_235 : decode cX12_advances 235 = .ok (.getfield 76, 3) := by decide +kernel
theorem dX12_advances_238 : decode cX12_advances 238 = .ok (.iconst 1, 1) := by decide +kernel
theorem dX12_advances_239 : decode cX12_advances 239 = .ok (.iadd, 1) := by decide +kernel
theorem dX12_advances_240 : decode cX12_advances 240 = .ok (.putfield 76, 3) := by decide +kernel
theorem dX12_advances_243 : decode cX12_advances 243 = .ok (.goto (-68), 3) := by decide +kernel
theorem dX12_advances_246 : decode cX12_advances 246 = .ok (.aload_n 0, 1) := by decide +kernel
theorem dX12_advances_247 : decode cX12_advances 247 = .ok (.aload_n 0, 1) := by decide +kernel
theorem dX12_advances_248 : decode cX12_advances 248 = .ok (.getfield 93, 3) := by decide +kernel
theorem dX12_advances_251 : decode cX12_advances 251 = .ok (.sipush 999, 3) := by decide +kernel
theorem dX12_advances_254 : decode cX12_advances 254 = .ok (.if_icmp .gt 22, 3) := by decide +kernel
theorem dX12_advances_257 : decode cX12_advances 257 = .ok (.iload_n 1, 1) := by decide +kernel
theorem dX12_advances_258 : decode cX12_advances 258 = .ok (.bipush 48, 2) := by decide +kernel
theorem dX12_advances_260 : decode cX12_advances 260 = .ok (.if_icmp .ne 20, 3) := by decide +kernel
theorem dX12_advances_263 : decode cX12_advances 263 = .ok (.aload_n 0, 1) := by decide +kernel
theorem dX12_advances_264 : decode cX12_advances 264 = .ok (.getfield 76, 3) := by decide +kernel
theorem dX12_advances_267 : decode cX12_advances 267 = .ok (.aload_n 0, 1) := by decide +kernel
theorem dX12_advances_268 : decode cX12_advances 268 = .ok (.getfield 83, 3) := by decide +kernel
theorem dX12_advances_271 : decode cX12_advances 271 = .ok (.isub, 1) := by decide +kernel
theorem dX12_advances_272 : decode cX12_advances 272 = .ok (.iconst 1, 1) := by decide +kernel
theorem dX12_advances_273 : decode cX12_advances 273 = .ok (.if_icmp .le 7, 3) := by decide +kernel
theorem dX12_advances_276 : decode cX12_advances 276 = .ok (.iconst 4, 1) := by decide +kernel
theorem dX12_advances_277 : decode cX12_advances 277 = .ok (.goto 4, 3) := by decide +kernel
theorem dX12_advances_280 : decode cX12_advances 280 = .ok (.iconst 2, 1) := by decide +kernel
theorem dX12_advances_281 : decode cX12_advances 281 = .ok (.putfield 86, 3) := by decide +kernel
theorem dX12_advances_284 : decode cX12_advances 284 = .ok (.goto 28, 3) := by decide +kernel
theorem dX12_advances_287 : decode cX12_advances 287 = .ok (.aload_n 0, 1) := by decide +kernel
theorem dX12_advances_288 : decode cX12_advances 288 = .ok (.dup, 1) := by decide +kernel
theorem dX12_advances_289 : decode cX12_advances 289 = .ok (.getfield 76, 3) := by decide +kernel
theorem dX12_advances_292 : decode cX12_advances 292 = .ok (.iconst 1, 1) := by decide +kernel
theorem dX12_advances_293 : decode cX12_advances 293 = .ok (.iadd, 1) := by decide +kernel
theorem dX12_advances_294 : decode cX12_advances 294 = .ok (.putfield 76, 3) := by decide +kernel
theorem dX12_advances_297 : decode cX12_advances 297 = .ok (.aload_n 0, 1) := by decide +kernel
theorem dX12_advances_298 : decode cX12_advances 298 = .ok (.iload_n 1, 1) := by decide +kernel
theorem dX12_advances_299 : decode cX12_advances 299 = .ok (.bipush 59, 2) := by decide +kernel
theorem dX12_advances_301 : decode cX12_advances 301 = .ok (.if_icmp .ne 7, 3) := by decide +kernel
theorem dX12_advances_304 : decode cX12_advances 304 = .ok (.iconst 3, 1) := by decide +kernel
theorem dX12_advances_305 : decode cX12_advances 305 = .ok (.goto 4, 3) := by decide +kernel
theorem dX12_advances_308 : decode cX12_advances 308 = .ok (.iconst 4, 1) := by decide +kernel
theorem dX12_advances_309 : decode cX12_advances 309 = .ok (.putfield 86, 3) := by decide +kernel
theorem dX12_advances_312 : decode cX12_advances 312 = .ok (.return_, 1) := by decide +kernel
theorem dX12_isWell_0 : decode cX12_isWell 0 = .ok (.aload_n 0, 1) := by decide +kernel
theorem dX12_isWell_1 : decode cX12_isWell 1 = .ok (.getfield 96, 3) := by decide +kernel
theorem dX12_isWell_4 : decode cX12_isWell 4 = .ok (.ifCond .ge 7, 3) := by decide +kernel
theorem dX12_isWell_7 : decode cX12_isWell 7 = .ok (.iconst 1, 1) := by decide +kernel
theorem dX12_isWell_8 : decode cX12_isWell 8 = .ok (.goto 4, 3) := by decide +kernel
theorem dX12_isWell_11 : decode cX12_isWell 11 = .ok (.iconst 0, 1) := by decide +kernel
theorem dX12_isWell_12 : decode cX12_isWell 12 = .ok (.ireturn, 1) := by decide +kernel
theorem dX12_takes_0 : decode cX12_takes 0 = .ok (.aload_n 0, 1) := by decide +kernel
theorem dX12_takes_1 : decode cX12_takes 1 = .ok (.invokevirtual 99, 3) := by decide +kernel
theorem dX12_takes_4 : decode cX12_takes 4 = .ok (.ifCond .ne 5, 3) := by decide +kernel
theorem dX12_takes_7 : decode cX12_takes 7 = .ok (.iconst 0, 1) := by decide +kernel
theorem dX12_takes_8 : decode cX12_takes 8 = .ok (.ireturn, 1) := by decide +kernel
theorem dX12_takes_9 : decode cX12_takes 9 = .ok (.iload_n 1, 1) := by decide +kernel
theorem dX12_takes_10 : decode cX12_takes 10 = .ok (.ifCond .ne 13, 3) := by decide +kernel
theorem dX12_takes_13 : decode cX12_takes 13 = .ok (.aload_n 0, 1) := by decide +kernel
theorem dX12_takes_14 : decode cX12_takes 14 = .ok (.aload_n 0, 1) := by decide +kernel
theorem dX12_takes_15 : decode cX12_takes 15 = .ok (.getfield 83, 3) := by decide +kernel
theorem dX12_takes_18 : decode cX12_takes 18 = .ok (.putfield 96, 3) := by decide +kernel
theorem dX12_takes_21 : decode cX12_takes 21 = .ok (.iconst 0, 1) := by decide +kernel
theorem dX12_takes_22 : decode cX12_takes 22 = .ok (.ireturn, 1) := by decide +kernel
theorem dX12_takes_23 : decode cX12_takes 23 = .ok (.aload_n 0, 1) := by decide +kernel
theorem dX12_takes_24 : decode cX12_takes 24 = .ok (.getfield 93, 3) := by decide +kernel
theorem dX12_takes_27 : decode cX12_takes 27 = .ok (.istore_n 2, 1) := by decide +kernel
theorem dX12_takes_28 : decode cX12_takes 28 = .ok (.aload_n 0, 1) := by decide +kernel
theorem dX12_takes_29 : decode cX12_takes 29 = .ok (.invokevirtual 103, 3) := by decide +kernel
theorem dX12_takes_32 : decode cX12_takes 32 = .ok (.iload_n 2, 1) := by decide +kernel
theorem dX12_takes_33 : decode cX12_takes 33 = .ok (.ireturn, 1) := by decide +kernel
theorem dX12_number_0 : decode cX12_number 0 = .ok (.aload_n 0, 1) := by decide +kernel
theorem dX12_number_1 : decode cX12_number 1 = .ok (.aload_n 0, 1) := by decide +kernel
theorem dX12_number_2 : decode cX12_number 2 = .ok (.getfield 86, 3) := by decide +kernel
theorem dX12_number_5 : decode cX12_number 5 = .ok (.iconst 2, 1) := by decide +kernel
theorem dX12_number_6 : decode cX12_number 6 = .ok (.if_icmp .ne 19, 3) := by decide +kernel
theorem dX12_number_9 : decode cX12_number 9 = .ok (.aload_n 0, 1) := by decide +kernel
theorem dX12_number_10 : decode cX12_number 10 = .ok (.getfield 93, 3) := by decide +kernel
theorem dX12_number_13 : decode cX12_number 13 = .ok (.iload_n 1, 1) := by decide +kernel
theorem dX12_number_14 : decode cX12_number 14 = .ok (.iload_n 2, 1) := by decide +kernel
theorem dX12_number_15 : decode cX12_number 15 = .ok (.invokestatic 57, 3) := by decide +kernel
theorem dX12_number_18 : decode cX12_number 18 = .ok (.ifCond .eq 7, 3) := by decide +kernel
theorem dX12_number_21 : decode cX12_number 21 = .ok (.iconst 1, 1) := by decide +kernel
theorem dX12_number_22 : decode cX12_number 22 = .ok (.goto 4, 3) := by decide +kernel
theorem dX12_number_25 : decode cX12_number 25 = .ok (.iconst 0, 1) := by decide +kernel
theorem dX12_number_26 : decode cX12_number 26 = .ok (.invokevirtual 106, 3) := by decide +kernel
theorem dX12_number_29 : decode cX12_number 29 = .ok (.ireturn, 1) := by decide +kernel
theorem dX12_readsItem_0 : decode cX12_readsItem 0 = .ok (.iload_n 1, 1) := by decide +kernel
theorem dX12_readsItem_1 : decode cX12_readsItem 1 = .ok (.ifCond .ne 134, 3) := by decide +kernel
theorem dX12_readsItem_4 : decode cX12_readsItem 4 = .ok (.bipush 7, 2) := by decide +kernel
theorem dX12_readsItem_6 : decode cX12_readsItem 6 = .ok (.aload_n 0, 1) := by decide +kernel
theorem dX12_readsItem_7 : decode cX12_readsItem 7 = .ok (.getfield 110, 3) := by decide +kernel
theorem dX12_readsItem_10 : decode cX12_readsItem 10 = .ok (.imul, 1) := by decide +kernel
theorem dX12_readsItem_11 : decode cX12_readsItem 11 = .ok (.istore_n 2, 1) := by decide +kernel
theorem dX12_readsItem_12 : decode cX12_readsItem 12 = .ok (.aload_n 0, 1) := by decide +kernel
theorem dX12_readsItem_13 : decode cX12_readsItem 13 = .ok (.getfield 29, 3) := by decide +kernel
theorem dX12_readsItem_16 : decode cX12_readsItem 16 = .ok (.iload_n 2, 1) := by decide +kernel
theorem dX12_readsItem_17 : decode cX12_readsItem 17 = .ok (.iconst 0, 1) := by decide +kernel
theorem dX12_readsItem_18 : decode cX12_readsItem 18 = .ok (.iadd, 1) := by decide +kernel
theorem dX12_readsItem_19 : decode cX12_readsItem 19 = .ok (.aload_n 0, 1) := by decide +kernel
theorem dX12_readsItem_20 : decode cX12_readsItem 20 = .ok (.bipush 80, 2) := by decide +kernel
theorem dX12_readsItem_22 : decode cX12_readsItem 22 = .ok (.sipush 130, 3) := by decide +kernel
theorem dX12_readsItem_25 : decode cX12_readsItem 25 = .ok (.invokevirtual 113, 3) := by decide +kernel
theorem dX12_readsItem_28 : decode cX12_readsItem 28 = .ok (.iastore, 1) := by decide +kernel
theorem dX12_readsItem_29 : decode cX12_readsItem 29 = .ok (.aload_n 0, 1) := by decide +kernel
theorem dX12_readsItem_30 : decode cX12_readsItem 30 = .ok (.getfield 29, 3) := by decide +kernel
theorem dX12_readsItem_33 : decode cX12_readsItem 33 = .ok (.iload_n 2, 1) := by decide +kernel
theorem dX12_readsItem_34 : decode cX12_readsItem 34 = .ok (.iconst 1, 1) := by decide +kernel
theorem dX12_readsItem_35 : decode cX12_readsItem 35 = .ok (.iadd, 1) := by decide +kernel
theorem dX12_readsItem_36 : decode cX12_readsItem 36 = .ok (.aload_n 0, 1) := by decide +kernel
theorem dX12_readsItem_37 : decode cX12_readsItem 37 = .ok (.sipush 200, 3) := by decide +kernel
theorem dX12_readsItem_40 : decode cX12_readsItem 40 = .ok (.sipush 600, 3) := by decide +kernel
theorem dX12_readsItem_43 : decode cX12_readsItem 43 = .ok (.invokevirtual 113, 3) := by decide +kernel
theorem dX12_readsItem_46 : decode cX12_readsItem 46 = .ok (.iastore, 1) := by decide +kernel
theorem dX12_readsItem_47 : decode cX12_readsItem 47 = .ok (.aload_n 0, 1) := by decide +kernel
theorem dX12_readsItem_48 : decode cX12_readsItem 48 = .ok (.getfield 29, 3) := by decide +kernel
theorem dX12_readsItem_51 : decode cX12_readsItem 51 = .ok (.iload_n 2, 1) := by decide +kernel
theorem dX12_readsItem_52 : decode cX12_readsItem 52 = .ok (.iconst 2, 1) := by decide +kernel
theorem dX12_readsItem_53 : decode cX12_readsItem 53 = .ok (.iadd, 1) := by decide +kernel
theorem dX12_readsItem_54 : decode cX12_readsItem 54 = .ok (.aload_n 0, 1) := by decide +kernel
theorem dX12_readsItem_55 : decode cX12_readsItem 55 = .ok (.bipush 20, 2) := by decide +kernel
theorem dX12_readsItem_57 : decode cX12_readsItem 57 = .ok (.bipush 99, 2) := by decide +kernel
theorem dX12_readsItem_59 : decode cX12_readsItem 59 = .ok (.invokevirtual 113, 3) := by decide +kernel
theorem dX12_readsItem_62 : decode cX12_readsItem 62 = .ok (.iastore, 1) := by decide +kernel
theorem dX12_readsItem_63 : decode cX12_readsItem 63 = .ok (.aload_n 0, 1) := by decide +kernel
theorem dX12_readsItem_64 : decode cX12_readsItem 64 = .ok (.getfield 29, 3) := by decide +kernel
theorem dX12_readsItem_67 : decode cX12_readsItem 67 = .ok (.iload_n 2, 1) := by decide +kernel
theorem dX12_readsItem_68 : decode cX12_readsItem 68 = .ok (.iconst 2, 1) := by decide +kernel
theorem dX12_readsItem_69 : decode cX12_readsItem 69 = .ok (.iadd, 1) := by decide +kernel
theorem dX12_readsItem_70 : decode cX12_readsItem 70 = .ok (.iconst 1, 1) := by decide +kernel
theorem dX12_readsItem_71 : decode cX12_readsItem 71 = .ok (.iadd, 1) := by decide +kernel
theorem dX12_readsItem_72 : decode cX12_readsItem 72 = .ok (.aload_n 0, 1) := by decide +kernel
theorem dX12_readsItem_73 : decode cX12_readsItem 73 = .ok (.bipush 20, 2) := by decide +kernel
theorem dX12_readsItem_75 : decode cX12_readsItem 75 = .ok (.bipush 99, 2) := by decide +kernel
theorem dX12_readsItem_77 : decode cX12_readsItem 77 = .ok (.invokevirtual 113, 3) := by decide +kernel
theorem dX12_readsItem_80 : decode cX12_readsItem 80 = .ok (.iastore, 1) := by decide +kernel
theorem dX12_readsItem_81 : decode cX12_readsItem 81 = .ok (.aload_n 0, 1) := by decide +kernel
theorem dX12_readsItem_82 : decode cX12_readsItem 82 = .ok (.getfield 29, 3) := by decide +kernel
theorem dX12_readsItem_85 : decode cX12_readsItem 85 = .ok (.iload_n 2, 1) := by decide +kernel
theorem dX12_readsItem_86 : decode cX12_readsItem 86 = .ok (.iconst 4, 1) := by decide +kernel
theorem dX12_readsItem_87 : decode cX12_readsItem 87 = .ok (.iadd, 1) := by decide +kernel
theorem dX12_readsItem_88 : decode cX12_readsItem 88 = .ok (.aload_n 0, 1) := by decide +kernel
theorem dX12_readsItem_89 : decode cX12_readsItem 89 = .ok (.iconst 0, 1) := by decide +kernel
theorem dX12_readsItem_90 : decode cX12_readsItem 90 = .ok (.sipush 200, 3) := by decide +kernel
theorem dX12_readsItem_93 : decode cX12_readsItem 93 = .ok (.invokevirtual 113, 3) := by decide +kernel
theorem dX12_readsItem_96 : decode cX12_readsItem 96 = .ok (.iastore, 1) := by decide +kernel
theorem dX12_readsItem_97 : decode cX12_readsItem 97 = .ok (.aload_n 0, 1) := by decide +kernel
theorem dX12_readsItem_98 : decode cX12_readsItem 98 = .ok (.getfield 29, 3) := by decide +kernel
theorem dX12_readsItem_101 : decode cX12_readsItem 101 = .ok (.iload_n 2, 1) := by decide +kernel
theorem dX12_readsItem_102 : decode cX12_readsItem 102 = .ok (.iconst 5, 1) := by decide +kernel
theorem dX12_readsItem_103 : decode cX12_readsItem 103 = .ok (.iadd, 1) := by decide +kernel
theorem dX12_readsItem_104 : decode cX12_readsItem 104 = .ok (.aload_n 0, 1) := by decide +kernel
theorem dX12_readsItem_105 : decode cX12_readsItem 105 = .ok (.iconst 0, 1) := by decide +kernel
theorem dX12_readsItem_106 : decode cX12_readsItem 106 = .ok (.bipush 9, 2) := by decide +kernel
theorem dX12_readsItem_108 : decode cX12_readsItem 108 = .ok (.invokevirtual 113, 3) := by decide +kernel
theorem dX12_readsItem_111 : decode cX12_readsItem 111 = .ok (.iastore, 1) := by decide +kernel
theorem dX12_readsItem_112 : decode cX12_readsItem 112 = .ok (.aload_n 0, 1) := by decide +kernel
theorem dX12_readsItem_113 : decode cX12_readsItem 113 = .ok (.getfield 29, 3) := by decide +kernel
theorem dX12_readsItem_116 : decode cX12_readsItem 116 = .ok (.iload_n 2, 1) := by decide +kernel
theorem dX12_readsItem_117 : decode cX12_readsItem 117 = .ok (.bipush 6, 2) := by decide +kernel
theorem dX12_readsItem_119 : decode cX12_readsItem 119 = .ok (.iadd, 1) := by decide +kernel
theorem dX12_readsItem_120 : decode cX12_readsItem 120 = .ok (.iconst 0, 1) := by decide +kernel
theorem dX12_readsItem_121 : decode cX12_readsItem 121 = .ok (.iastore, 1) := by decide +kernel
theorem dX12_readsItem_122 : decode cX12_readsItem 122 = .ok (.aload_n 0, 1) := by decide +kernel
theorem dX12_readsItem_123 : decode cX12_readsItem 123 = .ok (.dup, 1) := by decide +kernel
theorem dX12_readsItem_124 : decode cX12_readsItem 124 = .ok (.getfield 110, 3) := by decide +kernel
theorem dX12_readsItem_127 : decode cX12_readsItem 127 = .ok (.iconst 1, 1) := by decide +kernel
theorem dX12_readsItem_128 : decode cX12_readsItem 128 = .ok (.iadd, 1) := by decide +kernel
theorem dX12_readsItem_129 : decode cX12_readsItem 129 = .ok (.putfield 110, 3) := by decide +kernel
theorem dX12_readsItem_132 : decode cX12_readsItem 132 = .ok (.goto 150, 3) := by decide +kernel
theorem dX12_readsItem_135 : decode cX12_readsItem 135 = .ok (.iload_n 1, 1) := by decide +kernel
theorem dX12_readsItem_136 : decode cX12_readsItem 136 = .ok (.iconst 1, 1) := by decide +kernel
theorem dX12_readsItem_137 : decode cX12_readsItem 137 = .ok (.if_icmp .ne 55, 3) := by decide +kernel
theorem dX12_readsItem_140 : decode cX12_readsItem 140 = .ok (.aload_n 0, 1) := by decide +kernel
theorem dX12_readsItem_141 : decode cX12_readsItem 141 = .ok (.getfield 32, 3) := by decide +kernel
theorem dX12_readsItem_144 : decode cX12_readsItem 144 = .ok (.iconst 2, 1) := by decide +kernel
theorem dX12_readsItem_145 : decode cX12_readsItem 145 = .ok (.aload_n 0, 1) := by decide +kernel
theorem dX12_readsItem_146 : decode cX12_readsItem 146 = .ok (.getfield 117, 3) := by decide +kernel
theorem dX12_readsItem_149 : decode cX12_readsItem 149 = .ok (.imul, 1) := by decide +kernel
theorem dX12_readsItem_150 : decode cX12_readsItem 150 = .ok (.aload_n 0, 1) := by decide +kernel
theorem dX12_readsItem_151 : decode cX12_readsItem 151 = .ok (.bipush 20, 2) := by decide +kernel
theorem dX12_readsItem_153 : decode cX12_readsItem 153 = .ok (.bipush 70, 2) := by decide +kernel
theorem dX12_readsItem_155 : decode cX12_readsItem 155 = .ok (.invokevirtual 113, 3) := by decide +kernel
theorem dX12_readsItem_158 : decode cX12_readsItem 158 = .ok (.iastore, 1) := by decide +kernel
theorem dX12_readsItem_159 : decode cX12_readsItem 159 = .ok (.aload_n 0, 1) := by decide +kernel
theorem dX12_readsItem_160 : decode cX12_readsItem 160 = .ok (.getfield 32, 3) := by decide +kernel
theorem dX12_readsItem_163 : decode cX12_readsItem 163 = .ok (.iconst 2, 1) := by decide +kernel
theorem dX12_readsItem_164 : decode cX12_readsItem 164 = .ok (.aload_n 0, 1) := by decide +kernel
theorem dX12_readsItem_165 : decode cX12_readsItem 165 = .ok (.getfield 117, 3) := by decide +kernel
theorem dX12_readsItem_168 : decode cX12_readsItem 168 = .ok (.imul, 1) := by decide +kernel
theorem dX12_readsItem_169 : decode cX12_readsItem 169 = .ok (.iconst 1, 1) := by decide +kernel
theorem dX12_readsItem_170 : decode cX12_readsItem 170 = .ok (.iadd, 1) := by decide +kernel
theorem dX12_readsItem_171 : decode cX12_readsItem 171 = .ok (.aload_n 0, 1) := by decide +kernel
theorem dX12_readsItem_172 : decode cX12_readsItem 172 = .ok (.iconst 0, 1) := by decide +kernel
theorem dX12_readsItem_173 : decode cX12_readsItem 173 = .ok (.bipush 9, 2) := by decide +kernel
theorem dX12_readsItem_175 : decode cX12_readsItem 175 = .ok (.invokevirtual 113, 3) := by decide +kernel
theorem dX12_readsItem_178 : decode cX12_readsItem 178 = .ok (.iastore, 1) := by decide +kernel
theorem dX12_readsItem_179 : decode cX12_readsItem 179 = .ok (.aload_n 0, 1) := by decide +kernel
theorem dX12_readsItem_180 : decode cX12_readsItem 180 = .ok (.dup, 1) := by decide +kernel
theorem dX12_readsItem_181 : decode cX12_readsItem 181 = .ok (.getfield 117, 3) := by decide +kernel
theorem dX12_readsItem_184 : decode cX12_readsItem 184 = .ok (.iconst 1, 1) := by decide +kernel
theorem dX12_readsItem_185 : decode cX12_readsItem 185 = .ok (.iadd, 1) := by decide +kernel
theorem dX12_readsItem_186 : decode cX12_readsItem 186 = .ok (.putfield 117, 3) := by decide +kernel
theorem dX12_readsItem_189 : decode cX12_readsItem 189 = .ok (.goto 93, 3) := by decide +kernel
theorem dX12_readsItem_192 : decode cX12_readsItem 192 = .ok (.aload_n 0, 1) := by decide +kernel
theorem dX12_readsItem_193 : decode cX12_readsItem 193 = .ok (.aload_n 0, 1) := by decide +kernel
theorem dX12_readsItem_194 : decode cX12_readsItem 194 = .ok (.getfield 86, 3) := by decide +kernel
theorem dX12_readsItem_197 : decode cX12_readsItem 197 = .ok (.iconst 1, 1) := by decide +kernel
theorem dX12_readsItem_198 : decode cX12_readsItem 198 = .ok (.if_icmp .ne 19, 3) := by decide +kernel
theorem dX12_readsItem_201 : decode cX12_readsItem 201 = .ok (.aload_n 0, 1) := by decide +kernel
theorem dX12_readsItem_202 : decode cX12_readsItem 202 = .ok (.getfield 93, 3) := by decide +kernel
theorem dX12_readsItem_205 : decode cX12_readsItem 205 = .ok (.iconst 3, 1) := by decide +kernel
theorem dX12_readsItem_206 : decode cX12_readsItem 206 = .ok (.iconst 4, 1) := by decide +kernel
theorem dX12_readsItem_207 : decode cX12_readsItem 207 = .ok (.invokestatic 57, 3) := by decide +kernel
theorem dX12_readsItem_210 : decode cX12_readsItem 210 = .ok (.ifCond .eq 7, 3) := by decide +kernel
theorem dX12_readsItem_213 : decode cX12_readsItem 213 = .ok (.iconst 1, 1) := by decide +kernel
theorem dX12_readsItem_214 : decode cX12_readsItem 214 = .ok (.goto 4, 3) := by decide +kernel
theorem dX12_readsItem_217 : decode cX12_readsItem 217 = .ok (.iconst 0, 1) := by decide +kernel
theorem dX12_readsItem_218 : decode cX12_readsItem 218 = .ok (.invokevirtual 106, 3) := by decide +kernel
theorem dX12_readsItem_221 : decode cX12_readsItem 221 = .ok (.istore_n 2, 1) := by decide +kernel
theorem dX12_readsItem_222 : decode cX12_readsItem 222 = .ok (.aload_n 0, 1) := by decide +kernel
theorem dX12_readsItem_223 : decode cX12_readsItem 223 = .ok (.iconst 0, 1) := by decide +kernel
theorem dX12_readsItem_224 : decode cX12_readsItem 224 = .ok (.bipush 30, 2) := by decide +kernel
theorem dX12_readsItem_226 : decode cX12_readsItem 226 = .ok (.invokevirtual 113, 3) := by decide +kernel
theorem dX12_readsItem_229 : decode cX12_readsItem 229 = .ok (.istore_n 3, 1) := by decide +kernel
theorem dX12_readsItem_230 : decode cX12_readsItem 230 = .ok (.aload_n 0, 1) := by decide +kernel
theorem dX12_readsItem_231 : decode cX12_readsItem 231 = .ok (.getfield 35, 3) := by decide +kernel
theorem dX12_readsItem_234 : decode cX12_readsItem 234 = .ok (.iconst 2, 1) := by decide +kernel
theorem dX12_readsItem_235 : decode cX12_readsItem 235 = .ok (.aload_n 0, 1) := by decide +kernel
theorem dX12_readsItem_236 : decode cX12_readsItem 236 = .ok (.getfield 120, 3) := by decide +kernel
theorem dX12_readsItem_239 : decode cX12_readsItem 239 = .ok (.imul, 1) := by decide +kernel
theorem dX12_readsItem_240 : decode cX12_readsItem 240 = .ok (.iload_n 2, 1) := by decide +kernel
theorem dX12_readsItem_241 : decode cX12_readsItem 241 = .ok (.iconst 3, 1) := by decide +kernel
theorem dX12_readsItem_242 : decode cX12_readsItem 242 = .ok (.if_icmp .ne 8, 3) := by decide +kernel
theorem dX12_readsItem_245 : decode cX12_readsItem 245 = .ok (.iload_n 3, 1) := by decide +kernel
theorem dX12_readsItem_246 : decode cX12_readsItem 246 = .ok (.ineg, 1) := by decide +kernel
theorem dX12_readsItem_247 : decode cX12_readsItem 247 = .ok (.goto 4, 3) := by decide +kernel
theorem dX12_readsItem_250 : decode cX12_readsItem 250 = .ok (.iload_n 3, 1) := by decide +kernel
theorem dX12_readsItem_251 : decode cX12_readsItem 251 = .ok (.iastore, 1) := by decide +kernel
theorem dX12_readsItem_252 : decode cX12_readsItem 252 = .ok (.aload_n 0, 1) := by decide +kernel
theorem dX12_readsItem_253 : decode cX12_readsItem 253 = .ok (.getfield 35, 3) := by decide +kernel
theorem dX12_readsItem_256 : decode cX12_readsItem 256 = .ok (.iconst 2, 1) := by decide +kernel
theorem dX12_readsItem_257 : decode cX12_readsItem 257 = .ok (.aload_n 0, 1) := by decide +kernel
theorem dX12_readsItem_258 : decode cX12_readsItem 258 = .ok (.getfield 120, 3) := by decide +kernel
theorem dX12_readsItem_261 : decode cX12_readsItem 261 = .ok (.imul, 1) := by decide +kernel
theorem dX12_readsItem_262 : decode cX12_readsItem 262 = .ok (.iconst 1, 1) := by decide +kernel
theorem dX12_readsItem_263 : decode cX12_readsItem 263 = .ok (.iadd, 1) := by decide +kernel
theorem dX12_readsItem_264 : decode cX12_readsItem 264 = .ok (.aload_n 0, 1) := by decide +kernel
theorem dX12_readsItem_265 : decode cX12_readsItem 265 = .ok (.iconst 0, 1) := by decide +kernel
theorem dX12_readsItem_266 : decode cX12_readsItem 266 = .ok (.bipush 20, 2) := by decide +kernel
theorem dX12_readsItem_268 : decode cX12_readsItem 268 = .ok (.invokevirtual 113, 3) := by decide +kernel
theorem dX12_readsItem_271 : decode cX12_readsItem 271 = .ok (.iastore, 1) := by decide +kernel
theorem dX12_readsItem_272 : decode cX12_readsItem 272 = .ok (.aload_n 0, 1) := by decide +kernel
theorem dX12_readsItem_273 : decode cX12_readsItem 273 = .ok (.dup, 1) := by decide +kernel
theorem dX12_readsItem_274 : decode cX12_readsItem 274 = .ok (.getfield 120, 3) := by decide +kernel
theorem dX12_readsItem_277 : decode cX12_readsItem 277 = .ok (.iconst 1, 1) := by decide +kernel
theorem dX12_readsItem_278 : decode cX12_readsItem 278 = .ok (.iadd, 1) := by decide +kernel
theorem dX12_readsItem_279 : decode cX12_readsItem 279 = .ok (.putfield 120, 3) := by decide +kernel
theorem dX12_readsItem_282 : decode cX12_readsItem 282 = .ok (.return_, 1) := by decide +kernel
theorem dX12_arrows_0 : decode cX12_arrows 0 = .ok (.aload_n 0, 1) := by decide +kernel
theorem dX12_arrows_1 : decode cX12_arrows 1 = .ok (.iconst 0, 1) := by decide +kernel
theorem dX12_arrows_2 : decode cX12_arrows 2 = .ok (.putfield 53, 3) := by decide +kernel
theorem dX12_arrows_5 : decode cX12_arrows 5 = .ok (.aload_n 0, 1) := by decide +kernel
theorem dX12_arrows_6 : decode cX12_arrows 6 = .ok (.iconst (-1), 1) := by decide +kernel
theorem dX12_arrows_7 : decode cX12_arrows 7 = .ok (.putfield 96, 3) := by decide +kernel
theorem dX12_arrows_10 : decode cX12_arrows 10 = .ok (.aload_n 0, 1) := by decide +kernel
theorem dX12_arrows_11 : decode cX12_arrows 11 = .ok (.iconst 0, 1) := by decide +kernel
theorem dX12_arrows_12 : decode cX12_arrows 12 = .ok (.putfield 76, 3) := by decide +kernel
theorem dX12_arrows_15 : decode cX12_arrows 15 = .ok (.iconst 0, 1) := by decide +kernel
theorem dX12_arrows_16 : decode cX12_arrows 16 = .ok (.istore_n 1, 1) := by decide +kernel
theorem dX12_arrows_17 : decode cX12_arrows 17 = .ok (.aload_n 0, 1) := by decide +kernel
theorem dX12_arrows_18 : decode cX12_arrows 18 = .ok (.iconst 0, 1) := by decide +kernel
theorem dX12_arrows_19 : decode cX12_arrows 19 = .ok (.putfield 110, 3) := by decide +kernel
theorem dX12_arrows_22 : decode cX12_arrows 22 = .ok (.aload_n 0, 1) := by decide +kernel
theorem dX12_arrows_23 : decode cX12_arrows 23 = .ok (.iconst 0, 1) := by decide +kernel
theorem dX12_arrows_24 : decode cX12_arrows 24 = .ok (.putfield 117, 3) := by decide +kernel
theorem dX12_arrows_27 : decode cX12_arrows 27 = .ok (.aload_n 0, 1) := by decide +kernel
theorem dX12_arrows_28 : decode cX12_arrows 28 = .ok (.iconst 0, 1) := by decide +kernel
theorem dX12_arrows_29 : decode cX12_arrows 29 = .ok (.putfield 120, 3) := by decide +kernel
theorem dX12_arrows_32 : decode cX12_arrows 32 = .ok (.aload_n 0, 1) := by decide +kernel
theorem dX12_arrows_33 : decode cX12_arrows 33 = .ok (.invokevirtual 103, 3) := by decide +kernel
theorem dX12_arrows_36 : decode cX12_arrows 36 = .ok (.aload_n 0, 1) := by decide +kernel
theorem dX12_arrows_37 : decode cX12_arrows 37 = .ok (.invokevirtual 99, 3) := by decide +kernel
theorem dX12_arrows_40 : decode cX12_arrows 40 = .ok (.ifCond .eq 118, 3) := by decide +kernel
theorem dX12_arrows_43 : decode cX12_arrows 43 = .ok (.aload_n 0, 1) := by decide +kernel
theorem dX12_arrows_44 : decode cX12_arrows 44 = .ok (.getfield 86, 3) := by decide +kernel
theorem dX12_arrows_47 : decode cX12_arrows 47 = .ok (.ifCond .eq 111, 3) := by decide +kernel
theorem dX12_arrows_50 : decode cX12_arrows 50 = .ok (.aload_n 0, 1) := by decide +kernel
theorem dX12_arrows_51 : decode cX12_arrows 51 = .ok (.aload_n 0, 1) := by decide +kernel
theorem dX12_arrows_52 : decode cX12_arrows 52 = .ok (.getfield 86, 3) := by decide +kernel
theorem dX12_arrows_55 : decode cX12_arrows 55 = .ok (.iconst 1, 1) := by decide +kernel
theorem dX12_arrows_56 : decode cX12_arrows 56 = .ok (.if_icmp .ne 61, 3) := by decide +kernel
theorem dX12_arrows_59 : decode cX12_arrows 59 = .ok (.aload_n 0, 1) := by decide +kernel
theorem dX12_arrows_60 : decode cX12_arrows 60 = .ok (.getfield 93, 3) := by decide +kernel
theorem dX12_arrows_63 : decode cX12_arrows 63 = .ok (.ifCond .ne 15, 3) := by decide +kernel
theorem dX12_arrows_66 : decode cX12_arrows 66 = .ok (.aload_n 0, 1) := by decide +kernel
theorem dX12_arrows_67 : decode cX12_arrows 67 = .ok (.getfield 110, 3) := by decide +kernel
theorem dX12_arrows_70 : decode cX12_arrows 70 = .ok (.bipush 12, 2) := by decide +kernel
theorem dX12_arrows_72 : decode cX12_arrows 72 = .ok (.if_icmp .ge 45, 3) := by decide +kernel
theorem dX12_arrows_75 : decode cX12_arrows 75 = .ok (.goto 38, 3) := by decide +kernel
theorem dX12_arrows_78 : decode cX12_arrows 78 = .ok (.aload_n 0, 1) := by decide +kernel
theorem dX12_arrows_79 : decode cX12_arrows 79 = .ok (.getfield 93, 3) := by decide +kernel
theorem dX12_arrows_82 : decode cX12_arrows 82 = .ok (.iconst 1, 1) := by decide +kernel
theorem dX12_arrows_83 : decode cX12_arrows 83 = .ok (.if_icmp .ne 14, 3) := by decide +kernel
theorem dX12_arrows_86 : decode cX12_arrows 86 = .ok (.aload_n 0, 1) := by decide +kernel
theorem dX12_arrows_87 : decode cX12_arrows 87 = .ok (.getfield 117, 3) := by decide +kernel
theorem dX12_arrows_90 : decode cX12_arrows 90 = .ok (.iconst 3, 1) := by decide +kernel
theorem dX12_arrows_91 : decode cX12_arrows 91 = .ok (.if_icmp .ge 26, 3) := by decide +kernel
theorem dX12_arrows_94 : decode cX12_arrows 94 = .ok (.goto 19, 3) := by decide +kernel
theorem dX12_arrows_97 : decode cX12_arrows 97 = .ok (.aload_n 0, 1) := by decide +kernel
theorem dX12_arrows_98 : decode cX12_arrows 98 = .ok (.getfield 93, 3) := by decide +kernel
theorem dX12_arrows_101 : decode cX12_arrows 101 = .ok (.iconst 2, 1) := by decide +kernel
theorem dX12_arrows_102 : decode cX12_arrows 102 = .ok (.if_icmp .ne 15, 3) := by decide +kernel
theorem dX12_arrows_105 : decode cX12_arrows 105 = .ok (.aload_n 0, 1) := by decide +kernel
theorem dX12_arrows_106 : decode cX12_arrows 106 = .ok (.getfield 120, 3) := by decide +kernel
theorem dX12_arrows_109 : decode cX12_arrows 109 = .ok (.iconst 3, 1) := by decide +kernel
theorem dX12_arrows_110 : decode cX12_arrows 110 = .ok (.if_icmp .ge 7, 3) := by decide +kernel
theorem dX12_arrows_113 : decode cX12_arrows 113 = .ok (.iconst 1, 1) := by decide +kernel
theorem dX12_arrows_114 : decode cX12_arrows 114 = .ok (.goto 4, 3) := by decide +kernel
theorem dX12_arrows_117 : decode cX12_arrows 117 = .ok (.iconst 0, 1) := by decide +kernel
theorem dX12_arrows_118 : decode cX12_arrows 118 = .ok (.invokevirtual 106, 3) := by decide +kernel
theorem dX12_arrows_121 : decode cX12_arrows 121 = .ok (.istore_n 2, 1) := by decide +kernel
theorem dX12_arrows_122 : decode cX12_arrows 122 = .ok (.aload_n 0, 1) := by decide +kernel
theorem dX12_arrows_123 : decode cX12_arrows 123 = .ok (.invokevirtual 99, 3) := by decide +kernel
theorem dX12_arrows_126 : decode cX12_arrows 126 = .ok (.ifCond .eq 8, 3) := by decide +kernel
theorem dX12_arrows_129 : decode cX12_arrows 129 = .ok (.aload_n 0, 1) := by decide +kernel
theorem dX12_arrows_130 : decode cX12_arrows 130 = .ok (.iload_n 2, 1) := by decide +kernel
theorem dX12_arrows_131 : decode cX12_arrows 131 = .ok (.invokevirtual 123, 3) := by decide +kernel
theorem dX12_arrows_134 : decode cX12_arrows 134 = .ok (.aload_n 0, 1) := by decide +kernel
theorem dX12_arrows_135 : decode cX12_arrows 135 = .ok (.aload_n 0, 1) := by decide +kernel
theorem dX12_arrows_136 : decode cX12_arrows 136 = .ok (.getfield 86, 3) := by decide +kernel
theorem dX12_arrows_139 : decode cX12_arrows 139 = .ok (.iconst 3, 1) := by decide +kernel
theorem dX12_arrows_140 : decode cX12_arrows 140 = .ok (.if_icmp .ne 7, 3) := by decide +kernel
theorem dX12_arrows_143 : decode cX12_arrows 143 = .ok (.iconst 1, 1) := by decide +kernel
theorem dX12_arrows_144 : decode cX12_arrows 144 = .ok (.goto 4, 3) := by decide +kernel
theorem dX12_arrows_147 : decode cX12_arrows 147 = .ok (.iconst 0, 1) := by decide +kernel
theorem dX12_arrows_148 : decode cX12_arrows 148 = .ok (.invokevirtual 106, 3) := by decide +kernel
theorem dX12_arrows_151 : decode cX12_arrows 151 = .ok (.pop, 1) := by decide +kernel
theorem dX12_arrows_152 : decode cX12_arrows 152 = .ok (.iinc 1 1, 3) := by decide +kernel
theorem dX12_arrows_155 : decode cX12_arrows 155 = .ok (.goto (-119), 3) := by decide +kernel
theorem dX12_arrows_158 : decode cX12_arrows 158 = .ok (.aload_n 0, 1) := by decide +kernel
theorem dX12_arrows_159 : decode cX12_arrows 159 = .ok (.invokevirtual 99, 3) := by decide +kernel
theorem dX12_arrows_162 : decode cX12_arrows 162 = .ok (.ifCond .ne 11, 3) := by decide +kernel
theorem dX12_arrows_165 : decode cX12_arrows 165 = .ok (.bipush (-10), 2) := by decide +kernel
theorem dX12_arrows_167 : decode cX12_arrows 167 = .ok (.aload_n 0, 1) := by decide +kernel
theorem dX12_arrows_168 : decode cX12_arrows 168 = .ok (.getfield 96, 3) := by decide +kernel
theorem dX12_arrows_171 : decode cX12_arrows 171 = .ok (.isub, 1) := by decide +kernel
theorem dX12_arrows_172 : decode cX12_arrows 172 = .ok (.ireturn, 1) := by decide +kernel
theorem dX12_arrows_173 : decode cX12_arrows 173 = .ok (.iconst 0, 1) := by decide +kernel
theorem dX12_arrows_174 : decode cX12_arrows 174 = .ok (.istore_n 2, 1) := by decide +kernel
theorem dX12_arrows_175 : decode cX12_arrows 175 = .ok (.iload_n 2, 1) := by decide +kernel
theorem dX12_arrows_176 : decode cX12_arrows 176 = .ok (.bipush 84, 2) := by decide +kernel
theorem dX12_arrows_178 : decode cX12_arrows 178 = .ok (.if_icmp .ge 21, 3) := by decide +kernel
theorem dX12_arrows_181 : decode cX12_arrows 181 = .ok (.aload_n 0, 1) := by decide +kernel
theorem dX12_arrows_182 : decode cX12_arrows 182 = .ok (.getfield 13, 3) := by decide +kernel
theorem dX12_arrows_185 : decode cX12_arrows 185 = .ok (.iload_n 2, 1) := by decide +kernel
theorem dX12_arrows_186 : decode cX12_arrows 186 = .ok (.aload_n 0, 1) := by decide +kernel
theorem dX12_arrows_187 : decode cX12_arrows 187 = .ok (.getfield 29, 3) := by decide +kernel
theorem dX12_arrows_190 : decode cX12_arrows 190 = .ok (.iload_n 2, 1) := by decide +kernel
theorem dX12_arrows_191 : decode cX12_arrows 191 = .ok (.iaload, 1) := by decide +kernel
theorem dX12_arrows_192 : decode cX12_arrows 192 = .ok (.iastore, 1) := by decide +kernel
theorem dX12_arrows_193 : decode cX12_arrows 193 = .ok (.iinc 2 1, 3) := by decide +kernel
theorem dX12_arrows_196 : decode cX12_arrows 196 = .ok (.goto (-21), 3) := by decide +kernel
theorem dX12_arrows_199 : decode cX12_arrows 199 = .ok (.iconst 0, 1) := by decide +kernel
theorem dX12_arrows_200 : decode cX12_arrows 200 = .ok (.istore_n 2, 1) := by decide +kernel
theorem dX12_arrows_201 : decode cX12_arrows 201 = .ok (.iload_n 2, 1) := by decide +kernel
theorem dX12_arrows_202 : decode cX12_arrows 202 = .ok (.bipush 6, 2) := by decide +kernel
theorem dX12_arrows_204 : decode cX12_arrows 204 = .ok (.if_icmp .ge 33, 3) := by decide +kernel
theorem dX12_arrows_207 : decode cX12_arrows 207 = .ok (.aload_n 0, 1) := by decide +kernel
theorem dX12_arrows_208 : decode cX12_arrows 208 = .ok (.getfield 23, 3) := by decide +kernel
theorem dX12_arrows_211 : decode cX12_arrows 211 = .ok (.iload_n 2, 1) := by decide +kernel
theorem dX12_arrows_212 : decode cX12_arrows 212 = .ok (.aload_n 0, 1) := by decide +kernel
theorem dX12_arrows_213 : decode cX12_arrows 213 = .ok (.getfield 32, 3) := by decide +kernel
theorem dX12_arrows_216 : decode cX12_arrows 216 = .ok (.iload_n 2, 1) := by decide +kernel
theorem dX12_arrows_217 : decode cX12_arrows 217 = .ok (.iaload, 1) := by decide +kernel
theorem dX12_arrows_218 : decode cX12_arrows 218 = .ok (.iastore, 1) := by decide +kernel
theorem dX12_arrows_219 : decode cX12_arrows 219 = .ok (.aload_n 0, 1) := by decide +kernel
theorem dX12_arrows_220 : decode cX12_arrows 220 = .ok (.getfield 26, 3) := by decide +kernel
theorem dX12_arrows_223 : decode cX12_arrows 223 = .ok (.iload_n 2, 1) := by decide +kernel
theorem dX12_arrows_224 : decode cX12_arrows 224 = .ok (.aload_n 0, 1) := by decide +kernel
theorem dX12_arrows_225 : decode cX12_arrows 225 = .ok (.getfield 35, 3) := by decide +kernel
theorem dX12_arrows_228 : decode cX12_arrows 228 = .ok (.iload_n 2, 1) := by decide +kernel
theorem dX12_arrows_229 : decode cX12_arrows 229 = .ok (.iaload, 1) := by decide +kernel
theorem dX12_arrows_230 : decode cX12_arrows 230 = .ok (.iastore, 1) := by decide +kernel
theorem dX12_arrows_231 : decode cX12_arrows 231 = .ok (.iinc 2 1, 3) := by decide +kernel
theorem dX12_arrows_234 : decode cX12_arrows 234 = .ok (.goto (-33), 3) := by decide +kernel
theorem dX12_arrows_237 : decode cX12_arrows 237 = .ok (.aload_n 0, 1) := by decide +kernel
theorem dX12_arrows_238 : decode cX12_arrows 238 = .ok (.aload_n 0, 1) := by decide +kernel
theorem dX12_arrows_239 : decode cX12_arrows 239 = .ok (.getfield 110, 3) := by decide +kernel
theorem dX12_arrows_242 : decode cX12_arrows 242 = .ok (.putfield 127, 3) := by decide +kernel
theorem dX12_arrows_245 : decode cX12_arrows 245 = .ok (.aload_n 0, 1) := by decide +kernel
theorem dX12_arrows_246 : decode cX12_arrows 246 = .ok (.aload_n 0, 1) := by decide +kernel
theorem dX12_arrows_247 : decode cX12_arrows 247 = .ok (.getfield 117, 3) := by decide +kernel
theorem dX12_arrows_250 : decode cX12_arrows 250 = .ok (.putfield 130, 3) := by decide +kernel
theorem dX12_arrows_253 : decode cX12_arrows 253 = .ok (.aload_n 0, 1) := by decide +kernel
theorem dX12_arrows_254 : decode cX12_arrows 254 = .ok (.aload_n 0, 1) := by decide +kernel
theorem dX12_arrows_255 : decode cX12_arrows 255 = .ok (.getfield 120, 3) := by decide +kernel
theorem dX12_arrows_258 : decode cX12_arrows 258 = .ok (.putfield 133, 3) := by decide +kernel
theorem dX12_arrows_261 : decode cX12_arrows 261 = .ok (.aload_n 0, 1) := by decide +kernel
theorem dX12_arrows_262 : decode cX12_arrows 262 = .ok (.getfield 13, 3) := by decide +kernel
theorem dX12_arrows_265 : decode cX12_arrows 265 = .ok (.bipush 85, 2) := by decide +kernel
theorem dX12_arrows_267 : decode cX12_arrows 267 = .ok (.iconst 0, 1) := by decide +kernel
theorem dX12_arrows_268 : decode cX12_arrows 268 = .ok (.iastore, 1) := by decide +kernel
theorem dX12_arrows_269 : decode cX12_arrows 269 = .ok (.aload_n 0, 1) := by decide +kernel
theorem dX12_arrows_270 : decode cX12_arrows 270 = .ok (.getfield 19, 3) := by decide +kernel
theorem dX12_arrows_273 : decode cX12_arrows 273 = .ok (.iconst 0, 1) := by decide +kernel
theorem dX12_arrows_274 : decode cX12_arrows 274 = .ok (.iconst 0, 1) := by decide +kernel
theorem dX12_arrows_275 : decode cX12_arrows 275 = .ok (.bastore, 1) := by decide +kernel
theorem dX12_arrows_276 : decode cX12_arrows 276 = .ok (.aload_n 0, 1) := by decide +kernel
theorem dX12_arrows_277 : decode cX12_arrows 277 = .ok (.getfield 19, 3) := by decide +kernel
theorem dX12_arrows_280 : decode cX12_arrows 280 = .ok (.iconst 1, 1) := by decide +kernel
theorem dX12_arrows_281 : decode cX12_arrows 281 = .ok (.iconst 0, 1) := by decide +kernel
theorem dX12_arrows_282 : decode cX12_arrows 282 = .ok (.bastore, 1) := by decide +kernel
theorem dX12_arrows_283 : decode cX12_arrows 283 = .ok (.aload_n 0, 1) := by decide +kernel
theorem dX12_arrows_284 : decode cX12_arrows 284 = .ok (.iconst 0, 1) := by decide +kernel
theorem dX12_arrows_285 : decode cX12_arrows 285 = .ok (.putfield 61, 3) := by decide +kernel
theorem dX12_arrows_288 : decode cX12_arrows 288 = .ok (.iload_n 1, 1) := by decide +kernel
theorem dX12_arrows_289 : decode cX12_arrows 289 = .ok (.ireturn, 1) := by decide +kernel
theorem dX12_isStick_0 : decode cX12_isStick 0 = .ok (.iload_n 1, 1) := by decide +kernel
theorem dX12_isStick_1 : decode cX12_isStick 1 = .ok (.iconst 0, 1) := by decide +kernel
theorem dX12_isStick_2 : decode cX12_isStick 2 = .ok (.aload_n 0, 1) := by decide +kernel
theorem dX12_isStick_3 : decode cX12_isStick 3 = .ok (.getfield 127, 3) := by decide +kernel
theorem dX12_isStick_6 : decode cX12_isStick 6 = .ok (.iconst 1, 1) := by decide +kernel
theorem dX12_isStick_7 : decode cX12_isStick 7 = .ok (.isub, 1) := by decide +kernel
theorem dX12_isStick_8 : decode cX12_isStick 8 = .ok (.invokestatic 57, 3) := by decide +kernel
theorem dX12_isStick_11 : decode cX12_isStick 11 = .ok (.ireturn, 1) := by decide +kernel
theorem dX12_isBow_0 : decode cX12_isBow 0 = .ok (.iload_n 1, 1) := by decide +kernel
theorem dX12_isBow_1 : decode cX12_isBow 1 = .ok (.iconst 0, 1) := by decide +kernel
theorem dX12_isBow_2 : decode cX12_isBow 2 = .ok (.aload_n 0, 1) := by decide +kernel
theorem dX12_isBow_3 : decode cX12_isBow 3 = .ok (.getfield 130, 3) := by decide +kernel
theorem dX12_isBow_6 : decode cX12_isBow 6 = .ok (.iconst 1, 1) := by decide +kernel
theorem dX12_isBow_7 : decode cX12_isBow 7 = .ok (.isub, 1) := by decide +kernel
theorem dX12_isBow_8 : decode cX12_isBow 8 = .ok (.invokestatic 57, 3) := by decide +kernel
theorem dX12_isBow_11 : decode cX12_isBow 11 = .ok (.ireturn, 1) := by decide +kernel
theorem dX12_stick_0 : decode cX12_stick 0 = .ok (.aload_n 0, 1) := by decide +kernel
theorem dX12_stick_1 : decode cX12_stick 1 = .ok (.iconst 0, 1) := by decide +kernel
theorem dX12_stick_2 : decode cX12_stick 2 = .ok (.putfield 53, 3) := by decide +kernel
theorem dX12_stick_5 : decode cX12_stick 5 = .ok (.aload_n 0, 1) := by decide +kernel
theorem dX12_stick_6 : decode cX12_stick 6 = .ok (.iload_n 1, 1) := by decide +kernel
theorem dX12_stick_7 : decode cX12_stick 7 = .ok (.invokevirtual 136, 3) := by decide +kernel
theorem dX12_stick_10 : decode cX12_stick 10 = .ok (.ifCond .eq 27, 3) := by decide +kernel
theorem dX12_stick_13 : decode cX12_stick 13 = .ok (.iload_n 2, 1) := by decide +kernel
theorem dX12_stick_14 : decode cX12_stick 14 = .ok (.iconst 0, 1) := by decide +kernel
theorem dX12_stick_15 : decode cX12_stick 15 = .ok (.bipush 6, 2) := by decide +kernel
theorem dX12_stick_17 : decode cX12_stick 17 = .ok (.invokestatic 57, 3) := by decide +kernel
theorem dX12_stick_20 : decode cX12_stick 20 = .ok (.ifCond .eq 17, 3) := by decide +kernel
theorem dX12_stick_23 : decode cX12_stick 23 = .ok (.aload_n 0, 1) := by decide +kernel
theorem dX12_stick_24 : decode cX12_stick 24 = .ok (.getfield 13, 3) := by decide +kernel
theorem dX12_stick_27 : decode cX12_stick 27 = .ok (.bipush 7, 2) := by decide +kernel
theorem dX12_stick_29 : decode cX12_stick 29 = .ok (.iload_n 1, 1) := by decide +kernel
theorem dX12_stick_30 : decode cX12_stick 30 = .ok (.imul, 1) := by decide +kernel
theorem dX12_stick_31 : decode cX12_stick 31 = .ok (.iload_n 2, 1) := by decide +kernel
theorem dX12_stick_32 : decode cX12_stick 32 = .ok (.iadd, 1) := by decide +kernel
theorem dX12_stick_33 : decode cX12_stick 33 = .ok (.iaload, 1) := by decide +kernel
theorem dX12_stick_34 : decode cX12_stick 34 = .ok (.goto 4, 3) := by decide +kernel
theorem dX12_stick_37 : decode cX12_stick 37 = .ok (.iconst (-1), 1) := by decide +kernel
theorem dX12_stick_38 : decode cX12_stick 38 = .ok (.ireturn, 1) := by decide +kernel
theorem dX12_bow_0 : decode cX12_bow 0 = .ok (.aload_n 0, 1) := by decide +kernel
theorem dX12_bow_1 : decode cX12_bow 1 = .ok (.iconst 0, 1) := by decide +kernel
theorem dX12_bow_2 : decode cX12_bow 2 = .ok (.putfield 53, 3) := by decide +kernel
theorem dX12_bow_5 : decode cX12_bow 5 = .ok (.aload_n 0, 1) := by decide +kernel
theorem dX12_bow_6 : decode cX12_bow 6 = .ok (.iload_n 1, 1) := by decide +kernel
theorem dX12_bow_7 : decode cX12_bow 7 = .ok (.invokevirtual 140, 3) := by decide +kernel
theorem dX12_bow_10 : decode cX12_bow 10 = .ok (.ifCond .eq 12, 3) := by decide +kernel
theorem dX12_bow_13 : decode cX12_bow 13 = .ok (.iload_n 2, 1) := by decide +kernel
theorem dX12_bow_14 : decode cX12_bow 14 = .ok (.iconst 0, 1) := by decide +kernel
theorem dX12_bow_15 : decode cX12_bow 15 = .ok (.iconst 2, 1) := by decide +kernel
theorem dX12_bow_16 : decode cX12_bow 16 = .ok (.invokestatic 57, 3) := by decide +kernel
theorem dX12_bow_19 : decode cX12_bow 19 = .ok (.ifCond .ne 7, 3) := by decide +kernel
theorem dX12_bow_22 : decode cX12_bow 22 = .ok (.iconst (-1), 1) := by decide +kernel
theorem dX12_bow_23 : decode cX12_bow 23 = .ok (.goto 42, 3) := by decide +kernel
theorem dX12_bow_26 : decode cX12_bow 26 = .ok (.iload_n 2, 1) := by decide +kernel
theorem dX12_bow_27 : decode cX12_bow 27 = .ok (.iconst 2, 1) := by decide +kernel
theorem dX12_bow_28 : decode cX12_bow 28 = .ok (.if_icmp .ge 16, 3) := by decide +kernel
theorem dX12_bow_31 : decode cX12_bow 31 = .ok (.aload_n 0, 1) := by decide +kernel
theorem dX12_bow_32 : decode cX12_bow 32 = .ok (.getfield 23, 3) := by decide +kernel
theorem dX12_bow_35 : decode cX12_bow 35 = .ok (.iconst 2, 1) := by decide +kernel
theorem dX12_bow_36 : decode cX12_bow 36 = .ok (.iload_n 1, 1) := by decide +kernel
theorem dX12_bow_37 : decode cX12_bow 37 = .ok (.imul, 1) := by decide +kernel
theorem dX12_bow_38 : decode cX12_bow 38 = .ok (.iload_n 2, 1) := by decide +kernel
theorem dX12_bow_39 : decode cX12_bow 39 = .ok (.iadd, 1) := by decide +kernel
theorem dX12_bow_40 : decode cX12_bow 40 = .ok (.iaload, 1) := by decide +kernel
theorem dX12_bow_41 : decode cX12_bow 41 = .ok (.goto 24, 3) := by decide +kernel
theorem dX12_bow_44 : decode cX12_bow 44 = .ok (.aload_n 0, 1) := by decide +kernel
theorem dX12_bow_45 : decode cX12_bow 45 = .ok (.getfield 23, 3) := by decide +kernel
theorem dX12_bow_48 : decode cX12_bow 48 = .ok (.iconst 2, 1) := by decide +kernel
theorem dX12_bow_49 : decode cX12_bow 49 = .ok (.iload_n 1, 1) := by decide +kernel
theorem dX12_bow_50 : decode cX12_bow 50 = .ok (.imul, 1) := by decide +kernel
theorem dX12_bow_51 : decode cX12_bow 51 = .ok (.iaload, 1) := by decide +kernel
theorem dX12_bow_52 : decode cX12_bow 52 = .ok (.iconst 2, 1) := by decide +kernel
theorem dX12_bow_53 : decode cX12_bow 53 = .ok (.aload_n 0, 1) := by decide +kernel
theorem dX12_bow_54 : decode cX12_bow 54 = .ok (.getfield 23, 3) := by decide +kernel
theorem dX12_bow_57 : decode cX12_bow 57 = .ok (.iconst 2, 1) := by decide +kernel
theorem dX12_bow_58 : decode cX12_bow 58 = .ok (.iload_n 1, 1) := by decide +kernel
theorem dX12_bow_59 : decode cX12_bow 59 = .ok (.imul, 1) := by decide +kernel
theorem dX12_bow_60 : decode cX12_bow 60 = .ok (.iconst 1, 1) := by decide +kernel
theorem dX12_bow_61 : decode cX12_bow 61 = .ok (.iadd, 1) := by decide +kernel
theorem dX12_bow_62 : decode cX12_bow 62 = .ok (.iaload, 1) := by decide +kernel
theorem dX12_bow_63 : decode cX12_bow 63 = .ok (.imul, 1) := by decide +kernel
theorem dX12_bow_64 : decode cX12_bow 64 = .ok (.iadd, 1) := by decide +kernel
theorem dX12_bow_65 : decode cX12_bow 65 = .ok (.ireturn, 1) := by decide +kernel
theorem dX12_archer_0 : decode cX12_archer 0 = .ok (.aload_n 0, 1) := by decide +kernel
theorem dX12_archer_1 : decode cX12_archer 1 = .ok (.iconst 0, 1) := by decide +kernel
theorem dX12_archer_2 : decode cX12_archer 2 = .ok (.putfield 53, 3) := by decide +kernel
theorem dX12_archer_5 : decode cX12_archer 5 = .ok (.iload_n 1, 1) := by decide +kernel
theorem dX12_archer_6 : decode cX12_archer 6 = .ok (.iconst 0, 1) := by decide +kernel
theorem dX12_archer_7 : decode cX12_archer 7 = .ok (.aload_n 0, 1) := by decide +kernel
theorem dX12_archer_8 : decode cX12_archer 8 = .ok (.getfield 133, 3) := by decide +kernel
theorem dX12_archer_11 : decode cX12_archer 11 = .ok (.iconst 1, 1) := by decide +kernel
theorem dX12_archer_12 : decode cX12_archer 12 = .ok (.isub, 1) := by decide +kernel
theorem dX12_archer_13 : decode cX12_archer 13 = .ok (.invokestatic 57, 3) := by decide +kernel
theorem dX12_archer_16 : decode cX12_archer 16 = .ok (.ifCond .eq 25, 3) := by decide +kernel
theorem dX12_archer_19 : decode cX12_archer 19 = .ok (.iload_n 2, 1) := by decide +kernel
theorem dX12_archer_20 : decode cX12_archer 20 = .ok (.iconst 0, 1) := by decide +kernel
theorem dX12_archer_21 : decode cX12_archer 21 = .ok (.iconst 1, 1) := by decide +kernel
theorem dX12_archer_22 : decode cX12_archer 22 = .ok (.invokestatic 57, 3) := by decide +kernel
theorem dX12_archer_25 : decode cX12_archer 25 = .ok (.ifCond .eq 16, 3) := by decide +kernel
theorem dX12_archer_28 : decode cX12_archer 28 = .ok (.aload_n 0, 1) := by decide +kernel
theorem dX12_archer_29 : decode cX12_archer 29 = .ok (.getfield 26, 3) := by decide +kernel
theorem dX12_archer_32 : decode cX12_archer 32 = .ok (.iconst 2, 1) := by decide +kernel
theorem dX12_archer_33 : decode cX12_archer 33 = .ok (.iload_n 1, 1) := by decide +kernel
theorem dX12_archer_34 : decode cX12_archer 34 = .ok (.imul, 1) := by decide +kernel
theorem dX12_archer_35 : decode cX12_archer 35 = .ok (.iload_n 2, 1) := by decide +kernel
theorem dX12_archer_36 : decode cX12_archer 36 = .ok (.iadd, 1) := by decide +kernel
theorem dX12_archer_37 : decode cX12_archer 37 = .ok (.iaload, 1) := by decide +kernel
theorem dX12_archer_38 : decode cX12_archer 38 = .ok (.goto 5, 3) := by decide +kernel
theorem dX12_archer_41 : decode cX12_archer 41 = .ok (.ldc 143, 2) := by decide +kernel
theorem dX12_archer_43 : decode cX12_archer 43 = .ok (.ireturn, 1) := by decide +kernel
theorem dX12_tune_0 : decode cX12_tune 0 = .ok (.aload_n 0, 1) := by decide +kernel
theorem dX12_tune_1 : decode cX12_tune 1 = .ok (.iconst 0, 1) := by decide +kernel
theorem dX12_tune_2 : decode cX12_tune 2 = .ok (.putfield 53, 3) := by decide +kernel
theorem dX12_tune_5 : decode cX12_tune 5 = .ok (.iload_n 1, 1) := by decide +kernel
theorem dX12_tune_6 : decode cX12_tune 6 = .ok (.ifCond .ne 8, 3) := by decide +kernel
theorem dX12_tune_9 : decode cX12_tune 9 = .ok (.bipush 20, 2) := by decide +kernel
theorem dX12_tune_11 : decode cX12_tune 11 = .ok (.goto 25, 3) := by decide +kernel
theorem dX12_tune_14 : decode cX12_tune 14 = .ok (.iload_n 1, 1) := by decide +kernel
theorem dX12_tune_15 : decode cX12_tune 15 = .ok (.iconst 1, 1) := by decide +kernel
theorem dX12_tune_16 : decode cX12_tune 16 = .ok (.if_icmp .ne 8, 3) := by decide +kernel
theorem dX12_tune_19 : decode cX12_tune 19 = .ok (.bipush 60, 2) := by decide +kernel
theorem dX12_tune_21 : decode cX12_tune 21 = .ok (.goto 15, 3) := by decide +kernel
theorem dX12_tune_24 : decode cX12_tune 24 = .ok (.iload_n 1, 1) := by decide +kernel
theorem dX12_tune_25 : decode cX12_tune 25 = .ok (.iconst 2, 1) := by decide +kernel
theorem dX12_tune_26 : decode cX12_tune 26 = .ok (.if_icmp .ne 8, 3) := by decide +kernel
theorem dX12_tune_29 : decode cX12_tune 29 = .ok (.bipush 30, 2) := by decide +kernel
theorem dX12_tune_31 : decode cX12_tune 31 = .ok (.goto 5, 3) := by decide +kernel
theorem dX12_tune_34 : decode cX12_tune 34 = .ok (.bipush 9, 2) := by decide +kernel
theorem dX12_tune_36 : decode cX12_tune 36 = .ok (.istore_n 3, 1) := by decide +kernel
theorem dX12_tune_37 : decode cX12_tune 37 = .ok (.iload_n 1, 1) := by decide +kernel
theorem dX12_tune_38 : decode cX12_tune 38 = .ok (.iconst 0, 1) := by decide +kernel
theorem dX12_tune_39 : decode cX12_tune 39 = .ok (.iconst 3, 1) := by decide +kernel
theorem dX12_tune_40 : decode cX12_tune 40 = .ok (.invokestatic 57, 3) := by decide +kernel
theorem dX12_tune_43 : decode cX12_tune 43 = .ok (.ifCond .eq 22, 3) := by decide +kernel
theorem dX12_tune_46 : decode cX12_tune 46 = .ok (.iload_n 2, 1) := by decide +kernel
theorem dX12_tune_47 : decode cX12_tune 47 = .ok (.iload_n 1, 1) := by decide +kernel
theorem dX12_tune_48 : decode cX12_tune 48 = .ok (.iconst 3, 1) := by decide +kernel
theorem dX12_tune_49 : decode cX12_tune 49 = .ok (.if_icmp .ne 8, 3) := by decide +kernel
theorem dX12_tune_52 : decode cX12_tune 52 = .ok (.bipush (-9), 2) := by decide +kernel
theorem dX12_tune_54 : decode cX12_tune 54 = .ok (.goto 4, 3) := by decide +kernel
theorem dX12_tune_57 : decode cX12_tune 57 = .ok (.iconst 0, 1) := by decide +kernel
theorem dX12_tune_58 : decode cX12_tune 58 = .ok (.iload_n 3, 1) := by decide +kernel
theorem dX12_tune_59 : decode cX12_tune 59 = .ok (.invokestatic 57, 3) := by decide +kernel
theorem dX12_tune_62 : decode cX12_tune 62 = .ok (.ifCond .ne 6, 3) := by decide +kernel
theorem dX12_tune_65 : decode cX12_tune 65 = .ok (.ldc 143, 2) := by decide +kernel
theorem dX12_tune_67 : decode cX12_tune 67 = .ok (.ireturn, 1) := by decide +kernel
theorem dX12_tune_68 : decode cX12_tune 68 = .ok (.aload_n 0, 1) := by decide +kernel
theorem dX12_tune_69 : decode cX12_tune 69 = .ok (.getfield 38, 3) := by decide +kernel
theorem dX12_tune_72 : decode cX12_tune 72 = .ok (.iload_n 1, 1) := by decide +kernel
theorem dX12_tune_73 : decode cX12_tune 73 = .ok (.iaload, 1) := by decide +kernel
theorem dX12_tune_74 : decode cX12_tune 74 = .ok (.istore 4, 2) := by decide +kernel
theorem dX12_tune_76 : decode cX12_tune 76 = .ok (.aload_n 0, 1) := by decide +kernel
theorem dX12_tune_77 : decode cX12_tune 77 = .ok (.getfield 38, 3) := by decide +kernel
theorem dX12_tune_80 : decode cX12_tune 80 = .ok (.iload_n 1, 1) := by decide +kernel
theorem dX12_tune_81 : decode cX12_tune 81 = .ok (.iload_n 2, 1) := by decide +kernel
theorem dX12_tune_82 : decode cX12_tune 82 = .ok (.iastore, 1) := by decide +kernel
theorem dX12_tune_83 : decode cX12_tune 83 = .ok (.iload 4, 2) := by decide +kernel
theorem dX12_tune_85 : decode cX12_tune 85 = .ok (.ireturn, 1) := by decide +kernel
theorem dX12_cut_0 : decode cX12_cut 0 = .ok (.aload_n 0, 1) := by decide +kernel
theorem dX12_cut_1 : decode cX12_cut 1 = .ok (.iconst 0, 1) := by decide +kernel
theorem dX12_cut_2 : decode cX12_cut 2 = .ok (.putfield 53, 3) := by decide +kernel
theorem dX12_cut_5 : decode cX12_cut 5 = .ok (.aload_n 0, 1) := by decide +kernel
theorem dX12_cut_6 : decode cX12_cut 6 = .ok (.iload_n 1, 1) := by decide +kernel
theorem dX12_cut_7 : decode cX12_cut 7 = .ok (.invokevirtual 136, 3) := by decide +kernel
theorem dX12_cut_10 : decode cX12_cut 10 = .ok (.ifCond .ne 5, 3) := by decide +kernel
theorem dX12_cut_13 : decode cX12_cut 13 = .ok (.iconst (-1), 1) := by decide +kernel
theorem dX12_cut_14 : decode cX12_cut 14 = .ok (.ireturn, 1) := by decide +kernel
theorem dX12_cut_15 : decode cX12_cut 15 = .ok (.aload_n 0, 1) := by decide +kernel
theorem dX12_cut_16 : decode cX12_cut 16 = .ok (.getfield 13, 3) := by decide +kernel
theorem dX12_cut_19 : decode cX12_cut 19 = .ok (.bipush 7, 2) := by decide +kernel
theorem dX12_cut_21 : decode cX12_cut 21 = .ok (.iload_n 1, 1) := by decide +kernel
theorem dX12_cut_22 : decode cX12_cut 22 = .ok (.imul, 1) := by decide +kernel
theorem dX12_cut_23 : decode cX12_cut 23 = .ok (.iconst 0, 1) := by decide +kernel
theorem dX12_cut_24 : decode cX12_cut 24 = .ok (.iadd, 1) := by decide +kernel
theorem dX12_cut_25 : decode cX12_cut 25 = .ok (.iaload, 1) := by decide +kernel
theorem dX12_cut_26 : decode cX12_cut 26 = .ok (.bipush 80, 2) := by decide +kernel
theorem dX12_cut_28 : decode cX12_cut 28 = .ok (.if_icmp .ne 6, 3) := by decide +kernel
theorem dX12_cut_31 : decode cX12_cut 31 = .ok (.bipush (-2), 2) := by decide +kernel
theorem dX12_cut_33 : decode cX12_cut 33 = .ok (.ireturn, 1) := by decide +kernel
theorem dX12_cut_34 : decode cX12_cut 34 = .ok (.aload_n 0, 1) := by decide +kernel
theorem dX12_cut_35 : decode cX12_cut 35 = .ok (.getfield 13, 3) := by decide +kernel
theorem dX12_cut_38 : decode cX12_cut 38 = .ok (.bipush 7, 2) := by decide +kernel
theorem dX12_cut_40 : decode cX12_cut 40 = .ok (.iload_n 1, 1) := by decide +kernel
theorem dX12_cut_41 : decode cX12_cut 41 = .ok (.imul, 1) := by decide +kernel
theorem dX12_cut_42 : decode cX12_cut 42 = .ok (.iconst 0, 1) := by decide +kernel
theorem dX12_cut_43 : decode cX12_cut 43 = .ok (.iadd, 1) := by decide +kernel
theorem dX12_cut_44 : decode cX12_cut 44 = .ok (.dup2, 1) := by decide +kernel
theorem dX12_cut_45 : decode cX12_cut 45 = .ok (.iaload, 1) := by decide +kernel
theorem dX12_cut_46 : decode cX12_cut 46 = .ok (.iconst 1, 1) := by decide +kernel
theorem dX12_cut_47 : decode cX12_cut 47 = .ok (.isub, 1) := by decide +kernel
theorem dX12_cut_48 : decode cX12_cut 48 = .ok (.iastore, 1) := by decide +kernel
theorem dX12_cut_49 : decode cX12_cut 49 = .ok (.aload_n 0, 1) := by decide +kernel
theorem dX12_cut_50 : decode cX12_cut 50 = .ok (.getfield 13, 3) := by decide +kernel
theorem dX12_cut_53 : decode cX12_cut 53 = .ok (.bipush 7, 2) := by decide +kernel
theorem dX12_cut_55 : decode cX12_cut 55 = .ok (.iload_n 1, 1) := by decide +kernel
theorem dX12_cut_56 : decode cX12_cut 56 = .ok (.imul, 1) := by decide +kernel
theorem dX12_cut_57 : decode cX12_cut 57 = .ok (.iconst 0, 1) := by decide +kernel
theorem dX12_cut_58 : decode cX12_cut 58 = .ok (.iadd, 1) := by decide +kernel
theorem dX12_cut_59 : decode cX12_cut 59 = .ok (.iaload, 1) := by decide +kernel
theorem dX12_cut_60 : decode cX12_cut 60 = .ok (.ireturn, 1) := by decide +kernel
theorem dX12_mayScrape_0 : decode cX12_mayScrape 0 = .ok (.aload_n 1, 1) := by decide +kernel
theorem dX12_mayScrape_1 : decode cX12_mayScrape 1 = .ok (.iload_n 2, 1) := by decide +kernel
theorem dX12_mayScrape_2 : decode cX12_mayScrape 2 = .ok (.iconst 2, 1) := by decide +kernel
theorem dX12_mayScrape_3 : decode cX12_mayScrape 3 = .ok (.iadd, 1) := by decide +kernel
theorem dX12_mayScrape_4 : decode cX12_mayScrape 4 = .ok (.iaload, 1) := by decide +kernel
theorem dX12_mayScrape_5 : decode cX12_mayScrape 5 = .ok (.iload_n 3, 1) := by decide +kernel
theorem dX12_mayScrape_6 : decode cX12_mayScrape 6 = .ok (.isub, 1) := by decide +kernel
theorem dX12_mayScrape_7 : decode cX12_mayScrape 7 = .ok (.bipush 20, 2) := by decide +kernel
theorem dX12_mayScrape_9 : decode cX12_mayScrape 9 = .ok (.if_icmp .lt 36, 3) := by decide +kernel
theorem dX12_mayScrape_12 : decode cX12_mayScrape 12 = .ok (.aload_n 1, 1) := by decide +kernel
theorem dX12_mayScrape_13 : decode cX12_mayScrape 13 = .ok (.iload_n 2, 1) := by decide +kernel
theorem dX12_mayScrape_14 : decode cX12_mayScrape 14 = .ok (.iconst 2, 1) := by decide +kernel
theorem dX12_mayScrape_15 : decode cX12_mayScrape 15 = .ok (.iadd, 1) := by decide +kernel
theorem dX12_mayScrape_16 : decode cX12_mayScrape 16 = .ok (.iconst 1, 1) := by decide +kernel
theorem dX12_mayScrape_17 : decode cX12_mayScrape 17 = .ok (.iadd, 1) := by decide +kernel
theorem dX12_mayScrape_18 : decode cX12_mayScrape 18 = .ok (.iaload, 1) := by decide +kernel
theorem dX12_mayScrape_19 : decode cX12_mayScrape 19 = .ok (.iload_n 3, 1) := by decide +kernel
theorem dX12_mayScrape_20 : decode cX12_mayScrape 20 = .ok (.isub, 1) := by decide +kernel
theorem dX12_mayScrape_21 : decode cX12_mayScrape 21 = .ok (.bipush 20, 2) := by decide +kernel
theorem dX12_mayScrape_23 : decode cX12_mayScrape 23 = .ok (.if_icmp .lt 22, 3) := by decide +kernel
theorem dX12_mayScrape_26 : decode cX12_mayScrape 26 = .ok (.aload_n 1, 1) := by decide +kernel
theorem dX12_mayScrape_27 : decode cX12_mayScrape 27 = .ok (.iload_n 2, 1) := by decide +kernel
theorem dX12_mayScrape_28 : decode cX12_mayScrape 28 = .ok (.iconst 1, 1) := by decide +kernel
theorem dX12_mayScrape_29 : decode cX12_mayScrape 29 = .ok (.iadd, 1) := by decide +kernel
theorem dX12_mayScrape_30 : decode cX12_mayScrape 30 = .ok (.iaload, 1) := by decide +kernel
theorem dX12_mayScrape_31 : decode cX12_mayScrape 31 = .ok (.iconst 2, 1) := by decide +kernel
theorem dX12_mayScrape_32 : decode cX12_mayScrape 32 = .ok (.iload_n 3, 1) := by decide +kernel
theorem dX12_mayScrape_33 : decode cX12_mayScrape 33 = .ok (.imul, 1) := by decide +kernel
theorem dX12_mayScrape_34 : decode cX12_mayScrape 34 = .ok (.isub, 1) := by decide +kernel
theorem dX12_mayScrape_35 : decode cX12_mayScrape 35 = .ok (.sipush 200, 3) := by decide +kernel
theorem dX12_mayScrape_38 : decode cX12_mayScrape 38 = .ok (.if_icmp .lt 7, 3) := by decide +kernel
theorem dX12_mayScrape_41 : decode cX12_mayScrape 41 = .ok (.iconst 1, 1) := by decide +kernel
theorem dX12_mayScrape_42 : decode cX12_mayScrape 42 = .ok (.goto 4, 3) := by decide +kernel
theorem dX12_mayScrape_45 : decode cX12_mayScrape 45 = .ok (.iconst 0, 1) := by decide +kernel
theorem dX12_mayScrape_46 : decode cX12_mayScrape 46 = .ok (.ireturn, 1) := by decide +kernel
theorem dX12_scrape_0 : decode cX12_scrape 0 = .ok (.aload_n 0, 1) := by decide +kernel
theorem dX12_scrape_1 : decode cX12_scrape 1 = .ok (.iconst 0, 1) := by decide +kernel
theorem dX12_scrape_2 : decode cX12_scrape 2 = .ok (.putfield 53, 3) := by decide +kernel
theorem dX12_scrape_5 : decode cX12_scrape 5 = .ok (.aload_n 0, 1) := by decide +kernel
theorem dX12_scrape_6 : decode cX12_scrape 6 = .ok (.iload_n 1, 1) := by decide +kernel
theorem dX12_scrape_7 : decode cX12_scrape 7 = .ok (.invokevirtual 136, 3) := by decide +kernel
theorem dX12_scrape_10 : decode cX12_scrape 10 = .ok (.ifCond .ne 5, 3) := by decide +kernel
theorem dX12_scrape_13 : decode cX12_scrape 13 = .ok (.iconst (-1), 1) := by decide +kernel
theorem dX12_scrape_14 : decode cX12_scrape 14 = .ok (.ireturn, 1) := by decide +kernel
theorem dX12_scrape_15 : decode cX12_scrape 15 = .ok (.bipush 7, 2) := by decide +kernel
theorem dX12_scrape_17 : decode cX12_scrape 17 = .ok (.iload_n 1, 1) := by decide +kernel
theorem dX12_scrape_18 : decode cX12_scrape 18 = .ok (.imul, 1) := by decide +kernel
theorem dX12_scrape_19 : decode cX12_scrape 19 = .ok (.istore_n 2, 1) := by decide +kernel
theorem dX12_scrape_20 : decode cX12_scrape 20 = .ok (.aload_n 0, 1) := by decide +kernel
theorem dX12_scrape_21 : decode cX12_scrape 21 = .ok (.aload_n 0, 1) := by decide +kernel
theorem dX12_scrape_22 : decode cX12_scrape 22 = .ok (.getfield 13, 3) := by decide +kernel
theorem dX12_scrape_25 : decode cX12_scrape 25 = .ok (.iload_n 2, 1) := by decide +kernel
theorem dX12_scrape_26 : decode cX12_scrape 26 = .ok (.iconst 1, 1) := by decide +kernel
theorem dX12_scrape_27 : decode cX12_scrape 27 = .ok (.invokevirtual 144, 3) := by decide +kernel
theorem dX12_scrape_30 : decode cX12_scrape 30 = .ok (.ifCond .ne 6, 3) := by decide +kernel
theorem dX12_scrape_33 : decode cX12_scrape 33 = .ok (.bipush (-2), 2) := by decide +kernel
theorem dX12_scrape_35 : decode cX12_scrape 35 = .ok (.ireturn, 1) := by decide +kernel
theorem dX12_scrape_36 : decode cX12_scrape 36 = .ok (.aload_n 0, 1) := by decide +kernel
theorem dX12_scrape_37 : decode cX12_scrape 37 = .ok (.getfield 13, 3) := by decide +kernel
theorem dX12_scrape_40 : decode cX12_scrape 40 = .ok (.iload_n 2, 1) := by decide +kernel
theorem dX12_scrape_41 : decode cX12_scrape 41 = .ok (.iconst 2, 1) := by decide +kernel
theorem dX12_scrape_42 : decode cX12_scrape 42 = .ok (.iadd, 1) := by decide +kernel
theorem dX12_scrape_43 : decode cX12_scrape 43 = .ok (.dup2, 1) := by decide +kernel
theorem dX12_scrape_44 : decode cX12_scrape 44 = .ok (.iaload, 1) := by decide +kernel
theorem dX12_scrape_45 : decode cX12_scrape 45 = .ok (.iconst 1, 1) := by decide +kernel
theorem dX12_scrape_46 : decode cX12_scrape 46 = .ok (.isub, 1) := by decide +kernel
theorem dX12_scrape_47 : decode cX12_scrape 47 = .ok (.iastore, 1) := by decide +kernel
theorem dX12_scrape_48 : decode cX12_scrape 48 = .ok (.aload_n 0, 1) := by decide +kernel
theorem dX12_scrape_49 : decode cX12_scrape 49 = .ok (.getfield 13, 3) := by decide +kernel
theorem dX12_scrape_52 : decode cX12_scrape 52 = .ok (.iload_n 2, 1) := by decide +kernel
theorem dX12_scrape_53 : decode cX12_scrape 53 = .ok (.iconst 2, 1) := by decide +kernel
theorem dX12_scrape_54 : decode cX12_scrape 54 = .ok (.iadd, 1) := by decide +kernel
theorem dX12_scrape_55 : decode cX12_scrape 55 = .ok (.iconst 1, 1) := by decide +kernel
theorem dX12_scrape_56 : decode cX12_scrape 56 = .ok (.iadd, 1) := by decide +kernel
theorem dX12_scrape_57 : decode cX12_scrape 57 = .ok (.dup2, 1) := by decide +kernel
theorem dX12_scrape_58 : decode cX12_scrape 58 = .ok (.iaload, 1) := by decide +kernel
theorem dX12_scrape_59 : decode cX12_scrape 59 = .ok (.iconst 1, 1) := by decide +kernel
theorem dX12_scrape_60 : decode cX12_scrape 60 = .ok (.isub, 1) := by decide +kernel
theorem dX12_scrape_61 : decode cX12_scrape 61 = .ok (.iastore, 1) := by decide +kernel
theorem dX12_scrape_62 : decode cX12_scrape 62 = .ok (.aload_n 0, 1) := by decide +kernel
theorem dX12_scrape_63 : decode cX12_scrape 63 = .ok (.getfield 13, 3) := by decide +kernel
theorem dX12_scrape_66 : decode cX12_scrape 66 = .ok (.iload_n 2, 1) := by decide +kernel
theorem dX12_scrape_67 : decode cX12_scrape 67 = .ok (.iconst 1, 1) := by decide +kernel
theorem dX12_scrape_68 : decode cX12_scrape 68 = .ok (.iadd, 1) := by decide +kernel
theorem dX12_scrape_69 : decode cX12_scrape 69 = .ok (.dup2, 1) := by decide +kernel
theorem dX12_scrape_70 : decode cX12_scrape 70 = .ok (.iaload, 1) := by decide +kernel
theorem dX12_scrape_71 : decode cX12_scrape 71 = .ok (.iconst 2, 1) := by decide +kernel
theorem dX12_scrape_72 : decode cX12_scrape 72 = .ok (.isub, 1) := by decide +kernel
theorem dX12_scrape_73 : decode cX12_scrape 73 = .ok (.iastore, 1) := by decide +kernel
theorem dX12_scrape_74 : decode cX12_scrape 74 = .ok (.aload_n 0, 1) := by decide +kernel
theorem dX12_scrape_75 : decode cX12_scrape 75 = .ok (.getfield 13, 3) := by decide +kernel
theorem dX12_scrape_78 : decode cX12_scrape 78 = .ok (.iload_n 2, 1) := by decide +kernel
theorem dX12_scrape_79 : decode cX12_scrape 79 = .ok (.iconst 1, 1) := by decide +kernel
theorem dX12_scrape_80 : decode cX12_scrape 80 = .ok (.iadd, 1) := by decide +kernel
theorem dX12_scrape_81 : decode cX12_scrape 81 = .ok (.iaload, 1) := by decide +kernel
theorem dX12_scrape_82 : decode cX12_scrape 82 = .ok (.ireturn, 1) := by decide +kernel
theorem dX12_load_0 : decode cX12_load 0 = .ok (.aload_n 0, 1) := by decide +kernel
theorem dX12_load_1 : decode cX12_load 1 = .ok (.iconst 0, 1) := by decide +kernel
theorem dX12_load_2 : decode cX12_load 2 = .ok (.putfield 53, 3) := by decide +kernel
theorem dX12_load_5 : decode cX12_load 5 = .ok (.aload_n 0, 1) := by decide +kernel
theorem dX12_load_6 : decode cX12_load 6 = .ok (.iload_n 1, 1) := by decide +kernel
theorem dX12_load_7 : decode cX12_load 7 = .ok (.invokevirtual 136, 3) := by decide +kernel
theorem dX12_load_10 : decode cX12_load 10 = .ok (.ifCond .ne 5, 3) := by decide +kernel
theorem dX12_load_13 : decode cX12_load 13 = .ok (.iconst (-1), 1) := by decide +kernel
theorem dX12_load_14 : decode cX12_load 14 = .ok (.ireturn, 1) := by decide +kernel
theorem dX12_load_15 : decode cX12_load 15 = .ok (.aload_n 0, 1) := by decide +kernel
theorem dX12_load_16 : decode cX12_load 16 = .ok (.getfield 13, 3) := by decide +kernel
theorem dX12_load_19 : decode cX12_load 19 = .ok (.bipush 7, 2) := by decide +kernel
theorem dX12_load_21 : decode cX12_load 21 = .ok (.iload_n 1, 1) := by decide +kernel
theorem dX12_load_22 : decode cX12_load 22 = .ok (.imul, 1) := by decide +kernel
theorem dX12_load_23 : decode cX12_load 23 = .ok (.iconst 4, 1) := by decide +kernel
theorem dX12_load_24 : decode cX12_load 24 = .ok (.iadd, 1) := by decide +kernel
theorem dX12_load_25 : decode cX12_load 25 = .ok (.iaload, 1) := by decide +kernel
theorem dX12_load_26 : decode cX12_load 26 = .ok (.iconst 5, 1) := by decide +kernel
theorem dX12_load_27 : decode cX12_load 27 = .ok (.iadd, 1) := by decide +kernel
theorem dX12_load_28 : decode cX12_load 28 = .ok (.sipush 200, 3) := by decide +kernel
theorem dX12_load_31 : decode cX12_load 31 = .ok (.if_icmp .le 6, 3) := by decide +kernel
theorem dX12_load_34 : decode cX12_load 34 = .ok (.bipush (-2), 2) := by decide +kernel
theorem dX12_load_36 : decode cX12_load 36 = .ok (.ireturn, 1) := by decide +kernel
theorem dX12_load_37 : decode cX12_load 37 = .ok (.aload_n 0, 1) := by decide +kernel
theorem dX12_load_38 : decode cX12_load 38 = .ok (.getfield 13, 3) := by decide +kernel
theorem dX12_load_41 : decode cX12_load 41 = .ok (.bipush 7, 2) := by decide +kernel
theorem dX12_load_43 : decode cX12_load 43 = .ok (.iload_n 1, 1) := by decide +kernel
theorem dX12_load_44 : decode cX12_load 44 = .ok (.imul, 1) := by decide +kernel
theorem dX12_load_45 : decode cX12_load 45 = .ok (.iconst 4, 1) := by decide +kernel
theorem dX12_load_46 : decode cX12_load 46 = .ok (.iadd, 1) := by decide +kernel
theorem dX12_load_47 : decode cX12_load 47 = .ok (.dup2, 1) := by decide +kernel
theorem dX12_load_48 : decode cX12_load 48 = .ok (.iaload, 1) := by decide +kernel
theorem dX12_load_49 : decode cX12_load 49 = .ok (.iconst 5, 1) := by decide +kernel
theorem dX12_load_50 : decode cX12_load 50 = .ok (.iadd, 1) := by decide +kernel
theorem dX12_load_51 : decode cX12_load 51 = .ok (.iastore, 1) := by decide +kernel
theorem dX12_load_52 : decode cX12_load 52 = .ok (.aload_n 0, 1) := by decide +kernel
theorem dX12_load_53 : decode cX12_load 53 = .ok (.getfield 13, 3) := by decide +kernel
theorem dX12_load_56 : decode cX12_load 56 = .ok (.bipush 7, 2) := by decide +kernel
theorem dX12_load_58 : decode cX12_load 58 = .ok (.iload_n 1, 1) := by decide +kernel
theorem dX12_load_59 : decode cX12_load 59 = .ok (.imul, 1) := by decide +kernel
theorem dX12_load_60 : decode cX12_load 60 = .ok (.iconst 4, 1) := by decide +kernel
theorem dX12_load_61 : decode cX12_load 61 = .ok (.iadd, 1) := by decide +kernel
theorem dX12_load_62 : decode cX12_load 62 = .ok (.iaload, 1) := by decide +kernel
theorem dX12_load_63 : decode cX12_load 63 = .ok (.ireturn, 1) := by decide +kernel
theorem dX12_turn_0 : decode cX12_turn 0 = .ok (.aload_n 0, 1) := by decide +kernel
theorem dX12_turn_1 : decode cX12_turn 1 = .ok (.iconst 0, 1) := by decide +kernel
theorem dX12_turn_2 : decode cX12_turn 2 = .ok (.putfield 53, 3) := by decide +kernel
theorem dX12_turn_5 : decode cX12_turn 5 = .ok (.aload_n 0, 1) := by decide +kernel
theorem dX12_turn_6 : decode cX12_turn 6 = .ok (.iload_n 1, 1) := by decide +kernel
theorem dX12_turn_7 : decode cX12_turn 7 = .ok (.invokevirtual 136, 3) := by decide +kernel
theorem dX12_turn_10 : decode cX12_turn 10 = .ok (.ifCond .ne 5, 3) := by decide +kernel
theorem dX12_turn_13 : decode cX12_turn 13 = .ok (.iconst (-1), 1) := by decide +kernel
theorem dX12_turn_14 : decode cX12_turn 14 = .ok (.ireturn, 1) := by decide +kernel
theorem dX12_turn_15 : decode cX12_turn 15 = .ok (.aload_n 0, 1) := by decide +kernel
theorem dX12_turn_16 : decode cX12_turn 16 = .ok (.getfield 13, 3) := by decide +kernel
theorem dX12_turn_19 : decode cX12_turn 19 = .ok (.bipush 7, 2) := by decide +kernel
theorem dX12_turn_21 : decode cX12_turn 21 = .ok (.iload_n 1, 1) := by decide +kernel
theorem dX12_turn_22 : decode cX12_turn 22 = .ok (.imul, 1) := by decide +kernel
theorem dX12_turn_23 : decode cX12_turn 23 = .ok (.bipush 6, 2) := by decide +kernel
theorem dX12_turn_25 : decode cX12_turn 25 = .ok (.iadd, 1) := by decide +kernel
theorem dX12_turn_26 : decode cX12_turn 26 = .ok (.iconst 1, 1) := by decide +kernel
theorem dX12_turn_27 : decode cX12_turn 27 = .ok (.aload_n 0, 1) := by decide +kernel
theorem dX12_turn_28 : decode cX12_turn 28 = .ok (.getfield 13, 3) := by decide +kernel
theorem dX12_turn_31 : decode cX12_turn 31 = .ok (.bipush 7, 2) := by decide +kernel
theorem dX12_turn_33 : decode cX12_turn 33 = .ok (.iload_n 1, 1) := by decide +kernel
theorem dX12_turn_34 : decode cX12_turn 34 = .ok (.imul, 1) := by decide +kernel
theorem dX12_turn_35 : decode cX12_turn 35 = .ok (.bipush 6, 2) := by decide +kernel
theorem dX12_turn_37 : decode cX12_turn 37 = .ok (.iadd, 1) := by decide +kernel
theorem dX12_turn_38 : decode cX12_turn 38 = .ok (.iaload, 1) := by decide +kernel
theorem dX12_turn_39 : decode cX12_turn 39 = .ok (.isub, 1) := by decide +kernel
theorem dX12_turn_40 : decode cX12_turn 40 = .ok (.iastore, 1) := by decide +kernel
theorem dX12_turn_41 : decode cX12_turn 41 = .ok (.aload_n 0, 1) := by decide +kernel
theorem dX12_turn_42 : decode cX12_turn 42 = .ok (.getfield 13, 3) := by decide +kernel
theorem dX12_turn_45 : decode cX12_turn 45 = .ok (.bipush 7, 2) := by decide +kernel
theorem dX12_turn_47 : decode cX12_turn 47 = .ok (.iload_n 1, 1) := by decide +kernel
theorem dX12_turn_48 : decode cX12_turn 48 = .ok (.imul, 1) := by decide +kernel
theorem dX12_turn_49 : decode cX12_turn 49 = .ok (.bipush 6, 2) := by decide +kernel
theorem dX12_turn_51 : decode cX12_turn 51 = .ok (.iadd, 1) := by decide +kernel
theorem dX12_turn_52 : decode cX12_turn 52 = .ok (.iaload, 1) := by decide +kernel
theorem dX12_turn_53 : decode cX12_turn 53 = .ok (.ireturn, 1) := by decide +kernel
theorem dX12_tries_0 : decode cX12_tries 0 = .ok (.bipush 7, 2) := by decide +kernel
theorem dX12_tries_2 : decode cX12_tries 2 = .ok (.iload_n 1, 1) := by decide +kernel
theorem dX12_tries_3 : decode cX12_tries 3 = .ok (.imul, 1) := by decide +kernel
theorem dX12_tries_4 : decode cX12_tries 4 = .ok (.istore 6, 2) := by decide +kernel
theorem dX12_tries_6 : decode cX12_tries 6 = .ok (.aload_n 0, 1) := by decide +kernel
theorem dX12_tries_7 : decode cX12_tries 7 = .ok (.getfield 13, 3) := by decide +kernel
theorem dX12_tries_10 : decode cX12_tries 10 = .ok (.iload 6, 2) := by decide +kernel
theorem dX12_tries_12 : decode cX12_tries 12 = .ok (.iconst 0, 1) := by decide +kernel
theorem dX12_tries_13 : decode cX12_tries 13 = .ok (.iadd, 1) := by decide +kernel
theorem dX12_tries_14 : decode cX12_tries 14 = .ok (.iaload, 1) := by decide +kernel
theorem dX12_tries_15 : decode cX12_tries 15 = .ok (.iload_n 2, 1) := by decide +kernel
theorem dX12_tries_16 : decode cX12_tries 16 = .ok (.isub, 1) := by decide +kernel
theorem dX12_tries_17 : decode cX12_tries 17 = .ok (.bipush 80, 2) := by decide +kernel
theorem dX12_tries_19 : decode cX12_tries 19 = .ok (.if_icmp .lt 46, 3) := by decide +kernel
theorem dX12_tries_22 : decode cX12_tries 22 = .ok (.iload_n 3, 1) := by decide +kernel
theorem dX12_tries_23 : decode cX12_tries 23 = .ok (.ifCond .le 17, 3) := by decide +kernel
theorem dX12_tries_26 : decode cX12_tries 26 = .ok (.aload_n 0, 1) := by decide +kernel
theorem dX12_tries_27 : decode cX12_tries 27 = .ok (.aload_n 0, 1) := by decide +kernel
theorem dX12_tries_28 : decode cX12_tries 28 = .ok (.getfield 13, 3) := by decide +kernel
theorem dX12_tries_31 : decode cX12_tries 31 = .ok (.iload 6, 2) := by decide +kernel
theorem dX12_tries_33 : decode cX12_tries 33 = .ok (.iload_n 3, 1) := by decide +kernel
theorem dX12_tries_34 : decode cX12_tries 34 = .ok (.invokevirtual 144, 3) := by decide +kernel
theorem dX12_tries_37 : decode cX12_tries 37 = .ok (.ifCond .eq 28, 3) := by decide +kernel
theorem dX12_tries_40 : decode cX12_tries 40 = .ok (.iload 4, 2) := by decide +kernel
theorem dX12_tries_42 : decode cX12_tries 42 = .ok (.ifCond .le 25, 3) := by decide +kernel
theorem dX12_tries_45 : decode cX12_tries 45 = .ok (.aload_n 0, 1) := by decide +kernel
theorem dX12_tries_46 : decode cX12_tries 46 = .ok (.getfield 13, 3) := by decide +kernel
theorem dX12_tries_49 : decode cX12_tries 49 = .ok (.iload 6, 2) := by decide +kernel
theorem dX12_tries_51 : decode cX12_tries 51 = .ok (.iconst 4, 1) := by decide +kernel
theorem dX12_tries_52 : decode cX12_tries 52 = .ok (.iadd, 1) := by decide +kernel
theorem dX12_tries_53 : decode cX12_tries 53 = .ok (.iaload, 1) := by decide +kernel
theorem dX12_tries_54 : decode cX12_tries 54 = .ok (.iconst 5, 1) := by decide +kernel
theorem dX12_tries_55 : decode cX12_tries 55 = .ok (.iload 4, 2) := by decide +kernel
theorem dX12_tries_57 : decode cX12_tries 57 = .ok (.imul, 1) := by decide +kernel
theorem dX12_tries_58 : decode cX12_tries 58 = .ok (.iadd, 1) := by decide +kernel
theorem dX12_tries_59 : decode cX12_tries 59 = .ok (.sipush 200, 3) := by decide +kernel
theorem dX12_tries_62 : decode cX12_tries 62 = .ok (.if_icmp .le 5, 3) := by decide +kernel
theorem dX12_tries_65 : decode cX12_tries 65 = .ok (.iconst 0, 1) := by decide +kernel
theorem dX12_tries_66 : decode cX12_tries 66 = .ok (.ireturn, 1) := by decide +kernel
theorem dX12_tries_67 : decode cX12_tries 67 = .ok (.aload_n 0, 1) := by decide +kernel
theorem dX12_tries_68 : decode cX12_tries 68 = .ok (.iload_n 1, 1) := by decide +kernel
theorem dX12_tries_69 : decode cX12_tries 69 = .ok (.invokevirtual 148, 3) := by decide +kernel
theorem dX12_tries_72 : decode cX12_tries 72 = .ok (.aload_n 0, 1) := by decide +kernel
theorem dX12_tries_73 : decode cX12_tries 73 = .ok (.getfield 41, 3) := by decide +kernel
theorem dX12_tries_76 : decode cX12_tries 76 = .ok (.iconst 0, 1) := by decide +kernel
theorem dX12_tries_77 : decode cX12_tries 77 = .ok (.dup2, 1) := by decide +kernel
theorem dX12_tries_78 : decode cX12_tries 78 = .ok (.iaload, 1) := by decide +kernel
theorem dX12_tries_79 : decode cX12_tries 79 = .ok (.iload_n 2, 1) := by decide +kernel
theorem dX12_tries_80 : decode cX12_tries 80 = .ok (.isub, 1) := by decide +kernel
theorem dX12_tries_81 : decode cX12_tries 81 = .ok (.iastore, 1) := by decide +kernel
theorem dX12_tries_82 : decode cX12_tries 82 = .ok (.aload_n 0, 1) := by decide +kernel
theorem dX12_tries_83 : decode cX12_tries 83 = .ok (.getfield 41, 3) := by decide +kernel
theorem dX12_tries_86 : decode cX12_tries 86 = .ok (.iconst 2, 1) := by decide +kernel
theorem dX12_tries_87 : decode cX12_tries 87 = .ok (.dup2, 1) := by decide +kernel
theorem dX12_tries_88 : decode cX12_tries 88 = .ok (.iaload, 1) := by decide +kernel
theorem dX12_tries_89 : decode cX12_tries 89 = .ok (.iload_n 3, 1) := by decide +kernel
theorem dX12_tries_90 : decode cX12_tries 90 = .ok (.isub, 1) := by decide +kernel
theorem dX12_tries_91 : decode cX12_tries 91 = .ok (.iastore, 1) := by decide +kernel
theorem dX12_tries_92 : decode cX12_tries 92 = .ok (.aload_n 0, 1) := by decide +kernel
theorem dX12_tries_93 : decode cX12_tries 93 = .ok (.getfield 41, 3) := by decide +kernel
theorem dX12_tries_96 : decode cX12_tries 96 = .ok (.iconst 3, 1) := by decide +kernel
theorem dX12_tries_97 : decode cX12_tries 97 = .ok (.dup2, 1) := by decide +kernel
theorem dX12_tries_98 : decode cX12_tries 98 = .ok (.iaload, 1) := by decide +kernel
theorem dX12_tries_99 : decode cX12_tries 99 = .ok (.iload_n 3, 1) := by decide +kernel
theorem dX12_tries_100 : decode cX12_tries 100 = .ok (.isub, 1) := by decide +kernel
theorem dX12_tries_101 : decode cX12_tries 101 = .ok (.iastore, 1) := by decide +kernel
theorem dX12_tries_102 : decode cX12_tries 102 = .ok (.aload_n 0, 1) := by decide +kernel
theorem dX12_tries_103 : decode cX12_tries 103 = .ok (.getfield 41, 3) := by decide +kernel
theorem dX12_tries_106 : decode cX12_tries 106 = .ok (.iconst 1, 1) := by decide +kernel
theorem dX12_tries_107 : decode cX12_tries 107 = .ok (.dup2, 1) := by decide +kernel
theorem dX12_tries_108 : decode cX12_tries 108 = .ok (.iaload, 1) := by decide +kernel
theorem dX12_tries_109 : decode cX12_tries 109 = .ok (.iconst 2, 1) := by decide +kernel
theorem dX12_tries_110 : decode cX12_tries 110 = .ok (.iload_n 3, 1) := by decide +kernel
theorem dX12_tries_111 : decode cX12_tries 111 = .ok (.imul, 1) := by decide +kernel
theorem dX12_tries_112 : decode cX12_tries 112 = .ok (.isub, 1) := by decide +kernel
theorem dX12_tries_113 : decode cX12_tries 113 = .ok (.iastore, 1) := by decide +kernel
theorem dX12_tries_114 : decode cX12_tries 114 = .ok (.aload_n 0, 1) := by decide +kernel
theorem dX12_tries_115 : decode cX12_tries 115 = .ok (.getfield 41, 3) := by decide +kernel
theorem dX12_tries_118 : decode cX12_tries 118 = .ok (.iconst 4, 1) := by decide +kernel
theorem dX12_tries_119 : decode cX12_tries 119 = .ok (.dup2, 1) := by decide +kernel
theorem dX12_tries_120 : decode cX12_tries 120 = .ok (.iaload, 1) := by decide +kernel
theorem dX12_tries_121 : decode cX12_tries 121 = .ok (.iconst 5, 1) := by decide +kernel
theorem dX12_tries_122 : decode cX12_tries 122 = .ok (.iload 4, 2) := by decide +kernel
theorem dX12_tries_124 : decode cX12_tries 124 = .ok (.imul, 1) := by decide +kernel
theorem dX12_tries_125 : decode cX12_tries 125 = .ok (.iadd, 1) := by decide +kernel
theorem dX12_tries_126 : decode cX12_tries 126 = .ok (.iastore, 1) := by decide +kernel
theorem dX12_tries_127 : decode cX12_tries 127 = .ok (.aload_n 0, 1) := by decide +kernel
theorem dX12_tries_128 : decode cX12_tries 128 = .ok (.getfield 41, 3) := by decide +kernel
theorem dX12_tries_131 : decode cX12_tries 131 = .ok (.bipush 6, 2) := by decide +kernel
theorem dX12_tries_133 : decode cX12_tries 133 = .ok (.iload 5, 2) := by decide +kernel
theorem dX12_tries_135 : decode cX12_tries 135 = .ok (.ifCond .ne 13, 3) := by decide +kernel
theorem dX12_tries_138 : decode cX12_tries 138 = .ok (.aload_n 0, 1) := by decide +kernel
theorem dX12_tries_139 : decode cX12_tries 139 = .ok (.getfield 41, 3) := by decide +kernel
theorem dX12_tries_142 : decode cX12_tries 142 = .ok (.bipush 6, 2) := by decide +kernel
theorem dX12_tries_144 : decode cX12_tries 144 = .ok (.iaload, 1) := by decide +kernel
theorem dX12_tries_145 : decode cX12_tries 145 = .ok (.goto 12, 3) := by decide +kernel
theorem dX12_tries_148 : decode cX12_tries 148 = .ok (.iconst 1, 1) := by decide +kernel
theorem dX12_tries_149 : decode cX12_tries 149 = .ok (.aload_n 0, 1) := by decide +kernel
theorem dX12_tries_150 : decode cX12_tries 150 = .ok (.getfield 41, 3) := by decide +kernel
theorem dX12_tries_153 : decode cX12_tries 153 = .ok (.bipush 6, 2) := by decide +kernel
theorem dX12_tries_155 : decode cX12_tries 155 = .ok (.iaload, 1) := by decide +kernel
theorem dX12_tries_156 : decode cX12_tries 156 = .ok (.isub, 1) := by decide +kernel
theorem dX12_tries_157 : decode cX12_tries 157 = .ok (.iastore, 1) := by decide +kernel
theorem dX12_tries_158 : decode cX12_tries 158 = .ok (.iconst 1, 1) := by decide +kernel
theorem dX12_tries_159 : decode cX12_tries 159 = .ok (.ireturn, 1) := by decide +kernel
theorem dX12_isAct_0 : decode cX12_isAct 0 = .ok (.iload_n 0, 1) := by decide +kernel
theorem dX12_isAct_1 : decode cX12_isAct 1 = .ok (.iconst 0, 1) := by decide +kernel
theorem dX12_isAct_2 : decode cX12_isAct 2 = .ok (.iconst 4, 1) := by decide +kernel
theorem dX12_isAct_3 : decode cX12_isAct 3 = .ok (.invokestatic 57, 3) := by decide +kernel
theorem dX12_isAct_6 : decode cX12_isAct 6 = .ok (.ireturn, 1) := by decide +kernel
theorem dX12_least_0 : decode cX12_least 0 = .ok (.aload_n 0, 1) := by decide +kernel
theorem dX12_least_1 : decode cX12_least 1 = .ok (.iconst 0, 1) := by decide +kernel
theorem dX12_least_2 : decode cX12_least 2 = .ok (.putfield 53, 3) := by decide +kernel
theorem dX12_least_5 : decode cX12_least 5 = .ok (.aload_n 0, 1) := by decide +kernel
theorem dX12_least_6 : decode cX12_least 6 = .ok (.iload_n 1, 1) := by decide +kernel
theorem dX12_least_7 : decode cX12_least 7 = .ok (.invokevirtual 136, 3) := by decide +kernel
theorem dX12_least_10 : decode cX12_least 10 = .ok (.ifCond .eq 45, 3) := by decide +kernel
theorem dX12_least_13 : decode cX12_least 13 = .ok (.aload_n 0, 1) := by decide +kernel
theorem dX12_least_14 : decode cX12_least 14 = .ok (.iload_n 2, 1) := by decide +kernel
theorem dX12_least_15 : decode cX12_least 15 = .ok (.invokevirtual 140, 3) := by decide +kernel
theorem dX12_least_18 : decode cX12_least 18 = .ok (.ifCond .eq 37, 3) := by decide +kernel
theorem dX12_least_21 : decode cX12_least 21 = .ok (.iload 4, 2) := by decide +kernel
theorem dX12_least_23 : decode cX12_least 23 = .ok (.sipush 200, 3) := by decide +kernel
theorem dX12_least_26 : decode cX12_least 26 = .ok (.sipush 800, 3) := by decide +kernel
theorem dX12_least_29 : decode cX12_least 29 = .ok (.invokestatic 57, 3) := by decide +kernel
theorem dX12_least_32 : decode cX12_least 32 = .ok (.ifCond .eq 23, 3) := by decide +kernel
theorem dX12_least_35 : decode cX12_least 35 = .ok (.iload_n 3, 1) := by decide +kernel
theorem dX12_least_36 : decode cX12_least 36 = .ok (.sipush 200, 3) := by decide +kernel
theorem dX12_least_39 : decode cX12_least 39 = .ok (.iload 4, 2) := by decide +kernel
theorem dX12_least_41 : decode cX12_least 41 = .ok (.invokestatic 57, 3) := by decide +kernel
theorem dX12_least_44 : decode cX12_least 44 = .ok (.ifCond .eq 11, 3) := by decide +kernel
theorem dX12_least_47 : decode cX12_least 47 = .ok (.iload 5, 2) := by decide +kernel
theorem dX12_least_49 : decode cX12_least 49 = .ok (.invokestatic 151, 3) := by decide +kernel
theorem dX12_least_52 : decode cX12_least 52 = .ok (.ifCond .ne 5, 3) := by decide +kernel
theorem dX12_least_55 : decode cX12_least 55 = .ok (.iconst (-1), 1) := by decide +kernel
theorem dX12_least_56 : decode cX12_least 56 = .ok (.ireturn, 1) := by decide +kernel
theorem dX12_least_57 : decode cX12_least 57 = .ok (.aload_n 0, 1) := by decide +kernel
theorem dX12_least_58 : decode cX12_least 58 = .ok (.getfield 50, 3) := by decide +kernel
theorem dX12_least_61 : decode cX12_least 61 = .ok (.iconst 0, 1) := by decide +kernel
theorem dX12_least_62 : decode cX12_least 62 = .ok (.bipush (-9), 2) := by decide +kernel
theorem dX12_least_64 : decode cX12_least 64 = .ok (.iastore, 1) := by decide +kernel
theorem dX12_least_65 : decode cX12_least 65 = .ok (.iconst 0, 1) := by decide +kernel
theorem dX12_least_66 : decode cX12_least 66 = .ok (.istore 6, 2) := by decide +kernel
theorem dX12_least_68 : decode cX12_least 68 = .ok (.iload 6, 2) := by decide +kernel
theorem dX12_least_70 : decode cX12_least 70 = .ok (.iconst 2, 1) := by decide +kernel
theorem dX12_least_71 : decode cX12_least 71 = .ok (.if_icmp .ge 212, 3) := by decide +kernel
theorem dX12_least_74 : decode cX12_least 74 = .ok (.iconst 0, 1) := by decide +kernel
theorem dX12_least_75 : decode cX12_least 75 = .ok (.istore 7, 2) := by decide +kernel
theorem dX12_least_77 : decode cX12_least 77 = .ok (.iload 7, 2) := by decide +kernel
theorem dX12_least_79 : decode cX12_least 79 = .ok (.bipush 16, 2) := by decide +kernel
theorem dX12_least_81 : decode cX12_least 81 = .ok (.if_icmp .ge 196, 3) := by decide +kernel
theorem dX12_least_84 : decode cX12_least 84 = .ok (.iconst 0, 1) := by decide +kernel
theorem dX12_least_85 : decode cX12_least 85 = .ok (.istore 8, 2) := by decide +kernel
theorem dX12_least_87 : decode cX12_least 87 = .ok (.iload 8, 2) := by decide +kernel
theorem dX12_least_89 : decode cX12_least 89 = .ok (.bipush 16, 2) := by decide +kernel
theorem dX12_least_91 : decode cX12_least 91 = .ok (.if_icmp .ge 180, 3) := by decide +kernel
theorem dX12_least_94 : decode cX12_least 94 = .ok (.iconst 0, 1) := by decide +kernel
theorem dX12_least_95 : decode cX12_least 95 = .ok (.istore 9, 2) := by decide +kernel
theorem dX12_least_97 : decode cX12_least 97 = .ok (.iload 9, 2) := by decide +kernel
theorem dX12_least_99 : decode cX12_least 99 = .ok (.bipush 16, 2) := by decide +kernel
theorem dX12_least_101 : decode cX12_least 101 = .ok (.if_icmp .ge 164, 3) := by decide +kernel
theorem dX12_least_104 : decode cX12_least 104 = .ok (.iload 6, 2) := by decide +kernel
theorem dX12_least_106 : decode cX12_least 106 = .ok (.iload 7, 2) := by decide +kernel
theorem dX12_least_108 : decode cX12_least 108 = .ok (.iadd, 1) := by decide +kernel
theorem dX12_least_109 : decode cX12_least 109 = .ok (.iload 8, 2) := by decide +kernel
theorem dX12_least_111 : decode cX12_least 111 = .ok (.iadd, 1) := by decide +kernel
theorem dX12_least_112 : decode cX12_least 112 = .ok (.iload 9, 2) := by decide +kernel
theorem dX12_least_114 : decode cX12_least 114 = .ok (.iadd, 1) := by decide +kernel
theorem dX12_least_115 : decode cX12_least 115 = .ok (.istore 10, 2) := by decide +kernel
theorem dX12_least_117 : decode cX12_least 117 = .ok (.aload_n 0, 1) := by decide +kernel
theorem dX12_least_118 : decode cX12_least 118 = .ok (.getfield 50, 3) := by decide +kernel
theorem dX12_least_121 : decode cX12_least 121 = .ok (.iconst 0, 1) := by decide +kernel
theorem dX12_least_122 : decode cX12_least 122 = .ok (.iaload, 1) := by decide +kernel
theorem dX12_least_123 : decode cX12_least 123 = .ok (.bipush (-9), 2) := by decide +kernel
theorem dX12_least_125 : decode cX12_least 125 = .ok (.if_icmp .eq 14, 3) := by decide +kernel
theorem dX12_least_128 : decode cX12_least 128 = .ok (.iload 10, 2) := by decide +kernel
theorem dX12_least_130 : decode cX12_least 130 = .ok (.aload_n 0, 1) := by decide +kernel
theorem dX12_least_131 : decode cX12_least 131 = .ok (.getfield 50, 3) := by decide +kernel
theorem dX12_least_134 : decode cX12_least 134 = .ok (.iconst 0, 1) := by decide +kernel
theorem dX12_least_135 : decode cX12_least 135 = .ok (.iaload, 1) := by decide +kernel
theorem dX12_least_136 : decode cX12_least 136 = .ok (.if_icmp .ge 7, 3) := by decide +kernel
theorem dX12_least_139 : decode cX12_least 139 = .ok (.iconst 1, 1) := by decide +kernel
theorem dX12_least_140 : decode cX12_least 140 = .ok (.goto 4, 3) := by decide +kernel
theorem dX12_least_143 : decode cX12_least 143 = .ok (.iconst 0, 1) := by decide +kernel
theorem dX12_least_144 : decode cX12_least 144 = .ok (.istore 11, 2) := by decide +kernel
theorem dX12_least_146 : decode cX12_least 146 = .ok (.iload 11, 2) := by decide +kernel
theorem dX12_least_148 : decode cX12_least 148 = .ok (.ifCond .eq 111, 3) := by decide +kernel
theorem dX12_least_151 : decode cX12_least 151 = .ok (.aload_n 0, 1) := by decide +kernel
theorem dX12_least_152 : decode cX12_least 152 = .ok (.iload_n 1, 1) := by decide +kernel
theorem dX12_least_153 : decode cX12_least 153 = .ok (.iload 7, 2) := by decide +kernel
theorem dX12_least_155 : decode cX12_least 155 = .ok (.iload 8, 2) := by decide +kernel
theorem dX12_least_157 : decode cX12_least 157 = .ok (.iload 9, 2) := by decide +kernel
theorem dX12_least_159 : decode cX12_least 159 = .ok (.iload 6, 2) := by decide +kernel
theorem dX12_least_161 : decode cX12_least 161 = .ok (.invokevirtual 154, 3) := by decide +kernel
theorem dX12_least_164 : decode cX12_least 164 = .ok (.ifCond .eq 95, 3) := by decide +kernel
theorem dX12_least_167 : decode cX12_least 167 = .ok (.aload_n 0, 1) := by decide +kernel
theorem dX12_least_168 : decode cX12_least 168 = .ok (.getfield 41, 3) := by decide +kernel
theorem dX12_least_171 : decode cX12_least 171 = .ok (.iconst 1, 1) := by decide +kernel
theorem dX12_least_172 : decode cX12_least 172 = .ok (.iaload, 1) := by decide +kernel
theorem dX12_least_173 : decode cX12_least 173 = .ok (.aload_n 0, 1) := by decide +kernel
theorem dX12_least_174 : decode cX12_least 174 = .ok (.getfield 41, 3) := by decide +kernel
theorem dX12_least_177 : decode cX12_least 177 = .ok (.iconst 4, 1) := by decide +kernel
theorem dX12_least_178 : decode cX12_least 178 = .ok (.iaload, 1) := by decide +kernel
theorem dX12_least_179 : decode cX12_least 179 = .ok (.iadd, 1) := by decide +kernel
theorem dX12_least_180 : decode cX12_least 180 = .ok (.iload_n 3, 1) := by decide +kernel
theorem dX12_least_181 : decode cX12_least 181 = .ok (.iload 4, 2) := by decide +kernel
theorem dX12_least_183 : decode cX12_least 183 = .ok (.invokestatic 57, 3) := by decide +kernel
theorem dX12_least_186 : decode cX12_least 186 = .ok (.ifCond .eq 73, 3) := by decide +kernel
theorem dX12_least_189 : decode cX12_least 189 = .ok (.aload_n 0, 1) := by decide +kernel
theorem dX12_least_190 : decode cX12_least 190 = .ok (.aload_n 0, 1) := by decide +kernel
theorem dX12_least_191 : decode cX12_least 191 = .ok (.getfield 23, 3) := by decide +kernel
theorem dX12_least_194 : decode cX12_least 194 = .ok (.iconst 2, 1) := by decide +kernel
theorem dX12_least_195 : decode cX12_least 195 = .ok (.iload_n 2, 1) := by decide +kernel
theorem dX12_least_196 : decode cX12_least 196 = .ok (.imul, 1) := by decide +kernel
theorem dX12_least_197 : decode cX12_least 197 = .ok (.iaload, 1) := by decide +kernel
theorem dX12_least_198 : decode cX12_least 198 = .ok (.aload_n 0, 1) := by decide +kernel
theorem dX12_least_199 : decode cX12_least 199 = .ok (.getfield 23, 3) := by decide +kernel
theorem dX12_least_202 : decode cX12_least 202 = .ok (.iconst 2, 1) := by decide +kernel
theorem dX12_least_203 : decode cX12_least 203 = .ok (.iload_n 2, 1) := by decide +kernel
theorem dX12_least_204 : decode cX12_least 204 = .ok (.imul, 1) := by decide +kernel
theorem dX12_least_205 : decode cX12_least 205 = .ok (.iconst 1, 1) := by decide +kernel
theorem dX12_least_206 : decode cX12_least 206 = .ok (.iadd, 1) := by decide +kernel
theorem dX12_least_207 : decode cX12_least 207 = .ok (.iaload, 1) := by decide +kernel
theorem dX12_least_208 : decode cX12_least 208 = .ok (.invokevirtual 158, 3) := by decide +kernel
theorem dX12_least_211 : decode cX12_least 211 = .ok (.aload_n 0, 1) := by decide +kernel
theorem dX12_least_212 : decode cX12_least 212 = .ok (.getfield 162, 3) := by decide +kernel
theorem dX12_least_215 : decode cX12_least 215 = .ok (.iconst 1, 1) := by decide +kernel
theorem dX12_least_216 : decode cX12_least 216 = .ok (.if_icmp .ne 43, 3) := by decide +kernel
theorem dX12_least_219 : decode cX12_least 219 = .ok (.aload_n 0, 1) := by decide +kernel
theorem dX12_least_220 : decode cX12_least 220 = .ok (.getfield 50, 3) := by decide +kernel
theorem dX12_least_223 : decode cX12_least 223 = .ok (.iconst 0, 1) := by decide +kernel
theorem dX12_least_224 : decode cX12_least 224 = .ok (.iload 10, 2) := by decide +kernel
theorem dX12_least_226 : decode cX12_least 226 = .ok (.iastore, 1) := by decide +kernel
theorem dX12_least_227 : decode cX12_least 227 = .ok (.aload_n 0, 1) := by decide +kernel
theorem dX12_least_228 : decode cX12_least 228 = .ok (.getfield 50, 3) := by decide +kernel
theorem dX12_least_231 : decode cX12_least 231 = .ok (.iconst 1, 1) := by decide +kernel
theorem dX12_least_232 : decode cX12_least 232 = .ok (.iload 7, 2) := by decide +kernel
theorem dX12_least_234 : decode cX12_least 234 = .ok (.iastore, 1) := by decide +kernel
theorem dX12_least_235 : decode cX12_least 235 = .ok (.aload_n 0, 1) := by decide +kernel
theorem dX12_least_236 : decode cX12_least 236 = .ok (.getfield 50, 3) := by decide +kernel
theorem dX12_least_239 : decode cX12_least 239 = .ok (.iconst 2, 1) := by decide +kernel
theorem dX12_least_240 : decode cX12_least 240 = .ok (.iload 8, 2) := by decide +kernel
theorem dX12_least_242 : decode cX12_least 242 = .ok (.iastore, 1) := by decide +kernel
theorem dX12_least_243 : decode cX12_least 243 = .ok (.aload_n 0, 1) := by decide +kernel
theorem dX12_least_244 : decode cX12_least 244 = .ok (.getfield 50, 3) := by decide +kernel
theorem dX12_least_247 : decode cX12_least 247 = .ok (.iconst 3, 1) := by decide +kernel
theorem dX12_least_248 : decode cX12_least 248 = .ok (.iload 9, 2) := by decide +kernel
theorem dX12_least_250 : decode cX12_least 250 = .ok (.iastore, 1) := by decide +kernel
theorem dX12_least_251 : decode cX12_least 251 = .ok (.aload_n 0, 1) := by decide +kernel
theorem dX12_least_252 : decode cX12_least 252 = .ok (.getfield 50, 3) := by decide +kernel
theorem dX12_least_255 : decode cX12_least 255 = .ok (.iconst 4, 1) := by decide +kernel
theorem dX12_least_256 : decode cX12_least 256 = .ok (.iload 6, 2) := by decide +kernel
theorem dX12_least_258 : decode cX12_least 258 = .ok (.iastore, 1) := by decide +kernel
theorem dX12_least_259 : decode cX12_least 259 = .ok (.iinc 9 1, 3) := by decide +kernel
theorem dX12_least_262 : decode cX12_least 262 = .ok (.goto (-165), 3) := by decide +kernel
theorem dX12_least_265 : decode cX12_least 265 = .ok (.iinc 8 1, 3) := by decide +kernel
theorem dX12_least_268 : decode cX12_least 268 = .ok (.goto (-181), 3) := by decide +kernel
theorem dX12_least_271 : decode cX12_least 271 = .ok (.iinc 7 1, 3) := by decide +kernel
theorem dX12_least_274 : decode cX12_least 274 = .ok (.goto (-197), 3) := by decide +kernel
theorem dX12_least_277 : decode cX12_least 277 = .ok (.iinc 6 1, 3) := by decide +kernel
theorem dX12_least_280 : decode cX12_least 280 = .ok (.goto (-212), 3) := by decide +kernel
theorem dX12_least_283 : decode cX12_least 283 = .ok (.aload_n 0, 1) := by decide +kernel
theorem dX12_least_284 : decode cX12_least 284 = .ok (.getfield 50, 3) := by decide +kernel
theorem dX12_least_287 : decode cX12_least 287 = .ok (.iconst 0, 1) := by decide +kernel
theorem dX12_least_288 : decode cX12_least 288 = .ok (.iaload, 1) := by decide +kernel
theorem dX12_least_289 : decode cX12_least 289 = .ok (.bipush (-9), 2) := by decide +kernel
theorem dX12_least_291 : decode cX12_least 291 = .ok (.if_icmp .ne 8, 3) := by decide +kernel
theorem dX12_least_294 : decode cX12_least 294 = .ok (.bipush (-9), 2) := by decide +kernel
theorem dX12_least_296 : decode cX12_least 296 = .ok (.goto 10, 3) := by decide +kernel
theorem dX12_least_299 : decode cX12_least 299 = .ok (.aload_n 0, 1) := by decide +kernel
theorem dX12_least_300 : decode cX12_least 300 = .ok (.getfield 50, 3) := by decide +kernel
theorem dX12_least_303 : decode cX12_least 303 = .ok (.iload 5, 2) := by decide +kernel
theorem dX12_least_305 : decode cX12_least 305 = .ok (.iaload, 1) := by decide +kernel
theorem dX12_least_306 : decode cX12_least 306 = .ok (.ireturn, 1) := by decide +kernel
theorem dX12_lays_0 : decode cX12_lays 0 = .ok (.iconst 0, 1) := by decide +kernel
theorem dX12_lays_1 : decode cX12_lays 1 = .ok (.istore_n 2, 1) := by decide +kernel
theorem dX12_lays_2 : decode cX12_lays 2 = .ok (.iload_n 2, 1) := by decide +kernel
theorem dX12_lays_3 : decode cX12_lays 3 = .ok (.bipush 7, 2) := by decide +kernel
theorem dX12_lays_5 : decode cX12_lays 5 = .ok (.if_icmp .ge 26, 3) := by decide +kernel
theorem dX12_lays_8 : decode cX12_lays 8 = .ok (.aload_n 0, 1) := by decide +kernel
theorem dX12_lays_9 : decode cX12_lays 9 = .ok (.getfield 41, 3) := by decide +kernel
theorem dX12_lays_12 : decode cX12_lays 12 = .ok (.iload_n 2, 1) := by decide +kernel
theorem dX12_lays_13 : decode cX12_lays 13 = .ok (.aload_n 0, 1) := by decide +kernel
theorem dX12_lays_14 : decode cX12_lays 14 = .ok (.getfield 13, 3) := by decide +kernel
theorem dX12_lays_17 : decode cX12_lays 17 = .ok (.bipush 7, 2) := by decide +kernel
theorem dX12_lays_19 : decode cX12_lays 19 = .ok (.iload_n 1, 1) := by decide +kernel
theorem dX12_lays_20 : decode cX12_lays 20 = .ok (.imul, 1) := by decide +kernel
theorem dX12_lays_21 : decode cX12_lays 21 = .ok (.iload_n 2, 1) := by decide +kernel
theorem dX12_lays_22 : decode cX12_lays 22 = .ok (.iadd, 1) := by decide +kernel
theorem dX12_lays_23 : decode cX12_lays 23 = .ok (.iaload, 1) := by decide +kernel
theorem dX12_lays_24 : decode cX12_lays 24 = .ok (.iastore, 1) := by decide +kernel
theorem dX12_lays_25 : decode cX12_lays 25 = .ok (.iinc 2 1, 3) := by decide +kernel
theorem dX12_lays_28 : decode cX12_lays 28 = .ok (.goto (-26), 3) := by decide +kernel
theorem dX12_lays_31 : decode cX12_lays 31 = .ok (.return_, 1) := by decide +kernel
theorem dX12_kindOf_0 : decode cX12_kindOf 0 = .ok (.iload_n 1, 1) := by decide +kernel
theorem dX12_kindOf_1 : decode cX12_kindOf 1 = .ok (.invokestatic 165, 3) := by decide +kernel
theorem dX12_kindOf_4 : decode cX12_kindOf 4 = .ok (.aload_n 0, 1) := by decide +kernel
theorem dX12_kindOf_5 : decode cX12_kindOf 5 = .ok (.getfield 38, 3) := by decide +kernel
theorem dX12_kindOf_8 : decode cX12_kindOf 8 = .ok (.iconst 0, 1) := by decide +kernel
theorem dX12_kindOf_9 : decode cX12_kindOf 9 = .ok (.iaload, 1) := by decide +kernel
theorem dX12_kindOf_10 : decode cX12_kindOf 10 = .ok (.if_icmp .gt 7, 3) := by decide +kernel
theorem dX12_kindOf_13 : decode cX12_kindOf 13 = .ok (.iconst 1, 1) := by decide +kernel
theorem dX12_kindOf_14 : decode cX12_kindOf 14 = .ok (.goto 29, 3) := by decide +kernel
theorem dX12_kindOf_17 : decode cX12_kindOf 17 = .ok (.iload_n 1, 1) := by decide +kernel
theorem dX12_kindOf_18 : decode cX12_kindOf 18 = .ok (.invokestatic 165, 3) := by decide +kernel
theorem dX12_kindOf_21 : decode cX12_kindOf 21 = .ok (.aload_n 0, 1) := by decide +kernel
theorem dX12_kindOf_22 : decode cX12_kindOf 22 = .ok (.getfield 38, 3) := by decide +kernel
theorem dX12_kindOf_25 : decode cX12_kindOf 25 = .ok (.iconst 1, 1) := by decide +kernel
theorem dX12_kindOf_26 : decode cX12_kindOf 26 = .ok (.iaload, 1) := by decide +kernel
theorem dX12_kindOf_27 : decode cX12_kindOf 27 = .ok (.if_icmp .le 7, 3) := by decide +kernel
theorem dX12_kindOf_30 : decode cX12_kindOf 30 = .ok (.iconst 4, 1) := by decide +kernel
theorem dX12_kindOf_31 : decode cX12_kindOf 31 = .ok (.goto 12, 3) := by decide +kernel
theorem dX12_kindOf_34 : decode cX12_kindOf 34 = .ok (.iload_n 1, 1) := by decide +kernel
theorem dX12_kindOf_35 : decode cX12_kindOf 35 = .ok (.ifCond .le 7, 3) := by decide +kernel
theorem dX12_kindOf_38 : decode cX12_kindOf 38 = .ok (.iconst 2, 1) := by decide +kernel
theorem dX12_kindOf_39 : decode cX12_kindOf 39 = .ok (.goto 4, 3) := by decide +kernel
theorem dX12_kindOf_42 : decode cX12_kindOf 42 = .ok (.iconst 5, 1) := by decide +kernel
theorem dX12_kindOf_43 : decode cX12_kindOf 43 = .ok (.ireturn, 1) := by decide +kernel
theorem dX12_bareOf_0 : decode cX12_bareOf 0 = .ok (.aload_n 0, 1) := by decide +kernel
theorem dX12_bareOf_1 : decode cX12_bareOf 1 = .ok (.iload_n 1, 1) := by decide +kernel
theorem dX12_bareOf_2 : decode cX12_bareOf 2 = .ok (.invokevirtual 168, 3) := by decide +kernel
theorem dX12_bareOf_5 : decode cX12_bareOf 5 = .ok (.istore_n 2, 1) := by decide +kernel
theorem dX12_bareOf_6 : decode cX12_bareOf 6 = .ok (.iload_n 1, 1) := by decide +kernel
theorem dX12_bareOf_7 : decode cX12_bareOf 7 = .ok (.ineg, 1) := by decide +kernel
theorem dX12_bareOf_8 : decode cX12_bareOf 8 = .ok (.aload_n 0, 1) := by decide +kernel
theorem dX12_bareOf_9 : decode cX12_bareOf 9 = .ok (.getfield 38, 3) := by decide +kernel
theorem dX12_bareOf_12 : decode cX12_bareOf 12 = .ok (.iconst 2, 1) := by decide +kernel
theorem dX12_bareOf_13 : decode cX12_bareOf 13 = .ok (.iaload, 1) := by decide +kernel
theorem dX12_bareOf_14 : decode cX12_bareOf 14 = .ok (.imul, 1) := by decide +kernel
theorem dX12_bareOf_15 : decode cX12_bareOf 15 = .ok (.bipush 10, 2) := by decide +kernel
theorem dX12_bareOf_17 : decode cX12_bareOf 17 = .ok (.idiv, 1) := by decide +kernel
theorem dX12_bareOf_18 : decode cX12_bareOf 18 = .ok (.istore_n 3, 1) := by decide +kernel
theorem dX12_bareOf_19 : decode cX12_bareOf 19 = .ok (.iload_n 2, 1) := by decide +kernel
theorem dX12_bareOf_20 : decode cX12_bareOf 20 = .ok (.iconst 1, 1) := by decide +kernel
theorem dX12_bareOf_21 : decode cX12_bareOf 21 = .ok (.if_icmp .ne 7, 3) := by decide +kernel
theorem dX12_bareOf_24 : decode cX12_bareOf 24 = .ok (.iconst 0, 1) := by decide +kernel
theorem dX12_bareOf_25 : decode cX12_bareOf 25 = .ok (.goto 15, 3) := by decide +kernel
theorem dX12_bareOf_28 : decode cX12_bareOf 28 = .ok (.iload_n 2, 1) := by decide +kernel
theorem dX12_bareOf_29 : decode cX12_bareOf 29 = .ok (.iconst 4, 1) := by decide +kernel
theorem dX12_bareOf_30 : decode cX12_bareOf 30 = .ok (.if_icmp .ne 9, 3) := by decide +kernel
theorem dX12_bareOf_33 : decode cX12_bareOf 33 = .ok (.iconst 2, 1) := by decide +kernel
theorem dX12_bareOf_34 : decode cX12_bareOf 34 = .ok (.iload_n 3, 1) := by decide +kernel
theorem dX12_bareOf_35 : decode cX12_bareOf 35 = .ok (.imul, 1) := by decide +kernel
theorem dX12_bareOf_36 : decode cX12_bareOf 36 = .ok (.goto 4, 3) := by decide +kernel
theorem dX12_bareOf_39 : decode cX12_bareOf 39 = .ok (.iload_n 3, 1) := by decide +kernel
theorem dX12_bareOf_40 : decode cX12_bareOf 40 = .ok (.ireturn, 1) := by decide +kernel
theorem dX12_flies_0 : decode cX12_flies 0 = .ok (.aload_n 0, 1) := by decide +kernel
theorem dX12_flies_1 : decode cX12_flies 1 = .ok (.aload_n 0, 1) := by decide +kernel
theorem dX12_flies_2 : decode cX12_flies 2 = .ok (.getfield 41, 3) := by decide +kernel
theorem dX12_flies_5 : decode cX12_flies 5 = .ok (.iconst 2, 1) := by decide +kernel
theorem dX12_flies_6 : decode cX12_flies 6 = .ok (.aload_n 0, 1) := by decide +kernel
theorem dX12_flies_7 : decode cX12_flies 7 = .ok (.getfield 41, 3) := by decide +kernel
theorem dX12_flies_10 : decode cX12_flies 10 = .ok (.bipush 6, 2) := by decide +kernel
theorem dX12_flies_12 : decode cX12_flies 12 = .ok (.iaload, 1) := by decide +kernel
theorem dX12_flies_13 : decode cX12_flies 13 = .ok (.iadd, 1) := by decide +kernel
theorem dX12_flies_14 : decode cX12_flies 14 = .ok (.iaload, 1) := by decide +kernel
theorem dX12_flies_15 : decode cX12_flies 15 = .ok (.bipush 112, 2) := by decide +kernel
theorem dX12_flies_17 : decode cX12_flies 17 = .ok (.imul, 1) := by decide +kernel
theorem dX12_flies_18 : decode cX12_flies 18 = .ok (.aload_n 0, 1) := by decide +kernel
theorem dX12_flies_19 : decode cX12_flies 19 = .ok (.getfield 41, 3) := by decide +kernel
theorem dX12_flies_22 : decode cX12_flies 22 = .ok (.iconst 0, 1) := by decide +kernel
theorem dX12_flies_23 : decode cX12_flies 23 = .ok (.iaload, 1) := by decide +kernel
theorem dX12_flies_24 : decode cX12_flies 24 = .ok (.idiv, 1) := by decide +kernel
theorem dX12_flies_25 : decode cX12_flies 25 = .ok (.aload_n 0, 1) := by decide +kernel
theorem dX12_flies_26 : decode cX12_flies 26 = .ok (.getfield 41, 3) := by decide +kernel
theorem dX12_flies_29 : decode cX12_flies 29 = .ok (.iconst 4, 1) := by decide +kernel
theorem dX12_flies_30 : decode cX12_flies 30 = .ok (.iaload, 1) := by decide +kernel
theorem dX12_flies_31 : decode cX12_flies 31 = .ok (.bipush 10, 2) := by decide +kernel
theorem dX12_flies_33 : decode cX12_flies 33 = .ok (.idiv, 1) := by decide +kernel
theorem dX12_flies_34 : decode cX12_flies 34 = .ok (.isub, 1) := by decide +kernel
theorem dX12_flies_35 : decode cX12_flies 35 = .ok (.putfield 171, 3) := by decide +kernel
theorem dX12_flies_38 : decode cX12_flies 38 = .ok (.aload_n 0, 1) := by decide +kernel
theorem dX12_flies_39 : decode cX12_flies 39 = .ok (.aload_n 0, 1) := by decide +kernel
theorem dX12_flies_40 : decode cX12_flies 40 = .ok (.getfield 171, 3) := by decide +kernel
theorem dX12_flies_43 : decode cX12_flies 43 = .ok (.iload_n 1, 1) := by decide +kernel
theorem dX12_flies_44 : decode cX12_flies 44 = .ok (.isub, 1) := by decide +kernel
theorem dX12_flies_45 : decode cX12_flies 45 = .ok (.iconst 2, 1) := by decide +kernel
theorem dX12_flies_46 : decode cX12_flies 46 = .ok (.iload_n 2, 1) := by decide +kernel
theorem dX12_flies_47 : decode cX12_flies 47 = .ok (.imul, 1) := by decide +kernel
theorem dX12_flies_48 : decode cX12_flies 48 = .ok (.isub, 1) := by decide +kernel
theorem dX12_flies_49 : decode cX12_flies 49 = .ok (.putfield 174, 3) := by decide +kernel
theorem dX12_flies_52 : decode cX12_flies 52 = .ok (.aload_n 0, 1) := by decide +kernel
theorem dX12_flies_53 : decode cX12_flies 53 = .ok (.aload_n 0, 1) := by decide +kernel
theorem dX12_flies_54 : decode cX12_flies 54 = .ok (.aload_n 0, 1) := by decide +kernel
theorem dX12_flies_55 : decode cX12_flies 55 = .ok (.getfield 174, 3) := by decide +kernel
theorem dX12_flies_58 : decode cX12_flies 58 = .ok (.invokevirtual 168, 3) := by decide +kernel
theorem dX12_flies_61 : decode cX12_flies 61 = .ok (.putfield 162, 3) := by decide +kernel
theorem dX12_flies_64 : decode cX12_flies 64 = .ok (.aload_n 0, 1) := by decide +kernel
theorem dX12_flies_65 : decode cX12_flies 65 = .ok (.aload_n 0, 1) := by decide +kernel
theorem dX12_flies_66 : decode cX12_flies 66 = .ok (.aload_n 0, 1) := by decide +kernel
theorem dX12_flies_67 : decode cX12_flies 67 = .ok (.getfield 174, 3) := by decide +kernel
theorem dX12_flies_70 : decode cX12_flies 70 = .ok (.invokevirtual 177, 3) := by decide +kernel
theorem dX12_flies_73 : decode cX12_flies 73 = .ok (.putfield 180, 3) := by decide +kernel
theorem dX12_flies_76 : decode cX12_flies 76 = .ok (.aload_n 0, 1) := by decide +kernel
theorem dX12_flies_77 : decode cX12_flies 77 = .ok (.aload_n 0, 1) := by decide +kernel
theorem dX12_flies_78 : decode cX12_flies 78 = .ok (.getfield 180, 3) := by decide +kernel
theorem dX12_flies_81 : decode cX12_flies 81 = .ok (.bipush 10, 2) := by decide +kernel
theorem dX12_flies_83 : decode cX12_flies 83 = .ok (.aload_n 0, 1) := by decide +kernel
theorem dX12_flies_84 : decode cX12_flies 84 = .ok (.getfield 41, 3) := by decide +kernel
theorem dX12_flies_87 : decode cX12_flies 87 = .ok (.iconst 5, 1) := by decide +kernel
theorem dX12_flies_88 : decode cX12_flies 88 = .ok (.iaload, 1) := by decide +kernel
theorem dX12_flies_89 : decode cX12_flies 89 = .ok (.isub, 1) := by decide +kernel
theorem dX12_flies_90 : decode cX12_flies 90 = .ok (.imul, 1) := by decide +kernel
theorem dX12_flies_91 : decode cX12_flies 91 = .ok (.bipush 10, 2) := by decide +kernel
theorem dX12_flies_93 : decode cX12_flies 93 = .ok (.idiv, 1) := by decide +kernel
theorem dX12_flies_94 : decode cX12_flies 94 = .ok (.aload_n 0, 1) := by decide +kernel
theorem dX12_flies_95 : decode cX12_flies 95 = .ok (.getfield 38, 3) := by decide +kernel
theorem dX12_flies_98 : decode cX12_flies 98 = .ok (.iconst 3, 1) := by decide +kernel
theorem dX12_flies_99 : decode cX12_flies 99 = .ok (.iaload, 1) := by decide +kernel
theorem dX12_flies_100 : decode cX12_flies 100 = .ok (.sipush 600, 3) := by decide +kernel
theorem dX12_flies_103 : decode cX12_flies 103 = .ok (.imul, 1) := by decide +kernel
theorem dX12_flies_104 : decode cX12_flies 104 = .ok (.aload_n 0, 1) := by decide +kernel
theorem dX12_flies_105 : decode cX12_flies 105 = .ok (.getfield 41, 3) := by decide +kernel
theorem dX12_flies_108 : decode cX12_flies 108 = .ok (.iconst 1, 1) := by decide +kernel
theorem dX12_flies_109 : decode cX12_flies 109 = .ok (.iaload, 1) := by decide +kernel
theorem dX12_flies_110 : decode cX12_flies 110 = .ok (.aload_n 0, 1) := by decide +kernel
theorem dX12_flies_111 : decode cX12_flies 111 = .ok (.getfield 41, 3) := by decide +kernel
theorem dX12_flies_114 : decode cX12_flies 114 = .ok (.iconst 4, 1) := by decide +kernel
theorem dX12_flies_115 : decode cX12_flies 115 = .ok (.iaload, 1) := by decide +kernel
theorem dX12_flies_116 : decode cX12_flies 116 = .ok (.iadd, 1) := by decide +kernel
theorem dX12_flies_117 : decode cX12_flies 117 = .ok (.idiv, 1) := by decide +kernel
theorem dX12_flies_118 : decode cX12_flies 118 = .ok (.iadd, 1) := by decide +kernel
theorem dX12_flies_119 : decode cX12_flies 119 = .ok (.putfield 183, 3) := by decide +kernel
theorem dX12_flies_122 : decode cX12_flies 122 = .ok (.aload_n 0, 1) := by decide +kernel
theorem dX12_flies_123 : decode cX12_flies 123 = .ok (.bipush 10, 2) := by decide +kernel
theorem dX12_flies_125 : decode cX12_flies 125 = .ok (.aload_n 0, 1) := by decide +kernel
theorem dX12_flies_126 : decode cX12_flies 126 = .ok (.getfield 41, 3) := by decide +kernel
theorem dX12_flies_129 : decode cX12_flies 129 = .ok (.iconst 1, 1) := by decide +kernel
theorem dX12_flies_130 : decode cX12_flies 130 = .ok (.iaload, 1) := by decide +kernel
theorem dX12_flies_131 : decode cX12_flies 131 = .ok (.aload_n 0, 1) := by decide +kernel
theorem dX12_flies_132 : decode cX12_flies 132 = .ok (.getfield 41, 3) := by decide +kernel
theorem dX12_flies_135 : decode cX12_flies 135 = .ok (.iconst 4, 1) := by decide +kernel
theorem dX12_flies_136 : decode cX12_flies 136 = .ok (.iaload, 1) := by decide +kernel
theorem dX12_flies_137 : decode cX12_flies 137 = .ok (.iadd, 1) := by decide +kernel
theorem dX12_flies_138 : decode cX12_flies 138 = .ok (.imul, 1) := by decide +kernel
theorem dX12_flies_139 : decode cX12_flies 139 = .ok (.iload_n 1, 1) := by decide +kernel
theorem dX12_flies_140 : decode cX12_flies 140 = .ok (.idiv, 1) := by decide +kernel
theorem dX12_flies_141 : decode cX12_flies 141 = .ok (.aload_n 0, 1) := by decide +kernel
theorem dX12_flies_142 : decode cX12_flies 142 = .ok (.getfield 41, 3) := by decide +kernel
theorem dX12_flies_145 : decode cX12_flies 145 = .ok (.iconst 5, 1) := by decide +kernel
theorem dX12_flies_146 : decode cX12_flies 146 = .ok (.iaload, 1) := by decide +kernel
theorem dX12_flies_147 : decode cX12_flies 147 = .ok (.iadd, 1) := by decide +kernel
theorem dX12_flies_148 : decode cX12_flies 148 = .ok (.putfield 186, 3) := by decide +kernel
theorem dX12_flies_151 : decode cX12_flies 151 = .ok (.return_, 1) := by decide +kernel
theorem dX12_fliesWith_0 : decode cX12_fliesWith 0 = .ok (.aload_n 0, 1) := by decide +kernel
theorem dX12_fliesWith_1 : decode cX12_fliesWith 1 = .ok (.iload_n 1, 1) := by decide +kernel
theorem dX12_fliesWith_2 : decode cX12_fliesWith 2 = .ok (.invokevirtual 148, 3) := by decide +kernel
theorem dX12_fliesWith_5 : decode cX12_fliesWith 5 = .ok (.aload_n 0, 1) := by decide +kernel
theorem dX12_fliesWith_6 : decode cX12_fliesWith 6 = .ok (.aload_n 0, 1) := by decide +kernel
theorem dX12_fliesWith_7 : decode cX12_fliesWith 7 = .ok (.getfield 23, 3) := by decide +kernel
theorem dX12_fliesWith_10 : decode cX12_fliesWith 10 = .ok (.iconst 2, 1) := by decide +kernel
theorem dX12_fliesWith_11 : decode cX12_fliesWith 11 = .ok (.iload_n 2, 1) := by decide +kernel
theorem dX12_fliesWith_12 : decode cX12_fliesWith 12 = .ok (.imul, 1) := by decide +kernel
theorem dX12_fliesWith_13 : decode cX12_fliesWith 13 = .ok (.iaload, 1) := by decide +kernel
theorem dX12_fliesWith_14 : decode cX12_fliesWith 14 = .ok (.aload_n 0, 1) := by decide +kernel
theorem dX12_fliesWith_15 : decode cX12_fliesWith 15 = .ok (.getfield 23, 3) := by decide +kernel
theorem dX12_fliesWith_18 : decode cX12_fliesWith 18 = .ok (.iconst 2, 1) := by decide +kernel
theorem dX12_fliesWith_19 : decode cX12_fliesWith 19 = .ok (.iload_n 2, 1) := by decide +kernel
theorem dX12_fliesWith_20 : decode cX12_fliesWith 20 = .ok (.imul, 1) := by decide +kernel
theorem dX12_fliesWith_21 : decode cX12_fliesWith 21 = .ok (.iconst 1, 1) := by decide +kernel
theorem dX12_fliesWith_22 : decode cX12_fliesWith 22 = .ok (.iadd, 1) := by decide +kernel
theorem dX12_fliesWith_23 : decode cX12_fliesWith 23 = .ok (.iaload, 1) := by decide +kernel
theorem dX12_fliesWith_24 : decode cX12_fliesWith 24 = .ok (.invokevirtual 158, 3) := by decide +kernel
theorem dX12_fliesWith_27 : decode cX12_fliesWith 27 = .ok (.return_, 1) := by decide +kernel
theorem dX12_flight_0 : decode cX12_flight 0 = .ok (.aload_n 0, 1) := by decide +kernel
theorem dX12_flight_1 : decode cX12_flight 1 = .ok (.iconst 0, 1) := by decide +kernel
theorem dX12_flight_2 : decode cX12_flight 2 = .ok (.putfield 53, 3) := by decide +kernel
theorem dX12_flight_5 : decode cX12_flight 5 = .ok (.aload_n 0, 1) := by decide +kernel
theorem dX12_flight_6 : decode cX12_flight 6 = .ok (.iload_n 1, 1) := by decide +kernel
theorem dX12_flight_7 : decode cX12_flight 7 = .ok (.invokevirtual 136, 3) := by decide +kernel
theorem dX12_flight_10 : decode cX12_flight 10 = .ok (.ifCond .eq 20, 3) := by decide +kernel
theorem dX12_flight_13 : decode cX12_flight 13 = .ok (.aload_n 0, 1) := by decide +kernel
theorem dX12_flight_14 : decode cX12_flight 14 = .ok (.iload_n 2, 1) := by decide +kernel
theorem dX12_flight_15 : decode cX12_flight 15 = .ok (.invokevirtual 140, 3) := by decide +kernel
theorem dX12_flight_18 : decode cX12_flight 18 = .ok (.ifCond .eq 12, 3) := by decide +kernel
theorem dX12_flight_21 : decode cX12_flight 21 = .ok (.iload_n 3, 1) := by decide +kernel
theorem dX12_flight_22 : decode cX12_flight 22 = .ok (.iconst 0, 1) := by decide +kernel
theorem dX12_flight_23 : decode cX12_flight 23 = .ok (.iconst 5, 1) := by decide +kernel
theorem dX12_flight_24 : decode cX12_flight 24 = .ok (.invokestatic 57, 3) := by decide +kernel
theorem dX12_flight_27 : decode cX12_flight 27 = .ok (.ifCond .ne 6, 3) := by decide +kernel
theorem dX12_flight_30 : decode cX12_flight 30 = .ok (.ldc 143, 2) := by decide +kernel
theorem dX12_flight_32 : decode cX12_flight 32 = .ok (.ireturn, 1) := by decide +kernel
theorem dX12_flight_33 : decode cX12_flight 33 = .ok (.aload_n 0, 1) := by decide +kernel
theorem dX12_flight_34 : decode cX12_flight 34 = .ok (.iload_n 1, 1) := by decide +kernel
theorem dX12_flight_35 : decode cX12_flight 35 = .ok (.iload_n 2, 1) := by decide +kernel
theorem dX12_flight_36 : decode cX12_flight 36 = .ok (.invokevirtual 189, 3) := by decide +kernel
theorem dX12_flight_39 : decode cX12_flight 39 = .ok (.iload_n 3, 1) := by decide +kernel
theorem dX12_flight_40 : decode cX12_flight 40 = .ok (.ifCond .ne 10, 3) := by decide +kernel
theorem dX12_flight_43 : decode cX12_flight 43 = .ok (.aload_n 0, 1) := by decide +kernel
theorem dX12_flight_44 : decode cX12_flight 44 = .ok (.getfield 171, 3) := by decide +kernel
theorem dX12_flight_47 : decode cX12_flight 47 = .ok (.goto 55, 3) := by decide +kernel
theorem dX12_flight_50 : decode cX12_flight 50 = .ok (.iload_n 3, 1) := by decide +kernel
theorem dX12_flight_51 : decode cX12_flight 51 = .ok (.iconst 1, 1) := by decide +kernel
theorem dX12_flight_52 : decode cX12_flight 52 = .ok (.if_icmp .ne 10, 3) := by decide +kernel
theorem dX12_flight_55 : decode cX12_flight 55 = .ok (.aload_n 0, 1) := by decide +kernel
theorem dX12_flight_56 : decode cX12_flight 56 = .ok (.getfield 174, 3) := by decide +kernel
theorem dX12_flight_59 : decode cX12_flight 59 = .ok (.goto 43, 3) := by decide +kernel
theorem dX12_flight_62 : decode cX12_flight 62 = .ok (.iload_n 3, 1) := by decide +kernel
theorem dX12_flight_63 : decode cX12_flight 63 = .ok (.iconst 2, 1) := by decide +kernel
theorem dX12_flight_64 : decode cX12_flight 64 = .ok (.if_icmp .ne 10, 3) := by decide +kernel
theorem dX12_flight_67 : decode cX12_flight 67 = .ok (.aload_n 0, 1) := by decide +kernel
theorem dX12_flight_68 : decode cX12_flight 68 = .ok (.getfield 180, 3) := by decide +kernel
theorem dX12_flight_71 : decode cX12_flight 71 = .ok (.goto 31, 3) := by decide +kernel
theorem dX12_flight_74 : decode cX12_flight 74 = .ok (.iload_n 3, 1) := by decide +kernel
theorem dX12_flight_75 : decode cX12_flight 75 = .ok (.iconst 3, 1) := by decide +kernel
theorem dX12_flight_76 : decode cX12_flight 76 = .ok (.if_icmp .ne 10, 3) := by decide +kernel
theorem dX12_flight_79 : decode cX12_flight 79 = .ok (.aload_n 0, 1) := by decide +kernel
theorem dX12_flight_80 : decode cX12_flight 80 = .ok (.getfield 183, 3) := by decide +kernel
theorem dX12_flight_83 : decode cX12_flight 83 = .ok (.goto 19, 3) := by decide +kernel
theorem dX12_flight_86 : decode cX12_flight 86 = .ok (.iload_n 3, 1) := by decide +kernel
theorem dX12_flight_87 : decode cX12_flight 87 = .ok (.iconst 4, 1) := by decide +kernel
theorem dX12_flight_88 : decode cX12_flight 88 = .ok (.if_icmp .ne 10, 3) := by decide +kernel
theorem dX12_flight_91 : decode cX12_flight 91 = .ok (.aload_n 0, 1) := by decide +kernel
theorem dX12_flight_92 : decode cX12_flight 92 = .ok (.getfield 186, 3) := by decide +kernel
theorem dX12_flight_95 : decode cX12_flight 95 = .ok (.goto 7, 3) := by decide +kernel
theorem dX12_flight_98 : decode cX12_flight 98 = .ok (.aload_n 0, 1) := by decide +kernel
theorem dX12_flight_99 : decode cX12_flight 99 = .ok (.getfield 162, 3) := by decide +kernel
theorem dX12_flight_102 : decode cX12_flight 102 = .ok (.ireturn, 1) := by decide +kernel
theorem dX12_band_0 : decode cX12_band 0 = .ok (.aload_n 0, 1) := by decide +kernel
theorem dX12_band_1 : decode cX12_band 1 = .ok (.iconst 0, 1) := by decide +kernel
theorem dX12_band_2 : decode cX12_band 2 = .ok (.putfield 53, 3) := by decide +kernel
theorem dX12_band_5 : decode cX12_band 5 = .ok (.aload_n 0, 1) := by decide +kernel
theorem dX12_band_6 : decode cX12_band 6 = .ok (.iload_n 1, 1) := by decide +kernel
theorem dX12_band_7 : decode cX12_band 7 = .ok (.invokevirtual 140, 3) := by decide +kernel
theorem dX12_band_10 : decode cX12_band 10 = .ok (.ifCond .eq 36, 3) := by decide +kernel
theorem dX12_band_13 : decode cX12_band 13 = .ok (.iload_n 2, 1) := by decide +kernel
theorem dX12_band_14 : decode cX12_band 14 = .ok (.bipush 80, 2) := by decide +kernel
theorem dX12_band_16 : decode cX12_band 16 = .ok (.sipush 130, 3) := by decide +kernel
theorem dX12_band_19 : decode cX12_band 19 = .ok (.invokestatic 57, 3) := by decide +kernel
theorem dX12_band_22 : decode cX12_band 22 = .ok (.ifCond .eq 24, 3) := by decide +kernel
theorem dX12_band_25 : decode cX12_band 25 = .ok (.iload_n 3, 1) := by decide +kernel
theorem dX12_band_26 : decode cX12_band 26 = .ok (.iconst 0, 1) := by decide +kernel
theorem dX12_band_27 : decode cX12_band 27 = .ok (.sipush 200, 3) := by decide +kernel
theorem dX12_band_30 : decode cX12_band 30 = .ok (.invokestatic 57, 3) := by decide +kernel
theorem dX12_band_33 : decode cX12_band 33 = .ok (.ifCond .eq 13, 3) := by decide +kernel
theorem dX12_band_36 : decode cX12_band 36 = .ok (.iload 4, 2) := by decide +kernel
theorem dX12_band_38 : decode cX12_band 38 = .ok (.iconst 0, 1) := by decide +kernel
theorem dX12_band_39 : decode cX12_band 39 = .ok (.iconst 1, 1) := by decide +kernel
theorem dX12_band_40 : decode cX12_band 40 = .ok (.invokestatic 57, 3) := by decide +kernel
theorem dX12_band_43 : decode cX12_band 43 = .ok (.ifCond .ne 5, 3) := by decide +kernel
theorem dX12_band_46 : decode cX12_band 46 = .ok (.iconst (-1), 1) := by decide +kernel
theorem dX12_band_47 : decode cX12_band 47 = .ok (.ireturn, 1) := by decide +kernel
theorem dX12_band_48 : decode cX12_band 48 = .ok (.bipush (-9), 2) := by decide +kernel
theorem dX12_band_50 : decode cX12_band 50 = .ok (.istore 5, 2) := by decide +kernel
theorem dX12_band_52 : decode cX12_band 52 = .ok (.bipush (-9), 2) := by decide +kernel
theorem dX12_band_54 : decode cX12_band 54 = .ok (.istore 6, 2) := by decide +kernel
theorem dX12_band_56 : decode cX12_band 56 = .ok (.bipush 20, 2) := by decide +kernel
theorem dX12_band_58 : decode cX12_band 58 = .ok (.istore 7, 2) := by decide +kernel
theorem dX12_band_60 : decode cX12_band 60 = .ok (.iload 7, 2) := by decide +kernel
theorem dX12_band_62 : decode cX12_band 62 = .ok (.bipush 100, 2) := by decide +kernel
theorem dX12_band_64 : decode cX12_band 64 = .ok (.if_icmp .ge 75, 3) := by decide +kernel
theorem dX12_band_67 : decode cX12_band 67 = .ok (.iload 7, 2) := by decide +kernel
theorem dX12_band_69 : decode cX12_band 69 = .ok (.bipush 112, 2) := by decide +kernel
theorem dX12_band_71 : decode cX12_band 71 = .ok (.imul, 1) := by decide +kernel
theorem dX12_band_72 : decode cX12_band 72 = .ok (.iload_n 2, 1) := by decide +kernel
theorem dX12_band_73 : decode cX12_band 73 = .ok (.idiv, 1) := by decide +kernel
theorem dX12_band_74 : decode cX12_band 74 = .ok (.iload_n 3, 1) := by decide +kernel
theorem dX12_band_75 : decode cX12_band 75 = .ok (.bipush 10, 2) := by decide +kernel
theorem dX12_band_77 : decode cX12_band 77 = .ok (.idiv, 1) := by decide +kernel
theorem dX12_band_78 : decode cX12_band 78 = .ok (.isub, 1) := by decide +kernel
theorem dX12_band_79 : decode cX12_band 79 = .ok (.aload_n 0, 1) := by decide +kernel
theorem dX12_band_80 : decode cX12_band 80 = .ok (.getfield 23, 3) := by decide +kernel
theorem dX12_band_83 : decode cX12_band 83 = .ok (.iconst 2, 1) := by decide +kernel
theorem dX12_band_84 : decode cX12_band 84 = .ok (.iload_n 1, 1) := by decide +kernel
theorem dX12_band_85 : decode cX12_band 85 = .ok (.imul, 1) := by decide +kernel
theorem dX12_band_86 : decode cX12_band 86 = .ok (.iaload, 1) := by decide +kernel
theorem dX12_band_87 : decode cX12_band 87 = .ok (.isub, 1) := by decide +kernel
theorem dX12_band_88 : decode cX12_band 88 = .ok (.iconst 2, 1) := by decide +kernel
theorem dX12_band_89 : decode cX12_band 89 = .ok (.aload_n 0, 1) := by decide +kernel
theorem dX12_band_90 : decode cX12_band 90 = .ok (.getfield 23, 3) := by decide +kernel
theorem dX12_band_93 : decode cX12_band 93 = .ok (.iconst 2, 1) := by decide +kernel
theorem dX12_band_94 : decode cX12_band 94 = .ok (.iload_n 1, 1) := by decide +kernel
theorem dX12_band_95 : decode cX12_band 95 = .ok (.imul, 1) := by decide +kernel
theorem dX12_band_96 : decode cX12_band 96 = .ok (.iconst 1, 1) := by decide +kernel
theorem dX12_band_97 : decode cX12_band 97 = .ok (.iadd, 1) := by decide +kernel
theorem dX12_band_98 : decode cX12_band 98 = .ok (.iaload, 1) := by decide +kernel
theorem dX12_band_99 : decode cX12_band 99 = .ok (.imul, 1) := by decide +kernel
theorem dX12_band_100 : decode cX12_band 100 = .ok (.isub, 1) := by decide +kernel
theorem dX12_band_101 : decode cX12_band 101 = .ok (.istore 8, 2) := by decide +kernel
theorem dX12_band_103 : decode cX12_band 103 = .ok (.aload_n 0, 1) := by decide +kernel
theorem dX12_band_104 : decode cX12_band 104 = .ok (.iload 8, 2) := by decide +kernel
theorem dX12_band_106 : decode cX12_band 106 = .ok (.invokevirtual 168, 3) := by decide +kernel
theorem dX12_band_109 : decode cX12_band 109 = .ok (.iconst 1, 1) := by decide +kernel
theorem dX12_band_110 : decode cX12_band 110 = .ok (.if_icmp .ne 23, 3) := by decide +kernel
theorem dX12_band_113 : decode cX12_band 113 = .ok (.iload 5, 2) := by decide +kernel
theorem dX12_band_115 : decode cX12_band 115 = .ok (.bipush (-9), 2) := by decide +kernel
theorem dX12_band_117 : decode cX12_band 117 = .ok (.if_icmp .ne 8, 3) := by decide +kernel
theorem dX12_band_120 : decode cX12_band 120 = .ok (.iload 7, 2) := by decide +kernel
theorem dX12_band_122 : decode cX12_band 122 = .ok (.goto 5, 3) := by decide +kernel
theorem dX12_band_125 : decode cX12_band 125 = .ok (.iload 5, 2) := by decide +kernel
theorem dX12_band_127 : decode cX12_band 127 = .ok (.istore 5, 2) := by decide +kernel
theorem dX12_band_129 : decode cX12_band 129 = .ok (.iload 7, 2) := by decide +kernel
theorem dX12_band_131 : decode cX12_band 131 = .ok (.istore 6, 2) := by decide +kernel
theorem dX12_band_133 : decode cX12_band 133 = .ok (.iinc 7 1, 3) := by decide +kernel
theorem dX12_band_136 : decode cX12_band 136 = .ok (.goto (-76), 3) := by decide +kernel
theorem dX12_band_139 : decode cX12_band 139 = .ok (.iload 4, 2) := by decide +kernel
theorem dX12_band_141 : decode cX12_band 141 = .ok (.ifCond .ne 8, 3) := by decide +kernel
theorem dX12_band_144 : decode cX12_band 144 = .ok (.iload 5, 2) := by decide +kernel
theorem dX12_band_146 : decode cX12_band 146 = .ok (.goto 5, 3) := by decide +kernel
theorem dX12_band_149 : decode cX12_band 149 = .ok (.iload 6, 2) := by decide +kernel
theorem dX12_band_151 : decode cX12_band 151 = .ok (.ireturn, 1) := by decide +kernel
theorem dX12_says_0 : decode cX12_says 0 = .ok (.aload_n 0, 1) := by decide +kernel
theorem dX12_says_1 : decode cX12_says 1 = .ok (.iconst 0, 1) := by decide +kernel
theorem dX12_says_2 : decode cX12_says 2 = .ok (.putfield 53, 3) := by decide +kernel
theorem dX12_says_5 : decode cX12_says 5 = .ok (.iload_n 1, 1) := by decide +kernel
theorem dX12_says_6 : decode cX12_says 6 = .ok (.sipush (-999), 3) := by decide +kernel
theorem dX12_says_9 : decode cX12_says 9 = .ok (.sipush 999, 3) := by decide +kernel
theorem dX12_says_12 : decode cX12_says 12 = .ok (.invokestatic 57, 3) := by decide +kernel
theorem dX12_says_15 : decode cX12_says 15 = .ok (.ifCond .eq 22, 3) := by decide +kernel
theorem dX12_says_18 : decode cX12_says 18 = .ok (.iload_n 2, 1) := by decide +kernel
theorem dX12_says_19 : decode cX12_says 19 = .ok (.iconst 0, 1) := by decide +kernel
theorem dX12_says_20 : decode cX12_says 20 = .ok (.bipush 9, 2) := by decide +kernel
theorem dX12_says_22 : decode cX12_says 22 = .ok (.invokestatic 57, 3) := by decide +kernel
theorem dX12_says_25 : decode cX12_says 25 = .ok (.ifCond .eq 12, 3) := by decide +kernel
theorem dX12_says_28 : decode cX12_says 28 = .ok (.iload_n 3, 1) := by decide +kernel
theorem dX12_says_29 : decode cX12_says 29 = .ok (.iconst 0, 1) := by decide +kernel
theorem dX12_says_30 : decode cX12_says 30 = .ok (.iconst 1, 1) := by decide +kernel
theorem dX12_says_31 : decode cX12_says 31 = .ok (.invokestatic 57, 3) := by decide +kernel
theorem dX12_says_34 : decode cX12_says 34 = .ok (.ifCond .ne 6, 3) := by decide +kernel
theorem dX12_says_37 : decode cX12_says 37 = .ok (.ldc 143, 2) := by decide +kernel
theorem dX12_says_39 : decode cX12_says 39 = .ok (.ireturn, 1) := by decide +kernel
theorem dX12_says_40 : decode cX12_says 40 = .ok (.ldc 143, 2) := by decide +kernel
theorem dX12_says_42 : decode cX12_says 42 = .ok (.istore 4, 2) := by decide +kernel
theorem dX12_says_44 : decode cX12_says 44 = .ok (.ldc 143, 2) := by decide +kernel
theorem dX12_says_46 : decode cX12_says 46 = .ok (.istore 5, 2) := by decide +kernel
theorem dX12_says_48 : decode cX12_says 48 = .ok (.bipush (-60), 2) := by decide +kernel
theorem dX12_says_50 : decode cX12_says 50 = .ok (.istore 6, 2) := by decide +kernel
theorem dX12_says_52 : decode cX12_says 52 = .ok (.iload 6, 2) := by decide +kernel
theorem dX12_says_54 : decode cX12_says 54 = .ok (.bipush 61, 2) := by decide +kernel
theorem dX12_says_56 : decode cX12_says 56 = .ok (.if_icmp .ge 54, 3) := by decide +kernel
theorem dX12_says_59 : decode cX12_says 59 = .ok (.aload_n 0, 1) := by decide +kernel
theorem dX12_says_60 : decode cX12_says 60 = .ok (.iload 6, 2) := by decide +kernel
theorem dX12_says_62 : decode cX12_says 62 = .ok (.invokevirtual 177, 3) := by decide +kernel
theorem dX12_says_65 : decode cX12_says 65 = .ok (.istore 7, 2) := by decide +kernel
theorem dX12_says_67 : decode cX12_says 67 = .ok (.iload 7, 2) := by decide +kernel
theorem dX12_says_69 : decode cX12_says 69 = .ok (.bipush 10, 2) := by decide +kernel
theorem dX12_says_71 : decode cX12_says 71 = .ok (.iload_n 2, 1) := by decide +kernel
theorem dX12_says_72 : decode cX12_says 72 = .ok (.isub, 1) := by decide +kernel
theorem dX12_says_73 : decode cX12_says 73 = .ok (.imul, 1) := by decide +kernel
theorem dX12_says_74 : decode cX12_says 74 = .ok (.bipush 10, 2) := by decide +kernel
theorem dX12_says_76 : decode cX12_says 76 = .ok (.idiv, 1) := by decide +kernel
theorem dX12_says_77 : decode cX12_says 77 = .ok (.iload 7, 2) := by decide +kernel
theorem dX12_says_79 : decode cX12_says 79 = .ok (.isub, 1) := by decide +kernel
theorem dX12_says_80 : decode cX12_says 80 = .ok (.iload_n 1, 1) := by decide +kernel
theorem dX12_says_81 : decode cX12_says 81 = .ok (.if_icmp .ne 23, 3) := by decide +kernel
theorem dX12_says_84 : decode cX12_says 84 = .ok (.iload 4, 2) := by decide +kernel
theorem dX12_says_86 : decode cX12_says 86 = .ok (.ldc 143, 2) := by decide +kernel
theorem dX12_says_88 : decode cX12_says 88 = .ok (.if_icmp .ne 8, 3) := by decide +kernel
theorem dX12_says_91 : decode cX12_says 91 = .ok (.iload 6, 2) := by decide +kernel
theorem dX12_says_93 : decode cX12_says 93 = .ok (.goto 5, 3) := by decide +kernel
theorem dX12_says_96 : decode cX12_says 96 = .ok (.iload 4, 2) := by decide +kernel
theorem dX12_says_98 : decode cX12_says 98 = .ok (.istore 4, 2) := by decide +kernel
theorem dX12_says_100 : decode cX12_says 100 = .ok (.iload 6, 2) := by decide +kernel
theorem dX12_says_102 : decode cX12_says 102 = .ok (.istore 5, 2) := by decide +kernel
theorem dX12_says_104 : decode cX12_says 104 = .ok (.iinc 6 1, 3) := by decide +kernel
theorem dX12_says_107 : decode cX12_says 107 = .ok (.goto (-55), 3) := by decide +kernel
theorem dX12_says_110 : decode cX12_says 110 = .ok (.iload_n 3, 1) := by decide +kernel
theorem dX12_says_111 : decode cX12_says 111 = .ok (.ifCond .ne 8, 3) := by decide +kernel
theorem dX12_says_114 : decode cX12_says 114 = .ok (.iload 4, 2) := by decide +kernel
theorem dX12_says_116 : decode cX12_says 116 = .ok (.goto 5, 3) := by decide +kernel
theorem dX12_says_119 : decode cX12_says 119 = .ok (.iload 5, 2) := by decide +kernel
theorem dX12_says_121 : decode cX12_says 121 = .ok (.ireturn, 1) := by decide +kernel
theorem dX12_areSame_0 : decode cX12_areSame 0 = .ok (.iload_n 0, 1) := by decide +kernel
theorem dX12_areSame_1 : decode cX12_areSame 1 = .ok (.iconst 0, 1) := by decide +kernel
theorem dX12_areSame_2 : decode cX12_areSame 2 = .ok (.sipush 999, 3) := by decide +kernel
theorem dX12_areSame_5 : decode cX12_areSame 5 = .ok (.invokestatic 57, 3) := by decide +kernel
theorem dX12_areSame_8 : decode cX12_areSame 8 = .ok (.ifCond .eq 18, 3) := by decide +kernel
theorem dX12_areSame_11 : decode cX12_areSame 11 = .ok (.iload_n 1, 1) := by decide +kernel
theorem dX12_areSame_12 : decode cX12_areSame 12 = .ok (.iconst 0, 1) := by decide +kernel
theorem dX12_areSame_13 : decode cX12_areSame 13 = .ok (.sipush 999, 3) := by decide +kernel
theorem dX12_areSame_16 : decode cX12_areSame 16 = .ok (.invokestatic 57, 3) := by decide +kernel
theorem dX12_areSame_19 : decode cX12_areSame 19 = .ok (.ifCond .eq 7, 3) := by decide +kernel
theorem dX12_areSame_22 : decode cX12_areSame 22 = .ok (.iconst 1, 1) := by decide +kernel
theorem dX12_areSame_23 : decode cX12_areSame 23 = .ok (.goto 4, 3) := by decide +kernel
theorem dX12_areSame_26 : decode cX12_areSame 26 = .ok (.iconst 0, 1) := by decide +kernel
theorem dX12_areSame_27 : decode cX12_areSame 27 = .ok (.ireturn, 1) := by decide +kernel
theorem dX12_fliesAll_0 : decode cX12_fliesAll 0 = .ok (.iconst 0, 1) := by decide +kernel
theorem dX12_fliesAll_1 : decode cX12_fliesAll 1 = .ok (.istore_n 2, 1) := by decide +kernel
theorem dX12_fliesAll_2 : decode cX12_fliesAll 2 = .ok (.iload_n 2, 1) := by decide +kernel
theorem dX12_fliesAll_3 : decode cX12_fliesAll 3 = .ok (.aload_n 0, 1) := by decide +kernel
theorem dX12_fliesAll_4 : decode cX12_fliesAll 4 = .ok (.getfield 127, 3) := by decide +kernel
theorem dX12_fliesAll_7 : decode cX12_fliesAll 7 = .ok (.if_icmp .ge 81, 3) := by decide +kernel
theorem dX12_fliesAll_10 : decode cX12_fliesAll 10 = .ok (.iconst 0, 1) := by decide +kernel
theorem dX12_fliesAll_11 : decode cX12_fliesAll 11 = .ok (.istore_n 3, 1) := by decide +kernel
theorem dX12_fliesAll_12 : decode cX12_fliesAll 12 = .ok (.iload_n 3, 1) := by decide +kernel
theorem dX12_fliesAll_13 : decode cX12_fliesAll 13 = .ok (.iconst 2, 1) := by decide +kernel
theorem dX12_fliesAll_14 : decode cX12_fliesAll 14 = .ok (.if_icmp .ge 68, 3) := by decide +kernel
theorem dX12_fliesAll_17 : decode cX12_fliesAll 17 = .ok (.aload_n 0, 1) := by decide +kernel
theorem dX12_fliesAll_18 : decode cX12_fliesAll 18 = .ok (.iload_n 2, 1) := by decide +kernel
theorem dX12_fliesAll_19 : decode cX12_fliesAll 19 = .ok (.invokevirtual 148, 3) := by decide +kernel
theorem dX12_fliesAll_22 : decode cX12_fliesAll 22 = .ok (.aload_n 0, 1) := by decide +kernel
theorem dX12_fliesAll_23 : decode cX12_fliesAll 23 = .ok (.getfield 41, 3) := by decide +kernel
theorem dX12_fliesAll_26 : decode cX12_fliesAll 26 = .ok (.bipush 6, 2) := by decide +kernel
theorem dX12_fliesAll_28 : decode cX12_fliesAll 28 = .ok (.iload_n 3, 1) := by decide +kernel
theorem dX12_fliesAll_29 : decode cX12_fliesAll 29 = .ok (.iastore, 1) := by decide +kernel
theorem dX12_fliesAll_30 : decode cX12_fliesAll 30 = .ok (.aload_n 0, 1) := by decide +kernel
theorem dX12_fliesAll_31 : decode cX12_fliesAll 31 = .ok (.aload_n 0, 1) := by decide +kernel
theorem dX12_fliesAll_32 : decode cX12_fliesAll 32 = .ok (.getfield 23, 3) := by decide +kernel
theorem dX12_fliesAll_35 : decode cX12_fliesAll 35 = .ok (.iconst 2, 1) := by decide +kernel
theorem dX12_fliesAll_36 : decode cX12_fliesAll 36 = .ok (.iload_n 1, 1) := by decide +kernel
theorem dX12_fliesAll_37 : decode cX12_fliesAll 37 = .ok (.imul, 1) := by decide +kernel
theorem dX12_fliesAll_38 : decode cX12_fliesAll 38 = .ok (.iaload, 1) := by decide +kernel
theorem dX12_fliesAll_39 : decode cX12_fliesAll 39 = .ok (.aload_n 0, 1) := by decide +kernel
theorem dX12_fliesAll_40 : decode cX12_fliesAll 40 = .ok (.getfield 23, 3) := by decide +kernel
theorem dX12_fliesAll_43 : decode cX12_fliesAll 43 = .ok (.iconst 2, 1) := by decide +kernel
theorem dX12_fliesAll_44 : decode cX12_fliesAll 44 = .ok (.iload_n 1, 1) := by decide +kernel
theorem dX12_fliesAll_45 : decode cX12_fliesAll 45 = .ok (.imul, 1) := by decide +kernel
theorem dX12_fliesAll_46 : decode cX12_fliesAll 46 = .ok (.iconst 1, 1) := by decide +kernel
theorem dX12_fliesAll_47 : decode cX12_fliesAll 47 = .ok (.iadd, 1) := by decide +kernel
theorem dX12_fliesAll_48 : decode cX12_fliesAll 48 = .ok (.iaload, 1) := by decide +kernel
theorem dX12_fliesAll_49 : decode cX12_fliesAll 49 = .ok (.invokevirtual 158, 3) := by decide +kernel
theorem dX12_fliesAll_52 : decode cX12_fliesAll 52 = .ok (.aload_n 0, 1) := by decide +kernel
theorem dX12_fliesAll_53 : decode cX12_fliesAll 53 = .ok (.getfield 44, 3) := by decide +kernel
theorem dX12_fliesAll_56 : decode cX12_fliesAll 56 = .ok (.iconst 2, 1) := by decide +kernel
theorem dX12_fliesAll_57 : decode cX12_fliesAll 57 = .ok (.iload_n 2, 1) := by decide +kernel
theorem dX12_fliesAll_58 : decode cX12_fliesAll 58 = .ok (.imul, 1) := by decide +kernel
theorem dX12_fliesAll_59 : decode cX12_fliesAll 59 = .ok (.iload_n 3, 1) := by decide +kernel
theorem dX12_fliesAll_60 : decode cX12_fliesAll 60 = .ok (.iadd, 1) := by decide +kernel
theorem dX12_fliesAll_61 : decode cX12_fliesAll 61 = .ok (.aload_n 0, 1) := by decide +kernel
theorem dX12_fliesAll_62 : decode cX12_fliesAll 62 = .ok (.getfield 183, 3) := by decide +kernel
theorem dX12_fliesAll_65 : decode cX12_fliesAll 65 = .ok (.iastore, 1) := by decide +kernel
theorem dX12_fliesAll_66 : decode cX12_fliesAll 66 = .ok (.aload_n 0, 1) := by decide +kernel
theorem dX12_fliesAll_67 : decode cX12_fliesAll 67 = .ok (.getfield 47, 3) := by decide +kernel
theorem dX12_fliesAll_70 : decode cX12_fliesAll 70 = .ok (.iload_n 2, 1) := by decide +kernel
theorem dX12_fliesAll_71 : decode cX12_fliesAll 71 = .ok (.aload_n 0, 1) := by decide +kernel
theorem dX12_fliesAll_72 : decode cX12_fliesAll 72 = .ok (.getfield 186, 3) := by decide +kernel
theorem dX12_fliesAll_75 : decode cX12_fliesAll 75 = .ok (.iastore, 1) := by decide +kernel
theorem dX12_fliesAll_76 : decode cX12_fliesAll 76 = .ok (.iinc 3 1, 3) := by decide +kernel
theorem dX12_fliesAll_79 : decode cX12_fliesAll 79 = .ok (.goto (-67), 3) := by decide +kernel
theorem dX12_fliesAll_82 : decode cX12_fliesAll 82 = .ok (.iinc 2 1, 3) := by decide +kernel
theorem dX12_fliesAll_85 : decode cX12_fliesAll 85 = .ok (.goto (-83), 3) := by decide +kernel
theorem dX12_fliesAll_88 : decode cX12_fliesAll 88 = .ok (.return_, 1) := by decide +kernel
theorem dX12_areAlike_0 : decode cX12_areAlike 0 = .ok (.iconst 0, 1) := by decide +kernel
theorem dX12_areAlike_1 : decode cX12_areAlike 1 = .ok (.istore 4, 2) := by decide +kernel
theorem dX12_areAlike_3 : decode cX12_areAlike 3 = .ok (.iload 4, 2) := by decide +kernel
theorem dX12_areAlike_5 : decode cX12_areAlike 5 = .ok (.aload_n 0, 1) := by decide +kernel
theorem dX12_areAlike_6 : decode cX12_areAlike 6 = .ok (.getfield 127, 3) := by decide +kernel
theorem dX12_areAlike_9 : decode cX12_areAlike 9 = .ok (.if_icmp .ge 127, 3) := by decide +kernel
theorem dX12_areAlike_12 : decode cX12_areAlike 12 = .ok (.iconst 0, 1) := by decide +kernel
theorem dX12_areAlike_13 : decode cX12_areAlike 13 = .ok (.istore 5, 2) := by decide +kernel
theorem dX12_areAlike_15 : decode cX12_areAlike 15 = .ok (.iload 5, 2) := by decide +kernel
theorem dX12_areAlike_17 : decode cX12_areAlike 17 = .ok (.iload 4, 2) := by decide +kernel
theorem dX12_areAlike_19 : decode cX12_areAlike 19 = .ok (.if_icmp .ge 111, 3) := by decide +kernel
theorem dX12_areAlike_22 : decode cX12_areAlike 22 = .ok (.iload_n 1, 1) := by decide +kernel
theorem dX12_areAlike_23 : decode cX12_areAlike 23 = .ok (.iload 4, 2) := by decide +kernel
theorem dX12_areAlike_25 : decode cX12_areAlike 25 = .ok (.ishr, 1) := by decide +kernel
theorem dX12_areAlike_26 : decode cX12_areAlike 26 = .ok (.iconst 1, 1) := by decide +kernel
theorem dX12_areAlike_27 : decode cX12_areAlike 27 = .ok (.iand, 1) := by decide +kernel
theorem dX12_areAlike_28 : decode cX12_areAlike 28 = .ok (.iconst 1, 1) := by decide +kernel
theorem dX12_areAlike_29 : decode cX12_areAlike 29 = .ok (.if_icmp .ne 95, 3) := by decide +kernel
theorem dX12_areAlike_32 : decode cX12_areAlike 32 = .ok (.iload_n 1, 1) := by decide +kernel
theorem dX12_areAlike_33 : decode cX12_areAlike 33 = .ok (.iload 5, 2) := by decide +kernel
theorem dX12_areAlike_35 : decode cX12_areAlike 35 = .ok (.ishr, 1) := by decide +kernel
theorem dX12_areAlike_36 : decode cX12_areAlike 36 = .ok (.iconst 1, 1) := by decide +kernel
theorem dX12_areAlike_37 : decode cX12_areAlike 37 = .ok (.iand, 1) := by decide +kernel
theorem dX12_areAlike_38 : decode cX12_areAlike 38 = .ok (.iconst 1, 1) := by decide +kernel
theorem dX12_areAlike_39 : decode cX12_areAlike 39 = .ok (.if_icmp .ne 85, 3) := by decide +kernel
theorem dX12_areAlike_42 : decode cX12_areAlike 42 = .ok (.aload_n 0, 1) := by decide +kernel
theorem dX12_areAlike_43 : decode cX12_areAlike 43 = .ok (.getfield 44, 3) := by decide +kernel
theorem dX12_areAlike_46 : decode cX12_areAlike 46 = .ok (.iconst 2, 1) := by decide +kernel
theorem dX12_areAlike_47 : decode cX12_areAlike 47 = .ok (.iload 4, 2) := by decide +kernel
theorem dX12_areAlike_49 : decode cX12_areAlike 49 = .ok (.imul, 1) := by decide +kernel
theorem dX12_areAlike_50 : decode cX12_areAlike 50 = .ok (.aload_n 0, 1) := by decide +kernel
theorem dX12_areAlike_51 : decode cX12_areAlike 51 = .ok (.getfield 13, 3) := by decide +kernel
theorem dX12_areAlike_54 : decode cX12_areAlike 54 = .ok (.bipush 7, 2) := by decide +kernel
theorem dX12_areAlike_56 : decode cX12_areAlike 56 = .ok (.iload 4, 2) := by decide +kernel
theorem dX12_areAlike_58 : decode cX12_areAlike 58 = .ok (.imul, 1) := by decide +kernel
theorem dX12_areAlike_59 : decode cX12_areAlike 59 = .ok (.bipush 6, 2) := by decide +kernel
theorem dX12_areAlike_61 : decode cX12_areAlike 61 = .ok (.iadd, 1) := by decide +kernel
theorem dX12_areAlike_62 : decode cX12_areAlike 62 = .ok (.iaload, 1) := by decide +kernel
theorem dX12_areAlike_63 : decode cX12_areAlike 63 = .ok (.iadd, 1) := by decide +kernel
theorem dX12_areAlike_64 : decode cX12_areAlike 64 = .ok (.iaload, 1) := by decide +kernel
theorem dX12_areAlike_65 : decode cX12_areAlike 65 = .ok (.aload_n 0, 1) := by decide +kernel
theorem dX12_areAlike_66 : decode cX12_areAlike 66 = .ok (.getfield 44, 3) := by decide +kernel
theorem dX12_areAlike_69 : decode cX12_areAlike 69 = .ok (.iconst 2, 1) := by decide +kernel
theorem dX12_areAlike_70 : decode cX12_areAlike 70 = .ok (.iload 5, 2) := by decide +kernel
theorem dX12_areAlike_72 : decode cX12_areAlike 72 = .ok (.imul, 1) := by decide +kernel
theorem dX12_areAlike_73 : decode cX12_areAlike 73 = .ok (.aload_n 0, 1) := by decide +kernel
theorem dX12_areAlike_74 : decode cX12_areAlike 74 = .ok (.getfield 13, 3) := by decide +kernel
theorem dX12_areAlike_77 : decode cX12_areAlike 77 = .ok (.bipush 7, 2) := by decide +kernel
theorem dX12_areAlike_79 : decode cX12_areAlike 79 = .ok (.iload 5, 2) := by decide +kernel
theorem dX12_areAlike_81 : decode cX12_areAlike 81 = .ok (.imul, 1) := by decide +kernel
theorem dX12_areAlike_82 : decode cX12_areAlike 82 = .ok (.bipush 6, 2) := by decide +kernel
theorem dX12_areAlike_84 : decode cX12_areAlike 84 = .ok (.iadd, 1) := by decide +kernel
theorem dX12_areAlike_85 : decode cX12_areAlike 85 = .ok (.iaload, 1) := by decide +kernel
theorem dX12_areAlike_86 : decode cX12_areAlike 86 = .ok (.iadd, 1) := by decide +kernel
theorem dX12_areAlike_87 : decode cX12_areAlike 87 = .ok (.iaload, 1) := by decide +kernel
theorem dX12_areAlike_88 : decode cX12_areAlike 88 = .ok (.isub, 1) := by decide +kernel
theorem dX12_areAlike_89 : decode cX12_areAlike 89 = .ok (.istore 6, 2) := by decide +kernel
theorem dX12_areAlike_91 : decode cX12_areAlike 91 = .ok (.iload 6, 2) := by decide +kernel
theorem dX12_areAlike_93 : decode cX12_areAlike 93 = .ok (.invokestatic 165, 3) := by decide +kernel
theorem dX12_areAlike_96 : decode cX12_areAlike 96 = .ok (.iload_n 2, 1) := by decide +kernel
theorem dX12_areAlike_97 : decode cX12_areAlike 97 = .ok (.if_icmp .gt 25, 3) := by decide +kernel
theorem dX12_areAlike_100 : decode cX12_areAlike 100 = .ok (.aload_n 0, 1) := by decide +kernel
theorem dX12_areAlike_101 : decode cX12_areAlike 101 = .ok (.getfield 47, 3) := by decide +kernel
theorem dX12_areAlike_104 : decode cX12_areAlike 104 = .ok (.iload 4, 2) := by decide +kernel
theorem dX12_areAlike_106 : decode cX12_areAlike 106 = .ok (.iaload, 1) := by decide +kernel
theorem dX12_areAlike_107 : decode cX12_areAlike 107 = .ok (.aload_n 0, 1) := by decide +kernel
theorem dX12_areAlike_108 : decode cX12_areAlike 108 = .ok (.getfield 47, 3) := by decide +kernel
theorem dX12_areAlike_111 : decode cX12_areAlike 111 = .ok (.iload 5, 2) := by decide +kernel
theorem dX12_areAlike_113 : decode cX12_areAlike 113 = .ok (.iaload, 1) := by decide +kernel
theorem dX12_areAlike_114 : decode cX12_areAlike 114 = .ok (.isub, 1) := by decide +kernel
theorem dX12_areAlike_115 : decode cX12_areAlike 115 = .ok (.invokestatic 165, 3) := by decide +kernel
theorem dX12_areAlike_118 : decode cX12_areAlike 118 = .ok (.iload_n 3, 1) := by decide +kernel
theorem dX12_areAlike_119 : decode cX12_areAlike 119 = .ok (.if_icmp .le 5, 3) := by decide +kernel
theorem dX12_areAlike_122 : decode cX12_areAlike 122 = .ok (.iconst 0, 1) := by decide +kernel
theorem dX12_areAlike_123 : decode cX12_areAlike 123 = .ok (.ireturn, 1) := by decide +kernel
theorem dX12_areAlike_124 : decode cX12_areAlike 124 = .ok (.iinc 5 1, 3) := by decide +kernel
theorem dX12_areAlike_127 : decode cX12_areAlike 127 = .ok (.goto (-112), 3) := by decide +kernel
theorem dX12_areAlike_130 : decode cX12_areAlike 130 = .ok (.iinc 4 1, 3) := by decide +kernel
theorem dX12_areAlike_133 : decode cX12_areAlike 133 = .ok (.goto (-130), 3) := by decide +kernel
theorem dX12_areAlike_136 : decode cX12_areAlike 136 = .ok (.iconst 1, 1) := by decide +kernel
theorem dX12_areAlike_137 : decode cX12_areAlike 137 = .ok (.ireturn, 1) := by decide +kernel
theorem dX12_manyOf_0 : decode cX12_manyOf 0 = .ok (.iconst 0, 1) := by decide +kernel
theorem dX12_manyOf_1 : decode cX12_manyOf 1 = .ok (.istore_n 2, 1) := by decide +kernel
theorem dX12_manyOf_2 : decode cX12_manyOf 2 = .ok (.iconst 0, 1) := by decide +kernel
theorem dX12_manyOf_3 : decode cX12_manyOf 3 = .ok (.istore_n 3, 1) := by decide +kernel
theorem dX12_manyOf_4 : decode cX12_manyOf 4 = .ok (.iload_n 3, 1) := by decide +kernel
theorem dX12_manyOf_5 : decode cX12_manyOf 5 = .ok (.aload_n 0, 1) := by decide +kernel
theorem dX12_manyOf_6 : decode cX12_manyOf 6 = .ok (.getfield 127, 3) := by decide +kernel
theorem dX12_manyOf_9 : decode cX12_manyOf 9 = .ok (.if_icmp .ge 17, 3) := by decide +kernel
theorem dX12_manyOf_12 : decode cX12_manyOf 12 = .ok (.iload_n 2, 1) := by decide +kernel
theorem dX12_manyOf_13 : decode cX12_manyOf 13 = .ok (.iload_n 1, 1) := by decide +kernel
theorem dX12_manyOf_14 : decode cX12_manyOf 14 = .ok (.iload_n 3, 1) := by decide +kernel
theorem dX12_manyOf_15 : decode cX12_manyOf 15 = .ok (.ishr, 1) := by decide +kernel
theorem dX12_manyOf_16 : decode cX12_manyOf 16 = .ok (.iconst 1, 1) := by decide +kernel
theorem dX12_manyOf_17 : decode cX12_manyOf 17 = .ok (.iand, 1) := by decide +kernel
theorem dX12_manyOf_18 : decode cX12_manyOf 18 = .ok (.iadd, 1) := by decide +kernel
theorem dX12_manyOf_19 : decode cX12_manyOf 19 = .ok (.istore_n 2, 1) := by decide +kernel
theorem dX12_manyOf_20 : decode cX12_manyOf 20 = .ok (.iinc 3 1, 3) := by decide +kernel
theorem dX12_manyOf_23 : decode cX12_manyOf 23 = .ok (.goto (-19), 3) := by decide +kernel
theorem dX12_manyOf_26 : decode cX12_manyOf 26 = .ok (.iload_n 2, 1) := by decide +kernel
theorem dX12_manyOf_27 : decode cX12_manyOf 27 = .ok (.ireturn, 1) := by decide +kernel
theorem dX12_alike_0 : decode cX12_alike 0 = .ok (.aload_n 0, 1) := by decide +kernel
theorem dX12_alike_1 : decode cX12_alike 1 = .ok (.iconst 0, 1) := by decide +kernel
theorem dX12_alike_2 : decode cX12_alike 2 = .ok (.putfield 53, 3) := by decide +kernel
theorem dX12_alike_5 : decode cX12_alike 5 = .ok (.aload_n 0, 1) := by decide +kernel
theorem dX12_alike_6 : decode cX12_alike 6 = .ok (.iload_n 1, 1) := by decide +kernel
theorem dX12_alike_7 : decode cX12_alike 7 = .ok (.invokevirtual 140, 3) := by decide +kernel
theorem dX12_alike_10 : decode cX12_alike 10 = .ok (.ifCond .eq 21, 3) := by decide +kernel
theorem dX12_alike_13 : decode cX12_alike 13 = .ok (.iload_n 2, 1) := by decide +kernel
theorem dX12_alike_14 : decode cX12_alike 14 = .ok (.iload_n 3, 1) := by decide +kernel
theorem dX12_alike_15 : decode cX12_alike 15 = .ok (.invokestatic 192, 3) := by decide +kernel
theorem dX12_alike_18 : decode cX12_alike 18 = .ok (.ifCond .eq 13, 3) := by decide +kernel
theorem dX12_alike_21 : decode cX12_alike 21 = .ok (.iload 4, 2) := by decide +kernel
theorem dX12_alike_23 : decode cX12_alike 23 = .ok (.iconst 0, 1) := by decide +kernel
theorem dX12_alike_24 : decode cX12_alike 24 = .ok (.iconst 1, 1) := by decide +kernel
theorem dX12_alike_25 : decode cX12_alike 25 = .ok (.invokestatic 57, 3) := by decide +kernel
theorem dX12_alike_28 : decode cX12_alike 28 = .ok (.ifCond .ne 5, 3) := by decide +kernel
theorem dX12_alike_31 : decode cX12_alike 31 = .ok (.iconst (-1), 1) := by decide +kernel
theorem dX12_alike_32 : decode cX12_alike 32 = .ok (.ireturn, 1) := by decide +kernel
theorem dX12_alike_33 : decode cX12_alike 33 = .ok (.aload_n 0, 1) := by decide +kernel
theorem dX12_alike_34 : decode cX12_alike 34 = .ok (.iload_n 1, 1) := by decide +kernel
theorem dX12_alike_35 : decode cX12_alike 35 = .ok (.invokevirtual 196, 3) := by decide +kernel
theorem dX12_alike_38 : decode cX12_alike 38 = .ok (.iconst 0, 1) := by decide +kernel
theorem dX12_alike_39 : decode cX12_alike 39 = .ok (.istore 5, 2) := by decide +kernel
theorem dX12_alike_41 : decode cX12_alike 41 = .ok (.iconst 0, 1) := by decide +kernel
theorem dX12_alike_42 : decode cX12_alike 42 = .ok (.istore 6, 2) := by decide +kernel
theorem dX12_alike_44 : decode cX12_alike 44 = .ok (.iload 6, 2) := by decide +kernel
theorem dX12_alike_46 : decode cX12_alike 46 = .ok (.iconst 1, 1) := by decide +kernel
theorem dX12_alike_47 : decode cX12_alike 47 = .ok (.aload_n 0, 1) := by decide +kernel
theorem dX12_alike_48 : decode cX12_alike 48 = .ok (.getfield 127, 3) := by decide +kernel
theorem dX12_alike_51 : decode cX12_alike 51 = .ok (.ishl, 1) := by decide +kernel
theorem dX12_alike_52 : decode cX12_alike 52 = .ok (.if_icmp .ge 44, 3) := by decide +kernel
theorem dX12_alike_55 : decode cX12_alike 55 = .ok (.aload_n 0, 1) := by decide +kernel
theorem dX12_alike_56 : decode cX12_alike 56 = .ok (.iload 6, 2) := by decide +kernel
theorem dX12_alike_58 : decode cX12_alike 58 = .ok (.invokevirtual 199, 3) := by decide +kernel
theorem dX12_alike_61 : decode cX12_alike 61 = .ok (.aload_n 0, 1) := by decide +kernel
theorem dX12_alike_62 : decode cX12_alike 62 = .ok (.iload 5, 2) := by decide +kernel
theorem dX12_alike_64 : decode cX12_alike 64 = .ok (.invokevirtual 199, 3) := by decide +kernel
theorem dX12_alike_67 : decode cX12_alike 67 = .ok (.if_icmp .le 19, 3) := by decide +kernel
theorem dX12_alike_70 : decode cX12_alike 70 = .ok (.aload_n 0, 1) := by decide +kernel
theorem dX12_alike_71 : decode cX12_alike 71 = .ok (.iload 6, 2) := by decide +kernel
theorem dX12_alike_73 : decode cX12_alike 73 = .ok (.iload_n 2, 1) := by decide +kernel
theorem dX12_alike_74 : decode cX12_alike 74 = .ok (.iload_n 3, 1) := by decide +kernel
theorem dX12_alike_75 : decode cX12_alike 75 = .ok (.invokevirtual 202, 3) := by decide +kernel
theorem dX12_alike_78 : decode cX12_alike 78 = .ok (.ifCond .eq 8, 3) := by decide +kernel
theorem dX12_alike_81 : decode cX12_alike 81 = .ok (.iload 6, 2) := by decide +kernel
theorem dX12_alike_83 : decode cX12_alike 83 = .ok (.goto 5, 3) := by decide +kernel
theorem dX12_alike_86 : decode cX12_alike 86 = .ok (.iload 5, 2) := by decide +kernel
theorem dX12_alike_88 : decode cX12_alike 88 = .ok (.istore 5, 2) := by decide +kernel
theorem dX12_alike_90 : decode cX12_alike 90 = .ok (.iinc 6 1, 3) := by decide +kernel
theorem dX12_alike_93 : decode cX12_alike 93 = .ok (.goto (-49), 3) := by decide +kernel
theorem dX12_alike_96 : decode cX12_alike 96 = .ok (.iload 4, 2) := by decide +kernel
theorem dX12_alike_98 : decode cX12_alike 98 = .ok (.ifCond .ne 8, 3) := by decide +kernel
theorem dX12_alike_101 : decode cX12_alike 101 = .ok (.iload 5, 2) := by decide +kernel
theorem dX12_alike_103 : decode cX12_alike 103 = .ok (.goto 9, 3) := by decide +kernel
theorem dX12_alike_106 : decode cX12_alike 106 = .ok (.aload_n 0, 1) := by decide +kernel
theorem dX12_alike_107 : decode cX12_alike 107 = .ok (.iload 5, 2) := by decide +kernel
theorem dX12_alike_109 : decode cX12_alike 109 = .ok (.invokevirtual 199, 3) := by decide +kernel
theorem dX12_alike_112 : decode cX12_alike 112 = .ok (.ireturn, 1) := by decide +kernel
theorem dX12_turned_0 : decode cX12_turned 0 = .ok (.aload_n 0, 1) := by decide +kernel
theorem dX12_turned_1 : decode cX12_turned 1 = .ok (.iconst 0, 1) := by decide +kernel
theorem dX12_turned_2 : decode cX12_turned 2 = .ok (.putfield 53, 3) := by decide +kernel
theorem dX12_turned_5 : decode cX12_turned 5 = .ok (.aload_n 0, 1) := by decide +kernel
theorem dX12_turned_6 : decode cX12_turned 6 = .ok (.iload_n 1, 1) := by decide +kernel
theorem dX12_turned_7 : decode cX12_turned 7 = .ok (.invokevirtual 140, 3) := by decide +kernel
theorem dX12_turned_10 : decode cX12_turned 10 = .ok (.ifCond .eq 11, 3) := by decide +kernel
theorem dX12_turned_13 : decode cX12_turned 13 = .ok (.iload_n 2, 1) := by decide +kernel
theorem dX12_turned_14 : decode cX12_turned 14 = .ok (.iload_n 3, 1) := by decide +kernel
theorem dX12_turned_15 : decode cX12_turned 15 = .ok (.invokestatic 192, 3) := by decide +kernel
theorem dX12_turned_18 : decode cX12_turned 18 = .ok (.ifCond .ne 5, 3) := by decide +kernel
theorem dX12_turned_21 : decode cX12_turned 21 = .ok (.iconst (-1), 1) := by decide +kernel
theorem dX12_turned_22 : decode cX12_turned 22 = .ok (.ireturn, 1) := by decide +kernel
theorem dX12_turned_23 : decode cX12_turned 23 = .ok (.aload_n 0, 1) := by decide +kernel
theorem dX12_turned_24 : decode cX12_turned 24 = .ok (.iload_n 1, 1) := by decide +kernel
theorem dX12_turned_25 : decode cX12_turned 25 = .ok (.invokevirtual 196, 3) := by decide +kernel
theorem dX12_turned_28 : decode cX12_turned 28 = .ok (.iconst 0, 1) := by decide +kernel
theorem dX12_turned_29 : decode cX12_turned 29 = .ok (.istore 4, 2) := by decide +kernel
theorem dX12_turned_31 : decode cX12_turned 31 = .ok (.iconst 0, 1) := by decide +kernel
theorem dX12_turned_32 : decode cX12_turned 32 = .ok (.istore 5, 2) := by decide +kernel
theorem dX12_turned_34 : decode cX12_turned 34 = .ok (.iload 5, 2) := by decide +kernel
theorem dX12_turned_36 : decode cX12_turned 36 = .ok (.iconst 2, 1) := by decide +kernel
theorem dX12_turned_37 : decode cX12_turned 37 = .ok (.aload_n 0, 1) := by decide +kernel
theorem dX12_turned_38 : decode cX12_turned 38 = .ok (.getfield 127, 3) := by decide +kernel
theorem dX12_turned_41 : decode cX12_turned 41 = .ok (.imul, 1) := by decide +kernel
theorem dX12_turned_42 : decode cX12_turned 42 = .ok (.if_icmp .ge 179, 3) := by decide +kernel
theorem dX12_turned_45 : decode cX12_turned 45 = .ok (.iconst 0, 1) := by decide +kernel
theorem dX12_turned_46 : decode cX12_turned 46 = .ok (.istore 6, 2) := by decide +kernel
theorem dX12_turned_48 : decode cX12_turned 48 = .ok (.iload 6, 2) := by decide +kernel
theorem dX12_turned_50 : decode cX12_turned 50 = .ok (.aload_n 0, 1) := by decide +kernel
theorem dX12_turned_51 : decode cX12_turned 51 = .ok (.getfield 127, 3) := by decide +kernel
theorem dX12_turned_54 : decode cX12_turned 54 = .ok (.if_icmp .ge 161, 3) := by decide +kernel
theorem dX12_turned_57 : decode cX12_turned 57 = .ok (.iconst 0, 1) := by decide +kernel
theorem dX12_turned_58 : decode cX12_turned 58 = .ok (.istore 7, 2) := by decide +kernel
theorem dX12_turned_60 : decode cX12_turned 60 = .ok (.iconst 0, 1) := by decide +kernel
theorem dX12_turned_61 : decode cX12_turned 61 = .ok (.istore 8, 2) := by decide +kernel
theorem dX12_turned_63 : decode cX12_turned 63 = .ok (.iload 8, 2) := by decide +kernel
theorem dX12_turned_65 : decode cX12_turned 65 = .ok (.aload_n 0, 1) := by decide +kernel
theorem dX12_turned_66 : decode cX12_turned 66 = .ok (.getfield 127, 3) := by decide +kernel
theorem dX12_turned_69 : decode cX12_turned 69 = .ok (.if_icmp .ge 124, 3) := by decide +kernel
theorem dX12_turned_72 : decode cX12_turned 72 = .ok (.aload_n 0, 1) := by decide +kernel
theorem dX12_turned_73 : decode cX12_turned 73 = .ok (.getfield 44, 3) := by decide +kernel
theorem dX12_turned_76 : decode cX12_turned 76 = .ok (.iconst 2, 1) := by decide +kernel
theorem dX12_turned_77 : decode cX12_turned 77 = .ok (.iload 8, 2) := by decide +kernel
theorem dX12_turned_79 : decode cX12_turned 79 = .ok (.imul, 1) := by decide +kernel
theorem dX12_turned_80 : decode cX12_turned 80 = .ok (.iaload, 1) := by decide +kernel
theorem dX12_turned_81 : decode cX12_turned 81 = .ok (.aload_n 0, 1) := by decide +kernel
theorem dX12_turned_82 : decode cX12_turned 82 = .ok (.getfield 44, 3) := by decide +kernel
theorem dX12_turned_85 : decode cX12_turned 85 = .ok (.iload 5, 2) := by decide +kernel
theorem dX12_turned_87 : decode cX12_turned 87 = .ok (.iaload, 1) := by decide +kernel
theorem dX12_turned_88 : decode cX12_turned 88 = .ok (.aload_n 0, 1) := by decide +kernel
theorem dX12_turned_89 : decode cX12_turned 89 = .ok (.getfield 44, 3) := by decide +kernel
theorem dX12_turned_92 : decode cX12_turned 92 = .ok (.iload 5, 2) := by decide +kernel
theorem dX12_turned_94 : decode cX12_turned 94 = .ok (.iaload, 1) := by decide +kernel
theorem dX12_turned_95 : decode cX12_turned 95 = .ok (.iload_n 2, 1) := by decide +kernel
theorem dX12_turned_96 : decode cX12_turned 96 = .ok (.iadd, 1) := by decide +kernel
theorem dX12_turned_97 : decode cX12_turned 97 = .ok (.invokestatic 57, 3) := by decide +kernel
theorem dX12_turned_100 : decode cX12_turned 100 = .ok (.ifCond .ne 36, 3) := by decide +kernel
theorem dX12_turned_103 : decode cX12_turned 103 = .ok (.aload_n 0, 1) := by decide +kernel
theorem dX12_turned_104 : decode cX12_turned 104 = .ok (.getfield 44, 3) := by decide +kernel
theorem dX12_turned_107 : decode cX12_turned 107 = .ok (.iconst 2, 1) := by decide +kernel
theorem dX12_turned_108 : decode cX12_turned 108 = .ok (.iload 8, 2) := by decide +kernel
theorem dX12_turned_110 : decode cX12_turned 110 = .ok (.imul, 1) := by decide +kernel
theorem dX12_turned_111 : decode cX12_turned 111 = .ok (.iconst 1, 1) := by decide +kernel
theorem dX12_turned_112 : decode cX12_turned 112 = .ok (.iadd, 1) := by decide +kernel
theorem dX12_turned_113 : decode cX12_turned 113 = .ok (.iaload, 1) := by decide +kernel
theorem dX12_turned_114 : decode cX12_turned 114 = .ok (.aload_n 0, 1) := by decide +kernel
theorem dX12_turned_115 : decode cX12_turned 115 = .ok (.getfield 44, 3) := by decide +kernel
theorem dX12_turned_118 : decode cX12_turned 118 = .ok (.iload 5, 2) := by decide +kernel
theorem dX12_turned_120 : decode cX12_turned 120 = .ok (.iaload, 1) := by decide +kernel
theorem dX12_turned_121 : decode cX12_turned 121 = .ok (.aload_n 0, 1) := by decide +kernel
theorem dX12_turned_122 : decode cX12_turned 122 = .ok (.getfield 44, 3) := by decide +kernel
theorem dX12_turned_125 : decode cX12_turned 125 = .ok (.iload 5, 2) := by decide +kernel
theorem dX12_turned_127 : decode cX12_turned 127 = .ok (.iaload, 1) := by decide +kernel
theorem dX12_turned_128 : decode cX12_turned 128 = .ok (.iload_n 2, 1) := by decide +kernel
theorem dX12_turned_129 : decode cX12_turned 129 = .ok (.iadd, 1) := by decide +kernel
theorem dX12_turned_130 : decode cX12_turned 130 = .ok (.invokestatic 57, 3) := by decide +kernel
theorem dX12_turned_133 : decode cX12_turned 133 = .ok (.ifCond .eq 7, 3) := by decide +kernel
theorem dX12_turned_136 : decode cX12_turned 136 = .ok (.iconst 1, 1) := by decide +kernel
theorem dX12_turned_137 : decode cX12_turned 137 = .ok (.goto 4, 3) := by decide +kernel
theorem dX12_turned_140 : decode cX12_turned 140 = .ok (.iconst 0, 1) := by decide +kernel
theorem dX12_turned_141 : decode cX12_turned 141 = .ok (.istore 9, 2) := by decide +kernel
theorem dX12_turned_143 : decode cX12_turned 143 = .ok (.iload 7, 2) := by decide +kernel
theorem dX12_turned_145 : decode cX12_turned 145 = .ok (.iload 9, 2) := by decide +kernel
theorem dX12_turned_147 : decode cX12_turned 147 = .ok (.ifCond .eq 36, 3) := by decide +kernel
theorem dX12_turned_150 : decode cX12_turned 150 = .ok (.aload_n 0, 1) := by decide +kernel
theorem dX12_turned_151 : decode cX12_turned 151 = .ok (.getfield 47, 3) := by decide +kernel
theorem dX12_turned_154 : decode cX12_turned 154 = .ok (.iload 8, 2) := by decide +kernel
theorem dX12_turned_156 : decode cX12_turned 156 = .ok (.iaload, 1) := by decide +kernel
theorem dX12_turned_157 : decode cX12_turned 157 = .ok (.aload_n 0, 1) := by decide +kernel
theorem dX12_turned_158 : decode cX12_turned 158 = .ok (.getfield 47, 3) := by decide +kernel
theorem dX12_turned_161 : decode cX12_turned 161 = .ok (.iload 6, 2) := by decide +kernel
theorem dX12_turned_163 : decode cX12_turned 163 = .ok (.iaload, 1) := by decide +kernel
theorem dX12_turned_164 : decode cX12_turned 164 = .ok (.aload_n 0, 1) := by decide +kernel
theorem dX12_turned_165 : decode cX12_turned 165 = .ok (.getfield 47, 3) := by decide +kernel
theorem dX12_turned_168 : decode cX12_turned 168 = .ok (.iload 6, 2) := by decide +kernel
theorem dX12_turned_170 : decode cX12_turned 170 = .ok (.iaload, 1) := by decide +kernel
theorem dX12_turned_171 : decode cX12_turned 171 = .ok (.iload_n 3, 1) := by decide +kernel
theorem dX12_turned_172 : decode cX12_turned 172 = .ok (.iadd, 1) := by decide +kernel
theorem dX12_turned_173 : decode cX12_turned 173 = .ok (.invokestatic 57, 3) := by decide +kernel
theorem dX12_turned_176 : decode cX12_turned 176 = .ok (.ifCond .eq 7, 3) := by decide +kernel
theorem dX12_turned_179 : decode cX12_turned 179 = .ok (.iconst 1, 1) := by decide +kernel
theorem dX12_turned_180 : decode cX12_turned 180 = .ok (.goto 4, 3) := by decide +kernel
theorem dX12_turned_183 : decode cX12_turned 183 = .ok (.iconst 0, 1) := by decide +kernel
theorem dX12_turned_184 : decode cX12_turned 184 = .ok (.iadd, 1) := by decide +kernel
theorem dX12_turned_185 : decode cX12_turned 185 = .ok (.istore 7, 2) := by decide +kernel
theorem dX12_turned_187 : decode cX12_turned 187 = .ok (.iinc 8 1, 3) := by decide +kernel
theorem dX12_turned_190 : decode cX12_turned 190 = .ok (.goto (-127), 3) := by decide +kernel
theorem dX12_turned_193 : decode cX12_turned 193 = .ok (.iload 7, 2) := by decide +kernel
theorem dX12_turned_195 : decode cX12_turned 195 = .ok (.iload 4, 2) := by decide +kernel
theorem dX12_turned_197 : decode cX12_turned 197 = .ok (.if_icmp .le 8, 3) := by decide +kernel
theorem dX12_turned_200 : decode cX12_turned 200 = .ok (.iload 7, 2) := by decide +kernel
theorem dX12_turned_202 : decode cX12_turned 202 = .ok (.goto 5, 3) := by decide +kernel
theorem dX12_turned_205 : decode cX12_turned 205 = .ok (.iload 4, 2) := by decide +kernel
theorem dX12_turned_207 : decode cX12_turned 207 = .ok (.istore 4, 2) := by decide +kernel
theorem dX12_turned_209 : decode cX12_turned 209 = .ok (.iinc 6 1, 3) := by decide +kernel
theorem dX12_turned_212 : decode cX12_turned 212 = .ok (.goto (-164), 3) := by decide +kernel
theorem dX12_turned_215 : decode cX12_turned 215 = .ok (.iinc 5 1, 3) := by decide +kernel
theorem dX12_turned_218 : decode cX12_turned 218 = .ok (.goto (-184), 3) := by decide +kernel
theorem dX12_turned_221 : decode cX12_turned 221 = .ok (.iload 4, 2) := by decide +kernel
theorem dX12_turned_223 : decode cX12_turned 223 = .ok (.ireturn, 1) := by decide +kernel
theorem dX12_wreck_0 : decode cX12_wreck 0 = .ok (.aload_n 0, 1) := by decide +kernel
theorem dX12_wreck_1 : decode cX12_wreck 1 = .ok (.iconst 0, 1) := by decide +kernel
theorem dX12_wreck_2 : decode cX12_wreck 2 = .ok (.putfield 53, 3) := by decide +kernel
theorem dX12_wreck_5 : decode cX12_wreck 5 = .ok (.aload_n 0, 1) := by decide +kernel
theorem dX12_wreck_6 : decode cX12_wreck 6 = .ok (.iload_n 1, 1) := by decide +kernel
theorem dX12_wreck_7 : decode cX12_wreck 7 = .ok (.invokevirtual 136, 3) := by decide +kernel
theorem dX12_wreck_10 : decode cX12_wreck 10 = .ok (.ifCond .eq 22, 3) := by decide +kernel
theorem dX12_wreck_13 : decode cX12_wreck 13 = .ok (.iload_n 2, 1) := by decide +kernel
theorem dX12_wreck_14 : decode cX12_wreck 14 = .ok (.iconst 0, 1) := by decide +kernel
theorem dX12_wreck_15 : decode cX12_wreck 15 = .ok (.bipush 9, 2) := by decide +kernel
theorem dX12_wreck_17 : decode cX12_wreck 17 = .ok (.invokestatic 57, 3) := by decide +kernel
theorem dX12_wreck_20 : decode cX12_wreck 20 = .ok (.ifCond .eq 12, 3) := by decide +kernel
theorem dX12_wreck_23 : decode cX12_wreck 23 = .ok (.iload_n 3, 1) := by decide +kernel
theorem dX12_wreck_24 : decode cX12_wreck 24 = .ok (.iconst 0, 1) := by decide +kernel
theorem dX12_wreck_25 : decode cX12_wreck 25 = .ok (.iconst 1, 1) := by decide +kernel
theorem dX12_wreck_26 : decode cX12_wreck 26 = .ok (.invokestatic 57, 3) := by decide +kernel
theorem dX12_wreck_29 : decode cX12_wreck 29 = .ok (.ifCond .ne 5, 3) := by decide +kernel
theorem dX12_wreck_32 : decode cX12_wreck 32 = .ok (.iconst (-1), 1) := by decide +kernel
theorem dX12_wreck_33 : decode cX12_wreck 33 = .ok (.ireturn, 1) := by decide +kernel
theorem dX12_wreck_34 : decode cX12_wreck 34 = .ok (.aload_n 0, 1) := by decide +kernel
theorem dX12_wreck_35 : decode cX12_wreck 35 = .ok (.iload_n 1, 1) := by decide +kernel
theorem dX12_wreck_36 : decode cX12_wreck 36 = .ok (.invokevirtual 148, 3) := by decide +kernel
theorem dX12_wreck_39 : decode cX12_wreck 39 = .ok (.bipush (-9), 2) := by decide +kernel
theorem dX12_wreck_41 : decode cX12_wreck 41 = .ok (.istore 4, 2) := by decide +kernel
theorem dX12_wreck_43 : decode cX12_wreck 43 = .ok (.bipush (-9), 2) := by decide +kernel
theorem dX12_wreck_45 : decode cX12_wreck 45 = .ok (.istore 5, 2) := by decide +kernel
theorem dX12_wreck_47 : decode cX12_wreck 47 = .ok (.bipush 20, 2) := by decide +kernel
theorem dX12_wreck_49 : decode cX12_wreck 49 = .ok (.istore 6, 2) := by decide +kernel
theorem dX12_wreck_51 : decode cX12_wreck 51 = .ok (.iload 6, 2) := by decide +kernel
theorem dX12_wreck_53 : decode cX12_wreck 53 = .ok (.bipush 71, 2) := by decide +kernel
theorem dX12_wreck_55 : decode cX12_wreck 55 = .ok (.if_icmp .ge 44, 3) := by decide +kernel
theorem dX12_wreck_58 : decode cX12_wreck 58 = .ok (.aload_n 0, 1) := by decide +kernel
theorem dX12_wreck_59 : decode cX12_wreck 59 = .ok (.iload 6, 2) := by decide +kernel
theorem dX12_wreck_61 : decode cX12_wreck 61 = .ok (.iload_n 2, 1) := by decide +kernel
theorem dX12_wreck_62 : decode cX12_wreck 62 = .ok (.invokevirtual 158, 3) := by decide +kernel
theorem dX12_wreck_65 : decode cX12_wreck 65 = .ok (.aload_n 0, 1) := by decide +kernel
theorem dX12_wreck_66 : decode cX12_wreck 66 = .ok (.getfield 162, 3) := by decide +kernel
theorem dX12_wreck_69 : decode cX12_wreck 69 = .ok (.iconst 1, 1) := by decide +kernel
theorem dX12_wreck_70 : decode cX12_wreck 70 = .ok (.if_icmp .ne 23, 3) := by decide +kernel
theorem dX12_wreck_73 : decode cX12_wreck 73 = .ok (.iload 4, 2) := by decide +kernel
theorem dX12_wreck_75 : decode cX12_wreck 75 = .ok (.bipush (-9), 2) := by decide +kernel
theorem dX12_wreck_77 : decode cX12_wreck 77 = .ok (.if_icmp .ne 8, 3) := by decide +kernel
theorem dX12_wreck_80 : decode cX12_wreck 80 = .ok (.iload 6, 2) := by decide +kernel
theorem dX12_wreck_82 : decode cX12_wreck 82 = .ok (.goto 5, 3) := by decide +kernel
theorem dX12_wreck_85 : decode cX12_wreck 85 = .ok (.iload 4, 2) := by decide +kernel
theorem dX12_wreck_87 : decode cX12_wreck 87 = .ok (.istore 4, 2) := by decide +kernel
theorem dX12_wreck_89 : decode cX12_wreck 89 = .ok (.iload 6, 2) := by decide +kernel
theorem dX12_wreck_91 : decode cX12_wreck 91 = .ok (.istore 5, 2) := by decide +kernel
theorem dX12_wreck_93 : decode cX12_wreck 93 = .ok (.iinc 6 1, 3) := by decide +kernel
theorem dX12_wreck_96 : decode cX12_wreck 96 = .ok (.goto (-45), 3) := by decide +kernel
theorem dX12_wreck_99 : decode cX12_wreck 99 = .ok (.iload_n 3, 1) := by decide +kernel
theorem dX12_wreck_100 : decode cX12_wreck 100 = .ok (.ifCond .ne 8, 3) := by decide +kernel
theorem dX12_wreck_103 : decode cX12_wreck 103 = .ok (.iload 4, 2) := by decide +kernel
theorem dX12_wreck_105 : decode cX12_wreck 105 = .ok (.goto 5, 3) := by decide +kernel
theorem dX12_wreck_108 : decode cX12_wreck 108 = .ok (.iload 5, 2) := by decide +kernel
theorem dX12_wreck_110 : decode cX12_wreck 110 = .ok (.ireturn, 1) := by decide +kernel
theorem dX12_feather_0 : decode cX12_feather 0 = .ok (.aload_n 0, 1) := by decide +kernel
theorem dX12_feather_1 : decode cX12_feather 1 = .ok (.iconst 0, 1) := by decide +kernel
theorem dX12_feather_2 : decode cX12_feather 2 = .ok (.putfield 53, 3) := by decide +kernel
theorem dX12_feather_5 : decode cX12_feather 5 = .ok (.aload_n 0, 1) := by decide +kernel
theorem dX12_feather_6 : decode cX12_feather 6 = .ok (.iload_n 1, 1) := by decide +kernel
theorem dX12_feather_7 : decode cX12_feather 7 = .ok (.invokevirtual 136, 3) := by decide +kernel
theorem dX12_feather_10 : decode cX12_feather 10 = .ok (.ifCond .eq 21, 3) := by decide +kernel
theorem dX12_feather_13 : decode cX12_feather 13 = .ok (.aload_n 0, 1) := by decide +kernel
theorem dX12_feather_14 : decode cX12_feather 14 = .ok (.iload_n 2, 1) := by decide +kernel
theorem dX12_feather_15 : decode cX12_feather 15 = .ok (.invokevirtual 140, 3) := by decide +kernel
theorem dX12_feather_18 : decode cX12_feather 18 = .ok (.ifCond .eq 13, 3) := by decide +kernel
theorem dX12_feather_21 : decode cX12_feather 21 = .ok (.iload_n 3, 1) := by decide +kernel
theorem dX12_feather_22 : decode cX12_feather 22 = .ok (.iconst 0, 1) := by decide +kernel
theorem dX12_feather_23 : decode cX12_feather 23 = .ok (.bipush 99, 2) := by decide +kernel
theorem dX12_feather_25 : decode cX12_feather 25 = .ok (.invokestatic 57, 3) := by decide +kernel
theorem dX12_feather_28 : decode cX12_feather 28 = .ok (.ifCond .ne 5, 3) := by decide +kernel
theorem dX12_feather_31 : decode cX12_feather 31 = .ok (.iconst (-1), 1) := by decide +kernel
theorem dX12_feather_32 : decode cX12_feather 32 = .ok (.ireturn, 1) := by decide +kernel
theorem dX12_feather_33 : decode cX12_feather 33 = .ok (.iconst 0, 1) := by decide +kernel
theorem dX12_feather_34 : decode cX12_feather 34 = .ok (.istore 4, 2) := by decide +kernel
theorem dX12_feather_36 : decode cX12_feather 36 = .ok (.iconst 0, 1) := by decide +kernel
theorem dX12_feather_37 : decode cX12_feather 37 = .ok (.istore 5, 2) := by decide +kernel
theorem dX12_feather_39 : decode cX12_feather 39 = .ok (.iconst 0, 1) := by decide +kernel
theorem dX12_feather_40 : decode cX12_feather 40 = .ok (.istore 6, 2) := by decide +kernel
theorem dX12_feather_42 : decode cX12_feather 42 = .ok (.iload 6, 2) := by decide +kernel
theorem dX12_feather_44 : decode cX12_feather 44 = .ok (.bipush 10, 2) := by decide +kernel
theorem dX12_feather_46 : decode cX12_feather 46 = .ok (.if_icmp .ge 105, 3) := by decide +kernel
theorem dX12_feather_49 : decode cX12_feather 49 = .ok (.aload_n 0, 1) := by decide +kernel
theorem dX12_feather_50 : decode cX12_feather 50 = .ok (.iload_n 1, 1) := by decide +kernel
theorem dX12_feather_51 : decode cX12_feather 51 = .ok (.invokevirtual 148, 3) := by decide +kernel
theorem dX12_feather_54 : decode cX12_feather 54 = .ok (.aload_n 0, 1) := by decide +kernel
theorem dX12_feather_55 : decode cX12_feather 55 = .ok (.getfield 41, 3) := by decide +kernel
theorem dX12_feather_58 : decode cX12_feather 58 = .ok (.iconst 5, 1) := by decide +kernel
theorem dX12_feather_59 : decode cX12_feather 59 = .ok (.iload 6, 2) := by decide +kernel
theorem dX12_feather_61 : decode cX12_feather 61 = .ok (.iastore, 1) := by decide +kernel
theorem dX12_feather_62 : decode cX12_feather 62 = .ok (.aload_n 0, 1) := by decide +kernel
theorem dX12_feather_63 : decode cX12_feather 63 = .ok (.aload_n 0, 1) := by decide +kernel
theorem dX12_feather_64 : decode cX12_feather 64 = .ok (.getfield 23, 3) := by decide +kernel
theorem dX12_feather_67 : decode cX12_feather 67 = .ok (.iconst 2, 1) := by decide +kernel
theorem dX12_feather_68 : decode cX12_feather 68 = .ok (.iload_n 2, 1) := by decide +kernel
theorem dX12_feather_69 : decode cX12_feather 69 = .ok (.imul, 1) := by decide +kernel
theorem dX12_feather_70 : decode cX12_feather 70 = .ok (.iaload, 1) := by decide +kernel
theorem dX12_feather_71 : decode cX12_feather 71 = .ok (.aload_n 0, 1) := by decide +kernel
theorem dX12_feather_72 : decode cX12_feather 72 = .ok (.getfield 23, 3) := by decide +kernel
theorem dX12_feather_75 : decode cX12_feather 75 = .ok (.iconst 2, 1) := by decide +kernel
theorem dX12_feather_76 : decode cX12_feather 76 = .ok (.iload_n 2, 1) := by decide +kernel
theorem dX12_feather_77 : decode cX12_feather 77 = .ok (.imul, 1) := by decide +kernel
theorem dX12_feather_78 : decode cX12_feather 78 = .ok (.iconst 1, 1) := by decide +kernel
theorem dX12_feather_79 : decode cX12_feather 79 = .ok (.iadd, 1) := by decide +kernel
theorem dX12_feather_80 : decode cX12_feather 80 = .ok (.iaload, 1) := by decide +kernel
theorem dX12_feather_81 : decode cX12_feather 81 = .ok (.invokevirtual 158, 3) := by decide +kernel
theorem dX12_feather_84 : decode cX12_feather 84 = .ok (.aload_n 0, 1) := by decide +kernel
theorem dX12_feather_85 : decode cX12_feather 85 = .ok (.getfield 183, 3) := by decide +kernel
theorem dX12_feather_88 : decode cX12_feather 88 = .ok (.invokestatic 165, 3) := by decide +kernel
theorem dX12_feather_91 : decode cX12_feather 91 = .ok (.aload_n 0, 1) := by decide +kernel
theorem dX12_feather_92 : decode cX12_feather 92 = .ok (.getfield 186, 3) := by decide +kernel
theorem dX12_feather_95 : decode cX12_feather 95 = .ok (.iload_n 3, 1) := by decide +kernel
theorem dX12_feather_96 : decode cX12_feather 96 = .ok (.imul, 1) := by decide +kernel
theorem dX12_feather_97 : decode cX12_feather 97 = .ok (.bipush 100, 2) := by decide +kernel
theorem dX12_feather_99 : decode cX12_feather 99 = .ok (.idiv, 1) := by decide +kernel
theorem dX12_feather_100 : decode cX12_feather 100 = .ok (.iadd, 1) := by decide +kernel
theorem dX12_feather_101 : decode cX12_feather 101 = .ok (.istore 7, 2) := by decide +kernel
theorem dX12_feather_103 : decode cX12_feather 103 = .ok (.iload 6, 2) := by decide +kernel
theorem dX12_feather_105 : decode cX12_feather 105 = .ok (.ifCond .eq 10, 3) := by decide +kernel
theorem dX12_feather_108 : decode cX12_feather 108 = .ok (.iload 7, 2) := by decide +kernel
theorem dX12_feather_110 : decode cX12_feather 110 = .ok (.iload 5, 2) := by decide +kernel
theorem dX12_feather_112 : decode cX12_feather 112 = .ok (.if_icmp .ge 8, 3) := by decide +kernel
theorem dX12_feather_115 : decode cX12_feather 115 = .ok (.iload 6, 2) := by decide +kernel
theorem dX12_feather_117 : decode cX12_feather 117 = .ok (.goto 5, 3) := by decide +kernel
theorem dX12_feather_120 : decode cX12_feather 120 = .ok (.iload 4, 2) := by decide +kernel
theorem dX12_feather_122 : decode cX12_feather 122 = .ok (.istore 4, 2) := by decide +kernel
theorem dX12_feather_124 : decode cX12_feather 124 = .ok (.iload 6, 2) := by decide +kernel
theorem dX12_feather_126 : decode cX12_feather 126 = .ok (.ifCond .eq 10, 3) := by decide +kernel
theorem dX12_feather_129 : decode cX12_feather 129 = .ok (.iload 7, 2) := by decide +kernel
theorem dX12_feather_131 : decode cX12_feather 131 = .ok (.iload 5, 2) := by decide +kernel
theorem dX12_feather_133 : decode cX12_feather 133 = .ok (.if_icmp .ge 8, 3) := by decide +kernel
theorem dX12_feather_136 : decode cX12_feather 136 = .ok (.iload 7, 2) := by decide +kernel
theorem dX12_feather_138 : decode cX12_feather 138 = .ok (.goto 5, 3) := by decide +kernel
theorem dX12_feather_141 : decode cX12_feather 141 = .ok (.iload 5, 2) := by decide +kernel
theorem dX12_feather_143 : decode cX12_feather 143 = .ok (.istore 5, 2) := by decide +kernel
theorem dX12_feather_145 : decode cX12_feather 145 = .ok (.iinc 6 1, 3) := by decide +kernel
theorem dX12_feather_148 : decode cX12_feather 148 = .ok (.goto (-106), 3) := by decide +kernel
theorem dX12_feather_151 : decode cX12_feather 151 = .ok (.iload 4, 2) := by decide +kernel
theorem dX12_feather_153 : decode cX12_feather 153 = .ok (.ireturn, 1) := by decide +kernel
theorem dX12_warm_0 : decode cX12_warm 0 = .ok (.aload_n 0, 1) := by decide +kernel
theorem dX12_warm_1 : decode cX12_warm 1 = .ok (.iconst 0, 1) := by decide +kernel
theorem dX12_warm_2 : decode cX12_warm 2 = .ok (.putfield 53, 3) := by decide +kernel
theorem dX12_warm_5 : decode cX12_warm 5 = .ok (.aload_n 0, 1) := by decide +kernel
theorem dX12_warm_6 : decode cX12_warm 6 = .ok (.iload_n 1, 1) := by decide +kernel
theorem dX12_warm_7 : decode cX12_warm 7 = .ok (.invokevirtual 140, 3) := by decide +kernel
theorem dX12_warm_10 : decode cX12_warm 10 = .ok (.ifCond .eq 22, 3) := by decide +kernel
theorem dX12_warm_13 : decode cX12_warm 13 = .ok (.iload_n 2, 1) := by decide +kernel
theorem dX12_warm_14 : decode cX12_warm 14 = .ok (.iconst 0, 1) := by decide +kernel
theorem dX12_warm_15 : decode cX12_warm 15 = .ok (.bipush 20, 2) := by decide +kernel
theorem dX12_warm_17 : decode cX12_warm 17 = .ok (.invokestatic 57, 3) := by decide +kernel
theorem dX12_warm_20 : decode cX12_warm 20 = .ok (.ifCond .eq 12, 3) := by decide +kernel
theorem dX12_warm_23 : decode cX12_warm 23 = .ok (.iload_n 3, 1) := by decide +kernel
theorem dX12_warm_24 : decode cX12_warm 24 = .ok (.iconst 0, 1) := by decide +kernel
theorem dX12_warm_25 : decode cX12_warm 25 = .ok (.iconst 1, 1) := by decide +kernel
theorem dX12_warm_26 : decode cX12_warm 26 = .ok (.invokestatic 57, 3) := by decide +kernel
theorem dX12_warm_29 : decode cX12_warm 29 = .ok (.ifCond .ne 5, 3) := by decide +kernel
theorem dX12_warm_32 : decode cX12_warm 32 = .ok (.iconst (-1), 1) := by decide +kernel
theorem dX12_warm_33 : decode cX12_warm 33 = .ok (.ireturn, 1) := by decide +kernel
theorem dX12_warm_34 : decode cX12_warm 34 = .ok (.aload_n 0, 1) := by decide +kernel
theorem dX12_warm_35 : decode cX12_warm 35 = .ok (.getfield 23, 3) := by decide +kernel
theorem dX12_warm_38 : decode cX12_warm 38 = .ok (.iconst 2, 1) := by decide +kernel
theorem dX12_warm_39 : decode cX12_warm 39 = .ok (.iload_n 1, 1) := by decide +kernel
theorem dX12_warm_40 : decode cX12_warm 40 = .ok (.imul, 1) := by decide +kernel
theorem dX12_warm_41 : decode cX12_warm 41 = .ok (.iaload, 1) := by decide +kernel
theorem dX12_warm_42 : decode cX12_warm 42 = .ok (.iload_n 2, 1) := by decide +kernel
theorem dX12_warm_43 : decode cX12_warm 43 = .ok (.isub, 1) := by decide +kernel
theorem dX12_warm_44 : decode cX12_warm 44 = .ok (.iconst 1, 1) := by decide +kernel
theorem dX12_warm_45 : decode cX12_warm 45 = .ok (.if_icmp .ge 7, 3) := by decide +kernel
theorem dX12_warm_48 : decode cX12_warm 48 = .ok (.iconst 1, 1) := by decide +kernel
theorem dX12_warm_49 : decode cX12_warm 49 = .ok (.goto 13, 3) := by decide +kernel
theorem dX12_warm_52 : decode cX12_warm 52 = .ok (.aload_n 0, 1) := by decide +kernel
theorem dX12_warm_53 : decode cX12_warm 53 = .ok (.getfield 23, 3) := by decide +kernel
theorem dX12_warm_56 : decode cX12_warm 56 = .ok (.iconst 2, 1) := by decide +kernel
theorem dX12_warm_57 : decode cX12_warm 57 = .ok (.iload_n 1, 1) := by decide +kernel
theorem dX12_warm_58 : decode cX12_warm 58 = .ok (.imul, 1) := by decide +kernel
theorem dX12_warm_59 : decode cX12_warm 59 = .ok (.iaload, 1) := by decide +kernel
theorem dX12_warm_60 : decode cX12_warm 60 = .ok (.iload_n 2, 1) := by decide +kernel
theorem dX12_warm_61 : decode cX12_warm 61 = .ok (.isub, 1) := by decide +kernel
theorem dX12_warm_62 : decode cX12_warm 62 = .ok (.istore 4, 2) := by decide +kernel
theorem dX12_warm_64 : decode cX12_warm 64 = .ok (.iconst 0, 1) := by decide +kernel
theorem dX12_warm_65 : decode cX12_warm 65 = .ok (.istore 5, 2) := by decide +kernel
theorem dX12_warm_67 : decode cX12_warm 67 = .ok (.iconst 0, 1) := by decide +kernel
theorem dX12_warm_68 : decode cX12_warm 68 = .ok (.istore 6, 2) := by decide +kernel
theorem dX12_warm_70 : decode cX12_warm 70 = .ok (.iload 6, 2) := by decide +kernel
theorem dX12_warm_72 : decode cX12_warm 72 = .ok (.aload_n 0, 1) := by decide +kernel
theorem dX12_warm_73 : decode cX12_warm 73 = .ok (.getfield 127, 3) := by decide +kernel
theorem dX12_warm_76 : decode cX12_warm 76 = .ok (.if_icmp .ge 90, 3) := by decide +kernel
theorem dX12_warm_79 : decode cX12_warm 79 = .ok (.aload_n 0, 1) := by decide +kernel
theorem dX12_warm_80 : decode cX12_warm 80 = .ok (.iload 6, 2) := by decide +kernel
theorem dX12_warm_82 : decode cX12_warm 82 = .ok (.iload_n 1, 1) := by decide +kernel
theorem dX12_warm_83 : decode cX12_warm 83 = .ok (.invokevirtual 189, 3) := by decide +kernel
theorem dX12_warm_86 : decode cX12_warm 86 = .ok (.aload_n 0, 1) := by decide +kernel
theorem dX12_warm_87 : decode cX12_warm 87 = .ok (.getfield 162, 3) := by decide +kernel
theorem dX12_warm_90 : decode cX12_warm 90 = .ok (.iconst 1, 1) := by decide +kernel
theorem dX12_warm_91 : decode cX12_warm 91 = .ok (.if_icmp .ne 7, 3) := by decide +kernel
theorem dX12_warm_94 : decode cX12_warm 94 = .ok (.iconst 1, 1) := by decide +kernel
theorem dX12_warm_95 : decode cX12_warm 95 = .ok (.goto 4, 3) := by decide +kernel
theorem dX12_warm_98 : decode cX12_warm 98 = .ok (.iconst 0, 1) := by decide +kernel
theorem dX12_warm_99 : decode cX12_warm 99 = .ok (.istore 7, 2) := by decide +kernel
theorem dX12_warm_101 : decode cX12_warm 101 = .ok (.aload_n 0, 1) := by decide +kernel
theorem dX12_warm_102 : decode cX12_warm 102 = .ok (.iload 4, 2) := by decide +kernel
theorem dX12_warm_104 : decode cX12_warm 104 = .ok (.aload_n 0, 1) := by decide +kernel
theorem dX12_warm_105 : decode cX12_warm 105 = .ok (.getfield 23, 3) := by decide +kernel
theorem dX12_warm_108 : decode cX12_warm 108 = .ok (.iconst 2, 1) := by decide +kernel
theorem dX12_warm_109 : decode cX12_warm 109 = .ok (.iload_n 1, 1) := by decide +kernel
theorem dX12_warm_110 : decode cX12_warm 110 = .ok (.imul, 1) := by decide +kernel
theorem dX12_warm_111 : decode cX12_warm 111 = .ok (.iconst 1, 1) := by decide +kernel
theorem dX12_warm_112 : decode cX12_warm 112 = .ok (.iadd, 1) := by decide +kernel
theorem dX12_warm_113 : decode cX12_warm 113 = .ok (.iaload, 1) := by decide +kernel
theorem dX12_warm_114 : decode cX12_warm 114 = .ok (.invokevirtual 158, 3) := by decide +kernel
theorem dX12_warm_117 : decode cX12_warm 117 = .ok (.iload 5, 2) := by decide +kernel
theorem dX12_warm_119 : decode cX12_warm 119 = .ok (.iload_n 3, 1) := by decide +kernel
theorem dX12_warm_120 : decode cX12_warm 120 = .ok (.ifCond .ne 19, 3) := by decide +kernel
theorem dX12_warm_123 : decode cX12_warm 123 = .ok (.iload 7, 2) := by decide +kernel
theorem dX12_warm_125 : decode cX12_warm 125 = .ok (.ifCond .eq 31, 3) := by decide +kernel
theorem dX12_warm_128 : decode cX12_warm 128 = .ok (.aload_n 0, 1) := by decide +kernel
theorem dX12_warm_129 : decode cX12_warm 129 = .ok (.getfield 162, 3) := by decide +kernel
theorem dX12_warm_132 : decode cX12_warm 132 = .ok (.iconst 1, 1) := by decide +kernel
theorem dX12_warm_133 : decode cX12_warm 133 = .ok (.if_icmp .eq 23, 3) := by decide +kernel
theorem dX12_warm_136 : decode cX12_warm 136 = .ok (.goto 16, 3) := by decide +kernel
theorem dX12_warm_139 : decode cX12_warm 139 = .ok (.iload 7, 2) := by decide +kernel
theorem dX12_warm_141 : decode cX12_warm 141 = .ok (.ifCond .ne 15, 3) := by decide +kernel
theorem dX12_warm_144 : decode cX12_warm 144 = .ok (.aload_n 0, 1) := by decide +kernel
theorem dX12_warm_145 : decode cX12_warm 145 = .ok (.getfield 162, 3) := by decide +kernel
theorem dX12_warm_148 : decode cX12_warm 148 = .ok (.iconst 1, 1) := by decide +kernel
theorem dX12_warm_149 : decode cX12_warm 149 = .ok (.if_icmp .ne 7, 3) := by decide +kernel
theorem dX12_warm_152 : decode cX12_warm 152 = .ok (.iconst 1, 1) := by decide +kernel
theorem dX12_warm_153 : decode cX12_warm 153 = .ok (.goto 4, 3) := by decide +kernel
theorem dX12_warm_156 : decode cX12_warm 156 = .ok (.iconst 0, 1) := by decide +kernel
theorem dX12_warm_157 : decode cX12_warm 157 = .ok (.iadd, 1) := by decide +kernel
theorem dX12_warm_158 : decode cX12_warm 158 = .ok (.istore 5, 2) := by decide +kernel
theorem dX12_warm_160 : decode cX12_warm 160 = .ok (.iinc 6 1, 3) := by decide +kernel
theorem dX12_warm_163 : decode cX12_warm 163 = .ok (.goto (-93), 3) := by decide +kernel
theorem dX12_warm_166 : decode cX12_warm 166 = .ok (.iload 5, 2) := by decide +kernel
theorem dX12_warm_168 : decode cX12_warm 168 = .ok (.ireturn, 1) := by decide +kernel
theorem dX12_shoot_0 : decode cX12_shoot 0 = .ok (.aload_n 0, 1) := by decide +kernel
theorem dX12_shoot_1 : decode cX12_shoot 1 = .ok (.iconst 0, 1) := by decide +kernel
theorem dX12_shoot_2 : decode cX12_shoot 2 = .ok (.putfield 53, 3) := by decide +kernel
theorem dX12_shoot_5 : decode cX12_shoot 5 = .ok (.aload_n 0, 1) := by decide +kernel
theorem dX12_shoot_6 : decode cX12_shoot 6 = .ok (.iload_n 1, 1) := by decide +kernel
theorem dX12_shoot_7 : decode cX12_shoot 7 = .ok (.invokevirtual 136, 3) := by decide +kernel
theorem dX12_shoot_10 : decode cX12_shoot 10 = .ok (.ifCond .eq 37, 3) := by decide +kernel
theorem dX12_shoot_13 : decode cX12_shoot 13 = .ok (.aload_n 0, 1) := by decide +kernel
theorem dX12_shoot_14 : decode cX12_shoot 14 = .ok (.iload_n 2, 1) := by decide +kernel
theorem dX12_shoot_15 : decode cX12_shoot 15 = .ok (.invokevirtual 140, 3) := by decide +kernel
theorem dX12_shoot_18 : decode cX12_shoot 18 = .ok (.ifCond .eq 29, 3) := by decide +kernel
theorem dX12_shoot_21 : decode cX12_shoot 21 = .ok (.iload_n 3, 1) := by decide +kernel
theorem dX12_shoot_22 : decode cX12_shoot 22 = .ok (.iconst 0, 1) := by decide +kernel
theorem dX12_shoot_23 : decode cX12_shoot 23 = .ok (.aload_n 0, 1) := by decide +kernel
theorem dX12_shoot_24 : decode cX12_shoot 24 = .ok (.getfield 133, 3) := by decide +kernel
theorem dX12_shoot_27 : decode cX12_shoot 27 = .ok (.iconst 1, 1) := by decide +kernel
theorem dX12_shoot_28 : decode cX12_shoot 28 = .ok (.isub, 1) := by decide +kernel
theorem dX12_shoot_29 : decode cX12_shoot 29 = .ok (.invokestatic 57, 3) := by decide +kernel
theorem dX12_shoot_32 : decode cX12_shoot 32 = .ok (.ifCond .eq 15, 3) := by decide +kernel
theorem dX12_shoot_35 : decode cX12_shoot 35 = .ok (.aload_n 0, 1) := by decide +kernel
theorem dX12_shoot_36 : decode cX12_shoot 36 = .ok (.getfield 13, 3) := by decide +kernel
theorem dX12_shoot_39 : decode cX12_shoot 39 = .ok (.bipush 85, 2) := by decide +kernel
theorem dX12_shoot_41 : decode cX12_shoot 41 = .ok (.iaload, 1) := by decide +kernel
theorem dX12_shoot_42 : decode cX12_shoot 42 = .ok (.bipush 60, 2) := by decide +kernel
theorem dX12_shoot_44 : decode cX12_shoot 44 = .ok (.if_icmp .ne 6, 3) := by decide +kernel
theorem dX12_shoot_47 : decode cX12_shoot 47 = .ok (.ldc 143, 2) := by decide +kernel
theorem dX12_shoot_49 : decode cX12_shoot 49 = .ok (.ireturn, 1) := by decide +kernel
theorem dX12_shoot_50 : decode cX12_shoot 50 = .ok (.aload_n 0, 1) := by decide +kernel
theorem dX12_shoot_51 : decode cX12_shoot 51 = .ok (.iload_n 1, 1) := by decide +kernel
theorem dX12_shoot_52 : decode cX12_shoot 52 = .ok (.iload_n 2, 1) := by decide +kernel
theorem dX12_shoot_53 : decode cX12_shoot 53 = .ok (.invokevirtual 189, 3) := by decide +kernel
theorem dX12_shoot_56 : decode cX12_shoot 56 = .ok (.aload_n 0, 1) := by decide +kernel
theorem dX12_shoot_57 : decode cX12_shoot 57 = .ok (.getfield 26, 3) := by decide +kernel
theorem dX12_shoot_60 : decode cX12_shoot 60 = .ok (.iconst 2, 1) := by decide +kernel
theorem dX12_shoot_61 : decode cX12_shoot 61 = .ok (.iload_n 3, 1) := by decide +kernel
theorem dX12_shoot_62 : decode cX12_shoot 62 = .ok (.imul, 1) := by decide +kernel
theorem dX12_shoot_63 : decode cX12_shoot 63 = .ok (.iconst 1, 1) := by decide +kernel
theorem dX12_shoot_64 : decode cX12_shoot 64 = .ok (.iadd, 1) := by decide +kernel
theorem dX12_shoot_65 : decode cX12_shoot 65 = .ok (.iaload, 1) := by decide +kernel
theorem dX12_shoot_66 : decode cX12_shoot 66 = .ok (.istore 4, 2) := by decide +kernel
theorem dX12_shoot_68 : decode cX12_shoot 68 = .ok (.aload_n 0, 1) := by decide +kernel
theorem dX12_shoot_69 : decode cX12_shoot 69 = .ok (.getfield 13, 3) := by decide +kernel
theorem dX12_shoot_72 : decode cX12_shoot 72 = .ok (.bipush 84, 2) := by decide +kernel
theorem dX12_shoot_74 : decode cX12_shoot 74 = .ok (.aload_n 0, 1) := by decide +kernel
theorem dX12_shoot_75 : decode cX12_shoot 75 = .ok (.getfield 13, 3) := by decide +kernel
theorem dX12_shoot_78 : decode cX12_shoot 78 = .ok (.bipush 84, 2) := by decide +kernel
theorem dX12_shoot_80 : decode cX12_shoot 80 = .ok (.iaload, 1) := by decide +kernel
theorem dX12_shoot_81 : decode cX12_shoot 81 = .ok (.ldc 205, 2) := by decide +kernel
theorem dX12_shoot_83 : decode cX12_shoot 83 = .ok (.imul, 1) := by decide +kernel
theorem dX12_shoot_84 : decode cX12_shoot 84 = .ok (.sipush 12345, 3) := by decide +kernel
theorem dX12_shoot_87 : decode cX12_shoot 87 = .ok (.iadd, 1) := by decide +kernel
theorem dX12_shoot_88 : decode cX12_shoot 88 = .ok (.iastore, 1) := by decide +kernel
theorem dX12_shoot_89 : decode cX12_shoot 89 = .ok (.aload_n 0, 1) := by decide +kernel
theorem dX12_shoot_90 : decode cX12_shoot 90 = .ok (.getfield 13, 3) := by decide +kernel
theorem dX12_shoot_93 : decode cX12_shoot 93 = .ok (.bipush 84, 2) := by decide +kernel
theorem dX12_shoot_95 : decode cX12_shoot 95 = .ok (.iaload, 1) := by decide +kernel
theorem dX12_shoot_96 : decode cX12_shoot 96 = .ok (.bipush 16, 2) := by decide +kernel
theorem dX12_shoot_98 : decode cX12_shoot 98 = .ok (.ishr, 1) := by decide +kernel
theorem dX12_shoot_99 : decode cX12_shoot 99 = .ok (.ldc 206, 2) := by decide +kernel
theorem dX12_shoot_101 : decode cX12_shoot 101 = .ok (.iand, 1) := by decide +kernel
theorem dX12_shoot_102 : decode cX12_shoot 102 = .ok (.iconst 2, 1) := by decide +kernel
theorem dX12_shoot_103 : decode cX12_shoot 103 = .ok (.iload 4, 2) := by decide +kernel
theorem dX12_shoot_105 : decode cX12_shoot 105 = .ok (.imul, 1) := by decide +kernel
theorem dX12_shoot_106 : decode cX12_shoot 106 = .ok (.iconst 1, 1) := by decide +kernel
theorem dX12_shoot_107 : decode cX12_shoot 107 = .ok (.iadd, 1) := by decide +kernel
theorem dX12_shoot_108 : decode cX12_shoot 108 = .ok (.irem, 1) := by decide +kernel
theorem dX12_shoot_109 : decode cX12_shoot 109 = .ok (.istore 5, 2) := by decide +kernel
theorem dX12_shoot_111 : decode cX12_shoot 111 = .ok (.bipush 86, 2) := by decide +kernel
theorem dX12_shoot_113 : decode cX12_shoot 113 = .ok (.iconst 5, 1) := by decide +kernel
theorem dX12_shoot_114 : decode cX12_shoot 114 = .ok (.aload_n 0, 1) := by decide +kernel
theorem dX12_shoot_115 : decode cX12_shoot 115 = .ok (.getfield 13, 3) := by decide +kernel
theorem dX12_shoot_118 : decode cX12_shoot 118 = .ok (.bipush 85, 2) := by decide +kernel
theorem dX12_shoot_120 : decode cX12_shoot 120 = .ok (.iaload, 1) := by decide +kernel
theorem dX12_shoot_121 : decode cX12_shoot 121 = .ok (.imul, 1) := by decide +kernel
theorem dX12_shoot_122 : decode cX12_shoot 122 = .ok (.iadd, 1) := by decide +kernel
theorem dX12_shoot_123 : decode cX12_shoot 123 = .ok (.istore 6, 2) := by decide +kernel
theorem dX12_shoot_125 : decode cX12_shoot 125 = .ok (.aload_n 0, 1) := by decide +kernel
theorem dX12_shoot_126 : decode cX12_shoot 126 = .ok (.getfield 13, 3) := by decide +kernel
theorem dX12_shoot_129 : decode cX12_shoot 129 = .ok (.iload 6, 2) := by decide +kernel
theorem dX12_shoot_131 : decode cX12_shoot 131 = .ok (.iload_n 1, 1) := by decide +kernel
theorem dX12_shoot_132 : decode cX12_shoot 132 = .ok (.iastore, 1) := by decide +kernel
theorem dX12_shoot_133 : decode cX12_shoot 133 = .ok (.aload_n 0, 1) := by decide +kernel
theorem dX12_shoot_134 : decode cX12_shoot 134 = .ok (.getfield 13, 3) := by decide +kernel
theorem dX12_shoot_137 : decode cX12_shoot 137 = .ok (.iload 6, 2) := by decide +kernel
theorem dX12_shoot_139 : decode cX12_shoot 139 = .ok (.iconst 1, 1) := by decide +kernel
theorem dX12_shoot_140 : decode cX12_shoot 140 = .ok (.iadd, 1) := by decide +kernel
theorem dX12_shoot_141 : decode cX12_shoot 141 = .ok (.iload_n 2, 1) := by decide +kernel
theorem dX12_shoot_142 : decode cX12_shoot 142 = .ok (.iastore, 1) := by decide +kernel
theorem dX12_shoot_143 : decode cX12_shoot 143 = .ok (.aload_n 0, 1) := by decide +kernel
theorem dX12_shoot_144 : decode cX12_shoot 144 = .ok (.getfield 13, 3) := by decide +kernel
theorem dX12_shoot_147 : decode cX12_shoot 147 = .ok (.iload 6, 2) := by decide +kernel
theorem dX12_shoot_149 : decode cX12_shoot 149 = .ok (.iconst 2, 1) := by decide +kernel
theorem dX12_shoot_150 : decode cX12_shoot 150 = .ok (.iadd, 1) := by decide +kernel
theorem dX12_shoot_151 : decode cX12_shoot 151 = .ok (.iload_n 3, 1) := by decide +kernel
theorem dX12_shoot_152 : decode cX12_shoot 152 = .ok (.iastore, 1) := by decide +kernel
theorem dX12_shoot_153 : decode cX12_shoot 153 = .ok (.aload_n 0, 1) := by decide +kernel
theorem dX12_shoot_154 : decode cX12_shoot 154 = .ok (.getfield 13, 3) := by decide +kernel
theorem dX12_shoot_157 : decode cX12_shoot 157 = .ok (.iload 6, 2) := by decide +kernel
theorem dX12_shoot_159 : decode cX12_shoot 159 = .ok (.iconst 3, 1) := by decide +kernel
theorem dX12_shoot_160 : decode cX12_shoot 160 = .ok (.iadd, 1) := by decide +kernel
theorem dX12_shoot_161 : decode cX12_shoot 161 = .ok (.aload_n 0, 1) := by decide +kernel
theorem dX12_shoot_162 : decode cX12_shoot 162 = .ok (.getfield 183, 3) := by decide +kernel
theorem dX12_shoot_165 : decode cX12_shoot 165 = .ok (.aload_n 0, 1) := by decide +kernel
theorem dX12_shoot_166 : decode cX12_shoot 166 = .ok (.getfield 26, 3) := by decide +kernel
theorem dX12_shoot_169 : decode cX12_shoot 169 = .ok (.iconst 2, 1) := by decide +kernel
theorem dX12_shoot_170 : decode cX12_shoot 170 = .ok (.iload_n 3, 1) := by decide +kernel
theorem dX12_shoot_171 : decode cX12_shoot 171 = .ok (.imul, 1) := by decide +kernel
theorem dX12_shoot_172 : decode cX12_shoot 172 = .ok (.iaload, 1) := by decide +kernel
theorem dX12_shoot_173 : decode cX12_shoot 173 = .ok (.iadd, 1) := by decide +kernel
theorem dX12_shoot_174 : decode cX12_shoot 174 = .ok (.iload 5, 2) := by decide +kernel
theorem dX12_shoot_176 : decode cX12_shoot 176 = .ok (.iadd, 1) := by decide +kernel
theorem dX12_shoot_177 : decode cX12_shoot 177 = .ok (.iload 4, 2) := by decide +kernel
theorem dX12_shoot_179 : decode cX12_shoot 179 = .ok (.isub, 1) := by decide +kernel
theorem dX12_shoot_180 : decode cX12_shoot 180 = .ok (.iastore, 1) := by decide +kernel
theorem dX12_shoot_181 : decode cX12_shoot 181 = .ok (.aload_n 0, 1) := by decide +kernel
theorem dX12_shoot_182 : decode cX12_shoot 182 = .ok (.getfield 13, 3) := by decide +kernel
theorem dX12_shoot_185 : decode cX12_shoot 185 = .ok (.iload 6, 2) := by decide +kernel
theorem dX12_shoot_187 : decode cX12_shoot 187 = .ok (.iconst 4, 1) := by decide +kernel
theorem dX12_shoot_188 : decode cX12_shoot 188 = .ok (.iadd, 1) := by decide +kernel
theorem dX12_shoot_189 : decode cX12_shoot 189 = .ok (.aload_n 0, 1) := by decide +kernel
theorem dX12_shoot_190 : decode cX12_shoot 190 = .ok (.getfield 186, 3) := by decide +kernel
theorem dX12_shoot_193 : decode cX12_shoot 193 = .ok (.iastore, 1) := by decide +kernel
theorem dX12_shoot_194 : decode cX12_shoot 194 = .ok (.aload_n 0, 1) := by decide +kernel
theorem dX12_shoot_195 : decode cX12_shoot 195 = .ok (.getfield 13, 3) := by decide +kernel
theorem dX12_shoot_198 : decode cX12_shoot 198 = .ok (.bipush 85, 2) := by decide +kernel
theorem dX12_shoot_200 : decode cX12_shoot 200 = .ok (.dup2, 1) := by decide +kernel
theorem dX12_shoot_201 : decode cX12_shoot 201 = .ok (.iaload, 1) := by decide +kernel
theorem dX12_shoot_202 : decode cX12_shoot 202 = .ok (.iconst 1, 1) := by decide +kernel
theorem dX12_shoot_203 : decode cX12_shoot 203 = .ok (.iadd, 1) := by decide +kernel
theorem dX12_shoot_204 : decode cX12_shoot 204 = .ok (.iastore, 1) := by decide +kernel
theorem dX12_shoot_205 : decode cX12_shoot 205 = .ok (.aload_n 0, 1) := by decide +kernel
theorem dX12_shoot_206 : decode cX12_shoot 206 = .ok (.getfield 13, 3) := by decide +kernel
theorem dX12_shoot_209 : decode cX12_shoot 209 = .ok (.iload 6, 2) := by decide +kernel
theorem dX12_shoot_211 : decode cX12_shoot 211 = .ok (.iconst 3, 1) := by decide +kernel
theorem dX12_shoot_212 : decode cX12_shoot 212 = .ok (.iadd, 1) := by decide +kernel
theorem dX12_shoot_213 : decode cX12_shoot 213 = .ok (.iaload, 1) := by decide +kernel
theorem dX12_shoot_214 : decode cX12_shoot 214 = .ok (.ireturn, 1) := by decide +kernel
theorem dX12_shot_0 : decode cX12_shot 0 = .ok (.aload_n 0, 1) := by decide +kernel
theorem dX12_shot_1 : decode cX12_shot 1 = .ok (.iconst 0, 1) := by decide +kernel
theorem dX12_shot_2 : decode cX12_shot 2 = .ok (.putfield 53, 3) := by decide +kernel
theorem dX12_shot_5 : decode cX12_shot 5 = .ok (.iload_n 1, 1) := by decide +kernel
theorem dX12_shot_6 : decode cX12_shot 6 = .ok (.iconst 0, 1) := by decide +kernel
theorem dX12_shot_7 : decode cX12_shot 7 = .ok (.aload_n 0, 1) := by decide +kernel
theorem dX12_shot_8 : decode cX12_shot 8 = .ok (.getfield 13, 3) := by decide +kernel
theorem dX12_shot_11 : decode cX12_shot 11 = .ok (.bipush 85, 2) := by decide +kernel
theorem dX12_shot_13 : decode cX12_shot 13 = .ok (.iaload, 1) := by decide +kernel
theorem dX12_shot_14 : decode cX12_shot 14 = .ok (.iconst 1, 1) := by decide +kernel
theorem dX12_shot_15 : decode cX12_shot 15 = .ok (.isub, 1) := by decide +kernel
theorem dX12_shot_16 : decode cX12_shot 16 = .ok (.invokestatic 57, 3) := by decide +kernel
theorem dX12_shot_19 : decode cX12_shot 19 = .ok (.ifCond .eq 28, 3) := by decide +kernel
theorem dX12_shot_22 : decode cX12_shot 22 = .ok (.iload_n 2, 1) := by decide +kernel
theorem dX12_shot_23 : decode cX12_shot 23 = .ok (.iconst 0, 1) := by decide +kernel
theorem dX12_shot_24 : decode cX12_shot 24 = .ok (.iconst 4, 1) := by decide +kernel
theorem dX12_shot_25 : decode cX12_shot 25 = .ok (.invokestatic 57, 3) := by decide +kernel
theorem dX12_shot_28 : decode cX12_shot 28 = .ok (.ifCond .eq 19, 3) := by decide +kernel
theorem dX12_shot_31 : decode cX12_shot 31 = .ok (.aload_n 0, 1) := by decide +kernel
theorem dX12_shot_32 : decode cX12_shot 32 = .ok (.getfield 13, 3) := by decide +kernel
theorem dX12_shot_35 : decode cX12_shot 35 = .ok (.bipush 86, 2) := by decide +kernel
theorem dX12_shot_37 : decode cX12_shot 37 = .ok (.iconst 5, 1) := by decide +kernel
theorem dX12_shot_38 : decode cX12_shot 38 = .ok (.iload_n 1, 1) := by decide +kernel
theorem dX12_shot_39 : decode cX12_shot 39 = .ok (.imul, 1) := by decide +kernel
theorem dX12_shot_40 : decode cX12_shot 40 = .ok (.iadd, 1) := by decide +kernel
theorem dX12_shot_41 : decode cX12_shot 41 = .ok (.iload_n 2, 1) := by decide +kernel
theorem dX12_shot_42 : decode cX12_shot 42 = .ok (.iadd, 1) := by decide +kernel
theorem dX12_shot_43 : decode cX12_shot 43 = .ok (.iaload, 1) := by decide +kernel
theorem dX12_shot_44 : decode cX12_shot 44 = .ok (.goto 5, 3) := by decide +kernel
theorem dX12_shot_47 : decode cX12_shot 47 = .ok (.ldc 143, 2) := by decide +kernel
theorem dX12_shot_49 : decode cX12_shot 49 = .ok (.ireturn, 1) := by decide +kernel
theorem dX12_wipe_0 : decode cX12_wipe 0 = .ok (.aload_n 0, 1) := by decide +kernel
theorem dX12_wipe_1 : decode cX12_wipe 1 = .ok (.iconst 0, 1) := by decide +kernel
theorem dX12_wipe_2 : decode cX12_wipe 2 = .ok (.putfield 53, 3) := by decide +kernel
theorem dX12_wipe_5 : decode cX12_wipe 5 = .ok (.aload_n 0, 1) := by decide +kernel
theorem dX12_wipe_6 : decode cX12_wipe 6 = .ok (.getfield 13, 3) := by decide +kernel
theorem dX12_wipe_9 : decode cX12_wipe 9 = .ok (.bipush 85, 2) := by decide +kernel
theorem dX12_wipe_11 : decode cX12_wipe 11 = .ok (.iaload, 1) := by decide +kernel
theorem dX12_wipe_12 : decode cX12_wipe 12 = .ok (.istore_n 1, 1) := by decide +kernel
theorem dX12_wipe_13 : decode cX12_wipe 13 = .ok (.aload_n 0, 1) := by decide +kernel
theorem dX12_wipe_14 : decode cX12_wipe 14 = .ok (.getfield 13, 3) := by decide +kernel
theorem dX12_wipe_17 : decode cX12_wipe 17 = .ok (.bipush 85, 2) := by decide +kernel
theorem dX12_wipe_19 : decode cX12_wipe 19 = .ok (.iconst 0, 1) := by decide +kernel
theorem dX12_wipe_20 : decode cX12_wipe 20 = .ok (.iastore, 1) := by decide +kernel
theorem dX12_wipe_21 : decode cX12_wipe 21 = .ok (.iload_n 1, 1) := by decide +kernel
theorem dX12_wipe_22 : decode cX12_wipe 22 = .ok (.ireturn, 1) := by decide +kernel
theorem dX12_gcd_0 : decode cX12_gcd 0 = .ok (.lload_n 0, 1) := by decide +kernel
theorem dX12_gcd_1 : decode cX12_gcd 1 = .ok (.lconst 0, 1) := by decide +kernel
theorem dX12_gcd_2 : decode cX12_gcd 2 = .ok (.lcmp, 1) := by decide +kernel
theorem dX12_gcd_3 : decode cX12_gcd 3 = .ok (.ifCond .ge 8, 3) := by decide +kernel
theorem dX12_gcd_6 : decode cX12_gcd 6 = .ok (.lload_n 0, 1) := by decide +kernel
theorem dX12_gcd_7 : decode cX12_gcd 7 = .ok (.lneg, 1) := by decide +kernel
theorem dX12_gcd_8 : decode cX12_gcd 8 = .ok (.goto 4, 3) := by decide +kernel
theorem dX12_gcd_11 : decode cX12_gcd 11 = .ok (.lload_n 0, 1) := by decide +kernel
theorem dX12_gcd_12 : decode cX12_gcd 12 = .ok (.lstore 4, 2) := by decide +kernel
theorem dX12_gcd_14 : decode cX12_gcd 14 = .ok (.lload_n 2, 1) := by decide +kernel
theorem dX12_gcd_15 : decode cX12_gcd 15 = .ok (.lstore 6, 2) := by decide +kernel
theorem dX12_gcd_17 : decode cX12_gcd 17 = .ok (.lload 6, 2) := by decide +kernel
theorem dX12_gcd_19 : decode cX12_gcd 19 = .ok (.lconst 0, 1) := by decide +kernel
theorem dX12_gcd_20 : decode cX12_gcd 20 = .ok (.lcmp, 1) := by decide +kernel
theorem dX12_gcd_21 : decode cX12_gcd 21 = .ok (.ifCond .eq 21, 3) := by decide +kernel
theorem dX12_gcd_24 : decode cX12_gcd 24 = .ok (.lload 4, 2) := by decide +kernel
theorem dX12_gcd_26 : decode cX12_gcd 26 = .ok (.lload 6, 2) := by decide +kernel
theorem dX12_gcd_28 : decode cX12_gcd 28 = .ok (.lrem, 1) := by decide +kernel
theorem dX12_gcd_29 : decode cX12_gcd 29 = .ok (.lstore 8, 2) := by decide +kernel
theorem dX12_gcd_31 : decode cX12_gcd 31 = .ok (.lload 6, 2) := by decide +kernel
theorem dX12_gcd_33 : decode cX12_gcd 33 = .ok (.lstore 4, 2) := by decide +kernel
theorem dX12_gcd_35 : decode cX12_gcd 35 = .ok (.lload 8, 2) := by decide +kernel
theorem dX12_gcd_37 : decode cX12_gcd 37 = .ok (.lstore 6, 2) := by decide +kernel
theorem dX12_gcd_39 : decode cX12_gcd 39 = .ok (.goto (-22), 3) := by decide +kernel
theorem dX12_gcd_42 : decode cX12_gcd 42 = .ok (.lload 4, 2) := by decide +kernel
theorem dX12_gcd_44 : decode cX12_gcd 44 = .ok (.lreturn, 1) := by decide +kernel
theorem dX12_adds_0 : decode cX12_adds 0 = .ok (.aload_n 0, 1) := by decide +kernel
theorem dX12_adds_1 : decode cX12_adds 1 = .ok (.getfield 207, 3) := by decide +kernel
theorem dX12_adds_4 : decode cX12_adds 4 = .ok (.lload_n 3, 1) := by decide +kernel
theorem dX12_adds_5 : decode cX12_adds 5 = .ok (.invokestatic 211, 3) := by decide +kernel
theorem dX12_adds_8 : decode cX12_adds 8 = .ok (.lstore 5, 2) := by decide +kernel
theorem dX12_adds_10 : decode cX12_adds 10 = .ok (.aload_n 0, 1) := by decide +kernel
theorem dX12_adds_11 : decode cX12_adds 11 = .ok (.aload_n 0, 1) := by decide +kernel
theorem dX12_adds_12 : decode cX12_adds 12 = .ok (.getfield 215, 3) := by decide +kernel
theorem dX12_adds_15 : decode cX12_adds 15 = .ok (.lload_n 3, 1) := by decide +kernel
theorem dX12_adds_16 : decode cX12_adds 16 = .ok (.lload 5, 2) := by decide +kernel
theorem dX12_adds_18 : decode cX12_adds 18 = .ok (.ldiv, 1) := by decide +kernel
theorem dX12_adds_19 : decode cX12_adds 19 = .ok (.lmul, 1) := by decide +kernel
theorem dX12_adds_20 : decode cX12_adds 20 = .ok (.lload_n 1, 1) := by decide +kernel
theorem dX12_adds_21 : decode cX12_adds 21 = .ok (.aload_n 0, 1) := by decide +kernel
theorem dX12_adds_22 : decode cX12_adds 22 = .ok (.getfield 207, 3) := by decide +kernel
theorem dX12_adds_25 : decode cX12_adds 25 = .ok (.lload 5, 2) := by decide +kernel
theorem dX12_adds_27 : decode cX12_adds 27 = .ok (.ldiv, 1) := by decide +kernel
theorem dX12_adds_28 : decode cX12_adds 28 = .ok (.lmul, 1) := by decide +kernel
theorem dX12_adds_29 : decode cX12_adds 29 = .ok (.ladd, 1) := by decide +kernel
theorem dX12_adds_30 : decode cX12_adds 30 = .ok (.putfield 215, 3) := by decide +kernel
theorem dX12_adds_33 : decode cX12_adds 33 = .ok (.aload_n 0, 1) := by decide +kernel
theorem dX12_adds_34 : decode cX12_adds 34 = .ok (.aload_n 0, 1) := by decide +kernel
theorem dX12_adds_35 : decode cX12_adds 35 = .ok (.getfield 207, 3) := by decide +kernel
theorem dX12_adds_38 : decode cX12_adds 38 = .ok (.lload 5, 2) := by decide +kernel
theorem dX12_adds_40 : decode cX12_adds 40 = .ok (.ldiv, 1) := by decide +kernel
theorem dX12_adds_41 : decode cX12_adds 41 = .ok (.lload_n 3, 1) := by decide +kernel
theorem dX12_adds_42 : decode cX12_adds 42 = .ok (.lmul, 1) := by decide +kernel
theorem dX12_adds_43 : decode cX12_adds 43 = .ok (.putfield 207, 3) := by decide +kernel
theorem dX12_adds_46 : decode cX12_adds 46 = .ok (.aload_n 0, 1) := by decide +kernel
theorem dX12_adds_47 : decode cX12_adds 47 = .ok (.getfield 215, 3) := by decide +kernel
theorem dX12_adds_50 : decode cX12_adds 50 = .ok (.aload_n 0, 1) := by decide +kernel
theorem dX12_adds_51 : decode cX12_adds 51 = .ok (.getfield 207, 3) := by decide +kernel
theorem dX12_adds_54 : decode cX12_adds 54 = .ok (.invokestatic 211, 3) := by decide +kernel
theorem dX12_adds_57 : decode cX12_adds 57 = .ok (.lstore 5, 2) := by decide +kernel
theorem dX12_adds_59 : decode cX12_adds 59 = .ok (.aload_n 0, 1) := by decide +kernel
theorem dX12_adds_60 : decode cX12_adds 60 = .ok (.dup, 1) := by decide +kernel
theorem dX12_adds_61 : decode cX12_adds 61 = .ok (.getfield 215, 3) := by decide +kernel
theorem dX12_adds_64 : decode cX12_adds 64 = .ok (.lload 5, 2) := by decide +kernel
theorem dX12_adds_66 : decode cX12_adds 66 = .ok (.ldiv, 1) := by decide +kernel
theorem dX12_adds_67 : decode cX12_adds 67 = .ok (.putfield 215, 3) := by decide +kernel
theorem dX12_adds_70 : decode cX12_adds 70 = .ok (.aload_n 0, 1) := by decide +kernel
theorem dX12_adds_71 : decode cX12_adds 71 = .ok (.dup, 1) := by decide +kernel
theorem dX12_adds_72 : decode cX12_adds 72 = .ok (.getfield 207, 3) := by decide +kernel
theorem dX12_adds_75 : decode cX12_adds 75 = .ok (.lload 5, 2) := by decide +kernel
theorem dX12_adds_77 : decode cX12_adds 77 = .ok (.ldiv, 1) := by decide +kernel
theorem dX12_adds_78 : decode cX12_adds 78 = .ok (.putfield 207, 3) := by decide +kernel
theorem dX12_adds_81 : decode cX12_adds 81 = .ok (.return_, 1) := by decide +kernel
theorem dX12_parts_0 : decode cX12_parts 0 = .ok (.aload_n 0, 1) := by decide +kernel
theorem dX12_parts_1 : decode cX12_parts 1 = .ok (.lconst 0, 1) := by decide +kernel
theorem dX12_parts_2 : decode cX12_parts 2 = .ok (.putfield 215, 3) := by decide +kernel
theorem dX12_parts_5 : decode cX12_parts 5 = .ok (.aload_n 0, 1) := by decide +kernel
theorem dX12_parts_6 : decode cX12_parts 6 = .ok (.lconst 1, 1) := by decide +kernel
theorem dX12_parts_7 : decode cX12_parts 7 = .ok (.putfield 207, 3) := by decide +kernel
theorem dX12_parts_10 : decode cX12_parts 10 = .ok (.iload_n 1, 1) := by decide +kernel
theorem dX12_parts_11 : decode cX12_parts 11 = .ok (.ifCond .ne 7, 3) := by decide +kernel
theorem dX12_parts_14 : decode cX12_parts 14 = .ok (.iconst 0, 1) := by decide +kernel
theorem dX12_parts_15 : decode cX12_parts 15 = .ok (.goto 13, 3) := by decide +kernel
theorem dX12_parts_18 : decode cX12_parts 18 = .ok (.iload_n 1, 1) := by decide +kernel
theorem dX12_parts_19 : decode cX12_parts 19 = .ok (.iconst 1, 1) := by decide +kernel
theorem dX12_parts_20 : decode cX12_parts 20 = .ok (.if_icmp .ne 7, 3) := by decide +kernel
theorem dX12_parts_23 : decode cX12_parts 23 = .ok (.iconst 2, 1) := by decide +kernel
theorem dX12_parts_24 : decode cX12_parts 24 = .ok (.goto 4, 3) := by decide +kernel
theorem dX12_parts_27 : decode cX12_parts 27 = .ok (.iconst 1, 1) := by decide +kernel
theorem dX12_parts_28 : decode cX12_parts 28 = .ok (.istore_n 2, 1) := by decide +kernel
theorem dX12_parts_29 : decode cX12_parts 29 = .ok (.iconst 0, 1) := by decide +kernel
theorem dX12_parts_30 : decode cX12_parts 30 = .ok (.istore_n 3, 1) := by decide +kernel
theorem dX12_parts_31 : decode cX12_parts 31 = .ok (.iload_n 3, 1) := by decide +kernel
theorem dX12_parts_32 : decode cX12_parts 32 = .ok (.bipush 12, 2) := by decide +kernel
theorem dX12_parts_34 : decode cX12_parts 34 = .ok (.if_icmp .ge 98, 3) := by decide +kernel
theorem dX12_parts_37 : decode cX12_parts 37 = .ok (.lconst 0, 1) := by decide +kernel
theorem dX12_parts_38 : decode cX12_parts 38 = .ok (.lstore 4, 2) := by decide +kernel
theorem dX12_parts_40 : decode cX12_parts 40 = .ok (.lconst 0, 1) := by decide +kernel
theorem dX12_parts_41 : decode cX12_parts 41 = .ok (.lstore 6, 2) := by decide +kernel
theorem dX12_parts_43 : decode cX12_parts 43 = .ok (.iconst 0, 1) := by decide +kernel
theorem dX12_parts_44 : decode cX12_parts 44 = .ok (.istore 8, 2) := by decide +kernel
theorem dX12_parts_46 : decode cX12_parts 46 = .ok (.iload 8, 2) := by decide +kernel
theorem dX12_parts_48 : decode cX12_parts 48 = .ok (.aload_n 0, 1) := by decide +kernel
theorem dX12_parts_49 : decode cX12_parts 49 = .ok (.getfield 13, 3) := by decide +kernel
theorem dX12_parts_52 : decode cX12_parts 52 = .ok (.bipush 85, 2) := by decide +kernel
theorem dX12_parts_54 : decode cX12_parts 54 = .ok (.iaload, 1) := by decide +kernel
theorem dX12_parts_55 : decode cX12_parts 55 = .ok (.if_icmp .ge 53, 3) := by decide +kernel
theorem dX12_parts_58 : decode cX12_parts 58 = .ok (.aload_n 0, 1) := by decide +kernel
theorem dX12_parts_59 : decode cX12_parts 59 = .ok (.getfield 13, 3) := by decide +kernel
theorem dX12_parts_62 : decode cX12_parts 62 = .ok (.bipush 86, 2) := by decide +kernel
theorem dX12_parts_64 : decode cX12_parts 64 = .ok (.iconst 5, 1) := by decide +kernel
theorem dX12_parts_65 : decode cX12_parts 65 = .ok (.iload 8, 2) := by decide +kernel
theorem dX12_parts_67 : decode cX12_parts 67 = .ok (.imul, 1) := by decide +kernel
theorem dX12_parts_68 : decode cX12_parts 68 = .ok (.iadd, 1) := by decide +kernel
theorem dX12_parts_69 : decode cX12_parts 69 = .ok (.iload_n 2, 1) := by decide +kernel
theorem dX12_parts_70 : decode cX12_parts 70 = .ok (.iadd, 1) := by decide +kernel
theorem dX12_parts_71 : decode cX12_parts 71 = .ok (.iaload, 1) := by decide +kernel
theorem dX12_parts_72 : decode cX12_parts 72 = .ok (.iload_n 3, 1) := by decide +kernel
theorem dX12_parts_73 : decode cX12_parts 73 = .ok (.if_icmp .ne 29, 3) := by decide +kernel
theorem dX12_parts_76 : decode cX12_parts 76 = .ok (.lload 4, 2) := by decide +kernel
theorem dX12_parts_78 : decode cX12_parts 78 = .ok (.aload_n 0, 1) := by decide +kernel
theorem dX12_parts_79 : decode cX12_parts 79 = .ok (.getfield 13, 3) := by decide +kernel
theorem dX12_parts_82 : decode cX12_parts 82 = .ok (.bipush 86, 2) := by decide +kernel
theorem dX12_parts_84 : decode cX12_parts 84 = .ok (.iconst 5, 1) := by decide +kernel
theorem dX12_parts_85 : decode cX12_parts 85 = .ok (.iload 8, 2) := by decide +kernel
theorem dX12_parts_87 : decode cX12_parts 87 = .ok (.imul, 1) := by decide +kernel
theorem dX12_parts_88 : decode cX12_parts 88 = .ok (.iadd, 1) := by decide +kernel
theorem dX12_parts_89 : decode cX12_parts 89 = .ok (.iconst 3, 1) := by decide +kernel
theorem dX12_parts_90 : decode cX12_parts 90 = .ok (.iadd, 1) := by decide +kernel
theorem dX12_parts_91 : decode cX12_parts 91 = .ok (.iaload, 1) := by decide +kernel
theorem dX12_parts_92 : decode cX12_parts 92 = .ok (.i2l, 1) := by decide +kernel
theorem dX12_parts_93 : decode cX12_parts 93 = .ok (.ladd, 1) := by decide +kernel
theorem dX12_parts_94 : decode cX12_parts 94 = .ok (.lstore 4, 2) := by decide +kernel
theorem dX12_parts_96 : decode cX12_parts 96 = .ok (.lload 6, 2) := by decide +kernel
theorem dX12_parts_98 : decode cX12_parts 98 = .ok (.lconst 1, 1) := by decide +kernel
theorem dX12_parts_99 : decode cX12_parts 99 = .ok (.ladd, 1) := by decide +kernel
theorem dX12_parts_100 : decode cX12_parts 100 = .ok (.lstore 6, 2) := by decide +kernel
theorem dX12_parts_102 : decode cX12_parts 102 = .ok (.iinc 8 1, 3) := by decide +kernel
theorem dX12_parts_105 : decode cX12_parts 105 = .ok (.goto (-59), 3) := by decide +kernel
theorem dX12_parts_108 : decode cX12_parts 108 = .ok (.lload 6, 2) := by decide +kernel
theorem dX12_parts_110 : decode cX12_parts 110 = .ok (.lconst 0, 1) := by decide +kernel
theorem dX12_parts_111 : decode cX12_parts 111 = .ok (.lcmp, 1) := by decide +kernel
theorem dX12_parts_112 : decode cX12_parts 112 = .ok (.ifCond .le 14, 3) := by decide +kernel
theorem dX12_parts_115 : decode cX12_parts 115 = .ok (.aload_n 0, 1) := by decide +kernel
theorem dX12_parts_116 : decode cX12_parts 116 = .ok (.lload 4, 2) := by decide +kernel
theorem dX12_parts_118 : decode cX12_parts 118 = .ok (.lload 4, 2) := by decide +kernel
theorem dX12_parts_120 : decode cX12_parts 120 = .ok (.lmul, 1) := by decide +kernel
theorem dX12_parts_121 : decode cX12_parts 121 = .ok (.lload 6, 2) := by decide +kernel
theorem dX12_parts_123 : decode cX12_parts 123 = .ok (.invokevirtual 218, 3) := by decide +kernel
theorem dX12_parts_126 : decode cX12_parts 126 = .ok (.iinc 3 1, 3) := by decide +kernel
theorem dX12_parts_129 : decode cX12_parts 129 = .ok (.goto (-98), 3) := by decide +kernel
theorem dX12_parts_132 : decode cX12_parts 132 = .ok (.return_, 1) := by decide +kernel
theorem dX12_parted_0 : decode cX12_parted 0 = .ok (.aload_n 0, 1) := by decide +kernel
theorem dX12_parted_1 : decode cX12_parted 1 = .ok (.iconst 0, 1) := by decide +kernel
theorem dX12_parted_2 : decode cX12_parted 2 = .ok (.putfield 53, 3) := by decide +kernel
theorem dX12_parted_5 : decode cX12_parted 5 = .ok (.aload_n 0, 1) := by decide +kernel
theorem dX12_parted_6 : decode cX12_parted 6 = .ok (.getfield 13, 3) := by decide +kernel
theorem dX12_parted_9 : decode cX12_parted 9 = .ok (.bipush 85, 2) := by decide +kernel
theorem dX12_parted_11 : decode cX12_parted 11 = .ok (.iaload, 1) := by decide +kernel
theorem dX12_parted_12 : decode cX12_parted 12 = .ok (.ifCond .ne 6, 3) := by decide +kernel
theorem dX12_parted_15 : decode cX12_parted 15 = .ok (.bipush (-9), 2) := by decide +kernel
theorem dX12_parted_17 : decode cX12_parted 17 = .ok (.ireturn, 1) := by decide +kernel
theorem dX12_parted_18 : decode cX12_parted 18 = .ok (.iconst 0, 1) := by decide +kernel
theorem dX12_parted_19 : decode cX12_parted 19 = .ok (.istore_n 1, 1) := by decide +kernel
theorem dX12_parted_20 : decode cX12_parted 20 = .ok (.aload_n 0, 1) := by decide +kernel
theorem dX12_parted_21 : decode cX12_parted 21 = .ok (.iconst 0, 1) := by decide +kernel
theorem dX12_parted_22 : decode cX12_parted 22 = .ok (.invokevirtual 222, 3) := by decide +kernel
theorem dX12_parted_25 : decode cX12_parted 25 = .ok (.aload_n 0, 1) := by decide +kernel
theorem dX12_parted_26 : decode cX12_parted 26 = .ok (.getfield 215, 3) := by decide +kernel
theorem dX12_parted_29 : decode cX12_parted 29 = .ok (.lstore_n 2, 1) := by decide +kernel
theorem dX12_parted_30 : decode cX12_parted 30 = .ok (.aload_n 0, 1) := by decide +kernel
theorem dX12_parted_31 : decode cX12_parted 31 = .ok (.getfield 207, 3) := by decide +kernel
theorem dX12_parted_34 : decode cX12_parted 34 = .ok (.lstore 4, 2) := by decide +kernel
theorem dX12_parted_36 : decode cX12_parted 36 = .ok (.iconst 1, 1) := by decide +kernel
theorem dX12_parted_37 : decode cX12_parted 37 = .ok (.istore 6, 2) := by decide +kernel
theorem dX12_parted_39 : decode cX12_parted 39 = .ok (.iload 6, 2) := by decide +kernel
theorem dX12_parted_41 : decode cX12_parted 41 = .ok (.iconst 3, 1) := by decide +kernel
theorem dX12_parted_42 : decode cX12_parted 42 = .ok (.if_icmp .ge 54, 3) := by decide +kernel
theorem dX12_parted_45 : decode cX12_parted 45 = .ok (.aload_n 0, 1) := by decide +kernel
theorem dX12_parted_46 : decode cX12_parted 46 = .ok (.iload 6, 2) := by decide +kernel
theorem dX12_parted_48 : decode cX12_parted 48 = .ok (.invokevirtual 222, 3) := by decide +kernel
theorem dX12_parted_51 : decode cX12_parted 51 = .ok (.aload_n 0, 1) := by decide +kernel
theorem dX12_parted_52 : decode cX12_parted 52 = .ok (.getfield 215, 3) := by decide +kernel
theorem dX12_parted_55 : decode cX12_parted 55 = .ok (.lstore 7, 2) := by decide +kernel
theorem dX12_parted_57 : decode cX12_parted 57 = .ok (.aload_n 0, 1) := by decide +kernel
theorem dX12_parted_58 : decode cX12_parted 58 = .ok (.getfield 207, 3) := by decide +kernel
theorem dX12_parted_61 : decode cX12_parted 61 = .ok (.lstore 9, 2) := by decide +kernel
theorem dX12_parted_63 : decode cX12_parted 63 = .ok (.aload_n 0, 1) := by decide +kernel
theorem dX12_parted_64 : decode cX12_parted 64 = .ok (.lload_n 2, 1) := by decide +kernel
theorem dX12_parted_65 : decode cX12_parted 65 = .ok (.lneg, 1) := by decide +kernel
theorem dX12_parted_66 : decode cX12_parted 66 = .ok (.lload 4, 2) := by decide +kernel
theorem dX12_parted_68 : decode cX12_parted 68 = .ok (.invokevirtual 218, 3) := by decide +kernel
theorem dX12_parted_71 : decode cX12_parted 71 = .ok (.aload_n 0, 1) := by decide +kernel
theorem dX12_parted_72 : decode cX12_parted 72 = .ok (.getfield 215, 3) := by decide +kernel
theorem dX12_parted_75 : decode cX12_parted 75 = .ok (.lconst 0, 1) := by decide +kernel
theorem dX12_parted_76 : decode cX12_parted 76 = .ok (.lcmp, 1) := by decide +kernel
theorem dX12_parted_77 : decode cX12_parted 77 = .ok (.ifCond .le 13, 3) := by decide +kernel
theorem dX12_parted_80 : decode cX12_parted 80 = .ok (.iload 6, 2) := by decide +kernel
theorem dX12_parted_82 : decode cX12_parted 82 = .ok (.istore_n 1, 1) := by decide +kernel
theorem dX12_parted_83 : decode cX12_parted 83 = .ok (.lload 7, 2) := by decide +kernel
theorem dX12_parted_85 : decode cX12_parted 85 = .ok (.lstore_n 2, 1) := by decide +kernel
theorem dX12_parted_86 : decode cX12_parted 86 = .ok (.lload 9, 2) := by decide +kernel
theorem dX12_parted_88 : decode cX12_parted 88 = .ok (.lstore 4, 2) := by decide +kernel
theorem dX12_parted_90 : decode cX12_parted 90 = .ok (.iinc 6 1, 3) := by decide +kernel
theorem dX12_parted_93 : decode cX12_parted 93 = .ok (.goto (-54), 3) := by decide +kernel
theorem dX12_parted_96 : decode cX12_parted 96 = .ok (.iload_n 1, 1) := by decide +kernel
theorem dX12_parted_97 : decode cX12_parted 97 = .ok (.ireturn, 1) := by decide +kernel
theorem dX12_spread_0 : decode cX12_spread 0 = .ok (.aload_n 0, 1) := by decide +kernel
theorem dX12_spread_1 : decode cX12_spread 1 = .ok (.iconst 0, 1) := by decide +kernel
theorem dX12_spread_2 : decode cX12_spread 2 = .ok (.putfield 53, 3) := by decide +kernel
theorem dX12_spread_5 : decode cX12_spread 5 = .ok (.aload_n 0, 1) := by decide +kernel
theorem dX12_spread_6 : decode cX12_spread 6 = .ok (.iload_n 1, 1) := by decide +kernel
theorem dX12_spread_7 : decode cX12_spread 7 = .ok (.invokevirtual 136, 3) := by decide +kernel
theorem dX12_spread_10 : decode cX12_spread 10 = .ok (.ifCond .ne 5, 3) := by decide +kernel
theorem dX12_spread_13 : decode cX12_spread 13 = .ok (.iconst (-1), 1) := by decide +kernel
theorem dX12_spread_14 : decode cX12_spread 14 = .ok (.ireturn, 1) := by decide +kernel
theorem dX12_spread_15 : decode cX12_spread 15 = .ok (.iconst 0, 1) := by decide +kernel
theorem dX12_spread_16 : decode cX12_spread 16 = .ok (.istore_n 2, 1) := by decide +kernel
theorem dX12_spread_17 : decode cX12_spread 17 = .ok (.iconst 0, 1) := by decide +kernel
theorem dX12_spread_18 : decode cX12_spread 18 = .ok (.istore_n 3, 1) := by decide +kernel
theorem dX12_spread_19 : decode cX12_spread 19 = .ok (.iconst 0, 1) := by decide +kernel
theorem dX12_spread_20 : decode cX12_spread 20 = .ok (.istore 4, 2) := by decide +kernel
theorem dX12_spread_22 : decode cX12_spread 22 = .ok (.iconst 0, 1) := by decide +kernel
theorem dX12_spread_23 : decode cX12_spread 23 = .ok (.istore 5, 2) := by decide +kernel
theorem dX12_spread_25 : decode cX12_spread 25 = .ok (.iload 5, 2) := by decide +kernel
theorem dX12_spread_27 : decode cX12_spread 27 = .ok (.aload_n 0, 1) := by decide +kernel
theorem dX12_spread_28 : decode cX12_spread 28 = .ok (.getfield 13, 3) := by decide +kernel
theorem dX12_spread_31 : decode cX12_spread 31 = .ok (.bipush 85, 2) := by decide +kernel
theorem dX12_spread_33 : decode cX12_spread 33 = .ok (.iaload, 1) := by decide +kernel
theorem dX12_spread_34 : decode cX12_spread 34 = .ok (.if_icmp .ge 81, 3) := by decide +kernel
theorem dX12_spread_37 : decode cX12_spread 37 = .ok (.aload_n 0, 1) := by decide +kernel
theorem dX12_spread_38 : decode cX12_spread 38 = .ok (.getfield 13, 3) := by decide +kernel
theorem dX12_spread_41 : decode cX12_spread 41 = .ok (.bipush 86, 2) := by decide +kernel
theorem dX12_spread_43 : decode cX12_spread 43 = .ok (.iconst 5, 1) := by decide +kernel
theorem dX12_spread_44 : decode cX12_spread 44 = .ok (.iload 5, 2) := by decide +kernel
theorem dX12_spread_46 : decode cX12_spread 46 = .ok (.imul, 1) := by decide +kernel
theorem dX12_spread_47 : decode cX12_spread 47 = .ok (.iadd, 1) := by decide +kernel
theorem dX12_spread_48 : decode cX12_spread 48 = .ok (.iconst 3, 1) := by decide +kernel
theorem dX12_spread_49 : decode cX12_spread 49 = .ok (.iadd, 1) := by decide +kernel
theorem dX12_spread_50 : decode cX12_spread 50 = .ok (.iaload, 1) := by decide +kernel
theorem dX12_spread_51 : decode cX12_spread 51 = .ok (.istore 6, 2) := by decide +kernel
theorem dX12_spread_53 : decode cX12_spread 53 = .ok (.aload_n 0, 1) := by decide +kernel
theorem dX12_spread_54 : decode cX12_spread 54 = .ok (.getfield 13, 3) := by decide +kernel
theorem dX12_spread_57 : decode cX12_spread 57 = .ok (.bipush 86, 2) := by decide +kernel
theorem dX12_spread_59 : decode cX12_spread 59 = .ok (.iconst 5, 1) := by decide +kernel
theorem dX12_spread_60 : decode cX12_spread 60 = .ok (.iload 5, 2) := by decide +kernel
theorem dX12_spread_62 : decode cX12_spread 62 = .ok (.imul, 1) := by decide +kernel
theorem dX12_spread_63 : decode cX12_spread 63 = .ok (.iadd, 1) := by decide +kernel
theorem dX12_spread_64 : decode cX12_spread 64 = .ok (.iaload, 1) := by decide +kernel
theorem dX12_spread_65 : decode cX12_spread 65 = .ok (.iload_n 1, 1) := by decide +kernel
theorem dX12_spread_66 : decode cX12_spread 66 = .ok (.if_icmp .ne 43, 3) := by decide +kernel
theorem dX12_spread_69 : decode cX12_spread 69 = .ok (.iload_n 2, 1) := by decide +kernel
theorem dX12_spread_70 : decode cX12_spread 70 = .ok (.ifCond .eq 9, 3) := by decide +kernel
theorem dX12_spread_73 : decode cX12_spread 73 = .ok (.iload 6, 2) := by decide +kernel
theorem dX12_spread_75 : decode cX12_spread 75 = .ok (.iload_n 3, 1) := by decide +kernel
theorem dX12_spread_76 : decode cX12_spread 76 = .ok (.if_icmp .ge 8, 3) := by decide +kernel
theorem dX12_spread_79 : decode cX12_spread 79 = .ok (.iload 6, 2) := by decide +kernel
theorem dX12_spread_81 : decode cX12_spread 81 = .ok (.goto 4, 3) := by decide +kernel
theorem dX12_spread_84 : decode cX12_spread 84 = .ok (.iload_n 3, 1) := by decide +kernel
theorem dX12_spread_85 : decode cX12_spread 85 = .ok (.istore_n 3, 1) := by decide +kernel
theorem dX12_spread_86 : decode cX12_spread 86 = .ok (.iload_n 2, 1) := by decide +kernel
theorem dX12_spread_87 : decode cX12_spread 87 = .ok (.ifCond .eq 10, 3) := by decide +kernel
theorem dX12_spread_90 : decode cX12_spread 90 = .ok (.iload 6, 2) := by decide +kernel
theorem dX12_spread_92 : decode cX12_spread 92 = .ok (.iload 4, 2) := by decide +kernel
theorem dX12_spread_94 : decode cX12_spread 94 = .ok (.if_icmp .le 8, 3) := by decide +kernel
theorem dX12_spread_97 : decode cX12_spread 97 = .ok (.iload 6, 2) := by decide +kernel
theorem dX12_spread_99 : decode cX12_spread 99 = .ok (.goto 5, 3) := by decide +kernel
theorem dX12_spread_102 : decode cX12_spread 102 = .ok (.iload 4, 2) := by decide +kernel
theorem dX12_spread_104 : decode cX12_spread 104 = .ok (.istore 4, 2) := by decide +kernel
theorem dX12_spread_106 : decode cX12_spread 106 = .ok (.iinc 2 1, 3) := by decide +kernel
theorem dX12_spread_109 : decode cX12_spread 109 = .ok (.iinc 5 1, 3) := by decide +kernel
theorem dX12_spread_112 : decode cX12_spread 112 = .ok (.goto (-87), 3) := by decide +kernel
theorem dX12_spread_115 : decode cX12_spread 115 = .ok (.iload_n 2, 1) := by decide +kernel
theorem dX12_spread_116 : decode cX12_spread 116 = .ok (.ifCond .ne 8, 3) := by decide +kernel
theorem dX12_spread_119 : decode cX12_spread 119 = .ok (.bipush (-9), 2) := by decide +kernel
theorem dX12_spread_121 : decode cX12_spread 121 = .ok (.goto 7, 3) := by decide +kernel
theorem dX12_spread_124 : decode cX12_spread 124 = .ok (.iload 4, 2) := by decide +kernel
theorem dX12_spread_126 : decode cX12_spread 126 = .ok (.iload_n 3, 1) := by decide +kernel
theorem dX12_spread_127 : decode cX12_spread 127 = .ok (.isub, 1) := by decide +kernel
theorem dX12_spread_128 : decode cX12_spread 128 = .ok (.ireturn, 1) := by decide +kernel
theorem dX12_out_0 : decode cX12_out 0 = .ok (.aload_n 0, 1) := by decide +kernel
theorem dX12_out_1 : decode cX12_out 1 = .ok (.iconst 0, 1) := by decide +kernel
theorem dX12_out_2 : decode cX12_out 2 = .ok (.putfield 53, 3) := by decide +kernel
theorem dX12_out_5 : decode cX12_out 5 = .ok (.aload_n 0, 1) := by decide +kernel
theorem dX12_out_6 : decode cX12_out 6 = .ok (.iload_n 1, 1) := by decide +kernel
theorem dX12_out_7 : decode cX12_out 7 = .ok (.invokevirtual 136, 3) := by decide +kernel
theorem dX12_out_10 : decode cX12_out 10 = .ok (.ifCond .eq 13, 3) := by decide +kernel
theorem dX12_out_13 : decode cX12_out 13 = .ok (.iload_n 2, 1) := by decide +kernel
theorem dX12_out_14 : decode cX12_out 14 = .ok (.iconst 0, 1) := by decide +kernel
theorem dX12_out_15 : decode cX12_out 15 = .ok (.bipush 99, 2) := by decide +kernel
theorem dX12_out_17 : decode cX12_out 17 = .ok (.invokestatic 57, 3) := by decide +kernel
theorem dX12_out_20 : decode cX12_out 20 = .ok (.ifCond .ne 5, 3) := by decide +kernel
theorem dX12_out_23 : decode cX12_out 23 = .ok (.iconst (-1), 1) := by decide +kernel
theorem dX12_out_24 : decode cX12_out 24 = .ok (.ireturn, 1) := by decide +kernel
theorem dX12_out_25 : decode cX12_out 25 = .ok (.iconst 0, 1) := by decide +kernel
theorem dX12_out_26 : decode cX12_out 26 = .ok (.istore_n 3, 1) := by decide +kernel
theorem dX12_out_27 : decode cX12_out 27 = .ok (.iconst 0, 1) := by decide +kernel
theorem dX12_out_28 : decode cX12_out 28 = .ok (.istore 4, 2) := by decide +kernel
theorem dX12_out_30 : decode cX12_out 30 = .ok (.iconst 0, 1) := by decide +kernel
theorem dX12_out_31 : decode cX12_out 31 = .ok (.istore 5, 2) := by decide +kernel
theorem dX12_out_33 : decode cX12_out 33 = .ok (.iconst 0, 1) := by decide +kernel
theorem dX12_out_34 : decode cX12_out 34 = .ok (.istore 6, 2) := by decide +kernel
theorem dX12_out_36 : decode cX12_out 36 = .ok (.iconst 0, 1) := by decide +kernel
theorem dX12_out_37 : decode cX12_out 37 = .ok (.istore 7, 2) := by decide +kernel
theorem dX12_out_39 : decode cX12_out 39 = .ok (.iload 7, 2) := by decide +kernel
theorem dX12_out_41 : decode cX12_out 41 = .ok (.aload_n 0, 1) := by decide +kernel
theorem dX12_out_42 : decode cX12_out 42 = .ok (.getfield 13, 3) := by decide +kernel
theorem dX12_out_45 : decode cX12_out 45 = .ok (.bipush 85, 2) := by decide +kernel
theorem dX12_out_47 : decode cX12_out 47 = .ok (.iaload, 1) := by decide +kernel
theorem dX12_out_48 : decode cX12_out 48 = .ok (.if_icmp .ge 116, 3) := by decide +kernel
theorem dX12_out_51 : decode cX12_out 51 = .ok (.aload_n 0, 1) := by decide +kernel
theorem dX12_out_52 : decode cX12_out 52 = .ok (.getfield 13, 3) := by decide +kernel
theorem dX12_out_55 : decode cX12_out 55 = .ok (.bipush 86, 2) := by decide +kernel
theorem dX12_out_57 : decode cX12_out 57 = .ok (.iconst 5, 1) := by decide +kernel
theorem dX12_out_58 : decode cX12_out 58 = .ok (.iload 7, 2) := by decide +kernel
theorem dX12_out_60 : decode cX12_out 60 = .ok (.imul, 1) := by decide +kernel
theorem dX12_out_61 : decode cX12_out 61 = .ok (.iadd, 1) := by decide +kernel
theorem dX12_out_62 : decode cX12_out 62 = .ok (.iaload, 1) := by decide +kernel
theorem dX12_out_63 : decode cX12_out 63 = .ok (.iload_n 1, 1) := by decide +kernel
theorem dX12_out_64 : decode cX12_out 64 = .ok (.if_icmp .ne 7, 3) := by decide +kernel
theorem dX12_out_67 : decode cX12_out 67 = .ok (.iconst 1, 1) := by decide +kernel
theorem dX12_out_68 : decode cX12_out 68 = .ok (.goto 4, 3) := by decide +kernel
theorem dX12_out_71 : decode cX12_out 71 = .ok (.iconst 0, 1) := by decide +kernel
theorem dX12_out_72 : decode cX12_out 72 = .ok (.istore 8, 2) := by decide +kernel
theorem dX12_out_74 : decode cX12_out 74 = .ok (.iload_n 3, 1) := by decide +kernel
theorem dX12_out_75 : decode cX12_out 75 = .ok (.iload 8, 2) := by decide +kernel
theorem dX12_out_77 : decode cX12_out 77 = .ok (.ifCond .eq 20, 3) := by decide +kernel
theorem dX12_out_80 : decode cX12_out 80 = .ok (.aload_n 0, 1) := by decide +kernel
theorem dX12_out_81 : decode cX12_out 81 = .ok (.getfield 13, 3) := by decide +kernel
theorem dX12_out_84 : decode cX12_out 84 = .ok (.bipush 86, 2) := by decide +kernel
theorem dX12_out_86 : decode cX12_out 86 = .ok (.iconst 5, 1) := by decide +kernel
theorem dX12_out_87 : decode cX12_out 87 = .ok (.iload 7, 2) := by decide +kernel
theorem dX12_out_89 : decode cX12_out 89 = .ok (.imul, 1) := by decide +kernel
theorem dX12_out_90 : decode cX12_out 90 = .ok (.iadd, 1) := by decide +kernel
theorem dX12_out_91 : decode cX12_out 91 = .ok (.iconst 3, 1) := by decide +kernel
theorem dX12_out_92 : decode cX12_out 92 = .ok (.iadd, 1) := by decide +kernel
theorem dX12_out_93 : decode cX12_out 93 = .ok (.iaload, 1) := by decide +kernel
theorem dX12_out_94 : decode cX12_out 94 = .ok (.goto 4, 3) := by decide +kernel
theorem dX12_out_97 : decode cX12_out 97 = .ok (.iconst 0, 1) := by decide +kernel
theorem dX12_out_98 : decode cX12_out 98 = .ok (.iadd, 1) := by decide +kernel
theorem dX12_out_99 : decode cX12_out 99 = .ok (.istore_n 3, 1) := by decide +kernel
theorem dX12_out_100 : decode cX12_out 100 = .ok (.iload 4, 2) := by decide +kernel
theorem dX12_out_102 : decode cX12_out 102 = .ok (.iload 8, 2) := by decide +kernel
theorem dX12_out_104 : decode cX12_out 104 = .ok (.ifCond .eq 7, 3) := by decide +kernel
theorem dX12_out_107 : decode cX12_out 107 = .ok (.iconst 1, 1) := by decide +kernel
theorem dX12_out_108 : decode cX12_out 108 = .ok (.goto 4, 3) := by decide +kernel
theorem dX12_out_111 : decode cX12_out 111 = .ok (.iconst 0, 1) := by decide +kernel
theorem dX12_out_112 : decode cX12_out 112 = .ok (.iadd, 1) := by decide +kernel
theorem dX12_out_113 : decode cX12_out 113 = .ok (.istore 4, 2) := by decide +kernel
theorem dX12_out_115 : decode cX12_out 115 = .ok (.iload 5, 2) := by decide +kernel
theorem dX12_out_117 : decode cX12_out 117 = .ok (.iload 8, 2) := by decide +kernel
theorem dX12_out_119 : decode cX12_out 119 = .ok (.ifCond .eq 7, 3) := by decide +kernel
theorem dX12_out_122 : decode cX12_out 122 = .ok (.iconst 0, 1) := by decide +kernel
theorem dX12_out_123 : decode cX12_out 123 = .ok (.goto 17, 3) := by decide +kernel
theorem dX12_out_126 : decode cX12_out 126 = .ok (.aload_n 0, 1) := by decide +kernel
theorem dX12_out_127 : decode cX12_out 127 = .ok (.getfield 13, 3) := by decide +kernel
theorem dX12_out_130 : decode cX12_out 130 = .ok (.bipush 86, 2) := by decide +kernel
theorem dX12_out_132 : decode cX12_out 132 = .ok (.iconst 5, 1) := by decide +kernel
theorem dX12_out_133 : decode cX12_out 133 = .ok (.iload 7, 2) := by decide +kernel
theorem dX12_out_135 : decode cX12_out 135 = .ok (.imul, 1) := by decide +kernel
theorem dX12_out_136 : decode cX12_out 136 = .ok (.iadd, 1) := by decide +kernel
theorem dX12_out_137 : decode cX12_out 137 = .ok (.iconst 3, 1) := by decide +kernel
theorem dX12_out_138 : decode cX12_out 138 = .ok (.iadd, 1) := by decide +kernel
theorem dX12_out_139 : decode cX12_out 139 = .ok (.iaload, 1) := by decide +kernel
theorem dX12_out_140 : decode cX12_out 140 = .ok (.iadd, 1) := by decide +kernel
theorem dX12_out_141 : decode cX12_out 141 = .ok (.istore 5, 2) := by decide +kernel
theorem dX12_out_143 : decode cX12_out 143 = .ok (.iload 6, 2) := by decide +kernel
theorem dX12_out_145 : decode cX12_out 145 = .ok (.iload 8, 2) := by decide +kernel
theorem dX12_out_147 : decode cX12_out 147 = .ok (.ifCond .eq 7, 3) := by decide +kernel
theorem dX12_out_150 : decode cX12_out 150 = .ok (.iconst 0, 1) := by decide +kernel
theorem dX12_out_151 : decode cX12_out 151 = .ok (.goto 4, 3) := by decide +kernel
theorem dX12_out_154 : decode cX12_out 154 = .ok (.iconst 1, 1) := by decide +kernel
theorem dX12_out_155 : decode cX12_out 155 = .ok (.iadd, 1) := by decide +kernel
theorem dX12_out_156 : decode cX12_out 156 = .ok (.istore 6, 2) := by decide +kernel
theorem dX12_out_158 : decode cX12_out 158 = .ok (.iinc 7 1, 3) := by decide +kernel
theorem dX12_out_161 : decode cX12_out 161 = .ok (.goto (-122), 3) := by decide +kernel
theorem dX12_out_164 : decode cX12_out 164 = .ok (.iload 4, 2) := by decide +kernel
theorem dX12_out_166 : decode cX12_out 166 = .ok (.ifCond .eq 8, 3) := by decide +kernel
theorem dX12_out_169 : decode cX12_out 169 = .ok (.iload 6, 2) := by decide +kernel
theorem dX12_out_171 : decode cX12_out 171 = .ok (.ifCond .ne 6, 3) := by decide +kernel
theorem dX12_out_174 : decode cX12_out 174 = .ok (.bipush (-2), 2) := by decide +kernel
theorem dX12_out_176 : decode cX12_out 176 = .ok (.ireturn, 1) := by decide +kernel
theorem dX12_out_177 : decode cX12_out 177 = .ok (.iload_n 3, 1) := by decide +kernel
theorem dX12_out_178 : decode cX12_out 178 = .ok (.iload 6, 2) := by decide +kernel
theorem dX12_out_180 : decode cX12_out 180 = .ok (.imul, 1) := by decide +kernel
theorem dX12_out_181 : decode cX12_out 181 = .ok (.iload 5, 2) := by decide +kernel
theorem dX12_out_183 : decode cX12_out 183 = .ok (.iload 4, 2) := by decide +kernel
theorem dX12_out_185 : decode cX12_out 185 = .ok (.imul, 1) := by decide +kernel
theorem dX12_out_186 : decode cX12_out 186 = .ok (.isub, 1) := by decide +kernel
theorem dX12_out_187 : decode cX12_out 187 = .ok (.invokestatic 165, 3) := by decide +kernel
theorem dX12_out_190 : decode cX12_out 190 = .ok (.istore 7, 2) := by decide +kernel
theorem dX12_out_192 : decode cX12_out 192 = .ok (.iload 4, 2) := by decide +kernel
theorem dX12_out_194 : decode cX12_out 194 = .ok (.iconst 2, 1) := by decide +kernel
theorem dX12_out_195 : decode cX12_out 195 = .ok (.if_icmp .le 19, 3) := by decide +kernel
theorem dX12_out_198 : decode cX12_out 198 = .ok (.iload 7, 2) := by decide +kernel
theorem dX12_out_200 : decode cX12_out 200 = .ok (.iload_n 2, 1) := by decide +kernel
theorem dX12_out_201 : decode cX12_out 201 = .ok (.iload 4, 2) := by decide +kernel
theorem dX12_out_203 : decode cX12_out 203 = .ok (.imul, 1) := by decide +kernel
theorem dX12_out_204 : decode cX12_out 204 = .ok (.iload 6, 2) := by decide +kernel
theorem dX12_out_206 : decode cX12_out 206 = .ok (.imul, 1) := by decide +kernel
theorem dX12_out_207 : decode cX12_out 207 = .ok (.if_icmp .le 7, 3) := by decide +kernel
theorem dX12_out_210 : decode cX12_out 210 = .ok (.iconst 1, 1) := by decide +kernel
theorem dX12_out_211 : decode cX12_out 211 = .ok (.goto 4, 3) := by decide +kernel
theorem dX12_out_214 : decode cX12_out 214 = .ok (.iconst 0, 1) := by decide +kernel
theorem dX12_out_215 : decode cX12_out 215 = .ok (.ireturn, 1) := by decide +kernel
theorem dX12_lot_0 : decode cX12_lot 0 = .ok (.aload_n 0, 1) := by decide +kernel
theorem dX12_lot_1 : decode cX12_lot 1 = .ok (.iconst 0, 1) := by decide +kernel
theorem dX12_lot_2 : decode cX12_lot 2 = .ok (.putfield 53, 3) := by decide +kernel
theorem dX12_lot_5 : decode cX12_lot 5 = .ok (.aload_n 0, 1) := by decide +kernel
theorem dX12_lot_6 : decode cX12_lot 6 = .ok (.getfield 13, 3) := by decide +kernel
theorem dX12_lot_9 : decode cX12_lot 9 = .ok (.bipush 84, 2) := by decide +kernel
theorem dX12_lot_11 : decode cX12_lot 11 = .ok (.iaload, 1) := by decide +kernel
theorem dX12_lot_12 : decode cX12_lot 12 = .ok (.istore_n 2, 1) := by decide +kernel
theorem dX12_lot_13 : decode cX12_lot 13 = .ok (.aload_n 0, 1) := by decide +kernel
theorem dX12_lot_14 : decode cX12_lot 14 = .ok (.getfield 13, 3) := by decide +kernel
theorem dX12_lot_17 : decode cX12_lot 17 = .ok (.bipush 84, 2) := by decide +kernel
theorem dX12_lot_19 : decode cX12_lot 19 = .ok (.iload_n 1, 1) := by decide +kernel
theorem dX12_lot_20 : decode cX12_lot 20 = .ok (.iastore, 1) := by decide +kernel
theorem dX12_lot_21 : decode cX12_lot 21 = .ok (.iload_n 2, 1) := by decide +kernel
theorem dX12_lot_22 : decode cX12_lot 22 = .ok (.ireturn, 1) := by decide +kernel
theorem dX12_rate_0 : decode cX12_rate 0 = .ok (.aload_n 0, 1) := by decide +kernel
theorem dX12_rate_1 : decode cX12_rate 1 = .ok (.iconst 0, 1) := by decide +kernel
theorem dX12_rate_2 : decode cX12_rate 2 = .ok (.putfield 53, 3) := by decide +kernel
theorem dX12_rate_5 : decode cX12_rate 5 = .ok (.iload_n 1, 1) := by decide +kernel
theorem dX12_rate_6 : decode cX12_rate 6 = .ok (.iconst 0, 1) := by decide +kernel
theorem dX12_rate_7 : decode cX12_rate 7 = .ok (.iconst 5, 1) := by decide +kernel
theorem dX12_rate_8 : decode cX12_rate 8 = .ok (.invokestatic 57, 3) := by decide +kernel
theorem dX12_rate_11 : decode cX12_rate 11 = .ok (.ifCond .eq 18, 3) := by decide +kernel
theorem dX12_rate_14 : decode cX12_rate 14 = .ok (.aload_n 0, 1) := by decide +kernel
theorem dX12_rate_15 : decode cX12_rate 15 = .ok (.iload_n 2, 1) := by decide +kernel
theorem dX12_rate_16 : decode cX12_rate 16 = .ok (.invokevirtual 136, 3) := by decide +kernel
theorem dX12_rate_19 : decode cX12_rate 19 = .ok (.ifCond .eq 10, 3) := by decide +kernel
theorem dX12_rate_22 : decode cX12_rate 22 = .ok (.aload_n 0, 1) := by decide +kernel
theorem dX12_rate_23 : decode cX12_rate 23 = .ok (.getfield 130, 3) := by decide +kernel
theorem dX12_rate_26 : decode cX12_rate 26 = .ok (.ifCond .ne 6, 3) := by decide +kernel
theorem dX12_rate_29 : decode cX12_rate 29 = .ok (.ldc 143, 2) := by decide +kernel
theorem dX12_rate_31 : decode cX12_rate 31 = .ok (.ireturn, 1) := by decide +kernel
theorem dX12_rate_32 : decode cX12_rate 32 = .ok (.aload_n 0, 1) := by decide +kernel
theorem dX12_rate_33 : decode cX12_rate 33 = .ok (.iload_n 2, 1) := by decide +kernel
theorem dX12_rate_34 : decode cX12_rate 34 = .ok (.iconst 0, 1) := by decide +kernel
theorem dX12_rate_35 : decode cX12_rate 35 = .ok (.invokevirtual 189, 3) := by decide +kernel
theorem dX12_rate_38 : decode cX12_rate 38 = .ok (.aload_n 0, 1) := by decide +kernel
theorem dX12_rate_39 : decode cX12_rate 39 = .ok (.getfield 171, 3) := by decide +kernel
theorem dX12_rate_42 : decode cX12_rate 42 = .ok (.aload_n 0, 1) := by decide +kernel
theorem dX12_rate_43 : decode cX12_rate 43 = .ok (.getfield 41, 3) := by decide +kernel
theorem dX12_rate_46 : decode cX12_rate 46 = .ok (.iconst 1, 1) := by decide +kernel
theorem dX12_rate_47 : decode cX12_rate 47 = .ok (.iaload, 1) := by decide +kernel
theorem dX12_rate_48 : decode cX12_rate 48 = .ok (.iadd, 1) := by decide +kernel
theorem dX12_rate_49 : decode cX12_rate 49 = .ok (.istore_n 3, 1) := by decide +kernel
theorem dX12_rate_50 : decode cX12_rate 50 = .ok (.aload_n 0, 1) := by decide +kernel
theorem dX12_rate_51 : decode cX12_rate 51 = .ok (.getfield 171, 3) := by decide +kernel
theorem dX12_rate_54 : decode cX12_rate 54 = .ok (.aload_n 0, 1) := by decide +kernel
theorem dX12_rate_55 : decode cX12_rate 55 = .ok (.getfield 186, 3) := by decide +kernel
theorem dX12_rate_58 : decode cX12_rate 58 = .ok (.isub, 1) := by decide +kernel
theorem dX12_rate_59 : decode cX12_rate 59 = .ok (.istore 4, 2) := by decide +kernel
theorem dX12_rate_61 : decode cX12_rate 61 = .ok (.aload_n 0, 1) := by decide +kernel
theorem dX12_rate_62 : decode cX12_rate 62 = .ok (.dup, 1) := by decide +kernel
theorem dX12_rate_63 : decode cX12_rate 63 = .ok (.getfield 225, 3) := by decide +kernel
theorem dX12_rate_66 : decode cX12_rate 66 = .ok (.iload_n 1, 1) := by decide +kernel
theorem dX12_rate_67 : decode cX12_rate 67 = .ok (.ifCond .ne 7, 3) := by decide +kernel
theorem dX12_rate_70 : decode cX12_rate 70 = .ok (.lconst 1, 1) := by decide +kernel
theorem dX12_rate_71 : decode cX12_rate 71 = .ok (.goto 50, 3) := by decide +kernel
theorem dX12_rate_74 : decode cX12_rate 74 = .ok (.iload_n 1, 1) := by decide +kernel
theorem dX12_rate_75 : decode cX12_rate 75 = .ok (.iconst 1, 1) := by decide +kernel
theorem dX12_rate_76 : decode cX12_rate 76 = .ok (.if_icmp .ne 9, 3) := by decide +kernel
theorem dX12_rate_79 : decode cX12_rate 79 = .ok (.ldc2_w 228, 3) := by decide +kernel
theorem dX12_rate_82 : decode cX12_rate 82 = .ok (.goto 39, 3) := by decide +kernel
theorem dX12_rate_85 : decode cX12_rate 85 = .ok (.iload_n 1, 1) := by decide +kernel
theorem dX12_rate_86 : decode cX12_rate 86 = .ok (.iconst 2, 1) := by decide +kernel
theorem dX12_rate_87 : decode cX12_rate 87 = .ok (.if_icmp .ne 9, 3) := by decide +kernel
theorem dX12_rate_90 : decode cX12_rate 90 = .ok (.ldc2_w 230, 3) := by decide +kernel
theorem dX12_rate_93 : decode cX12_rate 93 = .ok (.goto 28, 3) := by decide +kernel
theorem dX12_rate_96 : decode cX12_rate 96 = .ok (.iload_n 1, 1) := by decide +kernel
theorem dX12_rate_97 : decode cX12_rate 97 = .ok (.iconst 3, 1) := by decide +kernel
theorem dX12_rate_98 : decode cX12_rate 98 = .ok (.if_icmp .ne 9, 3) := by decide +kernel
theorem dX12_rate_101 : decode cX12_rate 101 = .ok (.ldc2_w 232, 3) := by decide +kernel
theorem dX12_rate_104 : decode cX12_rate 104 = .ok (.goto 17, 3) := by decide +kernel
theorem dX12_rate_107 : decode cX12_rate 107 = .ok (.iload_n 1, 1) := by decide +kernel
theorem dX12_rate_108 : decode cX12_rate 108 = .ok (.iconst 4, 1) := by decide +kernel
theorem dX12_rate_109 : decode cX12_rate 109 = .ok (.if_icmp .ne 9, 3) := by decide +kernel
theorem dX12_rate_112 : decode cX12_rate 112 = .ok (.ldc2_w 234, 3) := by decide +kernel
theorem dX12_rate_115 : decode cX12_rate 115 = .ok (.goto 6, 3) := by decide +kernel
theorem dX12_rate_118 : decode cX12_rate 118 = .ok (.ldc2_w 236, 3) := by decide +kernel
theorem dX12_rate_121 : decode cX12_rate 121 = .ok (.ladd, 1) := by decide +kernel
theorem dX12_rate_122 : decode cX12_rate 122 = .ok (.putfield 225, 3) := by decide +kernel
theorem dX12_rate_125 : decode cX12_rate 125 = .ok (.iload_n 1, 1) := by decide +kernel
theorem dX12_rate_126 : decode cX12_rate 126 = .ok (.ifCond .ne 10, 3) := by decide +kernel
theorem dX12_rate_129 : decode cX12_rate 129 = .ok (.aload_n 0, 1) := by decide +kernel
theorem dX12_rate_130 : decode cX12_rate 130 = .ok (.getfield 171, 3) := by decide +kernel
theorem dX12_rate_133 : decode cX12_rate 133 = .ok (.goto 61, 3) := by decide +kernel
theorem dX12_rate_136 : decode cX12_rate 136 = .ok (.iload_n 1, 1) := by decide +kernel
theorem dX12_rate_137 : decode cX12_rate 137 = .ok (.iconst 1, 1) := by decide +kernel
theorem dX12_rate_138 : decode cX12_rate 138 = .ok (.if_icmp .ne 7, 3) := by decide +kernel
theorem dX12_rate_141 : decode cX12_rate 141 = .ok (.iload_n 3, 1) := by decide +kernel
theorem dX12_rate_142 : decode cX12_rate 142 = .ok (.goto 52, 3) := by decide +kernel
theorem dX12_rate_145 : decode cX12_rate 145 = .ok (.iload_n 1, 1) := by decide +kernel
theorem dX12_rate_146 : decode cX12_rate 146 = .ok (.iconst 2, 1) := by decide +kernel
theorem dX12_rate_147 : decode cX12_rate 147 = .ok (.if_icmp .ne 8, 3) := by decide +kernel
theorem dX12_rate_150 : decode cX12_rate 150 = .ok (.iload 4, 2) := by decide +kernel
theorem dX12_rate_152 : decode cX12_rate 152 = .ok (.goto 42, 3) := by decide +kernel
theorem dX12_rate_155 : decode cX12_rate 155 = .ok (.iload_n 1, 1) := by decide +kernel
theorem dX12_rate_156 : decode cX12_rate 156 = .ok (.iconst 3, 1) := by decide +kernel
theorem dX12_rate_157 : decode cX12_rate 157 = .ok (.if_icmp .ne 14, 3) := by decide +kernel
theorem dX12_rate_160 : decode cX12_rate 160 = .ok (.iload_n 3, 1) := by decide +kernel
theorem dX12_rate_161 : decode cX12_rate 161 = .ok (.aload_n 0, 1) := by decide +kernel
theorem dX12_rate_162 : decode cX12_rate 162 = .ok (.getfield 38, 3) := by decide +kernel
theorem dX12_rate_165 : decode cX12_rate 165 = .ok (.iconst 3, 1) := by decide +kernel
theorem dX12_rate_166 : decode cX12_rate 166 = .ok (.iaload, 1) := by decide +kernel
theorem dX12_rate_167 : decode cX12_rate 167 = .ok (.iadd, 1) := by decide +kernel
theorem dX12_rate_168 : decode cX12_rate 168 = .ok (.goto 26, 3) := by decide +kernel
theorem dX12_rate_171 : decode cX12_rate 171 = .ok (.iload_n 1, 1) := by decide +kernel
theorem dX12_rate_172 : decode cX12_rate 172 = .ok (.iconst 4, 1) := by decide +kernel
theorem dX12_rate_173 : decode cX12_rate 173 = .ok (.if_icmp .ne 10, 3) := by decide +kernel
theorem dX12_rate_176 : decode cX12_rate 176 = .ok (.iconst 2, 1) := by decide +kernel
theorem dX12_rate_177 : decode cX12_rate 177 = .ok (.iload 4, 2) := by decide +kernel
theorem dX12_rate_179 : decode cX12_rate 179 = .ok (.imul, 1) := by decide +kernel
theorem dX12_rate_180 : decode cX12_rate 180 = .ok (.goto 14, 3) := by decide +kernel
theorem dX12_rate_183 : decode cX12_rate 183 = .ok (.aload_n 0, 1) := by decide +kernel
theorem dX12_rate_184 : decode cX12_rate 184 = .ok (.getfield 171, 3) := by decide +kernel
theorem dX12_rate_187 : decode cX12_rate 187 = .ok (.aload_n 0, 1) := by decide +kernel
theorem dX12_rate_188 : decode cX12_rate 188 = .ok (.getfield 41, 3) := by decide +kernel
theorem dX12_rate_191 : decode cX12_rate 191 = .ok (.iconst 4, 1) := by decide +kernel
theorem dX12_rate_192 : decode cX12_rate 192 = .ok (.iaload, 1) := by decide +kernel
theorem dX12_rate_193 : decode cX12_rate 193 = .ok (.iadd, 1) := by decide +kernel
theorem dX12_rate_194 : decode cX12_rate 194 = .ok (.ireturn, 1) := by decide +kernel
theorem dX12_keep_0 : decode cX12_keep 0 = .ok (.aload_n 0, 1) := by decide +kernel
theorem dX12_keep_1 : decode cX12_keep 1 = .ok (.iconst 0, 1) := by decide +kernel
theorem dX12_keep_2 : decode cX12_keep 2 = .ok (.putfield 53, 3) := by decide +kernel
theorem dX12_keep_5 : decode cX12_keep 5 = .ok (.iload_n 1, 1) := by decide +kernel
theorem dX12_keep_6 : decode cX12_keep 6 = .ok (.iconst 0, 1) := by decide +kernel
theorem dX12_keep_7 : decode cX12_keep 7 = .ok (.iconst 1, 1) := by decide +kernel
theorem dX12_keep_8 : decode cX12_keep 8 = .ok (.invokestatic 57, 3) := by decide +kernel
theorem dX12_keep_11 : decode cX12_keep 11 = .ok (.ifCond .ne 5, 3) := by decide +kernel
theorem dX12_keep_14 : decode cX12_keep 14 = .ok (.iconst (-1), 1) := by decide +kernel
theorem dX12_keep_15 : decode cX12_keep 15 = .ok (.ireturn, 1) := by decide +kernel
theorem dX12_keep_16 : decode cX12_keep 16 = .ok (.iconst 0, 1) := by decide +kernel
theorem dX12_keep_17 : decode cX12_keep 17 = .ok (.istore_n 2, 1) := by decide +kernel
theorem dX12_keep_18 : decode cX12_keep 18 = .ok (.iload_n 2, 1) := by decide +kernel
theorem dX12_keep_19 : decode cX12_keep 19 = .ok (.sipush 386, 3) := by decide +kernel
theorem dX12_keep_22 : decode cX12_keep 22 = .ok (.if_icmp .ge 27, 3) := by decide +kernel
theorem dX12_keep_25 : decode cX12_keep 25 = .ok (.aload_n 0, 1) := by decide +kernel
theorem dX12_keep_26 : decode cX12_keep 26 = .ok (.getfield 16, 3) := by decide +kernel
theorem dX12_keep_29 : decode cX12_keep 29 = .ok (.sipush 386, 3) := by decide +kernel
theorem dX12_keep_32 : decode cX12_keep 32 = .ok (.iload_n 1, 1) := by decide +kernel
theorem dX12_keep_33 : decode cX12_keep 33 = .ok (.imul, 1) := by decide +kernel
theorem dX12_keep_34 : decode cX12_keep 34 = .ok (.iload_n 2, 1) := by decide +kernel
theorem dX12_keep_35 : decode cX12_keep 35 = .ok (.iadd, 1) := by decide +kernel
theorem dX12_keep_36 : decode cX12_keep 36 = .ok (.aload_n 0, 1) := by decide +kernel
theorem dX12_keep_37 : decode cX12_keep 37 = .ok (.getfield 13, 3) := by decide +kernel
theorem dX12_keep_40 : decode cX12_keep 40 = .ok (.iload_n 2, 1) := by decide +kernel
theorem dX12_keep_41 : decode cX12_keep 41 = .ok (.iaload, 1) := by decide +kernel
theorem dX12_keep_42 : decode cX12_keep 42 = .ok (.iastore, 1) := by decide +kernel
theorem dX12_keep_43 : decode cX12_keep 43 = .ok (.iinc 2 1, 3) := by decide +kernel
theorem dX12_keep_46 : decode cX12_keep 46 = .ok (.goto (-28), 3) := by decide +kernel
theorem dX12_keep_49 : decode cX12_keep 49 = .ok (.aload_n 0, 1) := by decide +kernel
theorem dX12_keep_50 : decode cX12_keep 50 = .ok (.getfield 19, 3) := by decide +kernel
theorem dX12_keep_53 : decode cX12_keep 53 = .ok (.iload_n 1, 1) := by decide +kernel
theorem dX12_keep_54 : decode cX12_keep 54 = .ok (.iconst 1, 1) := by decide +kernel
theorem dX12_keep_55 : decode cX12_keep 55 = .ok (.bastore, 1) := by decide +kernel
theorem dX12_keep_56 : decode cX12_keep 56 = .ok (.aload_n 0, 1) := by decide +kernel
theorem dX12_keep_57 : decode cX12_keep 57 = .ok (.getfield 13, 3) := by decide +kernel
theorem dX12_keep_60 : decode cX12_keep 60 = .ok (.bipush 85, 2) := by decide +kernel
theorem dX12_keep_62 : decode cX12_keep 62 = .ok (.iaload, 1) := by decide +kernel
theorem dX12_keep_63 : decode cX12_keep 63 = .ok (.ireturn, 1) := by decide +kernel
theorem dX12_back_0 : decode cX12_back 0 = .ok (.aload_n 0, 1) := by decide +kernel
theorem dX12_back_1 : decode cX12_back 1 = .ok (.iconst 0, 1) := by decide +kernel
theorem dX12_back_2 : decode cX12_back 2 = .ok (.putfield 53, 3) := by decide +kernel
theorem dX12_back_5 : decode cX12_back 5 = .ok (.iload_n 1, 1) := by decide +kernel
theorem dX12_back_6 : decode cX12_back 6 = .ok (.iconst 0, 1) := by decide +kernel
theorem dX12_back_7 : decode cX12_back 7 = .ok (.iconst 1, 1) := by decide +kernel
theorem dX12_back_8 : decode cX12_back 8 = .ok (.invokestatic 57, 3) := by decide +kernel
theorem dX12_back_11 : decode cX12_back 11 = .ok (.ifCond .ne 5, 3) := by decide +kernel
theorem dX12_back_14 : decode cX12_back 14 = .ok (.iconst (-1), 1) := by decide +kernel
theorem dX12_back_15 : decode cX12_back 15 = .ok (.ireturn, 1) := by decide +kernel
theorem dX12_back_16 : decode cX12_back 16 = .ok (.aload_n 0, 1) := by decide +kernel
theorem dX12_back_17 : decode cX12_back 17 = .ok (.getfield 19, 3) := by decide +kernel
theorem dX12_back_20 : decode cX12_back 20 = .ok (.iload_n 1, 1) := by decide +kernel
theorem dX12_back_21 : decode cX12_back 21 = .ok (.baload, 1) := by decide +kernel
theorem dX12_back_22 : decode cX12_back 22 = .ok (.ifCond .ne 6, 3) := by decide +kernel
theorem dX12_back_25 : decode cX12_back 25 = .ok (.bipush (-2), 2) := by decide +kernel
theorem dX12_back_27 : decode cX12_back 27 = .ok (.ireturn, 1) := by decide +kernel
theorem dX12_back_28 : decode cX12_back 28 = .ok (.iconst 0, 1) := by decide +kernel
theorem dX12_back_29 : decode cX12_back 29 = .ok (.istore_n 2, 1) := by decide +kernel
theorem dX12_back_30 : decode cX12_back 30 = .ok (.iload_n 2, 1) := by decide +kernel
theorem dX12_back_31 : decode cX12_back 31 = .ok (.sipush 386, 3) := by decide +kernel
theorem dX12_back_34 : decode cX12_back 34 = .ok (.if_icmp .ge 27, 3) := by decide +kernel
theorem dX12_back_37 : decode cX12_back 37 = .ok (.aload_n 0, 1) := by decide +kernel
theorem dX12_back_38 : decode cX12_back 38 = .ok (.getfield 13, 3) := by decide +kernel
theorem dX12_back_41 : decode cX12_back 41 = .ok (.iload_n 2, 1) := by decide +kernel
theorem dX12_back_42 : decode cX12_back 42 = .ok (.aload_n 0, 1) := by decide +kernel
theorem dX12_back_43 : decode cX12_back 43 = .ok (.getfield 16, 3) := by decide +kernel
theorem dX12_back_46 : decode cX12_back 46 = .ok (.sipush 386, 3) := by decide +kernel
theorem dX12_back_49 : decode cX12_back 49 = .ok (.iload_n 1, 1) := by decide +kernel
theorem dX12_back_50 : decode cX12_back 50 = .ok (.imul, 1) := by decide +kernel
theorem dX12_back_51 : decode cX12_back 51 = .ok (.iload_n 2, 1) := by decide +kernel
theorem dX12_back_52 : decode cX12_back 52 = .ok (.iadd, 1) := by decide +kernel
theorem dX12_back_53 : decode cX12_back 53 = .ok (.iaload, 1) := by decide +kernel
theorem dX12_back_54 : decode cX12_back 54 = .ok (.iastore, 1) := by decide +kernel
theorem dX12_back_55 : decode cX12_back 55 = .ok (.iinc 2 1, 3) := by decide +kernel
theorem dX12_back_58 : decode cX12_back 58 = .ok (.goto (-28), 3) := by decide +kernel
theorem dX12_back_61 : decode cX12_back 61 = .ok (.aload_n 0, 1) := by decide +kernel
theorem dX12_back_62 : decode cX12_back 62 = .ok (.getfield 13, 3) := by decide +kernel
theorem dX12_back_65 : decode cX12_back 65 = .ok (.bipush 85, 2) := by decide +kernel
theorem dX12_back_67 : decode cX12_back 67 = .ok (.iaload, 1) := by decide +kernel
theorem dX12_back_68 : decode cX12_back 68 = .ok (.ireturn, 1) := by decide +kernel
theorem dX12_count_0 : decode cX12_count 0 = .ok (.aload_n 0, 1) := by decide +kernel
theorem dX12_count_1 : decode cX12_count 1 = .ok (.iconst 0, 1) := by decide +kernel
theorem dX12_count_2 : decode cX12_count 2 = .ok (.putfield 53, 3) := by decide +kernel
theorem dX12_count_5 : decode cX12_count 5 = .ok (.iload_n 1, 1) := by decide +kernel
theorem dX12_count_6 : decode cX12_count 6 = .ok (.ifCond .ne 10, 3) := by decide +kernel
theorem dX12_count_9 : decode cX12_count 9 = .ok (.aload_n 0, 1) := by decide +kernel
theorem dX12_count_10 : decode cX12_count 10 = .ok (.getfield 127, 3) := by decide +kernel
theorem dX12_count_13 : decode cX12_count 13 = .ok (.goto 55, 3) := by decide +kernel
theorem dX12_count_16 : decode cX12_count 16 = .ok (.iload_n 1, 1) := by decide +kernel
theorem dX12_count_17 : decode cX12_count 17 = .ok (.iconst 1, 1) := by decide +kernel
theorem dX12_count_18 : decode cX12_count 18 = .ok (.if_icmp .ne 10, 3) := by decide +kernel
theorem dX12_count_21 : decode cX12_count 21 = .ok (.aload_n 0, 1) := by decide +kernel
theorem dX12_count_22 : decode cX12_count 22 = .ok (.getfield 130, 3) := by decide +kernel
theorem dX12_count_25 : decode cX12_count 25 = .ok (.goto 43, 3) := by decide +kernel
theorem dX12_count_28 : decode cX12_count 28 = .ok (.iload_n 1, 1) := by decide +kernel
theorem dX12_count_29 : decode cX12_count 29 = .ok (.iconst 2, 1) := by decide +kernel
theorem dX12_count_30 : decode cX12_count 30 = .ok (.if_icmp .ne 10, 3) := by decide +kernel
theorem dX12_count_33 : decode cX12_count 33 = .ok (.aload_n 0, 1) := by decide +kernel
theorem dX12_count_34 : decode cX12_count 34 = .ok (.getfield 133, 3) := by decide +kernel
theorem dX12_count_37 : decode cX12_count 37 = .ok (.goto 31, 3) := by decide +kernel
theorem dX12_count_40 : decode cX12_count 40 = .ok (.iload_n 1, 1) := by decide +kernel
theorem dX12_count_41 : decode cX12_count 41 = .ok (.iconst 3, 1) := by decide +kernel
theorem dX12_count_42 : decode cX12_count 42 = .ok (.if_icmp .ne 13, 3) := by decide +kernel
theorem dX12_count_45 : decode cX12_count 45 = .ok (.aload_n 0, 1) := by decide +kernel
theorem dX12_count_46 : decode cX12_count 46 = .ok (.getfield 13, 3) := by decide +kernel
theorem dX12_count_49 : decode cX12_count 49 = .ok (.bipush 85, 2) := by decide +kernel
theorem dX12_count_51 : decode cX12_count 51 = .ok (.iaload, 1) := by decide +kernel
theorem dX12_count_52 : decode cX12_count 52 = .ok (.goto 16, 3) := by decide +kernel
theorem dX12_count_55 : decode cX12_count 55 = .ok (.iload_n 1, 1) := by decide +kernel
theorem dX12_count_56 : decode cX12_count 56 = .ok (.iconst 4, 1) := by decide +kernel
theorem dX12_count_57 : decode cX12_count 57 = .ok (.if_icmp .ne 10, 3) := by decide +kernel
theorem dX12_count_60 : decode cX12_count 60 = .ok (.aload_n 0, 1) := by decide +kernel
theorem dX12_count_61 : decode cX12_count 61 = .ok (.getfield 61, 3) := by decide +kernel
theorem dX12_count_64 : decode cX12_count 64 = .ok (.goto 4, 3) := by decide +kernel
theorem dX12_count_67 : decode cX12_count 67 = .ok (.iconst (-1), 1) := by decide +kernel
theorem dX12_count_68 : decode cX12_count 68 = .ok (.ireturn, 1) := by decide +kernel
theorem dX12_trace_0 : decode cX12_trace 0 = .ok (.aload_n 0, 1) := by decide +kernel
theorem dX12_trace_1 : decode cX12_trace 1 = .ok (.iconst 0, 1) := by decide +kernel
theorem dX12_trace_2 : decode cX12_trace 2 = .ok (.putfield 53, 3) := by decide +kernel
theorem dX12_trace_5 : decode cX12_trace 5 = .ok (.aload_n 0, 1) := by decide +kernel
theorem dX12_trace_6 : decode cX12_trace 6 = .ok (.getfield 225, 3) := by decide +kernel
theorem dX12_trace_9 : decode cX12_trace 9 = .ok (.lreturn, 1) := by decide +kernel
