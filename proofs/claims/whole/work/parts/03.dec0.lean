theorem dX0_init_0 : decode cX0_init 0 = .ok (.aload_n 0, 1) := by decide +kernel
theorem dX0_init_1 : decode cX0_init 1 = .ok (.invokespecial 1, 3) := by decide +kernel
theorem dX0_init_4 : decode cX0_init 4 = .ok (.return_, 1) := by decide +kernel
theorem dX1_init_0 : decode cX1_init 0 = .ok (.aload_n 0, 1) := by decide +kernel
theorem dX1_init_1 : decode cX1_init 1 = .ok (.invokespecial 1, 3) := by decide +kernel
theorem dX1_init_4 : decode cX1_init 4 = .ok (.return_, 1) := by decide +kernel
theorem dX1_need_0 : decode cX1_need 0 = .ok (.aload_n 0, 1) := by decide +kernel
theorem dX1_need_1 : decode cX1_need 1 = .ok (.getfield 7, 3) := by decide +kernel
theorem dX1_need_4 : decode cX1_need 4 = .ok (.aload_n 0, 1) := by decide +kernel
theorem dX1_need_5 : decode cX1_need 5 = .ok (.getfield 13, 3) := by decide +kernel
theorem dX1_need_8 : decode cX1_need 8 = .ok (.invokestatic 16, 3) := by decide +kernel
theorem dX1_need_11 : decode cX1_need 11 = .ok (.ireturn, 1) := by decide +kernel
theorem dX1_dropOf_0 : decode cX1_dropOf 0 = .ok (.bipush 10, 2) := by decide +kernel
theorem dX1_dropOf_2 : decode cX1_dropOf 2 = .ok (.aload_n 1, 1) := by decide +kernel
theorem dX1_dropOf_3 : decode cX1_dropOf 3 = .ok (.invokevirtual 22, 3) := by decide +kernel
theorem dX1_dropOf_6 : decode cX1_dropOf 6 = .ok (.imul, 1) := by decide +kernel
theorem dX1_dropOf_7 : decode cX1_dropOf 7 = .ok (.aload_n 0, 1) := by decide +kernel
theorem dX1_dropOf_8 : decode cX1_dropOf 8 = .ok (.getfield 7, 3) := by decide +kernel
theorem dX1_dropOf_11 : decode cX1_dropOf 11 = .ok (.invokestatic 28, 3) := by decide +kernel
theorem dX1_dropOf_14 : decode cX1_dropOf 14 = .ok (.iload_n 2, 1) := by decide +kernel
theorem dX1_dropOf_15 : decode cX1_dropOf 15 = .ok (.iadd, 1) := by decide +kernel
theorem dX1_dropOf_16 : decode cX1_dropOf 16 = .ok (.ireturn, 1) := by decide +kernel
theorem dX2_init_0 : decode cX2_init 0 = .ok (.aload_n 0, 1) := by decide +kernel
theorem dX2_init_1 : decode cX2_init 1 = .ok (.invokespecial 3, 3) := by decide +kernel
theorem dX2_init_4 : decode cX2_init 4 = .ok (.aload_n 0, 1) := by decide +kernel
theorem dX2_init_5 : decode cX2_init 5 = .ok (.bipush 12, 2) := by decide +kernel
theorem dX2_init_7 : decode cX2_init 7 = .ok (.newarray .int, 2) := by decide +kernel
theorem dX2_init_9 : decode cX2_init 9 = .ok (.putfield 9, 3) := by decide +kernel
theorem dX2_init_12 : decode cX2_init 12 = .ok (.aload_n 0, 1) := by decide +kernel
theorem dX2_init_13 : decode cX2_init 13 = .ok (.bipush 12, 2) := by decide +kernel
theorem dX2_init_15 : decode cX2_init 15 = .ok (.newarray .int, 2) := by decide +kernel
theorem dX2_init_17 : decode cX2_init 17 = .ok (.putfield 15, 3) := by decide +kernel
theorem dX2_init_20 : decode cX2_init 20 = .ok (.aload_n 0, 1) := by decide +kernel
theorem dX2_init_21 : decode cX2_init 21 = .ok (.bipush 12, 2) := by decide +kernel
theorem dX2_init_23 : decode cX2_init 23 = .ok (.newarray .int, 2) := by decide +kernel
theorem dX2_init_25 : decode cX2_init 25 = .ok (.putfield 18, 3) := by decide +kernel
theorem dX2_init_28 : decode cX2_init 28 = .ok (.return_, 1) := by decide +kernel
theorem dX2_gather_0 : decode cX2_gather 0 = .ok (.aload_n 0, 1) := by decide +kernel
theorem dX2_gather_1 : decode cX2_gather 1 = .ok (.iconst 0, 1) := by decide +kernel
theorem dX2_gather_2 : decode cX2_gather 2 = .ok (.putfield 21, 3) := by decide +kernel
theorem dX2_gather_5 : decode cX2_gather 5 = .ok (.iconst 0, 1) := by decide +kernel
theorem dX2_gather_6 : decode cX2_gather 6 = .ok (.istore 5, 2) := by decide +kernel
theorem dX2_gather_8 : decode cX2_gather 8 = .ok (.iload 5, 2) := by decide +kernel
theorem dX2_gather_10 : decode cX2_gather 10 = .ok (.aload_n 1, 1) := by decide +kernel
theorem dX2_gather_11 : decode cX2_gather 11 = .ok (.getfield 25, 3) := by decide +kernel
theorem dX2_gather_14 : decode cX2_gather 14 = .ok (.if_icmp .ge 148, 3) := by decide +kernel
theorem dX2_gather_17 : decode cX2_gather 17 = .ok (.iload 5, 2) := by decide +kernel
theorem dX2_gather_19 : decode cX2_gather 19 = .ok (.aload_n 0, 1) := by decide +kernel
theorem dX2_gather_20 : decode cX2_gather 20 = .ok (.getfield 18, 3) := by decide +kernel
theorem dX2_gather_23 : decode cX2_gather 23 = .ok (.arraylength, 1) := by decide +kernel
theorem dX2_gather_24 : decode cX2_gather 24 = .ok (.if_icmp .ge 138, 3) := by decide +kernel
theorem dX2_gather_27 : decode cX2_gather 27 = .ok (.aload_n 1, 1) := by decide +kernel
theorem dX2_gather_28 : decode cX2_gather 28 = .ok (.getfield 30, 3) := by decide +kernel
theorem dX2_gather_31 : decode cX2_gather 31 = .ok (.iload 5, 2) := by decide +kernel
theorem dX2_gather_33 : decode cX2_gather 33 = .ok (.aaload, 1) := by decide +kernel
theorem dX2_gather_34 : decode cX2_gather 34 = .ok (.astore 6, 2) := by decide +kernel
theorem dX2_gather_36 : decode cX2_gather 36 = .ok (.iload 4, 2) := by decide +kernel
theorem dX2_gather_38 : decode cX2_gather 38 = .ok (.ifCond .eq 7, 3) := by decide +kernel
theorem dX2_gather_41 : decode cX2_gather 41 = .ok (.iconst 0, 1) := by decide +kernel
theorem dX2_gather_42 : decode cX2_gather 42 = .ok (.goto 8, 3) := by decide +kernel
theorem dX2_gather_45 : decode cX2_gather 45 = .ok (.aload 6, 2) := by decide +kernel
theorem dX2_gather_47 : decode cX2_gather 47 = .ok (.getfield 34, 3) := by decide +kernel
theorem dX2_gather_50 : decode cX2_gather 50 = .ok (.istore 7, 2) := by decide +kernel
theorem dX2_gather_52 : decode cX2_gather 52 = .ok (.iload 4, 2) := by decide +kernel
theorem dX2_gather_54 : decode cX2_gather 54 = .ok (.ifCond .eq 7, 3) := by decide +kernel
theorem dX2_gather_57 : decode cX2_gather 57 = .ok (.iconst 1, 1) := by decide +kernel
theorem dX2_gather_58 : decode cX2_gather 58 = .ok (.goto 8, 3) := by decide +kernel
theorem dX2_gather_61 : decode cX2_gather 61 = .ok (.aload 6, 2) := by decide +kernel
theorem dX2_gather_63 : decode cX2_gather 63 = .ok (.getfield 34, 3) := by decide +kernel
theorem dX2_gather_66 : decode cX2_gather 66 = .ok (.istore 8, 2) := by decide +kernel
theorem dX2_gather_68 : decode cX2_gather 68 = .ok (.aload_n 0, 1) := by decide +kernel
theorem dX2_gather_69 : decode cX2_gather 69 = .ok (.getfield 9, 3) := by decide +kernel
theorem dX2_gather_72 : decode cX2_gather 72 = .ok (.iload 5, 2) := by decide +kernel
theorem dX2_gather_74 : decode cX2_gather 74 = .ok (.aload_n 3, 1) := by decide +kernel
theorem dX2_gather_75 : decode cX2_gather 75 = .ok (.aload 6, 2) := by decide +kernel
theorem dX2_gather_77 : decode cX2_gather 77 = .ok (.aload 6, 2) := by decide +kernel
theorem dX2_gather_79 : decode cX2_gather 79 = .ok (.iload 7, 2) := by decide +kernel
theorem dX2_gather_81 : decode cX2_gather 81 = .ok (.invokevirtual 39, 3) := by decide +kernel
theorem dX2_gather_84 : decode cX2_gather 84 = .ok (.aload_n 2, 1) := by decide +kernel
theorem dX2_gather_85 : decode cX2_gather 85 = .ok (.invokevirtual 43, 3) := by decide +kernel
theorem dX2_gather_88 : decode cX2_gather 88 = .ok (.isub, 1) := by decide +kernel
theorem dX2_gather_89 : decode cX2_gather 89 = .ok (.aload 6, 2) := by decide +kernel
theorem dX2_gather_91 : decode cX2_gather 91 = .ok (.getfield 49, 3) := by decide +kernel
theorem dX2_gather_94 : decode cX2_gather 94 = .ok (.invokevirtual 52, 3) := by decide +kernel
theorem dX2_gather_97 : decode cX2_gather 97 = .ok (.iastore, 1) := by decide +kernel
theorem dX2_gather_98 : decode cX2_gather 98 = .ok (.aload_n 0, 1) := by decide +kernel
theorem dX2_gather_99 : decode cX2_gather 99 = .ok (.getfield 15, 3) := by decide +kernel
theorem dX2_gather_102 : decode cX2_gather 102 = .ok (.iload 5, 2) := by decide +kernel
theorem dX2_gather_104 : decode cX2_gather 104 = .ok (.aload_n 3, 1) := by decide +kernel
theorem dX2_gather_105 : decode cX2_gather 105 = .ok (.aload 6, 2) := by decide +kernel
theorem dX2_gather_107 : decode cX2_gather 107 = .ok (.aload 6, 2) := by decide +kernel
theorem dX2_gather_109 : decode cX2_gather 109 = .ok (.iload 8, 2) := by decide +kernel
theorem dX2_gather_111 : decode cX2_gather 111 = .ok (.invokevirtual 39, 3) := by decide +kernel
theorem dX2_gather_114 : decode cX2_gather 114 = .ok (.aload_n 2, 1) := by decide +kernel
theorem dX2_gather_115 : decode cX2_gather 115 = .ok (.invokevirtual 43, 3) := by decide +kernel
theorem dX2_gather_118 : decode cX2_gather 118 = .ok (.isub, 1) := by decide +kernel
theorem dX2_gather_119 : decode cX2_gather 119 = .ok (.aload 6, 2) := by decide +kernel
theorem dX2_gather_121 : decode cX2_gather 121 = .ok (.getfield 49, 3) := by decide +kernel
theorem dX2_gather_124 : decode cX2_gather 124 = .ok (.invokevirtual 52, 3) := by decide +kernel
theorem dX2_gather_127 : decode cX2_gather 127 = .ok (.iastore, 1) := by decide +kernel
theorem dX2_gather_128 : decode cX2_gather 128 = .ok (.aload_n 0, 1) := by decide +kernel
theorem dX2_gather_129 : decode cX2_gather 129 = .ok (.getfield 18, 3) := by decide +kernel
theorem dX2_gather_132 : decode cX2_gather 132 = .ok (.iload 5, 2) := by decide +kernel
theorem dX2_gather_134 : decode cX2_gather 134 = .ok (.aload_n 2, 1) := by decide +kernel
theorem dX2_gather_135 : decode cX2_gather 135 = .ok (.aload 6, 2) := by decide +kernel
theorem dX2_gather_137 : decode cX2_gather 137 = .ok (.aload 6, 2) := by decide +kernel
theorem dX2_gather_139 : decode cX2_gather 139 = .ok (.getfield 49, 3) := by decide +kernel
theorem dX2_gather_142 : decode cX2_gather 142 = .ok (.invokevirtual 58, 3) := by decide +kernel
theorem dX2_gather_145 : decode cX2_gather 145 = .ok (.iastore, 1) := by decide +kernel
theorem dX2_gather_146 : decode cX2_gather 146 = .ok (.aload_n 0, 1) := by decide +kernel
theorem dX2_gather_147 : decode cX2_gather 147 = .ok (.dup, 1) := by decide +kernel
theorem dX2_gather_148 : decode cX2_gather 148 = .ok (.getfield 21, 3) := by decide +kernel
theorem dX2_gather_151 : decode cX2_gather 151 = .ok (.iconst 1, 1) := by decide +kernel
theorem dX2_gather_152 : decode cX2_gather 152 = .ok (.iadd, 1) := by decide +kernel
theorem dX2_gather_153 : decode cX2_gather 153 = .ok (.putfield 21, 3) := by decide +kernel
theorem dX2_gather_156 : decode cX2_gather 156 = .ok (.iinc 5 1, 3) := by decide +kernel
theorem dX2_gather_159 : decode cX2_gather 159 = .ok (.goto (-151), 3) := by decide +kernel
theorem dX2_gather_162 : decode cX2_gather 162 = .ok (.return_, 1) := by decide +kernel
theorem dX2_find_0 : decode cX2_find 0 = .ok (.aload_n 0, 1) := by decide +kernel
theorem dX2_find_1 : decode cX2_find 1 = .ok (.iconst 0, 1) := by decide +kernel
theorem dX2_find_2 : decode cX2_find 2 = .ok (.putfield 62, 3) := by decide +kernel
theorem dX2_find_5 : decode cX2_find 5 = .ok (.aload_n 0, 1) := by decide +kernel
theorem dX2_find_6 : decode cX2_find 6 = .ok (.iconst 0, 1) := by decide +kernel
theorem dX2_find_7 : decode cX2_find 7 = .ok (.putfield 65, 3) := by decide +kernel
theorem dX2_find_10 : decode cX2_find 10 = .ok (.iconst 0, 1) := by decide +kernel
theorem dX2_find_11 : decode cX2_find 11 = .ok (.istore_n 3, 1) := by decide +kernel
theorem dX2_find_12 : decode cX2_find 12 = .ok (.iload_n 3, 1) := by decide +kernel
theorem dX2_find_13 : decode cX2_find 13 = .ok (.aload_n 0, 1) := by decide +kernel
theorem dX2_find_14 : decode cX2_find 14 = .ok (.getfield 21, 3) := by decide +kernel
theorem dX2_find_17 : decode cX2_find 17 = .ok (.if_icmp .ge 65, 3) := by decide +kernel
theorem dX2_find_20 : decode cX2_find 20 = .ok (.iconst 0, 1) := by decide +kernel
theorem dX2_find_21 : decode cX2_find 21 = .ok (.istore 4, 2) := by decide +kernel
theorem dX2_find_23 : decode cX2_find 23 = .ok (.iload 4, 2) := by decide +kernel
theorem dX2_find_25 : decode cX2_find 25 = .ok (.aload_n 0, 1) := by decide +kernel
theorem dX2_find_26 : decode cX2_find 26 = .ok (.getfield 21, 3) := by decide +kernel
theorem dX2_find_29 : decode cX2_find 29 = .ok (.if_icmp .ge 47, 3) := by decide +kernel
theorem dX2_find_32 : decode cX2_find 32 = .ok (.aload_n 0, 1) := by decide +kernel
theorem dX2_find_33 : decode cX2_find 33 = .ok (.aload_n 0, 1) := by decide +kernel
theorem dX2_find_34 : decode cX2_find 34 = .ok (.getfield 9, 3) := by decide +kernel
theorem dX2_find_37 : decode cX2_find 37 = .ok (.iload_n 3, 1) := by decide +kernel
theorem dX2_find_38 : decode cX2_find 38 = .ok (.iaload, 1) := by decide +kernel
theorem dX2_find_39 : decode cX2_find 39 = .ok (.iload_n 1, 1) := by decide +kernel
theorem dX2_find_40 : decode cX2_find 40 = .ok (.aload_n 0, 1) := by decide +kernel
theorem dX2_find_41 : decode cX2_find 41 = .ok (.getfield 18, 3) := by decide +kernel
theorem dX2_find_44 : decode cX2_find 44 = .ok (.iload 4, 2) := by decide +kernel
theorem dX2_find_46 : decode cX2_find 46 = .ok (.iaload, 1) := by decide +kernel
theorem dX2_find_47 : decode cX2_find 47 = .ok (.iload_n 2, 1) := by decide +kernel
theorem dX2_find_48 : decode cX2_find 48 = .ok (.invokevirtual 68, 3) := by decide +kernel
theorem dX2_find_51 : decode cX2_find 51 = .ok (.aload_n 0, 1) := by decide +kernel
theorem dX2_find_52 : decode cX2_find 52 = .ok (.aload_n 0, 1) := by decide +kernel
theorem dX2_find_53 : decode cX2_find 53 = .ok (.getfield 15, 3) := by decide +kernel
theorem dX2_find_56 : decode cX2_find 56 = .ok (.iload_n 3, 1) := by decide +kernel
theorem dX2_find_57 : decode cX2_find 57 = .ok (.iaload, 1) := by decide +kernel
theorem dX2_find_58 : decode cX2_find 58 = .ok (.iload_n 1, 1) := by decide +kernel
theorem dX2_find_59 : decode cX2_find 59 = .ok (.aload_n 0, 1) := by decide +kernel
theorem dX2_find_60 : decode cX2_find 60 = .ok (.getfield 18, 3) := by decide +kernel
theorem dX2_find_63 : decode cX2_find 63 = .ok (.iload 4, 2) := by decide +kernel
theorem dX2_find_65 : decode cX2_find 65 = .ok (.iaload, 1) := by decide +kernel
theorem dX2_find_66 : decode cX2_find 66 = .ok (.iload_n 2, 1) := by decide +kernel
theorem dX2_find_67 : decode cX2_find 67 = .ok (.invokevirtual 68, 3) := by decide +kernel
theorem dX2_find_70 : decode cX2_find 70 = .ok (.iinc 4 1, 3) := by decide +kernel
theorem dX2_find_73 : decode cX2_find 73 = .ok (.goto (-50), 3) := by decide +kernel
theorem dX2_find_76 : decode cX2_find 76 = .ok (.iinc 3 1, 3) := by decide +kernel
theorem dX2_find_79 : decode cX2_find 79 = .ok (.goto (-67), 3) := by decide +kernel
theorem dX2_find_82 : decode cX2_find 82 = .ok (.return_, 1) := by decide +kernel
theorem dX2_tryFrom_0 : decode cX2_tryFrom 0 = .ok (.iconst 0, 1) := by decide +kernel
theorem dX2_tryFrom_1 : decode cX2_tryFrom 1 = .ok (.istore 5, 2) := by decide +kernel
theorem dX2_tryFrom_3 : decode cX2_tryFrom 3 = .ok (.iconst 0, 1) := by decide +kernel
theorem dX2_tryFrom_4 : decode cX2_tryFrom 4 = .ok (.istore 6, 2) := by decide +kernel
theorem dX2_tryFrom_6 : decode cX2_tryFrom 6 = .ok (.iload 6, 2) := by decide +kernel
theorem dX2_tryFrom_8 : decode cX2_tryFrom 8 = .ok (.aload_n 0, 1) := by decide +kernel
theorem dX2_tryFrom_9 : decode cX2_tryFrom 9 = .ok (.getfield 21, 3) := by decide +kernel
theorem dX2_tryFrom_12 : decode cX2_tryFrom 12 = .ok (.if_icmp .ge 82, 3) := by decide +kernel
theorem dX2_tryFrom_15 : decode cX2_tryFrom 15 = .ok (.aload_n 0, 1) := by decide +kernel
theorem dX2_tryFrom_16 : decode cX2_tryFrom 16 = .ok (.getfield 9, 3) := by decide +kernel
theorem dX2_tryFrom_19 : decode cX2_tryFrom 19 = .ok (.iload 6, 2) := by decide +kernel
theorem dX2_tryFrom_21 : decode cX2_tryFrom 21 = .ok (.iaload, 1) := by decide +kernel
theorem dX2_tryFrom_22 : decode cX2_tryFrom 22 = .ok (.iload_n 1, 1) := by decide +kernel
theorem dX2_tryFrom_23 : decode cX2_tryFrom 23 = .ok (.iload_n 1, 1) := by decide +kernel
theorem dX2_tryFrom_24 : decode cX2_tryFrom 24 = .ok (.iload_n 2, 1) := by decide +kernel
theorem dX2_tryFrom_25 : decode cX2_tryFrom 25 = .ok (.iadd, 1) := by decide +kernel
theorem dX2_tryFrom_26 : decode cX2_tryFrom 26 = .ok (.invokestatic 72, 3) := by decide +kernel
theorem dX2_tryFrom_29 : decode cX2_tryFrom 29 = .ok (.ifCond .ne 20, 3) := by decide +kernel
theorem dX2_tryFrom_32 : decode cX2_tryFrom 32 = .ok (.aload_n 0, 1) := by decide +kernel
theorem dX2_tryFrom_33 : decode cX2_tryFrom 33 = .ok (.getfield 15, 3) := by decide +kernel
theorem dX2_tryFrom_36 : decode cX2_tryFrom 36 = .ok (.iload 6, 2) := by decide +kernel
theorem dX2_tryFrom_38 : decode cX2_tryFrom 38 = .ok (.iaload, 1) := by decide +kernel
theorem dX2_tryFrom_39 : decode cX2_tryFrom 39 = .ok (.iload_n 1, 1) := by decide +kernel
theorem dX2_tryFrom_40 : decode cX2_tryFrom 40 = .ok (.iload_n 1, 1) := by decide +kernel
theorem dX2_tryFrom_41 : decode cX2_tryFrom 41 = .ok (.iload_n 2, 1) := by decide +kernel
theorem dX2_tryFrom_42 : decode cX2_tryFrom 42 = .ok (.iadd, 1) := by decide +kernel
theorem dX2_tryFrom_43 : decode cX2_tryFrom 43 = .ok (.invokestatic 72, 3) := by decide +kernel
theorem dX2_tryFrom_46 : decode cX2_tryFrom 46 = .ok (.ifCond .eq 7, 3) := by decide +kernel
theorem dX2_tryFrom_49 : decode cX2_tryFrom 49 = .ok (.iconst 1, 1) := by decide +kernel
theorem dX2_tryFrom_50 : decode cX2_tryFrom 50 = .ok (.goto 4, 3) := by decide +kernel
theorem dX2_tryFrom_53 : decode cX2_tryFrom 53 = .ok (.iconst 0, 1) := by decide +kernel
theorem dX2_tryFrom_54 : decode cX2_tryFrom 54 = .ok (.istore 7, 2) := by decide +kernel
theorem dX2_tryFrom_56 : decode cX2_tryFrom 56 = .ok (.iload 7, 2) := by decide +kernel
theorem dX2_tryFrom_58 : decode cX2_tryFrom 58 = .ok (.ifCond .eq 30, 3) := by decide +kernel
theorem dX2_tryFrom_61 : decode cX2_tryFrom 61 = .ok (.aload_n 0, 1) := by decide +kernel
theorem dX2_tryFrom_62 : decode cX2_tryFrom 62 = .ok (.getfield 18, 3) := by decide +kernel
theorem dX2_tryFrom_65 : decode cX2_tryFrom 65 = .ok (.iload 6, 2) := by decide +kernel
theorem dX2_tryFrom_67 : decode cX2_tryFrom 67 = .ok (.iaload, 1) := by decide +kernel
theorem dX2_tryFrom_68 : decode cX2_tryFrom 68 = .ok (.iload_n 3, 1) := by decide +kernel
theorem dX2_tryFrom_69 : decode cX2_tryFrom 69 = .ok (.iload_n 3, 1) := by decide +kernel
theorem dX2_tryFrom_70 : decode cX2_tryFrom 70 = .ok (.iload 4, 2) := by decide +kernel
theorem dX2_tryFrom_72 : decode cX2_tryFrom 72 = .ok (.iadd, 1) := by decide +kernel
theorem dX2_tryFrom_73 : decode cX2_tryFrom 73 = .ok (.invokestatic 72, 3) := by decide +kernel
theorem dX2_tryFrom_76 : decode cX2_tryFrom 76 = .ok (.ifCond .eq 12, 3) := by decide +kernel
theorem dX2_tryFrom_79 : decode cX2_tryFrom 79 = .ok (.iload 5, 2) := by decide +kernel
theorem dX2_tryFrom_81 : decode cX2_tryFrom 81 = .ok (.iconst 1, 1) := by decide +kernel
theorem dX2_tryFrom_82 : decode cX2_tryFrom 82 = .ok (.iload 6, 2) := by decide +kernel
theorem dX2_tryFrom_84 : decode cX2_tryFrom 84 = .ok (.ishl, 1) := by decide +kernel
theorem dX2_tryFrom_85 : decode cX2_tryFrom 85 = .ok (.ior, 1) := by decide +kernel
theorem dX2_tryFrom_86 : decode cX2_tryFrom 86 = .ok (.istore 5, 2) := by decide +kernel
theorem dX2_tryFrom_88 : decode cX2_tryFrom 88 = .ok (.iinc 6 1, 3) := by decide +kernel
theorem dX2_tryFrom_91 : decode cX2_tryFrom 91 = .ok (.goto (-85), 3) := by decide +kernel
theorem dX2_tryFrom_94 : decode cX2_tryFrom 94 = .ok (.iload 5, 2) := by decide +kernel
theorem dX2_tryFrom_96 : decode cX2_tryFrom 96 = .ok (.invokestatic 76, 3) := by decide +kernel
theorem dX2_tryFrom_99 : decode cX2_tryFrom 99 = .ok (.istore 6, 2) := by decide +kernel
theorem dX2_tryFrom_101 : decode cX2_tryFrom 101 = .ok (.iload 6, 2) := by decide +kernel
theorem dX2_tryFrom_103 : decode cX2_tryFrom 103 = .ok (.aload_n 0, 1) := by decide +kernel
theorem dX2_tryFrom_104 : decode cX2_tryFrom 104 = .ok (.getfield 65, 3) := by decide +kernel
theorem dX2_tryFrom_107 : decode cX2_tryFrom 107 = .ok (.if_icmp .lt 21, 3) := by decide +kernel
theorem dX2_tryFrom_110 : decode cX2_tryFrom 110 = .ok (.iload 6, 2) := by decide +kernel
theorem dX2_tryFrom_112 : decode cX2_tryFrom 112 = .ok (.aload_n 0, 1) := by decide +kernel
theorem dX2_tryFrom_113 : decode cX2_tryFrom 113 = .ok (.getfield 65, 3) := by decide +kernel
theorem dX2_tryFrom_116 : decode cX2_tryFrom 116 = .ok (.if_icmp .ne 13, 3) := by decide +kernel
theorem dX2_tryFrom_119 : decode cX2_tryFrom 119 = .ok (.iload 5, 2) := by decide +kernel
theorem dX2_tryFrom_121 : decode cX2_tryFrom 121 = .ok (.aload_n 0, 1) := by decide +kernel
theorem dX2_tryFrom_122 : decode cX2_tryFrom 122 = .ok (.getfield 62, 3) := by decide +kernel
theorem dX2_tryFrom_125 : decode cX2_tryFrom 125 = .ok (.if_icmp .lt 4, 3) := by decide +kernel
theorem dX2_tryFrom_128 : decode cX2_tryFrom 128 = .ok (.return_, 1) := by decide +kernel
theorem dX2_tryFrom_129 : decode cX2_tryFrom 129 = .ok (.aload_n 0, 1) := by decide +kernel
theorem dX2_tryFrom_130 : decode cX2_tryFrom 130 = .ok (.iload 5, 2) := by decide +kernel
theorem dX2_tryFrom_132 : decode cX2_tryFrom 132 = .ok (.putfield 62, 3) := by decide +kernel
theorem dX2_tryFrom_135 : decode cX2_tryFrom 135 = .ok (.aload_n 0, 1) := by decide +kernel
theorem dX2_tryFrom_136 : decode cX2_tryFrom 136 = .ok (.iload 6, 2) := by decide +kernel
theorem dX2_tryFrom_138 : decode cX2_tryFrom 138 = .ok (.putfield 65, 3) := by decide +kernel
theorem dX2_tryFrom_141 : decode cX2_tryFrom 141 = .ok (.return_, 1) := by decide +kernel
theorem dX3_init_0 : decode cX3_init 0 = .ok (.aload_n 0, 1) := by decide +kernel
theorem dX3_init_1 : decode cX3_init 1 = .ok (.invokespecial 3, 3) := by decide +kernel
theorem dX3_init_4 : decode cX3_init 4 = .ok (.aload_n 0, 1) := by decide +kernel
theorem dX3_init_5 : decode cX3_init 5 = .ok (.bipush 12, 2) := by decide +kernel
theorem dX3_init_7 : decode cX3_init 7 = .ok (.anewarray 9, 3) := by decide +kernel
theorem dX3_init_10 : decode cX3_init 10 = .ok (.putfield 11, 3) := by decide +kernel
theorem dX3_init_13 : decode cX3_init 13 = .ok (.aload_n 0, 1) := by decide +kernel
theorem dX3_init_14 : decode cX3_init 14 = .ok (.iconst 3, 1) := by decide +kernel
theorem dX3_init_15 : decode cX3_init 15 = .ok (.anewarray 17, 3) := by decide +kernel
theorem dX3_init_18 : decode cX3_init 18 = .ok (.putfield 19, 3) := by decide +kernel
theorem dX3_init_21 : decode cX3_init 21 = .ok (.aload_n 0, 1) := by decide +kernel
theorem dX3_init_22 : decode cX3_init 22 = .ok (.iconst 3, 1) := by decide +kernel
theorem dX3_init_23 : decode cX3_init 23 = .ok (.anewarray 23, 3) := by decide +kernel
theorem dX3_init_26 : decode cX3_init 26 = .ok (.putfield 25, 3) := by decide +kernel
theorem dX3_init_29 : decode cX3_init 29 = .ok (.iconst 0, 1) := by decide +kernel
theorem dX3_init_30 : decode cX3_init 30 = .ok (.istore_n 1, 1) := by decide +kernel
theorem dX3_init_31 : decode cX3_init 31 = .ok (.iload_n 1, 1) := by decide +kernel
theorem dX3_init_32 : decode cX3_init 32 = .ok (.aload_n 0, 1) := by decide +kernel
theorem dX3_init_33 : decode cX3_init 33 = .ok (.getfield 11, 3) := by decide +kernel
theorem dX3_init_36 : decode cX3_init 36 = .ok (.arraylength, 1) := by decide +kernel
theorem dX3_init_37 : decode cX3_init 37 = .ok (.if_icmp .ge 22, 3) := by decide +kernel
theorem dX3_init_40 : decode cX3_init 40 = .ok (.aload_n 0, 1) := by decide +kernel
theorem dX3_init_41 : decode cX3_init 41 = .ok (.getfield 11, 3) := by decide +kernel
theorem dX3_init_44 : decode cX3_init 44 = .ok (.iload_n 1, 1) := by decide +kernel
theorem dX3_init_45 : decode cX3_init 45 = .ok (.new 9, 3) := by decide +kernel
theorem dX3_init_48 : decode cX3_init 48 = .ok (.dup, 1) := by decide +kernel
theorem dX3_init_49 : decode cX3_init 49 = .ok (.invokespecial 29, 3) := by decide +kernel
theorem dX3_init_52 : decode cX3_init 52 = .ok (.aastore, 1) := by decide +kernel
theorem dX3_init_53 : decode cX3_init 53 = .ok (.iinc 1 1, 3) := by decide +kernel
theorem dX3_init_56 : decode cX3_init 56 = .ok (.goto (-25), 3) := by decide +kernel
theorem dX3_init_59 : decode cX3_init 59 = .ok (.iconst 0, 1) := by decide +kernel
theorem dX3_init_60 : decode cX3_init 60 = .ok (.istore_n 1, 1) := by decide +kernel
theorem dX3_init_61 : decode cX3_init 61 = .ok (.iload_n 1, 1) := by decide +kernel
theorem dX3_init_62 : decode cX3_init 62 = .ok (.aload_n 0, 1) := by decide +kernel
theorem dX3_init_63 : decode cX3_init 63 = .ok (.getfield 19, 3) := by decide +kernel
theorem dX3_init_66 : decode cX3_init 66 = .ok (.arraylength, 1) := by decide +kernel
theorem dX3_init_67 : decode cX3_init 67 = .ok (.if_icmp .ge 22, 3) := by decide +kernel
theorem dX3_init_70 : decode cX3_init 70 = .ok (.aload_n 0, 1) := by decide +kernel
theorem dX3_init_71 : decode cX3_init 71 = .ok (.getfield 19, 3) := by decide +kernel
theorem dX3_init_74 : decode cX3_init 74 = .ok (.iload_n 1, 1) := by decide +kernel
theorem dX3_init_75 : decode cX3_init 75 = .ok (.new 17, 3) := by decide +kernel
theorem dX3_init_78 : decode cX3_init 78 = .ok (.dup, 1) := by decide +kernel
theorem dX3_init_79 : decode cX3_init 79 = .ok (.invokespecial 30, 3) := by decide +kernel
theorem dX3_init_82 : decode cX3_init 82 = .ok (.aastore, 1) := by decide +kernel
theorem dX3_init_83 : decode cX3_init 83 = .ok (.iinc 1 1, 3) := by decide +kernel
theorem dX3_init_86 : decode cX3_init 86 = .ok (.goto (-25), 3) := by decide +kernel
theorem dX3_init_89 : decode cX3_init 89 = .ok (.iconst 0, 1) := by decide +kernel
theorem dX3_init_90 : decode cX3_init 90 = .ok (.istore_n 1, 1) := by decide +kernel
theorem dX3_init_91 : decode cX3_init 91 = .ok (.iload_n 1, 1) := by decide +kernel
theorem dX3_init_92 : decode cX3_init 92 = .ok (.aload_n 0, 1) := by decide +kernel
theorem dX3_init_93 : decode cX3_init 93 = .ok (.getfield 25, 3) := by decide +kernel
theorem dX3_init_96 : decode cX3_init 96 = .ok (.arraylength, 1) := by decide +kernel
theorem dX3_init_97 : decode cX3_init 97 = .ok (.if_icmp .ge 22, 3) := by decide +kernel
theorem dX3_init_100 : decode cX3_init 100 = .ok (.aload_n 0, 1) := by decide +kernel
theorem dX3_init_101 : decode cX3_init 101 = .ok (.getfield 25, 3) := by decide +kernel
theorem dX3_init_104 : decode cX3_init 104 = .ok (.iload_n 1, 1) := by decide +kernel
theorem dX3_init_105 : decode cX3_init 105 = .ok (.new 23, 3) := by decide +kernel
theorem dX3_init_108 : decode cX3_init 108 = .ok (.dup, 1) := by decide +kernel
theorem dX3_init_109 : decode cX3_init 109 = .ok (.invokespecial 31, 3) := by decide +kernel
theorem dX3_init_112 : decode cX3_init 112 = .ok (.aastore, 1) := by decide +kernel
theorem dX3_init_113 : decode cX3_init 113 = .ok (.iinc 1 1, 3) := by decide +kernel
theorem dX3_init_116 : decode cX3_init 116 = .ok (.goto (-25), 3) := by decide +kernel
theorem dX3_init_119 : decode cX3_init 119 = .ok (.return_, 1) := by decide +kernel
theorem dX3_empty_0 : decode cX3_empty 0 = .ok (.aload_n 0, 1) := by decide +kernel
theorem dX3_empty_1 : decode cX3_empty 1 = .ok (.iconst 0, 1) := by decide +kernel
theorem dX3_empty_2 : decode cX3_empty 2 = .ok (.putfield 32, 3) := by decide +kernel
theorem dX3_empty_5 : decode cX3_empty 5 = .ok (.aload_n 0, 1) := by decide +kernel
theorem dX3_empty_6 : decode cX3_empty 6 = .ok (.iconst 0, 1) := by decide +kernel
theorem dX3_empty_7 : decode cX3_empty 7 = .ok (.putfield 36, 3) := by decide +kernel
theorem dX3_empty_10 : decode cX3_empty 10 = .ok (.aload_n 0, 1) := by decide +kernel
theorem dX3_empty_11 : decode cX3_empty 11 = .ok (.iconst 0, 1) := by decide +kernel
theorem dX3_empty_12 : decode cX3_empty 12 = .ok (.putfield 39, 3) := by decide +kernel
theorem dX3_empty_15 : decode cX3_empty 15 = .ok (.return_, 1) := by decide +kernel
theorem dX3_stickAt_0 : decode cX3_stickAt 0 = .ok (.iload_n 1, 1) := by decide +kernel
theorem dX3_stickAt_1 : decode cX3_stickAt 1 = .ok (.ifCond .lt 20, 3) := by decide +kernel
theorem dX3_stickAt_4 : decode cX3_stickAt 4 = .ok (.iload_n 1, 1) := by decide +kernel
theorem dX3_stickAt_5 : decode cX3_stickAt 5 = .ok (.aload_n 0, 1) := by decide +kernel
theorem dX3_stickAt_6 : decode cX3_stickAt 6 = .ok (.getfield 32, 3) := by decide +kernel
theorem dX3_stickAt_9 : decode cX3_stickAt 9 = .ok (.if_icmp .ge 12, 3) := by decide +kernel
theorem dX3_stickAt_12 : decode cX3_stickAt 12 = .ok (.aload_n 0, 1) := by decide +kernel
theorem dX3_stickAt_13 : decode cX3_stickAt 13 = .ok (.getfield 11, 3) := by decide +kernel
theorem dX3_stickAt_16 : decode cX3_stickAt 16 = .ok (.iload_n 1, 1) := by decide +kernel
theorem dX3_stickAt_17 : decode cX3_stickAt 17 = .ok (.aaload, 1) := by decide +kernel
theorem dX3_stickAt_18 : decode cX3_stickAt 18 = .ok (.goto 4, 3) := by decide +kernel
theorem dX3_stickAt_21 : decode cX3_stickAt 21 = .ok (.aconst_null, 1) := by decide +kernel
theorem dX3_stickAt_22 : decode cX3_stickAt 22 = .ok (.areturn, 1) := by decide +kernel
theorem dX3_bowAt_0 : decode cX3_bowAt 0 = .ok (.iload_n 1, 1) := by decide +kernel
theorem dX3_bowAt_1 : decode cX3_bowAt 1 = .ok (.ifCond .lt 20, 3) := by decide +kernel
theorem dX3_bowAt_4 : decode cX3_bowAt 4 = .ok (.iload_n 1, 1) := by decide +kernel
theorem dX3_bowAt_5 : decode cX3_bowAt 5 = .ok (.aload_n 0, 1) := by decide +kernel
theorem dX3_bowAt_6 : decode cX3_bowAt 6 = .ok (.getfield 36, 3) := by decide +kernel
theorem dX3_bowAt_9 : decode cX3_bowAt 9 = .ok (.if_icmp .ge 12, 3) := by decide +kernel
theorem dX3_bowAt_12 : decode cX3_bowAt 12 = .ok (.aload_n 0, 1) := by decide +kernel
theorem dX3_bowAt_13 : decode cX3_bowAt 13 = .ok (.getfield 19, 3) := by decide +kernel
theorem dX3_bowAt_16 : decode cX3_bowAt 16 = .ok (.iload_n 1, 1) := by decide +kernel
theorem dX3_bowAt_17 : decode cX3_bowAt 17 = .ok (.aaload, 1) := by decide +kernel
theorem dX3_bowAt_18 : decode cX3_bowAt 18 = .ok (.goto 4, 3) := by decide +kernel
theorem dX3_bowAt_21 : decode cX3_bowAt 21 = .ok (.aconst_null, 1) := by decide +kernel
theorem dX3_bowAt_22 : decode cX3_bowAt 22 = .ok (.areturn, 1) := by decide +kernel
theorem dX3_archerAt_0 : decode cX3_archerAt 0 = .ok (.iload_n 1, 1) := by decide +kernel
theorem dX3_archerAt_1 : decode cX3_archerAt 1 = .ok (.ifCond .lt 20, 3) := by decide +kernel
theorem dX3_archerAt_4 : decode cX3_archerAt 4 = .ok (.iload_n 1, 1) := by decide +kernel
theorem dX3_archerAt_5 : decode cX3_archerAt 5 = .ok (.aload_n 0, 1) := by decide +kernel
theorem dX3_archerAt_6 : decode cX3_archerAt 6 = .ok (.getfield 39, 3) := by decide +kernel
theorem dX3_archerAt_9 : decode cX3_archerAt 9 = .ok (.if_icmp .ge 12, 3) := by decide +kernel
theorem dX3_archerAt_12 : decode cX3_archerAt 12 = .ok (.aload_n 0, 1) := by decide +kernel
theorem dX3_archerAt_13 : decode cX3_archerAt 13 = .ok (.getfield 25, 3) := by decide +kernel
theorem dX3_archerAt_16 : decode cX3_archerAt 16 = .ok (.iload_n 1, 1) := by decide +kernel
theorem dX3_archerAt_17 : decode cX3_archerAt 17 = .ok (.aaload, 1) := by decide +kernel
theorem dX3_archerAt_18 : decode cX3_archerAt 18 = .ok (.goto 4, 3) := by decide +kernel
theorem dX3_archerAt_21 : decode cX3_archerAt 21 = .ok (.aconst_null, 1) := by decide +kernel
theorem dX3_archerAt_22 : decode cX3_archerAt 22 = .ok (.areturn, 1) := by decide +kernel
theorem dX3_addStick_0 : decode cX3_addStick 0 = .ok (.aload_n 0, 1) := by decide +kernel
theorem dX3_addStick_1 : decode cX3_addStick 1 = .ok (.getfield 32, 3) := by decide +kernel
theorem dX3_addStick_4 : decode cX3_addStick 4 = .ok (.aload_n 0, 1) := by decide +kernel
theorem dX3_addStick_5 : decode cX3_addStick 5 = .ok (.getfield 11, 3) := by decide +kernel
theorem dX3_addStick_8 : decode cX3_addStick 8 = .ok (.arraylength, 1) := by decide +kernel
theorem dX3_addStick_9 : decode cX3_addStick 9 = .ok (.if_icmp .lt 5, 3) := by decide +kernel
theorem dX3_addStick_12 : decode cX3_addStick 12 = .ok (.aconst_null, 1) := by decide +kernel
theorem dX3_addStick_13 : decode cX3_addStick 13 = .ok (.areturn, 1) := by decide +kernel
theorem dX3_addStick_14 : decode cX3_addStick 14 = .ok (.aload_n 0, 1) := by decide +kernel
theorem dX3_addStick_15 : decode cX3_addStick 15 = .ok (.dup, 1) := by decide +kernel
theorem dX3_addStick_16 : decode cX3_addStick 16 = .ok (.getfield 32, 3) := by decide +kernel
theorem dX3_addStick_19 : decode cX3_addStick 19 = .ok (.iconst 1, 1) := by decide +kernel
theorem dX3_addStick_20 : decode cX3_addStick 20 = .ok (.iadd, 1) := by decide +kernel
theorem dX3_addStick_21 : decode cX3_addStick 21 = .ok (.putfield 32, 3) := by decide +kernel
theorem dX3_addStick_24 : decode cX3_addStick 24 = .ok (.aload_n 0, 1) := by decide +kernel
theorem dX3_addStick_25 : decode cX3_addStick 25 = .ok (.getfield 11, 3) := by decide +kernel
theorem dX3_addStick_28 : decode cX3_addStick 28 = .ok (.aload_n 0, 1) := by decide +kernel
theorem dX3_addStick_29 : decode cX3_addStick 29 = .ok (.getfield 32, 3) := by decide +kernel
theorem dX3_addStick_32 : decode cX3_addStick 32 = .ok (.iconst 1, 1) := by decide +kernel
theorem dX3_addStick_33 : decode cX3_addStick 33 = .ok (.isub, 1) := by decide +kernel
theorem dX3_addStick_34 : decode cX3_addStick 34 = .ok (.aaload, 1) := by decide +kernel
theorem dX3_addStick_35 : decode cX3_addStick 35 = .ok (.areturn, 1) := by decide +kernel
theorem dX3_addBow_0 : decode cX3_addBow 0 = .ok (.aload_n 0, 1) := by decide +kernel
theorem dX3_addBow_1 : decode cX3_addBow 1 = .ok (.getfield 36, 3) := by decide +kernel
theorem dX3_addBow_4 : decode cX3_addBow 4 = .ok (.aload_n 0, 1) := by decide +kernel
theorem dX3_addBow_5 : decode cX3_addBow 5 = .ok (.getfield 19, 3) := by decide +kernel
theorem dX3_addBow_8 : decode cX3_addBow 8 = .ok (.arraylength, 1) := by decide +kernel
theorem dX3_addBow_9 : decode cX3_addBow 9 = .ok (.if_icmp .lt 5, 3) := by decide +kernel
theorem dX3_addBow_12 : decode cX3_addBow 12 = .ok (.aconst_null, 1) := by decide +kernel
theorem dX3_addBow_13 : decode cX3_addBow 13 = .ok (.areturn, 1) := by decide +kernel
theorem dX3_addBow_14 : decode cX3_addBow 14 = .ok (.aload_n 0, 1) := by decide +kernel
theorem dX3_addBow_15 : decode cX3_addBow 15 = .ok (.dup, 1) := by decide +kernel
theorem dX3_addBow_16 : decode cX3_addBow 16 = .ok (.getfield 36, 3) := by decide +kernel
theorem dX3_addBow_19 : decode cX3_addBow 19 = .ok (.iconst 1, 1) := by decide +kernel
theorem dX3_addBow_20 : decode cX3_addBow 20 = .ok (.iadd, 1) := by decide +kernel
theorem dX3_addBow_21 : decode cX3_addBow 21 = .ok (.putfield 36, 3) := by decide +kernel
theorem dX3_addBow_24 : decode cX3_addBow 24 = .ok (.aload_n 0, 1) := by decide +kernel
theorem dX3_addBow_25 : decode cX3_addBow 25 = .ok (.getfield 19, 3) := by decide +kernel
theorem dX3_addBow_28 : decode cX3_addBow 28 = .ok (.aload_n 0, 1) := by decide +kernel
theorem dX3_addBow_29 : decode cX3_addBow 29 = .ok (.getfield 36, 3) := by decide +kernel
theorem dX3_addBow_32 : decode cX3_addBow 32 = .ok (.iconst 1, 1) := by decide +kernel
theorem dX3_addBow_33 : decode cX3_addBow 33 = .ok (.isub, 1) := by decide +kernel
theorem dX3_addBow_34 : decode cX3_addBow 34 = .ok (.aaload, 1) := by decide +kernel
theorem dX3_addBow_35 : decode cX3_addBow 35 = .ok (.areturn, 1) := by decide +kernel
theorem dX3_addArcher_0 : decode cX3_addArcher 0 = .ok (.aload_n 0, 1) := by decide +kernel
theorem dX3_addArcher_1 : decode cX3_addArcher 1 = .ok (.getfield 39, 3) := by decide +kernel
theorem dX3_addArcher_4 : decode cX3_addArcher 4 = .ok (.aload_n 0, 1) := by decide +kernel
theorem dX3_addArcher_5 : decode cX3_addArcher 5 = .ok (.getfield 25, 3) := by decide +kernel
theorem dX3_addArcher_8 : decode cX3_addArcher 8 = .ok (.arraylength, 1) := by decide +kernel
theorem dX3_addArcher_9 : decode cX3_addArcher 9 = .ok (.if_icmp .lt 5, 3) := by decide +kernel
theorem dX3_addArcher_12 : decode cX3_addArcher 12 = .ok (.aconst_null, 1) := by decide +kernel
theorem dX3_addArcher_13 : decode cX3_addArcher 13 = .ok (.areturn, 1) := by decide +kernel
theorem dX3_addArcher_14 : decode cX3_addArcher 14 = .ok (.aload_n 0, 1) := by decide +kernel
theorem dX3_addArcher_15 : decode cX3_addArcher 15 = .ok (.dup, 1) := by decide +kernel
theorem dX3_addArcher_16 : decode cX3_addArcher 16 = .ok (.getfield 39, 3) := by decide +kernel
theorem dX3_addArcher_19 : decode cX3_addArcher 19 = .ok (.iconst 1, 1) := by decide +kernel
theorem dX3_addArcher_20 : decode cX3_addArcher 20 = .ok (.iadd, 1) := by decide +kernel
theorem dX3_addArcher_21 : decode cX3_addArcher 21 = .ok (.putfield 39, 3) := by decide +kernel
theorem dX3_addArcher_24 : decode cX3_addArcher 24 = .ok (.aload_n 0, 1) := by decide +kernel
theorem dX3_addArcher_25 : decode cX3_addArcher 25 = .ok (.getfield 25, 3) := by decide +kernel
theorem dX3_addArcher_28 : decode cX3_addArcher 28 = .ok (.aload_n 0, 1) := by decide +kernel
theorem dX3_addArcher_29 : decode cX3_addArcher 29 = .ok (.getfield 39, 3) := by decide +kernel
theorem dX3_addArcher_32 : decode cX3_addArcher 32 = .ok (.iconst 1, 1) := by decide +kernel
theorem dX3_addArcher_33 : decode cX3_addArcher 33 = .ok (.isub, 1) := by decide +kernel
theorem dX3_addArcher_34 : decode cX3_addArcher 34 = .ok (.aaload, 1) := by decide +kernel
theorem dX3_addArcher_35 : decode cX3_addArcher 35 = .ok (.areturn, 1) := by decide +kernel
theorem dX4_init_0 : decode cX4_init 0 = .ok (.aload_n 0, 1) := by decide +kernel
theorem dX4_init_1 : decode cX4_init 1 = .ok (.invokespecial 3, 3) := by decide +kernel
theorem dX4_init_4 : decode cX4_init 4 = .ok (.aload_n 0, 1) := by decide +kernel
theorem dX4_init_5 : decode cX4_init 5 = .ok (.bipush 12, 2) := by decide +kernel
theorem dX4_init_7 : decode cX4_init 7 = .ok (.anewarray 9, 3) := by decide +kernel
theorem dX4_init_10 : decode cX4_init 10 = .ok (.putfield 11, 3) := by decide +kernel
theorem dX4_init_13 : decode cX4_init 13 = .ok (.aload_n 0, 1) := by decide +kernel
theorem dX4_init_14 : decode cX4_init 14 = .ok (.new 17, 3) := by decide +kernel
theorem dX4_init_17 : decode cX4_init 17 = .ok (.dup, 1) := by decide +kernel
theorem dX4_init_18 : decode cX4_init 18 = .ok (.invokespecial 19, 3) := by decide +kernel
theorem dX4_init_21 : decode cX4_init 21 = .ok (.putfield 20, 3) := by decide +kernel
theorem dX4_init_24 : decode cX4_init 24 = .ok (.iconst 0, 1) := by decide +kernel
theorem dX4_init_25 : decode cX4_init 25 = .ok (.istore_n 1, 1) := by decide +kernel
theorem dX4_init_26 : decode cX4_init 26 = .ok (.iload_n 1, 1) := by decide +kernel
theorem dX4_init_27 : decode cX4_init 27 = .ok (.aload_n 0, 1) := by decide +kernel
theorem dX4_init_28 : decode cX4_init 28 = .ok (.getfield 11, 3) := by decide +kernel
theorem dX4_init_31 : decode cX4_init 31 = .ok (.arraylength, 1) := by decide +kernel
theorem dX4_init_32 : decode cX4_init 32 = .ok (.if_icmp .ge 22, 3) := by decide +kernel
theorem dX4_init_35 : decode cX4_init 35 = .ok (.aload_n 0, 1) := by decide +kernel
theorem dX4_init_36 : decode cX4_init 36 = .ok (.getfield 11, 3) := by decide +kernel
theorem dX4_init_39 : decode cX4_init 39 = .ok (.iload_n 1, 1) := by decide +kernel
theorem dX4_init_40 : decode cX4_init 40 = .ok (.new 9, 3) := by decide +kernel
theorem dX4_init_43 : decode cX4_init 43 = .ok (.dup, 1) := by decide +kernel
theorem dX4_init_44 : decode cX4_init 44 = .ok (.invokespecial 24, 3) := by decide +kernel
theorem dX4_init_47 : decode cX4_init 47 = .ok (.aastore, 1) := by decide +kernel
theorem dX4_init_48 : decode cX4_init 48 = .ok (.iinc 1 1, 3) := by decide +kernel
theorem dX4_init_51 : decode cX4_init 51 = .ok (.goto (-25), 3) := by decide +kernel
theorem dX4_init_54 : decode cX4_init 54 = .ok (.return_, 1) := by decide +kernel
theorem dX4_take_0 : decode cX4_take 0 = .ok (.iconst 0, 1) := by decide +kernel
theorem dX4_take_1 : decode cX4_take 1 = .ok (.istore 4, 2) := by decide +kernel
theorem dX4_take_3 : decode cX4_take 3 = .ok (.iload 4, 2) := by decide +kernel
theorem dX4_take_5 : decode cX4_take 5 = .ok (.aload_n 1, 1) := by decide +kernel
theorem dX4_take_6 : decode cX4_take 6 = .ok (.getfield 25, 3) := by decide +kernel
theorem dX4_take_9 : decode cX4_take 9 = .ok (.if_icmp .ge 36, 3) := by decide +kernel
theorem dX4_take_12 : decode cX4_take 12 = .ok (.iload 4, 2) := by decide +kernel
theorem dX4_take_14 : decode cX4_take 14 = .ok (.aload_n 0, 1) := by decide +kernel
theorem dX4_take_15 : decode cX4_take 15 = .ok (.getfield 11, 3) := by decide +kernel
theorem dX4_take_18 : decode cX4_take 18 = .ok (.arraylength, 1) := by decide +kernel
theorem dX4_take_19 : decode cX4_take 19 = .ok (.if_icmp .ge 26, 3) := by decide +kernel
theorem dX4_take_22 : decode cX4_take 22 = .ok (.aload_n 0, 1) := by decide +kernel
theorem dX4_take_23 : decode cX4_take 23 = .ok (.getfield 11, 3) := by decide +kernel
theorem dX4_take_26 : decode cX4_take 26 = .ok (.iload 4, 2) := by decide +kernel
theorem dX4_take_28 : decode cX4_take 28 = .ok (.aaload, 1) := by decide +kernel
theorem dX4_take_29 : decode cX4_take 29 = .ok (.aload_n 1, 1) := by decide +kernel
theorem dX4_take_30 : decode cX4_take 30 = .ok (.getfield 31, 3) := by decide +kernel
theorem dX4_take_33 : decode cX4_take 33 = .ok (.iload 4, 2) := by decide +kernel
theorem dX4_take_35 : decode cX4_take 35 = .ok (.aaload, 1) := by decide +kernel
theorem dX4_take_36 : decode cX4_take 36 = .ok (.invokevirtual 32, 3) := by decide +kernel
theorem dX4_take_39 : decode cX4_take 39 = .ok (.iinc 4 1, 3) := by decide +kernel
theorem dX4_take_42 : decode cX4_take 42 = .ok (.goto (-39), 3) := by decide +kernel
theorem dX4_take_45 : decode cX4_take 45 = .ok (.aload_n 0, 1) := by decide +kernel
theorem dX4_take_46 : decode cX4_take 46 = .ok (.getfield 20, 3) := by decide +kernel
theorem dX4_take_49 : decode cX4_take 49 = .ok (.aload_n 2, 1) := by decide +kernel
theorem dX4_take_50 : decode cX4_take 50 = .ok (.invokevirtual 36, 3) := by decide +kernel
theorem dX4_take_53 : decode cX4_take 53 = .ok (.aload_n 0, 1) := by decide +kernel
theorem dX4_take_54 : decode cX4_take 54 = .ok (.iload_n 3, 1) := by decide +kernel
theorem dX4_take_55 : decode cX4_take 55 = .ok (.putfield 39, 3) := by decide +kernel
theorem dX4_take_58 : decode cX4_take 58 = .ok (.aload_n 0, 1) := by decide +kernel
theorem dX4_take_59 : decode cX4_take 59 = .ok (.iconst 1, 1) := by decide +kernel
theorem dX4_take_60 : decode cX4_take 60 = .ok (.putfield 42, 3) := by decide +kernel
theorem dX4_take_63 : decode cX4_take 63 = .ok (.return_, 1) := by decide +kernel
theorem dX4_give_0 : decode cX4_give 0 = .ok (.iconst 0, 1) := by decide +kernel
theorem dX4_give_1 : decode cX4_give 1 = .ok (.istore_n 3, 1) := by decide +kernel
theorem dX4_give_2 : decode cX4_give 2 = .ok (.iload_n 3, 1) := by decide +kernel
theorem dX4_give_3 : decode cX4_give 3 = .ok (.aload_n 1, 1) := by decide +kernel
theorem dX4_give_4 : decode cX4_give 4 = .ok (.getfield 25, 3) := by decide +kernel
theorem dX4_give_7 : decode cX4_give 7 = .ok (.if_icmp .ge 33, 3) := by decide +kernel
theorem dX4_give_10 : decode cX4_give 10 = .ok (.iload_n 3, 1) := by decide +kernel
theorem dX4_give_11 : decode cX4_give 11 = .ok (.aload_n 0, 1) := by decide +kernel
theorem dX4_give_12 : decode cX4_give 12 = .ok (.getfield 11, 3) := by decide +kernel
theorem dX4_give_15 : decode cX4_give 15 = .ok (.arraylength, 1) := by decide +kernel
theorem dX4_give_16 : decode cX4_give 16 = .ok (.if_icmp .ge 24, 3) := by decide +kernel
theorem dX4_give_19 : decode cX4_give 19 = .ok (.aload_n 1, 1) := by decide +kernel
theorem dX4_give_20 : decode cX4_give 20 = .ok (.getfield 31, 3) := by decide +kernel
theorem dX4_give_23 : decode cX4_give 23 = .ok (.iload_n 3, 1) := by decide +kernel
theorem dX4_give_24 : decode cX4_give 24 = .ok (.aaload, 1) := by decide +kernel
theorem dX4_give_25 : decode cX4_give 25 = .ok (.aload_n 0, 1) := by decide +kernel
theorem dX4_give_26 : decode cX4_give 26 = .ok (.getfield 11, 3) := by decide +kernel
theorem dX4_give_29 : decode cX4_give 29 = .ok (.iload_n 3, 1) := by decide +kernel
theorem dX4_give_30 : decode cX4_give 30 = .ok (.aaload, 1) := by decide +kernel
theorem dX4_give_31 : decode cX4_give 31 = .ok (.invokevirtual 32, 3) := by decide +kernel
theorem dX4_give_34 : decode cX4_give 34 = .ok (.iinc 3 1, 3) := by decide +kernel
theorem dX4_give_37 : decode cX4_give 37 = .ok (.goto (-35), 3) := by decide +kernel
theorem dX4_give_40 : decode cX4_give 40 = .ok (.aload_n 2, 1) := by decide +kernel
theorem dX4_give_41 : decode cX4_give 41 = .ok (.aload_n 0, 1) := by decide +kernel
theorem dX4_give_42 : decode cX4_give 42 = .ok (.getfield 20, 3) := by decide +kernel
theorem dX4_give_45 : decode cX4_give 45 = .ok (.invokevirtual 36, 3) := by decide +kernel
theorem dX4_give_48 : decode cX4_give 48 = .ok (.return_, 1) := by decide +kernel
theorem dX5_init_0 : decode cX5_init 0 = .ok (.aload_n 0, 1) := by decide +kernel
theorem dX5_init_1 : decode cX5_init 1 = .ok (.invokespecial 3, 3) := by decide +kernel
theorem dX5_init_4 : decode cX5_init 4 = .ok (.return_, 1) := by decide +kernel
theorem dX5_rateAs_0 : decode cX5_rateAs 0 = .ok (.iload_n 1, 1) := by decide +kernel
theorem dX5_rateAs_1 : decode cX5_rateAs 1 = .ok (.tableswitch 79 0 5 #[39, 45, 51, 58, 66, 73], 39) := by decide +kernel
theorem dX5_rateAs_40 : decode cX5_rateAs 40 = .ok (.aload_n 0, 1) := by decide +kernel
theorem dX5_rateAs_41 : decode cX5_rateAs 41 = .ok (.aload_n 2, 1) := by decide +kernel
theorem dX5_rateAs_42 : decode cX5_rateAs 42 = .ok (.invokevirtual 9, 3) := by decide +kernel
theorem dX5_rateAs_45 : decode cX5_rateAs 45 = .ok (.ireturn, 1) := by decide +kernel
theorem dX5_rateAs_46 : decode cX5_rateAs 46 = .ok (.aload_n 0, 1) := by decide +kernel
theorem dX5_rateAs_47 : decode cX5_rateAs 47 = .ok (.aload_n 2, 1) := by decide +kernel
theorem dX5_rateAs_48 : decode cX5_rateAs 48 = .ok (.invokevirtual 15, 3) := by decide +kernel
theorem dX5_rateAs_51 : decode cX5_rateAs 51 = .ok (.ireturn, 1) := by decide +kernel
theorem dX5_rateAs_52 : decode cX5_rateAs 52 = .ok (.aload_n 0, 1) := by decide +kernel
theorem dX5_rateAs_53 : decode cX5_rateAs 53 = .ok (.aload_n 2, 1) := by decide +kernel
theorem dX5_rateAs_54 : decode cX5_rateAs 54 = .ok (.aload_n 3, 1) := by decide +kernel
theorem dX5_rateAs_55 : decode cX5_rateAs 55 = .ok (.invokevirtual 18, 3) := by decide +kernel
theorem dX5_rateAs_58 : decode cX5_rateAs 58 = .ok (.ireturn, 1) := by decide +kernel
theorem dX5_rateAs_59 : decode cX5_rateAs 59 = .ok (.aload_n 0, 1) := by decide +kernel
theorem dX5_rateAs_60 : decode cX5_rateAs 60 = .ok (.aload_n 2, 1) := by decide +kernel
theorem dX5_rateAs_61 : decode cX5_rateAs 61 = .ok (.iload 4, 2) := by decide +kernel
theorem dX5_rateAs_63 : decode cX5_rateAs 63 = .ok (.invokevirtual 22, 3) := by decide +kernel
theorem dX5_rateAs_66 : decode cX5_rateAs 66 = .ok (.ireturn, 1) := by decide +kernel
theorem dX5_rateAs_67 : decode cX5_rateAs 67 = .ok (.aload_n 0, 1) := by decide +kernel
theorem dX5_rateAs_68 : decode cX5_rateAs 68 = .ok (.aload_n 2, 1) := by decide +kernel
theorem dX5_rateAs_69 : decode cX5_rateAs 69 = .ok (.aload_n 3, 1) := by decide +kernel
theorem dX5_rateAs_70 : decode cX5_rateAs 70 = .ok (.invokevirtual 26, 3) := by decide +kernel
theorem dX5_rateAs_73 : decode cX5_rateAs 73 = .ok (.ireturn, 1) := by decide +kernel
theorem dX5_rateAs_74 : decode cX5_rateAs 74 = .ok (.aload_n 0, 1) := by decide +kernel
theorem dX5_rateAs_75 : decode cX5_rateAs 75 = .ok (.aload_n 2, 1) := by decide +kernel
theorem dX5_rateAs_76 : decode cX5_rateAs 76 = .ok (.invokevirtual 29, 3) := by decide +kernel
theorem dX5_rateAs_79 : decode cX5_rateAs 79 = .ok (.ireturn, 1) := by decide +kernel
theorem dX5_rateAs_80 : decode cX5_rateAs 80 = .ok (.ldc 32, 2) := by decide +kernel
theorem dX5_rateAs_82 : decode cX5_rateAs 82 = .ok (.ireturn, 1) := by decide +kernel
theorem dX5_ofFlight_0 : decode cX5_ofFlight 0 = .ok (.aload_n 0, 1) := by decide +kernel
theorem dX5_ofFlight_1 : decode cX5_ofFlight 1 = .ok (.dup, 1) := by decide +kernel
theorem dX5_ofFlight_2 : decode cX5_ofFlight 2 = .ok (.getfield 33, 3) := by decide +kernel
theorem dX5_ofFlight_5 : decode cX5_ofFlight 5 = .ok (.lconst 1, 1) := by decide +kernel
theorem dX5_ofFlight_6 : decode cX5_ofFlight 6 = .ok (.ladd, 1) := by decide +kernel
theorem dX5_ofFlight_7 : decode cX5_ofFlight 7 = .ok (.putfield 33, 3) := by decide +kernel
theorem dX5_ofFlight_10 : decode cX5_ofFlight 10 = .ok (.aload_n 1, 1) := by decide +kernel
theorem dX5_ofFlight_11 : decode cX5_ofFlight 11 = .ok (.invokevirtual 37, 3) := by decide +kernel
theorem dX5_ofFlight_14 : decode cX5_ofFlight 14 = .ok (.ireturn, 1) := by decide +kernel
theorem dX5_ofClean_0 : decode cX5_ofClean 0 = .ok (.aload_n 0, 1) := by decide +kernel
theorem dX5_ofClean_1 : decode cX5_ofClean 1 = .ok (.dup, 1) := by decide +kernel
theorem dX5_ofClean_2 : decode cX5_ofClean 2 = .ok (.getfield 33, 3) := by decide +kernel
theorem dX5_ofClean_5 : decode cX5_ofClean 5 = .ok (.ldc2_w 43, 3) := by decide +kernel
theorem dX5_ofClean_8 : decode cX5_ofClean 8 = .ok (.ladd, 1) := by decide +kernel
theorem dX5_ofClean_9 : decode cX5_ofClean 9 = .ok (.putfield 33, 3) := by decide +kernel
theorem dX5_ofClean_12 : decode cX5_ofClean 12 = .ok (.aload_n 0, 1) := by decide +kernel
theorem dX5_ofClean_13 : decode cX5_ofClean 13 = .ok (.aload_n 1, 1) := by decide +kernel
theorem dX5_ofClean_14 : decode cX5_ofClean 14 = .ok (.invokevirtual 9, 3) := by decide +kernel
theorem dX5_ofClean_17 : decode cX5_ofClean 17 = .ok (.aload_n 1, 1) := by decide +kernel
theorem dX5_ofClean_18 : decode cX5_ofClean 18 = .ok (.getfield 45, 3) := by decide +kernel
theorem dX5_ofClean_21 : decode cX5_ofClean 21 = .ok (.iadd, 1) := by decide +kernel
theorem dX5_ofClean_22 : decode cX5_ofClean 22 = .ok (.ireturn, 1) := by decide +kernel
theorem dX5_ofStiff_0 : decode cX5_ofStiff 0 = .ok (.aload_n 0, 1) := by decide +kernel
theorem dX5_ofStiff_1 : decode cX5_ofStiff 1 = .ok (.dup, 1) := by decide +kernel
theorem dX5_ofStiff_2 : decode cX5_ofStiff 2 = .ok (.getfield 33, 3) := by decide +kernel
theorem dX5_ofStiff_5 : decode cX5_ofStiff 5 = .ok (.ldc2_w 49, 3) := by decide +kernel
theorem dX5_ofStiff_8 : decode cX5_ofStiff 8 = .ok (.ladd, 1) := by decide +kernel
theorem dX5_ofStiff_9 : decode cX5_ofStiff 9 = .ok (.putfield 33, 3) := by decide +kernel
theorem dX5_ofStiff_12 : decode cX5_ofStiff 12 = .ok (.aload_n 0, 1) := by decide +kernel
theorem dX5_ofStiff_13 : decode cX5_ofStiff 13 = .ok (.aload_n 1, 1) := by decide +kernel
theorem dX5_ofStiff_14 : decode cX5_ofStiff 14 = .ok (.invokevirtual 9, 3) := by decide +kernel
theorem dX5_ofStiff_17 : decode cX5_ofStiff 17 = .ok (.aload_n 2, 1) := by decide +kernel
theorem dX5_ofStiff_18 : decode cX5_ofStiff 18 = .ok (.aload_n 1, 1) := by decide +kernel
theorem dX5_ofStiff_19 : decode cX5_ofStiff 19 = .ok (.aload_n 1, 1) := by decide +kernel
theorem dX5_ofStiff_20 : decode cX5_ofStiff 20 = .ok (.getfield 51, 3) := by decide +kernel
theorem dX5_ofStiff_23 : decode cX5_ofStiff 23 = .ok (.invokevirtual 54, 3) := by decide +kernel
theorem dX5_ofStiff_26 : decode cX5_ofStiff 26 = .ok (.isub, 1) := by decide +kernel
theorem dX5_ofStiff_27 : decode cX5_ofStiff 27 = .ok (.ireturn, 1) := by decide +kernel
theorem dX5_ofWindy_0 : decode cX5_ofWindy 0 = .ok (.aload_n 0, 1) := by decide +kernel
theorem dX5_ofWindy_1 : decode cX5_ofWindy 1 = .ok (.dup, 1) := by decide +kernel
theorem dX5_ofWindy_2 : decode cX5_ofWindy 2 = .ok (.getfield 33, 3) := by decide +kernel
theorem dX5_ofWindy_5 : decode cX5_ofWindy 5 = .ok (.ldc2_w 59, 3) := by decide +kernel
theorem dX5_ofWindy_8 : decode cX5_ofWindy 8 = .ok (.ladd, 1) := by decide +kernel
theorem dX5_ofWindy_9 : decode cX5_ofWindy 9 = .ok (.putfield 33, 3) := by decide +kernel
theorem dX5_ofWindy_12 : decode cX5_ofWindy 12 = .ok (.aload_n 0, 1) := by decide +kernel
theorem dX5_ofWindy_13 : decode cX5_ofWindy 13 = .ok (.aload_n 1, 1) := by decide +kernel
theorem dX5_ofWindy_14 : decode cX5_ofWindy 14 = .ok (.invokevirtual 15, 3) := by decide +kernel
theorem dX5_ofWindy_17 : decode cX5_ofWindy 17 = .ok (.iload_n 2, 1) := by decide +kernel
theorem dX5_ofWindy_18 : decode cX5_ofWindy 18 = .ok (.iadd, 1) := by decide +kernel
theorem dX5_ofWindy_19 : decode cX5_ofWindy 19 = .ok (.ireturn, 1) := by decide +kernel
theorem dX5_ofSlapped_0 : decode cX5_ofSlapped 0 = .ok (.aload_n 0, 1) := by decide +kernel
theorem dX5_ofSlapped_1 : decode cX5_ofSlapped 1 = .ok (.dup, 1) := by decide +kernel
theorem dX5_ofSlapped_2 : decode cX5_ofSlapped 2 = .ok (.getfield 33, 3) := by decide +kernel
theorem dX5_ofSlapped_5 : decode cX5_ofSlapped 5 = .ok (.ldc2_w 61, 3) := by decide +kernel
theorem dX5_ofSlapped_8 : decode cX5_ofSlapped 8 = .ok (.ladd, 1) := by decide +kernel
theorem dX5_ofSlapped_9 : decode cX5_ofSlapped 9 = .ok (.putfield 33, 3) := by decide +kernel
theorem dX5_ofSlapped_12 : decode cX5_ofSlapped 12 = .ok (.iconst 2, 1) := by decide +kernel
theorem dX5_ofSlapped_13 : decode cX5_ofSlapped 13 = .ok (.aload_n 0, 1) := by decide +kernel
theorem dX5_ofSlapped_14 : decode cX5_ofSlapped 14 = .ok (.aload_n 1, 1) := by decide +kernel
theorem dX5_ofSlapped_15 : decode cX5_ofSlapped 15 = .ok (.aload_n 2, 1) := by decide +kernel
theorem dX5_ofSlapped_16 : decode cX5_ofSlapped 16 = .ok (.invokevirtual 18, 3) := by decide +kernel
theorem dX5_ofSlapped_19 : decode cX5_ofSlapped 19 = .ok (.imul, 1) := by decide +kernel
theorem dX5_ofSlapped_20 : decode cX5_ofSlapped 20 = .ok (.ireturn, 1) := by decide +kernel
theorem dX5_ofSoft_0 : decode cX5_ofSoft 0 = .ok (.aload_n 0, 1) := by decide +kernel
theorem dX5_ofSoft_1 : decode cX5_ofSoft 1 = .ok (.dup, 1) := by decide +kernel
theorem dX5_ofSoft_2 : decode cX5_ofSoft 2 = .ok (.getfield 33, 3) := by decide +kernel
theorem dX5_ofSoft_5 : decode cX5_ofSoft 5 = .ok (.ldc2_w 63, 3) := by decide +kernel
theorem dX5_ofSoft_8 : decode cX5_ofSoft 8 = .ok (.ladd, 1) := by decide +kernel
theorem dX5_ofSoft_9 : decode cX5_ofSoft 9 = .ok (.putfield 33, 3) := by decide +kernel
theorem dX5_ofSoft_12 : decode cX5_ofSoft 12 = .ok (.aload_n 0, 1) := by decide +kernel
theorem dX5_ofSoft_13 : decode cX5_ofSoft 13 = .ok (.aload_n 1, 1) := by decide +kernel
theorem dX5_ofSoft_14 : decode cX5_ofSoft 14 = .ok (.invokevirtual 9, 3) := by decide +kernel
theorem dX5_ofSoft_17 : decode cX5_ofSoft 17 = .ok (.aload_n 1, 1) := by decide +kernel
theorem dX5_ofSoft_18 : decode cX5_ofSoft 18 = .ok (.getfield 65, 3) := by decide +kernel
theorem dX5_ofSoft_21 : decode cX5_ofSoft 21 = .ok (.iadd, 1) := by decide +kernel
theorem dX5_ofSoft_22 : decode cX5_ofSoft 22 = .ok (.ireturn, 1) := by decide +kernel
theorem dX6_init_0 : decode cX6_init 0 = .ok (.aload_n 0, 1) := by decide +kernel
theorem dX6_init_1 : decode cX6_init 1 = .ok (.invokespecial 3, 3) := by decide +kernel
theorem dX6_init_4 : decode cX6_init 4 = .ok (.return_, 1) := by decide +kernel
theorem dX6_tell_0 : decode cX6_tell 0 = .ok (.aload_n 0, 1) := by decide +kernel
theorem dX6_tell_1 : decode cX6_tell 1 = .ok (.getfield 9, 3) := by decide +kernel
theorem dX6_tell_4 : decode cX6_tell 4 = .ok (.bipush (-9), 2) := by decide +kernel
theorem dX6_tell_6 : decode cX6_tell 6 = .ok (.if_icmp .ne 6, 3) := by decide +kernel
theorem dX6_tell_9 : decode cX6_tell 9 = .ok (.bipush (-9), 2) := by decide +kernel
theorem dX6_tell_11 : decode cX6_tell 11 = .ok (.ireturn, 1) := by decide +kernel
theorem dX6_tell_12 : decode cX6_tell 12 = .ok (.iload_n 1, 1) := by decide +kernel
theorem dX6_tell_13 : decode cX6_tell 13 = .ok (.tableswitch 60 0 4 #[35, 40, 45, 50, 55], 35) := by decide +kernel
theorem dX6_tell_48 : decode cX6_tell 48 = .ok (.aload_n 0, 1) := by decide +kernel
theorem dX6_tell_49 : decode cX6_tell 49 = .ok (.getfield 9, 3) := by decide +kernel
theorem dX6_tell_52 : decode cX6_tell 52 = .ok (.ireturn, 1) := by decide +kernel
theorem dX6_tell_53 : decode cX6_tell 53 = .ok (.aload_n 0, 1) := by decide +kernel
theorem dX6_tell_54 : decode cX6_tell 54 = .ok (.getfield 15, 3) := by decide +kernel
theorem dX6_tell_57 : decode cX6_tell 57 = .ok (.ireturn, 1) := by decide +kernel
theorem dX6_tell_58 : decode cX6_tell 58 = .ok (.aload_n 0, 1) := by decide +kernel
theorem dX6_tell_59 : decode cX6_tell 59 = .ok (.getfield 18, 3) := by decide +kernel
theorem dX6_tell_62 : decode cX6_tell 62 = .ok (.ireturn, 1) := by decide +kernel
theorem dX6_tell_63 : decode cX6_tell 63 = .ok (.aload_n 0, 1) := by decide +kernel
theorem dX6_tell_64 : decode cX6_tell 64 = .ok (.getfield 21, 3) := by decide +kernel
theorem dX6_tell_67 : decode cX6_tell 67 = .ok (.ireturn, 1) := by decide +kernel
theorem dX6_tell_68 : decode cX6_tell 68 = .ok (.aload_n 0, 1) := by decide +kernel
theorem dX6_tell_69 : decode cX6_tell 69 = .ok (.getfield 24, 3) := by decide +kernel
theorem dX6_tell_72 : decode cX6_tell 72 = .ok (.ireturn, 1) := by decide +kernel
theorem dX6_tell_73 : decode cX6_tell 73 = .ok (.iconst (-1), 1) := by decide +kernel
theorem dX6_tell_74 : decode cX6_tell 74 = .ok (.ireturn, 1) := by decide +kernel
theorem dX6_find_0 : decode cX6_find 0 = .ok (.bipush 15, 2) := by decide +kernel
theorem dX6_find_2 : decode cX6_find 2 = .ok (.aload_n 1, 1) := by decide +kernel
theorem dX6_find_3 : decode cX6_find 3 = .ok (.invokevirtual 27, 3) := by decide +kernel
theorem dX6_find_6 : decode cX6_find 6 = .ok (.invokestatic 33, 3) := by decide +kernel
theorem dX6_find_9 : decode cX6_find 9 = .ok (.istore 6, 2) := by decide +kernel
theorem dX6_find_11 : decode cX6_find 11 = .ok (.bipush 15, 2) := by decide +kernel
theorem dX6_find_13 : decode cX6_find 13 = .ok (.aload_n 1, 1) := by decide +kernel
theorem dX6_find_14 : decode cX6_find 14 = .ok (.invokevirtual 39, 3) := by decide +kernel
theorem dX6_find_17 : decode cX6_find 17 = .ok (.invokestatic 33, 3) := by decide +kernel
theorem dX6_find_20 : decode cX6_find 20 = .ok (.istore 7, 2) := by decide +kernel
theorem dX6_find_22 : decode cX6_find 22 = .ok (.bipush 15, 2) := by decide +kernel
theorem dX6_find_24 : decode cX6_find 24 = .ok (.aload_n 1, 1) := by decide +kernel
theorem dX6_find_25 : decode cX6_find 25 = .ok (.invokevirtual 42, 3) := by decide +kernel
theorem dX6_find_28 : decode cX6_find 28 = .ok (.invokestatic 33, 3) := by decide +kernel
theorem dX6_find_31 : decode cX6_find 31 = .ok (.istore 8, 2) := by decide +kernel
theorem dX6_find_33 : decode cX6_find 33 = .ok (.aload_n 0, 1) := by decide +kernel
theorem dX6_find_34 : decode cX6_find 34 = .ok (.bipush (-9), 2) := by decide +kernel
theorem dX6_find_36 : decode cX6_find 36 = .ok (.putfield 9, 3) := by decide +kernel
theorem dX6_find_39 : decode cX6_find 39 = .ok (.iconst 0, 1) := by decide +kernel
theorem dX6_find_40 : decode cX6_find 40 = .ok (.istore 9, 2) := by decide +kernel
theorem dX6_find_42 : decode cX6_find 42 = .ok (.iload 9, 2) := by decide +kernel
theorem dX6_find_44 : decode cX6_find 44 = .ok (.iconst 1, 1) := by decide +kernel
theorem dX6_find_45 : decode cX6_find 45 = .ok (.if_icmp .gt 176, 3) := by decide +kernel
theorem dX6_find_48 : decode cX6_find 48 = .ok (.aload_n 1, 1) := by decide +kernel
theorem dX6_find_49 : decode cX6_find 49 = .ok (.iload 9, 2) := by decide +kernel
theorem dX6_find_51 : decode cX6_find 51 = .ok (.ifCond .ne 10, 3) := by decide +kernel
theorem dX6_find_54 : decode cX6_find 54 = .ok (.aload_n 1, 1) := by decide +kernel
theorem dX6_find_55 : decode cX6_find 55 = .ok (.getfield 45, 3) := by decide +kernel
theorem dX6_find_58 : decode cX6_find 58 = .ok (.goto 9, 3) := by decide +kernel
theorem dX6_find_61 : decode cX6_find 61 = .ok (.iconst 1, 1) := by decide +kernel
theorem dX6_find_62 : decode cX6_find 62 = .ok (.aload_n 1, 1) := by decide +kernel
theorem dX6_find_63 : decode cX6_find 63 = .ok (.getfield 45, 3) := by decide +kernel
theorem dX6_find_66 : decode cX6_find 66 = .ok (.isub, 1) := by decide +kernel
theorem dX6_find_67 : decode cX6_find 67 = .ok (.invokevirtual 48, 3) := by decide +kernel
theorem dX6_find_70 : decode cX6_find 70 = .ok (.istore 10, 2) := by decide +kernel
theorem dX6_find_72 : decode cX6_find 72 = .ok (.iconst 0, 1) := by decide +kernel
theorem dX6_find_73 : decode cX6_find 73 = .ok (.istore 11, 2) := by decide +kernel
theorem dX6_find_75 : decode cX6_find 75 = .ok (.iload 11, 2) := by decide +kernel
theorem dX6_find_77 : decode cX6_find 77 = .ok (.iload 6, 2) := by decide +kernel
theorem dX6_find_79 : decode cX6_find 79 = .ok (.if_icmp .gt 136, 3) := by decide +kernel
theorem dX6_find_82 : decode cX6_find 82 = .ok (.iconst 0, 1) := by decide +kernel
theorem dX6_find_83 : decode cX6_find 83 = .ok (.istore 12, 2) := by decide +kernel
theorem dX6_find_85 : decode cX6_find 85 = .ok (.iload 12, 2) := by decide +kernel
theorem dX6_find_87 : decode cX6_find 87 = .ok (.iload 7, 2) := by decide +kernel
theorem dX6_find_89 : decode cX6_find 89 = .ok (.if_icmp .gt 120, 3) := by decide +kernel
theorem dX6_find_92 : decode cX6_find 92 = .ok (.iconst 0, 1) := by decide +kernel
theorem dX6_find_93 : decode cX6_find 93 = .ok (.istore 13, 2) := by decide +kernel
theorem dX6_find_95 : decode cX6_find 95 = .ok (.iload 13, 2) := by decide +kernel
theorem dX6_find_97 : decode cX6_find 97 = .ok (.iload 8, 2) := by decide +kernel
theorem dX6_find_99 : decode cX6_find 99 = .ok (.if_icmp .gt 104, 3) := by decide +kernel
theorem dX6_find_102 : decode cX6_find 102 = .ok (.aload_n 0, 1) := by decide +kernel
theorem dX6_find_103 : decode cX6_find 103 = .ok (.iload 9, 2) := by decide +kernel
theorem dX6_find_105 : decode cX6_find 105 = .ok (.iload 11, 2) := by decide +kernel
theorem dX6_find_107 : decode cX6_find 107 = .ok (.iadd, 1) := by decide +kernel
theorem dX6_find_108 : decode cX6_find 108 = .ok (.iload 12, 2) := by decide +kernel
theorem dX6_find_110 : decode cX6_find 110 = .ok (.iadd, 1) := by decide +kernel
theorem dX6_find_111 : decode cX6_find 111 = .ok (.iload 13, 2) := by decide +kernel
theorem dX6_find_113 : decode cX6_find 113 = .ok (.iadd, 1) := by decide +kernel
theorem dX6_find_114 : decode cX6_find 114 = .ok (.invokevirtual 52, 3) := by decide +kernel
theorem dX6_find_117 : decode cX6_find 117 = .ok (.ifCond .eq 86, 3) := by decide +kernel
theorem dX6_find_120 : decode cX6_find 120 = .ok (.iload 10, 2) := by decide +kernel
theorem dX6_find_122 : decode cX6_find 122 = .ok (.iload 12, 2) := by decide +kernel
theorem dX6_find_124 : decode cX6_find 124 = .ok (.isub, 1) := by decide +kernel
theorem dX6_find_125 : decode cX6_find 125 = .ok (.aload_n 1, 1) := by decide +kernel
theorem dX6_find_126 : decode cX6_find 126 = .ok (.getfield 56, 3) := by decide +kernel
theorem dX6_find_129 : decode cX6_find 129 = .ok (.iload 11, 2) := by decide +kernel
theorem dX6_find_131 : decode cX6_find 131 = .ok (.isub, 1) := by decide +kernel
theorem dX6_find_132 : decode cX6_find 132 = .ok (.aload_n 1, 1) := by decide +kernel
theorem dX6_find_133 : decode cX6_find 133 = .ok (.getfield 59, 3) := by decide +kernel
theorem dX6_find_136 : decode cX6_find 136 = .ok (.iconst 5, 1) := by decide +kernel
theorem dX6_find_137 : decode cX6_find 137 = .ok (.iload 13, 2) := by decide +kernel
theorem dX6_find_139 : decode cX6_find 139 = .ok (.imul, 1) := by decide +kernel
theorem dX6_find_140 : decode cX6_find 140 = .ok (.iadd, 1) := by decide +kernel
theorem dX6_find_141 : decode cX6_find 141 = .ok (.invokestatic 62, 3) := by decide +kernel
theorem dX6_find_144 : decode cX6_find 144 = .ok (.iload_n 2, 1) := by decide +kernel
theorem dX6_find_145 : decode cX6_find 145 = .ok (.isub, 1) := by decide +kernel
theorem dX6_find_146 : decode cX6_find 146 = .ok (.istore 14, 2) := by decide +kernel
theorem dX6_find_148 : decode cX6_find 148 = .ok (.aload_n 1, 1) := by decide +kernel
theorem dX6_find_149 : decode cX6_find 149 = .ok (.invokevirtual 66, 3) := by decide +kernel
theorem dX6_find_152 : decode cX6_find 152 = .ok (.iconst 2, 1) := by decide +kernel
theorem dX6_find_153 : decode cX6_find 153 = .ok (.iload 12, 2) := by decide +kernel
theorem dX6_find_155 : decode cX6_find 155 = .ok (.imul, 1) := by decide +kernel
theorem dX6_find_156 : decode cX6_find 156 = .ok (.isub, 1) := by decide +kernel
theorem dX6_find_157 : decode cX6_find 157 = .ok (.iconst 5, 1) := by decide +kernel
theorem dX6_find_158 : decode cX6_find 158 = .ok (.iload 13, 2) := by decide +kernel
theorem dX6_find_160 : decode cX6_find 160 = .ok (.imul, 1) := by decide +kernel
theorem dX6_find_161 : decode cX6_find 161 = .ok (.iadd, 1) := by decide +kernel
theorem dX6_find_162 : decode cX6_find 162 = .ok (.istore 15, 2) := by decide +kernel
theorem dX6_find_164 : decode cX6_find 164 = .ok (.aload_n 3, 1) := by decide +kernel
theorem dX6_find_165 : decode cX6_find 165 = .ok (.iload 14, 2) := by decide +kernel
theorem dX6_find_167 : decode cX6_find 167 = .ok (.invokevirtual 69, 3) := by decide +kernel
theorem dX6_find_170 : decode cX6_find 170 = .ok (.ifCond .eq 27, 3) := by decide +kernel
theorem dX6_find_173 : decode cX6_find 173 = .ok (.iload 15, 2) := by decide +kernel
theorem dX6_find_175 : decode cX6_find 175 = .ok (.iload 4, 2) := by decide +kernel
theorem dX6_find_177 : decode cX6_find 177 = .ok (.iload 5, 2) := by decide +kernel
theorem dX6_find_179 : decode cX6_find 179 = .ok (.invokestatic 74, 3) := by decide +kernel
theorem dX6_find_182 : decode cX6_find 182 = .ok (.ifCond .eq 15, 3) := by decide +kernel
theorem dX6_find_185 : decode cX6_find 185 = .ok (.aload_n 0, 1) := by decide +kernel
theorem dX6_find_186 : decode cX6_find 186 = .ok (.iload 9, 2) := by decide +kernel
theorem dX6_find_188 : decode cX6_find 188 = .ok (.iload 11, 2) := by decide +kernel
theorem dX6_find_190 : decode cX6_find 190 = .ok (.iload 12, 2) := by decide +kernel
theorem dX6_find_192 : decode cX6_find 192 = .ok (.iload 13, 2) := by decide +kernel
theorem dX6_find_194 : decode cX6_find 194 = .ok (.invokevirtual 78, 3) := by decide +kernel
theorem dX6_find_197 : decode cX6_find 197 = .ok (.iinc 13 1, 3) := by decide +kernel
theorem dX6_find_200 : decode cX6_find 200 = .ok (.goto (-105), 3) := by decide +kernel
theorem dX6_find_203 : decode cX6_find 203 = .ok (.iinc 12 1, 3) := by decide +kernel
theorem dX6_find_206 : decode cX6_find 206 = .ok (.goto (-121), 3) := by decide +kernel
theorem dX6_find_209 : decode cX6_find 209 = .ok (.iinc 11 1, 3) := by decide +kernel
theorem dX6_find_212 : decode cX6_find 212 = .ok (.goto (-137), 3) := by decide +kernel
theorem dX6_find_215 : decode cX6_find 215 = .ok (.iinc 9 1, 3) := by decide +kernel
theorem dX6_find_218 : decode cX6_find 218 = .ok (.goto (-176), 3) := by decide +kernel
theorem dX6_find_221 : decode cX6_find 221 = .ok (.return_, 1) := by decide +kernel
theorem dX6_isFewer_0 : decode cX6_isFewer 0 = .ok (.aload_n 0, 1) := by decide +kernel
theorem dX6_isFewer_1 : decode cX6_isFewer 1 = .ok (.getfield 9, 3) := by decide +kernel
theorem dX6_isFewer_4 : decode cX6_isFewer 4 = .ok (.bipush (-9), 2) := by decide +kernel
theorem dX6_isFewer_6 : decode cX6_isFewer 6 = .ok (.if_icmp .eq 11, 3) := by decide +kernel
theorem dX6_isFewer_9 : decode cX6_isFewer 9 = .ok (.iload_n 1, 1) := by decide +kernel
theorem dX6_isFewer_10 : decode cX6_isFewer 10 = .ok (.aload_n 0, 1) := by decide +kernel
theorem dX6_isFewer_11 : decode cX6_isFewer 11 = .ok (.getfield 9, 3) := by decide +kernel
theorem dX6_isFewer_14 : decode cX6_isFewer 14 = .ok (.if_icmp .ge 7, 3) := by decide +kernel
theorem dX6_isFewer_17 : decode cX6_isFewer 17 = .ok (.iconst 1, 1) := by decide +kernel
theorem dX6_isFewer_18 : decode cX6_isFewer 18 = .ok (.goto 4, 3) := by decide +kernel
theorem dX6_isFewer_21 : decode cX6_isFewer 21 = .ok (.iconst 0, 1) := by decide +kernel
theorem dX6_isFewer_22 : decode cX6_isFewer 22 = .ok (.ireturn, 1) := by decide +kernel
theorem dX6_note_0 : decode cX6_note 0 = .ok (.aload_n 0, 1) := by decide +kernel
theorem dX6_note_1 : decode cX6_note 1 = .ok (.iload_n 1, 1) := by decide +kernel
theorem dX6_note_2 : decode cX6_note 2 = .ok (.iload_n 2, 1) := by decide +kernel
theorem dX6_note_3 : decode cX6_note 3 = .ok (.iadd, 1) := by decide +kernel
theorem dX6_note_4 : decode cX6_note 4 = .ok (.iload_n 3, 1) := by decide +kernel
theorem dX6_note_5 : decode cX6_note 5 = .ok (.iadd, 1) := by decide +kernel
theorem dX6_note_6 : decode cX6_note 6 = .ok (.iload 4, 2) := by decide +kernel
theorem dX6_note_8 : decode cX6_note 8 = .ok (.iadd, 1) := by decide +kernel
theorem dX6_note_9 : decode cX6_note 9 = .ok (.putfield 9, 3) := by decide +kernel
theorem dX6_note_12 : decode cX6_note 12 = .ok (.aload_n 0, 1) := by decide +kernel
theorem dX6_note_13 : decode cX6_note 13 = .ok (.iload_n 1, 1) := by decide +kernel
theorem dX6_note_14 : decode cX6_note 14 = .ok (.putfield 24, 3) := by decide +kernel
theorem dX6_note_17 : decode cX6_note 17 = .ok (.aload_n 0, 1) := by decide +kernel
theorem dX6_note_18 : decode cX6_note 18 = .ok (.iload_n 2, 1) := by decide +kernel
theorem dX6_note_19 : decode cX6_note 19 = .ok (.putfield 15, 3) := by decide +kernel
theorem dX6_note_22 : decode cX6_note 22 = .ok (.aload_n 0, 1) := by decide +kernel
theorem dX6_note_23 : decode cX6_note 23 = .ok (.iload_n 3, 1) := by decide +kernel
theorem dX6_note_24 : decode cX6_note 24 = .ok (.putfield 18, 3) := by decide +kernel
theorem dX6_note_27 : decode cX6_note 27 = .ok (.aload_n 0, 1) := by decide +kernel
theorem dX6_note_28 : decode cX6_note 28 = .ok (.iload 4, 2) := by decide +kernel
theorem dX6_note_30 : decode cX6_note 30 = .ok (.putfield 21, 3) := by decide +kernel
theorem dX6_note_33 : decode cX6_note 33 = .ok (.return_, 1) := by decide +kernel
theorem dX7_init_0 : decode cX7_init 0 = .ok (.aload_n 0, 1) := by decide +kernel
theorem dX7_init_1 : decode cX7_init 1 = .ok (.invokespecial 3, 3) := by decide +kernel
theorem dX7_init_4 : decode cX7_init 4 = .ok (.aload_n 0, 1) := by decide +kernel
theorem dX7_init_5 : decode cX7_init 5 = .ok (.sipush 400, 3) := by decide +kernel
theorem dX7_init_8 : decode cX7_init 8 = .ok (.newarray .int, 2) := by decide +kernel
theorem dX7_init_10 : decode cX7_init 10 = .ok (.putfield 9, 3) := by decide +kernel
theorem dX7_init_13 : decode cX7_init 13 = .ok (.aload_n 0, 1) := by decide +kernel
theorem dX7_init_14 : decode cX7_init 14 = .ok (.bipush 6, 2) := by decide +kernel
theorem dX7_init_16 : decode cX7_init 16 = .ok (.newarray .int, 2) := by decide +kernel
theorem dX7_init_18 : decode cX7_init 18 = .ok (.putfield 15, 3) := by decide +kernel
theorem dX7_init_21 : decode cX7_init 21 = .ok (.return_, 1) := by decide +kernel
theorem dX7_add_0 : decode cX7_add 0 = .ok (.aload_n 0, 1) := by decide +kernel
theorem dX7_add_1 : decode cX7_add 1 = .ok (.getfield 18, 3) := by decide +kernel
theorem dX7_add_4 : decode cX7_add 4 = .ok (.aload_n 0, 1) := by decide +kernel
theorem dX7_add_5 : decode cX7_add 5 = .ok (.getfield 9, 3) := by decide +kernel
theorem dX7_add_8 : decode cX7_add 8 = .ok (.arraylength, 1) := by decide +kernel
theorem dX7_add_9 : decode cX7_add 9 = .ok (.if_icmp .lt 4, 3) := by decide +kernel
theorem dX7_add_12 : decode cX7_add 12 = .ok (.return_, 1) := by decide +kernel
theorem dX7_add_13 : decode cX7_add 13 = .ok (.aload_n 0, 1) := by decide +kernel
theorem dX7_add_14 : decode cX7_add 14 = .ok (.getfield 9, 3) := by decide +kernel
theorem dX7_add_17 : decode cX7_add 17 = .ok (.aload_n 0, 1) := by decide +kernel
theorem dX7_add_18 : decode cX7_add 18 = .ok (.getfield 18, 3) := by decide +kernel
theorem dX7_add_21 : decode cX7_add 21 = .ok (.iload_n 1, 1) := by decide +kernel
theorem dX7_add_22 : decode cX7_add 22 = .ok (.iastore, 1) := by decide +kernel
theorem dX7_add_23 : decode cX7_add 23 = .ok (.aload_n 0, 1) := by decide +kernel
theorem dX7_add_24 : decode cX7_add 24 = .ok (.dup, 1) := by decide +kernel
theorem dX7_add_25 : decode cX7_add 25 = .ok (.getfield 18, 3) := by decide +kernel
theorem dX7_add_28 : decode cX7_add 28 = .ok (.iconst 1, 1) := by decide +kernel
theorem dX7_add_29 : decode cX7_add 29 = .ok (.iadd, 1) := by decide +kernel
theorem dX7_add_30 : decode cX7_add 30 = .ok (.putfield 18, 3) := by decide +kernel
theorem dX7_add_33 : decode cX7_add 33 = .ok (.return_, 1) := by decide +kernel
theorem dX7_empty_0 : decode cX7_empty 0 = .ok (.aload_n 0, 1) := by decide +kernel
theorem dX7_empty_1 : decode cX7_empty 1 = .ok (.getfield 18, 3) := by decide +kernel
theorem dX7_empty_4 : decode cX7_empty 4 = .ok (.istore_n 1, 1) := by decide +kernel
theorem dX7_empty_5 : decode cX7_empty 5 = .ok (.aload_n 0, 1) := by decide +kernel
theorem dX7_empty_6 : decode cX7_empty 6 = .ok (.iconst 0, 1) := by decide +kernel
theorem dX7_empty_7 : decode cX7_empty 7 = .ok (.putfield 18, 3) := by decide +kernel
theorem dX7_empty_10 : decode cX7_empty 10 = .ok (.iload_n 1, 1) := by decide +kernel
theorem dX7_empty_11 : decode cX7_empty 11 = .ok (.ireturn, 1) := by decide +kernel
theorem dX7_byteAt_0 : decode cX7_byteAt 0 = .ok (.iload_n 1, 1) := by decide +kernel
theorem dX7_byteAt_1 : decode cX7_byteAt 1 = .ok (.ifCond .lt 20, 3) := by decide +kernel
theorem dX7_byteAt_4 : decode cX7_byteAt 4 = .ok (.iload_n 1, 1) := by decide +kernel
theorem dX7_byteAt_5 : decode cX7_byteAt 5 = .ok (.aload_n 0, 1) := by decide +kernel
theorem dX7_byteAt_6 : decode cX7_byteAt 6 = .ok (.getfield 18, 3) := by decide +kernel
theorem dX7_byteAt_9 : decode cX7_byteAt 9 = .ok (.if_icmp .ge 12, 3) := by decide +kernel
theorem dX7_byteAt_12 : decode cX7_byteAt 12 = .ok (.aload_n 0, 1) := by decide +kernel
theorem dX7_byteAt_13 : decode cX7_byteAt 13 = .ok (.getfield 9, 3) := by decide +kernel
theorem dX7_byteAt_16 : decode cX7_byteAt 16 = .ok (.iload_n 1, 1) := by decide +kernel
theorem dX7_byteAt_17 : decode cX7_byteAt 17 = .ok (.iaload, 1) := by decide +kernel
theorem dX7_byteAt_18 : decode cX7_byteAt 18 = .ok (.goto 4, 3) := by decide +kernel
theorem dX7_byteAt_21 : decode cX7_byteAt 21 = .ok (.iconst (-1), 1) := by decide +kernel
theorem dX7_byteAt_22 : decode cX7_byteAt 22 = .ok (.ireturn, 1) := by decide +kernel
theorem dX7_readAll_0 : decode cX7_readAll 0 = .ok (.aload_n 1, 1) := by decide +kernel
theorem dX7_readAll_1 : decode cX7_readAll 1 = .ok (.invokevirtual 22, 3) := by decide +kernel
theorem dX7_readAll_4 : decode cX7_readAll 4 = .ok (.aload_n 0, 1) := by decide +kernel
theorem dX7_readAll_5 : decode cX7_readAll 5 = .ok (.iconst 0, 1) := by decide +kernel
theorem dX7_readAll_6 : decode cX7_readAll 6 = .ok (.putfield 27, 3) := by decide +kernel
theorem dX7_readAll_9 : decode cX7_readAll 9 = .ok (.iconst 0, 1) := by decide +kernel
theorem dX7_readAll_10 : decode cX7_readAll 10 = .ok (.istore_n 2, 1) := by decide +kernel
theorem dX7_readAll_11 : decode cX7_readAll 11 = .ok (.aload_n 0, 1) := by decide +kernel
theorem dX7_readAll_12 : decode cX7_readAll 12 = .ok (.invokevirtual 30, 3) := by decide +kernel
theorem dX7_readAll_15 : decode cX7_readAll 15 = .ok (.aload_n 0, 1) := by decide +kernel
theorem dX7_readAll_16 : decode cX7_readAll 16 = .ok (.getfield 27, 3) := by decide +kernel
theorem dX7_readAll_19 : decode cX7_readAll 19 = .ok (.aload_n 0, 1) := by decide +kernel
theorem dX7_readAll_20 : decode cX7_readAll 20 = .ok (.getfield 18, 3) := by decide +kernel
theorem dX7_readAll_23 : decode cX7_readAll 23 = .ok (.if_icmp .ge 36, 3) := by decide +kernel
theorem dX7_readAll_26 : decode cX7_readAll 26 = .ok (.iload_n 2, 1) := by decide +kernel
theorem dX7_readAll_27 : decode cX7_readAll 27 = .ok (.sipush 400, 3) := by decide +kernel
theorem dX7_readAll_30 : decode cX7_readAll 30 = .ok (.if_icmp .ge 29, 3) := by decide +kernel
theorem dX7_readAll_33 : decode cX7_readAll 33 = .ok (.aload_n 0, 1) := by decide +kernel
theorem dX7_readAll_34 : decode cX7_readAll 34 = .ok (.aload_n 1, 1) := by decide +kernel
theorem dX7_readAll_35 : decode cX7_readAll 35 = .ok (.invokevirtual 33, 3) := by decide +kernel
theorem dX7_readAll_38 : decode cX7_readAll 38 = .ok (.ifCond .ne 11, 3) := by decide +kernel
theorem dX7_readAll_41 : decode cX7_readAll 41 = .ok (.bipush (-10), 2) := by decide +kernel
theorem dX7_readAll_43 : decode cX7_readAll 43 = .ok (.aload_n 0, 1) := by decide +kernel
theorem dX7_readAll_44 : decode cX7_readAll 44 = .ok (.getfield 27, 3) := by decide +kernel
theorem dX7_readAll_47 : decode cX7_readAll 47 = .ok (.isub, 1) := by decide +kernel
theorem dX7_readAll_48 : decode cX7_readAll 48 = .ok (.ireturn, 1) := by decide +kernel
theorem dX7_readAll_49 : decode cX7_readAll 49 = .ok (.iinc 2 1, 3) := by decide +kernel
theorem dX7_readAll_52 : decode cX7_readAll 52 = .ok (.aload_n 0, 1) := by decide +kernel
theorem dX7_readAll_53 : decode cX7_readAll 53 = .ok (.invokevirtual 30, 3) := by decide +kernel
theorem dX7_readAll_56 : decode cX7_readAll 56 = .ok (.goto (-41), 3) := by decide +kernel
theorem dX7_readAll_59 : decode cX7_readAll 59 = .ok (.iload_n 2, 1) := by decide +kernel
theorem dX7_readAll_60 : decode cX7_readAll 60 = .ok (.ireturn, 1) := by decide +kernel
theorem dX7_readItem_0 : decode cX7_readItem 0 = .ok (.aload_n 1, 1) := by decide +kernel
theorem dX7_readItem_1 : decode cX7_readItem 1 = .ok (.getfield 37, 3) := by decide +kernel
theorem dX7_readItem_4 : decode cX7_readItem 4 = .ok (.bipush 12, 2) := by decide +kernel
theorem dX7_readItem_6 : decode cX7_readItem 6 = .ok (.if_icmp .ge 18, 3) := by decide +kernel
theorem dX7_readItem_9 : decode cX7_readItem 9 = .ok (.aload_n 0, 1) := by decide +kernel
theorem dX7_readItem_10 : decode cX7_readItem 10 = .ok (.ldc 40, 2) := by decide +kernel
theorem dX7_readItem_12 : decode cX7_readItem 12 = .ok (.invokevirtual 42, 3) := by decide +kernel
theorem dX7_readItem_15 : decode cX7_readItem 15 = .ok (.ifCond .eq 9, 3) := by decide +kernel
theorem dX7_readItem_18 : decode cX7_readItem 18 = .ok (.aload_n 0, 1) := by decide +kernel
theorem dX7_readItem_19 : decode cX7_readItem 19 = .ok (.aload_n 1, 1) := by decide +kernel
theorem dX7_readItem_20 : decode cX7_readItem 20 = .ok (.invokevirtual 46, 3) := by decide +kernel
theorem dX7_readItem_23 : decode cX7_readItem 23 = .ok (.ireturn, 1) := by decide +kernel
theorem dX7_readItem_24 : decode cX7_readItem 24 = .ok (.aload_n 1, 1) := by decide +kernel
theorem dX7_readItem_25 : decode cX7_readItem 25 = .ok (.getfield 49, 3) := by decide +kernel
theorem dX7_readItem_28 : decode cX7_readItem 28 = .ok (.iconst 3, 1) := by decide +kernel
theorem dX7_readItem_29 : decode cX7_readItem 29 = .ok (.if_icmp .ge 18, 3) := by decide +kernel
theorem dX7_readItem_32 : decode cX7_readItem 32 = .ok (.aload_n 0, 1) := by decide +kernel
theorem dX7_readItem_33 : decode cX7_readItem 33 = .ok (.ldc 52, 2) := by decide +kernel
theorem dX7_readItem_35 : decode cX7_readItem 35 = .ok (.invokevirtual 42, 3) := by decide +kernel
theorem dX7_readItem_38 : decode cX7_readItem 38 = .ok (.ifCond .eq 9, 3) := by decide +kernel
theorem dX7_readItem_41 : decode cX7_readItem 41 = .ok (.aload_n 0, 1) := by decide +kernel
theorem dX7_readItem_42 : decode cX7_readItem 42 = .ok (.aload_n 1, 1) := by decide +kernel
theorem dX7_readItem_43 : decode cX7_readItem 43 = .ok (.invokevirtual 54, 3) := by decide +kernel
theorem dX7_readItem_46 : decode cX7_readItem 46 = .ok (.ireturn, 1) := by decide +kernel
theorem dX7_readItem_47 : decode cX7_readItem 47 = .ok (.aload_n 1, 1) := by decide +kernel
theorem dX7_readItem_48 : decode cX7_readItem 48 = .ok (.getfield 57, 3) := by decide +kernel
theorem dX7_readItem_51 : decode cX7_readItem 51 = .ok (.iconst 3, 1) := by decide +kernel
theorem dX7_readItem_52 : decode cX7_readItem 52 = .ok (.if_icmp .ge 18, 3) := by decide +kernel
theorem dX7_readItem_55 : decode cX7_readItem 55 = .ok (.aload_n 0, 1) := by decide +kernel
theorem dX7_readItem_56 : decode cX7_readItem 56 = .ok (.ldc 60, 2) := by decide +kernel
theorem dX7_readItem_58 : decode cX7_readItem 58 = .ok (.invokevirtual 42, 3) := by decide +kernel
theorem dX7_readItem_61 : decode cX7_readItem 61 = .ok (.ifCond .eq 9, 3) := by decide +kernel
theorem dX7_readItem_64 : decode cX7_readItem 64 = .ok (.aload_n 0, 1) := by decide +kernel
theorem dX7_readItem_65 : decode cX7_readItem 65 = .ok (.aload_n 1, 1) := by decide +kernel
theorem dX7_readItem_66 : decode cX7_readItem 66 = .ok (.invokevirtual 62, 3) := by decide +kernel
theorem dX7_readItem_69 : decode cX7_readItem 69 = .ok (.ireturn, 1) := by decide +kernel
theorem dX7_readItem_70 : decode cX7_readItem 70 = .ok (.iconst 0, 1) := by decide +kernel
theorem dX7_readItem_71 : decode cX7_readItem 71 = .ok (.ireturn, 1) := by decide +kernel
theorem dX7_readStick_0 : decode cX7_readStick 0 = .ok (.aload_n 0, 1) := by decide +kernel
theorem dX7_readStick_1 : decode cX7_readStick 1 = .ok (.getstatic 65, 3) := by decide +kernel
theorem dX7_readStick_4 : decode cX7_readStick 4 = .ok (.getstatic 68, 3) := by decide +kernel
theorem dX7_readStick_7 : decode cX7_readStick 7 = .ok (.invokevirtual 71, 3) := by decide +kernel
theorem dX7_readStick_10 : decode cX7_readStick 10 = .ok (.ifCond .eq 10, 3) := by decide +kernel
theorem dX7_readStick_13 : decode cX7_readStick 13 = .ok (.aload_n 0, 1) := by decide +kernel
theorem dX7_readStick_14 : decode cX7_readStick 14 = .ok (.invokevirtual 75, 3) := by decide +kernel
theorem dX7_readStick_17 : decode cX7_readStick 17 = .ok (.ifCond .ne 5, 3) := by decide +kernel
theorem dX7_readStick_20 : decode cX7_readStick 20 = .ok (.iconst 0, 1) := by decide +kernel
theorem dX7_readStick_21 : decode cX7_readStick 21 = .ok (.ireturn, 1) := by decide +kernel
theorem dX7_readStick_22 : decode cX7_readStick 22 = .ok (.aload_n 1, 1) := by decide +kernel
theorem dX7_readStick_23 : decode cX7_readStick 23 = .ok (.invokevirtual 79, 3) := by decide +kernel
theorem dX7_readStick_26 : decode cX7_readStick 26 = .ok (.astore_n 2, 1) := by decide +kernel
theorem dX7_readStick_27 : decode cX7_readStick 27 = .ok (.aload_n 2, 1) := by decide +kernel
theorem dX7_readStick_28 : decode cX7_readStick 28 = .ok (.ifnonnull 5, 3) := by decide +kernel
theorem dX7_readStick_31 : decode cX7_readStick 31 = .ok (.iconst 0, 1) := by decide +kernel
theorem dX7_readStick_32 : decode cX7_readStick 32 = .ok (.ireturn, 1) := by decide +kernel
theorem dX7_readStick_33 : decode cX7_readStick 33 = .ok (.aload_n 2, 1) := by decide +kernel
theorem dX7_readStick_34 : decode cX7_readStick 34 = .ok (.aload_n 0, 1) := by decide +kernel
theorem dX7_readStick_35 : decode cX7_readStick 35 = .ok (.getfield 15, 3) := by decide +kernel
theorem dX7_readStick_38 : decode cX7_readStick 38 = .ok (.iconst 0, 1) := by decide +kernel
theorem dX7_readStick_39 : decode cX7_readStick 39 = .ok (.iaload, 1) := by decide +kernel
theorem dX7_readStick_40 : decode cX7_readStick 40 = .ok (.putfield 83, 3) := by decide +kernel
theorem dX7_readStick_43 : decode cX7_readStick 43 = .ok (.aload_n 2, 1) := by decide +kernel
theorem dX7_readStick_44 : decode cX7_readStick 44 = .ok (.aload_n 0, 1) := by decide +kernel
theorem dX7_readStick_45 : decode cX7_readStick 45 = .ok (.getfield 15, 3) := by decide +kernel
theorem dX7_readStick_48 : decode cX7_readStick 48 = .ok (.iconst 1, 1) := by decide +kernel
theorem dX7_readStick_49 : decode cX7_readStick 49 = .ok (.iaload, 1) := by decide +kernel
theorem dX7_readStick_50 : decode cX7_readStick 50 = .ok (.putfield 88, 3) := by decide +kernel
theorem dX7_readStick_53 : decode cX7_readStick 53 = .ok (.aload_n 2, 1) := by decide +kernel
theorem dX7_readStick_54 : decode cX7_readStick 54 = .ok (.aload_n 0, 1) := by decide +kernel
theorem dX7_readStick_55 : decode cX7_readStick 55 = .ok (.getfield 15, 3) := by decide +kernel
theorem dX7_readStick_58 : decode cX7_readStick 58 = .ok (.iconst 2, 1) := by decide +kernel
theorem dX7_readStick_59 : decode cX7_readStick 59 = .ok (.iaload, 1) := by decide +kernel
theorem dX7_readStick_60 : decode cX7_readStick 60 = .ok (.putfield 91, 3) := by decide +kernel
theorem dX7_readStick_63 : decode cX7_readStick 63 = .ok (.aload_n 2, 1) := by decide +kernel
theorem dX7_readStick_64 : decode cX7_readStick 64 = .ok (.aload_n 0, 1) := by decide +kernel
theorem dX7_readStick_65 : decode cX7_readStick 65 = .ok (.getfield 15, 3) := by decide +kernel
theorem dX7_readStick_68 : decode cX7_readStick 68 = .ok (.iconst 3, 1) := by decide +kernel
theorem dX7_readStick_69 : decode cX7_readStick 69 = .ok (.iaload, 1) := by decide +kernel
theorem dX7_readStick_70 : decode cX7_readStick 70 = .ok (.putfield 94, 3) := by decide +kernel
theorem dX7_readStick_73 : decode cX7_readStick 73 = .ok (.aload_n 2, 1) := by decide +kernel
theorem dX7_readStick_74 : decode cX7_readStick 74 = .ok (.aload_n 0, 1) := by decide +kernel
theorem dX7_readStick_75 : decode cX7_readStick 75 = .ok (.getfield 15, 3) := by decide +kernel
theorem dX7_readStick_78 : decode cX7_readStick 78 = .ok (.iconst 4, 1) := by decide +kernel
theorem dX7_readStick_79 : decode cX7_readStick 79 = .ok (.iaload, 1) := by decide +kernel
theorem dX7_readStick_80 : decode cX7_readStick 80 = .ok (.putfield 97, 3) := by decide +kernel
theorem dX7_readStick_83 : decode cX7_readStick 83 = .ok (.aload_n 2, 1) := by decide +kernel
theorem dX7_readStick_84 : decode cX7_readStick 84 = .ok (.aload_n 0, 1) := by decide +kernel
theorem dX7_readStick_85 : decode cX7_readStick 85 = .ok (.getfield 15, 3) := by decide +kernel
theorem dX7_readStick_88 : decode cX7_readStick 88 = .ok (.iconst 5, 1) := by decide +kernel
theorem dX7_readStick_89 : decode cX7_readStick 89 = .ok (.iaload, 1) := by decide +kernel
theorem dX7_readStick_90 : decode cX7_readStick 90 = .ok (.putfield 100, 3) := by decide +kernel
theorem dX7_readStick_93 : decode cX7_readStick 93 = .ok (.aload_n 2, 1) := by decide +kernel
theorem dX7_readStick_94 : decode cX7_readStick 94 = .ok (.iconst 0, 1) := by decide +kernel
theorem dX7_readStick_95 : decode cX7_readStick 95 = .ok (.putfield 103, 3) := by decide +kernel
theorem dX7_readStick_98 : decode cX7_readStick 98 = .ok (.iconst 1, 1) := by decide +kernel
theorem dX7_readStick_99 : decode cX7_readStick 99 = .ok (.ireturn, 1) := by decide +kernel
theorem dX7_readBow_0 : decode cX7_readBow 0 = .ok (.aload_n 0, 1) := by decide +kernel
theorem dX7_readBow_1 : decode cX7_readBow 1 = .ok (.getstatic 106, 3) := by decide +kernel
theorem dX7_readBow_4 : decode cX7_readBow 4 = .ok (.getstatic 109, 3) := by decide +kernel
theorem dX7_readBow_7 : decode cX7_readBow 7 = .ok (.invokevirtual 71, 3) := by decide +kernel
theorem dX7_readBow_10 : decode cX7_readBow 10 = .ok (.ifCond .eq 10, 3) := by decide +kernel
theorem dX7_readBow_13 : decode cX7_readBow 13 = .ok (.aload_n 0, 1) := by decide +kernel
theorem dX7_readBow_14 : decode cX7_readBow 14 = .ok (.invokevirtual 75, 3) := by decide +kernel
theorem dX7_readBow_17 : decode cX7_readBow 17 = .ok (.ifCond .ne 5, 3) := by decide +kernel
theorem dX7_readBow_20 : decode cX7_readBow 20 = .ok (.iconst 0, 1) := by decide +kernel
theorem dX7_readBow_21 : decode cX7_readBow 21 = .ok (.ireturn, 1) := by decide +kernel
theorem dX7_readBow_22 : decode cX7_readBow 22 = .ok (.aload_n 1, 1) := by decide +kernel
theorem dX7_readBow_23 : decode cX7_readBow 23 = .ok (.invokevirtual 112, 3) := by decide +kernel
theorem dX7_readBow_26 : decode cX7_readBow 26 = .ok (.astore_n 2, 1) := by decide +kernel
theorem dX7_readBow_27 : decode cX7_readBow 27 = .ok (.aload_n 2, 1) := by decide +kernel
theorem dX7_readBow_28 : decode cX7_readBow 28 = .ok (.ifnonnull 5, 3) := by decide +kernel
theorem dX7_readBow_31 : decode cX7_readBow 31 = .ok (.iconst 0, 1) := by decide +kernel
theorem dX7_readBow_32 : decode cX7_readBow 32 = .ok (.ireturn, 1) := by decide +kernel
theorem dX7_readBow_33 : decode cX7_readBow 33 = .ok (.aload_n 2, 1) := by decide +kernel
theorem dX7_readBow_34 : decode cX7_readBow 34 = .ok (.aload_n 0, 1) := by decide +kernel
theorem dX7_readBow_35 : decode cX7_readBow 35 = .ok (.getfield 15, 3) := by decide +kernel
theorem dX7_readBow_38 : decode cX7_readBow 38 = .ok (.iconst 0, 1) := by decide +kernel
theorem dX7_readBow_39 : decode cX7_readBow 39 = .ok (.iaload, 1) := by decide +kernel
theorem dX7_readBow_40 : decode cX7_readBow 40 = .ok (.putfield 116, 3) := by decide +kernel
theorem dX7_readBow_43 : decode cX7_readBow 43 = .ok (.aload_n 2, 1) := by decide +kernel
theorem dX7_readBow_44 : decode cX7_readBow 44 = .ok (.aload_n 0, 1) := by decide +kernel
theorem dX7_readBow_45 : decode cX7_readBow 45 = .ok (.getfield 15, 3) := by decide +kernel
theorem dX7_readBow_48 : decode cX7_readBow 48 = .ok (.iconst 1, 1) := by decide +kernel
theorem dX7_readBow_49 : decode cX7_readBow 49 = .ok (.iaload, 1) := by decide +kernel
theorem dX7_readBow_50 : decode cX7_readBow 50 = .ok (.putfield 121, 3) := by decide +kernel
theorem dX7_readBow_53 : decode cX7_readBow 53 = .ok (.iconst 1, 1) := by decide +kernel
theorem dX7_readBow_54 : decode cX7_readBow 54 = .ok (.ireturn, 1) := by decide +kernel
theorem dX7_readArcher_0 : decode cX7_readArcher 0 = .ok (.aload_n 0, 1) := by decide +kernel
theorem dX7_readArcher_1 : decode cX7_readArcher 1 = .ok (.ldc 124, 2) := by decide +kernel
theorem dX7_readArcher_3 : decode cX7_readArcher 3 = .ok (.invokevirtual 42, 3) := by decide +kernel
theorem dX7_readArcher_6 : decode cX7_readArcher 6 = .ok (.istore_n 2, 1) := by decide +kernel
theorem dX7_readArcher_7 : decode cX7_readArcher 7 = .ok (.iload_n 2, 1) := by decide +kernel
theorem dX7_readArcher_8 : decode cX7_readArcher 8 = .ok (.ifCond .ne 14, 3) := by decide +kernel
theorem dX7_readArcher_11 : decode cX7_readArcher 11 = .ok (.aload_n 0, 1) := by decide +kernel
theorem dX7_readArcher_12 : decode cX7_readArcher 12 = .ok (.ldc 126, 2) := by decide +kernel
theorem dX7_readArcher_14 : decode cX7_readArcher 14 = .ok (.invokevirtual 42, 3) := by decide +kernel
theorem dX7_readArcher_17 : decode cX7_readArcher 17 = .ok (.ifCond .ne 5, 3) := by decide +kernel
theorem dX7_readArcher_20 : decode cX7_readArcher 20 = .ok (.iconst 0, 1) := by decide +kernel
theorem dX7_readArcher_21 : decode cX7_readArcher 21 = .ok (.ireturn, 1) := by decide +kernel
theorem dX7_readArcher_22 : decode cX7_readArcher 22 = .ok (.aload_n 0, 1) := by decide +kernel
theorem dX7_readArcher_23 : decode cX7_readArcher 23 = .ok (.getstatic 128, 3) := by decide +kernel
theorem dX7_readArcher_26 : decode cX7_readArcher 26 = .ok (.getstatic 131, 3) := by decide +kernel
theorem dX7_readArcher_29 : decode cX7_readArcher 29 = .ok (.invokevirtual 71, 3) := by decide +kernel
theorem dX7_readArcher_32 : decode cX7_readArcher 32 = .ok (.ifCond .eq 10, 3) := by decide +kernel
theorem dX7_readArcher_35 : decode cX7_readArcher 35 = .ok (.aload_n 0, 1) := by decide +kernel
theorem dX7_readArcher_36 : decode cX7_readArcher 36 = .ok (.invokevirtual 75, 3) := by decide +kernel
theorem dX7_readArcher_39 : decode cX7_readArcher 39 = .ok (.ifCond .ne 5, 3) := by decide +kernel
theorem dX7_readArcher_42 : decode cX7_readArcher 42 = .ok (.iconst 0, 1) := by decide +kernel
theorem dX7_readArcher_43 : decode cX7_readArcher 43 = .ok (.ireturn, 1) := by decide +kernel
theorem dX7_readArcher_44 : decode cX7_readArcher 44 = .ok (.aload_n 1, 1) := by decide +kernel
theorem dX7_readArcher_45 : decode cX7_readArcher 45 = .ok (.invokevirtual 134, 3) := by decide +kernel
theorem dX7_readArcher_48 : decode cX7_readArcher 48 = .ok (.astore_n 3, 1) := by decide +kernel
theorem dX7_readArcher_49 : decode cX7_readArcher 49 = .ok (.aload_n 3, 1) := by decide +kernel
theorem dX7_readArcher_50 : decode cX7_readArcher 50 = .ok (.ifnonnull 5, 3) := by decide +kernel
theorem dX7_readArcher_53 : decode cX7_readArcher 53 = .ok (.iconst 0, 1) := by decide +kernel
theorem dX7_readArcher_54 : decode cX7_readArcher 54 = .ok (.ireturn, 1) := by decide +kernel
theorem dX7_readArcher_55 : decode cX7_readArcher 55 = .ok (.aload_n 3, 1) := by decide +kernel
theorem dX7_readArcher_56 : decode cX7_readArcher 56 = .ok (.iload_n 2, 1) := by decide +kernel
theorem dX7_readArcher_57 : decode cX7_readArcher 57 = .ok (.ifCond .eq 13, 3) := by decide +kernel
theorem dX7_readArcher_60 : decode cX7_readArcher 60 = .ok (.aload_n 0, 1) := by decide +kernel
theorem dX7_readArcher_61 : decode cX7_readArcher 61 = .ok (.getfield 15, 3) := by decide +kernel
theorem dX7_readArcher_64 : decode cX7_readArcher 64 = .ok (.iconst 0, 1) := by decide +kernel
theorem dX7_readArcher_65 : decode cX7_readArcher 65 = .ok (.iaload, 1) := by decide +kernel
theorem dX7_readArcher_66 : decode cX7_readArcher 66 = .ok (.ineg, 1) := by decide +kernel
theorem dX7_readArcher_67 : decode cX7_readArcher 67 = .ok (.goto 9, 3) := by decide +kernel
theorem dX7_readArcher_70 : decode cX7_readArcher 70 = .ok (.aload_n 0, 1) := by decide +kernel
theorem dX7_readArcher_71 : decode cX7_readArcher 71 = .ok (.getfield 15, 3) := by decide +kernel
theorem dX7_readArcher_74 : decode cX7_readArcher 74 = .ok (.iconst 0, 1) := by decide +kernel
theorem dX7_readArcher_75 : decode cX7_readArcher 75 = .ok (.iaload, 1) := by decide +kernel
theorem dX7_readArcher_76 : decode cX7_readArcher 76 = .ok (.putfield 138, 3) := by decide +kernel
theorem dX7_readArcher_79 : decode cX7_readArcher 79 = .ok (.aload_n 3, 1) := by decide +kernel
theorem dX7_readArcher_80 : decode cX7_readArcher 80 = .ok (.aload_n 0, 1) := by decide +kernel
theorem dX7_readArcher_81 : decode cX7_readArcher 81 = .ok (.getfield 15, 3) := by decide +kernel
theorem dX7_readArcher_84 : decode cX7_readArcher 84 = .ok (.iconst 1, 1) := by decide +kernel
theorem dX7_readArcher_85 : decode cX7_readArcher 85 = .ok (.iaload, 1) := by decide +kernel
theorem dX7_readArcher_86 : decode cX7_readArcher 86 = .ok (.putfield 143, 3) := by decide +kernel
theorem dX7_readArcher_89 : decode cX7_readArcher 89 = .ok (.iconst 1, 1) := by decide +kernel
theorem dX7_readArcher_90 : decode cX7_readArcher 90 = .ok (.ireturn, 1) := by decide +kernel
theorem dX7_skipBlanks_0 : decode cX7_skipBlanks 0 = .ok (.aload_n 0, 1) := by decide +kernel
theorem dX7_skipBlanks_1 : decode cX7_skipBlanks 1 = .ok (.getfield 27, 3) := by decide +kernel
theorem dX7_skipBlanks_4 : decode cX7_skipBlanks 4 = .ok (.aload_n 0, 1) := by decide +kernel
theorem dX7_skipBlanks_5 : decode cX7_skipBlanks 5 = .ok (.getfield 18, 3) := by decide +kernel
theorem dX7_skipBlanks_8 : decode cX7_skipBlanks 8 = .ok (.if_icmp .ge 29, 3) := by decide +kernel
theorem dX7_skipBlanks_11 : decode cX7_skipBlanks 11 = .ok (.aload_n 0, 1) := by decide +kernel
theorem dX7_skipBlanks_12 : decode cX7_skipBlanks 12 = .ok (.aload_n 0, 1) := by decide +kernel
theorem dX7_skipBlanks_13 : decode cX7_skipBlanks 13 = .ok (.getfield 27, 3) := by decide +kernel
theorem dX7_skipBlanks_16 : decode cX7_skipBlanks 16 = .ok (.invokevirtual 146, 3) := by decide +kernel
theorem dX7_skipBlanks_19 : decode cX7_skipBlanks 19 = .ok (.bipush 32, 2) := by decide +kernel
theorem dX7_skipBlanks_21 : decode cX7_skipBlanks 21 = .ok (.if_icmp .ne 16, 3) := by decide +kernel
theorem dX7_skipBlanks_24 : decode cX7_skipBlanks 24 = .ok (.aload_n 0, 1) := by decide +kernel
theorem dX7_skipBlanks_25 : decode cX7_skipBlanks 25 = .ok (.dup, 1) := by decide +kernel
theorem dX7_skipBlanks_26 : decode cX7_skipBlanks 26 = .ok (.getfield 27, 3) := by decide +kernel
theorem dX7_skipBlanks_29 : decode cX7_skipBlanks 29 = .ok (.iconst 1, 1) := by decide +kernel
theorem dX7_skipBlanks_30 : decode cX7_skipBlanks 30 = .ok (.iadd, 1) := by decide +kernel
theorem dX7_skipBlanks_31 : decode cX7_skipBlanks 31 = .ok (.putfield 27, 3) := by decide +kernel
theorem dX7_skipBlanks_34 : decode cX7_skipBlanks 34 = .ok (.goto (-34), 3) := by decide +kernel
theorem dX7_skipBlanks_37 : decode cX7_skipBlanks 37 = .ok (.return_, 1) := by decide +kernel
theorem dX7_takeWord_0 : decode cX7_takeWord 0 = .ok (.aload_n 0, 1) := by decide +kernel
theorem dX7_takeWord_1 : decode cX7_takeWord 1 = .ok (.invokevirtual 30, 3) := by decide +kernel
theorem dX7_takeWord_4 : decode cX7_takeWord 4 = .ok (.aload_n 1, 1) := by decide +kernel
theorem dX7_takeWord_5 : decode cX7_takeWord 5 = .ok (.invokevirtual 150, 3) := by decide +kernel
theorem dX7_takeWord_8 : decode cX7_takeWord 8 = .ok (.istore_n 2, 1) := by decide +kernel
theorem dX7_takeWord_9 : decode cX7_takeWord 9 = .ok (.iconst 0, 1) := by decide +kernel
theorem dX7_takeWord_10 : decode cX7_takeWord 10 = .ok (.istore_n 3, 1) := by decide +kernel
theorem dX7_takeWord_11 : decode cX7_takeWord 11 = .ok (.iload_n 3, 1) := by decide +kernel
theorem dX7_takeWord_12 : decode cX7_takeWord 12 = .ok (.iload_n 2, 1) := by decide +kernel
theorem dX7_takeWord_13 : decode cX7_takeWord 13 = .ok (.if_icmp .ge 29, 3) := by decide +kernel
theorem dX7_takeWord_16 : decode cX7_takeWord 16 = .ok (.aload_n 0, 1) := by decide +kernel
theorem dX7_takeWord_17 : decode cX7_takeWord 17 = .ok (.aload_n 0, 1) := by decide +kernel
theorem dX7_takeWord_18 : decode cX7_takeWord 18 = .ok (.getfield 27, 3) := by decide +kernel
theorem dX7_takeWord_21 : decode cX7_takeWord 21 = .ok (.iload_n 3, 1) := by decide +kernel
theorem dX7_takeWord_22 : decode cX7_takeWord 22 = .ok (.iadd, 1) := by decide +kernel
theorem dX7_takeWord_23 : decode cX7_takeWord 23 = .ok (.invokevirtual 146, 3) := by decide +kernel
theorem dX7_takeWord_26 : decode cX7_takeWord 26 = .ok (.aload_n 1, 1) := by decide +kernel
theorem dX7_takeWord_27 : decode cX7_takeWord 27 = .ok (.iload_n 3, 1) := by decide +kernel
theorem dX7_takeWord_28 : decode cX7_takeWord 28 = .ok (.invokevirtual 155, 3) := by decide +kernel
theorem dX7_takeWord_31 : decode cX7_takeWord 31 = .ok (.if_icmp .eq 5, 3) := by decide +kernel
theorem dX7_takeWord_34 : decode cX7_takeWord 34 = .ok (.iconst 0, 1) := by decide +kernel
theorem dX7_takeWord_35 : decode cX7_takeWord 35 = .ok (.ireturn, 1) := by decide +kernel
theorem dX7_takeWord_36 : decode cX7_takeWord 36 = .ok (.iinc 3 1, 3) := by decide +kernel
theorem dX7_takeWord_39 : decode cX7_takeWord 39 = .ok (.goto (-28), 3) := by decide +kernel
theorem dX7_takeWord_42 : decode cX7_takeWord 42 = .ok (.aload_n 0, 1) := by decide +kernel
theorem dX7_takeWord_43 : decode cX7_takeWord 43 = .ok (.aload_n 0, 1) := by decide +kernel
theorem dX7_takeWord_44 : decode cX7_takeWord 44 = .ok (.getfield 27, 3) := by decide +kernel
theorem dX7_takeWord_47 : decode cX7_takeWord 47 = .ok (.iload_n 2, 1) := by decide +kernel
theorem dX7_takeWord_48 : decode cX7_takeWord 48 = .ok (.iadd, 1) := by decide +kernel
theorem dX7_takeWord_49 : decode cX7_takeWord 49 = .ok (.invokevirtual 146, 3) := by decide +kernel
theorem dX7_takeWord_52 : decode cX7_takeWord 52 = .ok (.bipush 97, 2) := by decide +kernel
theorem dX7_takeWord_54 : decode cX7_takeWord 54 = .ok (.bipush 122, 2) := by decide +kernel
theorem dX7_takeWord_56 : decode cX7_takeWord 56 = .ok (.invokestatic 159, 3) := by decide +kernel
theorem dX7_takeWord_59 : decode cX7_takeWord 59 = .ok (.ifCond .eq 5, 3) := by decide +kernel
theorem dX7_takeWord_62 : decode cX7_takeWord 62 = .ok (.iconst 0, 1) := by decide +kernel
theorem dX7_takeWord_63 : decode cX7_takeWord 63 = .ok (.ireturn, 1) := by decide +kernel
theorem dX7_takeWord_64 : decode cX7_takeWord 64 = .ok (.aload_n 0, 1) := by decide +kernel
theorem dX7_takeWord_65 : decode cX7_takeWord 65 = .ok (.dup, 1) := by decide +kernel
theorem dX7_takeWord_66 : decode cX7_takeWord 66 = .ok (.getfield 27, 3) := by decide +kernel
theorem dX7_takeWord_69 : decode cX7_takeWord 69 = .ok (.iload_n 2, 1) := by decide +kernel
theorem dX7_takeWord_70 : decode cX7_takeWord 70 = .ok (.iadd, 1) := by decide +kernel
theorem dX7_takeWord_71 : decode cX7_takeWord 71 = .ok (.putfield 27, 3) := by decide +kernel
theorem dX7_takeWord_74 : decode cX7_takeWord 74 = .ok (.iconst 1, 1) := by decide +kernel
theorem dX7_takeWord_75 : decode cX7_takeWord 75 = .ok (.ireturn, 1) := by decide +kernel
theorem dX7_takeNumbers_0 : decode cX7_takeNumbers 0 = .ok (.iconst 0, 1) := by decide +kernel
theorem dX7_takeNumbers_1 : decode cX7_takeNumbers 1 = .ok (.istore_n 3, 1) := by decide +kernel
theorem dX7_takeNumbers_2 : decode cX7_takeNumbers 2 = .ok (.iload_n 3, 1) := by decide +kernel
theorem dX7_takeNumbers_3 : decode cX7_takeNumbers 3 = .ok (.aload_n 1, 1) := by decide +kernel
theorem dX7_takeNumbers_4 : decode cX7_takeNumbers 4 = .ok (.arraylength, 1) := by decide +kernel
theorem dX7_takeNumbers_5 : decode cX7_takeNumbers 5 = .ok (.if_icmp .ge 55, 3) := by decide +kernel
theorem dX7_takeNumbers_8 : decode cX7_takeNumbers 8 = .ok (.iload_n 3, 1) := by decide +kernel
theorem dX7_takeNumbers_9 : decode cX7_takeNumbers 9 = .ok (.aload_n 2, 1) := by decide +kernel
theorem dX7_takeNumbers_10 : decode cX7_takeNumbers 10 = .ok (.arraylength, 1) := by decide +kernel
theorem dX7_takeNumbers_11 : decode cX7_takeNumbers 11 = .ok (.if_icmp .ge 49, 3) := by decide +kernel
theorem dX7_takeNumbers_14 : decode cX7_takeNumbers 14 = .ok (.iload_n 3, 1) := by decide +kernel
theorem dX7_takeNumbers_15 : decode cX7_takeNumbers 15 = .ok (.aload_n 0, 1) := by decide +kernel
theorem dX7_takeNumbers_16 : decode cX7_takeNumbers 16 = .ok (.getfield 15, 3) := by decide +kernel
theorem dX7_takeNumbers_19 : decode cX7_takeNumbers 19 = .ok (.arraylength, 1) := by decide +kernel
theorem dX7_takeNumbers_20 : decode cX7_takeNumbers 20 = .ok (.if_icmp .ge 40, 3) := by decide +kernel
theorem dX7_takeNumbers_23 : decode cX7_takeNumbers 23 = .ok (.aload_n 0, 1) := by decide +kernel
theorem dX7_takeNumbers_24 : decode cX7_takeNumbers 24 = .ok (.invokevirtual 30, 3) := by decide +kernel
theorem dX7_takeNumbers_27 : decode cX7_takeNumbers 27 = .ok (.aload_n 0, 1) := by decide +kernel
theorem dX7_takeNumbers_28 : decode cX7_takeNumbers 28 = .ok (.getfield 15, 3) := by decide +kernel
theorem dX7_takeNumbers_31 : decode cX7_takeNumbers 31 = .ok (.iload_n 3, 1) := by decide +kernel
theorem dX7_takeNumbers_32 : decode cX7_takeNumbers 32 = .ok (.aload_n 0, 1) := by decide +kernel
theorem dX7_takeNumbers_33 : decode cX7_takeNumbers 33 = .ok (.aload_n 1, 1) := by decide +kernel
theorem dX7_takeNumbers_34 : decode cX7_takeNumbers 34 = .ok (.iload_n 3, 1) := by decide +kernel
theorem dX7_takeNumbers_35 : decode cX7_takeNumbers 35 = .ok (.iaload, 1) := by decide +kernel
theorem dX7_takeNumbers_36 : decode cX7_takeNumbers 36 = .ok (.aload_n 2, 1) := by decide +kernel
theorem dX7_takeNumbers_37 : decode cX7_takeNumbers 37 = .ok (.iload_n 3, 1) := by decide +kernel
theorem dX7_takeNumbers_38 : decode cX7_takeNumbers 38 = .ok (.iaload, 1) := by decide +kernel
theorem dX7_takeNumbers_39 : decode cX7_takeNumbers 39 = .ok (.invokevirtual 163, 3) := by decide +kernel
theorem dX7_takeNumbers_42 : decode cX7_takeNumbers 42 = .ok (.iastore, 1) := by decide +kernel
theorem dX7_takeNumbers_43 : decode cX7_takeNumbers 43 = .ok (.aload_n 0, 1) := by decide +kernel
theorem dX7_takeNumbers_44 : decode cX7_takeNumbers 44 = .ok (.getfield 15, 3) := by decide +kernel
theorem dX7_takeNumbers_47 : decode cX7_takeNumbers 47 = .ok (.iload_n 3, 1) := by decide +kernel
theorem dX7_takeNumbers_48 : decode cX7_takeNumbers 48 = .ok (.iaload, 1) := by decide +kernel
theorem dX7_takeNumbers_49 : decode cX7_takeNumbers 49 = .ok (.ifCond .ge 5, 3) := by decide +kernel
theorem dX7_takeNumbers_52 : decode cX7_takeNumbers 52 = .ok (.iconst 0, 1) := by decide +kernel
theorem dX7_takeNumbers_53 : decode cX7_takeNumbers 53 = .ok (.ireturn, 1) := by decide +kernel
theorem dX7_takeNumbers_54 : decode cX7_takeNumbers 54 = .ok (.iinc 3 1, 3) := by decide +kernel
theorem dX7_takeNumbers_57 : decode cX7_takeNumbers 57 = .ok (.goto (-55), 3) := by decide +kernel
theorem dX7_takeNumbers_60 : decode cX7_takeNumbers 60 = .ok (.iconst 1, 1) := by decide +kernel
theorem dX7_takeNumbers_61 : decode cX7_takeNumbers 61 = .ok (.ireturn, 1) := by decide +kernel
theorem dX7_takeNumber_0 : decode cX7_takeNumber 0 = .ok (.iconst 0, 1) := by decide +kernel
theorem dX7_takeNumber_1 : decode cX7_takeNumber 1 = .ok (.istore_n 3, 1) := by decide +kernel
theorem dX7_takeNumber_2 : decode cX7_takeNumber 2 = .ok (.aload_n 0, 1) := by decide +kernel
theorem dX7_takeNumber_3 : decode cX7_takeNumber 3 = .ok (.getfield 27, 3) := by decide +kernel
theorem dX7_takeNumber_6 : decode cX7_takeNumber 6 = .ok (.istore 4, 2) := by decide +kernel
theorem dX7_takeNumber_8 : decode cX7_takeNumber 8 = .ok (.iload 4, 2) := by decide +kernel
theorem dX7_takeNumber_10 : decode cX7_takeNumber 10 = .ok (.aload_n 0, 1) := by decide +kernel
theorem dX7_takeNumber_11 : decode cX7_takeNumber 11 = .ok (.getfield 18, 3) := by decide +kernel
theorem dX7_takeNumber_14 : decode cX7_takeNumber 14 = .ok (.if_icmp .ge 46, 3) := by decide +kernel
theorem dX7_takeNumber_17 : decode cX7_takeNumber 17 = .ok (.aload_n 0, 1) := by decide +kernel
theorem dX7_takeNumber_18 : decode cX7_takeNumber 18 = .ok (.iload 4, 2) := by decide +kernel
theorem dX7_takeNumber_20 : decode cX7_takeNumber 20 = .ok (.invokevirtual 146, 3) := by decide +kernel
theorem dX7_takeNumber_23 : decode cX7_takeNumber 23 = .ok (.bipush 48, 2) := by decide +kernel
theorem dX7_takeNumber_25 : decode cX7_takeNumber 25 = .ok (.bipush 57, 2) := by decide +kernel
theorem dX7_takeNumber_27 : decode cX7_takeNumber 27 = .ok (.invokestatic 159, 3) := by decide +kernel
theorem dX7_takeNumber_30 : decode cX7_takeNumber 30 = .ok (.ifCond .eq 30, 3) := by decide +kernel
theorem dX7_takeNumber_33 : decode cX7_takeNumber 33 = .ok (.sipush 1000, 3) := by decide +kernel
theorem dX7_takeNumber_36 : decode cX7_takeNumber 36 = .ok (.iload_n 3, 1) := by decide +kernel
theorem dX7_takeNumber_37 : decode cX7_takeNumber 37 = .ok (.bipush 10, 2) := by decide +kernel
theorem dX7_takeNumber_39 : decode cX7_takeNumber 39 = .ok (.imul, 1) := by decide +kernel
theorem dX7_takeNumber_40 : decode cX7_takeNumber 40 = .ok (.aload_n 0, 1) := by decide +kernel
theorem dX7_takeNumber_41 : decode cX7_takeNumber 41 = .ok (.iload 4, 2) := by decide +kernel
theorem dX7_takeNumber_43 : decode cX7_takeNumber 43 = .ok (.invokevirtual 146, 3) := by decide +kernel
theorem dX7_takeNumber_46 : decode cX7_takeNumber 46 = .ok (.iadd, 1) := by decide +kernel
theorem dX7_takeNumber_47 : decode cX7_takeNumber 47 = .ok (.bipush 48, 2) := by decide +kernel
theorem dX7_takeNumber_49 : decode cX7_takeNumber 49 = .ok (.isub, 1) := by decide +kernel
theorem dX7_takeNumber_50 : decode cX7_takeNumber 50 = .ok (.invokestatic 167, 3) := by decide +kernel
theorem dX7_takeNumber_53 : decode cX7_takeNumber 53 = .ok (.istore_n 3, 1) := by decide +kernel
theorem dX7_takeNumber_54 : decode cX7_takeNumber 54 = .ok (.iinc 4 1, 3) := by decide +kernel
theorem dX7_takeNumber_57 : decode cX7_takeNumber 57 = .ok (.goto (-49), 3) := by decide +kernel
theorem dX7_takeNumber_60 : decode cX7_takeNumber 60 = .ok (.iload 4, 2) := by decide +kernel
theorem dX7_takeNumber_62 : decode cX7_takeNumber 62 = .ok (.aload_n 0, 1) := by decide +kernel
theorem dX7_takeNumber_63 : decode cX7_takeNumber 63 = .ok (.getfield 27, 3) := by decide +kernel
theorem dX7_takeNumber_66 : decode cX7_takeNumber 66 = .ok (.isub, 1) := by decide +kernel
theorem dX7_takeNumber_67 : decode cX7_takeNumber 67 = .ok (.iconst 1, 1) := by decide +kernel
theorem dX7_takeNumber_68 : decode cX7_takeNumber 68 = .ok (.if_icmp .le 20, 3) := by decide +kernel
theorem dX7_takeNumber_71 : decode cX7_takeNumber 71 = .ok (.aload_n 0, 1) := by decide +kernel
theorem dX7_takeNumber_72 : decode cX7_takeNumber 72 = .ok (.aload_n 0, 1) := by decide +kernel
theorem dX7_takeNumber_73 : decode cX7_takeNumber 73 = .ok (.getfield 27, 3) := by decide +kernel
theorem dX7_takeNumber_76 : decode cX7_takeNumber 76 = .ok (.invokevirtual 146, 3) := by decide +kernel
theorem dX7_takeNumber_79 : decode cX7_takeNumber 79 = .ok (.bipush 48, 2) := by decide +kernel
theorem dX7_takeNumber_81 : decode cX7_takeNumber 81 = .ok (.if_icmp .ne 7, 3) := by decide +kernel
theorem dX7_takeNumber_84 : decode cX7_takeNumber 84 = .ok (.iconst 1, 1) := by decide +kernel
theorem dX7_takeNumber_85 : decode cX7_takeNumber 85 = .ok (.goto 4, 3) := by decide +kernel
theorem dX7_takeNumber_88 : decode cX7_takeNumber 88 = .ok (.iconst 0, 1) := by decide +kernel
theorem dX7_takeNumber_89 : decode cX7_takeNumber 89 = .ok (.istore 5, 2) := by decide +kernel
theorem dX7_takeNumber_91 : decode cX7_takeNumber 91 = .ok (.iload 4, 2) := by decide +kernel
theorem dX7_takeNumber_93 : decode cX7_takeNumber 93 = .ok (.aload_n 0, 1) := by decide +kernel
theorem dX7_takeNumber_94 : decode cX7_takeNumber 94 = .ok (.getfield 27, 3) := by decide +kernel
theorem dX7_takeNumber_97 : decode cX7_takeNumber 97 = .ok (.if_icmp .eq 17, 3) := by decide +kernel
theorem dX7_takeNumber_100 : decode cX7_takeNumber 100 = .ok (.iload 5, 2) := by decide +kernel
theorem dX7_takeNumber_102 : decode cX7_takeNumber 102 = .ok (.ifCond .ne 12, 3) := by decide +kernel
theorem dX7_takeNumber_105 : decode cX7_takeNumber 105 = .ok (.iload_n 3, 1) := by decide +kernel
theorem dX7_takeNumber_106 : decode cX7_takeNumber 106 = .ok (.iload_n 1, 1) := by decide +kernel
theorem dX7_takeNumber_107 : decode cX7_takeNumber 107 = .ok (.iload_n 2, 1) := by decide +kernel
theorem dX7_takeNumber_108 : decode cX7_takeNumber 108 = .ok (.invokestatic 159, 3) := by decide +kernel
theorem dX7_takeNumber_111 : decode cX7_takeNumber 111 = .ok (.ifCond .ne 5, 3) := by decide +kernel
theorem dX7_takeNumber_114 : decode cX7_takeNumber 114 = .ok (.iconst (-1), 1) := by decide +kernel
theorem dX7_takeNumber_115 : decode cX7_takeNumber 115 = .ok (.ireturn, 1) := by decide +kernel
theorem dX7_takeNumber_116 : decode cX7_takeNumber 116 = .ok (.aload_n 0, 1) := by decide +kernel
theorem dX7_takeNumber_117 : decode cX7_takeNumber 117 = .ok (.iload 4, 2) := by decide +kernel
theorem dX7_takeNumber_119 : decode cX7_takeNumber 119 = .ok (.putfield 27, 3) := by decide +kernel
theorem dX7_takeNumber_122 : decode cX7_takeNumber 122 = .ok (.iload_n 3, 1) := by decide +kernel
theorem dX7_takeNumber_123 : decode cX7_takeNumber 123 = .ok (.ireturn, 1) := by decide +kernel
theorem dX7_takeEnd_0 : decode cX7_takeEnd 0 = .ok (.aload_n 0, 1) := by decide +kernel
theorem dX7_takeEnd_1 : decode cX7_takeEnd 1 = .ok (.invokevirtual 30, 3) := by decide +kernel
theorem dX7_takeEnd_4 : decode cX7_takeEnd 4 = .ok (.aload_n 0, 1) := by decide +kernel
theorem dX7_takeEnd_5 : decode cX7_takeEnd 5 = .ok (.aload_n 0, 1) := by decide +kernel
theorem dX7_takeEnd_6 : decode cX7_takeEnd 6 = .ok (.getfield 27, 3) := by decide +kernel
theorem dX7_takeEnd_9 : decode cX7_takeEnd 9 = .ok (.invokevirtual 146, 3) := by decide +kernel
theorem dX7_takeEnd_12 : decode cX7_takeEnd 12 = .ok (.bipush 59, 2) := by decide +kernel
theorem dX7_takeEnd_14 : decode cX7_takeEnd 14 = .ok (.if_icmp .eq 5, 3) := by decide +kernel
theorem dX7_takeEnd_17 : decode cX7_takeEnd 17 = .ok (.iconst 0, 1) := by decide +kernel
theorem dX7_takeEnd_18 : decode cX7_takeEnd 18 = .ok (.ireturn, 1) := by decide +kernel
theorem dX7_takeEnd_19 : decode cX7_takeEnd 19 = .ok (.aload_n 0, 1) := by decide +kernel
theorem dX7_takeEnd_20 : decode cX7_takeEnd 20 = .ok (.dup, 1) := by decide +kernel
theorem dX7_takeEnd_21 : decode cX7_takeEnd 21 = .ok (.getfield 27, 3) := by decide +kernel
theorem dX7_takeEnd_24 : decode cX7_takeEnd 24 = .ok (.iconst 1, 1) := by decide +kernel
theorem dX7_takeEnd_25 : decode cX7_takeEnd 25 = .ok (.iadd, 1) := by decide +kernel
theorem dX7_takeEnd_26 : decode cX7_takeEnd 26 = .ok (.putfield 27, 3) := by decide +kernel
theorem dX7_takeEnd_29 : decode cX7_takeEnd 29 = .ok (.iconst 1, 1) := by decide +kernel
theorem dX7_takeEnd_30 : decode cX7_takeEnd 30 = .ok (.ireturn, 1) := by decide +kernel
theorem dX8_init_0 : decode cX8_init 0 = .ok (.aload_n 0, 1) := by decide +kernel
theorem dX8_init_1 : decode cX8_init 1 = .ok (.invokespecial 3, 3) := by decide +kernel
theorem dX8_init_4 : decode cX8_init 4 = .ok (.aload_n 0, 1) := by decide +kernel
theorem dX8_init_5 : decode cX8_init 5 = .ok (.bipush 60, 2) := by decide +kernel
theorem dX8_init_7 : decode cX8_init 7 = .ok (.newarray .int, 2) := by decide +kernel
theorem dX8_init_9 : decode cX8_init 9 = .ok (.putfield 9, 3) := by decide +kernel
theorem dX8_init_12 : decode cX8_init 12 = .ok (.aload_n 0, 1) := by decide +kernel
theorem dX8_init_13 : decode cX8_init 13 = .ok (.bipush 60, 2) := by decide +kernel
theorem dX8_init_15 : decode cX8_init 15 = .ok (.newarray .int, 2) := by decide +kernel
theorem dX8_init_17 : decode cX8_init 17 = .ok (.putfield 15, 3) := by decide +kernel
theorem dX8_init_20 : decode cX8_init 20 = .ok (.aload_n 0, 1) := by decide +kernel
theorem dX8_init_21 : decode cX8_init 21 = .ok (.bipush 60, 2) := by decide +kernel
theorem dX8_init_23 : decode cX8_init 23 = .ok (.newarray .int, 2) := by decide +kernel
theorem dX8_init_25 : decode cX8_init 25 = .ok (.putfield 18, 3) := by decide +kernel
theorem dX8_init_28 : decode cX8_init 28 = .ok (.aload_n 0, 1) := by decide +kernel
theorem dX8_init_29 : decode cX8_init 29 = .ok (.bipush 60, 2) := by decide +kernel
theorem dX8_init_31 : decode cX8_init 31 = .ok (.newarray .int, 2) := by decide +kernel
theorem dX8_init_33 : decode cX8_init 33 = .ok (.putfield 21, 3) := by decide +kernel
theorem dX8_init_36 : decode cX8_init 36 = .ok (.aload_n 0, 1) := by decide +kernel
theorem dX8_init_37 : decode cX8_init 37 = .ok (.bipush 60, 2) := by decide +kernel
theorem dX8_init_39 : decode cX8_init 39 = .ok (.newarray .int, 2) := by decide +kernel
theorem dX8_init_41 : decode cX8_init 41 = .ok (.putfield 24, 3) := by decide +kernel
theorem dX8_init_44 : decode cX8_init 44 = .ok (.aload_n 0, 1) := by decide +kernel
theorem dX8_init_45 : decode cX8_init 45 = .ok (.bipush 12, 2) := by decide +kernel
theorem dX8_init_47 : decode cX8_init 47 = .ok (.newarray .int, 2) := by decide +kernel
theorem dX8_init_49 : decode cX8_init 49 = .ok (.putfield 27, 3) := by decide +kernel
theorem dX8_init_52 : decode cX8_init 52 = .ok (.aload_n 0, 1) := by decide +kernel
theorem dX8_init_53 : decode cX8_init 53 = .ok (.bipush 12, 2) := by decide +kernel
theorem dX8_init_55 : decode cX8_init 55 = .ok (.newarray .int, 2) := by decide +kernel
theorem dX8_init_57 : decode cX8_init 57 = .ok (.putfield 30, 3) := by decide +kernel
theorem dX8_init_60 : decode cX8_init 60 = .ok (.return_, 1) := by decide +kernel
theorem dX8_add_0 : decode cX8_add 0 = .ok (.aload_n 0, 1) := by decide +kernel
theorem dX8_add_1 : decode cX8_add 1 = .ok (.getfield 33, 3) := by decide +kernel
theorem dX8_add_4 : decode cX8_add 4 = .ok (.bipush 60, 2) := by decide +kernel
theorem dX8_add_6 : decode cX8_add 6 = .ok (.if_icmp .lt 4, 3) := by decide +kernel
theorem dX8_add_9 : decode cX8_add 9 = .ok (.return_, 1) := by decide +kernel
theorem dX8_add_10 : decode cX8_add 10 = .ok (.aload_n 0, 1) := by decide +kernel
theorem dX8_add_11 : decode cX8_add 11 = .ok (.getfield 9, 3) := by decide +kernel
theorem dX8_add_14 : decode cX8_add 14 = .ok (.aload_n 0, 1) := by decide +kernel
theorem dX8_add_15 : decode cX8_add 15 = .ok (.getfield 33, 3) := by decide +kernel
theorem dX8_add_18 : decode cX8_add 18 = .ok (.iload_n 1, 1) := by decide +kernel
theorem dX8_add_19 : decode cX8_add 19 = .ok (.iastore, 1) := by decide +kernel
theorem dX8_add_20 : decode cX8_add 20 = .ok (.aload_n 0, 1) := by decide +kernel
theorem dX8_add_21 : decode cX8_add 21 = .ok (.getfield 15, 3) := by decide +kernel
theorem dX8_add_24 : decode cX8_add 24 = .ok (.aload_n 0, 1) := by decide +kernel
theorem dX8_add_25 : decode cX8_add 25 = .ok (.getfield 33, 3) := by decide +kernel
theorem dX8_add_28 : decode cX8_add 28 = .ok (.iload_n 2, 1) := by decide +kernel
theorem dX8_add_29 : decode cX8_add 29 = .ok (.iastore, 1) := by decide +kernel
theorem dX8_add_30 : decode cX8_add 30 = .ok (.aload_n 0, 1) := by decide +kernel
theorem dX8_add_31 : decode cX8_add 31 = .ok (.getfield 18, 3) := by decide +kernel
theorem dX8_add_34 : decode cX8_add 34 = .ok (.aload_n 0, 1) := by decide +kernel
theorem dX8_add_35 : decode cX8_add 35 = .ok (.getfield 33, 3) := by decide +kernel
theorem dX8_add_38 : decode cX8_add 38 = .ok (.iload_n 3, 1) := by decide +kernel
theorem dX8_add_39 : decode cX8_add 39 = .ok (.iastore, 1) := by decide +kernel
theorem dX8_add_40 : decode cX8_add 40 = .ok (.aload_n 0, 1) := by decide +kernel
theorem dX8_add_41 : decode cX8_add 41 = .ok (.getfield 21, 3) := by decide +kernel
theorem dX8_add_44 : decode cX8_add 44 = .ok (.aload_n 0, 1) := by decide +kernel
theorem dX8_add_45 : decode cX8_add 45 = .ok (.getfield 33, 3) := by decide +kernel
theorem dX8_add_48 : decode cX8_add 48 = .ok (.iload 4, 2) := by decide +kernel
theorem dX8_add_50 : decode cX8_add 50 = .ok (.iastore, 1) := by decide +kernel
theorem dX8_add_51 : decode cX8_add 51 = .ok (.aload_n 0, 1) := by decide +kernel
theorem dX8_add_52 : decode cX8_add 52 = .ok (.getfield 24, 3) := by decide +kernel
theorem dX8_add_55 : decode cX8_add 55 = .ok (.aload_n 0, 1) := by decide +kernel
theorem dX8_add_56 : decode cX8_add 56 = .ok (.getfield 33, 3) := by decide +kernel
theorem dX8_add_59 : decode cX8_add 59 = .ok (.iload 5, 2) := by decide +kernel
theorem dX8_add_61 : decode cX8_add 61 = .ok (.iastore, 1) := by decide +kernel
theorem dX8_add_62 : decode cX8_add 62 = .ok (.aload_n 0, 1) := by decide +kernel
theorem dX8_add_63 : decode cX8_add 63 = .ok (.dup, 1) := by decide +kernel
theorem dX8_add_64 : decode cX8_add 64 = .ok (.getfield 33, 3) := by decide +kernel
theorem dX8_add_67 : decode cX8_add 67 = .ok (.iconst 1, 1) := by decide +kernel
theorem dX8_add_68 : decode cX8_add 68 = .ok (.iadd, 1) := by decide +kernel
theorem dX8_add_69 : decode cX8_add 69 = .ok (.putfield 33, 3) := by decide +kernel
theorem dX8_add_72 : decode cX8_add 72 = .ok (.return_, 1) := by decide +kernel
theorem dX8_tell_0 : decode cX8_tell 0 = .ok (.iload_n 1, 1) := by decide +kernel
theorem dX8_tell_1 : decode cX8_tell 1 = .ok (.ifCond .lt 11, 3) := by decide +kernel
theorem dX8_tell_4 : decode cX8_tell 4 = .ok (.iload_n 1, 1) := by decide +kernel
theorem dX8_tell_5 : decode cX8_tell 5 = .ok (.aload_n 0, 1) := by decide +kernel
theorem dX8_tell_6 : decode cX8_tell 6 = .ok (.getfield 33, 3) := by decide +kernel
theorem dX8_tell_9 : decode cX8_tell 9 = .ok (.if_icmp .lt 6, 3) := by decide +kernel
theorem dX8_tell_12 : decode cX8_tell 12 = .ok (.ldc 37, 2) := by decide +kernel
theorem dX8_tell_14 : decode cX8_tell 14 = .ok (.ireturn, 1) := by decide +kernel
theorem dX8_tell_15 : decode cX8_tell 15 = .ok (.iload_n 2, 1) := by decide +kernel
theorem dX8_tell_16 : decode cX8_tell 16 = .ok (.tableswitch 71 0 4 #[36, 43, 50, 57, 64], 36) := by decide +kernel
theorem dX8_tell_52 : decode cX8_tell 52 = .ok (.aload_n 0, 1) := by decide +kernel
theorem dX8_tell_53 : decode cX8_tell 53 = .ok (.getfield 9, 3) := by decide +kernel
theorem dX8_tell_56 : decode cX8_tell 56 = .ok (.iload_n 1, 1) := by decide +kernel
theorem dX8_tell_57 : decode cX8_tell 57 = .ok (.iaload, 1) := by decide +kernel
theorem dX8_tell_58 : decode cX8_tell 58 = .ok (.ireturn, 1) := by decide +kernel
theorem dX8_tell_59 : decode cX8_tell 59 = .ok (.aload_n 0, 1) := by decide +kernel
theorem dX8_tell_60 : decode cX8_tell 60 = .ok (.getfield 15, 3) := by decide +kernel
theorem dX8_tell_63 : decode cX8_tell 63 = .ok (.iload_n 1, 1) := by decide +kernel
theorem dX8_tell_64 : decode cX8_tell 64 = .ok (.iaload, 1) := by decide +kernel
theorem dX8_tell_65 : decode cX8_tell 65 = .ok (.ireturn, 1) := by decide +kernel
theorem dX8_tell_66 : decode cX8_tell 66 = .ok (.aload_n 0, 1) := by decide +kernel
theorem dX8_tell_67 : decode cX8_tell 67 = .ok (.getfield 18, 3) := by decide +kernel
theorem dX8_tell_70 : decode cX8_tell 70 = .ok (.iload_n 1, 1) := by decide +kernel
theorem dX8_tell_71 : decode cX8_tell 71 = .ok (.iaload, 1) := by decide +kernel
theorem dX8_tell_72 : decode cX8_tell 72 = .ok (.ireturn, 1) := by decide +kernel
theorem dX8_tell_73 : decode cX8_tell 73 = .ok (.aload_n 0, 1) := by decide +kernel
theorem dX8_tell_74 : decode cX8_tell 74 = .ok (.getfield 21, 3) := by decide +kernel
theorem dX8_tell_77 : decode cX8_tell 77 = .ok (.iload_n 1, 1) := by decide +kernel
theorem dX8_tell_78 : decode cX8_tell 78 = .ok (.iaload, 1) := by decide +kernel
theorem dX8_tell_79 : decode cX8_tell 79 = .ok (.ireturn, 1) := by decide +kernel
theorem dX8_tell_80 : decode cX8_tell 80 = .ok (.aload_n 0, 1) := by decide +kernel
theorem dX8_tell_81 : decode cX8_tell 81 = .ok (.getfield 24, 3) := by decide +kernel
theorem dX8_tell_84 : decode cX8_tell 84 = .ok (.iload_n 1, 1) := by decide +kernel
theorem dX8_tell_85 : decode cX8_tell 85 = .ok (.iaload, 1) := by decide +kernel
theorem dX8_tell_86 : decode cX8_tell 86 = .ok (.ireturn, 1) := by decide +kernel
theorem dX8_tell_87 : decode cX8_tell 87 = .ok (.ldc 37, 2) := by decide +kernel
theorem dX8_tell_89 : decode cX8_tell 89 = .ok (.ireturn, 1) := by decide +kernel
theorem dX8_empty_0 : decode cX8_empty 0 = .ok (.aload_n 0, 1) := by decide +kernel
theorem dX8_empty_1 : decode cX8_empty 1 = .ok (.getfield 33, 3) := by decide +kernel
theorem dX8_empty_4 : decode cX8_empty 4 = .ok (.istore_n 1, 1) := by decide +kernel
theorem dX8_empty_5 : decode cX8_empty 5 = .ok (.aload_n 0, 1) := by decide +kernel
theorem dX8_empty_6 : decode cX8_empty 6 = .ok (.iconst 0, 1) := by decide +kernel
theorem dX8_empty_7 : decode cX8_empty 7 = .ok (.putfield 33, 3) := by decide +kernel
theorem dX8_empty_10 : decode cX8_empty 10 = .ok (.iload_n 1, 1) := by decide +kernel
theorem dX8_empty_11 : decode cX8_empty 11 = .ok (.ireturn, 1) := by decide +kernel
theorem dX8_copy_0 : decode cX8_copy 0 = .ok (.aload_n 0, 1) := by decide +kernel
theorem dX8_copy_1 : decode cX8_copy 1 = .ok (.aload_n 1, 1) := by decide +kernel
theorem dX8_copy_2 : decode cX8_copy 2 = .ok (.getfield 33, 3) := by decide +kernel
theorem dX8_copy_5 : decode cX8_copy 5 = .ok (.putfield 33, 3) := by decide +kernel
theorem dX8_copy_8 : decode cX8_copy 8 = .ok (.iconst 0, 1) := by decide +kernel
theorem dX8_copy_9 : decode cX8_copy 9 = .ok (.istore_n 2, 1) := by decide +kernel
theorem dX8_copy_10 : decode cX8_copy 10 = .ok (.iload_n 2, 1) := by decide +kernel
theorem dX8_copy_11 : decode cX8_copy 11 = .ok (.aload_n 0, 1) := by decide +kernel
theorem dX8_copy_12 : decode cX8_copy 12 = .ok (.getfield 33, 3) := by decide +kernel
theorem dX8_copy_15 : decode cX8_copy 15 = .ok (.if_icmp .ge 69, 3) := by decide +kernel
theorem dX8_copy_18 : decode cX8_copy 18 = .ok (.aload_n 0, 1) := by decide +kernel
theorem dX8_copy_19 : decode cX8_copy 19 = .ok (.getfield 9, 3) := by decide +kernel
theorem dX8_copy_22 : decode cX8_copy 22 = .ok (.iload_n 2, 1) := by decide +kernel
theorem dX8_copy_23 : decode cX8_copy 23 = .ok (.aload_n 1, 1) := by decide +kernel
theorem dX8_copy_24 : decode cX8_copy 24 = .ok (.getfield 9, 3) := by decide +kernel
theorem dX8_copy_27 : decode cX8_copy 27 = .ok (.iload_n 2, 1) := by decide +kernel
theorem dX8_copy_28 : decode cX8_copy 28 = .ok (.iaload, 1) := by decide +kernel
theorem dX8_copy_29 : decode cX8_copy 29 = .ok (.iastore, 1) := by decide +kernel
theorem dX8_copy_30 : decode cX8_copy 30 = .ok (.aload_n 0, 1) := by decide +kernel
theorem dX8_copy_31 : decode cX8_copy 31 = .ok (.getfield 15, 3) := by decide +kernel
theorem dX8_copy_34 : decode cX8_copy 34 = .ok (.iload_n 2, 1) := by decide +kernel
theorem dX8_copy_35 : decode cX8_copy 35 = .ok (.aload_n 1, 1) := by decide +kernel
theorem dX8_copy_36 : decode cX8_copy 36 = .ok (.getfield 15, 3) := by decide +kernel
theorem dX8_copy_39 : decode cX8_copy 39 = .ok (.iload_n 2, 1) := by decide +kernel
theorem dX8_copy_40 : decode cX8_copy 40 = .ok (.iaload, 1) := by decide +kernel
theorem dX8_copy_41 : decode cX8_copy 41 = .ok (.iastore, 1) := by decide +kernel
theorem dX8_copy_42 : decode cX8_copy 42 = .ok (.aload_n 0, 1) := by decide +kernel
theorem dX8_copy_43 : decode cX8_copy 43 = .ok (.getfield 18, 3) := by decide +kernel
theorem dX8_copy_46 : decode cX8_copy 46 = .ok (.iload_n 2, 1) := by decide +kernel
theorem dX8_copy_47 : decode cX8_copy 47 = .ok (.aload_n 1, 1) := by decide +kernel
theorem dX8_copy_48 : decode cX8_copy 48 = .ok (.getfield 18, 3) := by decide +kernel
theorem dX8_copy_51 : decode cX8_copy 51 = .ok (.iload_n 2, 1) := by decide +kernel
theorem dX8_copy_52 : decode cX8_copy 52 = .ok (.iaload, 1) := by decide +kernel
theorem dX8_copy_53 : decode cX8_copy 53 = .ok (.iastore, 1) := by decide +kernel
theorem dX8_copy_54 : decode cX8_copy 54 = .ok (.aload_n 0, 1) := by decide +kernel
theorem dX8_copy_55 : decode cX8_copy 55 = .ok (.getfield 21, 3) := by decide +kernel
theorem dX8_copy_58 : decode cX8_copy 58 = .ok (.iload_n 2, 1) := by decide +kernel
theorem dX8_copy_59 : decode cX8_copy 59 = .ok (.aload_n 1, 1) := by decide +kernel
theorem dX8_copy_60 : decode cX8_copy 60 = .ok (.getfield 21, 3) := by decide +kernel
theorem dX8_copy_63 : decode cX8_copy 63 = .ok (.iload_n 2, 1) := by decide +kernel
theorem dX8_copy_64 : decode cX8_copy 64 = .ok (.iaload, 1) := by decide +kernel
theorem dX8_copy_65 : decode cX8_copy 65 = .ok (.iastore, 1) := by decide +kernel
theorem dX8_copy_66 : decode cX8_copy 66 = .ok (.aload_n 0, 1) := by decide +kernel
theorem dX8_copy_67 : decode cX8_copy 67 = .ok (.getfield 24, 3) := by decide +kernel
theorem dX8_copy_70 : decode cX8_copy 70 = .ok (.iload_n 2, 1) := by decide +kernel
theorem dX8_copy_71 : decode cX8_copy 71 = .ok (.aload_n 1, 1) := by decide +kernel
theorem dX8_copy_72 : decode cX8_copy 72 = .ok (.getfield 24, 3) := by decide +kernel
theorem dX8_copy_75 : decode cX8_copy 75 = .ok (.iload_n 2, 1) := by decide +kernel
theorem dX8_copy_76 : decode cX8_copy 76 = .ok (.iaload, 1) := by decide +kernel
theorem dX8_copy_77 : decode cX8_copy 77 = .ok (.iastore, 1) := by decide +kernel
theorem dX8_copy_78 : decode cX8_copy 78 = .ok (.iinc 2 1, 3) := by decide +kernel
theorem dX8_copy_81 : decode cX8_copy 81 = .ok (.goto (-71), 3) := by decide +kernel
theorem dX8_copy_84 : decode cX8_copy 84 = .ok (.return_, 1) := by decide +kernel
theorem dX8_partedBy_0 : decode cX8_partedBy 0 = .ok (.aload_n 0, 1) := by decide +kernel
theorem dX8_partedBy_1 : decode cX8_partedBy 1 = .ok (.getfield 33, 3) := by decide +kernel
theorem dX8_partedBy_4 : decode cX8_partedBy 4 = .ok (.ifCond .ne 6, 3) := by decide +kernel
theorem dX8_partedBy_7 : decode cX8_partedBy 7 = .ok (.bipush (-9), 2) := by decide +kernel
theorem dX8_partedBy_9 : decode cX8_partedBy 9 = .ok (.ireturn, 1) := by decide +kernel
theorem dX8_partedBy_10 : decode cX8_partedBy 10 = .ok (.iconst 0, 1) := by decide +kernel
theorem dX8_partedBy_11 : decode cX8_partedBy 11 = .ok (.istore_n 1, 1) := by decide +kernel
theorem dX8_partedBy_12 : decode cX8_partedBy 12 = .ok (.lconst 0, 1) := by decide +kernel
theorem dX8_partedBy_13 : decode cX8_partedBy 13 = .ok (.lstore_n 2, 1) := by decide +kernel
theorem dX8_partedBy_14 : decode cX8_partedBy 14 = .ok (.lconst 1, 1) := by decide +kernel
theorem dX8_partedBy_15 : decode cX8_partedBy 15 = .ok (.lstore 4, 2) := by decide +kernel
theorem dX8_partedBy_17 : decode cX8_partedBy 17 = .ok (.iconst 0, 1) := by decide +kernel
theorem dX8_partedBy_18 : decode cX8_partedBy 18 = .ok (.istore 6, 2) := by decide +kernel
theorem dX8_partedBy_20 : decode cX8_partedBy 20 = .ok (.iload 6, 2) := by decide +kernel
theorem dX8_partedBy_22 : decode cX8_partedBy 22 = .ok (.iconst 2, 1) := by decide +kernel
theorem dX8_partedBy_23 : decode cX8_partedBy 23 = .ok (.if_icmp .gt 76, 3) := by decide +kernel
theorem dX8_partedBy_26 : decode cX8_partedBy 26 = .ok (.aload_n 0, 1) := by decide +kernel
theorem dX8_partedBy_27 : decode cX8_partedBy 27 = .ok (.iload 6, 2) := by decide +kernel
theorem dX8_partedBy_29 : decode cX8_partedBy 29 = .ok (.ifCond .ne 10, 3) := by decide +kernel
theorem dX8_partedBy_32 : decode cX8_partedBy 32 = .ok (.aload_n 0, 1) := by decide +kernel
theorem dX8_partedBy_33 : decode cX8_partedBy 33 = .ok (.getfield 9, 3) := by decide +kernel
theorem dX8_partedBy_36 : decode cX8_partedBy 36 = .ok (.goto 20, 3) := by decide +kernel
theorem dX8_partedBy_39 : decode cX8_partedBy 39 = .ok (.iload 6, 2) := by decide +kernel
theorem dX8_partedBy_41 : decode cX8_partedBy 41 = .ok (.iconst 1, 1) := by decide +kernel
theorem dX8_partedBy_42 : decode cX8_partedBy 42 = .ok (.if_icmp .ne 10, 3) := by decide +kernel
theorem dX8_partedBy_45 : decode cX8_partedBy 45 = .ok (.aload_n 0, 1) := by decide +kernel
theorem dX8_partedBy_46 : decode cX8_partedBy 46 = .ok (.getfield 18, 3) := by decide +kernel
theorem dX8_partedBy_49 : decode cX8_partedBy 49 = .ok (.goto 7, 3) := by decide +kernel
theorem dX8_partedBy_52 : decode cX8_partedBy 52 = .ok (.aload_n 0, 1) := by decide +kernel
theorem dX8_partedBy_53 : decode cX8_partedBy 53 = .ok (.getfield 15, 3) := by decide +kernel
theorem dX8_partedBy_56 : decode cX8_partedBy 56 = .ok (.invokevirtual 38, 3) := by decide +kernel
theorem dX8_partedBy_59 : decode cX8_partedBy 59 = .ok (.aload_n 0, 1) := by decide +kernel
theorem dX8_partedBy_60 : decode cX8_partedBy 60 = .ok (.getfield 42, 3) := by decide +kernel
theorem dX8_partedBy_63 : decode cX8_partedBy 63 = .ok (.lload 4, 2) := by decide +kernel
theorem dX8_partedBy_65 : decode cX8_partedBy 65 = .ok (.lmul, 1) := by decide +kernel
theorem dX8_partedBy_66 : decode cX8_partedBy 66 = .ok (.lload_n 2, 1) := by decide +kernel
theorem dX8_partedBy_67 : decode cX8_partedBy 67 = .ok (.aload_n 0, 1) := by decide +kernel
theorem dX8_partedBy_68 : decode cX8_partedBy 68 = .ok (.getfield 46, 3) := by decide +kernel
theorem dX8_partedBy_71 : decode cX8_partedBy 71 = .ok (.lmul, 1) := by decide +kernel
theorem dX8_partedBy_72 : decode cX8_partedBy 72 = .ok (.lcmp, 1) := by decide +kernel
theorem dX8_partedBy_73 : decode cX8_partedBy 73 = .ok (.ifCond .gt 6, 3) := by decide +kernel
theorem dX8_partedBy_76 : decode cX8_partedBy 76 = .ok (.goto 17, 3) := by decide +kernel
theorem dX8_partedBy_79 : decode cX8_partedBy 79 = .ok (.iload 6, 2) := by decide +kernel
theorem dX8_partedBy_81 : decode cX8_partedBy 81 = .ok (.istore_n 1, 1) := by decide +kernel
theorem dX8_partedBy_82 : decode cX8_partedBy 82 = .ok (.aload_n 0, 1) := by decide +kernel
theorem dX8_partedBy_83 : decode cX8_partedBy 83 = .ok (.getfield 42, 3) := by decide +kernel
theorem dX8_partedBy_86 : decode cX8_partedBy 86 = .ok (.lstore_n 2, 1) := by decide +kernel
theorem dX8_partedBy_87 : decode cX8_partedBy 87 = .ok (.aload_n 0, 1) := by decide +kernel
theorem dX8_partedBy_88 : decode cX8_partedBy 88 = .ok (.getfield 46, 3) := by decide +kernel
theorem dX8_partedBy_91 : decode cX8_partedBy 91 = .ok (.lstore 4, 2) := by decide +kernel
theorem dX8_partedBy_93 : decode cX8_partedBy 93 = .ok (.iinc 6 1, 3) := by decide +kernel
theorem dX8_partedBy_96 : decode cX8_partedBy 96 = .ok (.goto (-76), 3) := by decide +kernel
theorem dX8_partedBy_99 : decode cX8_partedBy 99 = .ok (.iload_n 1, 1) := by decide +kernel
theorem dX8_partedBy_100 : decode cX8_partedBy 100 = .ok (.ireturn, 1) := by decide +kernel
theorem dX8_weigh_0 : decode cX8_weigh 0 = .ok (.aload_n 0, 1) := by decide +kernel
theorem dX8_weigh_1 : decode cX8_weigh 1 = .ok (.aload_n 1, 1) := by decide +kernel
theorem dX8_weigh_2 : decode cX8_weigh 2 = .ok (.invokevirtual 49, 3) := by decide +kernel
theorem dX8_weigh_5 : decode cX8_weigh 5 = .ok (.aload_n 0, 1) := by decide +kernel
theorem dX8_weigh_6 : decode cX8_weigh 6 = .ok (.lconst 0, 1) := by decide +kernel
theorem dX8_weigh_7 : decode cX8_weigh 7 = .ok (.putfield 42, 3) := by decide +kernel
theorem dX8_weigh_10 : decode cX8_weigh 10 = .ok (.aload_n 0, 1) := by decide +kernel
theorem dX8_weigh_11 : decode cX8_weigh 11 = .ok (.lconst 1, 1) := by decide +kernel
theorem dX8_weigh_12 : decode cX8_weigh 12 = .ok (.putfield 46, 3) := by decide +kernel
theorem dX8_weigh_15 : decode cX8_weigh 15 = .ok (.iconst 0, 1) := by decide +kernel
theorem dX8_weigh_16 : decode cX8_weigh 16 = .ok (.istore_n 2, 1) := by decide +kernel
theorem dX8_weigh_17 : decode cX8_weigh 17 = .ok (.iload_n 2, 1) := by decide +kernel
theorem dX8_weigh_18 : decode cX8_weigh 18 = .ok (.aload_n 0, 1) := by decide +kernel
theorem dX8_weigh_19 : decode cX8_weigh 19 = .ok (.getfield 30, 3) := by decide +kernel
theorem dX8_weigh_22 : decode cX8_weigh 22 = .ok (.arraylength, 1) := by decide +kernel
theorem dX8_weigh_23 : decode cX8_weigh 23 = .ok (.if_icmp .ge 44, 3) := by decide +kernel
theorem dX8_weigh_26 : decode cX8_weigh 26 = .ok (.aload_n 0, 1) := by decide +kernel
theorem dX8_weigh_27 : decode cX8_weigh 27 = .ok (.getfield 30, 3) := by decide +kernel
theorem dX8_weigh_30 : decode cX8_weigh 30 = .ok (.iload_n 2, 1) := by decide +kernel
theorem dX8_weigh_31 : decode cX8_weigh 31 = .ok (.iaload, 1) := by decide +kernel
theorem dX8_weigh_32 : decode cX8_weigh 32 = .ok (.ifCond .le 29, 3) := by decide +kernel
theorem dX8_weigh_35 : decode cX8_weigh 35 = .ok (.aload_n 0, 1) := by decide +kernel
theorem dX8_weigh_36 : decode cX8_weigh 36 = .ok (.aload_n 0, 1) := by decide +kernel
theorem dX8_weigh_37 : decode cX8_weigh 37 = .ok (.getfield 27, 3) := by decide +kernel
theorem dX8_weigh_40 : decode cX8_weigh 40 = .ok (.iload_n 2, 1) := by decide +kernel
theorem dX8_weigh_41 : decode cX8_weigh 41 = .ok (.iaload, 1) := by decide +kernel
theorem dX8_weigh_42 : decode cX8_weigh 42 = .ok (.i2l, 1) := by decide +kernel
theorem dX8_weigh_43 : decode cX8_weigh 43 = .ok (.aload_n 0, 1) := by decide +kernel
theorem dX8_weigh_44 : decode cX8_weigh 44 = .ok (.getfield 27, 3) := by decide +kernel
theorem dX8_weigh_47 : decode cX8_weigh 47 = .ok (.iload_n 2, 1) := by decide +kernel
theorem dX8_weigh_48 : decode cX8_weigh 48 = .ok (.iaload, 1) := by decide +kernel
theorem dX8_weigh_49 : decode cX8_weigh 49 = .ok (.i2l, 1) := by decide +kernel
theorem dX8_weigh_50 : decode cX8_weigh 50 = .ok (.lmul, 1) := by decide +kernel
theorem dX8_weigh_51 : decode cX8_weigh 51 = .ok (.aload_n 0, 1) := by decide +kernel
theorem dX8_weigh_52 : decode cX8_weigh 52 = .ok (.getfield 30, 3) := by decide +kernel
theorem dX8_weigh_55 : decode cX8_weigh 55 = .ok (.iload_n 2, 1) := by decide +kernel
theorem dX8_weigh_56 : decode cX8_weigh 56 = .ok (.iaload, 1) := by decide +kernel
theorem dX8_weigh_57 : decode cX8_weigh 57 = .ok (.i2l, 1) := by decide +kernel
theorem dX8_weigh_58 : decode cX8_weigh 58 = .ok (.invokevirtual 52, 3) := by decide +kernel
theorem dX8_weigh_61 : decode cX8_weigh 61 = .ok (.iinc 2 1, 3) := by decide +kernel
theorem dX8_weigh_64 : decode cX8_weigh 64 = .ok (.goto (-47), 3) := by decide +kernel
theorem dX8_weigh_67 : decode cX8_weigh 67 = .ok (.return_, 1) := by decide +kernel
theorem dX8_addUp_0 : decode cX8_addUp 0 = .ok (.iconst 0, 1) := by decide +kernel
theorem dX8_addUp_1 : decode cX8_addUp 1 = .ok (.istore_n 2, 1) := by decide +kernel
theorem dX8_addUp_2 : decode cX8_addUp 2 = .ok (.iload_n 2, 1) := by decide +kernel
theorem dX8_addUp_3 : decode cX8_addUp 3 = .ok (.aload_n 0, 1) := by decide +kernel
theorem dX8_addUp_4 : decode cX8_addUp 4 = .ok (.getfield 30, 3) := by decide +kernel
theorem dX8_addUp_7 : decode cX8_addUp 7 = .ok (.arraylength, 1) := by decide +kernel
theorem dX8_addUp_8 : decode cX8_addUp 8 = .ok (.if_icmp .ge 23, 3) := by decide +kernel
theorem dX8_addUp_11 : decode cX8_addUp 11 = .ok (.aload_n 0, 1) := by decide +kernel
theorem dX8_addUp_12 : decode cX8_addUp 12 = .ok (.getfield 27, 3) := by decide +kernel
theorem dX8_addUp_15 : decode cX8_addUp 15 = .ok (.iload_n 2, 1) := by decide +kernel
theorem dX8_addUp_16 : decode cX8_addUp 16 = .ok (.iconst 0, 1) := by decide +kernel
theorem dX8_addUp_17 : decode cX8_addUp 17 = .ok (.iastore, 1) := by decide +kernel
theorem dX8_addUp_18 : decode cX8_addUp 18 = .ok (.aload_n 0, 1) := by decide +kernel
theorem dX8_addUp_19 : decode cX8_addUp 19 = .ok (.getfield 30, 3) := by decide +kernel
theorem dX8_addUp_22 : decode cX8_addUp 22 = .ok (.iload_n 2, 1) := by decide +kernel
theorem dX8_addUp_23 : decode cX8_addUp 23 = .ok (.iconst 0, 1) := by decide +kernel
theorem dX8_addUp_24 : decode cX8_addUp 24 = .ok (.iastore, 1) := by decide +kernel
theorem dX8_addUp_25 : decode cX8_addUp 25 = .ok (.iinc 2 1, 3) := by decide +kernel
theorem dX8_addUp_28 : decode cX8_addUp 28 = .ok (.goto (-26), 3) := by decide +kernel
theorem dX8_addUp_31 : decode cX8_addUp 31 = .ok (.iconst 0, 1) := by decide +kernel
theorem dX8_addUp_32 : decode cX8_addUp 32 = .ok (.istore_n 2, 1) := by decide +kernel
theorem dX8_addUp_33 : decode cX8_addUp 33 = .ok (.iload_n 2, 1) := by decide +kernel
theorem dX8_addUp_34 : decode cX8_addUp 34 = .ok (.aload_n 0, 1) := by decide +kernel
theorem dX8_addUp_35 : decode cX8_addUp 35 = .ok (.getfield 33, 3) := by decide +kernel
theorem dX8_addUp_38 : decode cX8_addUp 38 = .ok (.if_icmp .ge 54, 3) := by decide +kernel
theorem dX8_addUp_41 : decode cX8_addUp 41 = .ok (.aload_n 1, 1) := by decide +kernel
theorem dX8_addUp_42 : decode cX8_addUp 42 = .ok (.iload_n 2, 1) := by decide +kernel
theorem dX8_addUp_43 : decode cX8_addUp 43 = .ok (.iaload, 1) := by decide +kernel
theorem dX8_addUp_44 : decode cX8_addUp 44 = .ok (.istore_n 3, 1) := by decide +kernel
theorem dX8_addUp_45 : decode cX8_addUp 45 = .ok (.iload_n 3, 1) := by decide +kernel
theorem dX8_addUp_46 : decode cX8_addUp 46 = .ok (.ifCond .lt 40, 3) := by decide +kernel
theorem dX8_addUp_49 : decode cX8_addUp 49 = .ok (.iload_n 3, 1) := by decide +kernel
theorem dX8_addUp_50 : decode cX8_addUp 50 = .ok (.aload_n 0, 1) := by decide +kernel
theorem dX8_addUp_51 : decode cX8_addUp 51 = .ok (.getfield 30, 3) := by decide +kernel
theorem dX8_addUp_54 : decode cX8_addUp 54 = .ok (.arraylength, 1) := by decide +kernel
theorem dX8_addUp_55 : decode cX8_addUp 55 = .ok (.if_icmp .lt 6, 3) := by decide +kernel
theorem dX8_addUp_58 : decode cX8_addUp 58 = .ok (.goto 28, 3) := by decide +kernel
theorem dX8_addUp_61 : decode cX8_addUp 61 = .ok (.aload_n 0, 1) := by decide +kernel
theorem dX8_addUp_62 : decode cX8_addUp 62 = .ok (.getfield 27, 3) := by decide +kernel
theorem dX8_addUp_65 : decode cX8_addUp 65 = .ok (.iload_n 3, 1) := by decide +kernel
theorem dX8_addUp_66 : decode cX8_addUp 66 = .ok (.dup2, 1) := by decide +kernel
theorem dX8_addUp_67 : decode cX8_addUp 67 = .ok (.iaload, 1) := by decide +kernel
theorem dX8_addUp_68 : decode cX8_addUp 68 = .ok (.aload_n 0, 1) := by decide +kernel
theorem dX8_addUp_69 : decode cX8_addUp 69 = .ok (.getfield 21, 3) := by decide +kernel
theorem dX8_addUp_72 : decode cX8_addUp 72 = .ok (.iload_n 2, 1) := by decide +kernel
theorem dX8_addUp_73 : decode cX8_addUp 73 = .ok (.iaload, 1) := by decide +kernel
theorem dX8_addUp_74 : decode cX8_addUp 74 = .ok (.iadd, 1) := by decide +kernel
theorem dX8_addUp_75 : decode cX8_addUp 75 = .ok (.iastore, 1) := by decide +kernel
theorem dX8_addUp_76 : decode cX8_addUp 76 = .ok (.aload_n 0, 1) := by decide +kernel
theorem dX8_addUp_77 : decode cX8_addUp 77 = .ok (.getfield 30, 3) := by decide +kernel
theorem dX8_addUp_80 : decode cX8_addUp 80 = .ok (.iload_n 3, 1) := by decide +kernel
theorem dX8_addUp_81 : decode cX8_addUp 81 = .ok (.dup2, 1) := by decide +kernel
theorem dX8_addUp_82 : decode cX8_addUp 82 = .ok (.iaload, 1) := by decide +kernel
theorem dX8_addUp_83 : decode cX8_addUp 83 = .ok (.iconst 1, 1) := by decide +kernel
theorem dX8_addUp_84 : decode cX8_addUp 84 = .ok (.iadd, 1) := by decide +kernel
theorem dX8_addUp_85 : decode cX8_addUp 85 = .ok (.iastore, 1) := by decide +kernel
theorem dX8_addUp_86 : decode cX8_addUp 86 = .ok (.iinc 2 1, 3) := by decide +kernel
theorem dX8_addUp_89 : decode cX8_addUp 89 = .ok (.goto (-56), 3) := by decide +kernel
theorem dX8_addUp_92 : decode cX8_addUp 92 = .ok (.return_, 1) := by decide +kernel
theorem dX8_addFraction_0 : decode cX8_addFraction 0 = .ok (.aload_n 0, 1) := by decide +kernel
theorem dX8_addFraction_1 : decode cX8_addFraction 1 = .ok (.getfield 46, 3) := by decide +kernel
theorem dX8_addFraction_4 : decode cX8_addFraction 4 = .ok (.lload_n 3, 1) := by decide +kernel
theorem dX8_addFraction_5 : decode cX8_addFraction 5 = .ok (.invokestatic 56, 3) := by decide +kernel
theorem dX8_addFraction_8 : decode cX8_addFraction 8 = .ok (.lstore 5, 2) := by decide +kernel
theorem dX8_addFraction_10 : decode cX8_addFraction 10 = .ok (.lload 5, 2) := by decide +kernel
theorem dX8_addFraction_12 : decode cX8_addFraction 12 = .ok (.lconst 0, 1) := by decide +kernel
theorem dX8_addFraction_13 : decode cX8_addFraction 13 = .ok (.lcmp, 1) := by decide +kernel
theorem dX8_addFraction_14 : decode cX8_addFraction 14 = .ok (.ifCond .ne 4, 3) := by decide +kernel
theorem dX8_addFraction_17 : decode cX8_addFraction 17 = .ok (.return_, 1) := by decide +kernel
theorem dX8_addFraction_18 : decode cX8_addFraction 18 = .ok (.aload_n 0, 1) := by decide +kernel
theorem dX8_addFraction_19 : decode cX8_addFraction 19 = .ok (.aload_n 0, 1) := by decide +kernel
theorem dX8_addFraction_20 : decode cX8_addFraction 20 = .ok (.getfield 42, 3) := by decide +kernel
theorem dX8_addFraction_23 : decode cX8_addFraction 23 = .ok (.lload_n 3, 1) := by decide +kernel
theorem dX8_addFraction_24 : decode cX8_addFraction 24 = .ok (.lload 5, 2) := by decide +kernel
theorem dX8_addFraction_26 : decode cX8_addFraction 26 = .ok (.ldiv, 1) := by decide +kernel
theorem dX8_addFraction_27 : decode cX8_addFraction 27 = .ok (.lmul, 1) := by decide +kernel
theorem dX8_addFraction_28 : decode cX8_addFraction 28 = .ok (.lload_n 1, 1) := by decide +kernel
theorem dX8_addFraction_29 : decode cX8_addFraction 29 = .ok (.aload_n 0, 1) := by decide +kernel
theorem dX8_addFraction_30 : decode cX8_addFraction 30 = .ok (.getfield 46, 3) := by decide +kernel
theorem dX8_addFraction_33 : decode cX8_addFraction 33 = .ok (.lload 5, 2) := by decide +kernel
theorem dX8_addFraction_35 : decode cX8_addFraction 35 = .ok (.ldiv, 1) := by decide +kernel
theorem dX8_addFraction_36 : decode cX8_addFraction 36 = .ok (.lmul, 1) := by decide +kernel
theorem dX8_addFraction_37 : decode cX8_addFraction 37 = .ok (.ladd, 1) := by decide +kernel
theorem dX8_addFraction_38 : decode cX8_addFraction 38 = .ok (.putfield 42, 3) := by decide +kernel
theorem dX8_addFraction_41 : decode cX8_addFraction 41 = .ok (.aload_n 0, 1) := by decide +kernel
theorem dX8_addFraction_42 : decode cX8_addFraction 42 = .ok (.aload_n 0, 1) := by decide +kernel
theorem dX8_addFraction_43 : decode cX8_addFraction 43 = .ok (.getfield 46, 3) := by decide +kernel
theorem dX8_addFraction_46 : decode cX8_addFraction 46 = .ok (.lload_n 3, 1) := by decide +kernel
theorem dX8_addFraction_47 : decode cX8_addFraction 47 = .ok (.lload 5, 2) := by decide +kernel
theorem dX8_addFraction_49 : decode cX8_addFraction 49 = .ok (.ldiv, 1) := by decide +kernel
theorem dX8_addFraction_50 : decode cX8_addFraction 50 = .ok (.lmul, 1) := by decide +kernel
theorem dX8_addFraction_51 : decode cX8_addFraction 51 = .ok (.putfield 46, 3) := by decide +kernel
theorem dX8_addFraction_54 : decode cX8_addFraction 54 = .ok (.return_, 1) := by decide +kernel
theorem dX8_commonDivisor_0 : decode cX8_commonDivisor 0 = .ok (.iconst 0, 1) := by decide +kernel
theorem dX8_commonDivisor_1 : decode cX8_commonDivisor 1 = .ok (.istore 4, 2) := by decide +kernel
theorem dX8_commonDivisor_3 : decode cX8_commonDivisor 3 = .ok (.iload 4, 2) := by decide +kernel
theorem dX8_commonDivisor_5 : decode cX8_commonDivisor 5 = .ok (.bipush 100, 2) := by decide +kernel
theorem dX8_commonDivisor_7 : decode cX8_commonDivisor 7 = .ok (.if_icmp .ge 25, 3) := by decide +kernel
theorem dX8_commonDivisor_10 : decode cX8_commonDivisor 10 = .ok (.lload_n 2, 1) := by decide +kernel
theorem dX8_commonDivisor_11 : decode cX8_commonDivisor 11 = .ok (.lconst 0, 1) := by decide +kernel
theorem dX8_commonDivisor_12 : decode cX8_commonDivisor 12 = .ok (.lcmp, 1) := by decide +kernel
theorem dX8_commonDivisor_13 : decode cX8_commonDivisor 13 = .ok (.ifCond .eq 19, 3) := by decide +kernel
theorem dX8_commonDivisor_16 : decode cX8_commonDivisor 16 = .ok (.lload_n 0, 1) := by decide +kernel
theorem dX8_commonDivisor_17 : decode cX8_commonDivisor 17 = .ok (.lload_n 2, 1) := by decide +kernel
theorem dX8_commonDivisor_18 : decode cX8_commonDivisor 18 = .ok (.lrem, 1) := by decide +kernel
theorem dX8_commonDivisor_19 : decode cX8_commonDivisor 19 = .ok (.lstore 5, 2) := by decide +kernel
theorem dX8_commonDivisor_21 : decode cX8_commonDivisor 21 = .ok (.lload_n 2, 1) := by decide +kernel
theorem dX8_commonDivisor_22 : decode cX8_commonDivisor 22 = .ok (.lstore_n 0, 1) := by decide +kernel
theorem dX8_commonDivisor_23 : decode cX8_commonDivisor 23 = .ok (.lload 5, 2) := by decide +kernel
theorem dX8_commonDivisor_25 : decode cX8_commonDivisor 25 = .ok (.lstore_n 2, 1) := by decide +kernel
theorem dX8_commonDivisor_26 : decode cX8_commonDivisor 26 = .ok (.iinc 4 1, 3) := by decide +kernel
theorem dX8_commonDivisor_29 : decode cX8_commonDivisor 29 = .ok (.goto (-26), 3) := by decide +kernel
theorem dX8_commonDivisor_32 : decode cX8_commonDivisor 32 = .ok (.lload_n 0, 1) := by decide +kernel
theorem dX8_commonDivisor_33 : decode cX8_commonDivisor 33 = .ok (.lreturn, 1) := by decide +kernel
theorem dX8_spreadOf_0 : decode cX8_spreadOf 0 = .ok (.iconst 0, 1) := by decide +kernel
theorem dX8_spreadOf_1 : decode cX8_spreadOf 1 = .ok (.istore_n 2, 1) := by decide +kernel
theorem dX8_spreadOf_2 : decode cX8_spreadOf 2 = .ok (.iconst 0, 1) := by decide +kernel
theorem dX8_spreadOf_3 : decode cX8_spreadOf 3 = .ok (.istore_n 3, 1) := by decide +kernel
theorem dX8_spreadOf_4 : decode cX8_spreadOf 4 = .ok (.iconst 0, 1) := by decide +kernel
theorem dX8_spreadOf_5 : decode cX8_spreadOf 5 = .ok (.istore 4, 2) := by decide +kernel
theorem dX8_spreadOf_7 : decode cX8_spreadOf 7 = .ok (.iconst 0, 1) := by decide +kernel
theorem dX8_spreadOf_8 : decode cX8_spreadOf 8 = .ok (.istore 5, 2) := by decide +kernel
theorem dX8_spreadOf_10 : decode cX8_spreadOf 10 = .ok (.iload 5, 2) := by decide +kernel
theorem dX8_spreadOf_12 : decode cX8_spreadOf 12 = .ok (.aload_n 0, 1) := by decide +kernel
theorem dX8_spreadOf_13 : decode cX8_spreadOf 13 = .ok (.getfield 33, 3) := by decide +kernel
theorem dX8_spreadOf_16 : decode cX8_spreadOf 16 = .ok (.if_icmp .ge 80, 3) := by decide +kernel
theorem dX8_spreadOf_19 : decode cX8_spreadOf 19 = .ok (.aload_n 0, 1) := by decide +kernel
theorem dX8_spreadOf_20 : decode cX8_spreadOf 20 = .ok (.getfield 9, 3) := by decide +kernel
theorem dX8_spreadOf_23 : decode cX8_spreadOf 23 = .ok (.iload 5, 2) := by decide +kernel
theorem dX8_spreadOf_25 : decode cX8_spreadOf 25 = .ok (.iaload, 1) := by decide +kernel
theorem dX8_spreadOf_26 : decode cX8_spreadOf 26 = .ok (.iload_n 1, 1) := by decide +kernel
theorem dX8_spreadOf_27 : decode cX8_spreadOf 27 = .ok (.if_icmp .eq 6, 3) := by decide +kernel
theorem dX8_spreadOf_30 : decode cX8_spreadOf 30 = .ok (.goto 60, 3) := by decide +kernel
theorem dX8_spreadOf_33 : decode cX8_spreadOf 33 = .ok (.iload 4, 2) := by decide +kernel
theorem dX8_spreadOf_35 : decode cX8_spreadOf 35 = .ok (.ifCond .eq 17, 3) := by decide +kernel
theorem dX8_spreadOf_38 : decode cX8_spreadOf 38 = .ok (.iload_n 2, 1) := by decide +kernel
theorem dX8_spreadOf_39 : decode cX8_spreadOf 39 = .ok (.aload_n 0, 1) := by decide +kernel
theorem dX8_spreadOf_40 : decode cX8_spreadOf 40 = .ok (.getfield 21, 3) := by decide +kernel
theorem dX8_spreadOf_43 : decode cX8_spreadOf 43 = .ok (.iload 5, 2) := by decide +kernel
theorem dX8_spreadOf_45 : decode cX8_spreadOf 45 = .ok (.iaload, 1) := by decide +kernel
theorem dX8_spreadOf_46 : decode cX8_spreadOf 46 = .ok (.invokestatic 60, 3) := by decide +kernel
theorem dX8_spreadOf_49 : decode cX8_spreadOf 49 = .ok (.goto 10, 3) := by decide +kernel
theorem dX8_spreadOf_52 : decode cX8_spreadOf 52 = .ok (.aload_n 0, 1) := by decide +kernel
theorem dX8_spreadOf_53 : decode cX8_spreadOf 53 = .ok (.getfield 21, 3) := by decide +kernel
theorem dX8_spreadOf_56 : decode cX8_spreadOf 56 = .ok (.iload 5, 2) := by decide +kernel
theorem dX8_spreadOf_58 : decode cX8_spreadOf 58 = .ok (.iaload, 1) := by decide +kernel
theorem dX8_spreadOf_59 : decode cX8_spreadOf 59 = .ok (.istore_n 2, 1) := by decide +kernel
theorem dX8_spreadOf_60 : decode cX8_spreadOf 60 = .ok (.iload 4, 2) := by decide +kernel
theorem dX8_spreadOf_62 : decode cX8_spreadOf 62 = .ok (.ifCond .eq 17, 3) := by decide +kernel
theorem dX8_spreadOf_65 : decode cX8_spreadOf 65 = .ok (.iload_n 3, 1) := by decide +kernel
theorem dX8_spreadOf_66 : decode cX8_spreadOf 66 = .ok (.aload_n 0, 1) := by decide +kernel
theorem dX8_spreadOf_67 : decode cX8_spreadOf 67 = .ok (.getfield 21, 3) := by decide +kernel
theorem dX8_spreadOf_70 : decode cX8_spreadOf 70 = .ok (.iload 5, 2) := by decide +kernel
theorem dX8_spreadOf_72 : decode cX8_spreadOf 72 = .ok (.iaload, 1) := by decide +kernel
theorem dX8_spreadOf_73 : decode cX8_spreadOf 73 = .ok (.invokestatic 66, 3) := by decide +kernel
theorem dX8_spreadOf_76 : decode cX8_spreadOf 76 = .ok (.goto 10, 3) := by decide +kernel
theorem dX8_spreadOf_79 : decode cX8_spreadOf 79 = .ok (.aload_n 0, 1) := by decide +kernel
theorem dX8_spreadOf_80 : decode cX8_spreadOf 80 = .ok (.getfield 21, 3) := by decide +kernel
theorem dX8_spreadOf_83 : decode cX8_spreadOf 83 = .ok (.iload 5, 2) := by decide +kernel
theorem dX8_spreadOf_85 : decode cX8_spreadOf 85 = .ok (.iaload, 1) := by decide +kernel
theorem dX8_spreadOf_86 : decode cX8_spreadOf 86 = .ok (.istore_n 3, 1) := by decide +kernel
theorem dX8_spreadOf_87 : decode cX8_spreadOf 87 = .ok (.iconst 1, 1) := by decide +kernel
theorem dX8_spreadOf_88 : decode cX8_spreadOf 88 = .ok (.istore 4, 2) := by decide +kernel
theorem dX8_spreadOf_90 : decode cX8_spreadOf 90 = .ok (.iinc 5 1, 3) := by decide +kernel
theorem dX8_spreadOf_93 : decode cX8_spreadOf 93 = .ok (.goto (-83), 3) := by decide +kernel
theorem dX8_spreadOf_96 : decode cX8_spreadOf 96 = .ok (.iload 4, 2) := by decide +kernel
theorem dX8_spreadOf_98 : decode cX8_spreadOf 98 = .ok (.ifCond .eq 9, 3) := by decide +kernel
theorem dX8_spreadOf_101 : decode cX8_spreadOf 101 = .ok (.iload_n 3, 1) := by decide +kernel
theorem dX8_spreadOf_102 : decode cX8_spreadOf 102 = .ok (.iload_n 2, 1) := by decide +kernel
theorem dX8_spreadOf_103 : decode cX8_spreadOf 103 = .ok (.isub, 1) := by decide +kernel
theorem dX8_spreadOf_104 : decode cX8_spreadOf 104 = .ok (.goto 5, 3) := by decide +kernel
theorem dX8_spreadOf_107 : decode cX8_spreadOf 107 = .ok (.bipush (-9), 2) := by decide +kernel
theorem dX8_spreadOf_109 : decode cX8_spreadOf 109 = .ok (.ireturn, 1) := by decide +kernel
theorem dX8_mayLeave_0 : decode cX8_mayLeave 0 = .ok (.lconst 0, 1) := by decide +kernel
theorem dX8_mayLeave_1 : decode cX8_mayLeave 1 = .ok (.lstore_n 3, 1) := by decide +kernel
theorem dX8_mayLeave_2 : decode cX8_mayLeave 2 = .ok (.lconst 0, 1) := by decide +kernel
theorem dX8_mayLeave_3 : decode cX8_mayLeave 3 = .ok (.lstore 5, 2) := by decide +kernel
theorem dX8_mayLeave_5 : decode cX8_mayLeave 5 = .ok (.lconst 0, 1) := by decide +kernel
theorem dX8_mayLeave_6 : decode cX8_mayLeave 6 = .ok (.lstore 7, 2) := by decide +kernel
theorem dX8_mayLeave_8 : decode cX8_mayLeave 8 = .ok (.lconst 0, 1) := by decide +kernel
theorem dX8_mayLeave_9 : decode cX8_mayLeave 9 = .ok (.lstore 9, 2) := by decide +kernel
theorem dX8_mayLeave_11 : decode cX8_mayLeave 11 = .ok (.iconst 0, 1) := by decide +kernel
theorem dX8_mayLeave_12 : decode cX8_mayLeave 12 = .ok (.istore 11, 2) := by decide +kernel
theorem dX8_mayLeave_14 : decode cX8_mayLeave 14 = .ok (.iload 11, 2) := by decide +kernel
theorem dX8_mayLeave_16 : decode cX8_mayLeave 16 = .ok (.aload_n 0, 1) := by decide +kernel
theorem dX8_mayLeave_17 : decode cX8_mayLeave 17 = .ok (.getfield 33, 3) := by decide +kernel
theorem dX8_mayLeave_20 : decode cX8_mayLeave 20 = .ok (.if_icmp .ge 59, 3) := by decide +kernel
theorem dX8_mayLeave_23 : decode cX8_mayLeave 23 = .ok (.aload_n 0, 1) := by decide +kernel
theorem dX8_mayLeave_24 : decode cX8_mayLeave 24 = .ok (.getfield 9, 3) := by decide +kernel
theorem dX8_mayLeave_27 : decode cX8_mayLeave 27 = .ok (.iload 11, 2) := by decide +kernel
theorem dX8_mayLeave_29 : decode cX8_mayLeave 29 = .ok (.iaload, 1) := by decide +kernel
theorem dX8_mayLeave_30 : decode cX8_mayLeave 30 = .ok (.iload_n 1, 1) := by decide +kernel
theorem dX8_mayLeave_31 : decode cX8_mayLeave 31 = .ok (.if_icmp .ne 23, 3) := by decide +kernel
theorem dX8_mayLeave_34 : decode cX8_mayLeave 34 = .ok (.lload_n 3, 1) := by decide +kernel
theorem dX8_mayLeave_35 : decode cX8_mayLeave 35 = .ok (.aload_n 0, 1) := by decide +kernel
theorem dX8_mayLeave_36 : decode cX8_mayLeave 36 = .ok (.getfield 21, 3) := by decide +kernel
theorem dX8_mayLeave_39 : decode cX8_mayLeave 39 = .ok (.iload 11, 2) := by decide +kernel
theorem dX8_mayLeave_41 : decode cX8_mayLeave 41 = .ok (.iaload, 1) := by decide +kernel
theorem dX8_mayLeave_42 : decode cX8_mayLeave 42 = .ok (.i2l, 1) := by decide +kernel
theorem dX8_mayLeave_43 : decode cX8_mayLeave 43 = .ok (.ladd, 1) := by decide +kernel
theorem dX8_mayLeave_44 : decode cX8_mayLeave 44 = .ok (.lstore_n 3, 1) := by decide +kernel
theorem dX8_mayLeave_45 : decode cX8_mayLeave 45 = .ok (.lload 5, 2) := by decide +kernel
theorem dX8_mayLeave_47 : decode cX8_mayLeave 47 = .ok (.lconst 1, 1) := by decide +kernel
theorem dX8_mayLeave_48 : decode cX8_mayLeave 48 = .ok (.ladd, 1) := by decide +kernel
theorem dX8_mayLeave_49 : decode cX8_mayLeave 49 = .ok (.lstore 5, 2) := by decide +kernel
theorem dX8_mayLeave_51 : decode cX8_mayLeave 51 = .ok (.goto 22, 3) := by decide +kernel
theorem dX8_mayLeave_54 : decode cX8_mayLeave 54 = .ok (.lload 7, 2) := by decide +kernel
theorem dX8_mayLeave_56 : decode cX8_mayLeave 56 = .ok (.aload_n 0, 1) := by decide +kernel
theorem dX8_mayLeave_57 : decode cX8_mayLeave 57 = .ok (.getfield 21, 3) := by decide +kernel
theorem dX8_mayLeave_60 : decode cX8_mayLeave 60 = .ok (.iload 11, 2) := by decide +kernel
theorem dX8_mayLeave_62 : decode cX8_mayLeave 62 = .ok (.iaload, 1) := by decide +kernel
theorem dX8_mayLeave_63 : decode cX8_mayLeave 63 = .ok (.i2l, 1) := by decide +kernel
theorem dX8_mayLeave_64 : decode cX8_mayLeave 64 = .ok (.ladd, 1) := by decide +kernel
theorem dX8_mayLeave_65 : decode cX8_mayLeave 65 = .ok (.lstore 7, 2) := by decide +kernel
theorem dX8_mayLeave_67 : decode cX8_mayLeave 67 = .ok (.lload 9, 2) := by decide +kernel
theorem dX8_mayLeave_69 : decode cX8_mayLeave 69 = .ok (.lconst 1, 1) := by decide +kernel
theorem dX8_mayLeave_70 : decode cX8_mayLeave 70 = .ok (.ladd, 1) := by decide +kernel
theorem dX8_mayLeave_71 : decode cX8_mayLeave 71 = .ok (.lstore 9, 2) := by decide +kernel
theorem dX8_mayLeave_73 : decode cX8_mayLeave 73 = .ok (.iinc 11 1, 3) := by decide +kernel
theorem dX8_mayLeave_76 : decode cX8_mayLeave 76 = .ok (.goto (-62), 3) := by decide +kernel
theorem dX8_mayLeave_79 : decode cX8_mayLeave 79 = .ok (.lload 5, 2) := by decide +kernel
theorem dX8_mayLeave_81 : decode cX8_mayLeave 81 = .ok (.lconst 0, 1) := by decide +kernel
theorem dX8_mayLeave_82 : decode cX8_mayLeave 82 = .ok (.lcmp, 1) := by decide +kernel
theorem dX8_mayLeave_83 : decode cX8_mayLeave 83 = .ok (.ifCond .eq 10, 3) := by decide +kernel
theorem dX8_mayLeave_86 : decode cX8_mayLeave 86 = .ok (.lload 9, 2) := by decide +kernel
theorem dX8_mayLeave_88 : decode cX8_mayLeave 88 = .ok (.lconst 0, 1) := by decide +kernel
theorem dX8_mayLeave_89 : decode cX8_mayLeave 89 = .ok (.lcmp, 1) := by decide +kernel
theorem dX8_mayLeave_90 : decode cX8_mayLeave 90 = .ok (.ifCond .ne 6, 3) := by decide +kernel
theorem dX8_mayLeave_93 : decode cX8_mayLeave 93 = .ok (.bipush (-2), 2) := by decide +kernel
theorem dX8_mayLeave_95 : decode cX8_mayLeave 95 = .ok (.ireturn, 1) := by decide +kernel
theorem dX8_mayLeave_96 : decode cX8_mayLeave 96 = .ok (.lload_n 3, 1) := by decide +kernel
theorem dX8_mayLeave_97 : decode cX8_mayLeave 97 = .ok (.lload 9, 2) := by decide +kernel
theorem dX8_mayLeave_99 : decode cX8_mayLeave 99 = .ok (.lmul, 1) := by decide +kernel
theorem dX8_mayLeave_100 : decode cX8_mayLeave 100 = .ok (.lload 7, 2) := by decide +kernel
theorem dX8_mayLeave_102 : decode cX8_mayLeave 102 = .ok (.lload 5, 2) := by decide +kernel
theorem dX8_mayLeave_104 : decode cX8_mayLeave 104 = .ok (.lmul, 1) := by decide +kernel
theorem dX8_mayLeave_105 : decode cX8_mayLeave 105 = .ok (.lsub, 1) := by decide +kernel
theorem dX8_mayLeave_106 : decode cX8_mayLeave 106 = .ok (.invokestatic 69, 3) := by decide +kernel
theorem dX8_mayLeave_109 : decode cX8_mayLeave 109 = .ok (.iload_n 2, 1) := by decide +kernel
theorem dX8_mayLeave_110 : decode cX8_mayLeave 110 = .ok (.i2l, 1) := by decide +kernel
theorem dX8_mayLeave_111 : decode cX8_mayLeave 111 = .ok (.lload 5, 2) := by decide +kernel
theorem dX8_mayLeave_113 : decode cX8_mayLeave 113 = .ok (.lmul, 1) := by decide +kernel
theorem dX8_mayLeave_114 : decode cX8_mayLeave 114 = .ok (.lload 9, 2) := by decide +kernel
theorem dX8_mayLeave_116 : decode cX8_mayLeave 116 = .ok (.lmul, 1) := by decide +kernel
theorem dX8_mayLeave_117 : decode cX8_mayLeave 117 = .ok (.lcmp, 1) := by decide +kernel
theorem dX8_mayLeave_118 : decode cX8_mayLeave 118 = .ok (.ifCond .le 7, 3) := by decide +kernel
theorem dX8_mayLeave_121 : decode cX8_mayLeave 121 = .ok (.iconst 1, 1) := by decide +kernel
theorem dX8_mayLeave_122 : decode cX8_mayLeave 122 = .ok (.goto 4, 3) := by decide +kernel
theorem dX8_mayLeave_125 : decode cX8_mayLeave 125 = .ok (.iconst 0, 1) := by decide +kernel
theorem dX8_mayLeave_126 : decode cX8_mayLeave 126 = .ok (.istore 11, 2) := by decide +kernel
theorem dX8_mayLeave_128 : decode cX8_mayLeave 128 = .ok (.iload 11, 2) := by decide +kernel
theorem dX8_mayLeave_130 : decode cX8_mayLeave 130 = .ok (.ifCond .eq 16, 3) := by decide +kernel
theorem dX8_mayLeave_133 : decode cX8_mayLeave 133 = .ok (.lload 5, 2) := by decide +kernel
theorem dX8_mayLeave_135 : decode cX8_mayLeave 135 = .ok (.ldc2_w 73, 3) := by decide +kernel
theorem dX8_mayLeave_138 : decode cX8_mayLeave 138 = .ok (.lcmp, 1) := by decide +kernel
theorem dX8_mayLeave_139 : decode cX8_mayLeave 139 = .ok (.ifCond .lt 7, 3) := by decide +kernel
theorem dX8_mayLeave_142 : decode cX8_mayLeave 142 = .ok (.iconst 1, 1) := by decide +kernel
theorem dX8_mayLeave_143 : decode cX8_mayLeave 143 = .ok (.goto 4, 3) := by decide +kernel
theorem dX8_mayLeave_146 : decode cX8_mayLeave 146 = .ok (.iconst 0, 1) := by decide +kernel
theorem dX8_mayLeave_147 : decode cX8_mayLeave 147 = .ok (.ireturn, 1) := by decide +kernel
theorem dX9_init_0 : decode cX9_init 0 = .ok (.aload_n 0, 1) := by decide +kernel
theorem dX9_init_1 : decode cX9_init 1 = .ok (.invokespecial 3, 3) := by decide +kernel
theorem dX9_init_4 : decode cX9_init 4 = .ok (.return_, 1) := by decide +kernel
theorem dX9_copy_0 : decode cX9_copy 0 = .ok (.aload_n 0, 1) := by decide +kernel
theorem dX9_copy_1 : decode cX9_copy 1 = .ok (.aload_n 1, 1) := by decide +kernel
theorem dX9_copy_2 : decode cX9_copy 2 = .ok (.getfield 9, 3) := by decide +kernel
theorem dX9_copy_5 : decode cX9_copy 5 = .ok (.putfield 9, 3) := by decide +kernel
theorem dX9_copy_8 : decode cX9_copy 8 = .ok (.aload_n 0, 1) := by decide +kernel
theorem dX9_copy_9 : decode cX9_copy 9 = .ok (.aload_n 1, 1) := by decide +kernel
theorem dX9_copy_10 : decode cX9_copy 10 = .ok (.getfield 15, 3) := by decide +kernel
theorem dX9_copy_13 : decode cX9_copy 13 = .ok (.putfield 15, 3) := by decide +kernel
theorem dX9_copy_16 : decode cX9_copy 16 = .ok (.aload_n 0, 1) := by decide +kernel
theorem dX9_copy_17 : decode cX9_copy 17 = .ok (.aload_n 1, 1) := by decide +kernel
theorem dX9_copy_18 : decode cX9_copy 18 = .ok (.getfield 18, 3) := by decide +kernel
theorem dX9_copy_21 : decode cX9_copy 21 = .ok (.putfield 18, 3) := by decide +kernel
theorem dX9_copy_24 : decode cX9_copy 24 = .ok (.aload_n 0, 1) := by decide +kernel
theorem dX9_copy_25 : decode cX9_copy 25 = .ok (.aload_n 1, 1) := by decide +kernel
theorem dX9_copy_26 : decode cX9_copy 26 = .ok (.getfield 21, 3) := by decide +kernel
theorem dX9_copy_29 : decode cX9_copy 29 = .ok (.putfield 21, 3) := by decide +kernel
theorem dX9_copy_32 : decode cX9_copy 32 = .ok (.aload_n 0, 1) := by decide +kernel
theorem dX9_copy_33 : decode cX9_copy 33 = .ok (.aload_n 1, 1) := by decide +kernel
theorem dX9_copy_34 : decode cX9_copy 34 = .ok (.getfield 24, 3) := by decide +kernel
theorem dX9_copy_37 : decode cX9_copy 37 = .ok (.putfield 24, 3) := by decide +kernel
theorem dX9_copy_40 : decode cX9_copy 40 = .ok (.aload_n 0, 1) := by decide +kernel
theorem dX9_copy_41 : decode cX9_copy 41 = .ok (.aload_n 1, 1) := by decide +kernel
theorem dX9_copy_42 : decode cX9_copy 42 = .ok (.getfield 27, 3) := by decide +kernel
theorem dX9_copy_45 : decode cX9_copy 45 = .ok (.putfield 27, 3) := by decide +kernel
theorem dX9_copy_48 : decode cX9_copy 48 = .ok (.aload_n 0, 1) := by decide +kernel
theorem dX9_copy_49 : decode cX9_copy 49 = .ok (.aload_n 1, 1) := by decide +kernel
theorem dX9_copy_50 : decode cX9_copy 50 = .ok (.getfield 30, 3) := by decide +kernel
theorem dX9_copy_53 : decode cX9_copy 53 = .ok (.putfield 30, 3) := by decide +kernel
theorem dX9_copy_56 : decode cX9_copy 56 = .ok (.return_, 1) := by decide +kernel
theorem dX9_spine_0 : decode cX9_spine 0 = .ok (.aload_n 0, 1) := by decide +kernel
theorem dX9_spine_1 : decode cX9_spine 1 = .ok (.aload_n 0, 1) := by decide +kernel
theorem dX9_spine_2 : decode cX9_spine 2 = .ok (.getfield 30, 3) := by decide +kernel
theorem dX9_spine_5 : decode cX9_spine 5 = .ok (.invokevirtual 33, 3) := by decide +kernel
theorem dX9_spine_8 : decode cX9_spine 8 = .ok (.ireturn, 1) := by decide +kernel
theorem dX9_spineBy_0 : decode cX9_spineBy 0 = .ok (.aload_n 0, 1) := by decide +kernel
theorem dX9_spineBy_1 : decode cX9_spineBy 1 = .ok (.iload_n 1, 1) := by decide +kernel
theorem dX9_spineBy_2 : decode cX9_spineBy 2 = .ok (.invokevirtual 37, 3) := by decide +kernel
theorem dX9_spineBy_5 : decode cX9_spineBy 5 = .ok (.aload_n 0, 1) := by decide +kernel
theorem dX9_spineBy_6 : decode cX9_spineBy 6 = .ok (.getfield 9, 3) := by decide +kernel
theorem dX9_spineBy_9 : decode cX9_spineBy 9 = .ok (.aload_n 0, 1) := by decide +kernel
theorem dX9_spineBy_10 : decode cX9_spineBy 10 = .ok (.getfield 24, 3) := by decide +kernel
theorem dX9_spineBy_13 : decode cX9_spineBy 13 = .ok (.invokestatic 40, 3) := by decide +kernel
theorem dX9_spineBy_16 : decode cX9_spineBy 16 = .ok (.ireturn, 1) := by decide +kernel
theorem dX9_stiffBy_0 : decode cX9_stiffBy 0 = .ok (.iload_n 1, 1) := by decide +kernel
theorem dX9_stiffBy_1 : decode cX9_stiffBy 1 = .ok (.ifCond .ne 10, 3) := by decide +kernel
theorem dX9_stiffBy_4 : decode cX9_stiffBy 4 = .ok (.aload_n 0, 1) := by decide +kernel
theorem dX9_stiffBy_5 : decode cX9_stiffBy 5 = .ok (.getfield 18, 3) := by decide +kernel
theorem dX9_stiffBy_8 : decode cX9_stiffBy 8 = .ok (.goto 7, 3) := by decide +kernel
theorem dX9_stiffBy_11 : decode cX9_stiffBy 11 = .ok (.aload_n 0, 1) := by decide +kernel
theorem dX9_stiffBy_12 : decode cX9_stiffBy 12 = .ok (.getfield 21, 3) := by decide +kernel
theorem dX9_stiffBy_15 : decode cX9_stiffBy 15 = .ok (.ireturn, 1) := by decide +kernel
theorem dX9_mass_0 : decode cX9_mass 0 = .ok (.aload_n 0, 1) := by decide +kernel
theorem dX9_mass_1 : decode cX9_mass 1 = .ok (.getfield 15, 3) := by decide +kernel
theorem dX9_mass_4 : decode cX9_mass 4 = .ok (.aload_n 0, 1) := by decide +kernel
theorem dX9_mass_5 : decode cX9_mass 5 = .ok (.getfield 24, 3) := by decide +kernel
theorem dX9_mass_8 : decode cX9_mass 8 = .ok (.iadd, 1) := by decide +kernel
theorem dX9_mass_9 : decode cX9_mass 9 = .ok (.ireturn, 1) := by decide +kernel
theorem dX9_mostCuts_0 : decode cX9_mostCuts 0 = .ok (.aload_n 0, 1) := by decide +kernel
theorem dX9_mostCuts_1 : decode cX9_mostCuts 1 = .ok (.getfield 9, 3) := by decide +kernel
theorem dX9_mostCuts_4 : decode cX9_mostCuts 4 = .ok (.bipush 80, 2) := by decide +kernel
theorem dX9_mostCuts_6 : decode cX9_mostCuts 6 = .ok (.isub, 1) := by decide +kernel
theorem dX9_mostCuts_7 : decode cX9_mostCuts 7 = .ok (.ireturn, 1) := by decide +kernel
theorem dX9_mostScrapes_0 : decode cX9_mostScrapes 0 = .ok (.aload_n 0, 1) := by decide +kernel
theorem dX9_mostScrapes_1 : decode cX9_mostScrapes 1 = .ok (.getfield 18, 3) := by decide +kernel
theorem dX9_mostScrapes_4 : decode cX9_mostScrapes 4 = .ok (.aload_n 0, 1) := by decide +kernel
theorem dX9_mostScrapes_5 : decode cX9_mostScrapes 5 = .ok (.getfield 21, 3) := by decide +kernel
theorem dX9_mostScrapes_8 : decode cX9_mostScrapes 8 = .ok (.invokestatic 44, 3) := by decide +kernel
theorem dX9_mostScrapes_11 : decode cX9_mostScrapes 11 = .ok (.bipush 20, 2) := by decide +kernel
theorem dX9_mostScrapes_13 : decode cX9_mostScrapes 13 = .ok (.isub, 1) := by decide +kernel
theorem dX9_mostScrapes_14 : decode cX9_mostScrapes 14 = .ok (.aload_n 0, 1) := by decide +kernel
theorem dX9_mostScrapes_15 : decode cX9_mostScrapes 15 = .ok (.getfield 15, 3) := by decide +kernel
theorem dX9_mostScrapes_18 : decode cX9_mostScrapes 18 = .ok (.sipush 200, 3) := by decide +kernel
theorem dX9_mostScrapes_21 : decode cX9_mostScrapes 21 = .ok (.isub, 1) := by decide +kernel
theorem dX9_mostScrapes_22 : decode cX9_mostScrapes 22 = .ok (.iconst 2, 1) := by decide +kernel
theorem dX9_mostScrapes_23 : decode cX9_mostScrapes 23 = .ok (.idiv, 1) := by decide +kernel
theorem dX9_mostScrapes_24 : decode cX9_mostScrapes 24 = .ok (.invokestatic 44, 3) := by decide +kernel
theorem dX9_mostScrapes_27 : decode cX9_mostScrapes 27 = .ok (.ireturn, 1) := by decide +kernel
theorem dX9_mostLoads_0 : decode cX9_mostLoads 0 = .ok (.sipush 200, 3) := by decide +kernel
theorem dX9_mostLoads_3 : decode cX9_mostLoads 3 = .ok (.aload_n 0, 1) := by decide +kernel
theorem dX9_mostLoads_4 : decode cX9_mostLoads 4 = .ok (.getfield 24, 3) := by decide +kernel
theorem dX9_mostLoads_7 : decode cX9_mostLoads 7 = .ok (.isub, 1) := by decide +kernel
theorem dX9_mostLoads_8 : decode cX9_mostLoads 8 = .ok (.iconst 5, 1) := by decide +kernel
theorem dX9_mostLoads_9 : decode cX9_mostLoads 9 = .ok (.idiv, 1) := by decide +kernel
theorem dX9_mostLoads_10 : decode cX9_mostLoads 10 = .ok (.ireturn, 1) := by decide +kernel
theorem dX10_init_0 : decode cX10_init 0 = .ok (.aload_n 0, 1) := by decide +kernel
theorem dX10_init_1 : decode cX10_init 1 = .ok (.invokespecial 3, 3) := by decide +kernel
theorem dX10_init_4 : decode cX10_init 4 = .ok (.aload_n 0, 1) := by decide +kernel
theorem dX10_init_5 : decode cX10_init 5 = .ok (.iconst 4, 1) := by decide +kernel
theorem dX10_init_6 : decode cX10_init 6 = .ok (.newarray .int, 2) := by decide +kernel
theorem dX10_init_8 : decode cX10_init 8 = .ok (.dup, 1) := by decide +kernel
theorem dX10_init_9 : decode cX10_init 9 = .ok (.iconst 0, 1) := by decide +kernel
theorem dX10_init_10 : decode cX10_init 10 = .ok (.iconst 4, 1) := by decide +kernel
theorem dX10_init_11 : decode cX10_init 11 = .ok (.iastore, 1) := by decide +kernel
theorem dX10_init_12 : decode cX10_init 12 = .ok (.dup, 1) := by decide +kernel
theorem dX10_init_13 : decode cX10_init 13 = .ok (.iconst 1, 1) := by decide +kernel
theorem dX10_init_14 : decode cX10_init 14 = .ok (.bipush 15, 2) := by decide +kernel
theorem dX10_init_16 : decode cX10_init 16 = .ok (.iastore, 1) := by decide +kernel
theorem dX10_init_17 : decode cX10_init 17 = .ok (.dup, 1) := by decide +kernel
theorem dX10_init_18 : decode cX10_init 18 = .ok (.iconst 2, 1) := by decide +kernel
theorem dX10_init_19 : decode cX10_init 19 = .ok (.bipush 10, 2) := by decide +kernel
theorem dX10_init_21 : decode cX10_init 21 = .ok (.iastore, 1) := by decide +kernel
theorem dX10_init_22 : decode cX10_init 22 = .ok (.dup, 1) := by decide +kernel
theorem dX10_init_23 : decode cX10_init 23 = .ok (.iconst 3, 1) := by decide +kernel
theorem dX10_init_24 : decode cX10_init 24 = .ok (.iconst 0, 1) := by decide +kernel
theorem dX10_init_25 : decode cX10_init 25 = .ok (.iastore, 1) := by decide +kernel
theorem dX10_init_26 : decode cX10_init 26 = .ok (.putfield 9, 3) := by decide +kernel
theorem dX10_init_29 : decode cX10_init 29 = .ok (.return_, 1) := by decide +kernel
theorem dX10_change_0 : decode cX10_change 0 = .ok (.iload_n 1, 1) := by decide +kernel
theorem dX10_change_1 : decode cX10_change 1 = .ok (.ifCond .lt 8, 3) := by decide +kernel
theorem dX10_change_4 : decode cX10_change 4 = .ok (.iload_n 1, 1) := by decide +kernel
theorem dX10_change_5 : decode cX10_change 5 = .ok (.iconst 3, 1) := by decide +kernel
theorem dX10_change_6 : decode cX10_change 6 = .ok (.if_icmp .le 6, 3) := by decide +kernel
theorem dX10_change_9 : decode cX10_change 9 = .ok (.ldc 15, 2) := by decide +kernel
theorem dX10_change_11 : decode cX10_change 11 = .ok (.ireturn, 1) := by decide +kernel
theorem dX10_change_12 : decode cX10_change 12 = .ok (.iload_n 2, 1) := by decide +kernel
theorem dX10_change_13 : decode cX10_change 13 = .ok (.getstatic 16, 3) := by decide +kernel
theorem dX10_change_16 : decode cX10_change 16 = .ok (.iload_n 1, 1) := by decide +kernel
theorem dX10_change_17 : decode cX10_change 17 = .ok (.iaload, 1) := by decide +kernel
theorem dX10_change_18 : decode cX10_change 18 = .ok (.getstatic 19, 3) := by decide +kernel
theorem dX10_change_21 : decode cX10_change 21 = .ok (.iload_n 1, 1) := by decide +kernel
theorem dX10_change_22 : decode cX10_change 22 = .ok (.iaload, 1) := by decide +kernel
theorem dX10_change_23 : decode cX10_change 23 = .ok (.invokestatic 22, 3) := by decide +kernel
theorem dX10_change_26 : decode cX10_change 26 = .ok (.ifCond .ne 6, 3) := by decide +kernel
theorem dX10_change_29 : decode cX10_change 29 = .ok (.ldc 15, 2) := by decide +kernel
theorem dX10_change_31 : decode cX10_change 31 = .ok (.ireturn, 1) := by decide +kernel
theorem dX10_change_32 : decode cX10_change 32 = .ok (.aload_n 0, 1) := by decide +kernel
theorem dX10_change_33 : decode cX10_change 33 = .ok (.getfield 9, 3) := by decide +kernel
theorem dX10_change_36 : decode cX10_change 36 = .ok (.iload_n 1, 1) := by decide +kernel
theorem dX10_change_37 : decode cX10_change 37 = .ok (.iaload, 1) := by decide +kernel
theorem dX10_change_38 : decode cX10_change 38 = .ok (.istore_n 3, 1) := by decide +kernel
theorem dX10_change_39 : decode cX10_change 39 = .ok (.aload_n 0, 1) := by decide +kernel
theorem dX10_change_40 : decode cX10_change 40 = .ok (.getfield 9, 3) := by decide +kernel
theorem dX10_change_43 : decode cX10_change 43 = .ok (.iload_n 1, 1) := by decide +kernel
theorem dX10_change_44 : decode cX10_change 44 = .ok (.iload_n 2, 1) := by decide +kernel
theorem dX10_change_45 : decode cX10_change 45 = .ok (.iastore, 1) := by decide +kernel
theorem dX10_change_46 : decode cX10_change 46 = .ok (.iload_n 3, 1) := by decide +kernel
theorem dX10_change_47 : decode cX10_change 47 = .ok (.ireturn, 1) := by decide +kernel
theorem dX10_wind_0 : decode cX10_wind 0 = .ok (.aload_n 0, 1) := by decide +kernel
theorem dX10_wind_1 : decode cX10_wind 1 = .ok (.getfield 9, 3) := by decide +kernel
theorem dX10_wind_4 : decode cX10_wind 4 = .ok (.iconst 3, 1) := by decide +kernel
theorem dX10_wind_5 : decode cX10_wind 5 = .ok (.iaload, 1) := by decide +kernel
theorem dX10_wind_6 : decode cX10_wind 6 = .ok (.ireturn, 1) := by decide +kernel
theorem dX10_isClean_0 : decode cX10_isClean 0 = .ok (.iload_n 1, 1) := by decide +kernel
theorem dX10_isClean_1 : decode cX10_isClean 1 = .ok (.invokestatic 26, 3) := by decide +kernel
theorem dX10_isClean_4 : decode cX10_isClean 4 = .ok (.aload_n 0, 1) := by decide +kernel
theorem dX10_isClean_5 : decode cX10_isClean 5 = .ok (.getfield 9, 3) := by decide +kernel
theorem dX10_isClean_8 : decode cX10_isClean 8 = .ok (.iconst 0, 1) := by decide +kernel
theorem dX10_isClean_9 : decode cX10_isClean 9 = .ok (.iaload, 1) := by decide +kernel
theorem dX10_isClean_10 : decode cX10_isClean 10 = .ok (.if_icmp .gt 7, 3) := by decide +kernel
theorem dX10_isClean_13 : decode cX10_isClean 13 = .ok (.iconst 1, 1) := by decide +kernel
theorem dX10_isClean_14 : decode cX10_isClean 14 = .ok (.goto 4, 3) := by decide +kernel
theorem dX10_isClean_17 : decode cX10_isClean 17 = .ok (.iconst 0, 1) := by decide +kernel
theorem dX10_isClean_18 : decode cX10_isClean 18 = .ok (.ireturn, 1) := by decide +kernel
theorem dX10_flightOf_0 : decode cX10_flightOf 0 = .ok (.aload_n 0, 1) := by decide +kernel
theorem dX10_flightOf_1 : decode cX10_flightOf 1 = .ok (.iload_n 1, 1) := by decide +kernel
theorem dX10_flightOf_2 : decode cX10_flightOf 2 = .ok (.invokevirtual 32, 3) := by decide +kernel
theorem dX10_flightOf_5 : decode cX10_flightOf 5 = .ok (.ifCond .eq 5, 3) := by decide +kernel
theorem dX10_flightOf_8 : decode cX10_flightOf 8 = .ok (.iconst 1, 1) := by decide +kernel
theorem dX10_flightOf_9 : decode cX10_flightOf 9 = .ok (.ireturn, 1) := by decide +kernel
theorem dX10_flightOf_10 : decode cX10_flightOf 10 = .ok (.iload_n 1, 1) := by decide +kernel
theorem dX10_flightOf_11 : decode cX10_flightOf 11 = .ok (.invokestatic 26, 3) := by decide +kernel
theorem dX10_flightOf_14 : decode cX10_flightOf 14 = .ok (.aload_n 0, 1) := by decide +kernel
theorem dX10_flightOf_15 : decode cX10_flightOf 15 = .ok (.getfield 9, 3) := by decide +kernel
theorem dX10_flightOf_18 : decode cX10_flightOf 18 = .ok (.iconst 1, 1) := by decide +kernel
theorem dX10_flightOf_19 : decode cX10_flightOf 19 = .ok (.iaload, 1) := by decide +kernel
theorem dX10_flightOf_20 : decode cX10_flightOf 20 = .ok (.if_icmp .le 5, 3) := by decide +kernel
theorem dX10_flightOf_23 : decode cX10_flightOf 23 = .ok (.iconst 4, 1) := by decide +kernel
theorem dX10_flightOf_24 : decode cX10_flightOf 24 = .ok (.ireturn, 1) := by decide +kernel
theorem dX10_flightOf_25 : decode cX10_flightOf 25 = .ok (.iload_n 1, 1) := by decide +kernel
theorem dX10_flightOf_26 : decode cX10_flightOf 26 = .ok (.ifCond .le 7, 3) := by decide +kernel
theorem dX10_flightOf_29 : decode cX10_flightOf 29 = .ok (.iconst 2, 1) := by decide +kernel
theorem dX10_flightOf_30 : decode cX10_flightOf 30 = .ok (.goto 4, 3) := by decide +kernel
theorem dX10_flightOf_33 : decode cX10_flightOf 33 = .ok (.iconst 5, 1) := by decide +kernel
theorem dX10_flightOf_34 : decode cX10_flightOf 34 = .ok (.ireturn, 1) := by decide +kernel
theorem dX10_bareOf_0 : decode cX10_bareOf 0 = .ok (.iload_n 1, 1) := by decide +kernel
theorem dX10_bareOf_1 : decode cX10_bareOf 1 = .ok (.aload_n 0, 1) := by decide +kernel
theorem dX10_bareOf_2 : decode cX10_bareOf 2 = .ok (.getfield 9, 3) := by decide +kernel
theorem dX10_bareOf_5 : decode cX10_bareOf 5 = .ok (.iconst 2, 1) := by decide +kernel
theorem dX10_bareOf_6 : decode cX10_bareOf 6 = .ok (.iaload, 1) := by decide +kernel
theorem dX10_bareOf_7 : decode cX10_bareOf 7 = .ok (.imul, 1) := by decide +kernel
theorem dX10_bareOf_8 : decode cX10_bareOf 8 = .ok (.bipush 10, 2) := by decide +kernel
theorem dX10_bareOf_10 : decode cX10_bareOf 10 = .ok (.idiv, 1) := by decide +kernel
theorem dX10_bareOf_11 : decode cX10_bareOf 11 = .ok (.ineg, 1) := by decide +kernel
theorem dX10_bareOf_12 : decode cX10_bareOf 12 = .ok (.istore_n 2, 1) := by decide +kernel
theorem dX10_bareOf_13 : decode cX10_bareOf 13 = .ok (.aload_n 0, 1) := by decide +kernel
theorem dX10_bareOf_14 : decode cX10_bareOf 14 = .ok (.iload_n 1, 1) := by decide +kernel
theorem dX10_bareOf_15 : decode cX10_bareOf 15 = .ok (.invokevirtual 36, 3) := by decide +kernel
theorem dX10_bareOf_18 : decode cX10_bareOf 18 = .ok (.lookupswitch 32 #[(1, 26), (4, 28)], 26) := by decide +kernel
theorem dX10_bareOf_44 : decode cX10_bareOf 44 = .ok (.iconst 0, 1) := by decide +kernel
theorem dX10_bareOf_45 : decode cX10_bareOf 45 = .ok (.ireturn, 1) := by decide +kernel
theorem dX10_bareOf_46 : decode cX10_bareOf 46 = .ok (.iconst 2, 1) := by decide +kernel
theorem dX10_bareOf_47 : decode cX10_bareOf 47 = .ok (.iload_n 2, 1) := by decide +kernel
theorem dX10_bareOf_48 : decode cX10_bareOf 48 = .ok (.imul, 1) := by decide +kernel
theorem dX10_bareOf_49 : decode cX10_bareOf 49 = .ok (.ireturn, 1) := by decide +kernel
theorem dX10_bareOf_50 : decode cX10_bareOf 50 = .ok (.iload_n 2, 1) := by decide +kernel
theorem dX10_bareOf_51 : decode cX10_bareOf 51 = .ok (.ireturn, 1) := by decide +kernel
theorem dX10_feathered_0 : decode cX10_feathered 0 = .ok (.aload_n 0, 1) := by decide +kernel
theorem dX10_feathered_1 : decode cX10_feathered 1 = .ok (.iload_n 1, 1) := by decide +kernel
theorem dX10_feathered_2 : decode cX10_feathered 2 = .ok (.invokevirtual 39, 3) := by decide +kernel
theorem dX10_feathered_5 : decode cX10_feathered 5 = .ok (.bipush 10, 2) := by decide +kernel
theorem dX10_feathered_7 : decode cX10_feathered 7 = .ok (.iload_n 2, 1) := by decide +kernel
theorem dX10_feathered_8 : decode cX10_feathered 8 = .ok (.isub, 1) := by decide +kernel
theorem dX10_feathered_9 : decode cX10_feathered 9 = .ok (.imul, 1) := by decide +kernel
theorem dX10_feathered_10 : decode cX10_feathered 10 = .ok (.bipush 10, 2) := by decide +kernel
theorem dX10_feathered_12 : decode cX10_feathered 12 = .ok (.idiv, 1) := by decide +kernel
theorem dX10_feathered_13 : decode cX10_feathered 13 = .ok (.ireturn, 1) := by decide +kernel
theorem dX10_goesOf_0 : decode cX10_goesOf 0 = .ok (.aload_n 0, 1) := by decide +kernel
theorem dX10_goesOf_1 : decode cX10_goesOf 1 = .ok (.iload_n 2, 1) := by decide +kernel
theorem dX10_goesOf_2 : decode cX10_goesOf 2 = .ok (.iload_n 3, 1) := by decide +kernel
theorem dX10_goesOf_3 : decode cX10_goesOf 3 = .ok (.invokevirtual 42, 3) := by decide +kernel
theorem dX10_goesOf_6 : decode cX10_goesOf 6 = .ok (.aload_n 0, 1) := by decide +kernel
theorem dX10_goesOf_7 : decode cX10_goesOf 7 = .ok (.invokevirtual 46, 3) := by decide +kernel
theorem dX10_goesOf_10 : decode cX10_goesOf 10 = .ok (.sipush 600, 3) := by decide +kernel
theorem dX10_goesOf_13 : decode cX10_goesOf 13 = .ok (.imul, 1) := by decide +kernel
theorem dX10_goesOf_14 : decode cX10_goesOf 14 = .ok (.aload_n 1, 1) := by decide +kernel
theorem dX10_goesOf_15 : decode cX10_goesOf 15 = .ok (.invokevirtual 50, 3) := by decide +kernel
theorem dX10_goesOf_18 : decode cX10_goesOf 18 = .ok (.invokestatic 55, 3) := by decide +kernel
theorem dX10_goesOf_21 : decode cX10_goesOf 21 = .ok (.iadd, 1) := by decide +kernel
theorem dX10_goesOf_22 : decode cX10_goesOf 22 = .ok (.ireturn, 1) := by decide +kernel
