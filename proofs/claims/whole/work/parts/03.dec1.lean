theorem dX11_init_0 : decode cX11_init 0 = .ok (.aload_n 0, 1) := by decide +kernel
theorem dX11_init_1 : decode cX11_init 1 = .ok (.invokespecial 1, 3) := by decide +kernel
theorem dX11_init_4 : decode cX11_init 4 = .ok (.aload_n 0, 1) := by decide +kernel
theorem dX11_init_5 : decode cX11_init 5 = .ok (.new 7, 3) := by decide +kernel
theorem dX11_init_8 : decode cX11_init 8 = .ok (.dup, 1) := by decide +kernel
theorem dX11_init_9 : decode cX11_init 9 = .ok (.invokespecial 9, 3) := by decide +kernel
theorem dX11_init_12 : decode cX11_init 12 = .ok (.putfield 10, 3) := by decide +kernel
theorem dX11_init_15 : decode cX11_init 15 = .ok (.aload_n 0, 1) := by decide +kernel
theorem dX11_init_16 : decode cX11_init 16 = .ok (.new 16, 3) := by decide +kernel
theorem dX11_init_19 : decode cX11_init 19 = .ok (.dup, 1) := by decide +kernel
theorem dX11_init_20 : decode cX11_init 20 = .ok (.invokespecial 18, 3) := by decide +kernel
theorem dX11_init_23 : decode cX11_init 23 = .ok (.putfield 19, 3) := by decide +kernel
theorem dX11_init_26 : decode cX11_init 26 = .ok (.aload_n 0, 1) := by decide +kernel
theorem dX11_init_27 : decode cX11_init 27 = .ok (.new 23, 3) := by decide +kernel
theorem dX11_init_30 : decode cX11_init 30 = .ok (.dup, 1) := by decide +kernel
theorem dX11_init_31 : decode cX11_init 31 = .ok (.invokespecial 25, 3) := by decide +kernel
theorem dX11_init_34 : decode cX11_init 34 = .ok (.putfield 26, 3) := by decide +kernel
theorem dX11_init_37 : decode cX11_init 37 = .ok (.aload_n 0, 1) := by decide +kernel
theorem dX11_init_38 : decode cX11_init 38 = .ok (.new 30, 3) := by decide +kernel
theorem dX11_init_41 : decode cX11_init 41 = .ok (.dup, 1) := by decide +kernel
theorem dX11_init_42 : decode cX11_init 42 = .ok (.invokespecial 32, 3) := by decide +kernel
theorem dX11_init_45 : decode cX11_init 45 = .ok (.putfield 33, 3) := by decide +kernel
theorem dX11_init_48 : decode cX11_init 48 = .ok (.aload_n 0, 1) := by decide +kernel
theorem dX11_init_49 : decode cX11_init 49 = .ok (.new 37, 3) := by decide +kernel
theorem dX11_init_52 : decode cX11_init 52 = .ok (.dup, 1) := by decide +kernel
theorem dX11_init_53 : decode cX11_init 53 = .ok (.invokespecial 39, 3) := by decide +kernel
theorem dX11_init_56 : decode cX11_init 56 = .ok (.putfield 40, 3) := by decide +kernel
theorem dX11_init_59 : decode cX11_init 59 = .ok (.aload_n 0, 1) := by decide +kernel
theorem dX11_init_60 : decode cX11_init 60 = .ok (.new 44, 3) := by decide +kernel
theorem dX11_init_63 : decode cX11_init 63 = .ok (.dup, 1) := by decide +kernel
theorem dX11_init_64 : decode cX11_init 64 = .ok (.invokespecial 46, 3) := by decide +kernel
theorem dX11_init_67 : decode cX11_init 67 = .ok (.putfield 47, 3) := by decide +kernel
theorem dX11_init_70 : decode cX11_init 70 = .ok (.aload_n 0, 1) := by decide +kernel
theorem dX11_init_71 : decode cX11_init 71 = .ok (.new 51, 3) := by decide +kernel
theorem dX11_init_74 : decode cX11_init 74 = .ok (.dup, 1) := by decide +kernel
theorem dX11_init_75 : decode cX11_init 75 = .ok (.invokespecial 53, 3) := by decide +kernel
theorem dX11_init_78 : decode cX11_init 78 = .ok (.putfield 54, 3) := by decide +kernel
theorem dX11_init_81 : decode cX11_init 81 = .ok (.aload_n 0, 1) := by decide +kernel
theorem dX11_init_82 : decode cX11_init 82 = .ok (.new 51, 3) := by decide +kernel
theorem dX11_init_85 : decode cX11_init 85 = .ok (.dup, 1) := by decide +kernel
theorem dX11_init_86 : decode cX11_init 86 = .ok (.invokespecial 53, 3) := by decide +kernel
theorem dX11_init_89 : decode cX11_init 89 = .ok (.putfield 58, 3) := by decide +kernel
theorem dX11_init_92 : decode cX11_init 92 = .ok (.aload_n 0, 1) := by decide +kernel
theorem dX11_init_93 : decode cX11_init 93 = .ok (.new 61, 3) := by decide +kernel
theorem dX11_init_96 : decode cX11_init 96 = .ok (.dup, 1) := by decide +kernel
theorem dX11_init_97 : decode cX11_init 97 = .ok (.invokespecial 63, 3) := by decide +kernel
theorem dX11_init_100 : decode cX11_init 100 = .ok (.putfield 64, 3) := by decide +kernel
theorem dX11_init_103 : decode cX11_init 103 = .ok (.aload_n 0, 1) := by decide +kernel
theorem dX11_init_104 : decode cX11_init 104 = .ok (.new 61, 3) := by decide +kernel
theorem dX11_init_107 : decode cX11_init 107 = .ok (.dup, 1) := by decide +kernel
theorem dX11_init_108 : decode cX11_init 108 = .ok (.invokespecial 63, 3) := by decide +kernel
theorem dX11_init_111 : decode cX11_init 111 = .ok (.putfield 68, 3) := by decide +kernel
theorem dX11_init_114 : decode cX11_init 114 = .ok (.aload_n 0, 1) := by decide +kernel
theorem dX11_init_115 : decode cX11_init 115 = .ok (.iconst 1, 1) := by decide +kernel
theorem dX11_init_116 : decode cX11_init 116 = .ok (.putfield 71, 3) := by decide +kernel
theorem dX11_init_119 : decode cX11_init 119 = .ok (.return_, 1) := by decide +kernel
theorem dX11_type_0 : decode cX11_type 0 = .ok (.iload_n 3, 1) := by decide +kernel
theorem dX11_type_1 : decode cX11_type 1 = .ok (.iconst 1, 1) := by decide +kernel
theorem dX11_type_2 : decode cX11_type 2 = .ok (.bipush 8, 2) := by decide +kernel
theorem dX11_type_4 : decode cX11_type 4 = .ok (.invokestatic 75, 3) := by decide +kernel
theorem dX11_type_7 : decode cX11_type 7 = .ok (.ifCond .ne 5, 3) := by decide +kernel
theorem dX11_type_10 : decode cX11_type 10 = .ok (.iconst (-1), 1) := by decide +kernel
theorem dX11_type_11 : decode cX11_type 11 = .ok (.ireturn, 1) := by decide +kernel
theorem dX11_type_12 : decode cX11_type 12 = .ok (.aload_n 0, 1) := by decide +kernel
theorem dX11_type_13 : decode cX11_type 13 = .ok (.getfield 10, 3) := by decide +kernel
theorem dX11_type_16 : decode cX11_type 16 = .ok (.getfield 79, 3) := by decide +kernel
theorem dX11_type_19 : decode cX11_type 19 = .ok (.iload_n 3, 1) := by decide +kernel
theorem dX11_type_20 : decode cX11_type 20 = .ok (.iadd, 1) := by decide +kernel
theorem dX11_type_21 : decode cX11_type 21 = .ok (.sipush 400, 3) := by decide +kernel
theorem dX11_type_24 : decode cX11_type 24 = .ok (.if_icmp .le 6, 3) := by decide +kernel
theorem dX11_type_27 : decode cX11_type 27 = .ok (.bipush (-3), 2) := by decide +kernel
theorem dX11_type_29 : decode cX11_type 29 = .ok (.ireturn, 1) := by decide +kernel
theorem dX11_type_30 : decode cX11_type 30 = .ok (.iload_n 3, 1) := by decide +kernel
theorem dX11_type_31 : decode cX11_type 31 = .ok (.iconst 1, 1) := by decide +kernel
theorem dX11_type_32 : decode cX11_type 32 = .ok (.isub, 1) := by decide +kernel
theorem dX11_type_33 : decode cX11_type 33 = .ok (.istore 4, 2) := by decide +kernel
theorem dX11_type_35 : decode cX11_type 35 = .ok (.iload 4, 2) := by decide +kernel
theorem dX11_type_37 : decode cX11_type 37 = .ok (.ifCond .lt 28, 3) := by decide +kernel
theorem dX11_type_40 : decode cX11_type 40 = .ok (.aload_n 0, 1) := by decide +kernel
theorem dX11_type_41 : decode cX11_type 41 = .ok (.getfield 10, 3) := by decide +kernel
theorem dX11_type_44 : decode cX11_type 44 = .ok (.lload_n 1, 1) := by decide +kernel
theorem dX11_type_45 : decode cX11_type 45 = .ok (.bipush 8, 2) := by decide +kernel
theorem dX11_type_47 : decode cX11_type 47 = .ok (.iload 4, 2) := by decide +kernel
theorem dX11_type_49 : decode cX11_type 49 = .ok (.imul, 1) := by decide +kernel
theorem dX11_type_50 : decode cX11_type 50 = .ok (.lushr, 1) := by decide +kernel
theorem dX11_type_51 : decode cX11_type 51 = .ok (.l2i, 1) := by decide +kernel
theorem dX11_type_52 : decode cX11_type 52 = .ok (.sipush 255, 3) := by decide +kernel
theorem dX11_type_55 : decode cX11_type 55 = .ok (.iand, 1) := by decide +kernel
theorem dX11_type_56 : decode cX11_type 56 = .ok (.invokevirtual 82, 3) := by decide +kernel
theorem dX11_type_59 : decode cX11_type 59 = .ok (.iinc 4 (-1), 3) := by decide +kernel
theorem dX11_type_62 : decode cX11_type 62 = .ok (.goto (-27), 3) := by decide +kernel
theorem dX11_type_65 : decode cX11_type 65 = .ok (.aload_n 0, 1) := by decide +kernel
theorem dX11_type_66 : decode cX11_type 66 = .ok (.getfield 10, 3) := by decide +kernel
theorem dX11_type_69 : decode cX11_type 69 = .ok (.getfield 79, 3) := by decide +kernel
theorem dX11_type_72 : decode cX11_type 72 = .ok (.ireturn, 1) := by decide +kernel
theorem dX11_clear_0 : decode cX11_clear 0 = .ok (.aload_n 0, 1) := by decide +kernel
theorem dX11_clear_1 : decode cX11_clear 1 = .ok (.getfield 10, 3) := by decide +kernel
theorem dX11_clear_4 : decode cX11_clear 4 = .ok (.invokevirtual 86, 3) := by decide +kernel
theorem dX11_clear_7 : decode cX11_clear 7 = .ok (.ireturn, 1) := by decide +kernel
theorem dX11_arrows_0 : decode cX11_arrows 0 = .ok (.aload_n 0, 1) := by decide +kernel
theorem dX11_arrows_1 : decode cX11_arrows 1 = .ok (.getfield 10, 3) := by decide +kernel
theorem dX11_arrows_4 : decode cX11_arrows 4 = .ok (.aload_n 0, 1) := by decide +kernel
theorem dX11_arrows_5 : decode cX11_arrows 5 = .ok (.getfield 68, 3) := by decide +kernel
theorem dX11_arrows_8 : decode cX11_arrows 8 = .ok (.invokevirtual 90, 3) := by decide +kernel
theorem dX11_arrows_11 : decode cX11_arrows 11 = .ok (.istore_n 1, 1) := by decide +kernel
theorem dX11_arrows_12 : decode cX11_arrows 12 = .ok (.iload_n 1, 1) := by decide +kernel
theorem dX11_arrows_13 : decode cX11_arrows 13 = .ok (.ifCond .ge 5, 3) := by decide +kernel
theorem dX11_arrows_16 : decode cX11_arrows 16 = .ok (.iload_n 1, 1) := by decide +kernel
theorem dX11_arrows_17 : decode cX11_arrows 17 = .ok (.ireturn, 1) := by decide +kernel
theorem dX11_arrows_18 : decode cX11_arrows 18 = .ok (.aload_n 0, 1) := by decide +kernel
theorem dX11_arrows_19 : decode cX11_arrows 19 = .ok (.getfield 64, 3) := by decide +kernel
theorem dX11_arrows_22 : decode cX11_arrows 22 = .ok (.astore_n 2, 1) := by decide +kernel
theorem dX11_arrows_23 : decode cX11_arrows 23 = .ok (.aload_n 0, 1) := by decide +kernel
theorem dX11_arrows_24 : decode cX11_arrows 24 = .ok (.aload_n 0, 1) := by decide +kernel
theorem dX11_arrows_25 : decode cX11_arrows 25 = .ok (.getfield 68, 3) := by decide +kernel
theorem dX11_arrows_28 : decode cX11_arrows 28 = .ok (.putfield 64, 3) := by decide +kernel
theorem dX11_arrows_31 : decode cX11_arrows 31 = .ok (.aload_n 0, 1) := by decide +kernel
theorem dX11_arrows_32 : decode cX11_arrows 32 = .ok (.aload_n 2, 1) := by decide +kernel
theorem dX11_arrows_33 : decode cX11_arrows 33 = .ok (.putfield 68, 3) := by decide +kernel
theorem dX11_arrows_36 : decode cX11_arrows 36 = .ok (.aload_n 0, 1) := by decide +kernel
theorem dX11_arrows_37 : decode cX11_arrows 37 = .ok (.getfield 10, 3) := by decide +kernel
theorem dX11_arrows_40 : decode cX11_arrows 40 = .ok (.invokevirtual 86, 3) := by decide +kernel
theorem dX11_arrows_43 : decode cX11_arrows 43 = .ok (.pop, 1) := by decide +kernel
theorem dX11_arrows_44 : decode cX11_arrows 44 = .ok (.aload_n 0, 1) := by decide +kernel
theorem dX11_arrows_45 : decode cX11_arrows 45 = .ok (.getfield 26, 3) := by decide +kernel
theorem dX11_arrows_48 : decode cX11_arrows 48 = .ok (.invokevirtual 94, 3) := by decide +kernel
theorem dX11_arrows_51 : decode cX11_arrows 51 = .ok (.pop, 1) := by decide +kernel
theorem dX11_arrows_52 : decode cX11_arrows 52 = .ok (.aload_n 0, 1) := by decide +kernel
theorem dX11_arrows_53 : decode cX11_arrows 53 = .ok (.getfield 54, 3) := by decide +kernel
theorem dX11_arrows_56 : decode cX11_arrows 56 = .ok (.iconst 0, 1) := by decide +kernel
theorem dX11_arrows_57 : decode cX11_arrows 57 = .ok (.putfield 95, 3) := by decide +kernel
theorem dX11_arrows_60 : decode cX11_arrows 60 = .ok (.aload_n 0, 1) := by decide +kernel
theorem dX11_arrows_61 : decode cX11_arrows 61 = .ok (.getfield 58, 3) := by decide +kernel
theorem dX11_arrows_64 : decode cX11_arrows 64 = .ok (.iconst 0, 1) := by decide +kernel
theorem dX11_arrows_65 : decode cX11_arrows 65 = .ok (.putfield 95, 3) := by decide +kernel
theorem dX11_arrows_68 : decode cX11_arrows 68 = .ok (.iload_n 1, 1) := by decide +kernel
theorem dX11_arrows_69 : decode cX11_arrows 69 = .ok (.ireturn, 1) := by decide +kernel
theorem dX11_stick_0 : decode cX11_stick 0 = .ok (.aload_n 0, 1) := by decide +kernel
theorem dX11_stick_1 : decode cX11_stick 1 = .ok (.getfield 64, 3) := by decide +kernel
theorem dX11_stick_4 : decode cX11_stick 4 = .ok (.iload_n 1, 1) := by decide +kernel
theorem dX11_stick_5 : decode cX11_stick 5 = .ok (.invokevirtual 99, 3) := by decide +kernel
theorem dX11_stick_8 : decode cX11_stick 8 = .ok (.astore_n 3, 1) := by decide +kernel
theorem dX11_stick_9 : decode cX11_stick 9 = .ok (.aload_n 3, 1) := by decide +kernel
theorem dX11_stick_10 : decode cX11_stick 10 = .ok (.ifnonnull 5, 3) := by decide +kernel
theorem dX11_stick_13 : decode cX11_stick 13 = .ok (.iconst (-1), 1) := by decide +kernel
theorem dX11_stick_14 : decode cX11_stick 14 = .ok (.ireturn, 1) := by decide +kernel
theorem dX11_stick_15 : decode cX11_stick 15 = .ok (.iload_n 2, 1) := by decide +kernel
theorem dX11_stick_16 : decode cX11_stick 16 = .ok (.tableswitch 79 0 6 #[44, 49, 54, 59, 64, 69, 74], 44) := by decide +kernel
theorem dX11_stick_60 : decode cX11_stick 60 = .ok (.aload_n 3, 1) := by decide +kernel
theorem dX11_stick_61 : decode cX11_stick 61 = .ok (.getfield 103, 3) := by decide +kernel
theorem dX11_stick_64 : decode cX11_stick 64 = .ok (.ireturn, 1) := by decide +kernel
theorem dX11_stick_65 : decode cX11_stick 65 = .ok (.aload_n 3, 1) := by decide +kernel
theorem dX11_stick_66 : decode cX11_stick 66 = .ok (.getfield 108, 3) := by decide +kernel
theorem dX11_stick_69 : decode cX11_stick 69 = .ok (.ireturn, 1) := by decide +kernel
theorem dX11_stick_70 : decode cX11_stick 70 = .ok (.aload_n 3, 1) := by decide +kernel
theorem dX11_stick_71 : decode cX11_stick 71 = .ok (.getfield 111, 3) := by decide +kernel
theorem dX11_stick_74 : decode cX11_stick 74 = .ok (.ireturn, 1) := by decide +kernel
theorem dX11_stick_75 : decode cX11_stick 75 = .ok (.aload_n 3, 1) := by decide +kernel
theorem dX11_stick_76 : decode cX11_stick 76 = .ok (.getfield 114, 3) := by decide +kernel
theorem dX11_stick_79 : decode cX11_stick 79 = .ok (.ireturn, 1) := by decide +kernel
theorem dX11_stick_80 : decode cX11_stick 80 = .ok (.aload_n 3, 1) := by decide +kernel
theorem dX11_stick_81 : decode cX11_stick 81 = .ok (.getfield 117, 3) := by decide +kernel
theorem dX11_stick_84 : decode cX11_stick 84 = .ok (.ireturn, 1) := by decide +kernel
theorem dX11_stick_85 : decode cX11_stick 85 = .ok (.aload_n 3, 1) := by decide +kernel
theorem dX11_stick_86 : decode cX11_stick 86 = .ok (.getfield 120, 3) := by decide +kernel
theorem dX11_stick_89 : decode cX11_stick 89 = .ok (.ireturn, 1) := by decide +kernel
theorem dX11_stick_90 : decode cX11_stick 90 = .ok (.aload_n 3, 1) := by decide +kernel
theorem dX11_stick_91 : decode cX11_stick 91 = .ok (.getfield 123, 3) := by decide +kernel
theorem dX11_stick_94 : decode cX11_stick 94 = .ok (.ireturn, 1) := by decide +kernel
theorem dX11_stick_95 : decode cX11_stick 95 = .ok (.iconst (-1), 1) := by decide +kernel
theorem dX11_stick_96 : decode cX11_stick 96 = .ok (.ireturn, 1) := by decide +kernel
theorem dX11_bow_0 : decode cX11_bow 0 = .ok (.aload_n 0, 1) := by decide +kernel
theorem dX11_bow_1 : decode cX11_bow 1 = .ok (.getfield 64, 3) := by decide +kernel
theorem dX11_bow_4 : decode cX11_bow 4 = .ok (.iload_n 1, 1) := by decide +kernel
theorem dX11_bow_5 : decode cX11_bow 5 = .ok (.invokevirtual 126, 3) := by decide +kernel
theorem dX11_bow_8 : decode cX11_bow 8 = .ok (.astore_n 3, 1) := by decide +kernel
theorem dX11_bow_9 : decode cX11_bow 9 = .ok (.aload_n 3, 1) := by decide +kernel
theorem dX11_bow_10 : decode cX11_bow 10 = .ok (.ifnonnull 5, 3) := by decide +kernel
theorem dX11_bow_13 : decode cX11_bow 13 = .ok (.iconst (-1), 1) := by decide +kernel
theorem dX11_bow_14 : decode cX11_bow 14 = .ok (.ireturn, 1) := by decide +kernel
theorem dX11_bow_15 : decode cX11_bow 15 = .ok (.iload_n 2, 1) := by decide +kernel
theorem dX11_bow_16 : decode cX11_bow 16 = .ok (.tableswitch 43 0 2 #[28, 33, 38], 28) := by decide +kernel
theorem dX11_bow_44 : decode cX11_bow 44 = .ok (.aload_n 3, 1) := by decide +kernel
theorem dX11_bow_45 : decode cX11_bow 45 = .ok (.getfield 130, 3) := by decide +kernel
theorem dX11_bow_48 : decode cX11_bow 48 = .ok (.ireturn, 1) := by decide +kernel
theorem dX11_bow_49 : decode cX11_bow 49 = .ok (.aload_n 3, 1) := by decide +kernel
theorem dX11_bow_50 : decode cX11_bow 50 = .ok (.getfield 135, 3) := by decide +kernel
theorem dX11_bow_53 : decode cX11_bow 53 = .ok (.ireturn, 1) := by decide +kernel
theorem dX11_bow_54 : decode cX11_bow 54 = .ok (.aload_n 3, 1) := by decide +kernel
theorem dX11_bow_55 : decode cX11_bow 55 = .ok (.invokevirtual 138, 3) := by decide +kernel
theorem dX11_bow_58 : decode cX11_bow 58 = .ok (.ireturn, 1) := by decide +kernel
theorem dX11_bow_59 : decode cX11_bow 59 = .ok (.iconst (-1), 1) := by decide +kernel
theorem dX11_bow_60 : decode cX11_bow 60 = .ok (.ireturn, 1) := by decide +kernel
theorem dX11_archer_0 : decode cX11_archer 0 = .ok (.aload_n 0, 1) := by decide +kernel
theorem dX11_archer_1 : decode cX11_archer 1 = .ok (.getfield 64, 3) := by decide +kernel
theorem dX11_archer_4 : decode cX11_archer 4 = .ok (.iload_n 1, 1) := by decide +kernel
theorem dX11_archer_5 : decode cX11_archer 5 = .ok (.invokevirtual 141, 3) := by decide +kernel
theorem dX11_archer_8 : decode cX11_archer 8 = .ok (.astore_n 3, 1) := by decide +kernel
theorem dX11_archer_9 : decode cX11_archer 9 = .ok (.aload_n 3, 1) := by decide +kernel
theorem dX11_archer_10 : decode cX11_archer 10 = .ok (.ifnonnull 6, 3) := by decide +kernel
theorem dX11_archer_13 : decode cX11_archer 13 = .ok (.ldc 145, 2) := by decide +kernel
theorem dX11_archer_15 : decode cX11_archer 15 = .ok (.ireturn, 1) := by decide +kernel
theorem dX11_archer_16 : decode cX11_archer 16 = .ok (.iload_n 2, 1) := by decide +kernel
theorem dX11_archer_17 : decode cX11_archer 17 = .ok (.lookupswitch 37 #[(0, 27), (1, 32)], 27) := by decide +kernel
theorem dX11_archer_44 : decode cX11_archer 44 = .ok (.aload_n 3, 1) := by decide +kernel
theorem dX11_archer_45 : decode cX11_archer 45 = .ok (.getfield 146, 3) := by decide +kernel
theorem dX11_archer_48 : decode cX11_archer 48 = .ok (.ireturn, 1) := by decide +kernel
theorem dX11_archer_49 : decode cX11_archer 49 = .ok (.aload_n 3, 1) := by decide +kernel
theorem dX11_archer_50 : decode cX11_archer 50 = .ok (.getfield 151, 3) := by decide +kernel
theorem dX11_archer_53 : decode cX11_archer 53 = .ok (.ireturn, 1) := by decide +kernel
theorem dX11_archer_54 : decode cX11_archer 54 = .ok (.ldc 145, 2) := by decide +kernel
theorem dX11_archer_56 : decode cX11_archer 56 = .ok (.ireturn, 1) := by decide +kernel
theorem dX11_tune_0 : decode cX11_tune 0 = .ok (.aload_n 0, 1) := by decide +kernel
theorem dX11_tune_1 : decode cX11_tune 1 = .ok (.getfield 19, 3) := by decide +kernel
theorem dX11_tune_4 : decode cX11_tune 4 = .ok (.iload_n 1, 1) := by decide +kernel
theorem dX11_tune_5 : decode cX11_tune 5 = .ok (.iload_n 2, 1) := by decide +kernel
theorem dX11_tune_6 : decode cX11_tune 6 = .ok (.invokevirtual 154, 3) := by decide +kernel
theorem dX11_tune_9 : decode cX11_tune 9 = .ok (.ireturn, 1) := by decide +kernel
theorem dX11_cut_0 : decode cX11_cut 0 = .ok (.aload_n 0, 1) := by decide +kernel
theorem dX11_cut_1 : decode cX11_cut 1 = .ok (.getfield 64, 3) := by decide +kernel
theorem dX11_cut_4 : decode cX11_cut 4 = .ok (.iload_n 1, 1) := by decide +kernel
theorem dX11_cut_5 : decode cX11_cut 5 = .ok (.invokevirtual 99, 3) := by decide +kernel
theorem dX11_cut_8 : decode cX11_cut 8 = .ok (.astore_n 2, 1) := by decide +kernel
theorem dX11_cut_9 : decode cX11_cut 9 = .ok (.aload_n 2, 1) := by decide +kernel
theorem dX11_cut_10 : decode cX11_cut 10 = .ok (.ifnonnull 5, 3) := by decide +kernel
theorem dX11_cut_13 : decode cX11_cut 13 = .ok (.iconst (-1), 1) := by decide +kernel
theorem dX11_cut_14 : decode cX11_cut 14 = .ok (.ireturn, 1) := by decide +kernel
theorem dX11_cut_15 : decode cX11_cut 15 = .ok (.aload_n 2, 1) := by decide +kernel
theorem dX11_cut_16 : decode cX11_cut 16 = .ok (.invokevirtual 158, 3) := by decide +kernel
theorem dX11_cut_19 : decode cX11_cut 19 = .ok (.iconst 1, 1) := by decide +kernel
theorem dX11_cut_20 : decode cX11_cut 20 = .ok (.if_icmp .ge 6, 3) := by decide +kernel
theorem dX11_cut_23 : decode cX11_cut 23 = .ok (.bipush (-2), 2) := by decide +kernel
theorem dX11_cut_25 : decode cX11_cut 25 = .ok (.ireturn, 1) := by decide +kernel
theorem dX11_cut_26 : decode cX11_cut 26 = .ok (.aload_n 2, 1) := by decide +kernel
theorem dX11_cut_27 : decode cX11_cut 27 = .ok (.dup, 1) := by decide +kernel
theorem dX11_cut_28 : decode cX11_cut 28 = .ok (.getfield 103, 3) := by decide +kernel
theorem dX11_cut_31 : decode cX11_cut 31 = .ok (.iconst 1, 1) := by decide +kernel
theorem dX11_cut_32 : decode cX11_cut 32 = .ok (.isub, 1) := by decide +kernel
theorem dX11_cut_33 : decode cX11_cut 33 = .ok (.putfield 103, 3) := by decide +kernel
theorem dX11_cut_36 : decode cX11_cut 36 = .ok (.aload_n 2, 1) := by decide +kernel
theorem dX11_cut_37 : decode cX11_cut 37 = .ok (.getfield 103, 3) := by decide +kernel
theorem dX11_cut_40 : decode cX11_cut 40 = .ok (.ireturn, 1) := by decide +kernel
theorem dX11_scrape_0 : decode cX11_scrape 0 = .ok (.aload_n 0, 1) := by decide +kernel
theorem dX11_scrape_1 : decode cX11_scrape 1 = .ok (.getfield 64, 3) := by decide +kernel
theorem dX11_scrape_4 : decode cX11_scrape 4 = .ok (.iload_n 1, 1) := by decide +kernel
theorem dX11_scrape_5 : decode cX11_scrape 5 = .ok (.invokevirtual 99, 3) := by decide +kernel
theorem dX11_scrape_8 : decode cX11_scrape 8 = .ok (.astore_n 2, 1) := by decide +kernel
theorem dX11_scrape_9 : decode cX11_scrape 9 = .ok (.aload_n 2, 1) := by decide +kernel
theorem dX11_scrape_10 : decode cX11_scrape 10 = .ok (.ifnonnull 5, 3) := by decide +kernel
theorem dX11_scrape_13 : decode cX11_scrape 13 = .ok (.iconst (-1), 1) := by decide +kernel
theorem dX11_scrape_14 : decode cX11_scrape 14 = .ok (.ireturn, 1) := by decide +kernel
theorem dX11_scrape_15 : decode cX11_scrape 15 = .ok (.aload_n 2, 1) := by decide +kernel
theorem dX11_scrape_16 : decode cX11_scrape 16 = .ok (.invokevirtual 161, 3) := by decide +kernel
theorem dX11_scrape_19 : decode cX11_scrape 19 = .ok (.iconst 1, 1) := by decide +kernel
theorem dX11_scrape_20 : decode cX11_scrape 20 = .ok (.if_icmp .ge 6, 3) := by decide +kernel
theorem dX11_scrape_23 : decode cX11_scrape 23 = .ok (.bipush (-2), 2) := by decide +kernel
theorem dX11_scrape_25 : decode cX11_scrape 25 = .ok (.ireturn, 1) := by decide +kernel
theorem dX11_scrape_26 : decode cX11_scrape 26 = .ok (.aload_n 2, 1) := by decide +kernel
theorem dX11_scrape_27 : decode cX11_scrape 27 = .ok (.dup, 1) := by decide +kernel
theorem dX11_scrape_28 : decode cX11_scrape 28 = .ok (.getfield 111, 3) := by decide +kernel
theorem dX11_scrape_31 : decode cX11_scrape 31 = .ok (.iconst 1, 1) := by decide +kernel
theorem dX11_scrape_32 : decode cX11_scrape 32 = .ok (.isub, 1) := by decide +kernel
theorem dX11_scrape_33 : decode cX11_scrape 33 = .ok (.putfield 111, 3) := by decide +kernel
theorem dX11_scrape_36 : decode cX11_scrape 36 = .ok (.aload_n 2, 1) := by decide +kernel
theorem dX11_scrape_37 : decode cX11_scrape 37 = .ok (.dup, 1) := by decide +kernel
theorem dX11_scrape_38 : decode cX11_scrape 38 = .ok (.getfield 114, 3) := by decide +kernel
theorem dX11_scrape_41 : decode cX11_scrape 41 = .ok (.iconst 1, 1) := by decide +kernel
theorem dX11_scrape_42 : decode cX11_scrape 42 = .ok (.isub, 1) := by decide +kernel
theorem dX11_scrape_43 : decode cX11_scrape 43 = .ok (.putfield 114, 3) := by decide +kernel
theorem dX11_scrape_46 : decode cX11_scrape 46 = .ok (.aload_n 2, 1) := by decide +kernel
theorem dX11_scrape_47 : decode cX11_scrape 47 = .ok (.dup, 1) := by decide +kernel
theorem dX11_scrape_48 : decode cX11_scrape 48 = .ok (.getfield 108, 3) := by decide +kernel
theorem dX11_scrape_51 : decode cX11_scrape 51 = .ok (.iconst 2, 1) := by decide +kernel
theorem dX11_scrape_52 : decode cX11_scrape 52 = .ok (.isub, 1) := by decide +kernel
theorem dX11_scrape_53 : decode cX11_scrape 53 = .ok (.putfield 108, 3) := by decide +kernel
theorem dX11_scrape_56 : decode cX11_scrape 56 = .ok (.aload_n 2, 1) := by decide +kernel
theorem dX11_scrape_57 : decode cX11_scrape 57 = .ok (.getfield 108, 3) := by decide +kernel
theorem dX11_scrape_60 : decode cX11_scrape 60 = .ok (.ireturn, 1) := by decide +kernel
theorem dX11_load_0 : decode cX11_load 0 = .ok (.aload_n 0, 1) := by decide +kernel
theorem dX11_load_1 : decode cX11_load 1 = .ok (.getfield 64, 3) := by decide +kernel
theorem dX11_load_4 : decode cX11_load 4 = .ok (.iload_n 1, 1) := by decide +kernel
theorem dX11_load_5 : decode cX11_load 5 = .ok (.invokevirtual 99, 3) := by decide +kernel
theorem dX11_load_8 : decode cX11_load 8 = .ok (.astore_n 2, 1) := by decide +kernel
theorem dX11_load_9 : decode cX11_load 9 = .ok (.aload_n 2, 1) := by decide +kernel
theorem dX11_load_10 : decode cX11_load 10 = .ok (.ifnonnull 5, 3) := by decide +kernel
theorem dX11_load_13 : decode cX11_load 13 = .ok (.iconst (-1), 1) := by decide +kernel
theorem dX11_load_14 : decode cX11_load 14 = .ok (.ireturn, 1) := by decide +kernel
theorem dX11_load_15 : decode cX11_load 15 = .ok (.aload_n 2, 1) := by decide +kernel
theorem dX11_load_16 : decode cX11_load 16 = .ok (.invokevirtual 164, 3) := by decide +kernel
theorem dX11_load_19 : decode cX11_load 19 = .ok (.iconst 1, 1) := by decide +kernel
theorem dX11_load_20 : decode cX11_load 20 = .ok (.if_icmp .ge 6, 3) := by decide +kernel
theorem dX11_load_23 : decode cX11_load 23 = .ok (.bipush (-2), 2) := by decide +kernel
theorem dX11_load_25 : decode cX11_load 25 = .ok (.ireturn, 1) := by decide +kernel
theorem dX11_load_26 : decode cX11_load 26 = .ok (.aload_n 2, 1) := by decide +kernel
theorem dX11_load_27 : decode cX11_load 27 = .ok (.dup, 1) := by decide +kernel
theorem dX11_load_28 : decode cX11_load 28 = .ok (.getfield 117, 3) := by decide +kernel
theorem dX11_load_31 : decode cX11_load 31 = .ok (.iconst 5, 1) := by decide +kernel
theorem dX11_load_32 : decode cX11_load 32 = .ok (.iadd, 1) := by decide +kernel
theorem dX11_load_33 : decode cX11_load 33 = .ok (.putfield 117, 3) := by decide +kernel
theorem dX11_load_36 : decode cX11_load 36 = .ok (.aload_n 2, 1) := by decide +kernel
theorem dX11_load_37 : decode cX11_load 37 = .ok (.getfield 117, 3) := by decide +kernel
theorem dX11_load_40 : decode cX11_load 40 = .ok (.ireturn, 1) := by decide +kernel
theorem dX11_turn_0 : decode cX11_turn 0 = .ok (.aload_n 0, 1) := by decide +kernel
theorem dX11_turn_1 : decode cX11_turn 1 = .ok (.getfield 64, 3) := by decide +kernel
theorem dX11_turn_4 : decode cX11_turn 4 = .ok (.iload_n 1, 1) := by decide +kernel
theorem dX11_turn_5 : decode cX11_turn 5 = .ok (.invokevirtual 99, 3) := by decide +kernel
theorem dX11_turn_8 : decode cX11_turn 8 = .ok (.astore_n 2, 1) := by decide +kernel
theorem dX11_turn_9 : decode cX11_turn 9 = .ok (.aload_n 2, 1) := by decide +kernel
theorem dX11_turn_10 : decode cX11_turn 10 = .ok (.ifnonnull 5, 3) := by decide +kernel
theorem dX11_turn_13 : decode cX11_turn 13 = .ok (.iconst (-1), 1) := by decide +kernel
theorem dX11_turn_14 : decode cX11_turn 14 = .ok (.ireturn, 1) := by decide +kernel
theorem dX11_turn_15 : decode cX11_turn 15 = .ok (.aload_n 2, 1) := by decide +kernel
theorem dX11_turn_16 : decode cX11_turn 16 = .ok (.iconst 1, 1) := by decide +kernel
theorem dX11_turn_17 : decode cX11_turn 17 = .ok (.aload_n 2, 1) := by decide +kernel
theorem dX11_turn_18 : decode cX11_turn 18 = .ok (.getfield 123, 3) := by decide +kernel
theorem dX11_turn_21 : decode cX11_turn 21 = .ok (.isub, 1) := by decide +kernel
theorem dX11_turn_22 : decode cX11_turn 22 = .ok (.putfield 123, 3) := by decide +kernel
theorem dX11_turn_25 : decode cX11_turn 25 = .ok (.aload_n 2, 1) := by decide +kernel
theorem dX11_turn_26 : decode cX11_turn 26 = .ok (.getfield 123, 3) := by decide +kernel
theorem dX11_turn_29 : decode cX11_turn 29 = .ok (.ireturn, 1) := by decide +kernel
theorem dX11_least_0 : decode cX11_least 0 = .ok (.aload_n 0, 1) := by decide +kernel
theorem dX11_least_1 : decode cX11_least 1 = .ok (.getfield 64, 3) := by decide +kernel
theorem dX11_least_4 : decode cX11_least 4 = .ok (.iload_n 1, 1) := by decide +kernel
theorem dX11_least_5 : decode cX11_least 5 = .ok (.invokevirtual 99, 3) := by decide +kernel
theorem dX11_least_8 : decode cX11_least 8 = .ok (.astore 6, 2) := by decide +kernel
theorem dX11_least_10 : decode cX11_least 10 = .ok (.aload_n 0, 1) := by decide +kernel
theorem dX11_least_11 : decode cX11_least 11 = .ok (.getfield 64, 3) := by decide +kernel
theorem dX11_least_14 : decode cX11_least 14 = .ok (.iload_n 2, 1) := by decide +kernel
theorem dX11_least_15 : decode cX11_least 15 = .ok (.invokevirtual 126, 3) := by decide +kernel
theorem dX11_least_18 : decode cX11_least 18 = .ok (.astore 7, 2) := by decide +kernel
theorem dX11_least_20 : decode cX11_least 20 = .ok (.aload 6, 2) := by decide +kernel
theorem dX11_least_22 : decode cX11_least 22 = .ok (.ifnull 18, 3) := by decide +kernel
theorem dX11_least_25 : decode cX11_least 25 = .ok (.aload 7, 2) := by decide +kernel
theorem dX11_least_27 : decode cX11_least 27 = .ok (.ifnull 13, 3) := by decide +kernel
theorem dX11_least_30 : decode cX11_least 30 = .ok (.iload 5, 2) := by decide +kernel
theorem dX11_least_32 : decode cX11_least 32 = .ok (.iconst 0, 1) := by decide +kernel
theorem dX11_least_33 : decode cX11_least 33 = .ok (.iconst 4, 1) := by decide +kernel
theorem dX11_least_34 : decode cX11_least 34 = .ok (.invokestatic 75, 3) := by decide +kernel
theorem dX11_least_37 : decode cX11_least 37 = .ok (.ifCond .ne 5, 3) := by decide +kernel
theorem dX11_least_40 : decode cX11_least 40 = .ok (.iconst (-1), 1) := by decide +kernel
theorem dX11_least_41 : decode cX11_least 41 = .ok (.ireturn, 1) := by decide +kernel
theorem dX11_least_42 : decode cX11_least 42 = .ok (.iload_n 3, 1) := by decide +kernel
theorem dX11_least_43 : decode cX11_least 43 = .ok (.sipush 200, 3) := by decide +kernel
theorem dX11_least_46 : decode cX11_least 46 = .ok (.if_icmp .lt 17, 3) := by decide +kernel
theorem dX11_least_49 : decode cX11_least 49 = .ok (.iload_n 3, 1) := by decide +kernel
theorem dX11_least_50 : decode cX11_least 50 = .ok (.iload 4, 2) := by decide +kernel
theorem dX11_least_52 : decode cX11_least 52 = .ok (.if_icmp .gt 11, 3) := by decide +kernel
theorem dX11_least_55 : decode cX11_least 55 = .ok (.iload 4, 2) := by decide +kernel
theorem dX11_least_57 : decode cX11_least 57 = .ok (.sipush 800, 3) := by decide +kernel
theorem dX11_least_60 : decode cX11_least 60 = .ok (.if_icmp .le 5, 3) := by decide +kernel
theorem dX11_least_63 : decode cX11_least 63 = .ok (.iconst (-1), 1) := by decide +kernel
theorem dX11_least_64 : decode cX11_least 64 = .ok (.ireturn, 1) := by decide +kernel
theorem dX11_least_65 : decode cX11_least 65 = .ok (.aload_n 0, 1) := by decide +kernel
theorem dX11_least_66 : decode cX11_least 66 = .ok (.getfield 40, 3) := by decide +kernel
theorem dX11_least_69 : decode cX11_least 69 = .ok (.aload 6, 2) := by decide +kernel
theorem dX11_least_71 : decode cX11_least 71 = .ok (.aload 7, 2) := by decide +kernel
theorem dX11_least_73 : decode cX11_least 73 = .ok (.invokevirtual 138, 3) := by decide +kernel
theorem dX11_least_76 : decode cX11_least 76 = .ok (.aload_n 0, 1) := by decide +kernel
theorem dX11_least_77 : decode cX11_least 77 = .ok (.getfield 19, 3) := by decide +kernel
theorem dX11_least_80 : decode cX11_least 80 = .ok (.iload_n 3, 1) := by decide +kernel
theorem dX11_least_81 : decode cX11_least 81 = .ok (.iload 4, 2) := by decide +kernel
theorem dX11_least_83 : decode cX11_least 83 = .ok (.invokevirtual 167, 3) := by decide +kernel
theorem dX11_least_86 : decode cX11_least 86 = .ok (.aload_n 0, 1) := by decide +kernel
theorem dX11_least_87 : decode cX11_least 87 = .ok (.getfield 40, 3) := by decide +kernel
theorem dX11_least_90 : decode cX11_least 90 = .ok (.iload 5, 2) := by decide +kernel
theorem dX11_least_92 : decode cX11_least 92 = .ok (.invokevirtual 171, 3) := by decide +kernel
theorem dX11_least_95 : decode cX11_least 95 = .ok (.ireturn, 1) := by decide +kernel
theorem dX11_flight_0 : decode cX11_flight 0 = .ok (.aload_n 0, 1) := by decide +kernel
theorem dX11_flight_1 : decode cX11_flight 1 = .ok (.getfield 64, 3) := by decide +kernel
theorem dX11_flight_4 : decode cX11_flight 4 = .ok (.iload_n 1, 1) := by decide +kernel
theorem dX11_flight_5 : decode cX11_flight 5 = .ok (.invokevirtual 99, 3) := by decide +kernel
theorem dX11_flight_8 : decode cX11_flight 8 = .ok (.astore 4, 2) := by decide +kernel
theorem dX11_flight_10 : decode cX11_flight 10 = .ok (.aload_n 0, 1) := by decide +kernel
theorem dX11_flight_11 : decode cX11_flight 11 = .ok (.getfield 64, 3) := by decide +kernel
theorem dX11_flight_14 : decode cX11_flight 14 = .ok (.iload_n 2, 1) := by decide +kernel
theorem dX11_flight_15 : decode cX11_flight 15 = .ok (.invokevirtual 126, 3) := by decide +kernel
theorem dX11_flight_18 : decode cX11_flight 18 = .ok (.astore 5, 2) := by decide +kernel
theorem dX11_flight_20 : decode cX11_flight 20 = .ok (.aload 4, 2) := by decide +kernel
theorem dX11_flight_22 : decode cX11_flight 22 = .ok (.ifnull 8, 3) := by decide +kernel
theorem dX11_flight_25 : decode cX11_flight 25 = .ok (.aload 5, 2) := by decide +kernel
theorem dX11_flight_27 : decode cX11_flight 27 = .ok (.ifnonnull 6, 3) := by decide +kernel
theorem dX11_flight_30 : decode cX11_flight 30 = .ok (.ldc 145, 2) := by decide +kernel
theorem dX11_flight_32 : decode cX11_flight 32 = .ok (.ireturn, 1) := by decide +kernel
theorem dX11_flight_33 : decode cX11_flight 33 = .ok (.aload 4, 2) := by decide +kernel
theorem dX11_flight_35 : decode cX11_flight 35 = .ok (.invokevirtual 175, 3) := by decide +kernel
theorem dX11_flight_38 : decode cX11_flight 38 = .ok (.aload 5, 2) := by decide +kernel
theorem dX11_flight_40 : decode cX11_flight 40 = .ok (.invokevirtual 138, 3) := by decide +kernel
theorem dX11_flight_43 : decode cX11_flight 43 = .ok (.isub, 1) := by decide +kernel
theorem dX11_flight_44 : decode cX11_flight 44 = .ok (.istore 6, 2) := by decide +kernel
theorem dX11_flight_46 : decode cX11_flight 46 = .ok (.iload_n 3, 1) := by decide +kernel
theorem dX11_flight_47 : decode cX11_flight 47 = .ok (.tableswitch 96 0 5 #[37, 43, 46, 56, 73, 86], 37) := by decide +kernel
theorem dX11_flight_84 : decode cX11_flight 84 = .ok (.aload 4, 2) := by decide +kernel
theorem dX11_flight_86 : decode cX11_flight 86 = .ok (.invokevirtual 175, 3) := by decide +kernel
theorem dX11_flight_89 : decode cX11_flight 89 = .ok (.ireturn, 1) := by decide +kernel
theorem dX11_flight_90 : decode cX11_flight 90 = .ok (.iload 6, 2) := by decide +kernel
theorem dX11_flight_92 : decode cX11_flight 92 = .ok (.ireturn, 1) := by decide +kernel
theorem dX11_flight_93 : decode cX11_flight 93 = .ok (.aload_n 0, 1) := by decide +kernel
theorem dX11_flight_94 : decode cX11_flight 94 = .ok (.getfield 19, 3) := by decide +kernel
theorem dX11_flight_97 : decode cX11_flight 97 = .ok (.iload 6, 2) := by decide +kernel
theorem dX11_flight_99 : decode cX11_flight 99 = .ok (.invokevirtual 178, 3) := by decide +kernel
theorem dX11_flight_102 : decode cX11_flight 102 = .ok (.ireturn, 1) := by decide +kernel
theorem dX11_flight_103 : decode cX11_flight 103 = .ok (.aload_n 0, 1) := by decide +kernel
theorem dX11_flight_104 : decode cX11_flight 104 = .ok (.getfield 19, 3) := by decide +kernel
theorem dX11_flight_107 : decode cX11_flight 107 = .ok (.aload 4, 2) := by decide +kernel
theorem dX11_flight_109 : decode cX11_flight 109 = .ok (.iload 6, 2) := by decide +kernel
theorem dX11_flight_111 : decode cX11_flight 111 = .ok (.aload 4, 2) := by decide +kernel
theorem dX11_flight_113 : decode cX11_flight 113 = .ok (.getfield 120, 3) := by decide +kernel
theorem dX11_flight_116 : decode cX11_flight 116 = .ok (.invokevirtual 181, 3) := by decide +kernel
theorem dX11_flight_119 : decode cX11_flight 119 = .ok (.ireturn, 1) := by decide +kernel
theorem dX11_flight_120 : decode cX11_flight 120 = .ok (.aload 5, 2) := by decide +kernel
theorem dX11_flight_122 : decode cX11_flight 122 = .ok (.aload 4, 2) := by decide +kernel
theorem dX11_flight_124 : decode cX11_flight 124 = .ok (.aload 4, 2) := by decide +kernel
theorem dX11_flight_126 : decode cX11_flight 126 = .ok (.getfield 120, 3) := by decide +kernel
theorem dX11_flight_129 : decode cX11_flight 129 = .ok (.invokevirtual 185, 3) := by decide +kernel
theorem dX11_flight_132 : decode cX11_flight 132 = .ok (.ireturn, 1) := by decide +kernel
theorem dX11_flight_133 : decode cX11_flight 133 = .ok (.aload_n 0, 1) := by decide +kernel
theorem dX11_flight_134 : decode cX11_flight 134 = .ok (.getfield 19, 3) := by decide +kernel
theorem dX11_flight_137 : decode cX11_flight 137 = .ok (.iload 6, 2) := by decide +kernel
theorem dX11_flight_139 : decode cX11_flight 139 = .ok (.invokevirtual 189, 3) := by decide +kernel
theorem dX11_flight_142 : decode cX11_flight 142 = .ok (.ireturn, 1) := by decide +kernel
theorem dX11_flight_143 : decode cX11_flight 143 = .ok (.ldc 145, 2) := by decide +kernel
theorem dX11_flight_145 : decode cX11_flight 145 = .ok (.ireturn, 1) := by decide +kernel
theorem dX11_band_0 : decode cX11_band 0 = .ok (.aload_n 0, 1) := by decide +kernel
theorem dX11_band_1 : decode cX11_band 1 = .ok (.getfield 64, 3) := by decide +kernel
theorem dX11_band_4 : decode cX11_band 4 = .ok (.iload_n 1, 1) := by decide +kernel
theorem dX11_band_5 : decode cX11_band 5 = .ok (.invokevirtual 126, 3) := by decide +kernel
theorem dX11_band_8 : decode cX11_band 8 = .ok (.astore 5, 2) := by decide +kernel
theorem dX11_band_10 : decode cX11_band 10 = .ok (.aload 5, 2) := by decide +kernel
theorem dX11_band_12 : decode cX11_band 12 = .ok (.ifnull 15, 3) := by decide +kernel
theorem dX11_band_15 : decode cX11_band 15 = .ok (.iload_n 2, 1) := by decide +kernel
theorem dX11_band_16 : decode cX11_band 16 = .ok (.bipush 80, 2) := by decide +kernel
theorem dX11_band_18 : decode cX11_band 18 = .ok (.sipush 130, 3) := by decide +kernel
theorem dX11_band_21 : decode cX11_band 21 = .ok (.invokestatic 75, 3) := by decide +kernel
theorem dX11_band_24 : decode cX11_band 24 = .ok (.ifCond .ne 5, 3) := by decide +kernel
theorem dX11_band_27 : decode cX11_band 27 = .ok (.iconst (-1), 1) := by decide +kernel
theorem dX11_band_28 : decode cX11_band 28 = .ok (.ireturn, 1) := by decide +kernel
theorem dX11_band_29 : decode cX11_band 29 = .ok (.iload_n 3, 1) := by decide +kernel
theorem dX11_band_30 : decode cX11_band 30 = .ok (.iconst 0, 1) := by decide +kernel
theorem dX11_band_31 : decode cX11_band 31 = .ok (.sipush 200, 3) := by decide +kernel
theorem dX11_band_34 : decode cX11_band 34 = .ok (.invokestatic 75, 3) := by decide +kernel
theorem dX11_band_37 : decode cX11_band 37 = .ok (.ifCond .eq 13, 3) := by decide +kernel
theorem dX11_band_40 : decode cX11_band 40 = .ok (.iload 4, 2) := by decide +kernel
theorem dX11_band_42 : decode cX11_band 42 = .ok (.iconst 0, 1) := by decide +kernel
theorem dX11_band_43 : decode cX11_band 43 = .ok (.iconst 1, 1) := by decide +kernel
theorem dX11_band_44 : decode cX11_band 44 = .ok (.invokestatic 75, 3) := by decide +kernel
theorem dX11_band_47 : decode cX11_band 47 = .ok (.ifCond .ne 5, 3) := by decide +kernel
theorem dX11_band_50 : decode cX11_band 50 = .ok (.iconst (-1), 1) := by decide +kernel
theorem dX11_band_51 : decode cX11_band 51 = .ok (.ireturn, 1) := by decide +kernel
theorem dX11_band_52 : decode cX11_band 52 = .ok (.bipush (-9), 2) := by decide +kernel
theorem dX11_band_54 : decode cX11_band 54 = .ok (.istore 6, 2) := by decide +kernel
theorem dX11_band_56 : decode cX11_band 56 = .ok (.bipush 20, 2) := by decide +kernel
theorem dX11_band_58 : decode cX11_band 58 = .ok (.istore 7, 2) := by decide +kernel
theorem dX11_band_60 : decode cX11_band 60 = .ok (.iload 7, 2) := by decide +kernel
theorem dX11_band_62 : decode cX11_band 62 = .ok (.bipush 99, 2) := by decide +kernel
theorem dX11_band_64 : decode cX11_band 64 = .ok (.if_icmp .gt 52, 3) := by decide +kernel
theorem dX11_band_67 : decode cX11_band 67 = .ok (.aload_n 0, 1) := by decide +kernel
theorem dX11_band_68 : decode cX11_band 68 = .ok (.getfield 19, 3) := by decide +kernel
theorem dX11_band_71 : decode cX11_band 71 = .ok (.iload 7, 2) := by decide +kernel
theorem dX11_band_73 : decode cX11_band 73 = .ok (.iload_n 2, 1) := by decide +kernel
theorem dX11_band_74 : decode cX11_band 74 = .ok (.iload_n 3, 1) := by decide +kernel
theorem dX11_band_75 : decode cX11_band 75 = .ok (.invokestatic 192, 3) := by decide +kernel
theorem dX11_band_78 : decode cX11_band 78 = .ok (.aload 5, 2) := by decide +kernel
theorem dX11_band_80 : decode cX11_band 80 = .ok (.invokevirtual 138, 3) := by decide +kernel
theorem dX11_band_83 : decode cX11_band 83 = .ok (.isub, 1) := by decide +kernel
theorem dX11_band_84 : decode cX11_band 84 = .ok (.invokevirtual 196, 3) := by decide +kernel
theorem dX11_band_87 : decode cX11_band 87 = .ok (.ifCond .ne 6, 3) := by decide +kernel
theorem dX11_band_90 : decode cX11_band 90 = .ok (.goto 20, 3) := by decide +kernel
theorem dX11_band_93 : decode cX11_band 93 = .ok (.iload 6, 2) := by decide +kernel
theorem dX11_band_95 : decode cX11_band 95 = .ok (.bipush (-9), 2) := by decide +kernel
theorem dX11_band_97 : decode cX11_band 97 = .ok (.if_icmp .eq 9, 3) := by decide +kernel
theorem dX11_band_100 : decode cX11_band 100 = .ok (.iload 4, 2) := by decide +kernel
theorem dX11_band_102 : decode cX11_band 102 = .ok (.iconst 1, 1) := by decide +kernel
theorem dX11_band_103 : decode cX11_band 103 = .ok (.if_icmp .ne 7, 3) := by decide +kernel
theorem dX11_band_106 : decode cX11_band 106 = .ok (.iload 7, 2) := by decide +kernel
theorem dX11_band_108 : decode cX11_band 108 = .ok (.istore 6, 2) := by decide +kernel
theorem dX11_band_110 : decode cX11_band 110 = .ok (.iinc 7 1, 3) := by decide +kernel
theorem dX11_band_113 : decode cX11_band 113 = .ok (.goto (-53), 3) := by decide +kernel
theorem dX11_band_116 : decode cX11_band 116 = .ok (.iload 6, 2) := by decide +kernel
theorem dX11_band_118 : decode cX11_band 118 = .ok (.ireturn, 1) := by decide +kernel
theorem dX11_says_0 : decode cX11_says 0 = .ok (.iload_n 1, 1) := by decide +kernel
theorem dX11_says_1 : decode cX11_says 1 = .ok (.sipush (-999), 3) := by decide +kernel
theorem dX11_says_4 : decode cX11_says 4 = .ok (.sipush 999, 3) := by decide +kernel
theorem dX11_says_7 : decode cX11_says 7 = .ok (.invokestatic 75, 3) := by decide +kernel
theorem dX11_says_10 : decode cX11_says 10 = .ok (.ifCond .eq 22, 3) := by decide +kernel
theorem dX11_says_13 : decode cX11_says 13 = .ok (.iload_n 2, 1) := by decide +kernel
theorem dX11_says_14 : decode cX11_says 14 = .ok (.iconst 0, 1) := by decide +kernel
theorem dX11_says_15 : decode cX11_says 15 = .ok (.bipush 9, 2) := by decide +kernel
theorem dX11_says_17 : decode cX11_says 17 = .ok (.invokestatic 75, 3) := by decide +kernel
theorem dX11_says_20 : decode cX11_says 20 = .ok (.ifCond .eq 12, 3) := by decide +kernel
theorem dX11_says_23 : decode cX11_says 23 = .ok (.iload_n 3, 1) := by decide +kernel
theorem dX11_says_24 : decode cX11_says 24 = .ok (.iconst 0, 1) := by decide +kernel
theorem dX11_says_25 : decode cX11_says 25 = .ok (.iconst 1, 1) := by decide +kernel
theorem dX11_says_26 : decode cX11_says 26 = .ok (.invokestatic 75, 3) := by decide +kernel
theorem dX11_says_29 : decode cX11_says 29 = .ok (.ifCond .ne 6, 3) := by decide +kernel
theorem dX11_says_32 : decode cX11_says 32 = .ok (.ldc 145, 2) := by decide +kernel
theorem dX11_says_34 : decode cX11_says 34 = .ok (.ireturn, 1) := by decide +kernel
theorem dX11_says_35 : decode cX11_says 35 = .ok (.ldc 145, 2) := by decide +kernel
theorem dX11_says_37 : decode cX11_says 37 = .ok (.istore 4, 2) := by decide +kernel
theorem dX11_says_39 : decode cX11_says 39 = .ok (.bipush (-60), 2) := by decide +kernel
theorem dX11_says_41 : decode cX11_says 41 = .ok (.istore 5, 2) := by decide +kernel
theorem dX11_says_43 : decode cX11_says 43 = .ok (.iload 5, 2) := by decide +kernel
theorem dX11_says_45 : decode cX11_says 45 = .ok (.bipush 60, 2) := by decide +kernel
theorem dX11_says_47 : decode cX11_says 47 = .ok (.if_icmp .gt 52, 3) := by decide +kernel
theorem dX11_says_50 : decode cX11_says 50 = .ok (.aload_n 0, 1) := by decide +kernel
theorem dX11_says_51 : decode cX11_says 51 = .ok (.getfield 19, 3) := by decide +kernel
theorem dX11_says_54 : decode cX11_says 54 = .ok (.iload 5, 2) := by decide +kernel
theorem dX11_says_56 : decode cX11_says 56 = .ok (.iload_n 2, 1) := by decide +kernel
theorem dX11_says_57 : decode cX11_says 57 = .ok (.invokevirtual 200, 3) := by decide +kernel
theorem dX11_says_60 : decode cX11_says 60 = .ok (.aload_n 0, 1) := by decide +kernel
theorem dX11_says_61 : decode cX11_says 61 = .ok (.getfield 19, 3) := by decide +kernel
theorem dX11_says_64 : decode cX11_says 64 = .ok (.iload 5, 2) := by decide +kernel
theorem dX11_says_66 : decode cX11_says 66 = .ok (.invokevirtual 178, 3) := by decide +kernel
theorem dX11_says_69 : decode cX11_says 69 = .ok (.isub, 1) := by decide +kernel
theorem dX11_says_70 : decode cX11_says 70 = .ok (.iload_n 1, 1) := by decide +kernel
theorem dX11_says_71 : decode cX11_says 71 = .ok (.if_icmp .eq 6, 3) := by decide +kernel
theorem dX11_says_74 : decode cX11_says 74 = .ok (.goto 19, 3) := by decide +kernel
theorem dX11_says_77 : decode cX11_says 77 = .ok (.iload 4, 2) := by decide +kernel
theorem dX11_says_79 : decode cX11_says 79 = .ok (.ldc 145, 2) := by decide +kernel
theorem dX11_says_81 : decode cX11_says 81 = .ok (.if_icmp .eq 8, 3) := by decide +kernel
theorem dX11_says_84 : decode cX11_says 84 = .ok (.iload_n 3, 1) := by decide +kernel
theorem dX11_says_85 : decode cX11_says 85 = .ok (.iconst 1, 1) := by decide +kernel
theorem dX11_says_86 : decode cX11_says 86 = .ok (.if_icmp .ne 7, 3) := by decide +kernel
theorem dX11_says_89 : decode cX11_says 89 = .ok (.iload 5, 2) := by decide +kernel
theorem dX11_says_91 : decode cX11_says 91 = .ok (.istore 4, 2) := by decide +kernel
theorem dX11_says_93 : decode cX11_says 93 = .ok (.iinc 5 1, 3) := by decide +kernel
theorem dX11_says_96 : decode cX11_says 96 = .ok (.goto (-53), 3) := by decide +kernel
theorem dX11_says_99 : decode cX11_says 99 = .ok (.iload 4, 2) := by decide +kernel
theorem dX11_says_101 : decode cX11_says 101 = .ok (.ireturn, 1) := by decide +kernel
theorem dX11_alike_0 : decode cX11_alike 0 = .ok (.aload_n 0, 1) := by decide +kernel
theorem dX11_alike_1 : decode cX11_alike 1 = .ok (.getfield 64, 3) := by decide +kernel
theorem dX11_alike_4 : decode cX11_alike 4 = .ok (.iload_n 1, 1) := by decide +kernel
theorem dX11_alike_5 : decode cX11_alike 5 = .ok (.invokevirtual 126, 3) := by decide +kernel
theorem dX11_alike_8 : decode cX11_alike 8 = .ok (.astore 5, 2) := by decide +kernel
theorem dX11_alike_10 : decode cX11_alike 10 = .ok (.aload 5, 2) := by decide +kernel
theorem dX11_alike_12 : decode cX11_alike 12 = .ok (.ifnull 35, 3) := by decide +kernel
theorem dX11_alike_15 : decode cX11_alike 15 = .ok (.iload_n 2, 1) := by decide +kernel
theorem dX11_alike_16 : decode cX11_alike 16 = .ok (.iconst 0, 1) := by decide +kernel
theorem dX11_alike_17 : decode cX11_alike 17 = .ok (.sipush 999, 3) := by decide +kernel
theorem dX11_alike_20 : decode cX11_alike 20 = .ok (.invokestatic 75, 3) := by decide +kernel
theorem dX11_alike_23 : decode cX11_alike 23 = .ok (.ifCond .eq 24, 3) := by decide +kernel
theorem dX11_alike_26 : decode cX11_alike 26 = .ok (.iload_n 3, 1) := by decide +kernel
theorem dX11_alike_27 : decode cX11_alike 27 = .ok (.iconst 0, 1) := by decide +kernel
theorem dX11_alike_28 : decode cX11_alike 28 = .ok (.sipush 999, 3) := by decide +kernel
theorem dX11_alike_31 : decode cX11_alike 31 = .ok (.invokestatic 75, 3) := by decide +kernel
theorem dX11_alike_34 : decode cX11_alike 34 = .ok (.ifCond .eq 13, 3) := by decide +kernel
theorem dX11_alike_37 : decode cX11_alike 37 = .ok (.iload 4, 2) := by decide +kernel
theorem dX11_alike_39 : decode cX11_alike 39 = .ok (.iconst 0, 1) := by decide +kernel
theorem dX11_alike_40 : decode cX11_alike 40 = .ok (.iconst 1, 1) := by decide +kernel
theorem dX11_alike_41 : decode cX11_alike 41 = .ok (.invokestatic 75, 3) := by decide +kernel
theorem dX11_alike_44 : decode cX11_alike 44 = .ok (.ifCond .ne 5, 3) := by decide +kernel
theorem dX11_alike_47 : decode cX11_alike 47 = .ok (.iconst (-1), 1) := by decide +kernel
theorem dX11_alike_48 : decode cX11_alike 48 = .ok (.ireturn, 1) := by decide +kernel
theorem dX11_alike_49 : decode cX11_alike 49 = .ok (.aload_n 0, 1) := by decide +kernel
theorem dX11_alike_50 : decode cX11_alike 50 = .ok (.getfield 33, 3) := by decide +kernel
theorem dX11_alike_53 : decode cX11_alike 53 = .ok (.aload_n 0, 1) := by decide +kernel
theorem dX11_alike_54 : decode cX11_alike 54 = .ok (.getfield 64, 3) := by decide +kernel
theorem dX11_alike_57 : decode cX11_alike 57 = .ok (.aload 5, 2) := by decide +kernel
theorem dX11_alike_59 : decode cX11_alike 59 = .ok (.aload_n 0, 1) := by decide +kernel
theorem dX11_alike_60 : decode cX11_alike 60 = .ok (.getfield 19, 3) := by decide +kernel
theorem dX11_alike_63 : decode cX11_alike 63 = .ok (.iconst 0, 1) := by decide +kernel
theorem dX11_alike_64 : decode cX11_alike 64 = .ok (.invokevirtual 203, 3) := by decide +kernel
theorem dX11_alike_67 : decode cX11_alike 67 = .ok (.aload_n 0, 1) := by decide +kernel
theorem dX11_alike_68 : decode cX11_alike 68 = .ok (.getfield 33, 3) := by decide +kernel
theorem dX11_alike_71 : decode cX11_alike 71 = .ok (.iload_n 2, 1) := by decide +kernel
theorem dX11_alike_72 : decode cX11_alike 72 = .ok (.iload_n 3, 1) := by decide +kernel
theorem dX11_alike_73 : decode cX11_alike 73 = .ok (.invokevirtual 207, 3) := by decide +kernel
theorem dX11_alike_76 : decode cX11_alike 76 = .ok (.iload 4, 2) := by decide +kernel
theorem dX11_alike_78 : decode cX11_alike 78 = .ok (.ifCond .ne 13, 3) := by decide +kernel
theorem dX11_alike_81 : decode cX11_alike 81 = .ok (.aload_n 0, 1) := by decide +kernel
theorem dX11_alike_82 : decode cX11_alike 82 = .ok (.getfield 33, 3) := by decide +kernel
theorem dX11_alike_85 : decode cX11_alike 85 = .ok (.getfield 210, 3) := by decide +kernel
theorem dX11_alike_88 : decode cX11_alike 88 = .ok (.goto 10, 3) := by decide +kernel
theorem dX11_alike_91 : decode cX11_alike 91 = .ok (.aload_n 0, 1) := by decide +kernel
theorem dX11_alike_92 : decode cX11_alike 92 = .ok (.getfield 33, 3) := by decide +kernel
theorem dX11_alike_95 : decode cX11_alike 95 = .ok (.getfield 213, 3) := by decide +kernel
theorem dX11_alike_98 : decode cX11_alike 98 = .ok (.ireturn, 1) := by decide +kernel
theorem dX11_turned_0 : decode cX11_turned 0 = .ok (.aload_n 0, 1) := by decide +kernel
theorem dX11_turned_1 : decode cX11_turned 1 = .ok (.getfield 64, 3) := by decide +kernel
theorem dX11_turned_4 : decode cX11_turned 4 = .ok (.iload_n 1, 1) := by decide +kernel
theorem dX11_turned_5 : decode cX11_turned 5 = .ok (.invokevirtual 126, 3) := by decide +kernel
theorem dX11_turned_8 : decode cX11_turned 8 = .ok (.astore 4, 2) := by decide +kernel
theorem dX11_turned_10 : decode cX11_turned 10 = .ok (.aload 4, 2) := by decide +kernel
theorem dX11_turned_12 : decode cX11_turned 12 = .ok (.ifnull 25, 3) := by decide +kernel
theorem dX11_turned_15 : decode cX11_turned 15 = .ok (.iload_n 2, 1) := by decide +kernel
theorem dX11_turned_16 : decode cX11_turned 16 = .ok (.iconst 0, 1) := by decide +kernel
theorem dX11_turned_17 : decode cX11_turned 17 = .ok (.sipush 999, 3) := by decide +kernel
theorem dX11_turned_20 : decode cX11_turned 20 = .ok (.invokestatic 75, 3) := by decide +kernel
theorem dX11_turned_23 : decode cX11_turned 23 = .ok (.ifCond .eq 14, 3) := by decide +kernel
theorem dX11_turned_26 : decode cX11_turned 26 = .ok (.iload_n 3, 1) := by decide +kernel
theorem dX11_turned_27 : decode cX11_turned 27 = .ok (.iconst 0, 1) := by decide +kernel
theorem dX11_turned_28 : decode cX11_turned 28 = .ok (.sipush 999, 3) := by decide +kernel
theorem dX11_turned_31 : decode cX11_turned 31 = .ok (.invokestatic 75, 3) := by decide +kernel
theorem dX11_turned_34 : decode cX11_turned 34 = .ok (.ifCond .ne 5, 3) := by decide +kernel
theorem dX11_turned_37 : decode cX11_turned 37 = .ok (.iconst (-1), 1) := by decide +kernel
theorem dX11_turned_38 : decode cX11_turned 38 = .ok (.ireturn, 1) := by decide +kernel
theorem dX11_turned_39 : decode cX11_turned 39 = .ok (.aload_n 0, 1) := by decide +kernel
theorem dX11_turned_40 : decode cX11_turned 40 = .ok (.getfield 33, 3) := by decide +kernel
theorem dX11_turned_43 : decode cX11_turned 43 = .ok (.aload_n 0, 1) := by decide +kernel
theorem dX11_turned_44 : decode cX11_turned 44 = .ok (.getfield 64, 3) := by decide +kernel
theorem dX11_turned_47 : decode cX11_turned 47 = .ok (.aload 4, 2) := by decide +kernel
theorem dX11_turned_49 : decode cX11_turned 49 = .ok (.aload_n 0, 1) := by decide +kernel
theorem dX11_turned_50 : decode cX11_turned 50 = .ok (.getfield 19, 3) := by decide +kernel
theorem dX11_turned_53 : decode cX11_turned 53 = .ok (.iconst 1, 1) := by decide +kernel
theorem dX11_turned_54 : decode cX11_turned 54 = .ok (.invokevirtual 203, 3) := by decide +kernel
theorem dX11_turned_57 : decode cX11_turned 57 = .ok (.aload_n 0, 1) := by decide +kernel
theorem dX11_turned_58 : decode cX11_turned 58 = .ok (.getfield 33, 3) := by decide +kernel
theorem dX11_turned_61 : decode cX11_turned 61 = .ok (.iload_n 2, 1) := by decide +kernel
theorem dX11_turned_62 : decode cX11_turned 62 = .ok (.iload_n 3, 1) := by decide +kernel
theorem dX11_turned_63 : decode cX11_turned 63 = .ok (.invokevirtual 207, 3) := by decide +kernel
theorem dX11_turned_66 : decode cX11_turned 66 = .ok (.aload_n 0, 1) := by decide +kernel
theorem dX11_turned_67 : decode cX11_turned 67 = .ok (.getfield 33, 3) := by decide +kernel
theorem dX11_turned_70 : decode cX11_turned 70 = .ok (.getfield 213, 3) := by decide +kernel
theorem dX11_turned_73 : decode cX11_turned 73 = .ok (.ireturn, 1) := by decide +kernel
theorem dX11_wreck_0 : decode cX11_wreck 0 = .ok (.aload_n 0, 1) := by decide +kernel
theorem dX11_wreck_1 : decode cX11_wreck 1 = .ok (.getfield 64, 3) := by decide +kernel
theorem dX11_wreck_4 : decode cX11_wreck 4 = .ok (.iload_n 1, 1) := by decide +kernel
theorem dX11_wreck_5 : decode cX11_wreck 5 = .ok (.invokevirtual 99, 3) := by decide +kernel
theorem dX11_wreck_8 : decode cX11_wreck 8 = .ok (.astore 4, 2) := by decide +kernel
theorem dX11_wreck_10 : decode cX11_wreck 10 = .ok (.aload 4, 2) := by decide +kernel
theorem dX11_wreck_12 : decode cX11_wreck 12 = .ok (.ifnull 22, 3) := by decide +kernel
theorem dX11_wreck_15 : decode cX11_wreck 15 = .ok (.iload_n 2, 1) := by decide +kernel
theorem dX11_wreck_16 : decode cX11_wreck 16 = .ok (.iconst 0, 1) := by decide +kernel
theorem dX11_wreck_17 : decode cX11_wreck 17 = .ok (.bipush 9, 2) := by decide +kernel
theorem dX11_wreck_19 : decode cX11_wreck 19 = .ok (.invokestatic 75, 3) := by decide +kernel
theorem dX11_wreck_22 : decode cX11_wreck 22 = .ok (.ifCond .eq 12, 3) := by decide +kernel
theorem dX11_wreck_25 : decode cX11_wreck 25 = .ok (.iload_n 3, 1) := by decide +kernel
theorem dX11_wreck_26 : decode cX11_wreck 26 = .ok (.iconst 0, 1) := by decide +kernel
theorem dX11_wreck_27 : decode cX11_wreck 27 = .ok (.iconst 1, 1) := by decide +kernel
theorem dX11_wreck_28 : decode cX11_wreck 28 = .ok (.invokestatic 75, 3) := by decide +kernel
theorem dX11_wreck_31 : decode cX11_wreck 31 = .ok (.ifCond .ne 5, 3) := by decide +kernel
theorem dX11_wreck_34 : decode cX11_wreck 34 = .ok (.iconst (-1), 1) := by decide +kernel
theorem dX11_wreck_35 : decode cX11_wreck 35 = .ok (.ireturn, 1) := by decide +kernel
theorem dX11_wreck_36 : decode cX11_wreck 36 = .ok (.bipush (-9), 2) := by decide +kernel
theorem dX11_wreck_38 : decode cX11_wreck 38 = .ok (.istore 5, 2) := by decide +kernel
theorem dX11_wreck_40 : decode cX11_wreck 40 = .ok (.bipush 20, 2) := by decide +kernel
theorem dX11_wreck_42 : decode cX11_wreck 42 = .ok (.istore 6, 2) := by decide +kernel
theorem dX11_wreck_44 : decode cX11_wreck 44 = .ok (.iload 6, 2) := by decide +kernel
theorem dX11_wreck_46 : decode cX11_wreck 46 = .ok (.bipush 70, 2) := by decide +kernel
theorem dX11_wreck_48 : decode cX11_wreck 48 = .ok (.if_icmp .gt 50, 3) := by decide +kernel
theorem dX11_wreck_51 : decode cX11_wreck 51 = .ok (.aload_n 0, 1) := by decide +kernel
theorem dX11_wreck_52 : decode cX11_wreck 52 = .ok (.getfield 19, 3) := by decide +kernel
theorem dX11_wreck_55 : decode cX11_wreck 55 = .ok (.aload 4, 2) := by decide +kernel
theorem dX11_wreck_57 : decode cX11_wreck 57 = .ok (.invokevirtual 175, 3) := by decide +kernel
theorem dX11_wreck_60 : decode cX11_wreck 60 = .ok (.iload 6, 2) := by decide +kernel
theorem dX11_wreck_62 : decode cX11_wreck 62 = .ok (.iload_n 2, 1) := by decide +kernel
theorem dX11_wreck_63 : decode cX11_wreck 63 = .ok (.invokestatic 216, 3) := by decide +kernel
theorem dX11_wreck_66 : decode cX11_wreck 66 = .ok (.isub, 1) := by decide +kernel
theorem dX11_wreck_67 : decode cX11_wreck 67 = .ok (.invokevirtual 196, 3) := by decide +kernel
theorem dX11_wreck_70 : decode cX11_wreck 70 = .ok (.ifCond .ne 6, 3) := by decide +kernel
theorem dX11_wreck_73 : decode cX11_wreck 73 = .ok (.goto 19, 3) := by decide +kernel
theorem dX11_wreck_76 : decode cX11_wreck 76 = .ok (.iload 5, 2) := by decide +kernel
theorem dX11_wreck_78 : decode cX11_wreck 78 = .ok (.bipush (-9), 2) := by decide +kernel
theorem dX11_wreck_80 : decode cX11_wreck 80 = .ok (.if_icmp .eq 8, 3) := by decide +kernel
theorem dX11_wreck_83 : decode cX11_wreck 83 = .ok (.iload_n 3, 1) := by decide +kernel
theorem dX11_wreck_84 : decode cX11_wreck 84 = .ok (.iconst 1, 1) := by decide +kernel
theorem dX11_wreck_85 : decode cX11_wreck 85 = .ok (.if_icmp .ne 7, 3) := by decide +kernel
theorem dX11_wreck_88 : decode cX11_wreck 88 = .ok (.iload 6, 2) := by decide +kernel
theorem dX11_wreck_90 : decode cX11_wreck 90 = .ok (.istore 5, 2) := by decide +kernel
theorem dX11_wreck_92 : decode cX11_wreck 92 = .ok (.iinc 6 1, 3) := by decide +kernel
theorem dX11_wreck_95 : decode cX11_wreck 95 = .ok (.goto (-51), 3) := by decide +kernel
theorem dX11_wreck_98 : decode cX11_wreck 98 = .ok (.iload 5, 2) := by decide +kernel
theorem dX11_wreck_100 : decode cX11_wreck 100 = .ok (.ireturn, 1) := by decide +kernel
theorem dX11_feather_0 : decode cX11_feather 0 = .ok (.aload_n 0, 1) := by decide +kernel
theorem dX11_feather_1 : decode cX11_feather 1 = .ok (.getfield 64, 3) := by decide +kernel
theorem dX11_feather_4 : decode cX11_feather 4 = .ok (.iload_n 1, 1) := by decide +kernel
theorem dX11_feather_5 : decode cX11_feather 5 = .ok (.invokevirtual 99, 3) := by decide +kernel
theorem dX11_feather_8 : decode cX11_feather 8 = .ok (.astore 4, 2) := by decide +kernel
theorem dX11_feather_10 : decode cX11_feather 10 = .ok (.aload_n 0, 1) := by decide +kernel
theorem dX11_feather_11 : decode cX11_feather 11 = .ok (.getfield 64, 3) := by decide +kernel
theorem dX11_feather_14 : decode cX11_feather 14 = .ok (.iload_n 2, 1) := by decide +kernel
theorem dX11_feather_15 : decode cX11_feather 15 = .ok (.invokevirtual 126, 3) := by decide +kernel
theorem dX11_feather_18 : decode cX11_feather 18 = .ok (.astore 5, 2) := by decide +kernel
theorem dX11_feather_20 : decode cX11_feather 20 = .ok (.aload 4, 2) := by decide +kernel
theorem dX11_feather_22 : decode cX11_feather 22 = .ok (.ifnull 18, 3) := by decide +kernel
theorem dX11_feather_25 : decode cX11_feather 25 = .ok (.aload 5, 2) := by decide +kernel
theorem dX11_feather_27 : decode cX11_feather 27 = .ok (.ifnull 13, 3) := by decide +kernel
theorem dX11_feather_30 : decode cX11_feather 30 = .ok (.iload_n 3, 1) := by decide +kernel
theorem dX11_feather_31 : decode cX11_feather 31 = .ok (.iconst 0, 1) := by decide +kernel
theorem dX11_feather_32 : decode cX11_feather 32 = .ok (.bipush 99, 2) := by decide +kernel
theorem dX11_feather_34 : decode cX11_feather 34 = .ok (.invokestatic 75, 3) := by decide +kernel
theorem dX11_feather_37 : decode cX11_feather 37 = .ok (.ifCond .ne 5, 3) := by decide +kernel
theorem dX11_feather_40 : decode cX11_feather 40 = .ok (.iconst (-1), 1) := by decide +kernel
theorem dX11_feather_41 : decode cX11_feather 41 = .ok (.ireturn, 1) := by decide +kernel
theorem dX11_feather_42 : decode cX11_feather 42 = .ok (.aload 4, 2) := by decide +kernel
theorem dX11_feather_44 : decode cX11_feather 44 = .ok (.invokevirtual 175, 3) := by decide +kernel
theorem dX11_feather_47 : decode cX11_feather 47 = .ok (.aload 5, 2) := by decide +kernel
theorem dX11_feather_49 : decode cX11_feather 49 = .ok (.invokevirtual 138, 3) := by decide +kernel
theorem dX11_feather_52 : decode cX11_feather 52 = .ok (.isub, 1) := by decide +kernel
theorem dX11_feather_53 : decode cX11_feather 53 = .ok (.istore 6, 2) := by decide +kernel
theorem dX11_feather_55 : decode cX11_feather 55 = .ok (.iconst 0, 1) := by decide +kernel
theorem dX11_feather_56 : decode cX11_feather 56 = .ok (.istore 7, 2) := by decide +kernel
theorem dX11_feather_58 : decode cX11_feather 58 = .ok (.iconst 0, 1) := by decide +kernel
theorem dX11_feather_59 : decode cX11_feather 59 = .ok (.istore 8, 2) := by decide +kernel
theorem dX11_feather_61 : decode cX11_feather 61 = .ok (.iconst 0, 1) := by decide +kernel
theorem dX11_feather_62 : decode cX11_feather 62 = .ok (.istore 9, 2) := by decide +kernel
theorem dX11_feather_64 : decode cX11_feather 64 = .ok (.iload 9, 2) := by decide +kernel
theorem dX11_feather_66 : decode cX11_feather 66 = .ok (.bipush 9, 2) := by decide +kernel
theorem dX11_feather_68 : decode cX11_feather 68 = .ok (.if_icmp .gt 65, 3) := by decide +kernel
theorem dX11_feather_71 : decode cX11_feather 71 = .ok (.aload_n 0, 1) := by decide +kernel
theorem dX11_feather_72 : decode cX11_feather 72 = .ok (.getfield 19, 3) := by decide +kernel
theorem dX11_feather_75 : decode cX11_feather 75 = .ok (.aload 4, 2) := by decide +kernel
theorem dX11_feather_77 : decode cX11_feather 77 = .ok (.iload 6, 2) := by decide +kernel
theorem dX11_feather_79 : decode cX11_feather 79 = .ok (.iload 9, 2) := by decide +kernel
theorem dX11_feather_81 : decode cX11_feather 81 = .ok (.invokevirtual 181, 3) := by decide +kernel
theorem dX11_feather_84 : decode cX11_feather 84 = .ok (.invokestatic 219, 3) := by decide +kernel
theorem dX11_feather_87 : decode cX11_feather 87 = .ok (.aload 5, 2) := by decide +kernel
theorem dX11_feather_89 : decode cX11_feather 89 = .ok (.aload 4, 2) := by decide +kernel
theorem dX11_feather_91 : decode cX11_feather 91 = .ok (.iload 9, 2) := by decide +kernel
theorem dX11_feather_93 : decode cX11_feather 93 = .ok (.invokevirtual 185, 3) := by decide +kernel
theorem dX11_feather_96 : decode cX11_feather 96 = .ok (.iload_n 3, 1) := by decide +kernel
theorem dX11_feather_97 : decode cX11_feather 97 = .ok (.imul, 1) := by decide +kernel
theorem dX11_feather_98 : decode cX11_feather 98 = .ok (.bipush 100, 2) := by decide +kernel
theorem dX11_feather_100 : decode cX11_feather 100 = .ok (.idiv, 1) := by decide +kernel
theorem dX11_feather_101 : decode cX11_feather 101 = .ok (.iadd, 1) := by decide +kernel
theorem dX11_feather_102 : decode cX11_feather 102 = .ok (.istore 10, 2) := by decide +kernel
theorem dX11_feather_104 : decode cX11_feather 104 = .ok (.iload 9, 2) := by decide +kernel
theorem dX11_feather_106 : decode cX11_feather 106 = .ok (.ifCond .le 13, 3) := by decide +kernel
theorem dX11_feather_109 : decode cX11_feather 109 = .ok (.iload 10, 2) := by decide +kernel
theorem dX11_feather_111 : decode cX11_feather 111 = .ok (.iload 8, 2) := by decide +kernel
theorem dX11_feather_113 : decode cX11_feather 113 = .ok (.if_icmp .lt 6, 3) := by decide +kernel
theorem dX11_feather_116 : decode cX11_feather 116 = .ok (.goto 11, 3) := by decide +kernel
theorem dX11_feather_119 : decode cX11_feather 119 = .ok (.iload 9, 2) := by decide +kernel
theorem dX11_feather_121 : decode cX11_feather 121 = .ok (.istore 7, 2) := by decide +kernel
theorem dX11_feather_123 : decode cX11_feather 123 = .ok (.iload 10, 2) := by decide +kernel
theorem dX11_feather_125 : decode cX11_feather 125 = .ok (.istore 8, 2) := by decide +kernel
theorem dX11_feather_127 : decode cX11_feather 127 = .ok (.iinc 9 1, 3) := by decide +kernel
theorem dX11_feather_130 : decode cX11_feather 130 = .ok (.goto (-66), 3) := by decide +kernel
theorem dX11_feather_133 : decode cX11_feather 133 = .ok (.iload 7, 2) := by decide +kernel
theorem dX11_feather_135 : decode cX11_feather 135 = .ok (.ireturn, 1) := by decide +kernel
theorem dX11_warm_0 : decode cX11_warm 0 = .ok (.aload_n 0, 1) := by decide +kernel
theorem dX11_warm_1 : decode cX11_warm 1 = .ok (.getfield 64, 3) := by decide +kernel
theorem dX11_warm_4 : decode cX11_warm 4 = .ok (.iload_n 1, 1) := by decide +kernel
theorem dX11_warm_5 : decode cX11_warm 5 = .ok (.invokevirtual 126, 3) := by decide +kernel
theorem dX11_warm_8 : decode cX11_warm 8 = .ok (.astore 4, 2) := by decide +kernel
theorem dX11_warm_10 : decode cX11_warm 10 = .ok (.aload 4, 2) := by decide +kernel
theorem dX11_warm_12 : decode cX11_warm 12 = .ok (.ifnull 22, 3) := by decide +kernel
theorem dX11_warm_15 : decode cX11_warm 15 = .ok (.iload_n 2, 1) := by decide +kernel
theorem dX11_warm_16 : decode cX11_warm 16 = .ok (.iconst 0, 1) := by decide +kernel
theorem dX11_warm_17 : decode cX11_warm 17 = .ok (.bipush 20, 2) := by decide +kernel
theorem dX11_warm_19 : decode cX11_warm 19 = .ok (.invokestatic 75, 3) := by decide +kernel
theorem dX11_warm_22 : decode cX11_warm 22 = .ok (.ifCond .eq 12, 3) := by decide +kernel
theorem dX11_warm_25 : decode cX11_warm 25 = .ok (.iload_n 3, 1) := by decide +kernel
theorem dX11_warm_26 : decode cX11_warm 26 = .ok (.iconst 0, 1) := by decide +kernel
theorem dX11_warm_27 : decode cX11_warm 27 = .ok (.iconst 1, 1) := by decide +kernel
theorem dX11_warm_28 : decode cX11_warm 28 = .ok (.invokestatic 75, 3) := by decide +kernel
theorem dX11_warm_31 : decode cX11_warm 31 = .ok (.ifCond .ne 5, 3) := by decide +kernel
theorem dX11_warm_34 : decode cX11_warm 34 = .ok (.iconst (-1), 1) := by decide +kernel
theorem dX11_warm_35 : decode cX11_warm 35 = .ok (.ireturn, 1) := by decide +kernel
theorem dX11_warm_36 : decode cX11_warm 36 = .ok (.iconst 1, 1) := by decide +kernel
theorem dX11_warm_37 : decode cX11_warm 37 = .ok (.aload 4, 2) := by decide +kernel
theorem dX11_warm_39 : decode cX11_warm 39 = .ok (.getfield 130, 3) := by decide +kernel
theorem dX11_warm_42 : decode cX11_warm 42 = .ok (.iload_n 2, 1) := by decide +kernel
theorem dX11_warm_43 : decode cX11_warm 43 = .ok (.isub, 1) := by decide +kernel
theorem dX11_warm_44 : decode cX11_warm 44 = .ok (.invokestatic 224, 3) := by decide +kernel
theorem dX11_warm_47 : decode cX11_warm 47 = .ok (.aload 4, 2) := by decide +kernel
theorem dX11_warm_49 : decode cX11_warm 49 = .ok (.getfield 135, 3) := by decide +kernel
theorem dX11_warm_52 : decode cX11_warm 52 = .ok (.invokestatic 216, 3) := by decide +kernel
theorem dX11_warm_55 : decode cX11_warm 55 = .ok (.istore 5, 2) := by decide +kernel
theorem dX11_warm_57 : decode cX11_warm 57 = .ok (.iconst 0, 1) := by decide +kernel
theorem dX11_warm_58 : decode cX11_warm 58 = .ok (.istore 6, 2) := by decide +kernel
theorem dX11_warm_60 : decode cX11_warm 60 = .ok (.iconst 0, 1) := by decide +kernel
theorem dX11_warm_61 : decode cX11_warm 61 = .ok (.istore 7, 2) := by decide +kernel
theorem dX11_warm_63 : decode cX11_warm 63 = .ok (.iload 7, 2) := by decide +kernel
theorem dX11_warm_65 : decode cX11_warm 65 = .ok (.aload_n 0, 1) := by decide +kernel
theorem dX11_warm_66 : decode cX11_warm 66 = .ok (.getfield 64, 3) := by decide +kernel
theorem dX11_warm_69 : decode cX11_warm 69 = .ok (.getfield 227, 3) := by decide +kernel
theorem dX11_warm_72 : decode cX11_warm 72 = .ok (.if_icmp .ge 79, 3) := by decide +kernel
theorem dX11_warm_75 : decode cX11_warm 75 = .ok (.aload_n 0, 1) := by decide +kernel
theorem dX11_warm_76 : decode cX11_warm 76 = .ok (.getfield 64, 3) := by decide +kernel
theorem dX11_warm_79 : decode cX11_warm 79 = .ok (.getfield 230, 3) := by decide +kernel
theorem dX11_warm_82 : decode cX11_warm 82 = .ok (.iload 7, 2) := by decide +kernel
theorem dX11_warm_84 : decode cX11_warm 84 = .ok (.aaload, 1) := by decide +kernel
theorem dX11_warm_85 : decode cX11_warm 85 = .ok (.invokevirtual 175, 3) := by decide +kernel
theorem dX11_warm_88 : decode cX11_warm 88 = .ok (.istore 8, 2) := by decide +kernel
theorem dX11_warm_90 : decode cX11_warm 90 = .ok (.aload_n 0, 1) := by decide +kernel
theorem dX11_warm_91 : decode cX11_warm 91 = .ok (.getfield 19, 3) := by decide +kernel
theorem dX11_warm_94 : decode cX11_warm 94 = .ok (.iload 8, 2) := by decide +kernel
theorem dX11_warm_96 : decode cX11_warm 96 = .ok (.aload 4, 2) := by decide +kernel
theorem dX11_warm_98 : decode cX11_warm 98 = .ok (.invokevirtual 138, 3) := by decide +kernel
theorem dX11_warm_101 : decode cX11_warm 101 = .ok (.isub, 1) := by decide +kernel
theorem dX11_warm_102 : decode cX11_warm 102 = .ok (.invokevirtual 196, 3) := by decide +kernel
theorem dX11_warm_105 : decode cX11_warm 105 = .ok (.istore 9, 2) := by decide +kernel
theorem dX11_warm_107 : decode cX11_warm 107 = .ok (.aload_n 0, 1) := by decide +kernel
theorem dX11_warm_108 : decode cX11_warm 108 = .ok (.getfield 19, 3) := by decide +kernel
theorem dX11_warm_111 : decode cX11_warm 111 = .ok (.iload 8, 2) := by decide +kernel
theorem dX11_warm_113 : decode cX11_warm 113 = .ok (.iload 5, 2) := by decide +kernel
theorem dX11_warm_115 : decode cX11_warm 115 = .ok (.isub, 1) := by decide +kernel
theorem dX11_warm_116 : decode cX11_warm 116 = .ok (.invokevirtual 196, 3) := by decide +kernel
theorem dX11_warm_119 : decode cX11_warm 119 = .ok (.istore 10, 2) := by decide +kernel
theorem dX11_warm_121 : decode cX11_warm 121 = .ok (.iload 9, 2) := by decide +kernel
theorem dX11_warm_123 : decode cX11_warm 123 = .ok (.iload 10, 2) := by decide +kernel
theorem dX11_warm_125 : decode cX11_warm 125 = .ok (.if_icmp .eq 20, 3) := by decide +kernel
theorem dX11_warm_128 : decode cX11_warm 128 = .ok (.iload 9, 2) := by decide +kernel
theorem dX11_warm_130 : decode cX11_warm 130 = .ok (.iload_n 3, 1) := by decide +kernel
theorem dX11_warm_131 : decode cX11_warm 131 = .ok (.ifCond .ne 7, 3) := by decide +kernel
theorem dX11_warm_134 : decode cX11_warm 134 = .ok (.iconst 1, 1) := by decide +kernel
theorem dX11_warm_135 : decode cX11_warm 135 = .ok (.goto 4, 3) := by decide +kernel
theorem dX11_warm_138 : decode cX11_warm 138 = .ok (.iconst 0, 1) := by decide +kernel
theorem dX11_warm_139 : decode cX11_warm 139 = .ok (.if_icmp .ne 6, 3) := by decide +kernel
theorem dX11_warm_142 : decode cX11_warm 142 = .ok (.iinc 6 1, 3) := by decide +kernel
theorem dX11_warm_145 : decode cX11_warm 145 = .ok (.iinc 7 1, 3) := by decide +kernel
theorem dX11_warm_148 : decode cX11_warm 148 = .ok (.goto (-85), 3) := by decide +kernel
theorem dX11_warm_151 : decode cX11_warm 151 = .ok (.iload 6, 2) := by decide +kernel
theorem dX11_warm_153 : decode cX11_warm 153 = .ok (.ireturn, 1) := by decide +kernel
theorem dX11_shoot_0 : decode cX11_shoot 0 = .ok (.aload_n 0, 1) := by decide +kernel
theorem dX11_shoot_1 : decode cX11_shoot 1 = .ok (.getfield 64, 3) := by decide +kernel
theorem dX11_shoot_4 : decode cX11_shoot 4 = .ok (.iload_n 1, 1) := by decide +kernel
theorem dX11_shoot_5 : decode cX11_shoot 5 = .ok (.invokevirtual 99, 3) := by decide +kernel
theorem dX11_shoot_8 : decode cX11_shoot 8 = .ok (.astore 4, 2) := by decide +kernel
theorem dX11_shoot_10 : decode cX11_shoot 10 = .ok (.aload_n 0, 1) := by decide +kernel
theorem dX11_shoot_11 : decode cX11_shoot 11 = .ok (.getfield 64, 3) := by decide +kernel
theorem dX11_shoot_14 : decode cX11_shoot 14 = .ok (.iload_n 2, 1) := by decide +kernel
theorem dX11_shoot_15 : decode cX11_shoot 15 = .ok (.invokevirtual 126, 3) := by decide +kernel
theorem dX11_shoot_18 : decode cX11_shoot 18 = .ok (.astore 5, 2) := by decide +kernel
theorem dX11_shoot_20 : decode cX11_shoot 20 = .ok (.aload_n 0, 1) := by decide +kernel
theorem dX11_shoot_21 : decode cX11_shoot 21 = .ok (.getfield 64, 3) := by decide +kernel
theorem dX11_shoot_24 : decode cX11_shoot 24 = .ok (.iload_n 3, 1) := by decide +kernel
theorem dX11_shoot_25 : decode cX11_shoot 25 = .ok (.invokevirtual 141, 3) := by decide +kernel
theorem dX11_shoot_28 : decode cX11_shoot 28 = .ok (.astore 6, 2) := by decide +kernel
theorem dX11_shoot_30 : decode cX11_shoot 30 = .ok (.aload 4, 2) := by decide +kernel
theorem dX11_shoot_32 : decode cX11_shoot 32 = .ok (.ifnull 25, 3) := by decide +kernel
theorem dX11_shoot_35 : decode cX11_shoot 35 = .ok (.aload 5, 2) := by decide +kernel
theorem dX11_shoot_37 : decode cX11_shoot 37 = .ok (.ifnull 20, 3) := by decide +kernel
theorem dX11_shoot_40 : decode cX11_shoot 40 = .ok (.aload 6, 2) := by decide +kernel
theorem dX11_shoot_42 : decode cX11_shoot 42 = .ok (.ifnull 15, 3) := by decide +kernel
theorem dX11_shoot_45 : decode cX11_shoot 45 = .ok (.aload_n 0, 1) := by decide +kernel
theorem dX11_shoot_46 : decode cX11_shoot 46 = .ok (.getfield 26, 3) := by decide +kernel
theorem dX11_shoot_49 : decode cX11_shoot 49 = .ok (.getfield 234, 3) := by decide +kernel
theorem dX11_shoot_52 : decode cX11_shoot 52 = .ok (.bipush 60, 2) := by decide +kernel
theorem dX11_shoot_54 : decode cX11_shoot 54 = .ok (.if_icmp .lt 6, 3) := by decide +kernel
theorem dX11_shoot_57 : decode cX11_shoot 57 = .ok (.ldc 145, 2) := by decide +kernel
theorem dX11_shoot_59 : decode cX11_shoot 59 = .ok (.ireturn, 1) := by decide +kernel
theorem dX11_shoot_60 : decode cX11_shoot 60 = .ok (.aload_n 0, 1) := by decide +kernel
theorem dX11_shoot_61 : decode cX11_shoot 61 = .ok (.aload_n 0, 1) := by decide +kernel
theorem dX11_shoot_62 : decode cX11_shoot 62 = .ok (.getfield 71, 3) := by decide +kernel
theorem dX11_shoot_65 : decode cX11_shoot 65 = .ok (.ldc 235, 2) := by decide +kernel
theorem dX11_shoot_67 : decode cX11_shoot 67 = .ok (.imul, 1) := by decide +kernel
theorem dX11_shoot_68 : decode cX11_shoot 68 = .ok (.sipush 12345, 3) := by decide +kernel
theorem dX11_shoot_71 : decode cX11_shoot 71 = .ok (.iadd, 1) := by decide +kernel
theorem dX11_shoot_72 : decode cX11_shoot 72 = .ok (.putfield 71, 3) := by decide +kernel
theorem dX11_shoot_75 : decode cX11_shoot 75 = .ok (.aload_n 0, 1) := by decide +kernel
theorem dX11_shoot_76 : decode cX11_shoot 76 = .ok (.getfield 71, 3) := by decide +kernel
theorem dX11_shoot_79 : decode cX11_shoot 79 = .ok (.bipush 16, 2) := by decide +kernel
theorem dX11_shoot_81 : decode cX11_shoot 81 = .ok (.iushr, 1) := by decide +kernel
theorem dX11_shoot_82 : decode cX11_shoot 82 = .ok (.iconst 2, 1) := by decide +kernel
theorem dX11_shoot_83 : decode cX11_shoot 83 = .ok (.aload 6, 2) := by decide +kernel
theorem dX11_shoot_85 : decode cX11_shoot 85 = .ok (.getfield 151, 3) := by decide +kernel
theorem dX11_shoot_88 : decode cX11_shoot 88 = .ok (.imul, 1) := by decide +kernel
theorem dX11_shoot_89 : decode cX11_shoot 89 = .ok (.iconst 1, 1) := by decide +kernel
theorem dX11_shoot_90 : decode cX11_shoot 90 = .ok (.iadd, 1) := by decide +kernel
theorem dX11_shoot_91 : decode cX11_shoot 91 = .ok (.invokestatic 236, 3) := by decide +kernel
theorem dX11_shoot_94 : decode cX11_shoot 94 = .ok (.istore 7, 2) := by decide +kernel
theorem dX11_shoot_96 : decode cX11_shoot 96 = .ok (.aload_n 0, 1) := by decide +kernel
theorem dX11_shoot_97 : decode cX11_shoot 97 = .ok (.getfield 19, 3) := by decide +kernel
theorem dX11_shoot_100 : decode cX11_shoot 100 = .ok (.aload 4, 2) := by decide +kernel
theorem dX11_shoot_102 : decode cX11_shoot 102 = .ok (.aload 4, 2) := by decide +kernel
theorem dX11_shoot_104 : decode cX11_shoot 104 = .ok (.invokevirtual 175, 3) := by decide +kernel
theorem dX11_shoot_107 : decode cX11_shoot 107 = .ok (.aload 5, 2) := by decide +kernel
theorem dX11_shoot_109 : decode cX11_shoot 109 = .ok (.invokevirtual 138, 3) := by decide +kernel
theorem dX11_shoot_112 : decode cX11_shoot 112 = .ok (.isub, 1) := by decide +kernel
theorem dX11_shoot_113 : decode cX11_shoot 113 = .ok (.aload 4, 2) := by decide +kernel
theorem dX11_shoot_115 : decode cX11_shoot 115 = .ok (.getfield 120, 3) := by decide +kernel
theorem dX11_shoot_118 : decode cX11_shoot 118 = .ok (.invokevirtual 181, 3) := by decide +kernel
theorem dX11_shoot_121 : decode cX11_shoot 121 = .ok (.istore 8, 2) := by decide +kernel
theorem dX11_shoot_123 : decode cX11_shoot 123 = .ok (.iload 8, 2) := by decide +kernel
theorem dX11_shoot_125 : decode cX11_shoot 125 = .ok (.aload 6, 2) := by decide +kernel
theorem dX11_shoot_127 : decode cX11_shoot 127 = .ok (.getfield 146, 3) := by decide +kernel
theorem dX11_shoot_130 : decode cX11_shoot 130 = .ok (.iadd, 1) := by decide +kernel
theorem dX11_shoot_131 : decode cX11_shoot 131 = .ok (.iload 7, 2) := by decide +kernel
theorem dX11_shoot_133 : decode cX11_shoot 133 = .ok (.iadd, 1) := by decide +kernel
theorem dX11_shoot_134 : decode cX11_shoot 134 = .ok (.aload 6, 2) := by decide +kernel
theorem dX11_shoot_136 : decode cX11_shoot 136 = .ok (.getfield 151, 3) := by decide +kernel
theorem dX11_shoot_139 : decode cX11_shoot 139 = .ok (.isub, 1) := by decide +kernel
theorem dX11_shoot_140 : decode cX11_shoot 140 = .ok (.istore 9, 2) := by decide +kernel
theorem dX11_shoot_142 : decode cX11_shoot 142 = .ok (.aload_n 0, 1) := by decide +kernel
theorem dX11_shoot_143 : decode cX11_shoot 143 = .ok (.getfield 26, 3) := by decide +kernel
theorem dX11_shoot_146 : decode cX11_shoot 146 = .ok (.iload_n 1, 1) := by decide +kernel
theorem dX11_shoot_147 : decode cX11_shoot 147 = .ok (.iload_n 2, 1) := by decide +kernel
theorem dX11_shoot_148 : decode cX11_shoot 148 = .ok (.iload_n 3, 1) := by decide +kernel
theorem dX11_shoot_149 : decode cX11_shoot 149 = .ok (.iload 9, 2) := by decide +kernel
theorem dX11_shoot_151 : decode cX11_shoot 151 = .ok (.aload 5, 2) := by decide +kernel
theorem dX11_shoot_153 : decode cX11_shoot 153 = .ok (.aload 4, 2) := by decide +kernel
theorem dX11_shoot_155 : decode cX11_shoot 155 = .ok (.aload 4, 2) := by decide +kernel
theorem dX11_shoot_157 : decode cX11_shoot 157 = .ok (.getfield 120, 3) := by decide +kernel
theorem dX11_shoot_160 : decode cX11_shoot 160 = .ok (.invokevirtual 185, 3) := by decide +kernel
theorem dX11_shoot_163 : decode cX11_shoot 163 = .ok (.invokevirtual 239, 3) := by decide +kernel
theorem dX11_shoot_166 : decode cX11_shoot 166 = .ok (.iload 9, 2) := by decide +kernel
theorem dX11_shoot_168 : decode cX11_shoot 168 = .ok (.ireturn, 1) := by decide +kernel
theorem dX11_shot_0 : decode cX11_shot 0 = .ok (.aload_n 0, 1) := by decide +kernel
theorem dX11_shot_1 : decode cX11_shot 1 = .ok (.getfield 26, 3) := by decide +kernel
theorem dX11_shot_4 : decode cX11_shot 4 = .ok (.iload_n 1, 1) := by decide +kernel
theorem dX11_shot_5 : decode cX11_shot 5 = .ok (.iload_n 2, 1) := by decide +kernel
theorem dX11_shot_6 : decode cX11_shot 6 = .ok (.invokevirtual 242, 3) := by decide +kernel
theorem dX11_shot_9 : decode cX11_shot 9 = .ok (.ireturn, 1) := by decide +kernel
theorem dX11_wipe_0 : decode cX11_wipe 0 = .ok (.aload_n 0, 1) := by decide +kernel
theorem dX11_wipe_1 : decode cX11_wipe 1 = .ok (.getfield 26, 3) := by decide +kernel
theorem dX11_wipe_4 : decode cX11_wipe 4 = .ok (.invokevirtual 94, 3) := by decide +kernel
theorem dX11_wipe_7 : decode cX11_wipe 7 = .ok (.ireturn, 1) := by decide +kernel
theorem dX11_parted_0 : decode cX11_parted 0 = .ok (.aload_n 0, 1) := by decide +kernel
theorem dX11_parted_1 : decode cX11_parted 1 = .ok (.getfield 26, 3) := by decide +kernel
theorem dX11_parted_4 : decode cX11_parted 4 = .ok (.invokevirtual 244, 3) := by decide +kernel
theorem dX11_parted_7 : decode cX11_parted 7 = .ok (.ireturn, 1) := by decide +kernel
theorem dX11_spread_0 : decode cX11_spread 0 = .ok (.aload_n 0, 1) := by decide +kernel
theorem dX11_spread_1 : decode cX11_spread 1 = .ok (.getfield 64, 3) := by decide +kernel
theorem dX11_spread_4 : decode cX11_spread 4 = .ok (.iload_n 1, 1) := by decide +kernel
theorem dX11_spread_5 : decode cX11_spread 5 = .ok (.invokevirtual 99, 3) := by decide +kernel
theorem dX11_spread_8 : decode cX11_spread 8 = .ok (.ifnonnull 5, 3) := by decide +kernel
theorem dX11_spread_11 : decode cX11_spread 11 = .ok (.iconst (-1), 1) := by decide +kernel
theorem dX11_spread_12 : decode cX11_spread 12 = .ok (.ireturn, 1) := by decide +kernel
theorem dX11_spread_13 : decode cX11_spread 13 = .ok (.aload_n 0, 1) := by decide +kernel
theorem dX11_spread_14 : decode cX11_spread 14 = .ok (.getfield 26, 3) := by decide +kernel
theorem dX11_spread_17 : decode cX11_spread 17 = .ok (.iload_n 1, 1) := by decide +kernel
theorem dX11_spread_18 : decode cX11_spread 18 = .ok (.invokevirtual 247, 3) := by decide +kernel
theorem dX11_spread_21 : decode cX11_spread 21 = .ok (.ireturn, 1) := by decide +kernel
theorem dX11_out_0 : decode cX11_out 0 = .ok (.aload_n 0, 1) := by decide +kernel
theorem dX11_out_1 : decode cX11_out 1 = .ok (.getfield 64, 3) := by decide +kernel
theorem dX11_out_4 : decode cX11_out 4 = .ok (.iload_n 1, 1) := by decide +kernel
theorem dX11_out_5 : decode cX11_out 5 = .ok (.invokevirtual 99, 3) := by decide +kernel
theorem dX11_out_8 : decode cX11_out 8 = .ok (.ifnull 13, 3) := by decide +kernel
theorem dX11_out_11 : decode cX11_out 11 = .ok (.iload_n 2, 1) := by decide +kernel
theorem dX11_out_12 : decode cX11_out 12 = .ok (.iconst 0, 1) := by decide +kernel
theorem dX11_out_13 : decode cX11_out 13 = .ok (.bipush 99, 2) := by decide +kernel
theorem dX11_out_15 : decode cX11_out 15 = .ok (.invokestatic 75, 3) := by decide +kernel
theorem dX11_out_18 : decode cX11_out 18 = .ok (.ifCond .ne 5, 3) := by decide +kernel
theorem dX11_out_21 : decode cX11_out 21 = .ok (.iconst (-1), 1) := by decide +kernel
theorem dX11_out_22 : decode cX11_out 22 = .ok (.ireturn, 1) := by decide +kernel
theorem dX11_out_23 : decode cX11_out 23 = .ok (.aload_n 0, 1) := by decide +kernel
theorem dX11_out_24 : decode cX11_out 24 = .ok (.getfield 26, 3) := by decide +kernel
theorem dX11_out_27 : decode cX11_out 27 = .ok (.iload_n 1, 1) := by decide +kernel
theorem dX11_out_28 : decode cX11_out 28 = .ok (.iload_n 2, 1) := by decide +kernel
theorem dX11_out_29 : decode cX11_out 29 = .ok (.invokevirtual 250, 3) := by decide +kernel
theorem dX11_out_32 : decode cX11_out 32 = .ok (.ireturn, 1) := by decide +kernel
theorem dX11_lot_0 : decode cX11_lot 0 = .ok (.aload_n 0, 1) := by decide +kernel
theorem dX11_lot_1 : decode cX11_lot 1 = .ok (.getfield 71, 3) := by decide +kernel
theorem dX11_lot_4 : decode cX11_lot 4 = .ok (.istore_n 2, 1) := by decide +kernel
theorem dX11_lot_5 : decode cX11_lot 5 = .ok (.aload_n 0, 1) := by decide +kernel
theorem dX11_lot_6 : decode cX11_lot 6 = .ok (.iload_n 1, 1) := by decide +kernel
theorem dX11_lot_7 : decode cX11_lot 7 = .ok (.putfield 71, 3) := by decide +kernel
theorem dX11_lot_10 : decode cX11_lot 10 = .ok (.iload_n 2, 1) := by decide +kernel
theorem dX11_lot_11 : decode cX11_lot 11 = .ok (.ireturn, 1) := by decide +kernel
theorem dX11_rate_0 : decode cX11_rate 0 = .ok (.aload_n 0, 1) := by decide +kernel
theorem dX11_rate_1 : decode cX11_rate 1 = .ok (.getfield 64, 3) := by decide +kernel
theorem dX11_rate_4 : decode cX11_rate 4 = .ok (.iload_n 2, 1) := by decide +kernel
theorem dX11_rate_5 : decode cX11_rate 5 = .ok (.invokevirtual 99, 3) := by decide +kernel
theorem dX11_rate_8 : decode cX11_rate 8 = .ok (.astore_n 3, 1) := by decide +kernel
theorem dX11_rate_9 : decode cX11_rate 9 = .ok (.aload_n 0, 1) := by decide +kernel
theorem dX11_rate_10 : decode cX11_rate 10 = .ok (.getfield 64, 3) := by decide +kernel
theorem dX11_rate_13 : decode cX11_rate 13 = .ok (.iconst 0, 1) := by decide +kernel
theorem dX11_rate_14 : decode cX11_rate 14 = .ok (.invokevirtual 126, 3) := by decide +kernel
theorem dX11_rate_17 : decode cX11_rate 17 = .ok (.astore 4, 2) := by decide +kernel
theorem dX11_rate_19 : decode cX11_rate 19 = .ok (.aload_n 3, 1) := by decide +kernel
theorem dX11_rate_20 : decode cX11_rate 20 = .ok (.ifnull 8, 3) := by decide +kernel
theorem dX11_rate_23 : decode cX11_rate 23 = .ok (.aload 4, 2) := by decide +kernel
theorem dX11_rate_25 : decode cX11_rate 25 = .ok (.ifnonnull 6, 3) := by decide +kernel
theorem dX11_rate_28 : decode cX11_rate 28 = .ok (.ldc 145, 2) := by decide +kernel
theorem dX11_rate_30 : decode cX11_rate 30 = .ok (.ireturn, 1) := by decide +kernel
theorem dX11_rate_31 : decode cX11_rate 31 = .ok (.aload_n 0, 1) := by decide +kernel
theorem dX11_rate_32 : decode cX11_rate 32 = .ok (.getfield 47, 3) := by decide +kernel
theorem dX11_rate_35 : decode cX11_rate 35 = .ok (.iload_n 1, 1) := by decide +kernel
theorem dX11_rate_36 : decode cX11_rate 36 = .ok (.aload_n 3, 1) := by decide +kernel
theorem dX11_rate_37 : decode cX11_rate 37 = .ok (.aload 4, 2) := by decide +kernel
theorem dX11_rate_39 : decode cX11_rate 39 = .ok (.aload_n 0, 1) := by decide +kernel
theorem dX11_rate_40 : decode cX11_rate 40 = .ok (.getfield 19, 3) := by decide +kernel
theorem dX11_rate_43 : decode cX11_rate 43 = .ok (.invokevirtual 253, 3) := by decide +kernel
theorem dX11_rate_46 : decode cX11_rate 46 = .ok (.invokevirtual 256, 3) := by decide +kernel
theorem dX11_rate_49 : decode cX11_rate 49 = .ok (.ireturn, 1) := by decide +kernel
theorem dX11_keep_0 : decode cX11_keep 0 = .ok (.aload_n 0, 1) := by decide +kernel
theorem dX11_keep_1 : decode cX11_keep 1 = .ok (.iload_n 1, 1) := by decide +kernel
theorem dX11_keep_2 : decode cX11_keep 2 = .ok (.invokevirtual 260, 3) := by decide +kernel
theorem dX11_keep_5 : decode cX11_keep 5 = .ok (.astore_n 2, 1) := by decide +kernel
theorem dX11_keep_6 : decode cX11_keep 6 = .ok (.aload_n 2, 1) := by decide +kernel
theorem dX11_keep_7 : decode cX11_keep 7 = .ok (.ifnonnull 5, 3) := by decide +kernel
theorem dX11_keep_10 : decode cX11_keep 10 = .ok (.iconst (-1), 1) := by decide +kernel
theorem dX11_keep_11 : decode cX11_keep 11 = .ok (.ireturn, 1) := by decide +kernel
theorem dX11_keep_12 : decode cX11_keep 12 = .ok (.aload_n 2, 1) := by decide +kernel
theorem dX11_keep_13 : decode cX11_keep 13 = .ok (.aload_n 0, 1) := by decide +kernel
theorem dX11_keep_14 : decode cX11_keep 14 = .ok (.getfield 64, 3) := by decide +kernel
theorem dX11_keep_17 : decode cX11_keep 17 = .ok (.aload_n 0, 1) := by decide +kernel
theorem dX11_keep_18 : decode cX11_keep 18 = .ok (.getfield 26, 3) := by decide +kernel
theorem dX11_keep_21 : decode cX11_keep 21 = .ok (.aload_n 0, 1) := by decide +kernel
theorem dX11_keep_22 : decode cX11_keep 22 = .ok (.getfield 71, 3) := by decide +kernel
theorem dX11_keep_25 : decode cX11_keep 25 = .ok (.invokevirtual 264, 3) := by decide +kernel
theorem dX11_keep_28 : decode cX11_keep 28 = .ok (.aload_n 0, 1) := by decide +kernel
theorem dX11_keep_29 : decode cX11_keep 29 = .ok (.getfield 26, 3) := by decide +kernel
theorem dX11_keep_32 : decode cX11_keep 32 = .ok (.getfield 234, 3) := by decide +kernel
theorem dX11_keep_35 : decode cX11_keep 35 = .ok (.ireturn, 1) := by decide +kernel
theorem dX11_back_0 : decode cX11_back 0 = .ok (.aload_n 0, 1) := by decide +kernel
theorem dX11_back_1 : decode cX11_back 1 = .ok (.iload_n 1, 1) := by decide +kernel
theorem dX11_back_2 : decode cX11_back 2 = .ok (.invokevirtual 260, 3) := by decide +kernel
theorem dX11_back_5 : decode cX11_back 5 = .ok (.astore_n 2, 1) := by decide +kernel
theorem dX11_back_6 : decode cX11_back 6 = .ok (.aload_n 2, 1) := by decide +kernel
theorem dX11_back_7 : decode cX11_back 7 = .ok (.ifnonnull 5, 3) := by decide +kernel
theorem dX11_back_10 : decode cX11_back 10 = .ok (.iconst (-1), 1) := by decide +kernel
theorem dX11_back_11 : decode cX11_back 11 = .ok (.ireturn, 1) := by decide +kernel
theorem dX11_back_12 : decode cX11_back 12 = .ok (.aload_n 2, 1) := by decide +kernel
theorem dX11_back_13 : decode cX11_back 13 = .ok (.getfield 95, 3) := by decide +kernel
theorem dX11_back_16 : decode cX11_back 16 = .ok (.ifCond .ne 6, 3) := by decide +kernel
theorem dX11_back_19 : decode cX11_back 19 = .ok (.bipush (-2), 2) := by decide +kernel
theorem dX11_back_21 : decode cX11_back 21 = .ok (.ireturn, 1) := by decide +kernel
theorem dX11_back_22 : decode cX11_back 22 = .ok (.aload_n 2, 1) := by decide +kernel
theorem dX11_back_23 : decode cX11_back 23 = .ok (.aload_n 0, 1) := by decide +kernel
theorem dX11_back_24 : decode cX11_back 24 = .ok (.getfield 64, 3) := by decide +kernel
theorem dX11_back_27 : decode cX11_back 27 = .ok (.aload_n 0, 1) := by decide +kernel
theorem dX11_back_28 : decode cX11_back 28 = .ok (.getfield 26, 3) := by decide +kernel
theorem dX11_back_31 : decode cX11_back 31 = .ok (.invokevirtual 268, 3) := by decide +kernel
theorem dX11_back_34 : decode cX11_back 34 = .ok (.aload_n 0, 1) := by decide +kernel
theorem dX11_back_35 : decode cX11_back 35 = .ok (.aload_n 2, 1) := by decide +kernel
theorem dX11_back_36 : decode cX11_back 36 = .ok (.getfield 272, 3) := by decide +kernel
theorem dX11_back_39 : decode cX11_back 39 = .ok (.putfield 71, 3) := by decide +kernel
theorem dX11_back_42 : decode cX11_back 42 = .ok (.aload_n 0, 1) := by decide +kernel
theorem dX11_back_43 : decode cX11_back 43 = .ok (.getfield 26, 3) := by decide +kernel
theorem dX11_back_46 : decode cX11_back 46 = .ok (.getfield 234, 3) := by decide +kernel
theorem dX11_back_49 : decode cX11_back 49 = .ok (.ireturn, 1) := by decide +kernel
theorem dX11_count_0 : decode cX11_count 0 = .ok (.iload_n 1, 1) := by decide +kernel
theorem dX11_count_1 : decode cX11_count 1 = .ok (.tableswitch 75 0 4 #[35, 43, 51, 59, 67], 35) := by decide +kernel
theorem dX11_count_36 : decode cX11_count 36 = .ok (.aload_n 0, 1) := by decide +kernel
theorem dX11_count_37 : decode cX11_count 37 = .ok (.getfield 64, 3) := by decide +kernel
theorem dX11_count_40 : decode cX11_count 40 = .ok (.getfield 227, 3) := by decide +kernel
theorem dX11_count_43 : decode cX11_count 43 = .ok (.ireturn, 1) := by decide +kernel
theorem dX11_count_44 : decode cX11_count 44 = .ok (.aload_n 0, 1) := by decide +kernel
theorem dX11_count_45 : decode cX11_count 45 = .ok (.getfield 64, 3) := by decide +kernel
theorem dX11_count_48 : decode cX11_count 48 = .ok (.getfield 275, 3) := by decide +kernel
theorem dX11_count_51 : decode cX11_count 51 = .ok (.ireturn, 1) := by decide +kernel
theorem dX11_count_52 : decode cX11_count 52 = .ok (.aload_n 0, 1) := by decide +kernel
theorem dX11_count_53 : decode cX11_count 53 = .ok (.getfield 64, 3) := by decide +kernel
theorem dX11_count_56 : decode cX11_count 56 = .ok (.getfield 278, 3) := by decide +kernel
theorem dX11_count_59 : decode cX11_count 59 = .ok (.ireturn, 1) := by decide +kernel
theorem dX11_count_60 : decode cX11_count 60 = .ok (.aload_n 0, 1) := by decide +kernel
theorem dX11_count_61 : decode cX11_count 61 = .ok (.getfield 26, 3) := by decide +kernel
theorem dX11_count_64 : decode cX11_count 64 = .ok (.getfield 234, 3) := by decide +kernel
theorem dX11_count_67 : decode cX11_count 67 = .ok (.ireturn, 1) := by decide +kernel
theorem dX11_count_68 : decode cX11_count 68 = .ok (.aload_n 0, 1) := by decide +kernel
theorem dX11_count_69 : decode cX11_count 69 = .ok (.getfield 10, 3) := by decide +kernel
theorem dX11_count_72 : decode cX11_count 72 = .ok (.getfield 79, 3) := by decide +kernel
theorem dX11_count_75 : decode cX11_count 75 = .ok (.ireturn, 1) := by decide +kernel
theorem dX11_count_76 : decode cX11_count 76 = .ok (.iconst (-1), 1) := by decide +kernel
theorem dX11_count_77 : decode cX11_count 77 = .ok (.ireturn, 1) := by decide +kernel
theorem dX11_trace_0 : decode cX11_trace 0 = .ok (.aload_n 0, 1) := by decide +kernel
theorem dX11_trace_1 : decode cX11_trace 1 = .ok (.getfield 47, 3) := by decide +kernel
theorem dX11_trace_4 : decode cX11_trace 4 = .ok (.getfield 281, 3) := by decide +kernel
theorem dX11_trace_7 : decode cX11_trace 7 = .ok (.lreturn, 1) := by decide +kernel
theorem dX11_imageAt_0 : decode cX11_imageAt 0 = .ok (.iload_n 1, 1) := by decide +kernel
theorem dX11_imageAt_1 : decode cX11_imageAt 1 = .ok (.ifCond .ne 8, 3) := by decide +kernel
theorem dX11_imageAt_4 : decode cX11_imageAt 4 = .ok (.aload_n 0, 1) := by decide +kernel
theorem dX11_imageAt_5 : decode cX11_imageAt 5 = .ok (.getfield 54, 3) := by decide +kernel
theorem dX11_imageAt_8 : decode cX11_imageAt 8 = .ok (.areturn, 1) := by decide +kernel
theorem dX11_imageAt_9 : decode cX11_imageAt 9 = .ok (.iload_n 1, 1) := by decide +kernel
theorem dX11_imageAt_10 : decode cX11_imageAt 10 = .ok (.iconst 1, 1) := by decide +kernel
theorem dX11_imageAt_11 : decode cX11_imageAt 11 = .ok (.if_icmp .ne 10, 3) := by decide +kernel
theorem dX11_imageAt_14 : decode cX11_imageAt 14 = .ok (.aload_n 0, 1) := by decide +kernel
theorem dX11_imageAt_15 : decode cX11_imageAt 15 = .ok (.getfield 58, 3) := by decide +kernel
theorem dX11_imageAt_18 : decode cX11_imageAt 18 = .ok (.goto 4, 3) := by decide +kernel
theorem dX11_imageAt_21 : decode cX11_imageAt 21 = .ok (.aconst_null, 1) := by decide +kernel
theorem dX11_imageAt_22 : decode cX11_imageAt 22 = .ok (.areturn, 1) := by decide +kernel
theorem dX11_within_0 : decode cX11_within 0 = .ok (.iload_n 0, 1) := by decide +kernel
theorem dX11_within_1 : decode cX11_within 1 = .ok (.iload_n 1, 1) := by decide +kernel
theorem dX11_within_2 : decode cX11_within 2 = .ok (.if_icmp .lt 12, 3) := by decide +kernel
theorem dX11_within_5 : decode cX11_within 5 = .ok (.iload_n 0, 1) := by decide +kernel
theorem dX11_within_6 : decode cX11_within 6 = .ok (.iload_n 2, 1) := by decide +kernel
theorem dX11_within_7 : decode cX11_within 7 = .ok (.if_icmp .gt 7, 3) := by decide +kernel
theorem dX11_within_10 : decode cX11_within 10 = .ok (.iconst 1, 1) := by decide +kernel
theorem dX11_within_11 : decode cX11_within 11 = .ok (.goto 4, 3) := by decide +kernel
theorem dX11_within_14 : decode cX11_within 14 = .ok (.iconst 0, 1) := by decide +kernel
theorem dX11_within_15 : decode cX11_within 15 = .ok (.ireturn, 1) := by decide +kernel
theorem dX11_divided_0 : decode cX11_divided 0 = .ok (.iload_n 1, 1) := by decide +kernel
theorem dX11_divided_1 : decode cX11_divided 1 = .ok (.ifCond .ne 7, 3) := by decide +kernel
theorem dX11_divided_4 : decode cX11_divided 4 = .ok (.iconst 0, 1) := by decide +kernel
theorem dX11_divided_5 : decode cX11_divided 5 = .ok (.goto 6, 3) := by decide +kernel
theorem dX11_divided_8 : decode cX11_divided 8 = .ok (.iload_n 0, 1) := by decide +kernel
theorem dX11_divided_9 : decode cX11_divided 9 = .ok (.iload_n 1, 1) := by decide +kernel
theorem dX11_divided_10 : decode cX11_divided 10 = .ok (.idiv, 1) := by decide +kernel
theorem dX11_divided_11 : decode cX11_divided 11 = .ok (.ireturn, 1) := by decide +kernel
theorem dX11_leftOver_0 : decode cX11_leftOver 0 = .ok (.iload_n 1, 1) := by decide +kernel
theorem dX11_leftOver_1 : decode cX11_leftOver 1 = .ok (.ifCond .ne 7, 3) := by decide +kernel
theorem dX11_leftOver_4 : decode cX11_leftOver 4 = .ok (.iconst 0, 1) := by decide +kernel
theorem dX11_leftOver_5 : decode cX11_leftOver 5 = .ok (.goto 6, 3) := by decide +kernel
theorem dX11_leftOver_8 : decode cX11_leftOver 8 = .ok (.iload_n 0, 1) := by decide +kernel
theorem dX11_leftOver_9 : decode cX11_leftOver 9 = .ok (.iload_n 1, 1) := by decide +kernel
theorem dX11_leftOver_10 : decode cX11_leftOver 10 = .ok (.irem, 1) := by decide +kernel
theorem dX11_leftOver_11 : decode cX11_leftOver 11 = .ok (.ireturn, 1) := by decide +kernel
theorem dX11_spineOf_0 : decode cX11_spineOf 0 = .ok (.iload_n 0, 1) := by decide +kernel
theorem dX11_spineOf_1 : decode cX11_spineOf 1 = .ok (.bipush 112, 2) := by decide +kernel
theorem dX11_spineOf_3 : decode cX11_spineOf 3 = .ok (.imul, 1) := by decide +kernel
theorem dX11_spineOf_4 : decode cX11_spineOf 4 = .ok (.iload_n 1, 1) := by decide +kernel
theorem dX11_spineOf_5 : decode cX11_spineOf 5 = .ok (.invokestatic 285, 3) := by decide +kernel
theorem dX11_spineOf_8 : decode cX11_spineOf 8 = .ok (.iload_n 2, 1) := by decide +kernel
theorem dX11_spineOf_9 : decode cX11_spineOf 9 = .ok (.bipush 10, 2) := by decide +kernel
theorem dX11_spineOf_11 : decode cX11_spineOf 11 = .ok (.idiv, 1) := by decide +kernel
theorem dX11_spineOf_12 : decode cX11_spineOf 12 = .ok (.isub, 1) := by decide +kernel
theorem dX11_spineOf_13 : decode cX11_spineOf 13 = .ok (.ireturn, 1) := by decide +kernel
theorem dX11_needOf_0 : decode cX11_needOf 0 = .ok (.iload_n 0, 1) := by decide +kernel
theorem dX11_needOf_1 : decode cX11_needOf 1 = .ok (.iconst 2, 1) := by decide +kernel
theorem dX11_needOf_2 : decode cX11_needOf 2 = .ok (.iload_n 1, 1) := by decide +kernel
theorem dX11_needOf_3 : decode cX11_needOf 3 = .ok (.imul, 1) := by decide +kernel
theorem dX11_needOf_4 : decode cX11_needOf 4 = .ok (.iadd, 1) := by decide +kernel
theorem dX11_needOf_5 : decode cX11_needOf 5 = .ok (.ireturn, 1) := by decide +kernel
