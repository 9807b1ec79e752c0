section
-- no bytes of ('java/lang/Object', '<init>', '()V')
theorem d_Arrays_fill_0 : decode prog_18_method_103_code 0 = .ok (.iconst 0, 1) := by decide +kernel
theorem d_Arrays_fill_1 : decode prog_18_method_103_code 1 = .ok (.istore_n 2, 1) := by decide +kernel
theorem d_Arrays_fill_2 : decode prog_18_method_103_code 2 = .ok (.aload_n 0, 1) := by decide +kernel
theorem d_Arrays_fill_3 : decode prog_18_method_103_code 3 = .ok (.arraylength, 1) := by decide +kernel
theorem d_Arrays_fill_4 : decode prog_18_method_103_code 4 = .ok (.istore_n 3, 1) := by decide +kernel
theorem d_Arrays_fill_5 : decode prog_18_method_103_code 5 = .ok (.iload_n 2, 1) := by decide +kernel
theorem d_Arrays_fill_6 : decode prog_18_method_103_code 6 = .ok (.iload_n 3, 1) := by decide +kernel
theorem d_Arrays_fill_7 : decode prog_18_method_103_code 7 = .ok (.if_icmp .ge 13, 3) := by decide +kernel
theorem d_Arrays_fill_10 : decode prog_18_method_103_code 10 = .ok (.aload_n 0, 1) := by decide +kernel
theorem d_Arrays_fill_11 : decode prog_18_method_103_code 11 = .ok (.iload_n 2, 1) := by decide +kernel
theorem d_Arrays_fill_12 : decode prog_18_method_103_code 12 = .ok (.iload_n 1, 1) := by decide +kernel
theorem d_Arrays_fill_13 : decode prog_18_method_103_code 13 = .ok (.iastore, 1) := by decide +kernel
theorem d_Arrays_fill_14 : decode prog_18_method_103_code 14 = .ok (.iinc 2 1, 3) := by decide +kernel
theorem d_Arrays_fill_17 : decode prog_18_method_103_code 17 = .ok (.goto (-12), 3) := by decide +kernel
theorem d_Arrays_fill_20 : decode prog_18_method_103_code 20 = .ok (.return_, 1) := by decide +kernel
theorem d_Arrays_copyOf_0 : decode prog_18_method_123_code 0 = .ok (.iload_n 1, 1) := by decide +kernel
theorem d_Arrays_copyOf_1 : decode prog_18_method_123_code 1 = .ok (.aload_n 0, 1) := by decide +kernel
theorem d_Arrays_copyOf_2 : decode prog_18_method_123_code 2 = .ok (.arraylength, 1) := by decide +kernel
theorem d_Arrays_copyOf_3 : decode prog_18_method_123_code 3 = .ok (.if_icmp .ne 11, 3) := by decide +kernel
theorem d_Arrays_copyOf_14 : decode prog_18_method_123_code 14 = .ok (.iload_n 1, 1) := by decide +kernel
theorem d_Arrays_copyOf_15 : decode prog_18_method_123_code 15 = .ok (.newarray .int, 2) := by decide +kernel
theorem d_Arrays_copyOf_17 : decode prog_18_method_123_code 17 = .ok (.astore_n 2, 1) := by decide +kernel
theorem d_Arrays_copyOf_18 : decode prog_18_method_123_code 18 = .ok (.aload_n 0, 1) := by decide +kernel
theorem d_Arrays_copyOf_19 : decode prog_18_method_123_code 19 = .ok (.iconst 0, 1) := by decide +kernel
theorem d_Arrays_copyOf_20 : decode prog_18_method_123_code 20 = .ok (.aload_n 2, 1) := by decide +kernel
theorem d_Arrays_copyOf_21 : decode prog_18_method_123_code 21 = .ok (.iconst 0, 1) := by decide +kernel
theorem d_Arrays_copyOf_22 : decode prog_18_method_123_code 22 = .ok (.aload_n 0, 1) := by decide +kernel
theorem d_Arrays_copyOf_23 : decode prog_18_method_123_code 23 = .ok (.arraylength, 1) := by decide +kernel
theorem d_Arrays_copyOf_24 : decode prog_18_method_123_code 24 = .ok (.iload_n 1, 1) := by decide +kernel
theorem d_Arrays_copyOf_25 : decode prog_18_method_123_code 25 = .ok (.invokestatic 304, 3) := by decide +kernel
theorem d_Arrays_copyOf_28 : decode prog_18_method_123_code 28 = .ok (.invokestatic 150, 3) := by decide +kernel
theorem d_Arrays_copyOf_31 : decode prog_18_method_123_code 31 = .ok (.aload_n 2, 1) := by decide +kernel
theorem d_Arrays_copyOf_32 : decode prog_18_method_123_code 32 = .ok (.areturn, 1) := by decide +kernel
theorem d_M_init_0 : decode prog_14_method_1_code 0 = .ok (.aload_n 0, 1) := by decide +kernel
theorem d_M_init_1 : decode prog_14_method_1_code 1 = .ok (.invokespecial 1, 3) := by decide +kernel
theorem d_M_init_4 : decode prog_14_method_1_code 4 = .ok (.aload_n 0, 1) := by decide +kernel
theorem d_M_init_5 : decode prog_14_method_1_code 5 = .ok (.bipush 8, 2) := by decide +kernel
theorem d_M_init_7 : decode prog_14_method_1_code 7 = .ok (.newarray .int, 2) := by decide +kernel
theorem d_M_init_9 : decode prog_14_method_1_code 9 = .ok (.putfield 7, 3) := by decide +kernel
theorem d_M_init_12 : decode prog_14_method_1_code 12 = .ok (.aload_n 0, 1) := by decide +kernel
theorem d_M_init_13 : decode prog_14_method_1_code 13 = .ok (.sipush 512, 3) := by decide +kernel
theorem d_M_init_16 : decode prog_14_method_1_code 16 = .ok (.newarray .int, 2) := by decide +kernel
theorem d_M_init_18 : decode prog_14_method_1_code 18 = .ok (.putfield 13, 3) := by decide +kernel
theorem d_M_init_21 : decode prog_14_method_1_code 21 = .ok (.aload_n 0, 1) := by decide +kernel
theorem d_M_init_22 : decode prog_14_method_1_code 22 = .ok (.sipush 512, 3) := by decide +kernel
theorem d_M_init_25 : decode prog_14_method_1_code 25 = .ok (.newarray .int, 2) := by decide +kernel
theorem d_M_init_27 : decode prog_14_method_1_code 27 = .ok (.putfield 16, 3) := by decide +kernel
theorem d_M_init_30 : decode prog_14_method_1_code 30 = .ok (.aload_n 0, 1) := by decide +kernel
theorem d_M_init_31 : decode prog_14_method_1_code 31 = .ok (.sipush 512, 3) := by decide +kernel
theorem d_M_init_34 : decode prog_14_method_1_code 34 = .ok (.newarray .int, 2) := by decide +kernel
theorem d_M_init_36 : decode prog_14_method_1_code 36 = .ok (.putfield 19, 3) := by decide +kernel
theorem d_M_init_39 : decode prog_14_method_1_code 39 = .ok (.aload_n 0, 1) := by decide +kernel
theorem d_M_init_40 : decode prog_14_method_1_code 40 = .ok (.sipush 600, 3) := by decide +kernel
theorem d_M_init_43 : decode prog_14_method_1_code 43 = .ok (.newarray .int, 2) := by decide +kernel
theorem d_M_init_45 : decode prog_14_method_1_code 45 = .ok (.putfield 22, 3) := by decide +kernel
theorem d_M_init_48 : decode prog_14_method_1_code 48 = .ok (.aload_n 0, 1) := by decide +kernel
theorem d_M_init_49 : decode prog_14_method_1_code 49 = .ok (.sipush 600, 3) := by decide +kernel
theorem d_M_init_52 : decode prog_14_method_1_code 52 = .ok (.newarray .int, 2) := by decide +kernel
theorem d_M_init_54 : decode prog_14_method_1_code 54 = .ok (.putfield 25, 3) := by decide +kernel
theorem d_M_init_57 : decode prog_14_method_1_code 57 = .ok (.aload_n 0, 1) := by decide +kernel
theorem d_M_init_58 : decode prog_14_method_1_code 58 = .ok (.sipush 9000, 3) := by decide +kernel
theorem d_M_init_61 : decode prog_14_method_1_code 61 = .ok (.newarray .int, 2) := by decide +kernel
theorem d_M_init_63 : decode prog_14_method_1_code 63 = .ok (.putfield 28, 3) := by decide +kernel
theorem d_M_init_66 : decode prog_14_method_1_code 66 = .ok (.aload_n 0, 1) := by decide +kernel
theorem d_M_init_67 : decode prog_14_method_1_code 67 = .ok (.sipush 9000, 3) := by decide +kernel
theorem d_M_init_70 : decode prog_14_method_1_code 70 = .ok (.newarray .int, 2) := by decide +kernel
theorem d_M_init_72 : decode prog_14_method_1_code 72 = .ok (.putfield 31, 3) := by decide +kernel
theorem d_M_init_75 : decode prog_14_method_1_code 75 = .ok (.aload_n 0, 1) := by decide +kernel
theorem d_M_init_76 : decode prog_14_method_1_code 76 = .ok (.sipush 6000, 3) := by decide +kernel
theorem d_M_init_79 : decode prog_14_method_1_code 79 = .ok (.newarray .int, 2) := by decide +kernel
theorem d_M_init_81 : decode prog_14_method_1_code 81 = .ok (.putfield 34, 3) := by decide +kernel
theorem d_M_init_84 : decode prog_14_method_1_code 84 = .ok (.aload_n 0, 1) := by decide +kernel
theorem d_M_init_85 : decode prog_14_method_1_code 85 = .ok (.sipush 512, 3) := by decide +kernel
theorem d_M_init_88 : decode prog_14_method_1_code 88 = .ok (.newarray .int, 2) := by decide +kernel
theorem d_M_init_90 : decode prog_14_method_1_code 90 = .ok (.putfield 37, 3) := by decide +kernel
theorem d_M_init_93 : decode prog_14_method_1_code 93 = .ok (.aload_n 0, 1) := by decide +kernel
theorem d_M_init_94 : decode prog_14_method_1_code 94 = .ok (.sipush 512, 3) := by decide +kernel
theorem d_M_init_97 : decode prog_14_method_1_code 97 = .ok (.newarray .int, 2) := by decide +kernel
theorem d_M_init_99 : decode prog_14_method_1_code 99 = .ok (.putfield 40, 3) := by decide +kernel
theorem d_M_init_102 : decode prog_14_method_1_code 102 = .ok (.aload_n 0, 1) := by decide +kernel
theorem d_M_init_103 : decode prog_14_method_1_code 103 = .ok (.sipush 20000, 3) := by decide +kernel
theorem d_M_init_106 : decode prog_14_method_1_code 106 = .ok (.newarray .int, 2) := by decide +kernel
theorem d_M_init_108 : decode prog_14_method_1_code 108 = .ok (.putfield 43, 3) := by decide +kernel
theorem d_M_init_111 : decode prog_14_method_1_code 111 = .ok (.aload_n 0, 1) := by decide +kernel
theorem d_M_init_112 : decode prog_14_method_1_code 112 = .ok (.iload_n 1, 1) := by decide +kernel
theorem d_M_init_113 : decode prog_14_method_1_code 113 = .ok (.ifCond .ge 7, 3) := by decide +kernel
theorem d_M_init_116 : decode prog_14_method_1_code 116 = .ok (.iconst 0, 1) := by decide +kernel
theorem d_M_init_117 : decode prog_14_method_1_code 117 = .ok (.goto 13, 3) := by decide +kernel
theorem d_M_init_120 : decode prog_14_method_1_code 120 = .ok (.iload_n 1, 1) := by decide +kernel
theorem d_M_init_121 : decode prog_14_method_1_code 121 = .ok (.iconst 4, 1) := by decide +kernel
theorem d_M_init_122 : decode prog_14_method_1_code 122 = .ok (.if_icmp .le 7, 3) := by decide +kernel
theorem d_M_init_125 : decode prog_14_method_1_code 125 = .ok (.iconst 4, 1) := by decide +kernel
theorem d_M_init_126 : decode prog_14_method_1_code 126 = .ok (.goto 4, 3) := by decide +kernel
theorem d_M_init_129 : decode prog_14_method_1_code 129 = .ok (.iload_n 1, 1) := by decide +kernel
theorem d_M_init_130 : decode prog_14_method_1_code 130 = .ok (.putfield 46, 3) := by decide +kernel
theorem d_M_init_133 : decode prog_14_method_1_code 133 = .ok (.aload_n 0, 1) := by decide +kernel
theorem d_M_init_134 : decode prog_14_method_1_code 134 = .ok (.iload_n 2, 1) := by decide +kernel
theorem d_M_init_135 : decode prog_14_method_1_code 135 = .ok (.iconst 1, 1) := by decide +kernel
theorem d_M_init_136 : decode prog_14_method_1_code 136 = .ok (.if_icmp .ge 7, 3) := by decide +kernel
theorem d_M_init_139 : decode prog_14_method_1_code 139 = .ok (.iconst 1, 1) := by decide +kernel
theorem d_M_init_140 : decode prog_14_method_1_code 140 = .ok (.goto 15, 3) := by decide +kernel
theorem d_M_init_143 : decode prog_14_method_1_code 143 = .ok (.iload_n 2, 1) := by decide +kernel
theorem d_M_init_144 : decode prog_14_method_1_code 144 = .ok (.bipush 10, 2) := by decide +kernel
theorem d_M_init_146 : decode prog_14_method_1_code 146 = .ok (.if_icmp .le 8, 3) := by decide +kernel
theorem d_M_init_149 : decode prog_14_method_1_code 149 = .ok (.bipush 10, 2) := by decide +kernel
theorem d_M_init_151 : decode prog_14_method_1_code 151 = .ok (.goto 4, 3) := by decide +kernel
theorem d_M_init_154 : decode prog_14_method_1_code 154 = .ok (.iload_n 2, 1) := by decide +kernel
theorem d_M_init_155 : decode prog_14_method_1_code 155 = .ok (.putfield 50, 3) := by decide +kernel
theorem d_M_init_158 : decode prog_14_method_1_code 158 = .ok (.aload_n 0, 1) := by decide +kernel
theorem d_M_init_159 : decode prog_14_method_1_code 159 = .ok (.invokevirtual 53, 3) := by decide +kernel
theorem d_M_init_162 : decode prog_14_method_1_code 162 = .ok (.return_, 1) := by decide +kernel
theorem d_M_start_0 : decode prog_14_method_15_code 0 = .ok (.aload_n 0, 1) := by decide +kernel
theorem d_M_start_1 : decode prog_14_method_15_code 1 = .ok (.iconst 0, 1) := by decide +kernel
theorem d_M_start_2 : decode prog_14_method_15_code 2 = .ok (.putfield 94, 3) := by decide +kernel
theorem d_M_start_5 : decode prog_14_method_15_code 5 = .ok (.aload_n 0, 1) := by decide +kernel
theorem d_M_start_6 : decode prog_14_method_15_code 6 = .ok (.iconst 0, 1) := by decide +kernel
theorem d_M_start_7 : decode prog_14_method_15_code 7 = .ok (.putfield 97, 3) := by decide +kernel
theorem d_M_start_10 : decode prog_14_method_15_code 10 = .ok (.aload_n 0, 1) := by decide +kernel
theorem d_M_start_11 : decode prog_14_method_15_code 11 = .ok (.lconst 0, 1) := by decide +kernel
theorem d_M_start_12 : decode prog_14_method_15_code 12 = .ok (.putfield 104, 3) := by decide +kernel
theorem d_M_start_15 : decode prog_14_method_15_code 15 = .ok (.aload_n 0, 1) := by decide +kernel
theorem d_M_start_16 : decode prog_14_method_15_code 16 = .ok (.ldc2_w 108, 3) := by decide +kernel
theorem d_M_start_19 : decode prog_14_method_15_code 19 = .ok (.putfield 110, 3) := by decide +kernel
theorem d_M_start_22 : decode prog_14_method_15_code 22 = .ok (.aload_n 0, 1) := by decide +kernel
theorem d_M_start_23 : decode prog_14_method_15_code 23 = .ok (.iconst (-1), 1) := by decide +kernel
theorem d_M_start_24 : decode prog_14_method_15_code 24 = .ok (.putfield 113, 3) := by decide +kernel
theorem d_M_start_27 : decode prog_14_method_15_code 27 = .ok (.aload_n 0, 1) := by decide +kernel
theorem d_M_start_28 : decode prog_14_method_15_code 28 = .ok (.iconst 0, 1) := by decide +kernel
theorem d_M_start_29 : decode prog_14_method_15_code 29 = .ok (.putfield 116, 3) := by decide +kernel
theorem d_M_start_32 : decode prog_14_method_15_code 32 = .ok (.aload_n 0, 1) := by decide +kernel
theorem d_M_start_33 : decode prog_14_method_15_code 33 = .ok (.iconst 0, 1) := by decide +kernel
theorem d_M_start_34 : decode prog_14_method_15_code 34 = .ok (.putfield 119, 3) := by decide +kernel
theorem d_M_start_37 : decode prog_14_method_15_code 37 = .ok (.iconst 0, 1) := by decide +kernel
theorem d_M_start_38 : decode prog_14_method_15_code 38 = .ok (.istore_n 1, 1) := by decide +kernel
theorem d_M_start_39 : decode prog_14_method_15_code 39 = .ok (.iload_n 1, 1) := by decide +kernel
theorem d_M_start_40 : decode prog_14_method_15_code 40 = .ok (.aload_n 0, 1) := by decide +kernel
theorem d_M_start_41 : decode prog_14_method_15_code 41 = .ok (.getfield 59, 3) := by decide +kernel
theorem d_M_start_44 : decode prog_14_method_15_code 44 = .ok (.if_icmp .ge 18, 3) := by decide +kernel
theorem d_M_start_47 : decode prog_14_method_15_code 47 = .ok (.aload_n 0, 1) := by decide +kernel
theorem d_M_start_48 : decode prog_14_method_15_code 48 = .ok (.aload_n 0, 1) := by decide +kernel
theorem d_M_start_49 : decode prog_14_method_15_code 49 = .ok (.getfield 16, 3) := by decide +kernel
theorem d_M_start_52 : decode prog_14_method_15_code 52 = .ok (.iload_n 1, 1) := by decide +kernel
theorem d_M_start_53 : decode prog_14_method_15_code 53 = .ok (.invokevirtual 87, 3) := by decide +kernel
theorem d_M_start_56 : decode prog_14_method_15_code 56 = .ok (.iinc 1 1, 3) := by decide +kernel
theorem d_M_start_59 : decode prog_14_method_15_code 59 = .ok (.goto (-20), 3) := by decide +kernel
theorem d_M_start_62 : decode prog_14_method_15_code 62 = .ok (.return_, 1) := by decide +kernel
theorem d_M_prepare_0 : decode prog_14_method_7_code 0 = .ok (.bipush 64, 2) := by decide +kernel
theorem d_M_prepare_2 : decode prog_14_method_7_code 2 = .ok (.iload_n 2, 1) := by decide +kernel
theorem d_M_prepare_3 : decode prog_14_method_7_code 3 = .ok (.imul, 1) := by decide +kernel
theorem d_M_prepare_4 : decode prog_14_method_7_code 4 = .ok (.istore_n 3, 1) := by decide +kernel
theorem d_M_prepare_5 : decode prog_14_method_7_code 5 = .ok (.aload_n 0, 1) := by decide +kernel
theorem d_M_prepare_6 : decode prog_14_method_7_code 6 = .ok (.getfield 46, 3) := by decide +kernel
theorem d_M_prepare_9 : decode prog_14_method_7_code 9 = .ok (.iconst 2, 1) := by decide +kernel
theorem d_M_prepare_10 : decode prog_14_method_7_code 10 = .ok (.if_icmp .ne 29, 3) := by decide +kernel
theorem d_M_prepare_13 : decode prog_14_method_7_code 13 = .ok (.iconst 0, 1) := by decide +kernel
theorem d_M_prepare_14 : decode prog_14_method_7_code 14 = .ok (.istore 4, 2) := by decide +kernel
theorem d_M_prepare_16 : decode prog_14_method_7_code 16 = .ok (.iload 4, 2) := by decide +kernel
theorem d_M_prepare_18 : decode prog_14_method_7_code 18 = .ok (.bipush 64, 2) := by decide +kernel
theorem d_M_prepare_20 : decode prog_14_method_7_code 20 = .ok (.if_icmp .ge 18, 3) := by decide +kernel
theorem d_M_prepare_23 : decode prog_14_method_7_code 23 = .ok (.aload_n 1, 1) := by decide +kernel
theorem d_M_prepare_24 : decode prog_14_method_7_code 24 = .ok (.iload_n 3, 1) := by decide +kernel
theorem d_M_prepare_25 : decode prog_14_method_7_code 25 = .ok (.iload 4, 2) := by decide +kernel
theorem d_M_prepare_27 : decode prog_14_method_7_code 27 = .ok (.iadd, 1) := by decide +kernel
theorem d_M_prepare_28 : decode prog_14_method_7_code 28 = .ok (.sipush 1024, 3) := by decide +kernel
theorem d_M_prepare_31 : decode prog_14_method_7_code 31 = .ok (.iastore, 1) := by decide +kernel
theorem d_M_prepare_32 : decode prog_14_method_7_code 32 = .ok (.iinc 4 1, 3) := by decide +kernel
theorem d_M_prepare_35 : decode prog_14_method_7_code 35 = .ok (.goto (-19), 3) := by decide +kernel
theorem d_M_prepare_38 : decode prog_14_method_7_code 38 = .ok (.return_, 1) := by decide +kernel
theorem d_M_prepare_39 : decode prog_14_method_7_code 39 = .ok (.iconst 0, 1) := by decide +kernel
theorem d_M_prepare_40 : decode prog_14_method_7_code 40 = .ok (.istore 4, 2) := by decide +kernel
theorem d_M_prepare_42 : decode prog_14_method_7_code 42 = .ok (.iload 4, 2) := by decide +kernel
theorem d_M_prepare_44 : decode prog_14_method_7_code 44 = .ok (.aload_n 0, 1) := by decide +kernel
theorem d_M_prepare_45 : decode prog_14_method_7_code 45 = .ok (.getfield 7, 3) := by decide +kernel
theorem d_M_prepare_48 : decode prog_14_method_7_code 48 = .ok (.iload_n 2, 1) := by decide +kernel
theorem d_M_prepare_49 : decode prog_14_method_7_code 49 = .ok (.iaload, 1) := by decide +kernel
theorem d_M_prepare_50 : decode prog_14_method_7_code 50 = .ok (.if_icmp .ge 24, 3) := by decide +kernel
theorem d_M_prepare_53 : decode prog_14_method_7_code 53 = .ok (.aload_n 1, 1) := by decide +kernel
theorem d_M_prepare_54 : decode prog_14_method_7_code 54 = .ok (.iload_n 3, 1) := by decide +kernel
theorem d_M_prepare_55 : decode prog_14_method_7_code 55 = .ok (.iload 4, 2) := by decide +kernel
theorem d_M_prepare_57 : decode prog_14_method_7_code 57 = .ok (.iadd, 1) := by decide +kernel
theorem d_M_prepare_58 : decode prog_14_method_7_code 58 = .ok (.aload_n 0, 1) := by decide +kernel
theorem d_M_prepare_59 : decode prog_14_method_7_code 59 = .ok (.getfield 13, 3) := by decide +kernel
theorem d_M_prepare_62 : decode prog_14_method_7_code 62 = .ok (.iload_n 3, 1) := by decide +kernel
theorem d_M_prepare_63 : decode prog_14_method_7_code 63 = .ok (.iload 4, 2) := by decide +kernel
theorem d_M_prepare_65 : decode prog_14_method_7_code 65 = .ok (.iadd, 1) := by decide +kernel
theorem d_M_prepare_66 : decode prog_14_method_7_code 66 = .ok (.iaload, 1) := by decide +kernel
theorem d_M_prepare_67 : decode prog_14_method_7_code 67 = .ok (.iastore, 1) := by decide +kernel
theorem d_M_prepare_68 : decode prog_14_method_7_code 68 = .ok (.iinc 4 1, 3) := by decide +kernel
theorem d_M_prepare_71 : decode prog_14_method_7_code 71 = .ok (.goto (-29), 3) := by decide +kernel
theorem d_M_prepare_74 : decode prog_14_method_7_code 74 = .ok (.aload_n 0, 1) := by decide +kernel
theorem d_M_prepare_75 : decode prog_14_method_7_code 75 = .ok (.getfield 46, 3) := by decide +kernel
theorem d_M_prepare_78 : decode prog_14_method_7_code 78 = .ok (.iconst 2, 1) := by decide +kernel
theorem d_M_prepare_79 : decode prog_14_method_7_code 79 = .ok (.if_icmp .ge 12, 3) := by decide +kernel
theorem d_M_prepare_82 : decode prog_14_method_7_code 82 = .ok (.aload_n 0, 1) := by decide +kernel
theorem d_M_prepare_83 : decode prog_14_method_7_code 83 = .ok (.aload_n 1, 1) := by decide +kernel
theorem d_M_prepare_84 : decode prog_14_method_7_code 84 = .ok (.iload_n 2, 1) := by decide +kernel
theorem d_M_prepare_85 : decode prog_14_method_7_code 85 = .ok (.invokevirtual 69, 3) := by decide +kernel
theorem d_M_prepare_88 : decode prog_14_method_7_code 88 = .ok (.goto 26, 3) := by decide +kernel
theorem d_M_prepare_91 : decode prog_14_method_7_code 91 = .ok (.aload_n 0, 1) := by decide +kernel
theorem d_M_prepare_92 : decode prog_14_method_7_code 92 = .ok (.aload_n 1, 1) := by decide +kernel
theorem d_M_prepare_93 : decode prog_14_method_7_code 93 = .ok (.iload_n 2, 1) := by decide +kernel
theorem d_M_prepare_94 : decode prog_14_method_7_code 94 = .ok (.aload_n 0, 1) := by decide +kernel
theorem d_M_prepare_95 : decode prog_14_method_7_code 95 = .ok (.getfield 46, 3) := by decide +kernel
theorem d_M_prepare_98 : decode prog_14_method_7_code 98 = .ok (.iconst 3, 1) := by decide +kernel
theorem d_M_prepare_99 : decode prog_14_method_7_code 99 = .ok (.if_icmp .ne 9, 3) := by decide +kernel
theorem d_M_prepare_102 : decode prog_14_method_7_code 102 = .ok (.sipush 4096, 3) := by decide +kernel
theorem d_M_prepare_105 : decode prog_14_method_7_code 105 = .ok (.goto 6, 3) := by decide +kernel
theorem d_M_prepare_108 : decode prog_14_method_7_code 108 = .ok (.sipush 512, 3) := by decide +kernel
theorem d_M_prepare_111 : decode prog_14_method_7_code 111 = .ok (.invokevirtual 73, 3) := by decide +kernel
theorem d_M_prepare_114 : decode prog_14_method_7_code 114 = .ok (.return_, 1) := by decide +kernel
theorem d_M_lessen_0 : decode prog_14_method_10_code 0 = .ok (.aload_n 0, 1) := by decide +kernel
theorem d_M_lessen_1 : decode prog_14_method_10_code 1 = .ok (.aload_n 1, 1) := by decide +kernel
theorem d_M_lessen_2 : decode prog_14_method_10_code 2 = .ok (.iload_n 2, 1) := by decide +kernel
theorem d_M_lessen_3 : decode prog_14_method_10_code 3 = .ok (.invokevirtual 77, 3) := by decide +kernel
theorem d_M_lessen_6 : decode prog_14_method_10_code 6 = .ok (.sipush 8192, 3) := by decide +kernel
theorem d_M_lessen_9 : decode prog_14_method_10_code 9 = .ok (.if_icmp .le 12, 3) := by decide +kernel
theorem d_M_lessen_12 : decode prog_14_method_10_code 12 = .ok (.aload_n 0, 1) := by decide +kernel
theorem d_M_lessen_13 : decode prog_14_method_10_code 13 = .ok (.aload_n 1, 1) := by decide +kernel
theorem d_M_lessen_14 : decode prog_14_method_10_code 14 = .ok (.iload_n 2, 1) := by decide +kernel
theorem d_M_lessen_15 : decode prog_14_method_10_code 15 = .ok (.invokevirtual 81, 3) := by decide +kernel
theorem d_M_lessen_18 : decode prog_14_method_10_code 18 = .ok (.goto (-18), 3) := by decide +kernel
theorem d_M_lessen_21 : decode prog_14_method_10_code 21 = .ok (.return_, 1) := by decide +kernel
theorem d_M_sum_0 : decode prog_14_method_8_code 0 = .ok (.iconst 0, 1) := by decide +kernel
theorem d_M_sum_1 : decode prog_14_method_8_code 1 = .ok (.istore_n 3, 1) := by decide +kernel
theorem d_M_sum_2 : decode prog_14_method_8_code 2 = .ok (.iconst 0, 1) := by decide +kernel
theorem d_M_sum_3 : decode prog_14_method_8_code 3 = .ok (.istore 4, 2) := by decide +kernel
theorem d_M_sum_5 : decode prog_14_method_8_code 5 = .ok (.iload 4, 2) := by decide +kernel
theorem d_M_sum_7 : decode prog_14_method_8_code 7 = .ok (.aload_n 0, 1) := by decide +kernel
theorem d_M_sum_8 : decode prog_14_method_8_code 8 = .ok (.getfield 7, 3) := by decide +kernel
theorem d_M_sum_11 : decode prog_14_method_8_code 11 = .ok (.iload_n 2, 1) := by decide +kernel
theorem d_M_sum_12 : decode prog_14_method_8_code 12 = .ok (.iaload, 1) := by decide +kernel
theorem d_M_sum_13 : decode prog_14_method_8_code 13 = .ok (.if_icmp .ge 21, 3) := by decide +kernel
theorem d_M_sum_16 : decode prog_14_method_8_code 16 = .ok (.iload_n 3, 1) := by decide +kernel
theorem d_M_sum_17 : decode prog_14_method_8_code 17 = .ok (.aload_n 1, 1) := by decide +kernel
theorem d_M_sum_18 : decode prog_14_method_8_code 18 = .ok (.bipush 64, 2) := by decide +kernel
theorem d_M_sum_20 : decode prog_14_method_8_code 20 = .ok (.iload_n 2, 1) := by decide +kernel
theorem d_M_sum_21 : decode prog_14_method_8_code 21 = .ok (.imul, 1) := by decide +kernel
theorem d_M_sum_22 : decode prog_14_method_8_code 22 = .ok (.iload 4, 2) := by decide +kernel
theorem d_M_sum_24 : decode prog_14_method_8_code 24 = .ok (.iadd, 1) := by decide +kernel
theorem d_M_sum_25 : decode prog_14_method_8_code 25 = .ok (.iaload, 1) := by decide +kernel
theorem d_M_sum_26 : decode prog_14_method_8_code 26 = .ok (.iadd, 1) := by decide +kernel
theorem d_M_sum_27 : decode prog_14_method_8_code 27 = .ok (.istore_n 3, 1) := by decide +kernel
theorem d_M_sum_28 : decode prog_14_method_8_code 28 = .ok (.iinc 4 1, 3) := by decide +kernel
theorem d_M_sum_31 : decode prog_14_method_8_code 31 = .ok (.goto (-26), 3) := by decide +kernel
theorem d_M_sum_34 : decode prog_14_method_8_code 34 = .ok (.iload_n 3, 1) := by decide +kernel
theorem d_M_sum_35 : decode prog_14_method_8_code 35 = .ok (.ireturn, 1) := by decide +kernel
theorem d_M_halve_0 : decode prog_14_method_9_code 0 = .ok (.iconst 0, 1) := by decide +kernel
theorem d_M_halve_1 : decode prog_14_method_9_code 1 = .ok (.istore_n 3, 1) := by decide +kernel
theorem d_M_halve_2 : decode prog_14_method_9_code 2 = .ok (.iload_n 3, 1) := by decide +kernel
theorem d_M_halve_3 : decode prog_14_method_9_code 3 = .ok (.aload_n 0, 1) := by decide +kernel
theorem d_M_halve_4 : decode prog_14_method_9_code 4 = .ok (.getfield 7, 3) := by decide +kernel
theorem d_M_halve_7 : decode prog_14_method_9_code 7 = .ok (.iload_n 2, 1) := by decide +kernel
theorem d_M_halve_8 : decode prog_14_method_9_code 8 = .ok (.iaload, 1) := by decide +kernel
theorem d_M_halve_9 : decode prog_14_method_9_code 9 = .ok (.if_icmp .ge 29, 3) := by decide +kernel
theorem d_M_halve_12 : decode prog_14_method_9_code 12 = .ok (.aload_n 1, 1) := by decide +kernel
theorem d_M_halve_13 : decode prog_14_method_9_code 13 = .ok (.bipush 64, 2) := by decide +kernel
theorem d_M_halve_15 : decode prog_14_method_9_code 15 = .ok (.iload_n 2, 1) := by decide +kernel
theorem d_M_halve_16 : decode prog_14_method_9_code 16 = .ok (.imul, 1) := by decide +kernel
theorem d_M_halve_17 : decode prog_14_method_9_code 17 = .ok (.iload_n 3, 1) := by decide +kernel
theorem d_M_halve_18 : decode prog_14_method_9_code 18 = .ok (.iadd, 1) := by decide +kernel
theorem d_M_halve_19 : decode prog_14_method_9_code 19 = .ok (.aload_n 1, 1) := by decide +kernel
theorem d_M_halve_20 : decode prog_14_method_9_code 20 = .ok (.bipush 64, 2) := by decide +kernel
theorem d_M_halve_22 : decode prog_14_method_9_code 22 = .ok (.iload_n 2, 1) := by decide +kernel
theorem d_M_halve_23 : decode prog_14_method_9_code 23 = .ok (.imul, 1) := by decide +kernel
theorem d_M_halve_24 : decode prog_14_method_9_code 24 = .ok (.iload_n 3, 1) := by decide +kernel
theorem d_M_halve_25 : decode prog_14_method_9_code 25 = .ok (.iadd, 1) := by decide +kernel
theorem d_M_halve_26 : decode prog_14_method_9_code 26 = .ok (.iaload, 1) := by decide +kernel
theorem d_M_halve_27 : decode prog_14_method_9_code 27 = .ok (.iconst 1, 1) := by decide +kernel
theorem d_M_halve_28 : decode prog_14_method_9_code 28 = .ok (.iadd, 1) := by decide +kernel
theorem d_M_halve_29 : decode prog_14_method_9_code 29 = .ok (.iconst 2, 1) := by decide +kernel
theorem d_M_halve_30 : decode prog_14_method_9_code 30 = .ok (.idiv, 1) := by decide +kernel
theorem d_M_halve_31 : decode prog_14_method_9_code 31 = .ok (.iastore, 1) := by decide +kernel
theorem d_M_halve_32 : decode prog_14_method_9_code 32 = .ok (.iinc 3 1, 3) := by decide +kernel
theorem d_M_halve_35 : decode prog_14_method_9_code 35 = .ok (.goto (-33), 3) := by decide +kernel
theorem d_M_halve_38 : decode prog_14_method_9_code 38 = .ok (.return_, 1) := by decide +kernel
theorem d_M_scale_0 : decode prog_14_method_12_code 0 = .ok (.aload_n 0, 1) := by decide +kernel
theorem d_M_scale_1 : decode prog_14_method_12_code 1 = .ok (.aload_n 1, 1) := by decide +kernel
theorem d_M_scale_2 : decode prog_14_method_12_code 2 = .ok (.iload_n 2, 1) := by decide +kernel
theorem d_M_scale_3 : decode prog_14_method_12_code 3 = .ok (.invokevirtual 77, 3) := by decide +kernel
theorem d_M_scale_6 : decode prog_14_method_12_code 6 = .ok (.istore 4, 2) := by decide +kernel
theorem d_M_scale_8 : decode prog_14_method_12_code 8 = .ok (.iload 4, 2) := by decide +kernel
theorem d_M_scale_10 : decode prog_14_method_12_code 10 = .ok (.ifCond .ne 4, 3) := by decide +kernel
theorem d_M_scale_13 : decode prog_14_method_12_code 13 = .ok (.return_, 1) := by decide +kernel
theorem d_M_scale_14 : decode prog_14_method_12_code 14 = .ok (.iconst 0, 1) := by decide +kernel
theorem d_M_scale_15 : decode prog_14_method_12_code 15 = .ok (.istore 5, 2) := by decide +kernel
theorem d_M_scale_17 : decode prog_14_method_12_code 17 = .ok (.iload 5, 2) := by decide +kernel
theorem d_M_scale_19 : decode prog_14_method_12_code 19 = .ok (.aload_n 0, 1) := by decide +kernel
theorem d_M_scale_20 : decode prog_14_method_12_code 20 = .ok (.getfield 7, 3) := by decide +kernel
theorem d_M_scale_23 : decode prog_14_method_12_code 23 = .ok (.iload_n 2, 1) := by decide +kernel
theorem d_M_scale_24 : decode prog_14_method_12_code 24 = .ok (.iaload, 1) := by decide +kernel
theorem d_M_scale_25 : decode prog_14_method_12_code 25 = .ok (.if_icmp .ge 59, 3) := by decide +kernel
theorem d_M_scale_28 : decode prog_14_method_12_code 28 = .ok (.aload_n 1, 1) := by decide +kernel
theorem d_M_scale_29 : decode prog_14_method_12_code 29 = .ok (.bipush 64, 2) := by decide +kernel
theorem d_M_scale_31 : decode prog_14_method_12_code 31 = .ok (.iload_n 2, 1) := by decide +kernel
theorem d_M_scale_32 : decode prog_14_method_12_code 32 = .ok (.imul, 1) := by decide +kernel
theorem d_M_scale_33 : decode prog_14_method_12_code 33 = .ok (.iload 5, 2) := by decide +kernel
theorem d_M_scale_35 : decode prog_14_method_12_code 35 = .ok (.iadd, 1) := by decide +kernel
theorem d_M_scale_36 : decode prog_14_method_12_code 36 = .ok (.iaload, 1) := by decide +kernel
theorem d_M_scale_37 : decode prog_14_method_12_code 37 = .ok (.istore 6, 2) := by decide +kernel
theorem d_M_scale_39 : decode prog_14_method_12_code 39 = .ok (.iload 6, 2) := by decide +kernel
theorem d_M_scale_41 : decode prog_14_method_12_code 41 = .ok (.iload_n 3, 1) := by decide +kernel
theorem d_M_scale_42 : decode prog_14_method_12_code 42 = .ok (.imul, 1) := by decide +kernel
theorem d_M_scale_43 : decode prog_14_method_12_code 43 = .ok (.iload 4, 2) := by decide +kernel
theorem d_M_scale_45 : decode prog_14_method_12_code 45 = .ok (.idiv, 1) := by decide +kernel
theorem d_M_scale_46 : decode prog_14_method_12_code 46 = .ok (.istore 7, 2) := by decide +kernel
theorem d_M_scale_48 : decode prog_14_method_12_code 48 = .ok (.aload_n 1, 1) := by decide +kernel
theorem d_M_scale_49 : decode prog_14_method_12_code 49 = .ok (.bipush 64, 2) := by decide +kernel
theorem d_M_scale_51 : decode prog_14_method_12_code 51 = .ok (.iload_n 2, 1) := by decide +kernel
theorem d_M_scale_52 : decode prog_14_method_12_code 52 = .ok (.imul, 1) := by decide +kernel
theorem d_M_scale_53 : decode prog_14_method_12_code 53 = .ok (.iload 5, 2) := by decide +kernel
theorem d_M_scale_55 : decode prog_14_method_12_code 55 = .ok (.iadd, 1) := by decide +kernel
theorem d_M_scale_56 : decode prog_14_method_12_code 56 = .ok (.iload 6, 2) := by decide +kernel
theorem d_M_scale_58 : decode prog_14_method_12_code 58 = .ok (.ifCond .ne 7, 3) := by decide +kernel
theorem d_M_scale_61 : decode prog_14_method_12_code 61 = .ok (.iconst 0, 1) := by decide +kernel
theorem d_M_scale_62 : decode prog_14_method_12_code 62 = .ok (.goto 15, 3) := by decide +kernel
theorem d_M_scale_65 : decode prog_14_method_12_code 65 = .ok (.iload 7, 2) := by decide +kernel
theorem d_M_scale_67 : decode prog_14_method_12_code 67 = .ok (.iconst 1, 1) := by decide +kernel
theorem d_M_scale_68 : decode prog_14_method_12_code 68 = .ok (.if_icmp .ge 7, 3) := by decide +kernel
theorem d_M_scale_71 : decode prog_14_method_12_code 71 = .ok (.iconst 1, 1) := by decide +kernel
theorem d_M_scale_72 : decode prog_14_method_12_code 72 = .ok (.goto 5, 3) := by decide +kernel
theorem d_M_scale_75 : decode prog_14_method_12_code 75 = .ok (.iload 7, 2) := by decide +kernel
theorem d_M_scale_77 : decode prog_14_method_12_code 77 = .ok (.iastore, 1) := by decide +kernel
theorem d_M_scale_78 : decode prog_14_method_12_code 78 = .ok (.iinc 5 1, 3) := by decide +kernel
theorem d_M_scale_81 : decode prog_14_method_12_code 81 = .ok (.goto (-64), 3) := by decide +kernel
theorem d_M_scale_84 : decode prog_14_method_12_code 84 = .ok (.aload_n 0, 1) := by decide +kernel
theorem d_M_scale_85 : decode prog_14_method_12_code 85 = .ok (.aload_n 1, 1) := by decide +kernel
theorem d_M_scale_86 : decode prog_14_method_12_code 86 = .ok (.iload_n 2, 1) := by decide +kernel
theorem d_M_scale_87 : decode prog_14_method_12_code 87 = .ok (.invokevirtual 77, 3) := by decide +kernel
theorem d_M_scale_90 : decode prog_14_method_12_code 90 = .ok (.iload_n 3, 1) := by decide +kernel
theorem d_M_scale_91 : decode prog_14_method_12_code 91 = .ok (.if_icmp .le 24, 3) := by decide +kernel
theorem d_M_scale_94 : decode prog_14_method_12_code 94 = .ok (.aload_n 0, 1) := by decide +kernel
theorem d_M_scale_95 : decode prog_14_method_12_code 95 = .ok (.aload_n 1, 1) := by decide +kernel
theorem d_M_scale_96 : decode prog_14_method_12_code 96 = .ok (.iload_n 2, 1) := by decide +kernel
theorem d_M_scale_97 : decode prog_14_method_12_code 97 = .ok (.invokevirtual 84, 3) := by decide +kernel
theorem d_M_scale_100 : decode prog_14_method_12_code 100 = .ok (.istore 5, 2) := by decide +kernel
theorem d_M_scale_102 : decode prog_14_method_12_code 102 = .ok (.aload_n 1, 1) := by decide +kernel
theorem d_M_scale_103 : decode prog_14_method_12_code 103 = .ok (.iload 5, 2) := by decide +kernel
theorem d_M_scale_105 : decode prog_14_method_12_code 105 = .ok (.aload_n 1, 1) := by decide +kernel
theorem d_M_scale_106 : decode prog_14_method_12_code 106 = .ok (.iload 5, 2) := by decide +kernel
theorem d_M_scale_108 : decode prog_14_method_12_code 108 = .ok (.iaload, 1) := by decide +kernel
theorem d_M_scale_109 : decode prog_14_method_12_code 109 = .ok (.iconst 1, 1) := by decide +kernel
theorem d_M_scale_110 : decode prog_14_method_12_code 110 = .ok (.isub, 1) := by decide +kernel
theorem d_M_scale_111 : decode prog_14_method_12_code 111 = .ok (.iastore, 1) := by decide +kernel
theorem d_M_scale_112 : decode prog_14_method_12_code 112 = .ok (.goto (-28), 3) := by decide +kernel
theorem d_M_scale_115 : decode prog_14_method_12_code 115 = .ok (.iload_n 3, 1) := by decide +kernel
theorem d_M_scale_116 : decode prog_14_method_12_code 116 = .ok (.aload_n 0, 1) := by decide +kernel
theorem d_M_scale_117 : decode prog_14_method_12_code 117 = .ok (.aload_n 1, 1) := by decide +kernel
theorem d_M_scale_118 : decode prog_14_method_12_code 118 = .ok (.iload_n 2, 1) := by decide +kernel
theorem d_M_scale_119 : decode prog_14_method_12_code 119 = .ok (.invokevirtual 77, 3) := by decide +kernel
theorem d_M_scale_122 : decode prog_14_method_12_code 122 = .ok (.isub, 1) := by decide +kernel
theorem d_M_scale_123 : decode prog_14_method_12_code 123 = .ok (.istore 5, 2) := by decide +kernel
theorem d_M_scale_125 : decode prog_14_method_12_code 125 = .ok (.aload_n 0, 1) := by decide +kernel
theorem d_M_scale_126 : decode prog_14_method_12_code 126 = .ok (.aload_n 1, 1) := by decide +kernel
theorem d_M_scale_127 : decode prog_14_method_12_code 127 = .ok (.iload_n 2, 1) := by decide +kernel
theorem d_M_scale_128 : decode prog_14_method_12_code 128 = .ok (.invokevirtual 84, 3) := by decide +kernel
theorem d_M_scale_131 : decode prog_14_method_12_code 131 = .ok (.istore 6, 2) := by decide +kernel
theorem d_M_scale_133 : decode prog_14_method_12_code 133 = .ok (.aload_n 1, 1) := by decide +kernel
theorem d_M_scale_134 : decode prog_14_method_12_code 134 = .ok (.iload 6, 2) := by decide +kernel
theorem d_M_scale_136 : decode prog_14_method_12_code 136 = .ok (.aload_n 1, 1) := by decide +kernel
theorem d_M_scale_137 : decode prog_14_method_12_code 137 = .ok (.iload 6, 2) := by decide +kernel
theorem d_M_scale_139 : decode prog_14_method_12_code 139 = .ok (.iaload, 1) := by decide +kernel
theorem d_M_scale_140 : decode prog_14_method_12_code 140 = .ok (.iload 5, 2) := by decide +kernel
theorem d_M_scale_142 : decode prog_14_method_12_code 142 = .ok (.iadd, 1) := by decide +kernel
theorem d_M_scale_143 : decode prog_14_method_12_code 143 = .ok (.iastore, 1) := by decide +kernel
theorem d_M_scale_144 : decode prog_14_method_12_code 144 = .ok (.return_, 1) := by decide +kernel
theorem d_M_greatest_0 : decode prog_14_method_11_code 0 = .ok (.iconst 0, 1) := by decide +kernel
theorem d_M_greatest_1 : decode prog_14_method_11_code 1 = .ok (.istore_n 3, 1) := by decide +kernel
theorem d_M_greatest_2 : decode prog_14_method_11_code 2 = .ok (.iconst 1, 1) := by decide +kernel
theorem d_M_greatest_3 : decode prog_14_method_11_code 3 = .ok (.istore 4, 2) := by decide +kernel
theorem d_M_greatest_5 : decode prog_14_method_11_code 5 = .ok (.iload 4, 2) := by decide +kernel
theorem d_M_greatest_7 : decode prog_14_method_11_code 7 = .ok (.aload_n 0, 1) := by decide +kernel
theorem d_M_greatest_8 : decode prog_14_method_11_code 8 = .ok (.getfield 7, 3) := by decide +kernel
theorem d_M_greatest_11 : decode prog_14_method_11_code 11 = .ok (.iload_n 2, 1) := by decide +kernel
theorem d_M_greatest_12 : decode prog_14_method_11_code 12 = .ok (.iaload, 1) := by decide +kernel
theorem d_M_greatest_13 : decode prog_14_method_11_code 13 = .ok (.if_icmp .ge 36, 3) := by decide +kernel
theorem d_M_greatest_16 : decode prog_14_method_11_code 16 = .ok (.aload_n 1, 1) := by decide +kernel
theorem d_M_greatest_17 : decode prog_14_method_11_code 17 = .ok (.bipush 64, 2) := by decide +kernel
theorem d_M_greatest_19 : decode prog_14_method_11_code 19 = .ok (.iload_n 2, 1) := by decide +kernel
theorem d_M_greatest_20 : decode prog_14_method_11_code 20 = .ok (.imul, 1) := by decide +kernel
theorem d_M_greatest_21 : decode prog_14_method_11_code 21 = .ok (.iload 4, 2) := by decide +kernel
theorem d_M_greatest_23 : decode prog_14_method_11_code 23 = .ok (.iadd, 1) := by decide +kernel
theorem d_M_greatest_24 : decode prog_14_method_11_code 24 = .ok (.iaload, 1) := by decide +kernel
theorem d_M_greatest_25 : decode prog_14_method_11_code 25 = .ok (.aload_n 1, 1) := by decide +kernel
theorem d_M_greatest_26 : decode prog_14_method_11_code 26 = .ok (.bipush 64, 2) := by decide +kernel
theorem d_M_greatest_28 : decode prog_14_method_11_code 28 = .ok (.iload_n 2, 1) := by decide +kernel
theorem d_M_greatest_29 : decode prog_14_method_11_code 29 = .ok (.imul, 1) := by decide +kernel
theorem d_M_greatest_30 : decode prog_14_method_11_code 30 = .ok (.iload_n 3, 1) := by decide +kernel
theorem d_M_greatest_31 : decode prog_14_method_11_code 31 = .ok (.iadd, 1) := by decide +kernel
theorem d_M_greatest_32 : decode prog_14_method_11_code 32 = .ok (.iaload, 1) := by decide +kernel
theorem d_M_greatest_33 : decode prog_14_method_11_code 33 = .ok (.if_icmp .le 8, 3) := by decide +kernel
theorem d_M_greatest_36 : decode prog_14_method_11_code 36 = .ok (.iload 4, 2) := by decide +kernel
theorem d_M_greatest_38 : decode prog_14_method_11_code 38 = .ok (.goto 4, 3) := by decide +kernel
theorem d_M_greatest_41 : decode prog_14_method_11_code 41 = .ok (.iload_n 3, 1) := by decide +kernel
theorem d_M_greatest_42 : decode prog_14_method_11_code 42 = .ok (.istore_n 3, 1) := by decide +kernel
theorem d_M_greatest_43 : decode prog_14_method_11_code 43 = .ok (.iinc 4 1, 3) := by decide +kernel
theorem d_M_greatest_46 : decode prog_14_method_11_code 46 = .ok (.goto (-41), 3) := by decide +kernel
theorem d_M_greatest_49 : decode prog_14_method_11_code 49 = .ok (.bipush 64, 2) := by decide +kernel
theorem d_M_greatest_51 : decode prog_14_method_11_code 51 = .ok (.iload_n 2, 1) := by decide +kernel
theorem d_M_greatest_52 : decode prog_14_method_11_code 52 = .ok (.imul, 1) := by decide +kernel
theorem d_M_greatest_53 : decode prog_14_method_11_code 53 = .ok (.iload_n 3, 1) := by decide +kernel
theorem d_M_greatest_54 : decode prog_14_method_11_code 54 = .ok (.iadd, 1) := by decide +kernel
theorem d_M_greatest_55 : decode prog_14_method_11_code 55 = .ok (.ireturn, 1) := by decide +kernel
theorem d_M_model_0 : decode prog_14_method_13_code 0 = .ok (.aload_n 0, 1) := by decide +kernel
theorem d_M_model_1 : decode prog_14_method_13_code 1 = .ok (.iconst 0, 1) := by decide +kernel
theorem d_M_model_2 : decode prog_14_method_13_code 2 = .ok (.putfield 56, 3) := by decide +kernel
theorem d_M_model_5 : decode prog_14_method_13_code 5 = .ok (.iload_n 1, 1) := by decide +kernel
theorem d_M_model_6 : decode prog_14_method_13_code 6 = .ok (.iconst 2, 1) := by decide +kernel
theorem d_M_model_7 : decode prog_14_method_13_code 7 = .ok (.bipush 64, 2) := by decide +kernel
theorem d_M_model_9 : decode prog_14_method_13_code 9 = .ok (.invokestatic 62, 3) := by decide +kernel
theorem d_M_model_12 : decode prog_14_method_13_code 12 = .ok (.ifCond .ne 6, 3) := by decide +kernel
theorem d_M_model_15 : decode prog_14_method_13_code 15 = .ok (.bipush (-2), 2) := by decide +kernel
theorem d_M_model_17 : decode prog_14_method_13_code 17 = .ok (.ireturn, 1) := by decide +kernel
theorem d_M_model_18 : decode prog_14_method_13_code 18 = .ok (.aload_n 0, 1) := by decide +kernel
theorem d_M_model_19 : decode prog_14_method_13_code 19 = .ok (.getfield 59, 3) := by decide +kernel
theorem d_M_model_22 : decode prog_14_method_13_code 22 = .ok (.bipush 8, 2) := by decide +kernel
theorem d_M_model_24 : decode prog_14_method_13_code 24 = .ok (.if_icmp .ne 6, 3) := by decide +kernel
theorem d_M_model_27 : decode prog_14_method_13_code 27 = .ok (.bipush (-4), 2) := by decide +kernel
theorem d_M_model_29 : decode prog_14_method_13_code 29 = .ok (.ireturn, 1) := by decide +kernel
theorem d_M_model_30 : decode prog_14_method_13_code 30 = .ok (.aload_n 0, 1) := by decide +kernel
theorem d_M_model_31 : decode prog_14_method_13_code 31 = .ok (.getfield 59, 3) := by decide +kernel
theorem d_M_model_34 : decode prog_14_method_13_code 34 = .ok (.istore_n 2, 1) := by decide +kernel
theorem d_M_model_35 : decode prog_14_method_13_code 35 = .ok (.aload_n 0, 1) := by decide +kernel
theorem d_M_model_36 : decode prog_14_method_13_code 36 = .ok (.dup, 1) := by decide +kernel
theorem d_M_model_37 : decode prog_14_method_13_code 37 = .ok (.getfield 59, 3) := by decide +kernel
theorem d_M_model_40 : decode prog_14_method_13_code 40 = .ok (.iconst 1, 1) := by decide +kernel
theorem d_M_model_41 : decode prog_14_method_13_code 41 = .ok (.iadd, 1) := by decide +kernel
theorem d_M_model_42 : decode prog_14_method_13_code 42 = .ok (.putfield 59, 3) := by decide +kernel
theorem d_M_model_45 : decode prog_14_method_13_code 45 = .ok (.aload_n 0, 1) := by decide +kernel
theorem d_M_model_46 : decode prog_14_method_13_code 46 = .ok (.getfield 7, 3) := by decide +kernel
theorem d_M_model_49 : decode prog_14_method_13_code 49 = .ok (.iload_n 2, 1) := by decide +kernel
theorem d_M_model_50 : decode prog_14_method_13_code 50 = .ok (.iload_n 1, 1) := by decide +kernel
theorem d_M_model_51 : decode prog_14_method_13_code 51 = .ok (.iastore, 1) := by decide +kernel
theorem d_M_model_52 : decode prog_14_method_13_code 52 = .ok (.iconst 0, 1) := by decide +kernel
theorem d_M_model_53 : decode prog_14_method_13_code 53 = .ok (.istore_n 3, 1) := by decide +kernel
theorem d_M_model_54 : decode prog_14_method_13_code 54 = .ok (.iload_n 3, 1) := by decide +kernel
theorem d_M_model_55 : decode prog_14_method_13_code 55 = .ok (.iload_n 1, 1) := by decide +kernel
theorem d_M_model_56 : decode prog_14_method_13_code 56 = .ok (.if_icmp .ge 21, 3) := by decide +kernel
theorem d_M_model_59 : decode prog_14_method_13_code 59 = .ok (.aload_n 0, 1) := by decide +kernel
theorem d_M_model_60 : decode prog_14_method_13_code 60 = .ok (.getfield 13, 3) := by decide +kernel
theorem d_M_model_63 : decode prog_14_method_13_code 63 = .ok (.bipush 64, 2) := by decide +kernel
theorem d_M_model_65 : decode prog_14_method_13_code 65 = .ok (.iload_n 2, 1) := by decide +kernel
theorem d_M_model_66 : decode prog_14_method_13_code 66 = .ok (.imul, 1) := by decide +kernel
theorem d_M_model_67 : decode prog_14_method_13_code 67 = .ok (.iload_n 3, 1) := by decide +kernel
theorem d_M_model_68 : decode prog_14_method_13_code 68 = .ok (.iadd, 1) := by decide +kernel
theorem d_M_model_69 : decode prog_14_method_13_code 69 = .ok (.iconst 1, 1) := by decide +kernel
theorem d_M_model_70 : decode prog_14_method_13_code 70 = .ok (.iastore, 1) := by decide +kernel
theorem d_M_model_71 : decode prog_14_method_13_code 71 = .ok (.iinc 3 1, 3) := by decide +kernel
theorem d_M_model_74 : decode prog_14_method_13_code 74 = .ok (.goto (-20), 3) := by decide +kernel
theorem d_M_model_77 : decode prog_14_method_13_code 77 = .ok (.aload_n 0, 1) := by decide +kernel
theorem d_M_model_78 : decode prog_14_method_13_code 78 = .ok (.aload_n 0, 1) := by decide +kernel
theorem d_M_model_79 : decode prog_14_method_13_code 79 = .ok (.getfield 16, 3) := by decide +kernel
theorem d_M_model_82 : decode prog_14_method_13_code 82 = .ok (.iload_n 2, 1) := by decide +kernel
theorem d_M_model_83 : decode prog_14_method_13_code 83 = .ok (.invokevirtual 87, 3) := by decide +kernel
theorem d_M_model_86 : decode prog_14_method_13_code 86 = .ok (.aload_n 0, 1) := by decide +kernel
theorem d_M_model_87 : decode prog_14_method_13_code 87 = .ok (.aload_n 0, 1) := by decide +kernel
theorem d_M_model_88 : decode prog_14_method_13_code 88 = .ok (.getfield 19, 3) := by decide +kernel
theorem d_M_model_91 : decode prog_14_method_13_code 91 = .ok (.iload_n 2, 1) := by decide +kernel
theorem d_M_model_92 : decode prog_14_method_13_code 92 = .ok (.invokevirtual 87, 3) := by decide +kernel
theorem d_M_model_95 : decode prog_14_method_13_code 95 = .ok (.iload_n 2, 1) := by decide +kernel
theorem d_M_model_96 : decode prog_14_method_13_code 96 = .ok (.ireturn, 1) := by decide +kernel
theorem d_M_in_0 : decode prog_14_method_3_code 0 = .ok (.iload_n 0, 1) := by decide +kernel
theorem d_M_in_1 : decode prog_14_method_3_code 1 = .ok (.iload_n 1, 1) := by decide +kernel
theorem d_M_in_2 : decode prog_14_method_3_code 2 = .ok (.if_icmp .lt 12, 3) := by decide +kernel
theorem d_M_in_5 : decode prog_14_method_3_code 5 = .ok (.iload_n 0, 1) := by decide +kernel
theorem d_M_in_6 : decode prog_14_method_3_code 6 = .ok (.iload_n 2, 1) := by decide +kernel
theorem d_M_in_7 : decode prog_14_method_3_code 7 = .ok (.if_icmp .gt 7, 3) := by decide +kernel
theorem d_M_in_10 : decode prog_14_method_3_code 10 = .ok (.iconst 1, 1) := by decide +kernel
theorem d_M_in_11 : decode prog_14_method_3_code 11 = .ok (.goto 4, 3) := by decide +kernel
theorem d_M_in_14 : decode prog_14_method_3_code 14 = .ok (.iconst 0, 1) := by decide +kernel
theorem d_M_in_15 : decode prog_14_method_3_code 15 = .ok (.ireturn, 1) := by decide +kernel
theorem d_M_count_0 : decode prog_14_method_14_code 0 = .ok (.aload_n 0, 1) := by decide +kernel
theorem d_M_count_1 : decode prog_14_method_14_code 1 = .ok (.iconst 0, 1) := by decide +kernel
theorem d_M_count_2 : decode prog_14_method_14_code 2 = .ok (.putfield 56, 3) := by decide +kernel
theorem d_M_count_5 : decode prog_14_method_14_code 5 = .ok (.aload_n 0, 1) := by decide +kernel
theorem d_M_count_6 : decode prog_14_method_14_code 6 = .ok (.iload_n 1, 1) := by decide +kernel
theorem d_M_count_7 : decode prog_14_method_14_code 7 = .ok (.iload_n 2, 1) := by decide +kernel
theorem d_M_count_8 : decode prog_14_method_14_code 8 = .ok (.invokevirtual 90, 3) := by decide +kernel
theorem d_M_count_11 : decode prog_14_method_14_code 11 = .ok (.ifCond .ne 5, 3) := by decide +kernel
theorem d_M_count_14 : decode prog_14_method_14_code 14 = .ok (.iconst (-1), 1) := by decide +kernel
theorem d_M_count_15 : decode prog_14_method_14_code 15 = .ok (.ireturn, 1) := by decide +kernel
theorem d_M_count_16 : decode prog_14_method_14_code 16 = .ok (.iload_n 3, 1) := by decide +kernel
theorem d_M_count_17 : decode prog_14_method_14_code 17 = .ok (.iconst 0, 1) := by decide +kernel
theorem d_M_count_18 : decode prog_14_method_14_code 18 = .ok (.sipush 4095, 3) := by decide +kernel
theorem d_M_count_21 : decode prog_14_method_14_code 21 = .ok (.invokestatic 62, 3) := by decide +kernel
theorem d_M_count_24 : decode prog_14_method_14_code 24 = .ok (.ifCond .ne 6, 3) := by decide +kernel
theorem d_M_count_27 : decode prog_14_method_14_code 27 = .ok (.bipush (-2), 2) := by decide +kernel
theorem d_M_count_29 : decode prog_14_method_14_code 29 = .ok (.ireturn, 1) := by decide +kernel
theorem d_M_count_30 : decode prog_14_method_14_code 30 = .ok (.aload_n 0, 1) := by decide +kernel
theorem d_M_count_31 : decode prog_14_method_14_code 31 = .ok (.getfield 94, 3) := by decide +kernel
theorem d_M_count_34 : decode prog_14_method_14_code 34 = .ok (.ifCond .le 10, 3) := by decide +kernel
theorem d_M_count_37 : decode prog_14_method_14_code 37 = .ok (.aload_n 0, 1) := by decide +kernel
theorem d_M_count_38 : decode prog_14_method_14_code 38 = .ok (.getfield 97, 3) := by decide +kernel
theorem d_M_count_41 : decode prog_14_method_14_code 41 = .ok (.ifCond .eq 10, 3) := by decide +kernel
theorem d_M_count_44 : decode prog_14_method_14_code 44 = .ok (.aload_n 0, 1) := by decide +kernel
theorem d_M_count_45 : decode prog_14_method_14_code 45 = .ok (.getfield 101, 3) := by decide +kernel
theorem d_M_count_48 : decode prog_14_method_14_code 48 = .ok (.ifCond .eq 6, 3) := by decide +kernel
theorem d_M_count_51 : decode prog_14_method_14_code 51 = .ok (.bipush (-3), 2) := by decide +kernel
theorem d_M_count_53 : decode prog_14_method_14_code 53 = .ok (.ireturn, 1) := by decide +kernel
theorem d_M_count_54 : decode prog_14_method_14_code 54 = .ok (.aload_n 0, 1) := by decide +kernel
theorem d_M_count_55 : decode prog_14_method_14_code 55 = .ok (.getfield 13, 3) := by decide +kernel
theorem d_M_count_58 : decode prog_14_method_14_code 58 = .ok (.bipush 64, 2) := by decide +kernel
theorem d_M_count_60 : decode prog_14_method_14_code 60 = .ok (.iload_n 1, 1) := by decide +kernel
theorem d_M_count_61 : decode prog_14_method_14_code 61 = .ok (.imul, 1) := by decide +kernel
theorem d_M_count_62 : decode prog_14_method_14_code 62 = .ok (.iload_n 2, 1) := by decide +kernel
theorem d_M_count_63 : decode prog_14_method_14_code 63 = .ok (.iadd, 1) := by decide +kernel
theorem d_M_count_64 : decode prog_14_method_14_code 64 = .ok (.iaload, 1) := by decide +kernel
theorem d_M_count_65 : decode prog_14_method_14_code 65 = .ok (.istore 4, 2) := by decide +kernel
theorem d_M_count_67 : decode prog_14_method_14_code 67 = .ok (.aload_n 0, 1) := by decide +kernel
theorem d_M_count_68 : decode prog_14_method_14_code 68 = .ok (.getfield 13, 3) := by decide +kernel
theorem d_M_count_71 : decode prog_14_method_14_code 71 = .ok (.bipush 64, 2) := by decide +kernel
theorem d_M_count_73 : decode prog_14_method_14_code 73 = .ok (.iload_n 1, 1) := by decide +kernel
theorem d_M_count_74 : decode prog_14_method_14_code 74 = .ok (.imul, 1) := by decide +kernel
theorem d_M_count_75 : decode prog_14_method_14_code 75 = .ok (.iload_n 2, 1) := by decide +kernel
theorem d_M_count_76 : decode prog_14_method_14_code 76 = .ok (.iadd, 1) := by decide +kernel
theorem d_M_count_77 : decode prog_14_method_14_code 77 = .ok (.iload_n 3, 1) := by decide +kernel
theorem d_M_count_78 : decode prog_14_method_14_code 78 = .ok (.iastore, 1) := by decide +kernel
theorem d_M_count_79 : decode prog_14_method_14_code 79 = .ok (.aload_n 0, 1) := by decide +kernel
theorem d_M_count_80 : decode prog_14_method_14_code 80 = .ok (.getfield 97, 3) := by decide +kernel
theorem d_M_count_83 : decode prog_14_method_14_code 83 = .ok (.ifCond .ne 12, 3) := by decide +kernel
theorem d_M_count_86 : decode prog_14_method_14_code 86 = .ok (.aload_n 0, 1) := by decide +kernel
theorem d_M_count_87 : decode prog_14_method_14_code 87 = .ok (.aload_n 0, 1) := by decide +kernel
theorem d_M_count_88 : decode prog_14_method_14_code 88 = .ok (.getfield 16, 3) := by decide +kernel
theorem d_M_count_91 : decode prog_14_method_14_code 91 = .ok (.iload_n 1, 1) := by decide +kernel
theorem d_M_count_92 : decode prog_14_method_14_code 92 = .ok (.invokevirtual 87, 3) := by decide +kernel
theorem d_M_count_95 : decode prog_14_method_14_code 95 = .ok (.iload 4, 2) := by decide +kernel
theorem d_M_count_97 : decode prog_14_method_14_code 97 = .ok (.ireturn, 1) := by decide +kernel
theorem d_M_isSign_0 : decode prog_14_method_5_code 0 = .ok (.aload_n 0, 1) := by decide +kernel
theorem d_M_isSign_1 : decode prog_14_method_5_code 1 = .ok (.iload_n 1, 1) := by decide +kernel
theorem d_M_isSign_2 : decode prog_14_method_5_code 2 = .ok (.invokevirtual 65, 3) := by decide +kernel
theorem d_M_isSign_5 : decode prog_14_method_5_code 5 = .ok (.ifCond .eq 23, 3) := by decide +kernel
theorem d_M_isSign_8 : decode prog_14_method_5_code 8 = .ok (.iload_n 2, 1) := by decide +kernel
theorem d_M_isSign_9 : decode prog_14_method_5_code 9 = .ok (.iconst 0, 1) := by decide +kernel
theorem d_M_isSign_10 : decode prog_14_method_5_code 10 = .ok (.aload_n 0, 1) := by decide +kernel
theorem d_M_isSign_11 : decode prog_14_method_5_code 11 = .ok (.getfield 7, 3) := by decide +kernel
theorem d_M_isSign_14 : decode prog_14_method_5_code 14 = .ok (.iload_n 1, 1) := by decide +kernel
theorem d_M_isSign_15 : decode prog_14_method_5_code 15 = .ok (.iaload, 1) := by decide +kernel
theorem d_M_isSign_16 : decode prog_14_method_5_code 16 = .ok (.iconst 1, 1) := by decide +kernel
theorem d_M_isSign_17 : decode prog_14_method_5_code 17 = .ok (.isub, 1) := by decide +kernel
theorem d_M_isSign_18 : decode prog_14_method_5_code 18 = .ok (.invokestatic 62, 3) := by decide +kernel
theorem d_M_isSign_21 : decode prog_14_method_5_code 21 = .ok (.ifCond .eq 7, 3) := by decide +kernel
theorem d_M_isSign_24 : decode prog_14_method_5_code 24 = .ok (.iconst 1, 1) := by decide +kernel
theorem d_M_isSign_25 : decode prog_14_method_5_code 25 = .ok (.goto 4, 3) := by decide +kernel
theorem d_M_isSign_28 : decode prog_14_method_5_code 28 = .ok (.iconst 0, 1) := by decide +kernel
theorem d_M_isSign_29 : decode prog_14_method_5_code 29 = .ok (.ireturn, 1) := by decide +kernel
theorem d_M_isModel_0 : decode prog_14_method_4_code 0 = .ok (.iload_n 1, 1) := by decide +kernel
theorem d_M_isModel_1 : decode prog_14_method_4_code 1 = .ok (.iconst 0, 1) := by decide +kernel
theorem d_M_isModel_2 : decode prog_14_method_4_code 2 = .ok (.aload_n 0, 1) := by decide +kernel
theorem d_M_isModel_3 : decode prog_14_method_4_code 3 = .ok (.getfield 59, 3) := by decide +kernel
theorem d_M_isModel_6 : decode prog_14_method_4_code 6 = .ok (.iconst 1, 1) := by decide +kernel
theorem d_M_isModel_7 : decode prog_14_method_4_code 7 = .ok (.isub, 1) := by decide +kernel
theorem d_M_isModel_8 : decode prog_14_method_4_code 8 = .ok (.invokestatic 62, 3) := by decide +kernel
theorem d_M_isModel_11 : decode prog_14_method_4_code 11 = .ok (.ireturn, 1) := by decide +kernel
theorem d_M_begin_0 : decode prog_14_method_16_code 0 = .ok (.aload_n 0, 1) := by decide +kernel
theorem d_M_begin_1 : decode prog_14_method_16_code 1 = .ok (.iconst 0, 1) := by decide +kernel
theorem d_M_begin_2 : decode prog_14_method_16_code 2 = .ok (.putfield 56, 3) := by decide +kernel
theorem d_M_begin_5 : decode prog_14_method_16_code 5 = .ok (.aload_n 0, 1) := by decide +kernel
theorem d_M_begin_6 : decode prog_14_method_16_code 6 = .ok (.getfield 94, 3) := by decide +kernel
theorem d_M_begin_9 : decode prog_14_method_16_code 9 = .ok (.istore_n 1, 1) := by decide +kernel
theorem d_M_begin_10 : decode prog_14_method_16_code 10 = .ok (.aload_n 0, 1) := by decide +kernel
theorem d_M_begin_11 : decode prog_14_method_16_code 11 = .ok (.invokevirtual 53, 3) := by decide +kernel
theorem d_M_begin_14 : decode prog_14_method_16_code 14 = .ok (.iload_n 1, 1) := by decide +kernel
theorem d_M_begin_15 : decode prog_14_method_16_code 15 = .ok (.ireturn, 1) := by decide +kernel
theorem d_M_put_0 : decode prog_14_method_29_code 0 = .ok (.aload_n 0, 1) := by decide +kernel
theorem d_M_put_1 : decode prog_14_method_29_code 1 = .ok (.iconst 0, 1) := by decide +kernel
theorem d_M_put_2 : decode prog_14_method_29_code 2 = .ok (.putfield 56, 3) := by decide +kernel
theorem d_M_put_5 : decode prog_14_method_29_code 5 = .ok (.aload_n 0, 1) := by decide +kernel
theorem d_M_put_6 : decode prog_14_method_29_code 6 = .ok (.iload_n 1, 1) := by decide +kernel
theorem d_M_put_7 : decode prog_14_method_29_code 7 = .ok (.iload_n 2, 1) := by decide +kernel
theorem d_M_put_8 : decode prog_14_method_29_code 8 = .ok (.invokevirtual 90, 3) := by decide +kernel
theorem d_M_put_11 : decode prog_14_method_29_code 11 = .ok (.ifCond .ne 5, 3) := by decide +kernel
theorem d_M_put_14 : decode prog_14_method_29_code 14 = .ok (.iconst (-1), 1) := by decide +kernel
theorem d_M_put_15 : decode prog_14_method_29_code 15 = .ok (.ireturn, 1) := by decide +kernel
theorem d_M_put_16 : decode prog_14_method_29_code 16 = .ok (.aload_n 0, 1) := by decide +kernel
theorem d_M_put_17 : decode prog_14_method_29_code 17 = .ok (.getfield 97, 3) := by decide +kernel
theorem d_M_put_20 : decode prog_14_method_29_code 20 = .ok (.ifCond .ne 25, 3) := by decide +kernel
theorem d_M_put_23 : decode prog_14_method_29_code 23 = .ok (.aload_n 0, 1) := by decide +kernel
theorem d_M_put_24 : decode prog_14_method_29_code 24 = .ok (.getfield 46, 3) := by decide +kernel
theorem d_M_put_27 : decode prog_14_method_29_code 27 = .ok (.iconst 2, 1) := by decide +kernel
theorem d_M_put_28 : decode prog_14_method_29_code 28 = .ok (.if_icmp .eq 20, 3) := by decide +kernel
theorem d_M_put_31 : decode prog_14_method_29_code 31 = .ok (.aload_n 0, 1) := by decide +kernel
theorem d_M_put_32 : decode prog_14_method_29_code 32 = .ok (.getfield 16, 3) := by decide +kernel
theorem d_M_put_35 : decode prog_14_method_29_code 35 = .ok (.bipush 64, 2) := by decide +kernel
theorem d_M_put_37 : decode prog_14_method_29_code 37 = .ok (.iload_n 1, 1) := by decide +kernel
theorem d_M_put_38 : decode prog_14_method_29_code 38 = .ok (.imul, 1) := by decide +kernel
theorem d_M_put_39 : decode prog_14_method_29_code 39 = .ok (.iload_n 2, 1) := by decide +kernel
theorem d_M_put_40 : decode prog_14_method_29_code 40 = .ok (.iadd, 1) := by decide +kernel
theorem d_M_put_41 : decode prog_14_method_29_code 41 = .ok (.iaload, 1) := by decide +kernel
theorem d_M_put_42 : decode prog_14_method_29_code 42 = .ok (.ifCond .ne 6, 3) := by decide +kernel
theorem d_M_put_45 : decode prog_14_method_29_code 45 = .ok (.bipush (-3), 2) := by decide +kernel
theorem d_M_put_47 : decode prog_14_method_29_code 47 = .ok (.ireturn, 1) := by decide +kernel
theorem d_M_put_48 : decode prog_14_method_29_code 48 = .ok (.aload_n 0, 1) := by decide +kernel
theorem d_M_put_49 : decode prog_14_method_29_code 49 = .ok (.getfield 94, 3) := by decide +kernel
theorem d_M_put_52 : decode prog_14_method_29_code 52 = .ok (.sipush 600, 3) := by decide +kernel
theorem d_M_put_55 : decode prog_14_method_29_code 55 = .ok (.if_icmp .ne 6, 3) := by decide +kernel
theorem d_M_put_58 : decode prog_14_method_29_code 58 = .ok (.bipush (-4), 2) := by decide +kernel
theorem d_M_put_60 : decode prog_14_method_29_code 60 = .ok (.ireturn, 1) := by decide +kernel
theorem d_M_put_61 : decode prog_14_method_29_code 61 = .ok (.aload_n 0, 1) := by decide +kernel
theorem d_M_put_62 : decode prog_14_method_29_code 62 = .ok (.iload_n 1, 1) := by decide +kernel
theorem d_M_put_63 : decode prog_14_method_29_code 63 = .ok (.iload_n 2, 1) := by decide +kernel
theorem d_M_put_64 : decode prog_14_method_29_code 64 = .ok (.invokevirtual 169, 3) := by decide +kernel
theorem d_M_put_67 : decode prog_14_method_29_code 67 = .ok (.aload_n 0, 1) := by decide +kernel
theorem d_M_put_68 : decode prog_14_method_29_code 68 = .ok (.iload_n 1, 1) := by decide +kernel
theorem d_M_put_69 : decode prog_14_method_29_code 69 = .ok (.iload_n 2, 1) := by decide +kernel
theorem d_M_put_70 : decode prog_14_method_29_code 70 = .ok (.invokevirtual 172, 3) := by decide +kernel
theorem d_M_put_73 : decode prog_14_method_29_code 73 = .ok (.ireturn, 1) := by decide +kernel
theorem d_M_putSign_0 : decode prog_14_method_24_code 0 = .ok (.aload_n 0, 1) := by decide +kernel
theorem d_M_putSign_1 : decode prog_14_method_24_code 1 = .ok (.getfield 46, 3) := by decide +kernel
theorem d_M_putSign_4 : decode prog_14_method_24_code 4 = .ok (.iconst 2, 1) := by decide +kernel
theorem d_M_putSign_5 : decode prog_14_method_24_code 5 = .ok (.if_icmp .ge 50, 3) := by decide +kernel
theorem d_M_putSign_8 : decode prog_14_method_24_code 8 = .ok (.aload_n 0, 1) := by decide +kernel
theorem d_M_putSign_9 : decode prog_14_method_24_code 9 = .ok (.aload_n 0, 1) := by decide +kernel
theorem d_M_putSign_10 : decode prog_14_method_24_code 10 = .ok (.aload_n 0, 1) := by decide +kernel
theorem d_M_putSign_11 : decode prog_14_method_24_code 11 = .ok (.getfield 16, 3) := by decide +kernel
theorem d_M_putSign_14 : decode prog_14_method_24_code 14 = .ok (.iload_n 1, 1) := by decide +kernel
theorem d_M_putSign_15 : decode prog_14_method_24_code 15 = .ok (.iload_n 2, 1) := by decide +kernel
theorem d_M_putSign_16 : decode prog_14_method_24_code 16 = .ok (.invokevirtual 147, 3) := by decide +kernel
theorem d_M_putSign_19 : decode prog_14_method_24_code 19 = .ok (.aload_n 0, 1) := by decide +kernel
theorem d_M_putSign_20 : decode prog_14_method_24_code 20 = .ok (.getfield 16, 3) := by decide +kernel
theorem d_M_putSign_23 : decode prog_14_method_24_code 23 = .ok (.bipush 64, 2) := by decide +kernel
theorem d_M_putSign_25 : decode prog_14_method_24_code 25 = .ok (.iload_n 1, 1) := by decide +kernel
theorem d_M_putSign_26 : decode prog_14_method_24_code 26 = .ok (.imul, 1) := by decide +kernel
theorem d_M_putSign_27 : decode prog_14_method_24_code 27 = .ok (.iload_n 2, 1) := by decide +kernel
theorem d_M_putSign_28 : decode prog_14_method_24_code 28 = .ok (.iadd, 1) := by decide +kernel
theorem d_M_putSign_29 : decode prog_14_method_24_code 29 = .ok (.iaload, 1) := by decide +kernel
theorem d_M_putSign_30 : decode prog_14_method_24_code 30 = .ok (.aload_n 0, 1) := by decide +kernel
theorem d_M_putSign_31 : decode prog_14_method_24_code 31 = .ok (.aload_n 0, 1) := by decide +kernel
theorem d_M_putSign_32 : decode prog_14_method_24_code 32 = .ok (.getfield 16, 3) := by decide +kernel
theorem d_M_putSign_35 : decode prog_14_method_24_code 35 = .ok (.iload_n 1, 1) := by decide +kernel
theorem d_M_putSign_36 : decode prog_14_method_24_code 36 = .ok (.invokevirtual 77, 3) := by decide +kernel
theorem d_M_putSign_39 : decode prog_14_method_24_code 39 = .ok (.invokevirtual 151, 3) := by decide +kernel
theorem d_M_putSign_42 : decode prog_14_method_24_code 42 = .ok (.aload_n 0, 1) := by decide +kernel
theorem d_M_putSign_43 : decode prog_14_method_24_code 43 = .ok (.aload_n 0, 1) := by decide +kernel
theorem d_M_putSign_44 : decode prog_14_method_24_code 44 = .ok (.getfield 16, 3) := by decide +kernel
theorem d_M_putSign_47 : decode prog_14_method_24_code 47 = .ok (.iload_n 1, 1) := by decide +kernel
theorem d_M_putSign_48 : decode prog_14_method_24_code 48 = .ok (.iload_n 2, 1) := by decide +kernel
theorem d_M_putSign_49 : decode prog_14_method_24_code 49 = .ok (.invokevirtual 155, 3) := by decide +kernel
theorem d_M_putSign_52 : decode prog_14_method_24_code 52 = .ok (.goto 60, 3) := by decide +kernel
theorem d_M_putSign_55 : decode prog_14_method_24_code 55 = .ok (.aload_n 0, 1) := by decide +kernel
theorem d_M_putSign_56 : decode prog_14_method_24_code 56 = .ok (.getfield 46, 3) := by decide +kernel
theorem d_M_putSign_59 : decode prog_14_method_24_code 59 = .ok (.iconst 2, 1) := by decide +kernel
theorem d_M_putSign_60 : decode prog_14_method_24_code 60 = .ok (.if_icmp .ne 52, 3) := by decide +kernel
theorem d_M_putSign_63 : decode prog_14_method_24_code 63 = .ok (.iconst 1, 1) := by decide +kernel
theorem d_M_putSign_64 : decode prog_14_method_24_code 64 = .ok (.istore_n 3, 1) := by decide +kernel
theorem d_M_putSign_65 : decode prog_14_method_24_code 65 = .ok (.aload_n 0, 1) := by decide +kernel
theorem d_M_putSign_66 : decode prog_14_method_24_code 66 = .ok (.iload_n 1, 1) := by decide +kernel
theorem d_M_putSign_67 : decode prog_14_method_24_code 67 = .ok (.invokevirtual 158, 3) := by decide +kernel
theorem d_M_putSign_70 : decode prog_14_method_24_code 70 = .ok (.iconst 1, 1) := by decide +kernel
theorem d_M_putSign_71 : decode prog_14_method_24_code 71 = .ok (.isub, 1) := by decide +kernel
theorem d_M_putSign_72 : decode prog_14_method_24_code 72 = .ok (.istore 4, 2) := by decide +kernel
theorem d_M_putSign_74 : decode prog_14_method_24_code 74 = .ok (.iload 4, 2) := by decide +kernel
theorem d_M_putSign_76 : decode prog_14_method_24_code 76 = .ok (.ifCond .lt 36, 3) := by decide +kernel
theorem d_M_putSign_79 : decode prog_14_method_24_code 79 = .ok (.iload_n 2, 1) := by decide +kernel
theorem d_M_putSign_80 : decode prog_14_method_24_code 80 = .ok (.iload 4, 2) := by decide +kernel
theorem d_M_putSign_82 : decode prog_14_method_24_code 82 = .ok (.ishr, 1) := by decide +kernel
theorem d_M_putSign_83 : decode prog_14_method_24_code 83 = .ok (.iconst 1, 1) := by decide +kernel
theorem d_M_putSign_84 : decode prog_14_method_24_code 84 = .ok (.iand, 1) := by decide +kernel
theorem d_M_putSign_85 : decode prog_14_method_24_code 85 = .ok (.istore 5, 2) := by decide +kernel
theorem d_M_putSign_87 : decode prog_14_method_24_code 87 = .ok (.aload_n 0, 1) := by decide +kernel
theorem d_M_putSign_88 : decode prog_14_method_24_code 88 = .ok (.bipush 64, 2) := by decide +kernel
theorem d_M_putSign_90 : decode prog_14_method_24_code 90 = .ok (.iload_n 1, 1) := by decide +kernel
theorem d_M_putSign_91 : decode prog_14_method_24_code 91 = .ok (.imul, 1) := by decide +kernel
theorem d_M_putSign_92 : decode prog_14_method_24_code 92 = .ok (.iload_n 3, 1) := by decide +kernel
theorem d_M_putSign_93 : decode prog_14_method_24_code 93 = .ok (.iadd, 1) := by decide +kernel
theorem d_M_putSign_94 : decode prog_14_method_24_code 94 = .ok (.iload 5, 2) := by decide +kernel
theorem d_M_putSign_96 : decode prog_14_method_24_code 96 = .ok (.invokevirtual 162, 3) := by decide +kernel
theorem d_M_putSign_99 : decode prog_14_method_24_code 99 = .ok (.iconst 2, 1) := by decide +kernel
theorem d_M_putSign_100 : decode prog_14_method_24_code 100 = .ok (.iload_n 3, 1) := by decide +kernel
theorem d_M_putSign_101 : decode prog_14_method_24_code 101 = .ok (.imul, 1) := by decide +kernel
theorem d_M_putSign_102 : decode prog_14_method_24_code 102 = .ok (.iload 5, 2) := by decide +kernel
theorem d_M_putSign_104 : decode prog_14_method_24_code 104 = .ok (.iadd, 1) := by decide +kernel
theorem d_M_putSign_105 : decode prog_14_method_24_code 105 = .ok (.istore_n 3, 1) := by decide +kernel
theorem d_M_putSign_106 : decode prog_14_method_24_code 106 = .ok (.iinc 4 (-1), 3) := by decide +kernel
theorem d_M_putSign_109 : decode prog_14_method_24_code 109 = .ok (.goto (-35), 3) := by decide +kernel
theorem d_M_putSign_112 : decode prog_14_method_24_code 112 = .ok (.return_, 1) := by decide +kernel
theorem d_M_before_0 : decode prog_14_method_22_code 0 = .ok (.iconst 0, 1) := by decide +kernel
theorem d_M_before_1 : decode prog_14_method_22_code 1 = .ok (.istore 4, 2) := by decide +kernel
theorem d_M_before_3 : decode prog_14_method_22_code 3 = .ok (.iconst 0, 1) := by decide +kernel
theorem d_M_before_4 : decode prog_14_method_22_code 4 = .ok (.istore 5, 2) := by decide +kernel
theorem d_M_before_6 : decode prog_14_method_22_code 6 = .ok (.iload 5, 2) := by decide +kernel
theorem d_M_before_8 : decode prog_14_method_22_code 8 = .ok (.iload_n 3, 1) := by decide +kernel
theorem d_M_before_9 : decode prog_14_method_22_code 9 = .ok (.if_icmp .ge 23, 3) := by decide +kernel
theorem d_M_before_12 : decode prog_14_method_22_code 12 = .ok (.iload 4, 2) := by decide +kernel
theorem d_M_before_14 : decode prog_14_method_22_code 14 = .ok (.aload_n 1, 1) := by decide +kernel
theorem d_M_before_15 : decode prog_14_method_22_code 15 = .ok (.bipush 64, 2) := by decide +kernel
theorem d_M_before_17 : decode prog_14_method_22_code 17 = .ok (.iload_n 2, 1) := by decide +kernel
theorem d_M_before_18 : decode prog_14_method_22_code 18 = .ok (.imul, 1) := by decide +kernel
theorem d_M_before_19 : decode prog_14_method_22_code 19 = .ok (.iload 5, 2) := by decide +kernel
theorem d_M_before_21 : decode prog_14_method_22_code 21 = .ok (.iadd, 1) := by decide +kernel
theorem d_M_before_22 : decode prog_14_method_22_code 22 = .ok (.iaload, 1) := by decide +kernel
theorem d_M_before_23 : decode prog_14_method_22_code 23 = .ok (.iadd, 1) := by decide +kernel
theorem d_M_before_24 : decode prog_14_method_22_code 24 = .ok (.istore 4, 2) := by decide +kernel
theorem d_M_before_26 : decode prog_14_method_22_code 26 = .ok (.iinc 5 1, 3) := by decide +kernel
theorem d_M_before_29 : decode prog_14_method_22_code 29 = .ok (.goto (-23), 3) := by decide +kernel
theorem d_M_before_32 : decode prog_14_method_22_code 32 = .ok (.iload 4, 2) := by decide +kernel
theorem d_M_before_34 : decode prog_14_method_22_code 34 = .ok (.ireturn, 1) := by decide +kernel
theorem d_M_narrow_0 : decode prog_14_method_21_code 0 = .ok (.aload_n 0, 1) := by decide +kernel
theorem d_M_narrow_1 : decode prog_14_method_21_code 1 = .ok (.getfield 110, 3) := by decide +kernel
theorem d_M_narrow_4 : decode prog_14_method_21_code 4 = .ok (.iload_n 3, 1) := by decide +kernel
theorem d_M_narrow_5 : decode prog_14_method_21_code 5 = .ok (.i2l, 1) := by decide +kernel
theorem d_M_narrow_6 : decode prog_14_method_21_code 6 = .ok (.ldiv, 1) := by decide +kernel
theorem d_M_narrow_7 : decode prog_14_method_21_code 7 = .ok (.lstore 4, 2) := by decide +kernel
theorem d_M_narrow_9 : decode prog_14_method_21_code 9 = .ok (.aload_n 0, 1) := by decide +kernel
theorem d_M_narrow_10 : decode prog_14_method_21_code 10 = .ok (.aload_n 0, 1) := by decide +kernel
theorem d_M_narrow_11 : decode prog_14_method_21_code 11 = .ok (.getfield 104, 3) := by decide +kernel
theorem d_M_narrow_14 : decode prog_14_method_21_code 14 = .ok (.lload 4, 2) := by decide +kernel
theorem d_M_narrow_16 : decode prog_14_method_21_code 16 = .ok (.iload_n 1, 1) := by decide +kernel
theorem d_M_narrow_17 : decode prog_14_method_21_code 17 = .ok (.i2l, 1) := by decide +kernel
theorem d_M_narrow_18 : decode prog_14_method_21_code 18 = .ok (.lmul, 1) := by decide +kernel
theorem d_M_narrow_19 : decode prog_14_method_21_code 19 = .ok (.ladd, 1) := by decide +kernel
theorem d_M_narrow_20 : decode prog_14_method_21_code 20 = .ok (.putfield 104, 3) := by decide +kernel
theorem d_M_narrow_23 : decode prog_14_method_21_code 23 = .ok (.aload_n 0, 1) := by decide +kernel
theorem d_M_narrow_24 : decode prog_14_method_21_code 24 = .ok (.lload 4, 2) := by decide +kernel
theorem d_M_narrow_26 : decode prog_14_method_21_code 26 = .ok (.iload_n 2, 1) := by decide +kernel
theorem d_M_narrow_27 : decode prog_14_method_21_code 27 = .ok (.i2l, 1) := by decide +kernel
theorem d_M_narrow_28 : decode prog_14_method_21_code 28 = .ok (.lmul, 1) := by decide +kernel
theorem d_M_narrow_29 : decode prog_14_method_21_code 29 = .ok (.putfield 110, 3) := by decide +kernel
theorem d_M_narrow_32 : decode prog_14_method_21_code 32 = .ok (.aload_n 0, 1) := by decide +kernel
theorem d_M_narrow_33 : decode prog_14_method_21_code 33 = .ok (.getfield 46, 3) := by decide +kernel
theorem d_M_narrow_36 : decode prog_14_method_21_code 36 = .ok (.ifCond .ne 10, 3) := by decide +kernel
theorem d_M_narrow_39 : decode prog_14_method_21_code 39 = .ok (.aload_n 0, 1) := by decide +kernel
theorem d_M_narrow_40 : decode prog_14_method_21_code 40 = .ok (.invokevirtual 141, 3) := by decide +kernel
theorem d_M_narrow_43 : decode prog_14_method_21_code 43 = .ok (.goto 19, 3) := by decide +kernel
theorem d_M_narrow_46 : decode prog_14_method_21_code 46 = .ok (.aload_n 0, 1) := by decide +kernel
theorem d_M_narrow_47 : decode prog_14_method_21_code 47 = .ok (.aload_n 0, 1) := by decide +kernel
theorem d_M_narrow_48 : decode prog_14_method_21_code 48 = .ok (.getfield 104, 3) := by decide +kernel
theorem d_M_narrow_51 : decode prog_14_method_21_code 51 = .ok (.ldc2_w 108, 3) := by decide +kernel
theorem d_M_narrow_54 : decode prog_14_method_21_code 54 = .ok (.land, 1) := by decide +kernel
theorem d_M_narrow_55 : decode prog_14_method_21_code 55 = .ok (.putfield 104, 3) := by decide +kernel
theorem d_M_narrow_58 : decode prog_14_method_21_code 58 = .ok (.aload_n 0, 1) := by decide +kernel
theorem d_M_narrow_59 : decode prog_14_method_21_code 59 = .ok (.invokevirtual 144, 3) := by decide +kernel
theorem d_M_narrow_62 : decode prog_14_method_21_code 62 = .ok (.return_, 1) := by decide +kernel
theorem d_M_widen_0 : decode prog_14_method_19_code 0 = .ok (.aload_n 0, 1) := by decide +kernel
theorem d_M_widen_1 : decode prog_14_method_19_code 1 = .ok (.getfield 110, 3) := by decide +kernel
theorem d_M_widen_4 : decode prog_14_method_19_code 4 = .ok (.ldc2_w 132, 3) := by decide +kernel
theorem d_M_widen_7 : decode prog_14_method_19_code 7 = .ok (.lcmp, 1) := by decide +kernel
theorem d_M_widen_8 : decode prog_14_method_19_code 8 = .ok (.ifCond .ge 21, 3) := by decide +kernel
theorem d_M_widen_11 : decode prog_14_method_19_code 11 = .ok (.aload_n 0, 1) := by decide +kernel
theorem d_M_widen_12 : decode prog_14_method_19_code 12 = .ok (.aload_n 0, 1) := by decide +kernel
theorem d_M_widen_13 : decode prog_14_method_19_code 13 = .ok (.getfield 110, 3) := by decide +kernel
theorem d_M_widen_16 : decode prog_14_method_19_code 16 = .ok (.bipush 8, 2) := by decide +kernel
theorem d_M_widen_18 : decode prog_14_method_19_code 18 = .ok (.lshl, 1) := by decide +kernel
theorem d_M_widen_19 : decode prog_14_method_19_code 19 = .ok (.putfield 110, 3) := by decide +kernel
theorem d_M_widen_22 : decode prog_14_method_19_code 22 = .ok (.aload_n 0, 1) := by decide +kernel
theorem d_M_widen_23 : decode prog_14_method_19_code 23 = .ok (.invokevirtual 134, 3) := by decide +kernel
theorem d_M_widen_26 : decode prog_14_method_19_code 26 = .ok (.goto (-26), 3) := by decide +kernel
theorem d_M_widen_29 : decode prog_14_method_19_code 29 = .ok (.return_, 1) := by decide +kernel
theorem d_M_shifted_0 : decode prog_14_method_18_code 0 = .ok (.aload_n 0, 1) := by decide +kernel
theorem d_M_shifted_1 : decode prog_14_method_18_code 1 = .ok (.getfield 104, 3) := by decide +kernel
theorem d_M_shifted_4 : decode prog_14_method_18_code 4 = .ok (.ldc2_w 122, 3) := by decide +kernel
theorem d_M_shifted_7 : decode prog_14_method_18_code 7 = .ok (.lcmp, 1) := by decide +kernel
theorem d_M_shifted_8 : decode prog_14_method_18_code 8 = .ok (.ifCond .lt 14, 3) := by decide +kernel
theorem d_M_shifted_11 : decode prog_14_method_18_code 11 = .ok (.aload_n 0, 1) := by decide +kernel
theorem d_M_shifted_12 : decode prog_14_method_18_code 12 = .ok (.getfield 104, 3) := by decide +kernel
theorem d_M_shifted_15 : decode prog_14_method_18_code 15 = .ok (.ldc2_w 108, 3) := by decide +kernel
theorem d_M_shifted_18 : decode prog_14_method_18_code 18 = .ok (.lcmp, 1) := by decide +kernel
theorem d_M_shifted_19 : decode prog_14_method_18_code 19 = .ok (.ifCond .le 78, 3) := by decide +kernel
theorem d_M_shifted_22 : decode prog_14_method_18_code 22 = .ok (.aload_n 0, 1) := by decide +kernel
theorem d_M_shifted_23 : decode prog_14_method_18_code 23 = .ok (.getfield 104, 3) := by decide +kernel
theorem d_M_shifted_26 : decode prog_14_method_18_code 26 = .ok (.bipush 32, 2) := by decide +kernel
theorem d_M_shifted_28 : decode prog_14_method_18_code 28 = .ok (.lshr, 1) := by decide +kernel
theorem d_M_shifted_29 : decode prog_14_method_18_code 29 = .ok (.l2i, 1) := by decide +kernel
theorem d_M_shifted_30 : decode prog_14_method_18_code 30 = .ok (.istore_n 1, 1) := by decide +kernel
theorem d_M_shifted_31 : decode prog_14_method_18_code 31 = .ok (.aload_n 0, 1) := by decide +kernel
theorem d_M_shifted_32 : decode prog_14_method_18_code 32 = .ok (.getfield 113, 3) := by decide +kernel
theorem d_M_shifted_35 : decode prog_14_method_18_code 35 = .ok (.iconst (-1), 1) := by decide +kernel
theorem d_M_shifted_36 : decode prog_14_method_18_code 36 = .ok (.if_icmp .eq 13, 3) := by decide +kernel
theorem d_M_shifted_39 : decode prog_14_method_18_code 39 = .ok (.aload_n 0, 1) := by decide +kernel
theorem d_M_shifted_40 : decode prog_14_method_18_code 40 = .ok (.aload_n 0, 1) := by decide +kernel
theorem d_M_shifted_41 : decode prog_14_method_18_code 41 = .ok (.getfield 113, 3) := by decide +kernel
theorem d_M_shifted_44 : decode prog_14_method_18_code 44 = .ok (.iload_n 1, 1) := by decide +kernel
theorem d_M_shifted_45 : decode prog_14_method_18_code 45 = .ok (.iadd, 1) := by decide +kernel
theorem d_M_shifted_46 : decode prog_14_method_18_code 46 = .ok (.invokevirtual 124, 3) := by decide +kernel
theorem d_M_shifted_49 : decode prog_14_method_18_code 49 = .ok (.aload_n 0, 1) := by decide +kernel
theorem d_M_shifted_50 : decode prog_14_method_18_code 50 = .ok (.getfield 116, 3) := by decide +kernel
theorem d_M_shifted_53 : decode prog_14_method_18_code 53 = .ok (.ifCond .le 25, 3) := by decide +kernel
theorem d_M_shifted_56 : decode prog_14_method_18_code 56 = .ok (.aload_n 0, 1) := by decide +kernel
theorem d_M_shifted_57 : decode prog_14_method_18_code 57 = .ok (.sipush 255, 3) := by decide +kernel
theorem d_M_shifted_60 : decode prog_14_method_18_code 60 = .ok (.iload_n 1, 1) := by decide +kernel
theorem d_M_shifted_61 : decode prog_14_method_18_code 61 = .ok (.iadd, 1) := by decide +kernel
theorem d_M_shifted_62 : decode prog_14_method_18_code 62 = .ok (.invokevirtual 124, 3) := by decide +kernel
theorem d_M_shifted_65 : decode prog_14_method_18_code 65 = .ok (.aload_n 0, 1) := by decide +kernel
theorem d_M_shifted_66 : decode prog_14_method_18_code 66 = .ok (.dup, 1) := by decide +kernel
theorem d_M_shifted_67 : decode prog_14_method_18_code 67 = .ok (.getfield 116, 3) := by decide +kernel
theorem d_M_shifted_70 : decode prog_14_method_18_code 70 = .ok (.iconst 1, 1) := by decide +kernel
theorem d_M_shifted_71 : decode prog_14_method_18_code 71 = .ok (.isub, 1) := by decide +kernel
theorem d_M_shifted_72 : decode prog_14_method_18_code 72 = .ok (.putfield 116, 3) := by decide +kernel
theorem d_M_shifted_75 : decode prog_14_method_18_code 75 = .ok (.goto (-26), 3) := by decide +kernel
theorem d_M_shifted_78 : decode prog_14_method_18_code 78 = .ok (.aload_n 0, 1) := by decide +kernel
theorem d_M_shifted_79 : decode prog_14_method_18_code 79 = .ok (.aload_n 0, 1) := by decide +kernel
theorem d_M_shifted_80 : decode prog_14_method_18_code 80 = .ok (.getfield 104, 3) := by decide +kernel
theorem d_M_shifted_83 : decode prog_14_method_18_code 83 = .ok (.bipush 24, 2) := by decide +kernel
theorem d_M_shifted_85 : decode prog_14_method_18_code 85 = .ok (.lshr, 1) := by decide +kernel
theorem d_M_shifted_86 : decode prog_14_method_18_code 86 = .ok (.ldc2_w 128, 3) := by decide +kernel
theorem d_M_shifted_89 : decode prog_14_method_18_code 89 = .ok (.land, 1) := by decide +kernel
theorem d_M_shifted_90 : decode prog_14_method_18_code 90 = .ok (.l2i, 1) := by decide +kernel
theorem d_M_shifted_91 : decode prog_14_method_18_code 91 = .ok (.putfield 113, 3) := by decide +kernel
theorem d_M_shifted_94 : decode prog_14_method_18_code 94 = .ok (.goto 13, 3) := by decide +kernel
theorem d_M_shifted_97 : decode prog_14_method_18_code 97 = .ok (.aload_n 0, 1) := by decide +kernel
theorem d_M_shifted_98 : decode prog_14_method_18_code 98 = .ok (.dup, 1) := by decide +kernel
theorem d_M_shifted_99 : decode prog_14_method_18_code 99 = .ok (.getfield 116, 3) := by decide +kernel
theorem d_M_shifted_102 : decode prog_14_method_18_code 102 = .ok (.iconst 1, 1) := by decide +kernel
theorem d_M_shifted_103 : decode prog_14_method_18_code 103 = .ok (.iadd, 1) := by decide +kernel
theorem d_M_shifted_104 : decode prog_14_method_18_code 104 = .ok (.putfield 116, 3) := by decide +kernel
theorem d_M_shifted_107 : decode prog_14_method_18_code 107 = .ok (.aload_n 0, 1) := by decide +kernel
theorem d_M_shifted_108 : decode prog_14_method_18_code 108 = .ok (.aload_n 0, 1) := by decide +kernel
theorem d_M_shifted_109 : decode prog_14_method_18_code 109 = .ok (.getfield 104, 3) := by decide +kernel
theorem d_M_shifted_112 : decode prog_14_method_18_code 112 = .ok (.ldc2_w 130, 3) := by decide +kernel
theorem d_M_shifted_115 : decode prog_14_method_18_code 115 = .ok (.land, 1) := by decide +kernel
theorem d_M_shifted_116 : decode prog_14_method_18_code 116 = .ok (.bipush 8, 2) := by decide +kernel
theorem d_M_shifted_118 : decode prog_14_method_18_code 118 = .ok (.lshl, 1) := by decide +kernel
theorem d_M_shifted_119 : decode prog_14_method_18_code 119 = .ok (.putfield 104, 3) := by decide +kernel
theorem d_M_shifted_122 : decode prog_14_method_18_code 122 = .ok (.return_, 1) := by decide +kernel
theorem d_M_write_0 : decode prog_14_method_17_code 0 = .ok (.aload_n 0, 1) := by decide +kernel
theorem d_M_write_1 : decode prog_14_method_17_code 1 = .ok (.getfield 28, 3) := by decide +kernel
theorem d_M_write_4 : decode prog_14_method_17_code 4 = .ok (.aload_n 0, 1) := by decide +kernel
theorem d_M_write_5 : decode prog_14_method_17_code 5 = .ok (.getfield 119, 3) := by decide +kernel
theorem d_M_write_8 : decode prog_14_method_17_code 8 = .ok (.iload_n 1, 1) := by decide +kernel
theorem d_M_write_9 : decode prog_14_method_17_code 9 = .ok (.sipush 255, 3) := by decide +kernel
theorem d_M_write_12 : decode prog_14_method_17_code 12 = .ok (.iand, 1) := by decide +kernel
theorem d_M_write_13 : decode prog_14_method_17_code 13 = .ok (.iastore, 1) := by decide +kernel
theorem d_M_write_14 : decode prog_14_method_17_code 14 = .ok (.aload_n 0, 1) := by decide +kernel
theorem d_M_write_15 : decode prog_14_method_17_code 15 = .ok (.dup, 1) := by decide +kernel
theorem d_M_write_16 : decode prog_14_method_17_code 16 = .ok (.getfield 119, 3) := by decide +kernel
theorem d_M_write_19 : decode prog_14_method_17_code 19 = .ok (.iconst 1, 1) := by decide +kernel
theorem d_M_write_20 : decode prog_14_method_17_code 20 = .ok (.iadd, 1) := by decide +kernel
theorem d_M_write_21 : decode prog_14_method_17_code 21 = .ok (.putfield 119, 3) := by decide +kernel
theorem d_M_write_24 : decode prog_14_method_17_code 24 = .ok (.return_, 1) := by decide +kernel
theorem d_M_widenPlain_0 : decode prog_14_method_20_code 0 = .ok (.iconst 1, 1) := by decide +kernel
theorem d_M_widenPlain_1 : decode prog_14_method_20_code 1 = .ok (.istore_n 1, 1) := by decide +kernel
theorem d_M_widenPlain_2 : decode prog_14_method_20_code 2 = .ok (.iload_n 1, 1) := by decide +kernel
theorem d_M_widenPlain_3 : decode prog_14_method_20_code 3 = .ok (.ifCond .eq 130, 3) := by decide +kernel
theorem d_M_widenPlain_6 : decode prog_14_method_20_code 6 = .ok (.aload_n 0, 1) := by decide +kernel
theorem d_M_widenPlain_7 : decode prog_14_method_20_code 7 = .ok (.getfield 104, 3) := by decide +kernel
theorem d_M_widenPlain_10 : decode prog_14_method_20_code 10 = .ok (.bipush 24, 2) := by decide +kernel
theorem d_M_widenPlain_12 : decode prog_14_method_20_code 12 = .ok (.lshr, 1) := by decide +kernel
theorem d_M_widenPlain_13 : decode prog_14_method_20_code 13 = .ok (.aload_n 0, 1) := by decide +kernel
theorem d_M_widenPlain_14 : decode prog_14_method_20_code 14 = .ok (.getfield 104, 3) := by decide +kernel
theorem d_M_widenPlain_17 : decode prog_14_method_20_code 17 = .ok (.aload_n 0, 1) := by decide +kernel
theorem d_M_widenPlain_18 : decode prog_14_method_20_code 18 = .ok (.getfield 110, 3) := by decide +kernel
theorem d_M_widenPlain_21 : decode prog_14_method_20_code 21 = .ok (.ladd, 1) := by decide +kernel
theorem d_M_widenPlain_22 : decode prog_14_method_20_code 22 = .ok (.ldc2_w 108, 3) := by decide +kernel
theorem d_M_widenPlain_25 : decode prog_14_method_20_code 25 = .ok (.land, 1) := by decide +kernel
theorem d_M_widenPlain_26 : decode prog_14_method_20_code 26 = .ok (.bipush 24, 2) := by decide +kernel
theorem d_M_widenPlain_28 : decode prog_14_method_20_code 28 = .ok (.lshr, 1) := by decide +kernel
theorem d_M_widenPlain_29 : decode prog_14_method_20_code 29 = .ok (.lcmp, 1) := by decide +kernel
theorem d_M_widenPlain_30 : decode prog_14_method_20_code 30 = .ok (.ifCond .ne 7, 3) := by decide +kernel
theorem d_M_widenPlain_33 : decode prog_14_method_20_code 33 = .ok (.iconst 1, 1) := by decide +kernel
theorem d_M_widenPlain_34 : decode prog_14_method_20_code 34 = .ok (.goto 4, 3) := by decide +kernel
theorem d_M_widenPlain_37 : decode prog_14_method_20_code 37 = .ok (.iconst 0, 1) := by decide +kernel
theorem d_M_widenPlain_38 : decode prog_14_method_20_code 38 = .ok (.istore_n 2, 1) := by decide +kernel
theorem d_M_widenPlain_39 : decode prog_14_method_20_code 39 = .ok (.iload_n 2, 1) := by decide +kernel
theorem d_M_widenPlain_40 : decode prog_14_method_20_code 40 = .ok (.ifCond .ne 14, 3) := by decide +kernel
theorem d_M_widenPlain_43 : decode prog_14_method_20_code 43 = .ok (.aload_n 0, 1) := by decide +kernel
theorem d_M_widenPlain_44 : decode prog_14_method_20_code 44 = .ok (.getfield 110, 3) := by decide +kernel
theorem d_M_widenPlain_47 : decode prog_14_method_20_code 47 = .ok (.ldc2_w 137, 3) := by decide +kernel
theorem d_M_widenPlain_50 : decode prog_14_method_20_code 50 = .ok (.lcmp, 1) := by decide +kernel
theorem d_M_widenPlain_51 : decode prog_14_method_20_code 51 = .ok (.ifCond .ge 7, 3) := by decide +kernel
theorem d_M_widenPlain_54 : decode prog_14_method_20_code 54 = .ok (.iconst 1, 1) := by decide +kernel
theorem d_M_widenPlain_55 : decode prog_14_method_20_code 55 = .ok (.goto 4, 3) := by decide +kernel
theorem d_M_widenPlain_58 : decode prog_14_method_20_code 58 = .ok (.iconst 0, 1) := by decide +kernel
theorem d_M_widenPlain_59 : decode prog_14_method_20_code 59 = .ok (.istore_n 1, 1) := by decide +kernel
theorem d_M_widenPlain_60 : decode prog_14_method_20_code 60 = .ok (.iload_n 1, 1) := by decide +kernel
theorem d_M_widenPlain_61 : decode prog_14_method_20_code 61 = .ok (.ifCond .eq 69, 3) := by decide +kernel
theorem d_M_widenPlain_64 : decode prog_14_method_20_code 64 = .ok (.aload_n 0, 1) := by decide +kernel
theorem d_M_widenPlain_65 : decode prog_14_method_20_code 65 = .ok (.iload_n 2, 1) := by decide +kernel
theorem d_M_widenPlain_66 : decode prog_14_method_20_code 66 = .ok (.ifCond .eq 10, 3) := by decide +kernel
theorem d_M_widenPlain_69 : decode prog_14_method_20_code 69 = .ok (.aload_n 0, 1) := by decide +kernel
theorem d_M_widenPlain_70 : decode prog_14_method_20_code 70 = .ok (.getfield 110, 3) := by decide +kernel
theorem d_M_widenPlain_73 : decode prog_14_method_20_code 73 = .ok (.goto 12, 3) := by decide +kernel
theorem d_M_widenPlain_76 : decode prog_14_method_20_code 76 = .ok (.aload_n 0, 1) := by decide +kernel
theorem d_M_widenPlain_77 : decode prog_14_method_20_code 77 = .ok (.getfield 104, 3) := by decide +kernel
theorem d_M_widenPlain_80 : decode prog_14_method_20_code 80 = .ok (.lneg, 1) := by decide +kernel
theorem d_M_widenPlain_81 : decode prog_14_method_20_code 81 = .ok (.ldc2_w 139, 3) := by decide +kernel
theorem d_M_widenPlain_84 : decode prog_14_method_20_code 84 = .ok (.land, 1) := by decide +kernel
theorem d_M_widenPlain_85 : decode prog_14_method_20_code 85 = .ok (.putfield 110, 3) := by decide +kernel
theorem d_M_widenPlain_88 : decode prog_14_method_20_code 88 = .ok (.aload_n 0, 1) := by decide +kernel
theorem d_M_widenPlain_89 : decode prog_14_method_20_code 89 = .ok (.aload_n 0, 1) := by decide +kernel
theorem d_M_widenPlain_90 : decode prog_14_method_20_code 90 = .ok (.getfield 104, 3) := by decide +kernel
theorem d_M_widenPlain_93 : decode prog_14_method_20_code 93 = .ok (.bipush 24, 2) := by decide +kernel
theorem d_M_widenPlain_95 : decode prog_14_method_20_code 95 = .ok (.lshr, 1) := by decide +kernel
theorem d_M_widenPlain_96 : decode prog_14_method_20_code 96 = .ok (.l2i, 1) := by decide +kernel
theorem d_M_widenPlain_97 : decode prog_14_method_20_code 97 = .ok (.invokevirtual 124, 3) := by decide +kernel
theorem d_M_widenPlain_100 : decode prog_14_method_20_code 100 = .ok (.aload_n 0, 1) := by decide +kernel
theorem d_M_widenPlain_101 : decode prog_14_method_20_code 101 = .ok (.aload_n 0, 1) := by decide +kernel
theorem d_M_widenPlain_102 : decode prog_14_method_20_code 102 = .ok (.getfield 104, 3) := by decide +kernel
theorem d_M_widenPlain_105 : decode prog_14_method_20_code 105 = .ok (.bipush 8, 2) := by decide +kernel
theorem d_M_widenPlain_107 : decode prog_14_method_20_code 107 = .ok (.lshl, 1) := by decide +kernel
theorem d_M_widenPlain_108 : decode prog_14_method_20_code 108 = .ok (.ldc2_w 108, 3) := by decide +kernel
theorem d_M_widenPlain_111 : decode prog_14_method_20_code 111 = .ok (.land, 1) := by decide +kernel
theorem d_M_widenPlain_112 : decode prog_14_method_20_code 112 = .ok (.putfield 104, 3) := by decide +kernel
theorem d_M_widenPlain_115 : decode prog_14_method_20_code 115 = .ok (.aload_n 0, 1) := by decide +kernel
theorem d_M_widenPlain_116 : decode prog_14_method_20_code 116 = .ok (.aload_n 0, 1) := by decide +kernel
theorem d_M_widenPlain_117 : decode prog_14_method_20_code 117 = .ok (.getfield 110, 3) := by decide +kernel
theorem d_M_widenPlain_120 : decode prog_14_method_20_code 120 = .ok (.bipush 8, 2) := by decide +kernel
theorem d_M_widenPlain_122 : decode prog_14_method_20_code 122 = .ok (.lshl, 1) := by decide +kernel
theorem d_M_widenPlain_123 : decode prog_14_method_20_code 123 = .ok (.ldc2_w 108, 3) := by decide +kernel
theorem d_M_widenPlain_126 : decode prog_14_method_20_code 126 = .ok (.land, 1) := by decide +kernel
theorem d_M_widenPlain_127 : decode prog_14_method_20_code 127 = .ok (.putfield 110, 3) := by decide +kernel
theorem d_M_widenPlain_130 : decode prog_14_method_20_code 130 = .ok (.goto (-128), 3) := by decide +kernel
theorem d_M_widenPlain_133 : decode prog_14_method_20_code 133 = .ok (.return_, 1) := by decide +kernel
theorem d_M_learn_0 : decode prog_14_method_23_code 0 = .ok (.aload_n 1, 1) := by decide +kernel
theorem d_M_learn_1 : decode prog_14_method_23_code 1 = .ok (.bipush 64, 2) := by decide +kernel
theorem d_M_learn_3 : decode prog_14_method_23_code 3 = .ok (.iload_n 2, 1) := by decide +kernel
theorem d_M_learn_4 : decode prog_14_method_23_code 4 = .ok (.imul, 1) := by decide +kernel
theorem d_M_learn_5 : decode prog_14_method_23_code 5 = .ok (.iload_n 3, 1) := by decide +kernel
theorem d_M_learn_6 : decode prog_14_method_23_code 6 = .ok (.iadd, 1) := by decide +kernel
theorem d_M_learn_7 : decode prog_14_method_23_code 7 = .ok (.aload_n 1, 1) := by decide +kernel
theorem d_M_learn_8 : decode prog_14_method_23_code 8 = .ok (.bipush 64, 2) := by decide +kernel
theorem d_M_learn_10 : decode prog_14_method_23_code 10 = .ok (.iload_n 2, 1) := by decide +kernel
theorem d_M_learn_11 : decode prog_14_method_23_code 11 = .ok (.imul, 1) := by decide +kernel
theorem d_M_learn_12 : decode prog_14_method_23_code 12 = .ok (.iload_n 3, 1) := by decide +kernel
theorem d_M_learn_13 : decode prog_14_method_23_code 13 = .ok (.iadd, 1) := by decide +kernel
theorem d_M_learn_14 : decode prog_14_method_23_code 14 = .ok (.iaload, 1) := by decide +kernel
theorem d_M_learn_15 : decode prog_14_method_23_code 15 = .ok (.bipush 32, 2) := by decide +kernel
theorem d_M_learn_17 : decode prog_14_method_23_code 17 = .ok (.iadd, 1) := by decide +kernel
theorem d_M_learn_18 : decode prog_14_method_23_code 18 = .ok (.iastore, 1) := by decide +kernel
theorem d_M_learn_19 : decode prog_14_method_23_code 19 = .ok (.aload_n 0, 1) := by decide +kernel
theorem d_M_learn_20 : decode prog_14_method_23_code 20 = .ok (.aload_n 1, 1) := by decide +kernel
theorem d_M_learn_21 : decode prog_14_method_23_code 21 = .ok (.iload_n 2, 1) := by decide +kernel
theorem d_M_learn_22 : decode prog_14_method_23_code 22 = .ok (.invokevirtual 77, 3) := by decide +kernel
theorem d_M_learn_25 : decode prog_14_method_23_code 25 = .ok (.sipush 8192, 3) := by decide +kernel
theorem d_M_learn_28 : decode prog_14_method_23_code 28 = .ok (.if_icmp .le 9, 3) := by decide +kernel
theorem d_M_learn_31 : decode prog_14_method_23_code 31 = .ok (.aload_n 0, 1) := by decide +kernel
theorem d_M_learn_32 : decode prog_14_method_23_code 32 = .ok (.aload_n 1, 1) := by decide +kernel
theorem d_M_learn_33 : decode prog_14_method_23_code 33 = .ok (.iload_n 2, 1) := by decide +kernel
theorem d_M_learn_34 : decode prog_14_method_23_code 34 = .ok (.invokevirtual 81, 3) := by decide +kernel
theorem d_M_learn_37 : decode prog_14_method_23_code 37 = .ok (.return_, 1) := by decide +kernel
theorem d_M_levels_0 : decode prog_14_method_6_code 0 = .ok (.iconst 0, 1) := by decide +kernel
theorem d_M_levels_1 : decode prog_14_method_6_code 1 = .ok (.istore_n 2, 1) := by decide +kernel
theorem d_M_levels_2 : decode prog_14_method_6_code 2 = .ok (.iconst 1, 1) := by decide +kernel
theorem d_M_levels_3 : decode prog_14_method_6_code 3 = .ok (.iload_n 2, 1) := by decide +kernel
theorem d_M_levels_4 : decode prog_14_method_6_code 4 = .ok (.ishl, 1) := by decide +kernel
theorem d_M_levels_5 : decode prog_14_method_6_code 5 = .ok (.aload_n 0, 1) := by decide +kernel
theorem d_M_levels_6 : decode prog_14_method_6_code 6 = .ok (.getfield 7, 3) := by decide +kernel
theorem d_M_levels_9 : decode prog_14_method_6_code 9 = .ok (.iload_n 1, 1) := by decide +kernel
theorem d_M_levels_10 : decode prog_14_method_6_code 10 = .ok (.iaload, 1) := by decide +kernel
theorem d_M_levels_11 : decode prog_14_method_6_code 11 = .ok (.if_icmp .ge 9, 3) := by decide +kernel
theorem d_M_levels_14 : decode prog_14_method_6_code 14 = .ok (.iinc 2 1, 3) := by decide +kernel
theorem d_M_levels_17 : decode prog_14_method_6_code 17 = .ok (.goto (-15), 3) := by decide +kernel
theorem d_M_levels_20 : decode prog_14_method_6_code 20 = .ok (.iload_n 2, 1) := by decide +kernel
theorem d_M_levels_21 : decode prog_14_method_6_code 21 = .ok (.ireturn, 1) := by decide +kernel
theorem d_M_putBit_0 : decode prog_14_method_25_code 0 = .ok (.aload_n 0, 1) := by decide +kernel
theorem d_M_putBit_1 : decode prog_14_method_25_code 1 = .ok (.getfield 110, 3) := by decide +kernel
theorem d_M_putBit_4 : decode prog_14_method_25_code 4 = .ok (.bipush 11, 2) := by decide +kernel
theorem d_M_putBit_6 : decode prog_14_method_25_code 6 = .ok (.lshr, 1) := by decide +kernel
theorem d_M_putBit_7 : decode prog_14_method_25_code 7 = .ok (.aload_n 0, 1) := by decide +kernel
theorem d_M_putBit_8 : decode prog_14_method_25_code 8 = .ok (.getfield 16, 3) := by decide +kernel
theorem d_M_putBit_11 : decode prog_14_method_25_code 11 = .ok (.iload_n 1, 1) := by decide +kernel
theorem d_M_putBit_12 : decode prog_14_method_25_code 12 = .ok (.iaload, 1) := by decide +kernel
theorem d_M_putBit_13 : decode prog_14_method_25_code 13 = .ok (.i2l, 1) := by decide +kernel
theorem d_M_putBit_14 : decode prog_14_method_25_code 14 = .ok (.lmul, 1) := by decide +kernel
theorem d_M_putBit_15 : decode prog_14_method_25_code 15 = .ok (.lstore_n 3, 1) := by decide +kernel
theorem d_M_putBit_16 : decode prog_14_method_25_code 16 = .ok (.iload_n 2, 1) := by decide +kernel
theorem d_M_putBit_17 : decode prog_14_method_25_code 17 = .ok (.ifCond .ne 11, 3) := by decide +kernel
theorem d_M_putBit_20 : decode prog_14_method_25_code 20 = .ok (.aload_n 0, 1) := by decide +kernel
theorem d_M_putBit_21 : decode prog_14_method_25_code 21 = .ok (.lload_n 3, 1) := by decide +kernel
theorem d_M_putBit_22 : decode prog_14_method_25_code 22 = .ok (.putfield 110, 3) := by decide +kernel
theorem d_M_putBit_25 : decode prog_14_method_25_code 25 = .ok (.goto 23, 3) := by decide +kernel
theorem d_M_putBit_28 : decode prog_14_method_25_code 28 = .ok (.aload_n 0, 1) := by decide +kernel
theorem d_M_putBit_29 : decode prog_14_method_25_code 29 = .ok (.aload_n 0, 1) := by decide +kernel
theorem d_M_putBit_30 : decode prog_14_method_25_code 30 = .ok (.getfield 104, 3) := by decide +kernel
theorem d_M_putBit_33 : decode prog_14_method_25_code 33 = .ok (.lload_n 3, 1) := by decide +kernel
theorem d_M_putBit_34 : decode prog_14_method_25_code 34 = .ok (.ladd, 1) := by decide +kernel
theorem d_M_putBit_35 : decode prog_14_method_25_code 35 = .ok (.putfield 104, 3) := by decide +kernel
theorem d_M_putBit_38 : decode prog_14_method_25_code 38 = .ok (.aload_n 0, 1) := by decide +kernel
theorem d_M_putBit_39 : decode prog_14_method_25_code 39 = .ok (.aload_n 0, 1) := by decide +kernel
theorem d_M_putBit_40 : decode prog_14_method_25_code 40 = .ok (.getfield 110, 3) := by decide +kernel
theorem d_M_putBit_43 : decode prog_14_method_25_code 43 = .ok (.lload_n 3, 1) := by decide +kernel
theorem d_M_putBit_44 : decode prog_14_method_25_code 44 = .ok (.lsub, 1) := by decide +kernel
theorem d_M_putBit_45 : decode prog_14_method_25_code 45 = .ok (.putfield 110, 3) := by decide +kernel
theorem d_M_putBit_48 : decode prog_14_method_25_code 48 = .ok (.aload_n 0, 1) := by decide +kernel
theorem d_M_putBit_49 : decode prog_14_method_25_code 49 = .ok (.aload_n 0, 1) := by decide +kernel
theorem d_M_putBit_50 : decode prog_14_method_25_code 50 = .ok (.getfield 16, 3) := by decide +kernel
theorem d_M_putBit_53 : decode prog_14_method_25_code 53 = .ok (.iload_n 1, 1) := by decide +kernel
theorem d_M_putBit_54 : decode prog_14_method_25_code 54 = .ok (.iload_n 2, 1) := by decide +kernel
theorem d_M_putBit_55 : decode prog_14_method_25_code 55 = .ok (.invokevirtual 166, 3) := by decide +kernel
theorem d_M_putBit_58 : decode prog_14_method_25_code 58 = .ok (.aload_n 0, 1) := by decide +kernel
theorem d_M_putBit_59 : decode prog_14_method_25_code 59 = .ok (.invokevirtual 141, 3) := by decide +kernel
theorem d_M_putBit_62 : decode prog_14_method_25_code 62 = .ok (.return_, 1) := by decide +kernel
theorem d_M_moveChance_0 : decode prog_14_method_26_code 0 = .ok (.aload_n 1, 1) := by decide +kernel
theorem d_M_moveChance_1 : decode prog_14_method_26_code 1 = .ok (.iload_n 2, 1) := by decide +kernel
theorem d_M_moveChance_2 : decode prog_14_method_26_code 2 = .ok (.iaload, 1) := by decide +kernel
theorem d_M_moveChance_3 : decode prog_14_method_26_code 3 = .ok (.istore 4, 2) := by decide +kernel
theorem d_M_moveChance_5 : decode prog_14_method_26_code 5 = .ok (.aload_n 1, 1) := by decide +kernel
theorem d_M_moveChance_6 : decode prog_14_method_26_code 6 = .ok (.iload_n 2, 1) := by decide +kernel
theorem d_M_moveChance_7 : decode prog_14_method_26_code 7 = .ok (.iload_n 3, 1) := by decide +kernel
theorem d_M_moveChance_8 : decode prog_14_method_26_code 8 = .ok (.ifCond .ne 20, 3) := by decide +kernel
theorem d_M_moveChance_11 : decode prog_14_method_26_code 11 = .ok (.iload 4, 2) := by decide +kernel
theorem d_M_moveChance_13 : decode prog_14_method_26_code 13 = .ok (.sipush 2048, 3) := by decide +kernel
theorem d_M_moveChance_16 : decode prog_14_method_26_code 16 = .ok (.iload 4, 2) := by decide +kernel
theorem d_M_moveChance_18 : decode prog_14_method_26_code 18 = .ok (.isub, 1) := by decide +kernel
theorem d_M_moveChance_19 : decode prog_14_method_26_code 19 = .ok (.aload_n 0, 1) := by decide +kernel
theorem d_M_moveChance_20 : decode prog_14_method_26_code 20 = .ok (.getfield 50, 3) := by decide +kernel
theorem d_M_moveChance_23 : decode prog_14_method_26_code 23 = .ok (.ishr, 1) := by decide +kernel
theorem d_M_moveChance_24 : decode prog_14_method_26_code 24 = .ok (.iadd, 1) := by decide +kernel
theorem d_M_moveChance_25 : decode prog_14_method_26_code 25 = .ok (.goto 13, 3) := by decide +kernel
theorem d_M_moveChance_28 : decode prog_14_method_26_code 28 = .ok (.iload 4, 2) := by decide +kernel
theorem d_M_moveChance_30 : decode prog_14_method_26_code 30 = .ok (.iload 4, 2) := by decide +kernel
theorem d_M_moveChance_32 : decode prog_14_method_26_code 32 = .ok (.aload_n 0, 1) := by decide +kernel
theorem d_M_moveChance_33 : decode prog_14_method_26_code 33 = .ok (.getfield 50, 3) := by decide +kernel
theorem d_M_moveChance_36 : decode prog_14_method_26_code 36 = .ok (.ishr, 1) := by decide +kernel
theorem d_M_moveChance_37 : decode prog_14_method_26_code 37 = .ok (.isub, 1) := by decide +kernel
theorem d_M_moveChance_38 : decode prog_14_method_26_code 38 = .ok (.iastore, 1) := by decide +kernel
theorem d_M_moveChance_39 : decode prog_14_method_26_code 39 = .ok (.return_, 1) := by decide +kernel
theorem d_M_addItem_0 : decode prog_14_method_28_code 0 = .ok (.aload_n 0, 1) := by decide +kernel
theorem d_M_addItem_1 : decode prog_14_method_28_code 1 = .ok (.getfield 22, 3) := by decide +kernel
theorem d_M_addItem_4 : decode prog_14_method_28_code 4 = .ok (.aload_n 0, 1) := by decide +kernel
theorem d_M_addItem_5 : decode prog_14_method_28_code 5 = .ok (.getfield 94, 3) := by decide +kernel
theorem d_M_addItem_8 : decode prog_14_method_28_code 8 = .ok (.iload_n 1, 1) := by decide +kernel
theorem d_M_addItem_9 : decode prog_14_method_28_code 9 = .ok (.iastore, 1) := by decide +kernel
theorem d_M_addItem_10 : decode prog_14_method_28_code 10 = .ok (.aload_n 0, 1) := by decide +kernel
theorem d_M_addItem_11 : decode prog_14_method_28_code 11 = .ok (.getfield 25, 3) := by decide +kernel
theorem d_M_addItem_14 : decode prog_14_method_28_code 14 = .ok (.aload_n 0, 1) := by decide +kernel
theorem d_M_addItem_15 : decode prog_14_method_28_code 15 = .ok (.getfield 94, 3) := by decide +kernel
theorem d_M_addItem_18 : decode prog_14_method_28_code 18 = .ok (.iload_n 2, 1) := by decide +kernel
theorem d_M_addItem_19 : decode prog_14_method_28_code 19 = .ok (.iastore, 1) := by decide +kernel
theorem d_M_addItem_20 : decode prog_14_method_28_code 20 = .ok (.aload_n 0, 1) := by decide +kernel
theorem d_M_addItem_21 : decode prog_14_method_28_code 21 = .ok (.dup, 1) := by decide +kernel
theorem d_M_addItem_22 : decode prog_14_method_28_code 22 = .ok (.getfield 94, 3) := by decide +kernel
theorem d_M_addItem_25 : decode prog_14_method_28_code 25 = .ok (.iconst 1, 1) := by decide +kernel
theorem d_M_addItem_26 : decode prog_14_method_28_code 26 = .ok (.iadd, 1) := by decide +kernel
theorem d_M_addItem_27 : decode prog_14_method_28_code 27 = .ok (.putfield 94, 3) := by decide +kernel
theorem d_M_addItem_30 : decode prog_14_method_28_code 30 = .ok (.aload_n 0, 1) := by decide +kernel
theorem d_M_addItem_31 : decode prog_14_method_28_code 31 = .ok (.getfield 94, 3) := by decide +kernel
theorem d_M_addItem_34 : decode prog_14_method_28_code 34 = .ok (.ireturn, 1) := by decide +kernel
theorem d_M_bits_0 : decode prog_14_method_30_code 0 = .ok (.aload_n 0, 1) := by decide +kernel
theorem d_M_bits_1 : decode prog_14_method_30_code 1 = .ok (.iconst 0, 1) := by decide +kernel
theorem d_M_bits_2 : decode prog_14_method_30_code 2 = .ok (.putfield 56, 3) := by decide +kernel
theorem d_M_bits_5 : decode prog_14_method_30_code 5 = .ok (.iload_n 2, 1) := by decide +kernel
theorem d_M_bits_6 : decode prog_14_method_30_code 6 = .ok (.iconst 1, 1) := by decide +kernel
theorem d_M_bits_7 : decode prog_14_method_30_code 7 = .ok (.aload_n 0, 1) := by decide +kernel
theorem d_M_bits_8 : decode prog_14_method_30_code 8 = .ok (.getfield 46, 3) := by decide +kernel
theorem d_M_bits_11 : decode prog_14_method_30_code 11 = .ok (.iconst 4, 1) := by decide +kernel
theorem d_M_bits_12 : decode prog_14_method_30_code 12 = .ok (.if_icmp .ne 8, 3) := by decide +kernel
theorem d_M_bits_15 : decode prog_14_method_30_code 15 = .ok (.bipush 9, 2) := by decide +kernel
theorem d_M_bits_17 : decode prog_14_method_30_code 17 = .ok (.goto 5, 3) := by decide +kernel
theorem d_M_bits_20 : decode prog_14_method_30_code 20 = .ok (.bipush 12, 2) := by decide +kernel
theorem d_M_bits_22 : decode prog_14_method_30_code 22 = .ok (.invokestatic 62, 3) := by decide +kernel
theorem d_M_bits_25 : decode prog_14_method_30_code 25 = .ok (.ifCond .eq 16, 3) := by decide +kernel
theorem d_M_bits_28 : decode prog_14_method_30_code 28 = .ok (.iload_n 1, 1) := by decide +kernel
theorem d_M_bits_29 : decode prog_14_method_30_code 29 = .ok (.iconst 0, 1) := by decide +kernel
theorem d_M_bits_30 : decode prog_14_method_30_code 30 = .ok (.iconst 1, 1) := by decide +kernel
theorem d_M_bits_31 : decode prog_14_method_30_code 31 = .ok (.iload_n 2, 1) := by decide +kernel
theorem d_M_bits_32 : decode prog_14_method_30_code 32 = .ok (.ishl, 1) := by decide +kernel
theorem d_M_bits_33 : decode prog_14_method_30_code 33 = .ok (.iconst 1, 1) := by decide +kernel
theorem d_M_bits_34 : decode prog_14_method_30_code 34 = .ok (.isub, 1) := by decide +kernel
theorem d_M_bits_35 : decode prog_14_method_30_code 35 = .ok (.invokestatic 62, 3) := by decide +kernel
theorem d_M_bits_38 : decode prog_14_method_30_code 38 = .ok (.ifCond .ne 6, 3) := by decide +kernel
theorem d_M_bits_41 : decode prog_14_method_30_code 41 = .ok (.bipush (-2), 2) := by decide +kernel
theorem d_M_bits_43 : decode prog_14_method_30_code 43 = .ok (.ireturn, 1) := by decide +kernel
theorem d_M_bits_44 : decode prog_14_method_30_code 44 = .ok (.aload_n 0, 1) := by decide +kernel
theorem d_M_bits_45 : decode prog_14_method_30_code 45 = .ok (.getfield 97, 3) := by decide +kernel
theorem d_M_bits_48 : decode prog_14_method_30_code 48 = .ok (.ifCond .eq 6, 3) := by decide +kernel
theorem d_M_bits_51 : decode prog_14_method_30_code 51 = .ok (.bipush (-3), 2) := by decide +kernel
theorem d_M_bits_53 : decode prog_14_method_30_code 53 = .ok (.ireturn, 1) := by decide +kernel
theorem d_M_bits_54 : decode prog_14_method_30_code 54 = .ok (.aload_n 0, 1) := by decide +kernel
theorem d_M_bits_55 : decode prog_14_method_30_code 55 = .ok (.getfield 94, 3) := by decide +kernel
theorem d_M_bits_58 : decode prog_14_method_30_code 58 = .ok (.sipush 600, 3) := by decide +kernel
theorem d_M_bits_61 : decode prog_14_method_30_code 61 = .ok (.if_icmp .ne 6, 3) := by decide +kernel
theorem d_M_bits_64 : decode prog_14_method_30_code 64 = .ok (.bipush (-4), 2) := by decide +kernel
theorem d_M_bits_66 : decode prog_14_method_30_code 66 = .ok (.ireturn, 1) := by decide +kernel
theorem d_M_bits_67 : decode prog_14_method_30_code 67 = .ok (.aload_n 0, 1) := by decide +kernel
theorem d_M_bits_68 : decode prog_14_method_30_code 68 = .ok (.iload_n 1, 1) := by decide +kernel
theorem d_M_bits_69 : decode prog_14_method_30_code 69 = .ok (.iload_n 2, 1) := by decide +kernel
theorem d_M_bits_70 : decode prog_14_method_30_code 70 = .ok (.invokevirtual 176, 3) := by decide +kernel
theorem d_M_bits_73 : decode prog_14_method_30_code 73 = .ok (.aload_n 0, 1) := by decide +kernel
theorem d_M_bits_74 : decode prog_14_method_30_code 74 = .ok (.iload_n 2, 1) := by decide +kernel
theorem d_M_bits_75 : decode prog_14_method_30_code 75 = .ok (.ineg, 1) := by decide +kernel
theorem d_M_bits_76 : decode prog_14_method_30_code 76 = .ok (.iload_n 1, 1) := by decide +kernel
theorem d_M_bits_77 : decode prog_14_method_30_code 77 = .ok (.invokevirtual 172, 3) := by decide +kernel
theorem d_M_bits_80 : decode prog_14_method_30_code 80 = .ok (.ireturn, 1) := by decide +kernel
theorem d_M_putValue_0 : decode prog_14_method_27_code 0 = .ok (.aload_n 0, 1) := by decide +kernel
theorem d_M_putValue_1 : decode prog_14_method_27_code 1 = .ok (.getfield 46, 3) := by decide +kernel
theorem d_M_putValue_4 : decode prog_14_method_27_code 4 = .ok (.iconst 2, 1) := by decide +kernel
theorem d_M_putValue_5 : decode prog_14_method_27_code 5 = .ok (.if_icmp .ge 15, 3) := by decide +kernel
theorem d_M_putValue_8 : decode prog_14_method_27_code 8 = .ok (.aload_n 0, 1) := by decide +kernel
theorem d_M_putValue_9 : decode prog_14_method_27_code 9 = .ok (.iload_n 1, 1) := by decide +kernel
theorem d_M_putValue_10 : decode prog_14_method_27_code 10 = .ok (.iconst 1, 1) := by decide +kernel
theorem d_M_putValue_11 : decode prog_14_method_27_code 11 = .ok (.iconst 1, 1) := by decide +kernel
theorem d_M_putValue_12 : decode prog_14_method_27_code 12 = .ok (.iload_n 2, 1) := by decide +kernel
theorem d_M_putValue_13 : decode prog_14_method_27_code 13 = .ok (.ishl, 1) := by decide +kernel
theorem d_M_putValue_14 : decode prog_14_method_27_code 14 = .ok (.invokevirtual 151, 3) := by decide +kernel
theorem d_M_putValue_17 : decode prog_14_method_27_code 17 = .ok (.goto 68, 3) := by decide +kernel
theorem d_M_putValue_20 : decode prog_14_method_27_code 20 = .ok (.aload_n 0, 1) := by decide +kernel
theorem d_M_putValue_21 : decode prog_14_method_27_code 21 = .ok (.getfield 46, 3) := by decide +kernel
theorem d_M_putValue_24 : decode prog_14_method_27_code 24 = .ok (.iconst 2, 1) := by decide +kernel
theorem d_M_putValue_25 : decode prog_14_method_27_code 25 = .ok (.if_icmp .ne 60, 3) := by decide +kernel
theorem d_M_putValue_28 : decode prog_14_method_27_code 28 = .ok (.iload_n 2, 1) := by decide +kernel
theorem d_M_putValue_29 : decode prog_14_method_27_code 29 = .ok (.iconst 1, 1) := by decide +kernel
theorem d_M_putValue_30 : decode prog_14_method_27_code 30 = .ok (.isub, 1) := by decide +kernel
theorem d_M_putValue_31 : decode prog_14_method_27_code 31 = .ok (.istore_n 3, 1) := by decide +kernel
theorem d_M_putValue_32 : decode prog_14_method_27_code 32 = .ok (.iload_n 3, 1) := by decide +kernel
theorem d_M_putValue_33 : decode prog_14_method_27_code 33 = .ok (.ifCond .lt 52, 3) := by decide +kernel
theorem d_M_putValue_36 : decode prog_14_method_27_code 36 = .ok (.aload_n 0, 1) := by decide +kernel
theorem d_M_putValue_37 : decode prog_14_method_27_code 37 = .ok (.aload_n 0, 1) := by decide +kernel
theorem d_M_putValue_38 : decode prog_14_method_27_code 38 = .ok (.getfield 110, 3) := by decide +kernel
theorem d_M_putValue_41 : decode prog_14_method_27_code 41 = .ok (.iconst 1, 1) := by decide +kernel
theorem d_M_putValue_42 : decode prog_14_method_27_code 42 = .ok (.lshr, 1) := by decide +kernel
theorem d_M_putValue_43 : decode prog_14_method_27_code 43 = .ok (.putfield 110, 3) := by decide +kernel
theorem d_M_putValue_46 : decode prog_14_method_27_code 46 = .ok (.aload_n 0, 1) := by decide +kernel
theorem d_M_putValue_47 : decode prog_14_method_27_code 47 = .ok (.iload_n 1, 1) := by decide +kernel
theorem d_M_putValue_48 : decode prog_14_method_27_code 48 = .ok (.iload_n 3, 1) := by decide +kernel
theorem d_M_putValue_49 : decode prog_14_method_27_code 49 = .ok (.ishr, 1) := by decide +kernel
theorem d_M_putValue_50 : decode prog_14_method_27_code 50 = .ok (.iconst 1, 1) := by decide +kernel
theorem d_M_putValue_51 : decode prog_14_method_27_code 51 = .ok (.iand, 1) := by decide +kernel
theorem d_M_putValue_52 : decode prog_14_method_27_code 52 = .ok (.iconst 1, 1) := by decide +kernel
theorem d_M_putValue_53 : decode prog_14_method_27_code 53 = .ok (.if_icmp .ne 15, 3) := by decide +kernel
theorem d_M_putValue_56 : decode prog_14_method_27_code 56 = .ok (.aload_n 0, 1) := by decide +kernel
theorem d_M_putValue_57 : decode prog_14_method_27_code 57 = .ok (.getfield 104, 3) := by decide +kernel
theorem d_M_putValue_60 : decode prog_14_method_27_code 60 = .ok (.aload_n 0, 1) := by decide +kernel
theorem d_M_putValue_61 : decode prog_14_method_27_code 61 = .ok (.getfield 110, 3) := by decide +kernel
theorem d_M_putValue_64 : decode prog_14_method_27_code 64 = .ok (.ladd, 1) := by decide +kernel
theorem d_M_putValue_65 : decode prog_14_method_27_code 65 = .ok (.goto 7, 3) := by decide +kernel
theorem d_M_putValue_68 : decode prog_14_method_27_code 68 = .ok (.aload_n 0, 1) := by decide +kernel
theorem d_M_putValue_69 : decode prog_14_method_27_code 69 = .ok (.getfield 104, 3) := by decide +kernel
theorem d_M_putValue_72 : decode prog_14_method_27_code 72 = .ok (.putfield 104, 3) := by decide +kernel
theorem d_M_putValue_75 : decode prog_14_method_27_code 75 = .ok (.aload_n 0, 1) := by decide +kernel
theorem d_M_putValue_76 : decode prog_14_method_27_code 76 = .ok (.invokevirtual 141, 3) := by decide +kernel
theorem d_M_putValue_79 : decode prog_14_method_27_code 79 = .ok (.iinc 3 (-1), 3) := by decide +kernel
theorem d_M_putValue_82 : decode prog_14_method_27_code 82 = .ok (.goto (-50), 3) := by decide +kernel
theorem d_M_putValue_85 : decode prog_14_method_27_code 85 = .ok (.return_, 1) := by decide +kernel
theorem d_M_end_0 : decode prog_14_method_31_code 0 = .ok (.aload_n 0, 1) := by decide +kernel
theorem d_M_end_1 : decode prog_14_method_31_code 1 = .ok (.iconst 0, 1) := by decide +kernel
theorem d_M_end_2 : decode prog_14_method_31_code 2 = .ok (.putfield 56, 3) := by decide +kernel
theorem d_M_end_5 : decode prog_14_method_31_code 5 = .ok (.aload_n 0, 1) := by decide +kernel
theorem d_M_end_6 : decode prog_14_method_31_code 6 = .ok (.getfield 97, 3) := by decide +kernel
theorem d_M_end_9 : decode prog_14_method_31_code 9 = .ok (.ifCond .eq 6, 3) := by decide +kernel
theorem d_M_end_12 : decode prog_14_method_31_code 12 = .ok (.bipush (-3), 2) := by decide +kernel
theorem d_M_end_14 : decode prog_14_method_31_code 14 = .ok (.ireturn, 1) := by decide +kernel
theorem d_M_end_15 : decode prog_14_method_31_code 15 = .ok (.aload_n 0, 1) := by decide +kernel
theorem d_M_end_16 : decode prog_14_method_31_code 16 = .ok (.iconst 1, 1) := by decide +kernel
theorem d_M_end_17 : decode prog_14_method_31_code 17 = .ok (.putfield 97, 3) := by decide +kernel
theorem d_M_end_20 : decode prog_14_method_31_code 20 = .ok (.aload_n 0, 1) := by decide +kernel
theorem d_M_end_21 : decode prog_14_method_31_code 21 = .ok (.getfield 46, 3) := by decide +kernel
theorem d_M_end_24 : decode prog_14_method_31_code 24 = .ok (.ifCond .eq 11, 3) := by decide +kernel
theorem d_M_end_27 : decode prog_14_method_31_code 27 = .ok (.aload_n 0, 1) := by decide +kernel
theorem d_M_end_28 : decode prog_14_method_31_code 28 = .ok (.getfield 46, 3) := by decide +kernel
theorem d_M_end_31 : decode prog_14_method_31_code 31 = .ok (.iconst 2, 1) := by decide +kernel
theorem d_M_end_32 : decode prog_14_method_31_code 32 = .ok (.if_icmp .ne 23, 3) := by decide +kernel
theorem d_M_end_35 : decode prog_14_method_31_code 35 = .ok (.iconst 0, 1) := by decide +kernel
theorem d_M_end_36 : decode prog_14_method_31_code 36 = .ok (.istore_n 1, 1) := by decide +kernel
theorem d_M_end_37 : decode prog_14_method_31_code 37 = .ok (.iload_n 1, 1) := by decide +kernel
theorem d_M_end_38 : decode prog_14_method_31_code 38 = .ok (.iconst 5, 1) := by decide +kernel
theorem d_M_end_39 : decode prog_14_method_31_code 39 = .ok (.if_icmp .ge 13, 3) := by decide +kernel
theorem d_M_end_42 : decode prog_14_method_31_code 42 = .ok (.aload_n 0, 1) := by decide +kernel
theorem d_M_end_43 : decode prog_14_method_31_code 43 = .ok (.invokevirtual 134, 3) := by decide +kernel
theorem d_M_end_46 : decode prog_14_method_31_code 46 = .ok (.iinc 1 1, 3) := by decide +kernel
theorem d_M_end_49 : decode prog_14_method_31_code 49 = .ok (.goto (-12), 3) := by decide +kernel
theorem d_M_end_52 : decode prog_14_method_31_code 52 = .ok (.goto 73, 3) := by decide +kernel
theorem d_M_end_55 : decode prog_14_method_31_code 55 = .ok (.aload_n 0, 1) := by decide +kernel
theorem d_M_end_56 : decode prog_14_method_31_code 56 = .ok (.getfield 46, 3) := by decide +kernel
theorem d_M_end_59 : decode prog_14_method_31_code 59 = .ok (.iconst 1, 1) := by decide +kernel
theorem d_M_end_60 : decode prog_14_method_31_code 60 = .ok (.if_icmp .ne 46, 3) := by decide +kernel
theorem d_M_end_63 : decode prog_14_method_31_code 63 = .ok (.iconst 0, 1) := by decide +kernel
theorem d_M_end_64 : decode prog_14_method_31_code 64 = .ok (.istore_n 1, 1) := by decide +kernel
theorem d_M_end_65 : decode prog_14_method_31_code 65 = .ok (.iload_n 1, 1) := by decide +kernel
theorem d_M_end_66 : decode prog_14_method_31_code 66 = .ok (.iconst 4, 1) := by decide +kernel
theorem d_M_end_67 : decode prog_14_method_31_code 67 = .ok (.if_icmp .ge 36, 3) := by decide +kernel
theorem d_M_end_70 : decode prog_14_method_31_code 70 = .ok (.aload_n 0, 1) := by decide +kernel
theorem d_M_end_71 : decode prog_14_method_31_code 71 = .ok (.aload_n 0, 1) := by decide +kernel
theorem d_M_end_72 : decode prog_14_method_31_code 72 = .ok (.getfield 104, 3) := by decide +kernel
theorem d_M_end_75 : decode prog_14_method_31_code 75 = .ok (.bipush 24, 2) := by decide +kernel
theorem d_M_end_77 : decode prog_14_method_31_code 77 = .ok (.lshr, 1) := by decide +kernel
theorem d_M_end_78 : decode prog_14_method_31_code 78 = .ok (.l2i, 1) := by decide +kernel
theorem d_M_end_79 : decode prog_14_method_31_code 79 = .ok (.invokevirtual 124, 3) := by decide +kernel
theorem d_M_end_82 : decode prog_14_method_31_code 82 = .ok (.aload_n 0, 1) := by decide +kernel
theorem d_M_end_83 : decode prog_14_method_31_code 83 = .ok (.aload_n 0, 1) := by decide +kernel
theorem d_M_end_84 : decode prog_14_method_31_code 84 = .ok (.getfield 104, 3) := by decide +kernel
theorem d_M_end_87 : decode prog_14_method_31_code 87 = .ok (.bipush 8, 2) := by decide +kernel
theorem d_M_end_89 : decode prog_14_method_31_code 89 = .ok (.lshl, 1) := by decide +kernel
theorem d_M_end_90 : decode prog_14_method_31_code 90 = .ok (.ldc2_w 108, 3) := by decide +kernel
theorem d_M_end_93 : decode prog_14_method_31_code 93 = .ok (.land, 1) := by decide +kernel
theorem d_M_end_94 : decode prog_14_method_31_code 94 = .ok (.putfield 104, 3) := by decide +kernel
theorem d_M_end_97 : decode prog_14_method_31_code 97 = .ok (.iinc 1 1, 3) := by decide +kernel
theorem d_M_end_100 : decode prog_14_method_31_code 100 = .ok (.goto (-35), 3) := by decide +kernel
theorem d_M_end_103 : decode prog_14_method_31_code 103 = .ok (.goto 22, 3) := by decide +kernel
theorem d_M_end_106 : decode prog_14_method_31_code 106 = .ok (.aload_n 0, 1) := by decide +kernel
theorem d_M_end_107 : decode prog_14_method_31_code 107 = .ok (.getfield 46, 3) := by decide +kernel
theorem d_M_end_110 : decode prog_14_method_31_code 110 = .ok (.iconst 3, 1) := by decide +kernel
theorem d_M_end_111 : decode prog_14_method_31_code 111 = .ok (.if_icmp .ne 10, 3) := by decide +kernel
theorem d_M_end_114 : decode prog_14_method_31_code 114 = .ok (.aload_n 0, 1) := by decide +kernel
theorem d_M_end_115 : decode prog_14_method_31_code 115 = .ok (.invokevirtual 179, 3) := by decide +kernel
theorem d_M_end_118 : decode prog_14_method_31_code 118 = .ok (.goto 7, 3) := by decide +kernel
theorem d_M_end_121 : decode prog_14_method_31_code 121 = .ok (.aload_n 0, 1) := by decide +kernel
theorem d_M_end_122 : decode prog_14_method_31_code 122 = .ok (.invokevirtual 182, 3) := by decide +kernel
theorem d_M_end_125 : decode prog_14_method_31_code 125 = .ok (.aload_n 0, 1) := by decide +kernel
theorem d_M_end_126 : decode prog_14_method_31_code 126 = .ok (.aload_n 0, 1) := by decide +kernel
theorem d_M_end_127 : decode prog_14_method_31_code 127 = .ok (.getfield 119, 3) := by decide +kernel
theorem d_M_end_130 : decode prog_14_method_31_code 130 = .ok (.putfield 185, 3) := by decide +kernel
theorem d_M_end_133 : decode prog_14_method_31_code 133 = .ok (.iconst 0, 1) := by decide +kernel
theorem d_M_end_134 : decode prog_14_method_31_code 134 = .ok (.istore_n 1, 1) := by decide +kernel
theorem d_M_end_135 : decode prog_14_method_31_code 135 = .ok (.iload_n 1, 1) := by decide +kernel
theorem d_M_end_136 : decode prog_14_method_31_code 136 = .ok (.aload_n 0, 1) := by decide +kernel
theorem d_M_end_137 : decode prog_14_method_31_code 137 = .ok (.getfield 119, 3) := by decide +kernel
theorem d_M_end_140 : decode prog_14_method_31_code 140 = .ok (.if_icmp .ge 21, 3) := by decide +kernel
theorem d_M_end_143 : decode prog_14_method_31_code 143 = .ok (.aload_n 0, 1) := by decide +kernel
theorem d_M_end_144 : decode prog_14_method_31_code 144 = .ok (.getfield 31, 3) := by decide +kernel
theorem d_M_end_147 : decode prog_14_method_31_code 147 = .ok (.iload_n 1, 1) := by decide +kernel
theorem d_M_end_148 : decode prog_14_method_31_code 148 = .ok (.aload_n 0, 1) := by decide +kernel
theorem d_M_end_149 : decode prog_14_method_31_code 149 = .ok (.getfield 28, 3) := by decide +kernel
theorem d_M_end_152 : decode prog_14_method_31_code 152 = .ok (.iload_n 1, 1) := by decide +kernel
theorem d_M_end_153 : decode prog_14_method_31_code 153 = .ok (.iaload, 1) := by decide +kernel
theorem d_M_end_154 : decode prog_14_method_31_code 154 = .ok (.iastore, 1) := by decide +kernel
theorem d_M_end_155 : decode prog_14_method_31_code 155 = .ok (.iinc 1 1, 3) := by decide +kernel
theorem d_M_end_158 : decode prog_14_method_31_code 158 = .ok (.goto (-23), 3) := by decide +kernel
theorem d_M_end_161 : decode prog_14_method_31_code 161 = .ok (.aload_n 0, 1) := by decide +kernel
theorem d_M_end_162 : decode prog_14_method_31_code 162 = .ok (.getfield 185, 3) := by decide +kernel
theorem d_M_end_165 : decode prog_14_method_31_code 165 = .ok (.ireturn, 1) := by decide +kernel
theorem d_M_endStack_0 : decode prog_14_method_32_code 0 = .ok (.aload_n 0, 1) := by decide +kernel
theorem d_M_endStack_1 : decode prog_14_method_32_code 1 = .ok (.iconst 0, 1) := by decide +kernel
theorem d_M_endStack_2 : decode prog_14_method_32_code 2 = .ok (.putfield 188, 3) := by decide +kernel
theorem d_M_endStack_5 : decode prog_14_method_32_code 5 = .ok (.ldc2_w 191, 3) := by decide +kernel
theorem d_M_endStack_8 : decode prog_14_method_32_code 8 = .ok (.lstore_n 1, 1) := by decide +kernel
theorem d_M_endStack_9 : decode prog_14_method_32_code 9 = .ok (.aload_n 0, 1) := by decide +kernel
theorem d_M_endStack_10 : decode prog_14_method_32_code 10 = .ok (.getfield 94, 3) := by decide +kernel
theorem d_M_endStack_13 : decode prog_14_method_32_code 13 = .ok (.iconst 1, 1) := by decide +kernel
theorem d_M_endStack_14 : decode prog_14_method_32_code 14 = .ok (.isub, 1) := by decide +kernel
theorem d_M_endStack_15 : decode prog_14_method_32_code 15 = .ok (.istore_n 3, 1) := by decide +kernel
theorem d_M_endStack_16 : decode prog_14_method_32_code 16 = .ok (.iload_n 3, 1) := by decide +kernel
theorem d_M_endStack_17 : decode prog_14_method_32_code 17 = .ok (.ifCond .lt 145, 3) := by decide +kernel
theorem d_M_endStack_20 : decode prog_14_method_32_code 20 = .ok (.aload_n 0, 1) := by decide +kernel
theorem d_M_endStack_21 : decode prog_14_method_32_code 21 = .ok (.getfield 22, 3) := by decide +kernel
theorem d_M_endStack_24 : decode prog_14_method_32_code 24 = .ok (.iload_n 3, 1) := by decide +kernel
theorem d_M_endStack_25 : decode prog_14_method_32_code 25 = .ok (.iaload, 1) := by decide +kernel
theorem d_M_endStack_26 : decode prog_14_method_32_code 26 = .ok (.istore 4, 2) := by decide +kernel
theorem d_M_endStack_28 : decode prog_14_method_32_code 28 = .ok (.aload_n 0, 1) := by decide +kernel
theorem d_M_endStack_29 : decode prog_14_method_32_code 29 = .ok (.getfield 25, 3) := by decide +kernel
theorem d_M_endStack_32 : decode prog_14_method_32_code 32 = .ok (.iload_n 3, 1) := by decide +kernel
theorem d_M_endStack_33 : decode prog_14_method_32_code 33 = .ok (.iaload, 1) := by decide +kernel
theorem d_M_endStack_34 : decode prog_14_method_32_code 34 = .ok (.istore 5, 2) := by decide +kernel
theorem d_M_endStack_36 : decode prog_14_method_32_code 36 = .ok (.iload 4, 2) := by decide +kernel
theorem d_M_endStack_38 : decode prog_14_method_32_code 38 = .ok (.ifCond .ge 14, 3) := by decide +kernel
theorem d_M_endStack_41 : decode prog_14_method_32_code 41 = .ok (.sipush 4096, 3) := by decide +kernel
theorem d_M_endStack_44 : decode prog_14_method_32_code 44 = .ok (.iload 4, 2) := by decide +kernel
theorem d_M_endStack_46 : decode prog_14_method_32_code 46 = .ok (.ineg, 1) := by decide +kernel
theorem d_M_endStack_47 : decode prog_14_method_32_code 47 = .ok (.ishr, 1) := by decide +kernel
theorem d_M_endStack_48 : decode prog_14_method_32_code 48 = .ok (.i2l, 1) := by decide +kernel
theorem d_M_endStack_49 : decode prog_14_method_32_code 49 = .ok (.goto 17, 3) := by decide +kernel
theorem d_M_endStack_52 : decode prog_14_method_32_code 52 = .ok (.aload_n 0, 1) := by decide +kernel
theorem d_M_endStack_53 : decode prog_14_method_32_code 53 = .ok (.getfield 16, 3) := by decide +kernel
theorem d_M_endStack_56 : decode prog_14_method_32_code 56 = .ok (.bipush 64, 2) := by decide +kernel
theorem d_M_endStack_58 : decode prog_14_method_32_code 58 = .ok (.iload 4, 2) := by decide +kernel
theorem d_M_endStack_60 : decode prog_14_method_32_code 60 = .ok (.imul, 1) := by decide +kernel
theorem d_M_endStack_61 : decode prog_14_method_32_code 61 = .ok (.iload 5, 2) := by decide +kernel
theorem d_M_endStack_63 : decode prog_14_method_32_code 63 = .ok (.iadd, 1) := by decide +kernel
theorem d_M_endStack_64 : decode prog_14_method_32_code 64 = .ok (.iaload, 1) := by decide +kernel
theorem d_M_endStack_65 : decode prog_14_method_32_code 65 = .ok (.i2l, 1) := by decide +kernel
theorem d_M_endStack_66 : decode prog_14_method_32_code 66 = .ok (.lstore 6, 2) := by decide +kernel
theorem d_M_endStack_68 : decode prog_14_method_32_code 68 = .ok (.iload 4, 2) := by decide +kernel
theorem d_M_endStack_70 : decode prog_14_method_32_code 70 = .ok (.ifCond .ge 12, 3) := by decide +kernel
theorem d_M_endStack_73 : decode prog_14_method_32_code 73 = .ok (.lload 6, 2) := by decide +kernel
theorem d_M_endStack_75 : decode prog_14_method_32_code 75 = .ok (.iload 5, 2) := by decide +kernel
theorem d_M_endStack_77 : decode prog_14_method_32_code 77 = .ok (.i2l, 1) := by decide +kernel
theorem d_M_endStack_78 : decode prog_14_method_32_code 78 = .ok (.lmul, 1) := by decide +kernel
theorem d_M_endStack_79 : decode prog_14_method_32_code 79 = .ok (.goto 16, 3) := by decide +kernel
theorem d_M_endStack_82 : decode prog_14_method_32_code 82 = .ok (.aload_n 0, 1) := by decide +kernel
theorem d_M_endStack_83 : decode prog_14_method_32_code 83 = .ok (.aload_n 0, 1) := by decide +kernel
theorem d_M_endStack_84 : decode prog_14_method_32_code 84 = .ok (.getfield 16, 3) := by decide +kernel
theorem d_M_endStack_87 : decode prog_14_method_32_code 87 = .ok (.iload 4, 2) := by decide +kernel
theorem d_M_endStack_89 : decode prog_14_method_32_code 89 = .ok (.iload 5, 2) := by decide +kernel
theorem d_M_endStack_91 : decode prog_14_method_32_code 91 = .ok (.invokevirtual 147, 3) := by decide +kernel
theorem d_M_endStack_94 : decode prog_14_method_32_code 94 = .ok (.i2l, 1) := by decide +kernel
theorem d_M_endStack_95 : decode prog_14_method_32_code 95 = .ok (.lstore 8, 2) := by decide +kernel
theorem d_M_endStack_97 : decode prog_14_method_32_code 97 = .ok (.lload_n 1, 1) := by decide +kernel
theorem d_M_endStack_98 : decode prog_14_method_32_code 98 = .ok (.lload 6, 2) := by decide +kernel
theorem d_M_endStack_100 : decode prog_14_method_32_code 100 = .ok (.bipush 19, 2) := by decide +kernel
theorem d_M_endStack_102 : decode prog_14_method_32_code 102 = .ok (.lshl, 1) := by decide +kernel
theorem d_M_endStack_103 : decode prog_14_method_32_code 103 = .ok (.lcmp, 1) := by decide +kernel
theorem d_M_endStack_104 : decode prog_14_method_32_code 104 = .ok (.ifCond .lt 36, 3) := by decide +kernel
theorem d_M_endStack_107 : decode prog_14_method_32_code 107 = .ok (.aload_n 0, 1) := by decide +kernel
theorem d_M_endStack_108 : decode prog_14_method_32_code 108 = .ok (.getfield 43, 3) := by decide +kernel
theorem d_M_endStack_111 : decode prog_14_method_32_code 111 = .ok (.aload_n 0, 1) := by decide +kernel
theorem d_M_endStack_112 : decode prog_14_method_32_code 112 = .ok (.getfield 188, 3) := by decide +kernel
theorem d_M_endStack_115 : decode prog_14_method_32_code 115 = .ok (.lload_n 1, 1) := by decide +kernel
theorem d_M_endStack_116 : decode prog_14_method_32_code 116 = .ok (.ldc2_w 128, 3) := by decide +kernel
theorem d_M_endStack_119 : decode prog_14_method_32_code 119 = .ok (.land, 1) := by decide +kernel
theorem d_M_endStack_120 : decode prog_14_method_32_code 120 = .ok (.l2i, 1) := by decide +kernel
theorem d_M_endStack_121 : decode prog_14_method_32_code 121 = .ok (.iastore, 1) := by decide +kernel
theorem d_M_endStack_122 : decode prog_14_method_32_code 122 = .ok (.aload_n 0, 1) := by decide +kernel
theorem d_M_endStack_123 : decode prog_14_method_32_code 123 = .ok (.dup, 1) := by decide +kernel
theorem d_M_endStack_124 : decode prog_14_method_32_code 124 = .ok (.getfield 188, 3) := by decide +kernel
theorem d_M_endStack_127 : decode prog_14_method_32_code 127 = .ok (.iconst 1, 1) := by decide +kernel
theorem d_M_endStack_128 : decode prog_14_method_32_code 128 = .ok (.iadd, 1) := by decide +kernel
theorem d_M_endStack_129 : decode prog_14_method_32_code 129 = .ok (.putfield 188, 3) := by decide +kernel
theorem d_M_endStack_132 : decode prog_14_method_32_code 132 = .ok (.lload_n 1, 1) := by decide +kernel
theorem d_M_endStack_133 : decode prog_14_method_32_code 133 = .ok (.bipush 8, 2) := by decide +kernel
theorem d_M_endStack_135 : decode prog_14_method_32_code 135 = .ok (.lshr, 1) := by decide +kernel
theorem d_M_endStack_136 : decode prog_14_method_32_code 136 = .ok (.lstore_n 1, 1) := by decide +kernel
theorem d_M_endStack_137 : decode prog_14_method_32_code 137 = .ok (.goto (-40), 3) := by decide +kernel
theorem d_M_endStack_140 : decode prog_14_method_32_code 140 = .ok (.lload_n 1, 1) := by decide +kernel
theorem d_M_endStack_141 : decode prog_14_method_32_code 141 = .ok (.lload 6, 2) := by decide +kernel
theorem d_M_endStack_143 : decode prog_14_method_32_code 143 = .ok (.ldiv, 1) := by decide +kernel
theorem d_M_endStack_144 : decode prog_14_method_32_code 144 = .ok (.bipush 12, 2) := by decide +kernel
theorem d_M_endStack_146 : decode prog_14_method_32_code 146 = .ok (.lshl, 1) := by decide +kernel
theorem d_M_endStack_147 : decode prog_14_method_32_code 147 = .ok (.lload_n 1, 1) := by decide +kernel
theorem d_M_endStack_148 : decode prog_14_method_32_code 148 = .ok (.lload 6, 2) := by decide +kernel
theorem d_M_endStack_150 : decode prog_14_method_32_code 150 = .ok (.lrem, 1) := by decide +kernel
theorem d_M_endStack_151 : decode prog_14_method_32_code 151 = .ok (.ladd, 1) := by decide +kernel
theorem d_M_endStack_152 : decode prog_14_method_32_code 152 = .ok (.lload 8, 2) := by decide +kernel
theorem d_M_endStack_154 : decode prog_14_method_32_code 154 = .ok (.ladd, 1) := by decide +kernel
theorem d_M_endStack_155 : decode prog_14_method_32_code 155 = .ok (.lstore_n 1, 1) := by decide +kernel
theorem d_M_endStack_156 : decode prog_14_method_32_code 156 = .ok (.iinc 3 (-1), 3) := by decide +kernel
theorem d_M_endStack_159 : decode prog_14_method_32_code 159 = .ok (.goto (-143), 3) := by decide +kernel
theorem d_M_endStack_162 : decode prog_14_method_32_code 162 = .ok (.iconst 0, 1) := by decide +kernel
theorem d_M_endStack_163 : decode prog_14_method_32_code 163 = .ok (.istore_n 3, 1) := by decide +kernel
theorem d_M_endStack_164 : decode prog_14_method_32_code 164 = .ok (.iload_n 3, 1) := by decide +kernel
theorem d_M_endStack_165 : decode prog_14_method_32_code 165 = .ok (.iconst 4, 1) := by decide +kernel
theorem d_M_endStack_166 : decode prog_14_method_32_code 166 = .ok (.if_icmp .ge 39, 3) := by decide +kernel
theorem d_M_endStack_169 : decode prog_14_method_32_code 169 = .ok (.aload_n 0, 1) := by decide +kernel
theorem d_M_endStack_170 : decode prog_14_method_32_code 170 = .ok (.getfield 43, 3) := by decide +kernel
theorem d_M_endStack_173 : decode prog_14_method_32_code 173 = .ok (.aload_n 0, 1) := by decide +kernel
theorem d_M_endStack_174 : decode prog_14_method_32_code 174 = .ok (.getfield 188, 3) := by decide +kernel
theorem d_M_endStack_177 : decode prog_14_method_32_code 177 = .ok (.lload_n 1, 1) := by decide +kernel
theorem d_M_endStack_178 : decode prog_14_method_32_code 178 = .ok (.ldc2_w 128, 3) := by decide +kernel
theorem d_M_endStack_181 : decode prog_14_method_32_code 181 = .ok (.land, 1) := by decide +kernel
theorem d_M_endStack_182 : decode prog_14_method_32_code 182 = .ok (.l2i, 1) := by decide +kernel
theorem d_M_endStack_183 : decode prog_14_method_32_code 183 = .ok (.iastore, 1) := by decide +kernel
theorem d_M_endStack_184 : decode prog_14_method_32_code 184 = .ok (.aload_n 0, 1) := by decide +kernel
theorem d_M_endStack_185 : decode prog_14_method_32_code 185 = .ok (.dup, 1) := by decide +kernel
theorem d_M_endStack_186 : decode prog_14_method_32_code 186 = .ok (.getfield 188, 3) := by decide +kernel
theorem d_M_endStack_189 : decode prog_14_method_32_code 189 = .ok (.iconst 1, 1) := by decide +kernel
theorem d_M_endStack_190 : decode prog_14_method_32_code 190 = .ok (.iadd, 1) := by decide +kernel
theorem d_M_endStack_191 : decode prog_14_method_32_code 191 = .ok (.putfield 188, 3) := by decide +kernel
theorem d_M_endStack_194 : decode prog_14_method_32_code 194 = .ok (.lload_n 1, 1) := by decide +kernel
theorem d_M_endStack_195 : decode prog_14_method_32_code 195 = .ok (.bipush 8, 2) := by decide +kernel
theorem d_M_endStack_197 : decode prog_14_method_32_code 197 = .ok (.lshr, 1) := by decide +kernel
theorem d_M_endStack_198 : decode prog_14_method_32_code 198 = .ok (.lstore_n 1, 1) := by decide +kernel
theorem d_M_endStack_199 : decode prog_14_method_32_code 199 = .ok (.iinc 3 1, 3) := by decide +kernel
theorem d_M_endStack_202 : decode prog_14_method_32_code 202 = .ok (.goto (-38), 3) := by decide +kernel
theorem d_M_endStack_205 : decode prog_14_method_32_code 205 = .ok (.aload_n 0, 1) := by decide +kernel
theorem d_M_endStack_206 : decode prog_14_method_32_code 206 = .ok (.getfield 188, 3) := by decide +kernel
theorem d_M_endStack_209 : decode prog_14_method_32_code 209 = .ok (.iconst 1, 1) := by decide +kernel
theorem d_M_endStack_210 : decode prog_14_method_32_code 210 = .ok (.isub, 1) := by decide +kernel
theorem d_M_endStack_211 : decode prog_14_method_32_code 211 = .ok (.istore_n 3, 1) := by decide +kernel
theorem d_M_endStack_212 : decode prog_14_method_32_code 212 = .ok (.iload_n 3, 1) := by decide +kernel
theorem d_M_endStack_213 : decode prog_14_method_32_code 213 = .ok (.ifCond .lt 19, 3) := by decide +kernel
theorem d_M_endStack_216 : decode prog_14_method_32_code 216 = .ok (.aload_n 0, 1) := by decide +kernel
theorem d_M_endStack_217 : decode prog_14_method_32_code 217 = .ok (.aload_n 0, 1) := by decide +kernel
theorem d_M_endStack_218 : decode prog_14_method_32_code 218 = .ok (.getfield 43, 3) := by decide +kernel
theorem d_M_endStack_221 : decode prog_14_method_32_code 221 = .ok (.iload_n 3, 1) := by decide +kernel
theorem d_M_endStack_222 : decode prog_14_method_32_code 222 = .ok (.iaload, 1) := by decide +kernel
theorem d_M_endStack_223 : decode prog_14_method_32_code 223 = .ok (.invokevirtual 124, 3) := by decide +kernel
theorem d_M_endStack_226 : decode prog_14_method_32_code 226 = .ok (.iinc 3 (-1), 3) := by decide +kernel
theorem d_M_endStack_229 : decode prog_14_method_32_code 229 = .ok (.goto (-17), 3) := by decide +kernel
theorem d_M_endStack_232 : decode prog_14_method_32_code 232 = .ok (.return_, 1) := by decide +kernel
theorem d_M_endTable_0 : decode prog_14_method_35_code 0 = .ok (.aload_n 0, 1) := by decide +kernel
theorem d_M_endTable_1 : decode prog_14_method_35_code 1 = .ok (.iconst 0, 1) := by decide +kernel
theorem d_M_endTable_2 : decode prog_14_method_35_code 2 = .ok (.putfield 188, 3) := by decide +kernel
theorem d_M_endTable_5 : decode prog_14_method_35_code 5 = .ok (.ldc2_w 193, 3) := by decide +kernel
theorem d_M_endTable_8 : decode prog_14_method_35_code 8 = .ok (.lstore_n 1, 1) := by decide +kernel
theorem d_M_endTable_9 : decode prog_14_method_35_code 9 = .ok (.iconst (-1), 1) := by decide +kernel
theorem d_M_endTable_10 : decode prog_14_method_35_code 10 = .ok (.istore_n 3, 1) := by decide +kernel
theorem d_M_endTable_11 : decode prog_14_method_35_code 11 = .ok (.aload_n 0, 1) := by decide +kernel
theorem d_M_endTable_12 : decode prog_14_method_35_code 12 = .ok (.getfield 94, 3) := by decide +kernel
theorem d_M_endTable_15 : decode prog_14_method_35_code 15 = .ok (.iconst 1, 1) := by decide +kernel
theorem d_M_endTable_16 : decode prog_14_method_35_code 16 = .ok (.isub, 1) := by decide +kernel
theorem d_M_endTable_17 : decode prog_14_method_35_code 17 = .ok (.istore 4, 2) := by decide +kernel
theorem d_M_endTable_19 : decode prog_14_method_35_code 19 = .ok (.iload 4, 2) := by decide +kernel
theorem d_M_endTable_21 : decode prog_14_method_35_code 21 = .ok (.ifCond .lt 166, 3) := by decide +kernel
theorem d_M_endTable_24 : decode prog_14_method_35_code 24 = .ok (.aload_n 0, 1) := by decide +kernel
theorem d_M_endTable_25 : decode prog_14_method_35_code 25 = .ok (.getfield 22, 3) := by decide +kernel
theorem d_M_endTable_28 : decode prog_14_method_35_code 28 = .ok (.iload 4, 2) := by decide +kernel
theorem d_M_endTable_30 : decode prog_14_method_35_code 30 = .ok (.iaload, 1) := by decide +kernel
theorem d_M_endTable_31 : decode prog_14_method_35_code 31 = .ok (.istore 5, 2) := by decide +kernel
theorem d_M_endTable_33 : decode prog_14_method_35_code 33 = .ok (.aload_n 0, 1) := by decide +kernel
theorem d_M_endTable_34 : decode prog_14_method_35_code 34 = .ok (.getfield 25, 3) := by decide +kernel
theorem d_M_endTable_37 : decode prog_14_method_35_code 37 = .ok (.iload 4, 2) := by decide +kernel
theorem d_M_endTable_39 : decode prog_14_method_35_code 39 = .ok (.iaload, 1) := by decide +kernel
theorem d_M_endTable_40 : decode prog_14_method_35_code 40 = .ok (.istore 6, 2) := by decide +kernel
theorem d_M_endTable_42 : decode prog_14_method_35_code 42 = .ok (.iload 5, 2) := by decide +kernel
theorem d_M_endTable_44 : decode prog_14_method_35_code 44 = .ok (.ifCond .ge 33, 3) := by decide +kernel
theorem d_M_endTable_47 : decode prog_14_method_35_code 47 = .ok (.iconst 0, 1) := by decide +kernel
theorem d_M_endTable_48 : decode prog_14_method_35_code 48 = .ok (.istore 7, 2) := by decide +kernel
theorem d_M_endTable_50 : decode prog_14_method_35_code 50 = .ok (.iload 7, 2) := by decide +kernel
theorem d_M_endTable_52 : decode prog_14_method_35_code 52 = .ok (.iload 5, 2) := by decide +kernel
theorem d_M_endTable_54 : decode prog_14_method_35_code 54 = .ok (.ineg, 1) := by decide +kernel
theorem d_M_endTable_55 : decode prog_14_method_35_code 55 = .ok (.if_icmp .ge 19, 3) := by decide +kernel
theorem d_M_endTable_58 : decode prog_14_method_35_code 58 = .ok (.aload_n 0, 1) := by decide +kernel
theorem d_M_endTable_59 : decode prog_14_method_35_code 59 = .ok (.iload 6, 2) := by decide +kernel
theorem d_M_endTable_61 : decode prog_14_method_35_code 61 = .ok (.iload 7, 2) := by decide +kernel
theorem d_M_endTable_63 : decode prog_14_method_35_code 63 = .ok (.ishr, 1) := by decide +kernel
theorem d_M_endTable_64 : decode prog_14_method_35_code 64 = .ok (.i2l, 1) := by decide +kernel
theorem d_M_endTable_65 : decode prog_14_method_35_code 65 = .ok (.invokevirtual 195, 3) := by decide +kernel
theorem d_M_endTable_68 : decode prog_14_method_35_code 68 = .ok (.iinc 7 1, 3) := by decide +kernel
theorem d_M_endTable_71 : decode prog_14_method_35_code 71 = .ok (.goto (-21), 3) := by decide +kernel
theorem d_M_endTable_74 : decode prog_14_method_35_code 74 = .ok (.goto 107, 3) := by decide +kernel
theorem d_M_endTable_77 : decode prog_14_method_35_code 77 = .ok (.iload_n 3, 1) := by decide +kernel
theorem d_M_endTable_78 : decode prog_14_method_35_code 78 = .ok (.iload 5, 2) := by decide +kernel
theorem d_M_endTable_80 : decode prog_14_method_35_code 80 = .ok (.if_icmp .eq 16, 3) := by decide +kernel
theorem d_M_endTable_83 : decode prog_14_method_35_code 83 = .ok (.aload_n 0, 1) := by decide +kernel
theorem d_M_endTable_84 : decode prog_14_method_35_code 84 = .ok (.aload_n 0, 1) := by decide +kernel
theorem d_M_endTable_85 : decode prog_14_method_35_code 85 = .ok (.getfield 16, 3) := by decide +kernel
theorem d_M_endTable_88 : decode prog_14_method_35_code 88 = .ok (.iload 5, 2) := by decide +kernel
theorem d_M_endTable_90 : decode prog_14_method_35_code 90 = .ok (.invokevirtual 199, 3) := by decide +kernel
theorem d_M_endTable_93 : decode prog_14_method_35_code 93 = .ok (.iload 5, 2) := by decide +kernel
theorem d_M_endTable_95 : decode prog_14_method_35_code 95 = .ok (.istore_n 3, 1) := by decide +kernel
theorem d_M_endTable_96 : decode prog_14_method_35_code 96 = .ok (.aload_n 0, 1) := by decide +kernel
theorem d_M_endTable_97 : decode prog_14_method_35_code 97 = .ok (.getfield 16, 3) := by decide +kernel
theorem d_M_endTable_100 : decode prog_14_method_35_code 100 = .ok (.bipush 64, 2) := by decide +kernel
theorem d_M_endTable_102 : decode prog_14_method_35_code 102 = .ok (.iload 5, 2) := by decide +kernel
theorem d_M_endTable_104 : decode prog_14_method_35_code 104 = .ok (.imul, 1) := by decide +kernel
theorem d_M_endTable_105 : decode prog_14_method_35_code 105 = .ok (.iload 6, 2) := by decide +kernel
theorem d_M_endTable_107 : decode prog_14_method_35_code 107 = .ok (.iadd, 1) := by decide +kernel
theorem d_M_endTable_108 : decode prog_14_method_35_code 108 = .ok (.iaload, 1) := by decide +kernel
theorem d_M_endTable_109 : decode prog_14_method_35_code 109 = .ok (.istore 7, 2) := by decide +kernel
theorem d_M_endTable_111 : decode prog_14_method_35_code 111 = .ok (.lload_n 1, 1) := by decide +kernel
theorem d_M_endTable_112 : decode prog_14_method_35_code 112 = .ok (.ldc2_w 202, 3) := by decide +kernel
theorem d_M_endTable_115 : decode prog_14_method_35_code 115 = .ok (.iload 7, 2) := by decide +kernel
theorem d_M_endTable_117 : decode prog_14_method_35_code 117 = .ok (.i2l, 1) := by decide +kernel
theorem d_M_endTable_118 : decode prog_14_method_35_code 118 = .ok (.lmul, 1) := by decide +kernel
theorem d_M_endTable_119 : decode prog_14_method_35_code 119 = .ok (.lcmp, 1) := by decide +kernel
theorem d_M_endTable_120 : decode prog_14_method_35_code 120 = .ok (.ifCond .lt 15, 3) := by decide +kernel
theorem d_M_endTable_123 : decode prog_14_method_35_code 123 = .ok (.aload_n 0, 1) := by decide +kernel
theorem d_M_endTable_124 : decode prog_14_method_35_code 124 = .ok (.lload_n 1, 1) := by decide +kernel
theorem d_M_endTable_125 : decode prog_14_method_35_code 125 = .ok (.invokevirtual 195, 3) := by decide +kernel
theorem d_M_endTable_128 : decode prog_14_method_35_code 128 = .ok (.lload_n 1, 1) := by decide +kernel
theorem d_M_endTable_129 : decode prog_14_method_35_code 129 = .ok (.iconst 1, 1) := by decide +kernel
theorem d_M_endTable_130 : decode prog_14_method_35_code 130 = .ok (.lshr, 1) := by decide +kernel
theorem d_M_endTable_131 : decode prog_14_method_35_code 131 = .ok (.lstore_n 1, 1) := by decide +kernel
theorem d_M_endTable_132 : decode prog_14_method_35_code 132 = .ok (.goto (-21), 3) := by decide +kernel
theorem d_M_endTable_135 : decode prog_14_method_35_code 135 = .ok (.iconst 0, 1) := by decide +kernel
theorem d_M_endTable_136 : decode prog_14_method_35_code 136 = .ok (.istore 8, 2) := by decide +kernel
theorem d_M_endTable_138 : decode prog_14_method_35_code 138 = .ok (.aload_n 0, 1) := by decide +kernel
theorem d_M_endTable_139 : decode prog_14_method_35_code 139 = .ok (.getfield 37, 3) := by decide +kernel
theorem d_M_endTable_142 : decode prog_14_method_35_code 142 = .ok (.iload 8, 2) := by decide +kernel
theorem d_M_endTable_144 : decode prog_14_method_35_code 144 = .ok (.iaload, 1) := by decide +kernel
theorem d_M_endTable_145 : decode prog_14_method_35_code 145 = .ok (.iload 6, 2) := by decide +kernel
theorem d_M_endTable_147 : decode prog_14_method_35_code 147 = .ok (.if_icmp .ne 20, 3) := by decide +kernel
theorem d_M_endTable_150 : decode prog_14_method_35_code 150 = .ok (.aload_n 0, 1) := by decide +kernel
theorem d_M_endTable_151 : decode prog_14_method_35_code 151 = .ok (.getfield 40, 3) := by decide +kernel
theorem d_M_endTable_154 : decode prog_14_method_35_code 154 = .ok (.iload 8, 2) := by decide +kernel
theorem d_M_endTable_156 : decode prog_14_method_35_code 156 = .ok (.iaload, 1) := by decide +kernel
theorem d_M_endTable_157 : decode prog_14_method_35_code 157 = .ok (.i2l, 1) := by decide +kernel
theorem d_M_endTable_158 : decode prog_14_method_35_code 158 = .ok (.lload_n 1, 1) := by decide +kernel
theorem d_M_endTable_159 : decode prog_14_method_35_code 159 = .ok (.iload 7, 2) := by decide +kernel
theorem d_M_endTable_161 : decode prog_14_method_35_code 161 = .ok (.i2l, 1) := by decide +kernel
theorem d_M_endTable_162 : decode prog_14_method_35_code 162 = .ok (.lsub, 1) := by decide +kernel
theorem d_M_endTable_163 : decode prog_14_method_35_code 163 = .ok (.lcmp, 1) := by decide +kernel
theorem d_M_endTable_164 : decode prog_14_method_35_code 164 = .ok (.ifCond .eq 9, 3) := by decide +kernel
theorem d_M_endTable_167 : decode prog_14_method_35_code 167 = .ok (.iinc 8 1, 3) := by decide +kernel
theorem d_M_endTable_170 : decode prog_14_method_35_code 170 = .ok (.goto (-32), 3) := by decide +kernel
theorem d_M_endTable_173 : decode prog_14_method_35_code 173 = .ok (.ldc2_w 193, 3) := by decide +kernel
theorem d_M_endTable_176 : decode prog_14_method_35_code 176 = .ok (.iload 8, 2) := by decide +kernel
theorem d_M_endTable_178 : decode prog_14_method_35_code 178 = .ok (.i2l, 1) := by decide +kernel
theorem d_M_endTable_179 : decode prog_14_method_35_code 179 = .ok (.ladd, 1) := by decide +kernel
theorem d_M_endTable_180 : decode prog_14_method_35_code 180 = .ok (.lstore_n 1, 1) := by decide +kernel
theorem d_M_endTable_181 : decode prog_14_method_35_code 181 = .ok (.iinc 4 (-1), 3) := by decide +kernel
theorem d_M_endTable_184 : decode prog_14_method_35_code 184 = .ok (.goto (-165), 3) := by decide +kernel
theorem d_M_endTable_187 : decode prog_14_method_35_code 187 = .ok (.iconst 0, 1) := by decide +kernel
theorem d_M_endTable_188 : decode prog_14_method_35_code 188 = .ok (.istore 4, 2) := by decide +kernel
theorem d_M_endTable_190 : decode prog_14_method_35_code 190 = .ok (.iload 4, 2) := by decide +kernel
theorem d_M_endTable_192 : decode prog_14_method_35_code 192 = .ok (.bipush 9, 2) := by decide +kernel
theorem d_M_endTable_194 : decode prog_14_method_35_code 194 = .ok (.if_icmp .ge 21, 3) := by decide +kernel
theorem d_M_endTable_197 : decode prog_14_method_35_code 197 = .ok (.aload_n 0, 1) := by decide +kernel
theorem d_M_endTable_198 : decode prog_14_method_35_code 198 = .ok (.lload_n 1, 1) := by decide +kernel
theorem d_M_endTable_199 : decode prog_14_method_35_code 199 = .ok (.ldc2_w 193, 3) := by decide +kernel
theorem d_M_endTable_202 : decode prog_14_method_35_code 202 = .ok (.lsub, 1) := by decide +kernel
theorem d_M_endTable_203 : decode prog_14_method_35_code 203 = .ok (.iload 4, 2) := by decide +kernel
theorem d_M_endTable_205 : decode prog_14_method_35_code 205 = .ok (.lshr, 1) := by decide +kernel
theorem d_M_endTable_206 : decode prog_14_method_35_code 206 = .ok (.invokevirtual 195, 3) := by decide +kernel
theorem d_M_endTable_209 : decode prog_14_method_35_code 209 = .ok (.iinc 4 1, 3) := by decide +kernel
theorem d_M_endTable_212 : decode prog_14_method_35_code 212 = .ok (.goto (-22), 3) := by decide +kernel
theorem d_M_endTable_215 : decode prog_14_method_35_code 215 = .ok (.iconst 0, 1) := by decide +kernel
theorem d_M_endTable_216 : decode prog_14_method_35_code 216 = .ok (.istore 4, 2) := by decide +kernel
theorem d_M_endTable_218 : decode prog_14_method_35_code 218 = .ok (.iconst 0, 1) := by decide +kernel
theorem d_M_endTable_219 : decode prog_14_method_35_code 219 = .ok (.istore 5, 2) := by decide +kernel
theorem d_M_endTable_221 : decode prog_14_method_35_code 221 = .ok (.aload_n 0, 1) := by decide +kernel
theorem d_M_endTable_222 : decode prog_14_method_35_code 222 = .ok (.getfield 188, 3) := by decide +kernel
theorem d_M_endTable_225 : decode prog_14_method_35_code 225 = .ok (.iconst 1, 1) := by decide +kernel
theorem d_M_endTable_226 : decode prog_14_method_35_code 226 = .ok (.isub, 1) := by decide +kernel
theorem d_M_endTable_227 : decode prog_14_method_35_code 227 = .ok (.istore 6, 2) := by decide +kernel
theorem d_M_endTable_229 : decode prog_14_method_35_code 229 = .ok (.iload 6, 2) := by decide +kernel
theorem d_M_endTable_231 : decode prog_14_method_35_code 231 = .ok (.ifCond .lt 45, 3) := by decide +kernel
theorem d_M_endTable_234 : decode prog_14_method_35_code 234 = .ok (.iconst 2, 1) := by decide +kernel
theorem d_M_endTable_235 : decode prog_14_method_35_code 235 = .ok (.iload 4, 2) := by decide +kernel
theorem d_M_endTable_237 : decode prog_14_method_35_code 237 = .ok (.imul, 1) := by decide +kernel
theorem d_M_endTable_238 : decode prog_14_method_35_code 238 = .ok (.aload_n 0, 1) := by decide +kernel
theorem d_M_endTable_239 : decode prog_14_method_35_code 239 = .ok (.getfield 43, 3) := by decide +kernel
theorem d_M_endTable_242 : decode prog_14_method_35_code 242 = .ok (.iload 6, 2) := by decide +kernel
theorem d_M_endTable_244 : decode prog_14_method_35_code 244 = .ok (.iaload, 1) := by decide +kernel
theorem d_M_endTable_245 : decode prog_14_method_35_code 245 = .ok (.iadd, 1) := by decide +kernel
theorem d_M_endTable_246 : decode prog_14_method_35_code 246 = .ok (.istore 4, 2) := by decide +kernel
theorem d_M_endTable_248 : decode prog_14_method_35_code 248 = .ok (.iinc 5 1, 3) := by decide +kernel
theorem d_M_endTable_251 : decode prog_14_method_35_code 251 = .ok (.iload 5, 2) := by decide +kernel
theorem d_M_endTable_253 : decode prog_14_method_35_code 253 = .ok (.bipush 8, 2) := by decide +kernel
theorem d_M_endTable_255 : decode prog_14_method_35_code 255 = .ok (.if_icmp .ne 15, 3) := by decide +kernel
theorem d_M_endTable_258 : decode prog_14_method_35_code 258 = .ok (.aload_n 0, 1) := by decide +kernel
theorem d_M_endTable_259 : decode prog_14_method_35_code 259 = .ok (.iload 4, 2) := by decide +kernel
theorem d_M_endTable_261 : decode prog_14_method_35_code 261 = .ok (.invokevirtual 124, 3) := by decide +kernel
theorem d_M_endTable_264 : decode prog_14_method_35_code 264 = .ok (.iconst 0, 1) := by decide +kernel
theorem d_M_endTable_265 : decode prog_14_method_35_code 265 = .ok (.istore 4, 2) := by decide +kernel
theorem d_M_endTable_267 : decode prog_14_method_35_code 267 = .ok (.iconst 0, 1) := by decide +kernel
theorem d_M_endTable_268 : decode prog_14_method_35_code 268 = .ok (.istore 5, 2) := by decide +kernel
theorem d_M_endTable_270 : decode prog_14_method_35_code 270 = .ok (.iinc 6 (-1), 3) := by decide +kernel
theorem d_M_endTable_273 : decode prog_14_method_35_code 273 = .ok (.goto (-44), 3) := by decide +kernel
theorem d_M_endTable_276 : decode prog_14_method_35_code 276 = .ok (.iload 5, 2) := by decide +kernel
theorem d_M_endTable_278 : decode prog_14_method_35_code 278 = .ok (.ifCond .le 15, 3) := by decide +kernel
theorem d_M_endTable_281 : decode prog_14_method_35_code 281 = .ok (.aload_n 0, 1) := by decide +kernel
theorem d_M_endTable_282 : decode prog_14_method_35_code 282 = .ok (.iload 4, 2) := by decide +kernel
theorem d_M_endTable_284 : decode prog_14_method_35_code 284 = .ok (.bipush 8, 2) := by decide +kernel
theorem d_M_endTable_286 : decode prog_14_method_35_code 286 = .ok (.iload 5, 2) := by decide +kernel
theorem d_M_endTable_288 : decode prog_14_method_35_code 288 = .ok (.isub, 1) := by decide +kernel
theorem d_M_endTable_289 : decode prog_14_method_35_code 289 = .ok (.ishl, 1) := by decide +kernel
theorem d_M_endTable_290 : decode prog_14_method_35_code 290 = .ok (.invokevirtual 124, 3) := by decide +kernel
theorem d_M_endTable_293 : decode prog_14_method_35_code 293 = .ok (.return_, 1) := by decide +kernel
theorem d_M_writeBit_0 : decode prog_14_method_34_code 0 = .ok (.aload_n 0, 1) := by decide +kernel
theorem d_M_writeBit_1 : decode prog_14_method_34_code 1 = .ok (.getfield 43, 3) := by decide +kernel
theorem d_M_writeBit_4 : decode prog_14_method_34_code 4 = .ok (.aload_n 0, 1) := by decide +kernel
theorem d_M_writeBit_5 : decode prog_14_method_34_code 5 = .ok (.getfield 188, 3) := by decide +kernel
theorem d_M_writeBit_8 : decode prog_14_method_34_code 8 = .ok (.lload_n 1, 1) := by decide +kernel
theorem d_M_writeBit_9 : decode prog_14_method_34_code 9 = .ok (.lconst 1, 1) := by decide +kernel
theorem d_M_writeBit_10 : decode prog_14_method_34_code 10 = .ok (.land, 1) := by decide +kernel
theorem d_M_writeBit_11 : decode prog_14_method_34_code 11 = .ok (.l2i, 1) := by decide +kernel
theorem d_M_writeBit_12 : decode prog_14_method_34_code 12 = .ok (.iastore, 1) := by decide +kernel
theorem d_M_writeBit_13 : decode prog_14_method_34_code 13 = .ok (.aload_n 0, 1) := by decide +kernel
theorem d_M_writeBit_14 : decode prog_14_method_34_code 14 = .ok (.dup, 1) := by decide +kernel
theorem d_M_writeBit_15 : decode prog_14_method_34_code 15 = .ok (.getfield 188, 3) := by decide +kernel
theorem d_M_writeBit_18 : decode prog_14_method_34_code 18 = .ok (.iconst 1, 1) := by decide +kernel
theorem d_M_writeBit_19 : decode prog_14_method_34_code 19 = .ok (.iadd, 1) := by decide +kernel
theorem d_M_writeBit_20 : decode prog_14_method_34_code 20 = .ok (.putfield 188, 3) := by decide +kernel
theorem d_M_writeBit_23 : decode prog_14_method_34_code 23 = .ok (.return_, 1) := by decide +kernel
theorem d_M_lay_0 : decode prog_14_method_33_code 0 = .ok (.iconst 0, 1) := by decide +kernel
theorem d_M_lay_1 : decode prog_14_method_33_code 1 = .ok (.istore_n 3, 1) := by decide +kernel
theorem d_M_lay_2 : decode prog_14_method_33_code 2 = .ok (.iconst 0, 1) := by decide +kernel
theorem d_M_lay_3 : decode prog_14_method_33_code 3 = .ok (.istore 4, 2) := by decide +kernel
theorem d_M_lay_5 : decode prog_14_method_33_code 5 = .ok (.iload 4, 2) := by decide +kernel
theorem d_M_lay_7 : decode prog_14_method_33_code 7 = .ok (.aload_n 0, 1) := by decide +kernel
theorem d_M_lay_8 : decode prog_14_method_33_code 8 = .ok (.getfield 7, 3) := by decide +kernel
theorem d_M_lay_11 : decode prog_14_method_33_code 11 = .ok (.iload_n 2, 1) := by decide +kernel
theorem d_M_lay_12 : decode prog_14_method_33_code 12 = .ok (.iaload, 1) := by decide +kernel
theorem d_M_lay_13 : decode prog_14_method_33_code 13 = .ok (.if_icmp .ge 50, 3) := by decide +kernel
theorem d_M_lay_16 : decode prog_14_method_33_code 16 = .ok (.iconst 0, 1) := by decide +kernel
theorem d_M_lay_17 : decode prog_14_method_33_code 17 = .ok (.istore 5, 2) := by decide +kernel
theorem d_M_lay_19 : decode prog_14_method_33_code 19 = .ok (.iload 5, 2) := by decide +kernel
theorem d_M_lay_21 : decode prog_14_method_33_code 21 = .ok (.aload_n 1, 1) := by decide +kernel
theorem d_M_lay_22 : decode prog_14_method_33_code 22 = .ok (.bipush 64, 2) := by decide +kernel
theorem d_M_lay_24 : decode prog_14_method_33_code 24 = .ok (.iload_n 2, 1) := by decide +kernel
theorem d_M_lay_25 : decode prog_14_method_33_code 25 = .ok (.imul, 1) := by decide +kernel
theorem d_M_lay_26 : decode prog_14_method_33_code 26 = .ok (.iload 4, 2) := by decide +kernel
theorem d_M_lay_28 : decode prog_14_method_33_code 28 = .ok (.iadd, 1) := by decide +kernel
theorem d_M_lay_29 : decode prog_14_method_33_code 29 = .ok (.iaload, 1) := by decide +kernel
theorem d_M_lay_30 : decode prog_14_method_33_code 30 = .ok (.if_icmp .ge 27, 3) := by decide +kernel
theorem d_M_lay_33 : decode prog_14_method_33_code 33 = .ok (.aload_n 0, 1) := by decide +kernel
theorem d_M_lay_34 : decode prog_14_method_33_code 34 = .ok (.getfield 37, 3) := by decide +kernel
theorem d_M_lay_37 : decode prog_14_method_33_code 37 = .ok (.iload_n 3, 1) := by decide +kernel
theorem d_M_lay_38 : decode prog_14_method_33_code 38 = .ok (.iload 4, 2) := by decide +kernel
theorem d_M_lay_40 : decode prog_14_method_33_code 40 = .ok (.iastore, 1) := by decide +kernel
theorem d_M_lay_41 : decode prog_14_method_33_code 41 = .ok (.iload_n 3, 1) := by decide +kernel
theorem d_M_lay_42 : decode prog_14_method_33_code 42 = .ok (.sipush 323, 3) := by decide +kernel
theorem d_M_lay_45 : decode prog_14_method_33_code 45 = .ok (.iadd, 1) := by decide +kernel
theorem d_M_lay_46 : decode prog_14_method_33_code 46 = .ok (.sipush 512, 3) := by decide +kernel
theorem d_M_lay_49 : decode prog_14_method_33_code 49 = .ok (.irem, 1) := by decide +kernel
theorem d_M_lay_50 : decode prog_14_method_33_code 50 = .ok (.istore_n 3, 1) := by decide +kernel
theorem d_M_lay_51 : decode prog_14_method_33_code 51 = .ok (.iinc 5 1, 3) := by decide +kernel
theorem d_M_lay_54 : decode prog_14_method_33_code 54 = .ok (.goto (-35), 3) := by decide +kernel
theorem d_M_lay_57 : decode prog_14_method_33_code 57 = .ok (.iinc 4 1, 3) := by decide +kernel
theorem d_M_lay_60 : decode prog_14_method_33_code 60 = .ok (.goto (-55), 3) := by decide +kernel
theorem d_M_lay_63 : decode prog_14_method_33_code 63 = .ok (.iconst 0, 1) := by decide +kernel
theorem d_M_lay_64 : decode prog_14_method_33_code 64 = .ok (.istore 4, 2) := by decide +kernel
theorem d_M_lay_66 : decode prog_14_method_33_code 66 = .ok (.iload 4, 2) := by decide +kernel
theorem d_M_lay_68 : decode prog_14_method_33_code 68 = .ok (.sipush 512, 3) := by decide +kernel
theorem d_M_lay_71 : decode prog_14_method_33_code 71 = .ok (.if_icmp .ge 65, 3) := by decide +kernel
theorem d_M_lay_74 : decode prog_14_method_33_code 74 = .ok (.iconst 0, 1) := by decide +kernel
theorem d_M_lay_75 : decode prog_14_method_33_code 75 = .ok (.istore 5, 2) := by decide +kernel
theorem d_M_lay_77 : decode prog_14_method_33_code 77 = .ok (.iconst 0, 1) := by decide +kernel
theorem d_M_lay_78 : decode prog_14_method_33_code 78 = .ok (.istore 6, 2) := by decide +kernel
theorem d_M_lay_80 : decode prog_14_method_33_code 80 = .ok (.iload 6, 2) := by decide +kernel
theorem d_M_lay_82 : decode prog_14_method_33_code 82 = .ok (.iload 4, 2) := by decide +kernel
theorem d_M_lay_84 : decode prog_14_method_33_code 84 = .ok (.if_icmp .ge 37, 3) := by decide +kernel
theorem d_M_lay_87 : decode prog_14_method_33_code 87 = .ok (.aload_n 0, 1) := by decide +kernel
theorem d_M_lay_88 : decode prog_14_method_33_code 88 = .ok (.getfield 37, 3) := by decide +kernel
theorem d_M_lay_91 : decode prog_14_method_33_code 91 = .ok (.iload 6, 2) := by decide +kernel
theorem d_M_lay_93 : decode prog_14_method_33_code 93 = .ok (.iaload, 1) := by decide +kernel
theorem d_M_lay_94 : decode prog_14_method_33_code 94 = .ok (.aload_n 0, 1) := by decide +kernel
theorem d_M_lay_95 : decode prog_14_method_33_code 95 = .ok (.getfield 37, 3) := by decide +kernel
theorem d_M_lay_98 : decode prog_14_method_33_code 98 = .ok (.iload 4, 2) := by decide +kernel
theorem d_M_lay_100 : decode prog_14_method_33_code 100 = .ok (.iaload, 1) := by decide +kernel
theorem d_M_lay_101 : decode prog_14_method_33_code 101 = .ok (.if_icmp .ne 10, 3) := by decide +kernel
theorem d_M_lay_104 : decode prog_14_method_33_code 104 = .ok (.iload 5, 2) := by decide +kernel
theorem d_M_lay_106 : decode prog_14_method_33_code 106 = .ok (.iconst 1, 1) := by decide +kernel
theorem d_M_lay_107 : decode prog_14_method_33_code 107 = .ok (.iadd, 1) := by decide +kernel
theorem d_M_lay_108 : decode prog_14_method_33_code 108 = .ok (.goto 5, 3) := by decide +kernel
theorem d_M_lay_111 : decode prog_14_method_33_code 111 = .ok (.iload 5, 2) := by decide +kernel
theorem d_M_lay_113 : decode prog_14_method_33_code 113 = .ok (.istore 5, 2) := by decide +kernel
theorem d_M_lay_115 : decode prog_14_method_33_code 115 = .ok (.iinc 6 1, 3) := by decide +kernel
theorem d_M_lay_118 : decode prog_14_method_33_code 118 = .ok (.goto (-38), 3) := by decide +kernel
theorem d_M_lay_121 : decode prog_14_method_33_code 121 = .ok (.aload_n 0, 1) := by decide +kernel
theorem d_M_lay_122 : decode prog_14_method_33_code 122 = .ok (.getfield 40, 3) := by decide +kernel
theorem d_M_lay_125 : decode prog_14_method_33_code 125 = .ok (.iload 4, 2) := by decide +kernel
theorem d_M_lay_127 : decode prog_14_method_33_code 127 = .ok (.iload 5, 2) := by decide +kernel
theorem d_M_lay_129 : decode prog_14_method_33_code 129 = .ok (.iastore, 1) := by decide +kernel
theorem d_M_lay_130 : decode prog_14_method_33_code 130 = .ok (.iinc 4 1, 3) := by decide +kernel
theorem d_M_lay_133 : decode prog_14_method_33_code 133 = .ok (.goto (-67), 3) := by decide +kernel
theorem d_M_lay_136 : decode prog_14_method_33_code 136 = .ok (.return_, 1) := by decide +kernel
theorem d_M_out_0 : decode prog_14_method_36_code 0 = .ok (.aload_n 0, 1) := by decide +kernel
theorem d_M_out_1 : decode prog_14_method_36_code 1 = .ok (.iconst 0, 1) := by decide +kernel
theorem d_M_out_2 : decode prog_14_method_36_code 2 = .ok (.putfield 56, 3) := by decide +kernel
theorem d_M_out_5 : decode prog_14_method_36_code 5 = .ok (.iload_n 1, 1) := by decide +kernel
theorem d_M_out_6 : decode prog_14_method_36_code 6 = .ok (.iconst 0, 1) := by decide +kernel
theorem d_M_out_7 : decode prog_14_method_36_code 7 = .ok (.aload_n 0, 1) := by decide +kernel
theorem d_M_out_8 : decode prog_14_method_36_code 8 = .ok (.getfield 185, 3) := by decide +kernel
theorem d_M_out_11 : decode prog_14_method_36_code 11 = .ok (.iconst 1, 1) := by decide +kernel
theorem d_M_out_12 : decode prog_14_method_36_code 12 = .ok (.isub, 1) := by decide +kernel
theorem d_M_out_13 : decode prog_14_method_36_code 13 = .ok (.invokestatic 62, 3) := by decide +kernel
theorem d_M_out_16 : decode prog_14_method_36_code 16 = .ok (.ifCond .eq 12, 3) := by decide +kernel
theorem d_M_out_19 : decode prog_14_method_36_code 19 = .ok (.aload_n 0, 1) := by decide +kernel
theorem d_M_out_20 : decode prog_14_method_36_code 20 = .ok (.getfield 31, 3) := by decide +kernel
theorem d_M_out_23 : decode prog_14_method_36_code 23 = .ok (.iload_n 1, 1) := by decide +kernel
theorem d_M_out_24 : decode prog_14_method_36_code 24 = .ok (.iaload, 1) := by decide +kernel
theorem d_M_out_25 : decode prog_14_method_36_code 25 = .ok (.goto 4, 3) := by decide +kernel
theorem d_M_out_28 : decode prog_14_method_36_code 28 = .ok (.iconst (-1), 1) := by decide +kernel
theorem d_M_out_29 : decode prog_14_method_36_code 29 = .ok (.ireturn, 1) := by decide +kernel
theorem d_M_octets_0 : decode prog_14_method_37_code 0 = .ok (.aload_n 0, 1) := by decide +kernel
theorem d_M_octets_1 : decode prog_14_method_37_code 1 = .ok (.iconst 0, 1) := by decide +kernel
theorem d_M_octets_2 : decode prog_14_method_37_code 2 = .ok (.putfield 56, 3) := by decide +kernel
theorem d_M_octets_5 : decode prog_14_method_37_code 5 = .ok (.aload_n 0, 1) := by decide +kernel
theorem d_M_octets_6 : decode prog_14_method_37_code 6 = .ok (.getfield 204, 3) := by decide +kernel
theorem d_M_octets_9 : decode prog_14_method_37_code 9 = .ok (.iconst 4, 1) := by decide +kernel
theorem d_M_octets_10 : decode prog_14_method_37_code 10 = .ok (.iadd, 1) := by decide +kernel
theorem d_M_octets_11 : decode prog_14_method_37_code 11 = .ok (.sipush 6000, 3) := by decide +kernel
theorem d_M_octets_14 : decode prog_14_method_37_code 14 = .ok (.if_icmp .le 6, 3) := by decide +kernel
theorem d_M_octets_17 : decode prog_14_method_37_code 17 = .ok (.bipush (-4), 2) := by decide +kernel
theorem d_M_octets_19 : decode prog_14_method_37_code 19 = .ok (.ireturn, 1) := by decide +kernel
theorem d_M_octets_20 : decode prog_14_method_37_code 20 = .ok (.iconst 3, 1) := by decide +kernel
theorem d_M_octets_21 : decode prog_14_method_37_code 21 = .ok (.istore_n 2, 1) := by decide +kernel
theorem d_M_octets_22 : decode prog_14_method_37_code 22 = .ok (.iload_n 2, 1) := by decide +kernel
theorem d_M_octets_23 : decode prog_14_method_37_code 23 = .ok (.ifCond .lt 38, 3) := by decide +kernel
theorem d_M_octets_26 : decode prog_14_method_37_code 26 = .ok (.aload_n 0, 1) := by decide +kernel
theorem d_M_octets_27 : decode prog_14_method_37_code 27 = .ok (.getfield 34, 3) := by decide +kernel
theorem d_M_octets_30 : decode prog_14_method_37_code 30 = .ok (.aload_n 0, 1) := by decide +kernel
theorem d_M_octets_31 : decode prog_14_method_37_code 31 = .ok (.getfield 204, 3) := by decide +kernel
theorem d_M_octets_34 : decode prog_14_method_37_code 34 = .ok (.iload_n 1, 1) := by decide +kernel
theorem d_M_octets_35 : decode prog_14_method_37_code 35 = .ok (.bipush 8, 2) := by decide +kernel
theorem d_M_octets_37 : decode prog_14_method_37_code 37 = .ok (.iload_n 2, 1) := by decide +kernel
theorem d_M_octets_38 : decode prog_14_method_37_code 38 = .ok (.imul, 1) := by decide +kernel
theorem d_M_octets_39 : decode prog_14_method_37_code 39 = .ok (.ishr, 1) := by decide +kernel
theorem d_M_octets_40 : decode prog_14_method_37_code 40 = .ok (.sipush 255, 3) := by decide +kernel
theorem d_M_octets_43 : decode prog_14_method_37_code 43 = .ok (.iand, 1) := by decide +kernel
theorem d_M_octets_44 : decode prog_14_method_37_code 44 = .ok (.iastore, 1) := by decide +kernel
theorem d_M_octets_45 : decode prog_14_method_37_code 45 = .ok (.aload_n 0, 1) := by decide +kernel
theorem d_M_octets_46 : decode prog_14_method_37_code 46 = .ok (.dup, 1) := by decide +kernel
theorem d_M_octets_47 : decode prog_14_method_37_code 47 = .ok (.getfield 204, 3) := by decide +kernel
theorem d_M_octets_50 : decode prog_14_method_37_code 50 = .ok (.iconst 1, 1) := by decide +kernel
theorem d_M_octets_51 : decode prog_14_method_37_code 51 = .ok (.iadd, 1) := by decide +kernel
theorem d_M_octets_52 : decode prog_14_method_37_code 52 = .ok (.putfield 204, 3) := by decide +kernel
theorem d_M_octets_55 : decode prog_14_method_37_code 55 = .ok (.iinc 2 (-1), 3) := by decide +kernel
theorem d_M_octets_58 : decode prog_14_method_37_code 58 = .ok (.goto (-36), 3) := by decide +kernel
theorem d_M_octets_61 : decode prog_14_method_37_code 61 = .ok (.aload_n 0, 1) := by decide +kernel
theorem d_M_octets_62 : decode prog_14_method_37_code 62 = .ok (.getfield 204, 3) := by decide +kernel
theorem d_M_octets_65 : decode prog_14_method_37_code 65 = .ok (.ireturn, 1) := by decide +kernel
theorem d_M_take_0 : decode prog_14_method_38_code 0 = .ok (.aload_n 0, 1) := by decide +kernel
theorem d_M_take_1 : decode prog_14_method_38_code 1 = .ok (.iconst 0, 1) := by decide +kernel
theorem d_M_take_2 : decode prog_14_method_38_code 2 = .ok (.putfield 56, 3) := by decide +kernel
theorem d_M_take_5 : decode prog_14_method_38_code 5 = .ok (.iload_n 1, 1) := by decide +kernel
theorem d_M_take_6 : decode prog_14_method_38_code 6 = .ok (.ifCond .lt 18, 3) := by decide +kernel
theorem d_M_take_9 : decode prog_14_method_38_code 9 = .ok (.iload_n 1, 1) := by decide +kernel
theorem d_M_take_10 : decode prog_14_method_38_code 10 = .ok (.iconst 1, 1) := by decide +kernel
theorem d_M_take_11 : decode prog_14_method_38_code 11 = .ok (.if_icmp .le 16, 3) := by decide +kernel
theorem d_M_take_14 : decode prog_14_method_38_code 14 = .ok (.iload_n 1, 1) := by decide +kernel
theorem d_M_take_15 : decode prog_14_method_38_code 15 = .ok (.iconst 2, 1) := by decide +kernel
theorem d_M_take_16 : decode prog_14_method_38_code 16 = .ok (.isub, 1) := by decide +kernel
theorem d_M_take_17 : decode prog_14_method_38_code 17 = .ok (.aload_n 0, 1) := by decide +kernel
theorem d_M_take_18 : decode prog_14_method_38_code 18 = .ok (.getfield 185, 3) := by decide +kernel
theorem d_M_take_21 : decode prog_14_method_38_code 21 = .ok (.if_icmp .le 6, 3) := by decide +kernel
theorem d_M_take_24 : decode prog_14_method_38_code 24 = .ok (.bipush (-2), 2) := by decide +kernel
theorem d_M_take_26 : decode prog_14_method_38_code 26 = .ok (.ireturn, 1) := by decide +kernel
theorem d_M_take_27 : decode prog_14_method_38_code 27 = .ok (.iload_n 1, 1) := by decide +kernel
theorem d_M_take_28 : decode prog_14_method_38_code 28 = .ok (.ifCond .ne 7, 3) := by decide +kernel
theorem d_M_take_31 : decode prog_14_method_38_code 31 = .ok (.iconst 0, 1) := by decide +kernel
theorem d_M_take_32 : decode prog_14_method_38_code 32 = .ok (.goto 18, 3) := by decide +kernel
theorem d_M_take_35 : decode prog_14_method_38_code 35 = .ok (.iload_n 1, 1) := by decide +kernel
theorem d_M_take_36 : decode prog_14_method_38_code 36 = .ok (.iconst 1, 1) := by decide +kernel
theorem d_M_take_37 : decode prog_14_method_38_code 37 = .ok (.if_icmp .ne 10, 3) := by decide +kernel
theorem d_M_take_40 : decode prog_14_method_38_code 40 = .ok (.aload_n 0, 1) := by decide +kernel
theorem d_M_take_41 : decode prog_14_method_38_code 41 = .ok (.getfield 185, 3) := by decide +kernel
theorem d_M_take_44 : decode prog_14_method_38_code 44 = .ok (.goto 6, 3) := by decide +kernel
theorem d_M_take_47 : decode prog_14_method_38_code 47 = .ok (.iload_n 1, 1) := by decide +kernel
theorem d_M_take_48 : decode prog_14_method_38_code 48 = .ok (.iconst 2, 1) := by decide +kernel
theorem d_M_take_49 : decode prog_14_method_38_code 49 = .ok (.isub, 1) := by decide +kernel
theorem d_M_take_50 : decode prog_14_method_38_code 50 = .ok (.istore_n 2, 1) := by decide +kernel
theorem d_M_take_51 : decode prog_14_method_38_code 51 = .ok (.iload_n 2, 1) := by decide +kernel
theorem d_M_take_52 : decode prog_14_method_38_code 52 = .ok (.sipush 6000, 3) := by decide +kernel
theorem d_M_take_55 : decode prog_14_method_38_code 55 = .ok (.if_icmp .le 9, 3) := by decide +kernel
theorem d_M_take_64 : decode prog_14_method_38_code 64 = .ok (.iload_n 2, 1) := by decide +kernel
theorem d_M_take_65 : decode prog_14_method_38_code 65 = .ok (.istore_n 2, 1) := by decide +kernel
theorem d_M_take_66 : decode prog_14_method_38_code 66 = .ok (.iconst 0, 1) := by decide +kernel
theorem d_M_take_67 : decode prog_14_method_38_code 67 = .ok (.istore_n 3, 1) := by decide +kernel
theorem d_M_take_68 : decode prog_14_method_38_code 68 = .ok (.iload_n 3, 1) := by decide +kernel
theorem d_M_take_69 : decode prog_14_method_38_code 69 = .ok (.iload_n 2, 1) := by decide +kernel
theorem d_M_take_70 : decode prog_14_method_38_code 70 = .ok (.if_icmp .ge 21, 3) := by decide +kernel
theorem d_M_take_73 : decode prog_14_method_38_code 73 = .ok (.aload_n 0, 1) := by decide +kernel
theorem d_M_take_74 : decode prog_14_method_38_code 74 = .ok (.getfield 34, 3) := by decide +kernel
theorem d_M_take_77 : decode prog_14_method_38_code 77 = .ok (.iload_n 3, 1) := by decide +kernel
theorem d_M_take_78 : decode prog_14_method_38_code 78 = .ok (.aload_n 0, 1) := by decide +kernel
theorem d_M_take_79 : decode prog_14_method_38_code 79 = .ok (.getfield 31, 3) := by decide +kernel
theorem d_M_take_82 : decode prog_14_method_38_code 82 = .ok (.iload_n 3, 1) := by decide +kernel
theorem d_M_take_83 : decode prog_14_method_38_code 83 = .ok (.iaload, 1) := by decide +kernel
theorem d_M_take_84 : decode prog_14_method_38_code 84 = .ok (.iastore, 1) := by decide +kernel
theorem d_M_take_85 : decode prog_14_method_38_code 85 = .ok (.iinc 3 1, 3) := by decide +kernel
theorem d_M_take_88 : decode prog_14_method_38_code 88 = .ok (.goto (-20), 3) := by decide +kernel
theorem d_M_take_91 : decode prog_14_method_38_code 91 = .ok (.aload_n 0, 1) := by decide +kernel
theorem d_M_take_92 : decode prog_14_method_38_code 92 = .ok (.iload_n 2, 1) := by decide +kernel
theorem d_M_take_93 : decode prog_14_method_38_code 93 = .ok (.putfield 204, 3) := by decide +kernel
theorem d_M_take_96 : decode prog_14_method_38_code 96 = .ok (.aload_n 0, 1) := by decide +kernel
theorem d_M_take_97 : decode prog_14_method_38_code 97 = .ok (.iconst 0, 1) := by decide +kernel
theorem d_M_take_98 : decode prog_14_method_38_code 98 = .ok (.putfield 101, 3) := by decide +kernel
theorem d_M_take_101 : decode prog_14_method_38_code 101 = .ok (.aload_n 0, 1) := by decide +kernel
theorem d_M_take_102 : decode prog_14_method_38_code 102 = .ok (.getfield 204, 3) := by decide +kernel
theorem d_M_take_105 : decode prog_14_method_38_code 105 = .ok (.ireturn, 1) := by decide +kernel
theorem d_M_spoil_0 : decode prog_14_method_39_code 0 = .ok (.aload_n 0, 1) := by decide +kernel
theorem d_M_spoil_1 : decode prog_14_method_39_code 1 = .ok (.iconst 0, 1) := by decide +kernel
theorem d_M_spoil_2 : decode prog_14_method_39_code 2 = .ok (.putfield 56, 3) := by decide +kernel
theorem d_M_spoil_5 : decode prog_14_method_39_code 5 = .ok (.iload_n 1, 1) := by decide +kernel
theorem d_M_spoil_6 : decode prog_14_method_39_code 6 = .ok (.iconst 0, 1) := by decide +kernel
theorem d_M_spoil_7 : decode prog_14_method_39_code 7 = .ok (.aload_n 0, 1) := by decide +kernel
theorem d_M_spoil_8 : decode prog_14_method_39_code 8 = .ok (.getfield 204, 3) := by decide +kernel
theorem d_M_spoil_11 : decode prog_14_method_39_code 11 = .ok (.iconst 1, 1) := by decide +kernel
theorem d_M_spoil_12 : decode prog_14_method_39_code 12 = .ok (.isub, 1) := by decide +kernel
theorem d_M_spoil_13 : decode prog_14_method_39_code 13 = .ok (.invokestatic 62, 3) := by decide +kernel
theorem d_M_spoil_16 : decode prog_14_method_39_code 16 = .ok (.ifCond .ne 5, 3) := by decide +kernel
theorem d_M_spoil_19 : decode prog_14_method_39_code 19 = .ok (.iconst (-1), 1) := by decide +kernel
theorem d_M_spoil_20 : decode prog_14_method_39_code 20 = .ok (.ireturn, 1) := by decide +kernel
theorem d_M_spoil_21 : decode prog_14_method_39_code 21 = .ok (.iload_n 2, 1) := by decide +kernel
theorem d_M_spoil_22 : decode prog_14_method_39_code 22 = .ok (.iconst 0, 1) := by decide +kernel
theorem d_M_spoil_23 : decode prog_14_method_39_code 23 = .ok (.sipush 255, 3) := by decide +kernel
theorem d_M_spoil_26 : decode prog_14_method_39_code 26 = .ok (.invokestatic 62, 3) := by decide +kernel
theorem d_M_spoil_29 : decode prog_14_method_39_code 29 = .ok (.ifCond .ne 6, 3) := by decide +kernel
theorem d_M_spoil_32 : decode prog_14_method_39_code 32 = .ok (.bipush (-2), 2) := by decide +kernel
theorem d_M_spoil_34 : decode prog_14_method_39_code 34 = .ok (.ireturn, 1) := by decide +kernel
theorem d_M_spoil_35 : decode prog_14_method_39_code 35 = .ok (.aload_n 0, 1) := by decide +kernel
theorem d_M_spoil_36 : decode prog_14_method_39_code 36 = .ok (.getfield 34, 3) := by decide +kernel
theorem d_M_spoil_39 : decode prog_14_method_39_code 39 = .ok (.iload_n 1, 1) := by decide +kernel
theorem d_M_spoil_40 : decode prog_14_method_39_code 40 = .ok (.aload_n 0, 1) := by decide +kernel
theorem d_M_spoil_41 : decode prog_14_method_39_code 41 = .ok (.getfield 34, 3) := by decide +kernel
theorem d_M_spoil_44 : decode prog_14_method_39_code 44 = .ok (.iload_n 1, 1) := by decide +kernel
theorem d_M_spoil_45 : decode prog_14_method_39_code 45 = .ok (.iaload, 1) := by decide +kernel
theorem d_M_spoil_46 : decode prog_14_method_39_code 46 = .ok (.iload_n 2, 1) := by decide +kernel
theorem d_M_spoil_47 : decode prog_14_method_39_code 47 = .ok (.ixor, 1) := by decide +kernel
theorem d_M_spoil_48 : decode prog_14_method_39_code 48 = .ok (.iastore, 1) := by decide +kernel
theorem d_M_spoil_49 : decode prog_14_method_39_code 49 = .ok (.aload_n 0, 1) := by decide +kernel
theorem d_M_spoil_50 : decode prog_14_method_39_code 50 = .ok (.getfield 34, 3) := by decide +kernel
theorem d_M_spoil_53 : decode prog_14_method_39_code 53 = .ok (.iload_n 1, 1) := by decide +kernel
theorem d_M_spoil_54 : decode prog_14_method_39_code 54 = .ok (.iaload, 1) := by decide +kernel
theorem d_M_spoil_55 : decode prog_14_method_39_code 55 = .ok (.ireturn, 1) := by decide +kernel
theorem d_M_read_0 : decode prog_14_method_43_code 0 = .ok (.aload_n 0, 1) := by decide +kernel
theorem d_M_read_1 : decode prog_14_method_43_code 1 = .ok (.iconst 0, 1) := by decide +kernel
theorem d_M_read_2 : decode prog_14_method_43_code 2 = .ok (.putfield 56, 3) := by decide +kernel
theorem d_M_read_5 : decode prog_14_method_43_code 5 = .ok (.iconst 0, 1) := by decide +kernel
theorem d_M_read_6 : decode prog_14_method_43_code 6 = .ok (.istore_n 1, 1) := by decide +kernel
theorem d_M_read_7 : decode prog_14_method_43_code 7 = .ok (.iload_n 1, 1) := by decide +kernel
theorem d_M_read_8 : decode prog_14_method_43_code 8 = .ok (.aload_n 0, 1) := by decide +kernel
theorem d_M_read_9 : decode prog_14_method_43_code 9 = .ok (.getfield 59, 3) := by decide +kernel
theorem d_M_read_12 : decode prog_14_method_43_code 12 = .ok (.if_icmp .ge 18, 3) := by decide +kernel
theorem d_M_read_15 : decode prog_14_method_43_code 15 = .ok (.aload_n 0, 1) := by decide +kernel
theorem d_M_read_16 : decode prog_14_method_43_code 16 = .ok (.aload_n 0, 1) := by decide +kernel
theorem d_M_read_17 : decode prog_14_method_43_code 17 = .ok (.getfield 19, 3) := by decide +kernel
theorem d_M_read_20 : decode prog_14_method_43_code 20 = .ok (.iload_n 1, 1) := by decide +kernel
theorem d_M_read_21 : decode prog_14_method_43_code 21 = .ok (.invokevirtual 87, 3) := by decide +kernel
theorem d_M_read_24 : decode prog_14_method_43_code 24 = .ok (.iinc 1 1, 3) := by decide +kernel
theorem d_M_read_27 : decode prog_14_method_43_code 27 = .ok (.goto (-20), 3) := by decide +kernel
theorem d_M_read_30 : decode prog_14_method_43_code 30 = .ok (.aload_n 0, 1) := by decide +kernel
theorem d_M_read_31 : decode prog_14_method_43_code 31 = .ok (.iconst 1, 1) := by decide +kernel
theorem d_M_read_32 : decode prog_14_method_43_code 32 = .ok (.putfield 101, 3) := by decide +kernel
theorem d_M_read_35 : decode prog_14_method_43_code 35 = .ok (.aload_n 0, 1) := by decide +kernel
theorem d_M_read_36 : decode prog_14_method_43_code 36 = .ok (.iconst 0, 1) := by decide +kernel
theorem d_M_read_37 : decode prog_14_method_43_code 37 = .ok (.putfield 217, 3) := by decide +kernel
theorem d_M_read_40 : decode prog_14_method_43_code 40 = .ok (.aload_n 0, 1) := by decide +kernel
theorem d_M_read_41 : decode prog_14_method_43_code 41 = .ok (.iconst 0, 1) := by decide +kernel
theorem d_M_read_42 : decode prog_14_method_43_code 42 = .ok (.putfield 220, 3) := by decide +kernel
theorem d_M_read_45 : decode prog_14_method_43_code 45 = .ok (.aload_n 0, 1) := by decide +kernel
theorem d_M_read_46 : decode prog_14_method_43_code 46 = .ok (.iconst 0, 1) := by decide +kernel
theorem d_M_read_47 : decode prog_14_method_43_code 47 = .ok (.putfield 207, 3) := by decide +kernel
theorem d_M_read_50 : decode prog_14_method_43_code 50 = .ok (.aload_n 0, 1) := by decide +kernel
theorem d_M_read_51 : decode prog_14_method_43_code 51 = .ok (.iconst 0, 1) := by decide +kernel
theorem d_M_read_52 : decode prog_14_method_43_code 52 = .ok (.putfield 210, 3) := by decide +kernel
theorem d_M_read_55 : decode prog_14_method_43_code 55 = .ok (.aload_n 0, 1) := by decide +kernel
theorem d_M_read_56 : decode prog_14_method_43_code 56 = .ok (.lconst 0, 1) := by decide +kernel
theorem d_M_read_57 : decode prog_14_method_43_code 57 = .ok (.putfield 223, 3) := by decide +kernel
theorem d_M_read_60 : decode prog_14_method_43_code 60 = .ok (.aload_n 0, 1) := by decide +kernel
theorem d_M_read_61 : decode prog_14_method_43_code 61 = .ok (.lconst 0, 1) := by decide +kernel
theorem d_M_read_62 : decode prog_14_method_43_code 62 = .ok (.putfield 226, 3) := by decide +kernel
theorem d_M_read_65 : decode prog_14_method_43_code 65 = .ok (.aload_n 0, 1) := by decide +kernel
theorem d_M_read_66 : decode prog_14_method_43_code 66 = .ok (.ldc2_w 108, 3) := by decide +kernel
theorem d_M_read_69 : decode prog_14_method_43_code 69 = .ok (.putfield 229, 3) := by decide +kernel
theorem d_M_read_72 : decode prog_14_method_43_code 72 = .ok (.aload_n 0, 1) := by decide +kernel
theorem d_M_read_73 : decode prog_14_method_43_code 73 = .ok (.lconst 0, 1) := by decide +kernel
theorem d_M_read_74 : decode prog_14_method_43_code 74 = .ok (.putfield 232, 3) := by decide +kernel
theorem d_M_read_77 : decode prog_14_method_43_code 77 = .ok (.aload_n 0, 1) := by decide +kernel
theorem d_M_read_78 : decode prog_14_method_43_code 78 = .ok (.getfield 46, 3) := by decide +kernel
theorem d_M_read_81 : decode prog_14_method_43_code 81 = .ok (.iconst 3, 1) := by decide +kernel
theorem d_M_read_82 : decode prog_14_method_43_code 82 = .ok (.if_icmp .ge 14, 3) := by decide +kernel
theorem d_M_read_85 : decode prog_14_method_43_code 85 = .ok (.aload_n 0, 1) := by decide +kernel
theorem d_M_read_86 : decode prog_14_method_43_code 86 = .ok (.aload_n 0, 1) := by decide +kernel
theorem d_M_read_87 : decode prog_14_method_43_code 87 = .ok (.invokevirtual 235, 3) := by decide +kernel
theorem d_M_read_90 : decode prog_14_method_43_code 90 = .ok (.putfield 223, 3) := by decide +kernel
theorem d_M_read_93 : decode prog_14_method_43_code 93 = .ok (.goto 79, 3) := by decide +kernel
theorem d_M_read_96 : decode prog_14_method_43_code 96 = .ok (.aload_n 0, 1) := by decide +kernel
theorem d_M_read_97 : decode prog_14_method_43_code 97 = .ok (.getfield 46, 3) := by decide +kernel
theorem d_M_read_100 : decode prog_14_method_43_code 100 = .ok (.iconst 3, 1) := by decide +kernel
theorem d_M_read_101 : decode prog_14_method_43_code 101 = .ok (.if_icmp .ne 34, 3) := by decide +kernel
theorem d_M_read_104 : decode prog_14_method_43_code 104 = .ok (.aload_n 0, 1) := by decide +kernel
theorem d_M_read_105 : decode prog_14_method_43_code 105 = .ok (.aload_n 0, 1) := by decide +kernel
theorem d_M_read_106 : decode prog_14_method_43_code 106 = .ok (.invokevirtual 235, 3) := by decide +kernel
theorem d_M_read_109 : decode prog_14_method_43_code 109 = .ok (.putfield 232, 3) := by decide +kernel
theorem d_M_read_112 : decode prog_14_method_43_code 112 = .ok (.aload_n 0, 1) := by decide +kernel
theorem d_M_read_113 : decode prog_14_method_43_code 113 = .ok (.aload_n 0, 1) := by decide +kernel
theorem d_M_read_114 : decode prog_14_method_43_code 114 = .ok (.getfield 232, 3) := by decide +kernel
theorem d_M_read_117 : decode prog_14_method_43_code 117 = .ok (.ldc2_w 191, 3) := by decide +kernel
theorem d_M_read_120 : decode prog_14_method_43_code 120 = .ok (.lcmp, 1) := by decide +kernel
theorem d_M_read_121 : decode prog_14_method_43_code 121 = .ok (.ifCond .ge 7, 3) := by decide +kernel
theorem d_M_read_124 : decode prog_14_method_43_code 124 = .ok (.iconst 1, 1) := by decide +kernel
theorem d_M_read_125 : decode prog_14_method_43_code 125 = .ok (.goto 4, 3) := by decide +kernel
theorem d_M_read_128 : decode prog_14_method_43_code 128 = .ok (.iconst 0, 1) := by decide +kernel
theorem d_M_read_129 : decode prog_14_method_43_code 129 = .ok (.putfield 217, 3) := by decide +kernel
theorem d_M_read_132 : decode prog_14_method_43_code 132 = .ok (.goto 40, 3) := by decide +kernel
theorem d_M_read_135 : decode prog_14_method_43_code 135 = .ok (.aload_n 0, 1) := by decide +kernel
theorem d_M_read_136 : decode prog_14_method_43_code 136 = .ok (.lconst 1, 1) := by decide +kernel
theorem d_M_read_137 : decode prog_14_method_43_code 137 = .ok (.putfield 232, 3) := by decide +kernel
theorem d_M_read_140 : decode prog_14_method_43_code 140 = .ok (.iconst 0, 1) := by decide +kernel
theorem d_M_read_141 : decode prog_14_method_43_code 141 = .ok (.istore_n 1, 1) := by decide +kernel
theorem d_M_read_142 : decode prog_14_method_43_code 142 = .ok (.iload_n 1, 1) := by decide +kernel
theorem d_M_read_143 : decode prog_14_method_43_code 143 = .ok (.bipush 9, 2) := by decide +kernel
theorem d_M_read_145 : decode prog_14_method_43_code 145 = .ok (.if_icmp .ge 27, 3) := by decide +kernel
theorem d_M_read_148 : decode prog_14_method_43_code 148 = .ok (.aload_n 0, 1) := by decide +kernel
theorem d_M_read_149 : decode prog_14_method_43_code 149 = .ok (.ldc2_w 202, 3) := by decide +kernel
theorem d_M_read_152 : decode prog_14_method_43_code 152 = .ok (.aload_n 0, 1) := by decide +kernel
theorem d_M_read_153 : decode prog_14_method_43_code 153 = .ok (.getfield 232, 3) := by decide +kernel
theorem d_M_read_156 : decode prog_14_method_43_code 156 = .ok (.lmul, 1) := by decide +kernel
theorem d_M_read_157 : decode prog_14_method_43_code 157 = .ok (.aload_n 0, 1) := by decide +kernel
theorem d_M_read_158 : decode prog_14_method_43_code 158 = .ok (.invokevirtual 239, 3) := by decide +kernel
theorem d_M_read_161 : decode prog_14_method_43_code 161 = .ok (.i2l, 1) := by decide +kernel
theorem d_M_read_162 : decode prog_14_method_43_code 162 = .ok (.ladd, 1) := by decide +kernel
theorem d_M_read_163 : decode prog_14_method_43_code 163 = .ok (.putfield 232, 3) := by decide +kernel
theorem d_M_read_166 : decode prog_14_method_43_code 166 = .ok (.iinc 1 1, 3) := by decide +kernel
theorem d_M_read_169 : decode prog_14_method_43_code 169 = .ok (.goto (-27), 3) := by decide +kernel
theorem d_M_read_172 : decode prog_14_method_43_code 172 = .ok (.aload_n 0, 1) := by decide +kernel
theorem d_M_read_173 : decode prog_14_method_43_code 173 = .ok (.getfield 204, 3) := by decide +kernel
theorem d_M_read_176 : decode prog_14_method_43_code 176 = .ok (.ireturn, 1) := by decide +kernel
theorem d_M_four_0 : decode prog_14_method_42_code 0 = .ok (.lconst 0, 1) := by decide +kernel
theorem d_M_four_1 : decode prog_14_method_42_code 1 = .ok (.lstore_n 1, 1) := by decide +kernel
theorem d_M_four_2 : decode prog_14_method_42_code 2 = .ok (.iconst 0, 1) := by decide +kernel
theorem d_M_four_3 : decode prog_14_method_42_code 3 = .ok (.istore_n 3, 1) := by decide +kernel
theorem d_M_four_4 : decode prog_14_method_42_code 4 = .ok (.iload_n 3, 1) := by decide +kernel
theorem d_M_four_5 : decode prog_14_method_42_code 5 = .ok (.iconst 4, 1) := by decide +kernel
theorem d_M_four_6 : decode prog_14_method_42_code 6 = .ok (.if_icmp .ge 20, 3) := by decide +kernel
theorem d_M_four_9 : decode prog_14_method_42_code 9 = .ok (.lload_n 1, 1) := by decide +kernel
theorem d_M_four_10 : decode prog_14_method_42_code 10 = .ok (.bipush 8, 2) := by decide +kernel
theorem d_M_four_12 : decode prog_14_method_42_code 12 = .ok (.lshl, 1) := by decide +kernel
theorem d_M_four_13 : decode prog_14_method_42_code 13 = .ok (.aload_n 0, 1) := by decide +kernel
theorem d_M_four_14 : decode prog_14_method_42_code 14 = .ok (.invokevirtual 213, 3) := by decide +kernel
theorem d_M_four_17 : decode prog_14_method_42_code 17 = .ok (.i2l, 1) := by decide +kernel
theorem d_M_four_18 : decode prog_14_method_42_code 18 = .ok (.lor, 1) := by decide +kernel
theorem d_M_four_19 : decode prog_14_method_42_code 19 = .ok (.lstore_n 1, 1) := by decide +kernel
theorem d_M_four_20 : decode prog_14_method_42_code 20 = .ok (.iinc 3 1, 3) := by decide +kernel
theorem d_M_four_23 : decode prog_14_method_42_code 23 = .ok (.goto (-19), 3) := by decide +kernel
theorem d_M_four_26 : decode prog_14_method_42_code 26 = .ok (.lload_n 1, 1) := by decide +kernel
theorem d_M_four_27 : decode prog_14_method_42_code 27 = .ok (.lreturn, 1) := by decide +kernel
theorem d_M_next_0 : decode prog_14_method_40_code 0 = .ok (.aload_n 0, 1) := by decide +kernel
theorem d_M_next_1 : decode prog_14_method_40_code 1 = .ok (.getfield 207, 3) := by decide +kernel
theorem d_M_next_4 : decode prog_14_method_40_code 4 = .ok (.aload_n 0, 1) := by decide +kernel
theorem d_M_next_5 : decode prog_14_method_40_code 5 = .ok (.getfield 204, 3) := by decide +kernel
theorem d_M_next_8 : decode prog_14_method_40_code 8 = .ok (.if_icmp .ge 15, 3) := by decide +kernel
theorem d_M_next_11 : decode prog_14_method_40_code 11 = .ok (.aload_n 0, 1) := by decide +kernel
theorem d_M_next_12 : decode prog_14_method_40_code 12 = .ok (.getfield 34, 3) := by decide +kernel
theorem d_M_next_15 : decode prog_14_method_40_code 15 = .ok (.aload_n 0, 1) := by decide +kernel
theorem d_M_next_16 : decode prog_14_method_40_code 16 = .ok (.getfield 207, 3) := by decide +kernel
theorem d_M_next_19 : decode prog_14_method_40_code 19 = .ok (.iaload, 1) := by decide +kernel
theorem d_M_next_20 : decode prog_14_method_40_code 20 = .ok (.goto 4, 3) := by decide +kernel
theorem d_M_next_23 : decode prog_14_method_40_code 23 = .ok (.iconst 0, 1) := by decide +kernel
theorem d_M_next_24 : decode prog_14_method_40_code 24 = .ok (.istore_n 1, 1) := by decide +kernel
theorem d_M_next_25 : decode prog_14_method_40_code 25 = .ok (.aload_n 0, 1) := by decide +kernel
theorem d_M_next_26 : decode prog_14_method_40_code 26 = .ok (.dup, 1) := by decide +kernel
theorem d_M_next_27 : decode prog_14_method_40_code 27 = .ok (.getfield 207, 3) := by decide +kernel
theorem d_M_next_30 : decode prog_14_method_40_code 30 = .ok (.iconst 1, 1) := by decide +kernel
theorem d_M_next_31 : decode prog_14_method_40_code 31 = .ok (.iadd, 1) := by decide +kernel
theorem d_M_next_32 : decode prog_14_method_40_code 32 = .ok (.putfield 207, 3) := by decide +kernel
theorem d_M_next_35 : decode prog_14_method_40_code 35 = .ok (.iload_n 1, 1) := by decide +kernel
theorem d_M_next_36 : decode prog_14_method_40_code 36 = .ok (.ireturn, 1) := by decide +kernel
theorem d_M_nextBit_0 : decode prog_14_method_41_code 0 = .ok (.aload_n 0, 1) := by decide +kernel
theorem d_M_nextBit_1 : decode prog_14_method_41_code 1 = .ok (.getfield 210, 3) := by decide +kernel
theorem d_M_nextBit_4 : decode prog_14_method_41_code 4 = .ok (.bipush 8, 2) := by decide +kernel
theorem d_M_nextBit_6 : decode prog_14_method_41_code 6 = .ok (.idiv, 1) := by decide +kernel
theorem d_M_nextBit_7 : decode prog_14_method_41_code 7 = .ok (.istore_n 1, 1) := by decide +kernel
theorem d_M_nextBit_8 : decode prog_14_method_41_code 8 = .ok (.iload_n 1, 1) := by decide +kernel
theorem d_M_nextBit_9 : decode prog_14_method_41_code 9 = .ok (.aload_n 0, 1) := by decide +kernel
theorem d_M_nextBit_10 : decode prog_14_method_41_code 10 = .ok (.getfield 204, 3) := by decide +kernel
theorem d_M_nextBit_13 : decode prog_14_method_41_code 13 = .ok (.if_icmp .ge 25, 3) := by decide +kernel
theorem d_M_nextBit_16 : decode prog_14_method_41_code 16 = .ok (.aload_n 0, 1) := by decide +kernel
theorem d_M_nextBit_17 : decode prog_14_method_41_code 17 = .ok (.getfield 34, 3) := by decide +kernel
theorem d_M_nextBit_20 : decode prog_14_method_41_code 20 = .ok (.iload_n 1, 1) := by decide +kernel
theorem d_M_nextBit_21 : decode prog_14_method_41_code 21 = .ok (.iaload, 1) := by decide +kernel
theorem d_M_nextBit_22 : decode prog_14_method_41_code 22 = .ok (.bipush 7, 2) := by decide +kernel
theorem d_M_nextBit_24 : decode prog_14_method_41_code 24 = .ok (.aload_n 0, 1) := by decide +kernel
theorem d_M_nextBit_25 : decode prog_14_method_41_code 25 = .ok (.getfield 210, 3) := by decide +kernel
theorem d_M_nextBit_28 : decode prog_14_method_41_code 28 = .ok (.bipush 8, 2) := by decide +kernel
theorem d_M_nextBit_30 : decode prog_14_method_41_code 30 = .ok (.irem, 1) := by decide +kernel
theorem d_M_nextBit_31 : decode prog_14_method_41_code 31 = .ok (.isub, 1) := by decide +kernel
theorem d_M_nextBit_32 : decode prog_14_method_41_code 32 = .ok (.ishr, 1) := by decide +kernel
theorem d_M_nextBit_33 : decode prog_14_method_41_code 33 = .ok (.iconst 1, 1) := by decide +kernel
theorem d_M_nextBit_34 : decode prog_14_method_41_code 34 = .ok (.iand, 1) := by decide +kernel
theorem d_M_nextBit_35 : decode prog_14_method_41_code 35 = .ok (.goto 4, 3) := by decide +kernel
theorem d_M_nextBit_38 : decode prog_14_method_41_code 38 = .ok (.iconst 0, 1) := by decide +kernel
theorem d_M_nextBit_39 : decode prog_14_method_41_code 39 = .ok (.istore_n 2, 1) := by decide +kernel
theorem d_M_nextBit_40 : decode prog_14_method_41_code 40 = .ok (.aload_n 0, 1) := by decide +kernel
theorem d_M_nextBit_41 : decode prog_14_method_41_code 41 = .ok (.dup, 1) := by decide +kernel
theorem d_M_nextBit_42 : decode prog_14_method_41_code 42 = .ok (.getfield 210, 3) := by decide +kernel
theorem d_M_nextBit_45 : decode prog_14_method_41_code 45 = .ok (.iconst 1, 1) := by decide +kernel
theorem d_M_nextBit_46 : decode prog_14_method_41_code 46 = .ok (.iadd, 1) := by decide +kernel
theorem d_M_nextBit_47 : decode prog_14_method_41_code 47 = .ok (.putfield 210, 3) := by decide +kernel
theorem d_M_nextBit_50 : decode prog_14_method_41_code 50 = .ok (.aload_n 0, 1) := by decide +kernel
theorem d_M_nextBit_51 : decode prog_14_method_41_code 51 = .ok (.aload_n 0, 1) := by decide +kernel
theorem d_M_nextBit_52 : decode prog_14_method_41_code 52 = .ok (.getfield 210, 3) := by decide +kernel
theorem d_M_nextBit_55 : decode prog_14_method_41_code 55 = .ok (.bipush 7, 2) := by decide +kernel
theorem d_M_nextBit_57 : decode prog_14_method_41_code 57 = .ok (.iadd, 1) := by decide +kernel
theorem d_M_nextBit_58 : decode prog_14_method_41_code 58 = .ok (.bipush 8, 2) := by decide +kernel
theorem d_M_nextBit_60 : decode prog_14_method_41_code 60 = .ok (.idiv, 1) := by decide +kernel
theorem d_M_nextBit_61 : decode prog_14_method_41_code 61 = .ok (.putfield 207, 3) := by decide +kernel
theorem d_M_nextBit_64 : decode prog_14_method_41_code 64 = .ok (.iload_n 2, 1) := by decide +kernel
theorem d_M_nextBit_65 : decode prog_14_method_41_code 65 = .ok (.ireturn, 1) := by decide +kernel
theorem d_M_get_0 : decode prog_14_method_56_code 0 = .ok (.aload_n 0, 1) := by decide +kernel
theorem d_M_get_1 : decode prog_14_method_56_code 1 = .ok (.iconst 0, 1) := by decide +kernel
theorem d_M_get_2 : decode prog_14_method_56_code 2 = .ok (.putfield 56, 3) := by decide +kernel
theorem d_M_get_5 : decode prog_14_method_56_code 5 = .ok (.aload_n 0, 1) := by decide +kernel
theorem d_M_get_6 : decode prog_14_method_56_code 6 = .ok (.iload_n 1, 1) := by decide +kernel
theorem d_M_get_7 : decode prog_14_method_56_code 7 = .ok (.invokevirtual 65, 3) := by decide +kernel
theorem d_M_get_10 : decode prog_14_method_56_code 10 = .ok (.ifCond .ne 5, 3) := by decide +kernel
theorem d_M_get_13 : decode prog_14_method_56_code 13 = .ok (.iconst (-1), 1) := by decide +kernel
theorem d_M_get_14 : decode prog_14_method_56_code 14 = .ok (.ireturn, 1) := by decide +kernel
theorem d_M_get_15 : decode prog_14_method_56_code 15 = .ok (.aload_n 0, 1) := by decide +kernel
theorem d_M_get_16 : decode prog_14_method_56_code 16 = .ok (.getfield 101, 3) := by decide +kernel
theorem d_M_get_19 : decode prog_14_method_56_code 19 = .ok (.ifCond .ne 6, 3) := by decide +kernel
theorem d_M_get_22 : decode prog_14_method_56_code 22 = .ok (.bipush (-3), 2) := by decide +kernel
theorem d_M_get_24 : decode prog_14_method_56_code 24 = .ok (.ireturn, 1) := by decide +kernel
theorem d_M_get_25 : decode prog_14_method_56_code 25 = .ok (.aload_n 0, 1) := by decide +kernel
theorem d_M_get_26 : decode prog_14_method_56_code 26 = .ok (.getfield 217, 3) := by decide +kernel
theorem d_M_get_29 : decode prog_14_method_56_code 29 = .ok (.ifCond .eq 6, 3) := by decide +kernel
theorem d_M_get_32 : decode prog_14_method_56_code 32 = .ok (.bipush (-5), 2) := by decide +kernel
theorem d_M_get_34 : decode prog_14_method_56_code 34 = .ok (.ireturn, 1) := by decide +kernel
theorem d_M_get_35 : decode prog_14_method_56_code 35 = .ok (.aload_n 0, 1) := by decide +kernel
theorem d_M_get_36 : decode prog_14_method_56_code 36 = .ok (.getfield 46, 3) := by decide +kernel
theorem d_M_get_39 : decode prog_14_method_56_code 39 = .ok (.iconst 2, 1) := by decide +kernel
theorem d_M_get_40 : decode prog_14_method_56_code 40 = .ok (.if_icmp .ge 11, 3) := by decide +kernel
theorem d_M_get_43 : decode prog_14_method_56_code 43 = .ok (.aload_n 0, 1) := by decide +kernel
theorem d_M_get_44 : decode prog_14_method_56_code 44 = .ok (.iload_n 1, 1) := by decide +kernel
theorem d_M_get_45 : decode prog_14_method_56_code 45 = .ok (.invokevirtual 270, 3) := by decide +kernel
theorem d_M_get_48 : decode prog_14_method_56_code 48 = .ok (.goto 40, 3) := by decide +kernel
theorem d_M_get_51 : decode prog_14_method_56_code 51 = .ok (.aload_n 0, 1) := by decide +kernel
theorem d_M_get_52 : decode prog_14_method_56_code 52 = .ok (.getfield 46, 3) := by decide +kernel
theorem d_M_get_55 : decode prog_14_method_56_code 55 = .ok (.iconst 2, 1) := by decide +kernel
theorem d_M_get_56 : decode prog_14_method_56_code 56 = .ok (.if_icmp .ne 11, 3) := by decide +kernel
theorem d_M_get_59 : decode prog_14_method_56_code 59 = .ok (.aload_n 0, 1) := by decide +kernel
theorem d_M_get_60 : decode prog_14_method_56_code 60 = .ok (.iload_n 1, 1) := by decide +kernel
theorem d_M_get_61 : decode prog_14_method_56_code 61 = .ok (.invokevirtual 273, 3) := by decide +kernel
theorem d_M_get_64 : decode prog_14_method_56_code 64 = .ok (.goto 24, 3) := by decide +kernel
theorem d_M_get_67 : decode prog_14_method_56_code 67 = .ok (.aload_n 0, 1) := by decide +kernel
theorem d_M_get_68 : decode prog_14_method_56_code 68 = .ok (.getfield 46, 3) := by decide +kernel
theorem d_M_get_71 : decode prog_14_method_56_code 71 = .ok (.iconst 3, 1) := by decide +kernel
theorem d_M_get_72 : decode prog_14_method_56_code 72 = .ok (.if_icmp .ne 11, 3) := by decide +kernel
theorem d_M_get_75 : decode prog_14_method_56_code 75 = .ok (.aload_n 0, 1) := by decide +kernel
theorem d_M_get_76 : decode prog_14_method_56_code 76 = .ok (.iload_n 1, 1) := by decide +kernel
theorem d_M_get_77 : decode prog_14_method_56_code 77 = .ok (.invokevirtual 276, 3) := by decide +kernel
theorem d_M_get_80 : decode prog_14_method_56_code 80 = .ok (.goto 8, 3) := by decide +kernel
theorem d_M_get_83 : decode prog_14_method_56_code 83 = .ok (.aload_n 0, 1) := by decide +kernel
theorem d_M_get_84 : decode prog_14_method_56_code 84 = .ok (.iload_n 1, 1) := by decide +kernel
theorem d_M_get_85 : decode prog_14_method_56_code 85 = .ok (.invokevirtual 279, 3) := by decide +kernel
theorem d_M_get_88 : decode prog_14_method_56_code 88 = .ok (.istore_n 2, 1) := by decide +kernel
theorem d_M_get_89 : decode prog_14_method_56_code 89 = .ok (.iload_n 2, 1) := by decide +kernel
theorem d_M_get_90 : decode prog_14_method_56_code 90 = .ok (.ifCond .ge 8, 3) := by decide +kernel
theorem d_M_get_93 : decode prog_14_method_56_code 93 = .ok (.aload_n 0, 1) := by decide +kernel
theorem d_M_get_94 : decode prog_14_method_56_code 94 = .ok (.invokevirtual 282, 3) := by decide +kernel
theorem d_M_get_97 : decode prog_14_method_56_code 97 = .ok (.ireturn, 1) := by decide +kernel
theorem d_M_get_98 : decode prog_14_method_56_code 98 = .ok (.aload_n 0, 1) := by decide +kernel
theorem d_M_get_99 : decode prog_14_method_56_code 99 = .ok (.dup, 1) := by decide +kernel
theorem d_M_get_100 : decode prog_14_method_56_code 100 = .ok (.getfield 220, 3) := by decide +kernel
theorem d_M_get_103 : decode prog_14_method_56_code 103 = .ok (.iconst 1, 1) := by decide +kernel
theorem d_M_get_104 : decode prog_14_method_56_code 104 = .ok (.iadd, 1) := by decide +kernel
theorem d_M_get_105 : decode prog_14_method_56_code 105 = .ok (.putfield 220, 3) := by decide +kernel
theorem d_M_get_108 : decode prog_14_method_56_code 108 = .ok (.iload_n 2, 1) := by decide +kernel
theorem d_M_get_109 : decode prog_14_method_56_code 109 = .ok (.ireturn, 1) := by decide +kernel
theorem d_M_getRanged_0 : decode prog_14_method_52_code 0 = .ok (.aload_n 0, 1) := by decide +kernel
theorem d_M_getRanged_1 : decode prog_14_method_52_code 1 = .ok (.aload_n 0, 1) := by decide +kernel
theorem d_M_getRanged_2 : decode prog_14_method_52_code 2 = .ok (.getfield 19, 3) := by decide +kernel
theorem d_M_getRanged_5 : decode prog_14_method_52_code 5 = .ok (.iload_n 1, 1) := by decide +kernel
theorem d_M_getRanged_6 : decode prog_14_method_52_code 6 = .ok (.invokevirtual 77, 3) := by decide +kernel
theorem d_M_getRanged_9 : decode prog_14_method_52_code 9 = .ok (.istore_n 2, 1) := by decide +kernel
theorem d_M_getRanged_10 : decode prog_14_method_52_code 10 = .ok (.aload_n 0, 1) := by decide +kernel
theorem d_M_getRanged_11 : decode prog_14_method_52_code 11 = .ok (.iload_n 2, 1) := by decide +kernel
theorem d_M_getRanged_12 : decode prog_14_method_52_code 12 = .ok (.invokevirtual 254, 3) := by decide +kernel
theorem d_M_getRanged_15 : decode prog_14_method_52_code 15 = .ok (.lstore_n 3, 1) := by decide +kernel
theorem d_M_getRanged_16 : decode prog_14_method_52_code 16 = .ok (.lload_n 3, 1) := by decide +kernel
theorem d_M_getRanged_17 : decode prog_14_method_52_code 17 = .ok (.lconst 0, 1) := by decide +kernel
theorem d_M_getRanged_18 : decode prog_14_method_52_code 18 = .ok (.lcmp, 1) := by decide +kernel
theorem d_M_getRanged_19 : decode prog_14_method_52_code 19 = .ok (.ifCond .ge 5, 3) := by decide +kernel
theorem d_M_getRanged_22 : decode prog_14_method_52_code 22 = .ok (.iconst (-1), 1) := by decide +kernel
theorem d_M_getRanged_23 : decode prog_14_method_52_code 23 = .ok (.ireturn, 1) := by decide +kernel
theorem d_M_getRanged_24 : decode prog_14_method_52_code 24 = .ok (.aload_n 0, 1) := by decide +kernel
theorem d_M_getRanged_25 : decode prog_14_method_52_code 25 = .ok (.iload_n 1, 1) := by decide +kernel
theorem d_M_getRanged_26 : decode prog_14_method_52_code 26 = .ok (.lload_n 3, 1) := by decide +kernel
theorem d_M_getRanged_27 : decode prog_14_method_52_code 27 = .ok (.invokevirtual 258, 3) := by decide +kernel
theorem d_M_getRanged_30 : decode prog_14_method_52_code 30 = .ok (.istore 5, 2) := by decide +kernel
theorem d_M_getRanged_32 : decode prog_14_method_52_code 32 = .ok (.aload_n 0, 1) := by decide +kernel
theorem d_M_getRanged_33 : decode prog_14_method_52_code 33 = .ok (.aload_n 0, 1) := by decide +kernel
theorem d_M_getRanged_34 : decode prog_14_method_52_code 34 = .ok (.aload_n 0, 1) := by decide +kernel
theorem d_M_getRanged_35 : decode prog_14_method_52_code 35 = .ok (.getfield 19, 3) := by decide +kernel
theorem d_M_getRanged_38 : decode prog_14_method_52_code 38 = .ok (.iload_n 1, 1) := by decide +kernel
theorem d_M_getRanged_39 : decode prog_14_method_52_code 39 = .ok (.iload 5, 2) := by decide +kernel
theorem d_M_getRanged_41 : decode prog_14_method_52_code 41 = .ok (.invokevirtual 147, 3) := by decide +kernel
theorem d_M_getRanged_44 : decode prog_14_method_52_code 44 = .ok (.aload_n 0, 1) := by decide +kernel
theorem d_M_getRanged_45 : decode prog_14_method_52_code 45 = .ok (.getfield 19, 3) := by decide +kernel
theorem d_M_getRanged_48 : decode prog_14_method_52_code 48 = .ok (.bipush 64, 2) := by decide +kernel
theorem d_M_getRanged_50 : decode prog_14_method_52_code 50 = .ok (.iload_n 1, 1) := by decide +kernel
theorem d_M_getRanged_51 : decode prog_14_method_52_code 51 = .ok (.imul, 1) := by decide +kernel
theorem d_M_getRanged_52 : decode prog_14_method_52_code 52 = .ok (.iload 5, 2) := by decide +kernel
theorem d_M_getRanged_54 : decode prog_14_method_52_code 54 = .ok (.iadd, 1) := by decide +kernel
theorem d_M_getRanged_55 : decode prog_14_method_52_code 55 = .ok (.iaload, 1) := by decide +kernel
theorem d_M_getRanged_56 : decode prog_14_method_52_code 56 = .ok (.iload_n 2, 1) := by decide +kernel
theorem d_M_getRanged_57 : decode prog_14_method_52_code 57 = .ok (.invokevirtual 262, 3) := by decide +kernel
theorem d_M_getRanged_60 : decode prog_14_method_52_code 60 = .ok (.aload_n 0, 1) := by decide +kernel
theorem d_M_getRanged_61 : decode prog_14_method_52_code 61 = .ok (.aload_n 0, 1) := by decide +kernel
theorem d_M_getRanged_62 : decode prog_14_method_52_code 62 = .ok (.getfield 19, 3) := by decide +kernel
theorem d_M_getRanged_65 : decode prog_14_method_52_code 65 = .ok (.iload_n 1, 1) := by decide +kernel
theorem d_M_getRanged_66 : decode prog_14_method_52_code 66 = .ok (.iload 5, 2) := by decide +kernel
theorem d_M_getRanged_68 : decode prog_14_method_52_code 68 = .ok (.invokevirtual 155, 3) := by decide +kernel
theorem d_M_getRanged_71 : decode prog_14_method_52_code 71 = .ok (.iload 5, 2) := by decide +kernel
theorem d_M_getRanged_73 : decode prog_14_method_52_code 73 = .ok (.ireturn, 1) := by decide +kernel
theorem d_M_wanted_0 : decode prog_14_method_47_code 0 = .ok (.iload_n 1, 1) := by decide +kernel
theorem d_M_wanted_1 : decode prog_14_method_47_code 1 = .ok (.ifCond .ne 7, 3) := by decide +kernel
theorem d_M_wanted_4 : decode prog_14_method_47_code 4 = .ok (.lconst 0, 1) := by decide +kernel
theorem d_M_wanted_5 : decode prog_14_method_47_code 5 = .ok (.goto 10, 3) := by decide +kernel
theorem d_M_wanted_8 : decode prog_14_method_47_code 8 = .ok (.aload_n 0, 1) := by decide +kernel
theorem d_M_wanted_9 : decode prog_14_method_47_code 9 = .ok (.getfield 229, 3) := by decide +kernel
theorem d_M_wanted_12 : decode prog_14_method_47_code 12 = .ok (.iload_n 1, 1) := by decide +kernel
theorem d_M_wanted_13 : decode prog_14_method_47_code 13 = .ok (.i2l, 1) := by decide +kernel
theorem d_M_wanted_14 : decode prog_14_method_47_code 14 = .ok (.ldiv, 1) := by decide +kernel
theorem d_M_wanted_15 : decode prog_14_method_47_code 15 = .ok (.lstore_n 2, 1) := by decide +kernel
theorem d_M_wanted_16 : decode prog_14_method_47_code 16 = .ok (.lload_n 2, 1) := by decide +kernel
theorem d_M_wanted_17 : decode prog_14_method_47_code 17 = .ok (.lconst 0, 1) := by decide +kernel
theorem d_M_wanted_18 : decode prog_14_method_47_code 18 = .ok (.lcmp, 1) := by decide +kernel
theorem d_M_wanted_19 : decode prog_14_method_47_code 19 = .ok (.ifCond .ne 7, 3) := by decide +kernel
theorem d_M_wanted_22 : decode prog_14_method_47_code 22 = .ok (.ldc2_w 242, 3) := by decide +kernel
theorem d_M_wanted_25 : decode prog_14_method_47_code 25 = .ok (.lreturn, 1) := by decide +kernel
theorem d_M_wanted_26 : decode prog_14_method_47_code 26 = .ok (.aload_n 0, 1) := by decide +kernel
theorem d_M_wanted_27 : decode prog_14_method_47_code 27 = .ok (.getfield 46, 3) := by decide +kernel
theorem d_M_wanted_30 : decode prog_14_method_47_code 30 = .ok (.ifCond .ne 10, 3) := by decide +kernel
theorem d_M_wanted_33 : decode prog_14_method_47_code 33 = .ok (.aload_n 0, 1) := by decide +kernel
theorem d_M_wanted_34 : decode prog_14_method_47_code 34 = .ok (.getfield 223, 3) := by decide +kernel
theorem d_M_wanted_37 : decode prog_14_method_47_code 37 = .ok (.goto 16, 3) := by decide +kernel
theorem d_M_wanted_40 : decode prog_14_method_47_code 40 = .ok (.aload_n 0, 1) := by decide +kernel
theorem d_M_wanted_41 : decode prog_14_method_47_code 41 = .ok (.getfield 223, 3) := by decide +kernel
theorem d_M_wanted_44 : decode prog_14_method_47_code 44 = .ok (.aload_n 0, 1) := by decide +kernel
theorem d_M_wanted_45 : decode prog_14_method_47_code 45 = .ok (.getfield 226, 3) := by decide +kernel
theorem d_M_wanted_48 : decode prog_14_method_47_code 48 = .ok (.lsub, 1) := by decide +kernel
theorem d_M_wanted_49 : decode prog_14_method_47_code 49 = .ok (.ldc2_w 108, 3) := by decide +kernel
theorem d_M_wanted_52 : decode prog_14_method_47_code 52 = .ok (.land, 1) := by decide +kernel
theorem d_M_wanted_53 : decode prog_14_method_47_code 53 = .ok (.lload_n 2, 1) := by decide +kernel
theorem d_M_wanted_54 : decode prog_14_method_47_code 54 = .ok (.ldiv, 1) := by decide +kernel
theorem d_M_wanted_55 : decode prog_14_method_47_code 55 = .ok (.lstore 4, 2) := by decide +kernel
theorem d_M_wanted_57 : decode prog_14_method_47_code 57 = .ok (.lload 4, 2) := by decide +kernel
theorem d_M_wanted_59 : decode prog_14_method_47_code 59 = .ok (.iload_n 1, 1) := by decide +kernel
theorem d_M_wanted_60 : decode prog_14_method_47_code 60 = .ok (.i2l, 1) := by decide +kernel
theorem d_M_wanted_61 : decode prog_14_method_47_code 61 = .ok (.lcmp, 1) := by decide +kernel
theorem d_M_wanted_62 : decode prog_14_method_47_code 62 = .ok (.ifCond .ge 8, 3) := by decide +kernel
theorem d_M_wanted_65 : decode prog_14_method_47_code 65 = .ok (.lload 4, 2) := by decide +kernel
theorem d_M_wanted_67 : decode prog_14_method_47_code 67 = .ok (.goto 6, 3) := by decide +kernel
theorem d_M_wanted_70 : decode prog_14_method_47_code 70 = .ok (.ldc2_w 242, 3) := by decide +kernel
theorem d_M_wanted_73 : decode prog_14_method_47_code 73 = .ok (.lreturn, 1) := by decide +kernel
theorem d_M_signAt_0 : decode prog_14_method_49_code 0 = .ok (.iconst 0, 1) := by decide +kernel
theorem d_M_signAt_1 : decode prog_14_method_49_code 1 = .ok (.istore 4, 2) := by decide +kernel
theorem d_M_signAt_3 : decode prog_14_method_49_code 3 = .ok (.aload_n 0, 1) := by decide +kernel
theorem d_M_signAt_4 : decode prog_14_method_49_code 4 = .ok (.getfield 19, 3) := by decide +kernel
theorem d_M_signAt_7 : decode prog_14_method_49_code 7 = .ok (.bipush 64, 2) := by decide +kernel
theorem d_M_signAt_9 : decode prog_14_method_49_code 9 = .ok (.iload_n 1, 1) := by decide +kernel
theorem d_M_signAt_10 : decode prog_14_method_49_code 10 = .ok (.imul, 1) := by decide +kernel
theorem d_M_signAt_11 : decode prog_14_method_49_code 11 = .ok (.iaload, 1) := by decide +kernel
theorem d_M_signAt_12 : decode prog_14_method_49_code 12 = .ok (.i2l, 1) := by decide +kernel
theorem d_M_signAt_13 : decode prog_14_method_49_code 13 = .ok (.lstore 5, 2) := by decide +kernel
theorem d_M_signAt_15 : decode prog_14_method_49_code 15 = .ok (.lload 5, 2) := by decide +kernel
theorem d_M_signAt_17 : decode prog_14_method_49_code 17 = .ok (.lload_n 2, 1) := by decide +kernel
theorem d_M_signAt_18 : decode prog_14_method_49_code 18 = .ok (.lcmp, 1) := by decide +kernel
theorem d_M_signAt_19 : decode prog_14_method_49_code 19 = .ok (.ifCond .gt 27, 3) := by decide +kernel
theorem d_M_signAt_22 : decode prog_14_method_49_code 22 = .ok (.iinc 4 1, 3) := by decide +kernel
theorem d_M_signAt_25 : decode prog_14_method_49_code 25 = .ok (.lload 5, 2) := by decide +kernel
theorem d_M_signAt_27 : decode prog_14_method_49_code 27 = .ok (.aload_n 0, 1) := by decide +kernel
theorem d_M_signAt_28 : decode prog_14_method_49_code 28 = .ok (.getfield 19, 3) := by decide +kernel
theorem d_M_signAt_31 : decode prog_14_method_49_code 31 = .ok (.bipush 64, 2) := by decide +kernel
theorem d_M_signAt_33 : decode prog_14_method_49_code 33 = .ok (.iload_n 1, 1) := by decide +kernel
theorem d_M_signAt_34 : decode prog_14_method_49_code 34 = .ok (.imul, 1) := by decide +kernel
theorem d_M_signAt_35 : decode prog_14_method_49_code 35 = .ok (.iload 4, 2) := by decide +kernel
theorem d_M_signAt_37 : decode prog_14_method_49_code 37 = .ok (.iadd, 1) := by decide +kernel
theorem d_M_signAt_38 : decode prog_14_method_49_code 38 = .ok (.iaload, 1) := by decide +kernel
theorem d_M_signAt_39 : decode prog_14_method_49_code 39 = .ok (.i2l, 1) := by decide +kernel
theorem d_M_signAt_40 : decode prog_14_method_49_code 40 = .ok (.ladd, 1) := by decide +kernel
theorem d_M_signAt_41 : decode prog_14_method_49_code 41 = .ok (.lstore 5, 2) := by decide +kernel
theorem d_M_signAt_43 : decode prog_14_method_49_code 43 = .ok (.goto (-28), 3) := by decide +kernel
theorem d_M_signAt_46 : decode prog_14_method_49_code 46 = .ok (.iload 4, 2) := by decide +kernel
theorem d_M_signAt_48 : decode prog_14_method_49_code 48 = .ok (.ireturn, 1) := by decide +kernel
theorem d_M_leave_0 : decode prog_14_method_48_code 0 = .ok (.aload_n 0, 1) := by decide +kernel
theorem d_M_leave_1 : decode prog_14_method_48_code 1 = .ok (.getfield 229, 3) := by decide +kernel
theorem d_M_leave_4 : decode prog_14_method_48_code 4 = .ok (.iload_n 3, 1) := by decide +kernel
theorem d_M_leave_5 : decode prog_14_method_48_code 5 = .ok (.i2l, 1) := by decide +kernel
theorem d_M_leave_6 : decode prog_14_method_48_code 6 = .ok (.ldiv, 1) := by decide +kernel
theorem d_M_leave_7 : decode prog_14_method_48_code 7 = .ok (.lstore 4, 2) := by decide +kernel
theorem d_M_leave_9 : decode prog_14_method_48_code 9 = .ok (.aload_n 0, 1) := by decide +kernel
theorem d_M_leave_10 : decode prog_14_method_48_code 10 = .ok (.lload 4, 2) := by decide +kernel
theorem d_M_leave_12 : decode prog_14_method_48_code 12 = .ok (.iload_n 2, 1) := by decide +kernel
theorem d_M_leave_13 : decode prog_14_method_48_code 13 = .ok (.i2l, 1) := by decide +kernel
theorem d_M_leave_14 : decode prog_14_method_48_code 14 = .ok (.lmul, 1) := by decide +kernel
theorem d_M_leave_15 : decode prog_14_method_48_code 15 = .ok (.putfield 229, 3) := by decide +kernel
theorem d_M_leave_18 : decode prog_14_method_48_code 18 = .ok (.aload_n 0, 1) := by decide +kernel
theorem d_M_leave_19 : decode prog_14_method_48_code 19 = .ok (.getfield 46, 3) := by decide +kernel
theorem d_M_leave_22 : decode prog_14_method_48_code 22 = .ok (.ifCond .ne 24, 3) := by decide +kernel
theorem d_M_leave_25 : decode prog_14_method_48_code 25 = .ok (.aload_n 0, 1) := by decide +kernel
theorem d_M_leave_26 : decode prog_14_method_48_code 26 = .ok (.aload_n 0, 1) := by decide +kernel
theorem d_M_leave_27 : decode prog_14_method_48_code 27 = .ok (.getfield 223, 3) := by decide +kernel
theorem d_M_leave_30 : decode prog_14_method_48_code 30 = .ok (.lload 4, 2) := by decide +kernel
theorem d_M_leave_32 : decode prog_14_method_48_code 32 = .ok (.iload_n 1, 1) := by decide +kernel
theorem d_M_leave_33 : decode prog_14_method_48_code 33 = .ok (.i2l, 1) := by decide +kernel
theorem d_M_leave_34 : decode prog_14_method_48_code 34 = .ok (.lmul, 1) := by decide +kernel
theorem d_M_leave_35 : decode prog_14_method_48_code 35 = .ok (.lsub, 1) := by decide +kernel
theorem d_M_leave_36 : decode prog_14_method_48_code 36 = .ok (.putfield 223, 3) := by decide +kernel
theorem d_M_leave_39 : decode prog_14_method_48_code 39 = .ok (.aload_n 0, 1) := by decide +kernel
theorem d_M_leave_40 : decode prog_14_method_48_code 40 = .ok (.invokevirtual 244, 3) := by decide +kernel
theorem d_M_leave_43 : decode prog_14_method_48_code 43 = .ok (.goto 25, 3) := by decide +kernel
theorem d_M_leave_46 : decode prog_14_method_48_code 46 = .ok (.aload_n 0, 1) := by decide +kernel
theorem d_M_leave_47 : decode prog_14_method_48_code 47 = .ok (.aload_n 0, 1) := by decide +kernel
theorem d_M_leave_48 : decode prog_14_method_48_code 48 = .ok (.getfield 226, 3) := by decide +kernel
theorem d_M_leave_51 : decode prog_14_method_48_code 51 = .ok (.lload 4, 2) := by decide +kernel
theorem d_M_leave_53 : decode prog_14_method_48_code 53 = .ok (.iload_n 1, 1) := by decide +kernel
theorem d_M_leave_54 : decode prog_14_method_48_code 54 = .ok (.i2l, 1) := by decide +kernel
theorem d_M_leave_55 : decode prog_14_method_48_code 55 = .ok (.lmul, 1) := by decide +kernel
theorem d_M_leave_56 : decode prog_14_method_48_code 56 = .ok (.ladd, 1) := by decide +kernel
theorem d_M_leave_57 : decode prog_14_method_48_code 57 = .ok (.ldc2_w 108, 3) := by decide +kernel
theorem d_M_leave_60 : decode prog_14_method_48_code 60 = .ok (.land, 1) := by decide +kernel
theorem d_M_leave_61 : decode prog_14_method_48_code 61 = .ok (.putfield 226, 3) := by decide +kernel
theorem d_M_leave_64 : decode prog_14_method_48_code 64 = .ok (.aload_n 0, 1) := by decide +kernel
theorem d_M_leave_65 : decode prog_14_method_48_code 65 = .ok (.invokevirtual 247, 3) := by decide +kernel
theorem d_M_leave_68 : decode prog_14_method_48_code 68 = .ok (.return_, 1) := by decide +kernel
theorem d_M_widenRead_0 : decode prog_14_method_45_code 0 = .ok (.aload_n 0, 1) := by decide +kernel
theorem d_M_widenRead_1 : decode prog_14_method_45_code 1 = .ok (.getfield 229, 3) := by decide +kernel
theorem d_M_widenRead_4 : decode prog_14_method_45_code 4 = .ok (.ldc2_w 132, 3) := by decide +kernel
theorem d_M_widenRead_7 : decode prog_14_method_45_code 7 = .ok (.lcmp, 1) := by decide +kernel
theorem d_M_widenRead_8 : decode prog_14_method_45_code 8 = .ok (.ifCond .ge 38, 3) := by decide +kernel
theorem d_M_widenRead_11 : decode prog_14_method_45_code 11 = .ok (.aload_n 0, 1) := by decide +kernel
theorem d_M_widenRead_12 : decode prog_14_method_45_code 12 = .ok (.aload_n 0, 1) := by decide +kernel
theorem d_M_widenRead_13 : decode prog_14_method_45_code 13 = .ok (.getfield 229, 3) := by decide +kernel
theorem d_M_widenRead_16 : decode prog_14_method_45_code 16 = .ok (.bipush 8, 2) := by decide +kernel
theorem d_M_widenRead_18 : decode prog_14_method_45_code 18 = .ok (.lshl, 1) := by decide +kernel
theorem d_M_widenRead_19 : decode prog_14_method_45_code 19 = .ok (.putfield 229, 3) := by decide +kernel
theorem d_M_widenRead_22 : decode prog_14_method_45_code 22 = .ok (.aload_n 0, 1) := by decide +kernel
theorem d_M_widenRead_23 : decode prog_14_method_45_code 23 = .ok (.aload_n 0, 1) := by decide +kernel
theorem d_M_widenRead_24 : decode prog_14_method_45_code 24 = .ok (.getfield 223, 3) := by decide +kernel
theorem d_M_widenRead_27 : decode prog_14_method_45_code 27 = .ok (.bipush 8, 2) := by decide +kernel
theorem d_M_widenRead_29 : decode prog_14_method_45_code 29 = .ok (.lshl, 1) := by decide +kernel
theorem d_M_widenRead_30 : decode prog_14_method_45_code 30 = .ok (.ldc2_w 108, 3) := by decide +kernel
theorem d_M_widenRead_33 : decode prog_14_method_45_code 33 = .ok (.land, 1) := by decide +kernel
theorem d_M_widenRead_34 : decode prog_14_method_45_code 34 = .ok (.aload_n 0, 1) := by decide +kernel
theorem d_M_widenRead_35 : decode prog_14_method_45_code 35 = .ok (.invokevirtual 213, 3) := by decide +kernel
theorem d_M_widenRead_38 : decode prog_14_method_45_code 38 = .ok (.i2l, 1) := by decide +kernel
theorem d_M_widenRead_39 : decode prog_14_method_45_code 39 = .ok (.ladd, 1) := by decide +kernel
theorem d_M_widenRead_40 : decode prog_14_method_45_code 40 = .ok (.putfield 223, 3) := by decide +kernel
theorem d_M_widenRead_43 : decode prog_14_method_45_code 43 = .ok (.goto (-43), 3) := by decide +kernel
theorem d_M_widenRead_46 : decode prog_14_method_45_code 46 = .ok (.return_, 1) := by decide +kernel
theorem d_M_widenReadPlain_0 : decode prog_14_method_46_code 0 = .ok (.iconst 1, 1) := by decide +kernel
theorem d_M_widenReadPlain_1 : decode prog_14_method_46_code 1 = .ok (.istore_n 1, 1) := by decide +kernel
theorem d_M_widenReadPlain_2 : decode prog_14_method_46_code 2 = .ok (.iload_n 1, 1) := by decide +kernel
theorem d_M_widenReadPlain_3 : decode prog_14_method_46_code 3 = .ok (.ifCond .eq 139, 3) := by decide +kernel
theorem d_M_widenReadPlain_6 : decode prog_14_method_46_code 6 = .ok (.aload_n 0, 1) := by decide +kernel
theorem d_M_widenReadPlain_7 : decode prog_14_method_46_code 7 = .ok (.getfield 226, 3) := by decide +kernel
theorem d_M_widenReadPlain_10 : decode prog_14_method_46_code 10 = .ok (.bipush 24, 2) := by decide +kernel
theorem d_M_widenReadPlain_12 : decode prog_14_method_46_code 12 = .ok (.lshr, 1) := by decide +kernel
theorem d_M_widenReadPlain_13 : decode prog_14_method_46_code 13 = .ok (.aload_n 0, 1) := by decide +kernel
theorem d_M_widenReadPlain_14 : decode prog_14_method_46_code 14 = .ok (.getfield 226, 3) := by decide +kernel
theorem d_M_widenReadPlain_17 : decode prog_14_method_46_code 17 = .ok (.aload_n 0, 1) := by decide +kernel
theorem d_M_widenReadPlain_18 : decode prog_14_method_46_code 18 = .ok (.getfield 229, 3) := by decide +kernel
theorem d_M_widenReadPlain_21 : decode prog_14_method_46_code 21 = .ok (.ladd, 1) := by decide +kernel
theorem d_M_widenReadPlain_22 : decode prog_14_method_46_code 22 = .ok (.ldc2_w 108, 3) := by decide +kernel
theorem d_M_widenReadPlain_25 : decode prog_14_method_46_code 25 = .ok (.land, 1) := by decide +kernel
theorem d_M_widenReadPlain_26 : decode prog_14_method_46_code 26 = .ok (.bipush 24, 2) := by decide +kernel
theorem d_M_widenReadPlain_28 : decode prog_14_method_46_code 28 = .ok (.lshr, 1) := by decide +kernel
theorem d_M_widenReadPlain_29 : decode prog_14_method_46_code 29 = .ok (.lcmp, 1) := by decide +kernel
theorem d_M_widenReadPlain_30 : decode prog_14_method_46_code 30 = .ok (.ifCond .ne 7, 3) := by decide +kernel
theorem d_M_widenReadPlain_33 : decode prog_14_method_46_code 33 = .ok (.iconst 1, 1) := by decide +kernel
theorem d_M_widenReadPlain_34 : decode prog_14_method_46_code 34 = .ok (.goto 4, 3) := by decide +kernel
theorem d_M_widenReadPlain_37 : decode prog_14_method_46_code 37 = .ok (.iconst 0, 1) := by decide +kernel
theorem d_M_widenReadPlain_38 : decode prog_14_method_46_code 38 = .ok (.istore_n 2, 1) := by decide +kernel
theorem d_M_widenReadPlain_39 : decode prog_14_method_46_code 39 = .ok (.iload_n 2, 1) := by decide +kernel
theorem d_M_widenReadPlain_40 : decode prog_14_method_46_code 40 = .ok (.ifCond .ne 14, 3) := by decide +kernel
theorem d_M_widenReadPlain_43 : decode prog_14_method_46_code 43 = .ok (.aload_n 0, 1) := by decide +kernel
theorem d_M_widenReadPlain_44 : decode prog_14_method_46_code 44 = .ok (.getfield 229, 3) := by decide +kernel
theorem d_M_widenReadPlain_47 : decode prog_14_method_46_code 47 = .ok (.ldc2_w 137, 3) := by decide +kernel
theorem d_M_widenReadPlain_50 : decode prog_14_method_46_code 50 = .ok (.lcmp, 1) := by decide +kernel
theorem d_M_widenReadPlain_51 : decode prog_14_method_46_code 51 = .ok (.ifCond .ge 7, 3) := by decide +kernel
theorem d_M_widenReadPlain_54 : decode prog_14_method_46_code 54 = .ok (.iconst 1, 1) := by decide +kernel
theorem d_M_widenReadPlain_55 : decode prog_14_method_46_code 55 = .ok (.goto 4, 3) := by decide +kernel
theorem d_M_widenReadPlain_58 : decode prog_14_method_46_code 58 = .ok (.iconst 0, 1) := by decide +kernel
theorem d_M_widenReadPlain_59 : decode prog_14_method_46_code 59 = .ok (.istore_n 1, 1) := by decide +kernel
theorem d_M_widenReadPlain_60 : decode prog_14_method_46_code 60 = .ok (.iload_n 1, 1) := by decide +kernel
theorem d_M_widenReadPlain_61 : decode prog_14_method_46_code 61 = .ok (.ifCond .eq 78, 3) := by decide +kernel
theorem d_M_widenReadPlain_64 : decode prog_14_method_46_code 64 = .ok (.aload_n 0, 1) := by decide +kernel
theorem d_M_widenReadPlain_65 : decode prog_14_method_46_code 65 = .ok (.iload_n 2, 1) := by decide +kernel
theorem d_M_widenReadPlain_66 : decode prog_14_method_46_code 66 = .ok (.ifCond .eq 10, 3) := by decide +kernel
theorem d_M_widenReadPlain_69 : decode prog_14_method_46_code 69 = .ok (.aload_n 0, 1) := by decide +kernel
theorem d_M_widenReadPlain_70 : decode prog_14_method_46_code 70 = .ok (.getfield 229, 3) := by decide +kernel
theorem d_M_widenReadPlain_73 : decode prog_14_method_46_code 73 = .ok (.goto 12, 3) := by decide +kernel
theorem d_M_widenReadPlain_76 : decode prog_14_method_46_code 76 = .ok (.aload_n 0, 1) := by decide +kernel
theorem d_M_widenReadPlain_77 : decode prog_14_method_46_code 77 = .ok (.getfield 226, 3) := by decide +kernel
theorem d_M_widenReadPlain_80 : decode prog_14_method_46_code 80 = .ok (.lneg, 1) := by decide +kernel
theorem d_M_widenReadPlain_81 : decode prog_14_method_46_code 81 = .ok (.ldc2_w 139, 3) := by decide +kernel
theorem d_M_widenReadPlain_84 : decode prog_14_method_46_code 84 = .ok (.land, 1) := by decide +kernel
theorem d_M_widenReadPlain_85 : decode prog_14_method_46_code 85 = .ok (.putfield 229, 3) := by decide +kernel
theorem d_M_widenReadPlain_88 : decode prog_14_method_46_code 88 = .ok (.aload_n 0, 1) := by decide +kernel
theorem d_M_widenReadPlain_89 : decode prog_14_method_46_code 89 = .ok (.aload_n 0, 1) := by decide +kernel
theorem d_M_widenReadPlain_90 : decode prog_14_method_46_code 90 = .ok (.getfield 226, 3) := by decide +kernel
theorem d_M_widenReadPlain_93 : decode prog_14_method_46_code 93 = .ok (.bipush 8, 2) := by decide +kernel
theorem d_M_widenReadPlain_95 : decode prog_14_method_46_code 95 = .ok (.lshl, 1) := by decide +kernel
theorem d_M_widenReadPlain_96 : decode prog_14_method_46_code 96 = .ok (.ldc2_w 108, 3) := by decide +kernel
theorem d_M_widenReadPlain_99 : decode prog_14_method_46_code 99 = .ok (.land, 1) := by decide +kernel
theorem d_M_widenReadPlain_100 : decode prog_14_method_46_code 100 = .ok (.putfield 226, 3) := by decide +kernel
theorem d_M_widenReadPlain_103 : decode prog_14_method_46_code 103 = .ok (.aload_n 0, 1) := by decide +kernel
theorem d_M_widenReadPlain_104 : decode prog_14_method_46_code 104 = .ok (.aload_n 0, 1) := by decide +kernel
theorem d_M_widenReadPlain_105 : decode prog_14_method_46_code 105 = .ok (.getfield 229, 3) := by decide +kernel
theorem d_M_widenReadPlain_108 : decode prog_14_method_46_code 108 = .ok (.bipush 8, 2) := by decide +kernel
theorem d_M_widenReadPlain_110 : decode prog_14_method_46_code 110 = .ok (.lshl, 1) := by decide +kernel
theorem d_M_widenReadPlain_111 : decode prog_14_method_46_code 111 = .ok (.ldc2_w 108, 3) := by decide +kernel
theorem d_M_widenReadPlain_114 : decode prog_14_method_46_code 114 = .ok (.land, 1) := by decide +kernel
theorem d_M_widenReadPlain_115 : decode prog_14_method_46_code 115 = .ok (.putfield 229, 3) := by decide +kernel
theorem d_M_widenReadPlain_118 : decode prog_14_method_46_code 118 = .ok (.aload_n 0, 1) := by decide +kernel
theorem d_M_widenReadPlain_119 : decode prog_14_method_46_code 119 = .ok (.aload_n 0, 1) := by decide +kernel
theorem d_M_widenReadPlain_120 : decode prog_14_method_46_code 120 = .ok (.getfield 223, 3) := by decide +kernel
theorem d_M_widenReadPlain_123 : decode prog_14_method_46_code 123 = .ok (.bipush 8, 2) := by decide +kernel
theorem d_M_widenReadPlain_125 : decode prog_14_method_46_code 125 = .ok (.lshl, 1) := by decide +kernel
theorem d_M_widenReadPlain_126 : decode prog_14_method_46_code 126 = .ok (.ldc2_w 108, 3) := by decide +kernel
theorem d_M_widenReadPlain_129 : decode prog_14_method_46_code 129 = .ok (.land, 1) := by decide +kernel
theorem d_M_widenReadPlain_130 : decode prog_14_method_46_code 130 = .ok (.aload_n 0, 1) := by decide +kernel
theorem d_M_widenReadPlain_131 : decode prog_14_method_46_code 131 = .ok (.invokevirtual 213, 3) := by decide +kernel
theorem d_M_widenReadPlain_134 : decode prog_14_method_46_code 134 = .ok (.i2l, 1) := by decide +kernel
theorem d_M_widenReadPlain_135 : decode prog_14_method_46_code 135 = .ok (.ladd, 1) := by decide +kernel
theorem d_M_widenReadPlain_136 : decode prog_14_method_46_code 136 = .ok (.putfield 223, 3) := by decide +kernel
theorem d_M_widenReadPlain_139 : decode prog_14_method_46_code 139 = .ok (.goto (-137), 3) := by decide +kernel
theorem d_M_widenReadPlain_142 : decode prog_14_method_46_code 142 = .ok (.return_, 1) := by decide +kernel
theorem d_M_getNode_0 : decode prog_14_method_51_code 0 = .ok (.aload_n 0, 1) := by decide +kernel
theorem d_M_getNode_1 : decode prog_14_method_51_code 1 = .ok (.getfield 223, 3) := by decide +kernel
theorem d_M_getNode_4 : decode prog_14_method_51_code 4 = .ok (.aload_n 0, 1) := by decide +kernel
theorem d_M_getNode_5 : decode prog_14_method_51_code 5 = .ok (.getfield 229, 3) := by decide +kernel
theorem d_M_getNode_8 : decode prog_14_method_51_code 8 = .ok (.lcmp, 1) := by decide +kernel
theorem d_M_getNode_9 : decode prog_14_method_51_code 9 = .ok (.ifCond .lt 5, 3) := by decide +kernel
theorem d_M_getNode_12 : decode prog_14_method_51_code 12 = .ok (.iconst (-1), 1) := by decide +kernel
theorem d_M_getNode_13 : decode prog_14_method_51_code 13 = .ok (.ireturn, 1) := by decide +kernel
theorem d_M_getNode_14 : decode prog_14_method_51_code 14 = .ok (.iconst 1, 1) := by decide +kernel
theorem d_M_getNode_15 : decode prog_14_method_51_code 15 = .ok (.istore_n 2, 1) := by decide +kernel
theorem d_M_getNode_16 : decode prog_14_method_51_code 16 = .ok (.aload_n 0, 1) := by decide +kernel
theorem d_M_getNode_17 : decode prog_14_method_51_code 17 = .ok (.iload_n 1, 1) := by decide +kernel
theorem d_M_getNode_18 : decode prog_14_method_51_code 18 = .ok (.invokevirtual 158, 3) := by decide +kernel
theorem d_M_getNode_21 : decode prog_14_method_51_code 21 = .ok (.istore_n 3, 1) := by decide +kernel
theorem d_M_getNode_22 : decode prog_14_method_51_code 22 = .ok (.iconst 0, 1) := by decide +kernel
theorem d_M_getNode_23 : decode prog_14_method_51_code 23 = .ok (.istore 4, 2) := by decide +kernel
theorem d_M_getNode_25 : decode prog_14_method_51_code 25 = .ok (.iload 4, 2) := by decide +kernel
theorem d_M_getNode_27 : decode prog_14_method_51_code 27 = .ok (.iload_n 3, 1) := by decide +kernel
theorem d_M_getNode_28 : decode prog_14_method_51_code 28 = .ok (.if_icmp .ge 44, 3) := by decide +kernel
theorem d_M_getNode_31 : decode prog_14_method_51_code 31 = .ok (.bipush 64, 2) := by decide +kernel
theorem d_M_getNode_33 : decode prog_14_method_51_code 33 = .ok (.iload_n 1, 1) := by decide +kernel
theorem d_M_getNode_34 : decode prog_14_method_51_code 34 = .ok (.imul, 1) := by decide +kernel
theorem d_M_getNode_35 : decode prog_14_method_51_code 35 = .ok (.iload_n 2, 1) := by decide +kernel
theorem d_M_getNode_36 : decode prog_14_method_51_code 36 = .ok (.iadd, 1) := by decide +kernel
theorem d_M_getNode_37 : decode prog_14_method_51_code 37 = .ok (.istore 5, 2) := by decide +kernel
theorem d_M_getNode_39 : decode prog_14_method_51_code 39 = .ok (.iconst 2, 1) := by decide +kernel
theorem d_M_getNode_40 : decode prog_14_method_51_code 40 = .ok (.iload_n 2, 1) := by decide +kernel
theorem d_M_getNode_41 : decode prog_14_method_51_code 41 = .ok (.imul, 1) := by decide +kernel
theorem d_M_getNode_42 : decode prog_14_method_51_code 42 = .ok (.aload_n 0, 1) := by decide +kernel
theorem d_M_getNode_43 : decode prog_14_method_51_code 43 = .ok (.aload_n 0, 1) := by decide +kernel
theorem d_M_getNode_44 : decode prog_14_method_51_code 44 = .ok (.getfield 229, 3) := by decide +kernel
theorem d_M_getNode_47 : decode prog_14_method_51_code 47 = .ok (.bipush 11, 2) := by decide +kernel
theorem d_M_getNode_49 : decode prog_14_method_51_code 49 = .ok (.lshr, 1) := by decide +kernel
theorem d_M_getNode_50 : decode prog_14_method_51_code 50 = .ok (.aload_n 0, 1) := by decide +kernel
theorem d_M_getNode_51 : decode prog_14_method_51_code 51 = .ok (.getfield 19, 3) := by decide +kernel
theorem d_M_getNode_54 : decode prog_14_method_51_code 54 = .ok (.iload 5, 2) := by decide +kernel
theorem d_M_getNode_56 : decode prog_14_method_51_code 56 = .ok (.iaload, 1) := by decide +kernel
theorem d_M_getNode_57 : decode prog_14_method_51_code 57 = .ok (.i2l, 1) := by decide +kernel
theorem d_M_getNode_58 : decode prog_14_method_51_code 58 = .ok (.lmul, 1) := by decide +kernel
theorem d_M_getNode_59 : decode prog_14_method_51_code 59 = .ok (.iload 5, 2) := by decide +kernel
theorem d_M_getNode_61 : decode prog_14_method_51_code 61 = .ok (.invokevirtual 250, 3) := by decide +kernel
theorem d_M_getNode_64 : decode prog_14_method_51_code 64 = .ok (.iadd, 1) := by decide +kernel
theorem d_M_getNode_65 : decode prog_14_method_51_code 65 = .ok (.istore_n 2, 1) := by decide +kernel
theorem d_M_getNode_66 : decode prog_14_method_51_code 66 = .ok (.iinc 4 1, 3) := by decide +kernel
theorem d_M_getNode_69 : decode prog_14_method_51_code 69 = .ok (.goto (-44), 3) := by decide +kernel
theorem d_M_getNode_72 : decode prog_14_method_51_code 72 = .ok (.iload_n 2, 1) := by decide +kernel
theorem d_M_getNode_73 : decode prog_14_method_51_code 73 = .ok (.iconst 1, 1) := by decide +kernel
theorem d_M_getNode_74 : decode prog_14_method_51_code 74 = .ok (.iload_n 3, 1) := by decide +kernel
theorem d_M_getNode_75 : decode prog_14_method_51_code 75 = .ok (.ishl, 1) := by decide +kernel
theorem d_M_getNode_76 : decode prog_14_method_51_code 76 = .ok (.isub, 1) := by decide +kernel
theorem d_M_getNode_77 : decode prog_14_method_51_code 77 = .ok (.istore 4, 2) := by decide +kernel
theorem d_M_getNode_79 : decode prog_14_method_51_code 79 = .ok (.iload 4, 2) := by decide +kernel
theorem d_M_getNode_81 : decode prog_14_method_51_code 81 = .ok (.aload_n 0, 1) := by decide +kernel
theorem d_M_getNode_82 : decode prog_14_method_51_code 82 = .ok (.getfield 7, 3) := by decide +kernel
theorem d_M_getNode_85 : decode prog_14_method_51_code 85 = .ok (.iload_n 1, 1) := by decide +kernel
theorem d_M_getNode_86 : decode prog_14_method_51_code 86 = .ok (.iaload, 1) := by decide +kernel
theorem d_M_getNode_87 : decode prog_14_method_51_code 87 = .ok (.if_icmp .ge 8, 3) := by decide +kernel
theorem d_M_getNode_90 : decode prog_14_method_51_code 90 = .ok (.iload 4, 2) := by decide +kernel
theorem d_M_getNode_92 : decode prog_14_method_51_code 92 = .ok (.goto 4, 3) := by decide +kernel
theorem d_M_getNode_95 : decode prog_14_method_51_code 95 = .ok (.iconst (-1), 1) := by decide +kernel
theorem d_M_getNode_96 : decode prog_14_method_51_code 96 = .ok (.ireturn, 1) := by decide +kernel
theorem d_M_readBit_0 : decode prog_14_method_50_code 0 = .ok (.aload_n 0, 1) := by decide +kernel
theorem d_M_readBit_1 : decode prog_14_method_50_code 1 = .ok (.getfield 223, 3) := by decide +kernel
theorem d_M_readBit_4 : decode prog_14_method_50_code 4 = .ok (.lload_n 1, 1) := by decide +kernel
theorem d_M_readBit_5 : decode prog_14_method_50_code 5 = .ok (.lcmp, 1) := by decide +kernel
theorem d_M_readBit_6 : decode prog_14_method_50_code 6 = .ok (.ifCond .ge 7, 3) := by decide +kernel
theorem d_M_readBit_9 : decode prog_14_method_50_code 9 = .ok (.iconst 0, 1) := by decide +kernel
theorem d_M_readBit_10 : decode prog_14_method_50_code 10 = .ok (.goto 4, 3) := by decide +kernel
theorem d_M_readBit_13 : decode prog_14_method_50_code 13 = .ok (.iconst 1, 1) := by decide +kernel
theorem d_M_readBit_14 : decode prog_14_method_50_code 14 = .ok (.istore 4, 2) := by decide +kernel
theorem d_M_readBit_16 : decode prog_14_method_50_code 16 = .ok (.iload 4, 2) := by decide +kernel
theorem d_M_readBit_18 : decode prog_14_method_50_code 18 = .ok (.ifCond .ne 11, 3) := by decide +kernel
theorem d_M_readBit_21 : decode prog_14_method_50_code 21 = .ok (.aload_n 0, 1) := by decide +kernel
theorem d_M_readBit_22 : decode prog_14_method_50_code 22 = .ok (.lload_n 1, 1) := by decide +kernel
theorem d_M_readBit_23 : decode prog_14_method_50_code 23 = .ok (.putfield 229, 3) := by decide +kernel
theorem d_M_readBit_26 : decode prog_14_method_50_code 26 = .ok (.goto 23, 3) := by decide +kernel
theorem d_M_readBit_29 : decode prog_14_method_50_code 29 = .ok (.aload_n 0, 1) := by decide +kernel
theorem d_M_readBit_30 : decode prog_14_method_50_code 30 = .ok (.aload_n 0, 1) := by decide +kernel
theorem d_M_readBit_31 : decode prog_14_method_50_code 31 = .ok (.getfield 223, 3) := by decide +kernel
theorem d_M_readBit_34 : decode prog_14_method_50_code 34 = .ok (.lload_n 1, 1) := by decide +kernel
theorem d_M_readBit_35 : decode prog_14_method_50_code 35 = .ok (.lsub, 1) := by decide +kernel
theorem d_M_readBit_36 : decode prog_14_method_50_code 36 = .ok (.putfield 223, 3) := by decide +kernel
theorem d_M_readBit_39 : decode prog_14_method_50_code 39 = .ok (.aload_n 0, 1) := by decide +kernel
theorem d_M_readBit_40 : decode prog_14_method_50_code 40 = .ok (.aload_n 0, 1) := by decide +kernel
theorem d_M_readBit_41 : decode prog_14_method_50_code 41 = .ok (.getfield 229, 3) := by decide +kernel
theorem d_M_readBit_44 : decode prog_14_method_50_code 44 = .ok (.lload_n 1, 1) := by decide +kernel
theorem d_M_readBit_45 : decode prog_14_method_50_code 45 = .ok (.lsub, 1) := by decide +kernel
theorem d_M_readBit_46 : decode prog_14_method_50_code 46 = .ok (.putfield 229, 3) := by decide +kernel
theorem d_M_readBit_49 : decode prog_14_method_50_code 49 = .ok (.aload_n 0, 1) := by decide +kernel
theorem d_M_readBit_50 : decode prog_14_method_50_code 50 = .ok (.aload_n 0, 1) := by decide +kernel
theorem d_M_readBit_51 : decode prog_14_method_50_code 51 = .ok (.getfield 19, 3) := by decide +kernel
theorem d_M_readBit_54 : decode prog_14_method_50_code 54 = .ok (.iload_n 3, 1) := by decide +kernel
theorem d_M_readBit_55 : decode prog_14_method_50_code 55 = .ok (.iload 4, 2) := by decide +kernel
theorem d_M_readBit_57 : decode prog_14_method_50_code 57 = .ok (.invokevirtual 166, 3) := by decide +kernel
theorem d_M_readBit_60 : decode prog_14_method_50_code 60 = .ok (.aload_n 0, 1) := by decide +kernel
theorem d_M_readBit_61 : decode prog_14_method_50_code 61 = .ok (.invokevirtual 244, 3) := by decide +kernel
theorem d_M_readBit_64 : decode prog_14_method_50_code 64 = .ok (.iload 4, 2) := by decide +kernel
theorem d_M_readBit_66 : decode prog_14_method_50_code 66 = .ok (.ireturn, 1) := by decide +kernel
theorem d_M_getStacked_0 : decode prog_14_method_53_code 0 = .ok (.aload_n 0, 1) := by decide +kernel
theorem d_M_getStacked_1 : decode prog_14_method_53_code 1 = .ok (.aload_n 0, 1) := by decide +kernel
theorem d_M_getStacked_2 : decode prog_14_method_53_code 2 = .ok (.getfield 19, 3) := by decide +kernel
theorem d_M_getStacked_5 : decode prog_14_method_53_code 5 = .ok (.iload_n 1, 1) := by decide +kernel
theorem d_M_getStacked_6 : decode prog_14_method_53_code 6 = .ok (.invokevirtual 77, 3) := by decide +kernel
theorem d_M_getStacked_9 : decode prog_14_method_53_code 9 = .ok (.ifCond .ne 5, 3) := by decide +kernel
theorem d_M_getStacked_12 : decode prog_14_method_53_code 12 = .ok (.iconst (-1), 1) := by decide +kernel
theorem d_M_getStacked_13 : decode prog_14_method_53_code 13 = .ok (.ireturn, 1) := by decide +kernel
theorem d_M_getStacked_14 : decode prog_14_method_53_code 14 = .ok (.aload_n 0, 1) := by decide +kernel
theorem d_M_getStacked_15 : decode prog_14_method_53_code 15 = .ok (.getfield 232, 3) := by decide +kernel
theorem d_M_getStacked_18 : decode prog_14_method_53_code 18 = .ok (.ldc2_w 265, 3) := by decide +kernel
theorem d_M_getStacked_21 : decode prog_14_method_53_code 21 = .ok (.land, 1) := by decide +kernel
theorem d_M_getStacked_22 : decode prog_14_method_53_code 22 = .ok (.l2i, 1) := by decide +kernel
theorem d_M_getStacked_23 : decode prog_14_method_53_code 23 = .ok (.istore_n 2, 1) := by decide +kernel
theorem d_M_getStacked_24 : decode prog_14_method_53_code 24 = .ok (.aload_n 0, 1) := by decide +kernel
theorem d_M_getStacked_25 : decode prog_14_method_53_code 25 = .ok (.iload_n 1, 1) := by decide +kernel
theorem d_M_getStacked_26 : decode prog_14_method_53_code 26 = .ok (.iload_n 2, 1) := by decide +kernel
theorem d_M_getStacked_27 : decode prog_14_method_53_code 27 = .ok (.i2l, 1) := by decide +kernel
theorem d_M_getStacked_28 : decode prog_14_method_53_code 28 = .ok (.invokevirtual 258, 3) := by decide +kernel
theorem d_M_getStacked_31 : decode prog_14_method_53_code 31 = .ok (.istore_n 3, 1) := by decide +kernel
theorem d_M_getStacked_32 : decode prog_14_method_53_code 32 = .ok (.aload_n 0, 1) := by decide +kernel
theorem d_M_getStacked_33 : decode prog_14_method_53_code 33 = .ok (.aload_n 0, 1) := by decide +kernel
theorem d_M_getStacked_34 : decode prog_14_method_53_code 34 = .ok (.getfield 232, 3) := by decide +kernel
theorem d_M_getStacked_37 : decode prog_14_method_53_code 37 = .ok (.bipush 12, 2) := by decide +kernel
theorem d_M_getStacked_39 : decode prog_14_method_53_code 39 = .ok (.lshr, 1) := by decide +kernel
theorem d_M_getStacked_40 : decode prog_14_method_53_code 40 = .ok (.aload_n 0, 1) := by decide +kernel
theorem d_M_getStacked_41 : decode prog_14_method_53_code 41 = .ok (.getfield 19, 3) := by decide +kernel
theorem d_M_getStacked_44 : decode prog_14_method_53_code 44 = .ok (.bipush 64, 2) := by decide +kernel
theorem d_M_getStacked_46 : decode prog_14_method_53_code 46 = .ok (.iload_n 1, 1) := by decide +kernel
theorem d_M_getStacked_47 : decode prog_14_method_53_code 47 = .ok (.imul, 1) := by decide +kernel
theorem d_M_getStacked_48 : decode prog_14_method_53_code 48 = .ok (.iload_n 3, 1) := by decide +kernel
theorem d_M_getStacked_49 : decode prog_14_method_53_code 49 = .ok (.iadd, 1) := by decide +kernel
theorem d_M_getStacked_50 : decode prog_14_method_53_code 50 = .ok (.iaload, 1) := by decide +kernel
theorem d_M_getStacked_51 : decode prog_14_method_53_code 51 = .ok (.i2l, 1) := by decide +kernel
theorem d_M_getStacked_52 : decode prog_14_method_53_code 52 = .ok (.lmul, 1) := by decide +kernel
theorem d_M_getStacked_53 : decode prog_14_method_53_code 53 = .ok (.iload_n 2, 1) := by decide +kernel
theorem d_M_getStacked_54 : decode prog_14_method_53_code 54 = .ok (.i2l, 1) := by decide +kernel
theorem d_M_getStacked_55 : decode prog_14_method_53_code 55 = .ok (.ladd, 1) := by decide +kernel
theorem d_M_getStacked_56 : decode prog_14_method_53_code 56 = .ok (.aload_n 0, 1) := by decide +kernel
theorem d_M_getStacked_57 : decode prog_14_method_53_code 57 = .ok (.aload_n 0, 1) := by decide +kernel
theorem d_M_getStacked_58 : decode prog_14_method_53_code 58 = .ok (.getfield 19, 3) := by decide +kernel
theorem d_M_getStacked_61 : decode prog_14_method_53_code 61 = .ok (.iload_n 1, 1) := by decide +kernel
theorem d_M_getStacked_62 : decode prog_14_method_53_code 62 = .ok (.iload_n 3, 1) := by decide +kernel
theorem d_M_getStacked_63 : decode prog_14_method_53_code 63 = .ok (.invokevirtual 147, 3) := by decide +kernel
theorem d_M_getStacked_66 : decode prog_14_method_53_code 66 = .ok (.i2l, 1) := by decide +kernel
theorem d_M_getStacked_67 : decode prog_14_method_53_code 67 = .ok (.lsub, 1) := by decide +kernel
theorem d_M_getStacked_68 : decode prog_14_method_53_code 68 = .ok (.putfield 232, 3) := by decide +kernel
theorem d_M_getStacked_71 : decode prog_14_method_53_code 71 = .ok (.aload_n 0, 1) := by decide +kernel
theorem d_M_getStacked_72 : decode prog_14_method_53_code 72 = .ok (.invokevirtual 267, 3) := by decide +kernel
theorem d_M_getStacked_75 : decode prog_14_method_53_code 75 = .ok (.iload_n 3, 1) := by decide +kernel
theorem d_M_getStacked_76 : decode prog_14_method_53_code 76 = .ok (.ireturn, 1) := by decide +kernel
theorem d_M_refill_0 : decode prog_14_method_54_code 0 = .ok (.aload_n 0, 1) := by decide +kernel
theorem d_M_refill_1 : decode prog_14_method_54_code 1 = .ok (.getfield 232, 3) := by decide +kernel
theorem d_M_refill_4 : decode prog_14_method_54_code 4 = .ok (.ldc2_w 191, 3) := by decide +kernel
theorem d_M_refill_7 : decode prog_14_method_54_code 7 = .ok (.lcmp, 1) := by decide +kernel
theorem d_M_refill_8 : decode prog_14_method_54_code 8 = .ok (.ifCond .ge 23, 3) := by decide +kernel
theorem d_M_refill_11 : decode prog_14_method_54_code 11 = .ok (.aload_n 0, 1) := by decide +kernel
theorem d_M_refill_12 : decode prog_14_method_54_code 12 = .ok (.aload_n 0, 1) := by decide +kernel
theorem d_M_refill_13 : decode prog_14_method_54_code 13 = .ok (.getfield 232, 3) := by decide +kernel
theorem d_M_refill_16 : decode prog_14_method_54_code 16 = .ok (.bipush 8, 2) := by decide +kernel
theorem d_M_refill_18 : decode prog_14_method_54_code 18 = .ok (.lshl, 1) := by decide +kernel
theorem d_M_refill_19 : decode prog_14_method_54_code 19 = .ok (.aload_n 0, 1) := by decide +kernel
theorem d_M_refill_20 : decode prog_14_method_54_code 20 = .ok (.invokevirtual 213, 3) := by decide +kernel
theorem d_M_refill_23 : decode prog_14_method_54_code 23 = .ok (.i2l, 1) := by decide +kernel
theorem d_M_refill_24 : decode prog_14_method_54_code 24 = .ok (.lor, 1) := by decide +kernel
theorem d_M_refill_25 : decode prog_14_method_54_code 25 = .ok (.putfield 232, 3) := by decide +kernel
theorem d_M_refill_28 : decode prog_14_method_54_code 28 = .ok (.goto (-28), 3) := by decide +kernel
theorem d_M_refill_31 : decode prog_14_method_54_code 31 = .ok (.return_, 1) := by decide +kernel
theorem d_M_getTabled_0 : decode prog_14_method_55_code 0 = .ok (.aload_n 0, 1) := by decide +kernel
theorem d_M_getTabled_1 : decode prog_14_method_55_code 1 = .ok (.aload_n 0, 1) := by decide +kernel
theorem d_M_getTabled_2 : decode prog_14_method_55_code 2 = .ok (.getfield 19, 3) := by decide +kernel
theorem d_M_getTabled_5 : decode prog_14_method_55_code 5 = .ok (.iload_n 1, 1) := by decide +kernel
theorem d_M_getTabled_6 : decode prog_14_method_55_code 6 = .ok (.invokevirtual 77, 3) := by decide +kernel
theorem d_M_getTabled_9 : decode prog_14_method_55_code 9 = .ok (.ifCond .ne 5, 3) := by decide +kernel
theorem d_M_getTabled_12 : decode prog_14_method_55_code 12 = .ok (.iconst (-1), 1) := by decide +kernel
theorem d_M_getTabled_13 : decode prog_14_method_55_code 13 = .ok (.ireturn, 1) := by decide +kernel
theorem d_M_getTabled_14 : decode prog_14_method_55_code 14 = .ok (.aload_n 0, 1) := by decide +kernel
theorem d_M_getTabled_15 : decode prog_14_method_55_code 15 = .ok (.aload_n 0, 1) := by decide +kernel
theorem d_M_getTabled_16 : decode prog_14_method_55_code 16 = .ok (.getfield 19, 3) := by decide +kernel
theorem d_M_getTabled_19 : decode prog_14_method_55_code 19 = .ok (.iload_n 1, 1) := by decide +kernel
theorem d_M_getTabled_20 : decode prog_14_method_55_code 20 = .ok (.invokevirtual 199, 3) := by decide +kernel
theorem d_M_getTabled_23 : decode prog_14_method_55_code 23 = .ok (.aload_n 0, 1) := by decide +kernel
theorem d_M_getTabled_24 : decode prog_14_method_55_code 24 = .ok (.getfield 232, 3) := by decide +kernel
theorem d_M_getTabled_27 : decode prog_14_method_55_code 27 = .ok (.l2i, 1) := by decide +kernel
theorem d_M_getTabled_28 : decode prog_14_method_55_code 28 = .ok (.sipush 512, 3) := by decide +kernel
theorem d_M_getTabled_31 : decode prog_14_method_55_code 31 = .ok (.isub, 1) := by decide +kernel
theorem d_M_getTabled_32 : decode prog_14_method_55_code 32 = .ok (.istore_n 2, 1) := by decide +kernel
theorem d_M_getTabled_33 : decode prog_14_method_55_code 33 = .ok (.aload_n 0, 1) := by decide +kernel
theorem d_M_getTabled_34 : decode prog_14_method_55_code 34 = .ok (.getfield 37, 3) := by decide +kernel
theorem d_M_getTabled_37 : decode prog_14_method_55_code 37 = .ok (.iload_n 2, 1) := by decide +kernel
theorem d_M_getTabled_38 : decode prog_14_method_55_code 38 = .ok (.iaload, 1) := by decide +kernel
theorem d_M_getTabled_39 : decode prog_14_method_55_code 39 = .ok (.istore_n 3, 1) := by decide +kernel
theorem d_M_getTabled_40 : decode prog_14_method_55_code 40 = .ok (.aload_n 0, 1) := by decide +kernel
theorem d_M_getTabled_41 : decode prog_14_method_55_code 41 = .ok (.aload_n 0, 1) := by decide +kernel
theorem d_M_getTabled_42 : decode prog_14_method_55_code 42 = .ok (.getfield 19, 3) := by decide +kernel
theorem d_M_getTabled_45 : decode prog_14_method_55_code 45 = .ok (.bipush 64, 2) := by decide +kernel
theorem d_M_getTabled_47 : decode prog_14_method_55_code 47 = .ok (.iload_n 1, 1) := by decide +kernel
theorem d_M_getTabled_48 : decode prog_14_method_55_code 48 = .ok (.imul, 1) := by decide +kernel
theorem d_M_getTabled_49 : decode prog_14_method_55_code 49 = .ok (.iload_n 3, 1) := by decide +kernel
theorem d_M_getTabled_50 : decode prog_14_method_55_code 50 = .ok (.iadd, 1) := by decide +kernel
theorem d_M_getTabled_51 : decode prog_14_method_55_code 51 = .ok (.iaload, 1) := by decide +kernel
theorem d_M_getTabled_52 : decode prog_14_method_55_code 52 = .ok (.aload_n 0, 1) := by decide +kernel
theorem d_M_getTabled_53 : decode prog_14_method_55_code 53 = .ok (.getfield 40, 3) := by decide +kernel
theorem d_M_getTabled_56 : decode prog_14_method_55_code 56 = .ok (.iload_n 2, 1) := by decide +kernel
theorem d_M_getTabled_57 : decode prog_14_method_55_code 57 = .ok (.iaload, 1) := by decide +kernel
theorem d_M_getTabled_58 : decode prog_14_method_55_code 58 = .ok (.iadd, 1) := by decide +kernel
theorem d_M_getTabled_59 : decode prog_14_method_55_code 59 = .ok (.i2l, 1) := by decide +kernel
theorem d_M_getTabled_60 : decode prog_14_method_55_code 60 = .ok (.putfield 232, 3) := by decide +kernel
theorem d_M_getTabled_63 : decode prog_14_method_55_code 63 = .ok (.aload_n 0, 1) := by decide +kernel
theorem d_M_getTabled_64 : decode prog_14_method_55_code 64 = .ok (.getfield 232, 3) := by decide +kernel
theorem d_M_getTabled_67 : decode prog_14_method_55_code 67 = .ok (.ldc2_w 193, 3) := by decide +kernel
theorem d_M_getTabled_70 : decode prog_14_method_55_code 70 = .ok (.lcmp, 1) := by decide +kernel
theorem d_M_getTabled_71 : decode prog_14_method_55_code 71 = .ok (.ifCond .ge 24, 3) := by decide +kernel
theorem d_M_getTabled_74 : decode prog_14_method_55_code 74 = .ok (.aload_n 0, 1) := by decide +kernel
theorem d_M_getTabled_75 : decode prog_14_method_55_code 75 = .ok (.ldc2_w 202, 3) := by decide +kernel
theorem d_M_getTabled_78 : decode prog_14_method_55_code 78 = .ok (.aload_n 0, 1) := by decide +kernel
theorem d_M_getTabled_79 : decode prog_14_method_55_code 79 = .ok (.getfield 232, 3) := by decide +kernel
theorem d_M_getTabled_82 : decode prog_14_method_55_code 82 = .ok (.lmul, 1) := by decide +kernel
theorem d_M_getTabled_83 : decode prog_14_method_55_code 83 = .ok (.aload_n 0, 1) := by decide +kernel
theorem d_M_getTabled_84 : decode prog_14_method_55_code 84 = .ok (.invokevirtual 239, 3) := by decide +kernel
theorem d_M_getTabled_87 : decode prog_14_method_55_code 87 = .ok (.i2l, 1) := by decide +kernel
theorem d_M_getTabled_88 : decode prog_14_method_55_code 88 = .ok (.ladd, 1) := by decide +kernel
theorem d_M_getTabled_89 : decode prog_14_method_55_code 89 = .ok (.putfield 232, 3) := by decide +kernel
theorem d_M_getTabled_92 : decode prog_14_method_55_code 92 = .ok (.goto (-29), 3) := by decide +kernel
theorem d_M_getTabled_95 : decode prog_14_method_55_code 95 = .ok (.iload_n 3, 1) := by decide +kernel
theorem d_M_getTabled_96 : decode prog_14_method_55_code 96 = .ok (.ireturn, 1) := by decide +kernel
theorem d_M_spoiled_0 : decode prog_14_method_44_code 0 = .ok (.aload_n 0, 1) := by decide +kernel
theorem d_M_spoiled_1 : decode prog_14_method_44_code 1 = .ok (.iconst 1, 1) := by decide +kernel
theorem d_M_spoiled_2 : decode prog_14_method_44_code 2 = .ok (.putfield 217, 3) := by decide +kernel
theorem d_M_spoiled_5 : decode prog_14_method_44_code 5 = .ok (.bipush (-5), 2) := by decide +kernel
theorem d_M_spoiled_7 : decode prog_14_method_44_code 7 = .ok (.ireturn, 1) := by decide +kernel
theorem d_M_getBits_0 : decode prog_14_method_57_code 0 = .ok (.aload_n 0, 1) := by decide +kernel
theorem d_M_getBits_1 : decode prog_14_method_57_code 1 = .ok (.iconst 0, 1) := by decide +kernel
theorem d_M_getBits_2 : decode prog_14_method_57_code 2 = .ok (.putfield 56, 3) := by decide +kernel
theorem d_M_getBits_5 : decode prog_14_method_57_code 5 = .ok (.iload_n 1, 1) := by decide +kernel
theorem d_M_getBits_6 : decode prog_14_method_57_code 6 = .ok (.iconst 1, 1) := by decide +kernel
theorem d_M_getBits_7 : decode prog_14_method_57_code 7 = .ok (.aload_n 0, 1) := by decide +kernel
theorem d_M_getBits_8 : decode prog_14_method_57_code 8 = .ok (.getfield 46, 3) := by decide +kernel
theorem d_M_getBits_11 : decode prog_14_method_57_code 11 = .ok (.iconst 4, 1) := by decide +kernel
theorem d_M_getBits_12 : decode prog_14_method_57_code 12 = .ok (.if_icmp .ne 8, 3) := by decide +kernel
theorem d_M_getBits_15 : decode prog_14_method_57_code 15 = .ok (.bipush 9, 2) := by decide +kernel
theorem d_M_getBits_17 : decode prog_14_method_57_code 17 = .ok (.goto 5, 3) := by decide +kernel
theorem d_M_getBits_20 : decode prog_14_method_57_code 20 = .ok (.bipush 12, 2) := by decide +kernel
theorem d_M_getBits_22 : decode prog_14_method_57_code 22 = .ok (.invokestatic 62, 3) := by decide +kernel
theorem d_M_getBits_25 : decode prog_14_method_57_code 25 = .ok (.ifCond .ne 6, 3) := by decide +kernel
theorem d_M_getBits_28 : decode prog_14_method_57_code 28 = .ok (.bipush (-2), 2) := by decide +kernel
theorem d_M_getBits_30 : decode prog_14_method_57_code 30 = .ok (.ireturn, 1) := by decide +kernel
theorem d_M_getBits_31 : decode prog_14_method_57_code 31 = .ok (.aload_n 0, 1) := by decide +kernel
theorem d_M_getBits_32 : decode prog_14_method_57_code 32 = .ok (.getfield 101, 3) := by decide +kernel
theorem d_M_getBits_35 : decode prog_14_method_57_code 35 = .ok (.ifCond .ne 6, 3) := by decide +kernel
theorem d_M_getBits_38 : decode prog_14_method_57_code 38 = .ok (.bipush (-3), 2) := by decide +kernel
theorem d_M_getBits_40 : decode prog_14_method_57_code 40 = .ok (.ireturn, 1) := by decide +kernel
theorem d_M_getBits_41 : decode prog_14_method_57_code 41 = .ok (.aload_n 0, 1) := by decide +kernel
theorem d_M_getBits_42 : decode prog_14_method_57_code 42 = .ok (.getfield 217, 3) := by decide +kernel
theorem d_M_getBits_45 : decode prog_14_method_57_code 45 = .ok (.ifCond .eq 6, 3) := by decide +kernel
theorem d_M_getBits_48 : decode prog_14_method_57_code 48 = .ok (.bipush (-5), 2) := by decide +kernel
theorem d_M_getBits_50 : decode prog_14_method_57_code 50 = .ok (.ireturn, 1) := by decide +kernel
theorem d_M_getBits_51 : decode prog_14_method_57_code 51 = .ok (.aload_n 0, 1) := by decide +kernel
theorem d_M_getBits_52 : decode prog_14_method_57_code 52 = .ok (.iload_n 1, 1) := by decide +kernel
theorem d_M_getBits_53 : decode prog_14_method_57_code 53 = .ok (.invokevirtual 285, 3) := by decide +kernel
theorem d_M_getBits_56 : decode prog_14_method_57_code 56 = .ok (.istore_n 2, 1) := by decide +kernel
theorem d_M_getBits_57 : decode prog_14_method_57_code 57 = .ok (.iload_n 2, 1) := by decide +kernel
theorem d_M_getBits_58 : decode prog_14_method_57_code 58 = .ok (.ifCond .ge 8, 3) := by decide +kernel
theorem d_M_getBits_61 : decode prog_14_method_57_code 61 = .ok (.aload_n 0, 1) := by decide +kernel
theorem d_M_getBits_62 : decode prog_14_method_57_code 62 = .ok (.invokevirtual 282, 3) := by decide +kernel
theorem d_M_getBits_65 : decode prog_14_method_57_code 65 = .ok (.ireturn, 1) := by decide +kernel
theorem d_M_getBits_66 : decode prog_14_method_57_code 66 = .ok (.aload_n 0, 1) := by decide +kernel
theorem d_M_getBits_67 : decode prog_14_method_57_code 67 = .ok (.dup, 1) := by decide +kernel
theorem d_M_getBits_68 : decode prog_14_method_57_code 68 = .ok (.getfield 220, 3) := by decide +kernel
theorem d_M_getBits_71 : decode prog_14_method_57_code 71 = .ok (.iconst 1, 1) := by decide +kernel
theorem d_M_getBits_72 : decode prog_14_method_57_code 72 = .ok (.iadd, 1) := by decide +kernel
theorem d_M_getBits_73 : decode prog_14_method_57_code 73 = .ok (.putfield 220, 3) := by decide +kernel
theorem d_M_getBits_76 : decode prog_14_method_57_code 76 = .ok (.iload_n 2, 1) := by decide +kernel
theorem d_M_getBits_77 : decode prog_14_method_57_code 77 = .ok (.ireturn, 1) := by decide +kernel
theorem d_M_valueOf_0 : decode prog_14_method_58_code 0 = .ok (.aload_n 0, 1) := by decide +kernel
theorem d_M_valueOf_1 : decode prog_14_method_58_code 1 = .ok (.getfield 46, 3) := by decide +kernel
theorem d_M_valueOf_4 : decode prog_14_method_58_code 4 = .ok (.iconst 2, 1) := by decide +kernel
theorem d_M_valueOf_5 : decode prog_14_method_58_code 5 = .ok (.if_icmp .ge 30, 3) := by decide +kernel
theorem d_M_valueOf_8 : decode prog_14_method_58_code 8 = .ok (.aload_n 0, 1) := by decide +kernel
theorem d_M_valueOf_9 : decode prog_14_method_58_code 9 = .ok (.iconst 1, 1) := by decide +kernel
theorem d_M_valueOf_10 : decode prog_14_method_58_code 10 = .ok (.iload_n 1, 1) := by decide +kernel
theorem d_M_valueOf_11 : decode prog_14_method_58_code 11 = .ok (.ishl, 1) := by decide +kernel
theorem d_M_valueOf_12 : decode prog_14_method_58_code 12 = .ok (.invokevirtual 254, 3) := by decide +kernel
theorem d_M_valueOf_15 : decode prog_14_method_58_code 15 = .ok (.lstore_n 2, 1) := by decide +kernel
theorem d_M_valueOf_16 : decode prog_14_method_58_code 16 = .ok (.lload_n 2, 1) := by decide +kernel
theorem d_M_valueOf_17 : decode prog_14_method_58_code 17 = .ok (.lconst 0, 1) := by decide +kernel
theorem d_M_valueOf_18 : decode prog_14_method_58_code 18 = .ok (.lcmp, 1) := by decide +kernel
theorem d_M_valueOf_19 : decode prog_14_method_58_code 19 = .ok (.ifCond .lt 13, 3) := by decide +kernel
theorem d_M_valueOf_22 : decode prog_14_method_58_code 22 = .ok (.aload_n 0, 1) := by decide +kernel
theorem d_M_valueOf_23 : decode prog_14_method_58_code 23 = .ok (.lload_n 2, 1) := by decide +kernel
theorem d_M_valueOf_24 : decode prog_14_method_58_code 24 = .ok (.l2i, 1) := by decide +kernel
theorem d_M_valueOf_25 : decode prog_14_method_58_code 25 = .ok (.iconst 1, 1) := by decide +kernel
theorem d_M_valueOf_26 : decode prog_14_method_58_code 26 = .ok (.iconst 1, 1) := by decide +kernel
theorem d_M_valueOf_27 : decode prog_14_method_58_code 27 = .ok (.iload_n 1, 1) := by decide +kernel
theorem d_M_valueOf_28 : decode prog_14_method_58_code 28 = .ok (.ishl, 1) := by decide +kernel
theorem d_M_valueOf_29 : decode prog_14_method_58_code 29 = .ok (.invokevirtual 262, 3) := by decide +kernel
theorem d_M_valueOf_32 : decode prog_14_method_58_code 32 = .ok (.lload_n 2, 1) := by decide +kernel
theorem d_M_valueOf_33 : decode prog_14_method_58_code 33 = .ok (.l2i, 1) := by decide +kernel
theorem d_M_valueOf_34 : decode prog_14_method_58_code 34 = .ok (.ireturn, 1) := by decide +kernel
theorem d_M_valueOf_35 : decode prog_14_method_58_code 35 = .ok (.aload_n 0, 1) := by decide +kernel
theorem d_M_valueOf_36 : decode prog_14_method_58_code 36 = .ok (.getfield 46, 3) := by decide +kernel
theorem d_M_valueOf_39 : decode prog_14_method_58_code 39 = .ok (.iconst 2, 1) := by decide +kernel
theorem d_M_valueOf_40 : decode prog_14_method_58_code 40 = .ok (.if_icmp .ne 9, 3) := by decide +kernel
theorem d_M_valueOf_43 : decode prog_14_method_58_code 43 = .ok (.aload_n 0, 1) := by decide +kernel
theorem d_M_valueOf_44 : decode prog_14_method_58_code 44 = .ok (.iload_n 1, 1) := by decide +kernel
theorem d_M_valueOf_45 : decode prog_14_method_58_code 45 = .ok (.invokevirtual 288, 3) := by decide +kernel
theorem d_M_valueOf_48 : decode prog_14_method_58_code 48 = .ok (.ireturn, 1) := by decide +kernel
theorem d_M_valueOf_49 : decode prog_14_method_58_code 49 = .ok (.aload_n 0, 1) := by decide +kernel
theorem d_M_valueOf_50 : decode prog_14_method_58_code 50 = .ok (.getfield 46, 3) := by decide +kernel
theorem d_M_valueOf_53 : decode prog_14_method_58_code 53 = .ok (.iconst 3, 1) := by decide +kernel
theorem d_M_valueOf_54 : decode prog_14_method_58_code 54 = .ok (.if_icmp .ne 54, 3) := by decide +kernel
theorem d_M_valueOf_57 : decode prog_14_method_58_code 57 = .ok (.sipush 4096, 3) := by decide +kernel
theorem d_M_valueOf_60 : decode prog_14_method_58_code 60 = .ok (.iload_n 1, 1) := by decide +kernel
theorem d_M_valueOf_61 : decode prog_14_method_58_code 61 = .ok (.ishr, 1) := by decide +kernel
theorem d_M_valueOf_62 : decode prog_14_method_58_code 62 = .ok (.istore_n 2, 1) := by decide +kernel
theorem d_M_valueOf_63 : decode prog_14_method_58_code 63 = .ok (.aload_n 0, 1) := by decide +kernel
theorem d_M_valueOf_64 : decode prog_14_method_58_code 64 = .ok (.getfield 232, 3) := by decide +kernel
theorem d_M_valueOf_67 : decode prog_14_method_58_code 67 = .ok (.ldc2_w 265, 3) := by decide +kernel
theorem d_M_valueOf_70 : decode prog_14_method_58_code 70 = .ok (.land, 1) := by decide +kernel
theorem d_M_valueOf_71 : decode prog_14_method_58_code 71 = .ok (.l2i, 1) := by decide +kernel
theorem d_M_valueOf_72 : decode prog_14_method_58_code 72 = .ok (.istore_n 3, 1) := by decide +kernel
theorem d_M_valueOf_73 : decode prog_14_method_58_code 73 = .ok (.iload_n 3, 1) := by decide +kernel
theorem d_M_valueOf_74 : decode prog_14_method_58_code 74 = .ok (.iload_n 2, 1) := by decide +kernel
theorem d_M_valueOf_75 : decode prog_14_method_58_code 75 = .ok (.idiv, 1) := by decide +kernel
theorem d_M_valueOf_76 : decode prog_14_method_58_code 76 = .ok (.istore 4, 2) := by decide +kernel
theorem d_M_valueOf_78 : decode prog_14_method_58_code 78 = .ok (.aload_n 0, 1) := by decide +kernel
theorem d_M_valueOf_79 : decode prog_14_method_58_code 79 = .ok (.aload_n 0, 1) := by decide +kernel
theorem d_M_valueOf_80 : decode prog_14_method_58_code 80 = .ok (.getfield 232, 3) := by decide +kernel
theorem d_M_valueOf_83 : decode prog_14_method_58_code 83 = .ok (.bipush 12, 2) := by decide +kernel
theorem d_M_valueOf_85 : decode prog_14_method_58_code 85 = .ok (.lshr, 1) := by decide +kernel
theorem d_M_valueOf_86 : decode prog_14_method_58_code 86 = .ok (.iload_n 2, 1) := by decide +kernel
theorem d_M_valueOf_87 : decode prog_14_method_58_code 87 = .ok (.i2l, 1) := by decide +kernel
theorem d_M_valueOf_88 : decode prog_14_method_58_code 88 = .ok (.lmul, 1) := by decide +kernel
theorem d_M_valueOf_89 : decode prog_14_method_58_code 89 = .ok (.iload_n 3, 1) := by decide +kernel
theorem d_M_valueOf_90 : decode prog_14_method_58_code 90 = .ok (.i2l, 1) := by decide +kernel
theorem d_M_valueOf_91 : decode prog_14_method_58_code 91 = .ok (.ladd, 1) := by decide +kernel
theorem d_M_valueOf_92 : decode prog_14_method_58_code 92 = .ok (.iload_n 2, 1) := by decide +kernel
theorem d_M_valueOf_93 : decode prog_14_method_58_code 93 = .ok (.iload 4, 2) := by decide +kernel
theorem d_M_valueOf_95 : decode prog_14_method_58_code 95 = .ok (.imul, 1) := by decide +kernel
theorem d_M_valueOf_96 : decode prog_14_method_58_code 96 = .ok (.i2l, 1) := by decide +kernel
theorem d_M_valueOf_97 : decode prog_14_method_58_code 97 = .ok (.lsub, 1) := by decide +kernel
theorem d_M_valueOf_98 : decode prog_14_method_58_code 98 = .ok (.putfield 232, 3) := by decide +kernel
theorem d_M_valueOf_101 : decode prog_14_method_58_code 101 = .ok (.aload_n 0, 1) := by decide +kernel
theorem d_M_valueOf_102 : decode prog_14_method_58_code 102 = .ok (.invokevirtual 267, 3) := by decide +kernel
theorem d_M_valueOf_105 : decode prog_14_method_58_code 105 = .ok (.iload 4, 2) := by decide +kernel
theorem d_M_valueOf_107 : decode prog_14_method_58_code 107 = .ok (.ireturn, 1) := by decide +kernel
theorem d_M_valueOf_108 : decode prog_14_method_58_code 108 = .ok (.iconst 0, 1) := by decide +kernel
theorem d_M_valueOf_109 : decode prog_14_method_58_code 109 = .ok (.istore_n 2, 1) := by decide +kernel
theorem d_M_valueOf_110 : decode prog_14_method_58_code 110 = .ok (.iconst 0, 1) := by decide +kernel
theorem d_M_valueOf_111 : decode prog_14_method_58_code 111 = .ok (.istore_n 3, 1) := by decide +kernel
theorem d_M_valueOf_112 : decode prog_14_method_58_code 112 = .ok (.iload_n 3, 1) := by decide +kernel
theorem d_M_valueOf_113 : decode prog_14_method_58_code 113 = .ok (.iload_n 1, 1) := by decide +kernel
theorem d_M_valueOf_114 : decode prog_14_method_58_code 114 = .ok (.if_icmp .ge 18, 3) := by decide +kernel
theorem d_M_valueOf_117 : decode prog_14_method_58_code 117 = .ok (.iconst 2, 1) := by decide +kernel
theorem d_M_valueOf_118 : decode prog_14_method_58_code 118 = .ok (.iload_n 2, 1) := by decide +kernel
theorem d_M_valueOf_119 : decode prog_14_method_58_code 119 = .ok (.imul, 1) := by decide +kernel
theorem d_M_valueOf_120 : decode prog_14_method_58_code 120 = .ok (.aload_n 0, 1) := by decide +kernel
theorem d_M_valueOf_121 : decode prog_14_method_58_code 121 = .ok (.invokevirtual 239, 3) := by decide +kernel
theorem d_M_valueOf_124 : decode prog_14_method_58_code 124 = .ok (.iadd, 1) := by decide +kernel
theorem d_M_valueOf_125 : decode prog_14_method_58_code 125 = .ok (.istore_n 2, 1) := by decide +kernel
theorem d_M_valueOf_126 : decode prog_14_method_58_code 126 = .ok (.iinc 3 1, 3) := by decide +kernel
theorem d_M_valueOf_129 : decode prog_14_method_58_code 129 = .ok (.goto (-17), 3) := by decide +kernel
theorem d_M_valueOf_132 : decode prog_14_method_58_code 132 = .ok (.iload_n 2, 1) := by decide +kernel
theorem d_M_valueOf_133 : decode prog_14_method_58_code 133 = .ok (.ireturn, 1) := by decide +kernel
theorem d_M_plainBits_0 : decode prog_14_method_59_code 0 = .ok (.aload_n 0, 1) := by decide +kernel
theorem d_M_plainBits_1 : decode prog_14_method_59_code 1 = .ok (.getfield 223, 3) := by decide +kernel
theorem d_M_plainBits_4 : decode prog_14_method_59_code 4 = .ok (.aload_n 0, 1) := by decide +kernel
theorem d_M_plainBits_5 : decode prog_14_method_59_code 5 = .ok (.getfield 229, 3) := by decide +kernel
theorem d_M_plainBits_8 : decode prog_14_method_59_code 8 = .ok (.lcmp, 1) := by decide +kernel
theorem d_M_plainBits_9 : decode prog_14_method_59_code 9 = .ok (.ifCond .lt 5, 3) := by decide +kernel
theorem d_M_plainBits_12 : decode prog_14_method_59_code 12 = .ok (.iconst (-1), 1) := by decide +kernel
theorem d_M_plainBits_13 : decode prog_14_method_59_code 13 = .ok (.ireturn, 1) := by decide +kernel
theorem d_M_plainBits_14 : decode prog_14_method_59_code 14 = .ok (.iconst 0, 1) := by decide +kernel
theorem d_M_plainBits_15 : decode prog_14_method_59_code 15 = .ok (.istore_n 2, 1) := by decide +kernel
theorem d_M_plainBits_16 : decode prog_14_method_59_code 16 = .ok (.iconst 0, 1) := by decide +kernel
theorem d_M_plainBits_17 : decode prog_14_method_59_code 17 = .ok (.istore_n 3, 1) := by decide +kernel
theorem d_M_plainBits_18 : decode prog_14_method_59_code 18 = .ok (.iload_n 3, 1) := by decide +kernel
theorem d_M_plainBits_19 : decode prog_14_method_59_code 19 = .ok (.iload_n 1, 1) := by decide +kernel
theorem d_M_plainBits_20 : decode prog_14_method_59_code 20 = .ok (.if_icmp .ge 89, 3) := by decide +kernel
theorem d_M_plainBits_23 : decode prog_14_method_59_code 23 = .ok (.aload_n 0, 1) := by decide +kernel
theorem d_M_plainBits_24 : decode prog_14_method_59_code 24 = .ok (.aload_n 0, 1) := by decide +kernel
theorem d_M_plainBits_25 : decode prog_14_method_59_code 25 = .ok (.getfield 229, 3) := by decide +kernel
theorem d_M_plainBits_28 : decode prog_14_method_59_code 28 = .ok (.iconst 1, 1) := by decide +kernel
theorem d_M_plainBits_29 : decode prog_14_method_59_code 29 = .ok (.lshr, 1) := by decide +kernel
theorem d_M_plainBits_30 : decode prog_14_method_59_code 30 = .ok (.putfield 229, 3) := by decide +kernel
theorem d_M_plainBits_33 : decode prog_14_method_59_code 33 = .ok (.aload_n 0, 1) := by decide +kernel
theorem d_M_plainBits_34 : decode prog_14_method_59_code 34 = .ok (.getfield 223, 3) := by decide +kernel
theorem d_M_plainBits_37 : decode prog_14_method_59_code 37 = .ok (.aload_n 0, 1) := by decide +kernel
theorem d_M_plainBits_38 : decode prog_14_method_59_code 38 = .ok (.getfield 229, 3) := by decide +kernel
theorem d_M_plainBits_41 : decode prog_14_method_59_code 41 = .ok (.lcmp, 1) := by decide +kernel
theorem d_M_plainBits_42 : decode prog_14_method_59_code 42 = .ok (.ifCond .ge 7, 3) := by decide +kernel
theorem d_M_plainBits_45 : decode prog_14_method_59_code 45 = .ok (.iconst 0, 1) := by decide +kernel
theorem d_M_plainBits_46 : decode prog_14_method_59_code 46 = .ok (.goto 4, 3) := by decide +kernel
theorem d_M_plainBits_49 : decode prog_14_method_59_code 49 = .ok (.iconst 1, 1) := by decide +kernel
theorem d_M_plainBits_50 : decode prog_14_method_59_code 50 = .ok (.istore 4, 2) := by decide +kernel
theorem d_M_plainBits_52 : decode prog_14_method_59_code 52 = .ok (.aload_n 0, 1) := by decide +kernel
theorem d_M_plainBits_53 : decode prog_14_method_59_code 53 = .ok (.iload 4, 2) := by decide +kernel
theorem d_M_plainBits_55 : decode prog_14_method_59_code 55 = .ok (.iconst 1, 1) := by decide +kernel
theorem d_M_plainBits_56 : decode prog_14_method_59_code 56 = .ok (.if_icmp .ne 15, 3) := by decide +kernel
theorem d_M_plainBits_59 : decode prog_14_method_59_code 59 = .ok (.aload_n 0, 1) := by decide +kernel
theorem d_M_plainBits_60 : decode prog_14_method_59_code 60 = .ok (.getfield 223, 3) := by decide +kernel
theorem d_M_plainBits_63 : decode prog_14_method_59_code 63 = .ok (.aload_n 0, 1) := by decide +kernel
theorem d_M_plainBits_64 : decode prog_14_method_59_code 64 = .ok (.getfield 229, 3) := by decide +kernel
theorem d_M_plainBits_67 : decode prog_14_method_59_code 67 = .ok (.lsub, 1) := by decide +kernel
theorem d_M_plainBits_68 : decode prog_14_method_59_code 68 = .ok (.goto 7, 3) := by decide +kernel
theorem d_M_plainBits_71 : decode prog_14_method_59_code 71 = .ok (.aload_n 0, 1) := by decide +kernel
theorem d_M_plainBits_72 : decode prog_14_method_59_code 72 = .ok (.getfield 223, 3) := by decide +kernel
theorem d_M_plainBits_75 : decode prog_14_method_59_code 75 = .ok (.putfield 223, 3) := by decide +kernel
theorem d_M_plainBits_78 : decode prog_14_method_59_code 78 = .ok (.aload_n 0, 1) := by decide +kernel
theorem d_M_plainBits_79 : decode prog_14_method_59_code 79 = .ok (.getfield 223, 3) := by decide +kernel
theorem d_M_plainBits_82 : decode prog_14_method_59_code 82 = .ok (.aload_n 0, 1) := by decide +kernel
theorem d_M_plainBits_83 : decode prog_14_method_59_code 83 = .ok (.getfield 229, 3) := by decide +kernel
theorem d_M_plainBits_86 : decode prog_14_method_59_code 86 = .ok (.lcmp, 1) := by decide +kernel
theorem d_M_plainBits_87 : decode prog_14_method_59_code 87 = .ok (.ifCond .lt 5, 3) := by decide +kernel
theorem d_M_plainBits_90 : decode prog_14_method_59_code 90 = .ok (.iconst (-1), 1) := by decide +kernel
theorem d_M_plainBits_91 : decode prog_14_method_59_code 91 = .ok (.ireturn, 1) := by decide +kernel
theorem d_M_plainBits_92 : decode prog_14_method_59_code 92 = .ok (.iconst 2, 1) := by decide +kernel
theorem d_M_plainBits_93 : decode prog_14_method_59_code 93 = .ok (.iload_n 2, 1) := by decide +kernel
theorem d_M_plainBits_94 : decode prog_14_method_59_code 94 = .ok (.imul, 1) := by decide +kernel
theorem d_M_plainBits_95 : decode prog_14_method_59_code 95 = .ok (.iload 4, 2) := by decide +kernel
theorem d_M_plainBits_97 : decode prog_14_method_59_code 97 = .ok (.iadd, 1) := by decide +kernel
theorem d_M_plainBits_98 : decode prog_14_method_59_code 98 = .ok (.istore_n 2, 1) := by decide +kernel
theorem d_M_plainBits_99 : decode prog_14_method_59_code 99 = .ok (.aload_n 0, 1) := by decide +kernel
theorem d_M_plainBits_100 : decode prog_14_method_59_code 100 = .ok (.invokevirtual 244, 3) := by decide +kernel
theorem d_M_plainBits_103 : decode prog_14_method_59_code 103 = .ok (.iinc 3 1, 3) := by decide +kernel
theorem d_M_plainBits_106 : decode prog_14_method_59_code 106 = .ok (.goto (-88), 3) := by decide +kernel
theorem d_M_plainBits_109 : decode prog_14_method_59_code 109 = .ok (.iload_n 2, 1) := by decide +kernel
theorem d_M_plainBits_110 : decode prog_14_method_59_code 110 = .ok (.ireturn, 1) := by decide +kernel
theorem d_M_told_0 : decode prog_14_method_60_code 0 = .ok (.aload_n 0, 1) := by decide +kernel
theorem d_M_told_1 : decode prog_14_method_60_code 1 = .ok (.iconst 0, 1) := by decide +kernel
theorem d_M_told_2 : decode prog_14_method_60_code 2 = .ok (.putfield 56, 3) := by decide +kernel
theorem d_M_told_5 : decode prog_14_method_60_code 5 = .ok (.iload_n 1, 1) := by decide +kernel
theorem d_M_told_6 : decode prog_14_method_60_code 6 = .ok (.tableswitch 139 0 7 #[46, 51, 64, 69, 74, 90, 106, 126], 46) := by decide +kernel
theorem d_M_told_52 : decode prog_14_method_60_code 52 = .ok (.aload_n 0, 1) := by decide +kernel
theorem d_M_told_53 : decode prog_14_method_60_code 53 = .ok (.getfield 94, 3) := by decide +kernel
theorem d_M_told_56 : decode prog_14_method_60_code 56 = .ok (.ireturn, 1) := by decide +kernel
theorem d_M_told_57 : decode prog_14_method_60_code 57 = .ok (.aload_n 0, 1) := by decide +kernel
theorem d_M_told_58 : decode prog_14_method_60_code 58 = .ok (.getfield 97, 3) := by decide +kernel
theorem d_M_told_61 : decode prog_14_method_60_code 61 = .ok (.ifCond .eq 7, 3) := by decide +kernel
theorem d_M_told_64 : decode prog_14_method_60_code 64 = .ok (.iconst 1, 1) := by decide +kernel
theorem d_M_told_65 : decode prog_14_method_60_code 65 = .ok (.goto 4, 3) := by decide +kernel
theorem d_M_told_68 : decode prog_14_method_60_code 68 = .ok (.iconst 0, 1) := by decide +kernel
theorem d_M_told_69 : decode prog_14_method_60_code 69 = .ok (.ireturn, 1) := by decide +kernel
theorem d_M_told_70 : decode prog_14_method_60_code 70 = .ok (.aload_n 0, 1) := by decide +kernel
theorem d_M_told_71 : decode prog_14_method_60_code 71 = .ok (.getfield 185, 3) := by decide +kernel
theorem d_M_told_74 : decode prog_14_method_60_code 74 = .ok (.ireturn, 1) := by decide +kernel
theorem d_M_told_75 : decode prog_14_method_60_code 75 = .ok (.aload_n 0, 1) := by decide +kernel
theorem d_M_told_76 : decode prog_14_method_60_code 76 = .ok (.getfield 204, 3) := by decide +kernel
theorem d_M_told_79 : decode prog_14_method_60_code 79 = .ok (.ireturn, 1) := by decide +kernel
theorem d_M_told_80 : decode prog_14_method_60_code 80 = .ok (.aload_n 0, 1) := by decide +kernel
theorem d_M_told_81 : decode prog_14_method_60_code 81 = .ok (.getfield 101, 3) := by decide +kernel
theorem d_M_told_84 : decode prog_14_method_60_code 84 = .ok (.ifCond .eq 10, 3) := by decide +kernel
theorem d_M_told_87 : decode prog_14_method_60_code 87 = .ok (.aload_n 0, 1) := by decide +kernel
theorem d_M_told_88 : decode prog_14_method_60_code 88 = .ok (.getfield 220, 3) := by decide +kernel
theorem d_M_told_91 : decode prog_14_method_60_code 91 = .ok (.goto 4, 3) := by decide +kernel
theorem d_M_told_94 : decode prog_14_method_60_code 94 = .ok (.iconst 0, 1) := by decide +kernel
theorem d_M_told_95 : decode prog_14_method_60_code 95 = .ok (.ireturn, 1) := by decide +kernel
theorem d_M_told_96 : decode prog_14_method_60_code 96 = .ok (.aload_n 0, 1) := by decide +kernel
theorem d_M_told_97 : decode prog_14_method_60_code 97 = .ok (.getfield 101, 3) := by decide +kernel
theorem d_M_told_100 : decode prog_14_method_60_code 100 = .ok (.ifCond .eq 10, 3) := by decide +kernel
theorem d_M_told_103 : decode prog_14_method_60_code 103 = .ok (.aload_n 0, 1) := by decide +kernel
theorem d_M_told_104 : decode prog_14_method_60_code 104 = .ok (.getfield 207, 3) := by decide +kernel
theorem d_M_told_107 : decode prog_14_method_60_code 107 = .ok (.goto 4, 3) := by decide +kernel
theorem d_M_told_110 : decode prog_14_method_60_code 110 = .ok (.iconst 0, 1) := by decide +kernel
theorem d_M_told_111 : decode prog_14_method_60_code 111 = .ok (.ireturn, 1) := by decide +kernel
theorem d_M_told_112 : decode prog_14_method_60_code 112 = .ok (.aload_n 0, 1) := by decide +kernel
theorem d_M_told_113 : decode prog_14_method_60_code 113 = .ok (.getfield 101, 3) := by decide +kernel
theorem d_M_told_116 : decode prog_14_method_60_code 116 = .ok (.ifCond .eq 14, 3) := by decide +kernel
theorem d_M_told_119 : decode prog_14_method_60_code 119 = .ok (.aload_n 0, 1) := by decide +kernel
theorem d_M_told_120 : decode prog_14_method_60_code 120 = .ok (.getfield 217, 3) := by decide +kernel
theorem d_M_told_123 : decode prog_14_method_60_code 123 = .ok (.ifCond .eq 7, 3) := by decide +kernel
theorem d_M_told_126 : decode prog_14_method_60_code 126 = .ok (.iconst 1, 1) := by decide +kernel
theorem d_M_told_127 : decode prog_14_method_60_code 127 = .ok (.goto 4, 3) := by decide +kernel
theorem d_M_told_130 : decode prog_14_method_60_code 130 = .ok (.iconst 0, 1) := by decide +kernel
theorem d_M_told_131 : decode prog_14_method_60_code 131 = .ok (.ireturn, 1) := by decide +kernel
theorem d_M_told_132 : decode prog_14_method_60_code 132 = .ok (.aload_n 0, 1) := by decide +kernel
theorem d_M_told_133 : decode prog_14_method_60_code 133 = .ok (.getfield 101, 3) := by decide +kernel
theorem d_M_told_136 : decode prog_14_method_60_code 136 = .ok (.ifCond .eq 7, 3) := by decide +kernel
theorem d_M_told_139 : decode prog_14_method_60_code 139 = .ok (.iconst 1, 1) := by decide +kernel
theorem d_M_told_140 : decode prog_14_method_60_code 140 = .ok (.goto 4, 3) := by decide +kernel
theorem d_M_told_143 : decode prog_14_method_60_code 143 = .ok (.iconst 0, 1) := by decide +kernel
theorem d_M_told_144 : decode prog_14_method_60_code 144 = .ok (.ireturn, 1) := by decide +kernel
theorem d_M_told_145 : decode prog_14_method_60_code 145 = .ok (.bipush (-2), 2) := by decide +kernel
theorem d_M_told_147 : decode prog_14_method_60_code 147 = .ok (.ireturn, 1) := by decide +kernel
theorem d_M_state_0 : decode prog_14_method_61_code 0 = .ok (.aload_n 0, 1) := by decide +kernel
theorem d_M_state_1 : decode prog_14_method_61_code 1 = .ok (.iconst 0, 1) := by decide +kernel
theorem d_M_state_2 : decode prog_14_method_61_code 2 = .ok (.putfield 56, 3) := by decide +kernel
theorem d_M_state_5 : decode prog_14_method_61_code 5 = .ok (.iload_n 1, 1) := by decide +kernel
theorem d_M_state_6 : decode prog_14_method_61_code 6 = .ok (.iconst 0, 1) := by decide +kernel
theorem d_M_state_7 : decode prog_14_method_61_code 7 = .ok (.iconst 5, 1) := by decide +kernel
theorem d_M_state_8 : decode prog_14_method_61_code 8 = .ok (.invokestatic 62, 3) := by decide +kernel
theorem d_M_state_11 : decode prog_14_method_61_code 11 = .ok (.ifCond .ne 7, 3) := by decide +kernel
theorem d_M_state_14 : decode prog_14_method_61_code 14 = .ok (.ldc2_w 291, 3) := by decide +kernel
theorem d_M_state_17 : decode prog_14_method_61_code 17 = .ok (.lreturn, 1) := by decide +kernel
theorem d_M_state_18 : decode prog_14_method_61_code 18 = .ok (.iload_n 1, 1) := by decide +kernel
theorem d_M_state_19 : decode prog_14_method_61_code 19 = .ok (.iconst 2, 1) := by decide +kernel
theorem d_M_state_20 : decode prog_14_method_61_code 20 = .ok (.if_icmp .ge 31, 3) := by decide +kernel
theorem d_M_state_23 : decode prog_14_method_61_code 23 = .ok (.aload_n 0, 1) := by decide +kernel
theorem d_M_state_24 : decode prog_14_method_61_code 24 = .ok (.getfield 46, 3) := by decide +kernel
theorem d_M_state_27 : decode prog_14_method_61_code 27 = .ok (.iconst 2, 1) := by decide +kernel
theorem d_M_state_28 : decode prog_14_method_61_code 28 = .ok (.if_icmp .le 7, 3) := by decide +kernel
theorem d_M_state_31 : decode prog_14_method_61_code 31 = .ok (.lconst 0, 1) := by decide +kernel
theorem d_M_state_32 : decode prog_14_method_61_code 32 = .ok (.goto 18, 3) := by decide +kernel
theorem d_M_state_35 : decode prog_14_method_61_code 35 = .ok (.iload_n 1, 1) := by decide +kernel
theorem d_M_state_36 : decode prog_14_method_61_code 36 = .ok (.ifCond .ne 10, 3) := by decide +kernel
theorem d_M_state_39 : decode prog_14_method_61_code 39 = .ok (.aload_n 0, 1) := by decide +kernel
theorem d_M_state_40 : decode prog_14_method_61_code 40 = .ok (.getfield 104, 3) := by decide +kernel
theorem d_M_state_43 : decode prog_14_method_61_code 43 = .ok (.goto 7, 3) := by decide +kernel
theorem d_M_state_46 : decode prog_14_method_61_code 46 = .ok (.aload_n 0, 1) := by decide +kernel
theorem d_M_state_47 : decode prog_14_method_61_code 47 = .ok (.getfield 110, 3) := by decide +kernel
theorem d_M_state_50 : decode prog_14_method_61_code 50 = .ok (.lreturn, 1) := by decide +kernel
theorem d_M_state_51 : decode prog_14_method_61_code 51 = .ok (.aload_n 0, 1) := by decide +kernel
theorem d_M_state_52 : decode prog_14_method_61_code 52 = .ok (.getfield 101, 3) := by decide +kernel
theorem d_M_state_55 : decode prog_14_method_61_code 55 = .ok (.ifCond .ne 5, 3) := by decide +kernel
theorem d_M_state_58 : decode prog_14_method_61_code 58 = .ok (.lconst 0, 1) := by decide +kernel
theorem d_M_state_59 : decode prog_14_method_61_code 59 = .ok (.lreturn, 1) := by decide +kernel
theorem d_M_state_60 : decode prog_14_method_61_code 60 = .ok (.iload_n 1, 1) := by decide +kernel
theorem d_M_state_61 : decode prog_14_method_61_code 61 = .ok (.iconst 5, 1) := by decide +kernel
theorem d_M_state_62 : decode prog_14_method_61_code 62 = .ok (.if_icmp .ne 20, 3) := by decide +kernel
theorem d_M_state_65 : decode prog_14_method_61_code 65 = .ok (.aload_n 0, 1) := by decide +kernel
theorem d_M_state_66 : decode prog_14_method_61_code 66 = .ok (.getfield 46, 3) := by decide +kernel
theorem d_M_state_69 : decode prog_14_method_61_code 69 = .ok (.iconst 2, 1) := by decide +kernel
theorem d_M_state_70 : decode prog_14_method_61_code 70 = .ok (.if_icmp .le 10, 3) := by decide +kernel
theorem d_M_state_73 : decode prog_14_method_61_code 73 = .ok (.aload_n 0, 1) := by decide +kernel
theorem d_M_state_74 : decode prog_14_method_61_code 74 = .ok (.getfield 232, 3) := by decide +kernel
theorem d_M_state_77 : decode prog_14_method_61_code 77 = .ok (.goto 4, 3) := by decide +kernel
theorem d_M_state_80 : decode prog_14_method_61_code 80 = .ok (.lconst 0, 1) := by decide +kernel
theorem d_M_state_81 : decode prog_14_method_61_code 81 = .ok (.lreturn, 1) := by decide +kernel
theorem d_M_state_82 : decode prog_14_method_61_code 82 = .ok (.aload_n 0, 1) := by decide +kernel
theorem d_M_state_83 : decode prog_14_method_61_code 83 = .ok (.getfield 46, 3) := by decide +kernel
theorem d_M_state_86 : decode prog_14_method_61_code 86 = .ok (.iconst 2, 1) := by decide +kernel
theorem d_M_state_87 : decode prog_14_method_61_code 87 = .ok (.if_icmp .le 5, 3) := by decide +kernel
theorem d_M_state_90 : decode prog_14_method_61_code 90 = .ok (.lconst 0, 1) := by decide +kernel
theorem d_M_state_91 : decode prog_14_method_61_code 91 = .ok (.lreturn, 1) := by decide +kernel
theorem d_M_state_92 : decode prog_14_method_61_code 92 = .ok (.iload_n 1, 1) := by decide +kernel
theorem d_M_state_93 : decode prog_14_method_61_code 93 = .ok (.iconst 2, 1) := by decide +kernel
theorem d_M_state_94 : decode prog_14_method_61_code 94 = .ok (.if_icmp .ne 10, 3) := by decide +kernel
theorem d_M_state_97 : decode prog_14_method_61_code 97 = .ok (.aload_n 0, 1) := by decide +kernel
theorem d_M_state_98 : decode prog_14_method_61_code 98 = .ok (.getfield 223, 3) := by decide +kernel
theorem d_M_state_101 : decode prog_14_method_61_code 101 = .ok (.goto 31, 3) := by decide +kernel
theorem d_M_state_104 : decode prog_14_method_61_code 104 = .ok (.iload_n 1, 1) := by decide +kernel
theorem d_M_state_105 : decode prog_14_method_61_code 105 = .ok (.iconst 3, 1) := by decide +kernel
theorem d_M_state_106 : decode prog_14_method_61_code 106 = .ok (.if_icmp .ne 22, 3) := by decide +kernel
theorem d_M_state_109 : decode prog_14_method_61_code 109 = .ok (.aload_n 0, 1) := by decide +kernel
theorem d_M_state_110 : decode prog_14_method_61_code 110 = .ok (.getfield 46, 3) := by decide +kernel
theorem d_M_state_113 : decode prog_14_method_61_code 113 = .ok (.iconst 1, 1) := by decide +kernel
theorem d_M_state_114 : decode prog_14_method_61_code 114 = .ok (.if_icmp .ne 10, 3) := by decide +kernel
theorem d_M_state_117 : decode prog_14_method_61_code 117 = .ok (.aload_n 0, 1) := by decide +kernel
theorem d_M_state_118 : decode prog_14_method_61_code 118 = .ok (.getfield 226, 3) := by decide +kernel
theorem d_M_state_121 : decode prog_14_method_61_code 121 = .ok (.goto 11, 3) := by decide +kernel
theorem d_M_state_124 : decode prog_14_method_61_code 124 = .ok (.lconst 0, 1) := by decide +kernel
theorem d_M_state_125 : decode prog_14_method_61_code 125 = .ok (.goto 7, 3) := by decide +kernel
theorem d_M_state_128 : decode prog_14_method_61_code 128 = .ok (.aload_n 0, 1) := by decide +kernel
theorem d_M_state_129 : decode prog_14_method_61_code 129 = .ok (.getfield 229, 3) := by decide +kernel
theorem d_M_state_132 : decode prog_14_method_61_code 132 = .ok (.lreturn, 1) := by decide +kernel
theorem d_M_chance_0 : decode prog_14_method_62_code 0 = .ok (.aload_n 0, 1) := by decide +kernel
theorem d_M_chance_1 : decode prog_14_method_62_code 1 = .ok (.iconst 0, 1) := by decide +kernel
theorem d_M_chance_2 : decode prog_14_method_62_code 2 = .ok (.putfield 56, 3) := by decide +kernel
theorem d_M_chance_5 : decode prog_14_method_62_code 5 = .ok (.aload_n 0, 1) := by decide +kernel
theorem d_M_chance_6 : decode prog_14_method_62_code 6 = .ok (.iload_n 1, 1) := by decide +kernel
theorem d_M_chance_7 : decode prog_14_method_62_code 7 = .ok (.invokevirtual 65, 3) := by decide +kernel
theorem d_M_chance_10 : decode prog_14_method_62_code 10 = .ok (.ifCond .ne 5, 3) := by decide +kernel
theorem d_M_chance_13 : decode prog_14_method_62_code 13 = .ok (.iconst (-1), 1) := by decide +kernel
theorem d_M_chance_14 : decode prog_14_method_62_code 14 = .ok (.ireturn, 1) := by decide +kernel
theorem d_M_chance_15 : decode prog_14_method_62_code 15 = .ok (.aload_n 0, 1) := by decide +kernel
theorem d_M_chance_16 : decode prog_14_method_62_code 16 = .ok (.getfield 46, 3) := by decide +kernel
theorem d_M_chance_19 : decode prog_14_method_62_code 19 = .ok (.iconst 2, 1) := by decide +kernel
theorem d_M_chance_20 : decode prog_14_method_62_code 20 = .ok (.if_icmp .ne 20, 3) := by decide +kernel
theorem d_M_chance_23 : decode prog_14_method_62_code 23 = .ok (.iload_n 2, 1) := by decide +kernel
theorem d_M_chance_24 : decode prog_14_method_62_code 24 = .ok (.iconst 1, 1) := by decide +kernel
theorem d_M_chance_25 : decode prog_14_method_62_code 25 = .ok (.iconst 1, 1) := by decide +kernel
theorem d_M_chance_26 : decode prog_14_method_62_code 26 = .ok (.aload_n 0, 1) := by decide +kernel
theorem d_M_chance_27 : decode prog_14_method_62_code 27 = .ok (.iload_n 1, 1) := by decide +kernel
theorem d_M_chance_28 : decode prog_14_method_62_code 28 = .ok (.invokevirtual 158, 3) := by decide +kernel
theorem d_M_chance_31 : decode prog_14_method_62_code 31 = .ok (.ishl, 1) := by decide +kernel
theorem d_M_chance_32 : decode prog_14_method_62_code 32 = .ok (.iconst 1, 1) := by decide +kernel
theorem d_M_chance_33 : decode prog_14_method_62_code 33 = .ok (.isub, 1) := by decide +kernel
theorem d_M_chance_34 : decode prog_14_method_62_code 34 = .ok (.invokestatic 62, 3) := by decide +kernel
theorem d_M_chance_37 : decode prog_14_method_62_code 37 = .ok (.goto 16, 3) := by decide +kernel
theorem d_M_chance_40 : decode prog_14_method_62_code 40 = .ok (.iload_n 2, 1) := by decide +kernel
theorem d_M_chance_41 : decode prog_14_method_62_code 41 = .ok (.iconst 0, 1) := by decide +kernel
theorem d_M_chance_42 : decode prog_14_method_62_code 42 = .ok (.aload_n 0, 1) := by decide +kernel
theorem d_M_chance_43 : decode prog_14_method_62_code 43 = .ok (.getfield 7, 3) := by decide +kernel
theorem d_M_chance_46 : decode prog_14_method_62_code 46 = .ok (.iload_n 1, 1) := by decide +kernel
theorem d_M_chance_47 : decode prog_14_method_62_code 47 = .ok (.iaload, 1) := by decide +kernel
theorem d_M_chance_48 : decode prog_14_method_62_code 48 = .ok (.iconst 1, 1) := by decide +kernel
theorem d_M_chance_49 : decode prog_14_method_62_code 49 = .ok (.isub, 1) := by decide +kernel
theorem d_M_chance_50 : decode prog_14_method_62_code 50 = .ok (.invokestatic 62, 3) := by decide +kernel
theorem d_M_chance_53 : decode prog_14_method_62_code 53 = .ok (.istore_n 3, 1) := by decide +kernel
theorem d_M_chance_54 : decode prog_14_method_62_code 54 = .ok (.iload_n 3, 1) := by decide +kernel
theorem d_M_chance_55 : decode prog_14_method_62_code 55 = .ok (.ifCond .eq 17, 3) := by decide +kernel
theorem d_M_chance_58 : decode prog_14_method_62_code 58 = .ok (.aload_n 0, 1) := by decide +kernel
theorem d_M_chance_59 : decode prog_14_method_62_code 59 = .ok (.getfield 16, 3) := by decide +kernel
theorem d_M_chance_62 : decode prog_14_method_62_code 62 = .ok (.bipush 64, 2) := by decide +kernel
theorem d_M_chance_64 : decode prog_14_method_62_code 64 = .ok (.iload_n 1, 1) := by decide +kernel
theorem d_M_chance_65 : decode prog_14_method_62_code 65 = .ok (.imul, 1) := by decide +kernel
theorem d_M_chance_66 : decode prog_14_method_62_code 66 = .ok (.iload_n 2, 1) := by decide +kernel
theorem d_M_chance_67 : decode prog_14_method_62_code 67 = .ok (.iadd, 1) := by decide +kernel
theorem d_M_chance_68 : decode prog_14_method_62_code 68 = .ok (.iaload, 1) := by decide +kernel
theorem d_M_chance_69 : decode prog_14_method_62_code 69 = .ok (.goto 4, 3) := by decide +kernel
theorem d_M_chance_72 : decode prog_14_method_62_code 72 = .ok (.iconst (-1), 1) := by decide +kernel
theorem d_M_chance_73 : decode prog_14_method_62_code 73 = .ok (.ireturn, 1) := by decide +kernel
end
section
/-! ===== lN n to 2^64: shifts, and, or, masks, one bit ===== -/
theorem wb_tb (n : Nat) : (lN n).toBitVec = BitVec.ofNat 64 n := rfl
theorem wb_inj {a b : Int64} (h : a.toBitVec = b.toBitVec) : a = b := Int64.toBitVec_inj.mp h
theorem wb_tn {n : Nat} (h : n < 2 ^ 64) : (lN n).toBitVec.toNat = n := by rw [wb_tb, BitVec.toNat_ofNat, Nat.mod_eq_of_lt h]
theorem wb_c : ∀ k, k < 64 → ((nI k).toInt64 &&& 63) = lN k := by decide +kernel
theorem wb_cu : ∀ k, k < 64 → ((nI k).toInt64.toUInt64 &&& Int64.toUInt64 63) = UInt64.ofNat k := by decide +kernel
theorem wb_sm : ∀ k, k < 64 → (BitVec.ofNat 64 k).smod 64 = BitVec.ofNat 64 k := by decide +kernel
theorem wb_lt2 {a b : Nat} (h : a < b) : 2 ^ a < 2 ^ b := Nat.pow_lt_pow_right (by decide) h
theorem wb_mod (n : Nat) : lN n = lN (n % 2 ^ 64) := wb_inj (by rw [wb_tb, wb_tb]; apply BitVec.eq_of_toNat_eq; rw [BitVec.toNat_ofNat, BitVec.toNat_ofNat, Nat.mod_mod])
theorem wb_shr {n k : Nat} (hn : n < 2 ^ 64) (hk : k < 64) : ((lN n).toUInt64 >>> ((nI k).toInt64.toUInt64 &&& Int64.toUInt64 63)).toInt64 = lN (n / 2 ^ k) := by
  rw [wb_cu k hk]
  apply wb_inj
  apply BitVec.eq_of_toNat_eq
  show ((lN n).toUInt64 >>> UInt64.ofNat k).toNat = (BitVec.ofNat 64 _).toNat
  have h1 : (UInt64.ofNat k).toNat = k := by
    show (BitVec.ofNat 64 k).toNat = k
    rw [BitVec.toNat_ofNat, Nat.mod_eq_of_lt (by omega)]
  have h2 : (lN n).toUInt64.toNat = n := wb_tn hn
  rw [UInt64.toNat_shiftRight, h1, h2, Nat.mod_eq_of_lt hk, Nat.shiftRight_eq_div_pow, BitVec.toNat_ofNat, Nat.mod_eq_of_lt (Nat.lt_of_le_of_lt (Nat.div_le_self _ _) hn)]
theorem wb_shl (n : Nat) {k : Nat} (hk : k < 64) : lN n <<< ((nI k).toInt64 &&& 63) = lN (n * 2 ^ k) := by
  rw [wb_c k hk]
  apply wb_inj
  rw [Int64.toBitVec_shiftLeft, wb_tb, wb_tb, wb_tb, wb_sm k hk]
  apply BitVec.eq_of_toNat_eq
  rw [BitVec.shiftLeft_eq', BitVec.toNat_shiftLeft, BitVec.toNat_ofNat, BitVec.toNat_ofNat, BitVec.toNat_ofNat, Nat.mod_eq_of_lt (show k < 2 ^ 64 by omega), Nat.shiftLeft_eq, Nat.mul_mod, Nat.mod_mod, ← Nat.mul_mod]
theorem wb_and {a b : Nat} (ha : a < 2 ^ 64) (hb : b < 2 ^ 64) : lN a &&& lN b = lN (a &&& b) := by
  apply wb_inj
  rw [Int64.toBitVec_and, wb_tb, wb_tb, wb_tb]
  apply BitVec.eq_of_toNat_eq
  rw [BitVec.toNat_and, BitVec.toNat_ofNat, BitVec.toNat_ofNat, BitVec.toNat_ofNat, Nat.mod_eq_of_lt ha, Nat.mod_eq_of_lt hb, Nat.mod_eq_of_lt (Nat.and_lt_two_pow _ hb)]
theorem wb_mask {n k : Nat} (hn : n < 2 ^ 64) (hk : k < 64) : lN n &&& lN (2 ^ k - 1) = lN (n % 2 ^ k) := by
  rw [wb_and hn (by have := wb_lt2 hk; omega), Nat.and_two_pow_sub_one_eq_mod]
theorem wb_a1 {n : Nat} (hn : n < 2 ^ 64) : lN n &&& 1 = lN (n % 2) := wb_mask (k := 1) hn (by decide)
/-! ===== lN: masks, 'or' of parts that don't overlap is a sum ===== -/
theorem u_tn {n : Nat} (h : n < 2 ^ 64) : (UInt64.ofNat n).toNat = n := Nat.mod_eq_of_lt h
theorem g_and {a b c : Nat} (ha : a < 2 ^ 64) (hb : b < 2 ^ 64) (hc : a &&& b = c) : lN a &&& lN b = lN c := by
  subst hc
  have h : UInt64.ofNat a &&& UInt64.ofNat b = UInt64.ofNat (a &&& b) := UInt64.toNat_inj.mp (by rw [UInt64.toNat_and, u_tn ha, u_tn hb, u_tn (Nat.and_lt_two_pow a hb)])
  have h2 := congrArg UInt64.toInt64 h
  exact h2
theorem g_mask {a s p : Nat} (hp : 2 ^ s = p) (hs : s < 64) (ha : a < 2 ^ 64) : lN a &&& lN (p - 1) = lN (a % p) := by
  subst hp
  have := Nat.pow_lt_pow_right (show 1 < 2 by decide) hs
  exact g_and ha (by omega) (Nat.and_two_pow_sub_one_eq_mod a s)
theorem g_or {k p a b : Nat} (hp : 2 ^ k = p) (ha : a < p) (h : b * p + a < 2 ^ 64) : lN (b * p) ||| lN a = lN (b * p + a) := by
  subst hp
  have h1 : b * 2 ^ k ||| a = b * 2 ^ k + a := by rw [← Nat.shiftLeft_eq, Nat.shiftLeft_add_eq_or_of_lt ha]
  have h3 : UInt64.ofNat (b * 2 ^ k) ||| UInt64.ofNat a = UInt64.ofNat (b * 2 ^ k + a) := UInt64.toNat_inj.mp (by rw [UInt64.toNat_or, u_tn (by omega), u_tn (by omega), u_tn h, h1])
  have h2 := congrArg UInt64.toInt64 h3
  exact h2
/-! ===== lN to 2^62 under >> and >>> ===== -/
theorem pf_lI {a : Nat} (h : a < 2 ^ 63) : (lN a).toInt = (a : Int) := lg_ofNat_toInt h
theorem pf_shr {a d : Nat} {D : Int64} (hD : (D.toBitVec.smod 64).toNat = d) (h : a < 2 ^ 62) : lN a >>> D = lN (a / 2 ^ d) := by
  have hd : a / 2 ^ d ≤ a := Nat.div_le_self _ _
  apply Int64.toInt_inj.mp
  have e : (lN a >>> D).toInt = (lN a).toInt >>> d := by
    rw [← hD]
    exact BitVec.toInt_sshiftRight ..
  rw [e, Int.shiftRight_eq_div_pow, pf_lI (by omega), pf_lI (by omega)]
  rfl
end
section
/-! OWN KIT: a contract's world in one word, a call in one row -/
/-- a contract's start: the world wc, in a heap of sz cells -/
def my_P (D : va_G) (cl : List vw_C) (tys : List (ClassId × FieldType)) (wc : va_W) (sz : Nat) (U : State) : Prop := U.heap.size = sz ∧ va_P D cl wc U.heap ∧ (va_K D cl tys U ∧ nw U) ∧ va_D (fun _ => True) wc
/-- a world in the heap, its cells free of what is kept -/
abbrev my_PD (D : va_G) (cl : List vw_C) (A : Nat → Prop) (w : va_W) (H : Heap) : Prop := va_P D cl w H ∧ va_D A w
/-- a contract's end: the world w1 u -/
def my_B {S : Type} (D : va_G) (cl : List vw_C) (tys : List (ClassId × FieldType)) (w1 : S → va_W) (A : Nat → Prop) (u : S) (t : State) : Prop := va_P D cl (w1 u) t.heap ∧ va_K D cl tys t ∧ va_D A (w1 u)
abbrev MetI {S : Type} (l : Launch) (y : MethodName) (ws : List Cond) (rm : Room) (D : va_G) (cl : List vw_C) (tys : List (ClassId × FieldType)) (av : List Value) (wc : va_W) (sz : Nat) (post : Int32 → S → Prop) (w1 : S → va_W) (mc ms : Nat) : Prop :=
  Met l y ws rm (va_Pc av (my_P D cl tys wc sz)) (va_Qi post (my_B D cl tys w1 (va_A wc sz)) (va_A wc sz)) mc ms (va_A wc sz)
abbrev MetL {S : Type} (l : Launch) (y : MethodName) (ws : List Cond) (rm : Room) (D : va_G) (cl : List vw_C) (tys : List (ClassId × FieldType)) (av : List Value) (wc : va_W) (sz : Nat) (post : Int64 → S → Prop) (w1 : S → va_W) (mc ms : Nat) : Prop :=
  Met l y ws rm (va_Pc av (my_P D cl tys wc sz)) (va_Ql post (my_B D cl tys w1 (va_A wc sz)) (va_A wc sz)) mc ms (va_A wc sz)
abbrev MetV {S : Type} (l : Launch) (y : MethodName) (ws : List Cond) (rm : Room) (D : va_G) (cl : List vw_C) (tys : List (ClassId × FieldType)) (av : List Value) (wc : va_W) (sz : Nat) (post : S → Prop) (w1 : S → va_W) (mc ms : Nat) : Prop :=
  Met l y ws rm (va_Pc av (my_P D cl tys wc sz)) (va_Qv post (my_B D cl tys w1 (va_A wc sz)) (va_A wc sz)) mc ms (va_A wc sz)
/-- an answer that is a reference or null -/
abbrev MetQ {S : Type} (l : Launch) (y : MethodName) (ws : List Cond) (rm : Room) (D : va_G) (cl : List vw_C) (tys : List (ClassId × FieldType)) (av : List Value) (wc : va_W) (sz : Nat) (post : Option Nat → S → Prop) (w1 : S → va_W) (mc ms : Nat) : Prop :=
  Met l y ws rm (va_Pc av (my_P D cl tys wc sz)) (va_Qq post (my_B D cl tys w1 (va_A wc sz)) (va_A wc sz)) mc ms (va_A wc sz)
/-- a contract's beginning -/
theorem my_of {l : Launch} {y : MethodName} {ws ws' : List Cond} {rm : Room} {D : va_G} {cl : List vw_C} {tys : List (ClassId × FieldType)} {av : List Value} {wc : va_W} {sz mc ms n : Nat} {cc : ByteArray} {ret : Option FieldType} {QF : (Nat → Prop) → Array Value → State → Outcome → State → Prop}
    (hy : plainName y.cls = true) (hw : ws = Cond.code y cc n ret :: ws') (hn : (lg_sl av).length ≤ n)
    (body : ∀ (p : Program) (e : Env) (s : State) (m : MethodId) (args : Array Value) (below : List Frame) (meth : Method) (c : Code) (R : Room) (Q : State → Prop) (A : Nat → Prop) (ls : Array Slot) (H : Heap) (locs : List Loc), p.tables.exec = Jvm.exec → c.code = cc → meth.sig.returnType = ret → (∀ w ∈ ws, w.before args s = true) → s.vm.findClass y.cls = some m.cls → meth.locks = false → c.maxLocals = n → meth.name = y.name → R = rm → Q = MQ below (QF A) args s mc ms A → (∀ q : Nat, s.heap.size ≤ q → A q) → lv_has ls n (lv_args 0 av) → va_P D cl wc H → va_K D cl tys s → nw s → va_D A wc → va_S A s.heap H locs → W p l e R s m args below meth c H locs 0 0 Q (F0 m 0 ls [])) :
    Met l y ws rm (va_Pc av (my_P D cl tys wc sz)) (QF (va_A wc sz)) mc ms (va_A wc sz) := by
  refine Met.ofW (cc := cc) (maxL := n) (ret := ret) hy hw ?_
  intro p e s m args below meth c s₁ B hml hv
  obtain ⟨ha, hsz, hP, ⟨hK, hN⟩, hD0⟩ := hv
  subst hsz
  refine W.eq (g2 := F0 m 0 ((lg_sl av ++ List.replicate (n - (lg_sl av).length) Slot.unset).toArray) []) (by rw [ha]; exact lg_entry_eq m av n) ?_
  exact body p e s m args below meth c _ _ (va_A wc s.heap.size) _ _ _ B.exec B.bytes B.returns (atoms_spec (ws := ws) B.pre) (findClass_of_methodNamed B.named) B.notSynchronized hml (name_of_methodNamed B.named B.method).1 rfl rfl (fun q h => Or.inr h) (lv_entry av hn) hP hK hN hD0.self va_S.rf
section MYK
variable {p : Program} {l : Launch} {e : Env} {R : Room} {s : State} {m : MethodId} {args : Array Value} {below : List Frame} {meth : Method} {c : Code} {H : Heap} {locs : List Loc} {cells slots : Nat} {Q : State → Prop}
variable {cc : ByteArray} {pc : Nat} {ls : Array Slot} {rest st0 : List Value} {D : va_G} {cl : List vw_C} {tys : List (ClassId × FieldType)} {A : Nat → Prop} {mc ms : Nat} {a : Array Value}
theorem my_iret {S : Type} {post : Int32 → S → Prop} {w1 : S → va_W} {v : Int32} {rt : FieldType} (hx : p.tables.exec = Jvm.exec) (hb : c.code = cc) (hr : meth.sig.returnType = some rt) (hn : narrow rt (.int v) = .int v) (hlocks : meth.locks = false) (hQ : Q = MQ below (va_Qi post (my_B D cl tys w1 A) A) args s mc ms A) (hK : va_K D cl tys s) (hS : va_S A s.heap H locs) (hc : cells ≤ mc) (hsl : slots ≤ ms) (u : S) (hp : post v u) (hP : va_P D cl (w1 u) H) (hD : va_D A (w1 u)) (hdg : decode cc pc = .ok (.ireturn, 1)) : W p l e R s m args below meth c H locs cells slots Q (F0 m pc ls [Value.int v]) := by
  subst hQ
  refine W.widen hc hsl ?_
  exact W.zret (v := v) hx hb hr hn (fun t ht hW => ⟨⟨v, u, rfl, hp, by rw [ht]; exact hP, va_K.moved hW.alike hK, hD⟩, hS.F ht⟩) hS.2.2 hdg hlocks
theorem my_lret {S : Type} {post : Int64 → S → Prop} {w1 : S → va_W} {v : Int64} (hx : p.tables.exec = Jvm.exec) (hb : c.code = cc) (hr : meth.sig.returnType = some .long) (hlocks : meth.locks = false) (hQ : Q = MQ below (va_Ql post (my_B D cl tys w1 A) A) args s mc ms A) (hK : va_K D cl tys s) (hS : va_S A s.heap H locs) (hc : cells ≤ mc) (hsl : slots ≤ ms) (u : S) (hp : post v u) (hP : va_P D cl (w1 u) H) (hD : va_D A (w1 u)) (hdg : decode cc pc = .ok (.lreturn, 1)) : W p l e R s m args below meth c H locs cells slots Q (F0 m pc ls [Value.long v]) := by
  subst hQ
  refine W.widen hc hsl ?_
  exact W.lret (v := v) hx hb hr (fun t ht hW => ⟨⟨v, u, rfl, hp, by rw [ht]; exact hP, va_K.moved hW.alike hK, hD⟩, hS.F ht⟩) hS.2.2 hdg hlocks
theorem my_vret {S : Type} {post : S → Prop} {w1 : S → va_W} (hx : p.tables.exec = Jvm.exec) (hb : c.code = cc) (hr : meth.sig.returnType = none) (hlocks : meth.locks = false) (hQ : Q = MQ below (va_Qv post (my_B D cl tys w1 A) A) args s mc ms A) (hK : va_K D cl tys s) (hS : va_S A s.heap H locs) (hc : cells ≤ mc) (hsl : slots ≤ ms) (u : S) (hp : post u) (hP : va_P D cl (w1 u) H) (hD : va_D A (w1 u)) (hdg : decode cc pc = .ok (.return_, 1)) : W p l e R s m args below meth c H locs cells slots Q (F0 m pc ls []) := by
  subst hQ
  refine W.widen hc hsl ?_
  exact W.vret hx hb hr (fun t ht hW => ⟨⟨u, rfl, hp, by rw [ht]; exact hP, va_K.moved hW.alike hK, hD⟩, hS.F ht⟩) hS.2.2 hdg hlocks
theorem my_qret {S : Type} {post : Option Nat → S → Prop} {w1 : S → va_W} {v : Option Nat} {rt : FieldType} (hx : p.tables.exec = Jvm.exec) (hb : c.code = cc) (hr : meth.sig.returnType = some rt) (hrt : (∃ n, rt = .object n) ∨ ∃ t, rt = .array t) (hlocks : meth.locks = false) (hQ : Q = MQ below (va_Qq post (my_B D cl tys w1 A) A) args s mc ms A) (hK : va_K D cl tys s) (hS : va_S A s.heap H locs) (hc : cells ≤ mc) (hsl : slots ≤ ms) (u : S) (hp : post v u) (hP : va_P D cl (w1 u) H) (hD : va_D A (w1 u)) (hdg : decode cc pc = .ok (.areturn, 1)) : W p l e R s m args below meth c H locs cells slots Q (F0 m pc ls [va_rf v]) := by
  subst hQ
  refine W.widen hc hsl ?_
  exact W.aret (v := va_rf v) hx hb hr hrt (va_rf_or v) (fun t ht hW => ⟨⟨v, u, rfl, hp, by rw [ht]; exact hP, va_K.moved hW.alike hK, hD⟩, hS.F ht⟩) hS.2.2 hdg hlocks
/-- what a receiver must be -/
theorem my_pre {wc : va_W} {As : List Value} (hK : va_K D cl tys s) (hN : nw s) (hPc : va_P D cl wc H) (hDc : va_D A wc) : FrameBlind (va_Pc As (my_P D cl tys wc H.size)) ∧ ∀ U : State, U.heap = H → s.WarmedH U.vm → va_Pc As (my_P D cl tys wc H.size) As.toArray U :=
  ⟨fun a U g mk q => ⟨q.1, q.2.1, q.2.2.1, ⟨va_K.moved (u := U) (U := U.calling g mk a) (Vm.Alike.refl U.vm) q.2.2.2.1.1, nw.same (s := U) (U := U.calling g mk a) rfl q.2.2.2.1.2⟩, q.2.2.2.2⟩, fun U hU hW => ⟨rfl, by rw [hU], by rw [hU]; exact hPc, ⟨va_K.moved hW.alike hK, nw.warm hW hN⟩, hDc.weaken (fun _ _ _ _ => trivial)⟩⟩
theorem my_preV {wc : va_W} {As : List Value} {b : Nat} {ci : Nat} {fs : List Value} {C9 : String} {T9 : u_T} {N9 : Nat} (hK : va_K D cl tys s) (hN : nw s) (hPc : va_P D cl wc H) (hDc : va_D A wc) (q0 : Nat) (h0 : wc[q0]? = some (b, Sum.inr (ci, fs))) (hc : cl[ci]? = some (C9, T9, N9)) : PreV s H C9 b (va_Pc (.ref b :: As) (my_P D cl tys wc H.size)) As :=
  ⟨(my_pre (As := .ref b :: As) hK hN hPc hDc).1, va_recv hK hPc (ci := ci) (q0 := q0) hc h0, (my_pre (As := .ref b :: As) hK hN hPc hDc).2⟩
/-- behind a call -/
theorem my_ci {S : Type} {post : Int32 → S → Prop} {w1 : S → va_W} {ws wc wr : va_W} (hr : va_Run p l e R s m args below meth c H locs cells slots mc ms (F0 m pc ls st0) rest (va_Qi post (my_B D cl tys w1 (va_A wc H.size)) (va_A wc H.size) a) (va_A wc H.size)) (hP : va_P D cl ws H) (hD : va_D A ws) (hS : va_S A s.heap H locs) (hA : ∀ q : Nat, s.heap.size ≤ q → A q) (isC isR : List Nat) (hC : isC.map (fun i => ws[i]?) = wc.map some) (hR : isR.map (fun i => ws[i]?) = wr.map some) (hn : va_nd isR = true) (hdis : ∀ i ∈ isR, i ∉ isC)
    (kk : ∀ (r : Int32) (u : S) (H1 : Heap) (locs1 : List Loc), post r u → va_P D cl (wr ++ w1 u) H1 → va_D A (wr ++ w1 u) → va_S A s.heap H1 locs1 → W p l e R s m args below meth c H1 locs1 (cells + mc) (slots + ms) Q (F0 m (pc + 3) ls (.int r :: rest))) : W p l e R s m args below meth c H locs cells slots Q (F0 m pc ls st0) := by
  have hFc := va_free (wc := wc) hD hS hA isC hC
  refine va_calli hr hS (fun q _ h => hFc q h) hFc (fun r u t H1 locs1 ht hvm hw hB hz1 hk1 hS1 => ?_)
  obtain ⟨hP1, hK1, hD1⟩ := hB
  rw [ht] at hP1
  obtain ⟨hP2, hD2⟩ := va_join hP hD isC isR hC hR hn hdis hk1 hFc hP1 hD1
  exact kk r u H1 locs1 hw hP2 hD2 hS1
theorem my_cl {S : Type} {post : Int64 → S → Prop} {w1 : S → va_W} {ws wc wr : va_W} (hr : va_Run p l e R s m args below meth c H locs cells slots mc ms (F0 m pc ls st0) rest (va_Ql post (my_B D cl tys w1 (va_A wc H.size)) (va_A wc H.size) a) (va_A wc H.size)) (hP : va_P D cl ws H) (hD : va_D A ws) (hS : va_S A s.heap H locs) (hA : ∀ q : Nat, s.heap.size ≤ q → A q) (isC isR : List Nat) (hC : isC.map (fun i => ws[i]?) = wc.map some) (hR : isR.map (fun i => ws[i]?) = wr.map some) (hn : va_nd isR = true) (hdis : ∀ i ∈ isR, i ∉ isC)
    (kk : ∀ (r : Int64) (u : S) (H1 : Heap) (locs1 : List Loc), post r u → va_P D cl (wr ++ w1 u) H1 → va_D A (wr ++ w1 u) → va_S A s.heap H1 locs1 → W p l e R s m args below meth c H1 locs1 (cells + mc) (slots + ms) Q (F0 m (pc + 3) ls (.long r :: rest))) : W p l e R s m args below meth c H locs cells slots Q (F0 m pc ls st0) := by
  have hFc := va_free (wc := wc) hD hS hA isC hC
  refine va_calll hr hS (fun q _ h => hFc q h) hFc (fun r u t H1 locs1 ht hvm hw hB hz1 hk1 hS1 => ?_)
  obtain ⟨hP1, hK1, hD1⟩ := hB
  rw [ht] at hP1
  obtain ⟨hP2, hD2⟩ := va_join hP hD isC isR hC hR hn hdis hk1 hFc hP1 hD1
  exact kk r u H1 locs1 hw hP2 hD2 hS1
theorem my_cv {S : Type} {post : S → Prop} {w1 : S → va_W} {ws wc wr : va_W} (hr : va_Run p l e R s m args below meth c H locs cells slots mc ms (F0 m pc ls st0) rest (va_Qv post (my_B D cl tys w1 (va_A wc H.size)) (va_A wc H.size) a) (va_A wc H.size)) (hP : va_P D cl ws H) (hD : va_D A ws) (hS : va_S A s.heap H locs) (hA : ∀ q : Nat, s.heap.size ≤ q → A q) (isC isR : List Nat) (hC : isC.map (fun i => ws[i]?) = wc.map some) (hR : isR.map (fun i => ws[i]?) = wr.map some) (hn : va_nd isR = true) (hdis : ∀ i ∈ isR, i ∉ isC)
    (kk : ∀ (u : S) (H1 : Heap) (locs1 : List Loc), post u → va_P D cl (wr ++ w1 u) H1 → va_D A (wr ++ w1 u) → va_S A s.heap H1 locs1 → W p l e R s m args below meth c H1 locs1 (cells + mc) (slots + ms) Q (F0 m (pc + 3) ls rest)) : W p l e R s m args below meth c H locs cells slots Q (F0 m pc ls st0) := by
  have hFc := va_free (wc := wc) hD hS hA isC hC
  refine va_callv hr hS (fun q _ h => hFc q h) hFc (fun u t H1 locs1 ht hvm hw hB hz1 hk1 hS1 => ?_)
  obtain ⟨hP1, hK1, hD1⟩ := hB
  rw [ht] at hP1
  obtain ⟨hP2, hD2⟩ := va_join hP hD isC isR hC hR hn hdis hk1 hFc hP1 hD1
  exact kk u H1 locs1 hw hP2 hD2 hS1
theorem my_cq {S : Type} {post : Option Nat → S → Prop} {w1 : S → va_W} {ws wc wr : va_W} (hr : va_Run p l e R s m args below meth c H locs cells slots mc ms (F0 m pc ls st0) rest (va_Qq post (my_B D cl tys w1 (va_A wc H.size)) (va_A wc H.size) a) (va_A wc H.size)) (hP : va_P D cl ws H) (hD : va_D A ws) (hS : va_S A s.heap H locs) (hA : ∀ q : Nat, s.heap.size ≤ q → A q) (isC isR : List Nat) (hC : isC.map (fun i => ws[i]?) = wc.map some) (hR : isR.map (fun i => ws[i]?) = wr.map some) (hn : va_nd isR = true) (hdis : ∀ i ∈ isR, i ∉ isC)
    (kk : ∀ (r : Option Nat) (u : S) (H1 : Heap) (locs1 : List Loc), post r u → va_P D cl (wr ++ w1 u) H1 → va_D A (wr ++ w1 u) → va_S A s.heap H1 locs1 → W p l e R s m args below meth c H1 locs1 (cells + mc) (slots + ms) Q (F0 m (pc + 3) ls (va_rf r :: rest))) : W p l e R s m args below meth c H locs cells slots Q (F0 m pc ls st0) := by
  have hFc := va_free (wc := wc) hD hS hA isC hC
  refine va_callq hr hS (fun q _ h => hFc q h) hFc (fun r u t H1 locs1 ht hvm hw hB hz1 hk1 hS1 => ?_)
  obtain ⟨hP1, hK1, hD1⟩ := hB
  rw [ht] at hP1
  obtain ⟨hP2, hD2⟩ := va_join hP hD isC isR hC hR hn hdis hk1 hFc hP1 hD1
  exact kk r u H1 locs1 hw hP2 hD2 hS1
end MYK
theorem my_ofI {S : Type} {l : Launch} {y : MethodName} {ws ws' : List Cond} {rm : Room} {D : va_G} {cl : List vw_C} {tys : List (ClassId × FieldType)} {av : List Value} {wc : va_W} {sz mc ms n : Nat} {cc : ByteArray} {ret : Option FieldType} {post : Int32 → S → Prop} {w1 : S → va_W}
    (hy : plainName y.cls = true) (hw : ws = Cond.code y cc n ret :: ws') (hn : (lg_sl av).length ≤ n)
    (body : ∀ (p : Program) (e : Env) (s : State) (m : MethodId) (args : Array Value) (below : List Frame) (meth : Method) (c : Code) (R : Room) (Q : State → Prop) (A : Nat → Prop) (ls : Array Slot) (H : Heap) (locs : List Loc), p.tables.exec = Jvm.exec → c.code = cc → meth.sig.returnType = ret → (∀ w ∈ ws, w.before args s = true) → s.vm.findClass y.cls = some m.cls → meth.locks = false → c.maxLocals = n → meth.name = y.name → R = rm → Q = MQ below (va_Qi post (my_B D cl tys w1 A) A) args s mc ms A → (∀ q : Nat, s.heap.size ≤ q → A q) → lv_has ls n (lv_args 0 av) → va_P D cl wc H → va_K D cl tys s → nw s → va_D A wc → va_S A s.heap H locs → W p l e R s m args below meth c H locs 0 0 Q (F0 m 0 ls [])) :
    MetI l y ws rm D cl tys av wc sz post w1 mc ms := my_of (QF := fun A => va_Qi post (my_B D cl tys w1 A) A) hy hw hn body
theorem my_ofL {S : Type} {l : Launch} {y : MethodName} {ws ws' : List Cond} {rm : Room} {D : va_G} {cl : List vw_C} {tys : List (ClassId × FieldType)} {av : List Value} {wc : va_W} {sz mc ms n : Nat} {cc : ByteArray} {ret : Option FieldType} {post : Int64 → S → Prop} {w1 : S → va_W}
    (hy : plainName y.cls = true) (hw : ws = Cond.code y cc n ret :: ws') (hn : (lg_sl av).length ≤ n)
    (body : ∀ (p : Program) (e : Env) (s : State) (m : MethodId) (args : Array Value) (below : List Frame) (meth : Method) (c : Code) (R : Room) (Q : State → Prop) (A : Nat → Prop) (ls : Array Slot) (H : Heap) (locs : List Loc), p.tables.exec = Jvm.exec → c.code = cc → meth.sig.returnType = ret → (∀ w ∈ ws, w.before args s = true) → s.vm.findClass y.cls = some m.cls → meth.locks = false → c.maxLocals = n → meth.name = y.name → R = rm → Q = MQ below (va_Ql post (my_B D cl tys w1 A) A) args s mc ms A → (∀ q : Nat, s.heap.size ≤ q → A q) → lv_has ls n (lv_args 0 av) → va_P D cl wc H → va_K D cl tys s → nw s → va_D A wc → va_S A s.heap H locs → W p l e R s m args below meth c H locs 0 0 Q (F0 m 0 ls [])) :
    MetL l y ws rm D cl tys av wc sz post w1 mc ms := my_of (QF := fun A => va_Ql post (my_B D cl tys w1 A) A) hy hw hn body
theorem my_ofV {S : Type} {l : Launch} {y : MethodName} {ws ws' : List Cond} {rm : Room} {D : va_G} {cl : List vw_C} {tys : List (ClassId × FieldType)} {av : List Value} {wc : va_W} {sz mc ms n : Nat} {cc : ByteArray} {ret : Option FieldType} {post : S → Prop} {w1 : S → va_W}
    (hy : plainName y.cls = true) (hw : ws = Cond.code y cc n ret :: ws') (hn : (lg_sl av).length ≤ n)
    (body : ∀ (p : Program) (e : Env) (s : State) (m : MethodId) (args : Array Value) (below : List Frame) (meth : Method) (c : Code) (R : Room) (Q : State → Prop) (A : Nat → Prop) (ls : Array Slot) (H : Heap) (locs : List Loc), p.tables.exec = Jvm.exec → c.code = cc → meth.sig.returnType = ret → (∀ w ∈ ws, w.before args s = true) → s.vm.findClass y.cls = some m.cls → meth.locks = false → c.maxLocals = n → meth.name = y.name → R = rm → Q = MQ below (va_Qv post (my_B D cl tys w1 A) A) args s mc ms A → (∀ q : Nat, s.heap.size ≤ q → A q) → lv_has ls n (lv_args 0 av) → va_P D cl wc H → va_K D cl tys s → nw s → va_D A wc → va_S A s.heap H locs → W p l e R s m args below meth c H locs 0 0 Q (F0 m 0 ls [])) :
    MetV l y ws rm D cl tys av wc sz post w1 mc ms := my_of (QF := fun A => va_Qv post (my_B D cl tys w1 A) A) hy hw hn body
theorem my_ofQ {S : Type} {l : Launch} {y : MethodName} {ws ws' : List Cond} {rm : Room} {D : va_G} {cl : List vw_C} {tys : List (ClassId × FieldType)} {av : List Value} {wc : va_W} {sz mc ms n : Nat} {cc : ByteArray} {ret : Option FieldType} {post : Option Nat → S → Prop} {w1 : S → va_W}
    (hy : plainName y.cls = true) (hw : ws = Cond.code y cc n ret :: ws') (hn : (lg_sl av).length ≤ n)
    (body : ∀ (p : Program) (e : Env) (s : State) (m : MethodId) (args : Array Value) (below : List Frame) (meth : Method) (c : Code) (R : Room) (Q : State → Prop) (A : Nat → Prop) (ls : Array Slot) (H : Heap) (locs : List Loc), p.tables.exec = Jvm.exec → c.code = cc → meth.sig.returnType = ret → (∀ w ∈ ws, w.before args s = true) → s.vm.findClass y.cls = some m.cls → meth.locks = false → c.maxLocals = n → meth.name = y.name → R = rm → Q = MQ below (va_Qq post (my_B D cl tys w1 A) A) args s mc ms A → (∀ q : Nat, s.heap.size ≤ q → A q) → lv_has ls n (lv_args 0 av) → va_P D cl wc H → va_K D cl tys s → nw s → va_D A wc → va_S A s.heap H locs → W p l e R s m args below meth c H locs 0 0 Q (F0 m 0 ls [])) :
    MetQ l y ws rm D cl tys av wc sz post w1 mc ms := my_of (QF := fun A => va_Qq post (my_B D cl tys w1 A) A) hy hw hn body
section MYN
variable {p : Program} {l : Launch} {e : Env} {R : Room} {s : State} {m : MethodId} {args : Array Value} {below : List Frame} {meth : Method} {c : Code} {H : Heap} {locs : List Loc} {cells slots : Nat} {Q : State → Prop}
variable {cc : ByteArray} {pc : Nat} {ls : Array Slot} {rest : List Value} {D : va_G} {cl : List vw_C} {tys : List (ClassId × FieldType)} {A : Nat → Prop} {ws : va_W}
/-- a new array of ints: its class is the one that is known -/
theorem my_newi (hx : p.tables.exec = Jvm.exec) (hb : c.code = cc) (harr : (Cond.arrayClass .int).before args s = true) (hK : va_K D cl tys s) {cI : ClassId} (t0 : Nat) (ht : tys[t0]? = some (cI, .int)) (hP : va_P D cl ws H) (hD : va_D A ws) (hS : va_S A s.heap H locs) (hA : ∀ q : Nat, s.heap.size ≤ q → A q) {n : Int32} {N' : Nat} (hn : ¬ n < 0) (hN : n.toNatClampNeg = N') (hbytes : N' * 4 ≤ 536870912) (hcells : cells + 1 ≤ R.cells) (hslots : slots + N' ≤ R.slots) (hdg : decode cc pc = .ok (.newarray .int, 2))
    (kk : ∀ (q : Nat) (H1 : Heap), va_P D cl (ws ++ [(q, Sum.inl (cI, N', Sum.inl (fun _ => 0)))]) H1 → va_D A (ws ++ [(q, Sum.inl (cI, N', Sum.inl (fun _ => 0)))]) → va_S A s.heap H1 locs → W p l e R s m args below meth c H1 locs (cells + 1) (slots + N') Q (F0 m (pc + 2) ls (.ref q :: rest))) : W p l e R s m args below meth c H locs cells slots Q (F0 m pc ls (.int n :: rest)) := by
  refine va_newa hx hb (atype := .int) (ty := .int) harr rfl hK hP hD hS hA (a0 := (N', Sum.inl (fun _ => 0))) (fun cA => rfl) hn hN hbytes hcells hslots hdg (fun q cA H1 hK1 hP1 hD1 hS1 => ?_)
  have e1 := va_nm_int (hK.2 t0 _ ht).2
  have e2 := va_nm_int (hK1.2 tys.length (cA, .int) (by simp)).2
  have e3 : cA = cI := Option.some.inj (e2.symm.trans e1)
  subst e3
  exact kk q H1 hP1 hD1 hS1
theorem my_newq (hx : p.tables.exec = Jvm.exec) (hb : c.code = cc) {own C : String} {index : Nat} (hown : s.vm.findClass own = some m.cls) (hclink : (Cond.classLink own index C).before args s = true) (hover : va_AO C s) (hK : va_K D cl tys s) {cO : ClassId} (t0 : Nat) (ht : tys[t0]? = some (cO, .object C)) (hP : va_P D cl ws H) (hD : va_D A ws) (hS : va_S A s.heap H locs) (hA : ∀ q : Nat, s.heap.size ≤ q → A q) {n : Int32} {N' : Nat} (hn : ¬ n < 0) (hN : n.toNatClampNeg = N') (hbytes : N' * 4 ≤ 536870912) (hcells : cells + 1 ≤ R.cells) (hslots : slots + N' ≤ R.slots) (hdg : decode cc pc = .ok (.anewarray index, 3))
    (kk : ∀ (q : Nat) (H1 : Heap), va_P D cl (ws ++ [(q, Sum.inl (cO, N', Sum.inr (Sum.inr (Sum.inr (Sum.inr (fun _ => none))))))]) H1 → va_D A (ws ++ [(q, Sum.inl (cO, N', Sum.inr (Sum.inr (Sum.inr (Sum.inr (fun _ => none))))))]) → va_S A s.heap H1 locs → W p l e R s m args below meth c H1 locs (cells + 1) (slots + N') Q (F0 m (pc + 3) ls (.ref q :: rest))) : W p l e R s m args below meth c H locs cells slots Q (F0 m pc ls (.int n :: rest)) := by
  refine va_newq hx hb hown hclink hover hK hP hD hS hA hn hN hbytes hcells hslots hdg (fun q cA H1 hK1 hP1 hD1 hS1 => ?_)
  obtain ⟨_, _, -, -, -, e1⟩ := (hK.2 t0 _ ht).2
  obtain ⟨_, _, -, -, -, e2⟩ := (hK1.2 tys.length (cA, .object C) (by simp)).2
  have e3 : cA = cO := Option.some.inj (e2.symm.trans e1)
  subst e3
  exact kk q H1 hP1 hD1 hS1
end MYN
/-- the words of a call, out of the one list -/
theorem my_gV {y0 y : MethodName} {b0 b : ByteArray} {n0 n : Nat} {r0 r : Option FieldType} {own C : String} {idx : Nat} (h1 : Cond.methodLink own idx y ∈ gw) (h2 : Cond.instanceMethod y ∈ gw) (h3 : Cond.selects C y y ∈ gw) (h4 : Cond.initialized C ∈ gw) (h5 : Cond.code y b n r ∈ gw) : GoodIn (Cond.code y0 b0 n0 r0 :: gw) (wsV own idx C y (Cond.code y b n r :: gw)) := by
  intro w hw
  have hw' : w ∈ gw := by
    unfold wsV at hw
    simp only [List.cons_append, List.nil_append, List.mem_cons] at hw
    rcases hw with rfl | rfl | rfl | rfl | rfl | h
    · exact h1
    · exact h2
    · exact h3
    · exact h4
    · exact h5
    · exact h
  exact ⟨List.mem_cons_of_mem _ hw', (gw_good w hw').2⟩
theorem my_gS {y0 y : MethodName} {b0 b : ByteArray} {n0 n : Nat} {r0 r : Option FieldType} {own : String} {idx : Nat} (h1 : Cond.methodLink own idx y ∈ gw) (h2 : Cond.static y ∈ gw) (h4 : Cond.initialized own ∈ gw) (h5 : Cond.code y b n r ∈ gw) : GoodIn (Cond.code y0 b0 n0 r0 :: gw) (wsS own idx y (Cond.code y b n r :: gw)) := by
  intro w hw
  have hw' : w ∈ gw := by
    unfold wsS at hw
    simp only [List.cons_append, List.nil_append, List.mem_cons] at hw
    rcases hw with rfl | rfl | rfl | rfl | h
    · exact h1
    · exact h2
    · exact h4
    · exact h5
    · exact h
  exact ⟨List.mem_cons_of_mem _ hw', (gw_good w hw').2⟩
theorem my_gC {y0 y : MethodName} {b0 b : ByteArray} {n0 n : Nat} {r0 r : Option FieldType} (h5 : Cond.code y b n r ∈ gw) : GoodIn (Cond.code y0 b0 n0 r0 :: gw) (Cond.code y b n r :: gw) := by
  intro w hw
  have hw' : w ∈ gw := by
    rcases List.mem_cons.mp hw with rfl | h
    · exact h5
    · exact h
  exact ⟨List.mem_cons_of_mem _ hw', (gw_good w hw').2⟩
end
section
/-! PURE WORDS of the class: sums, rows, the odds of a model -/
/-- the sum of the first k -/
def sm (f : Nat → Int32) : Nat → Int32
  | 0 => 0
  | k + 1 => sm f k + f k
/-- an index that two tests let through -/
theorem in_of {i : Int32} {n : Nat} (hn : n < 2 ^ 31) (h0 : ¬ i < 0) (h1 : i < nI n) : vp_in i n := by
  rw [vp_in_iff]
  have a : 0 ≤ i.toInt := by
    have := h0
    rw [Int32.lt_iff_toInt_lt] at this
    simpa using this
  have b : i.toInt < (nI n).toInt := Int32.lt_iff_toInt_lt.mp h1
  rw [nI_toInt hn] at b
  exact ⟨a, b⟩
theorem in_of' {i : Int32} {n : Nat} (hn : n < 2 ^ 31) (h0 : 0 ≤ i) (h1 : ¬ nI n ≤ i) : vp_in i n := by
  refine in_of hn ?_ ?_
  · rw [Int32.lt_iff_toInt_lt]; rw [Int32.le_iff_toInt_le] at h0; omega
  · rw [Int32.lt_iff_toInt_lt]; rw [Int32.le_iff_toInt_le] at h1; omega
end
section
/-! PURE WORDS of a model's numbers: sums, the greatest, halves, scales -/
def ns (F : Nat → Nat) : Nat → Nat
  | 0 => 0
  | k + 1 => ns F k + F k
def upN (F : Nat → Nat) (k v : Nat) : Nat → Nat := fun j => if j = k then v else F j
theorem upN_s (F : Nat → Nat) (k v : Nat) : upN F k v k = v := by simp [upN]
theorem upN_n (F : Nat → Nat) {k v j : Nat} (h : j ≠ k) : upN F k v j = F j := by simp [upN, h]
/-- f holds G from b on, n places -/
def sgI (f : Nat → Int32) (b n : Nat) (G : Nat → Nat) : Prop := ∀ k, k < n → f (b + k) = nI (G k)
/-- but for those places f2 is f -/
def sgO (f2 f : Nat → Int32) (b n : Nat) : Prop := ∀ i, (i < b ∨ b + n ≤ i) → f2 i = f i
def sgL (fL f : Nat → Int32) (b n j : Nat) (G F : Nat → Nat) : Prop := sgI fL b j G ∧ (∀ k, j ≤ k → k < n → fL (b + k) = nI (F k)) ∧ sgO fL f b n
def sgM (fL f : Nat → Int32) (b n j : Nat) (G : Nat → Nat) : Prop := sgI fL b j G ∧ sgO fL f b n
theorem sgO_rf (f : Nat → Int32) (b n : Nat) : sgO f f b n := fun _ _ => rfl
theorem sgO_tr {f3 f2 f : Nat → Int32} {b n : Nat} (h : sgO f3 f2 b n) (h2 : sgO f2 f b n) : sgO f3 f b n := fun i hi => (h i hi).trans (h2 i hi)
theorem sgO_w {f2 f : Nat → Int32} {b n m : Nat} (h : sgO f2 f b n) (hm : n ≤ m) : sgO f2 f b m := fun i hi => h i (by omega)
theorem sgI_w {f : Nat → Int32} {b n m : Nat} {G : Nat → Nat} (h : sgI f b n G) (hm : m ≤ n) : sgI f b m G := fun k hk => h k (by omega)
theorem sgI_c {f : Nat → Int32} {b n : Nat} {G G2 : Nat → Nat} (h : sgI f b n G) (e : ∀ k, k < n → G k = G2 k) : sgI f b n G2 := fun k hk => by rw [h k hk, e k hk]
theorem sgL_0 {f : Nat → Int32} {b n : Nat} {G F : Nat → Nat} (h : sgI f b n F) : sgL f f b n 0 G F := ⟨fun k hk => absurd hk (Nat.not_lt_zero k), fun k _ hk => h k hk, sgO_rf _ _ _⟩
theorem sgL_rd {fL f : Nat → Int32} {b n j : Nat} {G F : Nat → Nat} (h : sgL fL f b n j G F) (hj : j < n) : fL (b + j) = nI (F j) := h.2.1 j (Nat.le_refl _) hj
theorem sgL_st {fL f : Nat → Int32} {b n j i : Nat} {G F : Nat → Nat} {x : Int32} (h : sgL fL f b n j G F) (hj : j < n) (hi : i = b + j) (hx : x = nI (G j)) : sgL (upd fL i x) f b n (j + 1) G F := by
  subst hi
  refine ⟨fun k hk => ?_, fun k hk hk2 => ?_, fun q hq => ?_⟩
  · by_cases e : k = j
    · subst e; rw [pk_us, hx]
    · rw [pk_un (by omega)]; exact h.1 k (by omega)
  · rw [pk_un (by omega)]; exact h.2.1 k (by omega) hk2
  · rw [pk_un (by omega)]; exact h.2.2 q hq
theorem sgL_e {fL f : Nat → Int32} {b n : Nat} {G F : Nat → Nat} (h : sgL fL f b n n G F) : sgI fL b n G ∧ sgO fL f b n := ⟨h.1, h.2.2⟩
theorem sgM_0 (f : Nat → Int32) (b n : Nat) (G : Nat → Nat) : sgM f f b n 0 G := ⟨fun k hk => absurd hk (Nat.not_lt_zero k), sgO_rf _ _ _⟩
theorem sgM_st {fL f : Nat → Int32} {b n j i : Nat} {G : Nat → Nat} {x : Int32} (h : sgM fL f b n j G) (hj : j < n) (hi : i = b + j) (hx : x = nI (G j)) : sgM (upd fL i x) f b n (j + 1) G := by
  subst hi
  refine ⟨fun k hk => ?_, fun q hq => ?_⟩
  · by_cases e : k = j
    · subst e; rw [pk_us, hx]
    · rw [pk_un (by omega)]; exact h.1 k (by omega)
  · rw [pk_un (by omega)]; exact h.2 q hq
/-- one place of a segment -/
theorem sg_up {f : Nat → Int32} {b n j i : Nat} {F : Nat → Nat} {x : Int32} {v : Nat} (h : sgI f b n F) (hj : j < n) (hi : i = b + j) (hx : x = nI v) : sgI (upd f i x) b n (upN F j v) ∧ sgO (upd f i x) f b n := by
  subst hi
  refine ⟨fun k hk => ?_, fun q hq => pk_un (by omega)⟩
  by_cases e : k = j
  · subst e; rw [pk_us, upN_s, hx]
  · rw [pk_un (by omega), upN_n _ e]; exact h k hk
def bd (F : Nat → Nat) (n B : Nat) : Prop := ∀ k, k < n → F k ≤ B
theorem ns_le {F : Nat → Nat} {B : Nat} : ∀ {n : Nat}, bd F n B → ns F n ≤ n * B
  | 0, _ => by simp [ns]
  | n + 1, h => by
    have h1 := ns_le (n := n) (fun k hk => h k (by omega))
    have h2 := h n (by omega)
    rw [ns, Nat.succ_mul]
    omega
theorem ns_le64 {F : Nat → Nat} {B n : Nat} (hn : n ≤ 64) (h : bd F n B) : ns F n ≤ 64 * B := Nat.le_trans (ns_le h) (Nat.mul_le_mul_right B hn)
theorem ns_up {F : Nat → Nat} {j v : Nat} : ∀ {n : Nat}, j < n → ns (upN F j v) n + F j = ns F n + v
  | 0, h => absurd h (Nat.not_lt_zero _)
  | n + 1, h => by
    by_cases e : j = n
    · subst e
      have : ∀ m, m ≤ j → ns (upN F j v) m = ns F m := by
        intro m
        induction m with
        | zero => intro _; rfl
        | succ m ih => intro hm; rw [ns, ns, ih (by omega), upN_n _ (by omega)]
      rw [ns, ns, this j (Nat.le_refl _), upN_s]; omega
    · have := ns_up (F := F) (v := v) (n := n) (by omega : j < n)
      rw [ns, ns, upN_n F (by omega : n ≠ j)]; omega
theorem ns_pos {F : Nat → Nat} : ∀ {n : Nat}, 0 < ns F n → ∃ k, k < n ∧ 0 < F k
  | 0, h => absurd h (by simp [ns])
  | n + 1, h => by
    rw [ns] at h
    by_cases e : 0 < F n
    · exact ⟨n, by omega, e⟩
    · obtain ⟨k, h1, h2⟩ := ns_pos (F := F) (n := n) (by omega)
      exact ⟨k, by omega, h2⟩
theorem ns_ge {F : Nat → Nat} {j : Nat} : ∀ {n : Nat}, j < n → F j ≤ ns F n
  | 0, h => absurd h (Nat.not_lt_zero _)
  | n + 1, h => by
    rw [ns]
    by_cases e : j = n
    · subst e; omega
    · have := ns_ge (F := F) (n := n) (by omega : j < n); omega
/-- the greatest, of several the first -/
def gr (F : Nat → Nat) : Nat → Nat
  | 0 => 0
  | k + 1 => if F (gr F k) < F k then k else gr F k
theorem gr_lt (F : Nat → Nat) : ∀ {n : Nat}, 0 < n → gr F n < n
  | 0, h => absurd h (Nat.not_lt_zero _)
  | n + 1, _ => by
    rw [gr]
    split
    · omega
    · by_cases e : 0 < n
      · have := gr_lt F e; omega
      · have : n = 0 := by omega
        subst this; simp [gr]
theorem gr_ge (F : Nat → Nat) : ∀ {n k : Nat}, k < n → F k ≤ F (gr F n)
  | 0, _, h => absurd h (Nat.not_lt_zero _)
  | n + 1, k, h => by
    rw [gr]
    by_cases e : k = n
    · subst e; split <;> omega
    · have := gr_ge F (n := n) (by omega : k < n)
      split <;> omega
theorem gr_pos {F : Nat → Nat} {n : Nat} (h : 0 < ns F n) : 0 < F (gr F n) := by
  obtain ⟨k, h1, h2⟩ := ns_pos h
  exact Nat.lt_of_lt_of_le h2 (gr_ge F h1)
def hv (F : Nat → Nat) : Nat → Nat := fun k => (F k + 1) / 2
def lesN (n : Nat) : Nat → (Nat → Nat) → (Nat → Nat)
  | 0, F => F
  | r + 1, F => if ns F n ≤ 8192 then F else lesN n r (hv F)
/-- as long as the sum is above 8192, halves -/
def les (n : Nat) (F : Nat → Nat) : Nat → Nat := lesN n 32 F
/-- what a COUNT can be after so many halvings -/
def lb (r : Nat) : Nat := if 32 ≤ r then 4095 else if r = 31 then 2048 else if r = 30 then 1024 else if r = 29 then 512 else if r = 28 then 256 else 128
theorem lb_st {r x : Nat} (h0 : 27 < r) (h1 : r ≤ 32) (h : x ≤ lb r) : (x + 1) / 2 ≤ lb (r - 1) := by
  have hr : r = 28 ∨ r = 29 ∨ r = 30 ∨ r = 31 ∨ r = 32 := by omega
  rcases hr with e | e | e | e | e <;> subst e <;> simp [lb] at h ⊢ <;> omega
theorem lesN_e {n r : Nat} {F : Nat → Nat} (h : ns F n ≤ 8192) : lesN n r F = F := by
  cases r with
  | zero => rfl
  | succ r => rw [lesN, if_pos h]
theorem lesN_s {n r : Nat} {F : Nat → Nat} (h0 : 0 < r) (h : ¬ ns F n ≤ 8192) : lesN n r F = lesN n (r - 1) (hv F) := by
  cases r with
  | zero => omega
  | succ r => rw [lesN, if_neg h]; rfl
def lrn (n t : Nat) (F : Nat → Nat) : Nat → Nat := if ns (upN F t (F t + 32)) n ≤ 8192 then upN F t (F t + 32) else hv (upN F t (F t + 32))
def scG (n M : Nat) (F : Nat → Nat) : Nat → Nat := fun k => if F k = 0 then 0 else if F k * M / ns F n < 1 then 1 else F k * M / ns F n
def dec (n : Nat) : Nat → (Nat → Nat) → (Nat → Nat)
  | 0, G => G
  | e + 1, G => dec n e (upN G (gr G n) (G (gr G n) - 1))
def scE (n M : Nat) (G : Nat → Nat) : Nat → Nat := upN G (gr G n) (G (gr G n) + (M - ns G n))
/-- SCALED to M -/
def sc (n M : Nat) (F : Nat → Nat) : Nat → Nat := if ns F n = 0 then F else scE n M (dec n (ns (scG n M F) n - M) (scG n M F))
theorem nI_cmp {a b : Nat} (ha : a < 2 ^ 31) (hb : b < 2 ^ 31) : nI a ≤ nI b ↔ a ≤ b := nI_leI ha hb
theorem one_ne {r : Int32} {P : Prop} [Decidable P] (h : r = if P then 1 else 0) (c : ¬ r = 0) : P := by
  by_cases hp : P
  · exact hp
  · rw [if_neg hp] at h; exact absurd h c
theorem one_eq {r : Int32} {P : Prop} [Decidable P] (h : r = if P then 1 else 0) (c : r = 0) : ¬ P := by
  intro hp
  rw [if_pos hp] at h
  rw [h] at c
  exact absurd c (by decide)
/-- a model's or a sign's number -/
abbrev isN (k : Nat) (p : Int32) : Prop := 0 ≤ p ∧ p ≤ nI k - 1
theorem isN_iff {k : Nat} {p : Int32} (hk : k < 2 ^ 30) : isN k p ↔ ∃ j, j < k ∧ p = nI j := by
  constructor
  · rintro ⟨h0, h1⟩
    obtain ⟨j, hj, rfl⟩ := nI_of (Int32.not_lt.mpr h0)
    refine ⟨j, ?_, rfl⟩
    cases k with
    | zero => rw [Int32.le_iff_toInt_le, nI_toInt hj] at h1; have : ((nI 0 - 1 : Int32)).toInt = -1 := by decide
              rw [this] at h1; omega
    | succ k => rw [nI_pred] at h1; have := (nI_leI hj (by omega)).mp h1; omega
  · rintro ⟨j, hj, rfl⟩
    refine ⟨nI_pos' (by omega), ?_⟩
    cases k with
    | zero => omega
    | succ k => rw [nI_pred]; exact nI_le (by omega) (by omega)
/-- how many levels a model of n signs has -/
def lev (n : Nat) : Nat := if n ≤ 1 then 0 else if n ≤ 2 then 1 else if n ≤ 4 then 2 else if n ≤ 8 then 3 else if n ≤ 16 then 4 else if n ≤ 32 then 5 else 6
theorem lev_of {n j : Nat} (hj : j ≤ 6) (h : n ≤ 2 ^ j) (h2 : 0 < j → 2 ^ (j - 1) < n) : j = lev n := by
  have hh : j = 0 ∨ j = 1 ∨ j = 2 ∨ j = 3 ∨ j = 4 ∨ j = 5 ∨ j = 6 := by omega
  unfold lev
  rcases hh with e | e | e | e | e | e | e <;> subst e <;> simp at h h2 <;> repeat (first | omega | split)
theorem shl1 : ∀ j, j < 31 → (1 : Int32) <<< (nI j &&& 31) = nI (2 ^ j) := by decide +kernel
theorem scG_le {n M : Nat} {F : Nat → Nat} (hM : 1 ≤ M) : bd (scG n M F) n M := by
  intro k hk
  unfold scG
  split
  · omega
  · split
    · exact hM
    · have h1 := ns_ge (F := F) hk
      have h2 : F k * M / ns F n ≤ ns F n * M / ns F n := Nat.div_le_div_right (Nat.mul_le_mul_right M h1)
      rcases Nat.eq_zero_or_pos (ns F n) with e | e
      · rw [e]; simp
      · rw [Nat.mul_div_cancel_left M e] at h2; exact h2
theorem dec_bd {n B : Nat} {G : Nat → Nat} (h : bd G n B) : bd (upN G (gr G n) (G (gr G n) - 1)) n B := by
  intro k hk
  by_cases e : k = gr G n
  · subst e; rw [upN_s]; have := h _ hk; omega
  · rw [upN_n _ e]; exact h k hk
theorem dec_ns {n : Nat} {G : Nat → Nat} (hn : 0 < n) (h : 0 < ns G n) : ns (upN G (gr G n) (G (gr G n) - 1)) n = ns G n - 1 := by
  have h1 := ns_up (F := G) (v := G (gr G n) - 1) (gr_lt G hn)
  have h2 := gr_pos h
  omega
theorem dec_st {n M : Nat} {G : Nat → Nat} (hn : 0 < n) (h : M < ns G n) : dec n (ns G n - M) G = dec n (ns (upN G (gr G n) (G (gr G n) - 1)) n - M) (upN G (gr G n) (G (gr G n) - 1)) := by
  rw [dec_ns hn (by omega)]
  have e : ns G n - M = (ns G n - 1 - M) + 1 := by omega
  rw [e, dec]
theorem dec_0 {n M : Nat} {G : Nat → Nat} (h : ns G n ≤ M) : dec n (ns G n - M) G = G := by
  have e : ns G n - M = 0 := by omega
  rw [e, dec]
theorem ns_m (F : Nat → Nat) {t : Nat} : ∀ {n : Nat}, t ≤ n → ns F t ≤ ns F n
  | 0, h => by have : t = 0 := by omega
               subst this; exact Nat.le_refl _
  | n + 1, h => by
    by_cases e : t = n + 1
    · subst e; exact Nat.le_refl _
    · have := ns_m F (n := n) (by omega : t ≤ n)
      rw [ns]; omega
theorem ns_m1 (F : Nat → Nat) {t n : Nat} (h : t < n) : ns F t + F t ≤ ns F n := ns_m F (t := t + 1) h
end
section
/-! longs as naturals, with the literals of the code -/
theorem L_shl8 (n : Nat) : lN n <<< ((8 : Int32).toInt64 &&& 63) = lN (n * 256) := wb_shl n (k := 8) (by decide)
theorem L_shl12 (n : Nat) : lN n <<< ((12 : Int32).toInt64 &&& 63) = lN (n * 4096) := wb_shl n (k := 12) (by decide)
theorem L_shl19 (n : Nat) : lN n <<< ((19 : Int32).toInt64 &&& 63) = lN (n * 524288) := wb_shl n (k := 19) (by decide)
theorem L_shr24 {n : Nat} (h : n < 2 ^ 62) : lN n >>> ((24 : Int32).toInt64 &&& 63) = lN (n / 16777216) := pf_shr (d := 24) (by decide +kernel) h
theorem L_shr32 {n : Nat} (h : n < 2 ^ 62) : lN n >>> ((32 : Int32).toInt64 &&& 63) = lN (n / 4294967296) := pf_shr (d := 32) (by decide +kernel) h
theorem L_shr11 {n : Nat} (h : n < 2 ^ 62) : lN n >>> ((11 : Int32).toInt64 &&& 63) = lN (n / 2048) := pf_shr (d := 11) (by decide +kernel) h
theorem L_shr12 {n : Nat} (h : n < 2 ^ 62) : lN n >>> ((12 : Int32).toInt64 &&& 63) = lN (n / 4096) := pf_shr (d := 12) (by decide +kernel) h
theorem L_shr8 {n : Nat} (h : n < 2 ^ 62) : lN n >>> ((8 : Int32).toInt64 &&& 63) = lN (n / 256) := pf_shr (d := 8) (by decide +kernel) h
theorem L_shr1 {n : Nat} (h : n < 2 ^ 62) : lN n >>> ((1 : Int32).toInt64 &&& 63) = lN (n / 2) := pf_shr (d := 1) (by decide +kernel) h
theorem L_and32 {n : Nat} (h : n < 2 ^ 64) : lN n &&& 4294967295 = lN (n % 4294967296) := g_mask (s := 32) (p := 4294967296) (by decide) (by decide) h
theorem L_and24 {n : Nat} (h : n < 2 ^ 64) : lN n &&& 16777215 = lN (n % 16777216) := g_mask (s := 24) (p := 16777216) (by decide) (by decide) h
theorem L_and16 {n : Nat} (h : n < 2 ^ 64) : lN n &&& 65535 = lN (n % 65536) := g_mask (s := 16) (p := 65536) (by decide) (by decide) h
theorem L_and12 {n : Nat} (h : n < 2 ^ 64) : lN n &&& 4095 = lN (n % 4096) := g_mask (s := 12) (p := 4096) (by decide) (by decide) h
theorem L_and8 {n : Nat} (h : n < 2 ^ 64) : lN n &&& 255 = lN (n % 256) := g_mask (s := 8) (p := 256) (by decide) (by decide) h
theorem L_lt {a b : Nat} (ha : a < 2 ^ 63) (hb : b < 2 ^ 63) : lN a < lN b ↔ a < b := pk_lLT ha hb
theorem L_le {a b : Nat} (ha : a < 2 ^ 63) (hb : b < 2 ^ 63) : lN a ≤ lN b ↔ a ≤ b := pk_lLE ha hb
/-! THE MESSAGE'S STATE of forms 0 to 2: RANGE, LOW, CACHE, PENDING, the bytes that have come -/
abbrev ES : Type := Nat × Nat × Option Nat × Nat × List Nat
abbrev eR (e : ES) : Nat := e.1
abbrev eL (e : ES) : Nat := e.2.1
abbrev eC (e : ES) : Option Nat := e.2.2.1
abbrev eP (e : ES) : Nat := e.2.2.2.1
abbrev eB (e : ES) : List Nat := e.2.2.2.2
/-- a CACHE as an int -/
def caI : Option Nat → Int32
  | none => -1
  | some c => nI c
def caB : Option Nat → Nat → List Nat
  | none, _ => []
  | some c, k => [(c + k) % 256]
abbrev shO (L : Nat) : Prop := L < 4278190080 ∨ 4294967296 ≤ L
/-- LOW is SHIFTED -/
def shL (L : Nat) : Nat := L % 16777216 * 256
def shC (L : Nat) (ca : Option Nat) : Option Nat := if shO L then some (L / 16777216 % 256) else ca
def shP (L P : Nat) : Nat := if shO L then 0 else P + 1
def shB (L : Nat) (ca : Option Nat) (P : Nat) (bs : List Nat) : List Nat := if shO L then bs ++ caB ca (L / 4294967296) ++ List.replicate P ((255 + L / 4294967296) % 256) else bs
def shS (e : ES) : ES := (eR e, shL (eL e), shC (eL e) (eC e), shP (eL e) (eP e), shB (eL e) (eC e) (eP e) (eB e))
/-- RANGE is widened: at most so many times -/
def wdN : Nat → ES → ES
  | 0, e => e
  | k + 1, e => if eR e < 16777216 then wdN k (shS (eR e * 256, e.2)) else e
def wdS (e : ES) : ES := wdN 8 e
/-- a list of bytes in an array -/
def gIs (f : Nat → Int32) (bs : List Nat) : Prop := ∀ i, i < bs.length → f i = nI (bs.getD i 0)
theorem gIs_add {f g : Nat → Int32} {bs : List Nat} {x : Nat} (h : gIs f bs) (hg : ∀ i, i < bs.length → g i = f i) (hx : g bs.length = nI x) : gIs g (bs ++ [x]) := by
  intro i hi
  rw [List.length_append, List.length_singleton] at hi
  rcases Nat.lt_or_ge i bs.length with h1 | h1
  · rw [hg i h1, h i h1]
    simp [List.getD_eq_getElem?_getD, List.getElem?_append_left h1]
  · have e : i = bs.length := by omega
    subst e
    rw [hx]
    simp [List.getD_eq_getElem?_getD]
theorem gIs_up {f : Nat → Int32} {bs : List Nat} {i x : Nat} {v : Int32} (h : gIs f bs) (hi : i = bs.length) (hx : v = nI x) : gIs (upd f i v) (bs ++ [x]) := by
  subst hi
  exact gIs_add h (fun j hj => pk_un (by omega)) (by rw [pk_us, hx])
theorem caI_ne {c : Option Nat} (h : ∀ x, c = some x → x < 256) : caI c = -1 ↔ c = none := by
  cases c with
  | none => simp [caI]
  | some x =>
    have hx := h x rfl
    simp only [caI, reduceCtorEq, iff_false]
    intro e
    have e1 := congrArg Int32.toInt e
    rw [nI_toInt (by omega)] at e1
    have : ((-1 : Int32)).toInt = -1 := by decide
    omega
/-- what holds of a message's state -/
def eOk (e : ES) : Prop := eL e < 8589934592 ∧ (∀ x, eC e = some x → x < 256)
theorem eOk_sh {e : ES} (h : eOk e) : eOk (shS e) := by
  refine ⟨?_, ?_⟩
  · show shL (eL e) < _
    unfold shL
    have := Nat.mod_lt (eL e) (show 0 < 16777216 by decide)
    omega
  · intro x hx
    simp only [shS, eC, shC] at hx
    split at hx
    · cases hx; exact Nat.mod_lt _ (by decide)
    · exact h.2 x hx
/-- how many bytes there can be, at most -/
def eN (e : ES) : Nat := (eB e).length + eP e + 1
theorem caB_le (c : Option Nat) (k : Nat) : (caB c k).length ≤ 1 := by cases c <;> simp [caB]
theorem eN_sh (e : ES) : eN (shS e) ≤ eN e + 1 := by
  obtain ⟨r, l, c, p, b⟩ := e
  have h := caB_le c (l / 4294967296)
  unfold eN
  simp only [shS, shB, shP, eB, eP, eC, eL]
  split
  · simp only [List.length_append, List.length_replicate]
    omega
  · omega
theorem wdN_e {k : Nat} {e : ES} (h : ¬ eR e < 16777216) : wdN k e = e := by
  cases k with
  | zero => rfl
  | succ k => rw [wdN, if_neg h]
theorem wdN_s {k : Nat} {e : ES} (h0 : 0 < k) (h : eR e < 16777216) : wdN k e = wdN (k - 1) (shS (eR e * 256, e.2)) := by
  cases k with
  | zero => omega
  | succ k => rw [wdN, if_pos h]; rfl
/-- a RANGE is at least this, with k times left -/
def wb8 (k : Nat) : Nat := 256 ^ (8 - k)
theorem wb8_k {k r : Nat} (h5 : 5 ≤ k) (h : wb8 k ≤ r) (hr : r < 16777216) : 5 < k := by
  rcases Nat.lt_or_ge 5 k with q | q
  · exact q
  · have e : k = 5 := by omega
    subst e
    have : wb8 5 = 16777216 := by decide
    omega
theorem wb8_s {k r : Nat} (h5 : 5 < k) (h8 : k ≤ 8) (h : wb8 k ≤ r) : wb8 (k - 1) ≤ r * 256 := by
  have hk : k = 6 ∨ k = 7 ∨ k = 8 := by omega
  rcases hk with e | e | e <;> subst e
  · have a : wb8 6 = 65536 := by decide
    have b : wb8 (6 - 1) = 16777216 := by decide
    omega
  · have a : wb8 7 = 256 := by decide
    have b : wb8 (7 - 1) = 65536 := by decide
    omega
  · have a : wb8 8 = 1 := by decide
    have b : wb8 (8 - 1) = 256 := by decide
    omega
theorem sl32 : ∀ n, n < 32 → ((nI n &&& 31).toBitVec.smod 32).toNat = n := by decide +kernel
theorem I_shr {n s : Nat} (h : n < 2 ^ 31) (hs : s < 32) : nI n >>> (nI s &&& 31) = nI (n / 2 ^ s) := pk_shrN h _ s (sl32 s hs)
/-- a CHANCE learns -/
def mvC (sh bt p : Nat) : Nat := if bt = 0 then p + (2048 - p) / 2 ^ sh else p - p / 2 ^ sh
/-- a bit is coded by the CHANCE p -/
def btS (p bt Rg L : Nat) (ca : Option Nat) (Pn : Nat) (bs : List Nat) : ES := if bt = 0 then (Rg / 2048 * p, L, ca, Pn, bs) else (Rg - Rg / 2048 * p, L + Rg / 2048 * p, ca, Pn, bs)
/-- what holds of a message's state between items -/
def eInv (e : ES) : Prop := 16777216 ≤ eR e ∧ eR e < 4294967296 ∧ eL e + eR e ≤ 8589934592 ∧ ∀ x, eC e = some x → x < 256
theorem wd_main : ∀ (c k : Nat) (e : ES), c ≤ 3 → c < k → 256 ^ (3 - c) ≤ eR e → eR e < 4294967296 → eL e + eR e ≤ 8589934592 → (∀ x, eC e = some x → x < 256) → eInv (wdN k e) ∧ eN (wdN k e) ≤ eN e + c := by
  intro c
  induction c with
  | zero =>
    intro k e _ _ h1 h2 h3 h4
    have h5 : 16777216 ≤ eR e := h1
    rw [wdN_e (by omega)]
    exact ⟨⟨h5, h2, h3, h4⟩, Nat.le_refl _⟩
  | succ c ih =>
    intro k e hc hk h1 h2 h3 h4
    by_cases h : eR e < 16777216
    · rw [wdN_s (by omega) h]
      have hp : 256 ^ (3 - c) = 256 ^ (3 - (c + 1)) * 256 := by rw [← Nat.pow_succ]; congr 1; omega
      have hm := Nat.mod_lt (eL e) (show 0 < 16777216 by decide)
      have hp0 : 0 < eR e := Nat.lt_of_lt_of_le (Nat.pow_pos (by decide)) h1
      have hok := eOk_sh (e := (eR e * 256, e.2)) ⟨by show eL e < _; omega, h4⟩
      have q := ih (k - 1) (shS (eR e * 256, e.2)) (by omega) (by omega) (by show _ ≤ eR e * 256; rw [hp]; exact Nat.mul_le_mul_right _ h1) (by show eR e * 256 < _; omega) (by show shL (eL e) + eR e * 256 ≤ _; unfold shL; omega) hok.2
      refine ⟨q.1, ?_⟩
      have q2 := eN_sh (eR e * 256, e.2)
      have q3 : eN (eR e * 256, e.2) = eN e := rfl
      omega
    · rw [wdN_e h]
      exact ⟨⟨by omega, h2, h3, h4⟩, by omega⟩
theorem wd_inv {e : ES} (h1 : 0 < eR e) (h2 : eR e < 4294967296) (h3 : eL e + eR e ≤ 8589934592) (h4 : ∀ x, eC e = some x → x < 256) : eInv (wdS e) ∧ eN (wdS e) ≤ eN e + 3 := wd_main 3 8 e (by decide) (by decide) h1 h2 h3 h4
theorem wd_inv2 {e : ES} (h1 : 256 ≤ eR e) (h2 : eR e < 4294967296) (h3 : eL e + eR e ≤ 8589934592) (h4 : ∀ x, eC e = some x → x < 256) : eInv (wdS e) ∧ eN (wdS e) ≤ eN e + 2 := wd_main 2 8 e (by decide) (by decide) h1 h2 h3 h4
theorem wd_inv1 {e : ES} (h1 : 65536 ≤ eR e) (h2 : eR e < 4294967296) (h3 : eL e + eR e ≤ 8589934592) (h4 : ∀ x, eC e = some x → x < 256) : eInv (wdS e) ∧ eN (wdS e) ≤ eN e + 1 := wd_main 1 8 e (by decide) (by decide) h1 h2 h3 h4
/-- the bits of a VALUE of form 2, k of them still to come -/
def vbN (v : Nat) : Nat → ES → ES
  | 0, e => e
  | k + 1, e => vbN v k (wdS (eR e / 2, (if v / 2 ^ k % 2 = 1 then eL e + eR e / 2 else eL e), e.2.2))
theorem vb_inv {e : ES} (h : eInv e) (b : Prop) [Decidable b] : eInv (wdS (eR e / 2, (if b then eL e + eR e / 2 else eL e), e.2.2)) ∧ eN (wdS (eR e / 2, (if b then eL e + eR e / 2 else eL e), e.2.2)) ≤ eN e + 1 := by
  obtain ⟨h1, h2, h3, h4⟩ := h
  have q := wd_inv1 (e := (eR e / 2, (if b then eL e + eR e / 2 else eL e), e.2.2)) (by show 65536 ≤ eR e / 2; omega) (by show eR e / 2 < _; omega) (by show (if b then eL e + eR e / 2 else eL e) + eR e / 2 ≤ _; split <;> omega) h4
  exact ⟨q.1, q.2⟩
theorem bt_inv {p bt : Nat} {e : ES} (h : eInv e) (hp1 : 1 ≤ p) (hp2 : p ≤ 2047) : eInv (wdS (btS p bt (eR e) (eL e) (eC e) (eP e) (eB e))) ∧ eN (wdS (btS p bt (eR e) (eL e) (eC e) (eP e) (eB e))) ≤ eN e + 2 := by
  obtain ⟨h1, h2, h3, h4⟩ := h
  have q1 : 8192 ≤ eR e / 2048 := by omega
  have q2 : eR e / 2048 * p ≤ eR e / 2048 * 2047 := Nat.mul_le_mul_left _ hp2
  have q3 : eR e / 2048 * 1 ≤ eR e / 2048 * p := Nat.mul_le_mul_left _ hp1
  unfold btS
  generalize eR e / 2048 * p = bb at q2 q3
  split
  · exact wd_inv2 (e := (bb, eL e, eC e, eP e, eB e)) (by show 256 ≤ bb; omega) (by show bb < _; omega) (by show eL e + bb ≤ _; omega) h4
  · exact wd_inv2 (e := (eR e - bb, eL e + bb, eC e, eP e, eB e)) (by show 256 ≤ eR e - bb; omega) (by show eR e - bb < _; omega) (by show eL e + bb + (eR e - bb) ≤ _; omega) h4
theorem mvC_ok {sh bt p : Nat} (hs : 1 ≤ sh) (hp1 : 1 ≤ p) (hp2 : p ≤ 2047) : 1 ≤ mvC sh bt p ∧ mvC sh bt p ≤ 2047 := by
  have h2 : 2 ≤ 2 ^ sh := Nat.pow_le_pow_right (n := 2) (by decide) hs
  have a : p / 2 ^ sh ≤ p / 2 := Nat.div_le_div_left h2 (by decide)
  have b : (2048 - p) / 2 ^ sh ≤ (2048 - p) / 2 := Nat.div_le_div_left h2 (by decide)
  unfold mvC
  generalize p / 2 ^ sh = x at a
  generalize (2048 - p) / 2 ^ sh = y at b
  split <;> omega
/-- the bits of a sign of form 2: NODE, the message's state, the CHANCES -/
def spN (sh s : Nat) : Nat → Nat → ES → (Nat → Nat) → ES × (Nat → Nat)
  | 0, _, e, C => (e, C)
  | k + 1, nd, e, C => spN sh s k (2 * nd + s / 2 ^ k % 2) (wdS (btS (C nd) (s / 2 ^ k % 2) (eR e) (eL e) (eC e) (eP e) (eB e))) (upN C nd (mvC sh (s / 2 ^ k % 2) (C nd)))
theorem nd_st {lv j nd b : Nat} (hj : 1 ≤ j) (hj2 : j ≤ lv) (h : 0 < nd ∧ nd < 2 ^ (lv - j + 1)) (hb : b < 2) : 0 < 2 * nd + b ∧ 2 * nd + b < 2 ^ (lv - (j - 1) + 1) := by
  have z : 2 ^ (lv - (j - 1) + 1) = 2 * 2 ^ (lv - j + 1) := by rw [show lv - (j - 1) + 1 = (lv - j + 1) + 1 by omega, Nat.pow_succ, Nat.mul_comm]
  omega
theorem ch_up {D : Nat → Nat} {nd sh b : Nat} (hs : 1 ≤ sh) (h : ∀ k, k < 64 → 1 ≤ D k ∧ D k ≤ 2047) : ∀ k, k < 64 → 1 ≤ upN D nd (mvC sh b (D nd)) k ∧ upN D nd (mvC sh b (D nd)) k ≤ 2047 := by
  intro k hk
  by_cases e : k = nd
  · subst e; rw [upN_s]; exact mvC_ok hs (h k hk).1 (h k hk).2
  · rw [upN_n _ e]; exact h k hk
end
section
/-! THE READING: bytes and bits of IN, RANGE and CODE -/
abbrev byA (is : List Nat) (q : Nat) : Nat := is.getD q 0
def oct (is : List Nat) : Prop := ∀ i, byA is i < 256
def frN (is : List Nat) (q : Nat) : Nat → Nat
  | 0 => 0
  | j + 1 => frN is q j * 256 + byA is (q + j)
theorem frN_lt {is : List Nat} (h : oct is) (q : Nat) : ∀ j, frN is q j < 256 ^ j
  | 0 => by simp [frN]
  | j + 1 => by
    have h1 := frN_lt h q j
    have h2 := h (q + j)
    rw [frN, Nat.pow_succ]
    omega
def biA (is : List Nat) (t : Nat) : Nat := byA is (t / 8) / 2 ^ (7 - t % 8) % 2
abbrev RS : Type := Nat × Nat × Nat
/-- RANGE, CODE, bytes asked for: widened -/
def wrN (is : List Nat) : Nat → RS → RS
  | 0, r => r
  | k + 1, r => if r.1 < 16777216 then wrN is k (r.1 * 256, r.2.1 * 256 % 4294967296 + byA is r.2.2, r.2.2 + 1) else r
def wrS (is : List Nat) (r : RS) : RS := wrN is 8 r
theorem wrN_e {is : List Nat} {k : Nat} {r : RS} (h : ¬ r.1 < 16777216) : wrN is k r = r := by
  cases k with
  | zero => rfl
  | succ k => rw [wrN, if_neg h]
theorem wrN_s {is : List Nat} {k : Nat} {r : RS} (h0 : 0 < k) (h : r.1 < 16777216) : wrN is k r = wrN is (k - 1) (r.1 * 256, r.2.1 * 256 % 4294967296 + byA is r.2.2, r.2.2 + 1) := by
  cases k with
  | zero => omega
  | succ k => rw [wrN, if_pos h]; rfl
/-- X, bytes asked for: filled again -/
def rfN (is : List Nat) : Nat → Nat × Nat → Nat × Nat
  | 0, r => r
  | k + 1, r => if r.1 < 8388608 then rfN is k (r.1 * 256 + byA is r.2, r.2 + 1) else r
def rfS (is : List Nat) (r : Nat × Nat) : Nat × Nat := rfN is 8 r
theorem rfN_e {is : List Nat} {k : Nat} {r : Nat × Nat} (h : ¬ r.1 < 8388608) : rfN is k r = r := by
  cases k with
  | zero => rfl
  | succ k => rw [rfN, if_neg h]
theorem rfN_s {is : List Nat} {k : Nat} {r : Nat × Nat} (h0 : 0 < k) (h : r.1 < 8388608) : rfN is k r = rfN is (k - 1) (r.1 * 256 + byA is r.2, r.2 + 1) := by
  cases k with
  | zero => omega
  | succ k => rw [rfN, if_pos h]; rfl
theorem L_or8 {a b : Nat} (hb : b < 256) (h : a * 256 + b < 2 ^ 64) : lN (a * 256) ||| lN b = lN (a * 256 + b) := g_or (k := 8) (p := 256) (by decide) hb h
theorem I_shrA {n x : Nat} {s : Int32} (h : n < 2 ^ 31) (hs : s = nI x) (hx : x < 32) : nI n >>> (s &&& 31) = nI (n / 2 ^ x) := by subst hs; exact I_shr h hx
theorem I_and1 {n : Nat} (h : n < 2 ^ 32) : nI n &&& 1 = nI (n % 2) := pk_andN h 1 (by decide +kernel)
/-- the sign whose part holds u: k tries left, from s on -/
def fs (F : Nat → Nat) (u : Nat) : Nat → Nat → Nat
  | 0, s => s
  | k + 1, s => if u < ns F (s + 1) then s else fs F u k (s + 1)
def sgA (F : Nat → Nat) (n u : Nat) : Nat := fs F u n 0
theorem fs_spec {F : Nat → Nat} {u : Nat} : ∀ (k s : Nat), ns F s ≤ u → u < ns F (s + k) → fs F u k s < s + k ∧ ns F (fs F u k s) ≤ u ∧ u < ns F (fs F u k s + 1)
  | 0, s, h1, h2 => by rw [Nat.add_zero] at h2; omega
  | k + 1, s, h1, h2 => by
    rw [fs]
    split
    · rename_i h; exact ⟨by omega, h1, h⟩
    · rename_i h
      have q := fs_spec (F := F) (u := u) k (s + 1) (by omega) (by rw [show s + 1 + k = s + (k + 1) by omega]; exact h2)
      exact ⟨by omega, q.2⟩
theorem sgA_spec {F : Nat → Nat} {n u : Nat} (h : u < ns F n) : sgA F n u < n ∧ ns F (sgA F n u) ≤ u ∧ u < ns F (sgA F n u) + F (sgA F n u) := by
  have q := fs_spec (F := F) (u := u) n 0 (Nat.zero_le _) (by rw [Nat.zero_add]; exact h)
  rw [Nat.zero_add] at q
  exact ⟨q.1, q.2.1, q.2.2⟩
/-- v of an item, if it isn't BAD -/
def wnt (tt RR x : Nat) : Option Nat := if RR / tt = 0 then none else if x / (RR / tt) < tt then some (x / (RR / tt)) else none
def oL : Option Nat → Int64
  | none => -1
  | some v => lN v
theorem L_sub32 {a b : Nat} (ha : a < 4294967296) (hb : b < 4294967296) : lN a - lN b &&& 4294967295 = lN ((a + 4294967296 - b) % 4294967296) := by
  have e : lN a - lN b = lN (a + (18446744073709551616 - b)) := by
    apply wb_inj
    rw [Int64.toBitVec_sub, wb_tb, wb_tb, wb_tb]
    apply BitVec.eq_of_toNat_eq
    rw [BitVec.toNat_sub, BitVec.toNat_ofNat, BitVec.toNat_ofNat, BitVec.toNat_ofNat]
    omega
  rw [e]
  rcases Nat.lt_or_ge (a + (18446744073709551616 - b)) 18446744073709551616 with q | q
  · rw [L_and32 q]; congr 1; omega
  · rw [show lN (a + (18446744073709551616 - b)) = lN (a - b) from by
      rw [wb_mod (a + (18446744073709551616 - b))]; congr 1; omega]
    rw [L_and32 (by omega)]; congr 1; omega
def rInv (r : RS) : Prop := 16777216 ≤ r.1 ∧ r.1 < 4294967296 ∧ r.2.1 < 4294967296
theorem wr_main {is : List Nat} (ho : oct is) : ∀ (c k : Nat) (r : RS), c ≤ 3 → c < k → 256 ^ (3 - c) ≤ r.1 → r.1 < 4294967296 → r.2.1 < 4294967296 → rInv (wrN is k r) ∧ (wrN is k r).2.2 ≤ r.2.2 + c ∧ r.2.2 ≤ (wrN is k r).2.2 := by
  intro c
  induction c with
  | zero =>
    intro k r _ _ h1 h2 h3
    have h5 : 16777216 ≤ r.1 := h1
    rw [wrN_e (by omega)]
    exact ⟨⟨h5, h2, h3⟩, Nat.le_refl _, Nat.le_refl _⟩
  | succ c ih =>
    intro k r hc hk h1 h2 h3
    by_cases h : r.1 < 16777216
    · rw [wrN_s (by omega) h]
      have hp : 256 ^ (3 - c) = 256 ^ (3 - (c + 1)) * 256 := by rw [← Nat.pow_succ]; congr 1; omega
      have hb := ho r.2.2
      have q := ih (k - 1) (r.1 * 256, r.2.1 * 256 % 4294967296 + byA is r.2.2, r.2.2 + 1) (by omega) (by omega) (by show _ ≤ r.1 * 256; rw [hp]; exact Nat.mul_le_mul_right _ h1) (by show r.1 * 256 < _; omega) (by show r.2.1 * 256 % 4294967296 + byA is r.2.2 < _; omega)
      refine ⟨q.1, ?_, ?_⟩
      · have := q.2.1; simp only at this; omega
      · have := q.2.2; simp only at this; omega
    · rw [wrN_e h]
      exact ⟨⟨by omega, h2, h3⟩, by omega, Nat.le_refl _⟩
theorem wr_inv {is : List Nat} (ho : oct is) {r : RS} (h1 : 0 < r.1) (h2 : r.1 < 4294967296) (h3 : r.2.1 < 4294967296) : rInv (wrS is r) ∧ (wrS is r).2.2 ≤ r.2.2 + 3 ∧ r.2.2 ≤ (wrS is r).2.2 := wr_main ho 3 8 r (by decide) (by decide) h1 h2 h3
/-- a bit is read: what it is; RANGE and CODE then -/
def rbt (bb CD : Nat) : Nat := if CD < bb then 0 else 1
def rbS (bb RR CD q : Nat) : RS := if CD < bb then (bb, CD, q) else (RR - bb, CD - bb, q)
/-- CODE behind a bit of a VALUE -/
abbrev crd (r : RS) : Nat := if r.2.1 < r.1 / 2 then r.2.1 else r.2.1 - r.1 / 2
/-- the bits of a VALUE of form 2 are read -/
def pbN (is : List Nat) : Nat → Nat → RS → Option Nat × RS
  | 0, v, r => (some v, r)
  | k + 1, v, r => if crd r < r.1 / 2 then pbN is k (2 * v + rbt (r.1 / 2) r.2.1) (wrS is (r.1 / 2, crd r, r.2.2)) else (none, (r.1 / 2, crd r, r.2.2))
/-- a VALUE of form 2 -/
def pbS (is : List Nat) (b : Nat) (r : RS) : Option Nat × RS := if r.2.1 < r.1 then pbN is b 0 r else (none, r)
def oI : Option Nat → Int32
  | none => -1
  | some v => nI v
/-- the bits of a sign of form 2 are read: NODE, the reading, the CHANCES -/
def gnN (is : List Nat) (sh : Nat) : Nat → Nat → RS → (Nat → Nat) → Nat × RS × (Nat → Nat)
  | 0, nd, r, D => (nd, r, D)
  | k + 1, nd, r, D => gnN is sh k (2 * nd + rbt (r.1 / 2048 * D nd) r.2.1) (wrS is (rbS (r.1 / 2048 * D nd) r.1 r.2.1 r.2.2)) (upN D nd (mvC sh (rbt (r.1 / 2048 * D nd) r.2.1) (D nd)))
/-- a sign of form 2 -/
def gnS (is : List Nat) (sh n : Nat) (r : RS) (D : Nat → Nat) : Option Nat × RS × (Nat → Nat) := if r.2.1 < r.1 then ((if (gnN is sh (lev n) 1 r D).1 - 2 ^ lev n < n then some ((gnN is sh (lev n) 1 r D).1 - 2 ^ lev n) else none), (gnN is sh (lev n) 1 r D).2) else (none, r, D)
theorem rbt_lt (bb CD : Nat) : rbt bb CD < 2 := by unfold rbt; split <;> decide
theorem rb_ok {bb RR CD q : Nat} (h1 : 0 < bb) (h2 : bb < RR) (h3 : RR < 4294967296) (h4 : CD < 4294967296) : 0 < (rbS bb RR CD q).1 ∧ (rbS bb RR CD q).1 < 4294967296 ∧ (rbS bb RR CD q).2.1 < 4294967296 ∧ (rbS bb RR CD q).2.2 = q := by
  unfold rbS
  split
  · exact ⟨h1, by show bb < _; omega, h4, rfl⟩
  · exact ⟨by show 0 < RR - bb; omega, by show RR - bb < _; omega, by show CD - bb < _; omega, rfl⟩
theorem nd_lo {lv j nd b : Nat} (hj : 1 ≤ j) (hj2 : j ≤ lv) (h : 2 ^ (lv - j) ≤ nd ∧ nd < 2 ^ (lv - j + 1)) (hb : b < 2) : 2 ^ (lv - (j - 1)) ≤ 2 * nd + b ∧ 2 * nd + b < 2 ^ (lv - (j - 1) + 1) := by
  have z1 : 2 ^ (lv - (j - 1)) = 2 * 2 ^ (lv - j) := by rw [show lv - (j - 1) = (lv - j) + 1 by omega, Nat.pow_succ, Nat.mul_comm]
  have z : 2 ^ (lv - (j - 1) + 1) = 2 * 2 ^ (lv - j + 1) := by rw [show lv - (j - 1) + 1 = (lv - j + 1) + 1 by omega, Nat.pow_succ, Nat.mul_comm]
  omega
end
section
/-! FORM 1: a RANGE that is cut off ahead of a carry -/
abbrev smT (L R : Nat) : Prop := L / 16777216 = (L + R) % 4294967296 / 16777216
abbrev mvP (L R : Nat) : Prop := smT L R ∨ R < 65536
def ngL (L : Nat) : Nat := (18446744073709551616 - L) % 65536
def mvR (L R : Nat) : Nat := (if smT L R then R else ngL L) * 256 % 4294967296
def mvL (L : Nat) : Nat := L * 256 % 4294967296
def pOk (R L : Nat) : Prop := L < 4294967296 ∧ 1 ≤ R ∧ L + R ≤ 4294967296 ∧ (L + R = 4294967296 → 4278190080 ≤ L)
def plI (k R L : Nat) : Prop := pOk R L ∧ 4 ≤ k ∧ k ≤ 8 ∧ ((wb8 k ≤ R ∧ 5 ≤ k) ∨ (L + R = 4294967296 ∧ ((256 ≤ R ∧ 5 ≤ k) ∨ 65536 ≤ R)))
theorem wb8_7 {k r : Nat} (h5 : 5 ≤ k) (h : wb8 k ≤ r) (hr : r < 65536) : 7 ≤ k := by
  rcases Nat.lt_or_ge k 7 with q | q
  · have e : k = 5 ∨ k = 6 := by omega
    rcases e with e | e
    · subst e; have : wb8 5 = 16777216 := by decide
      omega
    · subst e; have : wb8 6 = 65536 := by decide
      omega
  · exact q
theorem plI_0 {R L : Nat} (h : pOk R L) : plI 8 R L := ⟨h, by decide, by decide, Or.inl ⟨h.2.1, by decide⟩⟩
theorem mv_same {R L : Nat} (h : pOk R L) (hs : smT L R) : L % 16777216 + R < 16777216 := by
  obtain ⟨h1, h2, h3, h4⟩ := h
  have h5 : L + R < 4294967296 := by
    rcases Nat.lt_or_ge (L + R) 4294967296 with q | q
    · exact q
    · have e : L + R = 4294967296 := by omega
      have := h4 e
      unfold smT at hs
      rw [e] at hs
      omega
  unfold smT at hs
  omega
theorem mv_cut {R L : Nat} (h : pOk R L) (hs : ¬ smT L R) (hR : R < 65536) : 1 ≤ ngL L ∧ ngL L ≤ R ∧ L % 16777216 + ngL L = 16777216 ∧ (L + R = 4294967296 → ngL L = R) := by
  obtain ⟨h1, h2, h3, h4⟩ := h
  unfold smT at hs
  unfold ngL
  rcases Nat.lt_or_ge (L + R) 4294967296 with q | q
  · have : L % 16777216 + R ≥ 16777216 := by omega
    omega
  · have e : L + R = 4294967296 := by omega
    have := h4 e
    omega
theorem plI_st {k R L : Nat} (h : plI k R L) (hm : mvP L R) : 4 < k ∧ plI (k - 1) (mvR L R) (mvL L) := by
  obtain ⟨hp, hk4, hk8, hc⟩ := h
  by_cases hs : smT L R
  · have h1 := mv_same hp hs
    obtain ⟨a1, a2, a3, a4⟩ := hp
    have eR : mvR L R = R * 256 := by unfold mvR; rw [if_pos hs]; omega
    have eL : mvL L = L % 16777216 * 256 := by unfold mvL; omega
    rcases hc with ⟨c1, c2⟩ | ⟨c1, -⟩
    · have k6 := wb8_k c2 c1 (by omega)
      refine ⟨by omega, ⟨by rw [eL]; omega, by omega, by rw [eR, eL]; omega, by rw [eR, eL]; omega⟩, by omega, by omega, Or.inl ⟨?_, by omega⟩⟩
      rw [eR]; exact wb8_s k6 hk8 c1
    · have := a4 c1
      omega
  · have hR : R < 65536 := hm.elim (fun q => absurd q hs) id
    obtain ⟨b1, b2, b3, b4⟩ := mv_cut hp hs hR
    have eR : mvR L R = ngL L * 256 := by unfold mvR; rw [if_neg hs]; omega
    have eL : mvL L = L % 16777216 * 256 := by unfold mvL; omega
    have sm : mvL L + mvR L R = 4294967296 := by rw [eR, eL]; omega
    rcases hc with ⟨c1, c2⟩ | ⟨c1, c2⟩
    · have k7 := wb8_7 c2 c1 hR
      exact ⟨by omega, ⟨by rw [eL]; omega, by omega, by omega, fun _ => by rw [eL]; omega⟩, by omega, by omega, Or.inr ⟨by omega, Or.inl ⟨by omega, by omega⟩⟩⟩
    · have e := b4 c1
      rcases c2 with ⟨d1, d2⟩ | d1
      · exact ⟨by omega, ⟨by rw [eL]; omega, by omega, by omega, fun _ => by rw [eL]; omega⟩, by omega, by omega, Or.inr ⟨by omega, Or.inr (by omega)⟩⟩
      · omega
abbrev PS : Type := Nat × Nat × List Nat
def plN : Nat → PS → PS
  | 0, e => e
  | k + 1, e => if mvP e.2.1 e.1 then plN k (mvR e.2.1 e.1, mvL e.2.1, e.2.2 ++ [e.2.1 / 16777216 % 256]) else e
def plS (e : PS) : PS := plN 8 e
theorem plN_e {k : Nat} {e : PS} (h : ¬ mvP e.2.1 e.1) : plN k e = e := by
  cases k with
  | zero => rfl
  | succ k => rw [plN, if_neg h]
theorem plN_s {k : Nat} {e : PS} (h0 : 0 < k) (h : mvP e.2.1 e.1) : plN k e = plN (k - 1) (mvR e.2.1 e.1, mvL e.2.1, e.2.2 ++ [e.2.1 / 16777216 % 256]) := by
  cases k with
  | zero => omega
  | succ k => rw [plN, if_pos h]; rfl
theorem L_neg {n : Nat} (h : n < 2 ^ 64) : -lN n = lN (18446744073709551616 - n) := by
  apply wb_inj
  rw [Int64.toBitVec_neg, wb_tb, wb_tb]
  apply BitVec.eq_of_toNat_eq
  rw [BitVec.toNat_neg, BitVec.toNat_ofNat, BitVec.toNat_ofNat, Nat.mod_eq_of_lt h]
theorem L_ng {n : Nat} (h0 : 0 < n) (h : n < 2 ^ 64) : -lN n &&& 65535 = lN (ngL n) := by
  rw [L_neg h, L_and16 (by omega)]; rfl
theorem L_ng0 : -lN 0 &&& 65535 = lN (ngL 0) := by decide +kernel
theorem L_ngA {n : Nat} (h : n < 2 ^ 64) : -lN n &&& 65535 = lN (ngL n) := by
  rcases Nat.eq_zero_or_pos n with e | e
  · subst e; exact L_ng0
  · exact L_ng e h
/-- a reading of form 1: RANGE, LOW, CODE, bytes asked for -/
abbrev RP : Type := Nat × Nat × Nat × Nat
def prN (is : List Nat) : Nat → RP → RP
  | 0, e => e
  | k + 1, e => if mvP e.2.1 e.1 then prN is k (mvR e.2.1 e.1, mvL e.2.1, e.2.2.1 * 256 % 4294967296 + byA is e.2.2.2, e.2.2.2 + 1) else e
def prS (is : List Nat) (e : RP) : RP := prN is 8 e
theorem prN_e {is : List Nat} {k : Nat} {e : RP} (h : ¬ mvP e.2.1 e.1) : prN is k e = e := by
  cases k with
  | zero => rfl
  | succ k => rw [prN, if_neg h]
theorem prN_s {is : List Nat} {k : Nat} {e : RP} (h0 : 0 < k) (h : mvP e.2.1 e.1) : prN is k e = prN is (k - 1) (mvR e.2.1 e.1, mvL e.2.1, e.2.2.1 * 256 % 4294967296 + byA is e.2.2.2, e.2.2.2 + 1) := by
  cases k with
  | zero => omega
  | succ k => rw [prN, if_pos h]; rfl
end
section
/-! the reference: its object in one word -/
abbrev mO (g : Nat → Nat) (fForm : Int32) (fShift : Int32) (fModels : Int32) (fItems : Int32) (fEnded : Int32) (fLow : Int64) (fRange : Int64) (fCache : Int32) (fPend : Int32) (fGoes : Int32) (fOuts : Int32) (fIns : Int32) (fReads : Int32) (fBad : Int32) (fIR : Int32) (fAsk : Int32) (fBAsk : Int32) (fCode : Int64) (fRL : Int64) (fRR : Int64) (fX : Int64) (fWrites : Int32) (fThrown : Int32) : List Value := [Value.int fForm, Value.int fShift, Value.int fModels, Value.ref (g 0), Value.ref (g 1), Value.ref (g 2), Value.ref (g 3), Value.int fItems, Value.ref (g 4), Value.ref (g 5), Value.int fEnded, Value.long fLow, Value.long fRange, Value.int fCache, Value.int fPend, Value.ref (g 6), Value.int fGoes, Value.ref (g 7), Value.int fOuts, Value.ref (g 8), Value.int fIns, Value.int fReads, Value.int fBad, Value.int fIR, Value.int fAsk, Value.int fBAsk, Value.long fCode, Value.long fRL, Value.long fRR, Value.long fX, Value.ref (g 9), Value.ref (g 10), Value.ref (g 11), Value.int fWrites, Value.int fThrown]
theorem ix64 {a b : Nat} : (64 : Int32) * nI a + nI b = nI (64 * a + b) := by rw [← nI_add, ← pk_mul]; rfl
end
section
set_option maxHeartbeats 1000000 in
set_option maxRecDepth 100000 in
/-- in -/
theorem c_M_in (l : Launch) (dC : Nat → ClassId) (dI : Nat → Nat → Nat) (cI cM cO : ClassId) (sz : Nat) (v : Int32) (a : Int32) (b : Int32) : MetI l y_M_in (Cond.code y_M_in prog_14_method_3_code 3 (some .boolean) :: gw) ({ frames := 0, cells := 0, slots := 0, locals := 0 } : Room) (dC, dI) vwCl (kT cI cM cO) [Value.int v, Value.int a, Value.int b] [] sz (fun (r : Int32) (u : Unit) => r = if a ≤ v ∧ v ≤ b then 1 else 0) (fun (u : Unit) => []) 0 0 := by
  refine my_ofI (cc := prog_14_method_3_code) (n := 3) (ret := (some .boolean)) (by decide) rfl (Nat.le_of_ble_eq_true rfl) ?_
  intro p e s m args below meth c R Q A ls H locs hx hb hr hts hown hlocks hml hnm hR hQ hA hl hP hK hN hD hS
  have hg : ∀ w ∈ gw, w.before args s = true := fun w h => hts w (List.mem_cons_of_mem _ h)
  have hown : s.vm.findClass "RangeCodersModel" = some m.cls := hown
  have hl : lv_has ls 3 [(0, Value.int v), (1, Value.int a), (2, Value.int b)] := hl
  refine lv_iload_n hx hb d_M_in_0 rfl (lv_at hl 0 rfl) ?_
  refine lv_iload_n hx hb d_M_in_1 rfl (lv_at hl 1 rfl) ?_
  refine lv_icmp_lt (tgt := 14) hx hb d_M_in_2 (by decide) (fun c_1 => ?_) (fun c_1 => ?_)
  · refine lv_iconst (v := 0) hx hb d_M_in_14 (by decide) ?_
    exact my_iret (v := 0) hx hb hr (rfl) hlocks hQ hK hS (Nat.le_refl _) (Nat.le_refl _) () (by rw [if_neg (fun h => absurd c_1 (Int32.not_lt.mpr h.1))]) (hP.sub [] rfl) (hD.sub [] (by decide +kernel) rfl) d_M_in_15
  · refine lv_iload_n hx hb d_M_in_5 rfl (lv_at hl 0 rfl) ?_
    refine lv_iload_n hx hb d_M_in_6 rfl (lv_at hl 2 rfl) ?_
    refine lv_icmp_gt (tgt := 14) hx hb d_M_in_7 (by decide) (fun c_2 => ?_) (fun c_2 => ?_)
    · refine lv_iconst (v := 0) hx hb d_M_in_14 (by decide) ?_
      exact my_iret (v := 0) hx hb hr (rfl) hlocks hQ hK hS (Nat.le_refl _) (Nat.le_refl _) () (by rw [if_neg (fun h => absurd c_2 (Int32.not_lt.mpr h.2))]) (hP.sub [] rfl) (hD.sub [] (by decide +kernel) rfl) d_M_in_15
    · refine lv_iconst (v := 1) hx hb d_M_in_10 (by decide) ?_
      refine lv_goto (tgt := 15) hx hb d_M_in_11 (by decide) ?_
      exact my_iret (v := 1) hx hb hr (rfl) hlocks hQ hK hS (Nat.le_refl _) (Nat.le_refl _) () (by rw [if_pos ⟨Int32.not_lt.mp c_1, Int32.not_lt.mp c_2⟩]) (hP.sub [] rfl) (hD.sub [] (by decide +kernel) rfl) d_M_in_15
set_option maxHeartbeats 1000000 in
set_option maxRecDepth 100000 in
theorem c_M_isModel (l : Launch) (dC : Nat → ClassId) (dI : Nat → Nat → Nat) (cI cM cO : ClassId) (sz : Nat) (o : Nat) (g : Nat → Nat) (fForm : Int32) (fShift : Int32) (fModels : Int32) (fItems : Int32) (fEnded : Int32) (fLow : Int64) (fRange : Int64) (fCache : Int32) (fPend : Int32) (fGoes : Int32) (fOuts : Int32) (fIns : Int32) (fReads : Int32) (fBad : Int32) (fIR : Int32) (fAsk : Int32) (fBAsk : Int32) (fCode : Int64) (fRL : Int64) (fRR : Int64) (fX : Int64) (fWrites : Int32) (fThrown : Int32) (p1 : Int32) : MetI l y_M_isModel (Cond.code y_M_isModel prog_14_method_4_code 2 (some .boolean) :: gw) ({ frames := 1, cells := 0, slots := 0, locals := 22 } : Room) (dC, dI) vwCl (kT cI cM cO) [Value.ref o, Value.int p1] [(o, Sum.inr (9, mO g fForm fShift fModels fItems fEnded fLow fRange fCache fPend fGoes fOuts fIns fReads fBad fIR fAsk fBAsk fCode fRL fRR fX fWrites fThrown))] sz (fun (r : Int32) (u : Unit) => r = if 0 ≤ p1 ∧ p1 ≤ fModels - 1 then 1 else 0) (fun (u : Unit) => [(o, Sum.inr (9, mO g fForm fShift fModels fItems fEnded fLow fRange fCache fPend fGoes fOuts fIns fReads fBad fIR fAsk fBAsk fCode fRL fRR fX fWrites fThrown))]) 0 0 := by
  refine my_ofI (cc := prog_14_method_4_code) (n := 2) (ret := (some .boolean)) (by decide) rfl (Nat.le_of_ble_eq_true rfl) ?_
  intro p e s m args below meth c R Q A ls H locs hx hb hr hts hown hlocks hml hnm hR hQ hA hl hP hK hN hD hS
  have hg : ∀ w ∈ gw, w.before args s = true := fun w h => hts w (List.mem_cons_of_mem _ h)
  have hown : s.vm.findClass "RangeCodersModel" = some m.cls := hown
  have hl : lv_has ls 2 [(0, Value.ref o), (1, Value.int p1)] := hl
  refine lv_iload_n hx hb d_M_isModel_0 rfl (lv_at hl 1 rfl) ?_
  refine lv_iconst (v := 0) hx hb d_M_isModel_1 (by decide) ?_
  refine lv_aload_n hx hb d_M_isModel_2 rfl (lv_at hl 0 rfl) ?_
  refine va_get (D := (dC, dI)) (ci := 9) (v := .int fModels) (C := "RangeCodersModel") (T := T_M) (N := 35) hx hb hg in_M hown hK hP 0 rfl rfl 2 (by decide) (hg _ k954) (fun _ h9 => h9) rfl d_M_isModel_3 ?_
  refine lv_iconst (v := 1) hx hb d_M_isModel_6 (by decide) ?_
  refine lv_isub hx hb d_M_isModel_7 ?_
  refine lv_topi (fun v_1 ev_1 => ?_)
  refine my_ci (wr := [(o, Sum.inr (9, mO g fForm fShift fModels fItems fEnded fLow fRange fCache fPend fGoes fOuts fIns fReads fBad fIR fAsk fBAsk fCode fRL fRR fX fWrites fThrown))]) (va_runS (As := [Value.int p1, Value.int 0, Value.int v_1]) (rest := []) ⟨hx, hb, hml, hown, hts⟩ (c_M_in l dC dI cI cM cO H.size p1 0 v_1) (cwS 3 hts (my_gS k1062 k1063 k12 k1064) rfl rfl rfl (by decide +kernel) ⟨by rw [hR]; exact Nat.le_of_ble_eq_true rfl, by rw [hR]; exact Nat.le_of_ble_eq_true rfl⟩) (my_pre hK hN (hP.sub [] rfl) (hD.sub [] (by decide +kernel) rfl)) rfl rfl hl.1 rfl (lv_room (Nat.le_of_ble_eq_true rfl)) d_M_isModel_8 ⟨by rw [hR]; exact Nat.le_of_ble_eq_true rfl, by rw [hR]; exact Nat.le_of_ble_eq_true rfl⟩) hP hD hS hA [] [0] rfl rfl (by decide +kernel) (by decide +kernel) (fun r_8 u9 H locs hw_8 hP hD hS => ?_)
  have hw_8 : r_8 = if 0 ≤ p1 ∧ p1 ≤ v_1 then 1 else 0 := hw_8
  have hPD : my_PD (dC, dI) vwCl A [(o, Sum.inr (9, mO g fForm fShift fModels fItems fEnded fLow fRange fCache fPend fGoes fOuts fIns fReads fBad fIR fAsk fBAsk fCode fRL fRR fX fWrites fThrown))] H := ⟨hP, hD⟩
  have hP := hPD.1
  have hD := hPD.2
  exact my_iret (v := r_8) hx hb hr (by subst_vars; split <;> rfl) hlocks hQ hK hS (Nat.le_refl _) (Nat.le_refl _) () (by subst_vars; assumption) (hP.sub [0] rfl) (hD.sub [0] (by decide +kernel) rfl) d_M_isModel_11
set_option maxHeartbeats 1000000 in
set_option maxRecDepth 100000 in
/-- sum -/
theorem c_M_sum (l : Launch) (dC : Nat → ClassId) (dI : Nat → Nat → Nat) (cI cM cO : ClassId) (sz : Nat) (o : Nat) (g : Nat → Nat) (fForm : Int32) (fShift : Int32) (fModels : Int32) (fItems : Int32) (fEnded : Int32) (fLow : Int64) (fRange : Int64) (fCache : Int32) (fPend : Int32) (fGoes : Int32) (fOuts : Int32) (fIns : Int32) (fReads : Int32) (fBad : Int32) (fIR : Int32) (fAsk : Int32) (fBAsk : Int32) (fCode : Int64) (fRL : Int64) (fRR : Int64) (fX : Int64) (fWrites : Int32) (fThrown : Int32) (vMany : Nat → Int32) (a : Nat) (f : Nat → Int32) (mm : Nat) (n : Nat) (F : Nat → Nat) (hmm : mm < 8) (hn : vMany mm = nI n) (hn2 : n ≤ 64) (hf : sgI f (64 * mm) n F) : MetI l y_M_sum (Cond.code y_M_sum prog_14_method_8_code 5 (some .int) :: gw) ({ frames := 0, cells := 0, slots := 0, locals := 0 } : Room) (dC, dI) vwCl (kT cI cM cO) [Value.ref o, Value.ref a, Value.int (nI mm)] [(o, Sum.inr (9, mO g fForm fShift fModels fItems fEnded fLow fRange fCache fPend fGoes fOuts fIns fReads fBad fIR fAsk fBAsk fCode fRL fRR fX fWrites fThrown)), ((g 0), Sum.inl (cI, 8, Sum.inl vMany)), (a, Sum.inl (cI, 512, Sum.inl f))] sz (fun (r : Int32) (u : Unit) => r = nI (ns F n)) (fun (u : Unit) => [(o, Sum.inr (9, mO g fForm fShift fModels fItems fEnded fLow fRange fCache fPend fGoes fOuts fIns fReads fBad fIR fAsk fBAsk fCode fRL fRR fX fWrites fThrown)), ((g 0), Sum.inl (cI, 8, Sum.inl vMany)), (a, Sum.inl (cI, 512, Sum.inl f))]) 0 0 := by
  refine my_ofI (cc := prog_14_method_8_code) (n := 5) (ret := (some .int)) (by decide) rfl (Nat.le_of_ble_eq_true rfl) ?_
  intro p e s m args below meth c R Q A ls H locs hx hb hr hts hown hlocks hml hnm hR hQ hA hl hP hK hN hD hS
  have hg : ∀ w ∈ gw, w.before args s = true := fun w h => hts w (List.mem_cons_of_mem _ h)
  have hown : s.vm.findClass "RangeCodersModel" = some m.cls := hown
  have hl : lv_has ls 5 [(0, Value.ref o), (1, Value.ref a), (2, Value.int (nI mm))] := hl
  refine lv_iconst (v := 0) hx hb d_M_sum_0 (by decide) ?_
  refine lv_istore_n (lv' := [(3, Value.int 0), (0, Value.ref o), (1, Value.ref a), (2, Value.int (nI mm))]) hx hb d_M_sum_1 rfl hl (by decide) rfl (fun ls hl => ?_)
  refine lv_iconst (v := 0) hx hb d_M_sum_2 (by decide) ?_
  refine lv_istore (lv' := [(4, Value.int 0), (3, Value.int 0), (0, Value.ref o), (1, Value.ref a), (2, Value.int (nI mm))]) hx hb d_M_sum_3 hl (by decide) rfl (fun ls hl => ?_)
  have J_5 : ∀ (n9_5 : Nat) (s9 : Int32) (i9 : Int32) (j : Nat) (hn9_5 : n - j = n9_5) (hs : s9 = nI (ns F j)) (hi : i9 = nI j) (hj : j ≤ n) (H : Heap) (locs : List Loc) (ls : Array Slot), va_P (dC, dI) vwCl [(o, Sum.inr (9, mO g fForm fShift fModels fItems fEnded fLow fRange fCache fPend fGoes fOuts fIns fReads fBad fIR fAsk fBAsk fCode fRL fRR fX fWrites fThrown)), ((g 0), Sum.inl (cI, 8, Sum.inl vMany)), (a, Sum.inl (cI, 512, Sum.inl f))] H → va_D A [(o, Sum.inr (9, mO g fForm fShift fModels fItems fEnded fLow fRange fCache fPend fGoes fOuts fIns fReads fBad fIR fAsk fBAsk fCode fRL fRR fX fWrites fThrown)), ((g 0), Sum.inl (cI, 8, Sum.inl vMany)), (a, Sum.inl (cI, 512, Sum.inl f))] → va_S A s.heap H locs → lv_has ls 5 [(4, Value.int i9), (3, Value.int s9), (0, Value.ref o), (1, Value.ref a), (2, Value.int (nI mm))] → W p l e R s m args below meth c H locs 0 0 Q (F0 m 5 ls []) := by
    intro n9_5
    induction n9_5 using Nat.strongRecOn with
    | ind n9_5 ih9_5 =>
      intro s9 i9 j hn9_5 hs hi hj H locs ls hP hD hS hl
      refine lv_iload hx hb d_M_sum_5 (lv_at hl 0 rfl) ?_
      refine lv_aload_n hx hb d_M_sum_7 rfl (lv_at hl 2 rfl) ?_
      refine va_get (D := (dC, dI)) (ci := 9) (v := .ref (g 0)) (C := "RangeCodersModel") (T := T_M) (N := 35) hx hb hg in_M hown hK hP 0 rfl rfl 3 (by decide) (hg _ k955) (fun _ h9 => h9) rfl d_M_sum_8 ?_
      refine lv_iload_n hx hb d_M_sum_11 rfl (lv_at hl 4 rfl) ?_
      refine va_iald hx hb hK hP 1 0 rfl rfl (vp_in_nI hmm (by decide)) d_M_sum_12 ?_
      refine lv_topi (fun v_1 ev_1 => ?_)
      have hv9 : v_1 = nI n := by subst_vars; rw [nI_clamp (by omega)]; exact hn
      refine lv_icmp_ge (tgt := 34) hx hb d_M_sum_13 (by decide) (fun c_2 => ?_) (fun c_2 => ?_)
      · have hj3 : j = n := by
          rcases Nat.lt_or_ge j n with q | q
          · exact absurd c_2 (by rw [hv9, hi]; exact nI_ge q (by omega))
          · omega
        refine lv_iload_n hx hb d_M_sum_34 rfl (lv_at hl 1 rfl) ?_
        exact my_iret (v := s9) hx hb hr (rfl) hlocks hQ hK hS (Nat.le_refl _) (Nat.le_refl _) () (by rw [hs, hj3]) (hP.sub [0, 1, 2] rfl) (hD.sub [0, 1, 2] (by decide +kernel) rfl) d_M_sum_35
      · have hj2 : j < n := by
          rcases Nat.lt_or_ge j n with q | q
          · exact q
          · exact absurd (by rw [hv9, hi]; exact nI_le q (by omega)) c_2
        refine lv_iload_n hx hb d_M_sum_16 rfl (lv_at hl 1 rfl) ?_
        refine lv_aload_n hx hb d_M_sum_17 rfl (lv_at hl 3 rfl) ?_
        refine lv_bipush (v := 64) hx hb d_M_sum_18 (by decide) ?_
        refine lv_iload_n hx hb d_M_sum_20 rfl (lv_at hl 4 rfl) ?_
        refine lv_imul hx hb d_M_sum_21 ?_
        refine lv_topi (fun v_3 ev_3 => ?_)
        refine lv_iload hx hb d_M_sum_22 (lv_at hl 0 rfl) ?_
        refine lv_iadd hx hb d_M_sum_24 ?_
        refine lv_topi (fun v_4 ev_4 => ?_)
        have hix : v_4 = nI (64 * mm + j) := by subst_vars; exact ix64
        refine va_iald hx hb hK hP 2 0 rfl rfl (by rw [hix]; exact vp_in_nI (by omega) (by decide)) d_M_sum_25 ?_
        refine lv_topi (fun v_5 ev_5 => ?_)
        refine lv_iadd hx hb d_M_sum_26 ?_
        refine lv_topi (fun v_6 ev_6 => ?_)
        refine lv_istore_n (lv' := [(3, Value.int v_6), (4, Value.int i9), (0, Value.ref o), (1, Value.ref a), (2, Value.int (nI mm))]) hx hb d_M_sum_27 rfl hl (by decide) rfl (fun ls hl => ?_)
        obtain ⟨v_7, ev_7⟩ : ∃ y : Int32, y = i9 + (1) := ⟨_, rfl⟩
        refine lv_iinc (v := v_7) (lv' := [(4, Value.int v_7), (3, Value.int v_6), (0, Value.ref o), (1, Value.ref a), (2, Value.int (nI mm))]) hx hb d_M_sum_28 hl (k := 1) rfl (by rw [ev_7]; rfl) (by decide) rfl (fun ls hl => ?_)
        refine lv_goto (tgt := 5) hx hb d_M_sum_31 (by decide) ?_
        exact ih9_5 _ (by first | omega | (omega)) v_6 v_7 (j + 1) rfl (by subst_vars; rw [nI_clamp (by omega), hf j hj2, nI_add]; rfl) (by subst_vars; exact nI_1 j) (by omega) H locs ls (hP.sub [0, 1, 2] rfl) (hD.sub [0, 1, 2] (by decide +kernel) rfl) hS (lv_sub hl [0, 1, 2, 3, 4] rfl)
  exact J_5 _ 0 0 0 rfl (rfl) (rfl) (Nat.zero_le _) H locs ls (hP.sub [0, 1, 2] rfl) (hD.sub [0, 1, 2] (by decide +kernel) rfl) hS (lv_sub hl [0, 1, 2, 3, 4] rfl)
set_option maxHeartbeats 1000000 in
set_option maxRecDepth 100000 in
/-- before -/
theorem c_M_before (l : Launch) (dC : Nat → ClassId) (dI : Nat → Nat → Nat) (cI cM cO : ClassId) (sz : Nat) (o : Nat) (g : Nat → Nat) (fForm : Int32) (fShift : Int32) (fModels : Int32) (fItems : Int32) (fEnded : Int32) (fLow : Int64) (fRange : Int64) (fCache : Int32) (fPend : Int32) (fGoes : Int32) (fOuts : Int32) (fIns : Int32) (fReads : Int32) (fBad : Int32) (fIR : Int32) (fAsk : Int32) (fBAsk : Int32) (fCode : Int64) (fRL : Int64) (fRR : Int64) (fX : Int64) (fWrites : Int32) (fThrown : Int32) (a : Nat) (f : Nat → Int32) (mm : Nat) (t : Nat) (F : Nat → Nat) (hmm : mm < 8) (ht : t ≤ 64) (hf : sgI f (64 * mm) t F) : MetI l y_M_before (Cond.code y_M_before prog_14_method_22_code 6 (some .int) :: gw) ({ frames := 0, cells := 0, slots := 0, locals := 0 } : Room) (dC, dI) vwCl (kT cI cM cO) [Value.ref o, Value.ref a, Value.int (nI mm), Value.int (nI t)] [(o, Sum.inr (9, mO g fForm fShift fModels fItems fEnded fLow fRange fCache fPend fGoes fOuts fIns fReads fBad fIR fAsk fBAsk fCode fRL fRR fX fWrites fThrown)), (a, Sum.inl (cI, 512, Sum.inl f))] sz (fun (r : Int32) (u : Unit) => r = nI (ns F t)) (fun (u : Unit) => [(o, Sum.inr (9, mO g fForm fShift fModels fItems fEnded fLow fRange fCache fPend fGoes fOuts fIns fReads fBad fIR fAsk fBAsk fCode fRL fRR fX fWrites fThrown)), (a, Sum.inl (cI, 512, Sum.inl f))]) 0 0 := by
  refine my_ofI (cc := prog_14_method_22_code) (n := 6) (ret := (some .int)) (by decide) rfl (Nat.le_of_ble_eq_true rfl) ?_
  intro p e s m args below meth c R Q A ls H locs hx hb hr hts hown hlocks hml hnm hR hQ hA hl hP hK hN hD hS
  have hg : ∀ w ∈ gw, w.before args s = true := fun w h => hts w (List.mem_cons_of_mem _ h)
  have hown : s.vm.findClass "RangeCodersModel" = some m.cls := hown
  have hl : lv_has ls 6 [(0, Value.ref o), (1, Value.ref a), (2, Value.int (nI mm)), (3, Value.int (nI t))] := hl
  refine lv_iconst (v := 0) hx hb d_M_before_0 (by decide) ?_
  refine lv_istore (lv' := [(4, Value.int 0), (0, Value.ref o), (1, Value.ref a), (2, Value.int (nI mm)), (3, Value.int (nI t))]) hx hb d_M_before_1 hl (by decide) rfl (fun ls hl => ?_)
  refine lv_iconst (v := 0) hx hb d_M_before_3 (by decide) ?_
  refine lv_istore (lv' := [(5, Value.int 0), (4, Value.int 0), (0, Value.ref o), (1, Value.ref a), (2, Value.int (nI mm)), (3, Value.int (nI t))]) hx hb d_M_before_4 hl (by decide) rfl (fun ls hl => ?_)
  have J_6 : ∀ (n9_6 : Nat) (s9 : Int32) (i9 : Int32) (j : Nat) (hn9_6 : t - j = n9_6) (hs : s9 = nI (ns F j)) (hi : i9 = nI j) (hj : j ≤ t) (H : Heap) (locs : List Loc) (ls : Array Slot), va_P (dC, dI) vwCl [(o, Sum.inr (9, mO g fForm fShift fModels fItems fEnded fLow fRange fCache fPend fGoes fOuts fIns fReads fBad fIR fAsk fBAsk fCode fRL fRR fX fWrites fThrown)), (a, Sum.inl (cI, 512, Sum.inl f))] H → va_D A [(o, Sum.inr (9, mO g fForm fShift fModels fItems fEnded fLow fRange fCache fPend fGoes fOuts fIns fReads fBad fIR fAsk fBAsk fCode fRL fRR fX fWrites fThrown)), (a, Sum.inl (cI, 512, Sum.inl f))] → va_S A s.heap H locs → lv_has ls 6 [(5, Value.int i9), (4, Value.int s9), (0, Value.ref o), (1, Value.ref a), (2, Value.int (nI mm)), (3, Value.int (nI t))] → W p l e R s m args below meth c H locs 0 0 Q (F0 m 6 ls []) := by
    intro n9_6
    induction n9_6 using Nat.strongRecOn with
    | ind n9_6 ih9_6 =>
      intro s9 i9 j hn9_6 hs hi hj H locs ls hP hD hS hl
      refine lv_iload hx hb d_M_before_6 (lv_at hl 0 rfl) ?_
      refine lv_iload_n hx hb d_M_before_8 rfl (lv_at hl 5 rfl) ?_
      refine lv_icmp_ge (tgt := 32) hx hb d_M_before_9 (by decide) (fun c_1 => ?_) (fun c_1 => ?_)
      · have hj3 : j = t := by
          rcases Nat.lt_or_ge j t with q | q
          · exact absurd c_1 (by rw [hi]; exact nI_ge q (by omega))
          · omega
        refine lv_iload hx hb d_M_before_32 (lv_at hl 1 rfl) ?_
        exact my_iret (v := s9) hx hb hr (rfl) hlocks hQ hK hS (Nat.le_refl _) (Nat.le_refl _) () (by rw [hs, hj3]) (hP.sub [0, 1] rfl) (hD.sub [0, 1] (by decide +kernel) rfl) d_M_before_34
      · have hj2 : j < t := by
          rcases Nat.lt_or_ge j t with q | q
          · exact q
          · exact absurd (by rw [hi]; exact nI_le q (by omega)) c_1
        refine lv_iload hx hb d_M_before_12 (lv_at hl 1 rfl) ?_
        refine lv_aload_n hx hb d_M_before_14 rfl (lv_at hl 3 rfl) ?_
        refine lv_bipush (v := 64) hx hb d_M_before_15 (by decide) ?_
        refine lv_iload_n hx hb d_M_before_17 rfl (lv_at hl 4 rfl) ?_
        refine lv_imul hx hb d_M_before_18 ?_
        refine lv_topi (fun v_2 ev_2 => ?_)
        refine lv_iload hx hb d_M_before_19 (lv_at hl 0 rfl) ?_
        refine lv_iadd hx hb d_M_before_21 ?_
        refine lv_topi (fun v_3 ev_3 => ?_)
        have hix : v_3 = nI (64 * mm + j) := by subst_vars; exact ix64
        refine va_iald hx hb hK hP 1 0 rfl rfl (by rw [hix]; exact vp_in_nI (by omega) (by decide)) d_M_before_22 ?_
        refine lv_topi (fun v_4 ev_4 => ?_)
        refine lv_iadd hx hb d_M_before_23 ?_
        refine lv_topi (fun v_5 ev_5 => ?_)
        refine lv_istore (lv' := [(4, Value.int v_5), (5, Value.int i9), (0, Value.ref o), (1, Value.ref a), (2, Value.int (nI mm)), (3, Value.int (nI t))]) hx hb d_M_before_24 hl (by decide) rfl (fun ls hl => ?_)
        obtain ⟨v_6, ev_6⟩ : ∃ y : Int32, y = i9 + (1) := ⟨_, rfl⟩
        refine lv_iinc (v := v_6) (lv' := [(5, Value.int v_6), (4, Value.int v_5), (0, Value.ref o), (1, Value.ref a), (2, Value.int (nI mm)), (3, Value.int (nI t))]) hx hb d_M_before_26 hl (k := 1) rfl (by rw [ev_6]; rfl) (by decide) rfl (fun ls hl => ?_)
        refine lv_goto (tgt := 6) hx hb d_M_before_29 (by decide) ?_
        exact ih9_6 _ (by first | omega | (omega)) v_5 v_6 (j + 1) rfl (by subst_vars; rw [nI_clamp (by omega), hf j hj2, nI_add]; rfl) (by subst_vars; exact nI_1 j) (by omega) H locs ls (hP.sub [0, 1] rfl) (hD.sub [0, 1] (by decide +kernel) rfl) hS (lv_sub hl [0, 1, 2, 3, 4, 5] rfl)
  exact J_6 _ 0 0 0 rfl (rfl) (rfl) (Nat.zero_le _) H locs ls (hP.sub [0, 1] rfl) (hD.sub [0, 1] (by decide +kernel) rfl) hS (lv_sub hl [0, 1, 2, 3, 4, 5] rfl)
set_option maxHeartbeats 1000000 in
set_option maxRecDepth 100000 in
/-- halve -/
theorem c_M_halve (l : Launch) (dC : Nat → ClassId) (dI : Nat → Nat → Nat) (cI cM cO : ClassId) (sz : Nat) (o : Nat) (g : Nat → Nat) (fForm : Int32) (fShift : Int32) (fModels : Int32) (fItems : Int32) (fEnded : Int32) (fLow : Int64) (fRange : Int64) (fCache : Int32) (fPend : Int32) (fGoes : Int32) (fOuts : Int32) (fIns : Int32) (fReads : Int32) (fBad : Int32) (fIR : Int32) (fAsk : Int32) (fBAsk : Int32) (fCode : Int64) (fRL : Int64) (fRR : Int64) (fX : Int64) (fWrites : Int32) (fThrown : Int32) (vMany : Nat → Int32) (a : Nat) (f : Nat → Int32) (mm : Nat) (n : Nat) (F : Nat → Nat) (hmm : mm < 8) (hn : vMany mm = nI n) (hn2 : n ≤ 64) (hf : sgI f (64 * mm) n F) (hB : bd F n 1000000) : MetV l y_M_halve (Cond.code y_M_halve prog_14_method_9_code 4 none :: gw) ({ frames := 0, cells := 0, slots := 0, locals := 0 } : Room) (dC, dI) vwCl (kT cI cM cO) [Value.ref o, Value.ref a, Value.int (nI mm)] [(o, Sum.inr (9, mO g fForm fShift fModels fItems fEnded fLow fRange fCache fPend fGoes fOuts fIns fReads fBad fIR fAsk fBAsk fCode fRL fRR fX fWrites fThrown)), ((g 0), Sum.inl (cI, 8, Sum.inl vMany)), (a, Sum.inl (cI, 512, Sum.inl f))] sz (fun (u : (Nat → Int32)) => sgI u (64 * mm) n (hv F) ∧ sgO u f (64 * mm) n) (fun (u : (Nat → Int32)) => [(o, Sum.inr (9, mO g fForm fShift fModels fItems fEnded fLow fRange fCache fPend fGoes fOuts fIns fReads fBad fIR fAsk fBAsk fCode fRL fRR fX fWrites fThrown)), ((g 0), Sum.inl (cI, 8, Sum.inl vMany)), (a, Sum.inl (cI, 512, Sum.inl u))]) 0 0 := by
  refine my_ofV (cc := prog_14_method_9_code) (n := 4) (ret := none) (by decide) rfl (Nat.le_of_ble_eq_true rfl) ?_
  intro p e s m args below meth c R Q A ls H locs hx hb hr hts hown hlocks hml hnm hR hQ hA hl hP hK hN hD hS
  have hg : ∀ w ∈ gw, w.before args s = true := fun w h => hts w (List.mem_cons_of_mem _ h)
  have hown : s.vm.findClass "RangeCodersModel" = some m.cls := hown
  have hl : lv_has ls 4 [(0, Value.ref o), (1, Value.ref a), (2, Value.int (nI mm))] := hl
  refine lv_iconst (v := 0) hx hb d_M_halve_0 (by decide) ?_
  refine lv_istore_n (lv' := [(3, Value.int 0), (0, Value.ref o), (1, Value.ref a), (2, Value.int (nI mm))]) hx hb d_M_halve_1 rfl hl (by decide) rfl (fun ls hl => ?_)
  have J_2 : ∀ (n9_2 : Nat) (fL : Nat → Int32) (i9 : Int32) (j : Nat) (hn9_2 : n - j = n9_2) (hL : sgL fL f (64 * mm) n j (hv F) F) (hi : i9 = nI j) (hj : j ≤ n) (H : Heap) (locs : List Loc) (ls : Array Slot), va_P (dC, dI) vwCl [(o, Sum.inr (9, mO g fForm fShift fModels fItems fEnded fLow fRange fCache fPend fGoes fOuts fIns fReads fBad fIR fAsk fBAsk fCode fRL fRR fX fWrites fThrown)), ((g 0), Sum.inl (cI, 8, Sum.inl vMany)), (a, Sum.inl (cI, 512, Sum.inl fL))] H → va_D A [(o, Sum.inr (9, mO g fForm fShift fModels fItems fEnded fLow fRange fCache fPend fGoes fOuts fIns fReads fBad fIR fAsk fBAsk fCode fRL fRR fX fWrites fThrown)), ((g 0), Sum.inl (cI, 8, Sum.inl vMany)), (a, Sum.inl (cI, 512, Sum.inl fL))] → va_S A s.heap H locs → lv_has ls 4 [(3, Value.int i9), (0, Value.ref o), (1, Value.ref a), (2, Value.int (nI mm))] → W p l e R s m args below meth c H locs 0 0 Q (F0 m 2 ls []) := by
    intro n9_2
    induction n9_2 using Nat.strongRecOn with
    | ind n9_2 ih9_2 =>
      intro fL i9 j hn9_2 hL hi hj H locs ls hP hD hS hl
      refine lv_iload_n hx hb d_M_halve_2 rfl (lv_at hl 0 rfl) ?_
      refine lv_aload_n hx hb d_M_halve_3 rfl (lv_at hl 1 rfl) ?_
      refine va_get (D := (dC, dI)) (ci := 9) (v := .ref (g 0)) (C := "RangeCodersModel") (T := T_M) (N := 35) hx hb hg in_M hown hK hP 0 rfl rfl 3 (by decide) (hg _ k955) (fun _ h9 => h9) rfl d_M_halve_4 ?_
      refine lv_iload_n hx hb d_M_halve_7 rfl (lv_at hl 3 rfl) ?_
      refine va_iald hx hb hK hP 1 0 rfl rfl (vp_in_nI hmm (by decide)) d_M_halve_8 ?_
      refine lv_topi (fun v_1 ev_1 => ?_)
      have hv9 : v_1 = nI n := by subst_vars; rw [nI_clamp (by omega)]; exact hn
      refine lv_icmp_ge (tgt := 38) hx hb d_M_halve_9 (by decide) (fun c_2 => ?_) (fun c_2 => ?_)
      · have hj3 : j = n := by
          rcases Nat.lt_or_ge j n with q | q
          · exact absurd c_2 (by rw [hv9, hi]; exact nI_ge q (by omega))
          · omega
        exact my_vret hx hb hr hlocks hQ hK hS (Nat.le_refl _) (Nat.le_refl _) fL (sgL_e (hj3 ▸ hL)) (hP.sub [0, 1, 2] rfl) (hD.sub [0, 1, 2] (by decide +kernel) rfl) d_M_halve_38
      · have hj2 : j < n := by
          rcases Nat.lt_or_ge j n with q | q
          · exact q
          · exact absurd (by rw [hv9, hi]; exact nI_le q (by omega)) c_2
        refine lv_aload_n hx hb d_M_halve_12 rfl (lv_at hl 2 rfl) ?_
        refine lv_bipush (v := 64) hx hb d_M_halve_13 (by decide) ?_
        refine lv_iload_n hx hb d_M_halve_15 rfl (lv_at hl 3 rfl) ?_
        refine lv_imul hx hb d_M_halve_16 ?_
        refine lv_topi (fun v_3 ev_3 => ?_)
        refine lv_iload_n hx hb d_M_halve_17 rfl (lv_at hl 0 rfl) ?_
        refine lv_iadd hx hb d_M_halve_18 ?_
        refine lv_topi (fun v_4 ev_4 => ?_)
        have hix : v_4 = nI (64 * mm + j) := by subst_vars; exact ix64
        refine lv_aload_n hx hb d_M_halve_19 rfl (lv_at hl 2 rfl) ?_
        refine lv_bipush (v := 64) hx hb d_M_halve_20 (by decide) ?_
        refine lv_iload_n hx hb d_M_halve_22 rfl (lv_at hl 3 rfl) ?_
        refine lv_imul hx hb d_M_halve_23 ?_
        refine lv_topi (fun v_5 ev_5 => ?_)
        refine lv_iload_n hx hb d_M_halve_24 rfl (lv_at hl 0 rfl) ?_
        refine lv_iadd hx hb d_M_halve_25 ?_
        refine lv_topi (fun v_6 ev_6 => ?_)
        have hix2 : v_6 = nI (64 * mm + j) := by subst_vars; exact ix64
        refine va_iald hx hb hK hP 2 0 rfl rfl (by rw [hix2]; exact vp_in_nI (by omega) (by decide)) d_M_halve_26 ?_
        refine lv_topi (fun v_7 ev_7 => ?_)
        refine lv_iconst (v := 1) hx hb d_M_halve_27 (by decide) ?_
        refine lv_iadd hx hb d_M_halve_28 ?_
        refine lv_topi (fun v_8 ev_8 => ?_)
        refine lv_iconst (v := 2) hx hb d_M_halve_29 (by decide) ?_
        refine lv_idiv hx hb d_M_halve_30 (by decide) ?_
        refine lv_topi (fun v_9 ev_9 => ?_)
        have hval : v_9 = nI (hv F j) := by
          have hb9 := hB j hj2
          subst_vars
          rw [nI_clamp (by omega), sgL_rd hL hj2]
          exact (congrArg (· / (2 : Int32)) (nI_1 (F j))).trans (pk_div (d := 2) (by omega) (by decide) (by decide))
        refine va_iast hx hb hK hP hD hS 2 0 rfl rfl (by rw [hix]; exact vp_in_nI (by omega) (by decide)) d_M_halve_31 (fun H locs hP hD hS => ?_)
        have hPD : my_PD (dC, dI) vwCl A [(o, Sum.inr (9, mO g fForm fShift fModels fItems fEnded fLow fRange fCache fPend fGoes fOuts fIns fReads fBad fIR fAsk fBAsk fCode fRL fRR fX fWrites fThrown)), ((g 0), Sum.inl (cI, 8, Sum.inl vMany)), (a, Sum.inl (cI, 512, Sum.inl (upd fL v_4.toNatClampNeg v_9)))] H := ⟨hP, hD⟩
        have hP := hPD.1
        have hD := hPD.2
        obtain ⟨v_10, ev_10⟩ : ∃ y : Int32, y = i9 + (1) := ⟨_, rfl⟩
        refine lv_iinc (v := v_10) (lv' := [(3, Value.int v_10), (0, Value.ref o), (1, Value.ref a), (2, Value.int (nI mm))]) hx hb d_M_halve_32 hl (k := 0) rfl (by rw [ev_10]; rfl) (by decide) rfl (fun ls hl => ?_)
        refine lv_goto (tgt := 2) hx hb d_M_halve_35 (by decide) ?_
        exact ih9_2 _ (by first | omega | (omega)) (upd fL v_4.toNatClampNeg v_9) v_10 (j + 1) rfl (sgL_st hL hj2 (by rw [hix]; exact nI_clamp (by omega)) hval) (by subst_vars; exact nI_1 j) (by omega) H locs ls (hP.sub [0, 1, 2] rfl) (hD.sub [0, 1, 2] (by decide +kernel) rfl) hS (lv_sub hl [0, 1, 2, 3] rfl)
  exact J_2 _ f 0 0 rfl (sgL_0 hf) (rfl) (Nat.zero_le _) H locs ls (hP.sub [0, 1, 2] rfl) (hD.sub [0, 1, 2] (by decide +kernel) rfl) hS (lv_sub hl [0, 1, 2, 3] rfl)
set_option maxHeartbeats 1000000 in
set_option maxRecDepth 100000 in
/-- greatest -/
theorem c_M_greatest (l : Launch) (dC : Nat → ClassId) (dI : Nat → Nat → Nat) (cI cM cO : ClassId) (sz : Nat) (o : Nat) (g : Nat → Nat) (fForm : Int32) (fShift : Int32) (fModels : Int32) (fItems : Int32) (fEnded : Int32) (fLow : Int64) (fRange : Int64) (fCache : Int32) (fPend : Int32) (fGoes : Int32) (fOuts : Int32) (fIns : Int32) (fReads : Int32) (fBad : Int32) (fIR : Int32) (fAsk : Int32) (fBAsk : Int32) (fCode : Int64) (fRL : Int64) (fRR : Int64) (fX : Int64) (fWrites : Int32) (fThrown : Int32) (vMany : Nat → Int32) (a : Nat) (f : Nat → Int32) (mm : Nat) (n : Nat) (F : Nat → Nat) (hmm : mm < 8) (hn : vMany mm = nI n) (hn2 : n ≤ 64) (hn1 : 0 < n) (hf : sgI f (64 * mm) n F) (hB : bd F n 1000000) : MetI l y_M_greatest (Cond.code y_M_greatest prog_14_method_11_code 5 (some .int) :: gw) ({ frames := 0, cells := 0, slots := 0, locals := 0 } : Room) (dC, dI) vwCl (kT cI cM cO) [Value.ref o, Value.ref a, Value.int (nI mm)] [(o, Sum.inr (9, mO g fForm fShift fModels fItems fEnded fLow fRange fCache fPend fGoes fOuts fIns fReads fBad fIR fAsk fBAsk fCode fRL fRR fX fWrites fThrown)), ((g 0), Sum.inl (cI, 8, Sum.inl vMany)), (a, Sum.inl (cI, 512, Sum.inl f))] sz (fun (r : Int32) (u : Unit) => r = nI (64 * mm + gr F n)) (fun (u : Unit) => [(o, Sum.inr (9, mO g fForm fShift fModels fItems fEnded fLow fRange fCache fPend fGoes fOuts fIns fReads fBad fIR fAsk fBAsk fCode fRL fRR fX fWrites fThrown)), ((g 0), Sum.inl (cI, 8, Sum.inl vMany)), (a, Sum.inl (cI, 512, Sum.inl f))]) 0 0 := by
  refine my_ofI (cc := prog_14_method_11_code) (n := 5) (ret := (some .int)) (by decide) rfl (Nat.le_of_ble_eq_true rfl) ?_
  intro p e s m args below meth c R Q A ls H locs hx hb hr hts hown hlocks hml hnm hR hQ hA hl hP hK hN hD hS
  have hg : ∀ w ∈ gw, w.before args s = true := fun w h => hts w (List.mem_cons_of_mem _ h)
  have hown : s.vm.findClass "RangeCodersModel" = some m.cls := hown
  have hl : lv_has ls 5 [(0, Value.ref o), (1, Value.ref a), (2, Value.int (nI mm))] := hl
  refine lv_iconst (v := 0) hx hb d_M_greatest_0 (by decide) ?_
  refine lv_istore_n (lv' := [(3, Value.int 0), (0, Value.ref o), (1, Value.ref a), (2, Value.int (nI mm))]) hx hb d_M_greatest_1 rfl hl (by decide) rfl (fun ls hl => ?_)
  refine lv_iconst (v := 1) hx hb d_M_greatest_2 (by decide) ?_
  refine lv_istore (lv' := [(4, Value.int 1), (3, Value.int 0), (0, Value.ref o), (1, Value.ref a), (2, Value.int (nI mm))]) hx hb d_M_greatest_3 hl (by decide) rfl (fun ls hl => ?_)
  have J_5 : ∀ (n9_5 : Nat) (s9 : Int32) (i9 : Int32) (j : Nat) (hn9_5 : n - j = n9_5) (hs : s9 = nI (gr F j)) (hi : i9 = nI j) (hj : j ≤ n) (hj1 : 0 < j) (H : Heap) (locs : List Loc) (ls : Array Slot), va_P (dC, dI) vwCl [(o, Sum.inr (9, mO g fForm fShift fModels fItems fEnded fLow fRange fCache fPend fGoes fOuts fIns fReads fBad fIR fAsk fBAsk fCode fRL fRR fX fWrites fThrown)), ((g 0), Sum.inl (cI, 8, Sum.inl vMany)), (a, Sum.inl (cI, 512, Sum.inl f))] H → va_D A [(o, Sum.inr (9, mO g fForm fShift fModels fItems fEnded fLow fRange fCache fPend fGoes fOuts fIns fReads fBad fIR fAsk fBAsk fCode fRL fRR fX fWrites fThrown)), ((g 0), Sum.inl (cI, 8, Sum.inl vMany)), (a, Sum.inl (cI, 512, Sum.inl f))] → va_S A s.heap H locs → lv_has ls 5 [(4, Value.int i9), (3, Value.int s9), (0, Value.ref o), (1, Value.ref a), (2, Value.int (nI mm))] → W p l e R s m args below meth c H locs 0 0 Q (F0 m 5 ls []) := by
    intro n9_5
    induction n9_5 using Nat.strongRecOn with
    | ind n9_5 ih9_5 =>
      intro s9 i9 j hn9_5 hs hi hj hj1 H locs ls hP hD hS hl
      refine lv_iload hx hb d_M_greatest_5 (lv_at hl 0 rfl) ?_
      refine lv_aload_n hx hb d_M_greatest_7 rfl (lv_at hl 2 rfl) ?_
      refine va_get (D := (dC, dI)) (ci := 9) (v := .ref (g 0)) (C := "RangeCodersModel") (T := T_M) (N := 35) hx hb hg in_M hown hK hP 0 rfl rfl 3 (by decide) (hg _ k955) (fun _ h9 => h9) rfl d_M_greatest_8 ?_
      refine lv_iload_n hx hb d_M_greatest_11 rfl (lv_at hl 4 rfl) ?_
      refine va_iald hx hb hK hP 1 0 rfl rfl (vp_in_nI hmm (by decide)) d_M_greatest_12 ?_
      refine lv_topi (fun v_1 ev_1 => ?_)
      have hv9 : v_1 = nI n := by subst_vars; rw [nI_clamp (by omega)]; exact hn
      refine lv_icmp_ge (tgt := 49) hx hb d_M_greatest_13 (by decide) (fun c_2 => ?_) (fun c_2 => ?_)
      · have hj3 : j = n := by
          rcases Nat.lt_or_ge j n with q | q
          · exact absurd c_2 (by rw [hv9, hi]; exact nI_ge q (by omega))
          · omega
        refine lv_bipush (v := 64) hx hb d_M_greatest_49 (by decide) ?_
        refine lv_iload_n hx hb d_M_greatest_51 rfl (lv_at hl 4 rfl) ?_
        refine lv_imul hx hb d_M_greatest_52 ?_
        refine lv_topi (fun v_3 ev_3 => ?_)
        refine lv_iload_n hx hb d_M_greatest_53 rfl (lv_at hl 1 rfl) ?_
        refine lv_iadd hx hb d_M_greatest_54 ?_
        refine lv_topi (fun v_4 ev_4 => ?_)
        exact my_iret (v := v_4) hx hb hr (rfl) hlocks hQ hK hS (Nat.le_refl _) (Nat.le_refl _) () (by subst_vars; exact ix64) (hP.sub [0, 1, 2] rfl) (hD.sub [0, 1, 2] (by decide +kernel) rfl) d_M_greatest_55
      · have hj2 : j < n := by
          rcases Nat.lt_or_ge j n with q | q
          · exact q
          · exact absurd (by rw [hv9, hi]; exact nI_le q (by omega)) c_2
        have hg1 := gr_lt F hj1
        have hb1 := hB j hj2
        have hb2 := hB (gr F j) (by omega)
        refine lv_aload_n hx hb d_M_greatest_16 rfl (lv_at hl 3 rfl) ?_
        refine lv_bipush (v := 64) hx hb d_M_greatest_17 (by decide) ?_
        refine lv_iload_n hx hb d_M_greatest_19 rfl (lv_at hl 4 rfl) ?_
        refine lv_imul hx hb d_M_greatest_20 ?_
        refine lv_topi (fun v_5 ev_5 => ?_)
        refine lv_iload hx hb d_M_greatest_21 (lv_at hl 0 rfl) ?_
        refine lv_iadd hx hb d_M_greatest_23 ?_
        refine lv_topi (fun v_6 ev_6 => ?_)
        have hix : v_6 = nI (64 * mm + j) := by subst_vars; exact ix64
        refine va_iald hx hb hK hP 2 0 rfl rfl (by rw [hix]; exact vp_in_nI (by omega) (by decide)) d_M_greatest_24 ?_
        refine lv_topi (fun v_7 ev_7 => ?_)
        have hld : v_7 = nI (F j) := by rw [ev_7, hix, nI_clamp (by omega)]; exact hf j hj2
        refine lv_aload_n hx hb d_M_greatest_25 rfl (lv_at hl 3 rfl) ?_
        refine lv_bipush (v := 64) hx hb d_M_greatest_26 (by decide) ?_
        refine lv_iload_n hx hb d_M_greatest_28 rfl (lv_at hl 4 rfl) ?_
        refine lv_imul hx hb d_M_greatest_29 ?_
        refine lv_topi (fun v_8 ev_8 => ?_)
        refine lv_iload_n hx hb d_M_greatest_30 rfl (lv_at hl 1 rfl) ?_
        refine lv_iadd hx hb d_M_greatest_31 ?_
        refine lv_topi (fun v_9 ev_9 => ?_)
        have hix2 : v_9 = nI (64 * mm + gr F j) := by subst_vars; exact ix64
        refine va_iald hx hb hK hP 2 0 rfl rfl (by rw [hix2]; exact vp_in_nI (by omega) (by decide)) d_M_greatest_32 ?_
        refine lv_topi (fun v_10 ev_10 => ?_)
        have hlg : v_10 = nI (F (gr F j)) := by rw [ev_10, hix2, nI_clamp (by omega)]; exact hf _ (by omega)
        refine lv_icmp_le (tgt := 41) hx hb d_M_greatest_33 (by decide) (fun c_11 => ?_) (fun c_11 => ?_)
        · refine lv_iload_n hx hb d_M_greatest_41 rfl (lv_at hl 1 rfl) ?_
          refine lv_istore_n (lv' := [(3, Value.int s9), (4, Value.int i9), (0, Value.ref o), (1, Value.ref a), (2, Value.int (nI mm))]) hx hb d_M_greatest_42 rfl hl (by decide) rfl (fun ls hl => ?_)
          obtain ⟨v_12, ev_12⟩ : ∃ y : Int32, y = i9 + (1) := ⟨_, rfl⟩
          refine lv_iinc (v := v_12) (lv' := [(4, Value.int v_12), (3, Value.int s9), (0, Value.ref o), (1, Value.ref a), (2, Value.int (nI mm))]) hx hb d_M_greatest_43 hl (k := 1) rfl (by rw [ev_12]; rfl) (by decide) rfl (fun ls hl => ?_)
          refine lv_goto (tgt := 5) hx hb d_M_greatest_46 (by decide) ?_
          exact ih9_5 _ (by first | omega | (omega)) s9 v_12 (j + 1) rfl (by rw [gr]; rw [if_neg (by rw [hld, hlg, nI_cmp (by omega) (by omega)] at c_11; omega)]; exact hs) (by subst_vars; exact nI_1 j) (by omega) (by omega) H locs ls (hP.sub [0, 1, 2] rfl) (hD.sub [0, 1, 2] (by decide +kernel) rfl) hS (lv_sub hl [0, 1, 2, 3, 4] rfl)
        · refine lv_iload hx hb d_M_greatest_36 (lv_at hl 0 rfl) ?_
          refine lv_goto (tgt := 42) hx hb d_M_greatest_38 (by decide) ?_
          refine lv_istore_n (lv' := [(3, Value.int i9), (4, Value.int i9), (0, Value.ref o), (1, Value.ref a), (2, Value.int (nI mm))]) hx hb d_M_greatest_42 rfl hl (by decide) rfl (fun ls hl => ?_)
          obtain ⟨v_13, ev_13⟩ : ∃ y : Int32, y = i9 + (1) := ⟨_, rfl⟩
          refine lv_iinc (v := v_13) (lv' := [(4, Value.int v_13), (3, Value.int i9), (0, Value.ref o), (1, Value.ref a), (2, Value.int (nI mm))]) hx hb d_M_greatest_43 hl (k := 1) rfl (by rw [ev_13]; rfl) (by decide) rfl (fun ls hl => ?_)
          refine lv_goto (tgt := 5) hx hb d_M_greatest_46 (by decide) ?_
          exact ih9_5 _ (by first | omega | (omega)) i9 v_13 (j + 1) rfl (by rw [gr]; rw [if_pos (by rw [hld, hlg, nI_cmp (by omega) (by omega)] at c_11; omega)]; exact hi) (by subst_vars; exact nI_1 j) (by omega) (by omega) H locs ls (hP.sub [0, 1, 2] rfl) (hD.sub [0, 1, 2] (by decide +kernel) rfl) hS (lv_sub hl [0, 1, 2, 3, 4] rfl)
  exact J_5 _ 0 1 1 rfl (by rw [show gr F 1 = 0 by simp [gr]]; rfl) (rfl) (by omega) (by decide) H locs ls (hP.sub [0, 1, 2] rfl) (hD.sub [0, 1, 2] (by decide +kernel) rfl) hS (lv_sub hl [0, 1, 2, 3, 4] rfl)
set_option maxHeartbeats 1000000 in
set_option maxRecDepth 100000 in
/-- lessen -/
theorem c_M_lessen (l : Launch) (dC : Nat → ClassId) (dI : Nat → Nat → Nat) (cI cM cO : ClassId) (sz : Nat) (o : Nat) (g : Nat → Nat) (fForm : Int32) (fShift : Int32) (fModels : Int32) (fItems : Int32) (fEnded : Int32) (fLow : Int64) (fRange : Int64) (fCache : Int32) (fPend : Int32) (fGoes : Int32) (fOuts : Int32) (fIns : Int32) (fReads : Int32) (fBad : Int32) (fIR : Int32) (fAsk : Int32) (fBAsk : Int32) (fCode : Int64) (fRL : Int64) (fRR : Int64) (fX : Int64) (fWrites : Int32) (fThrown : Int32) (vMany : Nat → Int32) (a : Nat) (f : Nat → Int32) (mm : Nat) (n : Nat) (F : Nat → Nat) (hmm : mm < 8) (hn : vMany mm = nI n) (hn2 : n ≤ 64) (hf : sgI f (64 * mm) n F) (hB : bd F n 4095) : MetV l y_M_lessen (Cond.code y_M_lessen prog_14_method_10_code 3 none :: gw) ({ frames := 1, cells := 0, slots := 0, locals := 24 } : Room) (dC, dI) vwCl (kT cI cM cO) [Value.ref o, Value.ref a, Value.int (nI mm)] [(o, Sum.inr (9, mO g fForm fShift fModels fItems fEnded fLow fRange fCache fPend fGoes fOuts fIns fReads fBad fIR fAsk fBAsk fCode fRL fRR fX fWrites fThrown)), ((g 0), Sum.inl (cI, 8, Sum.inl vMany)), (a, Sum.inl (cI, 512, Sum.inl f))] sz (fun (u : (Nat → Int32)) => sgI u (64 * mm) n (les n F) ∧ sgO u f (64 * mm) n) (fun (u : (Nat → Int32)) => [(o, Sum.inr (9, mO g fForm fShift fModels fItems fEnded fLow fRange fCache fPend fGoes fOuts fIns fReads fBad fIR fAsk fBAsk fCode fRL fRR fX fWrites fThrown)), ((g 0), Sum.inl (cI, 8, Sum.inl vMany)), (a, Sum.inl (cI, 512, Sum.inl u))]) 0 0 := by
  refine my_ofV (cc := prog_14_method_10_code) (n := 3) (ret := none) (by decide) rfl (Nat.le_of_ble_eq_true rfl) ?_
  intro p e s m args below meth c R Q A ls H locs hx hb hr hts hown hlocks hml hnm hR hQ hA hl hP hK hN hD hS
  have hg : ∀ w ∈ gw, w.before args s = true := fun w h => hts w (List.mem_cons_of_mem _ h)
  have hown : s.vm.findClass "RangeCodersModel" = some m.cls := hown
  have hl : lv_has ls 3 [(0, Value.ref o), (1, Value.ref a), (2, Value.int (nI mm))] := hl
  have J_0 : ∀ (n9_0 : Nat) (fL : Nat → Int32) (F9 : Nat → Nat) (r9 : Nat) (hn9_0 : r9 = n9_0) (hI : sgI fL (64 * mm) n F9) (hO : sgO fL f (64 * mm) n) (hE : les n F = lesN n r9 F9) (hbF : bd F9 n (lb r9)) (hr1 : 27 ≤ r9) (hr2 : r9 ≤ 32) (H : Heap) (locs : List Loc) (ls : Array Slot), va_P (dC, dI) vwCl [(o, Sum.inr (9, mO g fForm fShift fModels fItems fEnded fLow fRange fCache fPend fGoes fOuts fIns fReads fBad fIR fAsk fBAsk fCode fRL fRR fX fWrites fThrown)), ((g 0), Sum.inl (cI, 8, Sum.inl vMany)), (a, Sum.inl (cI, 512, Sum.inl fL))] H → va_D A [(o, Sum.inr (9, mO g fForm fShift fModels fItems fEnded fLow fRange fCache fPend fGoes fOuts fIns fReads fBad fIR fAsk fBAsk fCode fRL fRR fX fWrites fThrown)), ((g 0), Sum.inl (cI, 8, Sum.inl vMany)), (a, Sum.inl (cI, 512, Sum.inl fL))] → va_S A s.heap H locs → lv_has ls 3 [(0, Value.ref o), (1, Value.ref a), (2, Value.int (nI mm))] → W p l e R s m args below meth c H locs 0 0 Q (F0 m 0 ls []) := by
    intro n9_0
    induction n9_0 using Nat.strongRecOn with
    | ind n9_0 ih9_0 =>
      intro fL F9 r9 hn9_0 hI hO hE hbF hr1 hr2 H locs ls hP hD hS hl
      have hb0 : bd F9 n 4095 := fun k hk => Nat.le_trans (hbF k hk) (by unfold lb; repeat (first | omega | split))
      have hs9 := ns_le64 hn2 hb0
      refine lv_aload_n hx hb d_M_lessen_0 rfl (lv_at hl 0 rfl) ?_
      refine lv_aload_n hx hb d_M_lessen_1 rfl (lv_at hl 1 rfl) ?_
      refine lv_iload_n hx hb d_M_lessen_2 rfl (lv_at hl 2 rfl) ?_
      refine my_ci (wr := []) (va_runV (As := [Value.ref a, Value.int (nI mm)]) (rest := []) ⟨hx, hb, hml, hown, hts⟩ (c_M_sum l dC dI cI cM cO H.size o g fForm fShift fModels fItems fEnded fLow fRange fCache fPend fGoes fOuts fIns fReads fBad fIR fAsk fBAsk fCode fRL fRR fX fWrites fThrown vMany a fL mm n F9 (by assumption) (by assumption) (by assumption) (hI)) (cwV 2 hts (my_gV k936 k938 ks21 k12 k939) rfl rfl rfl cu_M_sum_2 ⟨by rw [hR]; exact Nat.le_of_ble_eq_true rfl, by rw [hR]; exact Nat.le_of_ble_eq_true rfl⟩) (my_preV hK hN (hP.sub [0, 1, 2] rfl) (hD.sub [0, 1, 2] (by decide +kernel) rfl) 0 rfl rfl) rfl rfl hl.1 rfl (lv_room (Nat.le_of_ble_eq_true rfl)) d_M_lessen_3 ⟨by rw [hR]; exact Nat.le_of_ble_eq_true rfl, by rw [hR]; exact Nat.le_of_ble_eq_true rfl⟩) hP hD hS hA [0, 1, 2] [] rfl rfl (by decide +kernel) (by decide +kernel) (fun r_3 u9 H locs hw_3 hP hD hS => ?_)
      have hw_3 : r_3 = nI (ns F9 n) := hw_3
      have hPD : my_PD (dC, dI) vwCl A [(o, Sum.inr (9, mO g fForm fShift fModels fItems fEnded fLow fRange fCache fPend fGoes fOuts fIns fReads fBad fIR fAsk fBAsk fCode fRL fRR fX fWrites fThrown)), ((g 0), Sum.inl (cI, 8, Sum.inl vMany)), (a, Sum.inl (cI, 512, Sum.inl fL))] H := ⟨hP, hD⟩
      have hP := hPD.1
      have hD := hPD.2
      refine lv_sipush (v := 8192) hx hb d_M_lessen_6 (by decide) ?_
      refine lv_icmp_le (tgt := 21) hx hb d_M_lessen_9 (by decide) (fun c_1 => ?_) (fun c_1 => ?_)
      · have hle : ns F9 n ≤ 8192 := by
          rw [hw_3] at c_1
          exact (nI_cmp (b := 8192) (by omega) (by decide)).mp c_1
        exact my_vret hx hb hr hlocks hQ hK hS (Nat.le_refl _) (Nat.le_refl _) fL (⟨by rw [hE, lesN_e hle]; exact hI, hO⟩) (hP.sub [0, 1, 2] rfl) (hD.sub [0, 1, 2] (by decide +kernel) rfl) d_M_lessen_21
      · have hgt : ¬ ns F9 n ≤ 8192 := fun q => absurd (show r_3 ≤ 8192 by rw [hw_3]; exact nI_le (b := 8192) q (by decide)) c_1
        have hr27 : 27 < r9 := by
          rcases Nat.lt_or_ge 27 r9 with q | q
          · exact q
          · have e : r9 = 27 := by omega
            subst e
            exact absurd (ns_le64 hn2 hbF) (by simp [lb]; omega)
        refine lv_aload_n hx hb d_M_lessen_12 rfl (lv_at hl 0 rfl) ?_
        refine lv_aload_n hx hb d_M_lessen_13 rfl (lv_at hl 1 rfl) ?_
        refine lv_iload_n hx hb d_M_lessen_14 rfl (lv_at hl 2 rfl) ?_
        refine my_cv (wr := []) (va_runV (As := [Value.ref a, Value.int (nI mm)]) (rest := []) ⟨hx, hb, hml, hown, hts⟩ (c_M_halve l dC dI cI cM cO H.size o g fForm fShift fModels fItems fEnded fLow fRange fCache fPend fGoes fOuts fIns fReads fBad fIR fAsk fBAsk fCode fRL fRR fX fWrites fThrown vMany a fL mm n F9 (by assumption) (by assumption) (by assumption) (hI) (fun k hk => Nat.le_trans (hb0 k hk) (by decide))) (cwV 2 hts (my_gV k940 k942 ks22 k12 k943) rfl rfl rfl cu_M_halve_2 ⟨by rw [hR]; exact Nat.le_of_ble_eq_true rfl, by rw [hR]; exact Nat.le_of_ble_eq_true rfl⟩) (my_preV hK hN (hP.sub [0, 1, 2] rfl) (hD.sub [0, 1, 2] (by decide +kernel) rfl) 0 rfl rfl) rfl rfl hl.1 rfl (lv_room (Nat.le_of_ble_eq_true rfl)) d_M_lessen_15 ⟨by rw [hR]; exact Nat.le_of_ble_eq_true rfl, by rw [hR]; exact Nat.le_of_ble_eq_true rfl⟩) hP hD hS hA [0, 1, 2] [] rfl rfl (by decide +kernel) (by decide +kernel) (fun u9 H locs hw_15 hP hD hS => ?_)
        obtain ⟨f2_15, rfl⟩ : ∃ z, z = u9 := ⟨_, rfl⟩
        have hw_15 : sgI f2_15 (64 * mm) n (hv F9) ∧ sgO f2_15 fL (64 * mm) n := hw_15
        have hPD : my_PD (dC, dI) vwCl A [(o, Sum.inr (9, mO g fForm fShift fModels fItems fEnded fLow fRange fCache fPend fGoes fOuts fIns fReads fBad fIR fAsk fBAsk fCode fRL fRR fX fWrites fThrown)), ((g 0), Sum.inl (cI, 8, Sum.inl vMany)), (a, Sum.inl (cI, 512, Sum.inl f2_15))] H := ⟨hP, hD⟩
        have hP := hPD.1
        have hD := hPD.2
        refine lv_goto (tgt := 0) hx hb d_M_lessen_18 (by decide) ?_
        exact ih9_0 _ (by first | omega | (omega)) f2_15 (hv F9) (r9 - 1) rfl (hw_15.1) (sgO_tr hw_15.2 hO) (by rw [hE, lesN_s (by omega) hgt]) (fun k hk => lb_st hr27 hr2 (hbF k hk)) (by omega) (by omega) H locs ls (hP.sub [0, 1, 2] rfl) (hD.sub [0, 1, 2] (by decide +kernel) rfl) hS (lv_sub hl [0, 1, 2] rfl)
  exact J_0 _ f F 32 rfl (hf) (sgO_rf _ _ _) (rfl) (hB) (by decide) (by decide) H locs ls (hP.sub [0, 1, 2] rfl) (hD.sub [0, 1, 2] (by decide +kernel) rfl) hS (lv_sub hl [0, 1, 2] rfl)
end
section
set_option maxHeartbeats 1000000 in
set_option maxRecDepth 100000 in
/-- isSign -/
theorem c_M_isSign (l : Launch) (dC : Nat → ClassId) (dI : Nat → Nat → Nat) (cI cM cO : ClassId) (sz : Nat) (o : Nat) (g : Nat → Nat) (fForm : Int32) (fShift : Int32) (fModels : Int32) (fItems : Int32) (fEnded : Int32) (fLow : Int64) (fRange : Int64) (fCache : Int32) (fPend : Int32) (fGoes : Int32) (fOuts : Int32) (fIns : Int32) (fReads : Int32) (fBad : Int32) (fIR : Int32) (fAsk : Int32) (fBAsk : Int32) (fCode : Int64) (fRL : Int64) (fRR : Int64) (fX : Int64) (fWrites : Int32) (fThrown : Int32) (vMany : Nat → Int32) (km : Nat) (p1 : Int32) (p2 : Int32) (hkm : km ≤ 8) (hmod : fModels = nI km) : MetI l y_M_isSign (Cond.code y_M_isSign prog_14_method_5_code 3 (some .boolean) :: gw) ({ frames := 2, cells := 0, slots := 0, locals := 43 } : Room) (dC, dI) vwCl (kT cI cM cO) [Value.ref o, Value.int p1, Value.int p2] [(o, Sum.inr (9, mO g fForm fShift fModels fItems fEnded fLow fRange fCache fPend fGoes fOuts fIns fReads fBad fIR fAsk fBAsk fCode fRL fRR fX fWrites fThrown)), ((g 0), Sum.inl (cI, 8, Sum.inl vMany))] sz (fun (r : Int32) (u : Unit) => r = if isN km p1 ∧ (0 ≤ p2 ∧ p2 ≤ vMany p1.toNatClampNeg - 1) then 1 else 0) (fun (u : Unit) => [(o, Sum.inr (9, mO g fForm fShift fModels fItems fEnded fLow fRange fCache fPend fGoes fOuts fIns fReads fBad fIR fAsk fBAsk fCode fRL fRR fX fWrites fThrown)), ((g 0), Sum.inl (cI, 8, Sum.inl vMany))]) 0 0 := by
  refine my_ofI (cc := prog_14_method_5_code) (n := 3) (ret := (some .boolean)) (by decide) rfl (Nat.le_of_ble_eq_true rfl) ?_
  intro p e s m args below meth c R Q A ls H locs hx hb hr hts hown hlocks hml hnm hR hQ hA hl hP hK hN hD hS
  have hg : ∀ w ∈ gw, w.before args s = true := fun w h => hts w (List.mem_cons_of_mem _ h)
  have hown : s.vm.findClass "RangeCodersModel" = some m.cls := hown
  have hl : lv_has ls 3 [(0, Value.ref o), (1, Value.int p1), (2, Value.int p2)] := hl
  have hm9 : ∀ r : Int32, (r = if 0 ≤ p1 ∧ p1 ≤ fModels - 1 then 1 else 0) → (¬ r = 0 ↔ isN km p1) := fun r h => by
    rw [hmod] at h
    exact ⟨fun c => one_ne h c, fun q c => one_eq h c q⟩
  refine lv_aload_n hx hb d_M_isSign_0 rfl (lv_at hl 0 rfl) ?_
  refine lv_iload_n hx hb d_M_isSign_1 rfl (lv_at hl 1 rfl) ?_
  refine my_ci (wr := [((g 0), Sum.inl (cI, 8, Sum.inl vMany))]) (va_runV (As := [Value.int p1]) (rest := []) ⟨hx, hb, hml, hown, hts⟩ (c_M_isModel l dC dI cI cM cO H.size o g fForm fShift fModels fItems fEnded fLow fRange fCache fPend fGoes fOuts fIns fReads fBad fIR fAsk fBAsk fCode fRL fRR fX fWrites fThrown p1) (cwV 1 hts (my_gV k1073 k1075 ks26 k12 k1076) rfl rfl rfl cu_M_isModel_1 ⟨by rw [hR]; exact Nat.le_of_ble_eq_true rfl, by rw [hR]; exact Nat.le_of_ble_eq_true rfl⟩) (my_preV hK hN (hP.sub [0] rfl) (hD.sub [0] (by decide +kernel) rfl) 0 rfl rfl) rfl rfl hl.1 rfl (lv_room (Nat.le_of_ble_eq_true rfl)) d_M_isSign_2 ⟨by rw [hR]; exact Nat.le_of_ble_eq_true rfl, by rw [hR]; exact Nat.le_of_ble_eq_true rfl⟩) hP hD hS hA [0] [1] rfl rfl (by decide +kernel) (by decide +kernel) (fun r_2 u9 H locs hw_2 hP hD hS => ?_)
  have hw_2 : r_2 = if 0 ≤ p1 ∧ p1 ≤ fModels - 1 then 1 else 0 := hw_2
  have hPD : my_PD (dC, dI) vwCl A [((g 0), Sum.inl (cI, 8, Sum.inl vMany)), (o, Sum.inr (9, mO g fForm fShift fModels fItems fEnded fLow fRange fCache fPend fGoes fOuts fIns fReads fBad fIR fAsk fBAsk fCode fRL fRR fX fWrites fThrown))] H := ⟨hP, hD⟩
  have hP := hPD.1
  have hD := hPD.2
  refine lv_if_eq (tgt := 28) hx hb d_M_isSign_5 (by decide) (fun c_1 => ?_) (fun c_1 => ?_)
  · refine lv_iconst (v := 0) hx hb d_M_isSign_28 (by decide) ?_
    exact my_iret (v := 0) hx hb hr (rfl) hlocks hQ hK hS (Nat.le_refl _) (Nat.le_refl _) () (by rw [if_neg (fun h => absurd ((hm9 _ hw_2).mpr h.1) (fun q => q c_1))]) (hP.sub [1, 0] rfl) (hD.sub [1, 0] (by decide +kernel) rfl) d_M_isSign_29
  · have hi1 := (hm9 _ hw_2).mp c_1
    obtain ⟨j1, hj1, ej1⟩ := (isN_iff (by omega)).mp hi1
    refine lv_iload_n hx hb d_M_isSign_8 rfl (lv_at hl 2 rfl) ?_
    refine lv_iconst (v := 0) hx hb d_M_isSign_9 (by decide) ?_
    refine lv_aload_n hx hb d_M_isSign_10 rfl (lv_at hl 0 rfl) ?_
    refine va_get (D := (dC, dI)) (ci := 9) (v := .ref (g 0)) (C := "RangeCodersModel") (T := T_M) (N := 35) hx hb hg in_M hown hK hP 1 rfl rfl 3 (by decide) (hg _ k955) (fun _ h9 => h9) rfl d_M_isSign_11 ?_
    refine lv_iload_n hx hb d_M_isSign_14 rfl (lv_at hl 1 rfl) ?_
    refine va_iald hx hb hK hP 0 0 rfl rfl (by rw [ej1]; exact vp_in_nI (by omega) (by decide)) d_M_isSign_15 ?_
    refine lv_topi (fun v_2 ev_2 => ?_)
    refine lv_iconst (v := 1) hx hb d_M_isSign_16 (by decide) ?_
    refine lv_isub hx hb d_M_isSign_17 ?_
    refine lv_topi (fun v_3 ev_3 => ?_)
    have e18 : v_3 = vMany p1.toNatClampNeg - 1 := by subst_vars; rfl
    refine my_ci (wr := [((g 0), Sum.inl (cI, 8, Sum.inl vMany)), (o, Sum.inr (9, mO g fForm fShift fModels fItems fEnded fLow fRange fCache fPend fGoes fOuts fIns fReads fBad fIR fAsk fBAsk fCode fRL fRR fX fWrites fThrown))]) (va_runS (As := [Value.int p2, Value.int 0, Value.int v_3]) (rest := []) ⟨hx, hb, hml, hown, hts⟩ (c_M_in l dC dI cI cM cO H.size p2 0 v_3) (cwS 3 hts (my_gS k1062 k1063 k12 k1064) rfl rfl rfl (by decide +kernel) ⟨by rw [hR]; exact Nat.le_of_ble_eq_true rfl, by rw [hR]; exact Nat.le_of_ble_eq_true rfl⟩) (my_pre hK hN (hP.sub [] rfl) (hD.sub [] (by decide +kernel) rfl)) rfl rfl hl.1 rfl (lv_room (Nat.le_of_ble_eq_true rfl)) d_M_isSign_18 ⟨by rw [hR]; exact Nat.le_of_ble_eq_true rfl, by rw [hR]; exact Nat.le_of_ble_eq_true rfl⟩) hP hD hS hA [] [0, 1] rfl rfl (by decide +kernel) (by decide +kernel) (fun r_18 u9 H locs hw_18 hP hD hS => ?_)
    have hw_18 : r_18 = if 0 ≤ p2 ∧ p2 ≤ v_3 then 1 else 0 := hw_18
    have hPD : my_PD (dC, dI) vwCl A [((g 0), Sum.inl (cI, 8, Sum.inl vMany)), (o, Sum.inr (9, mO g fForm fShift fModels fItems fEnded fLow fRange fCache fPend fGoes fOuts fIns fReads fBad fIR fAsk fBAsk fCode fRL fRR fX fWrites fThrown))] H := ⟨hP, hD⟩
    have hP := hPD.1
    have hD := hPD.2
    rw [e18] at hw_18
    refine lv_if_eq (tgt := 28) hx hb d_M_isSign_21 (by decide) (fun c_4 => ?_) (fun c_4 => ?_)
    · refine lv_iconst (v := 0) hx hb d_M_isSign_28 (by decide) ?_
      exact my_iret (v := 0) hx hb hr (rfl) hlocks hQ hK hS (Nat.le_refl _) (Nat.le_refl _) () (by rw [if_neg (fun h => one_eq hw_18 c_4 h.2)]) (hP.sub [1, 0] rfl) (hD.sub [1, 0] (by decide +kernel) rfl) d_M_isSign_29
    · refine lv_iconst (v := 1) hx hb d_M_isSign_24 (by decide) ?_
      refine lv_goto (tgt := 29) hx hb d_M_isSign_25 (by decide) ?_
      exact my_iret (v := 1) hx hb hr (rfl) hlocks hQ hK hS (Nat.le_refl _) (Nat.le_refl _) () (by rw [if_pos ⟨hi1, one_ne hw_18 c_4⟩]) (hP.sub [1, 0] rfl) (hD.sub [1, 0] (by decide +kernel) rfl) d_M_isSign_29
set_option maxHeartbeats 1000000 in
set_option maxRecDepth 100000 in
/-- levels -/
theorem c_M_levels (l : Launch) (dC : Nat → ClassId) (dI : Nat → Nat → Nat) (cI cM cO : ClassId) (sz : Nat) (o : Nat) (g : Nat → Nat) (fForm : Int32) (fShift : Int32) (fModels : Int32) (fItems : Int32) (fEnded : Int32) (fLow : Int64) (fRange : Int64) (fCache : Int32) (fPend : Int32) (fGoes : Int32) (fOuts : Int32) (fIns : Int32) (fReads : Int32) (fBad : Int32) (fIR : Int32) (fAsk : Int32) (fBAsk : Int32) (fCode : Int64) (fRL : Int64) (fRR : Int64) (fX : Int64) (fWrites : Int32) (fThrown : Int32) (vMany : Nat → Int32) (mm : Nat) (n : Nat) (hmm : mm < 8) (hn : vMany mm = nI n) (hn2 : n ≤ 64) : MetI l y_M_levels (Cond.code y_M_levels prog_14_method_6_code 3 (some .int) :: gw) ({ frames := 0, cells := 0, slots := 0, locals := 0 } : Room) (dC, dI) vwCl (kT cI cM cO) [Value.ref o, Value.int (nI mm)] [(o, Sum.inr (9, mO g fForm fShift fModels fItems fEnded fLow fRange fCache fPend fGoes fOuts fIns fReads fBad fIR fAsk fBAsk fCode fRL fRR fX fWrites fThrown)), ((g 0), Sum.inl (cI, 8, Sum.inl vMany))] sz (fun (r : Int32) (u : Unit) => r = nI (lev n)) (fun (u : Unit) => [(o, Sum.inr (9, mO g fForm fShift fModels fItems fEnded fLow fRange fCache fPend fGoes fOuts fIns fReads fBad fIR fAsk fBAsk fCode fRL fRR fX fWrites fThrown)), ((g 0), Sum.inl (cI, 8, Sum.inl vMany))]) 0 0 := by
  refine my_ofI (cc := prog_14_method_6_code) (n := 3) (ret := (some .int)) (by decide) rfl (Nat.le_of_ble_eq_true rfl) ?_
  intro p e s m args below meth c R Q A ls H locs hx hb hr hts hown hlocks hml hnm hR hQ hA hl hP hK hN hD hS
  have hg : ∀ w ∈ gw, w.before args s = true := fun w h => hts w (List.mem_cons_of_mem _ h)
  have hown : s.vm.findClass "RangeCodersModel" = some m.cls := hown
  have hl : lv_has ls 3 [(0, Value.ref o), (1, Value.int (nI mm))] := hl
  refine lv_iconst (v := 0) hx hb d_M_levels_0 (by decide) ?_
  refine lv_istore_n (lv' := [(2, Value.int 0), (0, Value.ref o), (1, Value.int (nI mm))]) hx hb d_M_levels_1 rfl hl (by decide) rfl (fun ls hl => ?_)
  have J_2 : ∀ (n9_2 : Nat) (i9 : Int32) (j : Nat) (hn9_2 : 6 - j = n9_2) (hi : i9 = nI j) (hj : j ≤ 6) (hq : 0 < j → 2 ^ (j - 1) < n) (H : Heap) (locs : List Loc) (ls : Array Slot), va_P (dC, dI) vwCl [(o, Sum.inr (9, mO g fForm fShift fModels fItems fEnded fLow fRange fCache fPend fGoes fOuts fIns fReads fBad fIR fAsk fBAsk fCode fRL fRR fX fWrites fThrown)), ((g 0), Sum.inl (cI, 8, Sum.inl vMany))] H → va_D A [(o, Sum.inr (9, mO g fForm fShift fModels fItems fEnded fLow fRange fCache fPend fGoes fOuts fIns fReads fBad fIR fAsk fBAsk fCode fRL fRR fX fWrites fThrown)), ((g 0), Sum.inl (cI, 8, Sum.inl vMany))] → va_S A s.heap H locs → lv_has ls 3 [(2, Value.int i9), (0, Value.ref o), (1, Value.int (nI mm))] → W p l e R s m args below meth c H locs 0 0 Q (F0 m 2 ls []) := by
    intro n9_2
    induction n9_2 using Nat.strongRecOn with
    | ind n9_2 ih9_2 =>
      intro i9 j hn9_2 hi hj hq H locs ls hP hD hS hl
      refine lv_iconst (v := 1) hx hb d_M_levels_2 (by decide) ?_
      refine lv_iload_n hx hb d_M_levels_3 rfl (lv_at hl 0 rfl) ?_
      refine lv_ishl hx hb d_M_levels_4 ?_
      refine lv_topi (fun v_1 ev_1 => ?_)
      refine lv_aload_n hx hb d_M_levels_5 rfl (lv_at hl 1 rfl) ?_
      refine va_get (D := (dC, dI)) (ci := 9) (v := .ref (g 0)) (C := "RangeCodersModel") (T := T_M) (N := 35) hx hb hg in_M hown hK hP 0 rfl rfl 3 (by decide) (hg _ k955) (fun _ h9 => h9) rfl d_M_levels_6 ?_
      refine lv_iload_n hx hb d_M_levels_9 rfl (lv_at hl 2 rfl) ?_
      refine va_iald hx hb hK hP 1 0 rfl rfl (vp_in_nI hmm (by decide)) d_M_levels_10 ?_
      refine lv_topi (fun v_2 ev_2 => ?_)
      have hv9 : v_2 = nI n := by subst_vars; rw [nI_clamp (by omega)]; exact hn
      have hv8 : v_1 = nI (2 ^ j) := by subst_vars; exact shl1 j (by omega)
      have hp9 : 2 ^ j ≤ 2 ^ 6 := Nat.pow_le_pow_right (by decide) hj
      refine lv_icmp_ge (tgt := 20) hx hb d_M_levels_11 (by decide) (fun c_3 => ?_) (fun c_3 => ?_)
      · have hge : n ≤ 2 ^ j := by
          rw [hv9, hv8] at c_3
          exact (nI_cmp (by omega) (by omega)).mp c_3
        refine lv_iload_n hx hb d_M_levels_20 rfl (lv_at hl 0 rfl) ?_
        exact my_iret (v := i9) hx hb hr (rfl) hlocks hQ hK hS (Nat.le_refl _) (Nat.le_refl _) () (by rw [hi, lev_of hj hge hq]) (hP.sub [0, 1] rfl) (hD.sub [0, 1] (by decide +kernel) rfl) d_M_levels_21
      · have hlt : 2 ^ j < n := by
          rcases Nat.lt_or_ge (2 ^ j) n with q | q
          · exact q
          · exact absurd (by rw [hv9, hv8]; exact nI_le q (by omega)) c_3
        have hj6 : j < 6 := by
          rcases Nat.lt_or_ge j 6 with q | q
          · exact q
          · have e : j = 6 := by omega
            subst e; omega
        obtain ⟨v_4, ev_4⟩ : ∃ y : Int32, y = i9 + (1) := ⟨_, rfl⟩
        refine lv_iinc (v := v_4) (lv' := [(2, Value.int v_4), (0, Value.ref o), (1, Value.int (nI mm))]) hx hb d_M_levels_14 hl (k := 0) rfl (by rw [ev_4]; rfl) (by decide) rfl (fun ls hl => ?_)
        refine lv_goto (tgt := 2) hx hb d_M_levels_17 (by decide) ?_
        exact ih9_2 _ (by first | omega | (omega)) v_4 (j + 1) rfl (by subst_vars; exact nI_1 j) (by omega) (fun _ => hlt) H locs ls (hP.sub [0, 1] rfl) (hD.sub [0, 1] (by decide +kernel) rfl) hS (lv_sub hl [0, 1, 2] rfl)
  exact J_2 _ 0 0 rfl (rfl) (by decide) (fun h => absurd h (by decide)) H locs ls (hP.sub [0, 1] rfl) (hD.sub [0, 1] (by decide +kernel) rfl) hS (lv_sub hl [0, 1, 2] rfl)
set_option maxHeartbeats 1000000 in
set_option maxRecDepth 100000 in
/-- learn -/
theorem c_M_learn (l : Launch) (dC : Nat → ClassId) (dI : Nat → Nat → Nat) (cI cM cO : ClassId) (sz : Nat) (o : Nat) (g : Nat → Nat) (fForm : Int32) (fShift : Int32) (fModels : Int32) (fItems : Int32) (fEnded : Int32) (fLow : Int64) (fRange : Int64) (fCache : Int32) (fPend : Int32) (fGoes : Int32) (fOuts : Int32) (fIns : Int32) (fReads : Int32) (fBad : Int32) (fIR : Int32) (fAsk : Int32) (fBAsk : Int32) (fCode : Int64) (fRL : Int64) (fRR : Int64) (fX : Int64) (fWrites : Int32) (fThrown : Int32) (vMany : Nat → Int32) (a : Nat) (f : Nat → Int32) (mm : Nat) (n : Nat) (t : Nat) (F : Nat → Nat) (hmm : mm < 8) (hn : vMany mm = nI n) (hn2 : n ≤ 64) (ht : t < n) (hf : sgI f (64 * mm) n F) (hB : bd F n 100000) : MetV l y_M_learn (Cond.code y_M_learn prog_14_method_23_code 4 none :: gw) ({ frames := 1, cells := 0, slots := 0, locals := 24 } : Room) (dC, dI) vwCl (kT cI cM cO) [Value.ref o, Value.ref a, Value.int (nI mm), Value.int (nI t)] [(o, Sum.inr (9, mO g fForm fShift fModels fItems fEnded fLow fRange fCache fPend fGoes fOuts fIns fReads fBad fIR fAsk fBAsk fCode fRL fRR fX fWrites fThrown)), ((g 0), Sum.inl (cI, 8, Sum.inl vMany)), (a, Sum.inl (cI, 512, Sum.inl f))] sz (fun (u : (Nat → Int32)) => sgI u (64 * mm) n (lrn n t F) ∧ sgO u f (64 * mm) n) (fun (u : (Nat → Int32)) => [(o, Sum.inr (9, mO g fForm fShift fModels fItems fEnded fLow fRange fCache fPend fGoes fOuts fIns fReads fBad fIR fAsk fBAsk fCode fRL fRR fX fWrites fThrown)), ((g 0), Sum.inl (cI, 8, Sum.inl vMany)), (a, Sum.inl (cI, 512, Sum.inl u))]) 0 0 := by
  refine my_ofV (cc := prog_14_method_23_code) (n := 4) (ret := none) (by decide) rfl (Nat.le_of_ble_eq_true rfl) ?_
  intro p e s m args below meth c R Q A ls H locs hx hb hr hts hown hlocks hml hnm hR hQ hA hl hP hK hN hD hS
  have hg : ∀ w ∈ gw, w.before args s = true := fun w h => hts w (List.mem_cons_of_mem _ h)
  have hown : s.vm.findClass "RangeCodersModel" = some m.cls := hown
  have hl : lv_has ls 4 [(0, Value.ref o), (1, Value.ref a), (2, Value.int (nI mm)), (3, Value.int (nI t))] := hl
  refine lv_aload_n hx hb d_M_learn_0 rfl (lv_at hl 1 rfl) ?_
  refine lv_bipush (v := 64) hx hb d_M_learn_1 (by decide) ?_
  refine lv_iload_n hx hb d_M_learn_3 rfl (lv_at hl 2 rfl) ?_
  refine lv_imul hx hb d_M_learn_4 ?_
  refine lv_topi (fun v_1 ev_1 => ?_)
  refine lv_iload_n hx hb d_M_learn_5 rfl (lv_at hl 3 rfl) ?_
  refine lv_iadd hx hb d_M_learn_6 ?_
  refine lv_topi (fun v_2 ev_2 => ?_)
  have hix : v_2 = nI (64 * mm + t) := by subst_vars; exact ix64
  refine lv_aload_n hx hb d_M_learn_7 rfl (lv_at hl 1 rfl) ?_
  refine lv_bipush (v := 64) hx hb d_M_learn_8 (by decide) ?_
  refine lv_iload_n hx hb d_M_learn_10 rfl (lv_at hl 2 rfl) ?_
  refine lv_imul hx hb d_M_learn_11 ?_
  refine lv_topi (fun v_3 ev_3 => ?_)
  refine lv_iload_n hx hb d_M_learn_12 rfl (lv_at hl 3 rfl) ?_
  refine lv_iadd hx hb d_M_learn_13 ?_
  refine lv_topi (fun v_4 ev_4 => ?_)
  have hix2 : v_4 = nI (64 * mm + t) := by subst_vars; exact ix64
  refine va_iald hx hb hK hP 2 0 rfl rfl (by rw [hix2]; exact vp_in_nI (by omega) (by decide)) d_M_learn_14 ?_
  refine lv_topi (fun v_5 ev_5 => ?_)
  refine lv_bipush (v := 32) hx hb d_M_learn_15 (by decide) ?_
  refine lv_iadd hx hb d_M_learn_17 ?_
  refine lv_topi (fun v_6 ev_6 => ?_)
  have hval : v_6 = nI (F t + 32) := by
    subst_vars
    rw [nI_clamp (by omega), hf t ht]
    exact nI_add (F t) 32
  refine va_iast hx hb hK hP hD hS 2 0 rfl rfl (by rw [hix]; exact vp_in_nI (by omega) (by decide)) d_M_learn_18 (fun H locs hP hD hS => ?_)
  have hPD : my_PD (dC, dI) vwCl A [(o, Sum.inr (9, mO g fForm fShift fModels fItems fEnded fLow fRange fCache fPend fGoes fOuts fIns fReads fBad fIR fAsk fBAsk fCode fRL fRR fX fWrites fThrown)), ((g 0), Sum.inl (cI, 8, Sum.inl vMany)), (a, Sum.inl (cI, 512, Sum.inl (upd f v_2.toNatClampNeg v_6)))] H := ⟨hP, hD⟩
  have hP := hPD.1
  have hD := hPD.2
  have hU := sg_up hf ht (show (v_2).toNatClampNeg = 64 * mm + t by rw [hix]; exact nI_clamp (by omega)) hval
  have hb9 : bd (upN F t (F t + 32)) n 1000000 := fun k hk => by
    have h1 := hB k hk
    by_cases e : k = t
    · subst e; rw [upN_s]; omega
    · rw [upN_n _ e]; omega
  have hs9 := ns_le64 hn2 hb9
  refine lv_aload_n hx hb d_M_learn_19 rfl (lv_at hl 0 rfl) ?_
  refine lv_aload_n hx hb d_M_learn_20 rfl (lv_at hl 1 rfl) ?_
  refine lv_iload_n hx hb d_M_learn_21 rfl (lv_at hl 2 rfl) ?_
  refine my_ci (wr := []) (va_runV (As := [Value.ref a, Value.int (nI mm)]) (rest := []) ⟨hx, hb, hml, hown, hts⟩ (c_M_sum l dC dI cI cM cO H.size o g fForm fShift fModels fItems fEnded fLow fRange fCache fPend fGoes fOuts fIns fReads fBad fIR fAsk fBAsk fCode fRL fRR fX fWrites fThrown vMany a (upd f v_2.toNatClampNeg v_6) mm n (upN F t (F t + 32)) (by assumption) (by assumption) (by assumption) (hU.1)) (cwV 2 hts (my_gV k936 k938 ks21 k12 k939) rfl rfl rfl cu_M_sum_2 ⟨by rw [hR]; exact Nat.le_of_ble_eq_true rfl, by rw [hR]; exact Nat.le_of_ble_eq_true rfl⟩) (my_preV hK hN (hP.sub [0, 1, 2] rfl) (hD.sub [0, 1, 2] (by decide +kernel) rfl) 0 rfl rfl) rfl rfl hl.1 rfl (lv_room (Nat.le_of_ble_eq_true rfl)) d_M_learn_22 ⟨by rw [hR]; exact Nat.le_of_ble_eq_true rfl, by rw [hR]; exact Nat.le_of_ble_eq_true rfl⟩) hP hD hS hA [0, 1, 2] [] rfl rfl (by decide +kernel) (by decide +kernel) (fun r_22 u9 H locs hw_22 hP hD hS => ?_)
  have hw_22 : r_22 = nI (ns (upN F t (F t + 32)) n) := hw_22
  have hPD : my_PD (dC, dI) vwCl A [(o, Sum.inr (9, mO g fForm fShift fModels fItems fEnded fLow fRange fCache fPend fGoes fOuts fIns fReads fBad fIR fAsk fBAsk fCode fRL fRR fX fWrites fThrown)), ((g 0), Sum.inl (cI, 8, Sum.inl vMany)), (a, Sum.inl (cI, 512, Sum.inl (upd f v_2.toNatClampNeg v_6)))] H := ⟨hP, hD⟩
  have hP := hPD.1
  have hD := hPD.2
  refine lv_sipush (v := 8192) hx hb d_M_learn_25 (by decide) ?_
  refine lv_icmp_le (tgt := 37) hx hb d_M_learn_28 (by decide) (fun c_7 => ?_) (fun c_7 => ?_)
  · exact my_vret hx hb hr hlocks hQ hK hS (Nat.le_refl _) (Nat.le_refl _) (upd f v_2.toNatClampNeg v_6) (by unfold lrn; rw [if_pos (by rw [hw_22] at c_7; exact (nI_cmp (b := 8192) (by omega) (by decide)).mp c_7)]; exact hU) (hP.sub [0, 1, 2] rfl) (hD.sub [0, 1, 2] (by decide +kernel) rfl) d_M_learn_37
  · have hgt : ¬ ns (upN F t (F t + 32)) n ≤ 8192 := fun q => absurd (show r_22 ≤ 8192 by rw [hw_22]; exact nI_le (b := 8192) q (by decide)) c_7
    refine lv_aload_n hx hb d_M_learn_31 rfl (lv_at hl 0 rfl) ?_
    refine lv_aload_n hx hb d_M_learn_32 rfl (lv_at hl 1 rfl) ?_
    refine lv_iload_n hx hb d_M_learn_33 rfl (lv_at hl 2 rfl) ?_
    refine my_cv (wr := []) (va_runV (As := [Value.ref a, Value.int (nI mm)]) (rest := []) ⟨hx, hb, hml, hown, hts⟩ (c_M_halve l dC dI cI cM cO H.size o g fForm fShift fModels fItems fEnded fLow fRange fCache fPend fGoes fOuts fIns fReads fBad fIR fAsk fBAsk fCode fRL fRR fX fWrites fThrown vMany a (upd f v_2.toNatClampNeg v_6) mm n (upN F t (F t + 32)) (by assumption) (by assumption) (by assumption) (hU.1) (hb9)) (cwV 2 hts (my_gV k940 k942 ks22 k12 k943) rfl rfl rfl cu_M_halve_2 ⟨by rw [hR]; exact Nat.le_of_ble_eq_true rfl, by rw [hR]; exact Nat.le_of_ble_eq_true rfl⟩) (my_preV hK hN (hP.sub [0, 1, 2] rfl) (hD.sub [0, 1, 2] (by decide +kernel) rfl) 0 rfl rfl) rfl rfl hl.1 rfl (lv_room (Nat.le_of_ble_eq_true rfl)) d_M_learn_34 ⟨by rw [hR]; exact Nat.le_of_ble_eq_true rfl, by rw [hR]; exact Nat.le_of_ble_eq_true rfl⟩) hP hD hS hA [0, 1, 2] [] rfl rfl (by decide +kernel) (by decide +kernel) (fun u9 H locs hw_34 hP hD hS => ?_)
    obtain ⟨f2_34, rfl⟩ : ∃ z, z = u9 := ⟨_, rfl⟩
    have hw_34 : sgI f2_34 (64 * mm) n (hv (upN F t (F t + 32))) ∧ sgO f2_34 (upd f v_2.toNatClampNeg v_6) (64 * mm) n := hw_34
    have hPD : my_PD (dC, dI) vwCl A [(o, Sum.inr (9, mO g fForm fShift fModels fItems fEnded fLow fRange fCache fPend fGoes fOuts fIns fReads fBad fIR fAsk fBAsk fCode fRL fRR fX fWrites fThrown)), ((g 0), Sum.inl (cI, 8, Sum.inl vMany)), (a, Sum.inl (cI, 512, Sum.inl f2_34))] H := ⟨hP, hD⟩
    have hP := hPD.1
    have hD := hPD.2
    exact my_vret hx hb hr hlocks hQ hK hS (Nat.le_refl _) (Nat.le_refl _) f2_34 (by unfold lrn; rw [if_neg hgt]; exact ⟨hw_34.1, sgO_tr hw_34.2 hU.2⟩) (hP.sub [0, 1, 2] rfl) (hD.sub [0, 1, 2] (by decide +kernel) rfl) d_M_learn_37
end
section
set_option maxHeartbeats 1000000 in
set_option maxRecDepth 100000 in
/-- scale -/
theorem c_M_scale (l : Launch) (dC : Nat → ClassId) (dI : Nat → Nat → Nat) (cI cM cO : ClassId) (sz : Nat) (o : Nat) (g : Nat → Nat) (fForm : Int32) (fShift : Int32) (fModels : Int32) (fItems : Int32) (fEnded : Int32) (fLow : Int64) (fRange : Int64) (fCache : Int32) (fPend : Int32) (fGoes : Int32) (fOuts : Int32) (fIns : Int32) (fReads : Int32) (fBad : Int32) (fIR : Int32) (fAsk : Int32) (fBAsk : Int32) (fCode : Int64) (fRL : Int64) (fRR : Int64) (fX : Int64) (fWrites : Int32) (fThrown : Int32) (vMany : Nat → Int32) (a : Nat) (f : Nat → Int32) (mm : Nat) (n : Nat) (M : Nat) (F : Nat → Nat) (hmm : mm < 8) (hn : vMany mm = nI n) (hn2 : n ≤ 64) (hn1 : 0 < n) (hM : 1 ≤ M) (hM2 : M ≤ 4096) (hf : sgI f (64 * mm) n F) (hB : bd F n 4095) : MetV l y_M_scale (Cond.code y_M_scale prog_14_method_12_code 8 none :: gw) ({ frames := 1, cells := 0, slots := 0, locals := 24 } : Room) (dC, dI) vwCl (kT cI cM cO) [Value.ref o, Value.ref a, Value.int (nI mm), Value.int (nI M)] [(o, Sum.inr (9, mO g fForm fShift fModels fItems fEnded fLow fRange fCache fPend fGoes fOuts fIns fReads fBad fIR fAsk fBAsk fCode fRL fRR fX fWrites fThrown)), ((g 0), Sum.inl (cI, 8, Sum.inl vMany)), (a, Sum.inl (cI, 512, Sum.inl f))] sz (fun (u : (Nat → Int32)) => sgI u (64 * mm) n (sc n M F) ∧ sgO u f (64 * mm) n) (fun (u : (Nat → Int32)) => [(o, Sum.inr (9, mO g fForm fShift fModels fItems fEnded fLow fRange fCache fPend fGoes fOuts fIns fReads fBad fIR fAsk fBAsk fCode fRL fRR fX fWrites fThrown)), ((g 0), Sum.inl (cI, 8, Sum.inl vMany)), (a, Sum.inl (cI, 512, Sum.inl u))]) 0 0 := by
  refine my_ofV (cc := prog_14_method_12_code) (n := 8) (ret := none) (by decide) rfl (Nat.le_of_ble_eq_true rfl) ?_
  intro p e s m args below meth c R Q A ls H locs hx hb hr hts hown hlocks hml hnm hR hQ hA hl hP hK hN hD hS
  have hg : ∀ w ∈ gw, w.before args s = true := fun w h => hts w (List.mem_cons_of_mem _ h)
  have hown : s.vm.findClass "RangeCodersModel" = some m.cls := hown
  have hl : lv_has ls 8 [(0, Value.ref o), (1, Value.ref a), (2, Value.int (nI mm)), (3, Value.int (nI M))] := hl
  have hs9 := ns_le64 hn2 hB
  refine lv_aload_n hx hb d_M_scale_0 rfl (lv_at hl 0 rfl) ?_
  refine lv_aload_n hx hb d_M_scale_1 rfl (lv_at hl 1 rfl) ?_
  refine lv_iload_n hx hb d_M_scale_2 rfl (lv_at hl 2 rfl) ?_
  refine my_ci (wr := []) (va_runV (As := [Value.ref a, Value.int (nI mm)]) (rest := []) ⟨hx, hb, hml, hown, hts⟩ (c_M_sum l dC dI cI cM cO H.size o g fForm fShift fModels fItems fEnded fLow fRange fCache fPend fGoes fOuts fIns fReads fBad fIR fAsk fBAsk fCode fRL fRR fX fWrites fThrown vMany a f mm n F (by assumption) (by assumption) (by assumption) (by assumption)) (cwV 2 hts (my_gV k936 k938 ks21 k12 k939) rfl rfl rfl cu_M_sum_2 ⟨by rw [hR]; exact Nat.le_of_ble_eq_true rfl, by rw [hR]; exact Nat.le_of_ble_eq_true rfl⟩) (my_preV hK hN (hP.sub [0, 1, 2] rfl) (hD.sub [0, 1, 2] (by decide +kernel) rfl) 0 rfl rfl) rfl rfl hl.1 rfl (lv_room (Nat.le_of_ble_eq_true rfl)) d_M_scale_3 ⟨by rw [hR]; exact Nat.le_of_ble_eq_true rfl, by rw [hR]; exact Nat.le_of_ble_eq_true rfl⟩) hP hD hS hA [0, 1, 2] [] rfl rfl (by decide +kernel) (by decide +kernel) (fun r_3 u9 H locs hw_3 hP hD hS => ?_)
  have hw_3 : r_3 = nI (ns F n) := hw_3
  have hPD : my_PD (dC, dI) vwCl A [(o, Sum.inr (9, mO g fForm fShift fModels fItems fEnded fLow fRange fCache fPend fGoes fOuts fIns fReads fBad fIR fAsk fBAsk fCode fRL fRR fX fWrites fThrown)), ((g 0), Sum.inl (cI, 8, Sum.inl vMany)), (a, Sum.inl (cI, 512, Sum.inl f))] H := ⟨hP, hD⟩
  have hP := hPD.1
  have hD := hPD.2
  refine lv_istore (lv' := [(4, Value.int r_3), (0, Value.ref o), (1, Value.ref a), (2, Value.int (nI mm)), (3, Value.int (nI M))]) hx hb d_M_scale_6 hl (by decide) rfl (fun ls hl => ?_)
  refine lv_iload hx hb d_M_scale_8 (lv_at hl 0 rfl) ?_
  refine lv_if_ne (tgt := 14) hx hb d_M_scale_10 (by decide) (fun c_1 => ?_) (fun c_1 => ?_)
  · have hpos : 0 < ns F n := by
      rcases Nat.eq_zero_or_pos (ns F n) with q | q
      · exact absurd (by rw [hw_3, q]; rfl) c_1
      · exact q
    refine lv_iconst (v := 0) hx hb d_M_scale_14 (by decide) ?_
    refine lv_istore (lv' := [(5, Value.int 0), (4, Value.int r_3), (0, Value.ref o), (1, Value.ref a), (2, Value.int (nI mm)), (3, Value.int (nI M))]) hx hb d_M_scale_15 hl (by decide) rfl (fun ls hl => ?_)
    have J_17 : ∀ (n9_17 : Nat) (fL : Nat → Int32) (i9 : Int32) (j : Nat) (hn9_17 : n - j = n9_17) (hL : sgL fL f (64 * mm) n j (scG n M F) F) (hi : i9 = nI j) (hj : j ≤ n) (H : Heap) (locs : List Loc) (ls : Array Slot), va_P (dC, dI) vwCl [(o, Sum.inr (9, mO g fForm fShift fModels fItems fEnded fLow fRange fCache fPend fGoes fOuts fIns fReads fBad fIR fAsk fBAsk fCode fRL fRR fX fWrites fThrown)), ((g 0), Sum.inl (cI, 8, Sum.inl vMany)), (a, Sum.inl (cI, 512, Sum.inl fL))] H → va_D A [(o, Sum.inr (9, mO g fForm fShift fModels fItems fEnded fLow fRange fCache fPend fGoes fOuts fIns fReads fBad fIR fAsk fBAsk fCode fRL fRR fX fWrites fThrown)), ((g 0), Sum.inl (cI, 8, Sum.inl vMany)), (a, Sum.inl (cI, 512, Sum.inl fL))] → va_S A s.heap H locs → lv_has ls 8 [(5, Value.int i9), (4, Value.int r_3), (0, Value.ref o), (1, Value.ref a), (2, Value.int (nI mm)), (3, Value.int (nI M))] → W p l e R s m args below meth c H locs 0 0 Q (F0 m 17 ls []) := by
      intro n9_17
      induction n9_17 using Nat.strongRecOn with
      | ind n9_17 ih9_17 =>
        intro fL i9 j hn9_17 hL hi hj H locs ls hP hD hS hl
        refine lv_iload hx hb d_M_scale_17 (lv_at hl 0 rfl) ?_
        refine lv_aload_n hx hb d_M_scale_19 rfl (lv_at hl 2 rfl) ?_
        refine va_get (D := (dC, dI)) (ci := 9) (v := .ref (g 0)) (C := "RangeCodersModel") (T := T_M) (N := 35) hx hb hg in_M hown hK hP 0 rfl rfl 3 (by decide) (hg _ k955) (fun _ h9 => h9) rfl d_M_scale_20 ?_
        refine lv_iload_n hx hb d_M_scale_23 rfl (lv_at hl 4 rfl) ?_
        refine va_iald hx hb hK hP 1 0 rfl rfl (vp_in_nI hmm (by decide)) d_M_scale_24 ?_
        refine lv_topi (fun v_2 ev_2 => ?_)
        have hv9 : v_2 = nI n := by subst_vars; rw [nI_clamp (by omega)]; exact hn
        refine lv_icmp_ge (tgt := 84) hx hb d_M_scale_25 (by decide) (fun c_3 => ?_) (fun c_3 => ?_)
        · have J_84 : ∀ (n9_84 : Nat) (fK : Nat → Int32) (G9 : Nat → Nat) (hn9_84 : ns G9 n - M = n9_84) (hI2 : sgI fK (64 * mm) n G9) (hO2 : sgO fK f (64 * mm) n) (hE2 : dec n (ns (scG n M F) n - M) (scG n M F) = dec n (ns G9 n - M) G9) (hB2 : bd G9 n 4096) (H : Heap) (locs : List Loc) (ls : Array Slot), va_P (dC, dI) vwCl [(o, Sum.inr (9, mO g fForm fShift fModels fItems fEnded fLow fRange fCache fPend fGoes fOuts fIns fReads fBad fIR fAsk fBAsk fCode fRL fRR fX fWrites fThrown)), ((g 0), Sum.inl (cI, 8, Sum.inl vMany)), (a, Sum.inl (cI, 512, Sum.inl fK))] H → va_D A [(o, Sum.inr (9, mO g fForm fShift fModels fItems fEnded fLow fRange fCache fPend fGoes fOuts fIns fReads fBad fIR fAsk fBAsk fCode fRL fRR fX fWrites fThrown)), ((g 0), Sum.inl (cI, 8, Sum.inl vMany)), (a, Sum.inl (cI, 512, Sum.inl fK))] → va_S A s.heap H locs → lv_has ls 8 [(4, Value.int r_3), (0, Value.ref o), (1, Value.ref a), (2, Value.int (nI mm)), (3, Value.int (nI M))] → W p l e R s m args below meth c H locs 0 0 Q (F0 m 84 ls []) := by
            intro n9_84
            induction n9_84 using Nat.strongRecOn with
            | ind n9_84 ih9_84 =>
              intro fK G9 hn9_84 hI2 hO2 hE2 hB2 H locs ls hP hD hS hl
              have hs8 := ns_le64 hn2 hB2
              have hB3 : bd G9 n 1000000 := fun k hk => Nat.le_trans (hB2 k hk) (by decide)
              have hg9 := gr_lt G9 hn1
              have hbg := hB2 _ hg9
              refine lv_aload_n hx hb d_M_scale_84 rfl (lv_at hl 1 rfl) ?_
              refine lv_aload_n hx hb d_M_scale_85 rfl (lv_at hl 2 rfl) ?_
              refine lv_iload_n hx hb d_M_scale_86 rfl (lv_at hl 3 rfl) ?_
              refine my_ci (wr := []) (va_runV (As := [Value.ref a, Value.int (nI mm)]) (rest := []) ⟨hx, hb, hml, hown, hts⟩ (c_M_sum l dC dI cI cM cO H.size o g fForm fShift fModels fItems fEnded fLow fRange fCache fPend fGoes fOuts fIns fReads fBad fIR fAsk fBAsk fCode fRL fRR fX fWrites fThrown vMany a fK mm n G9 (by assumption) (by assumption) (by assumption) (hI2)) (cwV 2 hts (my_gV k936 k938 ks21 k12 k939) rfl rfl rfl cu_M_sum_2 ⟨by rw [hR]; exact Nat.le_of_ble_eq_true rfl, by rw [hR]; exact Nat.le_of_ble_eq_true rfl⟩) (my_preV hK hN (hP.sub [0, 1, 2] rfl) (hD.sub [0, 1, 2] (by decide +kernel) rfl) 0 rfl rfl) rfl rfl hl.1 rfl (lv_room (Nat.le_of_ble_eq_true rfl)) d_M_scale_87 ⟨by rw [hR]; exact Nat.le_of_ble_eq_true rfl, by rw [hR]; exact Nat.le_of_ble_eq_true rfl⟩) hP hD hS hA [0, 1, 2] [] rfl rfl (by decide +kernel) (by decide +kernel) (fun r_87 u9 H locs hw_87 hP hD hS => ?_)
              have hw_87 : r_87 = nI (ns G9 n) := hw_87
              have hPD : my_PD (dC, dI) vwCl A [(o, Sum.inr (9, mO g fForm fShift fModels fItems fEnded fLow fRange fCache fPend fGoes fOuts fIns fReads fBad fIR fAsk fBAsk fCode fRL fRR fX fWrites fThrown)), ((g 0), Sum.inl (cI, 8, Sum.inl vMany)), (a, Sum.inl (cI, 512, Sum.inl fK))] H := ⟨hP, hD⟩
              have hP := hPD.1
              have hD := hPD.2
              refine lv_iload_n hx hb d_M_scale_90 rfl (lv_at hl 4 rfl) ?_
              refine lv_icmp_le (tgt := 115) hx hb d_M_scale_91 (by decide) (fun c_4 => ?_) (fun c_4 => ?_)
              · have hle : ns G9 n ≤ M := by
                  rw [hw_87] at c_4
                  exact (nI_cmp (by omega) (by omega)).mp c_4
                refine lv_iload_n hx hb d_M_scale_115 rfl (lv_at hl 4 rfl) ?_
                refine lv_aload_n hx hb d_M_scale_116 rfl (lv_at hl 1 rfl) ?_
                refine lv_aload_n hx hb d_M_scale_117 rfl (lv_at hl 2 rfl) ?_
                refine lv_iload_n hx hb d_M_scale_118 rfl (lv_at hl 3 rfl) ?_
                refine my_ci (wr := []) (va_runV (As := [Value.ref a, Value.int (nI mm)]) (rest := [Value.int (nI M)]) ⟨hx, hb, hml, hown, hts⟩ (c_M_sum l dC dI cI cM cO H.size o g fForm fShift fModels fItems fEnded fLow fRange fCache fPend fGoes fOuts fIns fReads fBad fIR fAsk fBAsk fCode fRL fRR fX fWrites fThrown vMany a fK mm n G9 (by assumption) (by assumption) (by assumption) (hI2)) (cwV 2 hts (my_gV k936 k938 ks21 k12 k939) rfl rfl rfl cu_M_sum_2 ⟨by rw [hR]; exact Nat.le_of_ble_eq_true rfl, by rw [hR]; exact Nat.le_of_ble_eq_true rfl⟩) (my_preV hK hN (hP.sub [0, 1, 2] rfl) (hD.sub [0, 1, 2] (by decide +kernel) rfl) 0 rfl rfl) rfl rfl hl.1 rfl (lv_room (Nat.le_of_ble_eq_true rfl)) d_M_scale_119 ⟨by rw [hR]; exact Nat.le_of_ble_eq_true rfl, by rw [hR]; exact Nat.le_of_ble_eq_true rfl⟩) hP hD hS hA [0, 1, 2] [] rfl rfl (by decide +kernel) (by decide +kernel) (fun r_119 u9 H locs hw_119 hP hD hS => ?_)
                have hw_119 : r_119 = nI (ns G9 n) := hw_119
                have hPD : my_PD (dC, dI) vwCl A [(o, Sum.inr (9, mO g fForm fShift fModels fItems fEnded fLow fRange fCache fPend fGoes fOuts fIns fReads fBad fIR fAsk fBAsk fCode fRL fRR fX fWrites fThrown)), ((g 0), Sum.inl (cI, 8, Sum.inl vMany)), (a, Sum.inl (cI, 512, Sum.inl fK))] H := ⟨hP, hD⟩
                have hP := hPD.1
                have hD := hPD.2
                refine lv_isub hx hb d_M_scale_122 ?_
                refine lv_topi (fun v_5 ev_5 => ?_)
                refine lv_istore (lv' := [(5, Value.int v_5), (4, Value.int r_3), (0, Value.ref o), (1, Value.ref a), (2, Value.int (nI mm)), (3, Value.int (nI M))]) hx hb d_M_scale_123 hl (by decide) rfl (fun ls hl => ?_)
                refine lv_aload_n hx hb d_M_scale_125 rfl (lv_at hl 2 rfl) ?_
                refine lv_aload_n hx hb d_M_scale_126 rfl (lv_at hl 3 rfl) ?_
                refine lv_iload_n hx hb d_M_scale_127 rfl (lv_at hl 4 rfl) ?_
                refine my_ci (wr := []) (va_runV (As := [Value.ref a, Value.int (nI mm)]) (rest := []) ⟨hx, hb, hml, hown, hts⟩ (c_M_greatest l dC dI cI cM cO H.size o g fForm fShift fModels fItems fEnded fLow fRange fCache fPend fGoes fOuts fIns fReads fBad fIR fAsk fBAsk fCode fRL fRR fX fWrites fThrown vMany a fK mm n G9 (by assumption) (by assumption) (by assumption) (by assumption) (hI2) (hB3)) (cwV 2 hts (my_gV k948 k950 ks24 k12 k951) rfl rfl rfl cu_M_greatest_2 ⟨by rw [hR]; exact Nat.le_of_ble_eq_true rfl, by rw [hR]; exact Nat.le_of_ble_eq_true rfl⟩) (my_preV hK hN (hP.sub [0, 1, 2] rfl) (hD.sub [0, 1, 2] (by decide +kernel) rfl) 0 rfl rfl) rfl rfl hl.1 rfl (lv_room (Nat.le_of_ble_eq_true rfl)) d_M_scale_128 ⟨by rw [hR]; exact Nat.le_of_ble_eq_true rfl, by rw [hR]; exact Nat.le_of_ble_eq_true rfl⟩) hP hD hS hA [0, 1, 2] [] rfl rfl (by decide +kernel) (by decide +kernel) (fun r_128 u9 H locs hw_128 hP hD hS => ?_)
                have hw_128 : r_128 = nI (64 * mm + gr G9 n) := hw_128
                have hPD : my_PD (dC, dI) vwCl A [(o, Sum.inr (9, mO g fForm fShift fModels fItems fEnded fLow fRange fCache fPend fGoes fOuts fIns fReads fBad fIR fAsk fBAsk fCode fRL fRR fX fWrites fThrown)), ((g 0), Sum.inl (cI, 8, Sum.inl vMany)), (a, Sum.inl (cI, 512, Sum.inl fK))] H := ⟨hP, hD⟩
                have hP := hPD.1
                have hD := hPD.2
                refine lv_istore (lv' := [(6, Value.int r_128), (5, Value.int v_5), (4, Value.int r_3), (0, Value.ref o), (1, Value.ref a), (2, Value.int (nI mm)), (3, Value.int (nI M))]) hx hb d_M_scale_131 hl (by decide) rfl (fun ls hl => ?_)
                refine lv_aload_n hx hb d_M_scale_133 rfl (lv_at hl 4 rfl) ?_
                refine lv_iload hx hb d_M_scale_134 (lv_at hl 0 rfl) ?_
                refine lv_aload_n hx hb d_M_scale_136 rfl (lv_at hl 4 rfl) ?_
                refine lv_iload hx hb d_M_scale_137 (lv_at hl 0 rfl) ?_
                refine va_iald hx hb hK hP 2 0 rfl rfl (by rw [hw_128]; exact vp_in_nI (by omega) (by decide)) d_M_scale_139 ?_
                refine lv_topi (fun v_6 ev_6 => ?_)
                refine lv_iload hx hb d_M_scale_140 (lv_at hl 1 rfl) ?_
                refine lv_iadd hx hb d_M_scale_142 ?_
                refine lv_topi (fun v_7 ev_7 => ?_)
                have hval : v_7 = nI (G9 (gr G9 n) + (M - ns G9 n)) := by
                  subst_vars
                  rw [nI_clamp (by omega), hI2 _ hg9, pk_sub hle, nI_add]
                refine va_iast hx hb hK hP hD hS 2 0 rfl rfl (by rw [hw_128]; exact vp_in_nI (by omega) (by decide)) d_M_scale_143 (fun H locs hP hD hS => ?_)
                have hPD : my_PD (dC, dI) vwCl A [(o, Sum.inr (9, mO g fForm fShift fModels fItems fEnded fLow fRange fCache fPend fGoes fOuts fIns fReads fBad fIR fAsk fBAsk fCode fRL fRR fX fWrites fThrown)), ((g 0), Sum.inl (cI, 8, Sum.inl vMany)), (a, Sum.inl (cI, 512, Sum.inl (upd fK r_128.toNatClampNeg v_7)))] H := ⟨hP, hD⟩
                have hP := hPD.1
                have hD := hPD.2
                have hU := sg_up hI2 hg9 (show r_128.toNatClampNeg = 64 * mm + gr G9 n by rw [hw_128]; exact nI_clamp (by omega)) hval
                exact my_vret hx hb hr hlocks hQ hK hS (Nat.le_refl _) (Nat.le_refl _) (upd fK r_128.toNatClampNeg v_7) (by unfold sc scE; rw [if_neg (by omega), hE2, dec_0 hle]; exact ⟨hU.1, sgO_tr hU.2 hO2⟩) (hP.sub [0, 1, 2] rfl) (hD.sub [0, 1, 2] (by decide +kernel) rfl) d_M_scale_144
              · have hgt : M < ns G9 n := by
                  rcases Nat.lt_or_ge M (ns G9 n) with q | q
                  · exact q
                  · exact absurd (by rw [hw_87]; exact nI_le q (by omega)) c_4
                have hp9 := gr_pos (F := G9) (n := n) (by omega)
                refine lv_aload_n hx hb d_M_scale_94 rfl (lv_at hl 1 rfl) ?_
                refine lv_aload_n hx hb d_M_scale_95 rfl (lv_at hl 2 rfl) ?_
                refine lv_iload_n hx hb d_M_scale_96 rfl (lv_at hl 3 rfl) ?_
                refine my_ci (wr := []) (va_runV (As := [Value.ref a, Value.int (nI mm)]) (rest := []) ⟨hx, hb, hml, hown, hts⟩ (c_M_greatest l dC dI cI cM cO H.size o g fForm fShift fModels fItems fEnded fLow fRange fCache fPend fGoes fOuts fIns fReads fBad fIR fAsk fBAsk fCode fRL fRR fX fWrites fThrown vMany a fK mm n G9 (by assumption) (by assumption) (by assumption) (by assumption) (hI2) (hB3)) (cwV 2 hts (my_gV k948 k950 ks24 k12 k951) rfl rfl rfl cu_M_greatest_2 ⟨by rw [hR]; exact Nat.le_of_ble_eq_true rfl, by rw [hR]; exact Nat.le_of_ble_eq_true rfl⟩) (my_preV hK hN (hP.sub [0, 1, 2] rfl) (hD.sub [0, 1, 2] (by decide +kernel) rfl) 0 rfl rfl) rfl rfl hl.1 rfl (lv_room (Nat.le_of_ble_eq_true rfl)) d_M_scale_97 ⟨by rw [hR]; exact Nat.le_of_ble_eq_true rfl, by rw [hR]; exact Nat.le_of_ble_eq_true rfl⟩) hP hD hS hA [0, 1, 2] [] rfl rfl (by decide +kernel) (by decide +kernel) (fun r_97 u9 H locs hw_97 hP hD hS => ?_)
                have hw_97 : r_97 = nI (64 * mm + gr G9 n) := hw_97
                have hPD : my_PD (dC, dI) vwCl A [(o, Sum.inr (9, mO g fForm fShift fModels fItems fEnded fLow fRange fCache fPend fGoes fOuts fIns fReads fBad fIR fAsk fBAsk fCode fRL fRR fX fWrites fThrown)), ((g 0), Sum.inl (cI, 8, Sum.inl vMany)), (a, Sum.inl (cI, 512, Sum.inl fK))] H := ⟨hP, hD⟩
                have hP := hPD.1
                have hD := hPD.2
                refine lv_istore (lv' := [(5, Value.int r_97), (4, Value.int r_3), (0, Value.ref o), (1, Value.ref a), (2, Value.int (nI mm)), (3, Value.int (nI M))]) hx hb d_M_scale_100 hl (by decide) rfl (fun ls hl => ?_)
                refine lv_aload_n hx hb d_M_scale_102 rfl (lv_at hl 3 rfl) ?_
                refine lv_iload hx hb d_M_scale_103 (lv_at hl 0 rfl) ?_
                refine lv_aload_n hx hb d_M_scale_105 rfl (lv_at hl 3 rfl) ?_
                refine lv_iload hx hb d_M_scale_106 (lv_at hl 0 rfl) ?_
                refine va_iald hx hb hK hP 2 0 rfl rfl (by rw [hw_97]; exact vp_in_nI (by omega) (by decide)) d_M_scale_108 ?_
                refine lv_topi (fun v_8 ev_8 => ?_)
                refine lv_iconst (v := 1) hx hb d_M_scale_109 (by decide) ?_
                refine lv_isub hx hb d_M_scale_110 ?_
                refine lv_topi (fun v_9 ev_9 => ?_)
                have hval : v_9 = nI (G9 (gr G9 n) - 1) := by
                  subst_vars
                  rw [nI_clamp (by omega), hI2 _ hg9]
                  exact pk_sub (b := 1) hp9
                refine va_iast hx hb hK hP hD hS 2 0 rfl rfl (by rw [hw_97]; exact vp_in_nI (by omega) (by decide)) d_M_scale_111 (fun H locs hP hD hS => ?_)
                have hPD : my_PD (dC, dI) vwCl A [(o, Sum.inr (9, mO g fForm fShift fModels fItems fEnded fLow fRange fCache fPend fGoes fOuts fIns fReads fBad fIR fAsk fBAsk fCode fRL fRR fX fWrites fThrown)), ((g 0), Sum.inl (cI, 8, Sum.inl vMany)), (a, Sum.inl (cI, 512, Sum.inl (upd fK r_97.toNatClampNeg v_9)))] H := ⟨hP, hD⟩
                have hP := hPD.1
                have hD := hPD.2
                have hU := sg_up hI2 hg9 (show r_97.toNatClampNeg = 64 * mm + gr G9 n by rw [hw_97]; exact nI_clamp (by omega)) hval
                refine lv_goto (tgt := 84) hx hb d_M_scale_112 (by decide) ?_
                exact ih9_84 _ (by first | omega | (rw [dec_ns hn1 (by omega)]; omega)) (upd fK r_97.toNatClampNeg v_9) (upN G9 (gr G9 n) (G9 (gr G9 n) - 1)) rfl (hU.1) (sgO_tr hU.2 hO2) (by rw [hE2]; exact dec_st hn1 hgt) (dec_bd hB2) H locs ls (hP.sub [0, 1, 2] rfl) (hD.sub [0, 1, 2] (by decide +kernel) rfl) hS (lv_sub hl [1, 2, 3, 4, 5] rfl)
          have hj3 : j = n := by
            rcases Nat.lt_or_ge j n with q | q
            · exact absurd c_3 (by rw [hv9, hi]; exact nI_ge q (by omega))
            · omega
          exact J_84 _ fL (scG n M F) rfl ((sgL_e (hj3 ▸ hL)).1) ((sgL_e (hj3 ▸ hL)).2) (rfl) (fun k hk => Nat.le_trans (scG_le hM k hk) hM2) H locs ls (hP.sub [0, 1, 2] rfl) (hD.sub [0, 1, 2] (by decide +kernel) rfl) hS (lv_sub hl [1, 2, 3, 4, 5] rfl)
        · have hj2 : j < n := by
            rcases Nat.lt_or_ge j n with q | q
            · exact q
            · exact absurd (by rw [hv9, hi]; exact nI_le q (by omega)) c_3
          have hb9 := hB j hj2
          have hmul : F j * M ≤ 4095 * 4096 := Nat.mul_le_mul hb9 hM2
          refine lv_aload_n hx hb d_M_scale_28 rfl (lv_at hl 3 rfl) ?_
          refine lv_bipush (v := 64) hx hb d_M_scale_29 (by decide) ?_
          refine lv_iload_n hx hb d_M_scale_31 rfl (lv_at hl 4 rfl) ?_
          refine lv_imul hx hb d_M_scale_32 ?_
          refine lv_topi (fun v_10 ev_10 => ?_)
          refine lv_iload hx hb d_M_scale_33 (lv_at hl 0 rfl) ?_
          refine lv_iadd hx hb d_M_scale_35 ?_
          refine lv_topi (fun v_11 ev_11 => ?_)
          have hix : v_11 = nI (64 * mm + j) := by subst_vars; exact ix64
          refine va_iald hx hb hK hP 2 0 rfl rfl (by rw [hix]; exact vp_in_nI (by omega) (by decide)) d_M_scale_36 ?_
          refine lv_topi (fun v_12 ev_12 => ?_)
          have hld : v_12 = nI (F j) := by rw [ev_12, hix, nI_clamp (by omega)]; exact sgL_rd hL hj2
          refine lv_istore (lv' := [(6, Value.int v_12), (5, Value.int i9), (4, Value.int r_3), (0, Value.ref o), (1, Value.ref a), (2, Value.int (nI mm)), (3, Value.int (nI M))]) hx hb d_M_scale_37 hl (by decide) rfl (fun ls hl => ?_)
          refine lv_iload hx hb d_M_scale_39 (lv_at hl 0 rfl) ?_
          refine lv_iload_n hx hb d_M_scale_41 rfl (lv_at hl 6 rfl) ?_
          refine lv_imul hx hb d_M_scale_42 ?_
          refine lv_topi (fun v_13 ev_13 => ?_)
          refine lv_iload hx hb d_M_scale_43 (lv_at hl 2 rfl) ?_
          refine lv_idiv hx hb d_M_scale_45 (by rw [hw_3]; exact nI_ne0 hpos (by omega)) ?_
          refine lv_topi (fun v_14 ev_14 => ?_)
          have hdv : v_14 = nI (F j * M / ns F n) := by
            subst_vars
            rw [pk_mul]
            exact pk_div (by omega) hpos (by omega)
          have hdl : F j * M / ns F n ≤ F j * M := Nat.div_le_self _ _
          refine lv_istore (lv' := [(7, Value.int v_14), (6, Value.int v_12), (5, Value.int i9), (4, Value.int r_3), (0, Value.ref o), (1, Value.ref a), (2, Value.int (nI mm)), (3, Value.int (nI M))]) hx hb d_M_scale_46 hl (by decide) rfl (fun ls hl => ?_)
          refine lv_aload_n hx hb d_M_scale_48 rfl (lv_at hl 5 rfl) ?_
          refine lv_bipush (v := 64) hx hb d_M_scale_49 (by decide) ?_
          refine lv_iload_n hx hb d_M_scale_51 rfl (lv_at hl 6 rfl) ?_
          refine lv_imul hx hb d_M_scale_52 ?_
          refine lv_topi (fun v_15 ev_15 => ?_)
          refine lv_iload hx hb d_M_scale_53 (lv_at hl 2 rfl) ?_
          refine lv_iadd hx hb d_M_scale_55 ?_
          refine lv_topi (fun v_16 ev_16 => ?_)
          have hix2 : v_16 = nI (64 * mm + j) := by subst_vars; exact ix64
          refine lv_iload hx hb d_M_scale_56 (lv_at hl 1 rfl) ?_
          refine lv_if_ne (tgt := 65) hx hb d_M_scale_58 (by decide) (fun c_17 => ?_) (fun c_17 => ?_)
          · refine lv_iload hx hb d_M_scale_65 (lv_at hl 0 rfl) ?_
            refine lv_iconst (v := 1) hx hb d_M_scale_67 (by decide) ?_
            refine lv_icmp_ge (tgt := 75) hx hb d_M_scale_68 (by decide) (fun c_18 => ?_) (fun c_18 => ?_)
            · refine lv_iload hx hb d_M_scale_75 (lv_at hl 0 rfl) ?_
              have hval : v_14 = nI (scG n M F j) := by
                unfold scG
                rw [if_neg (fun q => c_17 (by rw [hld, q]; rfl)), if_neg (fun q => by
                  rw [hdv] at c_18
                  have := (nI_cmp (a := 1) (by decide) (by omega)).mp c_18
                  omega)]
                exact hdv
              refine va_iast hx hb hK hP hD hS 2 0 rfl rfl (by rw [hix2]; exact vp_in_nI (by omega) (by decide)) d_M_scale_77 (fun H locs hP hD hS => ?_)
              have hPD : my_PD (dC, dI) vwCl A [(o, Sum.inr (9, mO g fForm fShift fModels fItems fEnded fLow fRange fCache fPend fGoes fOuts fIns fReads fBad fIR fAsk fBAsk fCode fRL fRR fX fWrites fThrown)), ((g 0), Sum.inl (cI, 8, Sum.inl vMany)), (a, Sum.inl (cI, 512, Sum.inl (upd fL v_16.toNatClampNeg v_14)))] H := ⟨hP, hD⟩
              have hP := hPD.1
              have hD := hPD.2
              obtain ⟨v_19, ev_19⟩ : ∃ y : Int32, y = i9 + (1) := ⟨_, rfl⟩
              refine lv_iinc (v := v_19) (lv' := [(5, Value.int v_19), (7, Value.int v_14), (6, Value.int v_12), (4, Value.int r_3), (0, Value.ref o), (1, Value.ref a), (2, Value.int (nI mm)), (3, Value.int (nI M))]) hx hb d_M_scale_78 hl (k := 2) rfl (by rw [ev_19]; rfl) (by decide) rfl (fun ls hl => ?_)
              refine lv_goto (tgt := 17) hx hb d_M_scale_81 (by decide) ?_
              exact ih9_17 _ (by first | omega | (omega)) (upd fL v_16.toNatClampNeg v_14) v_19 (j + 1) rfl (sgL_st hL hj2 (by rw [hix2]; exact nI_clamp (by omega)) hval) (by subst_vars; exact nI_1 j) (by omega) H locs ls (hP.sub [0, 1, 2] rfl) (hD.sub [0, 1, 2] (by decide +kernel) rfl) hS (lv_sub hl [0, 3, 4, 5, 6, 7] rfl)
            · refine lv_iconst (v := 1) hx hb d_M_scale_71 (by decide) ?_
              refine lv_goto (tgt := 77) hx hb d_M_scale_72 (by decide) ?_
              have hval : (1 : Int32) = nI (scG n M F j) := by
                unfold scG
                rw [if_neg (fun q => c_17 (by rw [hld, q]; rfl)), if_pos (by
                  rcases Nat.lt_or_ge (F j * M / ns F n) 1 with q | q
                  · exact q
                  · exact absurd (by rw [hdv]; exact nI_le (a := 1) q (by omega)) c_18)]
                rfl
              refine va_iast hx hb hK hP hD hS 2 0 rfl rfl (by rw [hix2]; exact vp_in_nI (by omega) (by decide)) d_M_scale_77 (fun H locs hP hD hS => ?_)
              have hPD : my_PD (dC, dI) vwCl A [(o, Sum.inr (9, mO g fForm fShift fModels fItems fEnded fLow fRange fCache fPend fGoes fOuts fIns fReads fBad fIR fAsk fBAsk fCode fRL fRR fX fWrites fThrown)), ((g 0), Sum.inl (cI, 8, Sum.inl vMany)), (a, Sum.inl (cI, 512, Sum.inl (upd fL v_16.toNatClampNeg 1)))] H := ⟨hP, hD⟩
              have hP := hPD.1
              have hD := hPD.2
              obtain ⟨v_20, ev_20⟩ : ∃ y : Int32, y = i9 + (1) := ⟨_, rfl⟩
              refine lv_iinc (v := v_20) (lv' := [(5, Value.int v_20), (7, Value.int v_14), (6, Value.int v_12), (4, Value.int r_3), (0, Value.ref o), (1, Value.ref a), (2, Value.int (nI mm)), (3, Value.int (nI M))]) hx hb d_M_scale_78 hl (k := 2) rfl (by rw [ev_20]; rfl) (by decide) rfl (fun ls hl => ?_)
              refine lv_goto (tgt := 17) hx hb d_M_scale_81 (by decide) ?_
              exact ih9_17 _ (by first | omega | (omega)) (upd fL v_16.toNatClampNeg 1) v_20 (j + 1) rfl (sgL_st hL hj2 (by rw [hix2]; exact nI_clamp (by omega)) hval) (by subst_vars; exact nI_1 j) (by omega) H locs ls (hP.sub [0, 1, 2] rfl) (hD.sub [0, 1, 2] (by decide +kernel) rfl) hS (lv_sub hl [0, 3, 4, 5, 6, 7] rfl)
          · refine lv_iconst (v := 0) hx hb d_M_scale_61 (by decide) ?_
            refine lv_goto (tgt := 77) hx hb d_M_scale_62 (by decide) ?_
            have hval : (0 : Int32) = nI (scG n M F j) := by
              unfold scG
              rw [if_pos (by
                rcases Nat.eq_zero_or_pos (F j) with q | q
                · exact q
                · exact absurd (by rw [← hld]; exact c_17) (nI_ne0 q (by omega)))]
              rfl
            refine va_iast hx hb hK hP hD hS 2 0 rfl rfl (by rw [hix2]; exact vp_in_nI (by omega) (by decide)) d_M_scale_77 (fun H locs hP hD hS => ?_)
            have hPD : my_PD (dC, dI) vwCl A [(o, Sum.inr (9, mO g fForm fShift fModels fItems fEnded fLow fRange fCache fPend fGoes fOuts fIns fReads fBad fIR fAsk fBAsk fCode fRL fRR fX fWrites fThrown)), ((g 0), Sum.inl (cI, 8, Sum.inl vMany)), (a, Sum.inl (cI, 512, Sum.inl (upd fL v_16.toNatClampNeg 0)))] H := ⟨hP, hD⟩
            have hP := hPD.1
            have hD := hPD.2
            obtain ⟨v_21, ev_21⟩ : ∃ y : Int32, y = i9 + (1) := ⟨_, rfl⟩
            refine lv_iinc (v := v_21) (lv' := [(5, Value.int v_21), (7, Value.int v_14), (6, Value.int v_12), (4, Value.int r_3), (0, Value.ref o), (1, Value.ref a), (2, Value.int (nI mm)), (3, Value.int (nI M))]) hx hb d_M_scale_78 hl (k := 2) rfl (by rw [ev_21]; rfl) (by decide) rfl (fun ls hl => ?_)
            refine lv_goto (tgt := 17) hx hb d_M_scale_81 (by decide) ?_
            exact ih9_17 _ (by first | omega | (omega)) (upd fL v_16.toNatClampNeg 0) v_21 (j + 1) rfl (sgL_st hL hj2 (by rw [hix2]; exact nI_clamp (by omega)) hval) (by subst_vars; exact nI_1 j) (by omega) H locs ls (hP.sub [0, 1, 2] rfl) (hD.sub [0, 1, 2] (by decide +kernel) rfl) hS (lv_sub hl [0, 3, 4, 5, 6, 7] rfl)
    exact J_17 _ f 0 0 rfl (sgL_0 hf) (rfl) (Nat.zero_le _) H locs ls (hP.sub [0, 1, 2] rfl) (hD.sub [0, 1, 2] (by decide +kernel) rfl) hS (lv_sub hl [0, 1, 2, 3, 4, 5] rfl)
  · have hz : ns F n = 0 := by
      rcases Nat.eq_zero_or_pos (ns F n) with q | q
      · exact q
      · exact absurd (by rw [← hw_3]; exact c_1) (nI_ne0 q (by omega))
    exact my_vret hx hb hr hlocks hQ hK hS (Nat.le_refl _) (Nat.le_refl _) f (by unfold sc; rw [if_pos hz]; exact ⟨hf, sgO_rf _ _ _⟩) (hP.sub [0, 1, 2] rfl) (hD.sub [0, 1, 2] (by decide +kernel) rfl) d_M_scale_13
end
section
/-- a model's numbers as a message or a reading begins -/
def pf (fm n : Nat) (C : Nat → Nat) : Nat → Nat := if fm = 2 then (fun _ => 1024) else if fm < 2 then les n C else sc n (if fm = 3 then 4096 else 512) C
abbrev pfN (fm n : Nat) : Nat := if fm = 2 then 64 else n
set_option maxHeartbeats 1000000 in
set_option maxRecDepth 100000 in
/-- prepare -/
theorem c_M_prepare (l : Launch) (dC : Nat → ClassId) (dI : Nat → Nat → Nat) (cI cM cO : ClassId) (sz : Nat) (o : Nat) (g : Nat → Nat) (fForm : Int32) (fShift : Int32) (fModels : Int32) (fItems : Int32) (fEnded : Int32) (fLow : Int64) (fRange : Int64) (fCache : Int32) (fPend : Int32) (fGoes : Int32) (fOuts : Int32) (fIns : Int32) (fReads : Int32) (fBad : Int32) (fIR : Int32) (fAsk : Int32) (fBAsk : Int32) (fCode : Int64) (fRL : Int64) (fRR : Int64) (fX : Int64) (fWrites : Int32) (fThrown : Int32) (vMany : Nat → Int32) (vCounts : Nat → Int32) (a : Nat) (f : Nat → Int32) (mm : Nat) (n : Nat) (fm : Nat) (C : Nat → Nat) (hmm : mm < 8) (hn : vMany mm = nI n) (hn2 : n ≤ 64) (hn1 : 0 < n) (hfm : fm ≤ 4) (hform : fForm = nI fm) (hc : sgI vCounts (64 * mm) n C) (hB : bd C n 4095) : MetV l y_M_prepare (Cond.code y_M_prepare prog_14_method_7_code 5 none :: gw) ({ frames := 2, cells := 0, slots := 0, locals := 51 } : Room) (dC, dI) vwCl (kT cI cM cO) [Value.ref o, Value.ref a, Value.int (nI mm)] [(o, Sum.inr (9, mO g fForm fShift fModels fItems fEnded fLow fRange fCache fPend fGoes fOuts fIns fReads fBad fIR fAsk fBAsk fCode fRL fRR fX fWrites fThrown)), ((g 0), Sum.inl (cI, 8, Sum.inl vMany)), ((g 1), Sum.inl (cI, 512, Sum.inl vCounts)), (a, Sum.inl (cI, 512, Sum.inl f))] sz (fun (u : (Nat → Int32)) => sgI u (64 * mm) (pfN fm n) (pf fm n C) ∧ sgO u f (64 * mm) 64) (fun (u : (Nat → Int32)) => [(o, Sum.inr (9, mO g fForm fShift fModels fItems fEnded fLow fRange fCache fPend fGoes fOuts fIns fReads fBad fIR fAsk fBAsk fCode fRL fRR fX fWrites fThrown)), ((g 0), Sum.inl (cI, 8, Sum.inl vMany)), ((g 1), Sum.inl (cI, 512, Sum.inl vCounts)), (a, Sum.inl (cI, 512, Sum.inl u))]) 0 0 := by
  refine my_ofV (cc := prog_14_method_7_code) (n := 5) (ret := none) (by decide) rfl (Nat.le_of_ble_eq_true rfl) ?_
  intro p e s m args below meth c R Q A ls H locs hx hb hr hts hown hlocks hml hnm hR hQ hA hl hP hK hN hD hS
  have hg : ∀ w ∈ gw, w.before args s = true := fun w h => hts w (List.mem_cons_of_mem _ h)
  have hown : s.vm.findClass "RangeCodersModel" = some m.cls := hown
  have hl : lv_has ls 5 [(0, Value.ref o), (1, Value.ref a), (2, Value.int (nI mm))] := hl
  refine lv_bipush (v := 64) hx hb d_M_prepare_0 (by decide) ?_
  refine lv_iload_n hx hb d_M_prepare_2 rfl (lv_at hl 2 rfl) ?_
  refine lv_imul hx hb d_M_prepare_3 ?_
  refine lv_topi (fun v_1 ev_1 => ?_)
  refine lv_istore_n (lv' := [(3, Value.int v_1), (0, Value.ref o), (1, Value.ref a), (2, Value.int (nI mm))]) hx hb d_M_prepare_4 rfl hl (by decide) rfl (fun ls hl => ?_)
  refine lv_aload_n hx hb d_M_prepare_5 rfl (lv_at hl 1 rfl) ?_
  refine va_get (D := (dC, dI)) (ci := 9) (v := .int fForm) (C := "RangeCodersModel") (T := T_M) (N := 35) hx hb hg in_M hown hK hP 0 rfl rfl 0 (by decide) (hg _ k952) (fun _ h9 => h9) rfl d_M_prepare_6 ?_
  refine lv_iconst (v := 2) hx hb d_M_prepare_9 (by decide) ?_
  refine lv_icmp_ne (tgt := 39) hx hb d_M_prepare_10 (by decide) (fun c_2 => ?_) (fun c_2 => ?_)
  · have hf2 : ¬ fm = 2 := fun q => c_2 (by rw [hform, q]; rfl)
    refine lv_iconst (v := 0) hx hb d_M_prepare_39 (by decide) ?_
    refine lv_istore (lv' := [(4, Value.int 0), (3, Value.int v_1), (0, Value.ref o), (1, Value.ref a), (2, Value.int (nI mm))]) hx hb d_M_prepare_40 hl (by decide) rfl (fun ls hl => ?_)
    have J_42 : ∀ (n9_42 : Nat) (fL : Nat → Int32) (i9 : Int32) (j : Nat) (hn9_42 : n - j = n9_42) (hL : sgM fL f (64 * mm) n j C) (hi : i9 = nI j) (hj : j ≤ n) (H : Heap) (locs : List Loc) (ls : Array Slot), va_P (dC, dI) vwCl [(o, Sum.inr (9, mO g fForm fShift fModels fItems fEnded fLow fRange fCache fPend fGoes fOuts fIns fReads fBad fIR fAsk fBAsk fCode fRL fRR fX fWrites fThrown)), ((g 0), Sum.inl (cI, 8, Sum.inl vMany)), ((g 1), Sum.inl (cI, 512, Sum.inl vCounts)), (a, Sum.inl (cI, 512, Sum.inl fL))] H → va_D A [(o, Sum.inr (9, mO g fForm fShift fModels fItems fEnded fLow fRange fCache fPend fGoes fOuts fIns fReads fBad fIR fAsk fBAsk fCode fRL fRR fX fWrites fThrown)), ((g 0), Sum.inl (cI, 8, Sum.inl vMany)), ((g 1), Sum.inl (cI, 512, Sum.inl vCounts)), (a, Sum.inl (cI, 512, Sum.inl fL))] → va_S A s.heap H locs → lv_has ls 5 [(4, Value.int i9), (3, Value.int v_1), (0, Value.ref o), (1, Value.ref a), (2, Value.int (nI mm))] → W p l e R s m args below meth c H locs 0 0 Q (F0 m 42 ls []) := by
      intro n9_42
      induction n9_42 using Nat.strongRecOn with
      | ind n9_42 ih9_42 =>
        intro fL i9 j hn9_42 hL hi hj H locs ls hP hD hS hl
        refine lv_iload hx hb d_M_prepare_42 (lv_at hl 0 rfl) ?_
        refine lv_aload_n hx hb d_M_prepare_44 rfl (lv_at hl 2 rfl) ?_
        refine va_get (D := (dC, dI)) (ci := 9) (v := .ref (g 0)) (C := "RangeCodersModel") (T := T_M) (N := 35) hx hb hg in_M hown hK hP 0 rfl rfl 3 (by decide) (hg _ k955) (fun _ h9 => h9) rfl d_M_prepare_45 ?_
        refine lv_iload_n hx hb d_M_prepare_48 rfl (lv_at hl 4 rfl) ?_
        refine va_iald hx hb hK hP 1 0 rfl rfl (vp_in_nI hmm (by decide)) d_M_prepare_49 ?_
        refine lv_topi (fun v_3 ev_3 => ?_)
        have hv9 : v_3 = nI n := by subst_vars; rw [nI_clamp (by omega)]; exact hn
        refine lv_icmp_ge (tgt := 74) hx hb d_M_prepare_50 (by decide) (fun c_4 => ?_) (fun c_4 => ?_)
        · have hj3 : j = n := by
            rcases Nat.lt_or_ge j n with q | q
            · exact absurd c_4 (by rw [hv9, hi]; exact nI_ge q (by omega))
            · omega
          rw [hj3] at hL
          refine lv_aload_n hx hb d_M_prepare_74 rfl (lv_at hl 2 rfl) ?_
          refine va_get (D := (dC, dI)) (ci := 9) (v := .int fForm) (C := "RangeCodersModel") (T := T_M) (N := 35) hx hb hg in_M hown hK hP 0 rfl rfl 0 (by decide) (hg _ k952) (fun _ h9 => h9) rfl d_M_prepare_75 ?_
          refine lv_iconst (v := 2) hx hb d_M_prepare_78 (by decide) ?_
          refine lv_icmp_ge (tgt := 91) hx hb d_M_prepare_79 (by decide) (fun c_5 => ?_) (fun c_5 => ?_)
          · have hlt : ¬ fm < 2 := by
              rw [hform] at c_5
              have := (nI_cmp (a := 2) (by decide) (by omega)).mp c_5
              omega
            refine lv_aload_n hx hb d_M_prepare_91 rfl (lv_at hl 2 rfl) ?_
            refine lv_aload_n hx hb d_M_prepare_92 rfl (lv_at hl 3 rfl) ?_
            refine lv_iload_n hx hb d_M_prepare_93 rfl (lv_at hl 4 rfl) ?_
            refine lv_aload_n hx hb d_M_prepare_94 rfl (lv_at hl 2 rfl) ?_
            refine va_get (D := (dC, dI)) (ci := 9) (v := .int fForm) (C := "RangeCodersModel") (T := T_M) (N := 35) hx hb hg in_M hown hK hP 0 rfl rfl 0 (by decide) (hg _ k952) (fun _ h9 => h9) rfl d_M_prepare_95 ?_
            refine lv_iconst (v := 3) hx hb d_M_prepare_98 (by decide) ?_
            refine lv_icmp_ne (tgt := 108) hx hb d_M_prepare_99 (by decide) (fun c_6 => ?_) (fun c_6 => ?_)
            · have h3 : ¬ fm = 3 := fun q => c_6 (by rw [hform, q]; rfl)
              refine lv_sipush (v := 512) hx hb d_M_prepare_108 (by decide) ?_
              refine W.eq (g2 := F0 m 111 ls [Value.int (nI 512), Value.int (nI mm), Value.ref a, Value.ref o]) rfl ?_
              refine my_cv (wr := [((g 1), Sum.inl (cI, 512, Sum.inl vCounts))]) (va_runV (As := [Value.ref a, Value.int (nI mm), Value.int (nI 512)]) (rest := []) ⟨hx, hb, hml, hown, hts⟩ (c_M_scale l dC dI cI cM cO H.size o g fForm fShift fModels fItems fEnded fLow fRange fCache fPend fGoes fOuts fIns fReads fBad fIR fAsk fBAsk fCode fRL fRR fX fWrites fThrown vMany a fL mm n 512 C (by assumption) (by assumption) (by assumption) (by assumption) (by decide) (by decide) (hL.1) (hB)) (cwV 3 hts (my_gV k944 k946 ks23 k12 k947) rfl rfl rfl cu_M_scale_3 ⟨by rw [hR]; exact Nat.le_of_ble_eq_true rfl, by rw [hR]; exact Nat.le_of_ble_eq_true rfl⟩) (my_preV hK hN (hP.sub [0, 1, 3] rfl) (hD.sub [0, 1, 3] (by decide +kernel) rfl) 0 rfl rfl) rfl rfl hl.1 rfl (lv_room (Nat.le_of_ble_eq_true rfl)) d_M_prepare_111 ⟨by rw [hR]; exact Nat.le_of_ble_eq_true rfl, by rw [hR]; exact Nat.le_of_ble_eq_true rfl⟩) hP hD hS hA [0, 1, 3] [2] rfl rfl (by decide +kernel) (by decide +kernel) (fun u9 H locs hw_111 hP hD hS => ?_)
              obtain ⟨f2_111, rfl⟩ : ∃ z, z = u9 := ⟨_, rfl⟩
              have hw_111 : sgI f2_111 (64 * mm) n (sc n 512 C) ∧ sgO f2_111 fL (64 * mm) n := hw_111
              have hPD : my_PD (dC, dI) vwCl A [((g 1), Sum.inl (cI, 512, Sum.inl vCounts)), (o, Sum.inr (9, mO g fForm fShift fModels fItems fEnded fLow fRange fCache fPend fGoes fOuts fIns fReads fBad fIR fAsk fBAsk fCode fRL fRR fX fWrites fThrown)), ((g 0), Sum.inl (cI, 8, Sum.inl vMany)), (a, Sum.inl (cI, 512, Sum.inl f2_111))] H := ⟨hP, hD⟩
              have hP := hPD.1
              have hD := hPD.2
              exact my_vret hx hb hr hlocks hQ hK hS (Nat.le_refl _) (Nat.le_refl _) f2_111 (by unfold pfN pf; rw [if_neg hf2, if_neg hf2, if_neg hlt, if_neg h3]; exact ⟨hw_111.1, sgO_w (sgO_tr hw_111.2 hL.2) hn2⟩) (hP.sub [1, 2, 0, 3] rfl) (hD.sub [1, 2, 0, 3] (by decide +kernel) rfl) d_M_prepare_114
            · have h3 : fm = 3 := (nI_eq (a := fm) (b := 3) (by omega) (by decide)).mp (by rw [← hform]; exact c_6)
              refine lv_sipush (v := 4096) hx hb d_M_prepare_102 (by decide) ?_
              refine lv_goto (tgt := 111) hx hb d_M_prepare_105 (by decide) ?_
              refine W.eq (g2 := F0 m 111 ls [Value.int (nI 4096), Value.int (nI mm), Value.ref a, Value.ref o]) rfl ?_
              refine my_cv (wr := [((g 1), Sum.inl (cI, 512, Sum.inl vCounts))]) (va_runV (As := [Value.ref a, Value.int (nI mm), Value.int (nI 4096)]) (rest := []) ⟨hx, hb, hml, hown, hts⟩ (c_M_scale l dC dI cI cM cO H.size o g fForm fShift fModels fItems fEnded fLow fRange fCache fPend fGoes fOuts fIns fReads fBad fIR fAsk fBAsk fCode fRL fRR fX fWrites fThrown vMany a fL mm n 4096 C (by assumption) (by assumption) (by assumption) (by assumption) (by decide) (by decide) (hL.1) (hB)) (cwV 3 hts (my_gV k944 k946 ks23 k12 k947) rfl rfl rfl cu_M_scale_3 ⟨by rw [hR]; exact Nat.le_of_ble_eq_true rfl, by rw [hR]; exact Nat.le_of_ble_eq_true rfl⟩) (my_preV hK hN (hP.sub [0, 1, 3] rfl) (hD.sub [0, 1, 3] (by decide +kernel) rfl) 0 rfl rfl) rfl rfl hl.1 rfl (lv_room (Nat.le_of_ble_eq_true rfl)) d_M_prepare_111 ⟨by rw [hR]; exact Nat.le_of_ble_eq_true rfl, by rw [hR]; exact Nat.le_of_ble_eq_true rfl⟩) hP hD hS hA [0, 1, 3] [2] rfl rfl (by decide +kernel) (by decide +kernel) (fun u9 H locs hw_111 hP hD hS => ?_)
              obtain ⟨f2_111, rfl⟩ : ∃ z, z = u9 := ⟨_, rfl⟩
              have hw_111 : sgI f2_111 (64 * mm) n (sc n 4096 C) ∧ sgO f2_111 fL (64 * mm) n := hw_111
              have hPD : my_PD (dC, dI) vwCl A [((g 1), Sum.inl (cI, 512, Sum.inl vCounts)), (o, Sum.inr (9, mO g fForm fShift fModels fItems fEnded fLow fRange fCache fPend fGoes fOuts fIns fReads fBad fIR fAsk fBAsk fCode fRL fRR fX fWrites fThrown)), ((g 0), Sum.inl (cI, 8, Sum.inl vMany)), (a, Sum.inl (cI, 512, Sum.inl f2_111))] H := ⟨hP, hD⟩
              have hP := hPD.1
              have hD := hPD.2
              exact my_vret hx hb hr hlocks hQ hK hS (Nat.le_refl _) (Nat.le_refl _) f2_111 (by unfold pfN pf; rw [if_neg hf2, if_neg hf2, if_neg hlt, if_pos h3]; exact ⟨hw_111.1, sgO_w (sgO_tr hw_111.2 hL.2) hn2⟩) (hP.sub [1, 2, 0, 3] rfl) (hD.sub [1, 2, 0, 3] (by decide +kernel) rfl) d_M_prepare_114
          · have hlt : fm < 2 := by
              rcases Nat.lt_or_ge fm 2 with q | q
              · exact q
              · exact absurd (by rw [hform]; exact nI_le (a := 2) q (by omega)) c_5
            refine lv_aload_n hx hb d_M_prepare_82 rfl (lv_at hl 2 rfl) ?_
            refine lv_aload_n hx hb d_M_prepare_83 rfl (lv_at hl 3 rfl) ?_
            refine lv_iload_n hx hb d_M_prepare_84 rfl (lv_at hl 4 rfl) ?_
            refine my_cv (wr := [((g 1), Sum.inl (cI, 512, Sum.inl vCounts))]) (va_runV (As := [Value.ref a, Value.int (nI mm)]) (rest := []) ⟨hx, hb, hml, hown, hts⟩ (c_M_lessen l dC dI cI cM cO H.size o g fForm fShift fModels fItems fEnded fLow fRange fCache fPend fGoes fOuts fIns fReads fBad fIR fAsk fBAsk fCode fRL fRR fX fWrites fThrown vMany a fL mm n C (by assumption) (by assumption) (by assumption) (hL.1) (hB)) (cwV 2 hts (my_gV k932 k934 ks20 k12 k935) rfl rfl rfl cu_M_lessen_2 ⟨by rw [hR]; exact Nat.le_of_ble_eq_true rfl, by rw [hR]; exact Nat.le_of_ble_eq_true rfl⟩) (my_preV hK hN (hP.sub [0, 1, 3] rfl) (hD.sub [0, 1, 3] (by decide +kernel) rfl) 0 rfl rfl) rfl rfl hl.1 rfl (lv_room (Nat.le_of_ble_eq_true rfl)) d_M_prepare_85 ⟨by rw [hR]; exact Nat.le_of_ble_eq_true rfl, by rw [hR]; exact Nat.le_of_ble_eq_true rfl⟩) hP hD hS hA [0, 1, 3] [2] rfl rfl (by decide +kernel) (by decide +kernel) (fun u9 H locs hw_85 hP hD hS => ?_)
            obtain ⟨f2_85, rfl⟩ : ∃ z, z = u9 := ⟨_, rfl⟩
            have hw_85 : sgI f2_85 (64 * mm) n (les n C) ∧ sgO f2_85 fL (64 * mm) n := hw_85
            have hPD : my_PD (dC, dI) vwCl A [((g 1), Sum.inl (cI, 512, Sum.inl vCounts)), (o, Sum.inr (9, mO g fForm fShift fModels fItems fEnded fLow fRange fCache fPend fGoes fOuts fIns fReads fBad fIR fAsk fBAsk fCode fRL fRR fX fWrites fThrown)), ((g 0), Sum.inl (cI, 8, Sum.inl vMany)), (a, Sum.inl (cI, 512, Sum.inl f2_85))] H := ⟨hP, hD⟩
            have hP := hPD.1
            have hD := hPD.2
            refine lv_goto (tgt := 114) hx hb d_M_prepare_88 (by decide) ?_
            exact my_vret hx hb hr hlocks hQ hK hS (Nat.le_refl _) (Nat.le_refl _) f2_85 (by unfold pfN pf; rw [if_neg hf2, if_neg hf2, if_pos hlt]; exact ⟨hw_85.1, sgO_w (sgO_tr hw_85.2 hL.2) hn2⟩) (hP.sub [1, 2, 0, 3] rfl) (hD.sub [1, 2, 0, 3] (by decide +kernel) rfl) d_M_prepare_114
        · have hj2 : j < n := by
            rcases Nat.lt_or_ge j n with q | q
            · exact q
            · exact absurd (by rw [hv9, hi]; exact nI_le q (by omega)) c_4
          refine lv_aload_n hx hb d_M_prepare_53 rfl (lv_at hl 3 rfl) ?_
          refine lv_iload_n hx hb d_M_prepare_54 rfl (lv_at hl 1 rfl) ?_
          refine lv_iload hx hb d_M_prepare_55 (lv_at hl 0 rfl) ?_
          refine lv_iadd hx hb d_M_prepare_57 ?_
          refine lv_topi (fun v_7 ev_7 => ?_)
          have hix : v_7 = nI (64 * mm + j) := by subst_vars; exact ix64
          refine lv_aload_n hx hb d_M_prepare_58 rfl (lv_at hl 2 rfl) ?_
          refine va_get (D := (dC, dI)) (ci := 9) (v := .ref (g 1)) (C := "RangeCodersModel") (T := T_M) (N := 35) hx hb hg in_M hown hK hP 0 rfl rfl 4 (by decide) (hg _ k956) (fun _ h9 => h9) rfl d_M_prepare_59 ?_
          refine lv_iload_n hx hb d_M_prepare_62 rfl (lv_at hl 1 rfl) ?_
          refine lv_iload hx hb d_M_prepare_63 (lv_at hl 0 rfl) ?_
          refine lv_iadd hx hb d_M_prepare_65 ?_
          refine lv_topi (fun v_8 ev_8 => ?_)
          have hix2 : v_8 = nI (64 * mm + j) := by subst_vars; exact ix64
          refine va_iald hx hb hK hP 2 0 rfl rfl (by rw [hix2]; exact vp_in_nI (by omega) (by decide)) d_M_prepare_66 ?_
          refine lv_topi (fun v_9 ev_9 => ?_)
          have hval : v_9 = nI (C j) := by rw [ev_9, hix2, nI_clamp (by omega)]; exact hc j hj2
          refine va_iast hx hb hK hP hD hS 3 0 rfl rfl (by rw [hix]; exact vp_in_nI (by omega) (by decide)) d_M_prepare_67 (fun H locs hP hD hS => ?_)
          have hPD : my_PD (dC, dI) vwCl A [(o, Sum.inr (9, mO g fForm fShift fModels fItems fEnded fLow fRange fCache fPend fGoes fOuts fIns fReads fBad fIR fAsk fBAsk fCode fRL fRR fX fWrites fThrown)), ((g 0), Sum.inl (cI, 8, Sum.inl vMany)), ((g 1), Sum.inl (cI, 512, Sum.inl vCounts)), (a, Sum.inl (cI, 512, Sum.inl (upd fL v_7.toNatClampNeg v_9)))] H := ⟨hP, hD⟩
          have hP := hPD.1
          have hD := hPD.2
          obtain ⟨v_10, ev_10⟩ : ∃ y : Int32, y = i9 + (1) := ⟨_, rfl⟩
          refine lv_iinc (v := v_10) (lv' := [(4, Value.int v_10), (3, Value.int v_1), (0, Value.ref o), (1, Value.ref a), (2, Value.int (nI mm))]) hx hb d_M_prepare_68 hl (k := 0) rfl (by rw [ev_10]; rfl) (by decide) rfl (fun ls hl => ?_)
          refine lv_goto (tgt := 42) hx hb d_M_prepare_71 (by decide) ?_
          exact ih9_42 _ (by first | omega | (omega)) (upd fL v_7.toNatClampNeg v_9) v_10 (j + 1) rfl (sgM_st hL hj2 (by rw [hix]; exact nI_clamp (by omega)) hval) (by subst_vars; exact nI_1 j) (by omega) H locs ls (hP.sub [0, 1, 2, 3] rfl) (hD.sub [0, 1, 2, 3] (by decide +kernel) rfl) hS (lv_sub hl [0, 1, 2, 3, 4] rfl)
    exact J_42 _ f 0 0 rfl (sgM_0 _ _ _ _) (rfl) (Nat.zero_le _) H locs ls (hP.sub [0, 1, 2, 3] rfl) (hD.sub [0, 1, 2, 3] (by decide +kernel) rfl) hS (lv_sub hl [0, 1, 2, 3, 4] rfl)
  · have hf2 : fm = 2 := (nI_eq (a := fm) (b := 2) (by omega) (by decide)).mp (by rw [← hform]; exact c_2)
    refine lv_iconst (v := 0) hx hb d_M_prepare_13 (by decide) ?_
    refine lv_istore (lv' := [(4, Value.int 0), (3, Value.int v_1), (0, Value.ref o), (1, Value.ref a), (2, Value.int (nI mm))]) hx hb d_M_prepare_14 hl (by decide) rfl (fun ls hl => ?_)
    have J_16 : ∀ (n9_16 : Nat) (fL : Nat → Int32) (i9 : Int32) (j : Nat) (hn9_16 : 64 - j = n9_16) (hL : sgM fL f (64 * mm) 64 j (fun _ => 1024)) (hi : i9 = nI j) (hj : j ≤ 64) (H : Heap) (locs : List Loc) (ls : Array Slot), va_P (dC, dI) vwCl [(o, Sum.inr (9, mO g fForm fShift fModels fItems fEnded fLow fRange fCache fPend fGoes fOuts fIns fReads fBad fIR fAsk fBAsk fCode fRL fRR fX fWrites fThrown)), ((g 0), Sum.inl (cI, 8, Sum.inl vMany)), ((g 1), Sum.inl (cI, 512, Sum.inl vCounts)), (a, Sum.inl (cI, 512, Sum.inl fL))] H → va_D A [(o, Sum.inr (9, mO g fForm fShift fModels fItems fEnded fLow fRange fCache fPend fGoes fOuts fIns fReads fBad fIR fAsk fBAsk fCode fRL fRR fX fWrites fThrown)), ((g 0), Sum.inl (cI, 8, Sum.inl vMany)), ((g 1), Sum.inl (cI, 512, Sum.inl vCounts)), (a, Sum.inl (cI, 512, Sum.inl fL))] → va_S A s.heap H locs → lv_has ls 5 [(4, Value.int i9), (3, Value.int v_1), (0, Value.ref o), (1, Value.ref a), (2, Value.int (nI mm))] → W p l e R s m args below meth c H locs 0 0 Q (F0 m 16 ls []) := by
      intro n9_16
      induction n9_16 using Nat.strongRecOn with
      | ind n9_16 ih9_16 =>
        intro fL i9 j hn9_16 hL hi hj H locs ls hP hD hS hl
        refine lv_iload hx hb d_M_prepare_16 (lv_at hl 0 rfl) ?_
        refine lv_bipush (v := 64) hx hb d_M_prepare_18 (by decide) ?_
        refine lv_icmp_ge (tgt := 38) hx hb d_M_prepare_20 (by decide) (fun c_11 => ?_) (fun c_11 => ?_)
        · have hj3 : j = 64 := by
            rw [hi] at c_11
            have := (nI_cmp (a := 64) (by decide) (by omega)).mp c_11
            omega
          have hP4 : sgI fL (64 * mm) (pfN fm n) (pf fm n C) ∧ sgO fL f (64 * mm) 64 := by
            unfold pfN pf; rw [if_pos hf2, if_pos hf2]; rw [hj3] at hL; exact hL
          exact my_vret hx hb hr hlocks hQ hK hS (Nat.le_refl _) (Nat.le_refl _) fL (hP4) (hP.sub [0, 1, 2, 3] rfl) (hD.sub [0, 1, 2, 3] (by decide +kernel) rfl) d_M_prepare_38
        · have hj2 : j < 64 := by
            rcases Nat.lt_or_ge j 64 with q | q
            · exact q
            · exact absurd (by rw [hi]; exact nI_le (a := 64) q (by omega)) c_11
          refine lv_aload_n hx hb d_M_prepare_23 rfl (lv_at hl 3 rfl) ?_
          refine lv_iload_n hx hb d_M_prepare_24 rfl (lv_at hl 1 rfl) ?_
          refine lv_iload hx hb d_M_prepare_25 (lv_at hl 0 rfl) ?_
          refine lv_iadd hx hb d_M_prepare_27 ?_
          refine lv_topi (fun v_12 ev_12 => ?_)
          have hix : v_12 = nI (64 * mm + j) := by subst_vars; exact ix64
          refine lv_sipush (v := 1024) hx hb d_M_prepare_28 (by decide) ?_
          refine va_iast hx hb hK hP hD hS 3 0 rfl rfl (by rw [hix]; exact vp_in_nI (by omega) (by decide)) d_M_prepare_31 (fun H locs hP hD hS => ?_)
          have hPD : my_PD (dC, dI) vwCl A [(o, Sum.inr (9, mO g fForm fShift fModels fItems fEnded fLow fRange fCache fPend fGoes fOuts fIns fReads fBad fIR fAsk fBAsk fCode fRL fRR fX fWrites fThrown)), ((g 0), Sum.inl (cI, 8, Sum.inl vMany)), ((g 1), Sum.inl (cI, 512, Sum.inl vCounts)), (a, Sum.inl (cI, 512, Sum.inl (upd fL v_12.toNatClampNeg 1024)))] H := ⟨hP, hD⟩
          have hP := hPD.1
          have hD := hPD.2
          obtain ⟨v_13, ev_13⟩ : ∃ y : Int32, y = i9 + (1) := ⟨_, rfl⟩
          refine lv_iinc (v := v_13) (lv' := [(4, Value.int v_13), (3, Value.int v_1), (0, Value.ref o), (1, Value.ref a), (2, Value.int (nI mm))]) hx hb d_M_prepare_32 hl (k := 0) rfl (by rw [ev_13]; rfl) (by decide) rfl (fun ls hl => ?_)
          refine lv_goto (tgt := 16) hx hb d_M_prepare_35 (by decide) ?_
          exact ih9_16 _ (by first | omega | (omega)) (upd fL v_12.toNatClampNeg 1024) v_13 (j + 1) rfl (sgM_st hL hj2 (by rw [hix]; exact nI_clamp (by omega)) rfl) (by subst_vars; exact nI_1 j) (by omega) H locs ls (hP.sub [0, 1, 2, 3] rfl) (hD.sub [0, 1, 2, 3] (by decide +kernel) rfl) hS (lv_sub hl [0, 1, 2, 3, 4] rfl)
    exact J_16 _ f 0 0 rfl (sgM_0 _ _ _ _) (rfl) (Nat.zero_le _) H locs ls (hP.sub [0, 1, 2, 3] rfl) (hD.sub [0, 1, 2, 3] (by decide +kernel) rfl) hS (lv_sub hl [0, 1, 2, 3, 4] rfl)
end
