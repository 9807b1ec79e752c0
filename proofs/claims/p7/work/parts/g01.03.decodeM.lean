section
-- no bytes of ('java/lang/Object', '<init>', '()V')
theorem d_Arrays_fill_0 : decode prog_18_method_103_code 0 = .ok (.iconst 0, 1) := by decide +kernel
theorem d_Arrays_fill_1 : decode prog_18_method_103_code 1 = .ok (.istore_n 2, 1) := by decide +kernel
theorem d_Arrays_fill_2 : decode prog_18_method_103_code 2 = .ok (.aload_n 0, 1) := by decide +kernel
theorem d_Arrays_fill_3 : decode prog_18_method_103_code 3 = .ok (.arraylength, 1) := by decide +kernel
theorem d_Arrays_fill_4 : decode prog_18_method_103_code 4 = .ok (.istore_n 3, 1) := by decide +kernel
theorem d_Arrays_fill_5 : decode prog_18_method_103_code 5 = .ok (.iload_n 2, 1) := by decide +kernel
theorem d_Arrays_fill_6 : decode prog_18_method_103_code 6 = .ok (.iload_n 3, 1) := by decide +kernel
theorem d_Arrays_fill_7 : decode prog_18_method_103_code 7 = .ok (.if_icmp .ge 13, 3) := by decide +kernel
theorem d_Arrays_fill_10 : decode prog_18_method_103_code 10 = .ok (.aload_n 0, 1) := by decide +kernel
theorem d_Arrays_fill_11 : decode prog_18_method_103_code 11 = .ok (.iload_n 2, 1) := by decide +kernel
theorem d_Arrays_fill_12 : decode prog_18_method_103_code 12 = .ok (.iload_n 1, 1) := by decide +kernel
theorem d_Arrays_fill_13 : decode prog_18_method_103_code 13 = .ok (.iastore, 1) := by decide +kernel
theorem d_Arrays_fill_14 : decode prog_18_method_103_code 14 = .ok (.iinc 2 1, 3) := by decide +kernel
theorem d_Arrays_fill_17 : decode prog_18_method_103_code 17 = .ok (.goto (-12), 3) := by decide +kernel
theorem d_Arrays_fill_20 : decode prog_18_method_103_code 20 = .ok (.return_, 1) := by decide +kernel
theorem d_Arrays_copyOf_0 : decode prog_18_method_123_code 0 = .ok (.iload_n 1, 1) := by decide +kernel
theorem d_Arrays_copyOf_1 : decode prog_18_method_123_code 1 = .ok (.aload_n 0, 1) := by decide +kernel
theorem d_Arrays_copyOf_2 : decode prog_18_method_123_code 2 = .ok (.arraylength, 1) := by decide +kernel
theorem d_Arrays_copyOf_3 : decode prog_18_method_123_code 3 = .ok (.if_icmp .ne 11, 3) := by decide +kernel
theorem d_Arrays_copyOf_14 : decode prog_18_method_123_code 14 = .ok (.iload_n 1, 1) := by decide +kernel
theorem d_Arrays_copyOf_15 : decode prog_18_method_123_code 15 = .ok (.newarray .int, 2) := by decide +kernel
theorem d_Arrays_copyOf_17 : decode prog_18_method_123_code 17 = .ok (.astore_n 2, 1) := by decide +kernel
theorem d_Arrays_copyOf_18 : decode prog_18_method_123_code 18 = .ok (.aload_n 0, 1) := by decide +kernel
theorem d_Arrays_copyOf_19 : decode prog_18_method_123_code 19 = .ok (.iconst 0, 1) := by decide +kernel
theorem d_Arrays_copyOf_20 : decode prog_18_method_123_code 20 = .ok (.aload_n 2, 1) := by decide +kernel
theorem d_Arrays_copyOf_21 : decode prog_18_method_123_code 21 = .ok (.iconst 0, 1) := by decide +kernel
theorem d_Arrays_copyOf_22 : decode prog_18_method_123_code 22 = .ok (.aload_n 0, 1) := by decide +kernel
theorem d_Arrays_copyOf_23 : decode prog_18_method_123_code 23 = .ok (.arraylength, 1) := by decide +kernel
theorem d_Arrays_copyOf_24 : decode prog_18_method_123_code 24 = .ok (.iload_n 1, 1) := by decide +kernel
theorem d_Arrays_copyOf_25 : decode prog_18_method_123_code 25 = .ok (.invokestatic 304, 3) := by decide +kernel
theorem d_Arrays_copyOf_28 : decode prog_18_method_123_code 28 = .ok (.invokestatic 150, 3) := by decide +kernel
theorem d_Arrays_copyOf_31 : decode prog_18_method_123_code 31 = .ok (.aload_n 2, 1) := by decide +kernel
theorem d_Arrays_copyOf_32 : decode prog_18_method_123_code 32 = .ok (.areturn, 1) := by decide +kernel
theorem d_M_init_0 : decode prog_14_method_1_code 0 = .ok (.aload_n 0, 1) := by decide +kernel
theorem d_M_init_1 : decode prog_14_method_1_code 1 = .ok (.invokespecial 1, 3) := by decide +kernel
theorem d_M_init_4 : decode prog_14_method_1_code 4 = .ok (.aload_n 0, 1) := by decide +kernel
theorem d_M_init_5 : decode prog_14_method_1_code 5 = .ok (.bipush 8, 2) := by decide +kernel
theorem d_M_init_7 : decode prog_14_method_1_code 7 = .ok (.newarray .int, 2) := by decide +kernel
theorem d_M_init_9 : decode prog_14_method_1_code 9 = .ok (.putfield 7, 3) := by decide +kernel
theorem d_M_init_12 : decode prog_14_method_1_code 12 = .ok (.aload_n 0, 1) := by decide +kernel
theorem d_M_init_13 : decode prog_14_method_1_code 13 = .ok (.sipush 512, 3) := by decide +kernel
theorem d_M_init_16 : decode prog_14_method_1_code 16 = .ok (.newarray .int, 2) := by decide +kernel
theorem d_M_init_18 : decode prog_14_method_1_code 18 = .ok (.putfield 13, 3) := by decide +kernel
theorem d_M_init_21 : decode prog_14_method_1_code 21 = .ok (.aload_n 0, 1) := by decide +kernel
theorem d_M_init_22 : decode prog_14_method_1_code 22 = .ok (.sipush 512, 3) := by decide +kernel
theorem d_M_init_25 : decode prog_14_method_1_code 25 = .ok (.newarray .int, 2) := by decide +kernel
theorem d_M_init_27 : decode prog_14_method_1_code 27 = .ok (.putfield 16, 3) := by decide +kernel
theorem d_M_init_30 : decode prog_14_method_1_code 30 = .ok (.aload_n 0, 1) := by decide +kernel
theorem d_M_init_31 : decode prog_14_method_1_code 31 = .ok (.sipush 512, 3) := by decide +kernel
theorem d_M_init_34 : decode prog_14_method_1_code 34 = .ok (.newarray .int, 2) := by decide +kernel
theorem d_M_init_36 : decode prog_14_method_1_code 36 = .ok (.putfield 19, 3) := by decide +kernel
theorem d_M_init_39 : decode prog_14_method_1_code 39 = .ok (.aload_n 0, 1) := by decide +kernel
theorem d_M_init_40 : decode prog_14_method_1_code 40 = .ok (.sipush 600, 3) := by decide +kernel
theorem d_M_init_43 : decode prog_14_method_1_code 43 = .ok (.newarray .int, 2) := by decide +kernel
theorem d_M_init_45 : decode prog_14_method_1_code 45 = .ok (.putfield 22, 3) := by decide +kernel
theorem d_M_init_48 : decode prog_14_method_1_code 48 = .ok (.aload_n 0, 1) := by decide +kernel
theorem d_M_init_49 : decode prog_14_method_1_code 49 = .ok (.sipush 600, 3) := by decide +kernel
theorem d_M_init_52 : decode prog_14_method_1_code 52 = .ok (.newarray .int, 2) := by decide +kernel
theorem d_M_init_54 : decode prog_14_method_1_code 54 = .ok (.putfield 25, 3) := by decide +kernel
theorem d_M_init_57 : decode prog_14_method_1_code 57 = .ok (.aload_n 0, 1) := by decide +kernel
theorem d_M_init_58 : decode prog_14_method_1_code 58 = .ok (.sipush 9000, 3) := by decide +kernel
theorem d_M_init_61 : decode prog_14_method_1_code 61 = .ok (.newarray .int, 2) := by decide +kernel
theorem d_M_init_63 : decode prog_14_method_1_code 63 = .ok (.putfield 28, 3) := by decide +kernel
theorem d_M_init_66 : decode prog_14_method_1_code 66 = .ok (.aload_n 0, 1) := by decide +kernel
theorem d_M_init_67 : decode prog_14_method_1_code 67 = .ok (.sipush 9000, 3) := by decide +kernel
theorem d_M_init_70 : decode prog_14_method_1_code 70 = .ok (.newarray .int, 2) := by decide +kernel
theorem d_M_init_72 : decode prog_14_method_1_code 72 = .ok (.putfield 31, 3) := by decide +kernel
theorem d_M_init_75 : decode prog_14_method_1_code 75 = .ok (.aload_n 0, 1) := by decide +kernel
theorem d_M_init_76 : decode prog_14_method_1_code 76 = .ok (.sipush 6000, 3) := by decide +kernel
theorem d_M_init_79 : decode prog_14_method_1_code 79 = .ok (.newarray .int, 2) := by decide +kernel
theorem d_M_init_81 : decode prog_14_method_1_code 81 = .ok (.putfield 34, 3) := by decide +kernel
theorem d_M_init_84 : decode prog_14_method_1_code 84 = .ok (.aload_n 0, 1) := by decide +kernel
theorem d_M_init_85 : decode prog_14_method_1_code 85 = .ok (.sipush 512, 3) := by decide +kernel
theorem d_M_init_88 : decode prog_14_method_1_code 88 = .ok (.newarray .int, 2) := by decide +kernel
theorem d_M_init_90 : decode prog_14_method_1_code 90 = .ok (.putfield 37, 3) := by decide +kernel
theorem d_M_init_93 : decode prog_14_method_1_code 93 = .ok (.aload_n 0, 1) := by decide +kernel
theorem d_M_init_94 : decode prog_14_method_1_code 94 = .ok (.sipush 512, 3) := by decide +kernel
theorem d_M_init_97 : decode prog_14_method_1_code 97 = .ok (.newarray .int, 2) := by decide +kernel
theorem d_M_init_99 : decode prog_14_method_1_code 99 = .ok (.putfield 40, 3) := by decide +kernel
theorem d_M_init_102 : decode prog_14_method_1_code 102 = .ok (.aload_n 0, 1) := by decide +kernel
theorem d_M_init_103 : decode prog_14_method_1_code 103 = .ok (.sipush 20000, 3) := by decide +kernel
theorem d_M_init_106 : decode prog_14_method_1_code 106 = .ok (.newarray .int, 2) := by decide +kernel
theorem d_M_init_108 : decode prog_14_method_1_code 108 = .ok (.putfield 43, 3) := by decide +kernel
theorem d_M_init_111 : decode prog_14_method_1_code 111 = .ok (.aload_n 0, 1) := by decide +kernel
theorem d_M_init_112 : decode prog_14_method_1_code 112 = .ok (.iload_n 1, 1) := by decide +kernel
theorem d_M_init_113 : decode prog_14_method_1_code 113 = .ok (.ifCond .ge 7, 3) := by decide +kernel
theorem d_M_init_116 : decode prog_14_method_1_code 116 = .ok (.iconst 0, 1) := by decide +kernel
theorem d_M_init_117 : decode prog_14_method_1_code 117 = .ok (.goto 13, 3) := by decide +kernel
theorem d_M_init_120 : decode prog_14_method_1_code 120 = .ok (.iload_n 1, 1) := by decide +kernel
theorem d_M_init_121 : decode prog_14_method_1_code 121 = .ok (.iconst 4, 1) := by decide +kernel
theorem d_M_init_122 : decode prog_14_method_1_code 122 = .ok (.if_icmp .le 7, 3) := by decide +kernel
theorem d_M_init_125 : decode prog_14_method_1_code 125 = .ok (.iconst 4, 1) := by decide +kernel
theorem d_M_init_126 : decode prog_14_method_1_code 126 = .ok (.goto 4, 3) := by decide +kernel
theorem d_M_init_129 : decode prog_14_method_1_code 129 = .ok (.iload_n 1, 1) := by decide +kernel
theorem d_M_init_130 : decode prog_14_method_1_code 130 = .ok (.putfield 46, 3) := by decide +kernel
theorem d_M_init_133 : decode prog_14_method_1_code 133 = .ok (.aload_n 0, 1) := by decide +kernel
theorem d_M_init_134 : decode prog_14_method_1_code 134 = .ok (.iload_n 2, 1) := by decide +kernel
theorem d_M_init_135 : decode prog_14_method_1_code 135 = .ok (.iconst 1, 1) := by decide +kernel
theorem d_M_init_136 : decode prog_14_method_1_code 136 = .ok (.if_icmp .ge 7, 3) := by decide +kernel
theorem d_M_init_139 : decode prog_14_method_1_code 139 = .ok (.iconst 1, 1) := by decide +kernel
theorem d_M_init_140 : decode prog_14_method_1_code 140 = .ok (.goto 15, 3) := by decide +kernel
theorem d_M_init_143 : decode prog_14_method_1_code 143 = .ok (.iload_n 2, 1) := by decide +kernel
theorem d_M_init_144 : decode prog_14_method_1_code 144 = .ok (.bipush 10, 2) := by decide +kernel
theorem d_M_init_146 : decode prog_14_method_1_code 146 = .ok (.if_icmp .le 8, 3) := by decide +kernel
theorem d_M_init_149 : decode prog_14_method_1_code 149 = .ok (.bipush 10, 2) := by decide +kernel
theorem d_M_init_151 : decode prog_14_method_1_code 151 = .ok (.goto 4, 3) := by decide +kernel
theorem d_M_init_154 : decode prog_14_method_1_code 154 = .ok (.iload_n 2, 1) := by decide +kernel
theorem d_M_init_155 : decode prog_14_method_1_code 155 = .ok (.putfield 50, 3) := by decide +kernel
theorem d_M_init_158 : decode prog_14_method_1_code 158 = .ok (.aload_n 0, 1) := by decide +kernel
theorem d_M_init_159 : decode prog_14_method_1_code 159 = .ok (.invokevirtual 53, 3) := by decide +kernel
theorem d_M_init_162 : decode prog_14_method_1_code 162 = .ok (.return_, 1) := by decide +kernel
theorem d_M_start_0 : decode prog_14_method_15_code 0 = .ok (.aload_n 0, 1) := by decide +kernel
theorem d_M_start_1 : decode prog_14_method_15_code 1 = .ok (.iconst 0, 1) := by decide +kernel
theorem d_M_start_2 : decode prog_14_method_15_code 2 = .ok (.putfield 94, 3) := by decide +kernel
theorem d_M_start_5 : decode prog_14_method_15_code 5 = .ok (.aload_n 0, 1) := by decide +kernel
theorem d_M_start_6 : decode prog_14_method_15_code 6 = .ok (.iconst 0, 1) := by decide +kernel
theorem d_M_start_7 : decode prog_14_method_15_code 7 = .ok (.putfield 97, 3) := by decide +kernel
theorem d_M_start_10 : decode prog_14_method_15_code 10 = .ok (.aload_n 0, 1) := by decide +kernel
theorem d_M_start_11 : decode prog_14_method_15_code 11 = .ok (.lconst 0, 1) := by decide +kernel
theorem d_M_start_12 : decode prog_14_method_15_code 12 = .ok (.putfield 104, 3) := by decide +kernel
theorem d_M_start_15 : decode prog_14_method_15_code 15 = .ok (.aload_n 0, 1) := by decide +kernel
theorem d_M_start_16 : decode prog_14_method_15_code 16 = .ok (.ldc2_w 108, 3) := by decide +kernel
theorem d_M_start_19 : decode prog_14_method_15_code 19 = .ok (.putfield 110, 3) := by decide +kernel
theorem d_M_start_22 : decode prog_14_method_15_code 22 = .ok (.aload_n 0, 1) := by decide +kernel
theorem d_M_start_23 : decode prog_14_method_15_code 23 = .ok (.iconst (-1), 1) := by decide +kernel
theorem d_M_start_24 : decode prog_14_method_15_code 24 = .ok (.putfield 113, 3) := by decide +kernel
theorem d_M_start_27 : decode prog_14_method_15_code 27 = .ok (.aload_n 0, 1) := by decide +kernel
theorem d_M_start_28 : decode prog_14_method_15_code 28 = .ok (.iconst 0, 1) := by decide +kernel
theorem d_M_start_29 : decode prog_14_method_15_code 29 = .ok (.putfield 116, 3) := by decide +kernel
theorem d_M_start_32 : decode prog_14_method_15_code 32 = .ok (.aload_n 0, 1) := by decide +kernel
theorem d_M_start_33 : decode prog_14_method_15_code 33 = .ok (.iconst 0, 1) := by decide +kernel
theorem d_M_start_34 : decode prog_14_method_15_code 34 = .ok (.putfield 119, 3) := by decide +kernel
theorem d_M_start_37 : decode prog_14_method_15_code 37 = .ok (.iconst 0, 1) := by decide +kernel
theorem d_M_start_38 : decode prog_14_method_15_code 38 = .ok (.istore_n 1, 1) := by decide +kernel
theorem d_M_start_39 : decode prog_14_method_15_code 39 = .ok (.iload_n 1, 1) := by decide +kernel
theorem d_M_start_40 : decode prog_14_method_15_code 40 = .ok (.aload_n 0, 1) := by decide +kernel
theorem d_M_start_41 : decode prog_14_method_15_code 41 = .ok (.getfield 59, 3) := by decide +kernel
theorem d_M_start_44 : decode prog_14_method_15_code 44 = .ok (.if_icmp .ge 18, 3) := by decide +kernel
theorem d_M_start_47 : decode prog_14_method_15_code 47 = .ok (.aload_n 0, 1) := by decide +kernel
theorem d_M_start_48 : decode prog_14_method_15_code 48 = .ok (.aload_n 0, 1) := by decide +kernel
theorem d_M_start_49 : decode prog_14_method_15_code 49 = .ok (.getfield 16, 3) := by decide +kernel
theorem d_M_start_52 : decode prog_14_method_15_code 52 = .ok (.iload_n 1, 1) := by decide +kernel
theorem d_M_start_53 : decode prog_14_method_15_code 53 = .ok (.invokevirtual 87, 3) := by decide +kernel
theorem d_M_start_56 : decode prog_14_method_15_code 56 = .ok (.iinc 1 1, 3) := by decide +kernel
theorem d_M_start_59 : decode prog_14_method_15_code 59 = .ok (.goto (-20), 3) := by decide +kernel
theorem d_M_start_62 : decode prog_14_method_15_code 62 = .ok (.return_, 1) := by decide +kernel
theorem d_M_prepare_0 : decode prog_14_method_7_code 0 = .ok (.bipush 64, 2) := by decide +kernel
theorem d_M_prepare_2 : decode prog_14_method_7_code 2 = .ok (.iload_n 2, 1) := by decide +kernel
theorem d_M_prepare_3 : decode prog_14_method_7_code 3 = .ok (.imul, 1) := by decide +kernel
theorem d_M_prepare_4 : decode prog_14_method_7_code 4 = .ok (.istore_n 3, 1) := by decide +kernel
theorem d_M_prepare_5 : decode prog_14_method_7_code 5 = .ok (.aload_n 0, 1) := by decide +kernel
theorem d_M_prepare_6 : decode prog_14_method_7_code 6 = .ok (.getfield 46, 3) := by decide +kernel
theorem d_M_prepare_9 : decode prog_14_method_7_code 9 = .ok (.iconst 2, 1) := by decide +kernel
theorem d_M_prepare_10 : decode prog_14_method_7_code 10 = .ok (.if_icmp .ne 29, 3) := by decide +kernel
theorem d_M_prepare_13 : decode prog_14_method_7_code 13 = .ok (.iconst 0, 1) := by decide +kernel
theorem d_M_prepare_14 : decode prog_14_method_7_code 14 = .ok (.istore 4, 2) := by decide +kernel
theorem d_M_prepare_16 : decode prog_14_method_7_code 16 = .ok (.iload 4, 2) := by decide +kernel
theorem d_M_prepare_18 : decode prog_14_method_7_code 18 = .ok (.bipush 64, 2) := by decide +kernel
theorem d_M_prepare_20 : decode prog_14_method_7_code 20 = .ok (.if_icmp .ge 18, 3) := by decide +kernel
theorem d_M_prepare_23 : decode prog_14_method_7_code 23 = .ok (.aload_n 1, 1) := by decide +kernel
theorem d_M_prepare_24 : decode prog_14_method_7_code 24 = .ok (.iload_n 3, 1) := by decide +kernel
theorem d_M_prepare_25 : decode prog_14_method_7_code 25 = .ok (.iload 4, 2) := by decide +kernel
theorem d_M_prepare_27 : decode prog_14_method_7_code 27 = .ok (.iadd, 1) := by decide +kernel
theorem d_M_prepare_28 : decode prog_14_method_7_code 28 = .ok (.sipush 1024, 3) := by decide +kernel
theorem d_M_prepare_31 : decode prog_14_method_7_code 31 = .ok (.iastore, 1) := by decide +kernel
theorem d_M_prepare_32 : decode prog_14_method_7_code 32 = .ok (.iinc 4 1, 3) := by decide +kernel
theorem d_M_prepare_35 : decode prog_14_method_7_code 35 = .ok (.goto (-19), 3) := by decide +kernel
theorem d_M_prepare_38 : decode prog_14_method_7_code 38 = .ok (.return_, 1) := by decide +kernel
theorem d_M_prepare_39 : decode prog_14_method_7_code 39 = .ok (.iconst 0, 1) := by decide +kernel
theorem d_M_prepare_40 : decode prog_14_method_7_code 40 = .ok (.istore 4, 2) := by decide +kernel
theorem d_M_prepare_42 : decode prog_14_method_7_code 42 = .ok (.iload 4, 2) := by decide +kernel
theorem d_M_prepare_44 : decode prog_14_method_7_code 44 = .ok (.aload_n 0, 1) := by decide +kernel
theorem d_M_prepare_45 : decode prog_14_method_7_code 45 = .ok (.getfield 7, 3) := by decide +kernel
theorem d_M_prepare_48 : decode prog_14_method_7_code 48 = .ok (.iload_n 2, 1) := by decide +kernel
theorem d_M_prepare_49 : decode prog_14_method_7_code 49 = .ok (.iaload, 1) := by decide +kernel
theorem d_M_prepare_50 : decode prog_14_method_7_code 50 = .ok (.if_icmp .ge 24, 3) := by decide +kernel
theorem d_M_prepare_53 : decode prog_14_method_7_code 53 = .ok (.aload_n 1, 1) := by decide +kernel
theorem d_M_prepare_54 : decode prog_14_method_7_code 54 = .ok (.iload_n 3, 1) := by decide +kernel
theorem d_M_prepare_55 : decode prog_14_method_7_code 55 = .ok (.iload 4, 2) := by decide +kernel
theorem d_M_prepare_57 : decode prog_14_method_7_code 57 = .ok (.iadd, 1) := by decide +kernel
theorem d_M_prepare_58 : decode prog_14_method_7_code 58 = .ok (.aload_n 0, 1) := by decide +kernel
theorem d_M_prepare_59 : decode prog_14_method_7_code 59 = .ok (.getfield 13, 3) := by decide +kernel
theorem d_M_prepare_62 : decode prog_14_method_7_code 62 = .ok (.iload_n 3, 1) := by decide +kernel
theorem d_M_prepare_63 : decode prog_14_method_7_code 63 = .ok (.iload 4, 2) := by decide +kernel
theorem d_M_prepare_65 : decode prog_14_method_7_code 65 = .ok (.iadd, 1) := by decide +kernel
theorem d_M_prepare_66 : decode prog_14_method_7_code 66 = .ok (.iaload, 1) := by decide +kernel
theorem d_M_prepare_67 : decode prog_14_method_7_code 67 = .ok (.iastore, 1) := by decide +kernel
theorem d_M_prepare_68 : decode prog_14_method_7_code 68 = .ok (.iinc 4 1, 3) := by decide +kernel
theorem d_M_prepare_71 : decode prog_14_method_7_code 71 = .ok (.goto (-29), 3) := by decide +kernel
theorem d_M_prepare_74 : decode prog_14_method_7_code 74 = .ok (.aload_n 0, 1) := by decide +kernel
theorem d_M_prepare_75 : decode prog_14_method_7_code 75 = .ok (.getfield 46, 3) := by decide +kernel
theorem d_M_prepare_78 : decode prog_14_method_7_code 78 = .ok (.iconst 2, 1) := by decide +kernel
theorem d_M_prepare_79 : decode prog_14_method_7_code 79 = .ok (.if_icmp .ge 12, 3) := by decide +kernel
theorem d_M_prepare_82 : decode prog_14_method_7_code 82 = .ok (.aload_n 0, 1) := by decide +kernel
theorem d_M_prepare_83 : decode prog_14_method_7_code 83 = .ok (.aload_n 1, 1) := by decide +kernel
theorem d_M_prepare_84 : decode prog_14_method_7_code 84 = .ok (.iload_n 2, 1) := by decide +kernel
theorem d_M_prepare_85 : decode prog_14_method_7_code 85 = .ok (.invokevirtual 69, 3) := by decide +kernel
theorem d_M_prepare_88 : decode prog_14_method_7_code 88 = .ok (.goto 26, 3) := by decide +kernel
theorem d_M_prepare_91 : decode prog_14_method_7_code 91 = .ok (.aload_n 0, 1) := by decide +kernel
theorem d_M_prepare_92 : decode prog_14_method_7_code 92 = .ok (.aload_n 1, 1) := by decide +kernel
theorem d_M_prepare_93 : decode prog_14_method_7_code 93 = .ok (.iload_n 2, 1) := by decide +kernel
theorem d_M_prepare_94 : decode prog_14_method_7_code 94 = .ok (.aload_n 0, 1) := by decide +kernel
theorem d_M_prepare_95 : decode prog_14_method_7_code 95 = .ok (.getfield 46, 3) := by decide +kernel
theorem d_M_prepare_98 : decode prog_14_method_7_code 98 = .ok (.iconst 3, 1) := by decide +kernel
theorem d_M_prepare_99 : decode prog_14_method_7_code 99 = .ok (.if_icmp .ne 9, 3) := by decide +kernel
theorem d_M_prepare_102 : decode prog_14_method_7_code 102 = .ok (.sipush 4096, 3) := by decide +kernel
theorem d_M_prepare_105 : decode prog_14_method_7_code 105 = .ok (.goto 6, 3) := by decide +kernel
theorem d_M_prepare_108 : decode prog_14_method_7_code 108 = .ok (.sipush 512, 3) := by decide +kernel
theorem d_M_prepare_111 : decode prog_14_method_7_code 111 = .ok (.invokevirtual 73, 3) := by decide +kernel
theorem d_M_prepare_114 : decode prog_14_method_7_code 114 = .ok (.return_, 1) := by decide +kernel
theorem d_M_lessen_0 : decode prog_14_method_10_code 0 = .ok (.aload_n 0, 1) := by decide +kernel
theorem d_M_lessen_1 : decode prog_14_method_10_code 1 = .ok (.aload_n 1, 1) := by decide +kernel
theorem d_M_lessen_2 : decode prog_14_method_10_code 2 = .ok (.iload_n 2, 1) := by decide +kernel
theorem d_M_lessen_3 : decode prog_14_method_10_code 3 = .ok (.invokevirtual 77, 3) := by decide +kernel
theorem d_M_lessen_6 : decode prog_14_method_10_code 6 = .ok (.sipush 8192, 3) := by decide +kernel
theorem d_M_lessen_9 : decode prog_14_method_10_code 9 = .ok (.if_icmp .le 12, 3) := by decide +kernel
theorem d_M_lessen_12 : decode prog_14_method_10_code 12 = .ok (.aload_n 0, 1) := by decide +kernel
theorem d_M_lessen_13 : decode prog_14_method_10_code 13 = .ok (.aload_n 1, 1) := by decide +kernel
theorem d_M_lessen_14 : decode prog_14_method_10_code 14 = .ok (.iload_n 2, 1) := by decide +kernel
theorem d_M_lessen_15 : decode prog_14_method_10_code 15 = .ok (.invokevirtual 81, 3) := by decide +kernel
theorem d_M_lessen_18 : decode prog_14_method_10_code 18 = .ok (.goto (-18), 3) := by decide +kernel
theorem d_M_lessen_21 : decode prog_14_method_10_code 21 = .ok (.return_, 1) := by decide +kernel
theorem d_M_sum_0 : decode prog_14_method_8_code 0 = .ok (.iconst 0, 1) := by decide +kernel
theorem d_M_sum_1 : decode prog_14_method_8_code 1 = .ok (.istore_n 3, 1) := by decide +kernel
theorem d_M_sum_2 : decode prog_14_method_8_code 2 = .ok (.iconst 0, 1) := by decide +kernel
theorem d_M_sum_3 : decode prog_14_method_8_code 3 = .ok (.istore 4, 2) := by decide +kernel
theorem d_M_sum_5 : decode prog_14_method_8_code 5 = .ok (.iload 4, 2) := by decide +kernel
theorem d_M_sum_7 : decode prog_14_method_8_code 7 = .ok (.aload_n 0, 1) := by decide +kernel
theorem d_M_sum_8 : decode prog_14_method_8_code 8 = .ok (.getfield 7, 3) := by decide +kernel
theorem d_M_sum_11 : decode prog_14_method_8_code 11 = .ok (.iload_n 2, 1) := by decide +kernel
theorem d_M_sum_12 : decode prog_14_method_8_code 12 = .ok (.iaload, 1) := by decide +kernel
theorem d_M_sum_13 : decode prog_14_method_8_code 13 = .ok (.if_icmp .ge 21, 3) := by decide +kernel
theorem d_M_sum_16 : decode prog_14_method_8_code 16 = .ok (.iload_n 3, 1) := by decide +kernel
theorem d_M_sum_17 : decode prog_14_method_8_code 17 = .ok (.aload_n 1, 1) := by decide +kernel
theorem d_M_sum_18 : decode prog_14_method_8_code 18 = .ok (.bipush 64, 2) := by decide +kernel
theorem d_M_sum_20 : decode prog_14_method_8_code 20 = .ok (.iload_n 2, 1) := by decide +kernel
theorem d_M_sum_21 : decode prog_14_method_8_code 21 = .ok (.imul, 1) := by decide +kernel
theorem d_M_sum_22 : decode prog_14_method_8_code 22 = .ok (.iload 4, 2) := by decide +kernel
theorem d_M_sum_24 : decode prog_14_method_8_code 24 = .ok (.iadd, 1) := by decide +kernel
theorem d_M_sum_25 : decode prog_14_method_8_code 25 = .ok (.iaload, 1) := by decide +kernel
theorem d_M_sum_26 : decode prog_14_method_8_code 26 = .ok (.iadd, 1) := by decide +kernel
theorem d_M_sum_27 : decode prog_14_method_8_code 27 = .ok (.istore_n 3, 1) := by decide +kernel
theorem d_M_sum_28 : decode prog_14_method_8_code 28 = .ok (.iinc 4 1, 3) := by decide +kernel
theorem d_M_sum_31 : decode prog_14_method_8_code 31 = .ok (.goto (-26), 3) := by decide +kernel
theorem d_M_sum_34 : decode prog_14_method_8_code 34 = .ok (.iload_n 3, 1) := by decide +kernel
theorem d_M_sum_35 : decode prog_14_method_8_code 35 = .ok (.ireturn, 1) := by decide +kernel
theorem d_M_halve_0 : decode prog_14_method_9_code 0 = .ok (.iconst 0, 1) := by decide +kernel
theorem d_M_halve_1 : decode prog_14_method_9_code 1 = .ok (.istore_n 3, 1) := by decide +kernel
theorem d_M_halve_2 : decode prog_14_method_9_code 2 = .ok (.iload_n 3, 1) := by decide +kernel
theorem d_M_halve_3 : decode prog_14_method_9_code 3 = .ok (.aload_n 0, 1) := by decide +kernel
theorem d_M_halve_4 : decode prog_14_method_9_code 4 = .ok (.getfield 7, 3) := by decide +kernel
theorem d_M_halve_7 : decode prog_14_method_9_code 7 = .ok (.iload_n 2, 1) := by decide +kernel
theorem d_M_halve_8 : decode prog_14_method_9_code 8 = .ok (.iaload, 1) := by decide +kernel
theorem d_M_halve_9 : decode prog_14_method_9_code 9 = .ok (.if_icmp .ge 29, 3) := by decide +kernel
theorem d_M_halve_12 : decode prog_14_method_9_code 12 = .ok (.aload_n 1, 1) := by decide +kernel
theorem d_M_halve_13 : decode prog_14_method_9_code 13 = .ok (.bipush 64, 2) := by decide +kernel
theorem d_M_halve_15 : decode prog_14_method_9_code 15 = .ok (.iload_n 2, 1) := by decide +kernel
theorem d_M_halve_16 : decode prog_14_method_9_code 16 = .ok (.imul, 1) := by decide +kernel
theorem d_M_halve_17 : decode prog_14_method_9_code 17 = .ok (.iload_n 3, 1) := by decide +kernel
theorem d_M_halve_18 : decode prog_14_method_9_code 18 = .ok (.iadd, 1) := by decide +kernel
theorem d_M_halve_19 : decode prog_14_method_9_code 19 = .ok (.aload_n 1, 1) := by decide +kernel
theorem d_M_halve_20 : decode prog_14_method_9_code 20 = .ok (.bipush 64, 2) := by decide +kernel
theorem d_M_halve_22 : decode prog_14_method_9_code 22 = .ok (.iload_n 2, 1) := by decide +kernel
theorem d_M_halve_23 : decode prog_14_method_9_code 23 = .ok (.imul, 1) := by decide +kernel
theorem d_M_halve_24 : decode prog_14_method_9_code 24 = .ok (.iload_n 3, 1) := by decide +kernel
theorem d_M_halve_25 : decode prog_14_method_9_code 25 = .ok (.iadd, 1) := by decide +kernel
theorem d_M_halve_26 : decode prog_14_method_9_code 26 = .ok (.iaload, 1) := by decide +kernel
theorem d_M_halve_27 : decode prog_14_method_9_code 27 = .ok (.iconst 1, 1) := by decide +kernel
theorem d_M_halve_28 : decode prog_14_method_9_code 28 = .ok (.iadd, 1) := by decide +kernel
theorem d_M_halve_29 : decode prog_14_method_9_code 29 = .ok (.iconst 2, 1) := by decide +kernel
theorem d_M_halve_30 : decode prog_14_method_9_code 30 = .ok (.idiv, 1) := by decide +kernel
theorem d_M_halve_31 : decode prog_14_method_9_code 31 = .ok (.iastore, 1) := by decide +kernel
theorem d_M_halve_32 : decode prog_14_method_9_code 32 = .ok (.iinc 3 1, 3) := by decide +kernel
theorem d_M_halve_35 : decode prog_14_method_9_code 35 = .ok (.goto (-33), 3) := by decide +kernel
theorem d_M_halve_38 : decode prog_14_method_9_code 38 = .ok (.return_, 1) := by decide +kernel
theorem d_M_scale_0 : decode prog_14_method_12_code 0 = .ok (.aload_n 0, 1) := by decide +kernel
theorem d_M_scale_1 : decode prog_14_method_12_code 1 = .ok (.aload_n 1, 1) := by decide +kernel
theorem d_M_scale_2 : decode prog_14_method_12_code 2 = .ok (.iload_n 2, 1) := by decide +kernel
theorem d_M_scale_3 : decode prog_14_method_12_code 3 = .ok (.invokevirtual 77, 3) := by decide +kernel
theorem d_M_scale_6 : decode prog_14_method_12_code 6 = .ok (.istore 4, 2) := by decide +kernel
theorem d_M_scale_8 : decode prog_14_method_12_code 8 = .ok (.iload 4, 2) := by decide +kernel
theorem d_M_scale_10 : decode prog_14_method_12_code 10 = .ok (.ifCond .ne 4, 3) := by decide +kernel
theorem d_M_scale_13 : decode prog_14_method_12_code 13 = .ok (.return_, 1) := by decide +kernel
theorem d_M_scale_14 : decode prog_14_method_12_code 14 = .ok (.iconst 0, 1) := by decide +kernel
theorem d_M_scale_15 : decode prog_14_method_12_code 15 = .ok (.istore 5, 2) := by decide +kernel
theorem d_M_scale_17 : decode prog_14_method_12_code 17 = .ok (.iload 5, 2) := by decide +kernel
theorem d_M_scale_19 : decode prog_14_method_12_code 19 = .ok (.aload_n 0, 1) := by decide +kernel
theorem d_M_scale_20 : decode prog_14_method_12_code 20 = .ok (.getfield 7, 3) := by decide +kernel
theorem d_M_scale_23 : decode prog_14_method_12_code 23 = .ok (.iload_n 2, 1) := by decide +kernel
theorem d_M_scale_24 : decode prog_14_method_12_code 24 = .ok (.iaload, 1) := by decide +kernel
theorem d_M_scale_25 : decode prog_14_method_12_code 25 = .ok (.if_icmp .ge 59, 3) := by decide +kernel
theorem d_M_scale_28 : decode prog_14_method_12_code 28 = .ok (.aload_n 1, 1) := by decide +kernel
theorem d_M_scale_29 : decode prog_14_method_12_code 29 = .ok (.bipush 64, 2) := by decide +kernel
theorem d_M_scale_31 : decode prog_14_method_12_code 31 = .ok (.iload_n 2, 1) := by decide +kernel
theorem d_M_scale_32 : decode prog_14_method_12_code 32 = .ok (.imul, 1) := by decide +kernel
theorem d_M_scale_33 : decode prog_14_method_12_code 33 = .ok (.iload 5, 2) := by decide +kernel
theorem d_M_scale_35 : decode prog_14_method_12_code 35 = .ok (.iadd, 1) := by decide +kernel
theorem d_M_scale_36 : decode prog_14_method_12_code 36 = .ok (.iaload, 1) := by decide +kernel
theorem d_M_scale_37 : decode prog_14_method_12_code 37 = .ok (.istore 6, 2) := by decide +kernel
theorem d_M_scale_39 : decode prog_14_method_12_code 39 = .ok (.iload 6, 2) := by decide +kernel
theorem d_M_scale_41 : decode prog_14_method_12_code 41 = .ok (.iload_n 3, 1) := by decide +kernel
theorem d_M_scale_42 : decode prog_14_method_12_code 42 = .ok (.imul, 1) := by decide +kernel
theorem d_M_scale_43 : decode prog_14_method_12_code 43 = .ok (.iload 4, 2) := by decide +kernel
theorem d_M_scale_45 : decode prog_14_method_12_code 45 = .ok (.idiv, 1) := by decide +kernel
theorem d_M_scale_46 : decode prog_14_method_12_code 46 = .ok (.istore 7, 2) := by decide +kernel
theorem d_M_scale_48 : decode prog_14_method_12_code 48 = .ok (.aload_n 1, 1) := by decide +kernel
theorem d_M_scale_49 : decode prog_14_method_12_code 49 = .ok (.bipush 64, 2) := by decide +kernel
theorem d_M_scale_51 : decode prog_14_method_12_code 51 = .ok (.iload_n 2, 1) := by decide +kernel
theorem d_M_scale_52 : decode prog_14_method_12_code 52 = .ok (.imul, 1) := by decide +kernel
theorem d_M_scale_53 : decode prog_14_method_12_code 53 = .ok (.iload 5, 2) := by decide +kernel
theorem d_M_scale_55 : decode prog_14_method_12_code 55 = .ok (.iadd, 1) := by decide +kernel
theorem d_M_scale_56 : decode prog_14_method_12_code 56 = .ok (.iload 6, 2) := by decide +kernel
theorem d_M_scale_58 : decode prog_14_method_12_code 58 = .ok (.ifCond .ne 7, 3) := by decide +kernel
theorem d_M_scale_61 : decode prog_14_method_12_code 61 = .ok (.iconst 0, 1) := by decide +kernel
theorem d_M_scale_62 : decode prog_14_method_12_code 62 = .ok (.goto 15, 3) := by decide +kernel
theorem d_M_scale_65 : decode prog_14_method_12_code 65 = .ok (.iload 7, 2) := by decide +kernel
theorem d_M_scale_67 : decode prog_14_method_12_code 67 = .ok (.iconst 1, 1) := by decide +kernel
theorem d_M_scale_68 : decode prog_14_method_12_code 68 = .ok (.if_icmp .ge 7, 3) := by decide +kernel
theorem d_M_scale_71 : decode prog_14_method_12_code 71 = .ok (.iconst 1, 1) := by decide +kernel
theorem d_M_scale_72 : decode prog_14_method_12_code 72 = .ok (.goto 5, 3) := by decide +kernel
theorem d_M_scale_75 : decode prog_14_method_12_code 75 = .ok (.iload 7, 2) := by decide +kernel
theorem d_M_scale_77 : decode prog_14_method_12_code 77 = .ok (.iastore, 1) := by decide +kernel
theorem d_M_scale_78 : decode prog_14_method_12_code 78 = .ok (.iinc 5 1, 3) := by decide +kernel
theorem d_M_scale_81 : decode prog_14_method_12_code 81 = .ok (.goto (-64), 3) := by decide +kernel
theorem d_M_scale_84 : decode prog_14_method_12_code 84 = .ok (.aload_n 0, 1) := by decide +kernel
theorem d_M_scale_85 : decode prog_14_method_12_code 85 = .ok (.aload_n 1, 1) := by decide +kernel
theorem d_M_scale_86 : decode prog_14_method_12_code 86 = .ok (.iload_n 2, 1) := by decide +kernel
theorem d_M_scale_87 : decode prog_14_method_12_code 87 = .ok (.invokevirtual 77, 3) := by decide +kernel
theorem d_M_scale_90 : decode prog_14_method_12_code 90 = .ok (.iload_n 3, 1) := by decide +kernel
theorem d_M_scale_91 : decode prog_14_method_12_code 91 = .ok (.if_icmp .le 24, 3) := by decide +kernel
theorem d_M_scale_94 : decode prog_14_method_12_code 94 = .ok (.aload_n 0, 1) := by decide +kernel
theorem d_M_scale_95 : decode prog_14_method_12_code 95 = .ok (.aload_n 1, 1) := by decide +kernel
theorem d_M_scale_96 : decode prog_14_method_12_code 96 = .ok (.iload_n 2, 1) := by decide +kernel
theorem d_M_scale_97 : decode prog_14_method_12_code 97 = .ok (.invokevirtual 84, 3) := by decide +kernel
theorem d_M_scale_100 : decode prog_14_method_12_code 100 = .ok (.istore 5, 2) := by decide +kernel
theorem d_M_scale_102 : decode prog_14_method_12_code 102 = .ok (.aload_n 1, 1) := by decide +kernel
theorem d_M_scale_103 : decode prog_14_method_12_code 103 = .ok (.iload 5, 2) := by decide +kernel
theorem d_M_scale_105 : decode prog_14_method_12_code 105 = .ok (.aload_n 1, 1) := by decide +kernel
theorem d_M_scale_106 : decode prog_14_method_12_code 106 = .ok (.iload 5, 2) := by decide +kernel
theorem d_M_scale_108 : decode prog_14_method_12_code 108 = .ok (.iaload, 1) := by decide +kernel
theorem d_M_scale_109 : decode prog_14_method_12_code 109 = .ok (.iconst 1, 1) := by decide +kernel
theorem d_M_scale_110 : decode prog_14_method_12_code 110 = .ok (.isub, 1) := by decide +kernel
theorem d_M_scale_111 : decode prog_14_method_12_code 111 = .ok (.iastore, 1) := by decide +kernel
theorem d_M_scale_112 : decode prog_14_method_12_code 112 = .ok (.goto (-28), 3) := by decide +kernel
theorem d_M_scale_115 : decode prog_14_method_12_code 115 = .ok (.iload_n 3, 1) := by decide +kernel
theorem d_M_scale_116 : decode prog_14_method_12_code 116 = .ok (.aload_n 0, 1) := by decide +kernel
theorem d_M_scale_117 : decode prog_14_method_12_code 117 = .ok (.aload_n 1, 1) := by decide +kernel
theorem d_M_scale_118 : decode prog_14_method_12_code 118 = .ok (.iload_n 2, 1) := by decide +kernel
theorem d_M_scale_119 : decode prog_14_method_12_code 119 = .ok (.invokevirtual 77, 3) := by decide +kernel
theorem d_M_scale_122 : decode prog_14_method_12_code 122 = .ok (.isub, 1) := by decide +kernel
theorem d_M_scale_123 : decode prog_14_method_12_code 123 = .ok (.istore 5, 2) := by decide +kernel
theorem d_M_scale_125 : decode prog_14_method_12_code 125 = .ok (.aload_n 0, 1) := by decide +kernel
theorem d_M_scale_126 : decode prog_14_method_12_code 126 = .ok (.aload_n 1, 1) := by decide +kernel
theorem d_M_scale_127 : decode prog_14_method_12_code 127 = .ok (.iload_n 2, 1) := by decide +kernel
theorem d_M_scale_128 : decode prog_14_method_12_code 128 = .ok (.invokevirtual 84, 3) := by decide +kernel
theorem d_M_scale_131 : decode prog_14_method_12_code 131 = .ok (.istore 6, 2) := by decide +kernel
theorem d_M_scale_133 : decode prog_14_method_12_code 133 = .ok (.aload_n 1, 1) := by decide +kernel
theorem d_M_scale_134 : decode prog_14_method_12_code 134 = .ok (.iload 6, 2) := by decide +kernel
theorem d_M_scale_136 : decode prog_14_method_12_code 136 = .ok (.aload_n 1, 1) := by decide +kernel
theorem d_M_scale_137 : decode prog_14_method_12_code 137 = .ok (.iload 6, 2) := by decide +kernel
theorem d_M_scale_139 : decode prog_14_method_12_code 139 = .ok (.iaload, 1) := by decide +kernel
theorem d_M_scale_140 : decode prog_14_method_12_code 140 = .ok (.iload 5, 2) := by decide +kernel
theorem d_M_scale_142 : decode prog_14_method_12_code 142 = .ok (.iadd, 1) := by decide +kernel
theorem d_M_scale_143 : decode prog_14_method_12_code 143 = .ok (.iastore, 1) := by decide +kernel
theorem d_M_scale_144 : decode prog_14_method_12_code 144 = .ok (.return_, 1) := by decide +kernel
theorem d_M_greatest_0 : decode prog_14_method_11_code 0 = .ok (.iconst 0, 1) := by decide +kernel
theorem d_M_greatest_1 : decode prog_14_method_11_code 1 = .ok (.istore_n 3, 1) := by decide +kernel
theorem d_M_greatest_2 : decode prog_14_method_11_code 2 = .ok (.iconst 1, 1) := by decide +kernel
theorem d_M_greatest_3 : decode prog_14_method_11_code 3 = .ok (.istore 4, 2) := by decide +kernel
theorem d_M_greatest_5 : decode prog_14_method_11_code 5 = .ok (.iload 4, 2) := by decide +kernel
theorem d_M_greatest_7 : decode prog_14_method_11_code 7 = .ok (.aload_n 0, 1) := by decide +kernel
theorem d_M_greatest_8 : decode prog_14_method_11_code 8 = .ok (.getfield 7, 3) := by decide +kernel
theorem d_M_greatest_11 : decode prog_14_method_11_code 11 = .ok (.iload_n 2, 1) := by decide +kernel
theorem d_M_greatest_12 : decode prog_14_method_11_code 12 = .ok (.iaload, 1) := by decide +kernel
theorem d_M_greatest_13 : decode prog_14_method_11_code 13 = .ok (.if_icmp .ge 36, 3) := by decide +kernel
theorem d_M_greatest_16 : decode prog_14_method_11_code 16 = .ok (.aload_n 1, 1) := by decide +kernel
theorem d_M_greatest_17 : decode prog_14_method_11_code 17 = .ok (.bipush 64, 2) := by decide +kernel
theorem d_M_greatest_19 : decode prog_14_method_11_code 19 = .ok (.iload_n 2, 1) := by decide +kernel
theorem d_M_greatest_20 : decode prog_14_method_11_code 20 = .ok (.imul, 1) := by decide +kernel
theorem d_M_greatest_21 : decode prog_14_method_11_code 21 = .ok (.iload 4, 2) := by decide +kernel
theorem d_M_greatest_23 : decode prog_14_method_11_code 23 = .ok (.iadd, 1) := by decide +kernel
theorem d_M_greatest_24 : decode prog_14_method_11_code 24 = .ok (.iaload, 1) := by decide +kernel
theorem d_M_greatest_25 : decode prog_14_method_11_code 25 = .ok (.aload_n 1, 1) := by decide +kernel
theorem d_M_greatest_26 : decode prog_14_method_11_code 26 = .ok (.bipush 64, 2) := by decide +kernel
theorem d_M_greatest_28 : decode prog_14_method_11_code 28 = .ok (.iload_n 2, 1) := by decide +kernel
theorem d_M_greatest_29 : decode prog_14_method_11_code 29 = .ok (.imul, 1) := by decide +kernel
theorem d_M_greatest_30 : decode prog_14_method_11_code 30 = .ok (.iload_n 3, 1) := by decide +kernel
theorem d_M_greatest_31 : decode prog_14_method_11_code 31 = .ok (.iadd, 1) := by decide +kernel
theorem d_M_greatest_32 : decode prog_14_method_11_code 32 = .ok (.iaload, 1) := by decide +kernel
theorem d_M_greatest_33 : decode prog_14_method_11_code 33 = .ok (.if_icmp .le 8, 3) := by decide +kernel
theorem d_M_greatest_36 : decode prog_14_method_11_code 36 = .ok (.iload 4, 2) := by decide +kernel
theorem d_M_greatest_38 : decode prog_14_method_11_code 38 = .ok (.goto 4, 3) := by decide +kernel
theorem d_M_greatest_41 : decode prog_14_method_11_code 41 = .ok (.iload_n 3, 1) := by decide +kernel
theorem d_M_greatest_42 : decode prog_14_method_11_code 42 = .ok (.istore_n 3, 1) := by decide +kernel
theorem d_M_greatest_43 : decode prog_14_method_11_code 43 = .ok (.iinc 4 1, 3) := by decide +kernel
theorem d_M_greatest_46 : decode prog_14_method_11_code 46 = .ok (.goto (-41), 3) := by decide +kernel
theorem d_M_greatest_49 : decode prog_14_method_11_code 49 = .ok (.bipush 64, 2) := by decide +kernel
theorem d_M_greatest_51 : decode prog_14_method_11_code 51 = .ok (.iload_n 2, 1) := by decide +kernel
theorem d_M_greatest_52 : decode prog_14_method_11_code 52 = .ok (.imul, 1) := by decide +kernel
theorem d_M_greatest_53 : decode prog_14_method_11_code 53 = .ok (.iload_n 3, 1) := by decide +kernel
theorem d_M_greatest_54 : decode prog_14_method_11_code 54 = .ok (.iadd, 1) := by decide +kernel
theorem d_M_greatest_55 : decode prog_14_method_11_code 55 = .ok (.ireturn, 1) := by decide +kernel
theorem d_M_model_0 : decode prog_14_method_13_code 0 = .ok (.aload_n 0, 1) := by decide +kernel
theorem d_M_model_1 : decode prog_14_method_13_code 1 = .ok (.iconst 0, 1) := by decide +kernel
theorem d_M_model_2 : decode prog_14_method_13_code 2 = .ok (.putfield 56, 3) := by decide +kernel
theorem d_M_model_5 : decode prog_14_method_13_code 5 = .ok (.iload_n 1, 1) := by decide +kernel
theorem d_M_model_6 : decode prog_14_method_13_code 6 = .ok (.iconst 2, 1) := by decide +kernel
theorem d_M_model_7 : decode prog_14_method_13_code 7 = .ok (.bipush 64, 2) := by decide +kernel
theorem d_M_model_9 : decode prog_14_method_13_code 9 = .ok (.invokestatic 62, 3) := by decide +kernel
theorem d_M_model_12 : decode prog_14_method_13_code 12 = .ok (.ifCond .ne 6, 3) := by decide +kernel
theorem d_M_model_15 : decode prog_14_method_13_code 15 = .ok (.bipush (-2), 2) := by decide +kernel
theorem d_M_model_17 : decode prog_14_method_13_code 17 = .ok (.ireturn, 1) := by decide +kernel
theorem d_M_model_18 : decode prog_14_method_13_code 18 = .ok (.aload_n 0, 1) := by decide +kernel
theorem d_M_model_19 : decode prog_14_method_13_code 19 = .ok (.getfield 59, 3) := by decide +kernel
theorem d_M_model_22 : decode prog_14_method_13_code 22 = .ok (.bipush 8, 2) := by decide +kernel
theorem d_M_model_24 : decode prog_14_method_13_code 24 = .ok (.if_icmp .ne 6, 3) := by decide +kernel
theorem d_M_model_27 : decode prog_14_method_13_code 27 = .ok (.bipush (-4), 2) := by decide +kernel
theorem d_M_model_29 : decode prog_14_method_13_code 29 = .ok (.ireturn, 1) := by decide +kernel
theorem d_M_model_30 : decode prog_14_method_13_code 30 = .ok (.aload_n 0, 1) := by decide +kernel
theorem d_M_model_31 : decode prog_14_method_13_code 31 = .ok (.getfield 59, 3) := by decide +kernel
theorem d_M_model_34 : decode prog_14_method_13_code 34 = .ok (.istore_n 2, 1) := by decide +kernel
theorem d_M_model_35 : decode prog_14_method_13_code 35 = .ok (.aload_n 0, 1) := by decide +kernel
theorem d_M_model_36 : decode prog_14_method_13_code 36 = .ok (.dup, 1) := by decide +kernel
theorem d_M_model_37 : decode prog_14_method_13_code 37 = .ok (.getfield 59, 3) := by decide +kernel
theorem d_M_model_40 : decode prog_14_method_13_code 40 = .ok (.iconst 1, 1) := by decide +kernel
theorem d_M_model_41 : decode prog_14_method_13_code 41 = .ok (.iadd, 1) := by decide +kernel
theorem d_M_model_42 : decode prog_14_method_13_code 42 = .ok (.putfield 59, 3) := by decide +kernel
theorem d_M_model_45 : decode prog_14_method_13_code 45 = .ok (.aload_n 0, 1) := by decide +kernel
theorem d_M_model_46 : decode prog_14_method_13_code 46 = .ok (.getfield 7, 3) := by decide +kernel
theorem d_M_model_49 : decode prog_14_method_13_code 49 = .ok (.iload_n 2, 1) := by decide +kernel
theorem d_M_model_50 : decode prog_14_method_13_code 50 = .ok (.iload_n 1, 1) := by decide +kernel
theorem d_M_model_51 : decode prog_14_method_13_code 51 = .ok (.iastore, 1) := by decide +kernel
theorem d_M_model_52 : decode prog_14_method_13_code 52 = .ok (.iconst 0, 1) := by decide +kernel
theorem d_M_model_53 : decode prog_14_method_13_code 53 = .ok (.istore_n 3, 1) := by decide +kernel
theorem d_M_model_54 : decode prog_14_method_13_code 54 = .ok (.iload_n 3, 1) := by decide +kernel
theorem d_M_model_55 : decode prog_14_method_13_code 55 = .ok (.iload_n 1, 1) := by decide +kernel
theorem d_M_model_56 : decode prog_14_method_13_code 56 = .ok (.if_icmp .ge 21, 3) := by decide +kernel
theorem d_M_model_59 : decode prog_14_method_13_code 59 = .ok (.aload_n 0, 1) := by decide +kernel
theorem d_M_model_60 : decode prog_14_method_13_code 60 = .ok (.getfield 13, 3) := by decide +kernel
theorem d_M_model_63 : decode prog_14_method_13_code 63 = .ok (.bipush 64, 2) := by decide +kernel
theorem d_M_model_65 : decode prog_14_method_13_code 65 = .ok (.iload_n 2, 1) := by decide +kernel
theorem d_M_model_66 : decode prog_14_method_13_code 66 = .ok (.imul, 1) := by decide +kernel
theorem d_M_model_67 : decode prog_14_method_13_code 67 = .ok (.iload_n 3, 1) := by decide +kernel
theorem d_M_model_68 : decode prog_14_method_13_code 68 = .ok (.iadd, 1) := by decide +kernel
theorem d_M_model_69 : decode prog_14_method_13_code 69 = .ok (.iconst 1, 1) := by decide +kernel
theorem d_M_model_70 : decode prog_14_method_13_code 70 = .ok (.iastore, 1) := by decide +kernel
theorem d_M_model_71 : decode prog_14_method_13_code 71 = .ok (.iinc 3 1, 3) := by decide +kernel
theorem d_M_model_74 : decode prog_14_method_13_code 74 = .ok (.goto (-20), 3) := by decide +kernel
theorem d_M_model_77 : decode prog_14_method_13_code 77 = .ok (.aload_n 0, 1) := by decide +kernel
theorem d_M_model_78 : decode prog_14_method_13_code 78 = .ok (.aload_n 0, 1) := by decide +kernel
theorem d_M_model_79 : decode prog_14_method_13_code 79 = .ok (.getfield 16, 3) := by decide +kernel
theorem d_M_model_82 : decode prog_14_method_13_code 82 = .ok (.iload_n 2, 1) := by decide +kernel
theorem d_M_model_83 : decode prog_14_method_13_code 83 = .ok (.invokevirtual 87, 3) := by decide +kernel
theorem d_M_model_86 : decode prog_14_method_13_code 86 = .ok (.aload_n 0, 1) := by decide +kernel
theorem d_M_model_87 : decode prog_14_method_13_code 87 = .ok (.aload_n 0, 1) := by decide +kernel
theorem d_M_model_88 : decode prog_14_method_13_code 88 = .ok (.getfield 19, 3) := by decide +kernel
theorem d_M_model_91 : decode prog_14_method_13_code 91 = .ok (.iload_n 2, 1) := by decide +kernel
theorem d_M_model_92 : decode prog_14_method_13_code 92 = .ok (.invokevirtual 87, 3) := by decide +kernel
theorem d_M_model_95 : decode prog_14_method_13_code 95 = .ok (.iload_n 2, 1) := by decide +kernel
theorem d_M_model_96 : decode prog_14_method_13_code 96 = .ok (.ireturn, 1) := by decide +kernel
theorem d_M_in_0 : decode prog_14_method_3_code 0 = .ok (.iload_n 0, 1) := by decide +kernel
theorem d_M_in_1 : decode prog_14_method_3_code 1 = .ok (.iload_n 1, 1) := by decide +kernel
theorem d_M_in_2 : decode prog_14_method_3_code 2 = .ok (.if_icmp .lt 12, 3) := by decide +kernel
theorem d_M_in_5 : decode prog_14_method_3_code 5 = .ok (.iload_n 0, 1) := by decide +kernel
theorem d_M_in_6 : decode prog_14_method_3_code 6 = .ok (.iload_n 2, 1) := by decide +kernel
theorem d_M_in_7 : decode prog_14_method_3_code 7 = .ok (.if_icmp .gt 7, 3) := by decide +kernel
theorem d_M_in_10 : decode prog_14_method_3_code 10 = .ok (.iconst 1, 1) := by decide +kernel
theorem d_M_in_11 : decode prog_14_method_3_code 11 = .ok (.goto 4, 3) := by decide +kernel
theorem d_M_in_14 : decode prog_14_method_3_code 14 = .ok (.iconst 0, 1) := by decide +kernel
theorem d_M_in_15 : decode prog_14_method_3_code 15 = .ok (.ireturn, 1) := by decide +kernel
theorem d_M_count_0 : decode prog_14_method_14_code 0 = .ok (.aload_n 0, 1) := by decide +kernel
theorem d_M_count_1 : decode prog_14_method_14_code 1 = .ok (.iconst 0, 1) := by decide +kernel
theorem d_M_count_2 : decode prog_14_method_14_code 2 = .ok (.putfield 56, 3) := by decide +kernel
theorem d_M_count_5 : decode prog_14_method_14_code 5 = .ok (.aload_n 0, 1) := by decide +kernel
theorem d_M_count_6 : decode prog_14_method_14_code 6 = .ok (.iload_n 1, 1) := by decide +kernel
theorem d_M_count_7 : decode prog_14_method_14_code 7 = .ok (.iload_n 2, 1) := by decide +kernel
theorem d_M_count_8 : decode prog_14_method_14_code 8 = .ok (.invokevirtual 90, 3) := by decide +kernel
theorem d_M_count_11 : decode prog_14_method_14_code 11 = .ok (.ifCond .ne 5, 3) := by decide +kernel
theorem d_M_count_14 : decode prog_14_method_14_code 14 = .ok (.iconst (-1), 1) := by decide +kernel
theorem d_M_count_15 : decode prog_14_method_14_code 15 = .ok (.ireturn, 1) := by decide +kernel
theorem d_M_count_16 : decode prog_14_method_14_code 16 = .ok (.iload_n 3, 1) := by decide +kernel
theorem d_M_count_17 : decode prog_14_method_14_code 17 = .ok (.iconst 0, 1) := by decide +kernel
theorem d_M_count_18 : decode prog_14_method_14_code 18 = .ok (.sipush 4095, 3) := by decide +kernel
theorem d_M_count_21 : decode prog_14_method_14_code 21 = .ok (.invokestatic 62, 3) := by decide +kernel
theorem d_M_count_24 : decode prog_14_method_14_code 24 = .ok (.ifCond .ne 6, 3) := by decide +kernel
theorem d_M_count_27 : decode prog_14_method_14_code 27 = .ok (.bipush (-2), 2) := by decide +kernel
theorem d_M_count_29 : decode prog_14_method_14_code 29 = .ok (.ireturn, 1) := by decide +kernel
theorem d_M_count_30 : decode prog_14_method_14_code 30 = .ok (.aload_n 0, 1) := by decide +kernel
theorem d_M_count_31 : decode prog_14_method_14_code 31 = .ok (.getfield 94, 3) := by decide +kernel
theorem d_M_count_34 : decode prog_14_method_14_code 34 = .ok (.ifCond .le 10, 3) := by decide +kernel
theorem d_M_count_37 : decode prog_14_method_14_code 37 = .ok (.aload_n 0, 1) := by decide +kernel
theorem d_M_count_38 : decode prog_14_method_14_code 38 = .ok (.getfield 97, 3) := by decide +kernel
theorem d_M_count_41 : decode prog_14_method_14_code 41 = .ok (.ifCond .eq 10, 3) := by decide +kernel
theorem d_M_count_44 : decode prog_14_method_14_code 44 = .ok (.aload_n 0, 1) := by decide +kernel
theorem d_M_count_45 : decode prog_14_method_14_code 45 = .ok (.getfield 101, 3) := by decide +kernel
theorem d_M_count_48 : decode prog_14_method_14_code 48 = .ok (.ifCond .eq 6, 3) := by decide +kernel
theorem d_M_count_51 : decode prog_14_method_14_code 51 = .ok (.bipush (-3), 2) := by decide +kernel
theorem d_M_count_53 : decode prog_14_method_14_code 53 = .ok (.ireturn, 1) := by decide +kernel
theorem d_M_count_54 : decode prog_14_method_14_code 54 = .ok (.aload_n 0, 1) := by decide +kernel
theorem d_M_count_55 : decode prog_14_method_14_code 55 = .ok (.getfield 13, 3) := by decide +kernel
theorem d_M_count_58 : decode prog_14_method_14_code 58 = .ok (.bipush 64, 2) := by decide +kernel
theorem d_M_count_60 : decode prog_14_method_14_code 60 = .ok (.iload_n 1, 1) := by decide +kernel
theorem d_M_count_61 : decode prog_14_method_14_code 61 = .ok (.imul, 1) := by decide +kernel
theorem d_M_count_62 : decode prog_14_method_14_code 62 = .ok (.iload_n 2, 1) := by decide +kernel
theorem d_M_count_63 : decode prog_14_method_14_code 63 = .ok (.iadd, 1) := by decide +kernel
theorem d_M_count_64 : decode prog_14_method_14_code 64 = .ok (.iaload, 1) := by decide +kernel
theorem d_M_count_65 : decode prog_14_method_14_code 65 = .ok (.istore 4, 2) := by decide +kernel
theorem d_M_count_67 : decode prog_14_method_14_code 67 = .ok (.aload_n 0, 1) := by decide +kernel
theorem d_M_count_68 : decode prog_14_method_14_code 68 = .ok (.getfield 13, 3) := by decide +kernel
theorem d_M_count_71 : decode prog_14_method_14_code 71 = .ok (.bipush 64, 2) := by decide +kernel
theorem d_M_count_73 : decode prog_14_method_14_code 73 = .ok (.iload_n 1, 1) := by decide +kernel
theorem d_M_count_74 : decode prog_14_method_14_code 74 = .ok (.imul, 1) := by decide +kernel
theorem d_M_count_75 : decode prog_14_method_14_code 75 = .ok (.iload_n 2, 1) := by decide +kernel
theorem d_M_count_76 : decode prog_14_method_14_code 76 = .ok (.iadd, 1) := by decide +kernel
theorem d_M_count_77 : decode prog_14_method_14_code 77 = .ok (.iload_n 3, 1) := by decide +kernel
theorem d_M_count_78 : decode prog_14_method_14_code 78 = .ok (.iastore, 1) := by decide +kernel
theorem d_M_count_79 : decode prog_14_method_14_code 79 = .ok (.aload_n 0, 1) := by decide +kernel
theorem d_M_count_80 : decode prog_14_method_14_code 80 = .ok (.getfield 97, 3) := by decide +kernel
theorem d_M_count_83 : decode prog_14_method_14_code 83 = .ok (.ifCond .ne 12, 3) := by decide +kernel
theorem d_M_count_86 : decode prog_14_method_14_code 86 = .ok (.aload_n 0, 1) := by decide +kernel
theorem d_M_count_87 : decode prog_14_method_14_code 87 = .ok (.aload_n 0, 1) := by decide +kernel
theorem d_M_count_88 : decode prog_14_method_14_code 88 = .ok (.getfield 16, 3) := by decide +kernel
theorem d_M_count_91 : decode prog_14_method_14_code 91 = .ok (.iload_n 1, 1) := by decide +kernel
theorem d_M_count_92 : decode prog_14_method_14_code 92 = .ok (.invokevirtual 87, 3) := by decide +kernel
theorem d_M_count_95 : decode prog_14_method_14_code 95 = .ok (.iload 4, 2) := by decide +kernel
theorem d_M_count_97 : decode prog_14_method_14_code 97 = .ok (.ireturn, 1) := by decide +kernel
theorem d_M_isSign_0 : decode prog_14_method_5_code 0 = .ok (.aload_n 0, 1) := by decide +kernel
theorem d_M_isSign_1 : decode prog_14_method_5_code 1 = .ok (.iload_n 1, 1) := by decide +kernel
theorem d_M_isSign_2 : decode prog_14_method_5_code 2 = .ok (.invokevirtual 65, 3) := by decide +kernel
theorem d_M_isSign_5 : decode prog_14_method_5_code 5 = .ok (.ifCond .eq 23, 3) := by decide +kernel
theorem d_M_isSign_8 : decode prog_14_method_5_code 8 = .ok (.iload_n 2, 1) := by decide +kernel
theorem d_M_isSign_9 : decode prog_14_method_5_code 9 = .ok (.iconst 0, 1) := by decide +kernel
theorem d_M_isSign_10 : decode prog_14_method_5_code 10 = .ok (.aload_n 0, 1) := by decide +kernel
theorem d_M_isSign_11 : decode prog_14_method_5_code 11 = .ok (.getfield 7, 3) := by decide +kernel
theorem d_M_isSign_14 : decode prog_14_method_5_code 14 = .ok (.iload_n 1, 1) := by decide +kernel
theorem d_M_isSign_15 : decode prog_14_method_5_code 15 = .ok (.iaload, 1) := by decide +kernel
theorem d_M_isSign_16 : decode prog_14_method_5_code 16 = .ok (.iconst 1, 1) := by decide +kernel
theorem d_M_isSign_17 : decode prog_14_method_5_code 17 = .ok (.isub, 1) := by decide +kernel
theorem d_M_isSign_18 : decode prog_14_method_5_code 18 = .ok (.invokestatic 62, 3) := by decide +kernel
theorem d_M_isSign_21 : decode prog_14_method_5_code 21 = .ok (.ifCond .eq 7, 3) := by decide +kernel
theorem d_M_isSign_24 : decode prog_14_method_5_code 24 = .ok (.iconst 1, 1) := by decide +kernel
theorem d_M_isSign_25 : decode prog_14_method_5_code 25 = .ok (.goto 4, 3) := by decide +kernel
theorem d_M_isSign_28 : decode prog_14_method_5_code 28 = .ok (.iconst 0, 1) := by decide +kernel
theorem d_M_isSign_29 : decode prog_14_method_5_code 29 = .ok (.ireturn, 1) := by decide +kernel
theorem d_M_isModel_0 : decode prog_14_method_4_code 0 = .ok (.iload_n 1, 1) := by decide +kernel
theorem d_M_isModel_1 : decode prog_14_method_4_code 1 = .ok (.iconst 0, 1) := by decide +kernel
theorem d_M_isModel_2 : decode prog_14_method_4_code 2 = .ok (.aload_n 0, 1) := by decide +kernel
theorem d_M_isModel_3 : decode prog_14_method_4_code 3 = .ok (.getfield 59, 3) := by decide +kernel
theorem d_M_isModel_6 : decode prog_14_method_4_code 6 = .ok (.iconst 1, 1) := by decide +kernel
theorem d_M_isModel_7 : decode prog_14_method_4_code 7 = .ok (.isub, 1) := by decide +kernel
theorem d_M_isModel_8 : decode prog_14_method_4_code 8 = .ok (.invokestatic 62, 3) := by decide +kernel
theorem d_M_isModel_11 : decode prog_14_method_4_code 11 = .ok (.ireturn, 1) := by decide +kernel
theorem d_M_begin_0 : decode prog_14_method_16_code 0 = .ok (.aload_n 0, 1) := by decide +kernel
theorem d_M_begin_1 : decode prog_14_method_16_code 1 = .ok (.iconst 0, 1) := by decide +kernel
theorem d_M_begin_2 : decode prog_14_method_16_code 2 = .ok (.putfield 56, 3) := by decide +kernel
theorem d_M_begin_5 : decode prog_14_method_16_code 5 = .ok (.aload_n 0, 1) := by decide +kernel
theorem d_M_begin_6 : decode prog_14_method_16_code 6 = .ok (.getfield 94, 3) := by decide +kernel
theorem d_M_begin_9 : decode prog_14_method_16_code 9 = .ok (.istore_n 1, 1) := by decide +kernel
theorem d_M_begin_10 : decode prog_14_method_16_code 10 = .ok (.aload_n 0, 1) := by decide +kernel
theorem d_M_begin_11 : decode prog_14_method_16_code 11 = .ok (.invokevirtual 53, 3) := by decide +kernel
theorem d_M_begin_14 : decode prog_14_method_16_code 14 = .ok (.iload_n 1, 1) := by decide +kernel
theorem d_M_begin_15 : decode prog_14_method_16_code 15 = .ok (.ireturn, 1) := by decide +kernel
theorem d_M_put_0 : decode prog_14_method_29_code 0 = .ok (.aload_n 0, 1) := by decide +kernel
theorem d_M_put_1 : decode prog_14_method_29_code 1 = .ok (.iconst 0, 1) := by decide +kernel
theorem d_M_put_2 : decode prog_14_method_29_code 2 = .ok (.putfield 56, 3) := by decide +kernel
theorem d_M_put_5 : decode prog_14_method_29_code 5 = .ok (.aload_n 0, 1) := by decide +kernel
theorem d_M_put_6 : decode prog_14_method_29_code 6 = .ok (.iload_n 1, 1) := by decide +kernel
theorem d_M_put_7 : decode prog_14_method_29_code 7 = .ok (.iload_n 2, 1) := by decide +kernel
theorem d_M_put_8 : decode prog_14_method_29_code 8 = .ok (.invokevirtual 90, 3) := by decide +kernel
theorem d_M_put_11 : decode prog_14_method_29_code 11 = .ok (.ifCond .ne 5, 3) := by decide +kernel
theorem d_M_put_14 : decode prog_14_method_29_code 14 = .ok (.iconst (-1), 1) := by decide +kernel
theorem d_M_put_15 : decode prog_14_method_29_code 15 = .ok (.ireturn, 1) := by decide +kernel
theorem d_M_put_16 : decode prog_14_method_29_code 16 = .ok (.aload_n 0, 1) := by decide +kernel
theorem d_M_put_17 : decode prog_14_method_29_code 17 = .ok (.getfield 97, 3) := by decide +kernel
theorem d_M_put_20 : decode prog_14_method_29_code 20 = .ok (.ifCond .ne 25, 3) := by decide +kernel
theorem d_M_put_23 : decode prog_14_method_29_code 23 = .ok (.aload_n 0, 1) := by decide +kernel
theorem d_M_put_24 : decode prog_14_method_29_code 24 = .ok (.getfield 46, 3) := by decide +kernel
theorem d_M_put_27 : decode prog_14_method_29_code 27 = .ok (.iconst 2, 1) := by decide +kernel
theorem d_M_put_28 : decode prog_14_method_29_code 28 = .ok (.if_icmp .eq 20, 3) := by decide +kernel
theorem d_M_put_31 : decode prog_14_method_29_code 31 = .ok (.aload_n 0, 1) := by decide +kernel
theorem d_M_put_32 : decode prog_14_method_29_code 32 = .ok (.getfield 16, 3) := by decide +kernel
theorem d_M_put_35 : decode prog_14_method_29_code 35 = .ok (.bipush 64, 2) := by decide +kernel
theorem d_M_put_37 : decode prog_14_method_29_code 37 = .ok (.iload_n 1, 1) := by decide +kernel
theorem d_M_put_38 : decode prog_14_method_29_code 38 = .ok (.imul, 1) := by decide +kernel
theorem d_M_put_39 : decode prog_14_method_29_code 39 = .ok (.iload_n 2, 1) := by decide +kernel
theorem d_M_put_40 : decode prog_14_method_29_code 40 = .ok (.iadd, 1) := by decide +kernel
theorem d_M_put_41 : decode prog_14_method_29_code 41 = .ok (.iaload, 1) := by decide +kernel
theorem d_M_put_42 : decode prog_14_method_29_code 42 = .ok (.ifCond .ne 6, 3) := by decide +kernel
theorem d_M_put_45 : decode prog_14_method_29_code 45 = .ok (.bipush (-3), 2) := by decide +kernel
theorem d_M_put_47 : decode prog_14_method_29_code 47 = .ok (.ireturn, 1) := by decide +kernel
theorem d_M_put_48 : decode prog_14_method_29_code 48 = .ok (.aload_n 0, 1) := by decide +kernel
theorem d_M_put_49 : decode prog_14_method_29_code 49 = .ok (.getfield 94, 3) := by decide +kernel
theorem d_M_put_52 : decode prog_14_method_29_code 52 = .ok (.sipush 600, 3) := by decide +kernel
theorem d_M_put_55 : decode prog_14_method_29_code 55 = .ok (.if_icmp .ne 6, 3) := by decide +kernel
theorem d_M_put_58 : decode prog_14_method_29_code 58 = .ok (.bipush (-4), 2) := by decide +kernel
theorem d_M_put_60 : decode prog_14_method_29_code 60 = .ok (.ireturn, 1) := by decide +kernel
theorem d_M_put_61 : decode prog_14_method_29_code 61 = .ok (.aload_n 0, 1) := by decide +kernel
theorem d_M_put_62 : decode prog_14_method_29_code 62 = .ok (.iload_n 1, 1) := by decide +kernel
theorem d_M_put_63 : decode prog_14_method_29_code 63 = .ok (.iload_n 2, 1) := by decide +kernel
theorem d_M_put_64 : decode prog_14_method_29_code 64 = .ok (.invokevirtual 169, 3) := by decide +kernel
theorem d_M_put_67 : decode prog_14_method_29_code 67 = .ok (.aload_n 0, 1) := by decide +kernel
theorem d_M_put_68 : decode prog_14_method_29_code 68 = .ok (.iload_n 1, 1) := by decide +kernel
theorem d_M_put_69 : decode prog_14_method_29_code 69 = .ok (.iload_n 2, 1) := by decide +kernel
theorem d_M_put_70 : decode prog_14_method_29_code 70 = .ok (.invokevirtual 172, 3) := by decide +kernel
theorem d_M_put_73 : decode prog_14_method_29_code 73 = .ok (.ireturn, 1) := by decide +kernel
theorem d_M_putSign_0 : decode prog_14_method_24_code 0 = .ok (.aload_n 0, 1) := by decide +kernel
theorem d_M_putSign_1 : decode prog_14_method_24_code 1 = .ok (.getfield 46, 3) := by decide +kernel
theorem d_M_putSign_4 : decode prog_14_method_24_code 4 = .ok (.iconst 2, 1) := by decide +kernel
theorem d_M_putSign_5 : decode prog_14_method_24_code 5 = .ok (.if_icmp .ge 50, 3) := by decide +kernel
theorem d_M_putSign_8 : decode prog_14_method_24_code 8 = .ok (.aload_n 0, 1) := by decide +kernel
theorem d_M_putSign_9 : decode prog_14_method_24_code 9 = .ok (.aload_n 0, 1) := by decide +kernel
theorem d_M_putSign_10 : decode prog_14_method_24_code 10 = .ok (.aload_n 0, 1) := by decide +kernel
theorem d_M_putSign_11 : decode prog_14_method_24_code 11 = .ok (.getfield 16, 3) := by decide +kernel
theorem d_M_putSign_14 : decode prog_14_method_24_code 14 = .ok (.iload_n 1, 1) := by decide +kernel
theorem d_M_putSign_15 : decode prog_14_method_24_code 15 = .ok (.iload_n 2, 1) := by decide +kernel
theorem d_M_putSign_16 : decode prog_14_method_24_code 16 = .ok (.invokevirtual 147, 3) := by decide +kernel
theorem d_M_putSign_19 : decode prog_14_method_24_code 19 = .ok (.aload_n 0, 1) := by decide +kernel
theorem d_M_putSign_20 : decode prog_14_method_24_code 20 = .ok (.getfield 16, 3) := by decide +kernel
theorem d_M_putSign_23 : decode prog_14_method_24_code 23 = .ok (.bipush 64, 2) := by decide +kernel
theorem d_M_putSign_25 : decode prog_14_method_24_code 25 = .ok (.iload_n 1, 1) := by decide +kernel
theorem d_M_putSign_26 : decode prog_14_method_24_code 26 = .ok (.imul, 1) := by decide +kernel
theorem d_M_putSign_27 : decode prog_14_method_24_code 27 = .ok (.iload_n 2, 1) := by decide +kernel
theorem d_M_putSign_28 : decode prog_14_method_24_code 28 = .ok (.iadd, 1) := by decide +kernel
theorem d_M_putSign_29 : decode prog_14_method_24_code 29 = .ok (.iaload, 1) := by decide +kernel
theorem d_M_putSign_30 : decode prog_14_method_24_code 30 = .ok (.aload_n 0, 1) := by decide +kernel
theorem d_M_putSign_31 : decode prog_14_method_24_code 31 = .ok (.aload_n 0, 1) := by decide +kernel
theorem d_M_putSign_32 : decode prog_14_method_24_code 32 = .ok (.getfield 16, 3) := by decide +kernel
theorem d_M_putSign_35 : decode prog_14_method_24_code 35 = .ok (.iload_n 1, 1) := by decide +kernel
theorem d_M_putSign_36 : decode prog_14_method_24_code 36 = .ok (.invokevirtual 77, 3) := by decide +kernel
theorem d_M_putSign_39 : decode prog_14_method_24_code 39 = .ok (.invokevirtual 151, 3) := by decide +kernel
theorem d_M_putSign_42 : decode prog_14_method_24_code 42 = .ok (.aload_n 0, 1) := by decide +kernel
theorem d_M_putSign_43 : decode prog_14_method_24_code 43 = .ok (.aload_n 0, 1) := by decide +kernel
theorem d_M_putSign_44 : decode prog_14_method_24_code 44 = .ok (.getfield 16, 3) := by decide +kernel
theorem d_M_putSign_47 : decode prog_14_method_24_code 47 = .ok (.iload_n 1, 1) := by decide +kernel
theorem d_M_putSign_48 : decode prog_14_method_24_code 48 = .ok (.iload_n 2, 1) := by decide +kernel
theorem d_M_putSign_49 : decode prog_14_method_24_code 49 = .ok (.invokevirtual 155, 3) := by decide +kernel
theorem d_M_putSign_52 : decode prog_14_method_24_code 52 = .ok (.goto 60, 3) := by decide +kernel
theorem d_M_putSign_55 : decode prog_14_method_24_code 55 = .ok (.aload_n 0, 1) := by decide +kernel
theorem d_M_putSign_56 : decode prog_14_method_24_code 56 = .ok (.getfield 46, 3) := by decide +kernel
theorem d_M_putSign_59 : decode prog_14_method_24_code 59 = .ok (.iconst 2, 1) := by decide +kernel
theorem d_M_putSign_60 : decode prog_14_method_24_code 60 = .ok (.if_icmp .ne 52, 3) := by decide +kernel
theorem d_M_putSign_63 : decode prog_14_method_24_code 63 = .ok (.iconst 1, 1) := by decide +kernel
theorem d_M_putSign_64 : decode prog_14_method_24_code 64 = .ok (.istore_n 3, 1) := by decide +kernel
theorem d_M_putSign_65 : decode prog_14_method_24_code 65 = .ok (.aload_n 0, 1) := by decide +kernel
theorem d_M_putSign_66 : decode prog_14_method_24_code 66 = .ok (.iload_n 1, 1) := by decide +kernel
theorem d_M_putSign_67 : decode prog_14_method_24_code 67 = .ok (.invokevirtual 158, 3) := by decide +kernel
theorem d_M_putSign_70 : decode prog_14_method_24_code 70 = .ok (.iconst 1, 1) := by decide +kernel
theorem d_M_putSign_71 : decode prog_14_method_24_code 71 = .ok (.isub, 1) := by decide +kernel
theorem d_M_putSign_72 : decode prog_14_method_24_code 72 = .ok (.istore 4, 2) := by decide +kernel
theorem d_M_putSign_74 : decode prog_14_method_24_code 74 = .ok (.iload 4, 2) := by decide +kernel
theorem d_M_putSign_76 : decode prog_14_method_24_code 76 = .ok (.ifCond .lt 36, 3) := by decide +kernel
theorem d_M_putSign_79 : decode prog_14_method_24_code 79 = .ok (.iload_n 2, 1) := by decide +kernel
theorem d_M_putSign_80 : decode prog_14_method_24_code 80 = .ok (.iload 4, 2) := by decide +kernel
theorem d_M_putSign_82 : decode prog_14_method_24_code 82 = .ok (.ishr, 1) := by decide +kernel
theorem d_M_putSign_83 : decode prog_14_method_24_code 83 = .ok (.iconst 1, 1) := by decide +kernel
theorem d_M_putSign_84 : decode prog_14_method_24_code 84 = .ok (.iand, 1) := by decide +kernel
theorem d_M_putSign_85 : decode prog_14_method_24_code 85 = .ok (.istore 5, 2) := by decide +kernel
theorem d_M_putSign_87 : decode prog_14_method_24_code 87 = .ok (.aload_n 0, 1) := by decide +kernel
theorem d_M_putSign_88 : decode prog_14_method_24_code 88 = .ok (.bipush 64, 2) := by decide +kernel
theorem d_M_putSign_90 : decode prog_14_method_24_code 90 = .ok (.iload_n 1, 1) := by decide +kernel
theorem d_M_putSign_91 : decode prog_14_method_24_code 91 = .ok (.imul, 1) := by decide +kernel
theorem d_M_putSign_92 : decode prog_14_method_24_code 92 = .ok (.iload_n 3, 1) := by decide +kernel
theorem d_M_putSign_93 : decode prog_14_method_24_code 93 = .ok (.iadd, 1) := by decide +kernel
theorem d_M_putSign_94 : decode prog_14_method_24_code 94 = .ok (.iload 5, 2) := by decide +kernel
theorem d_M_putSign_96 : decode prog_14_method_24_code 96 = .ok (.invokevirtual 162, 3) := by decide +kernel
theorem d_M_putSign_99 : decode prog_14_method_24_code 99 = .ok (.iconst 2, 1) := by decide +kernel
theorem d_M_putSign_100 : decode prog_14_method_24_code 100 = .ok (.iload_n 3, 1) := by decide +kernel
theorem d_M_putSign_101 : decode prog_14_method_24_code 101 = .ok (.imul, 1) := by decide +kernel
theorem d_M_putSign_102 : decode prog_14_method_24_code 102 = .ok (.iload 5, 2) := by decide +kernel
theorem d_M_putSign_104 : decode prog_14_method_24_code 104 = .ok (.iadd, 1) := by decide +kernel
theorem d_M_putSign_105 : decode prog_14_method_24_code 105 = .ok (.istore_n 3, 1) := by decide +kernel
theorem d_M_putSign_106 : decode prog_14_method_24_code 106 = .ok (.iinc 4 (-1), 3) := by decide +kernel
theorem d_M_putSign_109 : decode prog_14_method_24_code 109 = .ok (.goto (-35), 3) := by decide +kernel
theorem d_M_putSign_112 : decode prog_14_method_24_code 112 = .ok (.return_, 1) := by decide +kernel
theorem d_M_before_0 : decode prog_14_method_22_code 0 = .ok (.iconst 0, 1) := by decide +kernel
theorem d_M_before_1 : decode prog_14_method_22_code 1 = .ok (.istore 4, 2) := by decide +kernel
theorem d_M_before_3 : decode prog_14_method_22_code 3 = .ok (.iconst 0, 1) := by decide +kernel
theorem d_M_before_4 : decode prog_14_method_22_code 4 = .ok (.istore 5, 2) := by decide +kernel
theorem d_M_before_6 : decode prog_14_method_22_code 6 = .ok (.iload 5, 2) := by decide +kernel
theorem d_M_before_8 : decode prog_14_method_22_code 8 = .ok (.iload_n 3, 1) := by decide +kernel
theorem d_M_before_9 : decode prog_14_method_22_code 9 = .ok (.if_icmp .ge 23, 3) := by decide +kernel
theorem d_M_before_12 : decode prog_14_method_22_code 12 = .ok (.iload 4, 2) := by decide +kernel
theorem d_M_before_14 : decode prog_14_method_22_code 14 = .ok (.aload_n 1, 1) := by decide +kernel
theorem d_M_before_15 : decode prog_14_method_22_code 15 = .ok (.bipush 64, 2) := by decide +kernel
theorem d_M_before_17 : decode prog_14_method_22_code 17 = .ok (.iload_n 2, 1) := by decide +kernel
theorem d_M_before_18 : decode prog_14_method_22_code 18 = .ok (.imul, 1) := by decide +kernel
theorem d_M_before_19 : decode prog_14_method_22_code 19 = .ok (.iload 5, 2) := by decide +kernel
theorem d_M_before_21 : decode prog_14_method_22_code 21 = .ok (.iadd, 1) := by decide +kernel
theorem d_M_before_22 : decode prog_14_method_22_code 22 = .ok (.iaload, 1) := by decide +kernel
theorem d_M_before_23 : decode prog_14_method_22_code 23 = .ok (.iadd, 1) := by decide +kernel
theorem d_M_before_24 : decode prog_14_method_22_code 24 = .ok (.istore 4, 2) := by decide +kernel
theorem d_M_before_26 : decode prog_14_method_22_code 26 = .ok (.iinc 5 1, 3) := by decide +kernel
theorem d_M_before_29 : decode prog_14_method_22_code 29 = .ok (.goto (-23), 3) := by decide +kernel
theorem d_M_before_32 : decode prog_14_method_22_code 32 = .ok (.iload 4, 2) := by decide +kernel
theorem d_M_before_34 : decode prog_14_method_22_code 34 = .ok (.ireturn, 1) := by decide +kernel
theorem d_M_narrow_0 : decode prog_14_method_21_code 0 = .ok (.aload_n 0, 1) := by decide +kernel
theorem d_M_narrow_1 : decode prog_14_method_21_code 1 = .ok (.getfield 110, 3) := by decide +kernel
theorem d_M_narrow_4 : decode prog_14_method_21_code 4 = .ok (.iload_n 3, 1) := by decide +kernel
theorem d_M_narrow_5 : decode prog_14_method_21_code 5 = .ok (.i2l, 1) := by decide +kernel
theorem d_M_narrow_6 : decode prog_14_method_21_code 6 = .ok (.ldiv, 1) := by decide +kernel
theorem d_M_narrow_7 : decode prog_14_method_21_code 7 = .ok (.lstore 4, 2) := by decide +kernel
theorem d_M_narrow_9 : decode prog_14_method_21_code 9 = .ok (.aload_n 0, 1) := by decide +kernel
theorem d_M_narrow_10 : decode prog_14_method_21_code 10 = .ok (.aload_n 0, 1) := by decide +kernel
theorem d_M_narrow_11 : decode prog_14_method_21_code 11 = .ok (.getfield 104, 3) := by decide +kernel
theorem d_M_narrow_14 : decode prog_14_method_21_code 14 = .ok (.lload 4, 2) := by decide +kernel
theorem d_M_narrow_16 : decode prog_14_method_21_code 16 = .ok (.iload_n 1, 1) := by decide +kernel
theorem d_M_narrow_17 : decode prog_14_method_21_code 17 = .ok (.i2l, 1) := by decide +kernel
theorem d_M_narrow_18 : decode prog_14_method_21_code 18 = .ok (.lmul, 1) := by decide +kernel
theorem d_M_narrow_19 : decode prog_14_method_21_code 19 = .ok (.ladd, 1) := by decide +kernel
theorem d_M_narrow_20 : decode prog_14_method_21_code 20 = .ok (.putfield 104, 3) := by decide +kernel
theorem d_M_narrow_23 : decode prog_14_method_21_code 23 = .ok (.aload_n 0, 1) := by decide +kernel
theorem d_M_narrow_24 : decode prog_14_method_21_code 24 = .ok (.lload 4, 2) := by decide +kernel
theorem d_M_narrow_26 : decode prog_14_method_21_code 26 = .ok (.iload_n 2, 1) := by decide +kernel
theorem d_M_narrow_27 : decode prog_14_method_21_code 27 = .ok (.i2l, 1) := by decide +kernel
theorem d_M_narrow_28 : decode prog_14_method_21_code 28 = .ok (.lmul, 1) := by decide +kernel
theorem d_M_narrow_29 : decode prog_14_method_21_code 29 = .ok (.putfield 110, 3) := by decide +kernel
theorem d_M_narrow_32 : decode prog_14_method_21_code 32 = .ok (.aload_n 0, 1) := by decide +kernel
theorem d_M_narrow_33 : decode prog_14_method_21_code 33 = .ok (.getfield 46, 3) := by decide +kernel
theorem d_M_narrow_36 : decode prog_14_method_21_code 36 = .ok (.ifCond .ne 10, 3) := by decide +kernel
theorem d_M_narrow_39 : decode prog_14_method_21_code 39 = .ok (.aload_n 0, 1) := by decide +kernel
theorem d_M_narrow_40 : decode prog_14_method_21_code 40 = .ok (.invokevirtual 141, 3) := by decide +kernel
theorem d_M_narrow_43 : decode prog_14_method_21_code 43 = .ok (.goto 19, 3) := by decide +kernel
theorem d_M_narrow_46 : decode prog_14_method_21_code 46 = .ok (.aload_n 0, 1) := by decide +kernel
theorem d_M_narrow_47 : decode prog_14_method_21_code 47 = .ok (.aload_n 0, 1) := by decide +kernel
theorem d_M_narrow_48 : decode prog_14_method_21_code 48 = .ok (.getfield 104, 3) := by decide +kernel
theorem d_M_narrow_51 : decode prog_14_method_21_code 51 = .ok (.ldc2_w 108, 3) := by decide +kernel
theorem d_M_narrow_54 : decode prog_14_method_21_code 54 = .ok (.land, 1) := by decide +kernel
theorem d_M_narrow_55 : decode prog_14_method_21_code 55 = .ok (.putfield 104, 3) := by decide +kernel
theorem d_M_narrow_58 : decode prog_14_method_21_code 58 = .ok (.aload_n 0, 1) := by decide +kernel
theorem d_M_narrow_59 : decode prog_14_method_21_code 59 = .ok (.invokevirtual 144, 3) := by decide +kernel
theorem d_M_narrow_62 : decode prog_14_method_21_code 62 = .ok (.return_, 1) := by decide +kernel
theorem d_M_widen_0 : decode prog_14_method_19_code 0 = .ok (.aload_n 0, 1) := by decide +kernel
theorem d_M_widen_1 : decode prog_14_method_19_code 1 = .ok (.getfield 110, 3) := by decide +kernel
theorem d_M_widen_4 : decode prog_14_method_19_code 4 = .ok (.ldc2_w 132, 3) := by decide +kernel
theorem d_M_widen_7 : decode prog_14_method_19_code 7 = .ok (.lcmp, 1) := by decide +kernel
theorem d_M_widen_8 : decode prog_14_method_19_code 8 = .ok (.ifCond .ge 21, 3) := by decide +kernel
theorem d_M_widen_11 : decode prog_14_method_19_code 11 = .ok (.aload_n 0, 1) := by decide +kernel
theorem d_M_widen_12 : decode prog_14_method_19_code 12 = .ok (.aload_n 0, 1) := by decide +kernel
theorem d_M_widen_13 : decode prog_14_method_19_code 13 = .ok (.getfield 110, 3) := by decide +kernel
theorem d_M_widen_16 : decode prog_14_method_19_code 16 = .ok (.bipush 8, 2) := by decide +kernel
theorem d_M_widen_18 : decode prog_14_method_19_code 18 = .ok (.lshl, 1) := by decide +kernel
theorem d_M_widen_19 : decode prog_14_method_19_code 19 = .ok (.putfield 110, 3) := by decide +kernel
theorem d_M_widen_22 : decode prog_14_method_19_code 22 = .ok (.aload_n 0, 1) := by decide +kernel
theorem d_M_widen_23 : decode prog_14_method_19_code 23 = .ok (.invokevirtual 134, 3) := by decide +kernel
theorem d_M_widen_26 : decode prog_14_method_19_code 26 = .ok (.goto (-26), 3) := by decide +kernel
theorem d_M_widen_29 : decode prog_14_method_19_code 29 = .ok (.return_, 1) := by decide +kernel
theorem d_M_shifted_0 : decode prog_14_method_18_code 0 = .ok (.aload_n 0, 1) := by decide +kernel
theorem d_M_shifted_1 : decode prog_14_method_18_code 1 = .ok (.getfield 104, 3) := by decide +kernel
theorem d_M_shifted_4 : decode prog_14_method_18_code 4 = .ok (.ldc2_w 122, 3) := by decide +kernel
theorem d_M_shifted_7 : decode prog_14_method_18_code 7 = .ok (.lcmp, 1) := by decide +kernel
theorem d_M_shifted_8 : decode prog_14_method_18_code 8 = .ok (.ifCond .lt 14, 3) := by decide +kernel
theorem d_M_shifted_11 : decode prog_14_method_18_code 11 = .ok (.aload_n 0, 1) := by decide +kernel
theorem d_M_shifted_12 : decode prog_14_method_18_code 12 = .ok (.getfield 104, 3) := by decide +kernel
theorem d_M_shifted_15 : decode prog_14_method_18_code 15 = .ok (.ldc2_w 108, 3) := by decide +kernel
theorem d_M_shifted_18 : decode prog_14_method_18_code 18 = .ok (.lcmp, 1) := by decide +kernel
theorem d_M_shifted_19 : decode prog_14_method_18_code 19 = .ok (.ifCond .le 78, 3) := by decide +kernel
theorem d_M_shifted_22 : decode prog_14_method_18_code 22 = .ok (.aload_n 0, 1) := by decide +kernel
theorem d_M_shifted_23 : decode prog_14_method_18_code 23 = .ok (.getfield 104, 3) := by decide +kernel
theorem d_M_shifted_26 : decode prog_14_method_18_code 26 = .ok (.bipush 32, 2) := by decide +kernel
theorem d_M_shifted_28 : decode prog_14_method_18_code 28 = .ok (.lshr, 1) := by decide +kernel
theorem d_M_shifted_29 : decode prog_14_method_18_code 29 = .ok (.l2i, 1) := by decide +kernel
theorem d_M_shifted_30 : decode prog_14_method_18_code 30 = .ok (.istore_n 1, 1) := by decide +kernel
theorem d_M_shifted_31 : decode prog_14_method_18_code 31 = .ok (.aload_n 0, 1) := by decide +kernel
theorem d_M_shifted_32 : decode prog_14_method_18_code 32 = .ok (.getfield 113, 3) := by decide +kernel
theorem d_M_shifted_35 : decode prog_14_method_18_code 35 = .ok (.iconst (-1), 1) := by decide +kernel
theorem d_M_shifted_36 : decode prog_14_method_18_code 36 = .ok (.if_icmp .eq 13, 3) := by decide +kernel
theorem d_M_shifted_39 : decode prog_14_method_18_code 39 = .ok (.aload_n 0, 1) := by decide +kernel
theorem d_M_shifted_40 : decode prog_14_method_18_code 40 = .ok (.aload_n 0, 1) := by decide +kernel
theorem d_M_shifted_41 : decode prog_14_method_18_code 41 = .ok (.getfield 113, 3) := by decide +kernel
theorem d_M_shifted_44 : decode prog_14_method_18_code 44 = .ok (.iload_n 1, 1) := by decide +kernel
theorem d_M_shifted_45 : decode prog_14_method_18_code 45 = .ok (.iadd, 1) := by decide +kernel
theorem d_M_shifted_46 : decode prog_14_method_18_code 46 = .ok (.invokevirtual 124, 3) := by decide +kernel
theorem d_M_shifted_49 : decode prog_14_method_18_code 49 = .ok (.aload_n 0, 1) := by decide +kernel
theorem d_M_shifted_50 : decode prog_14_method_18_code 50 = .ok (.getfield 116, 3) := by decide +kernel
theorem d_M_shifted_53 : decode prog_14_method_18_code 53 = .ok (.ifCond .le 25, 3) := by decide +kernel
theorem d_M_shifted_56 : decode prog_14_method_18_code 56 = .ok (.aload_n 0, 1) := by decide +kernel
theorem d_M_shifted_57 : decode prog_14_method_18_code 57 = .ok (.sipush 255, 3) := by decide +kernel
theorem d_M_shifted_60 : decode prog_14_method_18_code 60 = .ok (.iload_n 1, 1) := by decide +kernel
theorem d_M_shifted_61 : decode prog_14_method_18_code 61 = .ok (.iadd, 1) := by decide +kernel
theorem d_M_shifted_62 : decode prog_14_method_18_code 62 = .ok (.invokevirtual 124, 3) := by decide +kernel
theorem d_M_shifted_65 : decode prog_14_method_18_code 65 = .ok (.aload_n 0, 1) := by decide +kernel
theorem d_M_shifted_66 : decode prog_14_method_18_code 66 = .ok (.dup, 1) := by decide +kernel
theorem d_M_shifted_67 : decode prog_14_method_18_code 67 = .ok (.getfield 116, 3) := by decide +kernel
theorem d_M_shifted_70 : decode prog_14_method_18_code 70 = .ok (.iconst 1, 1) := by decide +kernel
theorem d_M_shifted_71 : decode prog_14_method_18_code 71 = .ok (.isub, 1) := by decide +kernel
theorem d_M_shifted_72 : decode prog_14_method_18_code 72 = .ok (.putfield 116, 3) := by decide +kernel
theorem d_M_shifted_75 : decode prog_14_method_18_code 75 = .ok (.goto (-26), 3) := by decide +kernel
theorem d_M_shifted_78 : decode prog_14_method_18_code 78 = .ok (.aload_n 0, 1) := by decide +kernel
theorem d_M_shifted_79 : decode prog_14_method_18_code 79 = .ok (.aload_n 0, 1) := by decide +kernel
theorem d_M_shifted_80 : decode prog_14_method_18_code 80 = .ok (.getfield 104, 3) := by decide +kernel
theorem d_M_shifted_83 : decode prog_14_method_18_code 83 = .ok (.bipush 24, 2) := by decide +kernel
theorem d_M_shifted_85 : decode prog_14_method_18_code 85 = .ok (.lshr, 1) := by decide +kernel
theorem d_M_shifted_86 : decode prog_14_method_18_code 86 = .ok (.ldc2_w 128, 3) := by decide +kernel
theorem d_M_shifted_89 : decode prog_14_method_18_code 89 = .ok (.land, 1) := by decide +kernel
theorem d_M_shifted_90 : decode prog_14_method_18_code 90 = .ok (.l2i, 1) := by decide +kernel
theorem d_M_shifted_91 : decode prog_14_method_18_code 91 = .ok (.putfield 113, 3) := by decide +kernel
theorem d_M_shifted_94 : decode prog_14_method_18_code 94 = .ok (.goto 13, 3) := by decide +kernel
theorem d_M_shifted_97 : decode prog_14_method_18_code 97 = .ok (.aload_n 0, 1) := by decide +kernel
theorem d_M_shifted_98 : decode prog_14_method_18_code 98 = .ok (.dup, 1) := by decide +kernel
theorem d_M_shifted_99 : decode prog_14_method_18_code 99 = .ok (.getfield 116, 3) := by decide +kernel
theorem d_M_shifted_102 : decode prog_14_method_18_code 102 = .ok (.iconst 1, 1) := by decide +kernel
theorem d_M_shifted_103 : decode prog_14_method_18_code 103 = .ok (.iadd, 1) := by decide +kernel
theorem d_M_shifted_104 : decode prog_14_method_18_code 104 = .ok (.putfield 116, 3) := by decide +kernel
theorem d_M_shifted_107 : decode prog_14_method_18_code 107 = .ok (.aload_n 0, 1) := by decide +kernel
theorem d_M_shifted_108 : decode prog_14_method_18_code 108 = .ok (.aload_n 0, 1) := by decide +kernel
theorem d_M_shifted_109 : decode prog_14_method_18_code 109 = .ok (.getfield 104, 3) := by decide +kernel
theorem d_M_shifted_112 : decode prog_14_method_18_code 112 = .ok (.ldc2_w 130, 3) := by decide +kernel
theorem d_M_shifted_115 : decode prog_14_method_18_code 115 = .ok (.land, 1) := by decide +kernel
theorem d_M_shifted_116 : decode prog_14_method_18_code 116 = .ok (.bipush 8, 2) := by decide +kernel
theorem d_M_shifted_118 : decode prog_14_method_18_code 118 = .ok (.lshl, 1) := by decide +kernel
theorem d_M_shifted_119 : decode prog_14_method_18_code 119 = .ok (.putfield 104, 3) := by decide +kernel
theorem d_M_shifted_122 : decode prog_14_method_18_code 122 = .ok (.return_, 1) := by decide +kernel
theorem d_M_write_0 : decode prog_14_method_17_code 0 = .ok (.aload_n 0, 1) := by decide +kernel
theorem d_M_write_1 : decode prog_14_method_17_code 1 = .ok (.getfield 28, 3) := by decide +kernel
theorem d_M_write_4 : decode prog_14_method_17_code 4 = .ok (.aload_n 0, 1) := by decide +kernel
theorem d_M_write_5 : decode prog_14_method_17_code 5 = .ok (.getfield 119, 3) := by decide +kernel
theorem d_M_write_8 : decode prog_14_method_17_code 8 = .ok (.iload_n 1, 1) := by decide +kernel
theorem d_M_write_9 : decode prog_14_method_17_code 9 = .ok (.sipush 255, 3) := by decide +kernel
theorem d_M_write_12 : decode prog_14_method_17_code 12 = .ok (.iand, 1) := by decide +kernel
theorem d_M_write_13 : decode prog_14_method_17_code 13 = .ok (.iastore, 1) := by decide +kernel
theorem d_M_write_14 : decode prog_14_method_17_code 14 = .ok (.aload_n 0, 1) := by decide +kernel
theorem d_M_write_15 : decode prog_14_method_17_code 15 = .ok (.dup, 1) := by decide +kernel
theorem d_M_write_16 : decode prog_14_method_17_code 16 = .ok (.getfield 119, 3) := by decide +kernel
theorem d_M_write_19 : decode prog_14_method_17_code 19 = .ok (.iconst 1, 1) := by decide +kernel
theorem d_M_write_20 : decode prog_14_method_17_code 20 = .ok (.iadd, 1) := by decide +kernel
theorem d_M_write_21 : decode prog_14_method_17_code 21 = .ok (.putfield 119, 3) := by decide +kernel
theorem d_M_write_24 : decode prog_14_method_17_code 24 = .ok (.return_, 1) := by decide +kernel
theorem d_M_widenPlain_0 : decode prog_14_method_20_code 0 = .ok (.iconst 1, 1) := by decide +kernel
theorem d_M_widenPlain_1 : decode prog_14_method_20_code 1 = .ok (.istore_n 1, 1) := by decide +kernel
theorem d_M_widenPlain_2 : decode prog_14_method_20_code 2 = .ok (.iload_n 1, 1) := by decide +kernel
theorem d_M_widenPlain_3 : decode prog_14_method_20_code 3 = .ok (.ifCond .eq 130, 3) := by decide +kernel
theorem d_M_widenPlain_6 : decode prog_14_method_20_code 6 = .ok (.aload_n 0, 1) := by decide +kernel
theorem d_M_widenPlain_7 : decode prog_14_method_20_code 7 = .ok (.getfield 104, 3) := by decide +kernel
theorem d_M_widenPlain_10 : decode prog_14_method_20_code 10 = .ok (.bipush 24, 2) := by decide +kernel
theorem d_M_widenPlain_12 : decode prog_14_method_20_code 12 = .ok (.lshr, 1) := by decide +kernel
theorem d_M_widenPlain_13 : decode prog_14_method_20_code 13 = .ok (.aload_n 0, 1) := by decide +kernel
theorem d_M_widenPlain_14 : decode prog_14_method_20_code 14 = .ok (.getfield 104, 3) := by decide +kernel
theorem d_M_widenPlain_17 : decode prog_14_method_20_code 17 = .ok (.aload_n 0, 1) := by decide +kernel
theorem d_M_widenPlain_18 : decode prog_14_method_20_code 18 = .ok (.getfield 110, 3) := by decide +kernel
theorem d_M_widenPlain_21 : decode prog_14_method_20_code 21 = .ok (.ladd, 1) := by decide +kernel
theorem d_M_widenPlain_22 : decode prog_14_method_20_code 22 = .ok (.ldc2_w 108, 3) := by decide +kernel
theorem d_M_widenPlain_25 : decode prog_14_method_20_code 25 = .ok (.land, 1) := by decide +kernel
theorem d_M_widenPlain_26 : decode prog_14_method_20_code 26 = .ok (.bipush 24, 2) := by decide +kernel
theorem d_M_widenPlain_28 : decode prog_14_method_20_code 28 = .ok (.lshr, 1) := by decide +kernel
theorem d_M_widenPlain_29 : decode prog_14_method_20_code 29 = .ok (.lcmp, 1) := by decide +kernel
theorem d_M_widenPlain_30 : decode prog_14_method_20_code 30 = .ok (.ifCond .ne 7, 3) := by decide +kernel
theorem d_M_widenPlain_33 : decode prog_14_method_20_code 33 = .ok (.iconst 1, 1) := by decide +kernel
theorem d_M_widenPlain_34 : decode prog_14_method_20_code 34 = .ok (.goto 4, 3) := by decide +kernel
theorem d_M_widenPlain_37 : decode prog_14_method_20_code 37 = .ok (.iconst 0, 1) := by decide +kernel
theorem d_M_widenPlain_38 : decode prog_14_method_20_code 38 = .ok (.istore_n 2, 1) := by decide +kernel
theorem d_M_widenPlain_39 : decode prog_14_method_20_code 39 = .ok (.iload_n 2, 1) := by decide +kernel
theorem d_M_widenPlain_40 : decode prog_14_method_20_code 40 = .ok (.ifCond .ne 14, 3) := by decide +kernel
theorem d_M_widenPlain_43 : decode prog_14_method_20_code 43 = .ok (.aload_n 0, 1) := by decide +kernel
theorem d_M_widenPlain_44 : decode prog_14_method_20_code 44 = .ok (.getfield 110, 3) := by decide +kernel
theorem d_M_widenPlain_47 : decode prog_14_method_20_code 47 = .ok (.ldc2_w 137, 3) := by decide +kernel
theorem d_M_widenPlain_50 : decode prog_14_method_20_code 50 = .ok (.lcmp, 1) := by decide +kernel
theorem d_M_widenPlain_51 : decode prog_14_method_20_code 51 = .ok (.ifCond .ge 7, 3) := by decide +kernel
theorem d_M_widenPlain_54 : decode prog_14_method_20_code 54 = .ok (.iconst 1, 1) := by decide +kernel
theorem d_M_widenPlain_55 : decode prog_14_method_20_code 55 = .ok (.goto 4, 3) := by decide +kernel
theorem d_M_widenPlain_58 : decode prog_14_method_20_code 58 = .ok (.iconst 0, 1) := by decide +kernel
theorem d_M_widenPlain_59 : decode prog_14_method_20_code 59 = .ok (.istore_n 1, 1) := by decide +kernel
theorem d_M_widenPlain_60 : decode prog_14_method_20_code 60 = .ok (.iload_n 1, 1) := by decide +kernel
theorem d_M_widenPlain_61 : decode prog_14_method_20_code 61 = .ok (.ifCond .eq 69, 3) := by decide +kernel
theorem d_M_widenPlain_64 : decode prog_14_method_20_code 64 = .ok (.aload_n 0, 1) := by decide +kernel
theorem d_M_widenPlain_65 : decode prog_14_method_20_code 65 = .ok (.iload_n 2, 1) := by decide +kernel
theorem d_M_widenPlain_66 : decode prog_14_method_20_code 66 = .ok (.ifCond .eq 10, 3) := by decide +kernel
theorem d_M_widenPlain_69 : decode prog_14_method_20_code 69 = .ok (.aload_n 0, 1) := by decide +kernel
theorem d_M_widenPlain_70 : decode prog_14_method_20_code 70 = .ok (.getfield 110, 3) := by decide +kernel
theorem d_M_widenPlain_73 : decode prog_14_method_20_code 73 = .ok (.goto 12, 3) := by decide +kernel
theorem d_M_widenPlain_76 : decode prog_14_method_20_code 76 = .ok (.aload_n 0, 1) := by decide +kernel
theorem d_M_widenPlain_77 : decode prog_14_method_20_code 77 = .ok (.getfield 104, 3) := by decide +kernel
theorem d_M_widenPlain_80 : decode prog_14_method_20_code 80 = .ok (.lneg, 1) := by decide +kernel
theorem d_M_widenPlain_81 : decode prog_14_method_20_code 81 = .ok (.ldc2_w 139, 3) := by decide +kernel
theorem d_M_widenPlain_84 : decode prog_14_method_20_code 84 = .ok (.land, 1) := by decide +kernel
theorem d_M_widenPlain_85 : decode prog_14_method_20_code 85 = .ok (.putfield 110, 3) := by decide +kernel
theorem d_M_widenPlain_88 : decode prog_14_method_20_code 88 = .ok (.aload_n 0, 1) := by decide +kernel
theorem d_M_widenPlain_89 : decode prog_14_method_20_code 89 = .ok (.aload_n 0, 1) := by decide +kernel
theorem d_M_widenPlain_90 : decode prog_14_method_20_code 90 = .ok (.getfield 104, 3) := by decide +kernel
theorem d_M_widenPlain_93 : decode prog_14_method_20_code 93 = .ok (.bipush 24, 2) := by decide +kernel
theorem d_M_widenPlain_95 : decode prog_14_method_20_code 95 = .ok (.lshr, 1) := by decide +kernel
theorem d_M_widenPlain_96 : decode prog_14_method_20_code 96 = .ok (.l2i, 1) := by decide +kernel
theorem d_M_widenPlain_97 : decode prog_14_method_20_code 97 = .ok (.invokevirtual 124, 3) := by decide +kernel
theorem d_M_widenPlain_100 : decode prog_14_method_20_code 100 = .ok (.aload_n 0, 1) := by decide +kernel
theorem d_M_widenPlain_101 : decode prog_14_method_20_code 101 = .ok (.aload_n 0, 1) := by decide +kernel
theorem d_M_widenPlain_102 : decode prog_14_method_20_code 102 = .ok (.getfield 104, 3) := by decide +kernel
theorem d_M_widenPlain_105 : decode prog_14_method_20_code 105 = .ok (.bipush 8, 2) := by decide +kernel
theorem d_M_widenPlain_107 : decode prog_14_method_20_code 107 = .ok (.lshl, 1) := by decide +kernel
theorem d_M_widenPlain_108 : decode prog_14_method_20_code 108 = .ok (.ldc2_w 108, 3) := by decide +kernel
theorem d_M_widenPlain_111 : decode prog_14_method_20_code 111 = .ok (.land, 1) := by decide +kernel
theorem d_M_widenPlain_112 : decode prog_14_method_20_code 112 = .ok (.putfield 104, 3) := by decide +kernel
theorem d_M_widenPlain_115 : decode prog_14_method_20_code 115 = .ok (.aload_n 0, 1) := by decide +kernel
theorem d_M_widenPlain_116 : decode prog_14_method_20_code 116 = .ok (.aload_n 0, 1) := by decide +kernel
theorem d_M_widenPlain_117 : decode prog_14_method_20_code 117 = .ok (.getfield 110, 3) := by decide +kernel
theorem d_M_widenPlain_120 : decode prog_14_method_20_code 120 = .ok (.bipush 8, 2) := by decide +kernel
theorem d_M_widenPlain_122 : decode prog_14_method_20_code 122 = .ok (.lshl, 1) := by decide +kernel
theorem d_M_widenPlain_123 : decode prog_14_method_20_code 123 = .ok (.ldc2_w 108, 3) := by decide +kernel
theorem d_M_widenPlain_126 : decode prog_14_method_20_code 126 = .ok (.land, 1) := by decide +kernel
theorem d_M_widenPlain_127 : decode prog_14_method_20_code 127 = .ok (.putfield 110, 3) := by decide +kernel
theorem d_M_widenPlain_130 : decode prog_14_method_20_code 130 = .ok (.goto (-128), 3) := by decide +kernel
theorem d_M_widenPlain_133 : decode prog_14_method_20_code 133 = .ok (.return_, 1) := by decide +kernel
theorem d_M_learn_0 : decode prog_14_method_23_code 0 = .ok (.aload_n 1, 1) := by decide +kernel
theorem d_M_learn_1 : decode prog_14_method_23_code 1 = .ok (.bipush 64, 2) := by decide +kernel
theorem d_M_learn_3 : decode prog_14_method_23_code 3 = .ok (.iload_n 2, 1) := by decide +kernel
theorem d_M_learn_4 : decode prog_14_method_23_code 4 = .ok (.imul, 1) := by decide +kernel
theorem d_M_learn_5 : decode prog_14_method_23_code 5 = .ok (.iload_n 3, 1) := by decide +kernel
theorem d_M_learn_6 : decode prog_14_method_23_code 6 = .ok (.iadd, 1) := by decide +kernel
theorem d_M_learn_7 : decode prog_14_method_23_code 7 = .ok (.aload_n 1, 1) := by decide +kernel
theorem d_M_learn_8 : decode prog_14_method_23_code 8 = .ok (.bipush 64, 2) := by decide +kernel
theorem d_M_learn_10 : decode prog_14_method_23_code 10 = .ok (.iload_n 2, 1) := by decide +kernel
theorem d_M_learn_11 : decode prog_14_method_23_code 11 = .ok (.imul, 1) := by decide +kernel
theorem d_M_learn_12 : decode prog_14_method_23_code 12 = .ok (.iload_n 3, 1) := by decide +kernel
theorem d_M_learn_13 : decode prog_14_method_23_code 13 = .ok (.iadd, 1) := by decide +kernel
theorem d_M_learn_14 : decode prog_14_method_23_code 14 = .ok (.iaload, 1) := by decide +kernel
theorem d_M_learn_15 : decode prog_14_method_23_code 15 = .ok (.bipush 32, 2) := by decide +kernel
theorem d_M_learn_17 : decode prog_14_method_23_code 17 = .ok (.iadd, 1) := by decide +kernel
theorem d_M_learn_18 : decode prog_14_method_23_code 18 = .ok (.iastore, 1) := by decide +kernel
theorem d_M_learn_19 : decode prog_14_method_23_code 19 = .ok (.aload_n 0, 1) := by decide +kernel
theorem d_M_learn_20 : decode prog_14_method_23_code 20 = .ok (.aload_n 1, 1) := by decide +kernel
theorem d_M_learn_21 : decode prog_14_method_23_code 21 = .ok (.iload_n 2, 1) := by decide +kernel
theorem d_M_learn_22 : decode prog_14_method_23_code 22 = .ok (.invokevirtual 77, 3) := by decide +kernel
theorem d_M_learn_25 : decode prog_14_method_23_code 25 = .ok (.sipush 8192, 3) := by decide +kernel
theorem d_M_learn_28 : decode prog_14_method_23_code 28 = .ok (.if_icmp .le 9, 3) := by decide +kernel
theorem d_M_learn_31 : decode prog_14_method_23_code 31 = .ok (.aload_n 0, 1) := by decide +kernel
theorem d_M_learn_32 : decode prog_14_method_23_code 32 = .ok (.aload_n 1, 1) := by decide +kernel
theorem d_M_learn_33 : decode prog_14_method_23_code 33 = .ok (.iload_n 2, 1) := by decide +kernel
theorem d_M_learn_34 : decode prog_14_method_23_code 34 = .ok (.invokevirtual 81, 3) := by decide +kernel
theorem d_M_learn_37 : decode prog_14_method_23_code 37 = .ok (.return_, 1) := by decide +kernel
theorem d_M_levels_0 : decode prog_14_method_6_code 0 = .ok (.iconst 0, 1) := by decide +kernel
theorem d_M_levels_1 : decode prog_14_method_6_code 1 = .ok (.istore_n 2, 1) := by decide +kernel
theorem d_M_levels_2 : decode prog_14_method_6_code 2 = .ok (.iconst 1, 1) := by decide +kernel
theorem d_M_levels_3 : decode prog_14_method_6_code 3 = .ok (.iload_n 2, 1) := by decide +kernel
theorem d_M_levels_4 : decode prog_14_method_6_code 4 = .ok (.ishl, 1) := by decide +kernel
theorem d_M_levels_5 : decode prog_14_method_6_code 5 = .ok (.aload_n 0, 1) := by decide +kernel
theorem d_M_levels_6 : decode prog_14_method_6_code 6 = .ok (.getfield 7, 3) := by decide +kernel
theorem d_M_levels_9 : decode prog_14_method_6_code 9 = .ok (.iload_n 1, 1) := by decide +kernel
theorem d_M_levels_10 : decode prog_14_method_6_code 10 = .ok (.iaload, 1) := by decide +kernel
theorem d_M_levels_11 : decode prog_14_method_6_code 11 = .ok (.if_icmp .ge 9, 3) := by decide +kernel
theorem d_M_levels_14 : decode prog_14_method_6_code 14 = .ok (.iinc 2 1, 3) := by decide +kernel
theorem d_M_levels_17 : decode prog_14_method_6_code 17 = .ok (.goto (-15), 3) := by decide +kernel
theorem d_M_levels_20 : decode prog_14_method_6_code 20 = .ok (.iload_n 2, 1) := by decide +kernel
theorem d_M_levels_21 : decode prog_14_method_6_code 21 = .ok (.ireturn, 1) := by decide +kernel
theorem d_M_putBit_0 : decode prog_14_method_25_code 0 = .ok (.aload_n 0, 1) := by decide +kernel
theorem d_M_putBit_1 : decode prog_14_method_25_code 1 = .ok (.getfield 110, 3) := by decide +kernel
theorem d_M_putBit_4 : decode prog_14_method_25_code 4 = .ok (.bipush 11, 2) := by decide +kernel
theorem d_M_putBit_6 : decode prog_14_method_25_code 6 = .ok (.lshr, 1) := by decide +kernel
theorem d_M_putBit_7 : decode prog_14_method_25_code 7 = .ok (.aload_n 0, 1) := by decide +kernel
theorem d_M_putBit_8 : decode prog_14_method_25_code 8 = .ok (.getfield 16, 3) := by decide +kernel
theorem d_M_putBit_11 : decode prog_14_method_25_code 11 = .ok (.iload_n 1, 1) := by decide +kernel
theorem d_M_putBit_12 : decode prog_14_method_25_code 12 = .ok (.iaload, 1) := by decide +kernel
theorem d_M_putBit_13 : decode prog_14_method_25_code 13 = .ok (.i2l, 1) := by decide +kernel
theorem d_M_putBit_14 : decode prog_14_method_25_code 14 = .ok (.lmul, 1) := by decide +kernel
theorem d_M_putBit_15 : decode prog_14_method_25_code 15 = .ok (.lstore_n 3, 1) := by decide +kernel
theorem d_M_putBit_16 : decode prog_14_method_25_code 16 = .ok (.iload_n 2, 1) := by decide +kernel
theorem d_M_putBit_17 : decode prog_14_method_25_code 17 = .ok (.ifCond .ne 11, 3) := by decide +kernel
theorem d_M_putBit_20 : decode prog_14_method_25_code 20 = .ok (.aload_n 0, 1) := by decide +kernel
theorem d_M_putBit_21 : decode prog_14_method_25_code 21 = .ok (.lload_n 3, 1) := by decide +kernel
theorem d_M_putBit_22 : decode prog_14_method_25_code 22 = .ok (.putfield 110, 3) := by decide +kernel
theorem d_M_putBit_25 : decode prog_14_method_25_code 25 = .ok (.goto 23, 3) := by decide +kernel
theorem d_M_putBit_28 : decode prog_14_method_25_code 28 = .ok (.aload_n 0, 1) := by decide +kernel
theorem d_M_putBit_29 : decode prog_14_method_25_code 29 = .ok (.aload_n 0, 1) := by decide +kernel
theorem d_M_putBit_30 : decode prog_14_method_25_code 30 = .ok (.getfield 104, 3) := by decide +kernel
theorem d_M_putBit_33 : decode prog_14_method_25_code 33 = .ok (.lload_n 3, 1) := by decide +kernel
theorem d_M_putBit_34 : decode prog_14_method_25_code 34 = .ok (.ladd, 1) := by decide +kernel
theorem d_M_putBit_35 : decode prog_14_method_25_code 35 = .ok (.putfield 104, 3) := by decide +kernel
theorem d_M_putBit_38 : decode prog_14_method_25_code 38 = .ok (.aload_n 0, 1) := by decide +kernel
theorem d_M_putBit_39 : decode prog_14_method_25_code 39 = .ok (.aload_n 0, 1) := by decide +kernel
theorem d_M_putBit_40 : decode prog_14_method_25_code 40 = .ok (.getfield 110, 3) := by decide +kernel
theorem d_M_putBit_43 : decode prog_14_method_25_code 43 = .ok (.lload_n 3, 1) := by decide +kernel
theorem d_M_putBit_44 : decode prog_14_method_25_code 44 = .ok (.lsub, 1) := by decide +kernel
theorem d_M_putBit_45 : decode prog_14_method_25_code 45 = .ok (.putfield 110, 3) := by decide +kernel
theorem d_M_putBit_48 : decode prog_14_method_25_code 48 = .ok (.aload_n 0, 1) := by decide +kernel
theorem d_M_putBit_49 : decode prog_14_method_25_code 49 = .ok (.aload_n 0, 1) := by decide +kernel
theorem d_M_putBit_50 : decode prog_14_method_25_code 50 = .ok (.getfield 16, 3) := by decide +kernel
theorem d_M_putBit_53 : decode prog_14_method_25_code 53 = .ok (.iload_n 1, 1) := by decide +kernel
theorem d_M_putBit_54 : decode prog_14_method_25_code 54 = .ok (.iload_n 2, 1) := by decide +kernel
theorem d_M_putBit_55 : decode prog_14_method_25_code 55 = .ok (.invokevirtual 166, 3) := by decide +kernel
theorem d_M_putBit_58 : decode prog_14_method_25_code 58 = .ok (.aload_n 0, 1) := by decide +kernel
theorem d_M_putBit_59 : decode prog_14_method_25_code 59 = .ok (.invokevirtual 141, 3) := by decide +kernel
theorem d_M_putBit_62 : decode prog_14_method_25_code 62 = .ok (.return_, 1) := by decide +kernel
theorem d_M_moveChance_0 : decode prog_14_method_26_code 0 = .ok (.aload_n 1, 1) := by decide +kernel
theorem d_M_moveChance_1 : decode prog_14_method_26_code 1 = .ok (.iload_n 2, 1) := by decide +kernel
theorem d_M_moveChance_2 : decode prog_14_method_26_code 2 = .ok (.iaload, 1) := by decide +kernel
theorem d_M_moveChance_3 : decode prog_14_method_26_code 3 = .ok (.istore 4, 2) := by decide +kernel
theorem d_M_moveChance_5 : decode prog_14_method_26_code 5 = .ok (.aload_n 1, 1) := by decide +kernel
theorem d_M_moveChance_6 : decode prog_14_method_26_code 6 = .ok (.iload_n 2, 1) := by decide +kernel
theorem d_M_moveChance_7 : decode prog_14_method_26_code 7 = .ok (.iload_n 3, 1) := by decide +kernel
theorem d_M_moveChance_8 : decode prog_14_method_26_code 8 = .ok (.ifCond .ne 20, 3) := by decide +kernel
theorem d_M_moveChance_11 : decode prog_14_method_26_code 11 = .ok (.iload 4, 2) := by decide +kernel
theorem d_M_moveChance_13 : decode prog_14_method_26_code 13 = .ok (.sipush 2048, 3) := by decide +kernel
theorem d_M_moveChance_16 : decode prog_14_method_26_code 16 = .ok (.iload 4, 2) := by decide +kernel
theorem d_M_moveChance_18 : decode prog_14_method_26_code 18 = .ok (.isub, 1) := by decide +kernel
theorem d_M_moveChance_19 : decode prog_14_method_26_code 19 = .ok (.aload_n 0, 1) := by decide +kernel
theorem d_M_moveChance_20 : decode prog_14_method_26_code 20 = .ok (.getfield 50, 3) := by decide +kernel
theorem d_M_moveChance_23 : decode prog_14_method_26_code 23 = .ok (.ishr, 1) := by decide +kernel
theorem d_M_moveChance_24 : decode prog_14_method_26_code 24 = .ok (.iadd, 1) := by decide +kernel
theorem d_M_moveChance_25 : decode prog_14_method_26_code 25 = .ok (.goto 13, 3) := by decide +kernel
theorem d_M_moveChance_28 : decode prog_14_method_26_code 28 = .ok (.iload 4, 2) := by decide +kernel
theorem d_M_moveChance_30 : decode prog_14_method_26_code 30 = .ok (.iload 4, 2) := by decide +kernel
theorem d_M_moveChance_32 : decode prog_14_method_26_code 32 = .ok (.aload_n 0, 1) := by decide +kernel
theorem d_M_moveChance_33 : decode prog_14_method_26_code 33 = .ok (.getfield 50, 3) := by decide +kernel
theorem d_M_moveChance_36 : decode prog_14_method_26_code 36 = .ok (.ishr, 1) := by decide +kernel
theorem d_M_moveChance_37 : decode prog_14_method_26_code 37 = .ok (.isub, 1) := by decide +kernel
theorem d_M_moveChance_38 : decode prog_14_method_26_code 38 = .ok (.iastore, 1) := by decide +kernel
theorem d_M_moveChance_39 : decode prog_14_method_26_code 39 = .ok (.return_, 1) := by decide +kernel
theorem d_M_addItem_0 : decode prog_14_method_28_code 0 = .ok (.aload_n 0, 1) := by decide +kernel
theorem d_M_addItem_1 : decode prog_14_method_28_code 1 = .ok (.getfield 22, 3) := by decide +kernel
theorem d_M_addItem_4 : decode prog_14_method_28_code 4 = .ok (.aload_n 0, 1) := by decide +kernel
theorem d_M_addItem_5 : decode prog_14_method_28_code 5 = .ok (.getfield 94, 3) := by decide +kernel
theorem d_M_addItem_8 : decode prog_14_method_28_code 8 = .ok (.iload_n 1, 1) := by decide +kernel
theorem d_M_addItem_9 : decode prog_14_method_28_code 9 = .ok (.iastore, 1) := by decide +kernel
theorem d_M_addItem_10 : decode prog_14_method_28_code 10 = .ok (.aload_n 0, 1) := by decide +kernel
theorem d_M_addItem_11 : decode prog_14_method_28_code 11 = .ok (.getfield 25, 3) := by decide +kernel
theorem d_M_addItem_14 : decode prog_14_method_28_code 14 = .ok (.aload_n 0, 1) := by decide +kernel
theorem d_M_addItem_15 : decode prog_14_method_28_code 15 = .ok (.getfield 94, 3) := by decide +kernel
theorem d_M_addItem_18 : decode prog_14_method_28_code 18 = .ok (.iload_n 2, 1) := by decide +kernel
theorem d_M_addItem_19 : decode prog_14_method_28_code 19 = .ok (.iastore, 1) := by decide +kernel
theorem d_M_addItem_20 : decode prog_14_method_28_code 20 = .ok (.aload_n 0, 1) := by decide +kernel
theorem d_M_addItem_21 : decode prog_14_method_28_code 21 = .ok (.dup, 1) := by decide +kernel
theorem d_M_addItem_22 : decode prog_14_method_28_code 22 = .ok (.getfield 94, 3) := by decide +kernel
theorem d_M_addItem_25 : decode prog_14_method_28_code 25 = .ok (.iconst 1, 1) := by decide +kernel
theorem d_M_addItem_26 : decode prog_14_method_28_code 26 = .ok (.iadd, 1) := by decide +kernel
theorem d_M_addItem_27 : decode prog_14_method_28_code 27 = .ok (.putfield 94, 3) := by decide +kernel
theorem d_M_addItem_30 : decode prog_14_method_28_code 30 = .ok (.aload_n 0, 1) := by decide +kernel
theorem d_M_addItem_31 : decode prog_14_method_28_code 31 = .ok (.getfield 94, 3) := by decide +kernel
theorem d_M_addItem_34 : decode prog_14_method_28_code 34 = .ok (.ireturn, 1) := by decide +kernel
theorem d_M_bits_0 : decode prog_14_method_30_code 0 = .ok (.aload_n 0, 1) := by decide +kernel
theorem d_M_bits_1 : decode prog_14_method_30_code 1 = .ok (.iconst 0, 1) := by decide +kernel
theorem d_M_bits_2 : decode prog_14_method_30_code 2 = .ok (.putfield 56, 3) := by decide +kernel
theorem d_M_bits_5 : decode prog_14_method_30_code 5 = .ok (.iload_n 2, 1) := by decide +kernel
theorem d_M_bits_6 : decode prog_14_method_30_code 6 = .ok (.iconst 1, 1) := by decide +kernel
theorem d_M_bits_7 : decode prog_14_method_30_code 7 = .ok (.aload_n 0, 1) := by decide +kernel
theorem d_M_bits_8 : decode prog_14_method_30_code 8 = .ok (.getfield 46, 3) := by decide +kernel
theorem d_M_bits_11 : decode prog_14_method_30_code 11 = .ok (.iconst 4, 1) := by decide +kernel
theorem d_M_bits_12 : decode prog_14_method_30_code 12 = .ok (.if_icmp .ne 8, 3) := by decide +kernel
theorem d_M_bits_15 : decode prog_14_method_30_code 15 = .ok (.bipush 9, 2) := by decide +kernel
theorem d_M_bits_17 : decode prog_14_method_30_code 17 = .ok (.goto 5, 3) := by decide +kernel
theorem d_M_bits_20 : decode prog_14_method_30_code 20 = .ok (.bipush 12, 2) := by decide +kernel
theorem d_M_bits_22 : decode prog_14_method_30_code 22 = .ok (.invokestatic 62, 3) := by decide +kernel
theorem d_M_bits_25 : decode prog_14_method_30_code 25 = .ok (.ifCond .eq 16, 3) := by decide +kernel
theorem d_M_bits_28 : decode prog_14_method_30_code 28 = .ok (.iload_n 1, 1) := by decide +kernel
theorem d_M_bits_29 : decode prog_14_method_30_code 29 = .ok (.iconst 0, 1) := by decide +kernel
theorem d_M_bits_30 : decode prog_14_method_30_code 30 = .ok (.iconst 1, 1) := by decide +kernel
theorem d_M_bits_31 : decode prog_14_method_30_code 31 = .ok (.iload_n 2, 1) := by decide +kernel
theorem d_M_bits_32 : decode prog_14_method_30_code 32 = .ok (.ishl, 1) := by decide +kernel
theorem d_M_bits_33 : decode prog_14_method_30_code 33 = .ok (.iconst 1, 1) := by decide +kernel
theorem d_M_bits_34 : decode prog_14_method_30_code 34 = .ok (.isub, 1) := by decide +kernel
theorem d_M_bits_35 : decode prog_14_method_30_code 35 = .ok (.invokestatic 62, 3) := by decide +kernel
theorem d_M_bits_38 : decode prog_14_method_30_code 38 = .ok (.ifCond .ne 6, 3) := by decide +kernel
theorem d_M_bits_41 : decode prog_14_method_30_code 41 = .ok (.bipush (-2), 2) := by decide +kernel
theorem d_M_bits_43 : decode prog_14_method_30_code 43 = .ok (.ireturn, 1) := by decide +kernel
theorem d_M_bits_44 : decode prog_14_method_30_code 44 = .ok (.aload_n 0, 1) := by decide +kernel
theorem d_M_bits_45 : decode prog_14_method_30_code 45 = .ok (.getfield 97, 3) := by decide +kernel
theorem d_M_bits_48 : decode prog_14_method_30_code 48 = .ok (.ifCond .eq 6, 3) := by decide +kernel
theorem d_M_bits_51 : decode prog_14_method_30_code 51 = .ok (.bipush (-3), 2) := by decide +kernel
theorem d_M_bits_53 : decode prog_14_method_30_code 53 = .ok (.ireturn, 1) := by decide +kernel
theorem d_M_bits_54 : decode prog_14_method_30_code 54 = .ok (.aload_n 0, 1) := by decide +kernel
theorem d_M_bits_55 : decode prog_14_method_30_code 55 = .ok (.getfield 94, 3) := by decide +kernel
theorem d_M_bits_58 : decode prog_14_method_30_code 58 = .ok (.sipush 600, 3) := by decide +kernel
theorem d_M_bits_61 : decode prog_14_method_30_code 61 = .ok (.if_icmp .ne 6, 3) := by decide +kernel
theorem d_M_bits_64 : decode prog_14_method_30_code 64 = .ok (.bipush (-4), 2) := by decide +kernel
theorem d_M_bits_66 : decode prog_14_method_30_code 66 = .ok (.ireturn, 1) := by decide +kernel
theorem d_M_bits_67 : decode prog_14_method_30_code 67 = .ok (.aload_n 0, 1) := by decide +kernel
theorem d_M_bits_68 : decode prog_14_method_30_code 68 = .ok (.iload_n 1, 1) := by decide +kernel
theorem d_M_bits_69 : decode prog_14_method_30_code 69 = .ok (.iload_n 2, 1) := by decide +kernel
theorem d_M_bits_70 : decode prog_14_method_30_code 70 = .ok (.invokevirtual 176, 3) := by decide +kernel
theorem d_M_bits_73 : decode prog_14_method_30_code 73 = .ok (.aload_n 0, 1) := by decide +kernel
theorem d_M_bits_74 : decode prog_14_method_30_code 74 = .ok (.iload_n 2, 1) := by decide +kernel
theorem d_M_bits_75 : decode prog_14_method_30_code 75 = .ok (.ineg, 1) := by decide +kernel
theorem d_M_bits_76 : decode prog_14_method_30_code 76 = .ok (.iload_n 1, 1) := by decide +kernel
theorem d_M_bits_77 : decode prog_14_method_30_code 77 = .ok (.invokevirtual 172, 3) := by decide +kernel
theorem d_M_bits_80 : decode prog_14_method_30_code 80 = .ok (.ireturn, 1) := by decide +kernel
theorem d_M_putValue_0 : decode prog_14_method_27_code 0 = .ok (.aload_n 0, 1) := by decide +kernel
theorem d_M_putValue_1 : decode prog_14_method_27_code 1 = .ok (.getfield 46, 3) := by decide +kernel
theorem d_M_putValue_4 : decode prog_14_method_27_code 4 = .ok (.iconst 2, 1) := by decide +kernel
theorem d_M_putValue_5 : decode prog_14_method_27_code 5 = .ok (.if_icmp .ge 15, 3) := by decide +kernel
theorem d_M_putValue_8 : decode prog_14_method_27_code 8 = .ok (.aload_n 0, 1) := by decide +kernel
theorem d_M_putValue_9 : decode prog_14_method_27_code 9 = .ok (.iload_n 1, 1) := by decide +kernel
theorem d_M_putValue_10 : decode prog_14_method_27_code 10 = .ok (.iconst 1, 1) := by decide +kernel
theorem d_M_putValue_11 : decode prog_14_method_27_code 11 = .ok (.iconst 1, 1) := by decide +kernel
theorem d_M_putValue_12 : decode prog_14_method_27_code 12 = .ok (.iload_n 2, 1) := by decide +kernel
theorem d_M_putValue_13 : decode prog_14_method_27_code 13 = .ok (.ishl, 1) := by decide +kernel
theorem d_M_putValue_14 : decode prog_14_method_27_code 14 = .ok (.invokevirtual 151, 3) := by decide +kernel
theorem d_M_putValue_17 : decode prog_14_method_27_code 17 = .ok (.goto 68, 3) := by decide +kernel
theorem d_M_putValue_20 : decode prog_14_method_27_code 20 = .ok (.aload_n 0, 1) := by decide +kernel
theorem d_M_putValue_21 : decode prog_14_method_27_code 21 = .ok (.getfield 46, 3) := by decide +kernel
theorem d_M_putValue_24 : decode prog_14_method_27_code 24 = .ok (.iconst 2, 1) := by decide +kernel
theorem d_M_putValue_25 : decode prog_14_method_27_code 25 = .ok (.if_icmp .ne 60, 3) := by decide +kernel
theorem d_M_putValue_28 : decode prog_14_method_27_code 28 = .ok (.iload_n 2, 1) := by decide +kernel
theorem d_M_putValue_29 : decode prog_14_method_27_code 29 = .ok (.iconst 1, 1) := by decide +kernel
theorem d_M_putValue_30 : decode prog_14_method_27_code 30 = .ok (.isub, 1) := by decide +kernel
theorem d_M_putValue_31 : decode prog_14_method_27_code 31 = .ok (.istore_n 3, 1) := by decide +kernel
theorem d_M_putValue_32 : decode prog_14_method_27_code 32 = .ok (.iload_n 3, 1) := by decide +kernel
theorem d_M_putValue_33 : decode prog_14_method_27_code 33 = .ok (.ifCond .lt 52, 3) := by decide +kernel
theorem d_M_putValue_36 : decode prog_14_method_27_code 36 = .ok (.aload_n 0, 1) := by decide +kernel
theorem d_M_putValue_37 : decode prog_14_method_27_code 37 = .ok (.aload_n 0, 1) := by decide +kernel
theorem d_M_putValue_38 : decode prog_14_method_27_code 38 = .ok (.getfield 110, 3) := by decide +kernel
theorem d_M_putValue_41 : decode prog_14_method_27_code 41 = .ok (.iconst 1, 1) := by decide +kernel
theorem d_M_putValue_42 : decode prog_14_method_27_code 42 = .ok (.lshr, 1) := by decide +kernel
theorem d_M_putValue_43 : decode prog_14_method_27_code 43 = .ok (.putfield 110, 3) := by decide +kernel
theorem d_M_putValue_46 : decode prog_14_method_27_code 46 = .ok (.aload_n 0, 1) := by decide +kernel
theorem d_M_putValue_47 : decode prog_14_method_27_code 47 = .ok (.iload_n 1, 1) := by decide +kernel
theorem d_M_putValue_48 : decode prog_14_method_27_code 48 = .ok (.iload_n 3, 1) := by decide +kernel
theorem d_M_putValue_49 : decode prog_14_method_27_code 49 = .ok (.ishr, 1) := by decide +kernel
theorem d_M_putValue_50 : decode prog_14_method_27_code 50 = .ok (.iconst 1, 1) := by decide +kernel
theorem d_M_putValue_51 : decode prog_14_method_27_code 51 = .ok (.iand, 1) := by decide +kernel
theorem d_M_putValue_52 : decode prog_14_method_27_code 52 = .ok (.iconst 1, 1) := by decide +kernel
theorem d_M_putValue_53 : decode prog_14_method_27_code 53 = .ok (.if_icmp .ne 15, 3) := by decide +kernel
theorem d_M_putValue_56 : decode prog_14_method_27_code 56 = .ok (.aload_n 0, 1) := by decide +kernel
theorem d_M_putValue_57 : decode prog_14_method_27_code 57 = .ok (.getfield 104, 3) := by decide +kernel
theorem d_M_putValue_60 : decode prog_14_method_27_code 60 = .ok (.aload_n 0, 1) := by decide +kernel
theorem d_M_putValue_61 : decode prog_14_method_27_code 61 = .ok (.getfield 110, 3) := by decide +kernel
theorem d_M_putValue_64 : decode prog_14_method_27_code 64 = .ok (.ladd, 1) := by decide +kernel
theorem d_M_putValue_65 : decode prog_14_method_27_code 65 = .ok (.goto 7, 3) := by decide +kernel
theorem d_M_putValue_68 : decode prog_14_method_27_code 68 = .ok (.aload_n 0, 1) := by decide +kernel
theorem d_M_putValue_69 : decode prog_14_method_27_code 69 = .ok (.getfield 104, 3) := by decide +kernel
theorem d_M_putValue_72 : decode prog_14_method_27_code 72 = .ok (.putfield 104, 3) := by decide +kernel
theorem d_M_putValue_75 : decode prog_14_method_27_code 75 = .ok (.aload_n 0, 1) := by decide +kernel
theorem d_M_putValue_76 : decode prog_14_method_27_code 76 = .ok (.invokevirtual 141, 3) := by decide +kernel
theorem d_M_putValue_79 : decode prog_14_method_27_code 79 = .ok (.iinc 3 (-1), 3) := by decide +kernel
theorem d_M_putValue_82 : decode prog_14_method_27_code 82 = .ok (.goto (-50), 3) := by decide +kernel
theorem d_M_putValue_85 : decode prog_14_method_27_code 85 = .ok (.return_, 1) := by decide +kernel
theorem d_M_end_0 : decode prog_14_method_31_code 0 = .ok (.aload_n 0, 1) := by decide +kernel
theorem d_M_end_1 : decode prog_14_method_31_code 1 = .ok (.iconst 0, 1) := by decide +kernel
theorem d_M_end_2 : decode prog_14_method_31_code 2 = .ok (.putfield 56, 3) := by decide +kernel
theorem d_M_end_5 : decode prog_14_method_31_code 5 = .ok (.aload_n 0, 1) := by decide +kernel
theorem d_M_end_6 : decode prog_14_method_31_code 6 = .ok (.getfield 97, 3) := by decide +kernel
theorem d_M_end_9 : decode prog_14_method_31_code 9 = .ok (.ifCond .eq 6, 3) := by decide +kernel
theorem d_M_end_12 : decode prog_14_method_31_code 12 = .ok (.bipush (-3), 2) := by decide +kernel
theorem d_M_end_14 : decode prog_14_method_31_code 14 = .ok (.ireturn, 1) := by decide +kernel
theorem d_M_end_15 : decode prog_14_method_31_code 15 = .ok (.aload_n 0, 1) := by decide +kernel
theorem d_M_end_16 : decode prog_14_method_31_code 16 = .ok (.iconst 1, 1) := by decide +kernel
theorem d_M_end_17 : decode prog_14_method_31_code 17 = .ok (.putfield 97, 3) := by decide +kernel
theorem d_M_end_20 : decode prog_14_method_31_code 20 = .ok (.aload_n 0, 1) := by decide +kernel
theorem d_M_end_21 : decode prog_14_method_31_code 21 = .ok (.getfield 46, 3) := by decide +kernel
theorem d_M_end_24 : decode prog_14_method_31_code 24 = .ok (.ifCond .eq 11, 3) := by decide +kernel
theorem d_M_end_27 : decode prog_14_method_31_code 27 = .ok (.aload_n 0, 1) := by decide +kernel
theorem d_M_end_28 : decode prog_14_method_31_code 28 = .ok (.getfield 46, 3) := by decide +kernel
theorem d_M_end_31 : decode prog_14_method_31_code 31 = .ok (.iconst 2, 1) := by decide +kernel
theorem d_M_end_32 : decode prog_14_method_31_code 32 = .ok (.if_icmp .ne 23, 3) := by decide +kernel
theorem d_M_end_35 : decode prog_14_method_31_code 35 = .ok (.iconst 0, 1) := by decide +kernel
theorem d_M_end_36 : decode prog_14_method_31_code 36 = .ok (.istore_n 1, 1) := by decide +kernel
theorem d_M_end_37 : decode prog_14_method_31_code 37 = .ok (.iload_n 1, 1) := by decide +kernel
theorem d_M_end_38 : decode prog_14_method_31_code 38 = .ok (.iconst 5, 1) := by decide +kernel
theorem d_M_end_39 : decode prog_14_method_31_code 39 = .ok (.if_icmp .ge 13, 3) := by decide +kernel
theorem d_M_end_42 : decode prog_14_method_31_code 42 = .ok (.aload_n 0, 1) := by decide +kernel
theorem d_M_end_43 : decode prog_14_method_31_code 43 = .ok (.invokevirtual 134, 3) := by decide +kernel
theorem d_M_end_46 : decode prog_14_method_31_code 46 = .ok (.iinc 1 1, 3) := by decide +kernel
theorem d_M_end_49 : decode prog_14_method_31_code 49 = .ok (.goto (-12), 3) := by decide +kernel
theorem d_M_end_52 : decode prog_14_method_31_code 52 = .ok (.goto 73, 3) := by decide +kernel
theorem d_M_end_55 : decode prog_14_method_31_code 55 = .ok (.aload_n 0, 1) := by decide +kernel
theorem d_M_end_56 : decode prog_14_method_31_code 56 = .ok (.getfield 46, 3) := by decide +kernel
theorem d_M_end_59 : decode prog_14_method_31_code 59 = .ok (.iconst 1, 1) := by decide +kernel
theorem d_M_end_60 : decode prog_14_method_31_code 60 = .ok (.if_icmp .ne 46, 3) := by decide +kernel
theorem d_M_end_63 : decode prog_14_method_31_code 63 = .ok (.iconst 0, 1) := by decide +kernel
theorem d_M_end_64 : decode prog_14_method_31_code 64 = .ok (.istore_n 1, 1) := by decide +kernel
theorem d_M_end_65 : decode prog_14_method_31_code 65 = .ok (.iload_n 1, 1) := by decide +kernel
theorem d_M_end_66 : decode prog_14_method_31_code 66 = .ok (.iconst 4, 1) := by decide +kernel
theorem d_M_end_67 : decode prog_14_method_31_code 67 = .ok (.if_icmp .ge 36, 3) := by decide +kernel
theorem d_M_end_70 : decode prog_14_method_31_code 70 = .ok (.aload_n 0, 1) := by decide +kernel
theorem d_M_end_71 : decode prog_14_method_31_code 71 = .ok (.aload_n 0, 1) := by decide +kernel
theorem d_M_end_72 : decode prog_14_method_31_code 72 = .ok (.getfield 104, 3) := by decide +kernel
theorem d_M_end_75 : decode prog_14_method_31_code 75 = .ok (.bipush 24, 2) := by decide +kernel
theorem d_M_end_77 : decode prog_14_method_31_code 77 = .ok (.lshr, 1) := by decide +kernel
theorem d_M_end_78 : decode prog_14_method_31_code 78 = .ok (.l2i, 1) := by decide +kernel
theorem d_M_end_79 : decode prog_14_method_31_code 79 = .ok (.invokevirtual 124, 3) := by decide +kernel
theorem d_M_end_82 : decode prog_14_method_31_code 82 = .ok (.aload_n 0, 1) := by decide +kernel
theorem d_M_end_83 : decode prog_14_method_31_code 83 = .ok (.aload_n 0, 1) := by decide +kernel
theorem d_M_end_84 : decode prog_14_method_31_code 84 = .ok (.getfield 104, 3) := by decide +kernel
theorem d_M_end_87 : decode prog_14_method_31_code 87 = .ok (.bipush 8, 2) := by decide +kernel
theorem d_M_end_89 : decode prog_14_method_31_code 89 = .ok (.lshl, 1) := by decide +kernel
theorem d_M_end_90 : decode prog_14_method_31_code 90 = .ok (.ldc2_w 108, 3) := by decide +kernel
theorem d_M_end_93 : decode prog_14_method_31_code 93 = .ok (.land, 1) := by decide +kernel
theorem d_M_end_94 : decode prog_14_method_31_code 94 = .ok (.putfield 104, 3) := by decide +kernel
theorem d_M_end_97 : decode prog_14_method_31_code 97 = .ok (.iinc 1 1, 3) := by decide +kernel
theorem d_M_end_100 : decode prog_14_method_31_code 100 = .ok (.goto (-35), 3) := by decide +kernel
theorem d_M_end_103 : decode prog_14_method_31_code 103 = .ok (.goto 22, 3) := by decide +kernel
theorem d_M_end_106 : decode prog_14_method_31_code 106 = .ok (.aload_n 0, 1) := by decide +kernel
theorem d_M_end_107 : decode prog_14_method_31_code 107 = .ok (.getfield 46, 3) := by decide +kernel
theorem d_M_end_110 : decode prog_14_method_31_code 110 = .ok (.iconst 3, 1) := by decide +kernel
theorem d_M_end_111 : decode prog_14_method_31_code 111 = .ok (.if_icmp .ne 10, 3) := by decide +kernel
theorem d_M_end_114 : decode prog_14_method_31_code 114 = .ok (.aload_n 0, 1) := by decide +kernel
theorem d_M_end_115 : decode prog_14_method_31_code 115 = .ok (.invokevirtual 179, 3) := by decide +kernel
theorem d_M_end_118 : decode prog_14_method_31_code 118 = .ok (.goto 7, 3) := by decide +kernel
theorem d_M_end_121 : decode prog_14_method_31_code 121 = .ok (.aload_n 0, 1) := by decide +kernel
theorem d_M_end_122 : decode prog_14_method_31_code 122 = .ok (.invokevirtual 182, 3) := by decide +kernel
theorem d_M_end_125 : decode prog_14_method_31_code 125 = .ok (.aload_n 0, 1) := by decide +kernel
theorem d_M_end_126 : decode prog_14_method_31_code 126 = .ok (.aload_n 0, 1) := by decide +kernel
theorem d_M_end_127 : decode prog_14_method_31_code 127 = .ok (.getfield 119, 3) := by decide +kernel
theorem d_M_end_130 : decode prog_14_method_31_code 130 = .ok (.putfield 185, 3) := by decide +kernel
theorem d_M_end_133 : decode prog_14_method_31_code 133 = .ok (.iconst 0, 1) := by decide +kernel
theorem d_M_end_134 : decode prog_14_method_31_code 134 = .ok (.istore_n 1, 1) := by decide +kernel
theorem d_M_end_135 : decode prog_14_method_31_code 135 = .ok (.iload_n 1, 1) := by decide +kernel
theorem d_M_end_136 : decode prog_14_method_31_code 136 = .ok (.aload_n 0, 1) := by decide +kernel
theorem d_M_end_137 : decode prog_14_method_31_code 137 = .ok (.getfield 119, 3) := by decide +kernel
theorem d_M_end_140 : decode prog_14_method_31_code 140 = .ok (.if_icmp .ge 21, 3) := by decide +kernel
theorem d_M_end_143 : decode prog_14_method_31_code 143 = .ok (.aload_n 0, 1) := by decide +kernel
theorem d_M_end_144 : decode prog_14_method_31_code 144 = .ok (.getfield 31, 3) := by decide +kernel
theorem d_M_end_147 : decode prog_14_method_31_code 147 = .ok (.iload_n 1, 1) := by decide +kernel
theorem d_M_end_148 : decode prog_14_method_31_code 148 = .ok (.aload_n 0, 1) := by decide +kernel
theorem d_M_end_149 : decode prog_14_method_31_code 149 = .ok (.getfield 28, 3) := by decide +kernel
theorem d_M_end_152 : decode prog_14_method_31_code 152 = .ok (.iload_n 1, 1) := by decide +kernel
theorem d_M_end_153 : decode prog_14_method_31_code 153 = .ok (.iaload, 1) := by decide +kernel
theorem d_M_end_154 : decode prog_14_method_31_code 154 = .ok (.iastore, 1) := by decide +kernel
theorem d_M_end_155 : decode prog_14_method_31_code 155 = .ok (.iinc 1 1, 3) := by decide +kernel
theorem d_M_end_158 : decode prog_14_method_31_code 158 = .ok (.goto (-23), 3) := by decide +kernel
theorem d_M_end_161 : decode prog_14_method_31_code 161 = .ok (.aload_n 0, 1) := by decide +kernel
theorem d_M_end_162 : decode prog_14_method_31_code 162 = .ok (.getfield 185, 3) := by decide +kernel
theorem d_M_end_165 : decode prog_14_method_31_code 165 = .ok (.ireturn, 1) := by decide +kernel
theorem d_M_endStack_0 : decode prog_14_method_32_code 0 = .ok (.aload_n 0, 1) := by decide +kernel
theorem d_M_endStack_1 : decode prog_14_method_32_code 1 = .ok (.iconst 0, 1) := by decide +kernel
theorem d_M_endStack_2 : decode prog_14_method_32_code 2 = .ok (.putfield 188, 3) := by decide +kernel
theorem d_M_endStack_5 : decode prog_14_method_32_code 5 = .ok (.ldc2_w 191, 3) := by decide +kernel
theorem d_M_endStack_8 : decode prog_14_method_32_code 8 = .ok (.lstore_n 1, 1) := by decide +kernel
theorem d_M_endStack_9 : decode prog_14_method_32_code 9 = .ok (.aload_n 0, 1) := by decide +kernel
theorem d_M_endStack_10 : decode prog_14_method_32_code 10 = .ok (.getfield 94, 3) := by decide +kernel
theorem d_M_endStack_13 : decode prog_14_method_32_code 13 = .ok (.iconst 1, 1) := by decide +kernel
theorem d_M_endStack_14 : decode prog_14_method_32_code 14 = .ok (.isub, 1) := by decide +kernel
theorem d_M_endStack_15 : decode prog_14_method_32_code 15 = .ok (.istore_n 3, 1) := by decide +kernel
theorem d_M_endStack_16 : decode prog_14_method_32_code 16 = .ok (.iload_n 3, 1) := by decide +kernel
theorem d_M_endStack_17 : decode prog_14_method_32_code 17 = .ok (.ifCond .lt 145, 3) := by decide +kernel
theorem d_M_endStack_20 : decode prog_14_method_32_code 20 = .ok (.aload_n 0, 1) := by decide +kernel
theorem d_M_endStack_21 : decode prog_14_method_32_code 21 = .ok (.getfield 22, 3) := by decide +kernel
theorem d_M_endStack_24 : decode prog_14_method_32_code 24 = .ok (.iload_n 3, 1) := by decide +kernel
theorem d_M_endStack_25 : decode prog_14_method_32_code 25 = .ok (.iaload, 1) := by decide +kernel
theorem d_M_endStack_26 : decode prog_14_method_32_code 26 = .ok (.istore 4, 2) := by decide +kernel
theorem d_M_endStack_28 : decode prog_14_method_32_code 28 = .ok (.aload_n 0, 1) := by decide +kernel
theorem d_M_endStack_29 : decode prog_14_method_32_code 29 = .ok (.getfield 25, 3) := by decide +kernel
theorem d_M_endStack_32 : decode prog_14_method_32_code 32 = .ok (.iload_n 3, 1) := by decide +kernel
theorem d_M_endStack_33 : decode prog_14_method_32_code 33 = .ok (.iaload, 1) := by decide +kernel
theorem d_M_endStack_34 : decode prog_14_method_32_code 34 = .ok (.istore 5, 2) := by decide +kernel
theorem d_M_endStack_36 : decode prog_14_method_32_code 36 = .ok (.iload 4, 2) := by decide +kernel
theorem d_M_endStack_38 : decode prog_14_method_32_code 38 = .ok (.ifCond .ge 14, 3) := by decide +kernel
theorem d_M_endStack_41 : decode prog_14_method_32_code 41 = .ok (.sipush 4096, 3) := by decide +kernel
theorem d_M_endStack_44 : decode prog_14_method_32_code 44 = .ok (.iload 4, 2) := by decide +kernel
theorem d_M_endStack_46 : decode prog_14_method_32_code 46 = .ok (.ineg, 1) := by decide +kernel
theorem d_M_endStack_47 : decode prog_14_method_32_code 47 = .ok (.ishr, 1) := by decide +kernel
theorem d_M_endStack_48 : decode prog_14_method_32_code 48 = .ok (.i2l, 1) := by decide +kernel
theorem d_M_endStack_49 : decode prog_14_method_32_code 49 = .ok (.goto 17, 3) := by decide +kernel
theorem d_M_endStack_52 : decode prog_14_method_32_code 52 = .ok (.aload_n 0, 1) := by decide +kernel
theorem d_M_endStack_53 : decode prog_14_method_32_code 53 = .ok (.getfield 16, 3) := by decide +kernel
theorem d_M_endStack_56 : decode prog_14_method_32_code 56 = .ok (.bipush 64, 2) := by decide +kernel
theorem d_M_endStack_58 : decode prog_14_method_32_code 58 = .ok (.iload 4, 2) := by decide +kernel
theorem d_M_endStack_60 : decode prog_14_method_32_code 60 = .ok (.imul, 1) := by decide +kernel
theorem d_M_endStack_61 : decode prog_14_method_32_code 61 = .ok (.iload 5, 2) := by decide +kernel
theorem d_M_endStack_63 : decode prog_14_method_32_code 63 = .ok (.iadd, 1) := by decide +kernel
theorem d_M_endStack_64 : decode prog_14_method_32_code 64 = .ok (.iaload, 1) := by decide +kernel
theorem d_M_endStack_65 : decode prog_14_method_32_code 65 = .ok (.i2l, 1) := by decide +kernel
theorem d_M_endStack_66 : decode prog_14_method_32_code 66 = .ok (.lstore 6, 2) := by decide +kernel
theorem d_M_endStack_68 : decode prog_14_method_32_code 68 = .ok (.iload 4, 2) := by decide +kernel
theorem d_M_endStack_70 : decode prog_14_method_32_code 70 = .ok (.ifCond .ge 12, 3) := by decide +kernel
theorem d_M_endStack_73 : decode prog_14_method_32_code 73 = .ok (.lload 6, 2) := by decide +kernel
theorem d_M_endStack_75 : decode prog_14_method_32_code 75 = .ok (.iload 5, 2) := by decide +kernel
theorem d_M_endStack_77 : decode prog_14_method_32_code 77 = .ok (.i2l, 1) := by decide +kernel
theorem d_M_endStack_78 : decode prog_14_method_32_code 78 = .ok (.lmul, 1) := by decide +kernel
theorem d_M_endStack_79 : decode prog_14_method_32_code 79 = .ok (.goto 16, 3) := by decide +kernel
theorem d_M_endStack_82 : decode prog_14_method_32_code 82 = .ok (.aload_n 0, 1) := by decide +kernel
theorem d_M_endStack_83 : decode prog_14_method_32_code 83 = .ok (.aload_n 0, 1) := by decide +kernel
theorem d_M_endStack_84 : decode prog_14_method_32_code 84 = .ok (.getfield 16, 3) := by decide +kernel
theorem d_M_endStack_87 : decode prog_14_method_32_code 87 = .ok (.iload 4, 2) := by decide +kernel
theorem d_M_endStack_89 : decode prog_14_method_32_code 89 = .ok (.iload 5, 2) := by decide +kernel
theorem d_M_endStack_91 : decode prog_14_method_32_code 91 = .ok (.invokevirtual 147, 3) := by decide +kernel
theorem d_M_endStack_94 : decode prog_14_method_32_code 94 = .ok (.i2l, 1) := by decide +kernel
theorem d_M_endStack_95 : decode prog_14_method_32_code 95 = .ok (.lstore 8, 2) := by decide +kernel
theorem d_M_endStack_97 : decode prog_14_method_32_code 97 = .ok (.lload_n 1, 1) := by decide +kernel
theorem d_M_endStack_98 : decode prog_14_method_32_code 98 = .ok (.lload 6, 2) := by decide +kernel
theorem d_M_endStack_100 : decode prog_14_method_32_code 100 = .ok (.bipush 19, 2) := by decide +kernel
theorem d_M_endStack_102 : decode prog_14_method_32_code 102 = .ok (.lshl, 1) := by decide +kernel
theorem d_M_endStack_103 : decode prog_14_method_32_code 103 = .ok (.lcmp, 1) := by decide +kernel
theorem d_M_endStack_104 : decode prog_14_method_32_code 104 = .ok (.ifCond .lt 36, 3) := by decide +kernel
theorem d_M_endStack_107 : decode prog_14_method_32_code 107 = .ok (.aload_n 0, 1) := by decide +kernel
theorem d_M_endStack_108 : decode prog_14_method_32_code 108 = .ok (.getfield 43, 3) := by decide +kernel
theorem d_M_endStack_111 : decode prog_14_method_32_code 111 = .ok (.aload_n 0, 1) := by decide +kernel
theorem d_M_endStack_112 : decode prog_14_method_32_code 112 = .ok (.getfield 188, 3) := by decide +kernel
theorem d_M_endStack_115 : decode prog_14_method_32_code 115 = .ok (.lload_n 1, 1) := by decide +kernel
theorem d_M_endStack_116 : decode prog_14_method_32_code 116 = .ok (.ldc2_w 128, 3) := by decide +kernel
theorem d_M_endStack_119 : decode prog_14_method_32_code 119 = .ok (.land, 1) := by decide +kernel
theorem d_M_endStack_120 : decode prog_14_method_32_code 120 = .ok (.l2i, 1) := by decide +kernel
theorem d_M_endStack_121 : decode prog_14_method_32_code 121 = .ok (.iastore, 1) := by decide +kernel
theorem d_M_endStack_122 : decode prog_14_method_32_code 122 = .ok (.aload_n 0, 1) := by decide +kernel
theorem d_M_endStack_123 : decode prog_14_method_32_code 123 = .ok (.dup, 1) := by decide +kernel
theorem d_M_endStack_124 : decode prog_14_method_32_code 124 = .ok (.getfield 188, 3) := by decide +kernel
theorem d_M_endStack_127 : decode prog_14_method_32_code 127 = .ok (.iconst 1, 1) := by decide +kernel
theorem d_M_endStack_128 : decode prog_14_method_32_code 128 = .ok (.iadd, 1) := by decide +kernel
theorem d_M_endStack_129 : decode prog_14_method_32_code 129 = .ok (.putfield 188, 3) := by decide +kernel
theorem d_M_endStack_132 : decode prog_14_method_32_code 132 = .ok (.lload_n 1, 1) := by decide +kernel
theorem d_M_endStack_133 : decode prog_14_method_32_code 133 = .ok (.bipush 8, 2) := by decide +kernel
theorem d_M_endStack_135 : decode prog_14_method_32_code 135 = .ok (.lshr, 1) := by decide +kernel
theorem d_M_endStack_136 : decode prog_14_method_32_code 136 = .ok (.lstore_n 1, 1) := by decide +kernel
theorem d_M_endStack_137 : decode prog_14_method_32_code 137 = .ok (.goto (-40), 3) := by decide +kernel
theorem d_M_endStack_140 : decode prog_14_method_32_code 140 = .ok (.lload_n 1, 1) := by decide +kernel
theorem d_M_endStack_141 : decode prog_14_method_32_code 141 = .ok (.lload 6, 2) := by decide +kernel
theorem d_M_endStack_143 : decode prog_14_method_32_code 143 = .ok (.ldiv, 1) := by decide +kernel
theorem d_M_endStack_144 : decode prog_14_method_32_code 144 = .ok (.bipush 12, 2) := by decide +kernel
theorem d_M_endStack_146 : decode prog_14_method_32_code 146 = .ok (.lshl, 1) := by decide +kernel
theorem d_M_endStack_147 : decode prog_14_method_32_code 147 = .ok (.lload_n 1, 1) := by decide +kernel
theorem d_M_endStack_148 : decode prog_14_method_32_code 148 = .ok (.lload 6, 2) := by decide +kernel
theorem d_M_endStack_150 : decode prog_14_method_32_code 150 = .ok (.lrem, 1) := by decide +kernel
theorem d_M_endStack_151 : decode prog_14_method_32_code 151 = .ok (.ladd, 1) := by decide +kernel
theorem d_M_endStack_152 : decode prog_14_method_32_code 152 = .ok (.lload 8, 2) := by decide +kernel
theorem d_M_endStack_154 : decode prog_14_method_32_code 154 = .ok (.ladd, 1) := by decide +kernel
theorem d_M_endStack_155 : decode prog_14_method_32_code 155 = .ok (.lstore_n 1, 1) := by decide +kernel
theorem d_M_endStack_156 : decode prog_14_method_32_code 156 = .ok (.iinc 3 (-1), 3) := by decide +kernel
theorem d_M_endStack_159 : decode prog_14_method_32_code 159 = .ok (.goto (-143), 3) := by decide +kernel
theorem d_M_endStack_162 : decode prog_14_method_32_code 162 = .ok (.iconst 0, 1) := by decide +kernel
theorem d_M_endStack_163 : decode prog_14_method_32_code 163 = .ok (.istore_n 3, 1) := by decide +kernel
theorem d_M_endStack_164 : decode prog_14_method_32_code 164 = .ok (.iload_n 3, 1) := by decide +kernel
theorem d_M_endStack_165 : decode prog_14_method_32_code 165 = .ok (.iconst 4, 1) := by decide +kernel
theorem d_M_endStack_166 : decode prog_14_method_32_code 166 = .ok (.if_icmp .ge 39, 3) := by decide +kernel
theorem d_M_endStack_169 : decode prog_14_method_32_code 169 = .ok (.aload_n 0, 1) := by decide +kernel
theorem d_M_endStack_170 : decode prog_14_method_32_code 170 = .ok (.getfield 43, 3) := by decide +kernel
theorem d_M_endStack_173 : decode prog_14_method_32_code 173 = .ok (.aload_n 0, 1) := by decide +kernel
theorem d_M_endStack_174 : decode prog_14_method_32_code 174 = .ok (.getfield 188, 3) := by decide +kernel
theorem d_M_endStack_177 : decode prog_14_method_32_code 177 = .ok (.lload_n 1, 1) := by decide +kernel
theorem d_M_endStack_178 : decode prog_14_method_32_code 178 = .ok (.ldc2_w 128, 3) := by decide +kernel
theorem d_M_endStack_181 : decode prog_14_method_32_code 181 = .ok (.land, 1) := by decide +kernel
theorem d_M_endStack_182 : decode prog_14_method_32_code 182 = .ok (.l2i, 1) := by decide +kernel
theorem d_M_endStack_183 : decode prog_14_method_32_code 183 = .ok (.iastore, 1) := by decide +kernel
theorem d_M_endStack_184 : decode prog_14_method_32_code 184 = .ok (.aload_n 0, 1) := by decide +kernel
theorem d_M_endStack_185 : decode prog_14_method_32_code 185 = .ok (.dup, 1) := by decide +kernel
theorem d_M_endStack_186 : decode prog_14_method_32_code 186 = .ok (.getfield 188, 3) := by decide +kernel
theorem d_M_endStack_189 : decode prog_14_method_32_code 189 = .ok (.iconst 1, 1) := by decide +kernel
theorem d_M_endStack_190 : decode prog_14_method_32_code 190 = .ok (.iadd, 1) := by decide +kernel
theorem d_M_endStack_191 : decode prog_14_method_32_code 191 = .ok (.putfield 188, 3) := by decide +kernel
theorem d_M_endStack_194 : decode prog_14_method_32_code 194 = .ok (.lload_n 1, 1) := by decide +kernel
theorem d_M_endStack_195 : decode prog_14_method_32_code 195 = .ok (.bipush 8, 2) := by decide +kernel
theorem d_M_endStack_197 : decode prog_14_method_32_code 197 = .ok (.lshr, 1) := by decide +kernel
theorem d_M_endStack_198 : decode prog_14_method_32_code 198 = .ok (.lstore_n 1, 1) := by decide +kernel
theorem d_M_endStack_199 : decode prog_14_method_32_code 199 = .ok (.iinc 3 1, 3) := by decide +kernel
theorem d_M_endStack_202 : decode prog_14_method_32_code 202 = .ok (.goto (-38), 3) := by decide +kernel
theorem d_M_endStack_205 : decode prog_14_method_32_code 205 = .ok (.aload_n 0, 1) := by decide +kernel
theorem d_M_endStack_206 : decode prog_14_method_32_code 206 = .ok (.getfield 188, 3) := by decide +kernel
theorem d_M_endStack_209 : decode prog_14_method_32_code 209 = .ok (.iconst 1, 1) := by decide +kernel
theorem d_M_endStack_210 : decode prog_14_method_32_code 210 = .ok (.isub, 1) := by decide +kernel
theorem d_M_endStack_211 : decode prog_14_method_32_code 211 = .ok (.istore_n 3, 1) := by decide +kernel
theorem d_M_endStack_212 : decode prog_14_method_32_code 212 = .ok (.iload_n 3, 1) := by decide +kernel
theorem d_M_endStack_213 : decode prog_14_method_32_code 213 = .ok (.ifCond .lt 19, 3) := by decide +kernel
theorem d_M_endStack_216 : decode prog_14_method_32_code 216 = .ok (.aload_n 0, 1) := by decide +kernel
theorem d_M_endStack_217 : decode prog_14_method_32_code 217 = .ok (.aload_n 0, 1) := by decide +kernel
theorem d_M_endStack_218 : decode prog_14_method_32_code 218 = .ok (.getfield 43, 3) := by decide +kernel
theorem d_M_endStack_221 : decode prog_14_method_32_code 221 = .ok (.iload_n 3, 1) := by decide +kernel
theorem d_M_endStack_222 : decode prog_14_method_32_code 222 = .ok (.iaload, 1) := by decide +kernel
theorem d_M_endStack_223 : decode prog_14_method_32_code 223 = .ok (.invokevirtual 124, 3) := by decide +kernel
theorem d_M_endStack_226 : decode prog_14_method_32_code 226 = .ok (.iinc 3 (-1), 3) := by decide +kernel
theorem d_M_endStack_229 : decode prog_14_method_32_code 229 = .ok (.goto (-17), 3) := by decide +kernel
theorem d_M_endStack_232 : decode prog_14_method_32_code 232 = .ok (.return_, 1) := by decide +kernel
theorem d_M_endTable_0 : decode prog_14_method_35_code 0 = .ok (.aload_n 0, 1) := by decide +kernel
theorem d_M_endTable_1 : decode prog_14_method_35_code 1 = .ok (.iconst 0, 1) := by decide +kernel
theorem d_M_endTable_2 : decode prog_14_method_35_code 2 = .ok (.putfield 188, 3) := by decide +kernel
theorem d_M_endTable_5 : decode prog_14_method_35_code 5 = .ok (.ldc2_w 193, 3) := by decide +kernel
theorem d_M_endTable_8 : decode prog_14_method_35_code 8 = .ok (.lstore_n 1, 1) := by decide +kernel
theorem d_M_endTable_9 : decode prog_14_method_35_code 9 = .ok (.iconst (-1), 1) := by decide +kernel
theorem d_M_endTable_10 : decode prog_14_method_35_code 10 = .ok (.istore_n 3, 1) := by decide +kernel
theorem d_M_endTable_11 : decode prog_14_method_35_code 11 = .ok (.aload_n 0, 1) := by decide +kernel
theorem d_M_endTable_12 : decode prog_14_method_35_code 12 = .ok (.getfield 94, 3) := by decide +kernel
theorem d_M_endTable_15 : decode prog_14_method_35_code 15 = .ok (.iconst 1, 1) := by decide +kernel
theorem d_M_endTable_16 : decode prog_14_method_35_code 16 = .ok (.isub, 1) := by decide +kernel
theorem d_M_endTable_17 : decode prog_14_method_35_code 17 = .ok (.istore 4, 2) := by decide +kernel
theorem d_M_endTable_19 : decode prog_14_method_35_code 19 = .ok (.iload 4, 2) := by decide +kernel
theorem d_M_endTable_21 : decode prog_14_method_35_code 21 = .ok (.ifCond .lt 166, 3) := by decide +kernel
theorem d_M_endTable_24 : decode prog_14_method_35_code 24 = .ok (.aload_n 0, 1) := by decide +kernel
theorem d_M_endTable_25 : decode prog_14_method_35_code 25 = .ok (.getfield 22, 3) := by decide +kernel
theorem d_M_endTable_28 : decode prog_14_method_35_code 28 = .ok (.iload 4, 2) := by decide +kernel
theorem d_M_endTable_30 : decode prog_14_method_35_code 30 = .ok (.iaload, 1) := by decide +kernel
theorem d_M_endTable_31 : decode prog_14_method_35_code 31 = .ok (.istore 5, 2) := by decide +kernel
theorem d_M_endTable_33 : decode prog_14_method_35_code 33 = .ok (.aload_n 0, 1) := by decide +kernel
theorem d_M_endTable_34 : decode prog_14_method_35_code 34 = .ok (.getfield 25, 3) := by decide +kernel
theorem d_M_endTable_37 : decode prog_14_method_35_code 37 = .ok (.iload 4, 2) := by decide +kernel
theorem d_M_endTable_39 : decode prog_14_method_35_code 39 = .ok (.iaload, 1) := by decide +kernel
theorem d_M_endTable_40 : decode prog_14_method_35_code 40 = .ok (.istore 6, 2) := by decide +kernel
theorem d_M_endTable_42 : decode prog_14_method_35_code 42 = .ok (.iload 5, 2) := by decide +kernel
theorem d_M_endTable_44 : decode prog_14_method_35_code 44 = .ok (.ifCond .ge 33, 3) := by decide +kernel
theorem d_M_endTable_47 : decode prog_14_method_35_code 47 = .ok (.iconst 0, 1) := by decide +kernel
theorem d_M_endTable_48 : decode prog_14_method_35_code 48 = .ok (.istore 7, 2) := by decide +kernel
theorem d_M_endTable_50 : decode prog_14_method_35_code 50 = .ok (.iload 7, 2) := by decide +kernel
theorem d_M_endTable_52 : decode prog_14_method_35_code 52 = .ok (.iload 5, 2) := by decide +kernel
theorem d_M_endTable_54 : decode prog_14_method_35_code 54 = .ok (.ineg, 1) := by decide +kernel
theorem d_M_endTable_55 : decode prog_14_method_35_code 55 = .ok (.if_icmp .ge 19, 3) := by decide +kernel
theorem d_M_endTable_58 : decode prog_14_method_35_code 58 = .ok (.aload_n 0, 1) := by decide +kernel
theorem d_M_endTable_59 : decode prog_14_method_35_code 59 = .ok (.iload 6, 2) := by decide +kernel
theorem d_M_endTable_61 : decode prog_14_method_35_code 61 = .ok (.iload 7, 2) := by decide +kernel
theorem d_M_endTable_63 : decode prog_14_method_35_code 63 = .ok (.ishr, 1) := by decide +kernel
theorem d_M_endTable_64 : decode prog_14_method_35_code 64 = .ok (.i2l, 1) := by decide +kernel
theorem d_M_endTable_65 : decode prog_14_method_35_code 65 = .ok (.invokevirtual 195, 3) := by decide +kernel
theorem d_M_endTable_68 : decode prog_14_method_35_code 68 = .ok (.iinc 7 1, 3) := by decide +kernel
theorem d_M_endTable_71 : decode prog_14_method_35_code 71 = .ok (.goto (-21), 3) := by decide +kernel
theorem d_M_endTable_74 : decode prog_14_method_35_code 74 = .ok (.goto 107, 3) := by decide +kernel
theorem d_M_endTable_77 : decode prog_14_method_35_code 77 = .ok (.iload_n 3, 1) := by decide +kernel
theorem d_M_endTable_78 : decode prog_14_method_35_code 78 = .ok (.iload 5, 2) := by decide +kernel
theorem d_M_endTable_80 : decode prog_14_method_35_code 80 = .ok (.if_icmp .eq 16, 3) := by decide +kernel
theorem d_M_endTable_83 : decode prog_14_method_35_code 83 = .ok (.aload_n 0, 1) := by decide +kernel
theorem d_M_endTable_84 : decode prog_14_method_35_code 84 = .ok (.aload_n 0, 1) := by decide +kernel
theorem d_M_endTable_85 : decode prog_14_method_35_code 85 = .ok (.getfield 16, 3) := by decide +kernel
theorem d_M_endTable_88 : decode prog_14_method_35_code 88 = .ok (.iload 5, 2) := by decide +kernel
theorem d_M_endTable_90 : decode prog_14_method_35_code 90 = .ok (.invokevirtual 199, 3) := by decide +kernel
theorem d_M_endTable_93 : decode prog_14_method_35_code 93 = .ok (.iload 5, 2) := by decide +kernel
theorem d_M_endTable_95 : decode prog_14_method_35_code 95 = .ok (.istore_n 3, 1) := by decide +kernel
theorem d_M_endTable_96 : decode prog_14_method_35_code 96 = .ok (.aload_n 0, 1) := by decide +kernel
theorem d_M_endTable_97 : decode prog_14_method_35_code 97 = .ok (.getfield 16, 3) := by decide +kernel
theorem d_M_endTable_100 : decode prog_14_method_35_code 100 = .ok (.bipush 64, 2) := by decide +kernel
theorem d_M_endTable_102 : decode prog_14_method_35_code 102 = .ok (.iload 5, 2) := by decide +kernel
theorem d_M_endTable_104 : decode prog_14_method_35_code 104 = .ok (.imul, 1) := by decide +kernel
theorem d_M_endTable_105 : decode prog_14_method_35_code 105 = .ok (.iload 6, 2) := by decide +kernel
theorem d_M_endTable_107 : decode prog_14_method_35_code 107 = .ok (.iadd, 1) := by decide +kernel
theorem d_M_endTable_108 : decode prog_14_method_35_code 108 = .ok (.iaload, 1) := by decide +kernel
theorem d_M_endTable_109 : decode prog_14_method_35_code 109 = .ok (.istore 7, 2) := by decide +kernel
theorem d_M_endTable_111 : decode prog_14_method_35_code 111 = .ok (.lload_n 1, 1) := by decide +kernel
theorem d_M_endTable_112 : decode prog_14_method_35_code 112 = .ok (.ldc2_w 202, 3) := by decide +kernel
theorem d_M_endTable_115 : decode prog_14_method_35_code 115 = .ok (.iload 7, 2) := by decide +kernel
theorem d_M_endTable_117 : decode prog_14_method_35_code 117 = .ok (.i2l, 1) := by decide +kernel
theorem d_M_endTable_118 : decode prog_14_method_35_code 118 = .ok (.lmul, 1) := by decide +kernel
theorem d_M_endTable_119 : decode prog_14_method_35_code 119 = .ok (.lcmp, 1) := by decide +kernel
theorem d_M_endTable_120 : decode prog_14_method_35_code 120 = .ok (.ifCond .lt 15, 3) := by decide +kernel
theorem d_M_endTable_123 : decode prog_14_method_35_code 123 = .ok (.aload_n 0, 1) := by decide +kernel
theorem d_M_endTable_124 : decode prog_14_method_35_code 124 = .ok (.lload_n 1, 1) := by decide +kernel
theorem d_M_endTable_125 : decode prog_14_method_35_code 125 = .ok (.invokevirtual 195, 3) := by decide +kernel
theorem d_M_endTable_128 : decode prog_14_method_35_code 128 = .ok (.lload_n 1, 1) := by decide +kernel
theorem d_M_endTable_129 : decode prog_14_method_35_code 129 = .ok (.iconst 1, 1) := by decide +kernel
theorem d_M_endTable_130 : decode prog_14_method_35_code 130 = .ok (.lshr, 1) := by decide +kernel
theorem d_M_endTable_131 : decode prog_14_method_35_code 131 = .ok (.lstore_n 1, 1) := by decide +kernel
theorem d_M_endTable_132 : decode prog_14_method_35_code 132 = .ok (.goto (-21), 3) := by decide +kernel
theorem d_M_endTable_135 : decode prog_14_method_35_code 135 = .ok (.iconst 0, 1) := by decide +kernel
theorem d_M_endTable_136 : decode prog_14_method_35_code 136 = .ok (.istore 8, 2) := by decide +kernel
theorem d_M_endTable_138 : decode prog_14_method_35_code 138 = .ok (.aload_n 0, 1) := by decide +kernel
theorem d_M_endTable_139 : decode prog_14_method_35_code 139 = .ok (.getfield 37, 3) := by decide +kernel
theorem d_M_endTable_142 : decode prog_14_method_35_code 142 = .ok (.iload 8, 2) := by decide +kernel
theorem d_M_endTable_144 : decode prog_14_method_35_code 144 = .ok (.iaload, 1) := by decide +kernel
theorem d_M_endTable_145 : decode prog_14_method_35_code 145 = .ok (.iload 6, 2) := by decide +kernel
theorem d_M_endTable_147 : decode prog_14_method_35_code 147 = .ok (.if_icmp .ne 20, 3) := by decide +kernel
theorem d_M_endTable_150 : decode prog_14_method_35_code 150 = .ok (.aload_n 0, 1) := by decide +kernel
theorem d_M_endTable_151 : decode prog_14_method_35_code 151 = .ok (.getfield 40, 3) := by decide +kernel
theorem d_M_endTable_154 : decode prog_14_method_35_code 154 = .ok (.iload 8, 2) := by decide +kernel
theorem d_M_endTable_156 : decode prog_14_method_35_code 156 = .ok (.iaload, 1) := by decide +kernel
theorem d_M_endTable_157 : decode prog_14_method_35_code 157 = .ok (.i2l, 1) := by decide +kernel
theorem d_M_endTable_158 : decode prog_14_method_35_code 158 = .ok (.lload_n 1, 1) := by decide +kernel
theorem d_M_endTable_159 : decode prog_14_method_35_code 159 = .ok (.iload 7, 2) := by decide +kernel
theorem d_M_endTable_161 : decode prog_14_method_35_code 161 = .ok (.i2l, 1) := by decide +kernel
theorem d_M_endTable_162 : decode prog_14_method_35_code 162 = .ok (.lsub, 1) := by decide +kernel
theorem d_M_endTable_163 : decode prog_14_method_35_code 163 = .ok (.lcmp, 1) := by decide +kernel
theorem d_M_endTable_164 : decode prog_14_method_35_code 164 = .ok (.ifCond .eq 9, 3) := by decide +kernel
theorem d_M_endTable_167 : decode prog_14_method_35_code 167 = .ok (.iinc 8 1, 3) := by decide +kernel
theorem d_M_endTable_170 : decode prog_14_method_35_code 170 = .ok (.goto (-32), 3) := by decide +kernel
theorem d_M_endTable_173 : decode prog_14_method_35_code 173 = .ok (.ldc2_w 193, 3) := by decide +kernel
theorem d_M_endTable_176 : decode prog_14_method_35_code 176 = .ok (.iload 8, 2) := by decide +kernel
theorem d_M_endTable_178 : decode prog_14_method_35_code 178 = .ok (.i2l, 1) := by decide +kernel
theorem d_M_endTable_179 : decode prog_14_method_35_code 179 = .ok (.ladd, 1) := by decide +kernel
theorem d_M_endTable_180 : decode prog_14_method_35_code 180 = .ok (.lstore_n 1, 1) := by decide +kernel
theorem d_M_endTable_181 : decode prog_14_method_35_code 181 = .ok (.iinc 4 (-1), 3) := by decide +kernel
theorem d_M_endTable_184 : decode prog_14_method_35_code 184 = .ok (.goto (-165), 3) := by decide +kernel
theorem d_M_endTable_187 : decode prog_14_method_35_code 187 = .ok (.iconst 0, 1) := by decide +kernel
theorem d_M_endTable_188 : decode prog_14_method_35_code 188 = .ok (.istore 4, 2) := by decide +kernel
theorem d_M_endTable_190 : decode prog_14_method_35_code 190 = .ok (.iload 4, 2) := by decide +kernel
theorem d_M_endTable_192 : decode prog_14_method_35_code 192 = .ok (.bipush 9, 2) := by decide +kernel
theorem d_M_endTable_194 : decode prog_14_method_35_code 194 = .ok (.if_icmp .ge 21, 3) := by decide +kernel
theorem d_M_endTable_197 : decode prog_14_method_35_code 197 = .ok (.aload_n 0, 1) := by decide +kernel
theorem d_M_endTable_198 : decode prog_14_method_35_code 198 = .ok (.lload_n 1, 1) := by decide +kernel
theorem d_M_endTable_199 : decode prog_14_method_35_code 199 = .ok (.ldc2_w 193, 3) := by decide +kernel
theorem d_M_endTable_202 : decode prog_14_method_35_code 202 = .ok (.lsub, 1) := by decide +kernel
theorem d_M_endTable_203 : decode prog_14_method_35_code 203 = .ok (.iload 4, 2) := by decide +kernel
theorem d_M_endTable_205 : decode prog_14_method_35_code 205 = .ok (.lshr, 1) := by decide +kernel
theorem d_M_endTable_206 : decode prog_14_method_35_code 206 = .ok (.invokevirtual 195, 3) := by decide +kernel
theorem d_M_endTable_209 : decode prog_14_method_35_code 209 = .ok (.iinc 4 1, 3) := by decide +kernel
theorem d_M_endTable_212 : decode prog_14_method_35_code 212 = .ok (.goto (-22), 3) := by decide +kernel
theorem d_M_endTable_215 : decode prog_14_method_35_code 215 = .ok (.iconst 0, 1) := by decide +kernel
theorem d_M_endTable_216 : decode prog_14_method_35_code 216 = .ok (.istore 4, 2) := by decide +kernel
theorem d_M_endTable_218 : decode prog_14_method_35_code 218 = .ok (.iconst 0, 1) := by decide +kernel
theorem d_M_endTable_219 : decode prog_14_method_35_code 219 = .ok (.istore 5, 2) := by decide +kernel
theorem d_M_endTable_221 : decode prog_14_method_35_code 221 = .ok (.aload_n 0, 1) := by decide +kernel
theorem d_M_endTable_222 : decode prog_14_method_35_code 222 = .ok (.getfield 188, 3) := by decide +kernel
theorem d_M_endTable_225 : decode prog_14_method_35_code 225 = .ok (.iconst 1, 1) := by decide +kernel
theorem d_M_endTable_226 : decode prog_14_method_35_code 226 = .ok (.isub, 1) := by decide +kernel
theorem d_M_endTable_227 : decode prog_14_method_35_code 227 = .ok (.istore 6, 2) := by decide +kernel
theorem d_M_endTable_229 : decode prog_14_method_35_code 229 = .ok (.iload 6, 2) := by decide +kernel
theorem d_M_endTable_231 : decode prog_14_method_35_code 231 = .ok (.ifCond .lt 45, 3) := by decide +kernel
theorem d_M_endTable_234 : decode prog_14_method_35_code 234 = .ok (.iconst 2, 1) := by decide +kernel
theorem d_M_endTable_235 : decode prog_14_method_35_code 235 = .ok (.iload 4, 2) := by decide +kernel
theorem d_M_endTable_237 : decode prog_14_method_35_code 237 = .ok (.imul, 1) := by decide +kernel
theorem d_M_endTable_238 : decode prog_14_method_35_code 238 = .ok (.aload_n 0, 1) := by decide +kernel
theorem d_M_endTable_239 : decode prog_14_method_35_code 239 = .ok (.getfield 43, 3) := by decide +kernel
theorem d_M_endTable_242 : decode prog_14_method_35_code 242 = .ok (.iload 6, 2) := by decide +kernel
theorem d_M_endTable_244 : decode prog_14_method_35_code 244 = .ok (.iaload, 1) := by decide +kernel
theorem d_M_endTable_245 : decode prog_14_method_35_code 245 = .ok (.iadd, 1) := by decide +kernel
theorem d_M_endTable_246 : decode prog_14_method_35_code 246 = .ok (.istore 4, 2) := by decide +kernel
theorem d_M_endTable_248 : decode prog_14_method_35_code 248 = .ok (.iinc 5 1, 3) := by decide +kernel
theorem d_M_endTable_251 : decode prog_14_method_35_code 251 = .ok (.iload 5, 2) := by decide +kernel
theorem d_M_endTable_253 : decode prog_14_method_35_code 253 = .ok (.bipush 8, 2) := by decide +kernel
theorem d_M_endTable_255 : decode prog_14_method_35_code 255 = .ok (.if_icmp .ne 15, 3) := by decide +kernel
theorem d_M_endTable_258 : decode prog_14_method_35_code 258 = .ok (.aload_n 0, 1) := by decide +kernel
theorem d_M_endTable_259 : decode prog_14_method_35_code 259 = .ok (.iload 4, 2) := by decide +kernel
theorem d_M_endTable_261 : decode prog_14_method_35_code 261 = .ok (.invokevirtual 124, 3) := by decide +kernel
theorem d_M_endTable_264 : decode prog_14_method_35_code 264 = .ok (.iconst 0, 1) := by decide +kernel
theorem d_M_endTable_265 : decode prog_14_method_35_code 265 = .ok (.istore 4, 2) := by decide +kernel
theorem d_M_endTable_267 : decode prog_14_method_35_code 267 = .ok (.iconst 0, 1) := by decide +kernel
theorem d_M_endTable_268 : decode prog_14_method_35_code 268 = .ok (.istore 5, 2) := by decide +kernel
theorem d_M_endTable_270 : decode prog_14_method_35_code 270 = .ok (.iinc 6 (-1), 3) := by decide +kernel
theorem d_M_endTable_273 : decode prog_14_method_35_code 273 = .ok (.goto (-44), 3) := by decide +kernel
theorem d_M_endTable_276 : decode prog_14_method_35_code 276 = .ok (.iload 5, 2) := by decide +kernel
theorem d_M_endTable_278 : decode prog_14_method_35_code 278 = .ok (.ifCond .le 15, 3) := by decide +kernel
theorem d_M_endTable_281 : decode prog_14_method_35_code 281 = .ok (.aload_n 0, 1) := by decide +kernel
theorem d_M_endTable_282 : decode prog_14_method_35_code 282 = .ok (.iload 4, 2) := by decide +kernel
theorem d_M_endTable_284 : decode prog_14_method_35_code 284 = .ok (.bipush 8, 2) := by decide +kernel
theorem d_M_endTable_286 : decode prog_14_method_35_code 286 = .ok (.iload 5, 2) := by decide +kernel
theorem d_M_endTable_288 : decode prog_14_method_35_code 288 = .ok (.isub, 1) := by decide +kernel
theorem d_M_endTable_289 : decode prog_14_method_35_code 289 = .ok (.ishl, 1) := by decide +kernel
theorem d_M_endTable_290 : decode prog_14_method_35_code 290 = .ok (.invokevirtual 124, 3) := by decide +kernel
theorem d_M_endTable_293 : decode prog_14_method_35_code 293 = .ok (.return_, 1) := by decide +kernel
theorem d_M_writeBit_0 : decode prog_14_method_34_code 0 = .ok (.aload_n 0, 1) := by decide +kernel
theorem d_M_writeBit_1 : decode prog_14_method_34_code 1 = .ok (.getfield 43, 3) := by decide +kernel
theorem d_M_writeBit_4 : decode prog_14_method_34_code 4 = .ok (.aload_n 0, 1) := by decide +kernel
theorem d_M_writeBit_5 : decode prog_14_method_34_code 5 = .ok (.getfield 188, 3) := by decide +kernel
theorem d_M_writeBit_8 : decode prog_14_method_34_code 8 = .ok (.lload_n 1, 1) := by decide +kernel
theorem d_M_writeBit_9 : decode prog_14_method_34_code 9 = .ok (.lconst 1, 1) := by decide +kernel
theorem d_M_writeBit_10 : decode prog_14_method_34_code 10 = .ok (.land, 1) := by decide +kernel
theorem d_M_writeBit_11 : decode prog_14_method_34_code 11 = .ok (.l2i, 1) := by decide +kernel
theorem d_M_writeBit_12 : decode prog_14_method_34_code 12 = .ok (.iastore, 1) := by decide +kernel
theorem d_M_writeBit_13 : decode prog_14_method_34_code 13 = .ok (.aload_n 0, 1) := by decide +kernel
theorem d_M_writeBit_14 : decode prog_14_method_34_code 14 = .ok (.dup, 1) := by decide +kernel
theorem d_M_writeBit_15 : decode prog_14_method_34_code 15 = .ok (.getfield 188, 3) := by decide +kernel
theorem d_M_writeBit_18 : decode prog_14_method_34_code 18 = .ok (.iconst 1, 1) := by decide +kernel
theorem d_M_writeBit_19 : decode prog_14_method_34_code 19 = .ok (.iadd, 1) := by decide +kernel
theorem d_M_writeBit_20 : decode prog_14_method_34_code 20 = .ok (.putfield 188, 3) := by decide +kernel
theorem d_M_writeBit_23 : decode prog_14_method_34_code 23 = .ok (.return_, 1) := by decide +kernel
theorem d_M_lay_0 : decode prog_14_method_33_code 0 = .ok (.iconst 0, 1) := by decide +kernel
theorem d_M_lay_1 : decode prog_14_method_33_code 1 = .ok (.istore_n 3, 1) := by decide +kernel
theorem d_M_lay_2 : decode prog_14_method_33_code 2 = .ok (.iconst 0, 1) := by decide +kernel
theorem d_M_lay_3 : decode prog_14_method_33_code 3 = .ok (.istore 4, 2) := by decide +kernel
theorem d_M_lay_5 : decode prog_14_method_33_code 5 = .ok (.iload 4, 2) := by decide +kernel
theorem d_M_lay_7 : decode prog_14_method_33_code 7 = .ok (.aload_n 0, 1) := by decide +kernel
theorem d_M_lay_8 : decode prog_14_method_33_code 8 = .ok (.getfield 7, 3) := by decide +kernel
theorem d_M_lay_11 : decode prog_14_method_33_code 11 = .ok (.iload_n 2, 1) := by decide +kernel
theorem d_M_lay_12 : decode prog_14_method_33_code 12 = .ok (.iaload, 1) := by decide +kernel
theorem d_M_lay_13 : decode prog_14_method_33_code 13 = .ok (.if_icmp .ge 50, 3) := by decide +kernel
theorem d_M_lay_16 : decode prog_14_method_33_code 16 = .ok (.iconst 0, 1) := by decide +kernel
theorem d_M_lay_17 : decode prog_14_method_33_code 17 = .ok (.istore 5, 2) := by decide +kernel
theorem d_M_lay_19 : decode prog_14_method_33_code 19 = .ok (.iload 5, 2) := by decide +kernel
theorem d_M_lay_21 : decode prog_14_method_33_code 21 = .ok (.aload_n 1, 1) := by decide +kernel
theorem d_M_lay_22 : decode prog_14_method_33_code 22 = .ok (.bipush 64, 2) := by decide +kernel
theorem d_M_lay_24 : decode prog_14_method_33_code 24 = .ok (.iload_n 2, 1) := by decide +kernel
theorem d_M_lay_25 : decode prog_14_method_33_code 25 = .ok (.imul, 1) := by decide +kernel
theorem d_M_lay_26 : decode prog_14_method_33_code 26 = .ok (.iload 4, 2) := by decide +kernel
theorem d_M_lay_28 : decode prog_14_method_33_code 28 = .ok (.iadd, 1) := by decide +kernel
theorem d_M_lay_29 : decode prog_14_method_33_code 29 = .ok (.iaload, 1) := by decide +kernel
theorem d_M_lay_30 : decode prog_14_method_33_code 30 = .ok (.if_icmp .ge 27, 3) := by decide +kernel
theorem d_M_lay_33 : decode prog_14_method_33_code 33 = .ok (.aload_n 0, 1) := by decide +kernel
theorem d_M_lay_34 : decode prog_14_method_33_code 34 = .ok (.getfield 37, 3) := by decide +kernel
theorem d_M_lay_37 : decode prog_14_method_33_code 37 = .ok (.iload_n 3, 1) := by decide +kernel
theorem d_M_lay_38 : decode prog_14_method_33_code 38 = .ok (.iload 4, 2) := by decide +kernel
theorem d_M_lay_40 : decode prog_14_method_33_code 40 = .ok (.iastore, 1) := by decide +kernel
theorem d_M_lay_41 : decode prog_14_method_33_code 41 = .ok (.iload_n 3, 1) := by decide +kernel
theorem d_M_lay_42 : decode prog_14_method_33_code 42 = .ok (.sipush 323, 3) := by decide +kernel
theorem d_M_lay_45 : decode prog_14_method_33_code 45 = .ok (.iadd, 1) := by decide +kernel
theorem d_M_lay_46 : decode prog_14_method_33_code 46 = .ok (.sipush 512, 3) := by decide +kernel
theorem d_M_lay_49 : decode prog_14_method_33_code 49 = .ok (.irem, 1) := by decide +kernel
theorem d_M_lay_50 : decode prog_14_method_33_code 50 = .ok (.istore_n 3, 1) := by decide +kernel
theorem d_M_lay_51 : decode prog_14_method_33_code 51 = .ok (.iinc 5 1, 3) := by decide +kernel
theorem d_M_lay_54 : decode prog_14_method_33_code 54 = .ok (.goto (-35), 3) := by decide +kernel
theorem d_M_lay_57 : decode prog_14_method_33_code 57 = .ok (.iinc 4 1, 3) := by decide +kernel
theorem d_M_lay_60 : decode prog_14_method_33_code 60 = .ok (.goto (-55), 3) := by decide +kernel
theorem d_M_lay_63 : decode prog_14_method_33_code 63 = .ok (.iconst 0, 1) := by decide +kernel
theorem d_M_lay_64 : decode prog_14_method_33_code 64 = .ok (.istore 4, 2) := by decide +kernel
theorem d_M_lay_66 : decode prog_14_method_33_code 66 = .ok (.iload 4, 2) := by decide +kernel
theorem d_M_lay_68 : decode prog_14_method_33_code 68 = .ok (.sipush 512, 3) := by decide +kernel
theorem d_M_lay_71 : decode prog_14_method_33_code 71 = .ok (.if_icmp .ge 65, 3) := by decide +kernel
theorem d_M_lay_74 : decode prog_14_method_33_code 74 = .ok (.iconst 0, 1) := by decide +kernel
theorem d_M_lay_75 : decode prog_14_method_33_code 75 = .ok (.istore 5, 2) := by decide +kernel
theorem d_M_lay_77 : decode prog_14_method_33_code 77 = .ok (.iconst 0, 1) := by decide +kernel
theorem d_M_lay_78 : decode prog_14_method_33_code 78 = .ok (.istore 6, 2) := by decide +kernel
theorem d_M_lay_80 : decode prog_14_method_33_code 80 = .ok (.iload 6, 2) := by decide +kernel
theorem d_M_lay_82 : decode prog_14_method_33_code 82 = .ok (.iload 4, 2) := by decide +kernel
theorem d_M_lay_84 : decode prog_14_method_33_code 84 = .ok (.if_icmp .ge 37, 3) := by decide +kernel
theorem d_M_lay_87 : decode prog_14_method_33_code 87 = .ok (.aload_n 0, 1) := by decide +kernel
theorem d_M_lay_88 : decode prog_14_method_33_code 88 = .ok (.getfield 37, 3) := by decide +kernel
theorem d_M_lay_91 : decode prog_14_method_33_code 91 = .ok (.iload 6, 2) := by decide +kernel
theorem d_M_lay_93 : decode prog_14_method_33_code 93 = .ok (.iaload, 1) := by decide +kernel
theorem d_M_lay_94 : decode prog_14_method_33_code 94 = .ok (.aload_n 0, 1) := by decide +kernel
theorem d_M_lay_95 : decode prog_14_method_33_code 95 = .ok (.getfield 37, 3) := by decide +kernel
theorem d_M_lay_98 : decode prog_14_method_33_code 98 = .ok (.iload 4, 2) := by decide +kernel
theorem d_M_lay_100 : decode prog_14_method_33_code 100 = .ok (.iaload, 1) := by decide +kernel
theorem d_M_lay_101 : decode prog_14_method_33_code 101 = .ok (.if_icmp .ne 10, 3) := by decide +kernel
theorem d_M_lay_104 : decode prog_14_method_33_code 104 = .ok (.iload 5, 2) := by decide +kernel
theorem d_M_lay_106 : decode prog_14_method_33_code 106 = .ok (.iconst 1, 1) := by decide +kernel
theorem d_M_lay_107 : decode prog_14_method_33_code 107 = .ok (.iadd, 1) := by decide +kernel
theorem d_M_lay_108 : decode prog_14_method_33_code 108 = .ok (.goto 5, 3) := by decide +kernel
theorem d_M_lay_111 : decode prog_14_method_33_code 111 = .ok (.iload 5, 2) := by decide +kernel
theorem d_M_lay_113 : decode prog_14_method_33_code 113 = .ok (.istore 5, 2) := by decide +kernel
theorem d_M_lay_115 : decode prog_14_method_33_code 115 = .ok (.iinc 6 1, 3) := by decide +kernel
theorem d_M_lay_118 : decode prog_14_method_33_code 118 = .ok (.goto (-38), 3) := by decide +kernel
theorem d_M_lay_121 : decode prog_14_method_33_code 121 = .ok (.aload_n 0, 1) := by decide +kernel
theorem d_M_lay_122 : decode prog_14_method_33_code 122 = .ok (.getfield 40, 3) := by decide +kernel
theorem d_M_lay_125 : decode prog_14_method_33_code 125 = .ok (.iload 4, 2) := by decide +kernel
theorem d_M_lay_127 : decode prog_14_method_33_code 127 = .ok (.iload 5, 2) := by decide +kernel
theorem d_M_lay_129 : decode prog_14_method_33_code 129 = .ok (.iastore, 1) := by decide +kernel
theorem d_M_lay_130 : decode prog_14_method_33_code 130 = .ok (.iinc 4 1, 3) := by decide +kernel
theorem d_M_lay_133 : decode prog_14_method_33_code 133 = .ok (.goto (-67), 3) := by decide +kernel
theorem d_M_lay_136 : decode prog_14_method_33_code 136 = .ok (.return_, 1) := by decide +kernel
theorem d_M_out_0 : decode prog_14_method_36_code 0 = .ok (.aload_n 0, 1) := by decide +kernel
theorem d_M_out_1 : decode prog_14_method_36_code 1 = .ok (.iconst 0, 1) := by decide +kernel
theorem d_M_out_2 : decode prog_14_method_36_code 2 = .ok (.putfield 56, 3) := by decide +kernel
theorem d_M_out_5 : decode prog_14_method_36_code 5 = .ok (.iload_n 1, 1) := by decide +kernel
theorem d_M_out_6 : decode prog_14_method_36_code 6 = .ok (.iconst 0, 1) := by decide +kernel
theorem d_M_out_7 : decode prog_14_method_36_code 7 = .ok (.aload_n 0, 1) := by decide +kernel
theorem d_M_out_8 : decode prog_14_method_36_code 8 = .ok (.getfield 185, 3) := by decide +kernel
theorem d_M_out_11 : decode prog_14_method_36_code 11 = .ok (.iconst 1, 1) := by decide +kernel
theorem d_M_out_12 : decode prog_14_method_36_code 12 = .ok (.isub, 1) := by decide +kernel
theorem d_M_out_13 : decode prog_14_method_36_code 13 = .ok (.invokestatic 62, 3) := by decide +kernel
theorem d_M_out_16 : decode prog_14_method_36_code 16 = .ok (.ifCond .eq 12, 3) := by decide +kernel
theorem d_M_out_19 : decode prog_14_method_36_code 19 = .ok (.aload_n 0, 1) := by decide +kernel
theorem d_M_out_20 : decode prog_14_method_36_code 20 = .ok (.getfield 31, 3) := by decide +kernel
theorem d_M_out_23 : decode prog_14_method_36_code 23 = .ok (.iload_n 1, 1) := by decide +kernel
theorem d_M_out_24 : decode prog_14_method_36_code 24 = .ok (.iaload, 1) := by decide +kernel
theorem d_M_out_25 : decode prog_14_method_36_code 25 = .ok (.goto 4, 3) := by decide +kernel
theorem d_M_out_28 : decode prog_14_method_36_code 28 = .ok (.iconst (-1), 1) := by decide +kernel
theorem d_M_out_29 : decode prog_14_method_36_code 29 = .ok (.ireturn, 1) := by decide +kernel
theorem d_M_octets_0 : decode prog_14_method_37_code 0 = .ok (.aload_n 0, 1) := by decide +kernel
theorem d_M_octets_1 : decode prog_14_method_37_code 1 = .ok (.iconst 0, 1) := by decide +kernel
theorem d_M_octets_2 : decode prog_14_method_37_code 2 = .ok (.putfield 56, 3) := by decide +kernel
theorem d_M_octets_5 : decode prog_14_method_37_code 5 = .ok (.aload_n 0, 1) := by decide +kernel
theorem d_M_octets_6 : decode prog_14_method_37_code 6 = .ok (.getfield 204, 3) := by decide +kernel
theorem d_M_octets_9 : decode prog_14_method_37_code 9 = .ok (.iconst 4, 1) := by decide +kernel
theorem d_M_octets_10 : decode prog_14_method_37_code 10 = .ok (.iadd, 1) := by decide +kernel
theorem d_M_octets_11 : decode prog_14_method_37_code 11 = .ok (.sipush 6000, 3) := by decide +kernel
theorem d_M_octets_14 : decode prog_14_method_37_code 14 = .ok (.if_icmp .le 6, 3) := by decide +kernel
theorem d_M_octets_17 : decode prog_14_method_37_code 17 = .ok (.bipush (-4), 2) := by decide +kernel
theorem d_M_octets_19 : decode prog_14_method_37_code 19 = .ok (.ireturn, 1) := by decide +kernel
theorem d_M_octets_20 : decode prog_14_method_37_code 20 = .ok (.iconst 3, 1) := by decide +kernel
theorem d_M_octets_21 : decode prog_14_method_37_code 21 = .ok (.istore_n 2, 1) := by decide +kernel
theorem d_M_octets_22 : decode prog_14_method_37_code 22 = .ok (.iload_n 2, 1) := by decide +kernel
theorem d_M_octets_23 : decode prog_14_method_37_code 23 = .ok (.ifCond .lt 38, 3) := by decide +kernel
theorem d_M_octets_26 : decode prog_14_method_37_code 26 = .ok (.aload_n 0, 1) := by decide +kernel
theorem d_M_octets_27 : decode prog_14_method_37_code 27 = .ok (.getfield 34, 3) := by decide +kernel
theorem d_M_octets_30 : decode prog_14_method_37_code 30 = .ok (.aload_n 0, 1) := by decide +kernel
theorem d_M_octets_31 : decode prog_14_method_37_code 31 = .ok (.getfield 204, 3) := by decide +kernel
theorem d_M_octets_34 : decode prog_14_method_37_code 34 = .ok (.iload_n 1, 1) := by decide +kernel
theorem d_M_octets_35 : decode prog_14_method_37_code 35 = .ok (.bipush 8, 2) := by decide +kernel
theorem d_M_octets_37 : decode prog_14_method_37_code 37 = .ok (.iload_n 2, 1) := by decide +kernel
theorem d_M_octets_38 : decode prog_14_method_37_code 38 = .ok (.imul, 1) := by decide +kernel
theorem d_M_octets_39 : decode prog_14_method_37_code 39 = .ok (.ishr, 1) := by decide +kernel
theorem d_M_octets_40 : decode prog_14_method_37_code 40 = .ok (.sipush 255, 3) := by decide +kernel
theorem d_M_octets_43 : decode prog_14_method_37_code 43 = .ok (.iand, 1) := by decide +kernel
theorem d_M_octets_44 : decode prog_14_method_37_code 44 = .ok (.iastore, 1) := by decide +kernel
theorem d_M_octets_45 : decode prog_14_method_37_code 45 = .ok (.aload_n 0, 1) := by decide +kernel
theorem d_M_octets_46 : decode prog_14_method_37_code 46 = .ok (.dup, 1) := by decide +kernel
theorem d_M_octets_47 : decode prog_14_method_37_code 47 = .ok (.getfield 204, 3) := by decide +kernel
theorem d_M_octets_50 : decode prog_14_method_37_code 50 = .ok (.iconst 1, 1) := by decide +kernel
theorem d_M_octets_51 : decode prog_14_method_37_code 51 = .ok (.iadd, 1) := by decide +kernel
theorem d_M_octets_52 : decode prog_14_method_37_code 52 = .ok (.putfield 204, 3) := by decide +kernel
theorem d_M_octets_55 : decode prog_14_method_37_code 55 = .ok (.iinc 2 (-1), 3) := by decide +kernel
theorem d_M_octets_58 : decode prog_14_method_37_code 58 = .ok (.goto (-36), 3) := by decide +kernel
theorem d_M_octets_61 : decode prog_14_method_37_code 61 = .ok (.aload_n 0, 1) := by decide +kernel
theorem d_M_octets_62 : decode prog_14_method_37_code 62 = .ok (.getfield 204, 3) := by decide +kernel
theorem d_M_octets_65 : decode prog_14_method_37_code 65 = .ok (.ireturn, 1) := by decide +kernel
theorem d_M_take_0 : decode prog_14_method_38_code 0 = .ok (.aload_n 0, 1) := by decide +kernel
theorem d_M_take_1 : decode prog_14_method_38_code 1 = .ok (.iconst 0, 1) := by decide +kernel
theorem d_M_take_2 : decode prog_14_method_38_code 2 = .ok (.putfield 56, 3) := by decide +kernel
theorem d_M_take_5 : decode prog_14_method_38_code 5 = .ok (.iload_n 1, 1) := by decide +kernel
theorem d_M_take_6 : decode prog_14_method_38_code 6 = .ok (.ifCond .lt 18, 3) := by decide +kernel
theorem d_M_take_9 : decode prog_14_method_38_code 9 = .ok (.iload_n 1, 1) := by decide +kernel
theorem d_M_take_10 : decode prog_14_method_38_code 10 = .ok (.iconst 1, 1) := by decide +kernel
theorem d_M_take_11 : decode prog_14_method_38_code 11 = .ok (.if_icmp .le 16, 3) := by decide +kernel
theorem d_M_take_14 : decode prog_14_method_38_code 14 = .ok (.iload_n 1, 1) := by decide +kernel
theorem d_M_take_15 : decode prog_14_method_38_code 15 = .ok (.iconst 2, 1) := by decide +kernel
theorem d_M_take_16 : decode prog_14_method_38_code 16 = .ok (.isub, 1) := by decide +kernel
theorem d_M_take_17 : decode prog_14_method_38_code 17 = .ok (.aload_n 0, 1) := by decide +kernel
theorem d_M_take_18 : decode prog_14_method_38_code 18 = .ok (.getfield 185, 3) := by decide +kernel
theorem d_M_take_21 : decode prog_14_method_38_code 21 = .ok (.if_icmp .le 6, 3) := by decide +kernel
theorem d_M_take_24 : decode prog_14_method_38_code 24 = .ok (.bipush (-2), 2) := by decide +kernel
theorem d_M_take_26 : decode prog_14_method_38_code 26 = .ok (.ireturn, 1) := by decide +kernel
theorem d_M_take_27 : decode prog_14_method_38_code 27 = .ok (.iload_n 1, 1) := by decide +kernel
theorem d_M_take_28 : decode prog_14_method_38_code 28 = .ok (.ifCond .ne 7, 3) := by decide +kernel
theorem d_M_take_31 : decode prog_14_method_38_code 31 = .ok (.iconst 0, 1) := by decide +kernel
theorem d_M_take_32 : decode prog_14_method_38_code 32 = .ok (.goto 18, 3) := by decide +kernel
theorem d_M_take_35 : decode prog_14_method_38_code 35 = .ok (.iload_n 1, 1) := by decide +kernel
theorem d_M_take_36 : decode prog_14_method_38_code 36 = .ok (.iconst 1, 1) := by decide +kernel
theorem d_M_take_37 : decode prog_14_method_38_code 37 = .ok (.if_icmp .ne 10, 3) := by decide +kernel
theorem d_M_take_40 : decode prog_14_method_38_code 40 = .ok (.aload_n 0, 1) := by decide +kernel
theorem d_M_take_41 : decode prog_14_method_38_code 41 = .ok (.getfield 185, 3) := by decide +kernel
theorem d_M_take_44 : decode prog_14_method_38_code 44 = .ok (.goto 6, 3) := by decide +kernel
theorem d_M_take_47 : decode prog_14_method_38_code 47 = .ok (.iload_n 1, 1) := by decide +kernel
theorem d_M_take_48 : decode prog_14_method_38_code 48 = .ok (.iconst 2, 1) := by decide +kernel
theorem d_M_take_49 : decode prog_14_method_38_code 49 = .ok (.isub, 1) := by decide +kernel
theorem d_M_take_50 : decode prog_14_method_38_code 50 = .ok (.istore_n 2, 1) := by decide +kernel
theorem d_M_take_51 : decode prog_14_method_38_code 51 = .ok (.iload_n 2, 1) := by decide +kernel
theorem d_M_take_52 : decode prog_14_method_38_code 52 = .ok (.sipush 6000, 3) := by decide +kernel
theorem d_M_take_55 : decode prog_14_method_38_code 55 = .ok (.if_icmp .le 9, 3) := by decide +kernel
theorem d_M_take_64 : decode prog_14_method_38_code 64 = .ok (.iload_n 2, 1) := by decide +kernel
theorem d_M_take_65 : decode prog_14_method_38_code 65 = .ok (.istore_n 2, 1) := by decide +kernel
theorem d_M_take_66 : decode prog_14_method_38_code 66 = .ok (.iconst 0, 1) := by decide +kernel
theorem d_M_take_67 : decode prog_14_method_38_code 67 = .ok (.istore_n 3, 1) := by decide +kernel
theorem d_M_take_68 : decode prog_14_method_38_code 68 = .ok (.iload_n 3, 1) := by decide +kernel
theorem d_M_take_69 : decode prog_14_method_38_code 69 = .ok (.iload_n 2, 1) := by decide +kernel
theorem d_M_take_70 : decode prog_14_method_38_code 70 = .ok (.if_icmp .ge 21, 3) := by decide +kernel
theorem d_M_take_73 : decode prog_14_method_38_code 73 = .ok (.aload_n 0, 1) := by decide +kernel
theorem d_M_take_74 : decode prog_14_method_38_code 74 = .ok (.getfield 34, 3) := by decide +kernel
theorem d_M_take_77 : decode prog_14_method_38_code 77 = .ok (.iload_n 3, 1) := by decide +kernel
theorem d_M_take_78 : decode prog_14_method_38_code 78 = .ok (.aload_n 0, 1) := by decide +kernel
theorem d_M_take_79 : decode prog_14_method_38_code 79 = .ok (.getfield 31, 3) := by decide +kernel
theorem d_M_take_82 : decode prog_14_method_38_code 82 = .ok (.iload_n 3, 1) := by decide +kernel
theorem d_M_take_83 : decode prog_14_method_38_code 83 = .ok (.iaload, 1) := by decide +kernel
theorem d_M_take_84 : decode prog_14_method_38_code 84 = .ok (.iastore, 1) := by decide +kernel
theorem d_M_take_85 : decode prog_14_method_38_code 85 = .ok (.iinc 3 1, 3) := by decide +kernel
theorem d_M_take_88 : decode prog_14_method_38_code 88 = .ok (.goto (-20), 3) := by decide +kernel
theorem d_M_take_91 : decode prog_14_method_38_code 91 = .ok (.aload_n 0, 1) := by decide +kernel
theorem d_M_take_92 : decode prog_14_method_38_code 92 = .ok (.iload_n 2, 1) := by decide +kernel
theorem d_M_take_93 : decode prog_14_method_38_code 93 = .ok (.putfield 204, 3) := by decide +kernel
theorem d_M_take_96 : decode prog_14_method_38_code 96 = .ok (.aload_n 0, 1) := by decide +kernel
theorem d_M_take_97 : decode prog_14_method_38_code 97 = .ok (.iconst 0, 1) := by decide +kernel
theorem d_M_take_98 : decode prog_14_method_38_code 98 = .ok (.putfield 101, 3) := by decide +kernel
theorem d_M_take_101 : decode prog_14_method_38_code 101 = .ok (.aload_n 0, 1) := by decide +kernel
theorem d_M_take_102 : decode prog_14_method_38_code 102 = .ok (.getfield 204, 3) := by decide +kernel
theorem d_M_take_105 : decode prog_14_method_38_code 105 = .ok (.ireturn, 1) := by decide +kernel
theorem d_M_spoil_0 : decode prog_14_method_39_code 0 = .ok (.aload_n 0, 1) := by decide +kernel
theorem d_M_spoil_1 : decode prog_14_method_39_code 1 = .ok (.iconst 0, 1) := by decide +kernel
theorem d_M_spoil_2 : decode prog_14_method_39_code 2 = .ok (.putfield 56, 3) := by decide +kernel
theorem d_M_spoil_5 : decode prog_14_method_39_code 5 = .ok (.iload_n 1, 1) := by decide +kernel
theorem d_M_spoil_6 : decode prog_14_method_39_code 6 = .ok (.iconst 0, 1) := by decide +kernel
theorem d_M_spoil_7 : decode prog_14_method_39_code 7 = .ok (.aload_n 0, 1) := by decide +kernel
theorem d_M_spoil_8 : decode prog_14_method_39_code 8 = .ok (.getfield 204, 3) := by decide +kernel
theorem d_M_spoil_11 : decode prog_14_method_39_code 11 = .ok (.iconst 1, 1) := by decide +kernel
theorem d_M_spoil_12 : decode prog_14_method_39_code 12 = .ok (.isub, 1) := by decide +kernel
theorem d_M_spoil_13 : decode prog_14_method_39_code 13 = .ok (.invokestatic 62, 3) := by decide +kernel
theorem d_M_spoil_16 : decode prog_14_method_39_code 16 = .ok (.ifCond .ne 5, 3) := by decide +kernel
theorem d_M_spoil_19 : decode prog_14_method_39_code 19 = .ok (.iconst (-1), 1) := by decide +kernel
theorem d_M_spoil_20 : decode prog_14_method_39_code 20 = .ok (.ireturn, 1) := by decide +kernel
theorem d_M_spoil_21 : decode prog_14_method_39_code 21 = .ok (.iload_n 2, 1) := by decide +kernel
theorem d_M_spoil_22 : decode prog_14_method_39_code 22 = .ok (.iconst 0, 1) := by decide +kernel
theorem d_M_spoil_23 : decode prog_14_method_39_code 23 = .ok (.sipush 255, 3) := by decide +kernel
theorem d_M_spoil_26 : decode prog_14_method_39_code 26 = .ok (.invokestatic 62, 3) := by decide +kernel
theorem d_M_spoil_29 : decode prog_14_method_39_code 29 = .ok (.ifCond .ne 6, 3) := by decide +kernel
theorem d_M_spoil_32 : decode prog_14_method_39_code 32 = .ok (.bipush (-2), 2) := by decide +kernel
theorem d_M_spoil_34 : decode prog_14_method_39_code 34 = .ok (.ireturn, 1) := by decide +kernel
theorem d_M_spoil_35 : decode prog_14_method_39_code 35 = .ok (.aload_n 0, 1) := by decide +kernel
theorem d_M_spoil_36 : decode prog_14_method_39_code 36 = .ok (.getfield 34, 3) := by decide +kernel
theorem d_M_spoil_39 : decode prog_14_method_39_code 39 = .ok (.iload_n 1, 1) := by decide +kernel
theorem d_M_spoil_40 : decode prog_14_method_39_code 40 = .ok (.aload_n 0, 1) := by decide +kernel
theorem d_M_spoil_41 : decode prog_14_method_39_code 41 = .ok (.getfield 34, 3) := by decide +kernel
theorem d_M_spoil_44 : decode prog_14_method_39_code 44 = .ok (.iload_n 1, 1) := by decide +kernel
theorem d_M_spoil_45 : decode prog_14_method_39_code 45 = .ok (.iaload, 1) := by decide +kernel
theorem d_M_spoil_46 : decode prog_14_method_39_code 46 = .ok (.iload_n 2, 1) := by decide +kernel
theorem d_M_spoil_47 : decode prog_14_method_39_code 47 = .ok (.ixor, 1) := by decide +kernel
theorem d_M_spoil_48 : decode prog_14_method_39_code 48 = .ok (.iastore, 1) := by decide +kernel
theorem d_M_spoil_49 : decode prog_14_method_39_code 49 = .ok (.aload_n 0, 1) := by decide +kernel
theorem d_M_spoil_50 : decode prog_14_method_39_code 50 = .ok (.getfield 34, 3) := by decide +kernel
theorem d_M_spoil_53 : decode prog_14_method_39_code 53 = .ok (.iload_n 1, 1) := by decide +kernel
theorem d_M_spoil_54 : decode prog_14_method_39_code 54 = .ok (.iaload, 1) := by decide +kernel
theorem d_M_spoil_55 : decode prog_14_method_39_code 55 = .ok (.ireturn, 1) := by decide +kernel
theorem d_M_read_0 : decode prog_14_method_43_code 0 = .ok (.aload_n 0, 1) := by decide +kernel
theorem d_M_read_1 : decode prog_14_method_43_code 1 = .ok (.iconst 0, 1) := by decide +kernel
theorem d_M_read_2 : decode prog_14_method_43_code 2 = .ok (.putfield 56, 3) := by decide +kernel
theorem d_M_read_5 : decode prog_14_method_43_code 5 = .ok (.iconst 0, 1) := by decide +kernel
theorem d_M_read_6 : decode prog_14_method_43_code 6 = .ok (.istore_n 1, 1) := by decide +kernel
theorem d_M_read_7 : decode prog_14_method_43_code 7 = .ok (.iload_n 1, 1) := by decide +kernel
theorem d_M_read_8 : decode prog_14_method_43_code 8 = .ok (.aload_n 0, 1) := by decide +kernel
theorem d_M_read_9 : decode prog_14_method_43_code 9 = .ok (.getfield 59, 3) := by decide +kernel
theorem d_M_read_12 : decode prog_14_method_43_code 12 = .ok (.if_icmp .ge 18, 3) := by decide +kernel
theorem d_M_read_15 : decode prog_14_method_43_code 15 = .ok (.aload_n 0, 1) := by decide +kernel
theorem d_M_read_16 : decode prog_14_method_43_code 16 = .ok (.aload_n 0, 1) := by decide +kernel
theorem d_M_read_17 : decode prog_14_method_43_code 17 = .ok (.getfield 19, 3) := by decide +kernel
theorem d_M_read_20 : decode prog_14_method_43_code 20 = .ok (.iload_n 1, 1) := by decide +kernel
theorem d_M_read_21 : decode prog_14_method_43_code 21 = .ok (.invokevirtual 87, 3) := by decide +kernel
theorem d_M_read_24 : decode prog_14_method_43_code 24 = .ok (.iinc 1 1, 3) := by decide +kernel
theorem d_M_read_27 : decode prog_14_method_43_code 27 = .ok (.goto (-20), 3) := by decide +kernel
theorem d_M_read_30 : decode prog_14_method_43_code 30 = .ok (.aload_n 0, 1) := by decide +kernel
theorem d_M_read_31 : decode prog_14_method_43_code 31 = .ok (.iconst 1, 1) := by decide +kernel
theorem d_M_read_32 : decode prog_14_method_43_code 32 = .ok (.putfield 101, 3) := by decide +kernel
theorem d_M_read_35 : decode prog_14_method_43_code 35 = .ok (.aload_n 0, 1) := by decide +kernel
theorem d_M_read_36 : decode prog_14_method_43_code 36 = .ok (.iconst 0, 1) := by decide +kernel
theorem d_M_read_37 : decode prog_14_method_43_code 37 = .ok (.putfield 217, 3) := by decide +kernel
theorem d_M_read_40 : decode prog_14_method_43_code 40 = .ok (.aload_n 0, 1) := by decide +kernel
theorem d_M_read_41 : decode prog_14_method_43_code 41 = .ok (.iconst 0, 1) := by decide +kernel
theorem d_M_read_42 : decode prog_14_method_43_code 42 = .ok (.putfield 220, 3) := by decide +kernel
theorem d_M_read_45 : decode prog_14_method_43_code 45 = .ok (.aload_n 0, 1) := by decide +kernel
theorem d_M_read_46 : decode prog_14_method_43_code 46 = .ok (.iconst 0, 1) := by decide +kernel
theorem d_M_read_47 : decode prog_14_method_43_code 47 = .ok (.putfield 207, 3) := by decide +kernel
theorem d_M_read_50 : decode prog_14_method_43_code 50 = .ok (.aload_n 0, 1) := by decide +kernel
theorem d_M_read_51 : decode prog_14_method_43_code 51 = .ok (.iconst 0, 1) := by decide +kernel
theorem d_M_read_52 : decode prog_14_method_43_code 52 = .ok (.putfield 210, 3) := by decide +kernel
theorem d_M_read_55 : decode prog_14_method_43_code 55 = .ok (.aload_n 0, 1) := by decide +kernel
theorem d_M_read_56 : decode prog_14_method_43_code 56 = .ok (.lconst 0, 1) := by decide +kernel
theorem d_M_read_57 : decode prog_14_method_43_code 57 = .ok (.putfield 223, 3) := by decide +kernel
theorem d_M_read_60 : decode prog_14_method_43_code 60 = .ok (.aload_n 0, 1) := by decide +kernel
theorem d_M_read_61 : decode prog_14_method_43_code 61 = .ok (.lconst 0, 1) := by decide +kernel
theorem d_M_read_62 : decode prog_14_method_43_code 62 = .ok (.putfield 226, 3) := by decide +kernel
theorem d_M_read_65 : decode prog_14_method_43_code 65 = .ok (.aload_n 0, 1) := by decide +kernel
theorem d_M_read_66 : decode prog_14_method_43_code 66 = .ok (.ldc2_w 108, 3) := by decide +kernel
theorem d_M_read_69 : decode prog_14_method_43_code 69 = .ok (.putfield 229, 3) := by decide +kernel
theorem d_M_read_72 : decode prog_14_method_43_code 72 = .ok (.aload_n 0, 1) := by decide +kernel
theorem d_M_read_73 : decode prog_14_method_43_code 73 = .ok (.lconst 0, 1) := by decide +kernel
theorem d_M_read_74 : decode prog_14_method_43_code 74 = .ok (.putfield 232, 3) := by decide +kernel
theorem d_M_read_77 : decode prog_14_method_43_code 77 = .ok (.aload_n 0, 1) := by decide +kernel
theorem d_M_read_78 : decode prog_14_method_43_code 78 = .ok (.getfield 46, 3) := by decide +kernel
theorem d_M_read_81 : decode prog_14_method_43_code 81 = .ok (.iconst 3, 1) := by decide +kernel
theorem d_M_read_82 : decode prog_14_method_43_code 82 = .ok (.if_icmp .ge 14, 3) := by decide +kernel
theorem d_M_read_85 : decode prog_14_method_43_code 85 = .ok (.aload_n 0, 1) := by decide +kernel
theorem d_M_read_86 : decode prog_14_method_43_code 86 = .ok (.aload_n 0, 1) := by decide +kernel
theorem d_M_read_87 : decode prog_14_method_43_code 87 = .ok (.invokevirtual 235, 3) := by decide +kernel
theorem d_M_read_90 : decode prog_14_method_43_code 90 = .ok (.putfield 223, 3) := by decide +kernel
theorem d_M_read_93 : decode prog_14_method_43_code 93 = .ok (.goto 79, 3) := by decide +kernel
theorem d_M_read_96 : decode prog_14_method_43_code 96 = .ok (.aload_n 0, 1) := by decide +kernel
theorem d_M_read_97 : decode prog_14_method_43_code 97 = .ok (.getfield 46, 3) := by decide +kernel
theorem d_M_read_100 : decode prog_14_method_43_code 100 = .ok (.iconst 3, 1) := by decide +kernel
theorem d_M_read_101 : decode prog_14_method_43_code 101 = .ok (.if_icmp .ne 34, 3) := by decide +kernel
theorem d_M_read_104 : decode prog_14_method_43_code 104 = .ok (.aload_n 0, 1) := by decide +kernel
theorem d_M_read_105 : decode prog_14_method_43_code 105 = .ok (.aload_n 0, 1) := by decide +kernel
theorem d_M_read_106 : decode prog_14_method_43_code 106 = .ok (.invokevirtual 235, 3) := by decide +kernel
theorem d_M_read_109 : decode prog_14_method_43_code 109 = .ok (.putfield 232, 3) := by decide +kernel
theorem d_M_read_112 : decode prog_14_method_43_code 112 = .ok (.aload_n 0, 1) := by decide +kernel
theorem d_M_read_113 : decode prog_14_method_43_code 113 = .ok (.aload_n 0, 1) := by decide +kernel
theorem d_M_read_114 : decode prog_14_method_43_code 114 = .ok (.getfield 232, 3) := by decide +kernel
theorem d_M_read_117 : decode prog_14_method_43_code 117 = .ok (.ldc2_w 191, 3) := by decide +kernel
theorem d_M_read_120 : decode prog_14_method_43_code 120 = .ok (.lcmp, 1) := by decide +kernel
theorem d_M_read_121 : decode prog_14_method_43_code 121 = .ok (.ifCond .ge 7, 3) := by decide +kernel
theorem d_M_read_124 : decode prog_14_method_43_code 124 = .ok (.iconst 1, 1) := by decide +kernel
theorem d_M_read_125 : decode prog_14_method_43_code 125 = .ok (.goto 4, 3) := by decide +kernel
theorem d_M_read_128 : decode prog_14_method_43_code 128 = .ok (.iconst 0, 1) := by decide +kernel
theorem d_M_read_129 : decode prog_14_method_43_code 129 = .ok (.putfield 217, 3) := by decide +kernel
theorem d_M_read_132 : decode prog_14_method_43_code 132 = .ok (.goto 40, 3) := by decide +kernel
theorem d_M_read_135 : decode prog_14_method_43_code 135 = .ok (.aload_n 0, 1) := by decide +kernel
theorem d_M_read_136 : decode prog_14_method_43_code 136 = .ok (.lconst 1, 1) := by decide +kernel
theorem d_M_read_137 : decode prog_14_method_43_code 137 = .ok (.putfield 232, 3) := by decide +kernel
theorem d_M_read_140 : decode prog_14_method_43_code 140 = .ok (.iconst 0, 1) := by decide +kernel
theorem d_M_read_141 : decode prog_14_method_43_code 141 = .ok (.istore_n 1, 1) := by decide +kernel
theorem d_M_read_142 : decode prog_14_method_43_code 142 = .ok (.iload_n 1, 1) := by decide +kernel
theorem d_M_read_143 : decode prog_14_method_43_code 143 = .ok (.bipush 9, 2) := by decide +kernel
theorem d_M_read_145 : decode prog_14_method_43_code 145 = .ok (.if_icmp .ge 27, 3) := by decide +kernel
theorem d_M_read_148 : decode prog_14_method_43_code 148 = .ok (.aload_n 0, 1) := by decide +kernel
theorem d_M_read_149 : decode prog_14_method_43_code 149 = .ok (.ldc2_w 202, 3) := by decide +kernel
theorem d_M_read_152 : decode prog_14_method_43_code 152 = .ok (.aload_n 0, 1) := by decide +kernel
theorem d_M_read_153 : decode prog_14_method_43_code 153 = .ok (.getfield 232, 3) := by decide +kernel
theorem d_M_read_156 : decode prog_14_method_43_code 156 = .ok (.lmul, 1) := by decide +kernel
theorem d_M_read_157 : decode prog_14_method_43_code 157 = .ok (.aload_n 0, 1) := by decide +kernel
theorem d_M_read_158 : decode prog_14_method_43_code 158 = .ok (.invokevirtual 239, 3) := by decide +kernel
theorem d_M_read_161 : decode prog_14_method_43_code 161 = .ok (.i2l, 1) := by decide +kernel
theorem d_M_read_162 : decode prog_14_method_43_code 162 = .ok (.ladd, 1) := by decide +kernel
theorem d_M_read_163 : decode prog_14_method_43_code 163 = .ok (.putfield 232, 3) := by decide +kernel
theorem d_M_read_166 : decode prog_14_method_43_code 166 = .ok (.iinc 1 1, 3) := by decide +kernel
theorem d_M_read_169 : decode prog_14_method_43_code 169 = .ok (.goto (-27), 3) := by decide +kernel
theorem d_M_read_172 : decode prog_14_method_43_code 172 = .ok (.aload_n 0, 1) := by decide +kernel
theorem d_M_read_173 : decode prog_14_method_43_code 173 = .ok (.getfield 204, 3) := by decide +kernel
theorem d_M_read_176 : decode prog_14_method_43_code 176 = .ok (.ireturn, 1) := by decide +kernel
theorem d_M_four_0 : decode prog_14_method_42_code 0 = .ok (.lconst 0, 1) := by decide +kernel
theorem d_M_four_1 : decode prog_14_method_42_code 1 = .ok (.lstore_n 1, 1) := by decide +kernel
theorem d_M_four_2 : decode prog_14_method_42_code 2 = .ok (.iconst 0, 1) := by decide +kernel
theorem d_M_four_3 : decode prog_14_method_42_code 3 = .ok (.istore_n 3, 1) := by decide +kernel
theorem d_M_four_4 : decode prog_14_method_42_code 4 = .ok (.iload_n 3, 1) := by decide +kernel
theorem d_M_four_5 : decode prog_14_method_42_code 5 = .ok (.iconst 4, 1) := by decide +kernel
theorem d_M_four_6 : decode prog_14_method_42_code 6 = .ok (.if_icmp .ge 20, 3) := by decide +kernel
theorem d_M_four_9 : decode prog_14_method_42_code 9 = .ok (.lload_n 1, 1) := by decide +kernel
theorem d_M_four_10 : decode prog_14_method_42_code 10 = .ok (.bipush 8, 2) := by decide +kernel
theorem d_M_four_12 : decode prog_14_method_42_code 12 = .ok (.lshl, 1) := by decide +kernel
theorem d_M_four_13 : decode prog_14_method_42_code 13 = .ok (.aload_n 0, 1) := by decide +kernel
theorem d_M_four_14 : decode prog_14_method_42_code 14 = .ok (.invokevirtual 213, 3) := by decide +kernel
theorem d_M_four_17 : decode prog_14_method_42_code 17 = .ok (.i2l, 1) := by decide +kernel
theorem d_M_four_18 : decode prog_14_method_42_code 18 = .ok (.lor, 1) := by decide +kernel
theorem d_M_four_19 : decode prog_14_method_42_code 19 = .ok (.lstore_n 1, 1) := by decide +kernel
theorem d_M_four_20 : decode prog_14_method_42_code 20 = .ok (.iinc 3 1, 3) := by decide +kernel
theorem d_M_four_23 : decode prog_14_method_42_code 23 = .ok (.goto (-19), 3) := by decide +kernel
theorem d_M_four_26 : decode prog_14_method_42_code 26 = .ok (.lload_n 1, 1) := by decide +kernel
theorem d_M_four_27 : decode prog_14_method_42_code 27 = .ok (.lreturn, 1) := by decide +kernel
theorem d_M_next_0 : decode prog_14_method_40_code 0 = .ok (.aload_n 0, 1) := by decide +kernel
theorem d_M_next_1 : decode prog_14_method_40_code 1 = .ok (.getfield 207, 3) := by decide +kernel
theorem d_M_next_4 : decode prog_14_method_40_code 4 = .ok (.aload_n 0, 1) := by decide +kernel
theorem d_M_next_5 : decode prog_14_method_40_code 5 = .ok (.getfield 204, 3) := by decide +kernel
theorem d_M_next_8 : decode prog_14_method_40_code 8 = .ok (.if_icmp .ge 15, 3) := by decide +kernel
theorem d_M_next_11 : decode prog_14_method_40_code 11 = .ok (.aload_n 0, 1) := by decide +kernel
theorem d_M_next_12 : decode prog_14_method_40_code 12 = .ok (.getfield 34, 3) := by decide +kernel
theorem d_M_next_15 : decode prog_14_method_40_code 15 = .ok (.aload_n 0, 1) := by decide +kernel
theorem d_M_next_16 : decode prog_14_method_40_code 16 = .ok (.getfield 207, 3) := by decide +kernel
theorem d_M_next_19 : decode prog_14_method_40_code 19 = .ok (.iaload, 1) := by decide +kernel
theorem d_M_next_20 : decode prog_14_method_40_code 20 = .ok (.goto 4, 3) := by decide +kernel
theorem d_M_next_23 : decode prog_14_method_40_code 23 = .ok (.iconst 0, 1) := by decide +kernel
theorem d_M_next_24 : decode prog_14_method_40_code 24 = .ok (.istore_n 1, 1) := by decide +kernel
theorem d_M_next_25 : decode prog_14_method_40_code 25 = .ok (.aload_n 0, 1) := by decide +kernel
theorem d_M_next_26 : decode prog_14_method_40_code 26 = .ok (.dup, 1) := by decide +kernel
theorem d_M_next_27 : decode prog_14_method_40_code 27 = .ok (.getfield 207, 3) := by decide +kernel
theorem d_M_next_30 : decode prog_14_method_40_code 30 = .ok (.iconst 1, 1) := by decide +kernel
theorem d_M_next_31 : decode prog_14_method_40_code 31 = .ok (.iadd, 1) := by decide +kernel
theorem d_M_next_32 : decode prog_14_method_40_code 32 = .ok (.putfield 207, 3) := by decide +kernel
theorem d_M_next_35 : decode prog_14_method_40_code 35 = .ok (.iload_n 1, 1) := by decide +kernel
theorem d_M_next_36 : decode prog_14_method_40_code 36 = .ok (.ireturn, 1) := by decide +kernel
theorem d_M_nextBit_0 : decode prog_14_method_41_code 0 = .ok (.aload_n 0, 1) := by decide +kernel
theorem d_M_nextBit_1 : decode prog_14_method_41_code 1 = .ok (.getfield 210, 3) := by decide +kernel
theorem d_M_nextBit_4 : decode prog_14_method_41_code 4 = .ok (.bipush 8, 2) := by decide +kernel
theorem d_M_nextBit_6 : decode prog_14_method_41_code 6 = .ok (.idiv, 1) := by decide +kernel
theorem d_M_nextBit_7 : decode prog_14_method_41_code 7 = .ok (.istore_n 1, 1) := by decide +kernel
theorem d_M_nextBit_8 : decode prog_14_method_41_code 8 = .ok (.iload_n 1, 1) := by decide +kernel
theorem d_M_nextBit_9 : decode prog_14_method_41_code 9 = .ok (.aload_n 0, 1) := by decide +kernel
theorem d_M_nextBit_10 : decode prog_14_method_41_code 10 = .ok (.getfield 204, 3) := by decide +kernel
theorem d_M_nextBit_13 : decode prog_14_method_41_code 13 = .ok (.if_icmp .ge 25, 3) := by decide +kernel
theorem d_M_nextBit_16 : decode prog_14_method_41_code 16 = .ok (.aload_n 0, 1) := by decide +kernel
theorem d_M_nextBit_17 : decode prog_14_method_41_code 17 = .ok (.getfield 34, 3) := by decide +kernel
theorem d_M_nextBit_20 : decode prog_14_method_41_code 20 = .ok (.iload_n 1, 1) := by decide +kernel
theorem d_M_nextBit_21 : decode prog_14_method_41_code 21 = .ok (.iaload, 1) := by decide +kernel
theorem d_M_nextBit_22 : decode prog_14_method_41_code 22 = .ok (.bipush 7, 2) := by decide +kernel
theorem d_M_nextBit_24 : decode prog_14_method_41_code 24 = .ok (.aload_n 0, 1) := by decide +kernel
theorem d_M_nextBit_25 : decode prog_14_method_41_code 25 = .ok (.getfield 210, 3) := by decide +kernel
theorem d_M_nextBit_28 : decode prog_14_method_41_code 28 = .ok (.bipush 8, 2) := by decide +kernel
theorem d_M_nextBit_30 : decode prog_14_method_41_code 30 = .ok (.irem, 1) := by decide +kernel
theorem d_M_nextBit_31 : decode prog_14_method_41_code 31 = .ok (.isub, 1) := by decide +kernel
theorem d_M_nextBit_32 : decode prog_14_method_41_code 32 = .ok (.ishr, 1) := by decide +kernel
theorem d_M_nextBit_33 : decode prog_14_method_41_code 33 = .ok (.iconst 1, 1) := by decide +kernel
theorem d_M_nextBit_34 : decode prog_14_method_41_code 34 = .ok (.iand, 1) := by decide +kernel
theorem d_M_nextBit_35 : decode prog_14_method_41_code 35 = .ok (.goto 4, 3) := by decide +kernel
theorem d_M_nextBit_38 : decode prog_14_method_41_code 38 = .ok (.iconst 0, 1) := by decide +kernel
theorem d_M_nextBit_39 : decode prog_14_method_41_code 39 = .ok (.istore_n 2, 1) := by decide +kernel
theorem d_M_nextBit_40 : decode prog_14_method_41_code 40 = .ok (.aload_n 0, 1) := by decide +kernel
theorem d_M_nextBit_41 : decode prog_14_method_41_code 41 = .ok (.dup, 1) := by decide +kernel
theorem d_M_nextBit_42 : decode prog_14_method_41_code 42 = .ok (.getfield 210, 3) := by decide +kernel
theorem d_M_nextBit_45 : decode prog_14_method_41_code 45 = .ok (.iconst 1, 1) := by decide +kernel
theorem d_M_nextBit_46 : decode prog_14_method_41_code 46 = .ok (.iadd, 1) := by decide +kernel
theorem d_M_nextBit_47 : decode prog_14_method_41_code 47 = .ok (.putfield 210, 3) := by decide +kernel
theorem d_M_nextBit_50 : decode prog_14_method_41_code 50 = .ok (.aload_n 0, 1) := by decide +kernel
theorem d_M_nextBit_51 : decode prog_14_method_41_code 51 = .ok (.aload_n 0, 1) := by decide +kernel
theorem d_M_nextBit_52 : decode prog_14_method_41_code 52 = .ok (.getfield 210, 3) := by decide +kernel
theorem d_M_nextBit_55 : decode prog_14_method_41_code 55 = .ok (.bipush 7, 2) := by decide +kernel
theorem d_M_nextBit_57 : decode prog_14_method_41_code 57 = .ok (.iadd, 1) := by decide +kernel
theorem d_M_nextBit_58 : decode prog_14_method_41_code 58 = .ok (.bipush 8, 2) := by decide +kernel
theorem d_M_nextBit_60 : decode prog_14_method_41_code 60 = .ok (.idiv, 1) := by decide +kernel
theorem d_M_nextBit_61 : decode prog_14_method_41_code 61 = .ok (.putfield 207, 3) := by decide +kernel
theorem d_M_nextBit_64 : decode prog_14_method_41_code 64 = .ok (.iload_n 2, 1) := by decide +kernel
theorem d_M_nextBit_65 : decode prog_14_method_41_code 65 = .ok (.ireturn, 1) := by decide +kernel
theorem d_M_get_0 : decode prog_14_method_56_code 0 = .ok (.aload_n 0, 1) := by decide +kernel
theorem d_M_get_1 : decode prog_14_method_56_code 1 = .ok (.iconst 0, 1) := by decide +kernel
theorem d_M_get_2 : decode prog_14_method_56_code 2 = .ok (.putfield 56, 3) := by decide +kernel
theorem d_M_get_5 : decode prog_14_method_56_code 5 = .ok (.aload_n 0, 1) := by decide +kernel
theorem d_M_get_6 : decode prog_14_method_56_code 6 = .ok (.iload_n 1, 1) := by decide +kernel
theorem d_M_get_7 : decode prog_14_method_56_code 7 = .ok (.invokevirtual 65, 3) := by decide +kernel
theorem d_M_get_10 : decode prog_14_method_56_code 10 = .ok (.ifCond .ne 5, 3) := by decide +kernel
theorem d_M_get_13 : decode prog_14_method_56_code 13 = .ok (.iconst (-1), 1) := by decide +kernel
theorem d_M_get_14 : decode prog_14_method_56_code 14 = .ok (.ireturn, 1) := by decide +kernel
theorem d_M_get_15 : decode prog_14_method_56_code 15 = .ok (.aload_n 0, 1) := by decide +kernel
theorem d_M_get_16 : decode prog_14_method_56_code 16 = .ok (.getfield 101, 3) := by decide +kernel
theorem d_M_get_19 : decode prog_14_method_56_code 19 = .ok (.ifCond .ne 6, 3) := by decide +kernel
theorem d_M_get_22 : decode prog_14_method_56_code 22 = .ok (.bipush (-3), 2) := by decide +kernel
theorem d_M_get_24 : decode prog_14_method_56_code 24 = .ok (.ireturn, 1) := by decide +kernel
theorem d_M_get_25 : decode prog_14_method_56_code 25 = .ok (.aload_n 0, 1) := by decide +kernel
theorem d_M_get_26 : decode prog_14_method_56_code 26 = .ok (.getfield 217, 3) := by decide +kernel
theorem d_M_get_29 : decode prog_14_method_56_code 29 = .ok (.ifCond .eq 6, 3) := by decide +kernel
theorem d_M_get_32 : decode prog_14_method_56_code 32 = .ok (.bipush (-5), 2) := by decide +kernel
theorem d_M_get_34 : decode prog_14_method_56_code 34 = .ok (.ireturn, 1) := by decide +kernel
theorem d_M_get_35 : decode prog_14_method_56_code 35 = .ok (.aload_n 0, 1) := by decide +kernel
theorem d_M_get_36 : decode prog_14_method_56_code 36 = .ok (.getfield 46, 3) := by decide +kernel
theorem d_M_get_39 : decode prog_14_method_56_code 39 = .ok (.iconst 2, 1) := by decide +kernel
theorem d_M_get_40 : decode prog_14_method_56_code 40 = .ok (.if_icmp .ge 11, 3) := by decide +kernel
theorem d_M_get_43 : decode prog_14_method_56_code 43 = .ok (.aload_n 0, 1) := by decide +kernel
theorem d_M_get_44 : decode prog_14_method_56_code 44 = .ok (.iload_n 1, 1) := by decide +kernel
theorem d_M_get_45 : decode prog_14_method_56_code 45 = .ok (.invokevirtual 270, 3) := by decide +kernel
theorem d_M_get_48 : decode prog_14_method_56_code 48 = .ok (.goto 40, 3) := by decide +kernel
theorem d_M_get_51 : decode prog_14_method_56_code 51 = .ok (.aload_n 0, 1) := by decide +kernel
theorem d_M_get_52 : decode prog_14_method_56_code 52 = .ok (.getfield 46, 3) := by decide +kernel
theorem d_M_get_55 : decode prog_14_method_56_code 55 = .ok (.iconst 2, 1) := by decide +kernel
theorem d_M_get_56 : decode prog_14_method_56_code 56 = .ok (.if_icmp .ne 11, 3) := by decide +kernel
theorem d_M_get_59 : decode prog_14_method_56_code 59 = .ok (.aload_n 0, 1) := by decide +kernel
theorem d_M_get_60 : decode prog_14_method_56_code 60 = .ok (.iload_n 1, 1) := by decide +kernel
theorem d_M_get_61 : decode prog_14_method_56_code 61 = .ok (.invokevirtual 273, 3) := by decide +kernel
theorem d_M_get_64 : decode prog_14_method_56_code 64 = .ok (.goto 24, 3) := by decide +kernel
theorem d_M_get_67 : decode prog_14_method_56_code 67 = .ok (.aload_n 0, 1) := by decide +kernel
theorem d_M_get_68 : decode prog_14_method_56_code 68 = .ok (.getfield 46, 3) := by decide +kernel
theorem d_M_get_71 : decode prog_14_method_56_code 71 = .ok (.iconst 3, 1) := by decide +kernel
theorem d_M_get_72 : decode prog_14_method_56_code 72 = .ok (.if_icmp .ne 11, 3) := by decide +kernel
theorem d_M_get_75 : decode prog_14_method_56_code 75 = .ok (.aload_n 0, 1) := by decide +kernel
theorem d_M_get_76 : decode prog_14_method_56_code 76 = .ok (.iload_n 1, 1) := by decide +kernel
theorem d_M_get_77 : decode prog_14_method_56_code 77 = .ok (.invokevirtual 276, 3) := by decide +kernel
theorem d_M_get_80 : decode prog_14_method_56_code 80 = .ok (.goto 8, 3) := by decide +kernel
theorem d_M_get_83 : decode prog_14_method_56_code 83 = .ok (.aload_n 0, 1) := by decide +kernel
theorem d_M_get_84 : decode prog_14_method_56_code 84 = .ok (.iload_n 1, 1) := by decide +kernel
theorem d_M_get_85 : decode prog_14_method_56_code 85 = .ok (.invokevirtual 279, 3) := by decide +kernel
theorem d_M_get_88 : decode prog_14_method_56_code 88 = .ok (.istore_n 2, 1) := by decide +kernel
theorem d_M_get_89 : decode prog_14_method_56_code 89 = .ok (.iload_n 2, 1) := by decide +kernel
theorem d_M_get_90 : decode prog_14_method_56_code 90 = .ok (.ifCond .ge 8, 3) := by decide +kernel
theorem d_M_get_93 : decode prog_14_method_56_code 93 = .ok (.aload_n 0, 1) := by decide +kernel
theorem d_M_get_94 : decode prog_14_method_56_code 94 = .ok (.invokevirtual 282, 3) := by decide +kernel
theorem d_M_get_97 : decode prog_14_method_56_code 97 = .ok (.ireturn, 1) := by decide +kernel
theorem d_M_get_98 : decode prog_14_method_56_code 98 = .ok (.aload_n 0, 1) := by decide +kernel
theorem d_M_get_99 : decode prog_14_method_56_code 99 = .ok (.dup, 1) := by decide +kernel
theorem d_M_get_100 : decode prog_14_method_56_code 100 = .ok (.getfield 220, 3) := by decide +kernel
theorem d_M_get_103 : decode prog_14_method_56_code 103 = .ok (.iconst 1, 1) := by decide +kernel
theorem d_M_get_104 : decode prog_14_method_56_code 104 = .ok (.iadd, 1) := by decide +kernel
theorem d_M_get_105 : decode prog_14_method_56_code 105 = .ok (.putfield 220, 3) := by decide +kernel
theorem d_M_get_108 : decode prog_14_method_56_code 108 = .ok (.iload_n 2, 1) := by decide +kernel
theorem d_M_get_109 : decode prog_14_method_56_code 109 = .ok (.ireturn, 1) := by decide +kernel
theorem d_M_getRanged_0 : decode prog_14_method_52_code 0 = .ok (.aload_n 0, 1) := by decide +kernel
theorem d_M_getRanged_1 : decode prog_14_method_52_code 1 = .ok (.aload_n 0, 1) := by decide +kernel
theorem d_M_getRanged_2 : decode prog_14_method_52_code 2 = .ok (.getfield 19, 3) := by decide +kernel
theorem d_M_getRanged_5 : decode prog_14_method_52_code 5 = .ok (.iload_n 1, 1) := by decide +kernel
theorem d_M_getRanged_6 : decode prog_14_method_52_code 6 = .ok (.invokevirtual 77, 3) := by decide +kernel
theorem d_M_getRanged_9 : decode prog_14_method_52_code 9 = .ok (.istore_n 2, 1) := by decide +kernel
theorem d_M_getRanged_10 : decode prog_14_method_52_code 10 = .ok (.aload_n 0, 1) := by decide +kernel
theorem d_M_getRanged_11 : decode prog_14_method_52_code 11 = .ok (.iload_n 2, 1) := by decide +kernel
theorem d_M_getRanged_12 : decode prog_14_method_52_code 12 = .ok (.invokevirtual 254, 3) := by decide +kernel
theorem d_M_getRanged_15 : decode prog_14_method_52_code 15 = .ok (.lstore_n 3, 1) := by decide +kernel
theorem d_M_getRanged_16 : decode prog_14_method_52_code 16 = .ok (.lload_n 3, 1) := by decide +kernel
theorem d_M_getRanged_17 : decode prog_14_method_52_code 17 = .ok (.lconst 0, 1) := by decide +kernel
theorem d_M_getRanged_18 : decode prog_14_method_52_code 18 = .ok (.lcmp, 1) := by decide +kernel
theorem d_M_getRanged_19 : decode prog_14_method_52_code 19 = .ok (.ifCond .ge 5, 3) := by decide +kernel
theorem d_M_getRanged_22 : decode prog_14_method_52_code 22 = .ok (.iconst (-1), 1) := by decide +kernel
theorem d_M_getRanged_23 : decode prog_14_method_52_code 23 = .ok (.ireturn, 1) := by decide +kernel
theorem d_M_getRanged_24 : decode prog_14_method_52_code 24 = .ok (.aload_n 0, 1) := by decide +kernel
theorem d_M_getRanged_25 : decode prog_14_method_52_code 25 = .ok (.iload_n 1, 1) := by decide +kernel
theorem d_M_getRanged_26 : decode prog_14_method_52_code 26 = .ok (.lload_n 3, 1) := by decide +kernel
theorem d_M_getRanged_27 : decode prog_14_method_52_code 27 = .ok (.invokevirtual 258, 3) := by decide +kernel
theorem d_M_getRanged_30 : decode prog_14_method_52_code 30 = .ok (.istore 5, 2) := by decide +kernel
theorem d_M_getRanged_32 : decode prog_14_method_52_code 32 = .ok (.aload_n 0, 1) := by decide +kernel
theorem d_M_getRanged_33 : decode prog_14_method_52_code 33 = .ok (.aload_n 0, 1) := by decide +kernel
theorem d_M_getRanged_34 : decode prog_14_method_52_code 34 = .ok (.aload_n 0, 1) := by decide +kernel
theorem d_M_getRanged_35 : decode prog_14_method_52_code 35 = .ok (.getfield 19, 3) := by decide +kernel
theorem d_M_getRanged_38 : decode prog_14_method_52_code 38 = .ok (.iload_n 1, 1) := by decide +kernel
theorem d_M_getRanged_39 : decode prog_14_method_52_code 39 = .ok (.iload 5, 2) := by decide +kernel
theorem d_M_getRanged_41 : decode prog_14_method_52_code 41 = .ok (.invokevirtual 147, 3) := by decide +kernel
theorem d_M_getRanged_44 : decode prog_14_method_52_code 44 = .ok (.aload_n 0, 1) := by decide +kernel
theorem d_M_getRanged_45 : decode prog_14_method_52_code 45 = .ok (.getfield 19, 3) := by decide +kernel
theorem d_M_getRanged_48 : decode prog_14_method_52_code 48 = .ok (.bipush 64, 2) := by decide +kernel
theorem d_M_getRanged_50 : decode prog_14_method_52_code 50 = .ok (.iload_n 1, 1) := by decide +kernel
theorem d_M_getRanged_51 : decode prog_14_method_52_code 51 = .ok (.imul, 1) := by decide +kernel
theorem d_M_getRanged_52 : decode prog_14_method_52_code 52 = .ok (.iload 5, 2) := by decide +kernel
theorem d_M_getRanged_54 : decode prog_14_method_52_code 54 = .ok (.iadd, 1) := by decide +kernel
theorem d_M_getRanged_55 : decode prog_14_method_52_code 55 = .ok (.iaload, 1) := by decide +kernel
theorem d_M_getRanged_56 : decode prog_14_method_52_code 56 = .ok (.iload_n 2, 1) := by decide +kernel
theorem d_M_getRanged_57 : decode prog_14_method_52_code 57 = .ok (.invokevirtual 262, 3) := by decide +kernel
theorem d_M_getRanged_60 : decode prog_14_method_52_code 60 = .ok (.aload_n 0, 1) := by decide +kernel
theorem d_M_getRanged_61 : decode prog_14_method_52_code 61 = .ok (.aload_n 0, 1) := by decide +kernel
theorem d_M_getRanged_62 : decode prog_14_method_52_code 62 = .ok (.getfield 19, 3) := by decide +kernel
theorem d_M_getRanged_65 : decode prog_14_method_52_code 65 = .ok (.iload_n 1, 1) := by decide +kernel
theorem d_M_getRanged_66 : decode prog_14_method_52_code 66 = .ok (.iload 5, 2) := by decide +kernel
theorem d_M_getRanged_68 : decode prog_14_method_52_code 68 = .ok (.invokevirtual 155, 3) := by decide +kernel
theorem d_M_getRanged_71 : decode prog_14_method_52_code 71 = .ok (.iload 5, 2) := by decide +kernel
theorem d_M_getRanged_73 : decode prog_14_method_52_code 73 = .ok (.ireturn, 1) := by decide +kernel
theorem d_M_wanted_0 : decode prog_14_method_47_code 0 = .ok (.iload_n 1, 1) := by decide +kernel
theorem d_M_wanted_1 : decode prog_14_method_47_code 1 = .ok (.ifCond .ne 7, 3) := by decide +kernel
theorem d_M_wanted_4 : decode prog_14_method_47_code 4 = .ok (.lconst 0, 1) := by decide +kernel
theorem d_M_wanted_5 : decode prog_14_method_47_code 5 = .ok (.goto 10, 3) := by decide +kernel
theorem d_M_wanted_8 : decode prog_14_method_47_code 8 = .ok (.aload_n 0, 1) := by decide +kernel
theorem d_M_wanted_9 : decode prog_14_method_47_code 9 = .ok (.getfield 229, 3) := by decide +kernel
theorem d_M_wanted_12 : decode prog_14_method_47_code 12 = .ok (.iload_n 1, 1) := by decide +kernel
theorem d_M_wanted_13 : decode prog_14_method_47_code 13 = .ok (.i2l, 1) := by decide +kernel
theorem d_M_wanted_14 : decode prog_14_method_47_code 14 = .ok (.ldiv, 1) := by decide +kernel
theorem d_M_wanted_15 : decode prog_14_method_47_code 15 = .ok (.lstore_n 2, 1) := by decide +kernel
theorem d_M_wanted_16 : decode prog_14_method_47_code 16 = .ok (.lload_n 2, 1) := by decide +kernel
theorem d_M_wanted_17 : decode prog_14_method_47_code 17 = .ok (.lconst 0, 1) := by decide +kernel
theorem d_M_wanted_18 : decode prog_14_method_47_code 18 = .ok (.lcmp, 1) := by decide +kernel
theorem d_M_wanted_19 : decode prog_14_method_47_code 19 = .ok (.ifCond .ne 7, 3) := by decide +kernel
theorem d_M_wanted_22 : decode prog_14_method_47_code 22 = .ok (.ldc2_w 242, 3) := by decide +kernel
theorem d_M_wanted_25 : decode prog_14_method_47_code 25 = .ok (.lreturn, 1) := by decide +kernel
theorem d_M_wanted_26 : decode prog_14_method_47_code 26 = .ok (.aload_n 0, 1) := by decide +kernel
theorem d_M_wanted_27 : decode prog_14_method_47_code 27 = .ok (.getfield 46, 3) := by decide +kernel
theorem d_M_wanted_30 : decode prog_14_method_47_code 30 = .ok (.ifCond .ne 10, 3) := by decide +kernel
theorem d_M_wanted_33 : decode prog_14_method_47_code 33 = .ok (.aload_n 0, 1) := by decide +kernel
theorem d_M_wanted_34 : decode prog_14_method_47_code 34 = .ok (.getfield 223, 3) := by decide +kernel
theorem d_M_wanted_37 : decode prog_14_method_47_code 37 = .ok (.goto 16, 3) := by decide +kernel
theorem d_M_wanted_40 : decode prog_14_method_47_code 40 = .ok (.aload_n 0, 1) := by decide +kernel
theorem d_M_wanted_41 : decode prog_14_method_47_code 41 = .ok (.getfield 223, 3) := by decide +kernel
theorem d_M_wanted_44 : decode prog_14_method_47_code 44 = .ok (.aload_n 0, 1) := by decide +kernel
theorem d_M_wanted_45 : decode prog_14_method_47_code 45 = .ok (.getfield 226, 3) := by decide +kernel
theorem d_M_wanted_48 : decode prog_14_method_47_code 48 = .ok (.lsub, 1) := by decide +kernel
theorem d_M_wanted_49 : decode prog_14_method_47_code 49 = .ok (.ldc2_w 108, 3) := by decide +kernel
theorem d_M_wanted_52 : decode prog_14_method_47_code 52 = .ok (.land, 1) := by decide +kernel
theorem d_M_wanted_53 : decode prog_14_method_47_code 53 = .ok (.lload_n 2, 1) := by decide +kernel
theorem d_M_wanted_54 : decode prog_14_method_47_code 54 = .ok (.ldiv, 1) := by decide +kernel
theorem d_M_wanted_55 : decode prog_14_method_47_code 55 = .ok (.lstore 4, 2) := by decide +kernel
theorem d_M_wanted_57 : decode prog_14_method_47_code 57 = .ok (.lload 4, 2) := by decide +kernel
theorem d_M_wanted_59 : decode prog_14_method_47_code 59 = .ok (.iload_n 1, 1) := by decide +kernel
theorem d_M_wanted_60 : decode prog_14_method_47_code 60 = .ok (.i2l, 1) := by decide +kernel
theorem d_M_wanted_61 : decode prog_14_method_47_code 61 = .ok (.lcmp, 1) := by decide +kernel
theorem d_M_wanted_62 : decode prog_14_method_47_code 62 = .ok (.ifCond .ge 8, 3) := by decide +kernel
theorem d_M_wanted_65 : decode prog_14_method_47_code 65 = .ok (.lload 4, 2) := by decide +kernel
theorem d_M_wanted_67 : decode prog_14_method_47_code 67 = .ok (.goto 6, 3) := by decide +kernel
theorem d_M_wanted_70 : decode prog_14_method_47_code 70 = .ok (.ldc2_w 242, 3) := by decide +kernel
theorem d_M_wanted_73 : decode prog_14_method_47_code 73 = .ok (.lreturn, 1) := by decide +kernel
theorem d_M_signAt_0 : decode prog_14_method_49_code 0 = .ok (.iconst 0, 1) := by decide +kernel
theorem d_M_signAt_1 : decode prog_14_method_49_code 1 = .ok (.istore 4, 2) := by decide +kernel
theorem d_M_signAt_3 : decode prog_14_method_49_code 3 = .ok (.aload_n 0, 1) := by decide +kernel
theorem d_M_signAt_4 : decode prog_14_method_49_code 4 = .ok (.getfield 19, 3) := by decide +kernel
theorem d_M_signAt_7 : decode prog_14_method_49_code 7 = .ok (.bipush 64, 2) := by decide +kernel
theorem d_M_signAt_9 : decode prog_14_method_49_code 9 = .ok (.iload_n 1, 1) := by decide +kernel
theorem d_M_signAt_10 : decode prog_14_method_49_code 10 = .ok (.imul, 1) := by decide +kernel
theorem d_M_signAt_11 : decode prog_14_method_49_code 11 = .ok (.iaload, 1) := by decide +kernel
theorem d_M_signAt_12 : decode prog_14_method_49_code 12 = .ok (.i2l, 1) := by decide +kernel
theorem d_M_signAt_13 : decode prog_14_method_49_code 13 = .ok (.lstore 5, 2) := by decide +kernel
theorem d_M_signAt_15 : decode prog_14_method_49_code 15 = .ok (.lload 5, 2) := by decide +kernel
theorem d_M_signAt_17 : decode prog_14_method_49_code 17 = .ok (.lload_n 2, 1) := by decide +kernel
theorem d_M_signAt_18 : decode prog_14_method_49_code 18 = .ok (.lcmp, 1) := by decide +kernel
theorem d_M_signAt_19 : decode prog_14_method_49_code 19 = .ok (.ifCond .gt 27, 3) := by decide +kernel
theorem d_M_signAt_22 : decode prog_14_method_49_code 22 = .ok (.iinc 4 1, 3) := by decide +kernel
theorem d_M_signAt_25 : decode prog_14_method_49_code 25 = .ok (.lload 5, 2) := by decide +kernel
theorem d_M_signAt_27 : decode prog_14_method_49_code 27 = .ok (.aload_n 0, 1) := by decide +kernel
theorem d_M_signAt_28 : decode prog_14_method_49_code 28 = .ok (.getfield 19, 3) := by decide +kernel
theorem d_M_signAt_31 : decode prog_14_method_49_code 31 = .ok (.bipush 64, 2) := by decide +kernel
theorem d_M_signAt_33 : decode prog_14_method_49_code 33 = .ok (.iload_n 1, 1) := by decide +kernel
theorem d_M_signAt_34 : decode prog_14_method_49_code 34 = .ok (.imul, 1) := by decide +kernel
theorem d_M_signAt_35 : decode prog_14_method_49_code 35 = .ok (.iload 4, 2) := by decide +kernel
theorem d_M_signAt_37 : decode prog_14_method_49_code 37 = .ok (.iadd, 1) := by decide +kernel
theorem d_M_signAt_38 : decode prog_14_method_49_code 38 = .ok (.iaload, 1) := by decide +kernel
theorem d_M_signAt_39 : decode prog_14_method_49_code 39 = .ok (.i2l, 1) := by decide +kernel
theorem d_M_signAt_40 : decode prog_14_method_49_code 40 = .ok (.ladd, 1) := by decide +kernel
theorem d_M_signAt_41 : decode prog_14_method_49_code 41 = .ok (.lstore 5, 2) := by decide +kernel
theorem d_M_signAt_43 : decode prog_14_method_49_code 43 = .ok (.goto (-28), 3) := by decide +kernel
theorem d_M_signAt_46 : decode prog_14_method_49_code 46 = .ok (.iload 4, 2) := by decide +kernel
theorem d_M_signAt_48 : decode prog_14_method_49_code 48 = .ok (.ireturn, 1) := by decide +kernel
theorem d_M_leave_0 : decode prog_14_method_48_code 0 = .ok (.aload_n 0, 1) := by decide +kernel
theorem d_M_leave_1 : decode prog_14_method_48_code 1 = .ok (.getfield 229, 3) := by decide +kernel
theorem d_M_leave_4 : decode prog_14_method_48_code 4 = .ok (.iload_n 3, 1) := by decide +kernel
theorem d_M_leave_5 : decode prog_14_method_48_code 5 = .ok (.i2l, 1) := by decide +kernel
theorem d_M_leave_6 : decode prog_14_method_48_code 6 = .ok (.ldiv, 1) := by decide +kernel
theorem d_M_leave_7 : decode prog_14_method_48_code 7 = .ok (.lstore 4, 2) := by decide +kernel
theorem d_M_leave_9 : decode prog_14_method_48_code 9 = .ok (.aload_n 0, 1) := by decide +kernel
theorem d_M_leave_10 : decode prog_14_method_48_code 10 = .ok (.lload 4, 2) := by decide +kernel
theorem d_M_leave_12 : decode prog_14_method_48_code 12 = .ok (.iload_n 2, 1) := by decide +kernel
theorem d_M_leave_13 : decode prog_14_method_48_code 13 = .ok (.i2l, 1) := by decide +kernel
theorem d_M_leave_14 : decode prog_14_method_48_code 14 = .ok (.lmul, 1) := by decide +kernel
theorem d_M_leave_15 : decode prog_14_method_48_code 15 = .ok (.putfield 229, 3) := by decide +kernel
theorem d_M_leave_18 : decode prog_14_method_48_code 18 = .ok (.aload_n 0, 1) := by decide +kernel
theorem d_M_leave_19 : decode prog_14_method_48_code 19 = .ok (.getfield 46, 3) := by decide +kernel
theorem d_M_leave_22 : decode prog_14_method_48_code 22 = .ok (.ifCond .ne 24, 3) := by decide +kernel
theorem d_M_leave_25 : decode prog_14_method_48_code 25 = .ok (.aload_n 0, 1) := by decide +kernel
theorem d_M_leave_26 : decode prog_14_method_48_code 26 = .ok (.aload_n 0, 1) := by decide +kernel
theorem d_M_leave_27 : decode prog_14_method_48_code 27 = .ok (.getfield 223, 3) := by decide +kernel
theorem d_M_leave_30 : decode prog_14_method_48_code 30 = .ok (.lload 4, 2) := by decide +kernel
theorem d_M_leave_32 : decode prog_14_method_48_code 32 = .ok (.iload_n 1, 1) := by decide +kernel
theorem d_M_leave_33 : decode prog_14_method_48_code 33 = .ok (.i2l, 1) := by decide +kernel
theorem d_M_leave_34 : decode prog_14_method_48_code 34 = .ok (.lmul, 1) := by decide +kernel
theorem d_M_leave_35 : decode prog_14_method_48_code 35 = .ok (.lsub, 1) := by decide +kernel
theorem d_M_leave_36 : decode prog_14_method_48_code 36 = .ok (.putfield 223, 3) := by decide +kernel
theorem d_M_leave_39 : decode prog_14_method_48_code 39 = .ok (.aload_n 0, 1) := by decide +kernel
theorem d_M_leave_40 : decode prog_14_method_48_code 40 = .ok (.invokevirtual 244, 3) := by decide +kernel
theorem d_M_leave_43 : decode prog_14_method_48_code 43 = .ok (.goto 25, 3) := by decide +kernel
theorem d_M_leave_46 : decode prog_14_method_48_code 46 = .ok (.aload_n 0, 1) := by decide +kernel
theorem d_M_leave_47 : decode prog_14_method_48_code 47 = .ok (.aload_n 0, 1) := by decide +kernel
theorem d_M_leave_48 : decode prog_14_method_48_code 48 = .ok (.getfield 226, 3) := by decide +kernel
theorem d_M_leave_51 : decode prog_14_method_48_code 51 = .ok (.lload 4, 2) := by decide +kernel
theorem d_M_leave_53 : decode prog_14_method_48_code 53 = .ok (.iload_n 1, 1) := by decide +kernel
theorem d_M_leave_54 : decode prog_14_method_48_code 54 = .ok (.i2l, 1) := by decide +kernel
theorem d_M_leave_55 : decode prog_14_method_48_code 55 = .ok (.lmul, 1) := by decide +kernel
theorem d_M_leave_56 : decode prog_14_method_48_code 56 = .ok (.ladd, 1) := by decide +kernel
theorem d_M_leave_57 : decode prog_14_method_48_code 57 = .ok (.ldc2_w 108, 3) := by decide +kernel
theorem d_M_leave_60 : decode prog_14_method_48_code 60 = .ok (.land, 1) := by decide +kernel
theorem d_M_leave_61 : decode prog_14_method_48_code 61 = .ok (.putfield 226, 3) := by decide +kernel
theorem d_M_leave_64 : decode prog_14_method_48_code 64 = .ok (.aload_n 0, 1) := by decide +kernel
theorem d_M_leave_65 : decode prog_14_method_48_code 65 = .ok (.invokevirtual 247, 3) := by decide +kernel
theorem d_M_leave_68 : decode prog_14_method_48_code 68 = .ok (.return_, 1) := by decide +kernel
theorem d_M_widenRead_0 : decode prog_14_method_45_code 0 = .ok (.aload_n 0, 1) := by decide +kernel
theorem d_M_widenRead_1 : decode prog_14_method_45_code 1 = .ok (.getfield 229, 3) := by decide +kernel
theorem d_M_widenRead_4 : decode prog_14_method_45_code 4 = .ok (.ldc2_w 132, 3) := by decide +kernel
theorem d_M_widenRead_7 : decode prog_14_method_45_code 7 = .ok (.lcmp, 1) := by decide +kernel
theorem d_M_widenRead_8 : decode prog_14_method_45_code 8 = .ok (.ifCond .ge 38, 3) := by decide +kernel
theorem d_M_widenRead_11 : decode prog_14_method_45_code 11 = .ok (.aload_n 0, 1) := by decide +kernel
theorem d_M_widenRead_12 : decode prog_14_method_45_code 12 = .ok (.aload_n 0, 1) := by decide +kernel
theorem d_M_widenRead_13 : decode prog_14_method_45_code 13 = .ok (.getfield 229, 3) := by decide +kernel
theorem d_M_widenRead_16 : decode prog_14_method_45_code 16 = .ok (.bipush 8, 2) := by decide +kernel
theorem d_M_widenRead_18 : decode prog_14_method_45_code 18 = .ok (.lshl, 1) := by decide +kernel
theorem d_M_widenRead_19 : decode prog_14_method_45_code 19 = .ok (.putfield 229, 3) := by decide +kernel
theorem d_M_widenRead_22 : decode prog_14_method_45_code 22 = .ok (.aload_n 0, 1) := by decide +kernel
theorem d_M_widenRead_23 : decode prog_14_method_45_code 23 = .ok (.aload_n 0, 1) := by decide +kernel
theorem d_M_widenRead_24 : decode prog_14_method_45_code 24 = .ok (.getfield 223, 3) := by decide +kernel
theorem d_M_widenRead_27 : decode prog_14_method_45_code 27 = .ok (.bipush 8, 2) := by decide +kernel
theorem d_M_widenRead_29 : decode prog_14_method_45_code 29 = .ok (.lshl, 1) := by decide +kernel
theorem d_M_widenRead_30 : decode prog_14_method_45_code 30 = .ok (.ldc2_w 108, 3) := by decide +kernel
theorem d_M_widenRead_33 : decode prog_14_method_45_code 33 = .ok (.land, 1) := by decide +kernel
theorem d_M_widenRead_34 : decode prog_14_method_45_code 34 = .ok (.aload_n 0, 1) := by decide +kernel
theorem d_M_widenRead_35 : decode prog_14_method_45_code 35 = .ok (.invokevirtual 213, 3) := by decide +kernel
theorem d_M_widenRead_38 : decode prog_14_method_45_code 38 = .ok (.i2l, 1) := by decide +kernel
theorem d_M_widenRead_39 : decode prog_14_method_45_code 39 = .ok (.ladd, 1) := by decide +kernel
theorem d_M_widenRead_40 : decode prog_14_method_45_code 40 = .ok (.putfield 223, 3) := by decide +kernel
theorem d_M_widenRead_43 : decode prog_14_method_45_code 43 = .ok (.goto (-43), 3) := by decide +kernel
theorem d_M_widenRead_46 : decode prog_14_method_45_code 46 = .ok (.return_, 1) := by decide +kernel
theorem d_M_widenReadPlain_0 : decode prog_14_method_46_code 0 = .ok (.iconst 1, 1) := by decide +kernel
theorem d_M_widenReadPlain_1 : decode prog_14_method_46_code 1 = .ok (.istore_n 1, 1) := by decide +kernel
theorem d_M_widenReadPlain_2 : decode prog_14_method_46_code 2 = .ok (.iload_n 1, 1) := by decide +kernel
theorem d_M_widenReadPlain_3 : decode prog_14_method_46_code 3 = .ok (.ifCond .eq 139, 3) := by decide +kernel
theorem d_M_widenReadPlain_6 : decode prog_14_method_46_code 6 = .ok (.aload_n 0, 1) := by decide +kernel
theorem d_M_widenReadPlain_7 : decode prog_14_method_46_code 7 = .ok (.getfield 226, 3) := by decide +kernel
theorem d_M_widenReadPlain_10 : decode prog_14_method_46_code 10 = .ok (.bipush 24, 2) := by decide +kernel
theorem d_M_widenReadPlain_12 : decode prog_14_method_46_code 12 = .ok (.lshr, 1) := by decide +kernel
theorem d_M_widenReadPlain_13 : decode prog_14_method_46_code 13 = .ok (.aload_n 0, 1) := by decide +kernel
theorem d_M_widenReadPlain_14 : decode prog_14_method_46_code 14 = .ok (.getfield 226, 3) := by decide +kernel
theorem d_M_widenReadPlain_17 : decode prog_14_method_46_code 17 = .ok (.aload_n 0, 1) := by decide +kernel
theorem d_M_widenReadPlain_18 : decode prog_14_method_46_code 18 = .ok (.getfield 229, 3) := by decide +kernel
theorem d_M_widenReadPlain_21 : decode prog_14_method_46_code 21 = .ok (.ladd, 1) := by decide +kernel
theorem d_M_widenReadPlain_22 : decode prog_14_method_46_code 22 = .ok (.ldc2_w 108, 3) := by decide +kernel
theorem d_M_widenReadPlain_25 : decode prog_14_method_46_code 25 = .ok (.land, 1) := by decide +kernel
theorem d_M_widenReadPlain_26 : decode prog_14_method_46_code 26 = .ok (.bipush 24, 2) := by decide +kernel
theorem d_M_widenReadPlain_28 : decode prog_14_method_46_code 28 = .ok (.lshr, 1) := by decide +kernel
theorem d_M_widenReadPlain_29 : decode prog_14_method_46_code 29 = .ok (.lcmp, 1) := by decide +kernel
theorem d_M_widenReadPlain_30 : decode prog_14_method_46_code 30 = .ok (.ifCond .ne 7, 3) := by decide +kernel
theorem d_M_widenReadPlain_33 : decode prog_14_method_46_code 33 = .ok (.iconst 1, 1) := by decide +kernel
theorem d_M_widenReadPlain_34 : decode prog_14_method_46_code 34 = .ok (.goto 4, 3) := by decide +kernel
theorem d_M_widenReadPlain_37 : decode prog_14_method_46_code 37 = .ok (.iconst 0, 1) := by decide +kernel
theorem d_M_widenReadPlain_38 : decode prog_14_method_46_code 38 = .ok (.istore_n 2, 1) := by decide +kernel
theorem d_M_widenReadPlain_39 : decode prog_14_method_46_code 39 = .ok (.iload_n 2, 1) := by decide +kernel
theorem d_M_widenReadPlain_40 : decode prog_14_method_46_code 40 = .ok (.ifCond .ne 14, 3) := by decide +kernel
theorem d_M_widenReadPlain_43 : decode prog_14_method_46_code 43 = .ok (.aload_n 0, 1) := by decide +kernel
theorem d_M_widenReadPlain_44 : decode prog_14_method_46_code 44 = .ok (.getfield 229, 3) := by decide +kernel
theorem d_M_widenReadPlain_47 : decode prog_14_method_46_code 47 = .ok (.ldc2_w 137, 3) := by decide +kernel
theorem d_M_widenReadPlain_50 : decode prog_14_method_46_code 50 = .ok (.lcmp, 1) := by decide +kernel
theorem d_M_widenReadPlain_51 : decode prog_14_method_46_code 51 = .ok (.ifCond .ge 7, 3) := by decide +kernel
theorem d_M_widenReadPlain_54 : decode prog_14_method_46_code 54 = .ok (.iconst 1, 1) := by decide +kernel
theorem d_M_widenReadPlain_55 : decode prog_14_method_46_code 55 = .ok (.goto 4, 3) := by decide +kernel
theorem d_M_widenReadPlain_58 : decode prog_14_method_46_code 58 = .ok (.iconst 0, 1) := by decide +kernel
theorem d_M_widenReadPlain_59 : decode prog_14_method_46_code 59 = .ok (.istore_n 1, 1) := by decide +kernel
theorem d_M_widenReadPlain_60 : decode prog_14_method_46_code 60 = .ok (.iload_n 1, 1) := by decide +kernel
theorem d_M_widenReadPlain_61 : decode prog_14_method_46_code 61 = .ok (.ifCond .eq 78, 3) := by decide +kernel
theorem d_M_widenReadPlain_64 : decode prog_14_method_46_code 64 = .ok (.aload_n 0, 1) := by decide +kernel
theorem d_M_widenReadPlain_65 : decode prog_14_method_46_code 65 = .ok (.iload_n 2, 1) := by decide +kernel
theorem d_M_widenReadPlain_66 : decode prog_14_method_46_code 66 = .ok (.ifCond .eq 10, 3) := by decide +kernel
theorem d_M_widenReadPlain_69 : decode prog_14_method_46_code 69 = .ok (.aload_n 0, 1) := by decide +kernel
theorem d_M_widenReadPlain_70 : decode prog_14_method_46_code 70 = .ok (.getfield 229, 3) := by decide +kernel
theorem d_M_widenReadPlain_73 : decode prog_14_method_46_code 73 = .ok (.goto 12, 3) := by decide +kernel
theorem d_M_widenReadPlain_76 : decode prog_14_method_46_code 76 = .ok (.aload_n 0, 1) := by decide +kernel
theorem d_M_widenReadPlain_77 : decode prog_14_method_46_code 77 = .ok (.getfield 226, 3) := by decide +kernel
theorem d_M_widenReadPlain_80 : decode prog_14_method_46_code 80 = .ok (.lneg, 1) := by decide +kernel
theorem d_M_widenReadPlain_81 : decode prog_14_method_46_code 81 = .ok (.ldc2_w 139, 3) := by decide +kernel
theorem d_M_widenReadPlain_84 : decode prog_14_method_46_code 84 = .ok (.land, 1) := by decide +kernel
theorem d_M_widenReadPlain_85 : decode prog_14_method_46_code 85 = .ok (.putfield 229, 3) := by decide +kernel
theorem d_M_widenReadPlain_88 : decode prog_14_method_46_code 88 = .ok (.aload_n 0, 1) := by decide +kernel
theorem d_M_widenReadPlain_89 : decode prog_14_method_46_code 89 = .ok (.aload_n 0, 1) := by decide +kernel
theorem d_M_widenReadPlain_90 : decode prog_14_method_46_code 90 = .ok (.getfield 226, 3) := by decide +kernel
theorem d_M_widenReadPlain_93 : decode prog_14_method_46_code 93 = .ok (.bipush 8, 2) := by decide +kernel
theorem d_M_widenReadPlain_95 : decode prog_14_method_46_code 95 = .ok (.lshl, 1) := by decide +kernel
theorem d_M_widenReadPlain_96 : decode prog_14_method_46_code 96 = .ok (.ldc2_w 108, 3) := by decide +kernel
theorem d_M_widenReadPlain_99 : decode prog_14_method_46_code 99 = .ok (.land, 1) := by decide +kernel
theorem d_M_widenReadPlain_100 : decode prog_14_method_46_code 100 = .ok (.putfield 226, 3) := by decide +kernel
theorem d_M_widenReadPlain_103 : decode prog_14_method_46_code 103 = .ok (.aload_n 0, 1) := by decide +kernel
theorem d_M_widenReadPlain_104 : decode prog_14_method_46_code 104 = .ok (.aload_n 0, 1) := by decide +kernel
theorem d_M_widenReadPlain_105 : decode prog_14_method_46_code 105 = .ok (.getfield 229, 3) := by decide +kernel
theorem d_M_widenReadPlain_108 : decode prog_14_method_46_code 108 = .ok (.bipush 8, 2) := by decide +kernel
theorem d_M_widenReadPlain_110 : decode prog_14_method_46_code 110 = .ok (.lshl, 1) := by decide +kernel
theorem d_M_widenReadPlain_111 : decode prog_14_method_46_code 111 = .ok (.ldc2_w 108, 3) := by decide +kernel
theorem d_M_widenReadPlain_114 : decode prog_14_method_46_code 114 = .ok (.land, 1) := by decide +kernel
theorem d_M_widenReadPlain_115 : decode prog_14_method_46_code 115 = .ok (.putfield 229, 3) := by decide +kernel
theorem d_M_widenReadPlain_118 : decode prog_14_method_46_code 118 = .ok (.aload_n 0, 1) := by decide +kernel
theorem d_M_widenReadPlain_119 : decode prog_14_method_46_code 119 = .ok (.aload_n 0, 1) := by decide +kernel
theorem d_M_widenReadPlain_120 : decode prog_14_method_46_code 120 = .ok (.getfield 223, 3) := by decide +kernel
theorem d_M_widenReadPlain_123 : decode prog_14_method_46_code 123 = .ok (.bipush 8, 2) := by decide +kernel
theorem d_M_widenReadPlain_125 : decode prog_14_method_46_code 125 = .ok (.lshl, 1) := by decide +kernel
theorem d_M_widenReadPlain_126 : decode prog_14_method_46_code 126 = .ok (.ldc2_w 108, 3) := by decide +kernel
theorem d_M_widenReadPlain_129 : decode prog_14_method_46_code 129 = .ok (.land, 1) := by decide +kernel
theorem d_M_widenReadPlain_130 : decode prog_14_method_46_code 130 = .ok (.aload_n 0, 1) := by decide +kernel
theorem d_M_widenReadPlain_131 : decode prog_14_method_46_code 131 = .ok (.invokevirtual 213, 3) := by decide +kernel
theorem d_M_widenReadPlain_134 : decode prog_14_method_46_code 134 = .ok (.i2l, 1) := by decide +kernel
theorem d_M_widenReadPlain_135 : decode prog_14_method_46_code 135 = .ok (.ladd, 1) := by decide +kernel
theorem d_M_widenReadPlain_136 : decode prog_14_method_46_code 136 = .ok (.putfield 223, 3) := by decide +kernel
theorem d_M_widenReadPlain_139 : decode prog_14_method_46_code 139 = .ok (.goto (-137), 3) := by decide +kernel
theorem d_M_widenReadPlain_142 : decode prog_14_method_46_code 142 = .ok (.return_, 1) := by decide +kernel
theorem d_M_getNode_0 : decode prog_14_method_51_code 0 = .ok (.aload_n 0, 1) := by decide +kernel
theorem d_M_getNode_1 : decode prog_14_method_51_code 1 = .ok (.getfield 223, 3) := by decide +kernel
theorem d_M_getNode_4 : decode prog_14_method_51_code 4 = .ok (.aload_n 0, 1) := by decide +kernel
theorem d_M_getNode_5 : decode prog_14_method_51_code 5 = .ok (.getfield 229, 3) := by decide +kernel
theorem d_M_getNode_8 : decode prog_14_method_51_code 8 = .ok (.lcmp, 1) := by decide +kernel
theorem d_M_getNode_9 : decode prog_14_method_51_code 9 = .ok (.ifCond .lt 5, 3) := by decide +kernel
theorem d_M_getNode_12 : decode prog_14_method_51_code 12 = .ok (.iconst (-1), 1) := by decide +kernel
theorem d_M_getNode_13 : decode prog_14_method_51_code 13 = .ok (.ireturn, 1) := by decide +kernel
theorem d_M_getNode_14 : decode prog_14_method_51_code 14 = .ok (.iconst 1, 1) := by decide +kernel
theorem d_M_getNode_15 : decode prog_14_method_51_code 15 = .ok (.istore_n 2, 1) := by decide +kernel
theorem d_M_getNode_16 : decode prog_14_method_51_code 16 = .ok (.aload_n 0, 1) := by decide +kernel
theorem d_M_getNode_17 : decode prog_14_method_51_code 17 = .ok (.iload_n 1, 1) := by decide +kernel
theorem d_M_getNode_18 : decode prog_14_method_51_code 18 = .ok (.invokevirtual 158, 3) := by decide +kernel
theorem d_M_getNode_21 : decode prog_14_method_51_code 21 = .ok (.istore_n 3, 1) := by decide +kernel
theorem d_M_getNode_22 : decode prog_14_method_51_code 22 = .ok (.iconst 0, 1) := by decide +kernel
theorem d_M_getNode_23 : decode prog_14_method_51_code 23 = .ok (.istore 4, 2) := by decide +kernel
theorem d_M_getNode_25 : decode prog_14_method_51_code 25 = .ok (.iload 4, 2) := by decide +kernel
theorem d_M_getNode_27 : decode prog_14_method_51_code 27 = .ok (.iload_n 3, 1) := by decide +kernel
theorem d_M_getNode_28 : decode prog_14_method_51_code 28 = .ok (.if_icmp .ge 44, 3) := by decide +kernel
theorem d_M_getNode_31 : decode prog_14_method_51_code 31 = .ok (.bipush 64, 2) := by decide +kernel
theorem d_M_getNode_33 : decode prog_14_method_51_code 33 = .ok (.iload_n 1, 1) := by decide +kernel
theorem d_M_getNode_34 : decode prog_14_method_51_code 34 = .ok (.imul, 1) := by decide +kernel
theorem d_M_getNode_35 : decode prog_14_method_51_code 35 = .ok (.iload_n 2, 1) := by decide +kernel
theorem d_M_getNode_36 : decode prog_14_method_51_code 36 = .ok (.iadd, 1) := by decide +kernel
theorem d_M_getNode_37 : decode prog_14_method_51_code 37 = .ok (.istore 5, 2) := by decide +kernel
theorem d_M_getNode_39 : decode prog_14_method_51_code 39 = .ok (.iconst 2, 1) := by decide +kernel
theorem d_M_getNode_40 : decode prog_14_method_51_code 40 = .ok (.iload_n 2, 1) := by decide +kernel
theorem d_M_getNode_41 : decode prog_14_method_51_code 41 = .ok (.imul, 1) := by decide +kernel
theorem d_M_getNode_42 : decode prog_14_method_51_code 42 = .ok (.aload_n 0, 1) := by decide +kernel
theorem d_M_getNode_43 : decode prog_14_method_51_code 43 = .ok (.aload_n 0, 1) := by decide +kernel
theorem d_M_getNode_44 : decode prog_14_method_51_code 44 = .ok (.getfield 229, 3) := by decide +kernel
theorem d_M_getNode_47 : decode prog_14_method_51_code 47 = .ok (.bipush 11, 2) := by decide +kernel
theorem d_M_getNode_49 : decode prog_14_method_51_code 49 = .ok (.lshr, 1) := by decide +kernel
theorem d_M_getNode_50 : decode prog_14_method_51_code 50 = .ok (.aload_n 0, 1) := by decide +kernel
theorem d_M_getNode_51 : decode prog_14_method_51_code 51 = .ok (.getfield 19, 3) := by decide +kernel
theorem d_M_getNode_54 : decode prog_14_method_51_code 54 = .ok (.iload 5, 2) := by decide +kernel
theorem d_M_getNode_56 : decode prog_14_method_51_code 56 = .ok (.iaload, 1) := by decide +kernel
theorem d_M_getNode_57 : decode prog_14_method_51_code 57 = .ok (.i2l, 1) := by decide +kernel
theorem d_M_getNode_58 : decode prog_14_method_51_code 58 = .ok (.lmul, 1) := by decide +kernel
theorem d_M_getNode_59 : decode prog_14_method_51_code 59 = .ok (.iload 5, 2) := by decide +kernel
theorem d_M_getNode_61 : decode prog_14_method_51_code 61 = .ok (.invokevirtual 250, 3) := by decide +kernel
theorem d_M_getNode_64 : decode prog_14_method_51_code 64 = .ok (.iadd, 1) := by decide +kernel
theorem d_M_getNode_65 : decode prog_14_method_51_code 65 = .ok (.istore_n 2, 1) := by decide +kernel
theorem d_M_getNode_66 : decode prog_14_method_51_code 66 = .ok (.iinc 4 1, 3) := by decide +kernel
theorem d_M_getNode_69 : decode prog_14_method_51_code 69 = .ok (.goto (-44), 3) := by decide +kernel
theorem d_M_getNode_72 : decode prog_14_method_51_code 72 = .ok (.iload_n 2, 1) := by decide +kernel
theorem d_M_getNode_73 : decode prog_14_method_51_code 73 = .ok (.iconst 1, 1) := by decide +kernel
theorem d_M_getNode_74 : decode prog_14_method_51_code 74 = .ok (.iload_n 3, 1) := by decide +kernel
theorem d_M_getNode_75 : decode prog_14_method_51_code 75 = .ok (.ishl, 1) := by decide +kernel
theorem d_M_getNode_76 : decode prog_14_method_51_code 76 = .ok (.isub, 1) := by decide +kernel
theorem d_M_getNode_77 : decode prog_14_method_51_code 77 = .ok (.istore 4, 2) := by decide +kernel
theorem d_M_getNode_79 : decode prog_14_method_51_code 79 = .ok (.iload 4, 2) := by decide +kernel
theorem d_M_getNode_81 : decode prog_14_method_51_code 81 = .ok (.aload_n 0, 1) := by decide +kernel
theorem d_M_getNode_82 : decode prog_14_method_51_code 82 = .ok (.getfield 7, 3) := by decide +kernel
theorem d_M_getNode_85 : decode prog_14_method_51_code 85 = .ok (.iload_n 1, 1) := by decide +kernel
theorem d_M_getNode_86 : decode prog_14_method_51_code 86 = .ok (.iaload, 1) := by decide +kernel
theorem d_M_getNode_87 : decode prog_14_method_51_code 87 = .ok (.if_icmp .ge 8, 3) := by decide +kernel
theorem d_M_getNode_90 : decode prog_14_method_51_code 90 = .ok (.iload 4, 2) := by decide +kernel
theorem d_M_getNode_92 : decode prog_14_method_51_code 92 = .ok (.goto 4, 3) := by decide +kernel
theorem d_M_getNode_95 : decode prog_14_method_51_code 95 = .ok (.iconst (-1), 1) := by decide +kernel
theorem d_M_getNode_96 : decode prog_14_method_51_code 96 = .ok (.ireturn, 1) := by decide +kernel
theorem d_M_readBit_0 : decode prog_14_method_50_code 0 = .ok (.aload_n 0, 1) := by decide +kernel
theorem d_M_readBit_1 : decode prog_14_method_50_code 1 = .ok (.getfield 223, 3) := by decide +kernel
theorem d_M_readBit_4 : decode prog_14_method_50_code 4 = .ok (.lload_n 1, 1) := by decide +kernel
theorem d_M_readBit_5 : decode prog_14_method_50_code 5 = .ok (.lcmp, 1) := by decide +kernel
theorem d_M_readBit_6 : decode prog_14_method_50_code 6 = .ok (.ifCond .ge 7, 3) := by decide +kernel
theorem d_M_readBit_9 : decode prog_14_method_50_code 9 = .ok (.iconst 0, 1) := by decide +kernel
theorem d_M_readBit_10 : decode prog_14_method_50_code 10 = .ok (.goto 4, 3) := by decide +kernel
theorem d_M_readBit_13 : decode prog_14_method_50_code 13 = .ok (.iconst 1, 1) := by decide +kernel
theorem d_M_readBit_14 : decode prog_14_method_50_code 14 = .ok (.istore 4, 2) := by decide +kernel
theorem d_M_readBit_16 : decode prog_14_method_50_code 16 = .ok (.iload 4, 2) := by decide +kernel
theorem d_M_readBit_18 : decode prog_14_method_50_code 18 = .ok (.ifCond .ne 11, 3) := by decide +kernel
theorem d_M_readBit_21 : decode prog_14_method_50_code 21 = .ok (.aload_n 0, 1) := by decide +kernel
theorem d_M_readBit_22 : decode prog_14_method_50_code 22 = .ok (.lload_n 1, 1) := by decide +kernel
theorem d_M_readBit_23 : decode prog_14_method_50_code 23 = .ok (.putfield 229, 3) := by decide +kernel
theorem d_M_readBit_26 : decode prog_14_method_50_code 26 = .ok (.goto 23, 3) := by decide +kernel
theorem d_M_readBit_29 : decode prog_14_method_50_code 29 = .ok (.aload_n 0, 1) := by decide +kernel
theorem d_M_readBit_30 : decode prog_14_method_50_code 30 = .ok (.aload_n 0, 1) := by decide +kernel
theorem d_M_readBit_31 : decode prog_14_method_50_code 31 = .ok (.getfield 223, 3) := by decide +kernel
theorem d_M_readBit_34 : decode prog_14_method_50_code 34 = .ok (.lload_n 1, 1) := by decide +kernel
theorem d_M_readBit_35 : decode prog_14_method_50_code 35 = .ok (.lsub, 1) := by decide +kernel
theorem d_M_readBit_36 : decode prog_14_method_50_code 36 = .ok (.putfield 223, 3) := by decide +kernel
theorem d_M_readBit_39 : decode prog_14_method_50_code 39 = .ok (.aload_n 0, 1) := by decide +kernel
theorem d_M_readBit_40 : decode prog_14_method_50_code 40 = .ok (.aload_n 0, 1) := by decide +kernel
theorem d_M_readBit_41 : decode prog_14_method_50_code 41 = .ok (.getfield 229, 3) := by decide +kernel
theorem d_M_readBit_44 : decode prog_14_method_50_code 44 = .ok (.lload_n 1, 1) := by decide +kernel
theorem d_M_readBit_45 : decode prog_14_method_50_code 45 = .ok (.lsub, 1) := by decide +kernel
theorem d_M_readBit_46 : decode prog_14_method_50_code 46 = .ok (.putfield 229, 3) := by decide +kernel
theorem d_M_readBit_49 : decode prog_14_method_50_code 49 = .ok (.aload_n 0, 1) := by decide +kernel
theorem d_M_readBit_50 : decode prog_14_method_50_code 50 = .ok (.aload_n 0, 1) := by decide +kernel
theorem d_M_readBit_51 : decode prog_14_method_50_code 51 = .ok (.getfield 19, 3) := by decide +kernel
theorem d_M_readBit_54 : decode prog_14_method_50_code 54 = .ok (.iload_n 3, 1) := by decide +kernel
theorem d_M_readBit_55 : decode prog_14_method_50_code 55 = .ok (.iload 4, 2) := by decide +kernel
theorem d_M_readBit_57 : decode prog_14_method_50_code 57 = .ok (.invokevirtual 166, 3) := by decide +kernel
theorem d_M_readBit_60 : decode prog_14_method_50_code 60 = .ok (.aload_n 0, 1) := by decide +kernel
theorem d_M_readBit_61 : decode prog_14_method_50_code 61 = .ok (.invokevirtual 244, 3) := by decide +kernel
theorem d_M_readBit_64 : decode prog_14_method_50_code 64 = .ok (.iload 4, 2) := by decide +kernel
theorem d_M_readBit_66 : decode prog_14_method_50_code 66 = .ok (.ireturn, 1) := by decide +kernel
theorem d_M_getStacked_0 : decode prog_14_method_53_code 0 = .ok (.aload_n 0, 1) := by decide +kernel
theorem d_M_getStacked_1 : decode prog_14_method_53_code 1 = .ok (.aload_n 0, 1) := by decide +kernel
theorem d_M_getStacked_2 : decode prog_14_method_53_code 2 = .ok (.getfield 19, 3) := by decide +kernel
theorem d_M_getStacked_5 : decode prog_14_method_53_code 5 = .ok (.iload_n 1, 1) := by decide +kernel
theorem d_M_getStacked_6 : decode prog_14_method_53_code 6 = .ok (.invokevirtual 77, 3) := by decide +kernel
theorem d_M_getStacked_9 : decode prog_14_method_53_code 9 = .ok (.ifCond .ne 5, 3) := by decide +kernel
theorem d_M_getStacked_12 : decode prog_14_method_53_code 12 = .ok (.iconst (-1), 1) := by decide +kernel
theorem d_M_getStacked_13 : decode prog_14_method_53_code 13 = .ok (.ireturn, 1) := by decide +kernel
theorem d_M_getStacked_14 : decode prog_14_method_53_code 14 = .ok (.aload_n 0, 1) := by decide +kernel
theorem d_M_getStacked_15 : decode prog_14_method_53_code 15 = .ok (.getfield 232, 3) := by decide +kernel
theorem d_M_getStacked_18 : decode prog_14_method_53_code 18 = .ok (.ldc2_w 265, 3) := by decide +kernel
theorem d_M_getStacked_21 : decode prog_14_method_53_code 21 = .ok (.land, 1) := by decide +kernel
theorem d_M_getStacked_22 : decode prog_14_method_53_code 22 = .ok (.l2i, 1) := by decide +kernel
theorem d_M_getStacked_23 : decode prog_14_method_53_code 23 = .ok (.istore_n 2, 1) := by decide +kernel
theorem d_M_getStacked_24 : decode prog_14_method_53_code 24 = .ok (.aload_n 0, 1) := by decide +kernel
theorem d_M_getStacked_25 : decode prog_14_method_53_code 25 = .ok (.iload_n 1, 1) := by decide +kernel
theorem d_M_getStacked_26 : decode prog_14_method_53_code 26 = .ok (.iload_n 2, 1) := by decide +kernel
theorem d_M_getStacked_27 : decode prog_14_method_53_code 27 = .ok (.i2l, 1) := by decide +kernel
theorem d_M_getStacked_28 : decode prog_14_method_53_code 28 = .ok (.invokevirtual 258, 3) := by decide +kernel
theorem d_M_getStacked_31 : decode prog_14_method_53_code 31 = .ok (.istore_n 3, 1) := by decide +kernel
theorem d_M_getStacked_32 : decode prog_14_method_53_code 32 = .ok (.aload_n 0, 1) := by decide +kernel
theorem d_M_getStacked_33 : decode prog_14_method_53_code 33 = .ok (.aload_n 0, 1) := by decide +kernel
theorem d_M_getStacked_34 : decode prog_14_method_53_code 34 = .ok (.getfield 232, 3) := by decide +kernel
theorem d_M_getStacked_37 : decode prog_14_method_53_code 37 = .ok (.bipush 12, 2) := by decide +kernel
theorem d_M_getStacked_39 : decode prog_14_method_53_code 39 = .ok (.lshr, 1) := by decide +kernel
theorem d_M_getStacked_40 : decode prog_14_method_53_code 40 = .ok (.aload_n 0, 1) := by decide +kernel
theorem d_M_getStacked_41 : decode prog_14_method_53_code 41 = .ok (.getfield 19, 3) := by decide +kernel
theorem d_M_getStacked_44 : decode prog_14_method_53_code 44 = .ok (.bipush 64, 2) := by decide +kernel
theorem d_M_getStacked_46 : decode prog_14_method_53_code 46 = .ok (.iload_n 1, 1) := by decide +kernel
theorem d_M_getStacked_47 : decode prog_14_method_53_code 47 = .ok (.imul, 1) := by decide +kernel
theorem d_M_getStacked_48 : decode prog_14_method_53_code 48 = .ok (.iload_n 3, 1) := by decide +kernel
theorem d_M_getStacked_49 : decode prog_14_method_53_code 49 = .ok (.iadd, 1) := by decide +kernel
theorem d_M_getStacked_50 : decode prog_14_method_53_code 50 = .ok (.iaload, 1) := by decide +kernel
theorem d_M_getStacked_51 : decode prog_14_method_53_code 51 = .ok (.i2l, 1) := by decide +kernel
theorem d_M_getStacked_52 : decode prog_14_method_53_code 52 = .ok (.lmul, 1) := by decide +kernel
theorem d_M_getStacked_53 : decode prog_14_method_53_code 53 = .ok (.iload_n 2, 1) := by decide +kernel
theorem d_M_getStacked_54 : decode prog_14_method_53_code 54 = .ok (.i2l, 1) := by decide +kernel
theorem d_M_getStacked_55 : decode prog_14_method_53_code 55 = .ok (.ladd, 1) := by decide +kernel
theorem d_M_getStacked_56 : decode prog_14_method_53_code 56 = .ok (.aload_n 0, 1) := by decide +kernel
theorem d_M_getStacked_57 : decode prog_14_method_53_code 57 = .ok (.aload_n 0, 1) := by decide +kernel
theorem d_M_getStacked_58 : decode prog_14_method_53_code 58 = .ok (.getfield 19, 3) := by decide +kernel
theorem d_M_getStacked_61 : decode prog_14_method_53_code 61 = .ok (.iload_n 1, 1) := by decide +kernel
theorem d_M_getStacked_62 : decode prog_14_method_53_code 62 = .ok (.iload_n 3, 1) := by decide +kernel
theorem d_M_getStacked_63 : decode prog_14_method_53_code 63 = .ok (.invokevirtual 147, 3) := by decide +kernel
theorem d_M_getStacked_66 : decode prog_14_method_53_code 66 = .ok (.i2l, 1) := by decide +kernel
theorem d_M_getStacked_67 : decode prog_14_method_53_code 67 = .ok (.lsub, 1) := by decide +kernel
theorem d_M_getStacked_68 : decode prog_14_method_53_code 68 = .ok (.putfield 232, 3) := by decide +kernel
theorem d_M_getStacked_71 : decode prog_14_method_53_code 71 = .ok (.aload_n 0, 1) := by decide +kernel
theorem d_M_getStacked_72 : decode prog_14_method_53_code 72 = .ok (.invokevirtual 267, 3) := by decide +kernel
theorem d_M_getStacked_75 : decode prog_14_method_53_code 75 = .ok (.iload_n 3, 1) := by decide +kernel
theorem d_M_getStacked_76 : decode prog_14_method_53_code 76 = .ok (.ireturn, 1) := by decide +kernel
theorem d_M_refill_0 : decode prog_14_method_54_code 0 = .ok (.aload_n 0, 1) := by decide +kernel
theorem d_M_refill_1 : decode prog_14_method_54_code 1 = .ok (.getfield 232, 3) := by decide +kernel
theorem d_M_refill_4 : decode prog_14_method_54_code 4 = .ok (.ldc2_w 191, 3) := by decide +kernel
theorem d_M_refill_7 : decode prog_14_method_54_code 7 = .ok (.lcmp, 1) := by decide +kernel
theorem d_M_refill_8 : decode prog_14_method_54_code 8 = .ok (.ifCond .ge 23, 3) := by decide +kernel
theorem d_M_refill_11 : decode prog_14_method_54_code 11 = .ok (.aload_n 0, 1) := by decide +kernel
theorem d_M_refill_12 : decode prog_14_method_54_code 12 = .ok (.aload_n 0, 1) := by decide +kernel
theorem d_M_refill_13 : decode prog_14_method_54_code 13 = .ok (.getfield 232, 3) := by decide +kernel
theorem d_M_refill_16 : decode prog_14_method_54_code 16 = .ok (.bipush 8, 2) := by decide +kernel
theorem d_M_refill_18 : decode prog_14_method_54_code 18 = .ok (.lshl, 1) := by decide +kernel
theorem d_M_refill_19 : decode prog_14_method_54_code 19 = .ok (.aload_n 0, 1) := by decide +kernel
theorem d_M_refill_20 : decode prog_14_method_54_code 20 = .ok (.invokevirtual 213, 3) := by decide +kernel
theorem d_M_refill_23 : decode prog_14_method_54_code 23 = .ok (.i2l, 1) := by decide +kernel
theorem d_M_refill_24 : decode prog_14_method_54_code 24 = .ok (.lor, 1) := by decide +kernel
theorem d_M_refill_25 : decode prog_14_method_54_code 25 = .ok (.putfield 232, 3) := by decide +kernel
theorem d_M_refill_28 : decode prog_14_method_54_code 28 = .ok (.goto (-28), 3) := by decide +kernel
theorem d_M_refill_31 : decode prog_14_method_54_code 31 = .ok (.return_, 1) := by decide +kernel
theorem d_M_getTabled_0 : decode prog_14_method_55_code 0 = .ok (.aload_n 0, 1) := by decide +kernel
theorem d_M_getTabled_1 : decode prog_14_method_55_code 1 = .ok (.aload_n 0, 1) := by decide +kernel
theorem d_M_getTabled_2 : decode prog_14_method_55_code 2 = .ok (.getfield 19, 3) := by decide +kernel
theorem d_M_getTabled_5 : decode prog_14_method_55_code 5 = .ok (.iload_n 1, 1) := by decide +kernel
theorem d_M_getTabled_6 : decode prog_14_method_55_code 6 = .ok (.invokevirtual 77, 3) := by decide +kernel
theorem d_M_getTabled_9 : decode prog_14_method_55_code 9 = .ok (.ifCond .ne 5, 3) := by decide +kernel
theorem d_M_getTabled_12 : decode prog_14_method_55_code 12 = .ok (.iconst (-1), 1) := by decide +kernel
theorem d_M_getTabled_13 : decode prog_14_method_55_code 13 = .ok (.ireturn, 1) := by decide +kernel
theorem d_M_getTabled_14 : decode prog_14_method_55_code 14 = .ok (.aload_n 0, 1) := by decide +kernel
theorem d_M_getTabled_15 : decode prog_14_method_55_code 15 = .ok (.aload_n 0, 1) := by decide +kernel
theorem d_M_getTabled_16 : decode prog_14_method_55_code 16 = .ok (.getfield 19, 3) := by decide +kernel
theorem d_M_getTabled_19 : decode prog_14_method_55_code 19 = .ok (.iload_n 1, 1) := by decide +kernel
theorem d_M_getTabled_20 : decode prog_14_method_55_code 20 = .ok (.invokevirtual 199, 3) := by decide +kernel
theorem d_M_getTabled_23 : decode prog_14_method_55_code 23 = .ok (.aload_n 0, 1) := by decide +kernel
theorem d_M_getTabled_24 : decode prog_14_method_55_code 24 = .ok (.getfield 232, 3) := by decide +kernel
theorem d_M_getTabled_27 : decode prog_14_method_55_code 27 = .ok (.l2i, 1) := by decide +kernel
theorem d_M_getTabled_28 : decode prog_14_method_55_code 28 = .ok (.sipush 512, 3) := by decide +kernel
theorem d_M_getTabled_31 : decode prog_14_method_55_code 31 = .ok (.isub, 1) := by decide +kernel
theorem d_M_getTabled_32 : decode prog_14_method_55_code 32 = .ok (.istore_n 2, 1) := by decide +kernel
theorem d_M_getTabled_33 : decode prog_14_method_55_code 33 = .ok (.aload_n 0, 1) := by decide +kernel
theorem d_M_getTabled_34 : decode prog_14_method_55_code 34 = .ok (.getfield 37, 3) := by decide +kernel
theorem d_M_getTabled_37 : decode prog_14_method_55_code 37 = .ok (.iload_n 2, 1) := by decide +kernel
theorem d_M_getTabled_38 : decode prog_14_method_55_code 38 = .ok (.iaload, 1) := by decide +kernel
theorem d_M_getTabled_39 : decode prog_14_method_55_code 39 = .ok (.istore_n 3, 1) := by decide +kernel
theorem d_M_getTabled_40 : decode prog_14_method_55_code 40 = .ok (.aload_n 0, 1) := by decide +kernel
theorem d_M_getTabled_41 : decode prog_14_method_55_code 41 = .ok (.aload_n 0, 1) := by decide +kernel
theorem d_M_getTabled_42 : decode prog_14_method_55_code 42 = .ok (.getfield 19, 3) := by decide +kernel
theorem d_M_getTabled_45 : decode prog_14_method_55_code 45 = .ok (.bipush 64, 2) := by decide +kernel
theorem d_M_getTabled_47 : decode prog_14_method_55_code 47 = .ok (.iload_n 1, 1) := by decide +kernel
theorem d_M_getTabled_48 : decode prog_14_method_55_code 48 = .ok (.imul, 1) := by decide +kernel
theorem d_M_getTabled_49 : decode prog_14_method_55_code 49 = .ok (.iload_n 3, 1) := by decide +kernel
theorem d_M_getTabled_50 : decode prog_14_method_55_code 50 = .ok (.iadd, 1) := by decide +kernel
theorem d_M_getTabled_51 : decode prog_14_method_55_code 51 = .ok (.iaload, 1) := by decide +kernel
theorem d_M_getTabled_52 : decode prog_14_method_55_code 52 = .ok (.aload_n 0, 1) := by decide +kernel
theorem d_M_getTabled_53 : decode prog_14_method_55_code 53 = .ok (.getfield 40, 3) := by decide +kernel
theorem d_M_getTabled_56 : decode prog_14_method_55_code 56 = .ok (.iload_n 2, 1) := by decide +kernel
theorem d_M_getTabled_57 : decode prog_14_method_55_code 57 = .ok (.iaload, 1) := by decide +kernel
theorem d_M_getTabled_58 : decode prog_14_method_55_code 58 = .ok (.iadd, 1) := by decide +kernel
theorem d_M_getTabled_59 : decode prog_14_method_55_code 59 = .ok (.i2l, 1) := by decide +kernel
theorem d_M_getTabled_60 : decode prog_14_method_55_code 60 = .ok (.putfield 232, 3) := by decide +kernel
theorem d_M_getTabled_63 : decode prog_14_method_55_code 63 = .ok (.aload_n 0, 1) := by decide +kernel
theorem d_M_getTabled_64 : decode prog_14_method_55_code 64 = .ok (.getfield 232, 3) := by decide +kernel
theorem d_M_getTabled_67 : decode prog_14_method_55_code 67 = .ok (.ldc2_w 193, 3) := by decide +kernel
theorem d_M_getTabled_70 : decode prog_14_method_55_code 70 = .ok (.lcmp, 1) := by decide +kernel
theorem d_M_getTabled_71 : decode prog_14_method_55_code 71 = .ok (.ifCond .ge 24, 3) := by decide +kernel
theorem d_M_getTabled_74 : decode prog_14_method_55_code 74 = .ok (.aload_n 0, 1) := by decide +kernel
theorem d_M_getTabled_75 : decode prog_14_method_55_code 75 = .ok (.ldc2_w 202, 3) := by decide +kernel
theorem d_M_getTabled_78 : decode prog_14_method_55_code 78 = .ok (.aload_n 0, 1) := by decide +kernel
theorem d_M_getTabled_79 : decode prog_14_method_55_code 79 = .ok (.getfield 232, 3) := by decide +kernel
theorem d_M_getTabled_82 : decode prog_14_method_55_code 82 = .ok (.lmul, 1) := by decide +kernel
theorem d_M_getTabled_83 : decode prog_14_method_55_code 83 = .ok (.aload_n 0, 1) := by decide +kernel
theorem d_M_getTabled_84 : decode prog_14_method_55_code 84 = .ok (.invokevirtual 239, 3) := by decide +kernel
theorem d_M_getTabled_87 : decode prog_14_method_55_code 87 = .ok (.i2l, 1) := by decide +kernel
theorem d_M_getTabled_88 : decode prog_14_method_55_code 88 = .ok (.ladd, 1) := by decide +kernel
theorem d_M_getTabled_89 : decode prog_14_method_55_code 89 = .ok (.putfield 232, 3) := by decide +kernel
theorem d_M_getTabled_92 : decode prog_14_method_55_code 92 = .ok (.goto (-29), 3) := by decide +kernel
theorem d_M_getTabled_95 : decode prog_14_method_55_code 95 = .ok (.iload_n 3, 1) := by decide +kernel
theorem d_M_getTabled_96 : decode prog_14_method_55_code 96 = .ok (.ireturn, 1) := by decide +kernel
theorem d_M_spoiled_0 : decode prog_14_method_44_code 0 = .ok (.aload_n 0, 1) := by decide +kernel
theorem d_M_spoiled_1 : decode prog_14_method_44_code 1 = .ok (.iconst 1, 1) := by decide +kernel
theorem d_M_spoiled_2 : decode prog_14_method_44_code 2 = .ok (.putfield 217, 3) := by decide +kernel
theorem d_M_spoiled_5 : decode prog_14_method_44_code 5 = .ok (.bipush (-5), 2) := by decide +kernel
theorem d_M_spoiled_7 : decode prog_14_method_44_code 7 = .ok (.ireturn, 1) := by decide +kernel
theorem d_M_getBits_0 : decode prog_14_method_57_code 0 = .ok (.aload_n 0, 1) := by decide +kernel
theorem d_M_getBits_1 : decode prog_14_method_57_code 1 = .ok (.iconst 0, 1) := by decide +kernel
theorem d_M_getBits_2 : decode prog_14_method_57_code 2 = .ok (.putfield 56, 3) := by decide +kernel
theorem d_M_getBits_5 : decode prog_14_method_57_code 5 = .ok (.iload_n 1, 1) := by decide +kernel
theorem d_M_getBits_6 : decode prog_14_method_57_code 6 = .ok (.iconst 1, 1) := by decide +kernel
theorem d_M_getBits_7 : decode prog_14_method_57_code 7 = .ok (.aload_n 0, 1) := by decide +kernel
theorem d_M_getBits_8 : decode prog_14_method_57_code 8 = .ok (.getfield 46, 3) := by decide +kernel
theorem d_M_getBits_11 : decode prog_14_method_57_code 11 = .ok (.iconst 4, 1) := by decide +kernel
theorem d_M_getBits_12 : decode prog_14_method_57_code 12 = .ok (.if_icmp .ne 8, 3) := by decide +kernel
theorem d_M_getBits_15 : decode prog_14_method_57_code 15 = .ok (.bipush 9, 2) := by decide +kernel
theorem d_M_getBits_17 : decode prog_14_method_57_code 17 = .ok (.goto 5, 3) := by decide +kernel
theorem d_M_getBits_20 : decode prog_14_method_57_code 20 = .ok (.bipush 12, 2) := by decide +kernel
theorem d_M_getBits_22 : decode prog_14_method_57_code 22 = .ok (.invokestatic 62, 3) := by decide +kernel
theorem d_M_getBits_25 : decode prog_14_method_57_code 25 = .ok (.ifCond .ne 6, 3) := by decide +kernel
theorem d_M_getBits_28 : decode prog_14_method_57_code 28 = .ok (.bipush (-2), 2) := by decide +kernel
theorem d_M_getBits_30 : decode prog_14_method_57_code 30 = .ok (.ireturn, 1) := by decide +kernel
theorem d_M_getBits_31 : decode prog_14_method_57_code 31 = .ok (.aload_n 0, 1) := by decide +kernel
theorem d_M_getBits_32 : decode prog_14_method_57_code 32 = .ok (.getfield 101, 3) := by decide +kernel
theorem d_M_getBits_35 : decode prog_14_method_57_code 35 = .ok (.ifCond .ne 6, 3) := by decide +kernel
theorem d_M_getBits_38 : decode prog_14_method_57_code 38 = .ok (.bipush (-3), 2) := by decide +kernel
theorem d_M_getBits_40 : decode prog_14_method_57_code 40 = .ok (.ireturn, 1) := by decide +kernel
theorem d_M_getBits_41 : decode prog_14_method_57_code 41 = .ok (.aload_n 0, 1) := by decide +kernel
theorem d_M_getBits_42 : decode prog_14_method_57_code 42 = .ok (.getfield 217, 3) := by decide +kernel
theorem d_M_getBits_45 : decode prog_14_method_57_code 45 = .ok (.ifCond .eq 6, 3) := by decide +kernel
theorem d_M_getBits_48 : decode prog_14_method_57_code 48 = .ok (.bipush (-5), 2) := by decide +kernel
theorem d_M_getBits_50 : decode prog_14_method_57_code 50 = .ok (.ireturn, 1) := by decide +kernel
theorem d_M_getBits_51 : decode prog_14_method_57_code 51 = .ok (.aload_n 0, 1) := by decide +kernel
theorem d_M_getBits_52 : decode prog_14_method_57_code 52 = .ok (.iload_n 1, 1) := by decide +kernel
theorem d_M_getBits_53 : decode prog_14_method_57_code 53 = .ok (.invokevirtual 285, 3) := by decide +kernel
theorem d_M_getBits_56 : decode prog_14_method_57_code 56 = .ok (.istore_n 2, 1) := by decide +kernel
theorem d_M_getBits_57 : decode prog_14_method_57_code 57 = .ok (.iload_n 2, 1) := by decide +kernel
theorem d_M_getBits_58 : decode prog_14_method_57_code 58 = .ok (.ifCond .ge 8, 3) := by decide +kernel
theorem d_M_getBits_61 : decode prog_14_method_57_code 61 = .ok (.aload_n 0, 1) := by decide +kernel
theorem d_M_getBits_62 : decode prog_14_method_57_code 62 = .ok (.invokevirtual 282, 3) := by decide +kernel
theorem d_M_getBits_65 : decode prog_14_method_57_code 65 = .ok (.ireturn, 1) := by decide +kernel
theorem d_M_getBits_66 : decode prog_14_method_57_code 66 = .ok (.aload_n 0, 1) := by decide +kernel
theorem d_M_getBits_67 : decode prog_14_method_57_code 67 = .ok (.dup, 1) := by decide +kernel
theorem d_M_getBits_68 : decode prog_14_method_57_code 68 = .ok (.getfield 220, 3) := by decide +kernel
theorem d_M_getBits_71 : decode prog_14_method_57_code 71 = .ok (.iconst 1, 1) := by decide +kernel
theorem d_M_getBits_72 : decode prog_14_method_57_code 72 = .ok (.iadd, 1) := by decide +kernel
theorem d_M_getBits_73 : decode prog_14_method_57_code 73 = .ok (.putfield 220, 3) := by decide +kernel
theorem d_M_getBits_76 : decode prog_14_method_57_code 76 = .ok (.iload_n 2, 1) := by decide +kernel
theorem d_M_getBits_77 : decode prog_14_method_57_code 77 = .ok (.ireturn, 1) := by decide +kernel
theorem d_M_valueOf_0 : decode prog_14_method_58_code 0 = .ok (.aload_n 0, 1) := by decide +kernel
theorem d_M_valueOf_1 : decode prog_14_method_58_code 1 = .ok (.getfield 46, 3) := by decide +kernel
theorem d_M_valueOf_4 : decode prog_14_method_58_code 4 = .ok (.iconst 2, 1) := by decide +kernel
theorem d_M_valueOf_5 : decode prog_14_method_58_code 5 = .ok (.if_icmp .ge 30, 3) := by decide +kernel
theorem d_M_valueOf_8 : decode prog_14_method_58_code 8 = .ok (.aload_n 0, 1) := by decide +kernel
theorem d_M_valueOf_9 : decode prog_14_method_58_code 9 = .ok (.iconst 1, 1) := by decide +kernel
theorem d_M_valueOf_10 : decode prog_14_method_58_code 10 = .ok (.iload_n 1, 1) := by decide +kernel
theorem d_M_valueOf_11 : decode prog_14_method_58_code 11 = .ok (.ishl, 1) := by decide +kernel
theorem d_M_valueOf_12 : decode prog_14_method_58_code 12 = .ok (.invokevirtual 254, 3) := by decide +kernel
theorem d_M_valueOf_15 : decode prog_14_method_58_code 15 = .ok (.lstore_n 2, 1) := by decide +kernel
theorem d_M_valueOf_16 : decode prog_14_method_58_code 16 = .ok (.lload_n 2, 1) := by decide +kernel
theorem d_M_valueOf_17 : decode prog_14_method_58_code 17 = .ok (.lconst 0, 1) := by decide +kernel
theorem d_M_valueOf_18 : decode prog_14_method_58_code 18 = .ok (.lcmp, 1) := by decide +kernel
theorem d_M_valueOf_19 : decode prog_14_method_58_code 19 = .ok (.ifCond .lt 13, 3) := by decide +kernel
theorem d_M_valueOf_22 : decode prog_14_method_58_code 22 = .ok (.aload_n 0, 1) := by decide +kernel
theorem d_M_valueOf_23 : decode prog_14_method_58_code 23 = .ok (.lload_n 2, 1) := by decide +kernel
theorem d_M_valueOf_24 : decode prog_14_method_58_code 24 = .ok (.l2i, 1) := by decide +kernel
theorem d_M_valueOf_25 : decode prog_14_method_58_code 25 = .ok (.iconst 1, 1) := by decide +kernel
theorem d_M_valueOf_26 : decode prog_14_method_58_code 26 = .ok (.iconst 1, 1) := by decide +kernel
theorem d_M_valueOf_27 : decode prog_14_method_58_code 27 = .ok (.iload_n 1, 1) := by decide +kernel
theorem d_M_valueOf_28 : decode prog_14_method_58_code 28 = .ok (.ishl, 1) := by decide +kernel
theorem d_M_valueOf_29 : decode prog_14_method_58_code 29 = .ok (.invokevirtual 262, 3) := by decide +kernel
theorem d_M_valueOf_32 : decode prog_14_method_58_code 32 = .ok (.lload_n 2, 1) := by decide +kernel
theorem d_M_valueOf_33 : decode prog_14_method_58_code 33 = .ok (.l2i, 1) := by decide +kernel
theorem d_M_valueOf_34 : decode prog_14_method_58_code 34 = .ok (.ireturn, 1) := by decide +kernel
theorem d_M_valueOf_35 : decode prog_14_method_58_code 35 = .ok (.aload_n 0, 1) := by decide +kernel
theorem d_M_valueOf_36 : decode prog_14_method_58_code 36 = .ok (.getfield 46, 3) := by decide +kernel
theorem d_M_valueOf_39 : decode prog_14_method_58_code 39 = .ok (.iconst 2, 1) := by decide +kernel
theorem d_M_valueOf_40 : decode prog_14_method_58_code 40 = .ok (.if_icmp .ne 9, 3) := by decide +kernel
theorem d_M_valueOf_43 : decode prog_14_method_58_code 43 = .ok (.aload_n 0, 1) := by decide +kernel
theorem d_M_valueOf_44 : decode prog_14_method_58_code 44 = .ok (.iload_n 1, 1) := by decide +kernel
theorem d_M_valueOf_45 : decode prog_14_method_58_code 45 = .ok (.invokevirtual 288, 3) := by decide +kernel
theorem d_M_valueOf_48 : decode prog_14_method_58_code 48 = .ok (.ireturn, 1) := by decide +kernel
theorem d_M_valueOf_49 : decode prog_14_method_58_code 49 = .ok (.aload_n 0, 1) := by decide +kernel
theorem d_M_valueOf_50 : decode prog_14_method_58_code 50 = .ok (.getfield 46, 3) := by decide +kernel
theorem d_M_valueOf_53 : decode prog_14_method_58_code 53 = .ok (.iconst 3, 1) := by decide +kernel
theorem d_M_valueOf_54 : decode prog_14_method_58_code 54 = .ok (.if_icmp .ne 54, 3) := by decide +kernel
theorem d_M_valueOf_57 : decode prog_14_method_58_code 57 = .ok (.sipush 4096, 3) := by decide +kernel
theorem d_M_valueOf_60 : decode prog_14_method_58_code 60 = .ok (.iload_n 1, 1) := by decide +kernel
theorem d_M_valueOf_61 : decode prog_14_method_58_code 61 = .ok (.ishr, 1) := by decide +kernel
theorem d_M_valueOf_62 : decode prog_14_method_58_code 62 = .ok (.istore_n 2, 1) := by decide +kernel
theorem d_M_valueOf_63 : decode prog_14_method_58_code 63 = .ok (.aload_n 0, 1) := by decide +kernel
theorem d_M_valueOf_64 : decode prog_14_method_58_code 64 = .ok (.getfield 232, 3) := by decide +kernel
theorem d_M_valueOf_67 : decode prog_14_method_58_code 67 = .ok (.ldc2_w 265, 3) := by decide +kernel
theorem d_M_valueOf_70 : decode prog_14_method_58_code 70 = .ok (.land, 1) := by decide +kernel
theorem d_M_valueOf_71 : decode prog_14_method_58_code 71 = .ok (.l2i, 1) := by decide +kernel
theorem d_M_valueOf_72 : decode prog_14_method_58_code 72 = .ok (.istore_n 3, 1) := by decide +kernel
theorem d_M_valueOf_73 : decode prog_14_method_58_code 73 = .ok (.iload_n 3, 1) := by decide +kernel
theorem d_M_valueOf_74 : decode prog_14_method_58_code 74 = .ok (.iload_n 2, 1) := by decide +kernel
theorem d_M_valueOf_75 : decode prog_14_method_58_code 75 = .ok (.idiv, 1) := by decide +kernel
theorem d_M_valueOf_76 : decode prog_14_method_58_code 76 = .ok (.istore 4, 2) := by decide +kernel
theorem d_M_valueOf_78 : decode prog_14_method_58_code 78 = .ok (.aload_n 0, 1) := by decide +kernel
theorem d_M_valueOf_79 : decode prog_14_method_58_code 79 = .ok (.aload_n 0, 1) := by decide +kernel
theorem d_M_valueOf_80 : decode prog_14_method_58_code 80 = .ok (.getfield 232, 3) := by decide +kernel
theorem d_M_valueOf_83 : decode prog_14_method_58_code 83 = .ok (.bipush 12, 2) := by decide +kernel
theorem d_M_valueOf_85 : decode prog_14_method_58_code 85 = .ok (.lshr, 1) := by decide +kernel
theorem d_M_valueOf_86 : decode prog_14_method_58_code 86 = .ok (.iload_n 2, 1) := by decide +kernel
theorem d_M_valueOf_87 : decode prog_14_method_58_code 87 = .ok (.i2l, 1) := by decide +kernel
theorem d_M_valueOf_88 : decode prog_14_method_58_code 88 = .ok (.lmul, 1) := by decide +kernel
theorem d_M_valueOf_89 : decode prog_14_method_58_code 89 = .ok (.iload_n 3, 1) := by decide +kernel
theorem d_M_valueOf_90 : decode prog_14_method_58_code 90 = .ok (.i2l, 1) := by decide +kernel
theorem d_M_valueOf_91 : decode prog_14_method_58_code 91 = .ok (.ladd, 1) := by decide +kernel
theorem d_M_valueOf_92 : decode prog_14_method_58_code 92 = .ok (.iload_n 2, 1) := by decide +kernel
theorem d_M_valueOf_93 : decode prog_14_method_58_code 93 = .ok (.iload 4, 2) := by decide +kernel
theorem d_M_valueOf_95 : decode prog_14_method_58_code 95 = .ok (.imul, 1) := by decide +kernel
theorem d_M_valueOf_96 : decode prog_14_method_58_code 96 = .ok (.i2l, 1) := by decide +kernel
theorem d_M_valueOf_97 : decode prog_14_method_58_code 97 = .ok (.lsub, 1) := by decide +kernel
theorem d_M_valueOf_98 : decode prog_14_method_58_code 98 = .ok (.putfield 232, 3) := by decide +kernel
theorem d_M_valueOf_101 : decode prog_14_method_58_code 101 = .ok (.aload_n 0, 1) := by decide +kernel
theorem d_M_valueOf_102 : decode prog_14_method_58_code 102 = .ok (.invokevirtual 267, 3) := by decide +kernel
theorem d_M_valueOf_105 : decode prog_14_method_58_code 105 = .ok (.iload 4, 2) := by decide +kernel
theorem d_M_valueOf_107 : decode prog_14_method_58_code 107 = .ok (.ireturn, 1) := by decide +kernel
theorem d_M_valueOf_108 : decode prog_14_method_58_code 108 = .ok (.iconst 0, 1) := by decide +kernel
theorem d_M_valueOf_109 : decode prog_14_method_58_code 109 = .ok (.istore_n 2, 1) := by decide +kernel
theorem d_M_valueOf_110 : decode prog_14_method_58_code 110 = .ok (.iconst 0, 1) := by decide +kernel
theorem d_M_valueOf_111 : decode prog_14_method_58_code 111 = .ok (.istore_n 3, 1) := by decide +kernel
theorem d_M_valueOf_112 : decode prog_14_method_58_code 112 = .ok (.iload_n 3, 1) := by decide +kernel
theorem d_M_valueOf_113 : decode prog_14_method_58_code 113 = .ok (.iload_n 1, 1) := by decide +kernel
theorem d_M_valueOf_114 : decode prog_14_method_58_code 114 = .ok (.if_icmp .ge 18, 3) := by decide +kernel
theorem d_M_valueOf_117 : decode prog_14_method_58_code 117 = .ok (.iconst 2, 1) := by decide +kernel
theorem d_M_valueOf_118 : decode prog_14_method_58_code 118 = .ok (.iload_n 2, 1) := by decide +kernel
theorem d_M_valueOf_119 : decode prog_14_method_58_code 119 = .ok (.imul, 1) := by decide +kernel
theorem d_M_valueOf_120 : decode prog_14_method_58_code 120 = .ok (.aload_n 0, 1) := by decide +kernel
theorem d_M_valueOf_121 : decode prog_14_method_58_code 121 = .ok (.invokevirtual 239, 3) := by decide +kernel
theorem d_M_valueOf_124 : decode prog_14_method_58_code 124 = .ok (.iadd, 1) := by decide +kernel
theorem d_M_valueOf_125 : decode prog_14_method_58_code 125 = .ok (.istore_n 2, 1) := by decide +kernel
theorem d_M_valueOf_126 : decode prog_14_method_58_code 126 = .ok (.iinc 3 1, 3) := by decide +kernel
theorem d_M_valueOf_129 : decode prog_14_method_58_code 129 = .ok (.goto (-17), 3) := by decide +kernel
theorem d_M_valueOf_132 : decode prog_14_method_58_code 132 = .ok (.iload_n 2, 1) := by decide +kernel
theorem d_M_valueOf_133 : decode prog_14_method_58_code 133 = .ok (.ireturn, 1) := by decide +kernel
theorem d_M_plainBits_0 : decode prog_14_method_59_code 0 = .ok (.aload_n 0, 1) := by decide +kernel
theorem d_M_plainBits_1 : decode prog_14_method_59_code 1 = .ok (.getfield 223, 3) := by decide +kernel
theorem d_M_plainBits_4 : decode prog_14_method_59_code 4 = .ok (.aload_n 0, 1) := by decide +kernel
theorem d_M_plainBits_5 : decode prog_14_method_59_code 5 = .ok (.getfield 229, 3) := by decide +kernel
theorem d_M_plainBits_8 : decode prog_14_method_59_code 8 = .ok (.lcmp, 1) := by decide +kernel
theorem d_M_plainBits_9 : decode prog_14_method_59_code 9 = .ok (.ifCond .lt 5, 3) := by decide +kernel
theorem d_M_plainBits_12 : decode prog_14_method_59_code 12 = .ok (.iconst (-1), 1) := by decide +kernel
theorem d_M_plainBits_13 : decode prog_14_method_59_code 13 = .ok (.ireturn, 1) := by decide +kernel
theorem d_M_plainBits_14 : decode prog_14_method_59_code 14 = .ok (.iconst 0, 1) := by decide +kernel
theorem d_M_plainBits_15 : decode prog_14_method_59_code 15 = .ok (.istore_n 2, 1) := by decide +kernel
theorem d_M_plainBits_16 : decode prog_14_method_59_code 16 = .ok (.iconst 0, 1) := by decide +kernel
theorem d_M_plainBits_17 : decode prog_14_method_59_code 17 = .ok (.istore_n 3, 1) := by decide +kernel
theorem d_M_plainBits_18 : decode prog_14_method_59_code 18 = .ok (.iload_n 3, 1) := by decide +kernel
theorem d_M_plainBits_19 : decode prog_14_method_59_code 19 = .ok (.iload_n 1, 1) := by decide +kernel
theorem d_M_plainBits_20 : decode prog_14_method_59_code 20 = .ok (.if_icmp .ge 89, 3) := by decide +kernel
theorem d_M_plainBits_23 : decode prog_14_method_59_code 23 = .ok (.aload_n 0, 1) := by decide +kernel
theorem d_M_plainBits_24 : decode prog_14_method_59_code 24 = .ok (.aload_n 0, 1) := by decide +kernel
theorem d_M_plainBits_25 : decode prog_14_method_59_code 25 = .ok (.getfield 229, 3) := by decide +kernel
theorem d_M_plainBits_28 : decode prog_14_method_59_code 28 = .ok (.iconst 1, 1) := by decide +kernel
theorem d_M_plainBits_29 : decode prog_14_method_59_code 29 = .ok (.lshr, 1) := by decide +kernel
theorem d_M_plainBits_30 : decode prog_14_method_59_code 30 = .ok (.putfield 229, 3) := by decide +kernel
theorem d_M_plainBits_33 : decode prog_14_method_59_code 33 = .ok (.aload_n 0, 1) := by decide +kernel
theorem d_M_plainBits_34 : decode prog_14_method_59_code 34 = .ok (.getfield 223, 3) := by decide +kernel
theorem d_M_plainBits_37 : decode prog_14_method_59_code 37 = .ok (.aload_n 0, 1) := by decide +kernel
theorem d_M_plainBits_38 : decode prog_14_method_59_code 38 = .ok (.getfield 229, 3) := by decide +kernel
theorem d_M_plainBits_41 : decode prog_14_method_59_code 41 = .ok (.lcmp, 1) := by decide +kernel
theorem d_M_plainBits_42 : decode prog_14_method_59_code 42 = .ok (.ifCond .ge 7, 3) := by decide +kernel
theorem d_M_plainBits_45 : decode prog_14_method_59_code 45 = .ok (.iconst 0, 1) := by decide +kernel
theorem d_M_plainBits_46 : decode prog_14_method_59_code 46 = .ok (.goto 4, 3) := by decide +kernel
theorem d_M_plainBits_49 : decode prog_14_method_59_code 49 = .ok (.iconst 1, 1) := by decide +kernel
theorem d_M_plainBits_50 : decode prog_14_method_59_code 50 = .ok (.istore 4, 2) := by decide +kernel
theorem d_M_plainBits_52 : decode prog_14_method_59_code 52 = .ok (.aload_n 0, 1) := by decide +kernel
theorem d_M_plainBits_53 : decode prog_14_method_59_code 53 = .ok (.iload 4, 2) := by decide +kernel
theorem d_M_plainBits_55 : decode prog_14_method_59_code 55 = .ok (.iconst 1, 1) := by decide +kernel
theorem d_M_plainBits_56 : decode prog_14_method_59_code 56 = .ok (.if_icmp .ne 15, 3) := by decide +kernel
theorem d_M_plainBits_59 : decode prog_14_method_59_code 59 = .ok (.aload_n 0, 1) := by decide +kernel
theorem d_M_plainBits_60 : decode prog_14_method_59_code 60 = .ok (.getfield 223, 3) := by decide +kernel
theorem d_M_plainBits_63 : decode prog_14_method_59_code 63 = .ok (.aload_n 0, 1) := by decide +kernel
theorem d_M_plainBits_64 : decode prog_14_method_59_code 64 = .ok (.getfield 229, 3) := by decide +kernel
theorem d_M_plainBits_67 : decode prog_14_method_59_code 67 = .ok (.lsub, 1) := by decide +kernel
theorem d_M_plainBits_68 : decode prog_14_method_59_code 68 = .ok (.goto 7, 3) := by decide +kernel
theorem d_M_plainBits_71 : decode prog_14_method_59_code 71 = .ok (.aload_n 0, 1) := by decide +kernel
theorem d_M_plainBits_72 : decode prog_14_method_59_code 72 = .ok (.getfield 223, 3) := by decide +kernel
theorem d_M_plainBits_75 : decode prog_14_method_59_code 75 = .ok (.putfield 223, 3) := by decide +kernel
theorem d_M_plainBits_78 : decode prog_14_method_59_code 78 = .ok (.aload_n 0, 1) := by decide +kernel
theorem d_M_plainBits_79 : decode prog_14_method_59_code 79 = .ok (.getfield 223, 3) := by decide +kernel
theorem d_M_plainBits_82 : decode prog_14_method_59_code 82 = .ok (.aload_n 0, 1) := by decide +kernel
theorem d_M_plainBits_83 : decode prog_14_method_59_code 83 = .ok (.getfield 229, 3) := by decide +kernel
theorem d_M_plainBits_86 : decode prog_14_method_59_code 86 = .ok (.lcmp, 1) := by decide +kernel
theorem d_M_plainBits_87 : decode prog_14_method_59_code 87 = .ok (.ifCond .lt 5, 3) := by decide +kernel
theorem d_M_plainBits_90 : decode prog_14_method_59_code 90 = .ok (.iconst (-1), 1) := by decide +kernel
theorem d_M_plainBits_91 : decode prog_14_method_59_code 91 = .ok (.ireturn, 1) := by decide +kernel
theorem d_M_plainBits_92 : decode prog_14_method_59_code 92 = .ok (.iconst 2, 1) := by decide +kernel
theorem d_M_plainBits_93 : decode prog_14_method_59_code 93 = .ok (.iload_n 2, 1) := by decide +kernel
theorem d_M_plainBits_94 : decode prog_14_method_59_code 94 = .ok (.imul, 1) := by decide +kernel
theorem d_M_plainBits_95 : decode prog_14_method_59_code 95 = .ok (.iload 4, 2) := by decide +kernel
theorem d_M_plainBits_97 : decode prog_14_method_59_code 97 = .ok (.iadd, 1) := by decide +kernel
theorem d_M_plainBits_98 : decode prog_14_method_59_code 98 = .ok (.istore_n 2, 1) := by decide +kernel
theorem d_M_plainBits_99 : decode prog_14_method_59_code 99 = .ok (.aload_n 0, 1) := by decide +kernel
theorem d_M_plainBits_100 : decode prog_14_method_59_code 100 = .ok (.invokevirtual 244, 3) := by decide +kernel
theorem d_M_plainBits_103 : decode prog_14_method_59_code 103 = .ok (.iinc 3 1, 3) := by decide +kernel
theorem d_M_plainBits_106 : decode prog_14_method_59_code 106 = .ok (.goto (-88), 3) := by decide +kernel
theorem d_M_plainBits_109 : decode prog_14_method_59_code 109 = .ok (.iload_n 2, 1) := by decide +kernel
theorem d_M_plainBits_110 : decode prog_14_method_59_code 110 = .ok (.ireturn, 1) := by decide +kernel
theorem d_M_told_0 : decode prog_14_method_60_code 0 = .ok (.aload_n 0, 1) := by decide +kernel
theorem d_M_told_1 : decode prog_14_method_60_code 1 = .ok (.iconst 0, 1) := by decide +kernel
theorem d_M_told_2 : decode prog_14_method_60_code 2 = .ok (.putfield 56, 3) := by decide +kernel
theorem d_M_told_5 : decode prog_14_method_60_code 5 = .ok (.iload_n 1, 1) := by decide +kernel
theorem d_M_told_6 : decode prog_14_method_60_code 6 = .ok (.tableswitch 139 0 7 #[46, 51, 64, 69, 74, 90, 106, 126], 46) := by decide +kernel
theorem d_M_told_52 : decode prog_14_method_60_code 52 = .ok (.aload_n 0, 1) := by decide +kernel
theorem d_M_told_53 : decode prog_14_method_60_code 53 = .ok (.getfield 94, 3) := by decide +kernel
theorem d_M_told_56 : decode prog_14_method_60_code 56 = .ok (.ireturn, 1) := by decide +kernel
theorem d_M_told_57 : decode prog_14_method_60_code 57 = .ok (.aload_n 0, 1) := by decide +kernel
theorem d_M_told_58 : decode prog_14_method_60_code 58 = .ok (.getfield 97, 3) := by decide +kernel
theorem d_M_told_61 : decode prog_14_method_60_code 61 = .ok (.ifCond .eq 7, 3) := by decide +kernel
theorem d_M_told_64 : decode prog_14_method_60_code 64 = .ok (.iconst 1, 1) := by decide +kernel
theorem d_M_told_65 : decode prog_14_method_60_code 65 = .ok (.goto 4, 3) := by decide +kernel
theorem d_M_told_68 : decode prog_14_method_60_code 68 = .ok (.iconst 0, 1) := by decide +kernel
theorem d_M_told_69 : decode prog_14_method_60_code 69 = .ok (.ireturn, 1) := by decide +kernel
theorem d_M_told_70 : decode prog_14_method_60_code 70 = .ok (.aload_n 0, 1) := by decide +kernel
theorem d_M_told_71 : decode prog_14_method_60_code 71 = .ok (.getfield 185, 3) := by decide +kernel
theorem d_M_told_74 : decode prog_14_method_60_code 74 = .ok (.ireturn, 1) := by decide +kernel
theorem d_M_told_75 : decode prog_14_method_60_code 75 = .ok (.aload_n 0, 1) := by decide +kernel
theorem d_M_told_76 : decode prog_14_method_60_code 76 = .ok (.getfield 204, 3) := by decide +kernel
theorem d_M_told_79 : decode prog_14_method_60_code 79 = .ok (.ireturn, 1) := by decide +kernel
theorem d_M_told_80 : decode prog_14_method_60_code 80 = .ok (.aload_n 0, 1) := by decide +kernel
theorem d_M_told_81 : decode prog_14_method_60_code 81 = .ok (.getfield 101, 3) := by decide +kernel
theorem d_M_told_84 : decode prog_14_method_60_code 84 = .ok (.ifCond .eq 10, 3) := by decide +kernel
theorem d_M_told_87 : decode prog_14_method_60_code 87 = .ok (.aload_n 0, 1) := by decide +kernel
theorem d_M_told_88 : decode prog_14_method_60_code 88 = .ok (.getfield 220, 3) := by decide +kernel
theorem d_M_told_91 : decode prog_14_method_60_code 91 = .ok (.goto 4, 3) := by decide +kernel
theorem d_M_told_94 : decode prog_14_method_60_code 94 = .ok (.iconst 0, 1) := by decide +kernel
theorem d_M_told_95 : decode prog_14_method_60_code 95 = .ok (.ireturn, 1) := by decide +kernel
theorem d_M_told_96 : decode prog_14_method_60_code 96 = .ok (.aload_n 0, 1) := by decide +kernel
theorem d_M_told_97 : decode prog_14_method_60_code 97 = .ok (.getfield 101, 3) := by decide +kernel
theorem d_M_told_100 : decode prog_14_method_60_code 100 = .ok (.ifCond .eq 10, 3) := by decide +kernel
theorem d_M_told_103 : decode prog_14_method_60_code 103 = .ok (.aload_n 0, 1) := by decide +kernel
theorem d_M_told_104 : decode prog_14_method_60_code 104 = .ok (.getfield 207, 3) := by decide +kernel
theorem d_M_told_107 : decode prog_14_method_60_code 107 = .ok (.goto 4, 3) := by decide +kernel
theorem d_M_told_110 : decode prog_14_method_60_code 110 = .ok (.iconst 0, 1) := by decide +kernel
theorem d_M_told_111 : decode prog_14_method_60_code 111 = .ok (.ireturn, 1) := by decide +kernel
theorem d_M_told_112 : decode prog_14_method_60_code 112 = .ok (.aload_n 0, 1) := by decide +kernel
theorem d_M_told_113 : decode prog_14_method_60_code 113 = .ok (.getfield 101, 3) := by decide +kernel
theorem d_M_told_116 : decode prog_14_method_60_code 116 = .ok (.ifCond .eq 14, 3) := by decide +kernel
theorem d_M_told_119 : decode prog_14_method_60_code 119 = .ok (.aload_n 0, 1) := by decide +kernel
theorem d_M_told_120 : decode prog_14_method_60_code 120 = .ok (.getfield 217, 3) := by decide +kernel
theorem d_M_told_123 : decode prog_14_method_60_code 123 = .ok (.ifCond .eq 7, 3) := by decide +kernel
theorem d_M_told_126 : decode prog_14_method_60_code 126 = .ok (.iconst 1, 1) := by decide +kernel
theorem d_M_told_127 : decode prog_14_method_60_code 127 = .ok (.goto 4, 3) := by decide +kernel
theorem d_M_told_130 : decode prog_14_method_60_code 130 = .ok (.iconst 0, 1) := by decide +kernel
theorem d_M_told_131 : decode prog_14_method_60_code 131 = .ok (.ireturn, 1) := by decide +kernel
theorem d_M_told_132 : decode prog_14_method_60_code 132 = .ok (.aload_n 0, 1) := by decide +kernel
theorem d_M_told_133 : decode prog_14_method_60_code 133 = .ok (.getfield 101, 3) := by decide +kernel
theorem d_M_told_136 : decode prog_14_method_60_code 136 = .ok (.ifCond .eq 7, 3) := by decide +kernel
theorem d_M_told_139 : decode prog_14_method_60_code 139 = .ok (.iconst 1, 1) := by decide +kernel
theorem d_M_told_140 : decode prog_14_method_60_code 140 = .ok (.goto 4, 3) := by decide +kernel
theorem d_M_told_143 : decode prog_14_method_60_code 143 = .ok (.iconst 0, 1) := by decide +kernel
theorem d_M_told_144 : decode prog_14_method_60_code 144 = .ok (.ireturn, 1) := by decide +kernel
theorem d_M_told_145 : decode prog_14_method_60_code 145 = .ok (.bipush (-2), 2) := by decide +kernel
theorem d_M_told_147 : decode prog_14_method_60_code 147 = .ok (.ireturn, 1) := by decide +kernel
theorem d_M_state_0 : decode prog_14_method_61_code 0 = .ok (.aload_n 0, 1) := by decide +kernel
theorem d_M_state_1 : decode prog_14_method_61_code 1 = .ok (.iconst 0, 1) := by decide +kernel
theorem d_M_state_2 : decode prog_14_method_61_code 2 = .ok (.putfield 56, 3) := by decide +kernel
theorem d_M_state_5 : decode prog_14_method_61_code 5 = .ok (.iload_n 1, 1) := by decide +kernel
theorem d_M_state_6 : decode prog_14_method_61_code 6 = .ok (.iconst 0, 1) := by decide +kernel
theorem d_M_state_7 : decode prog_14_method_61_code 7 = .ok (.iconst 5, 1) := by decide +kernel
theorem d_M_state_8 : decode prog_14_method_61_code 8 = .ok (.invokestatic 62, 3) := by decide +kernel
theorem d_M_state_11 : decode prog_14_method_61_code 11 = .ok (.ifCond .ne 7, 3) := by decide +kernel
theorem d_M_state_14 : decode prog_14_method_61_code 14 = .ok (.ldc2_w 291, 3) := by decide +kernel
theorem d_M_state_17 : decode prog_14_method_61_code 17 = .ok (.lreturn, 1) := by decide +kernel
theorem d_M_state_18 : decode prog_14_method_61_code 18 = .ok (.iload_n 1, 1) := by decide +kernel
theorem d_M_state_19 : decode prog_14_method_61_code 19 = .ok (.iconst 2, 1) := by decide +kernel
theorem d_M_state_20 : decode prog_14_method_61_code 20 = .ok (.if_icmp .ge 31, 3) := by decide +kernel
theorem d_M_state_23 : decode prog_14_method_61_code 23 = .ok (.aload_n 0, 1) := by decide +kernel
theorem d_M_state_24 : decode prog_14_method_61_code 24 = .ok (.getfield 46, 3) := by decide +kernel
theorem d_M_state_27 : decode prog_14_method_61_code 27 = .ok (.iconst 2, 1) := by decide +kernel
theorem d_M_state_28 : decode prog_14_method_61_code 28 = .ok (.if_icmp .le 7, 3) := by decide +kernel
theorem d_M_state_31 : decode prog_14_method_61_code 31 = .ok (.lconst 0, 1) := by decide +kernel
theorem d_M_state_32 : decode prog_14_method_61_code 32 = .ok (.goto 18, 3) := by decide +kernel
theorem d_M_state_35 : decode prog_14_method_61_code 35 = .ok (.iload_n 1, 1) := by decide +kernel
theorem d_M_state_36 : decode prog_14_method_61_code 36 = .ok (.ifCond .ne 10, 3) := by decide +kernel
theorem d_M_state_39 : decode prog_14_method_61_code 39 = .ok (.aload_n 0, 1) := by decide +kernel
theorem d_M_state_40 : decode prog_14_method_61_code 40 = .ok (.getfield 104, 3) := by decide +kernel
theorem d_M_state_43 : decode prog_14_method_61_code 43 = .ok (.goto 7, 3) := by decide +kernel
theorem d_M_state_46 : decode prog_14_method_61_code 46 = .ok (.aload_n 0, 1) := by decide +kernel
theorem d_M_state_47 : decode prog_14_method_61_code 47 = .ok (.getfield 110, 3) := by decide +kernel
theorem d_M_state_50 : decode prog_14_method_61_code 50 = .ok (.lreturn, 1) := by decide +kernel
theorem d_M_state_51 : decode prog_14_method_61_code 51 = .ok (.aload_n 0, 1) := by decide +kernel
theorem d_M_state_52 : decode prog_14_method_61_code 52 = .ok (.getfield 101, 3) := by decide +kernel
theorem d_M_state_55 : decode prog_14_method_61_code 55 = .ok (.ifCond .ne 5, 3) := by decide +kernel
theorem d_M_state_58 : decode prog_14_method_61_code 58 = .ok (.lconst 0, 1) := by decide +kernel
theorem d_M_state_59 : decode prog_14_method_61_code 59 = .ok (.lreturn, 1) := by decide +kernel
theorem d_M_state_60 : decode prog_14_method_61_code 60 = .ok (.iload_n 1, 1) := by decide +kernel
theorem d_M_state_61 : decode prog_14_method_61_code 61 = .ok (.iconst 5, 1) := by decide +kernel
theorem d_M_state_62 : decode prog_14_method_61_code 62 = .ok (.if_icmp .ne 20, 3) := by decide +kernel
theorem d_M_state_65 : decode prog_14_method_61_code 65 = .ok (.aload_n 0, 1) := by decide +kernel
theorem d_M_state_66 : decode prog_14_method_61_code 66 = .ok (.getfield 46, 3) := by decide +kernel
theorem d_M_state_69 : decode prog_14_method_61_code 69 = .ok (.iconst 2, 1) := by decide +kernel
theorem d_M_state_70 : decode prog_14_method_61_code 70 = .ok (.if_icmp .le 10, 3) := by decide +kernel
theorem d_M_state_73 : decode prog_14_method_61_code 73 = .ok (.aload_n 0, 1) := by decide +kernel
theorem d_M_state_74 : decode prog_14_method_61_code 74 = .ok (.getfield 232, 3) := by decide +kernel
theorem d_M_state_77 : decode prog_14_method_61_code 77 = .ok (.goto 4, 3) := by decide +kernel
theorem d_M_state_80 : decode prog_14_method_61_code 80 = .ok (.lconst 0, 1) := by decide +kernel
theorem d_M_state_81 : decode prog_14_method_61_code 81 = .ok (.lreturn, 1) := by decide +kernel
theorem d_M_state_82 : decode prog_14_method_61_code 82 = .ok (.aload_n 0, 1) := by decide +kernel
theorem d_M_state_83 : decode prog_14_method_61_code 83 = .ok (.getfield 46, 3) := by decide +kernel
theorem d_M_state_86 : decode prog_14_method_61_code 86 = .ok (.iconst 2, 1) := by decide +kernel
theorem d_M_state_87 : decode prog_14_method_61_code 87 = .ok (.if_icmp .le 5, 3) := by decide +kernel
theorem d_M_state_90 : decode prog_14_method_61_code 90 = .ok (.lconst 0, 1) := by decide +kernel
theorem d_M_state_91 : decode prog_14_method_61_code 91 = .ok (.lreturn, 1) := by decide +kernel
theorem d_M_state_92 : decode prog_14_method_61_code 92 = .ok (.iload_n 1, 1) := by decide +kernel
theorem d_M_state_93 : decode prog_14_method_61_code 93 = .ok (.iconst 2, 1) := by decide +kernel
theorem d_M_state_94 : decode prog_14_method_61_code 94 = .ok (.if_icmp .ne 10, 3) := by decide +kernel
theorem d_M_state_97 : decode prog_14_method_61_code 97 = .ok (.aload_n 0, 1) := by decide +kernel
theorem d_M_state_98 : decode prog_14_method_61_code 98 = .ok (.getfield 223, 3) := by decide +kernel
theorem d_M_state_101 : decode prog_14_method_61_code 101 = .ok (.goto 31, 3) := by decide +kernel
theorem d_M_state_104 : decode prog_14_method_61_code 104 = .ok (.iload_n 1, 1) := by decide +kernel
theorem d_M_state_105 : decode prog_14_method_61_code 105 = .ok (.iconst 3, 1) := by decide +kernel
theorem d_M_state_106 : decode prog_14_method_61_code 106 = .ok (.if_icmp .ne 22, 3) := by decide +kernel
theorem d_M_state_109 : decode prog_14_method_61_code 109 = .ok (.aload_n 0, 1) := by decide +kernel
theorem d_M_state_110 : decode prog_14_method_61_code 110 = .ok (.getfield 46, 3) := by decide +kernel
theorem d_M_state_113 : decode prog_14_method_61_code 113 = .ok (.iconst 1, 1) := by decide +kernel
theorem d_M_state_114 : decode prog_14_method_61_code 114 = .ok (.if_icmp .ne 10, 3) := by decide +kernel
theorem d_M_state_117 : decode prog_14_method_61_code 117 = .ok (.aload_n 0, 1) := by decide +kernel
theorem d_M_state_118 : decode prog_14_method_61_code 118 = .ok (.getfield 226, 3) := by decide +kernel
theorem d_M_state_121 : decode prog_14_method_61_code 121 = .ok (.goto 11, 3) := by decide +kernel
theorem d_M_state_124 : decode prog_14_method_61_code 124 = .ok (.lconst 0, 1) := by decide +kernel
theorem d_M_state_125 : decode prog_14_method_61_code 125 = .ok (.goto 7, 3) := by decide +kernel
theorem d_M_state_128 : decode prog_14_method_61_code 128 = .ok (.aload_n 0, 1) := by decide +kernel
theorem d_M_state_129 : decode prog_14_method_61_code 129 = .ok (.getfield 229, 3) := by decide +kernel
theorem d_M_state_132 : decode prog_14_method_61_code 132 = .ok (.lreturn, 1) := by decide +kernel
theorem d_M_chance_0 : decode prog_14_method_62_code 0 = .ok (.aload_n 0, 1) := by decide +kernel
theorem d_M_chance_1 : decode prog_14_method_62_code 1 = .ok (.iconst 0, 1) := by decide +kernel
theorem d_M_chance_2 : decode prog_14_method_62_code 2 = .ok (.putfield 56, 3) := by decide +kernel
theorem d_M_chance_5 : decode prog_14_method_62_code 5 = .ok (.aload_n 0, 1) := by decide +kernel
theorem d_M_chance_6 : decode prog_14_method_62_code 6 = .ok (.iload_n 1, 1) := by decide +kernel
theorem d_M_chance_7 : decode prog_14_method_62_code 7 = .ok (.invokevirtual 65, 3) := by decide +kernel
theorem d_M_chance_10 : decode prog_14_method_62_code 10 = .ok (.ifCond .ne 5, 3) := by decide +kernel
theorem d_M_chance_13 : decode prog_14_method_62_code 13 = .ok (.iconst (-1), 1) := by decide +kernel
theorem d_M_chance_14 : decode prog_14_method_62_code 14 = .ok (.ireturn, 1) := by decide +kernel
theorem d_M_chance_15 : decode prog_14_method_62_code 15 = .ok (.aload_n 0, 1) := by decide +kernel
theorem d_M_chance_16 : decode prog_14_method_62_code 16 = .ok (.getfield 46, 3) := by decide +kernel
theorem d_M_chance_19 : decode prog_14_method_62_code 19 = .ok (.iconst 2, 1) := by decide +kernel
theorem d_M_chance_20 : decode prog_14_method_62_code 20 = .ok (.if_icmp .ne 20, 3) := by decide +kernel
theorem d_M_chance_23 : decode prog_14_method_62_code 23 = .ok (.iload_n 2, 1) := by decide +kernel
theorem d_M_chance_24 : decode prog_14_method_62_code 24 = .ok (.iconst 1, 1) := by decide +kernel
theorem d_M_chance_25 : decode prog_14_method_62_code 25 = .ok (.iconst 1, 1) := by decide +kernel
theorem d_M_chance_26 : decode prog_14_method_62_code 26 = .ok (.aload_n 0, 1) := by decide +kernel
theorem d_M_chance_27 : decode prog_14_method_62_code 27 = .ok (.iload_n 1, 1) := by decide +kernel
theorem d_M_chance_28 : decode prog_14_method_62_code 28 = .ok (.invokevirtual 158, 3) := by decide +kernel
theorem d_M_chance_31 : decode prog_14_method_62_code 31 = .ok (.ishl, 1) := by decide +kernel
theorem d_M_chance_32 : decode prog_14_method_62_code 32 = .ok (.iconst 1, 1) := by decide +kernel
theorem d_M_chance_33 : decode prog_14_method_62_code 33 = .ok (.isub, 1) := by decide +kernel
theorem d_M_chance_34 : decode prog_14_method_62_code 34 = .ok (.invokestatic 62, 3) := by decide +kernel
theorem d_M_chance_37 : decode prog_14_method_62_code 37 = .ok (.goto 16, 3) := by decide +kernel
theorem d_M_chance_40 : decode prog_14_method_62_code 40 = .ok (.iload_n 2, 1) := by decide +kernel
theorem d_M_chance_41 : decode prog_14_method_62_code 41 = .ok (.iconst 0, 1) := by decide +kernel
theorem d_M_chance_42 : decode prog_14_method_62_code 42 = .ok (.aload_n 0, 1) := by decide +kernel
theorem d_M_chance_43 : decode prog_14_method_62_code 43 = .ok (.getfield 7, 3) := by decide +kernel
theorem d_M_chance_46 : decode prog_14_method_62_code 46 = .ok (.iload_n 1, 1) := by decide +kernel
theorem d_M_chance_47 : decode prog_14_method_62_code 47 = .ok (.iaload, 1) := by decide +kernel
theorem d_M_chance_48 : decode prog_14_method_62_code 48 = .ok (.iconst 1, 1) := by decide +kernel
theorem d_M_chance_49 : decode prog_14_method_62_code 49 = .ok (.isub, 1) := by decide +kernel
theorem d_M_chance_50 : decode prog_14_method_62_code 50 = .ok (.invokestatic 62, 3) := by decide +kernel
theorem d_M_chance_53 : decode prog_14_method_62_code 53 = .ok (.istore_n 3, 1) := by decide +kernel
theorem d_M_chance_54 : decode prog_14_method_62_code 54 = .ok (.iload_n 3, 1) := by decide +kernel
theorem d_M_chance_55 : decode prog_14_method_62_code 55 = .ok (.ifCond .eq 17, 3) := by decide +kernel
theorem d_M_chance_58 : decode prog_14_method_62_code 58 = .ok (.aload_n 0, 1) := by decide +kernel
theorem d_M_chance_59 : decode prog_14_method_62_code 59 = .ok (.getfield 16, 3) := by decide +kernel
theorem d_M_chance_62 : decode prog_14_method_62_code 62 = .ok (.bipush 64, 2) := by decide +kernel
theorem d_M_chance_64 : decode prog_14_method_62_code 64 = .ok (.iload_n 1, 1) := by decide +kernel
theorem d_M_chance_65 : decode prog_14_method_62_code 65 = .ok (.imul, 1) := by decide +kernel
theorem d_M_chance_66 : decode prog_14_method_62_code 66 = .ok (.iload_n 2, 1) := by decide +kernel
theorem d_M_chance_67 : decode prog_14_method_62_code 67 = .ok (.iadd, 1) := by decide +kernel
theorem d_M_chance_68 : decode prog_14_method_62_code 68 = .ok (.iaload, 1) := by decide +kernel
theorem d_M_chance_69 : decode prog_14_method_62_code 69 = .ok (.goto 4, 3) := by decide +kernel
theorem d_M_chance_72 : decode prog_14_method_62_code 72 = .ok (.iconst (-1), 1) := by decide +kernel
theorem d_M_chance_73 : decode prog_14_method_62_code 73 = .ok (.ireturn, 1) := by decide +kernel
end
