section
theorem d_RC_init_0 : decode prog_1_method_1_code 0 = .ok (.aload_n 0, 1) := by decide +kernel
theorem d_RC_init_1 : decode prog_1_method_1_code 1 = .ok (.invokespecial 1, 3) := by decide +kernel
theorem d_RC_init_4 : decode prog_1_method_1_code 4 = .ok (.aload_n 0, 1) := by decide +kernel
theorem d_RC_init_5 : decode prog_1_method_1_code 5 = .ok (.bipush 8, 2) := by decide +kernel
theorem d_RC_init_7 : decode prog_1_method_1_code 7 = .ok (.anewarray 9, 3) := by decide +kernel
theorem d_RC_init_10 : decode prog_1_method_1_code 10 = .ok (.putfield 11, 3) := by decide +kernel
theorem d_RC_init_13 : decode prog_1_method_1_code 13 = .ok (.aload_n 0, 1) := by decide +kernel
theorem d_RC_init_14 : decode prog_1_method_1_code 14 = .ok (.iload_n 1, 1) := by decide +kernel
theorem d_RC_init_15 : decode prog_1_method_1_code 15 = .ok (.iconst 0, 1) := by decide +kernel
theorem d_RC_init_16 : decode prog_1_method_1_code 16 = .ok (.iconst 4, 1) := by decide +kernel
theorem d_RC_init_17 : decode prog_1_method_1_code 17 = .ok (.invokestatic 15, 3) := by decide +kernel
theorem d_RC_init_20 : decode prog_1_method_1_code 20 = .ok (.iload_n 2, 1) := by decide +kernel
theorem d_RC_init_21 : decode prog_1_method_1_code 21 = .ok (.iconst 1, 1) := by decide +kernel
theorem d_RC_init_22 : decode prog_1_method_1_code 22 = .ok (.bipush 10, 2) := by decide +kernel
theorem d_RC_init_24 : decode prog_1_method_1_code 24 = .ok (.invokestatic 15, 3) := by decide +kernel
theorem d_RC_init_27 : decode prog_1_method_1_code 27 = .ok (.invokestatic 19, 3) := by decide +kernel
theorem d_RC_init_30 : decode prog_1_method_1_code 30 = .ok (.putfield 23, 3) := by decide +kernel
theorem d_RC_init_33 : decode prog_1_method_1_code 33 = .ok (.return_, 1) := by decide +kernel
theorem d_RC_nearest_0 : decode prog_1_method_18_code 0 = .ok (.iload_n 1, 1) := by decide +kernel
theorem d_RC_nearest_1 : decode prog_1_method_18_code 1 = .ok (.iload_n 2, 1) := by decide +kernel
theorem d_RC_nearest_2 : decode prog_1_method_18_code 2 = .ok (.iload_n 0, 1) := by decide +kernel
theorem d_RC_nearest_3 : decode prog_1_method_18_code 3 = .ok (.invokestatic 165, 3) := by decide +kernel
theorem d_RC_nearest_6 : decode prog_1_method_18_code 6 = .ok (.invokestatic 114, 3) := by decide +kernel
theorem d_RC_nearest_9 : decode prog_1_method_18_code 9 = .ok (.ireturn, 1) := by decide +kernel
theorem d_RC_coderOf_0 : decode prog_1_method_19_code 0 = .ok (.iload_n 0, 1) := by decide +kernel
theorem d_RC_coderOf_1 : decode prog_1_method_19_code 1 = .ok (.tableswitch 64 0 3 #[31, 39, 47, 56], 31) := by decide +kernel
theorem d_RC_coderOf_32 : decode prog_1_method_19_code 32 = .ok (.new 168, 3) := by decide +kernel
theorem d_RC_coderOf_35 : decode prog_1_method_19_code 35 = .ok (.dup, 1) := by decide +kernel
theorem d_RC_coderOf_36 : decode prog_1_method_19_code 36 = .ok (.invokespecial 170, 3) := by decide +kernel
theorem d_RC_coderOf_39 : decode prog_1_method_19_code 39 = .ok (.areturn, 1) := by decide +kernel
theorem d_RC_coderOf_40 : decode prog_1_method_19_code 40 = .ok (.new 171, 3) := by decide +kernel
theorem d_RC_coderOf_43 : decode prog_1_method_19_code 43 = .ok (.dup, 1) := by decide +kernel
theorem d_RC_coderOf_44 : decode prog_1_method_19_code 44 = .ok (.invokespecial 173, 3) := by decide +kernel
theorem d_RC_coderOf_47 : decode prog_1_method_19_code 47 = .ok (.areturn, 1) := by decide +kernel
theorem d_RC_coderOf_48 : decode prog_1_method_19_code 48 = .ok (.new 174, 3) := by decide +kernel
theorem d_RC_coderOf_51 : decode prog_1_method_19_code 51 = .ok (.dup, 1) := by decide +kernel
theorem d_RC_coderOf_52 : decode prog_1_method_19_code 52 = .ok (.iload_n 1, 1) := by decide +kernel
theorem d_RC_coderOf_53 : decode prog_1_method_19_code 53 = .ok (.invokespecial 176, 3) := by decide +kernel
theorem d_RC_coderOf_56 : decode prog_1_method_19_code 56 = .ok (.areturn, 1) := by decide +kernel
theorem d_RC_coderOf_57 : decode prog_1_method_19_code 57 = .ok (.new 178, 3) := by decide +kernel
theorem d_RC_coderOf_60 : decode prog_1_method_19_code 60 = .ok (.dup, 1) := by decide +kernel
theorem d_RC_coderOf_61 : decode prog_1_method_19_code 61 = .ok (.invokespecial 180, 3) := by decide +kernel
theorem d_RC_coderOf_64 : decode prog_1_method_19_code 64 = .ok (.areturn, 1) := by decide +kernel
theorem d_RC_coderOf_65 : decode prog_1_method_19_code 65 = .ok (.new 181, 3) := by decide +kernel
theorem d_RC_coderOf_68 : decode prog_1_method_19_code 68 = .ok (.dup, 1) := by decide +kernel
theorem d_RC_coderOf_69 : decode prog_1_method_19_code 69 = .ok (.invokespecial 183, 3) := by decide +kernel
theorem d_RC_coderOf_72 : decode prog_1_method_19_code 72 = .ok (.areturn, 1) := by decide +kernel
theorem d_Carries_init_0 : decode prog_3_method_1_code 0 = .ok (.aload_n 0, 1) := by decide +kernel
theorem d_Carries_init_1 : decode prog_3_method_1_code 1 = .ok (.invokespecial 3, 3) := by decide +kernel
theorem d_Carries_init_4 : decode prog_3_method_1_code 4 = .ok (.aload_n 0, 1) := by decide +kernel
theorem d_Carries_init_5 : decode prog_3_method_1_code 5 = .ok (.iconst (-1), 1) := by decide +kernel
theorem d_Carries_init_6 : decode prog_3_method_1_code 6 = .ok (.putfield 9, 3) := by decide +kernel
theorem d_Carries_init_9 : decode prog_3_method_1_code 9 = .ok (.return_, 1) := by decide +kernel
theorem d_Ranged_init_0 : decode prog_8_method_1_code 0 = .ok (.aload_n 0, 1) := by decide +kernel
theorem d_Ranged_init_1 : decode prog_8_method_1_code 1 = .ok (.invokespecial 3, 3) := by decide +kernel
theorem d_Ranged_init_4 : decode prog_8_method_1_code 4 = .ok (.aload_n 0, 1) := by decide +kernel
theorem d_Ranged_init_5 : decode prog_8_method_1_code 5 = .ok (.ldc2_w 9, 3) := by decide +kernel
theorem d_Ranged_init_8 : decode prog_8_method_1_code 8 = .ok (.putfield 11, 3) := by decide +kernel
theorem d_Ranged_init_11 : decode prog_8_method_1_code 11 = .ok (.return_, 1) := by decide +kernel
theorem d_Coder_init_0 : decode prog_4_method_1_code 0 = .ok (.aload_n 0, 1) := by decide +kernel
theorem d_Coder_init_1 : decode prog_4_method_1_code 1 = .ok (.invokespecial 1, 3) := by decide +kernel
theorem d_Coder_init_4 : decode prog_4_method_1_code 4 = .ok (.aload_n 0, 1) := by decide +kernel
theorem d_Coder_init_5 : decode prog_4_method_1_code 5 = .ok (.new 7, 3) := by decide +kernel
theorem d_Coder_init_8 : decode prog_4_method_1_code 8 = .ok (.dup, 1) := by decide +kernel
theorem d_Coder_init_9 : decode prog_4_method_1_code 9 = .ok (.invokespecial 9, 3) := by decide +kernel
theorem d_Coder_init_12 : decode prog_4_method_1_code 12 = .ok (.putfield 10, 3) := by decide +kernel
theorem d_Coder_init_15 : decode prog_4_method_1_code 15 = .ok (.aload_n 0, 1) := by decide +kernel
theorem d_Coder_init_16 : decode prog_4_method_1_code 16 = .ok (.new 7, 3) := by decide +kernel
theorem d_Coder_init_19 : decode prog_4_method_1_code 19 = .ok (.dup, 1) := by decide +kernel
theorem d_Coder_init_20 : decode prog_4_method_1_code 20 = .ok (.invokespecial 9, 3) := by decide +kernel
theorem d_Coder_init_23 : decode prog_4_method_1_code 23 = .ok (.putfield 16, 3) := by decide +kernel
theorem d_Coder_init_26 : decode prog_4_method_1_code 26 = .ok (.aload_n 0, 1) := by decide +kernel
theorem d_Coder_init_27 : decode prog_4_method_1_code 27 = .ok (.new 7, 3) := by decide +kernel
theorem d_Coder_init_30 : decode prog_4_method_1_code 30 = .ok (.dup, 1) := by decide +kernel
theorem d_Coder_init_31 : decode prog_4_method_1_code 31 = .ok (.invokespecial 9, 3) := by decide +kernel
theorem d_Coder_init_34 : decode prog_4_method_1_code 34 = .ok (.putfield 19, 3) := by decide +kernel
theorem d_Coder_init_37 : decode prog_4_method_1_code 37 = .ok (.return_, 1) := by decide +kernel
theorem d_Row_init_0 : decode prog_9_method_1_code 0 = .ok (.aload_n 0, 1) := by decide +kernel
theorem d_Row_init_1 : decode prog_9_method_1_code 1 = .ok (.invokespecial 3, 3) := by decide +kernel
theorem d_Row_init_4 : decode prog_9_method_1_code 4 = .ok (.aload_n 0, 1) := by decide +kernel
theorem d_Row_init_5 : decode prog_9_method_1_code 5 = .ok (.bipush 64, 2) := by decide +kernel
theorem d_Row_init_7 : decode prog_9_method_1_code 7 = .ok (.newarray .int, 2) := by decide +kernel
theorem d_Row_init_9 : decode prog_9_method_1_code 9 = .ok (.putfield 11, 3) := by decide +kernel
theorem d_Row_init_12 : decode prog_9_method_1_code 12 = .ok (.return_, 1) := by decide +kernel
theorem d_NoCarries_init_0 : decode prog_6_method_1_code 0 = .ok (.aload_n 0, 1) := by decide +kernel
theorem d_NoCarries_init_1 : decode prog_6_method_1_code 1 = .ok (.invokespecial 3, 3) := by decide +kernel
theorem d_NoCarries_init_4 : decode prog_6_method_1_code 4 = .ok (.return_, 1) := by decide +kernel
theorem d_Bits_init_0 : decode prog_2_method_1_code 0 = .ok (.aload_n 0, 1) := by decide +kernel
theorem d_Bits_init_1 : decode prog_2_method_1_code 1 = .ok (.invokespecial 5, 3) := by decide +kernel
theorem d_Bits_init_4 : decode prog_2_method_1_code 4 = .ok (.aload_n 0, 1) := by decide +kernel
theorem d_Bits_init_5 : decode prog_2_method_1_code 5 = .ok (.iload_n 1, 1) := by decide +kernel
theorem d_Bits_init_6 : decode prog_2_method_1_code 6 = .ok (.putfield 11, 3) := by decide +kernel
theorem d_Bits_init_9 : decode prog_2_method_1_code 9 = .ok (.return_, 1) := by decide +kernel
theorem d_Stack_init_0 : decode prog_10_method_1_code 0 = .ok (.aload_n 0, 1) := by decide +kernel
theorem d_Stack_init_1 : decode prog_10_method_1_code 1 = .ok (.invokespecial 5, 3) := by decide +kernel
theorem d_Stack_init_4 : decode prog_10_method_1_code 4 = .ok (.return_, 1) := by decide +kernel
theorem d_Stacked_init_0 : decode prog_11_method_1_code 0 = .ok (.aload_n 0, 1) := by decide +kernel
theorem d_Stacked_init_1 : decode prog_11_method_1_code 1 = .ok (.invokespecial 3, 3) := by decide +kernel
theorem d_Stacked_init_4 : decode prog_11_method_1_code 4 = .ok (.aload_n 0, 1) := by decide +kernel
theorem d_Stacked_init_5 : decode prog_11_method_1_code 5 = .ok (.sipush 600, 3) := by decide +kernel
theorem d_Stacked_init_8 : decode prog_11_method_1_code 8 = .ok (.anewarray 9, 3) := by decide +kernel
theorem d_Stacked_init_11 : decode prog_11_method_1_code 11 = .ok (.putfield 11, 3) := by decide +kernel
theorem d_Stacked_init_14 : decode prog_11_method_1_code 14 = .ok (.aload_n 0, 1) := by decide +kernel
theorem d_Stacked_init_15 : decode prog_11_method_1_code 15 = .ok (.sipush 600, 3) := by decide +kernel
theorem d_Stacked_init_18 : decode prog_11_method_1_code 18 = .ok (.newarray .int, 2) := by decide +kernel
theorem d_Stacked_init_20 : decode prog_11_method_1_code 20 = .ok (.putfield 17, 3) := by decide +kernel
theorem d_Stacked_init_23 : decode prog_11_method_1_code 23 = .ok (.aload_n 0, 1) := by decide +kernel
theorem d_Stacked_init_24 : decode prog_11_method_1_code 24 = .ok (.sipush 600, 3) := by decide +kernel
theorem d_Stacked_init_27 : decode prog_11_method_1_code 27 = .ok (.newarray .int, 2) := by decide +kernel
theorem d_Stacked_init_29 : decode prog_11_method_1_code 29 = .ok (.putfield 21, 3) := by decide +kernel
theorem d_Stacked_init_32 : decode prog_11_method_1_code 32 = .ok (.return_, 1) := by decide +kernel
theorem d_Table_init_0 : decode prog_12_method_1_code 0 = .ok (.aload_n 0, 1) := by decide +kernel
theorem d_Table_init_1 : decode prog_12_method_1_code 1 = .ok (.invokespecial 5, 3) := by decide +kernel
theorem d_Table_init_4 : decode prog_12_method_1_code 4 = .ok (.return_, 1) := by decide +kernel
theorem d_RC_model_0 : decode prog_1_method_2_code 0 = .ok (.iload_n 1, 1) := by decide +kernel
theorem d_RC_model_1 : decode prog_1_method_2_code 1 = .ok (.iconst 2, 1) := by decide +kernel
theorem d_RC_model_2 : decode prog_1_method_2_code 2 = .ok (.if_icmp .lt 9, 3) := by decide +kernel
theorem d_RC_model_5 : decode prog_1_method_2_code 5 = .ok (.iload_n 1, 1) := by decide +kernel
theorem d_RC_model_6 : decode prog_1_method_2_code 6 = .ok (.bipush 64, 2) := by decide +kernel
theorem d_RC_model_8 : decode prog_1_method_2_code 8 = .ok (.if_icmp .le 6, 3) := by decide +kernel
theorem d_RC_model_11 : decode prog_1_method_2_code 11 = .ok (.bipush (-2), 2) := by decide +kernel
theorem d_RC_model_13 : decode prog_1_method_2_code 13 = .ok (.ireturn, 1) := by decide +kernel
theorem d_RC_model_14 : decode prog_1_method_2_code 14 = .ok (.aload_n 0, 1) := by decide +kernel
theorem d_RC_model_15 : decode prog_1_method_2_code 15 = .ok (.getfield 27, 3) := by decide +kernel
theorem d_RC_model_18 : decode prog_1_method_2_code 18 = .ok (.bipush 8, 2) := by decide +kernel
theorem d_RC_model_20 : decode prog_1_method_2_code 20 = .ok (.if_icmp .lt 6, 3) := by decide +kernel
theorem d_RC_model_23 : decode prog_1_method_2_code 23 = .ok (.bipush (-4), 2) := by decide +kernel
theorem d_RC_model_25 : decode prog_1_method_2_code 25 = .ok (.ireturn, 1) := by decide +kernel
theorem d_RC_model_26 : decode prog_1_method_2_code 26 = .ok (.new 9, 3) := by decide +kernel
theorem d_RC_model_29 : decode prog_1_method_2_code 29 = .ok (.dup, 1) := by decide +kernel
theorem d_RC_model_30 : decode prog_1_method_2_code 30 = .ok (.iload_n 1, 1) := by decide +kernel
theorem d_RC_model_31 : decode prog_1_method_2_code 31 = .ok (.aload_n 0, 1) := by decide +kernel
theorem d_RC_model_32 : decode prog_1_method_2_code 32 = .ok (.getfield 23, 3) := by decide +kernel
theorem d_RC_model_35 : decode prog_1_method_2_code 35 = .ok (.iload_n 1, 1) := by decide +kernel
theorem d_RC_model_36 : decode prog_1_method_2_code 36 = .ok (.invokevirtual 31, 3) := by decide +kernel
theorem d_RC_model_39 : decode prog_1_method_2_code 39 = .ok (.aload_n 0, 1) := by decide +kernel
theorem d_RC_model_40 : decode prog_1_method_2_code 40 = .ok (.getfield 23, 3) := by decide +kernel
theorem d_RC_model_43 : decode prog_1_method_2_code 43 = .ok (.iload_n 1, 1) := by decide +kernel
theorem d_RC_model_44 : decode prog_1_method_2_code 44 = .ok (.invokevirtual 31, 3) := by decide +kernel
theorem d_RC_model_47 : decode prog_1_method_2_code 47 = .ok (.invokespecial 37, 3) := by decide +kernel
theorem d_RC_model_50 : decode prog_1_method_2_code 50 = .ok (.astore_n 2, 1) := by decide +kernel
theorem d_RC_model_51 : decode prog_1_method_2_code 51 = .ok (.aload_n 0, 1) := by decide +kernel
theorem d_RC_model_52 : decode prog_1_method_2_code 52 = .ok (.getfield 23, 3) := by decide +kernel
theorem d_RC_model_55 : decode prog_1_method_2_code 55 = .ok (.aload_n 2, 1) := by decide +kernel
theorem d_RC_model_56 : decode prog_1_method_2_code 56 = .ok (.getfield 40, 3) := by decide +kernel
theorem d_RC_model_59 : decode prog_1_method_2_code 59 = .ok (.aload_n 2, 1) := by decide +kernel
theorem d_RC_model_60 : decode prog_1_method_2_code 60 = .ok (.getfield 44, 3) := by decide +kernel
theorem d_RC_model_63 : decode prog_1_method_2_code 63 = .ok (.invokevirtual 48, 3) := by decide +kernel
theorem d_RC_model_66 : decode prog_1_method_2_code 66 = .ok (.aload_n 0, 1) := by decide +kernel
theorem d_RC_model_67 : decode prog_1_method_2_code 67 = .ok (.getfield 23, 3) := by decide +kernel
theorem d_RC_model_70 : decode prog_1_method_2_code 70 = .ok (.aload_n 2, 1) := by decide +kernel
theorem d_RC_model_71 : decode prog_1_method_2_code 71 = .ok (.getfield 52, 3) := by decide +kernel
theorem d_RC_model_74 : decode prog_1_method_2_code 74 = .ok (.aload_n 2, 1) := by decide +kernel
theorem d_RC_model_75 : decode prog_1_method_2_code 75 = .ok (.getfield 44, 3) := by decide +kernel
theorem d_RC_model_78 : decode prog_1_method_2_code 78 = .ok (.invokevirtual 48, 3) := by decide +kernel
theorem d_RC_model_81 : decode prog_1_method_2_code 81 = .ok (.aload_n 0, 1) := by decide +kernel
theorem d_RC_model_82 : decode prog_1_method_2_code 82 = .ok (.getfield 11, 3) := by decide +kernel
theorem d_RC_model_85 : decode prog_1_method_2_code 85 = .ok (.aload_n 0, 1) := by decide +kernel
theorem d_RC_model_86 : decode prog_1_method_2_code 86 = .ok (.getfield 27, 3) := by decide +kernel
theorem d_RC_model_89 : decode prog_1_method_2_code 89 = .ok (.aload_n 2, 1) := by decide +kernel
theorem d_RC_model_90 : decode prog_1_method_2_code 90 = .ok (.aastore, 1) := by decide +kernel
theorem d_RC_model_91 : decode prog_1_method_2_code 91 = .ok (.aload_n 0, 1) := by decide +kernel
theorem d_RC_model_92 : decode prog_1_method_2_code 92 = .ok (.dup, 1) := by decide +kernel
theorem d_RC_model_93 : decode prog_1_method_2_code 93 = .ok (.getfield 27, 3) := by decide +kernel
theorem d_RC_model_96 : decode prog_1_method_2_code 96 = .ok (.iconst 1, 1) := by decide +kernel
theorem d_RC_model_97 : decode prog_1_method_2_code 97 = .ok (.iadd, 1) := by decide +kernel
theorem d_RC_model_98 : decode prog_1_method_2_code 98 = .ok (.putfield 27, 3) := by decide +kernel
theorem d_RC_model_101 : decode prog_1_method_2_code 101 = .ok (.aload_n 0, 1) := by decide +kernel
theorem d_RC_model_102 : decode prog_1_method_2_code 102 = .ok (.getfield 27, 3) := by decide +kernel
theorem d_RC_model_105 : decode prog_1_method_2_code 105 = .ok (.iconst 1, 1) := by decide +kernel
theorem d_RC_model_106 : decode prog_1_method_2_code 106 = .ok (.isub, 1) := by decide +kernel
theorem d_RC_model_107 : decode prog_1_method_2_code 107 = .ok (.ireturn, 1) := by decide +kernel
theorem d_Bits_newOdds_0 : decode prog_2_method_2_code 0 = .ok (.new 15, 3) := by decide +kernel
theorem d_Bits_newOdds_3 : decode prog_2_method_2_code 3 = .ok (.dup, 1) := by decide +kernel
theorem d_Bits_newOdds_4 : decode prog_2_method_2_code 4 = .ok (.iload_n 1, 1) := by decide +kernel
theorem d_Bits_newOdds_5 : decode prog_2_method_2_code 5 = .ok (.iconst 1, 1) := by decide +kernel
theorem d_Bits_newOdds_6 : decode prog_2_method_2_code 6 = .ok (.iconst 1, 1) := by decide +kernel
theorem d_Bits_newOdds_7 : decode prog_2_method_2_code 7 = .ok (.iload_n 1, 1) := by decide +kernel
theorem d_Bits_newOdds_8 : decode prog_2_method_2_code 8 = .ok (.invokestatic 17, 3) := by decide +kernel
theorem d_Bits_newOdds_11 : decode prog_2_method_2_code 11 = .ok (.ishl, 1) := by decide +kernel
theorem d_Bits_newOdds_12 : decode prog_2_method_2_code 12 = .ok (.iconst 0, 1) := by decide +kernel
theorem d_Bits_newOdds_13 : decode prog_2_method_2_code 13 = .ok (.invokespecial 21, 3) := by decide +kernel
theorem d_Bits_newOdds_16 : decode prog_2_method_2_code 16 = .ok (.areturn, 1) := by decide +kernel
theorem d_Bits_levelsOf_0 : decode prog_2_method_9_code 0 = .ok (.iconst 1, 1) := by decide +kernel
theorem d_Bits_levelsOf_1 : decode prog_2_method_9_code 1 = .ok (.istore_n 1, 1) := by decide +kernel
theorem d_Bits_levelsOf_2 : decode prog_2_method_9_code 2 = .ok (.iload_n 1, 1) := by decide +kernel
theorem d_Bits_levelsOf_3 : decode prog_2_method_9_code 3 = .ok (.bipush 6, 2) := by decide +kernel
theorem d_Bits_levelsOf_5 : decode prog_2_method_9_code 5 = .ok (.if_icmp .ge 16, 3) := by decide +kernel
theorem d_Bits_levelsOf_8 : decode prog_2_method_9_code 8 = .ok (.iconst 1, 1) := by decide +kernel
theorem d_Bits_levelsOf_9 : decode prog_2_method_9_code 9 = .ok (.iload_n 1, 1) := by decide +kernel
theorem d_Bits_levelsOf_10 : decode prog_2_method_9_code 10 = .ok (.ishl, 1) := by decide +kernel
theorem d_Bits_levelsOf_11 : decode prog_2_method_9_code 11 = .ok (.iload_n 0, 1) := by decide +kernel
theorem d_Bits_levelsOf_12 : decode prog_2_method_9_code 12 = .ok (.if_icmp .ge 9, 3) := by decide +kernel
theorem d_Bits_levelsOf_15 : decode prog_2_method_9_code 15 = .ok (.iinc 1 1, 3) := by decide +kernel
theorem d_Bits_levelsOf_18 : decode prog_2_method_9_code 18 = .ok (.goto (-16), 3) := by decide +kernel
theorem d_Bits_levelsOf_21 : decode prog_2_method_9_code 21 = .ok (.iload_n 1, 1) := by decide +kernel
theorem d_Bits_levelsOf_22 : decode prog_2_method_9_code 22 = .ok (.ireturn, 1) := by decide +kernel
theorem d_Odds_init_0 : decode prog_7_method_1_code 0 = .ok (.aload_n 0, 1) := by decide +kernel
theorem d_Odds_init_1 : decode prog_7_method_1_code 1 = .ok (.invokespecial 3, 3) := by decide +kernel
theorem d_Odds_init_4 : decode prog_7_method_1_code 4 = .ok (.aload_n 0, 1) := by decide +kernel
theorem d_Odds_init_5 : decode prog_7_method_1_code 5 = .ok (.iload_n 1, 1) := by decide +kernel
theorem d_Odds_init_6 : decode prog_7_method_1_code 6 = .ok (.putfield 9, 3) := by decide +kernel
theorem d_Odds_init_9 : decode prog_7_method_1_code 9 = .ok (.aload_n 0, 1) := by decide +kernel
theorem d_Odds_init_10 : decode prog_7_method_1_code 10 = .ok (.iload_n 2, 1) := by decide +kernel
theorem d_Odds_init_11 : decode prog_7_method_1_code 11 = .ok (.putfield 15, 3) := by decide +kernel
theorem d_Odds_init_14 : decode prog_7_method_1_code 14 = .ok (.aload_n 0, 1) := by decide +kernel
theorem d_Odds_init_15 : decode prog_7_method_1_code 15 = .ok (.iload_n 3, 1) := by decide +kernel
theorem d_Odds_init_16 : decode prog_7_method_1_code 16 = .ok (.ifCond .lt 7, 3) := by decide +kernel
theorem d_Odds_init_19 : decode prog_7_method_1_code 19 = .ok (.iload_n 3, 1) := by decide +kernel
theorem d_Odds_init_20 : decode prog_7_method_1_code 20 = .ok (.goto 4, 3) := by decide +kernel
theorem d_Odds_init_24 : decode prog_7_method_1_code 24 = .ok (.newarray .int, 2) := by decide +kernel
theorem d_Odds_init_26 : decode prog_7_method_1_code 26 = .ok (.putfield 18, 3) := by decide +kernel
theorem d_Odds_init_29 : decode prog_7_method_1_code 29 = .ok (.aload_n 0, 1) := by decide +kernel
theorem d_Odds_init_30 : decode prog_7_method_1_code 30 = .ok (.iload 4, 2) := by decide +kernel
theorem d_Odds_init_32 : decode prog_7_method_1_code 32 = .ok (.ifCond .lt 8, 3) := by decide +kernel
theorem d_Odds_init_35 : decode prog_7_method_1_code 35 = .ok (.iload 4, 2) := by decide +kernel
theorem d_Odds_init_37 : decode prog_7_method_1_code 37 = .ok (.goto 4, 3) := by decide +kernel
theorem d_Odds_init_41 : decode prog_7_method_1_code 41 = .ok (.newarray .int, 2) := by decide +kernel
theorem d_Odds_init_43 : decode prog_7_method_1_code 43 = .ok (.putfield 22, 3) := by decide +kernel
theorem d_Odds_init_46 : decode prog_7_method_1_code 46 = .ok (.return_, 1) := by decide +kernel
theorem d_Table_newOdds_0 : decode prog_12_method_2_code 0 = .ok (.new 11, 3) := by decide +kernel
theorem d_Table_newOdds_3 : decode prog_12_method_2_code 3 = .ok (.dup, 1) := by decide +kernel
theorem d_Table_newOdds_4 : decode prog_12_method_2_code 4 = .ok (.iload_n 1, 1) := by decide +kernel
theorem d_Table_newOdds_5 : decode prog_12_method_2_code 5 = .ok (.iconst 0, 1) := by decide +kernel
theorem d_Table_newOdds_6 : decode prog_12_method_2_code 6 = .ok (.iload_n 1, 1) := by decide +kernel
theorem d_Table_newOdds_7 : decode prog_12_method_2_code 7 = .ok (.sipush 512, 3) := by decide +kernel
theorem d_Table_newOdds_10 : decode prog_12_method_2_code 10 = .ok (.invokespecial 13, 3) := by decide +kernel
theorem d_Table_newOdds_13 : decode prog_12_method_2_code 13 = .ok (.areturn, 1) := by decide +kernel
theorem d_Coder_newOdds_0 : decode prog_4_method_11_code 0 = .ok (.new 22, 3) := by decide +kernel
theorem d_Coder_newOdds_3 : decode prog_4_method_11_code 3 = .ok (.dup, 1) := by decide +kernel
theorem d_Coder_newOdds_4 : decode prog_4_method_11_code 4 = .ok (.iload_n 1, 1) := by decide +kernel
theorem d_Coder_newOdds_5 : decode prog_4_method_11_code 5 = .ok (.iconst 0, 1) := by decide +kernel
theorem d_Coder_newOdds_6 : decode prog_4_method_11_code 6 = .ok (.iload_n 1, 1) := by decide +kernel
theorem d_Coder_newOdds_7 : decode prog_4_method_11_code 7 = .ok (.iconst 0, 1) := by decide +kernel
theorem d_Coder_newOdds_8 : decode prog_4_method_11_code 8 = .ok (.invokespecial 24, 3) := by decide +kernel
theorem d_Coder_newOdds_11 : decode prog_4_method_11_code 11 = .ok (.areturn, 1) := by decide +kernel
theorem d_Model_init_0 : decode prog_5_method_1_code 0 = .ok (.aload_n 0, 1) := by decide +kernel
theorem d_Model_init_1 : decode prog_5_method_1_code 1 = .ok (.invokespecial 1, 3) := by decide +kernel
theorem d_Model_init_4 : decode prog_5_method_1_code 4 = .ok (.aload_n 0, 1) := by decide +kernel
theorem d_Model_init_5 : decode prog_5_method_1_code 5 = .ok (.iload_n 1, 1) := by decide +kernel
theorem d_Model_init_6 : decode prog_5_method_1_code 6 = .ok (.ifCond .lt 7, 3) := by decide +kernel
theorem d_Model_init_9 : decode prog_5_method_1_code 9 = .ok (.iload_n 1, 1) := by decide +kernel
theorem d_Model_init_10 : decode prog_5_method_1_code 10 = .ok (.goto 4, 3) := by decide +kernel
theorem d_Model_init_14 : decode prog_5_method_1_code 14 = .ok (.newarray .int, 2) := by decide +kernel
theorem d_Model_init_16 : decode prog_5_method_1_code 16 = .ok (.putfield 7, 3) := by decide +kernel
theorem d_Model_init_19 : decode prog_5_method_1_code 19 = .ok (.aload_n 0, 1) := by decide +kernel
theorem d_Model_init_20 : decode prog_5_method_1_code 20 = .ok (.getfield 7, 3) := by decide +kernel
theorem d_Model_init_23 : decode prog_5_method_1_code 23 = .ok (.iconst 1, 1) := by decide +kernel
theorem d_Model_init_24 : decode prog_5_method_1_code 24 = .ok (.invokestatic 13, 3) := by decide +kernel
theorem d_Model_init_27 : decode prog_5_method_1_code 27 = .ok (.aload_n 0, 1) := by decide +kernel
theorem d_Model_init_28 : decode prog_5_method_1_code 28 = .ok (.aload_n 2, 1) := by decide +kernel
theorem d_Model_init_29 : decode prog_5_method_1_code 29 = .ok (.putfield 19, 3) := by decide +kernel
theorem d_Model_init_32 : decode prog_5_method_1_code 32 = .ok (.aload_n 0, 1) := by decide +kernel
theorem d_Model_init_33 : decode prog_5_method_1_code 33 = .ok (.aload_n 3, 1) := by decide +kernel
theorem d_Model_init_34 : decode prog_5_method_1_code 34 = .ok (.putfield 23, 3) := by decide +kernel
theorem d_Model_init_37 : decode prog_5_method_1_code 37 = .ok (.return_, 1) := by decide +kernel
theorem d_Bits_prepare_0 : decode prog_2_method_3_code 0 = .ok (.aload_n 1, 1) := by decide +kernel
theorem d_Bits_prepare_1 : decode prog_2_method_3_code 1 = .ok (.sipush 1024, 3) := by decide +kernel
theorem d_Bits_prepare_4 : decode prog_2_method_3_code 4 = .ok (.invokevirtual 24, 3) := by decide +kernel
theorem d_Bits_prepare_7 : decode prog_2_method_3_code 7 = .ok (.return_, 1) := by decide +kernel
theorem d_Odds_fill_0 : decode prog_7_method_5_code 0 = .ok (.aload_n 0, 1) := by decide +kernel
theorem d_Odds_fill_1 : decode prog_7_method_5_code 1 = .ok (.getfield 18, 3) := by decide +kernel
theorem d_Odds_fill_4 : decode prog_7_method_5_code 4 = .ok (.iload_n 1, 1) := by decide +kernel
theorem d_Odds_fill_5 : decode prog_7_method_5_code 5 = .ok (.invokestatic 32, 3) := by decide +kernel
theorem d_Odds_fill_8 : decode prog_7_method_5_code 8 = .ok (.aload_n 0, 1) := by decide +kernel
theorem d_Odds_fill_9 : decode prog_7_method_5_code 9 = .ok (.iload_n 1, 1) := by decide +kernel
theorem d_Odds_fill_10 : decode prog_7_method_5_code 10 = .ok (.aload_n 0, 1) := by decide +kernel
theorem d_Odds_fill_11 : decode prog_7_method_5_code 11 = .ok (.getfield 18, 3) := by decide +kernel
theorem d_Odds_fill_14 : decode prog_7_method_5_code 14 = .ok (.arraylength, 1) := by decide +kernel
theorem d_Odds_fill_15 : decode prog_7_method_5_code 15 = .ok (.imul, 1) := by decide +kernel
theorem d_Odds_fill_16 : decode prog_7_method_5_code 16 = .ok (.putfield 29, 3) := by decide +kernel
theorem d_Odds_fill_19 : decode prog_7_method_5_code 19 = .ok (.return_, 1) := by decide +kernel
theorem d_Ranged_prepare_0 : decode prog_8_method_5_code 0 = .ok (.aload_n 1, 1) := by decide +kernel
theorem d_Ranged_prepare_1 : decode prog_8_method_5_code 1 = .ok (.aload_n 2, 1) := by decide +kernel
theorem d_Ranged_prepare_2 : decode prog_8_method_5_code 2 = .ok (.invokevirtual 17, 3) := by decide +kernel
theorem d_Ranged_prepare_5 : decode prog_8_method_5_code 5 = .ok (.return_, 1) := by decide +kernel
theorem d_Odds_fromCounts_0 : decode prog_7_method_6_code 0 = .ok (.aload_n 0, 1) := by decide +kernel
theorem d_Odds_fromCounts_1 : decode prog_7_method_6_code 1 = .ok (.aload_n 1, 1) := by decide +kernel
theorem d_Odds_fromCounts_2 : decode prog_7_method_6_code 2 = .ok (.invokevirtual 38, 3) := by decide +kernel
theorem d_Odds_fromCounts_5 : decode prog_7_method_6_code 5 = .ok (.iconst 0, 1) := by decide +kernel
theorem d_Odds_fromCounts_6 : decode prog_7_method_6_code 6 = .ok (.istore_n 2, 1) := by decide +kernel
theorem d_Odds_fromCounts_7 : decode prog_7_method_6_code 7 = .ok (.iload_n 2, 1) := by decide +kernel
theorem d_Odds_fromCounts_8 : decode prog_7_method_6_code 8 = .ok (.bipush 32, 2) := by decide +kernel
theorem d_Odds_fromCounts_10 : decode prog_7_method_6_code 10 = .ok (.if_icmp .ge 23, 3) := by decide +kernel
theorem d_Odds_fromCounts_13 : decode prog_7_method_6_code 13 = .ok (.aload_n 0, 1) := by decide +kernel
theorem d_Odds_fromCounts_14 : decode prog_7_method_6_code 14 = .ok (.getfield 29, 3) := by decide +kernel
theorem d_Odds_fromCounts_17 : decode prog_7_method_6_code 17 = .ok (.sipush 8192, 3) := by decide +kernel
theorem d_Odds_fromCounts_20 : decode prog_7_method_6_code 20 = .ok (.if_icmp .le 13, 3) := by decide +kernel
theorem d_Odds_fromCounts_23 : decode prog_7_method_6_code 23 = .ok (.aload_n 0, 1) := by decide +kernel
theorem d_Odds_fromCounts_24 : decode prog_7_method_6_code 24 = .ok (.invokevirtual 42, 3) := by decide +kernel
theorem d_Odds_fromCounts_27 : decode prog_7_method_6_code 27 = .ok (.iinc 2 1, 3) := by decide +kernel
theorem d_Odds_fromCounts_30 : decode prog_7_method_6_code 30 = .ok (.goto (-23), 3) := by decide +kernel
theorem d_Odds_fromCounts_33 : decode prog_7_method_6_code 33 = .ok (.return_, 1) := by decide +kernel
theorem d_Odds_copyCounts_0 : decode prog_7_method_15_code 0 = .ok (.aload_n 0, 1) := by decide +kernel
theorem d_Odds_copyCounts_1 : decode prog_7_method_15_code 1 = .ok (.iconst 0, 1) := by decide +kernel
theorem d_Odds_copyCounts_2 : decode prog_7_method_15_code 2 = .ok (.putfield 29, 3) := by decide +kernel
theorem d_Odds_copyCounts_5 : decode prog_7_method_15_code 5 = .ok (.iconst 0, 1) := by decide +kernel
theorem d_Odds_copyCounts_6 : decode prog_7_method_15_code 6 = .ok (.istore_n 2, 1) := by decide +kernel
theorem d_Odds_copyCounts_7 : decode prog_7_method_15_code 7 = .ok (.iload_n 2, 1) := by decide +kernel
theorem d_Odds_copyCounts_8 : decode prog_7_method_15_code 8 = .ok (.aload_n 0, 1) := by decide +kernel
theorem d_Odds_copyCounts_9 : decode prog_7_method_15_code 9 = .ok (.getfield 18, 3) := by decide +kernel
theorem d_Odds_copyCounts_12 : decode prog_7_method_15_code 12 = .ok (.arraylength, 1) := by decide +kernel
theorem d_Odds_copyCounts_13 : decode prog_7_method_15_code 13 = .ok (.if_icmp .ge 36, 3) := by decide +kernel
theorem d_Odds_copyCounts_16 : decode prog_7_method_15_code 16 = .ok (.iload_n 2, 1) := by decide +kernel
theorem d_Odds_copyCounts_17 : decode prog_7_method_15_code 17 = .ok (.aload_n 1, 1) := by decide +kernel
theorem d_Odds_copyCounts_18 : decode prog_7_method_15_code 18 = .ok (.arraylength, 1) := by decide +kernel
theorem d_Odds_copyCounts_19 : decode prog_7_method_15_code 19 = .ok (.if_icmp .ge 30, 3) := by decide +kernel
theorem d_Odds_copyCounts_22 : decode prog_7_method_15_code 22 = .ok (.aload_n 0, 1) := by decide +kernel
theorem d_Odds_copyCounts_23 : decode prog_7_method_15_code 23 = .ok (.getfield 18, 3) := by decide +kernel
theorem d_Odds_copyCounts_26 : decode prog_7_method_15_code 26 = .ok (.iload_n 2, 1) := by decide +kernel
theorem d_Odds_copyCounts_27 : decode prog_7_method_15_code 27 = .ok (.aload_n 1, 1) := by decide +kernel
theorem d_Odds_copyCounts_28 : decode prog_7_method_15_code 28 = .ok (.iload_n 2, 1) := by decide +kernel
theorem d_Odds_copyCounts_29 : decode prog_7_method_15_code 29 = .ok (.iaload, 1) := by decide +kernel
theorem d_Odds_copyCounts_30 : decode prog_7_method_15_code 30 = .ok (.iastore, 1) := by decide +kernel
theorem d_Odds_copyCounts_31 : decode prog_7_method_15_code 31 = .ok (.aload_n 0, 1) := by decide +kernel
theorem d_Odds_copyCounts_32 : decode prog_7_method_15_code 32 = .ok (.dup, 1) := by decide +kernel
theorem d_Odds_copyCounts_33 : decode prog_7_method_15_code 33 = .ok (.getfield 29, 3) := by decide +kernel
theorem d_Odds_copyCounts_36 : decode prog_7_method_15_code 36 = .ok (.aload_n 1, 1) := by decide +kernel
theorem d_Odds_copyCounts_37 : decode prog_7_method_15_code 37 = .ok (.iload_n 2, 1) := by decide +kernel
theorem d_Odds_copyCounts_38 : decode prog_7_method_15_code 38 = .ok (.iaload, 1) := by decide +kernel
theorem d_Odds_copyCounts_39 : decode prog_7_method_15_code 39 = .ok (.iadd, 1) := by decide +kernel
theorem d_Odds_copyCounts_40 : decode prog_7_method_15_code 40 = .ok (.putfield 29, 3) := by decide +kernel
theorem d_Odds_copyCounts_43 : decode prog_7_method_15_code 43 = .ok (.iinc 2 1, 3) := by decide +kernel
theorem d_Odds_copyCounts_46 : decode prog_7_method_15_code 46 = .ok (.goto (-39), 3) := by decide +kernel
theorem d_Odds_copyCounts_49 : decode prog_7_method_15_code 49 = .ok (.return_, 1) := by decide +kernel
theorem d_Odds_halve_0 : decode prog_7_method_16_code 0 = .ok (.aload_n 0, 1) := by decide +kernel
theorem d_Odds_halve_1 : decode prog_7_method_16_code 1 = .ok (.iconst 0, 1) := by decide +kernel
theorem d_Odds_halve_2 : decode prog_7_method_16_code 2 = .ok (.putfield 29, 3) := by decide +kernel
theorem d_Odds_halve_5 : decode prog_7_method_16_code 5 = .ok (.iconst 0, 1) := by decide +kernel
theorem d_Odds_halve_6 : decode prog_7_method_16_code 6 = .ok (.istore_n 1, 1) := by decide +kernel
theorem d_Odds_halve_7 : decode prog_7_method_16_code 7 = .ok (.iload_n 1, 1) := by decide +kernel
theorem d_Odds_halve_8 : decode prog_7_method_16_code 8 = .ok (.aload_n 0, 1) := by decide +kernel
theorem d_Odds_halve_9 : decode prog_7_method_16_code 9 = .ok (.getfield 18, 3) := by decide +kernel
theorem d_Odds_halve_12 : decode prog_7_method_16_code 12 = .ok (.arraylength, 1) := by decide +kernel
theorem d_Odds_halve_13 : decode prog_7_method_16_code 13 = .ok (.if_icmp .ge 40, 3) := by decide +kernel
theorem d_Odds_halve_16 : decode prog_7_method_16_code 16 = .ok (.aload_n 0, 1) := by decide +kernel
theorem d_Odds_halve_17 : decode prog_7_method_16_code 17 = .ok (.getfield 18, 3) := by decide +kernel
theorem d_Odds_halve_20 : decode prog_7_method_16_code 20 = .ok (.iload_n 1, 1) := by decide +kernel
theorem d_Odds_halve_21 : decode prog_7_method_16_code 21 = .ok (.aload_n 0, 1) := by decide +kernel
theorem d_Odds_halve_22 : decode prog_7_method_16_code 22 = .ok (.getfield 18, 3) := by decide +kernel
theorem d_Odds_halve_25 : decode prog_7_method_16_code 25 = .ok (.iload_n 1, 1) := by decide +kernel
theorem d_Odds_halve_26 : decode prog_7_method_16_code 26 = .ok (.iaload, 1) := by decide +kernel
theorem d_Odds_halve_27 : decode prog_7_method_16_code 27 = .ok (.iconst 1, 1) := by decide +kernel
theorem d_Odds_halve_28 : decode prog_7_method_16_code 28 = .ok (.iadd, 1) := by decide +kernel
theorem d_Odds_halve_29 : decode prog_7_method_16_code 29 = .ok (.iconst 2, 1) := by decide +kernel
theorem d_Odds_halve_30 : decode prog_7_method_16_code 30 = .ok (.idiv, 1) := by decide +kernel
theorem d_Odds_halve_31 : decode prog_7_method_16_code 31 = .ok (.iastore, 1) := by decide +kernel
theorem d_Odds_halve_32 : decode prog_7_method_16_code 32 = .ok (.aload_n 0, 1) := by decide +kernel
theorem d_Odds_halve_33 : decode prog_7_method_16_code 33 = .ok (.dup, 1) := by decide +kernel
theorem d_Odds_halve_34 : decode prog_7_method_16_code 34 = .ok (.getfield 29, 3) := by decide +kernel
theorem d_Odds_halve_37 : decode prog_7_method_16_code 37 = .ok (.aload_n 0, 1) := by decide +kernel
theorem d_Odds_halve_38 : decode prog_7_method_16_code 38 = .ok (.getfield 18, 3) := by decide +kernel
theorem d_Odds_halve_41 : decode prog_7_method_16_code 41 = .ok (.iload_n 1, 1) := by decide +kernel
theorem d_Odds_halve_42 : decode prog_7_method_16_code 42 = .ok (.iaload, 1) := by decide +kernel
theorem d_Odds_halve_43 : decode prog_7_method_16_code 43 = .ok (.iadd, 1) := by decide +kernel
theorem d_Odds_halve_44 : decode prog_7_method_16_code 44 = .ok (.putfield 29, 3) := by decide +kernel
theorem d_Odds_halve_47 : decode prog_7_method_16_code 47 = .ok (.iinc 1 1, 3) := by decide +kernel
theorem d_Odds_halve_50 : decode prog_7_method_16_code 50 = .ok (.goto (-43), 3) := by decide +kernel
theorem d_Odds_halve_53 : decode prog_7_method_16_code 53 = .ok (.return_, 1) := by decide +kernel
theorem d_Stack_prepare_0 : decode prog_10_method_2_code 0 = .ok (.aload_n 1, 1) := by decide +kernel
theorem d_Stack_prepare_1 : decode prog_10_method_2_code 1 = .ok (.sipush 4096, 3) := by decide +kernel
theorem d_Stack_prepare_4 : decode prog_10_method_2_code 4 = .ok (.aload_n 2, 1) := by decide +kernel
theorem d_Stack_prepare_5 : decode prog_10_method_2_code 5 = .ok (.invokevirtual 11, 3) := by decide +kernel
theorem d_Stack_prepare_8 : decode prog_10_method_2_code 8 = .ok (.return_, 1) := by decide +kernel
theorem d_Odds_scaleTo_0 : decode prog_7_method_10_code 0 = .ok (.aload_n 0, 1) := by decide +kernel
theorem d_Odds_scaleTo_1 : decode prog_7_method_10_code 1 = .ok (.aload_n 2, 1) := by decide +kernel
theorem d_Odds_scaleTo_2 : decode prog_7_method_10_code 2 = .ok (.invokevirtual 38, 3) := by decide +kernel
theorem d_Odds_scaleTo_5 : decode prog_7_method_10_code 5 = .ok (.aload_n 0, 1) := by decide +kernel
theorem d_Odds_scaleTo_6 : decode prog_7_method_10_code 6 = .ok (.getfield 29, 3) := by decide +kernel
theorem d_Odds_scaleTo_9 : decode prog_7_method_10_code 9 = .ok (.istore_n 3, 1) := by decide +kernel
theorem d_Odds_scaleTo_10 : decode prog_7_method_10_code 10 = .ok (.iload_n 3, 1) := by decide +kernel
theorem d_Odds_scaleTo_11 : decode prog_7_method_10_code 11 = .ok (.ifCond .gt 4, 3) := by decide +kernel
theorem d_Odds_scaleTo_14 : decode prog_7_method_10_code 14 = .ok (.return_, 1) := by decide +kernel
theorem d_Odds_scaleTo_15 : decode prog_7_method_10_code 15 = .ok (.aload_n 0, 1) := by decide +kernel
theorem d_Odds_scaleTo_16 : decode prog_7_method_10_code 16 = .ok (.iconst 0, 1) := by decide +kernel
theorem d_Odds_scaleTo_17 : decode prog_7_method_10_code 17 = .ok (.putfield 29, 3) := by decide +kernel
theorem d_Odds_scaleTo_20 : decode prog_7_method_10_code 20 = .ok (.iconst 0, 1) := by decide +kernel
theorem d_Odds_scaleTo_21 : decode prog_7_method_10_code 21 = .ok (.istore 4, 2) := by decide +kernel
theorem d_Odds_scaleTo_23 : decode prog_7_method_10_code 23 = .ok (.iload 4, 2) := by decide +kernel
theorem d_Odds_scaleTo_25 : decode prog_7_method_10_code 25 = .ok (.aload_n 0, 1) := by decide +kernel
theorem d_Odds_scaleTo_26 : decode prog_7_method_10_code 26 = .ok (.getfield 18, 3) := by decide +kernel
theorem d_Odds_scaleTo_29 : decode prog_7_method_10_code 29 = .ok (.arraylength, 1) := by decide +kernel
theorem d_Odds_scaleTo_30 : decode prog_7_method_10_code 30 = .ok (.if_icmp .ge 61, 3) := by decide +kernel
theorem d_Odds_scaleTo_33 : decode prog_7_method_10_code 33 = .ok (.aload_n 0, 1) := by decide +kernel
theorem d_Odds_scaleTo_34 : decode prog_7_method_10_code 34 = .ok (.getfield 18, 3) := by decide +kernel
theorem d_Odds_scaleTo_37 : decode prog_7_method_10_code 37 = .ok (.iload 4, 2) := by decide +kernel
theorem d_Odds_scaleTo_39 : decode prog_7_method_10_code 39 = .ok (.aload_n 0, 1) := by decide +kernel
theorem d_Odds_scaleTo_40 : decode prog_7_method_10_code 40 = .ok (.getfield 18, 3) := by decide +kernel
theorem d_Odds_scaleTo_43 : decode prog_7_method_10_code 43 = .ok (.iload 4, 2) := by decide +kernel
theorem d_Odds_scaleTo_45 : decode prog_7_method_10_code 45 = .ok (.iaload, 1) := by decide +kernel
theorem d_Odds_scaleTo_46 : decode prog_7_method_10_code 46 = .ok (.ifCond .ne 7, 3) := by decide +kernel
theorem d_Odds_scaleTo_49 : decode prog_7_method_10_code 49 = .ok (.iconst 0, 1) := by decide +kernel
theorem d_Odds_scaleTo_50 : decode prog_7_method_10_code 50 = .ok (.goto 18, 3) := by decide +kernel
theorem d_Odds_scaleTo_53 : decode prog_7_method_10_code 53 = .ok (.iconst 1, 1) := by decide +kernel
theorem d_Odds_scaleTo_54 : decode prog_7_method_10_code 54 = .ok (.aload_n 0, 1) := by decide +kernel
theorem d_Odds_scaleTo_55 : decode prog_7_method_10_code 55 = .ok (.getfield 18, 3) := by decide +kernel
theorem d_Odds_scaleTo_58 : decode prog_7_method_10_code 58 = .ok (.iload 4, 2) := by decide +kernel
theorem d_Odds_scaleTo_60 : decode prog_7_method_10_code 60 = .ok (.iaload, 1) := by decide +kernel
theorem d_Odds_scaleTo_61 : decode prog_7_method_10_code 61 = .ok (.iload_n 1, 1) := by decide +kernel
theorem d_Odds_scaleTo_62 : decode prog_7_method_10_code 62 = .ok (.imul, 1) := by decide +kernel
theorem d_Odds_scaleTo_63 : decode prog_7_method_10_code 63 = .ok (.iload_n 3, 1) := by decide +kernel
theorem d_Odds_scaleTo_64 : decode prog_7_method_10_code 64 = .ok (.idiv, 1) := by decide +kernel
theorem d_Odds_scaleTo_65 : decode prog_7_method_10_code 65 = .ok (.invokestatic 49, 3) := by decide +kernel
theorem d_Odds_scaleTo_68 : decode prog_7_method_10_code 68 = .ok (.iastore, 1) := by decide +kernel
theorem d_Odds_scaleTo_69 : decode prog_7_method_10_code 69 = .ok (.aload_n 0, 1) := by decide +kernel
theorem d_Odds_scaleTo_70 : decode prog_7_method_10_code 70 = .ok (.dup, 1) := by decide +kernel
theorem d_Odds_scaleTo_71 : decode prog_7_method_10_code 71 = .ok (.getfield 29, 3) := by decide +kernel
theorem d_Odds_scaleTo_74 : decode prog_7_method_10_code 74 = .ok (.aload_n 0, 1) := by decide +kernel
theorem d_Odds_scaleTo_75 : decode prog_7_method_10_code 75 = .ok (.getfield 18, 3) := by decide +kernel
theorem d_Odds_scaleTo_78 : decode prog_7_method_10_code 78 = .ok (.iload 4, 2) := by decide +kernel
theorem d_Odds_scaleTo_80 : decode prog_7_method_10_code 80 = .ok (.iaload, 1) := by decide +kernel
theorem d_Odds_scaleTo_81 : decode prog_7_method_10_code 81 = .ok (.iadd, 1) := by decide +kernel
theorem d_Odds_scaleTo_82 : decode prog_7_method_10_code 82 = .ok (.putfield 29, 3) := by decide +kernel
theorem d_Odds_scaleTo_85 : decode prog_7_method_10_code 85 = .ok (.iinc 4 1, 3) := by decide +kernel
theorem d_Odds_scaleTo_88 : decode prog_7_method_10_code 88 = .ok (.goto (-65), 3) := by decide +kernel
theorem d_Odds_scaleTo_91 : decode prog_7_method_10_code 91 = .ok (.aload_n 0, 1) := by decide +kernel
theorem d_Odds_scaleTo_92 : decode prog_7_method_10_code 92 = .ok (.getfield 29, 3) := by decide +kernel
theorem d_Odds_scaleTo_95 : decode prog_7_method_10_code 95 = .ok (.iload_n 1, 1) := by decide +kernel
theorem d_Odds_scaleTo_96 : decode prog_7_method_10_code 96 = .ok (.isub, 1) := by decide +kernel
theorem d_Odds_scaleTo_97 : decode prog_7_method_10_code 97 = .ok (.istore 4, 2) := by decide +kernel
theorem d_Odds_scaleTo_99 : decode prog_7_method_10_code 99 = .ok (.iload 4, 2) := by decide +kernel
theorem d_Odds_scaleTo_101 : decode prog_7_method_10_code 101 = .ok (.ifCond .le 18, 3) := by decide +kernel
theorem d_Odds_scaleTo_104 : decode prog_7_method_10_code 104 = .ok (.aload_n 0, 1) := by decide +kernel
theorem d_Odds_scaleTo_105 : decode prog_7_method_10_code 105 = .ok (.aload_n 0, 1) := by decide +kernel
theorem d_Odds_scaleTo_106 : decode prog_7_method_10_code 106 = .ok (.invokevirtual 55, 3) := by decide +kernel
theorem d_Odds_scaleTo_109 : decode prog_7_method_10_code 109 = .ok (.iconst (-1), 1) := by decide +kernel
theorem d_Odds_scaleTo_110 : decode prog_7_method_10_code 110 = .ok (.invokevirtual 45, 3) := by decide +kernel
theorem d_Odds_scaleTo_113 : decode prog_7_method_10_code 113 = .ok (.iinc 4 (-1), 3) := by decide +kernel
theorem d_Odds_scaleTo_116 : decode prog_7_method_10_code 116 = .ok (.goto (-17), 3) := by decide +kernel
theorem d_Odds_scaleTo_119 : decode prog_7_method_10_code 119 = .ok (.aload_n 0, 1) := by decide +kernel
theorem d_Odds_scaleTo_120 : decode prog_7_method_10_code 120 = .ok (.aload_n 0, 1) := by decide +kernel
theorem d_Odds_scaleTo_121 : decode prog_7_method_10_code 121 = .ok (.invokevirtual 55, 3) := by decide +kernel
theorem d_Odds_scaleTo_124 : decode prog_7_method_10_code 124 = .ok (.iload_n 1, 1) := by decide +kernel
theorem d_Odds_scaleTo_125 : decode prog_7_method_10_code 125 = .ok (.aload_n 0, 1) := by decide +kernel
theorem d_Odds_scaleTo_126 : decode prog_7_method_10_code 126 = .ok (.getfield 29, 3) := by decide +kernel
theorem d_Odds_scaleTo_129 : decode prog_7_method_10_code 129 = .ok (.isub, 1) := by decide +kernel
theorem d_Odds_scaleTo_130 : decode prog_7_method_10_code 130 = .ok (.invokevirtual 45, 3) := by decide +kernel
theorem d_Odds_scaleTo_133 : decode prog_7_method_10_code 133 = .ok (.return_, 1) := by decide +kernel
theorem d_Odds_greatest_0 : decode prog_7_method_17_code 0 = .ok (.iconst 0, 1) := by decide +kernel
theorem d_Odds_greatest_1 : decode prog_7_method_17_code 1 = .ok (.istore_n 1, 1) := by decide +kernel
theorem d_Odds_greatest_2 : decode prog_7_method_17_code 2 = .ok (.iconst 1, 1) := by decide +kernel
theorem d_Odds_greatest_3 : decode prog_7_method_17_code 3 = .ok (.istore_n 2, 1) := by decide +kernel
theorem d_Odds_greatest_4 : decode prog_7_method_17_code 4 = .ok (.iload_n 2, 1) := by decide +kernel
theorem d_Odds_greatest_5 : decode prog_7_method_17_code 5 = .ok (.aload_n 0, 1) := by decide +kernel
theorem d_Odds_greatest_6 : decode prog_7_method_17_code 6 = .ok (.getfield 18, 3) := by decide +kernel
theorem d_Odds_greatest_9 : decode prog_7_method_17_code 9 = .ok (.arraylength, 1) := by decide +kernel
theorem d_Odds_greatest_10 : decode prog_7_method_17_code 10 = .ok (.if_icmp .ge 26, 3) := by decide +kernel
theorem d_Odds_greatest_13 : decode prog_7_method_17_code 13 = .ok (.aload_n 0, 1) := by decide +kernel
theorem d_Odds_greatest_14 : decode prog_7_method_17_code 14 = .ok (.getfield 18, 3) := by decide +kernel
theorem d_Odds_greatest_17 : decode prog_7_method_17_code 17 = .ok (.iload_n 2, 1) := by decide +kernel
theorem d_Odds_greatest_18 : decode prog_7_method_17_code 18 = .ok (.iaload, 1) := by decide +kernel
theorem d_Odds_greatest_19 : decode prog_7_method_17_code 19 = .ok (.aload_n 0, 1) := by decide +kernel
theorem d_Odds_greatest_20 : decode prog_7_method_17_code 20 = .ok (.getfield 18, 3) := by decide +kernel
theorem d_Odds_greatest_23 : decode prog_7_method_17_code 23 = .ok (.iload_n 1, 1) := by decide +kernel
theorem d_Odds_greatest_24 : decode prog_7_method_17_code 24 = .ok (.iaload, 1) := by decide +kernel
theorem d_Odds_greatest_25 : decode prog_7_method_17_code 25 = .ok (.if_icmp .le 5, 3) := by decide +kernel
theorem d_Odds_greatest_28 : decode prog_7_method_17_code 28 = .ok (.iload_n 2, 1) := by decide +kernel
theorem d_Odds_greatest_29 : decode prog_7_method_17_code 29 = .ok (.istore_n 1, 1) := by decide +kernel
theorem d_Odds_greatest_30 : decode prog_7_method_17_code 30 = .ok (.iinc 2 1, 3) := by decide +kernel
theorem d_Odds_greatest_33 : decode prog_7_method_17_code 33 = .ok (.goto (-29), 3) := by decide +kernel
theorem d_Odds_greatest_36 : decode prog_7_method_17_code 36 = .ok (.iload_n 1, 1) := by decide +kernel
theorem d_Odds_greatest_37 : decode prog_7_method_17_code 37 = .ok (.ireturn, 1) := by decide +kernel
theorem d_Odds_grow_0 : decode prog_7_method_4_code 0 = .ok (.aload_n 0, 1) := by decide +kernel
theorem d_Odds_grow_1 : decode prog_7_method_4_code 1 = .ok (.iload_n 1, 1) := by decide +kernel
theorem d_Odds_grow_2 : decode prog_7_method_4_code 2 = .ok (.invokevirtual 25, 3) := by decide +kernel
theorem d_Odds_grow_5 : decode prog_7_method_4_code 5 = .ok (.ifCond .eq 23, 3) := by decide +kernel
theorem d_Odds_grow_8 : decode prog_7_method_4_code 8 = .ok (.aload_n 0, 1) := by decide +kernel
theorem d_Odds_grow_9 : decode prog_7_method_4_code 9 = .ok (.getfield 18, 3) := by decide +kernel
theorem d_Odds_grow_12 : decode prog_7_method_4_code 12 = .ok (.iload_n 1, 1) := by decide +kernel
theorem d_Odds_grow_13 : decode prog_7_method_4_code 13 = .ok (.dup2, 1) := by decide +kernel
theorem d_Odds_grow_14 : decode prog_7_method_4_code 14 = .ok (.iaload, 1) := by decide +kernel
theorem d_Odds_grow_15 : decode prog_7_method_4_code 15 = .ok (.iload_n 2, 1) := by decide +kernel
theorem d_Odds_grow_16 : decode prog_7_method_4_code 16 = .ok (.iadd, 1) := by decide +kernel
theorem d_Odds_grow_17 : decode prog_7_method_4_code 17 = .ok (.iastore, 1) := by decide +kernel
theorem d_Odds_grow_18 : decode prog_7_method_4_code 18 = .ok (.aload_n 0, 1) := by decide +kernel
theorem d_Odds_grow_19 : decode prog_7_method_4_code 19 = .ok (.dup, 1) := by decide +kernel
theorem d_Odds_grow_20 : decode prog_7_method_4_code 20 = .ok (.getfield 29, 3) := by decide +kernel
theorem d_Odds_grow_23 : decode prog_7_method_4_code 23 = .ok (.iload_n 2, 1) := by decide +kernel
theorem d_Odds_grow_24 : decode prog_7_method_4_code 24 = .ok (.iadd, 1) := by decide +kernel
theorem d_Odds_grow_25 : decode prog_7_method_4_code 25 = .ok (.putfield 29, 3) := by decide +kernel
theorem d_Odds_grow_28 : decode prog_7_method_4_code 28 = .ok (.return_, 1) := by decide +kernel
theorem d_Odds_hasCell_0 : decode prog_7_method_2_code 0 = .ok (.iload_n 1, 1) := by decide +kernel
theorem d_Odds_hasCell_1 : decode prog_7_method_2_code 1 = .ok (.aload_n 0, 1) := by decide +kernel
theorem d_Odds_hasCell_2 : decode prog_7_method_2_code 2 = .ok (.getfield 15, 3) := by decide +kernel
theorem d_Odds_hasCell_5 : decode prog_7_method_2_code 5 = .ok (.if_icmp .lt 20, 3) := by decide +kernel
theorem d_Odds_hasCell_8 : decode prog_7_method_2_code 8 = .ok (.iload_n 1, 1) := by decide +kernel
theorem d_Odds_hasCell_9 : decode prog_7_method_2_code 9 = .ok (.ifCond .lt 16, 3) := by decide +kernel
theorem d_Odds_hasCell_12 : decode prog_7_method_2_code 12 = .ok (.iload_n 1, 1) := by decide +kernel
theorem d_Odds_hasCell_13 : decode prog_7_method_2_code 13 = .ok (.aload_n 0, 1) := by decide +kernel
theorem d_Odds_hasCell_14 : decode prog_7_method_2_code 14 = .ok (.getfield 18, 3) := by decide +kernel
theorem d_Odds_hasCell_17 : decode prog_7_method_2_code 17 = .ok (.arraylength, 1) := by decide +kernel
theorem d_Odds_hasCell_18 : decode prog_7_method_2_code 18 = .ok (.if_icmp .ge 7, 3) := by decide +kernel
theorem d_Odds_hasCell_21 : decode prog_7_method_2_code 21 = .ok (.iconst 1, 1) := by decide +kernel
theorem d_Odds_hasCell_22 : decode prog_7_method_2_code 22 = .ok (.goto 4, 3) := by decide +kernel
theorem d_Odds_hasCell_25 : decode prog_7_method_2_code 25 = .ok (.iconst 0, 1) := by decide +kernel
theorem d_Odds_hasCell_26 : decode prog_7_method_2_code 26 = .ok (.ireturn, 1) := by decide +kernel
theorem d_Table_prepare_0 : decode prog_12_method_3_code 0 = .ok (.aload_n 1, 1) := by decide +kernel
theorem d_Table_prepare_1 : decode prog_12_method_3_code 1 = .ok (.sipush 512, 3) := by decide +kernel
theorem d_Table_prepare_4 : decode prog_12_method_3_code 4 = .ok (.aload_n 2, 1) := by decide +kernel
theorem d_Table_prepare_5 : decode prog_12_method_3_code 5 = .ok (.invokevirtual 16, 3) := by decide +kernel
theorem d_Table_prepare_8 : decode prog_12_method_3_code 8 = .ok (.aload_n 1, 1) := by decide +kernel
theorem d_Table_prepare_9 : decode prog_12_method_3_code 9 = .ok (.invokevirtual 20, 3) := by decide +kernel
theorem d_Table_prepare_12 : decode prog_12_method_3_code 12 = .ok (.return_, 1) := by decide +kernel
theorem d_Odds_spread_0 : decode prog_7_method_11_code 0 = .ok (.iconst 0, 1) := by decide +kernel
theorem d_Odds_spread_1 : decode prog_7_method_11_code 1 = .ok (.istore_n 1, 1) := by decide +kernel
theorem d_Odds_spread_2 : decode prog_7_method_11_code 2 = .ok (.iconst 0, 1) := by decide +kernel
theorem d_Odds_spread_3 : decode prog_7_method_11_code 3 = .ok (.istore_n 2, 1) := by decide +kernel
theorem d_Odds_spread_4 : decode prog_7_method_11_code 4 = .ok (.iload_n 2, 1) := by decide +kernel
theorem d_Odds_spread_5 : decode prog_7_method_11_code 5 = .ok (.aload_n 0, 1) := by decide +kernel
theorem d_Odds_spread_6 : decode prog_7_method_11_code 6 = .ok (.getfield 18, 3) := by decide +kernel
theorem d_Odds_spread_9 : decode prog_7_method_11_code 9 = .ok (.arraylength, 1) := by decide +kernel
theorem d_Odds_spread_10 : decode prog_7_method_11_code 10 = .ok (.if_icmp .ge 59, 3) := by decide +kernel
theorem d_Odds_spread_13 : decode prog_7_method_11_code 13 = .ok (.iconst 0, 1) := by decide +kernel
theorem d_Odds_spread_14 : decode prog_7_method_11_code 14 = .ok (.istore_n 3, 1) := by decide +kernel
theorem d_Odds_spread_15 : decode prog_7_method_11_code 15 = .ok (.iload_n 3, 1) := by decide +kernel
theorem d_Odds_spread_16 : decode prog_7_method_11_code 16 = .ok (.aload_n 0, 1) := by decide +kernel
theorem d_Odds_spread_17 : decode prog_7_method_11_code 17 = .ok (.getfield 18, 3) := by decide +kernel
theorem d_Odds_spread_20 : decode prog_7_method_11_code 20 = .ok (.iload_n 2, 1) := by decide +kernel
theorem d_Odds_spread_21 : decode prog_7_method_11_code 21 = .ok (.iaload, 1) := by decide +kernel
theorem d_Odds_spread_22 : decode prog_7_method_11_code 22 = .ok (.if_icmp .ge 41, 3) := by decide +kernel
theorem d_Odds_spread_25 : decode prog_7_method_11_code 25 = .ok (.iload_n 1, 1) := by decide +kernel
theorem d_Odds_spread_26 : decode prog_7_method_11_code 26 = .ok (.ifCond .lt 31, 3) := by decide +kernel
theorem d_Odds_spread_29 : decode prog_7_method_11_code 29 = .ok (.iload_n 1, 1) := by decide +kernel
theorem d_Odds_spread_30 : decode prog_7_method_11_code 30 = .ok (.aload_n 0, 1) := by decide +kernel
theorem d_Odds_spread_31 : decode prog_7_method_11_code 31 = .ok (.getfield 22, 3) := by decide +kernel
theorem d_Odds_spread_34 : decode prog_7_method_11_code 34 = .ok (.arraylength, 1) := by decide +kernel
theorem d_Odds_spread_35 : decode prog_7_method_11_code 35 = .ok (.if_icmp .ge 22, 3) := by decide +kernel
theorem d_Odds_spread_38 : decode prog_7_method_11_code 38 = .ok (.aload_n 0, 1) := by decide +kernel
theorem d_Odds_spread_39 : decode prog_7_method_11_code 39 = .ok (.getfield 22, 3) := by decide +kernel
theorem d_Odds_spread_42 : decode prog_7_method_11_code 42 = .ok (.iload_n 1, 1) := by decide +kernel
theorem d_Odds_spread_43 : decode prog_7_method_11_code 43 = .ok (.iload_n 2, 1) := by decide +kernel
theorem d_Odds_spread_44 : decode prog_7_method_11_code 44 = .ok (.iastore, 1) := by decide +kernel
theorem d_Odds_spread_45 : decode prog_7_method_11_code 45 = .ok (.iload_n 1, 1) := by decide +kernel
theorem d_Odds_spread_46 : decode prog_7_method_11_code 46 = .ok (.sipush 323, 3) := by decide +kernel
theorem d_Odds_spread_49 : decode prog_7_method_11_code 49 = .ok (.iadd, 1) := by decide +kernel
theorem d_Odds_spread_50 : decode prog_7_method_11_code 50 = .ok (.aload_n 0, 1) := by decide +kernel
theorem d_Odds_spread_51 : decode prog_7_method_11_code 51 = .ok (.getfield 22, 3) := by decide +kernel
theorem d_Odds_spread_54 : decode prog_7_method_11_code 54 = .ok (.arraylength, 1) := by decide +kernel
theorem d_Odds_spread_55 : decode prog_7_method_11_code 55 = .ok (.irem, 1) := by decide +kernel
theorem d_Odds_spread_56 : decode prog_7_method_11_code 56 = .ok (.istore_n 1, 1) := by decide +kernel
theorem d_Odds_spread_57 : decode prog_7_method_11_code 57 = .ok (.iinc 3 1, 3) := by decide +kernel
theorem d_Odds_spread_60 : decode prog_7_method_11_code 60 = .ok (.goto (-45), 3) := by decide +kernel
theorem d_Odds_spread_63 : decode prog_7_method_11_code 63 = .ok (.iinc 2 1, 3) := by decide +kernel
theorem d_Odds_spread_66 : decode prog_7_method_11_code 66 = .ok (.goto (-62), 3) := by decide +kernel
theorem d_Odds_spread_69 : decode prog_7_method_11_code 69 = .ok (.return_, 1) := by decide +kernel
theorem d_RC_count_0 : decode prog_1_method_3_code 0 = .ok (.aload_n 0, 1) := by decide +kernel
theorem d_RC_count_1 : decode prog_1_method_3_code 1 = .ok (.iload_n 1, 1) := by decide +kernel
theorem d_RC_count_2 : decode prog_1_method_3_code 2 = .ok (.invokevirtual 55, 3) := by decide +kernel
theorem d_RC_count_5 : decode prog_1_method_3_code 5 = .ok (.astore 4, 2) := by decide +kernel
theorem d_RC_count_7 : decode prog_1_method_3_code 7 = .ok (.aload 4, 2) := by decide +kernel
theorem d_RC_count_9 : decode prog_1_method_3_code 9 = .ok (.ifnull 12, 3) := by decide +kernel
theorem d_RC_count_12 : decode prog_1_method_3_code 12 = .ok (.aload 4, 2) := by decide +kernel
theorem d_RC_count_14 : decode prog_1_method_3_code 14 = .ok (.iload_n 2, 1) := by decide +kernel
theorem d_RC_count_15 : decode prog_1_method_3_code 15 = .ok (.invokevirtual 59, 3) := by decide +kernel
theorem d_RC_count_18 : decode prog_1_method_3_code 18 = .ok (.ifCond .ne 5, 3) := by decide +kernel
theorem d_RC_count_21 : decode prog_1_method_3_code 21 = .ok (.iconst (-1), 1) := by decide +kernel
theorem d_RC_count_22 : decode prog_1_method_3_code 22 = .ok (.ireturn, 1) := by decide +kernel
theorem d_RC_count_23 : decode prog_1_method_3_code 23 = .ok (.iload_n 3, 1) := by decide +kernel
theorem d_RC_count_24 : decode prog_1_method_3_code 24 = .ok (.ifCond .lt 10, 3) := by decide +kernel
theorem d_RC_count_27 : decode prog_1_method_3_code 27 = .ok (.iload_n 3, 1) := by decide +kernel
theorem d_RC_count_28 : decode prog_1_method_3_code 28 = .ok (.sipush 4095, 3) := by decide +kernel
theorem d_RC_count_31 : decode prog_1_method_3_code 31 = .ok (.if_icmp .le 6, 3) := by decide +kernel
theorem d_RC_count_34 : decode prog_1_method_3_code 34 = .ok (.bipush (-2), 2) := by decide +kernel
theorem d_RC_count_36 : decode prog_1_method_3_code 36 = .ok (.ireturn, 1) := by decide +kernel
theorem d_RC_count_37 : decode prog_1_method_3_code 37 = .ok (.aload_n 0, 1) := by decide +kernel
theorem d_RC_count_38 : decode prog_1_method_3_code 38 = .ok (.getfield 63, 3) := by decide +kernel
theorem d_RC_count_41 : decode prog_1_method_3_code 41 = .ok (.ifCond .le 10, 3) := by decide +kernel
theorem d_RC_count_44 : decode prog_1_method_3_code 44 = .ok (.aload_n 0, 1) := by decide +kernel
theorem d_RC_count_45 : decode prog_1_method_3_code 45 = .ok (.getfield 66, 3) := by decide +kernel
theorem d_RC_count_48 : decode prog_1_method_3_code 48 = .ok (.ifCond .eq 10, 3) := by decide +kernel
theorem d_RC_count_51 : decode prog_1_method_3_code 51 = .ok (.aload_n 0, 1) := by decide +kernel
theorem d_RC_count_52 : decode prog_1_method_3_code 52 = .ok (.getfield 70, 3) := by decide +kernel
theorem d_RC_count_55 : decode prog_1_method_3_code 55 = .ok (.ifCond .eq 6, 3) := by decide +kernel
theorem d_RC_count_58 : decode prog_1_method_3_code 58 = .ok (.bipush (-3), 2) := by decide +kernel
theorem d_RC_count_60 : decode prog_1_method_3_code 60 = .ok (.ireturn, 1) := by decide +kernel
theorem d_RC_count_61 : decode prog_1_method_3_code 61 = .ok (.aload 4, 2) := by decide +kernel
theorem d_RC_count_63 : decode prog_1_method_3_code 63 = .ok (.getfield 44, 3) := by decide +kernel
theorem d_RC_count_66 : decode prog_1_method_3_code 66 = .ok (.iload_n 2, 1) := by decide +kernel
theorem d_RC_count_67 : decode prog_1_method_3_code 67 = .ok (.iaload, 1) := by decide +kernel
theorem d_RC_count_68 : decode prog_1_method_3_code 68 = .ok (.istore 5, 2) := by decide +kernel
theorem d_RC_count_70 : decode prog_1_method_3_code 70 = .ok (.aload 4, 2) := by decide +kernel
theorem d_RC_count_72 : decode prog_1_method_3_code 72 = .ok (.getfield 44, 3) := by decide +kernel
theorem d_RC_count_75 : decode prog_1_method_3_code 75 = .ok (.iload_n 2, 1) := by decide +kernel
theorem d_RC_count_76 : decode prog_1_method_3_code 76 = .ok (.iload_n 3, 1) := by decide +kernel
theorem d_RC_count_77 : decode prog_1_method_3_code 77 = .ok (.iastore, 1) := by decide +kernel
theorem d_RC_count_78 : decode prog_1_method_3_code 78 = .ok (.aload_n 0, 1) := by decide +kernel
theorem d_RC_count_79 : decode prog_1_method_3_code 79 = .ok (.getfield 66, 3) := by decide +kernel
theorem d_RC_count_82 : decode prog_1_method_3_code 82 = .ok (.ifCond .ne 20, 3) := by decide +kernel
theorem d_RC_count_85 : decode prog_1_method_3_code 85 = .ok (.aload_n 0, 1) := by decide +kernel
theorem d_RC_count_86 : decode prog_1_method_3_code 86 = .ok (.getfield 23, 3) := by decide +kernel
theorem d_RC_count_89 : decode prog_1_method_3_code 89 = .ok (.aload 4, 2) := by decide +kernel
theorem d_RC_count_91 : decode prog_1_method_3_code 91 = .ok (.getfield 40, 3) := by decide +kernel
theorem d_RC_count_94 : decode prog_1_method_3_code 94 = .ok (.aload 4, 2) := by decide +kernel
theorem d_RC_count_96 : decode prog_1_method_3_code 96 = .ok (.getfield 44, 3) := by decide +kernel
theorem d_RC_count_99 : decode prog_1_method_3_code 99 = .ok (.invokevirtual 48, 3) := by decide +kernel
theorem d_RC_count_102 : decode prog_1_method_3_code 102 = .ok (.iload 5, 2) := by decide +kernel
theorem d_RC_count_104 : decode prog_1_method_3_code 104 = .ok (.ireturn, 1) := by decide +kernel
theorem d_RC_modelAt_0 : decode prog_1_method_20_code 0 = .ok (.iload_n 1, 1) := by decide +kernel
theorem d_RC_modelAt_1 : decode prog_1_method_20_code 1 = .ok (.ifCond .lt 20, 3) := by decide +kernel
theorem d_RC_modelAt_4 : decode prog_1_method_20_code 4 = .ok (.iload_n 1, 1) := by decide +kernel
theorem d_RC_modelAt_5 : decode prog_1_method_20_code 5 = .ok (.aload_n 0, 1) := by decide +kernel
theorem d_RC_modelAt_6 : decode prog_1_method_20_code 6 = .ok (.getfield 27, 3) := by decide +kernel
theorem d_RC_modelAt_9 : decode prog_1_method_20_code 9 = .ok (.if_icmp .ge 12, 3) := by decide +kernel
theorem d_RC_modelAt_12 : decode prog_1_method_20_code 12 = .ok (.aload_n 0, 1) := by decide +kernel
theorem d_RC_modelAt_13 : decode prog_1_method_20_code 13 = .ok (.getfield 11, 3) := by decide +kernel
theorem d_RC_modelAt_16 : decode prog_1_method_20_code 16 = .ok (.iload_n 1, 1) := by decide +kernel
theorem d_RC_modelAt_17 : decode prog_1_method_20_code 17 = .ok (.aaload, 1) := by decide +kernel
theorem d_RC_modelAt_18 : decode prog_1_method_20_code 18 = .ok (.goto 4, 3) := by decide +kernel
theorem d_RC_modelAt_21 : decode prog_1_method_20_code 21 = .ok (.aconst_null, 1) := by decide +kernel
theorem d_RC_modelAt_22 : decode prog_1_method_20_code 22 = .ok (.areturn, 1) := by decide +kernel
theorem d_Model_hasSign_0 : decode prog_5_method_2_code 0 = .ok (.iload_n 1, 1) := by decide +kernel
theorem d_Model_hasSign_1 : decode prog_5_method_2_code 1 = .ok (.ifCond .lt 16, 3) := by decide +kernel
theorem d_Model_hasSign_4 : decode prog_5_method_2_code 4 = .ok (.iload_n 1, 1) := by decide +kernel
theorem d_Model_hasSign_5 : decode prog_5_method_2_code 5 = .ok (.aload_n 0, 1) := by decide +kernel
theorem d_Model_hasSign_6 : decode prog_5_method_2_code 6 = .ok (.getfield 7, 3) := by decide +kernel
theorem d_Model_hasSign_9 : decode prog_5_method_2_code 9 = .ok (.arraylength, 1) := by decide +kernel
theorem d_Model_hasSign_10 : decode prog_5_method_2_code 10 = .ok (.if_icmp .ge 7, 3) := by decide +kernel
theorem d_Model_hasSign_13 : decode prog_5_method_2_code 13 = .ok (.iconst 1, 1) := by decide +kernel
theorem d_Model_hasSign_14 : decode prog_5_method_2_code 14 = .ok (.goto 4, 3) := by decide +kernel
theorem d_Model_hasSign_17 : decode prog_5_method_2_code 17 = .ok (.iconst 0, 1) := by decide +kernel
theorem d_Model_hasSign_18 : decode prog_5_method_2_code 18 = .ok (.ireturn, 1) := by decide +kernel
theorem d_RC_put_0 : decode prog_1_method_4_code 0 = .ok (.aload_n 0, 1) := by decide +kernel
theorem d_RC_put_1 : decode prog_1_method_4_code 1 = .ok (.iload_n 1, 1) := by decide +kernel
theorem d_RC_put_2 : decode prog_1_method_4_code 2 = .ok (.invokevirtual 55, 3) := by decide +kernel
theorem d_RC_put_5 : decode prog_1_method_4_code 5 = .ok (.astore_n 3, 1) := by decide +kernel
theorem d_RC_put_6 : decode prog_1_method_4_code 6 = .ok (.aload_n 3, 1) := by decide +kernel
theorem d_RC_put_7 : decode prog_1_method_4_code 7 = .ok (.ifnull 11, 3) := by decide +kernel
theorem d_RC_put_10 : decode prog_1_method_4_code 10 = .ok (.aload_n 3, 1) := by decide +kernel
theorem d_RC_put_11 : decode prog_1_method_4_code 11 = .ok (.iload_n 2, 1) := by decide +kernel
theorem d_RC_put_12 : decode prog_1_method_4_code 12 = .ok (.invokevirtual 59, 3) := by decide +kernel
theorem d_RC_put_15 : decode prog_1_method_4_code 15 = .ok (.ifCond .ne 5, 3) := by decide +kernel
theorem d_RC_put_18 : decode prog_1_method_4_code 18 = .ok (.iconst (-1), 1) := by decide +kernel
theorem d_RC_put_19 : decode prog_1_method_4_code 19 = .ok (.ireturn, 1) := by decide +kernel
theorem d_RC_put_20 : decode prog_1_method_4_code 20 = .ok (.aload_n 0, 1) := by decide +kernel
theorem d_RC_put_21 : decode prog_1_method_4_code 21 = .ok (.getfield 66, 3) := by decide +kernel
theorem d_RC_put_24 : decode prog_1_method_4_code 24 = .ok (.ifCond .ne 18, 3) := by decide +kernel
theorem d_RC_put_27 : decode prog_1_method_4_code 27 = .ok (.aload_n 0, 1) := by decide +kernel
theorem d_RC_put_28 : decode prog_1_method_4_code 28 = .ok (.getfield 23, 3) := by decide +kernel
theorem d_RC_put_31 : decode prog_1_method_4_code 31 = .ok (.aload_n 3, 1) := by decide +kernel
theorem d_RC_put_32 : decode prog_1_method_4_code 32 = .ok (.getfield 40, 3) := by decide +kernel
theorem d_RC_put_35 : decode prog_1_method_4_code 35 = .ok (.iload_n 2, 1) := by decide +kernel
theorem d_RC_put_36 : decode prog_1_method_4_code 36 = .ok (.invokevirtual 73, 3) := by decide +kernel
theorem d_RC_put_39 : decode prog_1_method_4_code 39 = .ok (.ifCond .ne 6, 3) := by decide +kernel
theorem d_RC_put_42 : decode prog_1_method_4_code 42 = .ok (.bipush (-3), 2) := by decide +kernel
theorem d_RC_put_44 : decode prog_1_method_4_code 44 = .ok (.ireturn, 1) := by decide +kernel
theorem d_RC_put_45 : decode prog_1_method_4_code 45 = .ok (.aload_n 0, 1) := by decide +kernel
theorem d_RC_put_46 : decode prog_1_method_4_code 46 = .ok (.getfield 63, 3) := by decide +kernel
theorem d_RC_put_49 : decode prog_1_method_4_code 49 = .ok (.sipush 600, 3) := by decide +kernel
theorem d_RC_put_52 : decode prog_1_method_4_code 52 = .ok (.if_icmp .lt 6, 3) := by decide +kernel
theorem d_RC_put_55 : decode prog_1_method_4_code 55 = .ok (.bipush (-4), 2) := by decide +kernel
theorem d_RC_put_57 : decode prog_1_method_4_code 57 = .ok (.ireturn, 1) := by decide +kernel
theorem d_RC_put_58 : decode prog_1_method_4_code 58 = .ok (.aload_n 0, 1) := by decide +kernel
theorem d_RC_put_59 : decode prog_1_method_4_code 59 = .ok (.getfield 23, 3) := by decide +kernel
theorem d_RC_put_62 : decode prog_1_method_4_code 62 = .ok (.aload_n 3, 1) := by decide +kernel
theorem d_RC_put_63 : decode prog_1_method_4_code 63 = .ok (.getfield 40, 3) := by decide +kernel
theorem d_RC_put_66 : decode prog_1_method_4_code 66 = .ok (.iload_n 2, 1) := by decide +kernel
theorem d_RC_put_67 : decode prog_1_method_4_code 67 = .ok (.invokevirtual 77, 3) := by decide +kernel
theorem d_RC_put_70 : decode prog_1_method_4_code 70 = .ok (.aload_n 0, 1) := by decide +kernel
theorem d_RC_put_71 : decode prog_1_method_4_code 71 = .ok (.dup, 1) := by decide +kernel
theorem d_RC_put_72 : decode prog_1_method_4_code 72 = .ok (.getfield 63, 3) := by decide +kernel
theorem d_RC_put_75 : decode prog_1_method_4_code 75 = .ok (.iconst 1, 1) := by decide +kernel
theorem d_RC_put_76 : decode prog_1_method_4_code 76 = .ok (.iadd, 1) := by decide +kernel
theorem d_RC_put_77 : decode prog_1_method_4_code 77 = .ok (.putfield 63, 3) := by decide +kernel
theorem d_RC_put_80 : decode prog_1_method_4_code 80 = .ok (.aload_n 0, 1) := by decide +kernel
theorem d_RC_put_81 : decode prog_1_method_4_code 81 = .ok (.getfield 63, 3) := by decide +kernel
theorem d_RC_put_84 : decode prog_1_method_4_code 84 = .ok (.ireturn, 1) := by decide +kernel
theorem d_Bits_canWrite_0 : decode prog_2_method_4_code 0 = .ok (.iconst 1, 1) := by decide +kernel
theorem d_Bits_canWrite_1 : decode prog_2_method_4_code 1 = .ok (.ireturn, 1) := by decide +kernel
theorem d_Coder_canWrite_0 : decode prog_4_method_12_code 0 = .ok (.aload_n 1, 1) := by decide +kernel
theorem d_Coder_canWrite_1 : decode prog_4_method_12_code 1 = .ok (.iload_n 2, 1) := by decide +kernel
theorem d_Coder_canWrite_2 : decode prog_4_method_12_code 2 = .ok (.invokevirtual 27, 3) := by decide +kernel
theorem d_Coder_canWrite_5 : decode prog_4_method_12_code 5 = .ok (.ifCond .le 7, 3) := by decide +kernel
theorem d_Coder_canWrite_8 : decode prog_4_method_12_code 8 = .ok (.iconst 1, 1) := by decide +kernel
theorem d_Coder_canWrite_9 : decode prog_4_method_12_code 9 = .ok (.goto 4, 3) := by decide +kernel
theorem d_Coder_canWrite_12 : decode prog_4_method_12_code 12 = .ok (.iconst 0, 1) := by decide +kernel
theorem d_Coder_canWrite_13 : decode prog_4_method_12_code 13 = .ok (.ireturn, 1) := by decide +kernel
theorem d_Odds_at_0 : decode prog_7_method_3_code 0 = .ok (.aload_n 0, 1) := by decide +kernel
theorem d_Odds_at_1 : decode prog_7_method_3_code 1 = .ok (.iload_n 1, 1) := by decide +kernel
theorem d_Odds_at_2 : decode prog_7_method_3_code 2 = .ok (.invokevirtual 25, 3) := by decide +kernel
theorem d_Odds_at_5 : decode prog_7_method_3_code 5 = .ok (.ifCond .eq 12, 3) := by decide +kernel
theorem d_Odds_at_8 : decode prog_7_method_3_code 8 = .ok (.aload_n 0, 1) := by decide +kernel
theorem d_Odds_at_9 : decode prog_7_method_3_code 9 = .ok (.getfield 18, 3) := by decide +kernel
theorem d_Odds_at_12 : decode prog_7_method_3_code 12 = .ok (.iload_n 1, 1) := by decide +kernel
theorem d_Odds_at_13 : decode prog_7_method_3_code 13 = .ok (.iaload, 1) := by decide +kernel
theorem d_Odds_at_14 : decode prog_7_method_3_code 14 = .ok (.goto 4, 3) := by decide +kernel
theorem d_Odds_at_17 : decode prog_7_method_3_code 17 = .ok (.iconst 0, 1) := by decide +kernel
theorem d_Odds_at_18 : decode prog_7_method_3_code 18 = .ok (.ireturn, 1) := by decide +kernel
theorem d_Bits_writeSign_0 : decode prog_2_method_5_code 0 = .ok (.iconst 1, 1) := by decide +kernel
theorem d_Bits_writeSign_1 : decode prog_2_method_5_code 1 = .ok (.istore_n 3, 1) := by decide +kernel
theorem d_Bits_writeSign_2 : decode prog_2_method_5_code 2 = .ok (.aload_n 1, 1) := by decide +kernel
theorem d_Bits_writeSign_3 : decode prog_2_method_5_code 3 = .ok (.getfield 28, 3) := by decide +kernel
theorem d_Bits_writeSign_6 : decode prog_2_method_5_code 6 = .ok (.invokestatic 17, 3) := by decide +kernel
theorem d_Bits_writeSign_9 : decode prog_2_method_5_code 9 = .ok (.iconst 1, 1) := by decide +kernel
theorem d_Bits_writeSign_10 : decode prog_2_method_5_code 10 = .ok (.isub, 1) := by decide +kernel
theorem d_Bits_writeSign_11 : decode prog_2_method_5_code 11 = .ok (.istore 4, 2) := by decide +kernel
theorem d_Bits_writeSign_13 : decode prog_2_method_5_code 13 = .ok (.iload 4, 2) := by decide +kernel
theorem d_Bits_writeSign_15 : decode prog_2_method_5_code 15 = .ok (.ifCond .lt 32, 3) := by decide +kernel
theorem d_Bits_writeSign_18 : decode prog_2_method_5_code 18 = .ok (.iload_n 2, 1) := by decide +kernel
theorem d_Bits_writeSign_19 : decode prog_2_method_5_code 19 = .ok (.iload 4, 2) := by decide +kernel
theorem d_Bits_writeSign_21 : decode prog_2_method_5_code 21 = .ok (.iushr, 1) := by decide +kernel
theorem d_Bits_writeSign_22 : decode prog_2_method_5_code 22 = .ok (.iconst 1, 1) := by decide +kernel
theorem d_Bits_writeSign_23 : decode prog_2_method_5_code 23 = .ok (.iand, 1) := by decide +kernel
theorem d_Bits_writeSign_24 : decode prog_2_method_5_code 24 = .ok (.istore 5, 2) := by decide +kernel
theorem d_Bits_writeSign_26 : decode prog_2_method_5_code 26 = .ok (.aload_n 0, 1) := by decide +kernel
theorem d_Bits_writeSign_27 : decode prog_2_method_5_code 27 = .ok (.aload_n 1, 1) := by decide +kernel
theorem d_Bits_writeSign_28 : decode prog_2_method_5_code 28 = .ok (.iload_n 3, 1) := by decide +kernel
theorem d_Bits_writeSign_29 : decode prog_2_method_5_code 29 = .ok (.iload 5, 2) := by decide +kernel
theorem d_Bits_writeSign_31 : decode prog_2_method_5_code 31 = .ok (.invokevirtual 31, 3) := by decide +kernel
theorem d_Bits_writeSign_34 : decode prog_2_method_5_code 34 = .ok (.iconst 2, 1) := by decide +kernel
theorem d_Bits_writeSign_35 : decode prog_2_method_5_code 35 = .ok (.iload_n 3, 1) := by decide +kernel
theorem d_Bits_writeSign_36 : decode prog_2_method_5_code 36 = .ok (.imul, 1) := by decide +kernel
theorem d_Bits_writeSign_37 : decode prog_2_method_5_code 37 = .ok (.iload 5, 2) := by decide +kernel
theorem d_Bits_writeSign_39 : decode prog_2_method_5_code 39 = .ok (.iadd, 1) := by decide +kernel
theorem d_Bits_writeSign_40 : decode prog_2_method_5_code 40 = .ok (.istore_n 3, 1) := by decide +kernel
theorem d_Bits_writeSign_41 : decode prog_2_method_5_code 41 = .ok (.iinc 4 (-1), 3) := by decide +kernel
theorem d_Bits_writeSign_44 : decode prog_2_method_5_code 44 = .ok (.goto (-31), 3) := by decide +kernel
theorem d_Bits_writeSign_47 : decode prog_2_method_5_code 47 = .ok (.return_, 1) := by decide +kernel
theorem d_Bits_writeBit_0 : decode prog_2_method_10_code 0 = .ok (.aload_n 0, 1) := by decide +kernel
theorem d_Bits_writeBit_1 : decode prog_2_method_10_code 1 = .ok (.getfield 35, 3) := by decide +kernel
theorem d_Bits_writeBit_4 : decode prog_2_method_10_code 4 = .ok (.bipush 11, 2) := by decide +kernel
theorem d_Bits_writeBit_6 : decode prog_2_method_10_code 6 = .ok (.lushr, 1) := by decide +kernel
theorem d_Bits_writeBit_7 : decode prog_2_method_10_code 7 = .ok (.aload_n 1, 1) := by decide +kernel
theorem d_Bits_writeBit_8 : decode prog_2_method_10_code 8 = .ok (.iload_n 2, 1) := by decide +kernel
theorem d_Bits_writeBit_9 : decode prog_2_method_10_code 9 = .ok (.invokevirtual 65, 3) := by decide +kernel
theorem d_Bits_writeBit_12 : decode prog_2_method_10_code 12 = .ok (.i2l, 1) := by decide +kernel
theorem d_Bits_writeBit_13 : decode prog_2_method_10_code 13 = .ok (.lmul, 1) := by decide +kernel
theorem d_Bits_writeBit_14 : decode prog_2_method_10_code 14 = .ok (.lstore 4, 2) := by decide +kernel
theorem d_Bits_writeBit_16 : decode prog_2_method_10_code 16 = .ok (.iload_n 3, 1) := by decide +kernel
theorem d_Bits_writeBit_17 : decode prog_2_method_10_code 17 = .ok (.ifCond .ne 12, 3) := by decide +kernel
theorem d_Bits_writeBit_20 : decode prog_2_method_10_code 20 = .ok (.aload_n 0, 1) := by decide +kernel
theorem d_Bits_writeBit_21 : decode prog_2_method_10_code 21 = .ok (.lload 4, 2) := by decide +kernel
theorem d_Bits_writeBit_23 : decode prog_2_method_10_code 23 = .ok (.putfield 35, 3) := by decide +kernel
theorem d_Bits_writeBit_26 : decode prog_2_method_10_code 26 = .ok (.goto 25, 3) := by decide +kernel
theorem d_Bits_writeBit_29 : decode prog_2_method_10_code 29 = .ok (.aload_n 0, 1) := by decide +kernel
theorem d_Bits_writeBit_30 : decode prog_2_method_10_code 30 = .ok (.dup, 1) := by decide +kernel
theorem d_Bits_writeBit_31 : decode prog_2_method_10_code 31 = .ok (.getfield 39, 3) := by decide +kernel
theorem d_Bits_writeBit_34 : decode prog_2_method_10_code 34 = .ok (.lload 4, 2) := by decide +kernel
theorem d_Bits_writeBit_36 : decode prog_2_method_10_code 36 = .ok (.ladd, 1) := by decide +kernel
theorem d_Bits_writeBit_37 : decode prog_2_method_10_code 37 = .ok (.putfield 39, 3) := by decide +kernel
theorem d_Bits_writeBit_40 : decode prog_2_method_10_code 40 = .ok (.aload_n 0, 1) := by decide +kernel
theorem d_Bits_writeBit_41 : decode prog_2_method_10_code 41 = .ok (.dup, 1) := by decide +kernel
theorem d_Bits_writeBit_42 : decode prog_2_method_10_code 42 = .ok (.getfield 35, 3) := by decide +kernel
theorem d_Bits_writeBit_45 : decode prog_2_method_10_code 45 = .ok (.lload 4, 2) := by decide +kernel
theorem d_Bits_writeBit_47 : decode prog_2_method_10_code 47 = .ok (.lsub, 1) := by decide +kernel
theorem d_Bits_writeBit_48 : decode prog_2_method_10_code 48 = .ok (.putfield 35, 3) := by decide +kernel
theorem d_Bits_writeBit_51 : decode prog_2_method_10_code 51 = .ok (.aload_n 0, 1) := by decide +kernel
theorem d_Bits_writeBit_52 : decode prog_2_method_10_code 52 = .ok (.aload_n 1, 1) := by decide +kernel
theorem d_Bits_writeBit_53 : decode prog_2_method_10_code 53 = .ok (.iload_n 2, 1) := by decide +kernel
theorem d_Bits_writeBit_54 : decode prog_2_method_10_code 54 = .ok (.iload_n 3, 1) := by decide +kernel
theorem d_Bits_writeBit_55 : decode prog_2_method_10_code 55 = .ok (.invokevirtual 68, 3) := by decide +kernel
theorem d_Bits_writeBit_58 : decode prog_2_method_10_code 58 = .ok (.aload_n 0, 1) := by decide +kernel
theorem d_Bits_writeBit_59 : decode prog_2_method_10_code 59 = .ok (.invokevirtual 42, 3) := by decide +kernel
theorem d_Bits_writeBit_62 : decode prog_2_method_10_code 62 = .ok (.return_, 1) := by decide +kernel
theorem d_Bits_adapt_0 : decode prog_2_method_12_code 0 = .ok (.aload_n 1, 1) := by decide +kernel
theorem d_Bits_adapt_1 : decode prog_2_method_12_code 1 = .ok (.iload_n 2, 1) := by decide +kernel
theorem d_Bits_adapt_2 : decode prog_2_method_12_code 2 = .ok (.invokevirtual 65, 3) := by decide +kernel
theorem d_Bits_adapt_5 : decode prog_2_method_12_code 5 = .ok (.istore 4, 2) := by decide +kernel
theorem d_Bits_adapt_7 : decode prog_2_method_12_code 7 = .ok (.aload_n 1, 1) := by decide +kernel
theorem d_Bits_adapt_8 : decode prog_2_method_12_code 8 = .ok (.iload_n 2, 1) := by decide +kernel
theorem d_Bits_adapt_9 : decode prog_2_method_12_code 9 = .ok (.iload_n 3, 1) := by decide +kernel
theorem d_Bits_adapt_10 : decode prog_2_method_12_code 10 = .ok (.ifCond .ne 17, 3) := by decide +kernel
theorem d_Bits_adapt_13 : decode prog_2_method_12_code 13 = .ok (.sipush 2048, 3) := by decide +kernel
theorem d_Bits_adapt_16 : decode prog_2_method_12_code 16 = .ok (.iload 4, 2) := by decide +kernel
theorem d_Bits_adapt_18 : decode prog_2_method_12_code 18 = .ok (.isub, 1) := by decide +kernel
theorem d_Bits_adapt_19 : decode prog_2_method_12_code 19 = .ok (.aload_n 0, 1) := by decide +kernel
theorem d_Bits_adapt_20 : decode prog_2_method_12_code 20 = .ok (.getfield 11, 3) := by decide +kernel
theorem d_Bits_adapt_23 : decode prog_2_method_12_code 23 = .ok (.ishr, 1) := by decide +kernel
theorem d_Bits_adapt_24 : decode prog_2_method_12_code 24 = .ok (.goto 11, 3) := by decide +kernel
theorem d_Bits_adapt_27 : decode prog_2_method_12_code 27 = .ok (.iload 4, 2) := by decide +kernel
theorem d_Bits_adapt_29 : decode prog_2_method_12_code 29 = .ok (.aload_n 0, 1) := by decide +kernel
theorem d_Bits_adapt_30 : decode prog_2_method_12_code 30 = .ok (.getfield 11, 3) := by decide +kernel
theorem d_Bits_adapt_33 : decode prog_2_method_12_code 33 = .ok (.ishr, 1) := by decide +kernel
theorem d_Bits_adapt_34 : decode prog_2_method_12_code 34 = .ok (.ineg, 1) := by decide +kernel
theorem d_Bits_adapt_35 : decode prog_2_method_12_code 35 = .ok (.invokevirtual 71, 3) := by decide +kernel
theorem d_Bits_adapt_38 : decode prog_2_method_12_code 38 = .ok (.return_, 1) := by decide +kernel
theorem d_Carries_widen_0 : decode prog_3_method_6_code 0 = .ok (.iconst 0, 1) := by decide +kernel
theorem d_Carries_widen_1 : decode prog_3_method_6_code 1 = .ok (.istore_n 1, 1) := by decide +kernel
theorem d_Carries_widen_2 : decode prog_3_method_6_code 2 = .ok (.iload_n 1, 1) := by decide +kernel
theorem d_Carries_widen_3 : decode prog_3_method_6_code 3 = .ok (.bipush 8, 2) := by decide +kernel
theorem d_Carries_widen_5 : decode prog_3_method_6_code 5 = .ok (.if_icmp .ge 39, 3) := by decide +kernel
theorem d_Carries_widen_8 : decode prog_3_method_6_code 8 = .ok (.aload_n 0, 1) := by decide +kernel
theorem d_Carries_widen_9 : decode prog_3_method_6_code 9 = .ok (.getfield 21, 3) := by decide +kernel
theorem d_Carries_widen_12 : decode prog_3_method_6_code 12 = .ok (.ldc2_w 43, 3) := by decide +kernel
theorem d_Carries_widen_15 : decode prog_3_method_6_code 15 = .ok (.lcmp, 1) := by decide +kernel
theorem d_Carries_widen_16 : decode prog_3_method_6_code 16 = .ok (.ifCond .ge 28, 3) := by decide +kernel
theorem d_Carries_widen_19 : decode prog_3_method_6_code 19 = .ok (.aload_n 0, 1) := by decide +kernel
theorem d_Carries_widen_20 : decode prog_3_method_6_code 20 = .ok (.aload_n 0, 1) := by decide +kernel
theorem d_Carries_widen_21 : decode prog_3_method_6_code 21 = .ok (.getfield 21, 3) := by decide +kernel
theorem d_Carries_widen_24 : decode prog_3_method_6_code 24 = .ok (.bipush 8, 2) := by decide +kernel
theorem d_Carries_widen_26 : decode prog_3_method_6_code 26 = .ok (.lshl, 1) := by decide +kernel
theorem d_Carries_widen_27 : decode prog_3_method_6_code 27 = .ok (.ldc2_w 45, 3) := by decide +kernel
theorem d_Carries_widen_30 : decode prog_3_method_6_code 30 = .ok (.land, 1) := by decide +kernel
theorem d_Carries_widen_31 : decode prog_3_method_6_code 31 = .ok (.putfield 21, 3) := by decide +kernel
theorem d_Carries_widen_34 : decode prog_3_method_6_code 34 = .ok (.aload_n 0, 1) := by decide +kernel
theorem d_Carries_widen_35 : decode prog_3_method_6_code 35 = .ok (.invokevirtual 40, 3) := by decide +kernel
theorem d_Carries_widen_38 : decode prog_3_method_6_code 38 = .ok (.iinc 1 1, 3) := by decide +kernel
theorem d_Carries_widen_41 : decode prog_3_method_6_code 41 = .ok (.goto (-39), 3) := by decide +kernel
theorem d_Carries_widen_44 : decode prog_3_method_6_code 44 = .ok (.return_, 1) := by decide +kernel
theorem d_Carries_shiftLow_0 : decode prog_3_method_8_code 0 = .ok (.aload_n 0, 1) := by decide +kernel
theorem d_Carries_shiftLow_1 : decode prog_3_method_8_code 1 = .ok (.getfield 25, 3) := by decide +kernel
theorem d_Carries_shiftLow_4 : decode prog_3_method_8_code 4 = .ok (.ldc2_w 51, 3) := by decide +kernel
theorem d_Carries_shiftLow_7 : decode prog_3_method_8_code 7 = .ok (.lcmp, 1) := by decide +kernel
theorem d_Carries_shiftLow_8 : decode prog_3_method_8_code 8 = .ok (.ifCond .lt 14, 3) := by decide +kernel
theorem d_Carries_shiftLow_11 : decode prog_3_method_8_code 11 = .ok (.aload_n 0, 1) := by decide +kernel
theorem d_Carries_shiftLow_12 : decode prog_3_method_8_code 12 = .ok (.getfield 25, 3) := by decide +kernel
theorem d_Carries_shiftLow_15 : decode prog_3_method_8_code 15 = .ok (.ldc2_w 45, 3) := by decide +kernel
theorem d_Carries_shiftLow_18 : decode prog_3_method_8_code 18 = .ok (.lcmp, 1) := by decide +kernel
theorem d_Carries_shiftLow_19 : decode prog_3_method_8_code 19 = .ok (.ifCond .le 34, 3) := by decide +kernel
theorem d_Carries_shiftLow_22 : decode prog_3_method_8_code 22 = .ok (.aload_n 0, 1) := by decide +kernel
theorem d_Carries_shiftLow_23 : decode prog_3_method_8_code 23 = .ok (.aload_n 0, 1) := by decide +kernel
theorem d_Carries_shiftLow_24 : decode prog_3_method_8_code 24 = .ok (.getfield 25, 3) := by decide +kernel
theorem d_Carries_shiftLow_27 : decode prog_3_method_8_code 27 = .ok (.bipush 32, 2) := by decide +kernel
theorem d_Carries_shiftLow_29 : decode prog_3_method_8_code 29 = .ok (.lushr, 1) := by decide +kernel
theorem d_Carries_shiftLow_30 : decode prog_3_method_8_code 30 = .ok (.l2i, 1) := by decide +kernel
theorem d_Carries_shiftLow_31 : decode prog_3_method_8_code 31 = .ok (.invokevirtual 53, 3) := by decide +kernel
theorem d_Carries_shiftLow_34 : decode prog_3_method_8_code 34 = .ok (.aload_n 0, 1) := by decide +kernel
theorem d_Carries_shiftLow_35 : decode prog_3_method_8_code 35 = .ok (.aload_n 0, 1) := by decide +kernel
theorem d_Carries_shiftLow_36 : decode prog_3_method_8_code 36 = .ok (.getfield 25, 3) := by decide +kernel
theorem d_Carries_shiftLow_39 : decode prog_3_method_8_code 39 = .ok (.bipush 24, 2) := by decide +kernel
theorem d_Carries_shiftLow_41 : decode prog_3_method_8_code 41 = .ok (.lushr, 1) := by decide +kernel
theorem d_Carries_shiftLow_42 : decode prog_3_method_8_code 42 = .ok (.l2i, 1) := by decide +kernel
theorem d_Carries_shiftLow_43 : decode prog_3_method_8_code 43 = .ok (.sipush 255, 3) := by decide +kernel
theorem d_Carries_shiftLow_46 : decode prog_3_method_8_code 46 = .ok (.iand, 1) := by decide +kernel
theorem d_Carries_shiftLow_47 : decode prog_3_method_8_code 47 = .ok (.putfield 9, 3) := by decide +kernel
theorem d_Carries_shiftLow_50 : decode prog_3_method_8_code 50 = .ok (.goto 13, 3) := by decide +kernel
theorem d_Carries_shiftLow_53 : decode prog_3_method_8_code 53 = .ok (.aload_n 0, 1) := by decide +kernel
theorem d_Carries_shiftLow_54 : decode prog_3_method_8_code 54 = .ok (.dup, 1) := by decide +kernel
theorem d_Carries_shiftLow_55 : decode prog_3_method_8_code 55 = .ok (.getfield 18, 3) := by decide +kernel
theorem d_Carries_shiftLow_58 : decode prog_3_method_8_code 58 = .ok (.iconst 1, 1) := by decide +kernel
theorem d_Carries_shiftLow_59 : decode prog_3_method_8_code 59 = .ok (.iadd, 1) := by decide +kernel
theorem d_Carries_shiftLow_60 : decode prog_3_method_8_code 60 = .ok (.putfield 18, 3) := by decide +kernel
theorem d_Carries_shiftLow_63 : decode prog_3_method_8_code 63 = .ok (.aload_n 0, 1) := by decide +kernel
theorem d_Carries_shiftLow_64 : decode prog_3_method_8_code 64 = .ok (.aload_n 0, 1) := by decide +kernel
theorem d_Carries_shiftLow_65 : decode prog_3_method_8_code 65 = .ok (.getfield 25, 3) := by decide +kernel
theorem d_Carries_shiftLow_68 : decode prog_3_method_8_code 68 = .ok (.bipush 8, 2) := by decide +kernel
theorem d_Carries_shiftLow_70 : decode prog_3_method_8_code 70 = .ok (.lshl, 1) := by decide +kernel
theorem d_Carries_shiftLow_71 : decode prog_3_method_8_code 71 = .ok (.ldc2_w 45, 3) := by decide +kernel
theorem d_Carries_shiftLow_74 : decode prog_3_method_8_code 74 = .ok (.land, 1) := by decide +kernel
theorem d_Carries_shiftLow_75 : decode prog_3_method_8_code 75 = .ok (.putfield 25, 3) := by decide +kernel
theorem d_Carries_shiftLow_78 : decode prog_3_method_8_code 78 = .ok (.return_, 1) := by decide +kernel
theorem d_Carries_writeWaiting_0 : decode prog_3_method_9_code 0 = .ok (.aload_n 0, 1) := by decide +kernel
theorem d_Carries_writeWaiting_1 : decode prog_3_method_9_code 1 = .ok (.getfield 9, 3) := by decide +kernel
theorem d_Carries_writeWaiting_4 : decode prog_3_method_9_code 4 = .ok (.iconst (-1), 1) := by decide +kernel
theorem d_Carries_writeWaiting_5 : decode prog_3_method_9_code 5 = .ok (.if_icmp .eq 20, 3) := by decide +kernel
theorem d_Carries_writeWaiting_8 : decode prog_3_method_9_code 8 = .ok (.aload_n 0, 1) := by decide +kernel
theorem d_Carries_writeWaiting_9 : decode prog_3_method_9_code 9 = .ok (.getfield 57, 3) := by decide +kernel
theorem d_Carries_writeWaiting_12 : decode prog_3_method_9_code 12 = .ok (.aload_n 0, 1) := by decide +kernel
theorem d_Carries_writeWaiting_13 : decode prog_3_method_9_code 13 = .ok (.getfield 9, 3) := by decide +kernel
theorem d_Carries_writeWaiting_16 : decode prog_3_method_9_code 16 = .ok (.iload_n 1, 1) := by decide +kernel
theorem d_Carries_writeWaiting_17 : decode prog_3_method_9_code 17 = .ok (.iadd, 1) := by decide +kernel
theorem d_Carries_writeWaiting_18 : decode prog_3_method_9_code 18 = .ok (.sipush 255, 3) := by decide +kernel
theorem d_Carries_writeWaiting_21 : decode prog_3_method_9_code 21 = .ok (.iand, 1) := by decide +kernel
theorem d_Carries_writeWaiting_22 : decode prog_3_method_9_code 22 = .ok (.invokevirtual 61, 3) := by decide +kernel
theorem d_Carries_writeWaiting_25 : decode prog_3_method_9_code 25 = .ok (.iconst 0, 1) := by decide +kernel
theorem d_Carries_writeWaiting_26 : decode prog_3_method_9_code 26 = .ok (.istore_n 2, 1) := by decide +kernel
theorem d_Carries_writeWaiting_27 : decode prog_3_method_9_code 27 = .ok (.iload_n 2, 1) := by decide +kernel
theorem d_Carries_writeWaiting_28 : decode prog_3_method_9_code 28 = .ok (.aload_n 0, 1) := by decide +kernel
theorem d_Carries_writeWaiting_29 : decode prog_3_method_9_code 29 = .ok (.getfield 18, 3) := by decide +kernel
theorem d_Carries_writeWaiting_32 : decode prog_3_method_9_code 32 = .ok (.if_icmp .ge 25, 3) := by decide +kernel
theorem d_Carries_writeWaiting_35 : decode prog_3_method_9_code 35 = .ok (.aload_n 0, 1) := by decide +kernel
theorem d_Carries_writeWaiting_36 : decode prog_3_method_9_code 36 = .ok (.getfield 57, 3) := by decide +kernel
theorem d_Carries_writeWaiting_39 : decode prog_3_method_9_code 39 = .ok (.sipush 255, 3) := by decide +kernel
theorem d_Carries_writeWaiting_42 : decode prog_3_method_9_code 42 = .ok (.iload_n 1, 1) := by decide +kernel
theorem d_Carries_writeWaiting_43 : decode prog_3_method_9_code 43 = .ok (.iadd, 1) := by decide +kernel
theorem d_Carries_writeWaiting_44 : decode prog_3_method_9_code 44 = .ok (.sipush 255, 3) := by decide +kernel
theorem d_Carries_writeWaiting_47 : decode prog_3_method_9_code 47 = .ok (.iand, 1) := by decide +kernel
theorem d_Carries_writeWaiting_48 : decode prog_3_method_9_code 48 = .ok (.invokevirtual 61, 3) := by decide +kernel
theorem d_Carries_writeWaiting_51 : decode prog_3_method_9_code 51 = .ok (.iinc 2 1, 3) := by decide +kernel
theorem d_Carries_writeWaiting_54 : decode prog_3_method_9_code 54 = .ok (.goto (-27), 3) := by decide +kernel
theorem d_Carries_writeWaiting_57 : decode prog_3_method_9_code 57 = .ok (.aload_n 0, 1) := by decide +kernel
theorem d_Carries_writeWaiting_58 : decode prog_3_method_9_code 58 = .ok (.iconst 0, 1) := by decide +kernel
theorem d_Carries_writeWaiting_59 : decode prog_3_method_9_code 59 = .ok (.putfield 18, 3) := by decide +kernel
theorem d_Carries_writeWaiting_62 : decode prog_3_method_9_code 62 = .ok (.return_, 1) := by decide +kernel
theorem d_Row_add_0 : decode prog_9_method_5_code 0 = .ok (.aload_n 0, 1) := by decide +kernel
theorem d_Row_add_1 : decode prog_9_method_5_code 1 = .ok (.getfield 15, 3) := by decide +kernel
theorem d_Row_add_4 : decode prog_9_method_5_code 4 = .ok (.aload_n 0, 1) := by decide +kernel
theorem d_Row_add_5 : decode prog_9_method_5_code 5 = .ok (.getfield 11, 3) := by decide +kernel
theorem d_Row_add_8 : decode prog_9_method_5_code 8 = .ok (.arraylength, 1) := by decide +kernel
theorem d_Row_add_9 : decode prog_9_method_5_code 9 = .ok (.if_icmp .lt 32, 3) := by decide +kernel
theorem d_Row_add_12 : decode prog_9_method_5_code 12 = .ok (.aload_n 0, 1) := by decide +kernel
theorem d_Row_add_13 : decode prog_9_method_5_code 13 = .ok (.getfield 11, 3) := by decide +kernel
theorem d_Row_add_16 : decode prog_9_method_5_code 16 = .ok (.arraylength, 1) := by decide +kernel
theorem d_Row_add_17 : decode prog_9_method_5_code 17 = .ok (.sipush 8192, 3) := by decide +kernel
theorem d_Row_add_20 : decode prog_9_method_5_code 20 = .ok (.if_icmp .ge 21, 3) := by decide +kernel
theorem d_Row_add_23 : decode prog_9_method_5_code 23 = .ok (.aload_n 0, 1) := by decide +kernel
theorem d_Row_add_24 : decode prog_9_method_5_code 24 = .ok (.aload_n 0, 1) := by decide +kernel
theorem d_Row_add_25 : decode prog_9_method_5_code 25 = .ok (.getfield 11, 3) := by decide +kernel
theorem d_Row_add_28 : decode prog_9_method_5_code 28 = .ok (.aload_n 0, 1) := by decide +kernel
theorem d_Row_add_29 : decode prog_9_method_5_code 29 = .ok (.getfield 11, 3) := by decide +kernel
theorem d_Row_add_32 : decode prog_9_method_5_code 32 = .ok (.arraylength, 1) := by decide +kernel
theorem d_Row_add_33 : decode prog_9_method_5_code 33 = .ok (.iconst 2, 1) := by decide +kernel
theorem d_Row_add_34 : decode prog_9_method_5_code 34 = .ok (.imul, 1) := by decide +kernel
theorem d_Row_add_35 : decode prog_9_method_5_code 35 = .ok (.invokestatic 23, 3) := by decide +kernel
theorem d_Row_add_38 : decode prog_9_method_5_code 38 = .ok (.putfield 11, 3) := by decide +kernel
theorem d_Row_add_41 : decode prog_9_method_5_code 41 = .ok (.aload_n 0, 1) := by decide +kernel
theorem d_Row_add_42 : decode prog_9_method_5_code 42 = .ok (.getfield 15, 3) := by decide +kernel
theorem d_Row_add_45 : decode prog_9_method_5_code 45 = .ok (.ifCond .lt 35, 3) := by decide +kernel
theorem d_Row_add_48 : decode prog_9_method_5_code 48 = .ok (.aload_n 0, 1) := by decide +kernel
theorem d_Row_add_49 : decode prog_9_method_5_code 49 = .ok (.getfield 15, 3) := by decide +kernel
theorem d_Row_add_52 : decode prog_9_method_5_code 52 = .ok (.aload_n 0, 1) := by decide +kernel
theorem d_Row_add_53 : decode prog_9_method_5_code 53 = .ok (.getfield 11, 3) := by decide +kernel
theorem d_Row_add_56 : decode prog_9_method_5_code 56 = .ok (.arraylength, 1) := by decide +kernel
theorem d_Row_add_57 : decode prog_9_method_5_code 57 = .ok (.if_icmp .ge 23, 3) := by decide +kernel
theorem d_Row_add_60 : decode prog_9_method_5_code 60 = .ok (.aload_n 0, 1) := by decide +kernel
theorem d_Row_add_61 : decode prog_9_method_5_code 61 = .ok (.getfield 11, 3) := by decide +kernel
theorem d_Row_add_64 : decode prog_9_method_5_code 64 = .ok (.aload_n 0, 1) := by decide +kernel
theorem d_Row_add_65 : decode prog_9_method_5_code 65 = .ok (.getfield 15, 3) := by decide +kernel
theorem d_Row_add_68 : decode prog_9_method_5_code 68 = .ok (.iload_n 1, 1) := by decide +kernel
theorem d_Row_add_69 : decode prog_9_method_5_code 69 = .ok (.iastore, 1) := by decide +kernel
theorem d_Row_add_70 : decode prog_9_method_5_code 70 = .ok (.aload_n 0, 1) := by decide +kernel
theorem d_Row_add_71 : decode prog_9_method_5_code 71 = .ok (.dup, 1) := by decide +kernel
theorem d_Row_add_72 : decode prog_9_method_5_code 72 = .ok (.getfield 15, 3) := by decide +kernel
theorem d_Row_add_75 : decode prog_9_method_5_code 75 = .ok (.iconst 1, 1) := by decide +kernel
theorem d_Row_add_76 : decode prog_9_method_5_code 76 = .ok (.iadd, 1) := by decide +kernel
theorem d_Row_add_77 : decode prog_9_method_5_code 77 = .ok (.putfield 15, 3) := by decide +kernel
theorem d_Row_add_80 : decode prog_9_method_5_code 80 = .ok (.return_, 1) := by decide +kernel
theorem d_Ranged_writeSign_0 : decode prog_8_method_7_code 0 = .ok (.aload_n 0, 1) := by decide +kernel
theorem d_Ranged_writeSign_1 : decode prog_8_method_7_code 1 = .ok (.aload_n 1, 1) := by decide +kernel
theorem d_Ranged_writeSign_2 : decode prog_8_method_7_code 2 = .ok (.iload_n 2, 1) := by decide +kernel
theorem d_Ranged_writeSign_3 : decode prog_8_method_7_code 3 = .ok (.invokevirtual 35, 3) := by decide +kernel
theorem d_Ranged_writeSign_6 : decode prog_8_method_7_code 6 = .ok (.aload_n 1, 1) := by decide +kernel
theorem d_Ranged_writeSign_7 : decode prog_8_method_7_code 7 = .ok (.iload_n 2, 1) := by decide +kernel
theorem d_Ranged_writeSign_8 : decode prog_8_method_7_code 8 = .ok (.invokevirtual 39, 3) := by decide +kernel
theorem d_Ranged_writeSign_11 : decode prog_8_method_7_code 11 = .ok (.aload_n 1, 1) := by decide +kernel
theorem d_Ranged_writeSign_12 : decode prog_8_method_7_code 12 = .ok (.getfield 42, 3) := by decide +kernel
theorem d_Ranged_writeSign_15 : decode prog_8_method_7_code 15 = .ok (.invokevirtual 46, 3) := by decide +kernel
theorem d_Ranged_writeSign_18 : decode prog_8_method_7_code 18 = .ok (.aload_n 1, 1) := by decide +kernel
theorem d_Ranged_writeSign_19 : decode prog_8_method_7_code 19 = .ok (.iload_n 2, 1) := by decide +kernel
theorem d_Ranged_writeSign_20 : decode prog_8_method_7_code 20 = .ok (.invokevirtual 50, 3) := by decide +kernel
theorem d_Ranged_writeSign_23 : decode prog_8_method_7_code 23 = .ok (.return_, 1) := by decide +kernel
theorem d_Odds_below_0 : decode prog_7_method_8_code 0 = .ok (.iconst 0, 1) := by decide +kernel
theorem d_Odds_below_1 : decode prog_7_method_8_code 1 = .ok (.istore_n 2, 1) := by decide +kernel
theorem d_Odds_below_2 : decode prog_7_method_8_code 2 = .ok (.iconst 0, 1) := by decide +kernel
theorem d_Odds_below_3 : decode prog_7_method_8_code 3 = .ok (.istore_n 3, 1) := by decide +kernel
theorem d_Odds_below_4 : decode prog_7_method_8_code 4 = .ok (.iload_n 3, 1) := by decide +kernel
theorem d_Odds_below_5 : decode prog_7_method_8_code 5 = .ok (.iload_n 1, 1) := by decide +kernel
theorem d_Odds_below_6 : decode prog_7_method_8_code 6 = .ok (.if_icmp .ge 27, 3) := by decide +kernel
theorem d_Odds_below_9 : decode prog_7_method_8_code 9 = .ok (.iload_n 3, 1) := by decide +kernel
theorem d_Odds_below_10 : decode prog_7_method_8_code 10 = .ok (.aload_n 0, 1) := by decide +kernel
theorem d_Odds_below_11 : decode prog_7_method_8_code 11 = .ok (.getfield 18, 3) := by decide +kernel
theorem d_Odds_below_14 : decode prog_7_method_8_code 14 = .ok (.arraylength, 1) := by decide +kernel
theorem d_Odds_below_15 : decode prog_7_method_8_code 15 = .ok (.if_icmp .ge 18, 3) := by decide +kernel
theorem d_Odds_below_18 : decode prog_7_method_8_code 18 = .ok (.iload_n 2, 1) := by decide +kernel
theorem d_Odds_below_19 : decode prog_7_method_8_code 19 = .ok (.aload_n 0, 1) := by decide +kernel
theorem d_Odds_below_20 : decode prog_7_method_8_code 20 = .ok (.getfield 18, 3) := by decide +kernel
theorem d_Odds_below_23 : decode prog_7_method_8_code 23 = .ok (.iload_n 3, 1) := by decide +kernel
theorem d_Odds_below_24 : decode prog_7_method_8_code 24 = .ok (.iaload, 1) := by decide +kernel
theorem d_Odds_below_25 : decode prog_7_method_8_code 25 = .ok (.iadd, 1) := by decide +kernel
theorem d_Odds_below_26 : decode prog_7_method_8_code 26 = .ok (.istore_n 2, 1) := by decide +kernel
theorem d_Odds_below_27 : decode prog_7_method_8_code 27 = .ok (.iinc 3 1, 3) := by decide +kernel
theorem d_Odds_below_30 : decode prog_7_method_8_code 30 = .ok (.goto (-26), 3) := by decide +kernel
theorem d_Odds_below_33 : decode prog_7_method_8_code 33 = .ok (.iload_n 2, 1) := by decide +kernel
theorem d_Odds_below_34 : decode prog_7_method_8_code 34 = .ok (.ireturn, 1) := by decide +kernel
theorem d_Carries_writePart_0 : decode prog_3_method_3_code 0 = .ok (.iload_n 3, 1) := by decide +kernel
theorem d_Carries_writePart_1 : decode prog_3_method_3_code 1 = .ok (.ifCond .le 13, 3) := by decide +kernel
theorem d_Carries_writePart_4 : decode prog_3_method_3_code 4 = .ok (.aload_n 0, 1) := by decide +kernel
theorem d_Carries_writePart_5 : decode prog_3_method_3_code 5 = .ok (.getfield 21, 3) := by decide +kernel
theorem d_Carries_writePart_8 : decode prog_3_method_3_code 8 = .ok (.iload_n 3, 1) := by decide +kernel
theorem d_Carries_writePart_9 : decode prog_3_method_3_code 9 = .ok (.i2l, 1) := by decide +kernel
theorem d_Carries_writePart_10 : decode prog_3_method_3_code 10 = .ok (.ldiv, 1) := by decide +kernel
theorem d_Carries_writePart_11 : decode prog_3_method_3_code 11 = .ok (.goto 4, 3) := by decide +kernel
theorem d_Carries_writePart_15 : decode prog_3_method_3_code 15 = .ok (.lstore 4, 2) := by decide +kernel
theorem d_Carries_writePart_17 : decode prog_3_method_3_code 17 = .ok (.aload_n 0, 1) := by decide +kernel
theorem d_Carries_writePart_18 : decode prog_3_method_3_code 18 = .ok (.dup, 1) := by decide +kernel
theorem d_Carries_writePart_19 : decode prog_3_method_3_code 19 = .ok (.getfield 25, 3) := by decide +kernel
theorem d_Carries_writePart_22 : decode prog_3_method_3_code 22 = .ok (.lload 4, 2) := by decide +kernel
theorem d_Carries_writePart_24 : decode prog_3_method_3_code 24 = .ok (.iload_n 2, 1) := by decide +kernel
theorem d_Carries_writePart_25 : decode prog_3_method_3_code 25 = .ok (.i2l, 1) := by decide +kernel
theorem d_Carries_writePart_26 : decode prog_3_method_3_code 26 = .ok (.lmul, 1) := by decide +kernel
theorem d_Carries_writePart_27 : decode prog_3_method_3_code 27 = .ok (.ladd, 1) := by decide +kernel
theorem d_Carries_writePart_28 : decode prog_3_method_3_code 28 = .ok (.putfield 25, 3) := by decide +kernel
theorem d_Carries_writePart_31 : decode prog_3_method_3_code 31 = .ok (.aload_n 0, 1) := by decide +kernel
theorem d_Carries_writePart_32 : decode prog_3_method_3_code 32 = .ok (.lload 4, 2) := by decide +kernel
theorem d_Carries_writePart_34 : decode prog_3_method_3_code 34 = .ok (.iload_n 1, 1) := by decide +kernel
theorem d_Carries_writePart_35 : decode prog_3_method_3_code 35 = .ok (.i2l, 1) := by decide +kernel
theorem d_Carries_writePart_36 : decode prog_3_method_3_code 36 = .ok (.lmul, 1) := by decide +kernel
theorem d_Carries_writePart_37 : decode prog_3_method_3_code 37 = .ok (.putfield 21, 3) := by decide +kernel
theorem d_Carries_writePart_40 : decode prog_3_method_3_code 40 = .ok (.aload_n 0, 1) := by decide +kernel
theorem d_Carries_writePart_41 : decode prog_3_method_3_code 41 = .ok (.invokevirtual 28, 3) := by decide +kernel
theorem d_Carries_writePart_44 : decode prog_3_method_3_code 44 = .ok (.return_, 1) := by decide +kernel
theorem d_NoCarries_writePart_0 : decode prog_6_method_2_code 0 = .ok (.iload_n 3, 1) := by decide +kernel
theorem d_NoCarries_writePart_1 : decode prog_6_method_2_code 1 = .ok (.ifCond .le 13, 3) := by decide +kernel
theorem d_NoCarries_writePart_4 : decode prog_6_method_2_code 4 = .ok (.aload_n 0, 1) := by decide +kernel
theorem d_NoCarries_writePart_5 : decode prog_6_method_2_code 5 = .ok (.getfield 9, 3) := by decide +kernel
theorem d_NoCarries_writePart_8 : decode prog_6_method_2_code 8 = .ok (.iload_n 3, 1) := by decide +kernel
theorem d_NoCarries_writePart_9 : decode prog_6_method_2_code 9 = .ok (.i2l, 1) := by decide +kernel
theorem d_NoCarries_writePart_10 : decode prog_6_method_2_code 10 = .ok (.ldiv, 1) := by decide +kernel
theorem d_NoCarries_writePart_11 : decode prog_6_method_2_code 11 = .ok (.goto 4, 3) := by decide +kernel
theorem d_NoCarries_writePart_15 : decode prog_6_method_2_code 15 = .ok (.lstore 4, 2) := by decide +kernel
theorem d_NoCarries_writePart_17 : decode prog_6_method_2_code 17 = .ok (.aload_n 0, 1) := by decide +kernel
theorem d_NoCarries_writePart_18 : decode prog_6_method_2_code 18 = .ok (.aload_n 0, 1) := by decide +kernel
theorem d_NoCarries_writePart_19 : decode prog_6_method_2_code 19 = .ok (.getfield 15, 3) := by decide +kernel
theorem d_NoCarries_writePart_22 : decode prog_6_method_2_code 22 = .ok (.lload 4, 2) := by decide +kernel
theorem d_NoCarries_writePart_24 : decode prog_6_method_2_code 24 = .ok (.iload_n 2, 1) := by decide +kernel
theorem d_NoCarries_writePart_25 : decode prog_6_method_2_code 25 = .ok (.i2l, 1) := by decide +kernel
theorem d_NoCarries_writePart_26 : decode prog_6_method_2_code 26 = .ok (.lmul, 1) := by decide +kernel
theorem d_NoCarries_writePart_27 : decode prog_6_method_2_code 27 = .ok (.ladd, 1) := by decide +kernel
theorem d_NoCarries_writePart_28 : decode prog_6_method_2_code 28 = .ok (.ldc2_w 18, 3) := by decide +kernel
theorem d_NoCarries_writePart_31 : decode prog_6_method_2_code 31 = .ok (.land, 1) := by decide +kernel
theorem d_NoCarries_writePart_32 : decode prog_6_method_2_code 32 = .ok (.putfield 15, 3) := by decide +kernel
theorem d_NoCarries_writePart_35 : decode prog_6_method_2_code 35 = .ok (.aload_n 0, 1) := by decide +kernel
theorem d_NoCarries_writePart_36 : decode prog_6_method_2_code 36 = .ok (.lload 4, 2) := by decide +kernel
theorem d_NoCarries_writePart_38 : decode prog_6_method_2_code 38 = .ok (.iload_n 1, 1) := by decide +kernel
theorem d_NoCarries_writePart_39 : decode prog_6_method_2_code 39 = .ok (.i2l, 1) := by decide +kernel
theorem d_NoCarries_writePart_40 : decode prog_6_method_2_code 40 = .ok (.lmul, 1) := by decide +kernel
theorem d_NoCarries_writePart_41 : decode prog_6_method_2_code 41 = .ok (.ldc2_w 18, 3) := by decide +kernel
theorem d_NoCarries_writePart_44 : decode prog_6_method_2_code 44 = .ok (.land, 1) := by decide +kernel
theorem d_NoCarries_writePart_45 : decode prog_6_method_2_code 45 = .ok (.putfield 9, 3) := by decide +kernel
theorem d_NoCarries_writePart_48 : decode prog_6_method_2_code 48 = .ok (.iconst 0, 1) := by decide +kernel
theorem d_NoCarries_writePart_49 : decode prog_6_method_2_code 49 = .ok (.istore 6, 2) := by decide +kernel
theorem d_NoCarries_writePart_51 : decode prog_6_method_2_code 51 = .ok (.iload 6, 2) := by decide +kernel
theorem d_NoCarries_writePart_53 : decode prog_6_method_2_code 53 = .ok (.bipush 8, 2) := by decide +kernel
theorem d_NoCarries_writePart_55 : decode prog_6_method_2_code 55 = .ok (.if_icmp .ge 42, 3) := by decide +kernel
theorem d_NoCarries_writePart_58 : decode prog_6_method_2_code 58 = .ok (.aload_n 0, 1) := by decide +kernel
theorem d_NoCarries_writePart_59 : decode prog_6_method_2_code 59 = .ok (.getfield 15, 3) := by decide +kernel
theorem d_NoCarries_writePart_62 : decode prog_6_method_2_code 62 = .ok (.aload_n 0, 1) := by decide +kernel
theorem d_NoCarries_writePart_63 : decode prog_6_method_2_code 63 = .ok (.getfield 9, 3) := by decide +kernel
theorem d_NoCarries_writePart_66 : decode prog_6_method_2_code 66 = .ok (.invokestatic 20, 3) := by decide +kernel
theorem d_NoCarries_writePart_69 : decode prog_6_method_2_code 69 = .ok (.ifCond .eq 28, 3) := by decide +kernel
theorem d_NoCarries_writePart_72 : decode prog_6_method_2_code 72 = .ok (.aload_n 0, 1) := by decide +kernel
theorem d_NoCarries_writePart_73 : decode prog_6_method_2_code 73 = .ok (.aload_n 0, 1) := by decide +kernel
theorem d_NoCarries_writePart_74 : decode prog_6_method_2_code 74 = .ok (.getfield 15, 3) := by decide +kernel
theorem d_NoCarries_writePart_77 : decode prog_6_method_2_code 77 = .ok (.aload_n 0, 1) := by decide +kernel
theorem d_NoCarries_writePart_78 : decode prog_6_method_2_code 78 = .ok (.getfield 9, 3) := by decide +kernel
theorem d_NoCarries_writePart_81 : decode prog_6_method_2_code 81 = .ok (.invokestatic 24, 3) := by decide +kernel
theorem d_NoCarries_writePart_84 : decode prog_6_method_2_code 84 = .ok (.putfield 9, 3) := by decide +kernel
theorem d_NoCarries_writePart_87 : decode prog_6_method_2_code 87 = .ok (.aload_n 0, 1) := by decide +kernel
theorem d_NoCarries_writePart_88 : decode prog_6_method_2_code 88 = .ok (.invokevirtual 28, 3) := by decide +kernel
theorem d_NoCarries_writePart_91 : decode prog_6_method_2_code 91 = .ok (.iinc 6 1, 3) := by decide +kernel
theorem d_NoCarries_writePart_94 : decode prog_6_method_2_code 94 = .ok (.goto (-43), 3) := by decide +kernel
theorem d_NoCarries_writePart_97 : decode prog_6_method_2_code 97 = .ok (.return_, 1) := by decide +kernel
theorem d_NoCarries_mustMove_0 : decode prog_6_method_7_code 0 = .ok (.lload_n 0, 1) := by decide +kernel
theorem d_NoCarries_mustMove_1 : decode prog_6_method_7_code 1 = .ok (.lload_n 2, 1) := by decide +kernel
theorem d_NoCarries_mustMove_2 : decode prog_6_method_7_code 2 = .ok (.invokestatic 54, 3) := by decide +kernel
theorem d_NoCarries_mustMove_5 : decode prog_6_method_7_code 5 = .ok (.ifCond .ne 11, 3) := by decide +kernel
theorem d_NoCarries_mustMove_8 : decode prog_6_method_7_code 8 = .ok (.lload_n 2, 1) := by decide +kernel
theorem d_NoCarries_mustMove_9 : decode prog_6_method_7_code 9 = .ok (.ldc2_w 57, 3) := by decide +kernel
theorem d_NoCarries_mustMove_12 : decode prog_6_method_7_code 12 = .ok (.lcmp, 1) := by decide +kernel
theorem d_NoCarries_mustMove_13 : decode prog_6_method_7_code 13 = .ok (.ifCond .ge 7, 3) := by decide +kernel
theorem d_NoCarries_mustMove_16 : decode prog_6_method_7_code 16 = .ok (.iconst 1, 1) := by decide +kernel
theorem d_NoCarries_mustMove_17 : decode prog_6_method_7_code 17 = .ok (.goto 4, 3) := by decide +kernel
theorem d_NoCarries_mustMove_20 : decode prog_6_method_7_code 20 = .ok (.iconst 0, 1) := by decide +kernel
theorem d_NoCarries_mustMove_21 : decode prog_6_method_7_code 21 = .ok (.ireturn, 1) := by decide +kernel
theorem d_NoCarries_sameTop_0 : decode prog_6_method_6_code 0 = .ok (.lload_n 0, 1) := by decide +kernel
theorem d_NoCarries_sameTop_1 : decode prog_6_method_6_code 1 = .ok (.bipush 24, 2) := by decide +kernel
theorem d_NoCarries_sameTop_3 : decode prog_6_method_6_code 3 = .ok (.lushr, 1) := by decide +kernel
theorem d_NoCarries_sameTop_4 : decode prog_6_method_6_code 4 = .ok (.lload_n 0, 1) := by decide +kernel
theorem d_NoCarries_sameTop_5 : decode prog_6_method_6_code 5 = .ok (.lload_n 2, 1) := by decide +kernel
theorem d_NoCarries_sameTop_6 : decode prog_6_method_6_code 6 = .ok (.ladd, 1) := by decide +kernel
theorem d_NoCarries_sameTop_7 : decode prog_6_method_6_code 7 = .ok (.ldc2_w 18, 3) := by decide +kernel
theorem d_NoCarries_sameTop_10 : decode prog_6_method_6_code 10 = .ok (.land, 1) := by decide +kernel
theorem d_NoCarries_sameTop_11 : decode prog_6_method_6_code 11 = .ok (.bipush 24, 2) := by decide +kernel
theorem d_NoCarries_sameTop_13 : decode prog_6_method_6_code 13 = .ok (.lushr, 1) := by decide +kernel
theorem d_NoCarries_sameTop_14 : decode prog_6_method_6_code 14 = .ok (.lcmp, 1) := by decide +kernel
theorem d_NoCarries_sameTop_15 : decode prog_6_method_6_code 15 = .ok (.ifCond .ne 7, 3) := by decide +kernel
theorem d_NoCarries_sameTop_18 : decode prog_6_method_6_code 18 = .ok (.iconst 1, 1) := by decide +kernel
theorem d_NoCarries_sameTop_19 : decode prog_6_method_6_code 19 = .ok (.goto 4, 3) := by decide +kernel
theorem d_NoCarries_sameTop_22 : decode prog_6_method_6_code 22 = .ok (.iconst 0, 1) := by decide +kernel
theorem d_NoCarries_sameTop_23 : decode prog_6_method_6_code 23 = .ok (.ireturn, 1) := by decide +kernel
theorem d_NoCarries_moved_0 : decode prog_6_method_8_code 0 = .ok (.lload_n 0, 1) := by decide +kernel
theorem d_NoCarries_moved_1 : decode prog_6_method_8_code 1 = .ok (.lload_n 2, 1) := by decide +kernel
theorem d_NoCarries_moved_2 : decode prog_6_method_8_code 2 = .ok (.invokestatic 54, 3) := by decide +kernel
theorem d_NoCarries_moved_5 : decode prog_6_method_8_code 5 = .ok (.ifCond .eq 7, 3) := by decide +kernel
theorem d_NoCarries_moved_8 : decode prog_6_method_8_code 8 = .ok (.lload_n 2, 1) := by decide +kernel
theorem d_NoCarries_moved_9 : decode prog_6_method_8_code 9 = .ok (.goto 9, 3) := by decide +kernel
theorem d_NoCarries_moved_12 : decode prog_6_method_8_code 12 = .ok (.lload_n 0, 1) := by decide +kernel
theorem d_NoCarries_moved_13 : decode prog_6_method_8_code 13 = .ok (.lneg, 1) := by decide +kernel
theorem d_NoCarries_moved_14 : decode prog_6_method_8_code 14 = .ok (.ldc2_w 59, 3) := by decide +kernel
theorem d_NoCarries_moved_17 : decode prog_6_method_8_code 17 = .ok (.land, 1) := by decide +kernel
theorem d_NoCarries_moved_18 : decode prog_6_method_8_code 18 = .ok (.lstore 4, 2) := by decide +kernel
theorem d_NoCarries_moved_20 : decode prog_6_method_8_code 20 = .ok (.lload 4, 2) := by decide +kernel
theorem d_NoCarries_moved_22 : decode prog_6_method_8_code 22 = .ok (.bipush 8, 2) := by decide +kernel
theorem d_NoCarries_moved_24 : decode prog_6_method_8_code 24 = .ok (.lshl, 1) := by decide +kernel
theorem d_NoCarries_moved_25 : decode prog_6_method_8_code 25 = .ok (.ldc2_w 18, 3) := by decide +kernel
theorem d_NoCarries_moved_28 : decode prog_6_method_8_code 28 = .ok (.land, 1) := by decide +kernel
theorem d_NoCarries_moved_29 : decode prog_6_method_8_code 29 = .ok (.lreturn, 1) := by decide +kernel
theorem d_NoCarries_writeTop_0 : decode prog_6_method_5_code 0 = .ok (.aload_n 0, 1) := by decide +kernel
theorem d_NoCarries_writeTop_1 : decode prog_6_method_5_code 1 = .ok (.getfield 44, 3) := by decide +kernel
theorem d_NoCarries_writeTop_4 : decode prog_6_method_5_code 4 = .ok (.aload_n 0, 1) := by decide +kernel
theorem d_NoCarries_writeTop_5 : decode prog_6_method_5_code 5 = .ok (.getfield 15, 3) := by decide +kernel
theorem d_NoCarries_writeTop_8 : decode prog_6_method_5_code 8 = .ok (.bipush 24, 2) := by decide +kernel
theorem d_NoCarries_writeTop_10 : decode prog_6_method_5_code 10 = .ok (.lushr, 1) := by decide +kernel
theorem d_NoCarries_writeTop_11 : decode prog_6_method_5_code 11 = .ok (.l2i, 1) := by decide +kernel
theorem d_NoCarries_writeTop_12 : decode prog_6_method_5_code 12 = .ok (.invokevirtual 48, 3) := by decide +kernel
theorem d_NoCarries_writeTop_15 : decode prog_6_method_5_code 15 = .ok (.aload_n 0, 1) := by decide +kernel
theorem d_NoCarries_writeTop_16 : decode prog_6_method_5_code 16 = .ok (.aload_n 0, 1) := by decide +kernel
theorem d_NoCarries_writeTop_17 : decode prog_6_method_5_code 17 = .ok (.getfield 15, 3) := by decide +kernel
theorem d_NoCarries_writeTop_20 : decode prog_6_method_5_code 20 = .ok (.bipush 8, 2) := by decide +kernel
theorem d_NoCarries_writeTop_22 : decode prog_6_method_5_code 22 = .ok (.lshl, 1) := by decide +kernel
theorem d_NoCarries_writeTop_23 : decode prog_6_method_5_code 23 = .ok (.ldc2_w 18, 3) := by decide +kernel
theorem d_NoCarries_writeTop_26 : decode prog_6_method_5_code 26 = .ok (.land, 1) := by decide +kernel
theorem d_NoCarries_writeTop_27 : decode prog_6_method_5_code 27 = .ok (.putfield 15, 3) := by decide +kernel
theorem d_NoCarries_writeTop_30 : decode prog_6_method_5_code 30 = .ok (.return_, 1) := by decide +kernel
theorem d_Odds_learn_0 : decode prog_7_method_7_code 0 = .ok (.aload_n 0, 1) := by decide +kernel
theorem d_Odds_learn_1 : decode prog_7_method_7_code 1 = .ok (.iload_n 1, 1) := by decide +kernel
theorem d_Odds_learn_2 : decode prog_7_method_7_code 2 = .ok (.bipush 32, 2) := by decide +kernel
theorem d_Odds_learn_4 : decode prog_7_method_7_code 4 = .ok (.invokevirtual 45, 3) := by decide +kernel
theorem d_Odds_learn_7 : decode prog_7_method_7_code 7 = .ok (.aload_n 0, 1) := by decide +kernel
theorem d_Odds_learn_8 : decode prog_7_method_7_code 8 = .ok (.getfield 29, 3) := by decide +kernel
theorem d_Odds_learn_11 : decode prog_7_method_7_code 11 = .ok (.sipush 8192, 3) := by decide +kernel
theorem d_Odds_learn_14 : decode prog_7_method_7_code 14 = .ok (.if_icmp .le 7, 3) := by decide +kernel
theorem d_Odds_learn_17 : decode prog_7_method_7_code 17 = .ok (.aload_n 0, 1) := by decide +kernel
theorem d_Odds_learn_18 : decode prog_7_method_7_code 18 = .ok (.invokevirtual 42, 3) := by decide +kernel
theorem d_Odds_learn_21 : decode prog_7_method_7_code 21 = .ok (.return_, 1) := by decide +kernel
theorem d_Stacked_writeSign_0 : decode prog_11_method_7_code 0 = .ok (.aload_n 0, 1) := by decide +kernel
theorem d_Stacked_writeSign_1 : decode prog_11_method_7_code 1 = .ok (.aload_n 1, 1) := by decide +kernel
theorem d_Stacked_writeSign_2 : decode prog_11_method_7_code 2 = .ok (.iload_n 2, 1) := by decide +kernel
theorem d_Stacked_writeSign_3 : decode prog_11_method_7_code 3 = .ok (.iconst 0, 1) := by decide +kernel
theorem d_Stacked_writeSign_4 : decode prog_11_method_7_code 4 = .ok (.invokevirtual 28, 3) := by decide +kernel
theorem d_Stacked_writeSign_7 : decode prog_11_method_7_code 7 = .ok (.return_, 1) := by decide +kernel
theorem d_Stacked_keep_0 : decode prog_11_method_11_code 0 = .ok (.aload_n 0, 1) := by decide +kernel
theorem d_Stacked_keep_1 : decode prog_11_method_11_code 1 = .ok (.getfield 24, 3) := by decide +kernel
theorem d_Stacked_keep_4 : decode prog_11_method_11_code 4 = .ok (.ifCond .lt 53, 3) := by decide +kernel
theorem d_Stacked_keep_7 : decode prog_11_method_11_code 7 = .ok (.aload_n 0, 1) := by decide +kernel
theorem d_Stacked_keep_8 : decode prog_11_method_11_code 8 = .ok (.getfield 24, 3) := by decide +kernel
theorem d_Stacked_keep_11 : decode prog_11_method_11_code 11 = .ok (.sipush 600, 3) := by decide +kernel
theorem d_Stacked_keep_14 : decode prog_11_method_11_code 14 = .ok (.if_icmp .ge 43, 3) := by decide +kernel
theorem d_Stacked_keep_17 : decode prog_11_method_11_code 17 = .ok (.aload_n 0, 1) := by decide +kernel
theorem d_Stacked_keep_18 : decode prog_11_method_11_code 18 = .ok (.getfield 11, 3) := by decide +kernel
theorem d_Stacked_keep_21 : decode prog_11_method_11_code 21 = .ok (.aload_n 0, 1) := by decide +kernel
theorem d_Stacked_keep_22 : decode prog_11_method_11_code 22 = .ok (.getfield 24, 3) := by decide +kernel
theorem d_Stacked_keep_25 : decode prog_11_method_11_code 25 = .ok (.aload_n 1, 1) := by decide +kernel
theorem d_Stacked_keep_26 : decode prog_11_method_11_code 26 = .ok (.aastore, 1) := by decide +kernel
theorem d_Stacked_keep_27 : decode prog_11_method_11_code 27 = .ok (.aload_n 0, 1) := by decide +kernel
theorem d_Stacked_keep_28 : decode prog_11_method_11_code 28 = .ok (.getfield 17, 3) := by decide +kernel
theorem d_Stacked_keep_31 : decode prog_11_method_11_code 31 = .ok (.aload_n 0, 1) := by decide +kernel
theorem d_Stacked_keep_32 : decode prog_11_method_11_code 32 = .ok (.getfield 24, 3) := by decide +kernel
theorem d_Stacked_keep_35 : decode prog_11_method_11_code 35 = .ok (.iload_n 2, 1) := by decide +kernel
theorem d_Stacked_keep_36 : decode prog_11_method_11_code 36 = .ok (.iastore, 1) := by decide +kernel
theorem d_Stacked_keep_37 : decode prog_11_method_11_code 37 = .ok (.aload_n 0, 1) := by decide +kernel
theorem d_Stacked_keep_38 : decode prog_11_method_11_code 38 = .ok (.getfield 21, 3) := by decide +kernel
theorem d_Stacked_keep_41 : decode prog_11_method_11_code 41 = .ok (.aload_n 0, 1) := by decide +kernel
theorem d_Stacked_keep_42 : decode prog_11_method_11_code 42 = .ok (.getfield 24, 3) := by decide +kernel
theorem d_Stacked_keep_45 : decode prog_11_method_11_code 45 = .ok (.iload_n 3, 1) := by decide +kernel
theorem d_Stacked_keep_46 : decode prog_11_method_11_code 46 = .ok (.iastore, 1) := by decide +kernel
theorem d_Stacked_keep_47 : decode prog_11_method_11_code 47 = .ok (.aload_n 0, 1) := by decide +kernel
theorem d_Stacked_keep_48 : decode prog_11_method_11_code 48 = .ok (.dup, 1) := by decide +kernel
theorem d_Stacked_keep_49 : decode prog_11_method_11_code 49 = .ok (.getfield 24, 3) := by decide +kernel
theorem d_Stacked_keep_52 : decode prog_11_method_11_code 52 = .ok (.iconst 1, 1) := by decide +kernel
theorem d_Stacked_keep_53 : decode prog_11_method_11_code 53 = .ok (.iadd, 1) := by decide +kernel
theorem d_Stacked_keep_54 : decode prog_11_method_11_code 54 = .ok (.putfield 24, 3) := by decide +kernel
theorem d_Stacked_keep_57 : decode prog_11_method_11_code 57 = .ok (.return_, 1) := by decide +kernel
theorem d_RC_bits_0 : decode prog_1_method_5_code 0 = .ok (.aload_n 0, 1) := by decide +kernel
theorem d_RC_bits_1 : decode prog_1_method_5_code 1 = .ok (.getfield 23, 3) := by decide +kernel
theorem d_RC_bits_4 : decode prog_1_method_5_code 4 = .ok (.iload_n 2, 1) := by decide +kernel
theorem d_RC_bits_5 : decode prog_1_method_5_code 5 = .ok (.invokevirtual 81, 3) := by decide +kernel
theorem d_RC_bits_8 : decode prog_1_method_5_code 8 = .ok (.ifCond .eq 14, 3) := by decide +kernel
theorem d_RC_bits_11 : decode prog_1_method_5_code 11 = .ok (.iload_n 1, 1) := by decide +kernel
theorem d_RC_bits_12 : decode prog_1_method_5_code 12 = .ok (.ifCond .lt 10, 3) := by decide +kernel
theorem d_RC_bits_15 : decode prog_1_method_5_code 15 = .ok (.iload_n 1, 1) := by decide +kernel
theorem d_RC_bits_16 : decode prog_1_method_5_code 16 = .ok (.iconst 1, 1) := by decide +kernel
theorem d_RC_bits_17 : decode prog_1_method_5_code 17 = .ok (.iload_n 2, 1) := by decide +kernel
theorem d_RC_bits_18 : decode prog_1_method_5_code 18 = .ok (.ishl, 1) := by decide +kernel
theorem d_RC_bits_19 : decode prog_1_method_5_code 19 = .ok (.if_icmp .lt 6, 3) := by decide +kernel
theorem d_RC_bits_22 : decode prog_1_method_5_code 22 = .ok (.bipush (-2), 2) := by decide +kernel
theorem d_RC_bits_24 : decode prog_1_method_5_code 24 = .ok (.ireturn, 1) := by decide +kernel
theorem d_RC_bits_25 : decode prog_1_method_5_code 25 = .ok (.aload_n 0, 1) := by decide +kernel
theorem d_RC_bits_26 : decode prog_1_method_5_code 26 = .ok (.getfield 66, 3) := by decide +kernel
theorem d_RC_bits_29 : decode prog_1_method_5_code 29 = .ok (.ifCond .eq 6, 3) := by decide +kernel
theorem d_RC_bits_32 : decode prog_1_method_5_code 32 = .ok (.bipush (-3), 2) := by decide +kernel
theorem d_RC_bits_34 : decode prog_1_method_5_code 34 = .ok (.ireturn, 1) := by decide +kernel
theorem d_RC_bits_35 : decode prog_1_method_5_code 35 = .ok (.aload_n 0, 1) := by decide +kernel
theorem d_RC_bits_36 : decode prog_1_method_5_code 36 = .ok (.getfield 63, 3) := by decide +kernel
theorem d_RC_bits_39 : decode prog_1_method_5_code 39 = .ok (.sipush 600, 3) := by decide +kernel
theorem d_RC_bits_42 : decode prog_1_method_5_code 42 = .ok (.if_icmp .lt 6, 3) := by decide +kernel
theorem d_RC_bits_45 : decode prog_1_method_5_code 45 = .ok (.bipush (-4), 2) := by decide +kernel
theorem d_RC_bits_47 : decode prog_1_method_5_code 47 = .ok (.ireturn, 1) := by decide +kernel
theorem d_RC_bits_48 : decode prog_1_method_5_code 48 = .ok (.aload_n 0, 1) := by decide +kernel
theorem d_RC_bits_49 : decode prog_1_method_5_code 49 = .ok (.getfield 23, 3) := by decide +kernel
theorem d_RC_bits_52 : decode prog_1_method_5_code 52 = .ok (.iload_n 1, 1) := by decide +kernel
theorem d_RC_bits_53 : decode prog_1_method_5_code 53 = .ok (.iload_n 2, 1) := by decide +kernel
theorem d_RC_bits_54 : decode prog_1_method_5_code 54 = .ok (.invokevirtual 84, 3) := by decide +kernel
theorem d_RC_bits_57 : decode prog_1_method_5_code 57 = .ok (.aload_n 0, 1) := by decide +kernel
theorem d_RC_bits_58 : decode prog_1_method_5_code 58 = .ok (.dup, 1) := by decide +kernel
theorem d_RC_bits_59 : decode prog_1_method_5_code 59 = .ok (.getfield 63, 3) := by decide +kernel
theorem d_RC_bits_62 : decode prog_1_method_5_code 62 = .ok (.iconst 1, 1) := by decide +kernel
theorem d_RC_bits_63 : decode prog_1_method_5_code 63 = .ok (.iadd, 1) := by decide +kernel
theorem d_RC_bits_64 : decode prog_1_method_5_code 64 = .ok (.putfield 63, 3) := by decide +kernel
theorem d_RC_bits_67 : decode prog_1_method_5_code 67 = .ok (.aload_n 0, 1) := by decide +kernel
theorem d_RC_bits_68 : decode prog_1_method_5_code 68 = .ok (.getfield 63, 3) := by decide +kernel
theorem d_RC_bits_71 : decode prog_1_method_5_code 71 = .ok (.ireturn, 1) := by decide +kernel
theorem d_Table_hasWidth_0 : decode prog_12_method_4_code 0 = .ok (.iload_n 1, 1) := by decide +kernel
theorem d_Table_hasWidth_1 : decode prog_12_method_4_code 1 = .ok (.iconst 1, 1) := by decide +kernel
theorem d_Table_hasWidth_2 : decode prog_12_method_4_code 2 = .ok (.if_icmp .lt 13, 3) := by decide +kernel
theorem d_Table_hasWidth_5 : decode prog_12_method_4_code 5 = .ok (.iload_n 1, 1) := by decide +kernel
theorem d_Table_hasWidth_6 : decode prog_12_method_4_code 6 = .ok (.bipush 9, 2) := by decide +kernel
theorem d_Table_hasWidth_8 : decode prog_12_method_4_code 8 = .ok (.if_icmp .gt 7, 3) := by decide +kernel
theorem d_Table_hasWidth_11 : decode prog_12_method_4_code 11 = .ok (.iconst 1, 1) := by decide +kernel
theorem d_Table_hasWidth_12 : decode prog_12_method_4_code 12 = .ok (.goto 4, 3) := by decide +kernel
theorem d_Table_hasWidth_15 : decode prog_12_method_4_code 15 = .ok (.iconst 0, 1) := by decide +kernel
theorem d_Table_hasWidth_16 : decode prog_12_method_4_code 16 = .ok (.ireturn, 1) := by decide +kernel
theorem d_Coder_hasWidth_0 : decode prog_4_method_13_code 0 = .ok (.iload_n 1, 1) := by decide +kernel
theorem d_Coder_hasWidth_1 : decode prog_4_method_13_code 1 = .ok (.iconst 1, 1) := by decide +kernel
theorem d_Coder_hasWidth_2 : decode prog_4_method_13_code 2 = .ok (.if_icmp .lt 13, 3) := by decide +kernel
theorem d_Coder_hasWidth_5 : decode prog_4_method_13_code 5 = .ok (.iload_n 1, 1) := by decide +kernel
theorem d_Coder_hasWidth_6 : decode prog_4_method_13_code 6 = .ok (.bipush 12, 2) := by decide +kernel
theorem d_Coder_hasWidth_8 : decode prog_4_method_13_code 8 = .ok (.if_icmp .gt 7, 3) := by decide +kernel
theorem d_Coder_hasWidth_11 : decode prog_4_method_13_code 11 = .ok (.iconst 1, 1) := by decide +kernel
theorem d_Coder_hasWidth_12 : decode prog_4_method_13_code 12 = .ok (.goto 4, 3) := by decide +kernel
theorem d_Coder_hasWidth_15 : decode prog_4_method_13_code 15 = .ok (.iconst 0, 1) := by decide +kernel
theorem d_Coder_hasWidth_16 : decode prog_4_method_13_code 16 = .ok (.ireturn, 1) := by decide +kernel
theorem d_Bits_writeValue_0 : decode prog_2_method_6_code 0 = .ok (.iload_n 2, 1) := by decide +kernel
theorem d_Bits_writeValue_1 : decode prog_2_method_6_code 1 = .ok (.iconst 1, 1) := by decide +kernel
theorem d_Bits_writeValue_2 : decode prog_2_method_6_code 2 = .ok (.isub, 1) := by decide +kernel
theorem d_Bits_writeValue_3 : decode prog_2_method_6_code 3 = .ok (.istore_n 3, 1) := by decide +kernel
theorem d_Bits_writeValue_4 : decode prog_2_method_6_code 4 = .ok (.iload_n 3, 1) := by decide +kernel
theorem d_Bits_writeValue_5 : decode prog_2_method_6_code 5 = .ok (.ifCond .lt 45, 3) := by decide +kernel
theorem d_Bits_writeValue_8 : decode prog_2_method_6_code 8 = .ok (.aload_n 0, 1) := by decide +kernel
theorem d_Bits_writeValue_9 : decode prog_2_method_6_code 9 = .ok (.dup, 1) := by decide +kernel
theorem d_Bits_writeValue_10 : decode prog_2_method_6_code 10 = .ok (.getfield 35, 3) := by decide +kernel
theorem d_Bits_writeValue_13 : decode prog_2_method_6_code 13 = .ok (.iconst 1, 1) := by decide +kernel
theorem d_Bits_writeValue_14 : decode prog_2_method_6_code 14 = .ok (.lushr, 1) := by decide +kernel
theorem d_Bits_writeValue_15 : decode prog_2_method_6_code 15 = .ok (.putfield 35, 3) := by decide +kernel
theorem d_Bits_writeValue_18 : decode prog_2_method_6_code 18 = .ok (.iload_n 1, 1) := by decide +kernel
theorem d_Bits_writeValue_19 : decode prog_2_method_6_code 19 = .ok (.iload_n 3, 1) := by decide +kernel
theorem d_Bits_writeValue_20 : decode prog_2_method_6_code 20 = .ok (.iushr, 1) := by decide +kernel
theorem d_Bits_writeValue_21 : decode prog_2_method_6_code 21 = .ok (.iconst 1, 1) := by decide +kernel
theorem d_Bits_writeValue_22 : decode prog_2_method_6_code 22 = .ok (.iand, 1) := by decide +kernel
theorem d_Bits_writeValue_23 : decode prog_2_method_6_code 23 = .ok (.iconst 1, 1) := by decide +kernel
theorem d_Bits_writeValue_24 : decode prog_2_method_6_code 24 = .ok (.if_icmp .ne 16, 3) := by decide +kernel
theorem d_Bits_writeValue_27 : decode prog_2_method_6_code 27 = .ok (.aload_n 0, 1) := by decide +kernel
theorem d_Bits_writeValue_28 : decode prog_2_method_6_code 28 = .ok (.dup, 1) := by decide +kernel
theorem d_Bits_writeValue_29 : decode prog_2_method_6_code 29 = .ok (.getfield 39, 3) := by decide +kernel
theorem d_Bits_writeValue_32 : decode prog_2_method_6_code 32 = .ok (.aload_n 0, 1) := by decide +kernel
theorem d_Bits_writeValue_33 : decode prog_2_method_6_code 33 = .ok (.getfield 35, 3) := by decide +kernel
theorem d_Bits_writeValue_36 : decode prog_2_method_6_code 36 = .ok (.ladd, 1) := by decide +kernel
theorem d_Bits_writeValue_37 : decode prog_2_method_6_code 37 = .ok (.putfield 39, 3) := by decide +kernel
theorem d_Bits_writeValue_40 : decode prog_2_method_6_code 40 = .ok (.aload_n 0, 1) := by decide +kernel
theorem d_Bits_writeValue_41 : decode prog_2_method_6_code 41 = .ok (.invokevirtual 42, 3) := by decide +kernel
theorem d_Bits_writeValue_44 : decode prog_2_method_6_code 44 = .ok (.iinc 3 (-1), 3) := by decide +kernel
theorem d_Bits_writeValue_47 : decode prog_2_method_6_code 47 = .ok (.goto (-43), 3) := by decide +kernel
theorem d_Bits_writeValue_50 : decode prog_2_method_6_code 50 = .ok (.return_, 1) := by decide +kernel
theorem d_Ranged_writeValue_0 : decode prog_8_method_8_code 0 = .ok (.aload_n 0, 1) := by decide +kernel
theorem d_Ranged_writeValue_1 : decode prog_8_method_8_code 1 = .ok (.iconst 1, 1) := by decide +kernel
theorem d_Ranged_writeValue_2 : decode prog_8_method_8_code 2 = .ok (.iload_n 1, 1) := by decide +kernel
theorem d_Ranged_writeValue_3 : decode prog_8_method_8_code 3 = .ok (.iconst 1, 1) := by decide +kernel
theorem d_Ranged_writeValue_4 : decode prog_8_method_8_code 4 = .ok (.iload_n 2, 1) := by decide +kernel
theorem d_Ranged_writeValue_5 : decode prog_8_method_8_code 5 = .ok (.ishl, 1) := by decide +kernel
theorem d_Ranged_writeValue_6 : decode prog_8_method_8_code 6 = .ok (.invokevirtual 46, 3) := by decide +kernel
theorem d_Ranged_writeValue_9 : decode prog_8_method_8_code 9 = .ok (.return_, 1) := by decide +kernel
theorem d_Stacked_writeValue_0 : decode prog_11_method_8_code 0 = .ok (.aload_n 0, 1) := by decide +kernel
theorem d_Stacked_writeValue_1 : decode prog_11_method_8_code 1 = .ok (.aconst_null, 1) := by decide +kernel
theorem d_Stacked_writeValue_2 : decode prog_11_method_8_code 2 = .ok (.iload_n 1, 1) := by decide +kernel
theorem d_Stacked_writeValue_3 : decode prog_11_method_8_code 3 = .ok (.iload_n 2, 1) := by decide +kernel
theorem d_Stacked_writeValue_4 : decode prog_11_method_8_code 4 = .ok (.invokevirtual 28, 3) := by decide +kernel
theorem d_Stacked_writeValue_7 : decode prog_11_method_8_code 7 = .ok (.return_, 1) := by decide +kernel
theorem d_RC_end_0 : decode prog_1_method_6_code 0 = .ok (.aload_n 0, 1) := by decide +kernel
theorem d_RC_end_1 : decode prog_1_method_6_code 1 = .ok (.getfield 66, 3) := by decide +kernel
theorem d_RC_end_4 : decode prog_1_method_6_code 4 = .ok (.ifCond .eq 6, 3) := by decide +kernel
theorem d_RC_end_7 : decode prog_1_method_6_code 7 = .ok (.bipush (-3), 2) := by decide +kernel
theorem d_RC_end_9 : decode prog_1_method_6_code 9 = .ok (.ireturn, 1) := by decide +kernel
theorem d_RC_end_10 : decode prog_1_method_6_code 10 = .ok (.aload_n 0, 1) := by decide +kernel
theorem d_RC_end_11 : decode prog_1_method_6_code 11 = .ok (.getfield 23, 3) := by decide +kernel
theorem d_RC_end_14 : decode prog_1_method_6_code 14 = .ok (.invokevirtual 88, 3) := by decide +kernel
theorem d_RC_end_17 : decode prog_1_method_6_code 17 = .ok (.aload_n 0, 1) := by decide +kernel
theorem d_RC_end_18 : decode prog_1_method_6_code 18 = .ok (.iconst 1, 1) := by decide +kernel
theorem d_RC_end_19 : decode prog_1_method_6_code 19 = .ok (.putfield 66, 3) := by decide +kernel
theorem d_RC_end_22 : decode prog_1_method_6_code 22 = .ok (.aload_n 0, 1) := by decide +kernel
theorem d_RC_end_23 : decode prog_1_method_6_code 23 = .ok (.getfield 23, 3) := by decide +kernel
theorem d_RC_end_26 : decode prog_1_method_6_code 26 = .ok (.getfield 91, 3) := by decide +kernel
theorem d_RC_end_29 : decode prog_1_method_6_code 29 = .ok (.getfield 95, 3) := by decide +kernel
theorem d_RC_end_32 : decode prog_1_method_6_code 32 = .ok (.ireturn, 1) := by decide +kernel
theorem d_Ranged_closeMessage_0 : decode prog_8_method_9_code 0 = .ok (.aload_n 0, 1) := by decide +kernel
theorem d_Ranged_closeMessage_1 : decode prog_8_method_9_code 1 = .ok (.invokevirtual 54, 3) := by decide +kernel
theorem d_Ranged_closeMessage_4 : decode prog_8_method_9_code 4 = .ok (.aload_n 0, 1) := by decide +kernel
theorem d_Ranged_closeMessage_5 : decode prog_8_method_9_code 5 = .ok (.getfield 57, 3) := by decide +kernel
theorem d_Ranged_closeMessage_8 : decode prog_8_method_9_code 8 = .ok (.astore_n 1, 1) := by decide +kernel
theorem d_Ranged_closeMessage_9 : decode prog_8_method_9_code 9 = .ok (.aload_n 0, 1) := by decide +kernel
theorem d_Ranged_closeMessage_10 : decode prog_8_method_9_code 10 = .ok (.aload_n 0, 1) := by decide +kernel
theorem d_Ranged_closeMessage_11 : decode prog_8_method_9_code 11 = .ok (.getfield 23, 3) := by decide +kernel
theorem d_Ranged_closeMessage_14 : decode prog_8_method_9_code 14 = .ok (.putfield 57, 3) := by decide +kernel
theorem d_Ranged_closeMessage_17 : decode prog_8_method_9_code 17 = .ok (.aload_n 0, 1) := by decide +kernel
theorem d_Ranged_closeMessage_18 : decode prog_8_method_9_code 18 = .ok (.aload_n 1, 1) := by decide +kernel
theorem d_Ranged_closeMessage_19 : decode prog_8_method_9_code 19 = .ok (.putfield 23, 3) := by decide +kernel
theorem d_Ranged_closeMessage_22 : decode prog_8_method_9_code 22 = .ok (.return_, 1) := by decide +kernel
theorem d_Carries_flush_0 : decode prog_3_method_5_code 0 = .ok (.iconst 0, 1) := by decide +kernel
theorem d_Carries_flush_1 : decode prog_3_method_5_code 1 = .ok (.istore_n 1, 1) := by decide +kernel
theorem d_Carries_flush_2 : decode prog_3_method_5_code 2 = .ok (.iload_n 1, 1) := by decide +kernel
theorem d_Carries_flush_3 : decode prog_3_method_5_code 3 = .ok (.iconst 5, 1) := by decide +kernel
theorem d_Carries_flush_4 : decode prog_3_method_5_code 4 = .ok (.if_icmp .ge 13, 3) := by decide +kernel
theorem d_Carries_flush_7 : decode prog_3_method_5_code 7 = .ok (.aload_n 0, 1) := by decide +kernel
theorem d_Carries_flush_8 : decode prog_3_method_5_code 8 = .ok (.invokevirtual 40, 3) := by decide +kernel
theorem d_Carries_flush_11 : decode prog_3_method_5_code 11 = .ok (.iinc 1 1, 3) := by decide +kernel
theorem d_Carries_flush_14 : decode prog_3_method_5_code 14 = .ok (.goto (-12), 3) := by decide +kernel
theorem d_Carries_flush_17 : decode prog_3_method_5_code 17 = .ok (.return_, 1) := by decide +kernel
theorem d_NoCarries_flush_0 : decode prog_6_method_4_code 0 = .ok (.iconst 0, 1) := by decide +kernel
theorem d_NoCarries_flush_1 : decode prog_6_method_4_code 1 = .ok (.istore_n 1, 1) := by decide +kernel
theorem d_NoCarries_flush_2 : decode prog_6_method_4_code 2 = .ok (.iload_n 1, 1) := by decide +kernel
theorem d_NoCarries_flush_3 : decode prog_6_method_4_code 3 = .ok (.iconst 4, 1) := by decide +kernel
theorem d_NoCarries_flush_4 : decode prog_6_method_4_code 4 = .ok (.if_icmp .ge 13, 3) := by decide +kernel
theorem d_NoCarries_flush_7 : decode prog_6_method_4_code 7 = .ok (.aload_n 0, 1) := by decide +kernel
theorem d_NoCarries_flush_8 : decode prog_6_method_4_code 8 = .ok (.invokevirtual 28, 3) := by decide +kernel
theorem d_NoCarries_flush_11 : decode prog_6_method_4_code 11 = .ok (.iinc 1 1, 3) := by decide +kernel
theorem d_NoCarries_flush_14 : decode prog_6_method_4_code 14 = .ok (.goto (-12), 3) := by decide +kernel
theorem d_NoCarries_flush_17 : decode prog_6_method_4_code 17 = .ok (.return_, 1) := by decide +kernel
theorem d_Stacked_closeMessage_0 : decode prog_11_method_9_code 0 = .ok (.aload_n 0, 1) := by decide +kernel
theorem d_Stacked_closeMessage_1 : decode prog_11_method_9_code 1 = .ok (.getfield 32, 3) := by decide +kernel
theorem d_Stacked_closeMessage_4 : decode prog_11_method_9_code 4 = .ok (.invokevirtual 36, 3) := by decide +kernel
theorem d_Stacked_closeMessage_7 : decode prog_11_method_9_code 7 = .ok (.aload_n 0, 1) := by decide +kernel
theorem d_Stacked_closeMessage_8 : decode prog_11_method_9_code 8 = .ok (.invokevirtual 41, 3) := by decide +kernel
theorem d_Stacked_closeMessage_11 : decode prog_11_method_9_code 11 = .ok (.aload_n 0, 1) := by decide +kernel
theorem d_Stacked_closeMessage_12 : decode prog_11_method_9_code 12 = .ok (.getfield 24, 3) := by decide +kernel
theorem d_Stacked_closeMessage_15 : decode prog_11_method_9_code 15 = .ok (.sipush 600, 3) := by decide +kernel
theorem d_Stacked_closeMessage_18 : decode prog_11_method_9_code 18 = .ok (.invokestatic 44, 3) := by decide +kernel
theorem d_Stacked_closeMessage_21 : decode prog_11_method_9_code 21 = .ok (.iconst 1, 1) := by decide +kernel
theorem d_Stacked_closeMessage_22 : decode prog_11_method_9_code 22 = .ok (.isub, 1) := by decide +kernel
theorem d_Stacked_closeMessage_23 : decode prog_11_method_9_code 23 = .ok (.istore_n 1, 1) := by decide +kernel
theorem d_Stacked_closeMessage_24 : decode prog_11_method_9_code 24 = .ok (.iload_n 1, 1) := by decide +kernel
theorem d_Stacked_closeMessage_25 : decode prog_11_method_9_code 25 = .ok (.ifCond .lt 53, 3) := by decide +kernel
theorem d_Stacked_closeMessage_28 : decode prog_11_method_9_code 28 = .ok (.aload_n 0, 1) := by decide +kernel
theorem d_Stacked_closeMessage_29 : decode prog_11_method_9_code 29 = .ok (.getfield 11, 3) := by decide +kernel
theorem d_Stacked_closeMessage_32 : decode prog_11_method_9_code 32 = .ok (.iload_n 1, 1) := by decide +kernel
theorem d_Stacked_closeMessage_33 : decode prog_11_method_9_code 33 = .ok (.aaload, 1) := by decide +kernel
theorem d_Stacked_closeMessage_34 : decode prog_11_method_9_code 34 = .ok (.ifnonnull 22, 3) := by decide +kernel
theorem d_Stacked_closeMessage_37 : decode prog_11_method_9_code 37 = .ok (.aload_n 0, 1) := by decide +kernel
theorem d_Stacked_closeMessage_38 : decode prog_11_method_9_code 38 = .ok (.aload_n 0, 1) := by decide +kernel
theorem d_Stacked_closeMessage_39 : decode prog_11_method_9_code 39 = .ok (.getfield 17, 3) := by decide +kernel
theorem d_Stacked_closeMessage_42 : decode prog_11_method_9_code 42 = .ok (.iload_n 1, 1) := by decide +kernel
theorem d_Stacked_closeMessage_43 : decode prog_11_method_9_code 43 = .ok (.iaload, 1) := by decide +kernel
theorem d_Stacked_closeMessage_44 : decode prog_11_method_9_code 44 = .ok (.aload_n 0, 1) := by decide +kernel
theorem d_Stacked_closeMessage_45 : decode prog_11_method_9_code 45 = .ok (.getfield 21, 3) := by decide +kernel
theorem d_Stacked_closeMessage_48 : decode prog_11_method_9_code 48 = .ok (.iload_n 1, 1) := by decide +kernel
theorem d_Stacked_closeMessage_49 : decode prog_11_method_9_code 49 = .ok (.iaload, 1) := by decide +kernel
theorem d_Stacked_closeMessage_50 : decode prog_11_method_9_code 50 = .ok (.invokevirtual 50, 3) := by decide +kernel
theorem d_Stacked_closeMessage_53 : decode prog_11_method_9_code 53 = .ok (.goto 19, 3) := by decide +kernel
theorem d_Stacked_closeMessage_56 : decode prog_11_method_9_code 56 = .ok (.aload_n 0, 1) := by decide +kernel
theorem d_Stacked_closeMessage_57 : decode prog_11_method_9_code 57 = .ok (.aload_n 0, 1) := by decide +kernel
theorem d_Stacked_closeMessage_58 : decode prog_11_method_9_code 58 = .ok (.getfield 11, 3) := by decide +kernel
theorem d_Stacked_closeMessage_61 : decode prog_11_method_9_code 61 = .ok (.iload_n 1, 1) := by decide +kernel
theorem d_Stacked_closeMessage_62 : decode prog_11_method_9_code 62 = .ok (.aaload, 1) := by decide +kernel
theorem d_Stacked_closeMessage_63 : decode prog_11_method_9_code 63 = .ok (.aload_n 0, 1) := by decide +kernel
theorem d_Stacked_closeMessage_64 : decode prog_11_method_9_code 64 = .ok (.getfield 17, 3) := by decide +kernel
theorem d_Stacked_closeMessage_67 : decode prog_11_method_9_code 67 = .ok (.iload_n 1, 1) := by decide +kernel
theorem d_Stacked_closeMessage_68 : decode prog_11_method_9_code 68 = .ok (.iaload, 1) := by decide +kernel
theorem d_Stacked_closeMessage_69 : decode prog_11_method_9_code 69 = .ok (.invokevirtual 54, 3) := by decide +kernel
theorem d_Stacked_closeMessage_72 : decode prog_11_method_9_code 72 = .ok (.iinc 1 (-1), 3) := by decide +kernel
theorem d_Stacked_closeMessage_75 : decode prog_11_method_9_code 75 = .ok (.goto (-51), 3) := by decide +kernel
theorem d_Stacked_closeMessage_78 : decode prog_11_method_9_code 78 = .ok (.aload_n 0, 1) := by decide +kernel
theorem d_Stacked_closeMessage_79 : decode prog_11_method_9_code 79 = .ok (.invokevirtual 58, 3) := by decide +kernel
theorem d_Stacked_closeMessage_82 : decode prog_11_method_9_code 82 = .ok (.return_, 1) := by decide +kernel
theorem d_Row_clear_0 : decode prog_9_method_6_code 0 = .ok (.aload_n 0, 1) := by decide +kernel
theorem d_Row_clear_1 : decode prog_9_method_6_code 1 = .ok (.iconst 0, 1) := by decide +kernel
theorem d_Row_clear_2 : decode prog_9_method_6_code 2 = .ok (.putfield 15, 3) := by decide +kernel
theorem d_Row_clear_5 : decode prog_9_method_6_code 5 = .ok (.return_, 1) := by decide +kernel
theorem d_Stack_openStack_0 : decode prog_10_method_3_code 0 = .ok (.aload_n 0, 1) := by decide +kernel
theorem d_Stack_openStack_1 : decode prog_10_method_3_code 1 = .ok (.ldc2_w 17, 3) := by decide +kernel
theorem d_Stack_openStack_4 : decode prog_10_method_3_code 4 = .ok (.putfield 19, 3) := by decide +kernel
theorem d_Stack_openStack_7 : decode prog_10_method_3_code 7 = .ok (.return_, 1) := by decide +kernel
theorem d_Table_openStack_0 : decode prog_12_method_6_code 0 = .ok (.aload_n 0, 1) := by decide +kernel
theorem d_Table_openStack_1 : decode prog_12_method_6_code 1 = .ok (.ldc2_w 27, 3) := by decide +kernel
theorem d_Table_openStack_4 : decode prog_12_method_6_code 4 = .ok (.putfield 29, 3) := by decide +kernel
theorem d_Table_openStack_7 : decode prog_12_method_6_code 7 = .ok (.return_, 1) := by decide +kernel
theorem d_Stack_stackValue_0 : decode prog_10_method_5_code 0 = .ok (.sipush 4096, 3) := by decide +kernel
theorem d_Stack_stackValue_3 : decode prog_10_method_5_code 3 = .ok (.iload_n 2, 1) := by decide +kernel
theorem d_Stack_stackValue_4 : decode prog_10_method_5_code 4 = .ok (.ishr, 1) := by decide +kernel
theorem d_Stack_stackValue_5 : decode prog_10_method_5_code 5 = .ok (.istore_n 3, 1) := by decide +kernel
theorem d_Stack_stackValue_6 : decode prog_10_method_5_code 6 = .ok (.aload_n 0, 1) := by decide +kernel
theorem d_Stack_stackValue_7 : decode prog_10_method_5_code 7 = .ok (.iload_n 3, 1) := by decide +kernel
theorem d_Stack_stackValue_8 : decode prog_10_method_5_code 8 = .ok (.iload_n 3, 1) := by decide +kernel
theorem d_Stack_stackValue_9 : decode prog_10_method_5_code 9 = .ok (.iload_n 1, 1) := by decide +kernel
theorem d_Stack_stackValue_10 : decode prog_10_method_5_code 10 = .ok (.imul, 1) := by decide +kernel
theorem d_Stack_stackValue_11 : decode prog_10_method_5_code 11 = .ok (.invokevirtual 30, 3) := by decide +kernel
theorem d_Stack_stackValue_14 : decode prog_10_method_5_code 14 = .ok (.return_, 1) := by decide +kernel
theorem d_Stack_stackPart_0 : decode prog_10_method_10_code 0 = .ok (.iload_n 1, 1) := by decide +kernel
theorem d_Stack_stackPart_1 : decode prog_10_method_10_code 1 = .ok (.ifCond .gt 4, 3) := by decide +kernel
theorem d_Stack_stackPart_5 : decode prog_10_method_10_code 5 = .ok (.iconst 0, 1) := by decide +kernel
theorem d_Stack_stackPart_6 : decode prog_10_method_10_code 6 = .ok (.istore_n 3, 1) := by decide +kernel
theorem d_Stack_stackPart_7 : decode prog_10_method_10_code 7 = .ok (.iload_n 3, 1) := by decide +kernel
theorem d_Stack_stackPart_8 : decode prog_10_method_10_code 8 = .ok (.bipush 8, 2) := by decide +kernel
theorem d_Stack_stackPart_10 : decode prog_10_method_10_code 10 = .ok (.if_icmp .ge 26, 3) := by decide +kernel
theorem d_Stack_stackPart_13 : decode prog_10_method_10_code 13 = .ok (.aload_n 0, 1) := by decide +kernel
theorem d_Stack_stackPart_14 : decode prog_10_method_10_code 14 = .ok (.getfield 19, 3) := by decide +kernel
theorem d_Stack_stackPart_17 : decode prog_10_method_10_code 17 = .ok (.iload_n 1, 1) := by decide +kernel
theorem d_Stack_stackPart_18 : decode prog_10_method_10_code 18 = .ok (.i2l, 1) := by decide +kernel
theorem d_Stack_stackPart_19 : decode prog_10_method_10_code 19 = .ok (.bipush 19, 2) := by decide +kernel
theorem d_Stack_stackPart_21 : decode prog_10_method_10_code 21 = .ok (.lshl, 1) := by decide +kernel
theorem d_Stack_stackPart_22 : decode prog_10_method_10_code 22 = .ok (.lcmp, 1) := by decide +kernel
theorem d_Stack_stackPart_23 : decode prog_10_method_10_code 23 = .ok (.ifCond .lt 13, 3) := by decide +kernel
theorem d_Stack_stackPart_26 : decode prog_10_method_10_code 26 = .ok (.aload_n 0, 1) := by decide +kernel
theorem d_Stack_stackPart_27 : decode prog_10_method_10_code 27 = .ok (.invokevirtual 34, 3) := by decide +kernel
theorem d_Stack_stackPart_30 : decode prog_10_method_10_code 30 = .ok (.iinc 3 1, 3) := by decide +kernel
theorem d_Stack_stackPart_33 : decode prog_10_method_10_code 33 = .ok (.goto (-26), 3) := by decide +kernel
theorem d_Stack_stackPart_36 : decode prog_10_method_10_code 36 = .ok (.aload_n 0, 1) := by decide +kernel
theorem d_Stack_stackPart_37 : decode prog_10_method_10_code 37 = .ok (.ldc2_w 65, 3) := by decide +kernel
theorem d_Stack_stackPart_40 : decode prog_10_method_10_code 40 = .ok (.aload_n 0, 1) := by decide +kernel
theorem d_Stack_stackPart_41 : decode prog_10_method_10_code 41 = .ok (.getfield 19, 3) := by decide +kernel
theorem d_Stack_stackPart_44 : decode prog_10_method_10_code 44 = .ok (.iload_n 1, 1) := by decide +kernel
theorem d_Stack_stackPart_45 : decode prog_10_method_10_code 45 = .ok (.i2l, 1) := by decide +kernel
theorem d_Stack_stackPart_46 : decode prog_10_method_10_code 46 = .ok (.ldiv, 1) := by decide +kernel
theorem d_Stack_stackPart_47 : decode prog_10_method_10_code 47 = .ok (.lmul, 1) := by decide +kernel
theorem d_Stack_stackPart_48 : decode prog_10_method_10_code 48 = .ok (.aload_n 0, 1) := by decide +kernel
theorem d_Stack_stackPart_49 : decode prog_10_method_10_code 49 = .ok (.getfield 19, 3) := by decide +kernel
theorem d_Stack_stackPart_52 : decode prog_10_method_10_code 52 = .ok (.iload_n 1, 1) := by decide +kernel
theorem d_Stack_stackPart_53 : decode prog_10_method_10_code 53 = .ok (.i2l, 1) := by decide +kernel
theorem d_Stack_stackPart_54 : decode prog_10_method_10_code 54 = .ok (.lrem, 1) := by decide +kernel
theorem d_Stack_stackPart_55 : decode prog_10_method_10_code 55 = .ok (.ladd, 1) := by decide +kernel
theorem d_Stack_stackPart_56 : decode prog_10_method_10_code 56 = .ok (.iload_n 2, 1) := by decide +kernel
theorem d_Stack_stackPart_57 : decode prog_10_method_10_code 57 = .ok (.i2l, 1) := by decide +kernel
theorem d_Stack_stackPart_58 : decode prog_10_method_10_code 58 = .ok (.ladd, 1) := by decide +kernel
theorem d_Stack_stackPart_59 : decode prog_10_method_10_code 59 = .ok (.putfield 19, 3) := by decide +kernel
theorem d_Stack_stackPart_62 : decode prog_10_method_10_code 62 = .ok (.return_, 1) := by decide +kernel
theorem d_Stack_writeLowest_0 : decode prog_10_method_11_code 0 = .ok (.aload_n 0, 1) := by decide +kernel
theorem d_Stack_writeLowest_1 : decode prog_10_method_11_code 1 = .ok (.getfield 41, 3) := by decide +kernel
theorem d_Stack_writeLowest_4 : decode prog_10_method_11_code 4 = .ok (.aload_n 0, 1) := by decide +kernel
theorem d_Stack_writeLowest_5 : decode prog_10_method_11_code 5 = .ok (.getfield 19, 3) := by decide +kernel
theorem d_Stack_writeLowest_8 : decode prog_10_method_11_code 8 = .ok (.ldc2_w 67, 3) := by decide +kernel
theorem d_Stack_writeLowest_11 : decode prog_10_method_11_code 11 = .ok (.land, 1) := by decide +kernel
theorem d_Stack_writeLowest_12 : decode prog_10_method_11_code 12 = .ok (.l2i, 1) := by decide +kernel
theorem d_Stack_writeLowest_13 : decode prog_10_method_11_code 13 = .ok (.invokevirtual 69, 3) := by decide +kernel
theorem d_Stack_writeLowest_16 : decode prog_10_method_11_code 16 = .ok (.aload_n 0, 1) := by decide +kernel
theorem d_Stack_writeLowest_17 : decode prog_10_method_11_code 17 = .ok (.dup, 1) := by decide +kernel
theorem d_Stack_writeLowest_18 : decode prog_10_method_11_code 18 = .ok (.getfield 19, 3) := by decide +kernel
theorem d_Stack_writeLowest_21 : decode prog_10_method_11_code 21 = .ok (.bipush 8, 2) := by decide +kernel
theorem d_Stack_writeLowest_23 : decode prog_10_method_11_code 23 = .ok (.lushr, 1) := by decide +kernel
theorem d_Stack_writeLowest_24 : decode prog_10_method_11_code 24 = .ok (.putfield 19, 3) := by decide +kernel
theorem d_Stack_writeLowest_27 : decode prog_10_method_11_code 27 = .ok (.return_, 1) := by decide +kernel
theorem d_Table_stackValue_0 : decode prog_12_method_8_code 0 = .ok (.iconst 0, 1) := by decide +kernel
theorem d_Table_stackValue_1 : decode prog_12_method_8_code 1 = .ok (.istore_n 3, 1) := by decide +kernel
theorem d_Table_stackValue_2 : decode prog_12_method_8_code 2 = .ok (.iload_n 3, 1) := by decide +kernel
theorem d_Table_stackValue_3 : decode prog_12_method_8_code 3 = .ok (.iload_n 2, 1) := by decide +kernel
theorem d_Table_stackValue_4 : decode prog_12_method_8_code 4 = .ok (.if_icmp .ge 21, 3) := by decide +kernel
theorem d_Table_stackValue_7 : decode prog_12_method_8_code 7 = .ok (.aload_n 0, 1) := by decide +kernel
theorem d_Table_stackValue_8 : decode prog_12_method_8_code 8 = .ok (.getfield 39, 3) := by decide +kernel
theorem d_Table_stackValue_11 : decode prog_12_method_8_code 11 = .ok (.iload_n 1, 1) := by decide +kernel
theorem d_Table_stackValue_12 : decode prog_12_method_8_code 12 = .ok (.iload_n 3, 1) := by decide +kernel
theorem d_Table_stackValue_13 : decode prog_12_method_8_code 13 = .ok (.iushr, 1) := by decide +kernel
theorem d_Table_stackValue_14 : decode prog_12_method_8_code 14 = .ok (.iconst 1, 1) := by decide +kernel
theorem d_Table_stackValue_15 : decode prog_12_method_8_code 15 = .ok (.iand, 1) := by decide +kernel
theorem d_Table_stackValue_16 : decode prog_12_method_8_code 16 = .ok (.invokevirtual 43, 3) := by decide +kernel
theorem d_Table_stackValue_19 : decode prog_12_method_8_code 19 = .ok (.iinc 3 1, 3) := by decide +kernel
theorem d_Table_stackValue_22 : decode prog_12_method_8_code 22 = .ok (.goto (-20), 3) := by decide +kernel
theorem d_Table_stackValue_25 : decode prog_12_method_8_code 25 = .ok (.return_, 1) := by decide +kernel
theorem d_Stack_stackSign_0 : decode prog_10_method_4_code 0 = .ok (.aload_n 0, 1) := by decide +kernel
theorem d_Stack_stackSign_1 : decode prog_10_method_4_code 1 = .ok (.aload_n 1, 1) := by decide +kernel
theorem d_Stack_stackSign_2 : decode prog_10_method_4_code 2 = .ok (.iload_n 2, 1) := by decide +kernel
theorem d_Stack_stackSign_3 : decode prog_10_method_4_code 3 = .ok (.invokevirtual 23, 3) := by decide +kernel
theorem d_Stack_stackSign_6 : decode prog_10_method_4_code 6 = .ok (.aload_n 1, 1) := by decide +kernel
theorem d_Stack_stackSign_7 : decode prog_10_method_4_code 7 = .ok (.iload_n 2, 1) := by decide +kernel
theorem d_Stack_stackSign_8 : decode prog_10_method_4_code 8 = .ok (.invokevirtual 27, 3) := by decide +kernel
theorem d_Stack_stackSign_11 : decode prog_10_method_4_code 11 = .ok (.invokevirtual 30, 3) := by decide +kernel
theorem d_Stack_stackSign_14 : decode prog_10_method_4_code 14 = .ok (.return_, 1) := by decide +kernel
theorem d_Table_stackSign_0 : decode prog_12_method_7_code 0 = .ok (.aload_n 1, 1) := by decide +kernel
theorem d_Table_stackSign_1 : decode prog_12_method_7_code 1 = .ok (.iload_n 2, 1) := by decide +kernel
theorem d_Table_stackSign_2 : decode prog_12_method_7_code 2 = .ok (.invokevirtual 33, 3) := by decide +kernel
theorem d_Table_stackSign_5 : decode prog_12_method_7_code 5 = .ok (.istore_n 3, 1) := by decide +kernel
theorem d_Table_stackSign_6 : decode prog_12_method_7_code 6 = .ok (.iconst 0, 1) := by decide +kernel
theorem d_Table_stackSign_7 : decode prog_12_method_7_code 7 = .ok (.istore 4, 2) := by decide +kernel
theorem d_Table_stackSign_9 : decode prog_12_method_7_code 9 = .ok (.iload 4, 2) := by decide +kernel
theorem d_Table_stackSign_11 : decode prog_12_method_7_code 11 = .ok (.bipush 9, 2) := by decide +kernel
theorem d_Table_stackSign_13 : decode prog_12_method_7_code 13 = .ok (.if_icmp .gt 47, 3) := by decide +kernel
theorem d_Table_stackSign_16 : decode prog_12_method_7_code 16 = .ok (.aload_n 0, 1) := by decide +kernel
theorem d_Table_stackSign_17 : decode prog_12_method_7_code 17 = .ok (.getfield 29, 3) := by decide +kernel
theorem d_Table_stackSign_20 : decode prog_12_method_7_code 20 = .ok (.ldc2_w 37, 3) := by decide +kernel
theorem d_Table_stackSign_23 : decode prog_12_method_7_code 23 = .ok (.iload_n 3, 1) := by decide +kernel
theorem d_Table_stackSign_24 : decode prog_12_method_7_code 24 = .ok (.i2l, 1) := by decide +kernel
theorem d_Table_stackSign_25 : decode prog_12_method_7_code 25 = .ok (.lmul, 1) := by decide +kernel
theorem d_Table_stackSign_26 : decode prog_12_method_7_code 26 = .ok (.lcmp, 1) := by decide +kernel
theorem d_Table_stackSign_27 : decode prog_12_method_7_code 27 = .ok (.ifCond .lt 33, 3) := by decide +kernel
theorem d_Table_stackSign_30 : decode prog_12_method_7_code 30 = .ok (.aload_n 0, 1) := by decide +kernel
theorem d_Table_stackSign_31 : decode prog_12_method_7_code 31 = .ok (.getfield 39, 3) := by decide +kernel
theorem d_Table_stackSign_34 : decode prog_12_method_7_code 34 = .ok (.aload_n 0, 1) := by decide +kernel
theorem d_Table_stackSign_35 : decode prog_12_method_7_code 35 = .ok (.getfield 29, 3) := by decide +kernel
theorem d_Table_stackSign_38 : decode prog_12_method_7_code 38 = .ok (.lconst 1, 1) := by decide +kernel
theorem d_Table_stackSign_39 : decode prog_12_method_7_code 39 = .ok (.land, 1) := by decide +kernel
theorem d_Table_stackSign_40 : decode prog_12_method_7_code 40 = .ok (.l2i, 1) := by decide +kernel
theorem d_Table_stackSign_41 : decode prog_12_method_7_code 41 = .ok (.invokevirtual 43, 3) := by decide +kernel
theorem d_Table_stackSign_44 : decode prog_12_method_7_code 44 = .ok (.aload_n 0, 1) := by decide +kernel
theorem d_Table_stackSign_45 : decode prog_12_method_7_code 45 = .ok (.dup, 1) := by decide +kernel
theorem d_Table_stackSign_46 : decode prog_12_method_7_code 46 = .ok (.getfield 29, 3) := by decide +kernel
theorem d_Table_stackSign_49 : decode prog_12_method_7_code 49 = .ok (.iconst 1, 1) := by decide +kernel
theorem d_Table_stackSign_50 : decode prog_12_method_7_code 50 = .ok (.lushr, 1) := by decide +kernel
theorem d_Table_stackSign_51 : decode prog_12_method_7_code 51 = .ok (.putfield 29, 3) := by decide +kernel
theorem d_Table_stackSign_54 : decode prog_12_method_7_code 54 = .ok (.iinc 4 1, 3) := by decide +kernel
theorem d_Table_stackSign_57 : decode prog_12_method_7_code 57 = .ok (.goto (-48), 3) := by decide +kernel
theorem d_Table_stackSign_60 : decode prog_12_method_7_code 60 = .ok (.aload_n 0, 1) := by decide +kernel
theorem d_Table_stackSign_61 : decode prog_12_method_7_code 61 = .ok (.sipush 512, 3) := by decide +kernel
theorem d_Table_stackSign_64 : decode prog_12_method_7_code 64 = .ok (.aload_n 1, 1) := by decide +kernel
theorem d_Table_stackSign_65 : decode prog_12_method_7_code 65 = .ok (.iload_n 2, 1) := by decide +kernel
theorem d_Table_stackSign_66 : decode prog_12_method_7_code 66 = .ok (.aload_n 0, 1) := by decide +kernel
theorem d_Table_stackSign_67 : decode prog_12_method_7_code 67 = .ok (.getfield 29, 3) := by decide +kernel
theorem d_Table_stackSign_70 : decode prog_12_method_7_code 70 = .ok (.l2i, 1) := by decide +kernel
theorem d_Table_stackSign_71 : decode prog_12_method_7_code 71 = .ok (.iload_n 3, 1) := by decide +kernel
theorem d_Table_stackSign_72 : decode prog_12_method_7_code 72 = .ok (.isub, 1) := by decide +kernel
theorem d_Table_stackSign_73 : decode prog_12_method_7_code 73 = .ok (.invokevirtual 49, 3) := by decide +kernel
theorem d_Table_stackSign_76 : decode prog_12_method_7_code 76 = .ok (.iadd, 1) := by decide +kernel
theorem d_Table_stackSign_77 : decode prog_12_method_7_code 77 = .ok (.i2l, 1) := by decide +kernel
theorem d_Table_stackSign_78 : decode prog_12_method_7_code 78 = .ok (.putfield 29, 3) := by decide +kernel
theorem d_Table_stackSign_81 : decode prog_12_method_7_code 81 = .ok (.return_, 1) := by decide +kernel
theorem d_Odds_placeOf_0 : decode prog_7_method_14_code 0 = .ok (.iload_n 2, 1) := by decide +kernel
theorem d_Odds_placeOf_1 : decode prog_7_method_14_code 1 = .ok (.istore_n 3, 1) := by decide +kernel
theorem d_Odds_placeOf_2 : decode prog_7_method_14_code 2 = .ok (.iconst 0, 1) := by decide +kernel
theorem d_Odds_placeOf_3 : decode prog_7_method_14_code 3 = .ok (.istore 4, 2) := by decide +kernel
theorem d_Odds_placeOf_5 : decode prog_7_method_14_code 5 = .ok (.iload 4, 2) := by decide +kernel
theorem d_Odds_placeOf_7 : decode prog_7_method_14_code 7 = .ok (.aload_n 0, 1) := by decide +kernel
theorem d_Odds_placeOf_8 : decode prog_7_method_14_code 8 = .ok (.getfield 22, 3) := by decide +kernel
theorem d_Odds_placeOf_11 : decode prog_7_method_14_code 11 = .ok (.arraylength, 1) := by decide +kernel
theorem d_Odds_placeOf_12 : decode prog_7_method_14_code 12 = .ok (.if_icmp .ge 30, 3) := by decide +kernel
theorem d_Odds_placeOf_15 : decode prog_7_method_14_code 15 = .ok (.aload_n 0, 1) := by decide +kernel
theorem d_Odds_placeOf_16 : decode prog_7_method_14_code 16 = .ok (.getfield 22, 3) := by decide +kernel
theorem d_Odds_placeOf_19 : decode prog_7_method_14_code 19 = .ok (.iload 4, 2) := by decide +kernel
theorem d_Odds_placeOf_21 : decode prog_7_method_14_code 21 = .ok (.iaload, 1) := by decide +kernel
theorem d_Odds_placeOf_22 : decode prog_7_method_14_code 22 = .ok (.iload_n 1, 1) := by decide +kernel
theorem d_Odds_placeOf_23 : decode prog_7_method_14_code 23 = .ok (.if_icmp .ne 13, 3) := by decide +kernel
theorem d_Odds_placeOf_26 : decode prog_7_method_14_code 26 = .ok (.iload_n 3, 1) := by decide +kernel
theorem d_Odds_placeOf_27 : decode prog_7_method_14_code 27 = .ok (.ifCond .ne 6, 3) := by decide +kernel
theorem d_Odds_placeOf_30 : decode prog_7_method_14_code 30 = .ok (.iload 4, 2) := by decide +kernel
theorem d_Odds_placeOf_32 : decode prog_7_method_14_code 32 = .ok (.ireturn, 1) := by decide +kernel
theorem d_Odds_placeOf_33 : decode prog_7_method_14_code 33 = .ok (.iinc 3 (-1), 3) := by decide +kernel
theorem d_Odds_placeOf_36 : decode prog_7_method_14_code 36 = .ok (.iinc 4 1, 3) := by decide +kernel
theorem d_Odds_placeOf_39 : decode prog_7_method_14_code 39 = .ok (.goto (-34), 3) := by decide +kernel
theorem d_Stack_closeStack_0 : decode prog_10_method_6_code 0 = .ok (.iconst 0, 1) := by decide +kernel
theorem d_Stack_closeStack_1 : decode prog_10_method_6_code 1 = .ok (.istore_n 1, 1) := by decide +kernel
theorem d_Stack_closeStack_2 : decode prog_10_method_6_code 2 = .ok (.iload_n 1, 1) := by decide +kernel
theorem d_Stack_closeStack_3 : decode prog_10_method_6_code 3 = .ok (.iconst 4, 1) := by decide +kernel
theorem d_Stack_closeStack_4 : decode prog_10_method_6_code 4 = .ok (.if_icmp .ge 13, 3) := by decide +kernel
theorem d_Stack_closeStack_7 : decode prog_10_method_6_code 7 = .ok (.aload_n 0, 1) := by decide +kernel
theorem d_Stack_closeStack_8 : decode prog_10_method_6_code 8 = .ok (.invokevirtual 34, 3) := by decide +kernel
theorem d_Stack_closeStack_11 : decode prog_10_method_6_code 11 = .ok (.iinc 1 1, 3) := by decide +kernel
theorem d_Stack_closeStack_14 : decode prog_10_method_6_code 14 = .ok (.goto (-12), 3) := by decide +kernel
theorem d_Stack_closeStack_17 : decode prog_10_method_6_code 17 = .ok (.aload_n 0, 1) := by decide +kernel
theorem d_Stack_closeStack_18 : decode prog_10_method_6_code 18 = .ok (.getfield 37, 3) := by decide +kernel
theorem d_Stack_closeStack_21 : decode prog_10_method_6_code 21 = .ok (.aload_n 0, 1) := by decide +kernel
theorem d_Stack_closeStack_22 : decode prog_10_method_6_code 22 = .ok (.getfield 41, 3) := by decide +kernel
theorem d_Stack_closeStack_25 : decode prog_10_method_6_code 25 = .ok (.invokevirtual 44, 3) := by decide +kernel
theorem d_Stack_closeStack_28 : decode prog_10_method_6_code 28 = .ok (.return_, 1) := by decide +kernel
theorem d_Row_becomeReverseOf_0 : decode prog_9_method_7_code 0 = .ok (.aload_n 0, 1) := by decide +kernel
theorem d_Row_becomeReverseOf_1 : decode prog_9_method_7_code 1 = .ok (.invokevirtual 29, 3) := by decide +kernel
theorem d_Row_becomeReverseOf_4 : decode prog_9_method_7_code 4 = .ok (.aload_n 1, 1) := by decide +kernel
theorem d_Row_becomeReverseOf_5 : decode prog_9_method_7_code 5 = .ok (.getfield 15, 3) := by decide +kernel
theorem d_Row_becomeReverseOf_8 : decode prog_9_method_7_code 8 = .ok (.iconst 1, 1) := by decide +kernel
theorem d_Row_becomeReverseOf_9 : decode prog_9_method_7_code 9 = .ok (.isub, 1) := by decide +kernel
theorem d_Row_becomeReverseOf_10 : decode prog_9_method_7_code 10 = .ok (.istore_n 2, 1) := by decide +kernel
theorem d_Row_becomeReverseOf_11 : decode prog_9_method_7_code 11 = .ok (.iload_n 2, 1) := by decide +kernel
theorem d_Row_becomeReverseOf_12 : decode prog_9_method_7_code 12 = .ok (.ifCond .lt 18, 3) := by decide +kernel
theorem d_Row_becomeReverseOf_15 : decode prog_9_method_7_code 15 = .ok (.aload_n 0, 1) := by decide +kernel
theorem d_Row_becomeReverseOf_16 : decode prog_9_method_7_code 16 = .ok (.aload_n 1, 1) := by decide +kernel
theorem d_Row_becomeReverseOf_17 : decode prog_9_method_7_code 17 = .ok (.iload_n 2, 1) := by decide +kernel
theorem d_Row_becomeReverseOf_18 : decode prog_9_method_7_code 18 = .ok (.invokevirtual 32, 3) := by decide +kernel
theorem d_Row_becomeReverseOf_21 : decode prog_9_method_7_code 21 = .ok (.invokevirtual 36, 3) := by decide +kernel
theorem d_Row_becomeReverseOf_24 : decode prog_9_method_7_code 24 = .ok (.iinc 2 (-1), 3) := by decide +kernel
theorem d_Row_becomeReverseOf_27 : decode prog_9_method_7_code 27 = .ok (.goto (-16), 3) := by decide +kernel
theorem d_Row_becomeReverseOf_30 : decode prog_9_method_7_code 30 = .ok (.return_, 1) := by decide +kernel
theorem d_Row_at_0 : decode prog_9_method_3_code 0 = .ok (.aload_n 0, 1) := by decide +kernel
theorem d_Row_at_1 : decode prog_9_method_3_code 1 = .ok (.iload_n 1, 1) := by decide +kernel
theorem d_Row_at_2 : decode prog_9_method_3_code 2 = .ok (.invokevirtual 19, 3) := by decide +kernel
theorem d_Row_at_5 : decode prog_9_method_3_code 5 = .ok (.ifCond .eq 12, 3) := by decide +kernel
theorem d_Row_at_8 : decode prog_9_method_3_code 8 = .ok (.aload_n 0, 1) := by decide +kernel
theorem d_Row_at_9 : decode prog_9_method_3_code 9 = .ok (.getfield 11, 3) := by decide +kernel
theorem d_Row_at_12 : decode prog_9_method_3_code 12 = .ok (.iload_n 1, 1) := by decide +kernel
theorem d_Row_at_13 : decode prog_9_method_3_code 13 = .ok (.iaload, 1) := by decide +kernel
theorem d_Row_at_14 : decode prog_9_method_3_code 14 = .ok (.goto 4, 3) := by decide +kernel
theorem d_Row_at_17 : decode prog_9_method_3_code 17 = .ok (.iconst (-1), 1) := by decide +kernel
theorem d_Row_at_18 : decode prog_9_method_3_code 18 = .ok (.ireturn, 1) := by decide +kernel
theorem d_Row_has_0 : decode prog_9_method_2_code 0 = .ok (.iload_n 1, 1) := by decide +kernel
theorem d_Row_has_1 : decode prog_9_method_2_code 1 = .ok (.ifCond .lt 24, 3) := by decide +kernel
theorem d_Row_has_4 : decode prog_9_method_2_code 4 = .ok (.iload_n 1, 1) := by decide +kernel
theorem d_Row_has_5 : decode prog_9_method_2_code 5 = .ok (.aload_n 0, 1) := by decide +kernel
theorem d_Row_has_6 : decode prog_9_method_2_code 6 = .ok (.getfield 15, 3) := by decide +kernel
theorem d_Row_has_9 : decode prog_9_method_2_code 9 = .ok (.if_icmp .ge 16, 3) := by decide +kernel
theorem d_Row_has_12 : decode prog_9_method_2_code 12 = .ok (.iload_n 1, 1) := by decide +kernel
theorem d_Row_has_13 : decode prog_9_method_2_code 13 = .ok (.aload_n 0, 1) := by decide +kernel
theorem d_Row_has_14 : decode prog_9_method_2_code 14 = .ok (.getfield 11, 3) := by decide +kernel
theorem d_Row_has_17 : decode prog_9_method_2_code 17 = .ok (.arraylength, 1) := by decide +kernel
theorem d_Row_has_18 : decode prog_9_method_2_code 18 = .ok (.if_icmp .ge 7, 3) := by decide +kernel
theorem d_Row_has_21 : decode prog_9_method_2_code 21 = .ok (.iconst 1, 1) := by decide +kernel
theorem d_Row_has_22 : decode prog_9_method_2_code 22 = .ok (.goto 4, 3) := by decide +kernel
theorem d_Row_has_25 : decode prog_9_method_2_code 25 = .ok (.iconst 0, 1) := by decide +kernel
theorem d_Row_has_26 : decode prog_9_method_2_code 26 = .ok (.ireturn, 1) := by decide +kernel
theorem d_Table_closeStack_0 : decode prog_12_method_9_code 0 = .ok (.aload_n 0, 1) := by decide +kernel
theorem d_Table_closeStack_1 : decode prog_12_method_9_code 1 = .ok (.aload_n 0, 1) := by decide +kernel
theorem d_Table_closeStack_2 : decode prog_12_method_9_code 2 = .ok (.getfield 29, 3) := by decide +kernel
theorem d_Table_closeStack_5 : decode prog_12_method_9_code 5 = .ok (.l2i, 1) := by decide +kernel
theorem d_Table_closeStack_6 : decode prog_12_method_9_code 6 = .ok (.sipush 512, 3) := by decide +kernel
theorem d_Table_closeStack_9 : decode prog_12_method_9_code 9 = .ok (.isub, 1) := by decide +kernel
theorem d_Table_closeStack_10 : decode prog_12_method_9_code 10 = .ok (.bipush 9, 2) := by decide +kernel
theorem d_Table_closeStack_12 : decode prog_12_method_9_code 12 = .ok (.invokevirtual 53, 3) := by decide +kernel
theorem d_Table_closeStack_15 : decode prog_12_method_9_code 15 = .ok (.aload_n 0, 1) := by decide +kernel
theorem d_Table_closeStack_16 : decode prog_12_method_9_code 16 = .ok (.getfield 57, 3) := by decide +kernel
theorem d_Table_closeStack_19 : decode prog_12_method_9_code 19 = .ok (.invokevirtual 60, 3) := by decide +kernel
theorem d_Table_closeStack_22 : decode prog_12_method_9_code 22 = .ok (.iconst 0, 1) := by decide +kernel
theorem d_Table_closeStack_23 : decode prog_12_method_9_code 23 = .ok (.istore_n 1, 1) := by decide +kernel
theorem d_Table_closeStack_24 : decode prog_12_method_9_code 24 = .ok (.iload_n 1, 1) := by decide +kernel
theorem d_Table_closeStack_25 : decode prog_12_method_9_code 25 = .ok (.aload_n 0, 1) := by decide +kernel
theorem d_Table_closeStack_26 : decode prog_12_method_9_code 26 = .ok (.getfield 39, 3) := by decide +kernel
theorem d_Table_closeStack_29 : decode prog_12_method_9_code 29 = .ok (.getfield 63, 3) := by decide +kernel
theorem d_Table_closeStack_32 : decode prog_12_method_9_code 32 = .ok (.if_icmp .ge 21, 3) := by decide +kernel
theorem d_Table_closeStack_35 : decode prog_12_method_9_code 35 = .ok (.aload_n 0, 1) := by decide +kernel
theorem d_Table_closeStack_36 : decode prog_12_method_9_code 36 = .ok (.getfield 57, 3) := by decide +kernel
theorem d_Table_closeStack_39 : decode prog_12_method_9_code 39 = .ok (.aload_n 0, 1) := by decide +kernel
theorem d_Table_closeStack_40 : decode prog_12_method_9_code 40 = .ok (.iload_n 1, 1) := by decide +kernel
theorem d_Table_closeStack_41 : decode prog_12_method_9_code 41 = .ok (.invokevirtual 66, 3) := by decide +kernel
theorem d_Table_closeStack_44 : decode prog_12_method_9_code 44 = .ok (.invokevirtual 43, 3) := by decide +kernel
theorem d_Table_closeStack_47 : decode prog_12_method_9_code 47 = .ok (.iinc 1 8, 3) := by decide +kernel
theorem d_Table_closeStack_50 : decode prog_12_method_9_code 50 = .ok (.goto (-26), 3) := by decide +kernel
theorem d_Table_closeStack_53 : decode prog_12_method_9_code 53 = .ok (.return_, 1) := by decide +kernel
theorem d_Table_byteOfWritten_0 : decode prog_12_method_13_code 0 = .ok (.iconst 0, 1) := by decide +kernel
theorem d_Table_byteOfWritten_1 : decode prog_12_method_13_code 1 = .ok (.istore_n 2, 1) := by decide +kernel
theorem d_Table_byteOfWritten_2 : decode prog_12_method_13_code 2 = .ok (.iload_n 1, 1) := by decide +kernel
theorem d_Table_byteOfWritten_3 : decode prog_12_method_13_code 3 = .ok (.istore_n 3, 1) := by decide +kernel
theorem d_Table_byteOfWritten_4 : decode prog_12_method_13_code 4 = .ok (.iload_n 3, 1) := by decide +kernel
theorem d_Table_byteOfWritten_5 : decode prog_12_method_13_code 5 = .ok (.iload_n 1, 1) := by decide +kernel
theorem d_Table_byteOfWritten_6 : decode prog_12_method_13_code 6 = .ok (.bipush 8, 2) := by decide +kernel
theorem d_Table_byteOfWritten_8 : decode prog_12_method_13_code 8 = .ok (.iadd, 1) := by decide +kernel
theorem d_Table_byteOfWritten_9 : decode prog_12_method_13_code 9 = .ok (.if_icmp .ge 52, 3) := by decide +kernel
theorem d_Table_byteOfWritten_12 : decode prog_12_method_13_code 12 = .ok (.aload_n 0, 1) := by decide +kernel
theorem d_Table_byteOfWritten_13 : decode prog_12_method_13_code 13 = .ok (.getfield 39, 3) := by decide +kernel
theorem d_Table_byteOfWritten_16 : decode prog_12_method_13_code 16 = .ok (.getfield 63, 3) := by decide +kernel
theorem d_Table_byteOfWritten_19 : decode prog_12_method_13_code 19 = .ok (.iconst 1, 1) := by decide +kernel
theorem d_Table_byteOfWritten_20 : decode prog_12_method_13_code 20 = .ok (.isub, 1) := by decide +kernel
theorem d_Table_byteOfWritten_21 : decode prog_12_method_13_code 21 = .ok (.iload_n 3, 1) := by decide +kernel
theorem d_Table_byteOfWritten_22 : decode prog_12_method_13_code 22 = .ok (.isub, 1) := by decide +kernel
theorem d_Table_byteOfWritten_23 : decode prog_12_method_13_code 23 = .ok (.istore 4, 2) := by decide +kernel
theorem d_Table_byteOfWritten_25 : decode prog_12_method_13_code 25 = .ok (.iconst 2, 1) := by decide +kernel
theorem d_Table_byteOfWritten_26 : decode prog_12_method_13_code 26 = .ok (.iload_n 2, 1) := by decide +kernel
theorem d_Table_byteOfWritten_27 : decode prog_12_method_13_code 27 = .ok (.imul, 1) := by decide +kernel
theorem d_Table_byteOfWritten_28 : decode prog_12_method_13_code 28 = .ok (.aload_n 0, 1) := by decide +kernel
theorem d_Table_byteOfWritten_29 : decode prog_12_method_13_code 29 = .ok (.getfield 39, 3) := by decide +kernel
theorem d_Table_byteOfWritten_32 : decode prog_12_method_13_code 32 = .ok (.iload 4, 2) := by decide +kernel
theorem d_Table_byteOfWritten_34 : decode prog_12_method_13_code 34 = .ok (.invokevirtual 88, 3) := by decide +kernel
theorem d_Table_byteOfWritten_37 : decode prog_12_method_13_code 37 = .ok (.ifCond .eq 15, 3) := by decide +kernel
theorem d_Table_byteOfWritten_40 : decode prog_12_method_13_code 40 = .ok (.aload_n 0, 1) := by decide +kernel
theorem d_Table_byteOfWritten_41 : decode prog_12_method_13_code 41 = .ok (.getfield 39, 3) := by decide +kernel
theorem d_Table_byteOfWritten_44 : decode prog_12_method_13_code 44 = .ok (.iload 4, 2) := by decide +kernel
theorem d_Table_byteOfWritten_46 : decode prog_12_method_13_code 46 = .ok (.invokevirtual 92, 3) := by decide +kernel
theorem d_Table_byteOfWritten_49 : decode prog_12_method_13_code 49 = .ok (.goto 4, 3) := by decide +kernel
theorem d_Table_byteOfWritten_52 : decode prog_12_method_13_code 52 = .ok (.iconst 0, 1) := by decide +kernel
theorem d_Table_byteOfWritten_53 : decode prog_12_method_13_code 53 = .ok (.iadd, 1) := by decide +kernel
theorem d_Table_byteOfWritten_54 : decode prog_12_method_13_code 54 = .ok (.istore_n 2, 1) := by decide +kernel
theorem d_Table_byteOfWritten_55 : decode prog_12_method_13_code 55 = .ok (.iinc 3 1, 3) := by decide +kernel
theorem d_Table_byteOfWritten_58 : decode prog_12_method_13_code 58 = .ok (.goto (-54), 3) := by decide +kernel
theorem d_Table_byteOfWritten_61 : decode prog_12_method_13_code 61 = .ok (.iload_n 2, 1) := by decide +kernel
theorem d_Table_byteOfWritten_62 : decode prog_12_method_13_code 62 = .ok (.ireturn, 1) := by decide +kernel
theorem d_RC_begin_0 : decode prog_1_method_7_code 0 = .ok (.aload_n 0, 1) := by decide +kernel
theorem d_RC_begin_1 : decode prog_1_method_7_code 1 = .ok (.getfield 63, 3) := by decide +kernel
theorem d_RC_begin_4 : decode prog_1_method_7_code 4 = .ok (.istore_n 1, 1) := by decide +kernel
theorem d_RC_begin_5 : decode prog_1_method_7_code 5 = .ok (.aload_n 0, 1) := by decide +kernel
theorem d_RC_begin_6 : decode prog_1_method_7_code 6 = .ok (.iconst 0, 1) := by decide +kernel
theorem d_RC_begin_7 : decode prog_1_method_7_code 7 = .ok (.putfield 63, 3) := by decide +kernel
theorem d_RC_begin_10 : decode prog_1_method_7_code 10 = .ok (.aload_n 0, 1) := by decide +kernel
theorem d_RC_begin_11 : decode prog_1_method_7_code 11 = .ok (.iconst 0, 1) := by decide +kernel
theorem d_RC_begin_12 : decode prog_1_method_7_code 12 = .ok (.putfield 66, 3) := by decide +kernel
theorem d_RC_begin_15 : decode prog_1_method_7_code 15 = .ok (.aload_n 0, 1) := by decide +kernel
theorem d_RC_begin_16 : decode prog_1_method_7_code 16 = .ok (.getfield 23, 3) := by decide +kernel
theorem d_RC_begin_19 : decode prog_1_method_7_code 19 = .ok (.invokevirtual 100, 3) := by decide +kernel
theorem d_RC_begin_22 : decode prog_1_method_7_code 22 = .ok (.aload_n 0, 1) := by decide +kernel
theorem d_RC_begin_23 : decode prog_1_method_7_code 23 = .ok (.getfield 11, 3) := by decide +kernel
theorem d_RC_begin_26 : decode prog_1_method_7_code 26 = .ok (.astore_n 2, 1) := by decide +kernel
theorem d_RC_begin_27 : decode prog_1_method_7_code 27 = .ok (.aload_n 2, 1) := by decide +kernel
theorem d_RC_begin_28 : decode prog_1_method_7_code 28 = .ok (.arraylength, 1) := by decide +kernel
theorem d_RC_begin_29 : decode prog_1_method_7_code 29 = .ok (.istore_n 3, 1) := by decide +kernel
theorem d_RC_begin_30 : decode prog_1_method_7_code 30 = .ok (.iconst 0, 1) := by decide +kernel
theorem d_RC_begin_31 : decode prog_1_method_7_code 31 = .ok (.istore 4, 2) := by decide +kernel
theorem d_RC_begin_33 : decode prog_1_method_7_code 33 = .ok (.iload 4, 2) := by decide +kernel
theorem d_RC_begin_35 : decode prog_1_method_7_code 35 = .ok (.iload_n 3, 1) := by decide +kernel
theorem d_RC_begin_36 : decode prog_1_method_7_code 36 = .ok (.if_icmp .ge 37, 3) := by decide +kernel
theorem d_RC_begin_39 : decode prog_1_method_7_code 39 = .ok (.aload_n 2, 1) := by decide +kernel
theorem d_RC_begin_40 : decode prog_1_method_7_code 40 = .ok (.iload 4, 2) := by decide +kernel
theorem d_RC_begin_42 : decode prog_1_method_7_code 42 = .ok (.aaload, 1) := by decide +kernel
theorem d_RC_begin_43 : decode prog_1_method_7_code 43 = .ok (.astore 5, 2) := by decide +kernel
theorem d_RC_begin_45 : decode prog_1_method_7_code 45 = .ok (.aload 5, 2) := by decide +kernel
theorem d_RC_begin_47 : decode prog_1_method_7_code 47 = .ok (.ifnull 20, 3) := by decide +kernel
theorem d_RC_begin_50 : decode prog_1_method_7_code 50 = .ok (.aload_n 0, 1) := by decide +kernel
theorem d_RC_begin_51 : decode prog_1_method_7_code 51 = .ok (.getfield 23, 3) := by decide +kernel
theorem d_RC_begin_54 : decode prog_1_method_7_code 54 = .ok (.aload 5, 2) := by decide +kernel
theorem d_RC_begin_56 : decode prog_1_method_7_code 56 = .ok (.getfield 40, 3) := by decide +kernel
theorem d_RC_begin_59 : decode prog_1_method_7_code 59 = .ok (.aload 5, 2) := by decide +kernel
theorem d_RC_begin_61 : decode prog_1_method_7_code 61 = .ok (.getfield 44, 3) := by decide +kernel
theorem d_RC_begin_64 : decode prog_1_method_7_code 64 = .ok (.invokevirtual 48, 3) := by decide +kernel
theorem d_RC_begin_67 : decode prog_1_method_7_code 67 = .ok (.iinc 4 1, 3) := by decide +kernel
theorem d_RC_begin_70 : decode prog_1_method_7_code 70 = .ok (.goto (-37), 3) := by decide +kernel
theorem d_RC_begin_73 : decode prog_1_method_7_code 73 = .ok (.iload_n 1, 1) := by decide +kernel
theorem d_RC_begin_74 : decode prog_1_method_7_code 74 = .ok (.ireturn, 1) := by decide +kernel
theorem d_Carries_openMessage_0 : decode prog_3_method_2_code 0 = .ok (.aload_n 0, 1) := by decide +kernel
theorem d_Carries_openMessage_1 : decode prog_3_method_2_code 1 = .ok (.invokespecial 15, 3) := by decide +kernel
theorem d_Carries_openMessage_4 : decode prog_3_method_2_code 4 = .ok (.aload_n 0, 1) := by decide +kernel
theorem d_Carries_openMessage_5 : decode prog_3_method_2_code 5 = .ok (.iconst (-1), 1) := by decide +kernel
theorem d_Carries_openMessage_6 : decode prog_3_method_2_code 6 = .ok (.putfield 9, 3) := by decide +kernel
theorem d_Carries_openMessage_9 : decode prog_3_method_2_code 9 = .ok (.aload_n 0, 1) := by decide +kernel
theorem d_Carries_openMessage_10 : decode prog_3_method_2_code 10 = .ok (.iconst 0, 1) := by decide +kernel
theorem d_Carries_openMessage_11 : decode prog_3_method_2_code 11 = .ok (.putfield 18, 3) := by decide +kernel
theorem d_Carries_openMessage_14 : decode prog_3_method_2_code 14 = .ok (.return_, 1) := by decide +kernel
theorem d_Ranged_openMessage_0 : decode prog_8_method_6_code 0 = .ok (.aload_n 0, 1) := by decide +kernel
theorem d_Ranged_openMessage_1 : decode prog_8_method_6_code 1 = .ok (.getfield 23, 3) := by decide +kernel
theorem d_Ranged_openMessage_4 : decode prog_8_method_6_code 4 = .ok (.invokevirtual 27, 3) := by decide +kernel
theorem d_Ranged_openMessage_7 : decode prog_8_method_6_code 7 = .ok (.aload_n 0, 1) := by decide +kernel
theorem d_Ranged_openMessage_8 : decode prog_8_method_6_code 8 = .ok (.lconst 0, 1) := by decide +kernel
theorem d_Ranged_openMessage_9 : decode prog_8_method_6_code 9 = .ok (.putfield 32, 3) := by decide +kernel
theorem d_Ranged_openMessage_12 : decode prog_8_method_6_code 12 = .ok (.aload_n 0, 1) := by decide +kernel
theorem d_Ranged_openMessage_13 : decode prog_8_method_6_code 13 = .ok (.ldc2_w 9, 3) := by decide +kernel
theorem d_Ranged_openMessage_16 : decode prog_8_method_6_code 16 = .ok (.putfield 11, 3) := by decide +kernel
theorem d_Ranged_openMessage_19 : decode prog_8_method_6_code 19 = .ok (.return_, 1) := by decide +kernel
theorem d_Stacked_openMessage_0 : decode prog_11_method_6_code 0 = .ok (.aload_n 0, 1) := by decide +kernel
theorem d_Stacked_openMessage_1 : decode prog_11_method_6_code 1 = .ok (.iconst 0, 1) := by decide +kernel
theorem d_Stacked_openMessage_2 : decode prog_11_method_6_code 2 = .ok (.putfield 24, 3) := by decide +kernel
theorem d_Stacked_openMessage_5 : decode prog_11_method_6_code 5 = .ok (.return_, 1) := by decide +kernel
theorem d_RC_out_0 : decode prog_1_method_8_code 0 = .ok (.aload_n 0, 1) := by decide +kernel
theorem d_RC_out_1 : decode prog_1_method_8_code 1 = .ok (.getfield 23, 3) := by decide +kernel
theorem d_RC_out_4 : decode prog_1_method_8_code 4 = .ok (.getfield 91, 3) := by decide +kernel
theorem d_RC_out_7 : decode prog_1_method_8_code 7 = .ok (.iload_n 1, 1) := by decide +kernel
theorem d_RC_out_8 : decode prog_1_method_8_code 8 = .ok (.invokevirtual 103, 3) := by decide +kernel
theorem d_RC_out_11 : decode prog_1_method_8_code 11 = .ok (.ireturn, 1) := by decide +kernel
theorem d_RC_octets_0 : decode prog_1_method_9_code 0 = .ok (.aload_n 0, 1) := by decide +kernel
theorem d_RC_octets_1 : decode prog_1_method_9_code 1 = .ok (.getfield 23, 3) := by decide +kernel
theorem d_RC_octets_4 : decode prog_1_method_9_code 4 = .ok (.getfield 107, 3) := by decide +kernel
theorem d_RC_octets_7 : decode prog_1_method_9_code 7 = .ok (.getfield 95, 3) := by decide +kernel
theorem d_RC_octets_10 : decode prog_1_method_9_code 10 = .ok (.iconst 4, 1) := by decide +kernel
theorem d_RC_octets_11 : decode prog_1_method_9_code 11 = .ok (.iadd, 1) := by decide +kernel
theorem d_RC_octets_12 : decode prog_1_method_9_code 12 = .ok (.sipush 6000, 3) := by decide +kernel
theorem d_RC_octets_15 : decode prog_1_method_9_code 15 = .ok (.if_icmp .le 6, 3) := by decide +kernel
theorem d_RC_octets_18 : decode prog_1_method_9_code 18 = .ok (.bipush (-4), 2) := by decide +kernel
theorem d_RC_octets_20 : decode prog_1_method_9_code 20 = .ok (.ireturn, 1) := by decide +kernel
theorem d_RC_octets_21 : decode prog_1_method_9_code 21 = .ok (.bipush 24, 2) := by decide +kernel
theorem d_RC_octets_23 : decode prog_1_method_9_code 23 = .ok (.istore_n 2, 1) := by decide +kernel
theorem d_RC_octets_24 : decode prog_1_method_9_code 24 = .ok (.iload_n 2, 1) := by decide +kernel
theorem d_RC_octets_25 : decode prog_1_method_9_code 25 = .ok (.ifCond .lt 26, 3) := by decide +kernel
theorem d_RC_octets_28 : decode prog_1_method_9_code 28 = .ok (.aload_n 0, 1) := by decide +kernel
theorem d_RC_octets_29 : decode prog_1_method_9_code 29 = .ok (.getfield 23, 3) := by decide +kernel
theorem d_RC_octets_32 : decode prog_1_method_9_code 32 = .ok (.getfield 107, 3) := by decide +kernel
theorem d_RC_octets_35 : decode prog_1_method_9_code 35 = .ok (.iload_n 1, 1) := by decide +kernel
theorem d_RC_octets_36 : decode prog_1_method_9_code 36 = .ok (.iload_n 2, 1) := by decide +kernel
theorem d_RC_octets_37 : decode prog_1_method_9_code 37 = .ok (.iushr, 1) := by decide +kernel
theorem d_RC_octets_38 : decode prog_1_method_9_code 38 = .ok (.sipush 255, 3) := by decide +kernel
theorem d_RC_octets_41 : decode prog_1_method_9_code 41 = .ok (.iand, 1) := by decide +kernel
theorem d_RC_octets_42 : decode prog_1_method_9_code 42 = .ok (.invokevirtual 110, 3) := by decide +kernel
theorem d_RC_octets_45 : decode prog_1_method_9_code 45 = .ok (.iinc 2 (-8), 3) := by decide +kernel
theorem d_RC_octets_48 : decode prog_1_method_9_code 48 = .ok (.goto (-24), 3) := by decide +kernel
theorem d_RC_octets_51 : decode prog_1_method_9_code 51 = .ok (.aload_n 0, 1) := by decide +kernel
theorem d_RC_octets_52 : decode prog_1_method_9_code 52 = .ok (.getfield 23, 3) := by decide +kernel
theorem d_RC_octets_55 : decode prog_1_method_9_code 55 = .ok (.getfield 107, 3) := by decide +kernel
theorem d_RC_octets_58 : decode prog_1_method_9_code 58 = .ok (.getfield 95, 3) := by decide +kernel
theorem d_RC_octets_61 : decode prog_1_method_9_code 61 = .ok (.ireturn, 1) := by decide +kernel
theorem d_RC_take_0 : decode prog_1_method_10_code 0 = .ok (.iload_n 1, 1) := by decide +kernel
theorem d_RC_take_1 : decode prog_1_method_10_code 1 = .ok (.ifCond .lt 19, 3) := by decide +kernel
theorem d_RC_take_4 : decode prog_1_method_10_code 4 = .ok (.iload_n 1, 1) := by decide +kernel
theorem d_RC_take_5 : decode prog_1_method_10_code 5 = .ok (.iconst 2, 1) := by decide +kernel
theorem d_RC_take_6 : decode prog_1_method_10_code 6 = .ok (.isub, 1) := by decide +kernel
theorem d_RC_take_7 : decode prog_1_method_10_code 7 = .ok (.aload_n 0, 1) := by decide +kernel
theorem d_RC_take_8 : decode prog_1_method_10_code 8 = .ok (.getfield 23, 3) := by decide +kernel
theorem d_RC_take_11 : decode prog_1_method_10_code 11 = .ok (.getfield 91, 3) := by decide +kernel
theorem d_RC_take_14 : decode prog_1_method_10_code 14 = .ok (.getfield 95, 3) := by decide +kernel
theorem d_RC_take_17 : decode prog_1_method_10_code 17 = .ok (.if_icmp .le 6, 3) := by decide +kernel
theorem d_RC_take_20 : decode prog_1_method_10_code 20 = .ok (.bipush (-2), 2) := by decide +kernel
theorem d_RC_take_22 : decode prog_1_method_10_code 22 = .ok (.ireturn, 1) := by decide +kernel
theorem d_RC_take_23 : decode prog_1_method_10_code 23 = .ok (.iload_n 1, 1) := by decide +kernel
theorem d_RC_take_24 : decode prog_1_method_10_code 24 = .ok (.iconst 1, 1) := by decide +kernel
theorem d_RC_take_25 : decode prog_1_method_10_code 25 = .ok (.if_icmp .ne 16, 3) := by decide +kernel
theorem d_RC_take_28 : decode prog_1_method_10_code 28 = .ok (.aload_n 0, 1) := by decide +kernel
theorem d_RC_take_29 : decode prog_1_method_10_code 29 = .ok (.getfield 23, 3) := by decide +kernel
theorem d_RC_take_32 : decode prog_1_method_10_code 32 = .ok (.getfield 91, 3) := by decide +kernel
theorem d_RC_take_35 : decode prog_1_method_10_code 35 = .ok (.getfield 95, 3) := by decide +kernel
theorem d_RC_take_38 : decode prog_1_method_10_code 38 = .ok (.goto 10, 3) := by decide +kernel
theorem d_RC_take_41 : decode prog_1_method_10_code 41 = .ok (.iconst 0, 1) := by decide +kernel
theorem d_RC_take_42 : decode prog_1_method_10_code 42 = .ok (.iload_n 1, 1) := by decide +kernel
theorem d_RC_take_43 : decode prog_1_method_10_code 43 = .ok (.iconst 2, 1) := by decide +kernel
theorem d_RC_take_44 : decode prog_1_method_10_code 44 = .ok (.isub, 1) := by decide +kernel
theorem d_RC_take_45 : decode prog_1_method_10_code 45 = .ok (.invokestatic 114, 3) := by decide +kernel
theorem d_RC_take_48 : decode prog_1_method_10_code 48 = .ok (.istore_n 2, 1) := by decide +kernel
theorem d_RC_take_49 : decode prog_1_method_10_code 49 = .ok (.aload_n 0, 1) := by decide +kernel
theorem d_RC_take_50 : decode prog_1_method_10_code 50 = .ok (.getfield 23, 3) := by decide +kernel
theorem d_RC_take_53 : decode prog_1_method_10_code 53 = .ok (.getfield 107, 3) := by decide +kernel
theorem d_RC_take_56 : decode prog_1_method_10_code 56 = .ok (.invokevirtual 120, 3) := by decide +kernel
theorem d_RC_take_59 : decode prog_1_method_10_code 59 = .ok (.iconst 0, 1) := by decide +kernel
theorem d_RC_take_60 : decode prog_1_method_10_code 60 = .ok (.istore_n 3, 1) := by decide +kernel
theorem d_RC_take_61 : decode prog_1_method_10_code 61 = .ok (.iload_n 3, 1) := by decide +kernel
theorem d_RC_take_62 : decode prog_1_method_10_code 62 = .ok (.iload_n 2, 1) := by decide +kernel
theorem d_RC_take_63 : decode prog_1_method_10_code 63 = .ok (.if_icmp .ge 30, 3) := by decide +kernel
theorem d_RC_take_66 : decode prog_1_method_10_code 66 = .ok (.aload_n 0, 1) := by decide +kernel
theorem d_RC_take_67 : decode prog_1_method_10_code 67 = .ok (.getfield 23, 3) := by decide +kernel
theorem d_RC_take_70 : decode prog_1_method_10_code 70 = .ok (.getfield 107, 3) := by decide +kernel
theorem d_RC_take_73 : decode prog_1_method_10_code 73 = .ok (.aload_n 0, 1) := by decide +kernel
theorem d_RC_take_74 : decode prog_1_method_10_code 74 = .ok (.getfield 23, 3) := by decide +kernel
theorem d_RC_take_77 : decode prog_1_method_10_code 77 = .ok (.getfield 91, 3) := by decide +kernel
theorem d_RC_take_80 : decode prog_1_method_10_code 80 = .ok (.iload_n 3, 1) := by decide +kernel
theorem d_RC_take_81 : decode prog_1_method_10_code 81 = .ok (.invokevirtual 103, 3) := by decide +kernel
theorem d_RC_take_84 : decode prog_1_method_10_code 84 = .ok (.invokevirtual 110, 3) := by decide +kernel
theorem d_RC_take_87 : decode prog_1_method_10_code 87 = .ok (.iinc 3 1, 3) := by decide +kernel
theorem d_RC_take_90 : decode prog_1_method_10_code 90 = .ok (.goto (-29), 3) := by decide +kernel
theorem d_RC_take_93 : decode prog_1_method_10_code 93 = .ok (.aload_n 0, 1) := by decide +kernel
theorem d_RC_take_94 : decode prog_1_method_10_code 94 = .ok (.iconst 0, 1) := by decide +kernel
theorem d_RC_take_95 : decode prog_1_method_10_code 95 = .ok (.putfield 70, 3) := by decide +kernel
theorem d_RC_take_98 : decode prog_1_method_10_code 98 = .ok (.aload_n 0, 1) := by decide +kernel
theorem d_RC_take_99 : decode prog_1_method_10_code 99 = .ok (.iconst 0, 1) := by decide +kernel
theorem d_RC_take_100 : decode prog_1_method_10_code 100 = .ok (.putfield 123, 3) := by decide +kernel
theorem d_RC_take_103 : decode prog_1_method_10_code 103 = .ok (.aload_n 0, 1) := by decide +kernel
theorem d_RC_take_104 : decode prog_1_method_10_code 104 = .ok (.iconst 0, 1) := by decide +kernel
theorem d_RC_take_105 : decode prog_1_method_10_code 105 = .ok (.putfield 126, 3) := by decide +kernel
theorem d_RC_take_108 : decode prog_1_method_10_code 108 = .ok (.aload_n 0, 1) := by decide +kernel
theorem d_RC_take_109 : decode prog_1_method_10_code 109 = .ok (.getfield 23, 3) := by decide +kernel
theorem d_RC_take_112 : decode prog_1_method_10_code 112 = .ok (.getfield 107, 3) := by decide +kernel
theorem d_RC_take_115 : decode prog_1_method_10_code 115 = .ok (.getfield 95, 3) := by decide +kernel
theorem d_RC_take_118 : decode prog_1_method_10_code 118 = .ok (.ireturn, 1) := by decide +kernel
theorem d_RC_spoil_0 : decode prog_1_method_11_code 0 = .ok (.aload_n 0, 1) := by decide +kernel
theorem d_RC_spoil_1 : decode prog_1_method_11_code 1 = .ok (.getfield 23, 3) := by decide +kernel
theorem d_RC_spoil_4 : decode prog_1_method_11_code 4 = .ok (.getfield 107, 3) := by decide +kernel
theorem d_RC_spoil_7 : decode prog_1_method_11_code 7 = .ok (.iload_n 1, 1) := by decide +kernel
theorem d_RC_spoil_8 : decode prog_1_method_11_code 8 = .ok (.invokevirtual 129, 3) := by decide +kernel
theorem d_RC_spoil_11 : decode prog_1_method_11_code 11 = .ok (.ifCond .ne 5, 3) := by decide +kernel
theorem d_RC_spoil_14 : decode prog_1_method_11_code 14 = .ok (.iconst (-1), 1) := by decide +kernel
theorem d_RC_spoil_15 : decode prog_1_method_11_code 15 = .ok (.ireturn, 1) := by decide +kernel
theorem d_RC_spoil_16 : decode prog_1_method_11_code 16 = .ok (.iload_n 2, 1) := by decide +kernel
theorem d_RC_spoil_17 : decode prog_1_method_11_code 17 = .ok (.ifCond .lt 10, 3) := by decide +kernel
theorem d_RC_spoil_20 : decode prog_1_method_11_code 20 = .ok (.iload_n 2, 1) := by decide +kernel
theorem d_RC_spoil_21 : decode prog_1_method_11_code 21 = .ok (.sipush 255, 3) := by decide +kernel
theorem d_RC_spoil_24 : decode prog_1_method_11_code 24 = .ok (.if_icmp .le 6, 3) := by decide +kernel
theorem d_RC_spoil_27 : decode prog_1_method_11_code 27 = .ok (.bipush (-2), 2) := by decide +kernel
theorem d_RC_spoil_29 : decode prog_1_method_11_code 29 = .ok (.ireturn, 1) := by decide +kernel
theorem d_RC_spoil_30 : decode prog_1_method_11_code 30 = .ok (.aload_n 0, 1) := by decide +kernel
theorem d_RC_spoil_31 : decode prog_1_method_11_code 31 = .ok (.getfield 23, 3) := by decide +kernel
theorem d_RC_spoil_34 : decode prog_1_method_11_code 34 = .ok (.getfield 107, 3) := by decide +kernel
theorem d_RC_spoil_37 : decode prog_1_method_11_code 37 = .ok (.iload_n 1, 1) := by decide +kernel
theorem d_RC_spoil_38 : decode prog_1_method_11_code 38 = .ok (.aload_n 0, 1) := by decide +kernel
theorem d_RC_spoil_39 : decode prog_1_method_11_code 39 = .ok (.getfield 23, 3) := by decide +kernel
theorem d_RC_spoil_42 : decode prog_1_method_11_code 42 = .ok (.getfield 107, 3) := by decide +kernel
theorem d_RC_spoil_45 : decode prog_1_method_11_code 45 = .ok (.iload_n 1, 1) := by decide +kernel
theorem d_RC_spoil_46 : decode prog_1_method_11_code 46 = .ok (.invokevirtual 103, 3) := by decide +kernel
theorem d_RC_spoil_49 : decode prog_1_method_11_code 49 = .ok (.iload_n 2, 1) := by decide +kernel
theorem d_RC_spoil_50 : decode prog_1_method_11_code 50 = .ok (.ixor, 1) := by decide +kernel
theorem d_RC_spoil_51 : decode prog_1_method_11_code 51 = .ok (.invokevirtual 132, 3) := by decide +kernel
theorem d_RC_spoil_54 : decode prog_1_method_11_code 54 = .ok (.aload_n 0, 1) := by decide +kernel
theorem d_RC_spoil_55 : decode prog_1_method_11_code 55 = .ok (.getfield 23, 3) := by decide +kernel
theorem d_RC_spoil_58 : decode prog_1_method_11_code 58 = .ok (.getfield 107, 3) := by decide +kernel
theorem d_RC_spoil_61 : decode prog_1_method_11_code 61 = .ok (.iload_n 1, 1) := by decide +kernel
theorem d_RC_spoil_62 : decode prog_1_method_11_code 62 = .ok (.invokevirtual 103, 3) := by decide +kernel
theorem d_RC_spoil_65 : decode prog_1_method_11_code 65 = .ok (.ireturn, 1) := by decide +kernel
theorem d_Row_set_0 : decode prog_9_method_4_code 0 = .ok (.aload_n 0, 1) := by decide +kernel
theorem d_Row_set_1 : decode prog_9_method_4_code 1 = .ok (.iload_n 1, 1) := by decide +kernel
theorem d_Row_set_2 : decode prog_9_method_4_code 2 = .ok (.invokevirtual 19, 3) := by decide +kernel
theorem d_Row_set_5 : decode prog_9_method_4_code 5 = .ok (.ifCond .eq 10, 3) := by decide +kernel
theorem d_Row_set_8 : decode prog_9_method_4_code 8 = .ok (.aload_n 0, 1) := by decide +kernel
theorem d_Row_set_9 : decode prog_9_method_4_code 9 = .ok (.getfield 11, 3) := by decide +kernel
theorem d_Row_set_12 : decode prog_9_method_4_code 12 = .ok (.iload_n 1, 1) := by decide +kernel
theorem d_Row_set_13 : decode prog_9_method_4_code 13 = .ok (.iload_n 2, 1) := by decide +kernel
theorem d_Row_set_14 : decode prog_9_method_4_code 14 = .ok (.iastore, 1) := by decide +kernel
theorem d_Row_set_15 : decode prog_9_method_4_code 15 = .ok (.return_, 1) := by decide +kernel
theorem d_RC_read_0 : decode prog_1_method_12_code 0 = .ok (.aload_n 0, 1) := by decide +kernel
theorem d_RC_read_1 : decode prog_1_method_12_code 1 = .ok (.getfield 11, 3) := by decide +kernel
theorem d_RC_read_4 : decode prog_1_method_12_code 4 = .ok (.astore_n 1, 1) := by decide +kernel
theorem d_RC_read_5 : decode prog_1_method_12_code 5 = .ok (.aload_n 1, 1) := by decide +kernel
theorem d_RC_read_6 : decode prog_1_method_12_code 6 = .ok (.arraylength, 1) := by decide +kernel
theorem d_RC_read_7 : decode prog_1_method_12_code 7 = .ok (.istore_n 2, 1) := by decide +kernel
theorem d_RC_read_8 : decode prog_1_method_12_code 8 = .ok (.iconst 0, 1) := by decide +kernel
theorem d_RC_read_9 : decode prog_1_method_12_code 9 = .ok (.istore_n 3, 1) := by decide +kernel
theorem d_RC_read_10 : decode prog_1_method_12_code 10 = .ok (.iload_n 3, 1) := by decide +kernel
theorem d_RC_read_11 : decode prog_1_method_12_code 11 = .ok (.iload_n 2, 1) := by decide +kernel
theorem d_RC_read_12 : decode prog_1_method_12_code 12 = .ok (.if_icmp .ge 36, 3) := by decide +kernel
theorem d_RC_read_15 : decode prog_1_method_12_code 15 = .ok (.aload_n 1, 1) := by decide +kernel
theorem d_RC_read_16 : decode prog_1_method_12_code 16 = .ok (.iload_n 3, 1) := by decide +kernel
theorem d_RC_read_17 : decode prog_1_method_12_code 17 = .ok (.aaload, 1) := by decide +kernel
theorem d_RC_read_18 : decode prog_1_method_12_code 18 = .ok (.astore 4, 2) := by decide +kernel
theorem d_RC_read_20 : decode prog_1_method_12_code 20 = .ok (.aload 4, 2) := by decide +kernel
theorem d_RC_read_22 : decode prog_1_method_12_code 22 = .ok (.ifnull 20, 3) := by decide +kernel
theorem d_RC_read_25 : decode prog_1_method_12_code 25 = .ok (.aload_n 0, 1) := by decide +kernel
theorem d_RC_read_26 : decode prog_1_method_12_code 26 = .ok (.getfield 23, 3) := by decide +kernel
theorem d_RC_read_29 : decode prog_1_method_12_code 29 = .ok (.aload 4, 2) := by decide +kernel
theorem d_RC_read_31 : decode prog_1_method_12_code 31 = .ok (.getfield 52, 3) := by decide +kernel
theorem d_RC_read_34 : decode prog_1_method_12_code 34 = .ok (.aload 4, 2) := by decide +kernel
theorem d_RC_read_36 : decode prog_1_method_12_code 36 = .ok (.getfield 44, 3) := by decide +kernel
theorem d_RC_read_39 : decode prog_1_method_12_code 39 = .ok (.invokevirtual 48, 3) := by decide +kernel
theorem d_RC_read_42 : decode prog_1_method_12_code 42 = .ok (.iinc 3 1, 3) := by decide +kernel
theorem d_RC_read_45 : decode prog_1_method_12_code 45 = .ok (.goto (-35), 3) := by decide +kernel
theorem d_RC_read_48 : decode prog_1_method_12_code 48 = .ok (.aload_n 0, 1) := by decide +kernel
theorem d_RC_read_49 : decode prog_1_method_12_code 49 = .ok (.iconst 1, 1) := by decide +kernel
theorem d_RC_read_50 : decode prog_1_method_12_code 50 = .ok (.putfield 70, 3) := by decide +kernel
theorem d_RC_read_53 : decode prog_1_method_12_code 53 = .ok (.aload_n 0, 1) := by decide +kernel
theorem d_RC_read_54 : decode prog_1_method_12_code 54 = .ok (.iconst 0, 1) := by decide +kernel
theorem d_RC_read_55 : decode prog_1_method_12_code 55 = .ok (.putfield 126, 3) := by decide +kernel
theorem d_RC_read_58 : decode prog_1_method_12_code 58 = .ok (.aload_n 0, 1) := by decide +kernel
theorem d_RC_read_59 : decode prog_1_method_12_code 59 = .ok (.aload_n 0, 1) := by decide +kernel
theorem d_RC_read_60 : decode prog_1_method_12_code 60 = .ok (.getfield 23, 3) := by decide +kernel
theorem d_RC_read_63 : decode prog_1_method_12_code 63 = .ok (.invokevirtual 135, 3) := by decide +kernel
theorem d_RC_read_66 : decode prog_1_method_12_code 66 = .ok (.ifCond .ne 7, 3) := by decide +kernel
theorem d_RC_read_69 : decode prog_1_method_12_code 69 = .ok (.iconst 1, 1) := by decide +kernel
theorem d_RC_read_70 : decode prog_1_method_12_code 70 = .ok (.goto 4, 3) := by decide +kernel
theorem d_RC_read_73 : decode prog_1_method_12_code 73 = .ok (.iconst 0, 1) := by decide +kernel
theorem d_RC_read_74 : decode prog_1_method_12_code 74 = .ok (.putfield 123, 3) := by decide +kernel
theorem d_RC_read_77 : decode prog_1_method_12_code 77 = .ok (.aload_n 0, 1) := by decide +kernel
theorem d_RC_read_78 : decode prog_1_method_12_code 78 = .ok (.getfield 23, 3) := by decide +kernel
theorem d_RC_read_81 : decode prog_1_method_12_code 81 = .ok (.getfield 107, 3) := by decide +kernel
theorem d_RC_read_84 : decode prog_1_method_12_code 84 = .ok (.getfield 95, 3) := by decide +kernel
theorem d_RC_read_87 : decode prog_1_method_12_code 87 = .ok (.ireturn, 1) := by decide +kernel
theorem d_Ranged_openReading_0 : decode prog_8_method_10_code 0 = .ok (.aload_n 0, 1) := by decide +kernel
theorem d_Ranged_openReading_1 : decode prog_8_method_10_code 1 = .ok (.aload_n 0, 1) := by decide +kernel
theorem d_Ranged_openReading_2 : decode prog_8_method_10_code 2 = .ok (.invokevirtual 60, 3) := by decide +kernel
theorem d_Ranged_openReading_5 : decode prog_8_method_10_code 5 = .ok (.putfield 64, 3) := by decide +kernel
theorem d_Ranged_openReading_8 : decode prog_8_method_10_code 8 = .ok (.aload_n 0, 1) := by decide +kernel
theorem d_Ranged_openReading_9 : decode prog_8_method_10_code 9 = .ok (.lconst 0, 1) := by decide +kernel
theorem d_Ranged_openReading_10 : decode prog_8_method_10_code 10 = .ok (.putfield 67, 3) := by decide +kernel
theorem d_Ranged_openReading_13 : decode prog_8_method_10_code 13 = .ok (.aload_n 0, 1) := by decide +kernel
theorem d_Ranged_openReading_14 : decode prog_8_method_10_code 14 = .ok (.ldc2_w 9, 3) := by decide +kernel
theorem d_Ranged_openReading_17 : decode prog_8_method_10_code 17 = .ok (.putfield 70, 3) := by decide +kernel
theorem d_Ranged_openReading_20 : decode prog_8_method_10_code 20 = .ok (.iconst 1, 1) := by decide +kernel
theorem d_Ranged_openReading_21 : decode prog_8_method_10_code 21 = .ok (.ireturn, 1) := by decide +kernel
theorem d_Coder_firstFourBytes_0 : decode prog_4_method_16_code 0 = .ok (.aload_n 0, 1) := by decide +kernel
theorem d_Coder_firstFourBytes_1 : decode prog_4_method_16_code 1 = .ok (.iconst 0, 1) := by decide +kernel
theorem d_Coder_firstFourBytes_2 : decode prog_4_method_16_code 2 = .ok (.putfield 31, 3) := by decide +kernel
theorem d_Coder_firstFourBytes_5 : decode prog_4_method_16_code 5 = .ok (.lconst 0, 1) := by decide +kernel
theorem d_Coder_firstFourBytes_6 : decode prog_4_method_16_code 6 = .ok (.lstore_n 1, 1) := by decide +kernel
theorem d_Coder_firstFourBytes_7 : decode prog_4_method_16_code 7 = .ok (.iconst 0, 1) := by decide +kernel
theorem d_Coder_firstFourBytes_8 : decode prog_4_method_16_code 8 = .ok (.istore_n 3, 1) := by decide +kernel
theorem d_Coder_firstFourBytes_9 : decode prog_4_method_16_code 9 = .ok (.iload_n 3, 1) := by decide +kernel
theorem d_Coder_firstFourBytes_10 : decode prog_4_method_16_code 10 = .ok (.iconst 4, 1) := by decide +kernel
theorem d_Coder_firstFourBytes_11 : decode prog_4_method_16_code 11 = .ok (.if_icmp .ge 20, 3) := by decide +kernel
theorem d_Coder_firstFourBytes_14 : decode prog_4_method_16_code 14 = .ok (.lload_n 1, 1) := by decide +kernel
theorem d_Coder_firstFourBytes_15 : decode prog_4_method_16_code 15 = .ok (.bipush 8, 2) := by decide +kernel
theorem d_Coder_firstFourBytes_17 : decode prog_4_method_16_code 17 = .ok (.lshl, 1) := by decide +kernel
theorem d_Coder_firstFourBytes_18 : decode prog_4_method_16_code 18 = .ok (.aload_n 0, 1) := by decide +kernel
theorem d_Coder_firstFourBytes_19 : decode prog_4_method_16_code 19 = .ok (.invokevirtual 40, 3) := by decide +kernel
theorem d_Coder_firstFourBytes_22 : decode prog_4_method_16_code 22 = .ok (.i2l, 1) := by decide +kernel
theorem d_Coder_firstFourBytes_23 : decode prog_4_method_16_code 23 = .ok (.lor, 1) := by decide +kernel
theorem d_Coder_firstFourBytes_24 : decode prog_4_method_16_code 24 = .ok (.lstore_n 1, 1) := by decide +kernel
theorem d_Coder_firstFourBytes_25 : decode prog_4_method_16_code 25 = .ok (.iinc 3 1, 3) := by decide +kernel
theorem d_Coder_firstFourBytes_28 : decode prog_4_method_16_code 28 = .ok (.goto (-19), 3) := by decide +kernel
theorem d_Coder_firstFourBytes_31 : decode prog_4_method_16_code 31 = .ok (.lload_n 1, 1) := by decide +kernel
theorem d_Coder_firstFourBytes_32 : decode prog_4_method_16_code 32 = .ok (.lreturn, 1) := by decide +kernel
theorem d_Coder_nextByte_0 : decode prog_4_method_15_code 0 = .ok (.aload_n 0, 1) := by decide +kernel
theorem d_Coder_nextByte_1 : decode prog_4_method_15_code 1 = .ok (.getfield 10, 3) := by decide +kernel
theorem d_Coder_nextByte_4 : decode prog_4_method_15_code 4 = .ok (.aload_n 0, 1) := by decide +kernel
theorem d_Coder_nextByte_5 : decode prog_4_method_15_code 5 = .ok (.getfield 31, 3) := by decide +kernel
theorem d_Coder_nextByte_8 : decode prog_4_method_15_code 8 = .ok (.invokevirtual 35, 3) := by decide +kernel
theorem d_Coder_nextByte_11 : decode prog_4_method_15_code 11 = .ok (.ifCond .eq 17, 3) := by decide +kernel
theorem d_Coder_nextByte_14 : decode prog_4_method_15_code 14 = .ok (.aload_n 0, 1) := by decide +kernel
theorem d_Coder_nextByte_15 : decode prog_4_method_15_code 15 = .ok (.getfield 10, 3) := by decide +kernel
theorem d_Coder_nextByte_18 : decode prog_4_method_15_code 18 = .ok (.aload_n 0, 1) := by decide +kernel
theorem d_Coder_nextByte_19 : decode prog_4_method_15_code 19 = .ok (.getfield 31, 3) := by decide +kernel
theorem d_Coder_nextByte_22 : decode prog_4_method_15_code 22 = .ok (.invokevirtual 39, 3) := by decide +kernel
theorem d_Coder_nextByte_25 : decode prog_4_method_15_code 25 = .ok (.goto 4, 3) := by decide +kernel
theorem d_Coder_nextByte_28 : decode prog_4_method_15_code 28 = .ok (.iconst 0, 1) := by decide +kernel
theorem d_Coder_nextByte_29 : decode prog_4_method_15_code 29 = .ok (.istore_n 1, 1) := by decide +kernel
theorem d_Coder_nextByte_30 : decode prog_4_method_15_code 30 = .ok (.aload_n 0, 1) := by decide +kernel
theorem d_Coder_nextByte_31 : decode prog_4_method_15_code 31 = .ok (.dup, 1) := by decide +kernel
theorem d_Coder_nextByte_32 : decode prog_4_method_15_code 32 = .ok (.getfield 31, 3) := by decide +kernel
theorem d_Coder_nextByte_35 : decode prog_4_method_15_code 35 = .ok (.iconst 1, 1) := by decide +kernel
theorem d_Coder_nextByte_36 : decode prog_4_method_15_code 36 = .ok (.iadd, 1) := by decide +kernel
theorem d_Coder_nextByte_37 : decode prog_4_method_15_code 37 = .ok (.putfield 31, 3) := by decide +kernel
theorem d_Coder_nextByte_40 : decode prog_4_method_15_code 40 = .ok (.iload_n 1, 1) := by decide +kernel
theorem d_Coder_nextByte_41 : decode prog_4_method_15_code 41 = .ok (.ireturn, 1) := by decide +kernel
theorem d_Stack_openReading_0 : decode prog_10_method_7_code 0 = .ok (.aload_n 0, 1) := by decide +kernel
theorem d_Stack_openReading_1 : decode prog_10_method_7_code 1 = .ok (.aload_n 0, 1) := by decide +kernel
theorem d_Stack_openReading_2 : decode prog_10_method_7_code 2 = .ok (.invokevirtual 50, 3) := by decide +kernel
theorem d_Stack_openReading_5 : decode prog_10_method_7_code 5 = .ok (.putfield 54, 3) := by decide +kernel
theorem d_Stack_openReading_8 : decode prog_10_method_7_code 8 = .ok (.aload_n 0, 1) := by decide +kernel
theorem d_Stack_openReading_9 : decode prog_10_method_7_code 9 = .ok (.getfield 54, 3) := by decide +kernel
theorem d_Stack_openReading_12 : decode prog_10_method_7_code 12 = .ok (.ldc2_w 17, 3) := by decide +kernel
theorem d_Stack_openReading_15 : decode prog_10_method_7_code 15 = .ok (.lcmp, 1) := by decide +kernel
theorem d_Stack_openReading_16 : decode prog_10_method_7_code 16 = .ok (.ifCond .lt 7, 3) := by decide +kernel
theorem d_Stack_openReading_19 : decode prog_10_method_7_code 19 = .ok (.iconst 1, 1) := by decide +kernel
theorem d_Stack_openReading_20 : decode prog_10_method_7_code 20 = .ok (.goto 4, 3) := by decide +kernel
theorem d_Stack_openReading_23 : decode prog_10_method_7_code 23 = .ok (.iconst 0, 1) := by decide +kernel
theorem d_Stack_openReading_24 : decode prog_10_method_7_code 24 = .ok (.ireturn, 1) := by decide +kernel
theorem d_Table_openReading_0 : decode prog_12_method_10_code 0 = .ok (.aload_n 0, 1) := by decide +kernel
theorem d_Table_openReading_1 : decode prog_12_method_10_code 1 = .ok (.iconst 0, 1) := by decide +kernel
theorem d_Table_openReading_2 : decode prog_12_method_10_code 2 = .ok (.putfield 23, 3) := by decide +kernel
theorem d_Table_openReading_5 : decode prog_12_method_10_code 5 = .ok (.aload_n 0, 1) := by decide +kernel
theorem d_Table_openReading_6 : decode prog_12_method_10_code 6 = .ok (.sipush 512, 3) := by decide +kernel
theorem d_Table_openReading_9 : decode prog_12_method_10_code 9 = .ok (.aload_n 0, 1) := by decide +kernel
theorem d_Table_openReading_10 : decode prog_12_method_10_code 10 = .ok (.bipush 9, 2) := by decide +kernel
theorem d_Table_openReading_12 : decode prog_12_method_10_code 12 = .ok (.invokevirtual 69, 3) := by decide +kernel
theorem d_Table_openReading_15 : decode prog_12_method_10_code 15 = .ok (.iadd, 1) := by decide +kernel
theorem d_Table_openReading_16 : decode prog_12_method_10_code 16 = .ok (.i2l, 1) := by decide +kernel
theorem d_Table_openReading_17 : decode prog_12_method_10_code 17 = .ok (.putfield 72, 3) := by decide +kernel
theorem d_Table_openReading_20 : decode prog_12_method_10_code 20 = .ok (.iconst 1, 1) := by decide +kernel
theorem d_Table_openReading_21 : decode prog_12_method_10_code 21 = .ok (.ireturn, 1) := by decide +kernel
theorem d_Table_nextValue_0 : decode prog_12_method_12_code 0 = .ok (.iconst 0, 1) := by decide +kernel
theorem d_Table_nextValue_1 : decode prog_12_method_12_code 1 = .ok (.istore_n 2, 1) := by decide +kernel
theorem d_Table_nextValue_2 : decode prog_12_method_12_code 2 = .ok (.iconst 0, 1) := by decide +kernel
theorem d_Table_nextValue_3 : decode prog_12_method_12_code 3 = .ok (.istore_n 3, 1) := by decide +kernel
theorem d_Table_nextValue_4 : decode prog_12_method_12_code 4 = .ok (.iload_n 3, 1) := by decide +kernel
theorem d_Table_nextValue_5 : decode prog_12_method_12_code 5 = .ok (.iload_n 1, 1) := by decide +kernel
theorem d_Table_nextValue_6 : decode prog_12_method_12_code 6 = .ok (.if_icmp .ge 18, 3) := by decide +kernel
theorem d_Table_nextValue_9 : decode prog_12_method_12_code 9 = .ok (.iconst 2, 1) := by decide +kernel
theorem d_Table_nextValue_10 : decode prog_12_method_12_code 10 = .ok (.iload_n 2, 1) := by decide +kernel
theorem d_Table_nextValue_11 : decode prog_12_method_12_code 11 = .ok (.imul, 1) := by decide +kernel
theorem d_Table_nextValue_12 : decode prog_12_method_12_code 12 = .ok (.aload_n 0, 1) := by decide +kernel
theorem d_Table_nextValue_13 : decode prog_12_method_12_code 13 = .ok (.invokevirtual 84, 3) := by decide +kernel
theorem d_Table_nextValue_16 : decode prog_12_method_12_code 16 = .ok (.iadd, 1) := by decide +kernel
theorem d_Table_nextValue_17 : decode prog_12_method_12_code 17 = .ok (.istore_n 2, 1) := by decide +kernel
theorem d_Table_nextValue_18 : decode prog_12_method_12_code 18 = .ok (.iinc 3 1, 3) := by decide +kernel
theorem d_Table_nextValue_21 : decode prog_12_method_12_code 21 = .ok (.goto (-17), 3) := by decide +kernel
theorem d_Table_nextValue_24 : decode prog_12_method_12_code 24 = .ok (.iload_n 2, 1) := by decide +kernel
theorem d_Table_nextValue_25 : decode prog_12_method_12_code 25 = .ok (.ireturn, 1) := by decide +kernel
theorem d_Table_nextInBit_0 : decode prog_12_method_14_code 0 = .ok (.aload_n 0, 1) := by decide +kernel
theorem d_Table_nextInBit_1 : decode prog_12_method_14_code 1 = .ok (.getfield 23, 3) := by decide +kernel
theorem d_Table_nextInBit_4 : decode prog_12_method_14_code 4 = .ok (.bipush 8, 2) := by decide +kernel
theorem d_Table_nextInBit_6 : decode prog_12_method_14_code 6 = .ok (.idiv, 1) := by decide +kernel
theorem d_Table_nextInBit_7 : decode prog_12_method_14_code 7 = .ok (.istore_n 1, 1) := by decide +kernel
theorem d_Table_nextInBit_8 : decode prog_12_method_14_code 8 = .ok (.aload_n 0, 1) := by decide +kernel
theorem d_Table_nextInBit_9 : decode prog_12_method_14_code 9 = .ok (.getfield 93, 3) := by decide +kernel
theorem d_Table_nextInBit_12 : decode prog_12_method_14_code 12 = .ok (.iload_n 1, 1) := by decide +kernel
theorem d_Table_nextInBit_13 : decode prog_12_method_14_code 13 = .ok (.invokevirtual 88, 3) := by decide +kernel
theorem d_Table_nextInBit_16 : decode prog_12_method_14_code 16 = .ok (.ifCond .eq 27, 3) := by decide +kernel
theorem d_Table_nextInBit_19 : decode prog_12_method_14_code 19 = .ok (.aload_n 0, 1) := by decide +kernel
theorem d_Table_nextInBit_20 : decode prog_12_method_14_code 20 = .ok (.getfield 93, 3) := by decide +kernel
theorem d_Table_nextInBit_23 : decode prog_12_method_14_code 23 = .ok (.iload_n 1, 1) := by decide +kernel
theorem d_Table_nextInBit_24 : decode prog_12_method_14_code 24 = .ok (.invokevirtual 92, 3) := by decide +kernel
theorem d_Table_nextInBit_27 : decode prog_12_method_14_code 27 = .ok (.bipush 7, 2) := by decide +kernel
theorem d_Table_nextInBit_29 : decode prog_12_method_14_code 29 = .ok (.aload_n 0, 1) := by decide +kernel
theorem d_Table_nextInBit_30 : decode prog_12_method_14_code 30 = .ok (.getfield 23, 3) := by decide +kernel
theorem d_Table_nextInBit_33 : decode prog_12_method_14_code 33 = .ok (.bipush 8, 2) := by decide +kernel
theorem d_Table_nextInBit_35 : decode prog_12_method_14_code 35 = .ok (.irem, 1) := by decide +kernel
theorem d_Table_nextInBit_36 : decode prog_12_method_14_code 36 = .ok (.isub, 1) := by decide +kernel
theorem d_Table_nextInBit_37 : decode prog_12_method_14_code 37 = .ok (.iushr, 1) := by decide +kernel
theorem d_Table_nextInBit_38 : decode prog_12_method_14_code 38 = .ok (.iconst 1, 1) := by decide +kernel
theorem d_Table_nextInBit_39 : decode prog_12_method_14_code 39 = .ok (.iand, 1) := by decide +kernel
theorem d_Table_nextInBit_40 : decode prog_12_method_14_code 40 = .ok (.goto 4, 3) := by decide +kernel
theorem d_Table_nextInBit_43 : decode prog_12_method_14_code 43 = .ok (.iconst 0, 1) := by decide +kernel
theorem d_Table_nextInBit_44 : decode prog_12_method_14_code 44 = .ok (.istore_n 2, 1) := by decide +kernel
theorem d_Table_nextInBit_45 : decode prog_12_method_14_code 45 = .ok (.aload_n 0, 1) := by decide +kernel
theorem d_Table_nextInBit_46 : decode prog_12_method_14_code 46 = .ok (.dup, 1) := by decide +kernel
theorem d_Table_nextInBit_47 : decode prog_12_method_14_code 47 = .ok (.getfield 23, 3) := by decide +kernel
theorem d_Table_nextInBit_50 : decode prog_12_method_14_code 50 = .ok (.iconst 1, 1) := by decide +kernel
theorem d_Table_nextInBit_51 : decode prog_12_method_14_code 51 = .ok (.iadd, 1) := by decide +kernel
theorem d_Table_nextInBit_52 : decode prog_12_method_14_code 52 = .ok (.putfield 23, 3) := by decide +kernel
theorem d_Table_nextInBit_55 : decode prog_12_method_14_code 55 = .ok (.iload_n 2, 1) := by decide +kernel
theorem d_Table_nextInBit_56 : decode prog_12_method_14_code 56 = .ok (.ireturn, 1) := by decide +kernel
theorem d_RC_get_0 : decode prog_1_method_13_code 0 = .ok (.aload_n 0, 1) := by decide +kernel
theorem d_RC_get_1 : decode prog_1_method_13_code 1 = .ok (.iload_n 1, 1) := by decide +kernel
theorem d_RC_get_2 : decode prog_1_method_13_code 2 = .ok (.invokevirtual 55, 3) := by decide +kernel
theorem d_RC_get_5 : decode prog_1_method_13_code 5 = .ok (.astore_n 2, 1) := by decide +kernel
theorem d_RC_get_6 : decode prog_1_method_13_code 6 = .ok (.aload_n 2, 1) := by decide +kernel
theorem d_RC_get_7 : decode prog_1_method_13_code 7 = .ok (.ifnonnull 5, 3) := by decide +kernel
theorem d_RC_get_10 : decode prog_1_method_13_code 10 = .ok (.iconst (-1), 1) := by decide +kernel
theorem d_RC_get_11 : decode prog_1_method_13_code 11 = .ok (.ireturn, 1) := by decide +kernel
theorem d_RC_get_12 : decode prog_1_method_13_code 12 = .ok (.aload_n 0, 1) := by decide +kernel
theorem d_RC_get_13 : decode prog_1_method_13_code 13 = .ok (.getfield 70, 3) := by decide +kernel
theorem d_RC_get_16 : decode prog_1_method_13_code 16 = .ok (.ifCond .ne 6, 3) := by decide +kernel
theorem d_RC_get_19 : decode prog_1_method_13_code 19 = .ok (.bipush (-3), 2) := by decide +kernel
theorem d_RC_get_21 : decode prog_1_method_13_code 21 = .ok (.ireturn, 1) := by decide +kernel
theorem d_RC_get_22 : decode prog_1_method_13_code 22 = .ok (.aload_n 0, 1) := by decide +kernel
theorem d_RC_get_23 : decode prog_1_method_13_code 23 = .ok (.getfield 123, 3) := by decide +kernel
theorem d_RC_get_26 : decode prog_1_method_13_code 26 = .ok (.ifCond .eq 8, 3) := by decide +kernel
theorem d_RC_get_29 : decode prog_1_method_13_code 29 = .ok (.bipush (-5), 2) := by decide +kernel
theorem d_RC_get_31 : decode prog_1_method_13_code 31 = .ok (.goto 18, 3) := by decide +kernel
theorem d_RC_get_34 : decode prog_1_method_13_code 34 = .ok (.aload_n 0, 1) := by decide +kernel
theorem d_RC_get_35 : decode prog_1_method_13_code 35 = .ok (.aload_n 0, 1) := by decide +kernel
theorem d_RC_get_36 : decode prog_1_method_13_code 36 = .ok (.getfield 23, 3) := by decide +kernel
theorem d_RC_get_39 : decode prog_1_method_13_code 39 = .ok (.aload_n 2, 1) := by decide +kernel
theorem d_RC_get_40 : decode prog_1_method_13_code 40 = .ok (.getfield 52, 3) := by decide +kernel
theorem d_RC_get_43 : decode prog_1_method_13_code 43 = .ok (.invokevirtual 139, 3) := by decide +kernel
theorem d_RC_get_46 : decode prog_1_method_13_code 46 = .ok (.invokevirtual 143, 3) := by decide +kernel
theorem d_RC_get_49 : decode prog_1_method_13_code 49 = .ok (.ireturn, 1) := by decide +kernel
theorem d_Bits_nextSign_0 : decode prog_2_method_7_code 0 = .ok (.aload_n 0, 1) := by decide +kernel
theorem d_Bits_nextSign_1 : decode prog_2_method_7_code 1 = .ok (.getfield 45, 3) := by decide +kernel
theorem d_Bits_nextSign_4 : decode prog_2_method_7_code 4 = .ok (.aload_n 0, 1) := by decide +kernel
theorem d_Bits_nextSign_5 : decode prog_2_method_7_code 5 = .ok (.getfield 48, 3) := by decide +kernel
theorem d_Bits_nextSign_8 : decode prog_2_method_7_code 8 = .ok (.lcmp, 1) := by decide +kernel
theorem d_Bits_nextSign_9 : decode prog_2_method_7_code 9 = .ok (.ifCond .lt 5, 3) := by decide +kernel
theorem d_Bits_nextSign_12 : decode prog_2_method_7_code 12 = .ok (.iconst (-1), 1) := by decide +kernel
theorem d_Bits_nextSign_13 : decode prog_2_method_7_code 13 = .ok (.ireturn, 1) := by decide +kernel
theorem d_Bits_nextSign_14 : decode prog_2_method_7_code 14 = .ok (.aload_n 0, 1) := by decide +kernel
theorem d_Bits_nextSign_15 : decode prog_2_method_7_code 15 = .ok (.invokevirtual 51, 3) := by decide +kernel
theorem d_Bits_nextSign_18 : decode prog_2_method_7_code 18 = .ok (.aload_n 1, 1) := by decide +kernel
theorem d_Bits_nextSign_19 : decode prog_2_method_7_code 19 = .ok (.getfield 28, 3) := by decide +kernel
theorem d_Bits_nextSign_22 : decode prog_2_method_7_code 22 = .ok (.invokestatic 17, 3) := by decide +kernel
theorem d_Bits_nextSign_25 : decode prog_2_method_7_code 25 = .ok (.istore_n 2, 1) := by decide +kernel
theorem d_Bits_nextSign_26 : decode prog_2_method_7_code 26 = .ok (.iconst 1, 1) := by decide +kernel
theorem d_Bits_nextSign_27 : decode prog_2_method_7_code 27 = .ok (.istore_n 3, 1) := by decide +kernel
theorem d_Bits_nextSign_28 : decode prog_2_method_7_code 28 = .ok (.iconst 0, 1) := by decide +kernel
theorem d_Bits_nextSign_29 : decode prog_2_method_7_code 29 = .ok (.istore 4, 2) := by decide +kernel
theorem d_Bits_nextSign_31 : decode prog_2_method_7_code 31 = .ok (.iload 4, 2) := by decide +kernel
theorem d_Bits_nextSign_33 : decode prog_2_method_7_code 33 = .ok (.iload_n 2, 1) := by decide +kernel
theorem d_Bits_nextSign_34 : decode prog_2_method_7_code 34 = .ok (.if_icmp .ge 20, 3) := by decide +kernel
theorem d_Bits_nextSign_37 : decode prog_2_method_7_code 37 = .ok (.iconst 2, 1) := by decide +kernel
theorem d_Bits_nextSign_38 : decode prog_2_method_7_code 38 = .ok (.iload_n 3, 1) := by decide +kernel
theorem d_Bits_nextSign_39 : decode prog_2_method_7_code 39 = .ok (.imul, 1) := by decide +kernel
theorem d_Bits_nextSign_40 : decode prog_2_method_7_code 40 = .ok (.aload_n 0, 1) := by decide +kernel
theorem d_Bits_nextSign_41 : decode prog_2_method_7_code 41 = .ok (.aload_n 1, 1) := by decide +kernel
theorem d_Bits_nextSign_42 : decode prog_2_method_7_code 42 = .ok (.iload_n 3, 1) := by decide +kernel
theorem d_Bits_nextSign_43 : decode prog_2_method_7_code 43 = .ok (.invokevirtual 54, 3) := by decide +kernel
theorem d_Bits_nextSign_46 : decode prog_2_method_7_code 46 = .ok (.iadd, 1) := by decide +kernel
theorem d_Bits_nextSign_47 : decode prog_2_method_7_code 47 = .ok (.istore_n 3, 1) := by decide +kernel
theorem d_Bits_nextSign_48 : decode prog_2_method_7_code 48 = .ok (.iinc 4 1, 3) := by decide +kernel
theorem d_Bits_nextSign_51 : decode prog_2_method_7_code 51 = .ok (.goto (-20), 3) := by decide +kernel
theorem d_Bits_nextSign_54 : decode prog_2_method_7_code 54 = .ok (.iload_n 3, 1) := by decide +kernel
theorem d_Bits_nextSign_55 : decode prog_2_method_7_code 55 = .ok (.iconst 1, 1) := by decide +kernel
theorem d_Bits_nextSign_56 : decode prog_2_method_7_code 56 = .ok (.iload_n 2, 1) := by decide +kernel
theorem d_Bits_nextSign_57 : decode prog_2_method_7_code 57 = .ok (.ishl, 1) := by decide +kernel
theorem d_Bits_nextSign_58 : decode prog_2_method_7_code 58 = .ok (.isub, 1) := by decide +kernel
theorem d_Bits_nextSign_59 : decode prog_2_method_7_code 59 = .ok (.istore 4, 2) := by decide +kernel
theorem d_Bits_nextSign_61 : decode prog_2_method_7_code 61 = .ok (.iload 4, 2) := by decide +kernel
theorem d_Bits_nextSign_63 : decode prog_2_method_7_code 63 = .ok (.aload_n 1, 1) := by decide +kernel
theorem d_Bits_nextSign_64 : decode prog_2_method_7_code 64 = .ok (.getfield 28, 3) := by decide +kernel
theorem d_Bits_nextSign_67 : decode prog_2_method_7_code 67 = .ok (.if_icmp .ge 8, 3) := by decide +kernel
theorem d_Bits_nextSign_70 : decode prog_2_method_7_code 70 = .ok (.iload 4, 2) := by decide +kernel
theorem d_Bits_nextSign_72 : decode prog_2_method_7_code 72 = .ok (.goto 7, 3) := by decide +kernel
theorem d_Bits_nextSign_75 : decode prog_2_method_7_code 75 = .ok (.aload_n 0, 1) := by decide +kernel
theorem d_Bits_nextSign_76 : decode prog_2_method_7_code 76 = .ok (.invokevirtual 58, 3) := by decide +kernel
theorem d_Bits_nextSign_79 : decode prog_2_method_7_code 79 = .ok (.ireturn, 1) := by decide +kernel
theorem d_Bits_keepReading_0 : decode prog_2_method_13_code 0 = .ok (.aload_n 0, 1) := by decide +kernel
theorem d_Bits_keepReading_1 : decode prog_2_method_13_code 1 = .ok (.aload_n 0, 1) := by decide +kernel
theorem d_Bits_keepReading_2 : decode prog_2_method_13_code 2 = .ok (.getfield 45, 3) := by decide +kernel
theorem d_Bits_keepReading_5 : decode prog_2_method_13_code 5 = .ok (.putfield 75, 3) := by decide +kernel
theorem d_Bits_keepReading_8 : decode prog_2_method_13_code 8 = .ok (.aload_n 0, 1) := by decide +kernel
theorem d_Bits_keepReading_9 : decode prog_2_method_13_code 9 = .ok (.aload_n 0, 1) := by decide +kernel
theorem d_Bits_keepReading_10 : decode prog_2_method_13_code 10 = .ok (.getfield 48, 3) := by decide +kernel
theorem d_Bits_keepReading_13 : decode prog_2_method_13_code 13 = .ok (.putfield 78, 3) := by decide +kernel
theorem d_Bits_keepReading_16 : decode prog_2_method_13_code 16 = .ok (.aload_n 0, 1) := by decide +kernel
theorem d_Bits_keepReading_17 : decode prog_2_method_13_code 17 = .ok (.aload_n 0, 1) := by decide +kernel
theorem d_Bits_keepReading_18 : decode prog_2_method_13_code 18 = .ok (.getfield 81, 3) := by decide +kernel
theorem d_Bits_keepReading_21 : decode prog_2_method_13_code 21 = .ok (.putfield 84, 3) := by decide +kernel
theorem d_Bits_keepReading_24 : decode prog_2_method_13_code 24 = .ok (.return_, 1) := by decide +kernel
theorem d_Bits_nextBit_0 : decode prog_2_method_11_code 0 = .ok (.aload_n 0, 1) := by decide +kernel
theorem d_Bits_nextBit_1 : decode prog_2_method_11_code 1 = .ok (.getfield 48, 3) := by decide +kernel
theorem d_Bits_nextBit_4 : decode prog_2_method_11_code 4 = .ok (.bipush 11, 2) := by decide +kernel
theorem d_Bits_nextBit_6 : decode prog_2_method_11_code 6 = .ok (.lushr, 1) := by decide +kernel
theorem d_Bits_nextBit_7 : decode prog_2_method_11_code 7 = .ok (.aload_n 1, 1) := by decide +kernel
theorem d_Bits_nextBit_8 : decode prog_2_method_11_code 8 = .ok (.iload_n 2, 1) := by decide +kernel
theorem d_Bits_nextBit_9 : decode prog_2_method_11_code 9 = .ok (.invokevirtual 65, 3) := by decide +kernel
theorem d_Bits_nextBit_12 : decode prog_2_method_11_code 12 = .ok (.i2l, 1) := by decide +kernel
theorem d_Bits_nextBit_13 : decode prog_2_method_11_code 13 = .ok (.lmul, 1) := by decide +kernel
theorem d_Bits_nextBit_14 : decode prog_2_method_11_code 14 = .ok (.lstore_n 3, 1) := by decide +kernel
theorem d_Bits_nextBit_15 : decode prog_2_method_11_code 15 = .ok (.aload_n 0, 1) := by decide +kernel
theorem d_Bits_nextBit_16 : decode prog_2_method_11_code 16 = .ok (.getfield 45, 3) := by decide +kernel
theorem d_Bits_nextBit_19 : decode prog_2_method_11_code 19 = .ok (.lload_n 3, 1) := by decide +kernel
theorem d_Bits_nextBit_20 : decode prog_2_method_11_code 20 = .ok (.lcmp, 1) := by decide +kernel
theorem d_Bits_nextBit_21 : decode prog_2_method_11_code 21 = .ok (.ifCond .ge 7, 3) := by decide +kernel
theorem d_Bits_nextBit_24 : decode prog_2_method_11_code 24 = .ok (.iconst 0, 1) := by decide +kernel
theorem d_Bits_nextBit_25 : decode prog_2_method_11_code 25 = .ok (.goto 4, 3) := by decide +kernel
theorem d_Bits_nextBit_28 : decode prog_2_method_11_code 28 = .ok (.iconst 1, 1) := by decide +kernel
theorem d_Bits_nextBit_29 : decode prog_2_method_11_code 29 = .ok (.istore 5, 2) := by decide +kernel
theorem d_Bits_nextBit_31 : decode prog_2_method_11_code 31 = .ok (.iload 5, 2) := by decide +kernel
theorem d_Bits_nextBit_33 : decode prog_2_method_11_code 33 = .ok (.ifCond .ne 11, 3) := by decide +kernel
theorem d_Bits_nextBit_36 : decode prog_2_method_11_code 36 = .ok (.aload_n 0, 1) := by decide +kernel
theorem d_Bits_nextBit_37 : decode prog_2_method_11_code 37 = .ok (.lload_n 3, 1) := by decide +kernel
theorem d_Bits_nextBit_38 : decode prog_2_method_11_code 38 = .ok (.putfield 48, 3) := by decide +kernel
theorem d_Bits_nextBit_41 : decode prog_2_method_11_code 41 = .ok (.goto 23, 3) := by decide +kernel
theorem d_Bits_nextBit_44 : decode prog_2_method_11_code 44 = .ok (.aload_n 0, 1) := by decide +kernel
theorem d_Bits_nextBit_45 : decode prog_2_method_11_code 45 = .ok (.dup, 1) := by decide +kernel
theorem d_Bits_nextBit_46 : decode prog_2_method_11_code 46 = .ok (.getfield 45, 3) := by decide +kernel
theorem d_Bits_nextBit_49 : decode prog_2_method_11_code 49 = .ok (.lload_n 3, 1) := by decide +kernel
theorem d_Bits_nextBit_50 : decode prog_2_method_11_code 50 = .ok (.lsub, 1) := by decide +kernel
theorem d_Bits_nextBit_51 : decode prog_2_method_11_code 51 = .ok (.putfield 45, 3) := by decide +kernel
theorem d_Bits_nextBit_54 : decode prog_2_method_11_code 54 = .ok (.aload_n 0, 1) := by decide +kernel
theorem d_Bits_nextBit_55 : decode prog_2_method_11_code 55 = .ok (.dup, 1) := by decide +kernel
theorem d_Bits_nextBit_56 : decode prog_2_method_11_code 56 = .ok (.getfield 48, 3) := by decide +kernel
theorem d_Bits_nextBit_59 : decode prog_2_method_11_code 59 = .ok (.lload_n 3, 1) := by decide +kernel
theorem d_Bits_nextBit_60 : decode prog_2_method_11_code 60 = .ok (.lsub, 1) := by decide +kernel
theorem d_Bits_nextBit_61 : decode prog_2_method_11_code 61 = .ok (.putfield 48, 3) := by decide +kernel
theorem d_Bits_nextBit_64 : decode prog_2_method_11_code 64 = .ok (.aload_n 0, 1) := by decide +kernel
theorem d_Bits_nextBit_65 : decode prog_2_method_11_code 65 = .ok (.aload_n 1, 1) := by decide +kernel
theorem d_Bits_nextBit_66 : decode prog_2_method_11_code 66 = .ok (.iload_n 2, 1) := by decide +kernel
theorem d_Bits_nextBit_67 : decode prog_2_method_11_code 67 = .ok (.iload 5, 2) := by decide +kernel
theorem d_Bits_nextBit_69 : decode prog_2_method_11_code 69 = .ok (.invokevirtual 68, 3) := by decide +kernel
theorem d_Bits_nextBit_72 : decode prog_2_method_11_code 72 = .ok (.aload_n 0, 1) := by decide +kernel
theorem d_Bits_nextBit_73 : decode prog_2_method_11_code 73 = .ok (.invokevirtual 62, 3) := by decide +kernel
theorem d_Bits_nextBit_76 : decode prog_2_method_11_code 76 = .ok (.iload 5, 2) := by decide +kernel
theorem d_Bits_nextBit_78 : decode prog_2_method_11_code 78 = .ok (.ireturn, 1) := by decide +kernel
theorem d_Carries_widenReading_0 : decode prog_3_method_7_code 0 = .ok (.iconst 0, 1) := by decide +kernel
theorem d_Carries_widenReading_1 : decode prog_3_method_7_code 1 = .ok (.istore_n 1, 1) := by decide +kernel
theorem d_Carries_widenReading_2 : decode prog_3_method_7_code 2 = .ok (.iload_n 1, 1) := by decide +kernel
theorem d_Carries_widenReading_3 : decode prog_3_method_7_code 3 = .ok (.bipush 8, 2) := by decide +kernel
theorem d_Carries_widenReading_5 : decode prog_3_method_7_code 5 = .ok (.if_icmp .ge 56, 3) := by decide +kernel
theorem d_Carries_widenReading_8 : decode prog_3_method_7_code 8 = .ok (.aload_n 0, 1) := by decide +kernel
theorem d_Carries_widenReading_9 : decode prog_3_method_7_code 9 = .ok (.getfield 31, 3) := by decide +kernel
theorem d_Carries_widenReading_12 : decode prog_3_method_7_code 12 = .ok (.ldc2_w 43, 3) := by decide +kernel
theorem d_Carries_widenReading_15 : decode prog_3_method_7_code 15 = .ok (.lcmp, 1) := by decide +kernel
theorem d_Carries_widenReading_16 : decode prog_3_method_7_code 16 = .ok (.ifCond .ge 45, 3) := by decide +kernel
theorem d_Carries_widenReading_19 : decode prog_3_method_7_code 19 = .ok (.aload_n 0, 1) := by decide +kernel
theorem d_Carries_widenReading_20 : decode prog_3_method_7_code 20 = .ok (.aload_n 0, 1) := by decide +kernel
theorem d_Carries_widenReading_21 : decode prog_3_method_7_code 21 = .ok (.getfield 31, 3) := by decide +kernel
theorem d_Carries_widenReading_24 : decode prog_3_method_7_code 24 = .ok (.bipush 8, 2) := by decide +kernel
theorem d_Carries_widenReading_26 : decode prog_3_method_7_code 26 = .ok (.lshl, 1) := by decide +kernel
theorem d_Carries_widenReading_27 : decode prog_3_method_7_code 27 = .ok (.ldc2_w 45, 3) := by decide +kernel
theorem d_Carries_widenReading_30 : decode prog_3_method_7_code 30 = .ok (.land, 1) := by decide +kernel
theorem d_Carries_widenReading_31 : decode prog_3_method_7_code 31 = .ok (.putfield 31, 3) := by decide +kernel
theorem d_Carries_widenReading_34 : decode prog_3_method_7_code 34 = .ok (.aload_n 0, 1) := by decide +kernel
theorem d_Carries_widenReading_35 : decode prog_3_method_7_code 35 = .ok (.aload_n 0, 1) := by decide +kernel
theorem d_Carries_widenReading_36 : decode prog_3_method_7_code 36 = .ok (.getfield 34, 3) := by decide +kernel
theorem d_Carries_widenReading_39 : decode prog_3_method_7_code 39 = .ok (.bipush 8, 2) := by decide +kernel
theorem d_Carries_widenReading_41 : decode prog_3_method_7_code 41 = .ok (.lshl, 1) := by decide +kernel
theorem d_Carries_widenReading_42 : decode prog_3_method_7_code 42 = .ok (.aload_n 0, 1) := by decide +kernel
theorem d_Carries_widenReading_43 : decode prog_3_method_7_code 43 = .ok (.invokevirtual 47, 3) := by decide +kernel
theorem d_Carries_widenReading_46 : decode prog_3_method_7_code 46 = .ok (.i2l, 1) := by decide +kernel
theorem d_Carries_widenReading_47 : decode prog_3_method_7_code 47 = .ok (.lor, 1) := by decide +kernel
theorem d_Carries_widenReading_48 : decode prog_3_method_7_code 48 = .ok (.ldc2_w 45, 3) := by decide +kernel
theorem d_Carries_widenReading_51 : decode prog_3_method_7_code 51 = .ok (.land, 1) := by decide +kernel
theorem d_Carries_widenReading_52 : decode prog_3_method_7_code 52 = .ok (.putfield 34, 3) := by decide +kernel
theorem d_Carries_widenReading_55 : decode prog_3_method_7_code 55 = .ok (.iinc 1 1, 3) := by decide +kernel
theorem d_Carries_widenReading_58 : decode prog_3_method_7_code 58 = .ok (.goto (-56), 3) := by decide +kernel
theorem d_Carries_widenReading_61 : decode prog_3_method_7_code 61 = .ok (.return_, 1) := by decide +kernel
theorem d_Bits_undone_0 : decode prog_2_method_14_code 0 = .ok (.aload_n 0, 1) := by decide +kernel
theorem d_Bits_undone_1 : decode prog_2_method_14_code 1 = .ok (.aload_n 0, 1) := by decide +kernel
theorem d_Bits_undone_2 : decode prog_2_method_14_code 2 = .ok (.getfield 75, 3) := by decide +kernel
theorem d_Bits_undone_5 : decode prog_2_method_14_code 5 = .ok (.putfield 45, 3) := by decide +kernel
theorem d_Bits_undone_8 : decode prog_2_method_14_code 8 = .ok (.aload_n 0, 1) := by decide +kernel
theorem d_Bits_undone_9 : decode prog_2_method_14_code 9 = .ok (.aload_n 0, 1) := by decide +kernel
theorem d_Bits_undone_10 : decode prog_2_method_14_code 10 = .ok (.getfield 78, 3) := by decide +kernel
theorem d_Bits_undone_13 : decode prog_2_method_14_code 13 = .ok (.putfield 48, 3) := by decide +kernel
theorem d_Bits_undone_16 : decode prog_2_method_14_code 16 = .ok (.aload_n 0, 1) := by decide +kernel
theorem d_Bits_undone_17 : decode prog_2_method_14_code 17 = .ok (.aload_n 0, 1) := by decide +kernel
theorem d_Bits_undone_18 : decode prog_2_method_14_code 18 = .ok (.getfield 84, 3) := by decide +kernel
theorem d_Bits_undone_21 : decode prog_2_method_14_code 21 = .ok (.putfield 81, 3) := by decide +kernel
theorem d_Bits_undone_24 : decode prog_2_method_14_code 24 = .ok (.iconst (-1), 1) := by decide +kernel
theorem d_Bits_undone_25 : decode prog_2_method_14_code 25 = .ok (.ireturn, 1) := by decide +kernel
theorem d_Ranged_nextSign_0 : decode prog_8_method_11_code 0 = .ok (.aload_n 0, 1) := by decide +kernel
theorem d_Ranged_nextSign_1 : decode prog_8_method_11_code 1 = .ok (.aload_n 1, 1) := by decide +kernel
theorem d_Ranged_nextSign_2 : decode prog_8_method_11_code 2 = .ok (.getfield 42, 3) := by decide +kernel
theorem d_Ranged_nextSign_5 : decode prog_8_method_11_code 5 = .ok (.invokevirtual 73, 3) := by decide +kernel
theorem d_Ranged_nextSign_8 : decode prog_8_method_11_code 8 = .ok (.istore_n 2, 1) := by decide +kernel
theorem d_Ranged_nextSign_9 : decode prog_8_method_11_code 9 = .ok (.iload_n 2, 1) := by decide +kernel
theorem d_Ranged_nextSign_10 : decode prog_8_method_11_code 10 = .ok (.iconst (-1), 1) := by decide +kernel
theorem d_Ranged_nextSign_11 : decode prog_8_method_11_code 11 = .ok (.if_icmp .ne 7, 3) := by decide +kernel
theorem d_Ranged_nextSign_14 : decode prog_8_method_11_code 14 = .ok (.iconst (-1), 1) := by decide +kernel
theorem d_Ranged_nextSign_15 : decode prog_8_method_11_code 15 = .ok (.goto 8, 3) := by decide +kernel
theorem d_Ranged_nextSign_18 : decode prog_8_method_11_code 18 = .ok (.aload_n 1, 1) := by decide +kernel
theorem d_Ranged_nextSign_19 : decode prog_8_method_11_code 19 = .ok (.iload_n 2, 1) := by decide +kernel
theorem d_Ranged_nextSign_20 : decode prog_8_method_11_code 20 = .ok (.invokevirtual 76, 3) := by decide +kernel
theorem d_Ranged_nextSign_23 : decode prog_8_method_11_code 23 = .ok (.istore_n 3, 1) := by decide +kernel
theorem d_Ranged_nextSign_24 : decode prog_8_method_11_code 24 = .ok (.iload_n 3, 1) := by decide +kernel
theorem d_Ranged_nextSign_25 : decode prog_8_method_11_code 25 = .ok (.iconst (-1), 1) := by decide +kernel
theorem d_Ranged_nextSign_26 : decode prog_8_method_11_code 26 = .ok (.if_icmp .eq 26, 3) := by decide +kernel
theorem d_Ranged_nextSign_29 : decode prog_8_method_11_code 29 = .ok (.aload_n 0, 1) := by decide +kernel
theorem d_Ranged_nextSign_30 : decode prog_8_method_11_code 30 = .ok (.aload_n 1, 1) := by decide +kernel
theorem d_Ranged_nextSign_31 : decode prog_8_method_11_code 31 = .ok (.iload_n 3, 1) := by decide +kernel
theorem d_Ranged_nextSign_32 : decode prog_8_method_11_code 32 = .ok (.invokevirtual 35, 3) := by decide +kernel
theorem d_Ranged_nextSign_35 : decode prog_8_method_11_code 35 = .ok (.aload_n 1, 1) := by decide +kernel
theorem d_Ranged_nextSign_36 : decode prog_8_method_11_code 36 = .ok (.iload_n 3, 1) := by decide +kernel
theorem d_Ranged_nextSign_37 : decode prog_8_method_11_code 37 = .ok (.invokevirtual 39, 3) := by decide +kernel
theorem d_Ranged_nextSign_40 : decode prog_8_method_11_code 40 = .ok (.aload_n 1, 1) := by decide +kernel
theorem d_Ranged_nextSign_41 : decode prog_8_method_11_code 41 = .ok (.getfield 42, 3) := by decide +kernel
theorem d_Ranged_nextSign_44 : decode prog_8_method_11_code 44 = .ok (.invokevirtual 79, 3) := by decide +kernel
theorem d_Ranged_nextSign_47 : decode prog_8_method_11_code 47 = .ok (.aload_n 1, 1) := by decide +kernel
theorem d_Ranged_nextSign_48 : decode prog_8_method_11_code 48 = .ok (.iload_n 3, 1) := by decide +kernel
theorem d_Ranged_nextSign_49 : decode prog_8_method_11_code 49 = .ok (.invokevirtual 50, 3) := by decide +kernel
theorem d_Ranged_nextSign_52 : decode prog_8_method_11_code 52 = .ok (.iload_n 3, 1) := by decide +kernel
theorem d_Ranged_nextSign_53 : decode prog_8_method_11_code 53 = .ok (.ireturn, 1) := by decide +kernel
theorem d_Ranged_nextShare_0 : decode prog_8_method_14_code 0 = .ok (.iload_n 1, 1) := by decide +kernel
theorem d_Ranged_nextShare_1 : decode prog_8_method_14_code 1 = .ok (.ifCond .le 13, 3) := by decide +kernel
theorem d_Ranged_nextShare_4 : decode prog_8_method_14_code 4 = .ok (.aload_n 0, 1) := by decide +kernel
theorem d_Ranged_nextShare_5 : decode prog_8_method_14_code 5 = .ok (.getfield 70, 3) := by decide +kernel
theorem d_Ranged_nextShare_8 : decode prog_8_method_14_code 8 = .ok (.iload_n 1, 1) := by decide +kernel
theorem d_Ranged_nextShare_9 : decode prog_8_method_14_code 9 = .ok (.i2l, 1) := by decide +kernel
theorem d_Ranged_nextShare_10 : decode prog_8_method_14_code 10 = .ok (.ldiv, 1) := by decide +kernel
theorem d_Ranged_nextShare_11 : decode prog_8_method_14_code 11 = .ok (.goto 4, 3) := by decide +kernel
theorem d_Ranged_nextShare_14 : decode prog_8_method_14_code 14 = .ok (.lconst 0, 1) := by decide +kernel
theorem d_Ranged_nextShare_15 : decode prog_8_method_14_code 15 = .ok (.lstore_n 2, 1) := by decide +kernel
theorem d_Ranged_nextShare_16 : decode prog_8_method_14_code 16 = .ok (.lload_n 2, 1) := by decide +kernel
theorem d_Ranged_nextShare_17 : decode prog_8_method_14_code 17 = .ok (.lconst 0, 1) := by decide +kernel
theorem d_Ranged_nextShare_18 : decode prog_8_method_14_code 18 = .ok (.lcmp, 1) := by decide +kernel
theorem d_Ranged_nextShare_19 : decode prog_8_method_14_code 19 = .ok (.ifCond .gt 5, 3) := by decide +kernel
theorem d_Ranged_nextShare_22 : decode prog_8_method_14_code 22 = .ok (.iconst (-1), 1) := by decide +kernel
theorem d_Ranged_nextShare_23 : decode prog_8_method_14_code 23 = .ok (.ireturn, 1) := by decide +kernel
theorem d_Ranged_nextShare_24 : decode prog_8_method_14_code 24 = .ok (.aload_n 0, 1) := by decide +kernel
theorem d_Ranged_nextShare_25 : decode prog_8_method_14_code 25 = .ok (.getfield 64, 3) := by decide +kernel
theorem d_Ranged_nextShare_28 : decode prog_8_method_14_code 28 = .ok (.aload_n 0, 1) := by decide +kernel
theorem d_Ranged_nextShare_29 : decode prog_8_method_14_code 29 = .ok (.getfield 67, 3) := by decide +kernel
theorem d_Ranged_nextShare_32 : decode prog_8_method_14_code 32 = .ok (.lsub, 1) := by decide +kernel
theorem d_Ranged_nextShare_33 : decode prog_8_method_14_code 33 = .ok (.ldc2_w 9, 3) := by decide +kernel
theorem d_Ranged_nextShare_36 : decode prog_8_method_14_code 36 = .ok (.land, 1) := by decide +kernel
theorem d_Ranged_nextShare_37 : decode prog_8_method_14_code 37 = .ok (.lload_n 2, 1) := by decide +kernel
theorem d_Ranged_nextShare_38 : decode prog_8_method_14_code 38 = .ok (.ldiv, 1) := by decide +kernel
theorem d_Ranged_nextShare_39 : decode prog_8_method_14_code 39 = .ok (.lstore 4, 2) := by decide +kernel
theorem d_Ranged_nextShare_41 : decode prog_8_method_14_code 41 = .ok (.lload 4, 2) := by decide +kernel
theorem d_Ranged_nextShare_43 : decode prog_8_method_14_code 43 = .ok (.iload_n 1, 1) := by decide +kernel
theorem d_Ranged_nextShare_44 : decode prog_8_method_14_code 44 = .ok (.i2l, 1) := by decide +kernel
theorem d_Ranged_nextShare_45 : decode prog_8_method_14_code 45 = .ok (.lcmp, 1) := by decide +kernel
theorem d_Ranged_nextShare_46 : decode prog_8_method_14_code 46 = .ok (.ifCond .ge 9, 3) := by decide +kernel
theorem d_Ranged_nextShare_49 : decode prog_8_method_14_code 49 = .ok (.lload 4, 2) := by decide +kernel
theorem d_Ranged_nextShare_51 : decode prog_8_method_14_code 51 = .ok (.l2i, 1) := by decide +kernel
theorem d_Ranged_nextShare_52 : decode prog_8_method_14_code 52 = .ok (.goto 4, 3) := by decide +kernel
theorem d_Ranged_nextShare_55 : decode prog_8_method_14_code 55 = .ok (.iconst (-1), 1) := by decide +kernel
theorem d_Ranged_nextShare_56 : decode prog_8_method_14_code 56 = .ok (.ireturn, 1) := by decide +kernel
theorem d_Odds_signAt_0 : decode prog_7_method_9_code 0 = .ok (.iconst 0, 1) := by decide +kernel
theorem d_Odds_signAt_1 : decode prog_7_method_9_code 1 = .ok (.istore_n 2, 1) := by decide +kernel
theorem d_Odds_signAt_2 : decode prog_7_method_9_code 2 = .ok (.iconst 0, 1) := by decide +kernel
theorem d_Odds_signAt_3 : decode prog_7_method_9_code 3 = .ok (.istore_n 3, 1) := by decide +kernel
theorem d_Odds_signAt_4 : decode prog_7_method_9_code 4 = .ok (.iload_n 3, 1) := by decide +kernel
theorem d_Odds_signAt_5 : decode prog_7_method_9_code 5 = .ok (.aload_n 0, 1) := by decide +kernel
theorem d_Odds_signAt_6 : decode prog_7_method_9_code 6 = .ok (.getfield 18, 3) := by decide +kernel
theorem d_Odds_signAt_9 : decode prog_7_method_9_code 9 = .ok (.arraylength, 1) := by decide +kernel
theorem d_Odds_signAt_10 : decode prog_7_method_9_code 10 = .ok (.if_icmp .ge 25, 3) := by decide +kernel
theorem d_Odds_signAt_13 : decode prog_7_method_9_code 13 = .ok (.iload_n 2, 1) := by decide +kernel
theorem d_Odds_signAt_14 : decode prog_7_method_9_code 14 = .ok (.aload_n 0, 1) := by decide +kernel
theorem d_Odds_signAt_15 : decode prog_7_method_9_code 15 = .ok (.getfield 18, 3) := by decide +kernel
theorem d_Odds_signAt_18 : decode prog_7_method_9_code 18 = .ok (.iload_n 3, 1) := by decide +kernel
theorem d_Odds_signAt_19 : decode prog_7_method_9_code 19 = .ok (.iaload, 1) := by decide +kernel
theorem d_Odds_signAt_20 : decode prog_7_method_9_code 20 = .ok (.iadd, 1) := by decide +kernel
theorem d_Odds_signAt_21 : decode prog_7_method_9_code 21 = .ok (.istore_n 2, 1) := by decide +kernel
theorem d_Odds_signAt_22 : decode prog_7_method_9_code 22 = .ok (.iload_n 1, 1) := by decide +kernel
theorem d_Odds_signAt_23 : decode prog_7_method_9_code 23 = .ok (.iload_n 2, 1) := by decide +kernel
theorem d_Odds_signAt_24 : decode prog_7_method_9_code 24 = .ok (.if_icmp .ge 5, 3) := by decide +kernel
theorem d_Odds_signAt_27 : decode prog_7_method_9_code 27 = .ok (.iload_n 3, 1) := by decide +kernel
theorem d_Odds_signAt_28 : decode prog_7_method_9_code 28 = .ok (.ireturn, 1) := by decide +kernel
theorem d_Odds_signAt_29 : decode prog_7_method_9_code 29 = .ok (.iinc 3 1, 3) := by decide +kernel
theorem d_Odds_signAt_32 : decode prog_7_method_9_code 32 = .ok (.goto (-28), 3) := by decide +kernel
theorem d_Odds_signAt_35 : decode prog_7_method_9_code 35 = .ok (.iconst (-1), 1) := by decide +kernel
theorem d_Odds_signAt_36 : decode prog_7_method_9_code 36 = .ok (.ireturn, 1) := by decide +kernel
theorem d_Carries_readPart_0 : decode prog_3_method_4_code 0 = .ok (.iload_n 3, 1) := by decide +kernel
theorem d_Carries_readPart_1 : decode prog_3_method_4_code 1 = .ok (.ifCond .le 13, 3) := by decide +kernel
theorem d_Carries_readPart_4 : decode prog_3_method_4_code 4 = .ok (.aload_n 0, 1) := by decide +kernel
theorem d_Carries_readPart_5 : decode prog_3_method_4_code 5 = .ok (.getfield 31, 3) := by decide +kernel
theorem d_Carries_readPart_8 : decode prog_3_method_4_code 8 = .ok (.iload_n 3, 1) := by decide +kernel
theorem d_Carries_readPart_9 : decode prog_3_method_4_code 9 = .ok (.i2l, 1) := by decide +kernel
theorem d_Carries_readPart_10 : decode prog_3_method_4_code 10 = .ok (.ldiv, 1) := by decide +kernel
theorem d_Carries_readPart_11 : decode prog_3_method_4_code 11 = .ok (.goto 4, 3) := by decide +kernel
theorem d_Carries_readPart_14 : decode prog_3_method_4_code 14 = .ok (.lconst 0, 1) := by decide +kernel
theorem d_Carries_readPart_15 : decode prog_3_method_4_code 15 = .ok (.lstore 4, 2) := by decide +kernel
theorem d_Carries_readPart_17 : decode prog_3_method_4_code 17 = .ok (.aload_n 0, 1) := by decide +kernel
theorem d_Carries_readPart_18 : decode prog_3_method_4_code 18 = .ok (.dup, 1) := by decide +kernel
theorem d_Carries_readPart_19 : decode prog_3_method_4_code 19 = .ok (.getfield 34, 3) := by decide +kernel
theorem d_Carries_readPart_22 : decode prog_3_method_4_code 22 = .ok (.lload 4, 2) := by decide +kernel
theorem d_Carries_readPart_24 : decode prog_3_method_4_code 24 = .ok (.iload_n 2, 1) := by decide +kernel
theorem d_Carries_readPart_25 : decode prog_3_method_4_code 25 = .ok (.i2l, 1) := by decide +kernel
theorem d_Carries_readPart_26 : decode prog_3_method_4_code 26 = .ok (.lmul, 1) := by decide +kernel
theorem d_Carries_readPart_27 : decode prog_3_method_4_code 27 = .ok (.lsub, 1) := by decide +kernel
theorem d_Carries_readPart_28 : decode prog_3_method_4_code 28 = .ok (.putfield 34, 3) := by decide +kernel
theorem d_Carries_readPart_31 : decode prog_3_method_4_code 31 = .ok (.aload_n 0, 1) := by decide +kernel
theorem d_Carries_readPart_32 : decode prog_3_method_4_code 32 = .ok (.lload 4, 2) := by decide +kernel
theorem d_Carries_readPart_34 : decode prog_3_method_4_code 34 = .ok (.iload_n 1, 1) := by decide +kernel
theorem d_Carries_readPart_35 : decode prog_3_method_4_code 35 = .ok (.i2l, 1) := by decide +kernel
theorem d_Carries_readPart_36 : decode prog_3_method_4_code 36 = .ok (.lmul, 1) := by decide +kernel
theorem d_Carries_readPart_37 : decode prog_3_method_4_code 37 = .ok (.putfield 31, 3) := by decide +kernel
theorem d_Carries_readPart_40 : decode prog_3_method_4_code 40 = .ok (.aload_n 0, 1) := by decide +kernel
theorem d_Carries_readPart_41 : decode prog_3_method_4_code 41 = .ok (.invokevirtual 37, 3) := by decide +kernel
theorem d_Carries_readPart_44 : decode prog_3_method_4_code 44 = .ok (.return_, 1) := by decide +kernel
theorem d_NoCarries_readPart_0 : decode prog_6_method_3_code 0 = .ok (.iload_n 3, 1) := by decide +kernel
theorem d_NoCarries_readPart_1 : decode prog_6_method_3_code 1 = .ok (.ifCond .le 13, 3) := by decide +kernel
theorem d_NoCarries_readPart_4 : decode prog_6_method_3_code 4 = .ok (.aload_n 0, 1) := by decide +kernel
theorem d_NoCarries_readPart_5 : decode prog_6_method_3_code 5 = .ok (.getfield 31, 3) := by decide +kernel
theorem d_NoCarries_readPart_8 : decode prog_6_method_3_code 8 = .ok (.iload_n 3, 1) := by decide +kernel
theorem d_NoCarries_readPart_9 : decode prog_6_method_3_code 9 = .ok (.i2l, 1) := by decide +kernel
theorem d_NoCarries_readPart_10 : decode prog_6_method_3_code 10 = .ok (.ldiv, 1) := by decide +kernel
theorem d_NoCarries_readPart_11 : decode prog_6_method_3_code 11 = .ok (.goto 4, 3) := by decide +kernel
theorem d_NoCarries_readPart_14 : decode prog_6_method_3_code 14 = .ok (.lconst 0, 1) := by decide +kernel
theorem d_NoCarries_readPart_15 : decode prog_6_method_3_code 15 = .ok (.lstore 4, 2) := by decide +kernel
theorem d_NoCarries_readPart_17 : decode prog_6_method_3_code 17 = .ok (.aload_n 0, 1) := by decide +kernel
theorem d_NoCarries_readPart_18 : decode prog_6_method_3_code 18 = .ok (.aload_n 0, 1) := by decide +kernel
theorem d_NoCarries_readPart_19 : decode prog_6_method_3_code 19 = .ok (.getfield 34, 3) := by decide +kernel
theorem d_NoCarries_readPart_22 : decode prog_6_method_3_code 22 = .ok (.lload 4, 2) := by decide +kernel
theorem d_NoCarries_readPart_24 : decode prog_6_method_3_code 24 = .ok (.iload_n 2, 1) := by decide +kernel
theorem d_NoCarries_readPart_25 : decode prog_6_method_3_code 25 = .ok (.i2l, 1) := by decide +kernel
theorem d_NoCarries_readPart_26 : decode prog_6_method_3_code 26 = .ok (.lmul, 1) := by decide +kernel
theorem d_NoCarries_readPart_27 : decode prog_6_method_3_code 27 = .ok (.ladd, 1) := by decide +kernel
theorem d_NoCarries_readPart_28 : decode prog_6_method_3_code 28 = .ok (.ldc2_w 18, 3) := by decide +kernel
theorem d_NoCarries_readPart_31 : decode prog_6_method_3_code 31 = .ok (.land, 1) := by decide +kernel
theorem d_NoCarries_readPart_32 : decode prog_6_method_3_code 32 = .ok (.putfield 34, 3) := by decide +kernel
theorem d_NoCarries_readPart_35 : decode prog_6_method_3_code 35 = .ok (.aload_n 0, 1) := by decide +kernel
theorem d_NoCarries_readPart_36 : decode prog_6_method_3_code 36 = .ok (.lload 4, 2) := by decide +kernel
theorem d_NoCarries_readPart_38 : decode prog_6_method_3_code 38 = .ok (.iload_n 1, 1) := by decide +kernel
theorem d_NoCarries_readPart_39 : decode prog_6_method_3_code 39 = .ok (.i2l, 1) := by decide +kernel
theorem d_NoCarries_readPart_40 : decode prog_6_method_3_code 40 = .ok (.lmul, 1) := by decide +kernel
theorem d_NoCarries_readPart_41 : decode prog_6_method_3_code 41 = .ok (.ldc2_w 18, 3) := by decide +kernel
theorem d_NoCarries_readPart_44 : decode prog_6_method_3_code 44 = .ok (.land, 1) := by decide +kernel
theorem d_NoCarries_readPart_45 : decode prog_6_method_3_code 45 = .ok (.putfield 31, 3) := by decide +kernel
theorem d_NoCarries_readPart_48 : decode prog_6_method_3_code 48 = .ok (.iconst 0, 1) := by decide +kernel
theorem d_NoCarries_readPart_49 : decode prog_6_method_3_code 49 = .ok (.istore 6, 2) := by decide +kernel
theorem d_NoCarries_readPart_51 : decode prog_6_method_3_code 51 = .ok (.iload 6, 2) := by decide +kernel
theorem d_NoCarries_readPart_53 : decode prog_6_method_3_code 53 = .ok (.bipush 8, 2) := by decide +kernel
theorem d_NoCarries_readPart_55 : decode prog_6_method_3_code 55 = .ok (.if_icmp .ge 74, 3) := by decide +kernel
theorem d_NoCarries_readPart_58 : decode prog_6_method_3_code 58 = .ok (.aload_n 0, 1) := by decide +kernel
theorem d_NoCarries_readPart_59 : decode prog_6_method_3_code 59 = .ok (.getfield 34, 3) := by decide +kernel
theorem d_NoCarries_readPart_62 : decode prog_6_method_3_code 62 = .ok (.aload_n 0, 1) := by decide +kernel
theorem d_NoCarries_readPart_63 : decode prog_6_method_3_code 63 = .ok (.getfield 31, 3) := by decide +kernel
theorem d_NoCarries_readPart_66 : decode prog_6_method_3_code 66 = .ok (.invokestatic 20, 3) := by decide +kernel
theorem d_NoCarries_readPart_69 : decode prog_6_method_3_code 69 = .ok (.ifCond .eq 60, 3) := by decide +kernel
theorem d_NoCarries_readPart_72 : decode prog_6_method_3_code 72 = .ok (.aload_n 0, 1) := by decide +kernel
theorem d_NoCarries_readPart_73 : decode prog_6_method_3_code 73 = .ok (.aload_n 0, 1) := by decide +kernel
theorem d_NoCarries_readPart_74 : decode prog_6_method_3_code 74 = .ok (.getfield 34, 3) := by decide +kernel
theorem d_NoCarries_readPart_77 : decode prog_6_method_3_code 77 = .ok (.aload_n 0, 1) := by decide +kernel
theorem d_NoCarries_readPart_78 : decode prog_6_method_3_code 78 = .ok (.getfield 31, 3) := by decide +kernel
theorem d_NoCarries_readPart_81 : decode prog_6_method_3_code 81 = .ok (.invokestatic 24, 3) := by decide +kernel
theorem d_NoCarries_readPart_84 : decode prog_6_method_3_code 84 = .ok (.putfield 31, 3) := by decide +kernel
theorem d_NoCarries_readPart_87 : decode prog_6_method_3_code 87 = .ok (.aload_n 0, 1) := by decide +kernel
theorem d_NoCarries_readPart_88 : decode prog_6_method_3_code 88 = .ok (.aload_n 0, 1) := by decide +kernel
theorem d_NoCarries_readPart_89 : decode prog_6_method_3_code 89 = .ok (.getfield 34, 3) := by decide +kernel
theorem d_NoCarries_readPart_92 : decode prog_6_method_3_code 92 = .ok (.bipush 8, 2) := by decide +kernel
theorem d_NoCarries_readPart_94 : decode prog_6_method_3_code 94 = .ok (.lshl, 1) := by decide +kernel
theorem d_NoCarries_readPart_95 : decode prog_6_method_3_code 95 = .ok (.ldc2_w 18, 3) := by decide +kernel
theorem d_NoCarries_readPart_98 : decode prog_6_method_3_code 98 = .ok (.land, 1) := by decide +kernel
theorem d_NoCarries_readPart_99 : decode prog_6_method_3_code 99 = .ok (.putfield 34, 3) := by decide +kernel
theorem d_NoCarries_readPart_102 : decode prog_6_method_3_code 102 = .ok (.aload_n 0, 1) := by decide +kernel
theorem d_NoCarries_readPart_103 : decode prog_6_method_3_code 103 = .ok (.aload_n 0, 1) := by decide +kernel
theorem d_NoCarries_readPart_104 : decode prog_6_method_3_code 104 = .ok (.getfield 37, 3) := by decide +kernel
theorem d_NoCarries_readPart_107 : decode prog_6_method_3_code 107 = .ok (.bipush 8, 2) := by decide +kernel
theorem d_NoCarries_readPart_109 : decode prog_6_method_3_code 109 = .ok (.lshl, 1) := by decide +kernel
theorem d_NoCarries_readPart_110 : decode prog_6_method_3_code 110 = .ok (.aload_n 0, 1) := by decide +kernel
theorem d_NoCarries_readPart_111 : decode prog_6_method_3_code 111 = .ok (.invokevirtual 40, 3) := by decide +kernel
theorem d_NoCarries_readPart_114 : decode prog_6_method_3_code 114 = .ok (.i2l, 1) := by decide +kernel
theorem d_NoCarries_readPart_115 : decode prog_6_method_3_code 115 = .ok (.lor, 1) := by decide +kernel
theorem d_NoCarries_readPart_116 : decode prog_6_method_3_code 116 = .ok (.ldc2_w 18, 3) := by decide +kernel
theorem d_NoCarries_readPart_119 : decode prog_6_method_3_code 119 = .ok (.land, 1) := by decide +kernel
theorem d_NoCarries_readPart_120 : decode prog_6_method_3_code 120 = .ok (.putfield 37, 3) := by decide +kernel
theorem d_NoCarries_readPart_123 : decode prog_6_method_3_code 123 = .ok (.iinc 6 1, 3) := by decide +kernel
theorem d_NoCarries_readPart_126 : decode prog_6_method_3_code 126 = .ok (.goto (-75), 3) := by decide +kernel
theorem d_NoCarries_readPart_129 : decode prog_6_method_3_code 129 = .ok (.return_, 1) := by decide +kernel
theorem d_Stack_nextSign_0 : decode prog_10_method_8_code 0 = .ok (.aload_n 0, 1) := by decide +kernel
theorem d_Stack_nextSign_1 : decode prog_10_method_8_code 1 = .ok (.getfield 54, 3) := by decide +kernel
theorem d_Stack_nextSign_4 : decode prog_10_method_8_code 4 = .ok (.ldc2_w 57, 3) := by decide +kernel
theorem d_Stack_nextSign_7 : decode prog_10_method_8_code 7 = .ok (.land, 1) := by decide +kernel
theorem d_Stack_nextSign_8 : decode prog_10_method_8_code 8 = .ok (.l2i, 1) := by decide +kernel
theorem d_Stack_nextSign_9 : decode prog_10_method_8_code 9 = .ok (.istore_n 2, 1) := by decide +kernel
theorem d_Stack_nextSign_10 : decode prog_10_method_8_code 10 = .ok (.aload_n 1, 1) := by decide +kernel
theorem d_Stack_nextSign_11 : decode prog_10_method_8_code 11 = .ok (.iload_n 2, 1) := by decide +kernel
theorem d_Stack_nextSign_12 : decode prog_10_method_8_code 12 = .ok (.invokevirtual 59, 3) := by decide +kernel
theorem d_Stack_nextSign_15 : decode prog_10_method_8_code 15 = .ok (.istore_n 3, 1) := by decide +kernel
theorem d_Stack_nextSign_16 : decode prog_10_method_8_code 16 = .ok (.iload_n 3, 1) := by decide +kernel
theorem d_Stack_nextSign_17 : decode prog_10_method_8_code 17 = .ok (.iconst (-1), 1) := by decide +kernel
theorem d_Stack_nextSign_18 : decode prog_10_method_8_code 18 = .ok (.if_icmp .eq 19, 3) := by decide +kernel
theorem d_Stack_nextSign_21 : decode prog_10_method_8_code 21 = .ok (.aload_n 0, 1) := by decide +kernel
theorem d_Stack_nextSign_22 : decode prog_10_method_8_code 22 = .ok (.aload_n 1, 1) := by decide +kernel
theorem d_Stack_nextSign_23 : decode prog_10_method_8_code 23 = .ok (.iload_n 3, 1) := by decide +kernel
theorem d_Stack_nextSign_24 : decode prog_10_method_8_code 24 = .ok (.invokevirtual 23, 3) := by decide +kernel
theorem d_Stack_nextSign_27 : decode prog_10_method_8_code 27 = .ok (.iload_n 2, 1) := by decide +kernel
theorem d_Stack_nextSign_28 : decode prog_10_method_8_code 28 = .ok (.aload_n 1, 1) := by decide +kernel
theorem d_Stack_nextSign_29 : decode prog_10_method_8_code 29 = .ok (.iload_n 3, 1) := by decide +kernel
theorem d_Stack_nextSign_30 : decode prog_10_method_8_code 30 = .ok (.invokevirtual 27, 3) := by decide +kernel
theorem d_Stack_nextSign_33 : decode prog_10_method_8_code 33 = .ok (.isub, 1) := by decide +kernel
theorem d_Stack_nextSign_34 : decode prog_10_method_8_code 34 = .ok (.invokevirtual 62, 3) := by decide +kernel
theorem d_Stack_nextSign_37 : decode prog_10_method_8_code 37 = .ok (.iload_n 3, 1) := by decide +kernel
theorem d_Stack_nextSign_38 : decode prog_10_method_8_code 38 = .ok (.ireturn, 1) := by decide +kernel
theorem d_Stack_unstackPart_0 : decode prog_10_method_12_code 0 = .ok (.aload_n 0, 1) := by decide +kernel
theorem d_Stack_unstackPart_1 : decode prog_10_method_12_code 1 = .ok (.iload_n 1, 1) := by decide +kernel
theorem d_Stack_unstackPart_2 : decode prog_10_method_12_code 2 = .ok (.i2l, 1) := by decide +kernel
theorem d_Stack_unstackPart_3 : decode prog_10_method_12_code 3 = .ok (.aload_n 0, 1) := by decide +kernel
theorem d_Stack_unstackPart_4 : decode prog_10_method_12_code 4 = .ok (.getfield 54, 3) := by decide +kernel
theorem d_Stack_unstackPart_7 : decode prog_10_method_12_code 7 = .ok (.bipush 12, 2) := by decide +kernel
theorem d_Stack_unstackPart_9 : decode prog_10_method_12_code 9 = .ok (.lushr, 1) := by decide +kernel
theorem d_Stack_unstackPart_10 : decode prog_10_method_12_code 10 = .ok (.lmul, 1) := by decide +kernel
theorem d_Stack_unstackPart_11 : decode prog_10_method_12_code 11 = .ok (.iload_n 2, 1) := by decide +kernel
theorem d_Stack_unstackPart_12 : decode prog_10_method_12_code 12 = .ok (.i2l, 1) := by decide +kernel
theorem d_Stack_unstackPart_13 : decode prog_10_method_12_code 13 = .ok (.ladd, 1) := by decide +kernel
theorem d_Stack_unstackPart_14 : decode prog_10_method_12_code 14 = .ok (.putfield 54, 3) := by decide +kernel
theorem d_Stack_unstackPart_17 : decode prog_10_method_12_code 17 = .ok (.iconst 0, 1) := by decide +kernel
theorem d_Stack_unstackPart_18 : decode prog_10_method_12_code 18 = .ok (.istore_n 3, 1) := by decide +kernel
theorem d_Stack_unstackPart_19 : decode prog_10_method_12_code 19 = .ok (.iload_n 3, 1) := by decide +kernel
theorem d_Stack_unstackPart_20 : decode prog_10_method_12_code 20 = .ok (.bipush 8, 2) := by decide +kernel
theorem d_Stack_unstackPart_22 : decode prog_10_method_12_code 22 = .ok (.if_icmp .ge 37, 3) := by decide +kernel
theorem d_Stack_unstackPart_25 : decode prog_10_method_12_code 25 = .ok (.aload_n 0, 1) := by decide +kernel
theorem d_Stack_unstackPart_26 : decode prog_10_method_12_code 26 = .ok (.getfield 54, 3) := by decide +kernel
theorem d_Stack_unstackPart_29 : decode prog_10_method_12_code 29 = .ok (.ldc2_w 17, 3) := by decide +kernel
theorem d_Stack_unstackPart_32 : decode prog_10_method_12_code 32 = .ok (.lcmp, 1) := by decide +kernel
theorem d_Stack_unstackPart_33 : decode prog_10_method_12_code 33 = .ok (.ifCond .ge 26, 3) := by decide +kernel
theorem d_Stack_unstackPart_36 : decode prog_10_method_12_code 36 = .ok (.aload_n 0, 1) := by decide +kernel
theorem d_Stack_unstackPart_37 : decode prog_10_method_12_code 37 = .ok (.aload_n 0, 1) := by decide +kernel
theorem d_Stack_unstackPart_38 : decode prog_10_method_12_code 38 = .ok (.getfield 54, 3) := by decide +kernel
theorem d_Stack_unstackPart_41 : decode prog_10_method_12_code 41 = .ok (.bipush 8, 2) := by decide +kernel
theorem d_Stack_unstackPart_43 : decode prog_10_method_12_code 43 = .ok (.lshl, 1) := by decide +kernel
theorem d_Stack_unstackPart_44 : decode prog_10_method_12_code 44 = .ok (.aload_n 0, 1) := by decide +kernel
theorem d_Stack_unstackPart_45 : decode prog_10_method_12_code 45 = .ok (.invokevirtual 73, 3) := by decide +kernel
theorem d_Stack_unstackPart_48 : decode prog_10_method_12_code 48 = .ok (.i2l, 1) := by decide +kernel
theorem d_Stack_unstackPart_49 : decode prog_10_method_12_code 49 = .ok (.lor, 1) := by decide +kernel
theorem d_Stack_unstackPart_50 : decode prog_10_method_12_code 50 = .ok (.putfield 54, 3) := by decide +kernel
theorem d_Stack_unstackPart_53 : decode prog_10_method_12_code 53 = .ok (.iinc 3 1, 3) := by decide +kernel
theorem d_Stack_unstackPart_56 : decode prog_10_method_12_code 56 = .ok (.goto (-37), 3) := by decide +kernel
theorem d_Stack_unstackPart_59 : decode prog_10_method_12_code 59 = .ok (.return_, 1) := by decide +kernel
theorem d_Table_nextSign_0 : decode prog_12_method_11_code 0 = .ok (.aload_n 1, 1) := by decide +kernel
theorem d_Table_nextSign_1 : decode prog_12_method_11_code 1 = .ok (.getfield 75, 3) := by decide +kernel
theorem d_Table_nextSign_4 : decode prog_12_method_11_code 4 = .ok (.ifCond .gt 5, 3) := by decide +kernel
theorem d_Table_nextSign_7 : decode prog_12_method_11_code 7 = .ok (.iconst (-1), 1) := by decide +kernel
theorem d_Table_nextSign_8 : decode prog_12_method_11_code 8 = .ok (.ireturn, 1) := by decide +kernel
theorem d_Table_nextSign_9 : decode prog_12_method_11_code 9 = .ok (.aload_n 0, 1) := by decide +kernel
theorem d_Table_nextSign_10 : decode prog_12_method_11_code 10 = .ok (.getfield 72, 3) := by decide +kernel
theorem d_Table_nextSign_13 : decode prog_12_method_11_code 13 = .ok (.l2i, 1) := by decide +kernel
theorem d_Table_nextSign_14 : decode prog_12_method_11_code 14 = .ok (.sipush 512, 3) := by decide +kernel
theorem d_Table_nextSign_17 : decode prog_12_method_11_code 17 = .ok (.isub, 1) := by decide +kernel
theorem d_Table_nextSign_18 : decode prog_12_method_11_code 18 = .ok (.istore_n 2, 1) := by decide +kernel
theorem d_Table_nextSign_19 : decode prog_12_method_11_code 19 = .ok (.aload_n 1, 1) := by decide +kernel
theorem d_Table_nextSign_20 : decode prog_12_method_11_code 20 = .ok (.iload_n 2, 1) := by decide +kernel
theorem d_Table_nextSign_21 : decode prog_12_method_11_code 21 = .ok (.invokevirtual 78, 3) := by decide +kernel
theorem d_Table_nextSign_24 : decode prog_12_method_11_code 24 = .ok (.istore_n 3, 1) := by decide +kernel
theorem d_Table_nextSign_25 : decode prog_12_method_11_code 25 = .ok (.aload_n 0, 1) := by decide +kernel
theorem d_Table_nextSign_26 : decode prog_12_method_11_code 26 = .ok (.aload_n 1, 1) := by decide +kernel
theorem d_Table_nextSign_27 : decode prog_12_method_11_code 27 = .ok (.iload_n 3, 1) := by decide +kernel
theorem d_Table_nextSign_28 : decode prog_12_method_11_code 28 = .ok (.invokevirtual 33, 3) := by decide +kernel
theorem d_Table_nextSign_31 : decode prog_12_method_11_code 31 = .ok (.aload_n 1, 1) := by decide +kernel
theorem d_Table_nextSign_32 : decode prog_12_method_11_code 32 = .ok (.iload_n 2, 1) := by decide +kernel
theorem d_Table_nextSign_33 : decode prog_12_method_11_code 33 = .ok (.invokevirtual 81, 3) := by decide +kernel
theorem d_Table_nextSign_36 : decode prog_12_method_11_code 36 = .ok (.iadd, 1) := by decide +kernel
theorem d_Table_nextSign_37 : decode prog_12_method_11_code 37 = .ok (.i2l, 1) := by decide +kernel
theorem d_Table_nextSign_38 : decode prog_12_method_11_code 38 = .ok (.putfield 72, 3) := by decide +kernel
theorem d_Table_nextSign_41 : decode prog_12_method_11_code 41 = .ok (.iconst 0, 1) := by decide +kernel
theorem d_Table_nextSign_42 : decode prog_12_method_11_code 42 = .ok (.istore 4, 2) := by decide +kernel
theorem d_Table_nextSign_44 : decode prog_12_method_11_code 44 = .ok (.iload 4, 2) := by decide +kernel
theorem d_Table_nextSign_46 : decode prog_12_method_11_code 46 = .ok (.bipush 9, 2) := by decide +kernel
theorem d_Table_nextSign_48 : decode prog_12_method_11_code 48 = .ok (.if_icmp .gt 38, 3) := by decide +kernel
theorem d_Table_nextSign_51 : decode prog_12_method_11_code 51 = .ok (.aload_n 0, 1) := by decide +kernel
theorem d_Table_nextSign_52 : decode prog_12_method_11_code 52 = .ok (.getfield 72, 3) := by decide +kernel
theorem d_Table_nextSign_55 : decode prog_12_method_11_code 55 = .ok (.ldc2_w 27, 3) := by decide +kernel
theorem d_Table_nextSign_58 : decode prog_12_method_11_code 58 = .ok (.lcmp, 1) := by decide +kernel
theorem d_Table_nextSign_59 : decode prog_12_method_11_code 59 = .ok (.ifCond .ge 27, 3) := by decide +kernel
theorem d_Table_nextSign_62 : decode prog_12_method_11_code 62 = .ok (.aload_n 0, 1) := by decide +kernel
theorem d_Table_nextSign_63 : decode prog_12_method_11_code 63 = .ok (.ldc2_w 37, 3) := by decide +kernel
theorem d_Table_nextSign_66 : decode prog_12_method_11_code 66 = .ok (.aload_n 0, 1) := by decide +kernel
theorem d_Table_nextSign_67 : decode prog_12_method_11_code 67 = .ok (.getfield 72, 3) := by decide +kernel
theorem d_Table_nextSign_70 : decode prog_12_method_11_code 70 = .ok (.lmul, 1) := by decide +kernel
theorem d_Table_nextSign_71 : decode prog_12_method_11_code 71 = .ok (.aload_n 0, 1) := by decide +kernel
theorem d_Table_nextSign_72 : decode prog_12_method_11_code 72 = .ok (.invokevirtual 84, 3) := by decide +kernel
theorem d_Table_nextSign_75 : decode prog_12_method_11_code 75 = .ok (.i2l, 1) := by decide +kernel
theorem d_Table_nextSign_76 : decode prog_12_method_11_code 76 = .ok (.ladd, 1) := by decide +kernel
theorem d_Table_nextSign_77 : decode prog_12_method_11_code 77 = .ok (.putfield 72, 3) := by decide +kernel
theorem d_Table_nextSign_80 : decode prog_12_method_11_code 80 = .ok (.iinc 4 1, 3) := by decide +kernel
theorem d_Table_nextSign_83 : decode prog_12_method_11_code 83 = .ok (.goto (-39), 3) := by decide +kernel
theorem d_Table_nextSign_86 : decode prog_12_method_11_code 86 = .ok (.iload_n 3, 1) := by decide +kernel
theorem d_Table_nextSign_87 : decode prog_12_method_11_code 87 = .ok (.ireturn, 1) := by decide +kernel
theorem d_Odds_signOfPlace_0 : decode prog_7_method_12_code 0 = .ok (.iload_n 1, 1) := by decide +kernel
theorem d_Odds_signOfPlace_1 : decode prog_7_method_12_code 1 = .ok (.ifCond .lt 21, 3) := by decide +kernel
theorem d_Odds_signOfPlace_4 : decode prog_7_method_12_code 4 = .ok (.iload_n 1, 1) := by decide +kernel
theorem d_Odds_signOfPlace_5 : decode prog_7_method_12_code 5 = .ok (.aload_n 0, 1) := by decide +kernel
theorem d_Odds_signOfPlace_6 : decode prog_7_method_12_code 6 = .ok (.getfield 22, 3) := by decide +kernel
theorem d_Odds_signOfPlace_9 : decode prog_7_method_12_code 9 = .ok (.arraylength, 1) := by decide +kernel
theorem d_Odds_signOfPlace_10 : decode prog_7_method_12_code 10 = .ok (.if_icmp .ge 12, 3) := by decide +kernel
theorem d_Odds_signOfPlace_13 : decode prog_7_method_12_code 13 = .ok (.aload_n 0, 1) := by decide +kernel
theorem d_Odds_signOfPlace_14 : decode prog_7_method_12_code 14 = .ok (.getfield 22, 3) := by decide +kernel
theorem d_Odds_signOfPlace_17 : decode prog_7_method_12_code 17 = .ok (.iload_n 1, 1) := by decide +kernel
theorem d_Odds_signOfPlace_18 : decode prog_7_method_12_code 18 = .ok (.iaload, 1) := by decide +kernel
theorem d_Odds_signOfPlace_19 : decode prog_7_method_12_code 19 = .ok (.goto 4, 3) := by decide +kernel
theorem d_Odds_signOfPlace_22 : decode prog_7_method_12_code 22 = .ok (.iconst (-1), 1) := by decide +kernel
theorem d_Odds_signOfPlace_23 : decode prog_7_method_12_code 23 = .ok (.ireturn, 1) := by decide +kernel
theorem d_Odds_numberOfPlace_0 : decode prog_7_method_13_code 0 = .ok (.aload_n 0, 1) := by decide +kernel
theorem d_Odds_numberOfPlace_1 : decode prog_7_method_13_code 1 = .ok (.iload_n 1, 1) := by decide +kernel
theorem d_Odds_numberOfPlace_2 : decode prog_7_method_13_code 2 = .ok (.invokevirtual 59, 3) := by decide +kernel
theorem d_Odds_numberOfPlace_5 : decode prog_7_method_13_code 5 = .ok (.istore_n 2, 1) := by decide +kernel
theorem d_Odds_numberOfPlace_6 : decode prog_7_method_13_code 6 = .ok (.iconst 0, 1) := by decide +kernel
theorem d_Odds_numberOfPlace_7 : decode prog_7_method_13_code 7 = .ok (.istore_n 3, 1) := by decide +kernel
theorem d_Odds_numberOfPlace_8 : decode prog_7_method_13_code 8 = .ok (.iconst 0, 1) := by decide +kernel
theorem d_Odds_numberOfPlace_9 : decode prog_7_method_13_code 9 = .ok (.istore 4, 2) := by decide +kernel
theorem d_Odds_numberOfPlace_11 : decode prog_7_method_13_code 11 = .ok (.iload 4, 2) := by decide +kernel
theorem d_Odds_numberOfPlace_13 : decode prog_7_method_13_code 13 = .ok (.iload_n 1, 1) := by decide +kernel
theorem d_Odds_numberOfPlace_14 : decode prog_7_method_13_code 14 = .ok (.if_icmp .ge 33, 3) := by decide +kernel
theorem d_Odds_numberOfPlace_17 : decode prog_7_method_13_code 17 = .ok (.iload 4, 2) := by decide +kernel
theorem d_Odds_numberOfPlace_19 : decode prog_7_method_13_code 19 = .ok (.aload_n 0, 1) := by decide +kernel
theorem d_Odds_numberOfPlace_20 : decode prog_7_method_13_code 20 = .ok (.getfield 22, 3) := by decide +kernel
theorem d_Odds_numberOfPlace_23 : decode prog_7_method_13_code 23 = .ok (.arraylength, 1) := by decide +kernel
theorem d_Odds_numberOfPlace_24 : decode prog_7_method_13_code 24 = .ok (.if_icmp .ge 23, 3) := by decide +kernel
theorem d_Odds_numberOfPlace_27 : decode prog_7_method_13_code 27 = .ok (.aload_n 0, 1) := by decide +kernel
theorem d_Odds_numberOfPlace_28 : decode prog_7_method_13_code 28 = .ok (.getfield 22, 3) := by decide +kernel
theorem d_Odds_numberOfPlace_31 : decode prog_7_method_13_code 31 = .ok (.iload 4, 2) := by decide +kernel
theorem d_Odds_numberOfPlace_33 : decode prog_7_method_13_code 33 = .ok (.iaload, 1) := by decide +kernel
theorem d_Odds_numberOfPlace_34 : decode prog_7_method_13_code 34 = .ok (.iload_n 2, 1) := by decide +kernel
theorem d_Odds_numberOfPlace_35 : decode prog_7_method_13_code 35 = .ok (.if_icmp .ne 6, 3) := by decide +kernel
theorem d_Odds_numberOfPlace_38 : decode prog_7_method_13_code 38 = .ok (.iinc 3 1, 3) := by decide +kernel
theorem d_Odds_numberOfPlace_41 : decode prog_7_method_13_code 41 = .ok (.iinc 4 1, 3) := by decide +kernel
theorem d_Odds_numberOfPlace_44 : decode prog_7_method_13_code 44 = .ok (.goto (-33), 3) := by decide +kernel
theorem d_Odds_numberOfPlace_47 : decode prog_7_method_13_code 47 = .ok (.iload_n 3, 1) := by decide +kernel
theorem d_Odds_numberOfPlace_48 : decode prog_7_method_13_code 48 = .ok (.ireturn, 1) := by decide +kernel
theorem d_RC_itemOrBad_0 : decode prog_1_method_21_code 0 = .ok (.iload_n 1, 1) := by decide +kernel
theorem d_RC_itemOrBad_1 : decode prog_1_method_21_code 1 = .ok (.iconst (-1), 1) := by decide +kernel
theorem d_RC_itemOrBad_2 : decode prog_1_method_21_code 2 = .ok (.if_icmp .ne 11, 3) := by decide +kernel
theorem d_RC_itemOrBad_5 : decode prog_1_method_21_code 5 = .ok (.aload_n 0, 1) := by decide +kernel
theorem d_RC_itemOrBad_6 : decode prog_1_method_21_code 6 = .ok (.iconst 1, 1) := by decide +kernel
theorem d_RC_itemOrBad_7 : decode prog_1_method_21_code 7 = .ok (.putfield 123, 3) := by decide +kernel
theorem d_RC_itemOrBad_10 : decode prog_1_method_21_code 10 = .ok (.bipush (-5), 2) := by decide +kernel
theorem d_RC_itemOrBad_12 : decode prog_1_method_21_code 12 = .ok (.ireturn, 1) := by decide +kernel
theorem d_RC_itemOrBad_13 : decode prog_1_method_21_code 13 = .ok (.aload_n 0, 1) := by decide +kernel
theorem d_RC_itemOrBad_14 : decode prog_1_method_21_code 14 = .ok (.dup, 1) := by decide +kernel
theorem d_RC_itemOrBad_15 : decode prog_1_method_21_code 15 = .ok (.getfield 126, 3) := by decide +kernel
theorem d_RC_itemOrBad_18 : decode prog_1_method_21_code 18 = .ok (.iconst 1, 1) := by decide +kernel
theorem d_RC_itemOrBad_19 : decode prog_1_method_21_code 19 = .ok (.iadd, 1) := by decide +kernel
theorem d_RC_itemOrBad_20 : decode prog_1_method_21_code 20 = .ok (.putfield 126, 3) := by decide +kernel
theorem d_RC_itemOrBad_23 : decode prog_1_method_21_code 23 = .ok (.iload_n 1, 1) := by decide +kernel
theorem d_RC_itemOrBad_24 : decode prog_1_method_21_code 24 = .ok (.ireturn, 1) := by decide +kernel
theorem d_RC_getBits_0 : decode prog_1_method_14_code 0 = .ok (.aload_n 0, 1) := by decide +kernel
theorem d_RC_getBits_1 : decode prog_1_method_14_code 1 = .ok (.getfield 23, 3) := by decide +kernel
theorem d_RC_getBits_4 : decode prog_1_method_14_code 4 = .ok (.iload_n 1, 1) := by decide +kernel
theorem d_RC_getBits_5 : decode prog_1_method_14_code 5 = .ok (.invokevirtual 81, 3) := by decide +kernel
theorem d_RC_getBits_8 : decode prog_1_method_14_code 8 = .ok (.ifCond .ne 6, 3) := by decide +kernel
theorem d_RC_getBits_11 : decode prog_1_method_14_code 11 = .ok (.bipush (-2), 2) := by decide +kernel
theorem d_RC_getBits_13 : decode prog_1_method_14_code 13 = .ok (.ireturn, 1) := by decide +kernel
theorem d_RC_getBits_14 : decode prog_1_method_14_code 14 = .ok (.aload_n 0, 1) := by decide +kernel
theorem d_RC_getBits_15 : decode prog_1_method_14_code 15 = .ok (.getfield 70, 3) := by decide +kernel
theorem d_RC_getBits_18 : decode prog_1_method_14_code 18 = .ok (.ifCond .ne 6, 3) := by decide +kernel
theorem d_RC_getBits_21 : decode prog_1_method_14_code 21 = .ok (.bipush (-3), 2) := by decide +kernel
theorem d_RC_getBits_23 : decode prog_1_method_14_code 23 = .ok (.ireturn, 1) := by decide +kernel
theorem d_RC_getBits_24 : decode prog_1_method_14_code 24 = .ok (.aload_n 0, 1) := by decide +kernel
theorem d_RC_getBits_25 : decode prog_1_method_14_code 25 = .ok (.getfield 123, 3) := by decide +kernel
theorem d_RC_getBits_28 : decode prog_1_method_14_code 28 = .ok (.ifCond .eq 8, 3) := by decide +kernel
theorem d_RC_getBits_31 : decode prog_1_method_14_code 31 = .ok (.bipush (-5), 2) := by decide +kernel
theorem d_RC_getBits_33 : decode prog_1_method_14_code 33 = .ok (.goto 15, 3) := by decide +kernel
theorem d_RC_getBits_36 : decode prog_1_method_14_code 36 = .ok (.aload_n 0, 1) := by decide +kernel
theorem d_RC_getBits_37 : decode prog_1_method_14_code 37 = .ok (.aload_n 0, 1) := by decide +kernel
theorem d_RC_getBits_38 : decode prog_1_method_14_code 38 = .ok (.getfield 23, 3) := by decide +kernel
theorem d_RC_getBits_41 : decode prog_1_method_14_code 41 = .ok (.iload_n 1, 1) := by decide +kernel
theorem d_RC_getBits_42 : decode prog_1_method_14_code 42 = .ok (.invokevirtual 146, 3) := by decide +kernel
theorem d_RC_getBits_45 : decode prog_1_method_14_code 45 = .ok (.invokevirtual 143, 3) := by decide +kernel
theorem d_RC_getBits_48 : decode prog_1_method_14_code 48 = .ok (.ireturn, 1) := by decide +kernel
theorem d_Bits_nextValue_0 : decode prog_2_method_8_code 0 = .ok (.aload_n 0, 1) := by decide +kernel
theorem d_Bits_nextValue_1 : decode prog_2_method_8_code 1 = .ok (.getfield 45, 3) := by decide +kernel
theorem d_Bits_nextValue_4 : decode prog_2_method_8_code 4 = .ok (.aload_n 0, 1) := by decide +kernel
theorem d_Bits_nextValue_5 : decode prog_2_method_8_code 5 = .ok (.getfield 48, 3) := by decide +kernel
theorem d_Bits_nextValue_8 : decode prog_2_method_8_code 8 = .ok (.lcmp, 1) := by decide +kernel
theorem d_Bits_nextValue_9 : decode prog_2_method_8_code 9 = .ok (.ifCond .lt 5, 3) := by decide +kernel
theorem d_Bits_nextValue_12 : decode prog_2_method_8_code 12 = .ok (.iconst (-1), 1) := by decide +kernel
theorem d_Bits_nextValue_13 : decode prog_2_method_8_code 13 = .ok (.ireturn, 1) := by decide +kernel
theorem d_Bits_nextValue_14 : decode prog_2_method_8_code 14 = .ok (.aload_n 0, 1) := by decide +kernel
theorem d_Bits_nextValue_15 : decode prog_2_method_8_code 15 = .ok (.invokevirtual 51, 3) := by decide +kernel
theorem d_Bits_nextValue_18 : decode prog_2_method_8_code 18 = .ok (.iconst 0, 1) := by decide +kernel
theorem d_Bits_nextValue_19 : decode prog_2_method_8_code 19 = .ok (.istore_n 2, 1) := by decide +kernel
theorem d_Bits_nextValue_20 : decode prog_2_method_8_code 20 = .ok (.iconst 0, 1) := by decide +kernel
theorem d_Bits_nextValue_21 : decode prog_2_method_8_code 21 = .ok (.istore_n 3, 1) := by decide +kernel
theorem d_Bits_nextValue_22 : decode prog_2_method_8_code 22 = .ok (.iload_n 3, 1) := by decide +kernel
theorem d_Bits_nextValue_23 : decode prog_2_method_8_code 23 = .ok (.iload_n 1, 1) := by decide +kernel
theorem d_Bits_nextValue_24 : decode prog_2_method_8_code 24 = .ok (.if_icmp .ge 83, 3) := by decide +kernel
theorem d_Bits_nextValue_27 : decode prog_2_method_8_code 27 = .ok (.aload_n 0, 1) := by decide +kernel
theorem d_Bits_nextValue_28 : decode prog_2_method_8_code 28 = .ok (.dup, 1) := by decide +kernel
theorem d_Bits_nextValue_29 : decode prog_2_method_8_code 29 = .ok (.getfield 48, 3) := by decide +kernel
theorem d_Bits_nextValue_32 : decode prog_2_method_8_code 32 = .ok (.iconst 1, 1) := by decide +kernel
theorem d_Bits_nextValue_33 : decode prog_2_method_8_code 33 = .ok (.lushr, 1) := by decide +kernel
theorem d_Bits_nextValue_34 : decode prog_2_method_8_code 34 = .ok (.putfield 48, 3) := by decide +kernel
theorem d_Bits_nextValue_37 : decode prog_2_method_8_code 37 = .ok (.aload_n 0, 1) := by decide +kernel
theorem d_Bits_nextValue_38 : decode prog_2_method_8_code 38 = .ok (.getfield 45, 3) := by decide +kernel
theorem d_Bits_nextValue_41 : decode prog_2_method_8_code 41 = .ok (.aload_n 0, 1) := by decide +kernel
theorem d_Bits_nextValue_42 : decode prog_2_method_8_code 42 = .ok (.getfield 48, 3) := by decide +kernel
theorem d_Bits_nextValue_45 : decode prog_2_method_8_code 45 = .ok (.lcmp, 1) := by decide +kernel
theorem d_Bits_nextValue_46 : decode prog_2_method_8_code 46 = .ok (.ifCond .ge 7, 3) := by decide +kernel
theorem d_Bits_nextValue_49 : decode prog_2_method_8_code 49 = .ok (.iconst 0, 1) := by decide +kernel
theorem d_Bits_nextValue_50 : decode prog_2_method_8_code 50 = .ok (.goto 4, 3) := by decide +kernel
theorem d_Bits_nextValue_53 : decode prog_2_method_8_code 53 = .ok (.iconst 1, 1) := by decide +kernel
theorem d_Bits_nextValue_54 : decode prog_2_method_8_code 54 = .ok (.istore 4, 2) := by decide +kernel
theorem d_Bits_nextValue_56 : decode prog_2_method_8_code 56 = .ok (.aload_n 0, 1) := by decide +kernel
theorem d_Bits_nextValue_57 : decode prog_2_method_8_code 57 = .ok (.dup, 1) := by decide +kernel
theorem d_Bits_nextValue_58 : decode prog_2_method_8_code 58 = .ok (.getfield 45, 3) := by decide +kernel
theorem d_Bits_nextValue_61 : decode prog_2_method_8_code 61 = .ok (.iload 4, 2) := by decide +kernel
theorem d_Bits_nextValue_63 : decode prog_2_method_8_code 63 = .ok (.i2l, 1) := by decide +kernel
theorem d_Bits_nextValue_64 : decode prog_2_method_8_code 64 = .ok (.aload_n 0, 1) := by decide +kernel
theorem d_Bits_nextValue_65 : decode prog_2_method_8_code 65 = .ok (.getfield 48, 3) := by decide +kernel
theorem d_Bits_nextValue_68 : decode prog_2_method_8_code 68 = .ok (.lmul, 1) := by decide +kernel
theorem d_Bits_nextValue_69 : decode prog_2_method_8_code 69 = .ok (.lsub, 1) := by decide +kernel
theorem d_Bits_nextValue_70 : decode prog_2_method_8_code 70 = .ok (.putfield 45, 3) := by decide +kernel
theorem d_Bits_nextValue_73 : decode prog_2_method_8_code 73 = .ok (.aload_n 0, 1) := by decide +kernel
theorem d_Bits_nextValue_74 : decode prog_2_method_8_code 74 = .ok (.getfield 45, 3) := by decide +kernel
theorem d_Bits_nextValue_77 : decode prog_2_method_8_code 77 = .ok (.aload_n 0, 1) := by decide +kernel
theorem d_Bits_nextValue_78 : decode prog_2_method_8_code 78 = .ok (.getfield 48, 3) := by decide +kernel
theorem d_Bits_nextValue_81 : decode prog_2_method_8_code 81 = .ok (.lcmp, 1) := by decide +kernel
theorem d_Bits_nextValue_82 : decode prog_2_method_8_code 82 = .ok (.ifCond .lt 8, 3) := by decide +kernel
theorem d_Bits_nextValue_85 : decode prog_2_method_8_code 85 = .ok (.aload_n 0, 1) := by decide +kernel
theorem d_Bits_nextValue_86 : decode prog_2_method_8_code 86 = .ok (.invokevirtual 58, 3) := by decide +kernel
theorem d_Bits_nextValue_89 : decode prog_2_method_8_code 89 = .ok (.ireturn, 1) := by decide +kernel
theorem d_Bits_nextValue_90 : decode prog_2_method_8_code 90 = .ok (.iconst 2, 1) := by decide +kernel
theorem d_Bits_nextValue_91 : decode prog_2_method_8_code 91 = .ok (.iload_n 2, 1) := by decide +kernel
theorem d_Bits_nextValue_92 : decode prog_2_method_8_code 92 = .ok (.imul, 1) := by decide +kernel
theorem d_Bits_nextValue_93 : decode prog_2_method_8_code 93 = .ok (.iload 4, 2) := by decide +kernel
theorem d_Bits_nextValue_95 : decode prog_2_method_8_code 95 = .ok (.iadd, 1) := by decide +kernel
theorem d_Bits_nextValue_96 : decode prog_2_method_8_code 96 = .ok (.istore_n 2, 1) := by decide +kernel
theorem d_Bits_nextValue_97 : decode prog_2_method_8_code 97 = .ok (.aload_n 0, 1) := by decide +kernel
theorem d_Bits_nextValue_98 : decode prog_2_method_8_code 98 = .ok (.invokevirtual 62, 3) := by decide +kernel
theorem d_Bits_nextValue_101 : decode prog_2_method_8_code 101 = .ok (.iinc 3 1, 3) := by decide +kernel
theorem d_Bits_nextValue_104 : decode prog_2_method_8_code 104 = .ok (.goto (-82), 3) := by decide +kernel
theorem d_Bits_nextValue_107 : decode prog_2_method_8_code 107 = .ok (.iload_n 2, 1) := by decide +kernel
theorem d_Bits_nextValue_108 : decode prog_2_method_8_code 108 = .ok (.ireturn, 1) := by decide +kernel
theorem d_Ranged_nextValue_0 : decode prog_8_method_12_code 0 = .ok (.aload_n 0, 1) := by decide +kernel
theorem d_Ranged_nextValue_1 : decode prog_8_method_12_code 1 = .ok (.iconst 1, 1) := by decide +kernel
theorem d_Ranged_nextValue_2 : decode prog_8_method_12_code 2 = .ok (.iload_n 1, 1) := by decide +kernel
theorem d_Ranged_nextValue_3 : decode prog_8_method_12_code 3 = .ok (.ishl, 1) := by decide +kernel
theorem d_Ranged_nextValue_4 : decode prog_8_method_12_code 4 = .ok (.invokevirtual 73, 3) := by decide +kernel
theorem d_Ranged_nextValue_7 : decode prog_8_method_12_code 7 = .ok (.istore_n 2, 1) := by decide +kernel
theorem d_Ranged_nextValue_8 : decode prog_8_method_12_code 8 = .ok (.iload_n 2, 1) := by decide +kernel
theorem d_Ranged_nextValue_9 : decode prog_8_method_12_code 9 = .ok (.iconst (-1), 1) := by decide +kernel
theorem d_Ranged_nextValue_10 : decode prog_8_method_12_code 10 = .ok (.if_icmp .eq 12, 3) := by decide +kernel
theorem d_Ranged_nextValue_13 : decode prog_8_method_12_code 13 = .ok (.aload_n 0, 1) := by decide +kernel
theorem d_Ranged_nextValue_14 : decode prog_8_method_12_code 14 = .ok (.iconst 1, 1) := by decide +kernel
theorem d_Ranged_nextValue_15 : decode prog_8_method_12_code 15 = .ok (.iload_n 2, 1) := by decide +kernel
theorem d_Ranged_nextValue_16 : decode prog_8_method_12_code 16 = .ok (.iconst 1, 1) := by decide +kernel
theorem d_Ranged_nextValue_17 : decode prog_8_method_12_code 17 = .ok (.iload_n 1, 1) := by decide +kernel
theorem d_Ranged_nextValue_18 : decode prog_8_method_12_code 18 = .ok (.ishl, 1) := by decide +kernel
theorem d_Ranged_nextValue_19 : decode prog_8_method_12_code 19 = .ok (.invokevirtual 79, 3) := by decide +kernel
theorem d_Ranged_nextValue_22 : decode prog_8_method_12_code 22 = .ok (.iload_n 2, 1) := by decide +kernel
theorem d_Ranged_nextValue_23 : decode prog_8_method_12_code 23 = .ok (.ireturn, 1) := by decide +kernel
theorem d_Stack_nextValue_0 : decode prog_10_method_9_code 0 = .ok (.aload_n 0, 1) := by decide +kernel
theorem d_Stack_nextValue_1 : decode prog_10_method_9_code 1 = .ok (.getfield 54, 3) := by decide +kernel
theorem d_Stack_nextValue_4 : decode prog_10_method_9_code 4 = .ok (.ldc2_w 57, 3) := by decide +kernel
theorem d_Stack_nextValue_7 : decode prog_10_method_9_code 7 = .ok (.land, 1) := by decide +kernel
theorem d_Stack_nextValue_8 : decode prog_10_method_9_code 8 = .ok (.l2i, 1) := by decide +kernel
theorem d_Stack_nextValue_9 : decode prog_10_method_9_code 9 = .ok (.istore_n 2, 1) := by decide +kernel
theorem d_Stack_nextValue_10 : decode prog_10_method_9_code 10 = .ok (.sipush 4096, 3) := by decide +kernel
theorem d_Stack_nextValue_13 : decode prog_10_method_9_code 13 = .ok (.iload_n 1, 1) := by decide +kernel
theorem d_Stack_nextValue_14 : decode prog_10_method_9_code 14 = .ok (.ishr, 1) := by decide +kernel
theorem d_Stack_nextValue_15 : decode prog_10_method_9_code 15 = .ok (.istore_n 3, 1) := by decide +kernel
theorem d_Stack_nextValue_16 : decode prog_10_method_9_code 16 = .ok (.iload_n 3, 1) := by decide +kernel
theorem d_Stack_nextValue_17 : decode prog_10_method_9_code 17 = .ok (.ifCond .gt 5, 3) := by decide +kernel
theorem d_Stack_nextValue_20 : decode prog_10_method_9_code 20 = .ok (.iconst (-1), 1) := by decide +kernel
theorem d_Stack_nextValue_21 : decode prog_10_method_9_code 21 = .ok (.ireturn, 1) := by decide +kernel
theorem d_Stack_nextValue_22 : decode prog_10_method_9_code 22 = .ok (.aload_n 0, 1) := by decide +kernel
theorem d_Stack_nextValue_23 : decode prog_10_method_9_code 23 = .ok (.iload_n 3, 1) := by decide +kernel
theorem d_Stack_nextValue_24 : decode prog_10_method_9_code 24 = .ok (.iload_n 2, 1) := by decide +kernel
theorem d_Stack_nextValue_25 : decode prog_10_method_9_code 25 = .ok (.iload_n 3, 1) := by decide +kernel
theorem d_Stack_nextValue_26 : decode prog_10_method_9_code 26 = .ok (.irem, 1) := by decide +kernel
theorem d_Stack_nextValue_27 : decode prog_10_method_9_code 27 = .ok (.invokevirtual 62, 3) := by decide +kernel
theorem d_Stack_nextValue_30 : decode prog_10_method_9_code 30 = .ok (.iload_n 2, 1) := by decide +kernel
theorem d_Stack_nextValue_31 : decode prog_10_method_9_code 31 = .ok (.iload_n 3, 1) := by decide +kernel
theorem d_Stack_nextValue_32 : decode prog_10_method_9_code 32 = .ok (.idiv, 1) := by decide +kernel
theorem d_Stack_nextValue_33 : decode prog_10_method_9_code 33 = .ok (.ireturn, 1) := by decide +kernel
theorem d_RC_told_0 : decode prog_1_method_15_code 0 = .ok (.iload_n 1, 1) := by decide +kernel
theorem d_RC_told_1 : decode prog_1_method_15_code 1 = .ok (.ifCond .lt 9, 3) := by decide +kernel
theorem d_RC_told_4 : decode prog_1_method_15_code 4 = .ok (.iload_n 1, 1) := by decide +kernel
theorem d_RC_told_5 : decode prog_1_method_15_code 5 = .ok (.bipush 7, 2) := by decide +kernel
theorem d_RC_told_7 : decode prog_1_method_15_code 7 = .ok (.if_icmp .le 6, 3) := by decide +kernel
theorem d_RC_told_10 : decode prog_1_method_15_code 10 = .ok (.bipush (-2), 2) := by decide +kernel
theorem d_RC_told_12 : decode prog_1_method_15_code 12 = .ok (.ireturn, 1) := by decide +kernel
theorem d_RC_told_13 : decode prog_1_method_15_code 13 = .ok (.iload_n 1, 1) := by decide +kernel
theorem d_RC_told_14 : decode prog_1_method_15_code 14 = .ok (.tableswitch 119 0 6 #[42, 47, 60, 71, 82, 87, 106], 42) := by decide +kernel
theorem d_RC_told_56 : decode prog_1_method_15_code 56 = .ok (.aload_n 0, 1) := by decide +kernel
theorem d_RC_told_57 : decode prog_1_method_15_code 57 = .ok (.getfield 63, 3) := by decide +kernel
theorem d_RC_told_60 : decode prog_1_method_15_code 60 = .ok (.ireturn, 1) := by decide +kernel
theorem d_RC_told_61 : decode prog_1_method_15_code 61 = .ok (.aload_n 0, 1) := by decide +kernel
theorem d_RC_told_62 : decode prog_1_method_15_code 62 = .ok (.getfield 66, 3) := by decide +kernel
theorem d_RC_told_65 : decode prog_1_method_15_code 65 = .ok (.ifCond .eq 7, 3) := by decide +kernel
theorem d_RC_told_68 : decode prog_1_method_15_code 68 = .ok (.iconst 1, 1) := by decide +kernel
theorem d_RC_told_69 : decode prog_1_method_15_code 69 = .ok (.goto 4, 3) := by decide +kernel
theorem d_RC_told_72 : decode prog_1_method_15_code 72 = .ok (.iconst 0, 1) := by decide +kernel
theorem d_RC_told_73 : decode prog_1_method_15_code 73 = .ok (.ireturn, 1) := by decide +kernel
theorem d_RC_told_74 : decode prog_1_method_15_code 74 = .ok (.aload_n 0, 1) := by decide +kernel
theorem d_RC_told_75 : decode prog_1_method_15_code 75 = .ok (.getfield 23, 3) := by decide +kernel
theorem d_RC_told_78 : decode prog_1_method_15_code 78 = .ok (.getfield 91, 3) := by decide +kernel
theorem d_RC_told_81 : decode prog_1_method_15_code 81 = .ok (.getfield 95, 3) := by decide +kernel
theorem d_RC_told_84 : decode prog_1_method_15_code 84 = .ok (.ireturn, 1) := by decide +kernel
theorem d_RC_told_85 : decode prog_1_method_15_code 85 = .ok (.aload_n 0, 1) := by decide +kernel
theorem d_RC_told_86 : decode prog_1_method_15_code 86 = .ok (.getfield 23, 3) := by decide +kernel
theorem d_RC_told_89 : decode prog_1_method_15_code 89 = .ok (.getfield 107, 3) := by decide +kernel
theorem d_RC_told_92 : decode prog_1_method_15_code 92 = .ok (.getfield 95, 3) := by decide +kernel
theorem d_RC_told_95 : decode prog_1_method_15_code 95 = .ok (.ireturn, 1) := by decide +kernel
theorem d_RC_told_96 : decode prog_1_method_15_code 96 = .ok (.aload_n 0, 1) := by decide +kernel
theorem d_RC_told_97 : decode prog_1_method_15_code 97 = .ok (.getfield 126, 3) := by decide +kernel
theorem d_RC_told_100 : decode prog_1_method_15_code 100 = .ok (.ireturn, 1) := by decide +kernel
theorem d_RC_told_101 : decode prog_1_method_15_code 101 = .ok (.aload_n 0, 1) := by decide +kernel
theorem d_RC_told_102 : decode prog_1_method_15_code 102 = .ok (.getfield 70, 3) := by decide +kernel
theorem d_RC_told_105 : decode prog_1_method_15_code 105 = .ok (.ifCond .eq 13, 3) := by decide +kernel
theorem d_RC_told_108 : decode prog_1_method_15_code 108 = .ok (.aload_n 0, 1) := by decide +kernel
theorem d_RC_told_109 : decode prog_1_method_15_code 109 = .ok (.getfield 23, 3) := by decide +kernel
theorem d_RC_told_112 : decode prog_1_method_15_code 112 = .ok (.invokevirtual 149, 3) := by decide +kernel
theorem d_RC_told_115 : decode prog_1_method_15_code 115 = .ok (.goto 4, 3) := by decide +kernel
theorem d_RC_told_118 : decode prog_1_method_15_code 118 = .ok (.iconst 0, 1) := by decide +kernel
theorem d_RC_told_119 : decode prog_1_method_15_code 119 = .ok (.ireturn, 1) := by decide +kernel
theorem d_RC_told_120 : decode prog_1_method_15_code 120 = .ok (.aload_n 0, 1) := by decide +kernel
theorem d_RC_told_121 : decode prog_1_method_15_code 121 = .ok (.getfield 123, 3) := by decide +kernel
theorem d_RC_told_124 : decode prog_1_method_15_code 124 = .ok (.ifCond .eq 7, 3) := by decide +kernel
theorem d_RC_told_127 : decode prog_1_method_15_code 127 = .ok (.iconst 1, 1) := by decide +kernel
theorem d_RC_told_128 : decode prog_1_method_15_code 128 = .ok (.goto 4, 3) := by decide +kernel
theorem d_RC_told_131 : decode prog_1_method_15_code 131 = .ok (.iconst 0, 1) := by decide +kernel
theorem d_RC_told_132 : decode prog_1_method_15_code 132 = .ok (.ireturn, 1) := by decide +kernel
theorem d_RC_told_133 : decode prog_1_method_15_code 133 = .ok (.aload_n 0, 1) := by decide +kernel
theorem d_RC_told_134 : decode prog_1_method_15_code 134 = .ok (.getfield 70, 3) := by decide +kernel
theorem d_RC_told_137 : decode prog_1_method_15_code 137 = .ok (.ifCond .eq 7, 3) := by decide +kernel
theorem d_RC_told_140 : decode prog_1_method_15_code 140 = .ok (.iconst 1, 1) := by decide +kernel
theorem d_RC_told_141 : decode prog_1_method_15_code 141 = .ok (.goto 4, 3) := by decide +kernel
theorem d_RC_told_144 : decode prog_1_method_15_code 144 = .ok (.iconst 0, 1) := by decide +kernel
theorem d_RC_told_145 : decode prog_1_method_15_code 145 = .ok (.ireturn, 1) := by decide +kernel
theorem d_Table_bytesAsked_0 : decode prog_12_method_5_code 0 = .ok (.aload_n 0, 1) := by decide +kernel
theorem d_Table_bytesAsked_1 : decode prog_12_method_5_code 1 = .ok (.getfield 23, 3) := by decide +kernel
theorem d_Table_bytesAsked_4 : decode prog_12_method_5_code 4 = .ok (.bipush 7, 2) := by decide +kernel
theorem d_Table_bytesAsked_6 : decode prog_12_method_5_code 6 = .ok (.iadd, 1) := by decide +kernel
theorem d_Table_bytesAsked_7 : decode prog_12_method_5_code 7 = .ok (.bipush 8, 2) := by decide +kernel
theorem d_Table_bytesAsked_9 : decode prog_12_method_5_code 9 = .ok (.idiv, 1) := by decide +kernel
theorem d_Table_bytesAsked_10 : decode prog_12_method_5_code 10 = .ok (.ireturn, 1) := by decide +kernel
theorem d_Coder_bytesAsked_0 : decode prog_4_method_14_code 0 = .ok (.aload_n 0, 1) := by decide +kernel
theorem d_Coder_bytesAsked_1 : decode prog_4_method_14_code 1 = .ok (.getfield 31, 3) := by decide +kernel
theorem d_Coder_bytesAsked_4 : decode prog_4_method_14_code 4 = .ok (.ireturn, 1) := by decide +kernel
theorem d_RC_state_0 : decode prog_1_method_16_code 0 = .ok (.iload_n 1, 1) := by decide +kernel
theorem d_RC_state_1 : decode prog_1_method_16_code 1 = .ok (.ifCond .lt 8, 3) := by decide +kernel
theorem d_RC_state_4 : decode prog_1_method_16_code 4 = .ok (.iload_n 1, 1) := by decide +kernel
theorem d_RC_state_5 : decode prog_1_method_16_code 5 = .ok (.iconst 5, 1) := by decide +kernel
theorem d_RC_state_6 : decode prog_1_method_16_code 6 = .ok (.if_icmp .le 7, 3) := by decide +kernel
theorem d_RC_state_9 : decode prog_1_method_16_code 9 = .ok (.ldc2_w 153, 3) := by decide +kernel
theorem d_RC_state_12 : decode prog_1_method_16_code 12 = .ok (.lreturn, 1) := by decide +kernel
theorem d_RC_state_13 : decode prog_1_method_16_code 13 = .ok (.iload_n 1, 1) := by decide +kernel
theorem d_RC_state_14 : decode prog_1_method_16_code 14 = .ok (.iconst 1, 1) := by decide +kernel
theorem d_RC_state_15 : decode prog_1_method_16_code 15 = .ok (.if_icmp .le 12, 3) := by decide +kernel
theorem d_RC_state_18 : decode prog_1_method_16_code 18 = .ok (.aload_n 0, 1) := by decide +kernel
theorem d_RC_state_19 : decode prog_1_method_16_code 19 = .ok (.getfield 70, 3) := by decide +kernel
theorem d_RC_state_22 : decode prog_1_method_16_code 22 = .ok (.ifCond .ne 5, 3) := by decide +kernel
theorem d_RC_state_25 : decode prog_1_method_16_code 25 = .ok (.lconst 0, 1) := by decide +kernel
theorem d_RC_state_26 : decode prog_1_method_16_code 26 = .ok (.lreturn, 1) := by decide +kernel
theorem d_RC_state_27 : decode prog_1_method_16_code 27 = .ok (.aload_n 0, 1) := by decide +kernel
theorem d_RC_state_28 : decode prog_1_method_16_code 28 = .ok (.getfield 23, 3) := by decide +kernel
theorem d_RC_state_31 : decode prog_1_method_16_code 31 = .ok (.iload_n 1, 1) := by decide +kernel
theorem d_RC_state_32 : decode prog_1_method_16_code 32 = .ok (.invokevirtual 155, 3) := by decide +kernel
theorem d_RC_state_35 : decode prog_1_method_16_code 35 = .ok (.lreturn, 1) := by decide +kernel
theorem d_Ranged_register_0 : decode prog_8_method_13_code 0 = .ok (.iload_n 1, 1) := by decide +kernel
theorem d_Ranged_register_1 : decode prog_8_method_13_code 1 = .ok (.tableswitch 60 0 4 #[35, 40, 45, 50, 55], 35) := by decide +kernel
theorem d_Ranged_register_36 : decode prog_8_method_13_code 36 = .ok (.aload_n 0, 1) := by decide +kernel
theorem d_Ranged_register_37 : decode prog_8_method_13_code 37 = .ok (.getfield 32, 3) := by decide +kernel
theorem d_Ranged_register_40 : decode prog_8_method_13_code 40 = .ok (.lreturn, 1) := by decide +kernel
theorem d_Ranged_register_41 : decode prog_8_method_13_code 41 = .ok (.aload_n 0, 1) := by decide +kernel
theorem d_Ranged_register_42 : decode prog_8_method_13_code 42 = .ok (.getfield 11, 3) := by decide +kernel
theorem d_Ranged_register_45 : decode prog_8_method_13_code 45 = .ok (.lreturn, 1) := by decide +kernel
theorem d_Ranged_register_46 : decode prog_8_method_13_code 46 = .ok (.aload_n 0, 1) := by decide +kernel
theorem d_Ranged_register_47 : decode prog_8_method_13_code 47 = .ok (.getfield 64, 3) := by decide +kernel
theorem d_Ranged_register_50 : decode prog_8_method_13_code 50 = .ok (.lreturn, 1) := by decide +kernel
theorem d_Ranged_register_51 : decode prog_8_method_13_code 51 = .ok (.aload_n 0, 1) := by decide +kernel
theorem d_Ranged_register_52 : decode prog_8_method_13_code 52 = .ok (.getfield 67, 3) := by decide +kernel
theorem d_Ranged_register_55 : decode prog_8_method_13_code 55 = .ok (.lreturn, 1) := by decide +kernel
theorem d_Ranged_register_56 : decode prog_8_method_13_code 56 = .ok (.aload_n 0, 1) := by decide +kernel
theorem d_Ranged_register_57 : decode prog_8_method_13_code 57 = .ok (.getfield 70, 3) := by decide +kernel
theorem d_Ranged_register_60 : decode prog_8_method_13_code 60 = .ok (.lreturn, 1) := by decide +kernel
theorem d_Ranged_register_61 : decode prog_8_method_13_code 61 = .ok (.lconst 0, 1) := by decide +kernel
theorem d_Ranged_register_62 : decode prog_8_method_13_code 62 = .ok (.lreturn, 1) := by decide +kernel
theorem d_Stacked_register_0 : decode prog_11_method_10_code 0 = .ok (.iload_n 1, 1) := by decide +kernel
theorem d_Stacked_register_1 : decode prog_11_method_10_code 1 = .ok (.iconst 5, 1) := by decide +kernel
theorem d_Stacked_register_2 : decode prog_11_method_10_code 2 = .ok (.if_icmp .ne 10, 3) := by decide +kernel
theorem d_Stacked_register_5 : decode prog_11_method_10_code 5 = .ok (.aload_n 0, 1) := by decide +kernel
theorem d_Stacked_register_6 : decode prog_11_method_10_code 6 = .ok (.getfield 61, 3) := by decide +kernel
theorem d_Stacked_register_9 : decode prog_11_method_10_code 9 = .ok (.goto 4, 3) := by decide +kernel
theorem d_Stacked_register_12 : decode prog_11_method_10_code 12 = .ok (.lconst 0, 1) := by decide +kernel
theorem d_Stacked_register_13 : decode prog_11_method_10_code 13 = .ok (.lreturn, 1) := by decide +kernel
theorem d_RC_chance_0 : decode prog_1_method_17_code 0 = .ok (.aload_n 0, 1) := by decide +kernel
theorem d_RC_chance_1 : decode prog_1_method_17_code 1 = .ok (.iload_n 1, 1) := by decide +kernel
theorem d_RC_chance_2 : decode prog_1_method_17_code 2 = .ok (.invokevirtual 55, 3) := by decide +kernel
theorem d_RC_chance_5 : decode prog_1_method_17_code 5 = .ok (.astore_n 3, 1) := by decide +kernel
theorem d_RC_chance_6 : decode prog_1_method_17_code 6 = .ok (.aload_n 3, 1) := by decide +kernel
theorem d_RC_chance_7 : decode prog_1_method_17_code 7 = .ok (.ifnull 14, 3) := by decide +kernel
theorem d_RC_chance_10 : decode prog_1_method_17_code 10 = .ok (.aload_n 3, 1) := by decide +kernel
theorem d_RC_chance_11 : decode prog_1_method_17_code 11 = .ok (.getfield 40, 3) := by decide +kernel
theorem d_RC_chance_14 : decode prog_1_method_17_code 14 = .ok (.iload_n 2, 1) := by decide +kernel
theorem d_RC_chance_15 : decode prog_1_method_17_code 15 = .ok (.invokevirtual 159, 3) := by decide +kernel
theorem d_RC_chance_18 : decode prog_1_method_17_code 18 = .ok (.ifCond .ne 5, 3) := by decide +kernel
theorem d_RC_chance_21 : decode prog_1_method_17_code 21 = .ok (.iconst (-1), 1) := by decide +kernel
theorem d_RC_chance_22 : decode prog_1_method_17_code 22 = .ok (.ireturn, 1) := by decide +kernel
theorem d_RC_chance_23 : decode prog_1_method_17_code 23 = .ok (.aload_n 3, 1) := by decide +kernel
theorem d_RC_chance_24 : decode prog_1_method_17_code 24 = .ok (.getfield 40, 3) := by decide +kernel
theorem d_RC_chance_27 : decode prog_1_method_17_code 27 = .ok (.iload_n 2, 1) := by decide +kernel
theorem d_RC_chance_28 : decode prog_1_method_17_code 28 = .ok (.invokevirtual 164, 3) := by decide +kernel
theorem d_RC_chance_31 : decode prog_1_method_17_code 31 = .ok (.ireturn, 1) := by decide +kernel
end
