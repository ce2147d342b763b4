theorem d_B_init_0 : decode b_B_init 0 = .ok (.aload_n 0, 1) := by decide +kernel
theorem d_B_init_1 : decode b_B_init 1 = .ok (.invokespecial 1, 3) := by decide +kernel
theorem d_B_init_4 : decode b_B_init 4 = .ok (.aload_n 0, 1) := by decide +kernel
theorem d_B_init_5 : decode b_B_init 5 = .ok (.bipush 9, 2) := by decide +kernel
theorem d_B_init_7 : decode b_B_init 7 = .ok (.newarray .int, 2) := by decide +kernel
theorem d_B_init_9 : decode b_B_init 9 = .ok (.putfield 9, 3) := by decide +kernel
theorem d_B_init_12 : decode b_B_init 12 = .ok (.aload_n 0, 1) := by decide +kernel
theorem d_B_init_13 : decode b_B_init 13 = .ok (.getfield 9, 3) := by decide +kernel
theorem d_B_init_16 : decode b_B_init 16 = .ok (.iconst 1, 1) := by decide +kernel
theorem d_B_init_17 : decode b_B_init 17 = .ok (.sipush 1000, 3) := by decide +kernel
theorem d_B_init_20 : decode b_B_init 20 = .ok (.iastore, 1) := by decide +kernel
theorem d_B_init_21 : decode b_B_init 21 = .ok (.aload_n 0, 1) := by decide +kernel
theorem d_B_init_22 : decode b_B_init 22 = .ok (.bipush 10, 2) := by decide +kernel
theorem d_B_init_24 : decode b_B_init 24 = .ok (.newarray .int, 2) := by decide +kernel
theorem d_B_init_26 : decode b_B_init 26 = .ok (.putfield 13, 3) := by decide +kernel
theorem d_B_init_29 : decode b_B_init 29 = .ok (.aload_n 0, 1) := by decide +kernel
theorem d_B_init_30 : decode b_B_init 30 = .ok (.bipush 6, 2) := by decide +kernel
theorem d_B_init_32 : decode b_B_init 32 = .ok (.newarray .boolean, 2) := by decide +kernel
theorem d_B_init_34 : decode b_B_init 34 = .ok (.putfield 16, 3) := by decide +kernel
theorem d_B_init_37 : decode b_B_init 37 = .ok (.aload_n 0, 1) := by decide +kernel
theorem d_B_init_38 : decode b_B_init 38 = .ok (.iconst 2, 1) := by decide +kernel
theorem d_B_init_39 : decode b_B_init 39 = .ok (.anewarray 20, 3) := by decide +kernel
theorem d_B_init_42 : decode b_B_init 42 = .ok (.putfield 22, 3) := by decide +kernel
theorem d_B_init_45 : decode b_B_init 45 = .ok (.iconst 0, 1) := by decide +kernel
theorem d_B_init_46 : decode b_B_init 46 = .ok (.istore_n 1, 1) := by decide +kernel
theorem d_B_init_47 : decode b_B_init 47 = .ok (.iload_n 1, 1) := by decide +kernel
theorem d_B_init_48 : decode b_B_init 48 = .ok (.iconst 2, 1) := by decide +kernel
theorem d_B_init_49 : decode b_B_init 49 = .ok (.if_icmp .ge 22, 3) := by decide +kernel
theorem d_B_init_52 : decode b_B_init 52 = .ok (.aload_n 0, 1) := by decide +kernel
theorem d_B_init_53 : decode b_B_init 53 = .ok (.getfield 22, 3) := by decide +kernel
theorem d_B_init_56 : decode b_B_init 56 = .ok (.iload_n 1, 1) := by decide +kernel
theorem d_B_init_57 : decode b_B_init 57 = .ok (.new 20, 3) := by decide +kernel
theorem d_B_init_60 : decode b_B_init 60 = .ok (.dup, 1) := by decide +kernel
theorem d_B_init_61 : decode b_B_init 61 = .ok (.invokespecial 26, 3) := by decide +kernel
theorem d_B_init_64 : decode b_B_init 64 = .ok (.aastore, 1) := by decide +kernel
theorem d_B_init_65 : decode b_B_init 65 = .ok (.iinc 1 1, 3) := by decide +kernel
theorem d_B_init_68 : decode b_B_init 68 = .ok (.goto (-21), 3) := by decide +kernel
theorem d_B_init_71 : decode b_B_init 71 = .ok (.aload_n 0, 1) := by decide +kernel
theorem d_B_init_72 : decode b_B_init 72 = .ok (.new 27, 3) := by decide +kernel
theorem d_B_init_75 : decode b_B_init 75 = .ok (.dup, 1) := by decide +kernel
theorem d_B_init_76 : decode b_B_init 76 = .ok (.invokespecial 29, 3) := by decide +kernel
theorem d_B_init_79 : decode b_B_init 79 = .ok (.putfield 30, 3) := by decide +kernel
theorem d_B_init_82 : decode b_B_init 82 = .ok (.aload_n 0, 1) := by decide +kernel
theorem d_B_init_83 : decode b_B_init 83 = .ok (.iconst 4, 1) := by decide +kernel
theorem d_B_init_84 : decode b_B_init 84 = .ok (.anewarray 34, 3) := by decide +kernel
theorem d_B_init_87 : decode b_B_init 87 = .ok (.putfield 36, 3) := by decide +kernel
theorem d_B_init_90 : decode b_B_init 90 = .ok (.iconst 0, 1) := by decide +kernel
theorem d_B_init_91 : decode b_B_init 91 = .ok (.istore_n 1, 1) := by decide +kernel
theorem d_B_init_92 : decode b_B_init 92 = .ok (.iload_n 1, 1) := by decide +kernel
theorem d_B_init_93 : decode b_B_init 93 = .ok (.iconst 4, 1) := by decide +kernel
theorem d_B_init_94 : decode b_B_init 94 = .ok (.if_icmp .ge 22, 3) := by decide +kernel
theorem d_B_init_97 : decode b_B_init 97 = .ok (.aload_n 0, 1) := by decide +kernel
theorem d_B_init_98 : decode b_B_init 98 = .ok (.getfield 36, 3) := by decide +kernel
theorem d_B_init_101 : decode b_B_init 101 = .ok (.iload_n 1, 1) := by decide +kernel
theorem d_B_init_102 : decode b_B_init 102 = .ok (.new 34, 3) := by decide +kernel
theorem d_B_init_105 : decode b_B_init 105 = .ok (.dup, 1) := by decide +kernel
theorem d_B_init_106 : decode b_B_init 106 = .ok (.invokespecial 40, 3) := by decide +kernel
theorem d_B_init_109 : decode b_B_init 109 = .ok (.aastore, 1) := by decide +kernel
theorem d_B_init_110 : decode b_B_init 110 = .ok (.iinc 1 1, 3) := by decide +kernel
theorem d_B_init_113 : decode b_B_init 113 = .ok (.goto (-21), 3) := by decide +kernel
theorem d_B_init_116 : decode b_B_init 116 = .ok (.aload_n 0, 1) := by decide +kernel
theorem d_B_init_117 : decode b_B_init 117 = .ok (.new 41, 3) := by decide +kernel
theorem d_B_init_120 : decode b_B_init 120 = .ok (.dup, 1) := by decide +kernel
theorem d_B_init_121 : decode b_B_init 121 = .ok (.invokespecial 43, 3) := by decide +kernel
theorem d_B_init_124 : decode b_B_init 124 = .ok (.putfield 44, 3) := by decide +kernel
theorem d_B_init_127 : decode b_B_init 127 = .ok (.aload_n 0, 1) := by decide +kernel
theorem d_B_init_128 : decode b_B_init 128 = .ok (.iconst 4, 1) := by decide +kernel
theorem d_B_init_129 : decode b_B_init 129 = .ok (.iconst 5, 1) := by decide +kernel
theorem d_B_init_130 : decode b_B_init 130 = .ok (.multianewarray 48 2, 4) := by decide +kernel
theorem d_B_init_134 : decode b_B_init 134 = .ok (.putfield 50, 3) := by decide +kernel
theorem d_B_init_137 : decode b_B_init 137 = .ok (.iconst 0, 1) := by decide +kernel
theorem d_B_init_138 : decode b_B_init 138 = .ok (.istore_n 1, 1) := by decide +kernel
theorem d_B_init_139 : decode b_B_init 139 = .ok (.iload_n 1, 1) := by decide +kernel
theorem d_B_init_140 : decode b_B_init 140 = .ok (.iconst 4, 1) := by decide +kernel
theorem d_B_init_141 : decode b_B_init 141 = .ok (.if_icmp .ge 31, 3) := by decide +kernel
theorem d_B_init_144 : decode b_B_init 144 = .ok (.iconst 0, 1) := by decide +kernel
theorem d_B_init_145 : decode b_B_init 145 = .ok (.istore_n 2, 1) := by decide +kernel
theorem d_B_init_146 : decode b_B_init 146 = .ok (.iload_n 2, 1) := by decide +kernel
theorem d_B_init_147 : decode b_B_init 147 = .ok (.iconst 5, 1) := by decide +kernel
theorem d_B_init_148 : decode b_B_init 148 = .ok (.if_icmp .ge 18, 3) := by decide +kernel
theorem d_B_init_151 : decode b_B_init 151 = .ok (.aload_n 0, 1) := by decide +kernel
theorem d_B_init_152 : decode b_B_init 152 = .ok (.getfield 50, 3) := by decide +kernel
theorem d_B_init_155 : decode b_B_init 155 = .ok (.iload_n 1, 1) := by decide +kernel
theorem d_B_init_156 : decode b_B_init 156 = .ok (.aaload, 1) := by decide +kernel
theorem d_B_init_157 : decode b_B_init 157 = .ok (.iload_n 2, 1) := by decide +kernel
theorem d_B_init_158 : decode b_B_init 158 = .ok (.iconst (-1), 1) := by decide +kernel
theorem d_B_init_159 : decode b_B_init 159 = .ok (.iastore, 1) := by decide +kernel
theorem d_B_init_160 : decode b_B_init 160 = .ok (.iinc 2 1, 3) := by decide +kernel
theorem d_B_init_163 : decode b_B_init 163 = .ok (.goto (-17), 3) := by decide +kernel
theorem d_B_init_166 : decode b_B_init 166 = .ok (.iinc 1 1, 3) := by decide +kernel
theorem d_B_init_169 : decode b_B_init 169 = .ok (.goto (-30), 3) := by decide +kernel
theorem d_B_init_172 : decode b_B_init 172 = .ok (.return_, 1) := by decide +kernel
theorem d_B_input_0 : decode b_B_input 0 = .ok (.iload_n 1, 1) := by decide +kernel
theorem d_B_input_1 : decode b_B_input 1 = .ok (.bipush 9, 2) := by decide +kernel
theorem d_B_input_3 : decode b_B_input 3 = .ok (.invokestatic 53, 3) := by decide +kernel
theorem d_B_input_6 : decode b_B_input 6 = .ok (.ifCond .ne 5, 3) := by decide +kernel
theorem d_B_input_9 : decode b_B_input 9 = .ok (.iconst (-1), 1) := by decide +kernel
theorem d_B_input_10 : decode b_B_input 10 = .ok (.ireturn, 1) := by decide +kernel
theorem d_B_input_11 : decode b_B_input 11 = .ok (.iload_n 2, 1) := by decide +kernel
theorem d_B_input_12 : decode b_B_input 12 = .ok (.getstatic 57, 3) := by decide +kernel
theorem d_B_input_15 : decode b_B_input 15 = .ok (.iload_n 1, 1) := by decide +kernel
theorem d_B_input_16 : decode b_B_input 16 = .ok (.iaload, 1) := by decide +kernel
theorem d_B_input_17 : decode b_B_input 17 = .ok (.invokestatic 60, 3) := by decide +kernel
theorem d_B_input_20 : decode b_B_input 20 = .ok (.ifCond .ne 6, 3) := by decide +kernel
theorem d_B_input_23 : decode b_B_input 23 = .ok (.bipush (-2), 2) := by decide +kernel
theorem d_B_input_25 : decode b_B_input 25 = .ok (.ireturn, 1) := by decide +kernel
theorem d_B_input_26 : decode b_B_input 26 = .ok (.aload_n 0, 1) := by decide +kernel
theorem d_B_input_27 : decode b_B_input 27 = .ok (.invokevirtual 63, 3) := by decide +kernel
theorem d_B_input_30 : decode b_B_input 30 = .ok (.aload_n 0, 1) := by decide +kernel
theorem d_B_input_31 : decode b_B_input 31 = .ok (.getfield 9, 3) := by decide +kernel
theorem d_B_input_34 : decode b_B_input 34 = .ok (.iload_n 1, 1) := by decide +kernel
theorem d_B_input_35 : decode b_B_input 35 = .ok (.iload_n 2, 1) := by decide +kernel
theorem d_B_input_36 : decode b_B_input 36 = .ok (.iastore, 1) := by decide +kernel
theorem d_B_input_37 : decode b_B_input 37 = .ok (.iload_n 1, 1) := by decide +kernel
theorem d_B_input_38 : decode b_B_input 38 = .ok (.iconst 1, 1) := by decide +kernel
theorem d_B_input_39 : decode b_B_input 39 = .ok (.if_icmp .ne 8, 3) := by decide +kernel
theorem d_B_input_42 : decode b_B_input 42 = .ok (.aload_n 0, 1) := by decide +kernel
theorem d_B_input_43 : decode b_B_input 43 = .ok (.iload_n 2, 1) := by decide +kernel
theorem d_B_input_44 : decode b_B_input 44 = .ok (.invokevirtual 66, 3) := by decide +kernel
theorem d_B_input_47 : decode b_B_input 47 = .ok (.aload_n 0, 1) := by decide +kernel
theorem d_B_input_48 : decode b_B_input 48 = .ok (.invokevirtual 70, 3) := by decide +kernel
theorem d_B_input_51 : decode b_B_input 51 = .ok (.iload_n 1, 1) := by decide +kernel
theorem d_B_input_52 : decode b_B_input 52 = .ok (.iconst 2, 1) := by decide +kernel
theorem d_B_input_53 : decode b_B_input 53 = .ok (.if_icmp .ne 14, 3) := by decide +kernel
theorem d_B_input_56 : decode b_B_input 56 = .ok (.iload_n 2, 1) := by decide +kernel
theorem d_B_input_57 : decode b_B_input 57 = .ok (.ifCond .eq 10, 3) := by decide +kernel
theorem d_B_input_60 : decode b_B_input 60 = .ok (.aload_n 0, 1) := by decide +kernel
theorem d_B_input_61 : decode b_B_input 61 = .ok (.iconst 2, 1) := by decide +kernel
theorem d_B_input_62 : decode b_B_input 62 = .ok (.iload_n 2, 1) := by decide +kernel
theorem d_B_input_63 : decode b_B_input 63 = .ok (.isub, 1) := by decide +kernel
theorem d_B_input_64 : decode b_B_input 64 = .ok (.invokevirtual 73, 3) := by decide +kernel
theorem d_B_input_67 : decode b_B_input 67 = .ok (.aload_n 0, 1) := by decide +kernel
theorem d_B_input_68 : decode b_B_input 68 = .ok (.invokevirtual 76, 3) := by decide +kernel
theorem d_B_input_71 : decode b_B_input 71 = .ok (.ireturn, 1) := by decide +kernel
theorem d_B_output_0 : decode b_B_output 0 = .ok (.iload_n 1, 1) := by decide +kernel
theorem d_B_output_1 : decode b_B_output 1 = .ok (.bipush 10, 2) := by decide +kernel
theorem d_B_output_3 : decode b_B_output 3 = .ok (.invokestatic 53, 3) := by decide +kernel
theorem d_B_output_6 : decode b_B_output 6 = .ok (.ifCond .ne 13, 3) := by decide +kernel
theorem d_B_output_9 : decode b_B_output 9 = .ok (.new 80, 3) := by decide +kernel
theorem d_B_output_12 : decode b_B_output 12 = .ok (.dup, 1) := by decide +kernel
theorem d_B_output_13 : decode b_B_output 13 = .ok (.ldc 82, 2) := by decide +kernel
theorem d_B_output_15 : decode b_B_output 15 = .ok (.invokespecial 84, 3) := by decide +kernel
theorem d_B_output_18 : decode b_B_output 18 = .ok (.athrow, 1) := by decide +kernel
theorem d_B_output_19 : decode b_B_output 19 = .ok (.aload_n 0, 1) := by decide +kernel
theorem d_B_output_20 : decode b_B_output 20 = .ok (.iload_n 1, 1) := by decide +kernel
theorem d_B_output_21 : decode b_B_output 21 = .ok (.invokevirtual 87, 3) := by decide +kernel
theorem d_B_output_24 : decode b_B_output 24 = .ok (.ireturn, 1) := by decide +kernel
theorem d_B_step_0 : decode b_B_step 0 = .ok (.iload_n 1, 1) := by decide +kernel
theorem d_B_step_1 : decode b_B_step 1 = .ok (.sipush 1000, 3) := by decide +kernel
theorem d_B_step_4 : decode b_B_step 4 = .ok (.invokestatic 60, 3) := by decide +kernel
theorem d_B_step_7 : decode b_B_step 7 = .ok (.ifCond .ne 6, 3) := by decide +kernel
theorem d_B_step_10 : decode b_B_step 10 = .ok (.bipush (-2), 2) := by decide +kernel
theorem d_B_step_12 : decode b_B_step 12 = .ok (.ireturn, 1) := by decide +kernel
theorem d_B_step_13 : decode b_B_step 13 = .ok (.aload_n 0, 1) := by decide +kernel
theorem d_B_step_14 : decode b_B_step 14 = .ok (.invokevirtual 63, 3) := by decide +kernel
theorem d_B_step_17 : decode b_B_step 17 = .ok (.iconst 0, 1) := by decide +kernel
theorem d_B_step_18 : decode b_B_step 18 = .ok (.istore_n 2, 1) := by decide +kernel
theorem d_B_step_19 : decode b_B_step 19 = .ok (.iload_n 2, 1) := by decide +kernel
theorem d_B_step_20 : decode b_B_step 20 = .ok (.iload_n 1, 1) := by decide +kernel
theorem d_B_step_21 : decode b_B_step 21 = .ok (.if_icmp .ge 13, 3) := by decide +kernel
theorem d_B_step_24 : decode b_B_step 24 = .ok (.aload_n 0, 1) := by decide +kernel
theorem d_B_step_25 : decode b_B_step 25 = .ok (.invokevirtual 91, 3) := by decide +kernel
theorem d_B_step_28 : decode b_B_step 28 = .ok (.iinc 2 1, 3) := by decide +kernel
theorem d_B_step_31 : decode b_B_step 31 = .ok (.goto (-12), 3) := by decide +kernel
theorem d_B_step_34 : decode b_B_step 34 = .ok (.aload_n 0, 1) := by decide +kernel
theorem d_B_step_35 : decode b_B_step 35 = .ok (.invokevirtual 76, 3) := by decide +kernel
theorem d_B_step_38 : decode b_B_step 38 = .ok (.ireturn, 1) := by decide +kernel
theorem d_B_pinch_0 : decode b_B_pinch 0 = .ok (.iload_n 1, 1) := by decide +kernel
theorem d_B_pinch_1 : decode b_B_pinch 1 = .ok (.iconst 4, 1) := by decide +kernel
theorem d_B_pinch_2 : decode b_B_pinch 2 = .ok (.invokestatic 53, 3) := by decide +kernel
theorem d_B_pinch_5 : decode b_B_pinch 5 = .ok (.ifCond .ne 5, 3) := by decide +kernel
theorem d_B_pinch_8 : decode b_B_pinch 8 = .ok (.iconst (-1), 1) := by decide +kernel
theorem d_B_pinch_9 : decode b_B_pinch 9 = .ok (.ireturn, 1) := by decide +kernel
theorem d_B_pinch_10 : decode b_B_pinch 10 = .ok (.iload_n 2, 1) := by decide +kernel
theorem d_B_pinch_11 : decode b_B_pinch 11 = .ok (.sipush 1000, 3) := by decide +kernel
theorem d_B_pinch_14 : decode b_B_pinch 14 = .ok (.invokestatic 60, 3) := by decide +kernel
theorem d_B_pinch_17 : decode b_B_pinch 17 = .ok (.ifCond .ne 6, 3) := by decide +kernel
theorem d_B_pinch_20 : decode b_B_pinch 20 = .ok (.bipush (-2), 2) := by decide +kernel
theorem d_B_pinch_22 : decode b_B_pinch 22 = .ok (.ireturn, 1) := by decide +kernel
theorem d_B_pinch_23 : decode b_B_pinch 23 = .ok (.aload_n 0, 1) := by decide +kernel
theorem d_B_pinch_24 : decode b_B_pinch 24 = .ok (.getfield 36, 3) := by decide +kernel
theorem d_B_pinch_27 : decode b_B_pinch 27 = .ok (.iload_n 1, 1) := by decide +kernel
theorem d_B_pinch_28 : decode b_B_pinch 28 = .ok (.aaload, 1) := by decide +kernel
theorem d_B_pinch_29 : decode b_B_pinch 29 = .ok (.iload_n 2, 1) := by decide +kernel
theorem d_B_pinch_30 : decode b_B_pinch 30 = .ok (.invokevirtual 94, 3) := by decide +kernel
theorem d_B_pinch_33 : decode b_B_pinch 33 = .ok (.invokestatic 98, 3) := by decide +kernel
theorem d_B_pinch_36 : decode b_B_pinch 36 = .ok (.ireturn, 1) := by decide +kernel
theorem d_B_learn_0 : decode b_B_learn 0 = .ok (.iload_n 1, 1) := by decide +kernel
theorem d_B_learn_1 : decode b_B_learn 1 = .ok (.iconst 4, 1) := by decide +kernel
theorem d_B_learn_2 : decode b_B_learn 2 = .ok (.invokestatic 53, 3) := by decide +kernel
theorem d_B_learn_5 : decode b_B_learn 5 = .ok (.ifCond .ne 5, 3) := by decide +kernel
theorem d_B_learn_8 : decode b_B_learn 8 = .ok (.iconst (-1), 1) := by decide +kernel
theorem d_B_learn_9 : decode b_B_learn 9 = .ok (.ireturn, 1) := by decide +kernel
theorem d_B_learn_10 : decode b_B_learn 10 = .ok (.aload_n 0, 1) := by decide +kernel
theorem d_B_learn_11 : decode b_B_learn 11 = .ok (.getfield 36, 3) := by decide +kernel
theorem d_B_learn_14 : decode b_B_learn 14 = .ok (.iload_n 1, 1) := by decide +kernel
theorem d_B_learn_15 : decode b_B_learn 15 = .ok (.aaload, 1) := by decide +kernel
theorem d_B_learn_16 : decode b_B_learn 16 = .ok (.invokevirtual 102, 3) := by decide +kernel
theorem d_B_learn_19 : decode b_B_learn 19 = .ok (.invokestatic 98, 3) := by decide +kernel
theorem d_B_learn_22 : decode b_B_learn 22 = .ok (.ireturn, 1) := by decide +kernel
theorem d_B_shed_0 : decode b_B_shed 0 = .ok (.iload_n 1, 1) := by decide +kernel
theorem d_B_shed_1 : decode b_B_shed 1 = .ok (.sipush 20000, 3) := by decide +kernel
theorem d_B_shed_4 : decode b_B_shed 4 = .ok (.invokestatic 60, 3) := by decide +kernel
theorem d_B_shed_7 : decode b_B_shed 7 = .ok (.ifCond .ne 6, 3) := by decide +kernel
theorem d_B_shed_10 : decode b_B_shed 10 = .ok (.bipush (-2), 2) := by decide +kernel
theorem d_B_shed_12 : decode b_B_shed 12 = .ok (.ireturn, 1) := by decide +kernel
theorem d_B_shed_13 : decode b_B_shed 13 = .ok (.aload_n 0, 1) := by decide +kernel
theorem d_B_shed_14 : decode b_B_shed 14 = .ok (.getfield 44, 3) := by decide +kernel
theorem d_B_shed_17 : decode b_B_shed 17 = .ok (.iload_n 1, 1) := by decide +kernel
theorem d_B_shed_18 : decode b_B_shed 18 = .ok (.invokevirtual 106, 3) := by decide +kernel
theorem d_B_shed_21 : decode b_B_shed 21 = .ok (.aload_n 0, 1) := by decide +kernel
theorem d_B_shed_22 : decode b_B_shed 22 = .ok (.getfield 44, 3) := by decide +kernel
theorem d_B_shed_25 : decode b_B_shed 25 = .ok (.invokevirtual 109, 3) := by decide +kernel
theorem d_B_shed_28 : decode b_B_shed 28 = .ok (.ireturn, 1) := by decide +kernel
theorem d_B_load_0 : decode b_B_load 0 = .ok (.iload_n 1, 1) := by decide +kernel
theorem d_B_load_1 : decode b_B_load 1 = .ok (.bipush 9, 2) := by decide +kernel
theorem d_B_load_3 : decode b_B_load 3 = .ok (.invokestatic 60, 3) := by decide +kernel
theorem d_B_load_6 : decode b_B_load 6 = .ok (.ifCond .ne 6, 3) := by decide +kernel
theorem d_B_load_9 : decode b_B_load 9 = .ok (.bipush (-2), 2) := by decide +kernel
theorem d_B_load_11 : decode b_B_load 11 = .ok (.ireturn, 1) := by decide +kernel
theorem d_B_load_12 : decode b_B_load 12 = .ok (.aload_n 0, 1) := by decide +kernel
theorem d_B_load_13 : decode b_B_load 13 = .ok (.getfield 44, 3) := by decide +kernel
theorem d_B_load_16 : decode b_B_load 16 = .ok (.iload_n 1, 1) := by decide +kernel
theorem d_B_load_17 : decode b_B_load 17 = .ok (.iload_n 2, 1) := by decide +kernel
theorem d_B_load_18 : decode b_B_load 18 = .ok (.invokevirtual 112, 3) := by decide +kernel
theorem d_B_load_21 : decode b_B_load 21 = .ok (.ireturn, 1) := by decide +kernel
theorem d_B_isOn_0 : decode b_B_isOn 0 = .ok (.aload_n 0, 1) := by decide +kernel
theorem d_B_isOn_1 : decode b_B_isOn 1 = .ok (.getfield 44, 3) := by decide +kernel
theorem d_B_isOn_4 : decode b_B_isOn 4 = .ok (.iload_n 1, 1) := by decide +kernel
theorem d_B_isOn_5 : decode b_B_isOn 5 = .ok (.invokevirtual 116, 3) := by decide +kernel
theorem d_B_isOn_8 : decode b_B_isOn 8 = .ok (.ifCond .ne 5, 3) := by decide +kernel
theorem d_B_isOn_11 : decode b_B_isOn 11 = .ok (.iconst (-1), 1) := by decide +kernel
theorem d_B_isOn_12 : decode b_B_isOn 12 = .ok (.ireturn, 1) := by decide +kernel
theorem d_B_isOn_13 : decode b_B_isOn 13 = .ok (.aload_n 0, 1) := by decide +kernel
theorem d_B_isOn_14 : decode b_B_isOn 14 = .ok (.getfield 44, 3) := by decide +kernel
theorem d_B_isOn_17 : decode b_B_isOn 17 = .ok (.iload_n 1, 1) := by decide +kernel
theorem d_B_isOn_18 : decode b_B_isOn 18 = .ok (.invokevirtual 119, 3) := by decide +kernel
theorem d_B_isOn_21 : decode b_B_isOn 21 = .ok (.invokestatic 98, 3) := by decide +kernel
theorem d_B_isOn_24 : decode b_B_isOn 24 = .ok (.ireturn, 1) := by decide +kernel
theorem d_B_bulb_0 : decode b_B_bulb 0 = .ok (.iload_n 1, 1) := by decide +kernel
theorem d_B_bulb_1 : decode b_B_bulb 1 = .ok (.bipush 6, 2) := by decide +kernel
theorem d_B_bulb_3 : decode b_B_bulb 3 = .ok (.invokestatic 53, 3) := by decide +kernel
theorem d_B_bulb_6 : decode b_B_bulb 6 = .ok (.ifCond .ne 5, 3) := by decide +kernel
theorem d_B_bulb_9 : decode b_B_bulb 9 = .ok (.iconst (-1), 1) := by decide +kernel
theorem d_B_bulb_10 : decode b_B_bulb 10 = .ok (.ireturn, 1) := by decide +kernel
theorem d_B_bulb_11 : decode b_B_bulb 11 = .ok (.aload_n 0, 1) := by decide +kernel
theorem d_B_bulb_12 : decode b_B_bulb 12 = .ok (.getfield 16, 3) := by decide +kernel
theorem d_B_bulb_15 : decode b_B_bulb 15 = .ok (.iload_n 1, 1) := by decide +kernel
theorem d_B_bulb_16 : decode b_B_bulb 16 = .ok (.iload_n 2, 1) := by decide +kernel
theorem d_B_bulb_17 : decode b_B_bulb 17 = .ok (.ifCond .ne 7, 3) := by decide +kernel
theorem d_B_bulb_20 : decode b_B_bulb 20 = .ok (.iconst 1, 1) := by decide +kernel
theorem d_B_bulb_21 : decode b_B_bulb 21 = .ok (.goto 4, 3) := by decide +kernel
theorem d_B_bulb_24 : decode b_B_bulb 24 = .ok (.iconst 0, 1) := by decide +kernel
theorem d_B_bulb_25 : decode b_B_bulb 25 = .ok (.bastore, 1) := by decide +kernel
theorem d_B_bulb_26 : decode b_B_bulb 26 = .ok (.getstatic 122, 3) := by decide +kernel
theorem d_B_bulb_29 : decode b_B_bulb 29 = .ok (.iload_n 1, 1) := by decide +kernel
theorem d_B_bulb_30 : decode b_B_bulb 30 = .ok (.iaload, 1) := by decide +kernel
theorem d_B_bulb_31 : decode b_B_bulb 31 = .ok (.istore_n 3, 1) := by decide +kernel
theorem d_B_bulb_32 : decode b_B_bulb 32 = .ok (.iload_n 2, 1) := by decide +kernel
theorem d_B_bulb_33 : decode b_B_bulb 33 = .ok (.ifCond .ne 12, 3) := by decide +kernel
theorem d_B_bulb_36 : decode b_B_bulb 36 = .ok (.aload_n 0, 1) := by decide +kernel
theorem d_B_bulb_37 : decode b_B_bulb 37 = .ok (.getfield 16, 3) := by decide +kernel
theorem d_B_bulb_40 : decode b_B_bulb 40 = .ok (.iload_n 3, 1) := by decide +kernel
theorem d_B_bulb_41 : decode b_B_bulb 41 = .ok (.baload, 1) := by decide +kernel
theorem d_B_bulb_42 : decode b_B_bulb 42 = .ok (.ifCond .eq 7, 3) := by decide +kernel
theorem d_B_bulb_45 : decode b_B_bulb 45 = .ok (.iconst 0, 1) := by decide +kernel
theorem d_B_bulb_46 : decode b_B_bulb 46 = .ok (.goto 6, 3) := by decide +kernel
theorem d_B_bulb_49 : decode b_B_bulb 49 = .ok (.iload_n 3, 1) := by decide +kernel
theorem d_B_bulb_50 : decode b_B_bulb 50 = .ok (.iconst 1, 1) := by decide +kernel
theorem d_B_bulb_51 : decode b_B_bulb 51 = .ok (.iadd, 1) := by decide +kernel
theorem d_B_bulb_52 : decode b_B_bulb 52 = .ok (.ireturn, 1) := by decide +kernel
theorem d_B_rain_0 : decode b_B_rain 0 = .ok (.iload_n 1, 1) := by decide +kernel
theorem d_B_rain_1 : decode b_B_rain 1 = .ok (.bipush 9, 2) := by decide +kernel
theorem d_B_rain_3 : decode b_B_rain 3 = .ok (.invokestatic 60, 3) := by decide +kernel
theorem d_B_rain_6 : decode b_B_rain 6 = .ok (.ifCond .ne 6, 3) := by decide +kernel
theorem d_B_rain_9 : decode b_B_rain 9 = .ok (.bipush (-2), 2) := by decide +kernel
theorem d_B_rain_11 : decode b_B_rain 11 = .ok (.ireturn, 1) := by decide +kernel
theorem d_B_rain_12 : decode b_B_rain 12 = .ok (.aload_n 0, 1) := by decide +kernel
theorem d_B_rain_13 : decode b_B_rain 13 = .ok (.getfield 125, 3) := by decide +kernel
theorem d_B_rain_16 : decode b_B_rain 16 = .ok (.istore_n 2, 1) := by decide +kernel
theorem d_B_rain_17 : decode b_B_rain 17 = .ok (.aload_n 0, 1) := by decide +kernel
theorem d_B_rain_18 : decode b_B_rain 18 = .ok (.iload_n 1, 1) := by decide +kernel
theorem d_B_rain_19 : decode b_B_rain 19 = .ok (.putfield 125, 3) := by decide +kernel
theorem d_B_rain_22 : decode b_B_rain 22 = .ok (.iload_n 2, 1) := by decide +kernel
theorem d_B_rain_23 : decode b_B_rain 23 = .ok (.ireturn, 1) := by decide +kernel
theorem d_B_window_0 : decode b_B_window 0 = .ok (.iload_n 1, 1) := by decide +kernel
theorem d_B_window_1 : decode b_B_window 1 = .ok (.iconst 4, 1) := by decide +kernel
theorem d_B_window_2 : decode b_B_window 2 = .ok (.invokestatic 53, 3) := by decide +kernel
theorem d_B_window_5 : decode b_B_window 5 = .ok (.ifCond .ne 5, 3) := by decide +kernel
theorem d_B_window_8 : decode b_B_window 8 = .ok (.iconst (-1), 1) := by decide +kernel
theorem d_B_window_9 : decode b_B_window 9 = .ok (.ireturn, 1) := by decide +kernel
theorem d_B_window_10 : decode b_B_window 10 = .ok (.iload_n 2, 1) := by decide +kernel
theorem d_B_window_11 : decode b_B_window 11 = .ok (.sipush 200, 3) := by decide +kernel
theorem d_B_window_14 : decode b_B_window 14 = .ok (.invokestatic 60, 3) := by decide +kernel
theorem d_B_window_17 : decode b_B_window 17 = .ok (.ifCond .ne 6, 3) := by decide +kernel
theorem d_B_window_20 : decode b_B_window 20 = .ok (.bipush (-2), 2) := by decide +kernel
theorem d_B_window_22 : decode b_B_window 22 = .ok (.ireturn, 1) := by decide +kernel
theorem d_B_window_23 : decode b_B_window 23 = .ok (.aload_n 0, 1) := by decide +kernel
theorem d_B_window_24 : decode b_B_window 24 = .ok (.getfield 36, 3) := by decide +kernel
theorem d_B_window_27 : decode b_B_window 27 = .ok (.iload_n 1, 1) := by decide +kernel
theorem d_B_window_28 : decode b_B_window 28 = .ok (.aaload, 1) := by decide +kernel
theorem d_B_window_29 : decode b_B_window 29 = .ok (.iload_n 2, 1) := by decide +kernel
theorem d_B_window_30 : decode b_B_window 30 = .ok (.putfield 129, 3) := by decide +kernel
theorem d_B_window_33 : decode b_B_window 33 = .ok (.aload_n 0, 1) := by decide +kernel
theorem d_B_window_34 : decode b_B_window 34 = .ok (.getfield 36, 3) := by decide +kernel
theorem d_B_window_37 : decode b_B_window 37 = .ok (.iload_n 1, 1) := by decide +kernel
theorem d_B_window_38 : decode b_B_window 38 = .ok (.aaload, 1) := by decide +kernel
theorem d_B_window_39 : decode b_B_window 39 = .ok (.invokevirtual 132, 3) := by decide +kernel
theorem d_B_window_42 : decode b_B_window 42 = .ok (.ireturn, 1) := by decide +kernel
theorem d_B_crash_0 : decode b_B_crash 0 = .ok (.aload_n 0, 1) := by decide +kernel
theorem d_B_crash_1 : decode b_B_crash 1 = .ok (.getfield 135, 3) := by decide +kernel
theorem d_B_crash_4 : decode b_B_crash 4 = .ok (.ifCond .eq 6, 3) := by decide +kernel
theorem d_B_crash_7 : decode b_B_crash 7 = .ok (.bipush (-3), 2) := by decide +kernel
theorem d_B_crash_9 : decode b_B_crash 9 = .ok (.ireturn, 1) := by decide +kernel
theorem d_B_crash_10 : decode b_B_crash 10 = .ok (.aload_n 0, 1) := by decide +kernel
theorem d_B_crash_11 : decode b_B_crash 11 = .ok (.invokevirtual 63, 3) := by decide +kernel
theorem d_B_crash_14 : decode b_B_crash 14 = .ok (.aload_n 0, 1) := by decide +kernel
theorem d_B_crash_15 : decode b_B_crash 15 = .ok (.iconst 1, 1) := by decide +kernel
theorem d_B_crash_16 : decode b_B_crash 16 = .ok (.putfield 135, 3) := by decide +kernel
theorem d_B_crash_19 : decode b_B_crash 19 = .ok (.aload_n 0, 1) := by decide +kernel
theorem d_B_crash_20 : decode b_B_crash 20 = .ok (.invokevirtual 70, 3) := by decide +kernel
theorem d_B_crash_23 : decode b_B_crash 23 = .ok (.iconst 0, 1) := by decide +kernel
theorem d_B_crash_24 : decode b_B_crash 24 = .ok (.istore_n 1, 1) := by decide +kernel
theorem d_B_crash_25 : decode b_B_crash 25 = .ok (.iload_n 1, 1) := by decide +kernel
theorem d_B_crash_26 : decode b_B_crash 26 = .ok (.iconst 4, 1) := by decide +kernel
theorem d_B_crash_27 : decode b_B_crash 27 = .ok (.if_icmp .ge 19, 3) := by decide +kernel
theorem d_B_crash_30 : decode b_B_crash 30 = .ok (.aload_n 0, 1) := by decide +kernel
theorem d_B_crash_31 : decode b_B_crash 31 = .ok (.getfield 36, 3) := by decide +kernel
theorem d_B_crash_34 : decode b_B_crash 34 = .ok (.iload_n 1, 1) := by decide +kernel
theorem d_B_crash_35 : decode b_B_crash 35 = .ok (.aaload, 1) := by decide +kernel
theorem d_B_crash_36 : decode b_B_crash 36 = .ok (.iconst 0, 1) := by decide +kernel
theorem d_B_crash_37 : decode b_B_crash 37 = .ok (.putfield 129, 3) := by decide +kernel
theorem d_B_crash_40 : decode b_B_crash 40 = .ok (.iinc 1 1, 3) := by decide +kernel
theorem d_B_crash_43 : decode b_B_crash 43 = .ok (.goto (-18), 3) := by decide +kernel
theorem d_B_crash_46 : decode b_B_crash 46 = .ok (.aload_n 0, 1) := by decide +kernel
theorem d_B_crash_47 : decode b_B_crash 47 = .ok (.invokevirtual 76, 3) := by decide +kernel
theorem d_B_crash_50 : decode b_B_crash 50 = .ok (.ireturn, 1) := by decide +kernel
theorem d_B_memory_0 : decode b_B_memory 0 = .ok (.iload_n 1, 1) := by decide +kernel
theorem d_B_memory_1 : decode b_B_memory 1 = .ok (.iconst 4, 1) := by decide +kernel
theorem d_B_memory_2 : decode b_B_memory 2 = .ok (.invokestatic 53, 3) := by decide +kernel
theorem d_B_memory_5 : decode b_B_memory 5 = .ok (.ifCond .ne 5, 3) := by decide +kernel
theorem d_B_memory_8 : decode b_B_memory 8 = .ok (.iconst (-1), 1) := by decide +kernel
theorem d_B_memory_9 : decode b_B_memory 9 = .ok (.ireturn, 1) := by decide +kernel
theorem d_B_memory_10 : decode b_B_memory 10 = .ok (.iload_n 2, 1) := by decide +kernel
theorem d_B_memory_11 : decode b_B_memory 11 = .ok (.iconst 5, 1) := by decide +kernel
theorem d_B_memory_12 : decode b_B_memory 12 = .ok (.invokestatic 53, 3) := by decide +kernel
theorem d_B_memory_15 : decode b_B_memory 15 = .ok (.ifCond .eq 11, 3) := by decide +kernel
theorem d_B_memory_18 : decode b_B_memory 18 = .ok (.iload_n 3, 1) := by decide +kernel
theorem d_B_memory_19 : decode b_B_memory 19 = .ok (.iconst 1, 1) := by decide +kernel
theorem d_B_memory_20 : decode b_B_memory 20 = .ok (.invokestatic 60, 3) := by decide +kernel
theorem d_B_memory_23 : decode b_B_memory 23 = .ok (.ifCond .ne 6, 3) := by decide +kernel
theorem d_B_memory_26 : decode b_B_memory 26 = .ok (.bipush (-2), 2) := by decide +kernel
theorem d_B_memory_28 : decode b_B_memory 28 = .ok (.ireturn, 1) := by decide +kernel
theorem d_B_memory_29 : decode b_B_memory 29 = .ok (.iload_n 3, 1) := by decide +kernel
theorem d_B_memory_30 : decode b_B_memory 30 = .ok (.ifCond .ne 35, 3) := by decide +kernel
theorem d_B_memory_33 : decode b_B_memory 33 = .ok (.aload_n 0, 1) := by decide +kernel
theorem d_B_memory_34 : decode b_B_memory 34 = .ok (.getfield 50, 3) := by decide +kernel
theorem d_B_memory_37 : decode b_B_memory 37 = .ok (.iload_n 1, 1) := by decide +kernel
theorem d_B_memory_38 : decode b_B_memory 38 = .ok (.aaload, 1) := by decide +kernel
theorem d_B_memory_39 : decode b_B_memory 39 = .ok (.iload_n 2, 1) := by decide +kernel
theorem d_B_memory_40 : decode b_B_memory 40 = .ok (.iload_n 2, 1) := by decide +kernel
theorem d_B_memory_41 : decode b_B_memory 41 = .ok (.iconst 4, 1) := by decide +kernel
theorem d_B_memory_42 : decode b_B_memory 42 = .ok (.if_icmp .ge 15, 3) := by decide +kernel
theorem d_B_memory_45 : decode b_B_memory 45 = .ok (.aload_n 0, 1) := by decide +kernel
theorem d_B_memory_46 : decode b_B_memory 46 = .ok (.getfield 36, 3) := by decide +kernel
theorem d_B_memory_49 : decode b_B_memory 49 = .ok (.iload_n 2, 1) := by decide +kernel
theorem d_B_memory_50 : decode b_B_memory 50 = .ok (.aaload, 1) := by decide +kernel
theorem d_B_memory_51 : decode b_B_memory 51 = .ok (.getfield 129, 3) := by decide +kernel
theorem d_B_memory_54 : decode b_B_memory 54 = .ok (.goto 7, 3) := by decide +kernel
theorem d_B_memory_57 : decode b_B_memory 57 = .ok (.aload_n 0, 1) := by decide +kernel
theorem d_B_memory_58 : decode b_B_memory 58 = .ok (.getfield 139, 3) := by decide +kernel
theorem d_B_memory_61 : decode b_B_memory 61 = .ok (.iastore, 1) := by decide +kernel
theorem d_B_memory_62 : decode b_B_memory 62 = .ok (.goto 16, 3) := by decide +kernel
theorem d_B_memory_65 : decode b_B_memory 65 = .ok (.aload_n 0, 1) := by decide +kernel
theorem d_B_memory_66 : decode b_B_memory 66 = .ok (.iload_n 2, 1) := by decide +kernel
theorem d_B_memory_67 : decode b_B_memory 67 = .ok (.aload_n 0, 1) := by decide +kernel
theorem d_B_memory_68 : decode b_B_memory 68 = .ok (.getfield 50, 3) := by decide +kernel
theorem d_B_memory_71 : decode b_B_memory 71 = .ok (.iload_n 1, 1) := by decide +kernel
theorem d_B_memory_72 : decode b_B_memory 72 = .ok (.aaload, 1) := by decide +kernel
theorem d_B_memory_73 : decode b_B_memory 73 = .ok (.iload_n 2, 1) := by decide +kernel
theorem d_B_memory_74 : decode b_B_memory 74 = .ok (.iaload, 1) := by decide +kernel
theorem d_B_memory_75 : decode b_B_memory 75 = .ok (.invokevirtual 142, 3) := by decide +kernel
theorem d_B_memory_78 : decode b_B_memory 78 = .ok (.aload_n 0, 1) := by decide +kernel
theorem d_B_memory_79 : decode b_B_memory 79 = .ok (.getfield 50, 3) := by decide +kernel
theorem d_B_memory_82 : decode b_B_memory 82 = .ok (.iload_n 1, 1) := by decide +kernel
theorem d_B_memory_83 : decode b_B_memory 83 = .ok (.aaload, 1) := by decide +kernel
theorem d_B_memory_84 : decode b_B_memory 84 = .ok (.iload_n 2, 1) := by decide +kernel
theorem d_B_memory_85 : decode b_B_memory 85 = .ok (.iaload, 1) := by decide +kernel
theorem d_B_memory_86 : decode b_B_memory 86 = .ok (.ireturn, 1) := by decide +kernel
theorem d_B_trailer_0 : decode b_B_trailer 0 = .ok (.aload_n 0, 1) := by decide +kernel
theorem d_B_trailer_1 : decode b_B_trailer 1 = .ok (.invokevirtual 63, 3) := by decide +kernel
theorem d_B_trailer_4 : decode b_B_trailer 4 = .ok (.aload_n 0, 1) := by decide +kernel
theorem d_B_trailer_5 : decode b_B_trailer 5 = .ok (.iload_n 1, 1) := by decide +kernel
theorem d_B_trailer_6 : decode b_B_trailer 6 = .ok (.putfield 146, 3) := by decide +kernel
theorem d_B_trailer_9 : decode b_B_trailer 9 = .ok (.aload_n 0, 1) := by decide +kernel
theorem d_B_trailer_10 : decode b_B_trailer 10 = .ok (.invokevirtual 76, 3) := by decide +kernel
theorem d_B_trailer_13 : decode b_B_trailer 13 = .ok (.ireturn, 1) := by decide +kernel
theorem d_B_state_0 : decode b_B_state 0 = .ok (.iload_n 1, 1) := by decide +kernel
theorem d_B_state_1 : decode b_B_state 1 = .ok (.tableswitch 107 0 9 #[55, 55, 55, 55, 65, 73, 81, 81, 94, 102], 55) := by decide +kernel
theorem d_B_state_56 : decode b_B_state 56 = .ok (.aload_n 0, 1) := by decide +kernel
theorem d_B_state_57 : decode b_B_state 57 = .ok (.getfield 36, 3) := by decide +kernel
theorem d_B_state_60 : decode b_B_state 60 = .ok (.iload_n 1, 1) := by decide +kernel
theorem d_B_state_61 : decode b_B_state 61 = .ok (.aaload, 1) := by decide +kernel
theorem d_B_state_62 : decode b_B_state 62 = .ok (.getfield 149, 3) := by decide +kernel
theorem d_B_state_65 : decode b_B_state 65 = .ok (.ireturn, 1) := by decide +kernel
theorem d_B_state_66 : decode b_B_state 66 = .ok (.aload_n 0, 1) := by decide +kernel
theorem d_B_state_67 : decode b_B_state 67 = .ok (.getfield 30, 3) := by decide +kernel
theorem d_B_state_70 : decode b_B_state 70 = .ok (.getfield 152, 3) := by decide +kernel
theorem d_B_state_73 : decode b_B_state 73 = .ok (.ireturn, 1) := by decide +kernel
theorem d_B_state_74 : decode b_B_state 74 = .ok (.aload_n 0, 1) := by decide +kernel
theorem d_B_state_75 : decode b_B_state 75 = .ok (.getfield 30, 3) := by decide +kernel
theorem d_B_state_78 : decode b_B_state 78 = .ok (.getfield 153, 3) := by decide +kernel
theorem d_B_state_81 : decode b_B_state 81 = .ok (.ireturn, 1) := by decide +kernel
theorem d_B_state_82 : decode b_B_state 82 = .ok (.aload_n 0, 1) := by decide +kernel
theorem d_B_state_83 : decode b_B_state 83 = .ok (.getfield 22, 3) := by decide +kernel
theorem d_B_state_86 : decode b_B_state 86 = .ok (.iload_n 1, 1) := by decide +kernel
theorem d_B_state_87 : decode b_B_state 87 = .ok (.bipush 6, 2) := by decide +kernel
theorem d_B_state_89 : decode b_B_state 89 = .ok (.isub, 1) := by decide +kernel
theorem d_B_state_90 : decode b_B_state 90 = .ok (.aaload, 1) := by decide +kernel
theorem d_B_state_91 : decode b_B_state 91 = .ok (.getfield 156, 3) := by decide +kernel
theorem d_B_state_94 : decode b_B_state 94 = .ok (.ireturn, 1) := by decide +kernel
theorem d_B_state_95 : decode b_B_state 95 = .ok (.aload_n 0, 1) := by decide +kernel
theorem d_B_state_96 : decode b_B_state 96 = .ok (.getfield 159, 3) := by decide +kernel
theorem d_B_state_99 : decode b_B_state 99 = .ok (.invokestatic 98, 3) := by decide +kernel
theorem d_B_state_102 : decode b_B_state 102 = .ok (.ireturn, 1) := by decide +kernel
theorem d_B_state_103 : decode b_B_state 103 = .ok (.aload_n 0, 1) := by decide +kernel
theorem d_B_state_104 : decode b_B_state 104 = .ok (.getfield 162, 3) := by decide +kernel
theorem d_B_state_107 : decode b_B_state 107 = .ok (.ireturn, 1) := by decide +kernel
theorem d_B_state_108 : decode b_B_state 108 = .ok (.bipush (-2), 2) := by decide +kernel
theorem d_B_state_110 : decode b_B_state 110 = .ok (.ireturn, 1) := by decide +kernel
theorem d_B_isBelow_0 : decode b_B_isBelow 0 = .ok (.iload_n 0, 1) := by decide +kernel
theorem d_B_isBelow_1 : decode b_B_isBelow 1 = .ok (.ifCond .lt 12, 3) := by decide +kernel
theorem d_B_isBelow_4 : decode b_B_isBelow 4 = .ok (.iload_n 0, 1) := by decide +kernel
theorem d_B_isBelow_5 : decode b_B_isBelow 5 = .ok (.iload_n 1, 1) := by decide +kernel
theorem d_B_isBelow_6 : decode b_B_isBelow 6 = .ok (.if_icmp .ge 7, 3) := by decide +kernel
theorem d_B_isBelow_9 : decode b_B_isBelow 9 = .ok (.iconst 1, 1) := by decide +kernel
theorem d_B_isBelow_10 : decode b_B_isBelow 10 = .ok (.goto 4, 3) := by decide +kernel
theorem d_B_isBelow_13 : decode b_B_isBelow 13 = .ok (.iconst 0, 1) := by decide +kernel
theorem d_B_isBelow_14 : decode b_B_isBelow 14 = .ok (.ireturn, 1) := by decide +kernel
theorem d_B_isUpTo_0 : decode b_B_isUpTo 0 = .ok (.iload_n 0, 1) := by decide +kernel
theorem d_B_isUpTo_1 : decode b_B_isUpTo 1 = .ok (.ifCond .lt 12, 3) := by decide +kernel
theorem d_B_isUpTo_4 : decode b_B_isUpTo 4 = .ok (.iload_n 0, 1) := by decide +kernel
theorem d_B_isUpTo_5 : decode b_B_isUpTo 5 = .ok (.iload_n 1, 1) := by decide +kernel
theorem d_B_isUpTo_6 : decode b_B_isUpTo 6 = .ok (.if_icmp .gt 7, 3) := by decide +kernel
theorem d_B_isUpTo_9 : decode b_B_isUpTo 9 = .ok (.iconst 1, 1) := by decide +kernel
theorem d_B_isUpTo_10 : decode b_B_isUpTo 10 = .ok (.goto 4, 3) := by decide +kernel
theorem d_B_isUpTo_13 : decode b_B_isUpTo 13 = .ok (.iconst 0, 1) := by decide +kernel
theorem d_B_isUpTo_14 : decode b_B_isUpTo 14 = .ok (.ireturn, 1) := by decide +kernel
theorem d_B_bit_0 : decode b_B_bit 0 = .ok (.iload_n 0, 1) := by decide +kernel
theorem d_B_bit_1 : decode b_B_bit 1 = .ok (.ifCond .eq 7, 3) := by decide +kernel
theorem d_B_bit_4 : decode b_B_bit 4 = .ok (.iconst 1, 1) := by decide +kernel
theorem d_B_bit_5 : decode b_B_bit 5 = .ok (.goto 4, 3) := by decide +kernel
theorem d_B_bit_8 : decode b_B_bit 8 = .ok (.iconst 0, 1) := by decide +kernel
theorem d_B_bit_9 : decode b_B_bit 9 = .ok (.ireturn, 1) := by decide +kernel
theorem d_B_noteOutputs_0 : decode b_B_noteOutputs 0 = .ok (.iconst 0, 1) := by decide +kernel
theorem d_B_noteOutputs_1 : decode b_B_noteOutputs 1 = .ok (.istore_n 1, 1) := by decide +kernel
theorem d_B_noteOutputs_2 : decode b_B_noteOutputs 2 = .ok (.iload_n 1, 1) := by decide +kernel
theorem d_B_noteOutputs_3 : decode b_B_noteOutputs 3 = .ok (.bipush 10, 2) := by decide +kernel
theorem d_B_noteOutputs_5 : decode b_B_noteOutputs 5 = .ok (.if_icmp .ge 20, 3) := by decide +kernel
theorem d_B_noteOutputs_8 : decode b_B_noteOutputs 8 = .ok (.aload_n 0, 1) := by decide +kernel
theorem d_B_noteOutputs_9 : decode b_B_noteOutputs 9 = .ok (.getfield 13, 3) := by decide +kernel
theorem d_B_noteOutputs_12 : decode b_B_noteOutputs 12 = .ok (.iload_n 1, 1) := by decide +kernel
theorem d_B_noteOutputs_13 : decode b_B_noteOutputs 13 = .ok (.aload_n 0, 1) := by decide +kernel
theorem d_B_noteOutputs_14 : decode b_B_noteOutputs 14 = .ok (.iload_n 1, 1) := by decide +kernel
theorem d_B_noteOutputs_15 : decode b_B_noteOutputs 15 = .ok (.invokevirtual 87, 3) := by decide +kernel
theorem d_B_noteOutputs_18 : decode b_B_noteOutputs 18 = .ok (.iastore, 1) := by decide +kernel
theorem d_B_noteOutputs_19 : decode b_B_noteOutputs 19 = .ok (.iinc 1 1, 3) := by decide +kernel
theorem d_B_noteOutputs_22 : decode b_B_noteOutputs 22 = .ok (.goto (-20), 3) := by decide +kernel
theorem d_B_noteOutputs_25 : decode b_B_noteOutputs 25 = .ok (.return_, 1) := by decide +kernel
theorem d_B_countChangedOutputs_0 : decode b_B_countChangedOutputs 0 = .ok (.iconst 0, 1) := by decide +kernel
theorem d_B_countChangedOutputs_1 : decode b_B_countChangedOutputs 1 = .ok (.istore_n 1, 1) := by decide +kernel
theorem d_B_countChangedOutputs_2 : decode b_B_countChangedOutputs 2 = .ok (.iconst 0, 1) := by decide +kernel
theorem d_B_countChangedOutputs_3 : decode b_B_countChangedOutputs 3 = .ok (.istore_n 2, 1) := by decide +kernel
theorem d_B_countChangedOutputs_4 : decode b_B_countChangedOutputs 4 = .ok (.iload_n 2, 1) := by decide +kernel
theorem d_B_countChangedOutputs_5 : decode b_B_countChangedOutputs 5 = .ok (.bipush 10, 2) := by decide +kernel
theorem d_B_countChangedOutputs_7 : decode b_B_countChangedOutputs 7 = .ok (.if_icmp .ge 26, 3) := by decide +kernel
theorem d_B_countChangedOutputs_10 : decode b_B_countChangedOutputs 10 = .ok (.aload_n 0, 1) := by decide +kernel
theorem d_B_countChangedOutputs_11 : decode b_B_countChangedOutputs 11 = .ok (.iload_n 2, 1) := by decide +kernel
theorem d_B_countChangedOutputs_12 : decode b_B_countChangedOutputs 12 = .ok (.invokevirtual 87, 3) := by decide +kernel
theorem d_B_countChangedOutputs_15 : decode b_B_countChangedOutputs 15 = .ok (.aload_n 0, 1) := by decide +kernel
theorem d_B_countChangedOutputs_16 : decode b_B_countChangedOutputs 16 = .ok (.getfield 13, 3) := by decide +kernel
theorem d_B_countChangedOutputs_19 : decode b_B_countChangedOutputs 19 = .ok (.iload_n 2, 1) := by decide +kernel
theorem d_B_countChangedOutputs_20 : decode b_B_countChangedOutputs 20 = .ok (.iaload, 1) := by decide +kernel
theorem d_B_countChangedOutputs_21 : decode b_B_countChangedOutputs 21 = .ok (.if_icmp .eq 6, 3) := by decide +kernel
theorem d_B_countChangedOutputs_24 : decode b_B_countChangedOutputs 24 = .ok (.iinc 1 1, 3) := by decide +kernel
theorem d_B_countChangedOutputs_27 : decode b_B_countChangedOutputs 27 = .ok (.iinc 2 1, 3) := by decide +kernel
theorem d_B_countChangedOutputs_30 : decode b_B_countChangedOutputs 30 = .ok (.goto (-26), 3) := by decide +kernel
theorem d_B_countChangedOutputs_33 : decode b_B_countChangedOutputs 33 = .ok (.iload_n 1, 1) := by decide +kernel
theorem d_B_countChangedOutputs_34 : decode b_B_countChangedOutputs 34 = .ok (.ireturn, 1) := by decide +kernel
theorem d_B_outputNow_0 : decode b_B_outputNow 0 = .ok (.iload_n 1, 1) := by decide +kernel
theorem d_B_outputNow_1 : decode b_B_outputNow 1 = .ok (.tableswitch 157 0 9 #[55, 63, 71, 98, 98, 109, 117, 125, 130, 130], 55) := by decide +kernel
theorem d_B_outputNow_56 : decode b_B_outputNow 56 = .ok (.aload_n 0, 1) := by decide +kernel
theorem d_B_outputNow_57 : decode b_B_outputNow 57 = .ok (.invokevirtual 165, 3) := by decide +kernel
theorem d_B_outputNow_60 : decode b_B_outputNow 60 = .ok (.invokestatic 98, 3) := by decide +kernel
theorem d_B_outputNow_63 : decode b_B_outputNow 63 = .ok (.ireturn, 1) := by decide +kernel
theorem d_B_outputNow_64 : decode b_B_outputNow 64 = .ok (.aload_n 0, 1) := by decide +kernel
theorem d_B_outputNow_65 : decode b_B_outputNow 65 = .ok (.invokevirtual 168, 3) := by decide +kernel
theorem d_B_outputNow_68 : decode b_B_outputNow 68 = .ok (.invokestatic 98, 3) := by decide +kernel
theorem d_B_outputNow_71 : decode b_B_outputNow 71 = .ok (.ireturn, 1) := by decide +kernel
theorem d_B_outputNow_72 : decode b_B_outputNow 72 = .ok (.aload_n 0, 1) := by decide +kernel
theorem d_B_outputNow_73 : decode b_B_outputNow 73 = .ok (.invokevirtual 168, 3) := by decide +kernel
theorem d_B_outputNow_76 : decode b_B_outputNow 76 = .ok (.ifCond .eq 18, 3) := by decide +kernel
theorem d_B_outputNow_79 : decode b_B_outputNow 79 = .ok (.aload_n 0, 1) := by decide +kernel
theorem d_B_outputNow_80 : decode b_B_outputNow 80 = .ok (.getfield 9, 3) := by decide +kernel
theorem d_B_outputNow_83 : decode b_B_outputNow 83 = .ok (.bipush 6, 2) := by decide +kernel
theorem d_B_outputNow_85 : decode b_B_outputNow 85 = .ok (.iaload, 1) := by decide +kernel
theorem d_B_outputNow_86 : decode b_B_outputNow 86 = .ok (.iconst 1, 1) := by decide +kernel
theorem d_B_outputNow_87 : decode b_B_outputNow 87 = .ok (.if_icmp .ne 7, 3) := by decide +kernel
theorem d_B_outputNow_90 : decode b_B_outputNow 90 = .ok (.iconst 1, 1) := by decide +kernel
theorem d_B_outputNow_91 : decode b_B_outputNow 91 = .ok (.goto 4, 3) := by decide +kernel
theorem d_B_outputNow_94 : decode b_B_outputNow 94 = .ok (.iconst 0, 1) := by decide +kernel
theorem d_B_outputNow_95 : decode b_B_outputNow 95 = .ok (.invokestatic 98, 3) := by decide +kernel
theorem d_B_outputNow_98 : decode b_B_outputNow 98 = .ok (.ireturn, 1) := by decide +kernel
theorem d_B_outputNow_99 : decode b_B_outputNow 99 = .ok (.aload_n 0, 1) := by decide +kernel
theorem d_B_outputNow_100 : decode b_B_outputNow 100 = .ok (.iload_n 1, 1) := by decide +kernel
theorem d_B_outputNow_101 : decode b_B_outputNow 101 = .ok (.iconst 3, 1) := by decide +kernel
theorem d_B_outputNow_102 : decode b_B_outputNow 102 = .ok (.isub, 1) := by decide +kernel
theorem d_B_outputNow_103 : decode b_B_outputNow 103 = .ok (.invokevirtual 171, 3) := by decide +kernel
theorem d_B_outputNow_106 : decode b_B_outputNow 106 = .ok (.invokestatic 98, 3) := by decide +kernel
theorem d_B_outputNow_109 : decode b_B_outputNow 109 = .ok (.ireturn, 1) := by decide +kernel
theorem d_B_outputNow_110 : decode b_B_outputNow 110 = .ok (.aload_n 0, 1) := by decide +kernel
theorem d_B_outputNow_111 : decode b_B_outputNow 111 = .ok (.getfield 30, 3) := by decide +kernel
theorem d_B_outputNow_114 : decode b_B_outputNow 114 = .ok (.getfield 174, 3) := by decide +kernel
theorem d_B_outputNow_117 : decode b_B_outputNow 117 = .ok (.ireturn, 1) := by decide +kernel
theorem d_B_outputNow_118 : decode b_B_outputNow 118 = .ok (.aload_n 0, 1) := by decide +kernel
theorem d_B_outputNow_119 : decode b_B_outputNow 119 = .ok (.getfield 9, 3) := by decide +kernel
theorem d_B_outputNow_122 : decode b_B_outputNow 122 = .ok (.bipush 7, 2) := by decide +kernel
theorem d_B_outputNow_124 : decode b_B_outputNow 124 = .ok (.iaload, 1) := by decide +kernel
theorem d_B_outputNow_125 : decode b_B_outputNow 125 = .ok (.ireturn, 1) := by decide +kernel
theorem d_B_outputNow_126 : decode b_B_outputNow 126 = .ok (.aload_n 0, 1) := by decide +kernel
theorem d_B_outputNow_127 : decode b_B_outputNow 127 = .ok (.getfield 139, 3) := by decide +kernel
theorem d_B_outputNow_130 : decode b_B_outputNow 130 = .ok (.ireturn, 1) := by decide +kernel
theorem d_B_outputNow_131 : decode b_B_outputNow 131 = .ok (.aload_n 0, 1) := by decide +kernel
theorem d_B_outputNow_132 : decode b_B_outputNow 132 = .ok (.getfield 146, 3) := by decide +kernel
theorem d_B_outputNow_135 : decode b_B_outputNow 135 = .ok (.ifCond .eq 18, 3) := by decide +kernel
theorem d_B_outputNow_138 : decode b_B_outputNow 138 = .ok (.aload_n 0, 1) := by decide +kernel
theorem d_B_outputNow_139 : decode b_B_outputNow 139 = .ok (.iload_n 1, 1) := by decide +kernel
theorem d_B_outputNow_140 : decode b_B_outputNow 140 = .ok (.bipush 8, 2) := by decide +kernel
theorem d_B_outputNow_142 : decode b_B_outputNow 142 = .ok (.isub, 1) := by decide +kernel
theorem d_B_outputNow_143 : decode b_B_outputNow 143 = .ok (.invokevirtual 171, 3) := by decide +kernel
theorem d_B_outputNow_146 : decode b_B_outputNow 146 = .ok (.ifCond .eq 7, 3) := by decide +kernel
theorem d_B_outputNow_149 : decode b_B_outputNow 149 = .ok (.iconst 1, 1) := by decide +kernel
theorem d_B_outputNow_150 : decode b_B_outputNow 150 = .ok (.goto 4, 3) := by decide +kernel
theorem d_B_outputNow_153 : decode b_B_outputNow 153 = .ok (.iconst 0, 1) := by decide +kernel
theorem d_B_outputNow_154 : decode b_B_outputNow 154 = .ok (.invokestatic 98, 3) := by decide +kernel
theorem d_B_outputNow_157 : decode b_B_outputNow 157 = .ok (.ireturn, 1) := by decide +kernel
theorem d_B_outputNow_158 : decode b_B_outputNow 158 = .ok (.iconst 0, 1) := by decide +kernel
theorem d_B_outputNow_159 : decode b_B_outputNow 159 = .ok (.ireturn, 1) := by decide +kernel
theorem d_B_isParkingLit_0 : decode b_B_isParkingLit 0 = .ok (.aload_n 0, 1) := by decide +kernel
theorem d_B_isParkingLit_1 : decode b_B_isParkingLit 1 = .ok (.getfield 135, 3) := by decide +kernel
theorem d_B_isParkingLit_4 : decode b_B_isParkingLit 4 = .ok (.ifCond .ne 20, 3) := by decide +kernel
theorem d_B_isParkingLit_7 : decode b_B_isParkingLit 7 = .ok (.aload_n 0, 1) := by decide +kernel
theorem d_B_isParkingLit_8 : decode b_B_isParkingLit 8 = .ok (.getfield 9, 3) := by decide +kernel
theorem d_B_isParkingLit_11 : decode b_B_isParkingLit 11 = .ok (.iconst 0, 1) := by decide +kernel
theorem d_B_isParkingLit_12 : decode b_B_isParkingLit 12 = .ok (.iaload, 1) := by decide +kernel
theorem d_B_isParkingLit_13 : decode b_B_isParkingLit 13 = .ok (.iconst 1, 1) := by decide +kernel
theorem d_B_isParkingLit_14 : decode b_B_isParkingLit 14 = .ok (.if_icmp .eq 10, 3) := by decide +kernel
theorem d_B_isParkingLit_17 : decode b_B_isParkingLit 17 = .ok (.aload_n 0, 1) := by decide +kernel
theorem d_B_isParkingLit_18 : decode b_B_isParkingLit 18 = .ok (.invokevirtual 177, 3) := by decide +kernel
theorem d_B_isParkingLit_21 : decode b_B_isParkingLit 21 = .ok (.ifCond .eq 7, 3) := by decide +kernel
theorem d_B_isParkingLit_24 : decode b_B_isParkingLit 24 = .ok (.iconst 1, 1) := by decide +kernel
theorem d_B_isParkingLit_25 : decode b_B_isParkingLit 25 = .ok (.goto 4, 3) := by decide +kernel
theorem d_B_isParkingLit_28 : decode b_B_isParkingLit 28 = .ok (.iconst 0, 1) := by decide +kernel
theorem d_B_isParkingLit_29 : decode b_B_isParkingLit 29 = .ok (.ireturn, 1) := by decide +kernel
theorem d_B_isLowLit_0 : decode b_B_isLowLit 0 = .ok (.aload_n 0, 1) := by decide +kernel
theorem d_B_isLowLit_1 : decode b_B_isLowLit 1 = .ok (.getfield 9, 3) := by decide +kernel
theorem d_B_isLowLit_4 : decode b_B_isLowLit 4 = .ok (.iconst 5, 1) := by decide +kernel
theorem d_B_isLowLit_5 : decode b_B_isLowLit 5 = .ok (.iaload, 1) := by decide +kernel
theorem d_B_isLowLit_6 : decode b_B_isLowLit 6 = .ok (.iconst 1, 1) := by decide +kernel
theorem d_B_isLowLit_7 : decode b_B_isLowLit 7 = .ok (.if_icmp .ne 14, 3) := by decide +kernel
theorem d_B_isLowLit_10 : decode b_B_isLowLit 10 = .ok (.aload_n 0, 1) := by decide +kernel
theorem d_B_isLowLit_11 : decode b_B_isLowLit 11 = .ok (.invokevirtual 177, 3) := by decide +kernel
theorem d_B_isLowLit_14 : decode b_B_isLowLit 14 = .ok (.ifCond .eq 7, 3) := by decide +kernel
theorem d_B_isLowLit_17 : decode b_B_isLowLit 17 = .ok (.iconst 1, 1) := by decide +kernel
theorem d_B_isLowLit_18 : decode b_B_isLowLit 18 = .ok (.goto 4, 3) := by decide +kernel
theorem d_B_isLowLit_21 : decode b_B_isLowLit 21 = .ok (.iconst 0, 1) := by decide +kernel
theorem d_B_isLowLit_22 : decode b_B_isLowLit 22 = .ok (.ireturn, 1) := by decide +kernel
theorem d_B_wantsLow_0 : decode b_B_wantsLow 0 = .ok (.aload_n 0, 1) := by decide +kernel
theorem d_B_wantsLow_1 : decode b_B_wantsLow 1 = .ok (.getfield 9, 3) := by decide +kernel
theorem d_B_wantsLow_4 : decode b_B_wantsLow 4 = .ok (.iconst 0, 1) := by decide +kernel
theorem d_B_wantsLow_5 : decode b_B_wantsLow 5 = .ok (.iaload, 1) := by decide +kernel
theorem d_B_wantsLow_6 : decode b_B_wantsLow 6 = .ok (.iconst 2, 1) := by decide +kernel
theorem d_B_wantsLow_7 : decode b_B_wantsLow 7 = .ok (.if_icmp .eq 20, 3) := by decide +kernel
theorem d_B_wantsLow_10 : decode b_B_wantsLow 10 = .ok (.aload_n 0, 1) := by decide +kernel
theorem d_B_wantsLow_11 : decode b_B_wantsLow 11 = .ok (.getfield 9, 3) := by decide +kernel
theorem d_B_wantsLow_14 : decode b_B_wantsLow 14 = .ok (.iconst 0, 1) := by decide +kernel
theorem d_B_wantsLow_15 : decode b_B_wantsLow 15 = .ok (.iaload, 1) := by decide +kernel
theorem d_B_wantsLow_16 : decode b_B_wantsLow 16 = .ok (.iconst 3, 1) := by decide +kernel
theorem d_B_wantsLow_17 : decode b_B_wantsLow 17 = .ok (.if_icmp .ne 14, 3) := by decide +kernel
theorem d_B_wantsLow_20 : decode b_B_wantsLow 20 = .ok (.aload_n 0, 1) := by decide +kernel
theorem d_B_wantsLow_21 : decode b_B_wantsLow 21 = .ok (.getfield 159, 3) := by decide +kernel
theorem d_B_wantsLow_24 : decode b_B_wantsLow 24 = .ok (.ifCond .eq 7, 3) := by decide +kernel
theorem d_B_wantsLow_27 : decode b_B_wantsLow 27 = .ok (.iconst 1, 1) := by decide +kernel
theorem d_B_wantsLow_28 : decode b_B_wantsLow 28 = .ok (.goto 4, 3) := by decide +kernel
theorem d_B_wantsLow_31 : decode b_B_wantsLow 31 = .ok (.iconst 0, 1) := by decide +kernel
theorem d_B_wantsLow_32 : decode b_B_wantsLow 32 = .ok (.ireturn, 1) := by decide +kernel
theorem d_B_followBrightness_0 : decode b_B_followBrightness 0 = .ok (.iload_n 1, 1) := by decide +kernel
theorem d_B_followBrightness_1 : decode b_B_followBrightness 1 = .ok (.sipush 200, 3) := by decide +kernel
theorem d_B_followBrightness_4 : decode b_B_followBrightness 4 = .ok (.if_icmp .ge 11, 3) := by decide +kernel
theorem d_B_followBrightness_7 : decode b_B_followBrightness 7 = .ok (.aload_n 0, 1) := by decide +kernel
theorem d_B_followBrightness_8 : decode b_B_followBrightness 8 = .ok (.iconst 1, 1) := by decide +kernel
theorem d_B_followBrightness_9 : decode b_B_followBrightness 9 = .ok (.putfield 159, 3) := by decide +kernel
theorem d_B_followBrightness_12 : decode b_B_followBrightness 12 = .ok (.goto 15, 3) := by decide +kernel
theorem d_B_followBrightness_15 : decode b_B_followBrightness 15 = .ok (.iload_n 1, 1) := by decide +kernel
theorem d_B_followBrightness_16 : decode b_B_followBrightness 16 = .ok (.sipush 400, 3) := by decide +kernel
theorem d_B_followBrightness_19 : decode b_B_followBrightness 19 = .ok (.if_icmp .le 8, 3) := by decide +kernel
theorem d_B_followBrightness_22 : decode b_B_followBrightness 22 = .ok (.aload_n 0, 1) := by decide +kernel
theorem d_B_followBrightness_23 : decode b_B_followBrightness 23 = .ok (.iconst 0, 1) := by decide +kernel
theorem d_B_followBrightness_24 : decode b_B_followBrightness 24 = .ok (.putfield 159, 3) := by decide +kernel
theorem d_B_followBrightness_27 : decode b_B_followBrightness 27 = .ok (.return_, 1) := by decide +kernel
theorem d_B_isSideLit_0 : decode b_B_isSideLit 0 = .ok (.aload_n 0, 1) := by decide +kernel
theorem d_B_isSideLit_1 : decode b_B_isSideLit 1 = .ok (.getfield 22, 3) := by decide +kernel
theorem d_B_isSideLit_4 : decode b_B_isSideLit 4 = .ok (.iload_n 1, 1) := by decide +kernel
theorem d_B_isSideLit_5 : decode b_B_isSideLit 5 = .ok (.aaload, 1) := by decide +kernel
theorem d_B_isSideLit_6 : decode b_B_isSideLit 6 = .ok (.aload_n 0, 1) := by decide +kernel
theorem d_B_isSideLit_7 : decode b_B_isSideLit 7 = .ok (.iload_n 1, 1) := by decide +kernel
theorem d_B_isSideLit_8 : decode b_B_isSideLit 8 = .ok (.invokevirtual 180, 3) := by decide +kernel
theorem d_B_isSideLit_11 : decode b_B_isSideLit 11 = .ok (.invokevirtual 183, 3) := by decide +kernel
theorem d_B_isSideLit_14 : decode b_B_isSideLit 14 = .ok (.ireturn, 1) := by decide +kernel
theorem d_B_turnBulbIsOut_0 : decode b_B_turnBulbIsOut 0 = .ok (.aload_n 0, 1) := by decide +kernel
theorem d_B_turnBulbIsOut_1 : decode b_B_turnBulbIsOut 1 = .ok (.getfield 16, 3) := by decide +kernel
theorem d_B_turnBulbIsOut_4 : decode b_B_turnBulbIsOut 4 = .ok (.iconst 4, 1) := by decide +kernel
theorem d_B_turnBulbIsOut_5 : decode b_B_turnBulbIsOut 5 = .ok (.iload_n 1, 1) := by decide +kernel
theorem d_B_turnBulbIsOut_6 : decode b_B_turnBulbIsOut 6 = .ok (.iadd, 1) := by decide +kernel
theorem d_B_turnBulbIsOut_7 : decode b_B_turnBulbIsOut 7 = .ok (.baload, 1) := by decide +kernel
theorem d_B_turnBulbIsOut_8 : decode b_B_turnBulbIsOut 8 = .ok (.ireturn, 1) := by decide +kernel
theorem d_B_isWanted_0 : decode b_B_isWanted 0 = .ok (.aload_n 0, 1) := by decide +kernel
theorem d_B_isWanted_1 : decode b_B_isWanted 1 = .ok (.getfield 135, 3) := by decide +kernel
theorem d_B_isWanted_4 : decode b_B_isWanted 4 = .ok (.ifCond .ne 25, 3) := by decide +kernel
theorem d_B_isWanted_7 : decode b_B_isWanted 7 = .ok (.aload_n 0, 1) := by decide +kernel
theorem d_B_isWanted_8 : decode b_B_isWanted 8 = .ok (.getfield 9, 3) := by decide +kernel
theorem d_B_isWanted_11 : decode b_B_isWanted 11 = .ok (.iconst 3, 1) := by decide +kernel
theorem d_B_isWanted_12 : decode b_B_isWanted 12 = .ok (.iaload, 1) := by decide +kernel
theorem d_B_isWanted_13 : decode b_B_isWanted 13 = .ok (.iconst 1, 1) := by decide +kernel
theorem d_B_isWanted_14 : decode b_B_isWanted 14 = .ok (.if_icmp .eq 15, 3) := by decide +kernel
theorem d_B_isWanted_17 : decode b_B_isWanted 17 = .ok (.aload_n 0, 1) := by decide +kernel
theorem d_B_isWanted_18 : decode b_B_isWanted 18 = .ok (.getfield 9, 3) := by decide +kernel
theorem d_B_isWanted_21 : decode b_B_isWanted 21 = .ok (.iconst 2, 1) := by decide +kernel
theorem d_B_isWanted_22 : decode b_B_isWanted 22 = .ok (.iaload, 1) := by decide +kernel
theorem d_B_isWanted_23 : decode b_B_isWanted 23 = .ok (.iload_n 1, 1) := by decide +kernel
theorem d_B_isWanted_24 : decode b_B_isWanted 24 = .ok (.iconst 1, 1) := by decide +kernel
theorem d_B_isWanted_25 : decode b_B_isWanted 25 = .ok (.iadd, 1) := by decide +kernel
theorem d_B_isWanted_26 : decode b_B_isWanted 26 = .ok (.if_icmp .ne 7, 3) := by decide +kernel
theorem d_B_isWanted_29 : decode b_B_isWanted 29 = .ok (.iconst 1, 1) := by decide +kernel
theorem d_B_isWanted_30 : decode b_B_isWanted 30 = .ok (.goto 4, 3) := by decide +kernel
theorem d_B_isWanted_33 : decode b_B_isWanted 33 = .ok (.iconst 0, 1) := by decide +kernel
theorem d_B_isWanted_34 : decode b_B_isWanted 34 = .ok (.ireturn, 1) := by decide +kernel
theorem d_B_beginWantedSides_0 : decode b_B_beginWantedSides 0 = .ok (.iconst 0, 1) := by decide +kernel
theorem d_B_beginWantedSides_1 : decode b_B_beginWantedSides 1 = .ok (.istore_n 1, 1) := by decide +kernel
theorem d_B_beginWantedSides_2 : decode b_B_beginWantedSides 2 = .ok (.iload_n 1, 1) := by decide +kernel
theorem d_B_beginWantedSides_3 : decode b_B_beginWantedSides 3 = .ok (.iconst 2, 1) := by decide +kernel
theorem d_B_beginWantedSides_4 : decode b_B_beginWantedSides 4 = .ok (.if_icmp .ge 26, 3) := by decide +kernel
theorem d_B_beginWantedSides_7 : decode b_B_beginWantedSides 7 = .ok (.aload_n 0, 1) := by decide +kernel
theorem d_B_beginWantedSides_8 : decode b_B_beginWantedSides 8 = .ok (.iload_n 1, 1) := by decide +kernel
theorem d_B_beginWantedSides_9 : decode b_B_beginWantedSides 9 = .ok (.invokevirtual 187, 3) := by decide +kernel
theorem d_B_beginWantedSides_12 : decode b_B_beginWantedSides 12 = .ok (.ifCond .eq 12, 3) := by decide +kernel
theorem d_B_beginWantedSides_15 : decode b_B_beginWantedSides 15 = .ok (.aload_n 0, 1) := by decide +kernel
theorem d_B_beginWantedSides_16 : decode b_B_beginWantedSides 16 = .ok (.getfield 22, 3) := by decide +kernel
theorem d_B_beginWantedSides_19 : decode b_B_beginWantedSides 19 = .ok (.iload_n 1, 1) := by decide +kernel
theorem d_B_beginWantedSides_20 : decode b_B_beginWantedSides 20 = .ok (.aaload, 1) := by decide +kernel
theorem d_B_beginWantedSides_21 : decode b_B_beginWantedSides 21 = .ok (.invokevirtual 190, 3) := by decide +kernel
theorem d_B_beginWantedSides_24 : decode b_B_beginWantedSides 24 = .ok (.iinc 1 1, 3) := by decide +kernel
theorem d_B_beginWantedSides_27 : decode b_B_beginWantedSides 27 = .ok (.goto (-25), 3) := by decide +kernel
theorem d_B_beginWantedSides_30 : decode b_B_beginWantedSides 30 = .ok (.return_, 1) := by decide +kernel
theorem d_B_endUnwantedSide_0 : decode b_B_endUnwantedSide 0 = .ok (.iload_n 1, 1) := by decide +kernel
theorem d_B_endUnwantedSide_1 : decode b_B_endUnwantedSide 1 = .ok (.iconst 2, 1) := by decide +kernel
theorem d_B_endUnwantedSide_2 : decode b_B_endUnwantedSide 2 = .ok (.invokestatic 53, 3) := by decide +kernel
theorem d_B_endUnwantedSide_5 : decode b_B_endUnwantedSide 5 = .ok (.ifCond .eq 21, 3) := by decide +kernel
theorem d_B_endUnwantedSide_8 : decode b_B_endUnwantedSide 8 = .ok (.aload_n 0, 1) := by decide +kernel
theorem d_B_endUnwantedSide_9 : decode b_B_endUnwantedSide 9 = .ok (.iload_n 1, 1) := by decide +kernel
theorem d_B_endUnwantedSide_10 : decode b_B_endUnwantedSide 10 = .ok (.invokevirtual 187, 3) := by decide +kernel
theorem d_B_endUnwantedSide_13 : decode b_B_endUnwantedSide 13 = .ok (.ifCond .ne 13, 3) := by decide +kernel
theorem d_B_endUnwantedSide_16 : decode b_B_endUnwantedSide 16 = .ok (.aload_n 0, 1) := by decide +kernel
theorem d_B_endUnwantedSide_17 : decode b_B_endUnwantedSide 17 = .ok (.getfield 22, 3) := by decide +kernel
theorem d_B_endUnwantedSide_20 : decode b_B_endUnwantedSide 20 = .ok (.iload_n 1, 1) := by decide +kernel
theorem d_B_endUnwantedSide_21 : decode b_B_endUnwantedSide 21 = .ok (.aaload, 1) := by decide +kernel
theorem d_B_endUnwantedSide_22 : decode b_B_endUnwantedSide 22 = .ok (.iconst 0, 1) := by decide +kernel
theorem d_B_endUnwantedSide_23 : decode b_B_endUnwantedSide 23 = .ok (.putfield 193, 3) := by decide +kernel
theorem d_B_endUnwantedSide_26 : decode b_B_endUnwantedSide 26 = .ok (.return_, 1) := by decide +kernel
theorem d_B_tick_0 : decode b_B_tick 0 = .ok (.iconst 0, 1) := by decide +kernel
theorem d_B_tick_1 : decode b_B_tick 1 = .ok (.istore_n 1, 1) := by decide +kernel
theorem d_B_tick_2 : decode b_B_tick 2 = .ok (.iload_n 1, 1) := by decide +kernel
theorem d_B_tick_3 : decode b_B_tick 3 = .ok (.iconst 2, 1) := by decide +kernel
theorem d_B_tick_4 : decode b_B_tick 4 = .ok (.if_icmp .ge 28, 3) := by decide +kernel
theorem d_B_tick_7 : decode b_B_tick 7 = .ok (.aload_n 0, 1) := by decide +kernel
theorem d_B_tick_8 : decode b_B_tick 8 = .ok (.getfield 22, 3) := by decide +kernel
theorem d_B_tick_11 : decode b_B_tick 11 = .ok (.iload_n 1, 1) := by decide +kernel
theorem d_B_tick_12 : decode b_B_tick 12 = .ok (.aaload, 1) := by decide +kernel
theorem d_B_tick_13 : decode b_B_tick 13 = .ok (.aload_n 0, 1) := by decide +kernel
theorem d_B_tick_14 : decode b_B_tick 14 = .ok (.iload_n 1, 1) := by decide +kernel
theorem d_B_tick_15 : decode b_B_tick 15 = .ok (.invokevirtual 180, 3) := by decide +kernel
theorem d_B_tick_18 : decode b_B_tick 18 = .ok (.aload_n 0, 1) := by decide +kernel
theorem d_B_tick_19 : decode b_B_tick 19 = .ok (.iload_n 1, 1) := by decide +kernel
theorem d_B_tick_20 : decode b_B_tick 20 = .ok (.invokevirtual 187, 3) := by decide +kernel
theorem d_B_tick_23 : decode b_B_tick 23 = .ok (.invokevirtual 196, 3) := by decide +kernel
theorem d_B_tick_26 : decode b_B_tick 26 = .ok (.iinc 1 1, 3) := by decide +kernel
theorem d_B_tick_29 : decode b_B_tick 29 = .ok (.goto (-27), 3) := by decide +kernel
theorem d_B_tick_32 : decode b_B_tick 32 = .ok (.aload_n 0, 1) := by decide +kernel
theorem d_B_tick_33 : decode b_B_tick 33 = .ok (.getfield 30, 3) := by decide +kernel
theorem d_B_tick_36 : decode b_B_tick 36 = .ok (.aload_n 0, 1) := by decide +kernel
theorem d_B_tick_37 : decode b_B_tick 37 = .ok (.invokevirtual 199, 3) := by decide +kernel
theorem d_B_tick_40 : decode b_B_tick 40 = .ok (.aload_n 0, 1) := by decide +kernel
theorem d_B_tick_41 : decode b_B_tick 41 = .ok (.invokevirtual 202, 3) := by decide +kernel
theorem d_B_tick_44 : decode b_B_tick 44 = .ok (.invokevirtual 205, 3) := by decide +kernel
theorem d_B_tick_47 : decode b_B_tick 47 = .ok (.aload_n 0, 1) := by decide +kernel
theorem d_B_tick_48 : decode b_B_tick 48 = .ok (.invokevirtual 207, 3) := by decide +kernel
theorem d_B_tick_51 : decode b_B_tick 51 = .ok (.iconst 0, 1) := by decide +kernel
theorem d_B_tick_52 : decode b_B_tick 52 = .ok (.istore_n 1, 1) := by decide +kernel
theorem d_B_tick_53 : decode b_B_tick 53 = .ok (.iload_n 1, 1) := by decide +kernel
theorem d_B_tick_54 : decode b_B_tick 54 = .ok (.iconst 4, 1) := by decide +kernel
theorem d_B_tick_55 : decode b_B_tick 55 = .ok (.if_icmp .ge 18, 3) := by decide +kernel
theorem d_B_tick_58 : decode b_B_tick 58 = .ok (.aload_n 0, 1) := by decide +kernel
theorem d_B_tick_59 : decode b_B_tick 59 = .ok (.getfield 36, 3) := by decide +kernel
theorem d_B_tick_62 : decode b_B_tick 62 = .ok (.iload_n 1, 1) := by decide +kernel
theorem d_B_tick_63 : decode b_B_tick 63 = .ok (.aaload, 1) := by decide +kernel
theorem d_B_tick_64 : decode b_B_tick 64 = .ok (.invokevirtual 210, 3) := by decide +kernel
theorem d_B_tick_67 : decode b_B_tick 67 = .ok (.iinc 1 1, 3) := by decide +kernel
theorem d_B_tick_70 : decode b_B_tick 70 = .ok (.goto (-17), 3) := by decide +kernel
theorem d_B_tick_73 : decode b_B_tick 73 = .ok (.aload_n 0, 1) := by decide +kernel
theorem d_B_tick_74 : decode b_B_tick 74 = .ok (.dup, 1) := by decide +kernel
theorem d_B_tick_75 : decode b_B_tick 75 = .ok (.getfield 162, 3) := by decide +kernel
theorem d_B_tick_78 : decode b_B_tick 78 = .ok (.iconst 1, 1) := by decide +kernel
theorem d_B_tick_79 : decode b_B_tick 79 = .ok (.iadd, 1) := by decide +kernel
theorem d_B_tick_80 : decode b_B_tick 80 = .ok (.putfield 162, 3) := by decide +kernel
theorem d_B_tick_83 : decode b_B_tick 83 = .ok (.return_, 1) := by decide +kernel
theorem d_B_wiperSpeed_0 : decode b_B_wiperSpeed 0 = .ok (.aload_n 0, 1) := by decide +kernel
theorem d_B_wiperSpeed_1 : decode b_B_wiperSpeed 1 = .ok (.getfield 9, 3) := by decide +kernel
theorem d_B_wiperSpeed_4 : decode b_B_wiperSpeed 4 = .ok (.iconst 5, 1) := by decide +kernel
theorem d_B_wiperSpeed_5 : decode b_B_wiperSpeed 5 = .ok (.iaload, 1) := by decide +kernel
theorem d_B_wiperSpeed_6 : decode b_B_wiperSpeed 6 = .ok (.ifCond .ne 5, 3) := by decide +kernel
theorem d_B_wiperSpeed_9 : decode b_B_wiperSpeed 9 = .ok (.iconst 0, 1) := by decide +kernel
theorem d_B_wiperSpeed_10 : decode b_B_wiperSpeed 10 = .ok (.ireturn, 1) := by decide +kernel
theorem d_B_wiperSpeed_11 : decode b_B_wiperSpeed 11 = .ok (.aload_n 0, 1) := by decide +kernel
theorem d_B_wiperSpeed_12 : decode b_B_wiperSpeed 12 = .ok (.getfield 9, 3) := by decide +kernel
theorem d_B_wiperSpeed_15 : decode b_B_wiperSpeed 15 = .ok (.iconst 4, 1) := by decide +kernel
theorem d_B_wiperSpeed_16 : decode b_B_wiperSpeed 16 = .ok (.iaload, 1) := by decide +kernel
theorem d_B_wiperSpeed_17 : decode b_B_wiperSpeed 17 = .ok (.tableswitch 36 1 3 #[27, 32, 34], 27) := by decide +kernel
theorem d_B_wiperSpeed_44 : decode b_B_wiperSpeed 44 = .ok (.aload_n 0, 1) := by decide +kernel
theorem d_B_wiperSpeed_45 : decode b_B_wiperSpeed 45 = .ok (.invokevirtual 211, 3) := by decide +kernel
theorem d_B_wiperSpeed_48 : decode b_B_wiperSpeed 48 = .ok (.ireturn, 1) := by decide +kernel
theorem d_B_wiperSpeed_49 : decode b_B_wiperSpeed 49 = .ok (.iconst 1, 1) := by decide +kernel
theorem d_B_wiperSpeed_50 : decode b_B_wiperSpeed 50 = .ok (.ireturn, 1) := by decide +kernel
theorem d_B_wiperSpeed_51 : decode b_B_wiperSpeed 51 = .ok (.iconst 2, 1) := by decide +kernel
theorem d_B_wiperSpeed_52 : decode b_B_wiperSpeed 52 = .ok (.ireturn, 1) := by decide +kernel
theorem d_B_wiperSpeed_53 : decode b_B_wiperSpeed 53 = .ok (.iconst 0, 1) := by decide +kernel
theorem d_B_wiperSpeed_54 : decode b_B_wiperSpeed 54 = .ok (.ireturn, 1) := by decide +kernel
theorem d_B_rainSpeed_0 : decode b_B_rainSpeed 0 = .ok (.aload_n 0, 1) := by decide +kernel
theorem d_B_rainSpeed_1 : decode b_B_rainSpeed 1 = .ok (.getfield 125, 3) := by decide +kernel
theorem d_B_rainSpeed_4 : decode b_B_rainSpeed 4 = .ok (.ifCond .ne 5, 3) := by decide +kernel
theorem d_B_rainSpeed_7 : decode b_B_rainSpeed 7 = .ok (.iconst 0, 1) := by decide +kernel
theorem d_B_rainSpeed_8 : decode b_B_rainSpeed 8 = .ok (.ireturn, 1) := by decide +kernel
theorem d_B_rainSpeed_9 : decode b_B_rainSpeed 9 = .ok (.aload_n 0, 1) := by decide +kernel
theorem d_B_rainSpeed_10 : decode b_B_rainSpeed 10 = .ok (.getfield 125, 3) := by decide +kernel
theorem d_B_rainSpeed_13 : decode b_B_rainSpeed 13 = .ok (.bipush 8, 2) := by decide +kernel
theorem d_B_rainSpeed_15 : decode b_B_rainSpeed 15 = .ok (.if_icmp .ge 7, 3) := by decide +kernel
theorem d_B_rainSpeed_18 : decode b_B_rainSpeed 18 = .ok (.iconst 1, 1) := by decide +kernel
theorem d_B_rainSpeed_19 : decode b_B_rainSpeed 19 = .ok (.goto 4, 3) := by decide +kernel
theorem d_B_rainSpeed_22 : decode b_B_rainSpeed 22 = .ok (.iconst 2, 1) := by decide +kernel
theorem d_B_rainSpeed_23 : decode b_B_rainSpeed 23 = .ok (.ireturn, 1) := by decide +kernel
theorem d_B_pauseAfterWiping_0 : decode b_B_pauseAfterWiping 0 = .ok (.aload_n 0, 1) := by decide +kernel
theorem d_B_pauseAfterWiping_1 : decode b_B_pauseAfterWiping 1 = .ok (.getfield 9, 3) := by decide +kernel
theorem d_B_pauseAfterWiping_4 : decode b_B_pauseAfterWiping 4 = .ok (.iconst 4, 1) := by decide +kernel
theorem d_B_pauseAfterWiping_5 : decode b_B_pauseAfterWiping 5 = .ok (.iaload, 1) := by decide +kernel
theorem d_B_pauseAfterWiping_6 : decode b_B_pauseAfterWiping 6 = .ok (.iconst 1, 1) := by decide +kernel
theorem d_B_pauseAfterWiping_7 : decode b_B_pauseAfterWiping 7 = .ok (.if_icmp .ne 23, 3) := by decide +kernel
theorem d_B_pauseAfterWiping_10 : decode b_B_pauseAfterWiping 10 = .ok (.aload_n 0, 1) := by decide +kernel
theorem d_B_pauseAfterWiping_11 : decode b_B_pauseAfterWiping 11 = .ok (.getfield 125, 3) := by decide +kernel
theorem d_B_pauseAfterWiping_14 : decode b_B_pauseAfterWiping 14 = .ok (.iconst 1, 1) := by decide +kernel
theorem d_B_pauseAfterWiping_15 : decode b_B_pauseAfterWiping 15 = .ok (.if_icmp .lt 15, 3) := by decide +kernel
theorem d_B_pauseAfterWiping_18 : decode b_B_pauseAfterWiping 18 = .ok (.aload_n 0, 1) := by decide +kernel
theorem d_B_pauseAfterWiping_19 : decode b_B_pauseAfterWiping 19 = .ok (.getfield 125, 3) := by decide +kernel
theorem d_B_pauseAfterWiping_22 : decode b_B_pauseAfterWiping 22 = .ok (.iconst 4, 1) := by decide +kernel
theorem d_B_pauseAfterWiping_23 : decode b_B_pauseAfterWiping 23 = .ok (.if_icmp .gt 7, 3) := by decide +kernel
theorem d_B_pauseAfterWiping_26 : decode b_B_pauseAfterWiping 26 = .ok (.iconst 1, 1) := by decide +kernel
theorem d_B_pauseAfterWiping_27 : decode b_B_pauseAfterWiping 27 = .ok (.goto 4, 3) := by decide +kernel
theorem d_B_pauseAfterWiping_30 : decode b_B_pauseAfterWiping 30 = .ok (.iconst 0, 1) := by decide +kernel
theorem d_B_pauseAfterWiping_31 : decode b_B_pauseAfterWiping 31 = .ok (.istore_n 1, 1) := by decide +kernel
theorem d_B_pauseAfterWiping_32 : decode b_B_pauseAfterWiping 32 = .ok (.iload_n 1, 1) := by decide +kernel
theorem d_B_pauseAfterWiping_33 : decode b_B_pauseAfterWiping 33 = .ok (.ifCond .eq 17, 3) := by decide +kernel
theorem d_B_pauseAfterWiping_36 : decode b_B_pauseAfterWiping 36 = .ok (.sipush 400, 3) := by decide +kernel
theorem d_B_pauseAfterWiping_39 : decode b_B_pauseAfterWiping 39 = .ok (.bipush 80, 2) := by decide +kernel
theorem d_B_pauseAfterWiping_41 : decode b_B_pauseAfterWiping 41 = .ok (.aload_n 0, 1) := by decide +kernel
theorem d_B_pauseAfterWiping_42 : decode b_B_pauseAfterWiping 42 = .ok (.getfield 125, 3) := by decide +kernel
theorem d_B_pauseAfterWiping_45 : decode b_B_pauseAfterWiping 45 = .ok (.imul, 1) := by decide +kernel
theorem d_B_pauseAfterWiping_46 : decode b_B_pauseAfterWiping 46 = .ok (.isub, 1) := by decide +kernel
theorem d_B_pauseAfterWiping_47 : decode b_B_pauseAfterWiping 47 = .ok (.goto 4, 3) := by decide +kernel
theorem d_B_pauseAfterWiping_50 : decode b_B_pauseAfterWiping 50 = .ok (.iconst 0, 1) := by decide +kernel
theorem d_B_pauseAfterWiping_51 : decode b_B_pauseAfterWiping 51 = .ok (.ireturn, 1) := by decide +kernel
theorem d_B_tickInterior_0 : decode b_B_tickInterior 0 = .ok (.aload_n 0, 1) := by decide +kernel
theorem d_B_tickInterior_1 : decode b_B_tickInterior 1 = .ok (.getfield 135, 3) := by decide +kernel
theorem d_B_tickInterior_4 : decode b_B_tickInterior 4 = .ok (.ifCond .ne 14, 3) := by decide +kernel
theorem d_B_tickInterior_7 : decode b_B_tickInterior 7 = .ok (.aload_n 0, 1) := by decide +kernel
theorem d_B_tickInterior_8 : decode b_B_tickInterior 8 = .ok (.getfield 9, 3) := by decide +kernel
theorem d_B_tickInterior_11 : decode b_B_tickInterior 11 = .ok (.bipush 8, 2) := by decide +kernel
theorem d_B_tickInterior_13 : decode b_B_tickInterior 13 = .ok (.iaload, 1) := by decide +kernel
theorem d_B_tickInterior_14 : decode b_B_tickInterior 14 = .ok (.iconst 1, 1) := by decide +kernel
theorem d_B_tickInterior_15 : decode b_B_tickInterior 15 = .ok (.if_icmp .ne 21, 3) := by decide +kernel
theorem d_B_tickInterior_18 : decode b_B_tickInterior 18 = .ok (.aload_n 0, 1) := by decide +kernel
theorem d_B_tickInterior_19 : decode b_B_tickInterior 19 = .ok (.aload_n 0, 1) := by decide +kernel
theorem d_B_tickInterior_20 : decode b_B_tickInterior 20 = .ok (.getfield 139, 3) := by decide +kernel
theorem d_B_tickInterior_23 : decode b_B_tickInterior 23 = .ok (.iconst 1, 1) := by decide +kernel
theorem d_B_tickInterior_24 : decode b_B_tickInterior 24 = .ok (.iadd, 1) := by decide +kernel
theorem d_B_tickInterior_25 : decode b_B_tickInterior 25 = .ok (.bipush 100, 2) := by decide +kernel
theorem d_B_tickInterior_27 : decode b_B_tickInterior 27 = .ok (.invokestatic 214, 3) := by decide +kernel
theorem d_B_tickInterior_30 : decode b_B_tickInterior 30 = .ok (.putfield 139, 3) := by decide +kernel
theorem d_B_tickInterior_33 : decode b_B_tickInterior 33 = .ok (.goto 17, 3) := by decide +kernel
theorem d_B_tickInterior_36 : decode b_B_tickInterior 36 = .ok (.aload_n 0, 1) := by decide +kernel
theorem d_B_tickInterior_37 : decode b_B_tickInterior 37 = .ok (.aload_n 0, 1) := by decide +kernel
theorem d_B_tickInterior_38 : decode b_B_tickInterior 38 = .ok (.getfield 139, 3) := by decide +kernel
theorem d_B_tickInterior_41 : decode b_B_tickInterior 41 = .ok (.iconst 1, 1) := by decide +kernel
theorem d_B_tickInterior_42 : decode b_B_tickInterior 42 = .ok (.isub, 1) := by decide +kernel
theorem d_B_tickInterior_43 : decode b_B_tickInterior 43 = .ok (.iconst 0, 1) := by decide +kernel
theorem d_B_tickInterior_44 : decode b_B_tickInterior 44 = .ok (.invokestatic 220, 3) := by decide +kernel
theorem d_B_tickInterior_47 : decode b_B_tickInterior 47 = .ok (.putfield 139, 3) := by decide +kernel
theorem d_B_tickInterior_50 : decode b_B_tickInterior 50 = .ok (.return_, 1) := by decide +kernel
theorem d_B_giveBack_0 : decode b_B_giveBack 0 = .ok (.iload_n 2, 1) := by decide +kernel
theorem d_B_giveBack_1 : decode b_B_giveBack 1 = .ok (.iconst (-1), 1) := by decide +kernel
theorem d_B_giveBack_2 : decode b_B_giveBack 2 = .ok (.if_icmp .ne 4, 3) := by decide +kernel
theorem d_B_giveBack_5 : decode b_B_giveBack 5 = .ok (.return_, 1) := by decide +kernel
theorem d_B_giveBack_6 : decode b_B_giveBack 6 = .ok (.iload_n 1, 1) := by decide +kernel
theorem d_B_giveBack_7 : decode b_B_giveBack 7 = .ok (.iconst 4, 1) := by decide +kernel
theorem d_B_giveBack_8 : decode b_B_giveBack 8 = .ok (.invokestatic 53, 3) := by decide +kernel
theorem d_B_giveBack_11 : decode b_B_giveBack 11 = .ok (.ifCond .eq 16, 3) := by decide +kernel
theorem d_B_giveBack_14 : decode b_B_giveBack 14 = .ok (.aload_n 0, 1) := by decide +kernel
theorem d_B_giveBack_15 : decode b_B_giveBack 15 = .ok (.getfield 36, 3) := by decide +kernel
theorem d_B_giveBack_18 : decode b_B_giveBack 18 = .ok (.iload_n 1, 1) := by decide +kernel
theorem d_B_giveBack_19 : decode b_B_giveBack 19 = .ok (.aaload, 1) := by decide +kernel
theorem d_B_giveBack_20 : decode b_B_giveBack 20 = .ok (.iload_n 2, 1) := by decide +kernel
theorem d_B_giveBack_21 : decode b_B_giveBack 21 = .ok (.putfield 129, 3) := by decide +kernel
theorem d_B_giveBack_24 : decode b_B_giveBack 24 = .ok (.goto 8, 3) := by decide +kernel
theorem d_B_giveBack_27 : decode b_B_giveBack 27 = .ok (.aload_n 0, 1) := by decide +kernel
theorem d_B_giveBack_28 : decode b_B_giveBack 28 = .ok (.iload_n 2, 1) := by decide +kernel
theorem d_B_giveBack_29 : decode b_B_giveBack 29 = .ok (.putfield 139, 3) := by decide +kernel
theorem d_B_giveBack_32 : decode b_B_giveBack 32 = .ok (.return_, 1) := by decide +kernel
