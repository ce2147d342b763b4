theorem d_M_init_0 : decode b_M_init 0 = .ok (.aload_n 0, 1) := by decide +kernel
theorem d_M_init_1 : decode b_M_init 1 = .ok (.invokespecial 1, 3) := by decide +kernel
theorem d_M_init_4 : decode b_M_init 4 = .ok (.aload_n 0, 1) := by decide +kernel
theorem d_M_init_5 : decode b_M_init 5 = .ok (.bipush 9, 2) := by decide +kernel
theorem d_M_init_7 : decode b_M_init 7 = .ok (.newarray .int, 2) := by decide +kernel
theorem d_M_init_9 : decode b_M_init 9 = .ok (.putfield 7, 3) := by decide +kernel
theorem d_M_init_12 : decode b_M_init 12 = .ok (.aload_n 0, 1) := by decide +kernel
theorem d_M_init_13 : decode b_M_init 13 = .ok (.iconst 2, 1) := by decide +kernel
theorem d_M_init_14 : decode b_M_init 14 = .ok (.newarray .boolean, 2) := by decide +kernel
theorem d_M_init_16 : decode b_M_init 16 = .ok (.putfield 13, 3) := by decide +kernel
theorem d_M_init_19 : decode b_M_init 19 = .ok (.aload_n 0, 1) := by decide +kernel
theorem d_M_init_20 : decode b_M_init 20 = .ok (.iconst 2, 1) := by decide +kernel
theorem d_M_init_21 : decode b_M_init 21 = .ok (.newarray .int, 2) := by decide +kernel
theorem d_M_init_23 : decode b_M_init 23 = .ok (.putfield 17, 3) := by decide +kernel
theorem d_M_init_26 : decode b_M_init 26 = .ok (.aload_n 0, 1) := by decide +kernel
theorem d_M_init_27 : decode b_M_init 27 = .ok (.iconst 2, 1) := by decide +kernel
theorem d_M_init_28 : decode b_M_init 28 = .ok (.newarray .int, 2) := by decide +kernel
theorem d_M_init_30 : decode b_M_init 30 = .ok (.putfield 20, 3) := by decide +kernel
theorem d_M_init_33 : decode b_M_init 33 = .ok (.aload_n 0, 1) := by decide +kernel
theorem d_M_init_34 : decode b_M_init 34 = .ok (.bipush 6, 2) := by decide +kernel
theorem d_M_init_36 : decode b_M_init 36 = .ok (.newarray .boolean, 2) := by decide +kernel
theorem d_M_init_38 : decode b_M_init 38 = .ok (.putfield 23, 3) := by decide +kernel
theorem d_M_init_41 : decode b_M_init 41 = .ok (.aload_n 0, 1) := by decide +kernel
theorem d_M_init_42 : decode b_M_init 42 = .ok (.iconst 4, 1) := by decide +kernel
theorem d_M_init_43 : decode b_M_init 43 = .ok (.newarray .int, 2) := by decide +kernel
theorem d_M_init_45 : decode b_M_init 45 = .ok (.putfield 26, 3) := by decide +kernel
theorem d_M_init_48 : decode b_M_init 48 = .ok (.aload_n 0, 1) := by decide +kernel
theorem d_M_init_49 : decode b_M_init 49 = .ok (.iconst 4, 1) := by decide +kernel
theorem d_M_init_50 : decode b_M_init 50 = .ok (.newarray .int, 2) := by decide +kernel
theorem d_M_init_52 : decode b_M_init 52 = .ok (.putfield 29, 3) := by decide +kernel
theorem d_M_init_55 : decode b_M_init 55 = .ok (.aload_n 0, 1) := by decide +kernel
theorem d_M_init_56 : decode b_M_init 56 = .ok (.iconst 4, 1) := by decide +kernel
theorem d_M_init_57 : decode b_M_init 57 = .ok (.newarray .boolean, 2) := by decide +kernel
theorem d_M_init_59 : decode b_M_init 59 = .ok (.putfield 32, 3) := by decide +kernel
theorem d_M_init_62 : decode b_M_init 62 = .ok (.aload_n 0, 1) := by decide +kernel
theorem d_M_init_63 : decode b_M_init 63 = .ok (.bipush 13, 2) := by decide +kernel
theorem d_M_init_65 : decode b_M_init 65 = .ok (.newarray .int, 2) := by decide +kernel
theorem d_M_init_67 : decode b_M_init 67 = .ok (.putfield 35, 3) := by decide +kernel
theorem d_M_init_70 : decode b_M_init 70 = .ok (.aload_n 0, 1) := by decide +kernel
theorem d_M_init_71 : decode b_M_init 71 = .ok (.bipush 13, 2) := by decide +kernel
theorem d_M_init_73 : decode b_M_init 73 = .ok (.newarray .boolean, 2) := by decide +kernel
theorem d_M_init_75 : decode b_M_init 75 = .ok (.putfield 38, 3) := by decide +kernel
theorem d_M_init_78 : decode b_M_init 78 = .ok (.aload_n 0, 1) := by decide +kernel
theorem d_M_init_79 : decode b_M_init 79 = .ok (.bipush 13, 2) := by decide +kernel
theorem d_M_init_81 : decode b_M_init 81 = .ok (.newarray .boolean, 2) := by decide +kernel
theorem d_M_init_83 : decode b_M_init 83 = .ok (.putfield 41, 3) := by decide +kernel
theorem d_M_init_86 : decode b_M_init 86 = .ok (.aload_n 0, 1) := by decide +kernel
theorem d_M_init_87 : decode b_M_init 87 = .ok (.bipush 20, 2) := by decide +kernel
theorem d_M_init_89 : decode b_M_init 89 = .ok (.newarray .int, 2) := by decide +kernel
theorem d_M_init_91 : decode b_M_init 91 = .ok (.putfield 44, 3) := by decide +kernel
theorem d_M_init_94 : decode b_M_init 94 = .ok (.aload_n 0, 1) := by decide +kernel
theorem d_M_init_95 : decode b_M_init 95 = .ok (.bipush 10, 2) := by decide +kernel
theorem d_M_init_97 : decode b_M_init 97 = .ok (.newarray .int, 2) := by decide +kernel
theorem d_M_init_99 : decode b_M_init 99 = .ok (.putfield 47, 3) := by decide +kernel
theorem d_M_init_102 : decode b_M_init 102 = .ok (.aload_n 0, 1) := by decide +kernel
theorem d_M_init_103 : decode b_M_init 103 = .ok (.getfield 7, 3) := by decide +kernel
theorem d_M_init_106 : decode b_M_init 106 = .ok (.iconst 1, 1) := by decide +kernel
theorem d_M_init_107 : decode b_M_init 107 = .ok (.sipush 1000, 3) := by decide +kernel
theorem d_M_init_110 : decode b_M_init 110 = .ok (.iastore, 1) := by decide +kernel
theorem d_M_init_111 : decode b_M_init 111 = .ok (.iconst 0, 1) := by decide +kernel
theorem d_M_init_112 : decode b_M_init 112 = .ok (.istore_n 1, 1) := by decide +kernel
theorem d_M_init_113 : decode b_M_init 113 = .ok (.iload_n 1, 1) := by decide +kernel
theorem d_M_init_114 : decode b_M_init 114 = .ok (.bipush 20, 2) := by decide +kernel
theorem d_M_init_116 : decode b_M_init 116 = .ok (.if_icmp .ge 16, 3) := by decide +kernel
theorem d_M_init_119 : decode b_M_init 119 = .ok (.aload_n 0, 1) := by decide +kernel
theorem d_M_init_120 : decode b_M_init 120 = .ok (.getfield 44, 3) := by decide +kernel
theorem d_M_init_123 : decode b_M_init 123 = .ok (.iload_n 1, 1) := by decide +kernel
theorem d_M_init_124 : decode b_M_init 124 = .ok (.iconst (-1), 1) := by decide +kernel
theorem d_M_init_125 : decode b_M_init 125 = .ok (.iastore, 1) := by decide +kernel
theorem d_M_init_126 : decode b_M_init 126 = .ok (.iinc 1 1, 3) := by decide +kernel
theorem d_M_init_129 : decode b_M_init 129 = .ok (.goto (-16), 3) := by decide +kernel
theorem d_M_init_132 : decode b_M_init 132 = .ok (.return_, 1) := by decide +kernel
theorem d_M_thrown_0 : decode b_M_thrown 0 = .ok (.aload_n 0, 1) := by decide +kernel
theorem d_M_thrown_1 : decode b_M_thrown 1 = .ok (.getfield 50, 3) := by decide +kernel
theorem d_M_thrown_4 : decode b_M_thrown 4 = .ok (.ireturn, 1) := by decide +kernel
theorem d_M_within_0 : decode b_M_within 0 = .ok (.iload_n 0, 1) := by decide +kernel
theorem d_M_within_1 : decode b_M_within 1 = .ok (.iload_n 1, 1) := by decide +kernel
theorem d_M_within_2 : decode b_M_within 2 = .ok (.if_icmp .lt 12, 3) := by decide +kernel
theorem d_M_within_5 : decode b_M_within 5 = .ok (.iload_n 0, 1) := by decide +kernel
theorem d_M_within_6 : decode b_M_within 6 = .ok (.iload_n 2, 1) := by decide +kernel
theorem d_M_within_7 : decode b_M_within 7 = .ok (.if_icmp .gt 7, 3) := by decide +kernel
theorem d_M_within_10 : decode b_M_within 10 = .ok (.iconst 1, 1) := by decide +kernel
theorem d_M_within_11 : decode b_M_within 11 = .ok (.goto 4, 3) := by decide +kernel
theorem d_M_within_14 : decode b_M_within 14 = .ok (.iconst 0, 1) := by decide +kernel
theorem d_M_within_15 : decode b_M_within 15 = .ok (.ireturn, 1) := by decide +kernel
theorem d_M_period_0 : decode b_M_period 0 = .ok (.aload_n 0, 1) := by decide +kernel
theorem d_M_period_1 : decode b_M_period 1 = .ok (.getfield 23, 3) := by decide +kernel
theorem d_M_period_4 : decode b_M_period 4 = .ok (.iconst 4, 1) := by decide +kernel
theorem d_M_period_5 : decode b_M_period 5 = .ok (.iload_n 1, 1) := by decide +kernel
theorem d_M_period_6 : decode b_M_period 6 = .ok (.iadd, 1) := by decide +kernel
theorem d_M_period_7 : decode b_M_period 7 = .ok (.baload, 1) := by decide +kernel
theorem d_M_period_8 : decode b_M_period 8 = .ok (.ifCond .eq 8, 3) := by decide +kernel
theorem d_M_period_11 : decode b_M_period 11 = .ok (.bipush 40, 2) := by decide +kernel
theorem d_M_period_13 : decode b_M_period 13 = .ok (.goto 5, 3) := by decide +kernel
theorem d_M_period_16 : decode b_M_period 16 = .ok (.bipush 80, 2) := by decide +kernel
theorem d_M_period_18 : decode b_M_period 18 = .ok (.ireturn, 1) := by decide +kernel
theorem d_M_lit_0 : decode b_M_lit 0 = .ok (.aload_n 0, 1) := by decide +kernel
theorem d_M_lit_1 : decode b_M_lit 1 = .ok (.getfield 13, 3) := by decide +kernel
theorem d_M_lit_4 : decode b_M_lit 4 = .ok (.iload_n 1, 1) := by decide +kernel
theorem d_M_lit_5 : decode b_M_lit 5 = .ok (.baload, 1) := by decide +kernel
theorem d_M_lit_6 : decode b_M_lit 6 = .ok (.ifCond .eq 23, 3) := by decide +kernel
theorem d_M_lit_9 : decode b_M_lit 9 = .ok (.iconst 2, 1) := by decide +kernel
theorem d_M_lit_10 : decode b_M_lit 10 = .ok (.aload_n 0, 1) := by decide +kernel
theorem d_M_lit_11 : decode b_M_lit 11 = .ok (.getfield 17, 3) := by decide +kernel
theorem d_M_lit_14 : decode b_M_lit 14 = .ok (.iload_n 1, 1) := by decide +kernel
theorem d_M_lit_15 : decode b_M_lit 15 = .ok (.iaload, 1) := by decide +kernel
theorem d_M_lit_16 : decode b_M_lit 16 = .ok (.imul, 1) := by decide +kernel
theorem d_M_lit_17 : decode b_M_lit 17 = .ok (.aload_n 0, 1) := by decide +kernel
theorem d_M_lit_18 : decode b_M_lit 18 = .ok (.iload_n 1, 1) := by decide +kernel
theorem d_M_lit_19 : decode b_M_lit 19 = .ok (.invokevirtual 54, 3) := by decide +kernel
theorem d_M_lit_22 : decode b_M_lit 22 = .ok (.if_icmp .ge 7, 3) := by decide +kernel
theorem d_M_lit_25 : decode b_M_lit 25 = .ok (.iconst 1, 1) := by decide +kernel
theorem d_M_lit_26 : decode b_M_lit 26 = .ok (.goto 4, 3) := by decide +kernel
theorem d_M_lit_29 : decode b_M_lit 29 = .ok (.iconst 0, 1) := by decide +kernel
theorem d_M_lit_30 : decode b_M_lit 30 = .ok (.ireturn, 1) := by decide +kernel
theorem d_M_value_0 : decode b_M_value 0 = .ok (.aload_n 0, 1) := by decide +kernel
theorem d_M_value_1 : decode b_M_value 1 = .ok (.getfield 7, 3) := by decide +kernel
theorem d_M_value_4 : decode b_M_value 4 = .ok (.iconst 0, 1) := by decide +kernel
theorem d_M_value_5 : decode b_M_value 5 = .ok (.iaload, 1) := by decide +kernel
theorem d_M_value_6 : decode b_M_value 6 = .ok (.iconst 2, 1) := by decide +kernel
theorem d_M_value_7 : decode b_M_value 7 = .ok (.if_icmp .eq 20, 3) := by decide +kernel
theorem d_M_value_10 : decode b_M_value 10 = .ok (.aload_n 0, 1) := by decide +kernel
theorem d_M_value_11 : decode b_M_value 11 = .ok (.getfield 7, 3) := by decide +kernel
theorem d_M_value_14 : decode b_M_value 14 = .ok (.iconst 0, 1) := by decide +kernel
theorem d_M_value_15 : decode b_M_value 15 = .ok (.iaload, 1) := by decide +kernel
theorem d_M_value_16 : decode b_M_value 16 = .ok (.iconst 3, 1) := by decide +kernel
theorem d_M_value_17 : decode b_M_value 17 = .ok (.if_icmp .ne 14, 3) := by decide +kernel
theorem d_M_value_20 : decode b_M_value 20 = .ok (.aload_n 0, 1) := by decide +kernel
theorem d_M_value_21 : decode b_M_value 21 = .ok (.getfield 58, 3) := by decide +kernel
theorem d_M_value_24 : decode b_M_value 24 = .ok (.ifCond .eq 7, 3) := by decide +kernel
theorem d_M_value_27 : decode b_M_value 27 = .ok (.iconst 1, 1) := by decide +kernel
theorem d_M_value_28 : decode b_M_value 28 = .ok (.goto 4, 3) := by decide +kernel
theorem d_M_value_31 : decode b_M_value 31 = .ok (.iconst 0, 1) := by decide +kernel
theorem d_M_value_32 : decode b_M_value 32 = .ok (.istore_n 2, 1) := by decide +kernel
theorem d_M_value_33 : decode b_M_value 33 = .ok (.iload_n 2, 1) := by decide +kernel
theorem d_M_value_34 : decode b_M_value 34 = .ok (.ifCond .eq 17, 3) := by decide +kernel
theorem d_M_value_37 : decode b_M_value 37 = .ok (.aload_n 0, 1) := by decide +kernel
theorem d_M_value_38 : decode b_M_value 38 = .ok (.getfield 7, 3) := by decide +kernel
theorem d_M_value_41 : decode b_M_value 41 = .ok (.iconst 5, 1) := by decide +kernel
theorem d_M_value_42 : decode b_M_value 42 = .ok (.iaload, 1) := by decide +kernel
theorem d_M_value_43 : decode b_M_value 43 = .ok (.iconst 1, 1) := by decide +kernel
theorem d_M_value_44 : decode b_M_value 44 = .ok (.if_icmp .ne 7, 3) := by decide +kernel
theorem d_M_value_47 : decode b_M_value 47 = .ok (.iconst 1, 1) := by decide +kernel
theorem d_M_value_48 : decode b_M_value 48 = .ok (.goto 4, 3) := by decide +kernel
theorem d_M_value_51 : decode b_M_value 51 = .ok (.iconst 0, 1) := by decide +kernel
theorem d_M_value_52 : decode b_M_value 52 = .ok (.istore_n 3, 1) := by decide +kernel
theorem d_M_value_53 : decode b_M_value 53 = .ok (.iload_n 1, 1) := by decide +kernel
theorem d_M_value_54 : decode b_M_value 54 = .ok (.tableswitch 130 0 7 #[46, 73, 83, 104, 104, 112, 117, 125], 46) := by decide +kernel
theorem d_M_value_100 : decode b_M_value 100 = .ok (.iload_n 2, 1) := by decide +kernel
theorem d_M_value_101 : decode b_M_value 101 = .ok (.ifCond .ne 20, 3) := by decide +kernel
theorem d_M_value_104 : decode b_M_value 104 = .ok (.aload_n 0, 1) := by decide +kernel
theorem d_M_value_105 : decode b_M_value 105 = .ok (.getfield 7, 3) := by decide +kernel
theorem d_M_value_108 : decode b_M_value 108 = .ok (.iconst 0, 1) := by decide +kernel
theorem d_M_value_109 : decode b_M_value 109 = .ok (.iaload, 1) := by decide +kernel
theorem d_M_value_110 : decode b_M_value 110 = .ok (.iconst 1, 1) := by decide +kernel
theorem d_M_value_111 : decode b_M_value 111 = .ok (.if_icmp .eq 10, 3) := by decide +kernel
theorem d_M_value_114 : decode b_M_value 114 = .ok (.aload_n 0, 1) := by decide +kernel
theorem d_M_value_115 : decode b_M_value 115 = .ok (.getfield 62, 3) := by decide +kernel
theorem d_M_value_118 : decode b_M_value 118 = .ok (.ifCond .eq 7, 3) := by decide +kernel
theorem d_M_value_121 : decode b_M_value 121 = .ok (.iconst 1, 1) := by decide +kernel
theorem d_M_value_122 : decode b_M_value 122 = .ok (.goto 4, 3) := by decide +kernel
theorem d_M_value_125 : decode b_M_value 125 = .ok (.iconst 0, 1) := by decide +kernel
theorem d_M_value_126 : decode b_M_value 126 = .ok (.ireturn, 1) := by decide +kernel
theorem d_M_value_127 : decode b_M_value 127 = .ok (.iload_n 3, 1) := by decide +kernel
theorem d_M_value_128 : decode b_M_value 128 = .ok (.ifCond .eq 7, 3) := by decide +kernel
theorem d_M_value_131 : decode b_M_value 131 = .ok (.iconst 1, 1) := by decide +kernel
theorem d_M_value_132 : decode b_M_value 132 = .ok (.goto 4, 3) := by decide +kernel
theorem d_M_value_135 : decode b_M_value 135 = .ok (.iconst 0, 1) := by decide +kernel
theorem d_M_value_136 : decode b_M_value 136 = .ok (.ireturn, 1) := by decide +kernel
theorem d_M_value_137 : decode b_M_value 137 = .ok (.iload_n 3, 1) := by decide +kernel
theorem d_M_value_138 : decode b_M_value 138 = .ok (.ifCond .eq 18, 3) := by decide +kernel
theorem d_M_value_141 : decode b_M_value 141 = .ok (.aload_n 0, 1) := by decide +kernel
theorem d_M_value_142 : decode b_M_value 142 = .ok (.getfield 7, 3) := by decide +kernel
theorem d_M_value_145 : decode b_M_value 145 = .ok (.bipush 6, 2) := by decide +kernel
theorem d_M_value_147 : decode b_M_value 147 = .ok (.iaload, 1) := by decide +kernel
theorem d_M_value_148 : decode b_M_value 148 = .ok (.iconst 1, 1) := by decide +kernel
theorem d_M_value_149 : decode b_M_value 149 = .ok (.if_icmp .ne 7, 3) := by decide +kernel
theorem d_M_value_152 : decode b_M_value 152 = .ok (.iconst 1, 1) := by decide +kernel
theorem d_M_value_153 : decode b_M_value 153 = .ok (.goto 4, 3) := by decide +kernel
theorem d_M_value_156 : decode b_M_value 156 = .ok (.iconst 0, 1) := by decide +kernel
theorem d_M_value_157 : decode b_M_value 157 = .ok (.ireturn, 1) := by decide +kernel
theorem d_M_value_158 : decode b_M_value 158 = .ok (.aload_n 0, 1) := by decide +kernel
theorem d_M_value_159 : decode b_M_value 159 = .ok (.iload_n 1, 1) := by decide +kernel
theorem d_M_value_160 : decode b_M_value 160 = .ok (.iconst 3, 1) := by decide +kernel
theorem d_M_value_161 : decode b_M_value 161 = .ok (.isub, 1) := by decide +kernel
theorem d_M_value_162 : decode b_M_value 162 = .ok (.invokevirtual 65, 3) := by decide +kernel
theorem d_M_value_165 : decode b_M_value 165 = .ok (.ireturn, 1) := by decide +kernel
theorem d_M_value_166 : decode b_M_value 166 = .ok (.aload_n 0, 1) := by decide +kernel
theorem d_M_value_167 : decode b_M_value 167 = .ok (.getfield 68, 3) := by decide +kernel
theorem d_M_value_170 : decode b_M_value 170 = .ok (.ireturn, 1) := by decide +kernel
theorem d_M_value_171 : decode b_M_value 171 = .ok (.aload_n 0, 1) := by decide +kernel
theorem d_M_value_172 : decode b_M_value 172 = .ok (.getfield 7, 3) := by decide +kernel
theorem d_M_value_175 : decode b_M_value 175 = .ok (.bipush 7, 2) := by decide +kernel
theorem d_M_value_177 : decode b_M_value 177 = .ok (.iaload, 1) := by decide +kernel
theorem d_M_value_178 : decode b_M_value 178 = .ok (.ireturn, 1) := by decide +kernel
theorem d_M_value_179 : decode b_M_value 179 = .ok (.aload_n 0, 1) := by decide +kernel
theorem d_M_value_180 : decode b_M_value 180 = .ok (.getfield 71, 3) := by decide +kernel
theorem d_M_value_183 : decode b_M_value 183 = .ok (.ireturn, 1) := by decide +kernel
theorem d_M_value_184 : decode b_M_value 184 = .ok (.aload_n 0, 1) := by decide +kernel
theorem d_M_value_185 : decode b_M_value 185 = .ok (.getfield 74, 3) := by decide +kernel
theorem d_M_value_188 : decode b_M_value 188 = .ok (.ifCond .eq 14, 3) := by decide +kernel
theorem d_M_value_191 : decode b_M_value 191 = .ok (.aload_n 0, 1) := by decide +kernel
theorem d_M_value_192 : decode b_M_value 192 = .ok (.iload_n 1, 1) := by decide +kernel
theorem d_M_value_193 : decode b_M_value 193 = .ok (.bipush 8, 2) := by decide +kernel
theorem d_M_value_195 : decode b_M_value 195 = .ok (.isub, 1) := by decide +kernel
theorem d_M_value_196 : decode b_M_value 196 = .ok (.invokevirtual 65, 3) := by decide +kernel
theorem d_M_value_199 : decode b_M_value 199 = .ok (.goto 4, 3) := by decide +kernel
theorem d_M_value_202 : decode b_M_value 202 = .ok (.iconst 0, 1) := by decide +kernel
theorem d_M_value_203 : decode b_M_value 203 = .ok (.ireturn, 1) := by decide +kernel
theorem d_M_layBy_0 : decode b_M_layBy 0 = .ok (.iconst 0, 1) := by decide +kernel
theorem d_M_layBy_1 : decode b_M_layBy 1 = .ok (.istore_n 1, 1) := by decide +kernel
theorem d_M_layBy_2 : decode b_M_layBy 2 = .ok (.iload_n 1, 1) := by decide +kernel
theorem d_M_layBy_3 : decode b_M_layBy 3 = .ok (.bipush 10, 2) := by decide +kernel
theorem d_M_layBy_5 : decode b_M_layBy 5 = .ok (.if_icmp .ge 20, 3) := by decide +kernel
theorem d_M_layBy_8 : decode b_M_layBy 8 = .ok (.aload_n 0, 1) := by decide +kernel
theorem d_M_layBy_9 : decode b_M_layBy 9 = .ok (.getfield 47, 3) := by decide +kernel
theorem d_M_layBy_12 : decode b_M_layBy 12 = .ok (.iload_n 1, 1) := by decide +kernel
theorem d_M_layBy_13 : decode b_M_layBy 13 = .ok (.aload_n 0, 1) := by decide +kernel
theorem d_M_layBy_14 : decode b_M_layBy 14 = .ok (.iload_n 1, 1) := by decide +kernel
theorem d_M_layBy_15 : decode b_M_layBy 15 = .ok (.invokevirtual 77, 3) := by decide +kernel
theorem d_M_layBy_18 : decode b_M_layBy 18 = .ok (.iastore, 1) := by decide +kernel
theorem d_M_layBy_19 : decode b_M_layBy 19 = .ok (.iinc 1 1, 3) := by decide +kernel
theorem d_M_layBy_22 : decode b_M_layBy 22 = .ok (.goto (-20), 3) := by decide +kernel
theorem d_M_layBy_25 : decode b_M_layBy 25 = .ok (.return_, 1) := by decide +kernel
theorem d_M_others_0 : decode b_M_others 0 = .ok (.iconst 0, 1) := by decide +kernel
theorem d_M_others_1 : decode b_M_others 1 = .ok (.istore_n 1, 1) := by decide +kernel
theorem d_M_others_2 : decode b_M_others 2 = .ok (.iconst 0, 1) := by decide +kernel
theorem d_M_others_3 : decode b_M_others 3 = .ok (.istore_n 2, 1) := by decide +kernel
theorem d_M_others_4 : decode b_M_others 4 = .ok (.iload_n 2, 1) := by decide +kernel
theorem d_M_others_5 : decode b_M_others 5 = .ok (.bipush 10, 2) := by decide +kernel
theorem d_M_others_7 : decode b_M_others 7 = .ok (.if_icmp .ge 31, 3) := by decide +kernel
theorem d_M_others_10 : decode b_M_others 10 = .ok (.iload_n 1, 1) := by decide +kernel
theorem d_M_others_11 : decode b_M_others 11 = .ok (.aload_n 0, 1) := by decide +kernel
theorem d_M_others_12 : decode b_M_others 12 = .ok (.getfield 47, 3) := by decide +kernel
theorem d_M_others_15 : decode b_M_others 15 = .ok (.iload_n 2, 1) := by decide +kernel
theorem d_M_others_16 : decode b_M_others 16 = .ok (.iaload, 1) := by decide +kernel
theorem d_M_others_17 : decode b_M_others 17 = .ok (.aload_n 0, 1) := by decide +kernel
theorem d_M_others_18 : decode b_M_others 18 = .ok (.iload_n 2, 1) := by decide +kernel
theorem d_M_others_19 : decode b_M_others 19 = .ok (.invokevirtual 77, 3) := by decide +kernel
theorem d_M_others_22 : decode b_M_others 22 = .ok (.if_icmp .eq 7, 3) := by decide +kernel
theorem d_M_others_25 : decode b_M_others 25 = .ok (.iconst 1, 1) := by decide +kernel
theorem d_M_others_26 : decode b_M_others 26 = .ok (.goto 4, 3) := by decide +kernel
theorem d_M_others_29 : decode b_M_others 29 = .ok (.iconst 0, 1) := by decide +kernel
theorem d_M_others_30 : decode b_M_others 30 = .ok (.iadd, 1) := by decide +kernel
theorem d_M_others_31 : decode b_M_others 31 = .ok (.istore_n 1, 1) := by decide +kernel
theorem d_M_others_32 : decode b_M_others 32 = .ok (.iinc 2 1, 3) := by decide +kernel
theorem d_M_others_35 : decode b_M_others 35 = .ok (.goto (-31), 3) := by decide +kernel
theorem d_M_others_38 : decode b_M_others 38 = .ok (.iload_n 1, 1) := by decide +kernel
theorem d_M_others_39 : decode b_M_others 39 = .ok (.ireturn, 1) := by decide +kernel
theorem d_M_output_0 : decode b_M_output 0 = .ok (.aload_n 0, 1) := by decide +kernel
theorem d_M_output_1 : decode b_M_output 1 = .ok (.iload_n 1, 1) := by decide +kernel
theorem d_M_output_2 : decode b_M_output 2 = .ok (.iconst 0, 1) := by decide +kernel
theorem d_M_output_3 : decode b_M_output 3 = .ok (.bipush 9, 2) := by decide +kernel
theorem d_M_output_5 : decode b_M_output 5 = .ok (.invokestatic 80, 3) := by decide +kernel
theorem d_M_output_8 : decode b_M_output 8 = .ok (.ifCond .eq 7, 3) := by decide +kernel
theorem d_M_output_11 : decode b_M_output 11 = .ok (.iconst 0, 1) := by decide +kernel
theorem d_M_output_12 : decode b_M_output 12 = .ok (.goto 4, 3) := by decide +kernel
theorem d_M_output_15 : decode b_M_output 15 = .ok (.iconst 1, 1) := by decide +kernel
theorem d_M_output_16 : decode b_M_output 16 = .ok (.putfield 50, 3) := by decide +kernel
theorem d_M_output_19 : decode b_M_output 19 = .ok (.aload_n 0, 1) := by decide +kernel
theorem d_M_output_20 : decode b_M_output 20 = .ok (.getfield 50, 3) := by decide +kernel
theorem d_M_output_23 : decode b_M_output 23 = .ok (.ifCond .le 7, 3) := by decide +kernel
theorem d_M_output_26 : decode b_M_output 26 = .ok (.iconst 0, 1) := by decide +kernel
theorem d_M_output_27 : decode b_M_output 27 = .ok (.goto 8, 3) := by decide +kernel
theorem d_M_output_30 : decode b_M_output 30 = .ok (.aload_n 0, 1) := by decide +kernel
theorem d_M_output_31 : decode b_M_output 31 = .ok (.iload_n 1, 1) := by decide +kernel
theorem d_M_output_32 : decode b_M_output 32 = .ok (.invokevirtual 77, 3) := by decide +kernel
theorem d_M_output_35 : decode b_M_output 35 = .ok (.ireturn, 1) := by decide +kernel
theorem d_M_most_0 : decode b_M_most 0 = .ok (.iload_n 0, 1) := by decide +kernel
theorem d_M_most_1 : decode b_M_most 1 = .ok (.ifCond .eq 8, 3) := by decide +kernel
theorem d_M_most_4 : decode b_M_most 4 = .ok (.iload_n 0, 1) := by decide +kernel
theorem d_M_most_5 : decode b_M_most 5 = .ok (.iconst 4, 1) := by decide +kernel
theorem d_M_most_6 : decode b_M_most 6 = .ok (.if_icmp .ne 7, 3) := by decide +kernel
theorem d_M_most_9 : decode b_M_most 9 = .ok (.iconst 3, 1) := by decide +kernel
theorem d_M_most_10 : decode b_M_most 10 = .ok (.goto 24, 3) := by decide +kernel
theorem d_M_most_13 : decode b_M_most 13 = .ok (.iload_n 0, 1) := by decide +kernel
theorem d_M_most_14 : decode b_M_most 14 = .ok (.iconst 1, 1) := by decide +kernel
theorem d_M_most_15 : decode b_M_most 15 = .ok (.if_icmp .ne 9, 3) := by decide +kernel
theorem d_M_most_18 : decode b_M_most 18 = .ok (.sipush 1000, 3) := by decide +kernel
theorem d_M_most_21 : decode b_M_most 21 = .ok (.goto 13, 3) := by decide +kernel
theorem d_M_most_24 : decode b_M_most 24 = .ok (.iload_n 0, 1) := by decide +kernel
theorem d_M_most_25 : decode b_M_most 25 = .ok (.iconst 2, 1) := by decide +kernel
theorem d_M_most_26 : decode b_M_most 26 = .ok (.if_icmp .ne 7, 3) := by decide +kernel
theorem d_M_most_29 : decode b_M_most 29 = .ok (.iconst 2, 1) := by decide +kernel
theorem d_M_most_30 : decode b_M_most 30 = .ok (.goto 4, 3) := by decide +kernel
theorem d_M_most_33 : decode b_M_most 33 = .ok (.iconst 1, 1) := by decide +kernel
theorem d_M_most_34 : decode b_M_most 34 = .ok (.ireturn, 1) := by decide +kernel
theorem d_M_isWanted_0 : decode b_M_isWanted 0 = .ok (.aload_n 0, 1) := by decide +kernel
theorem d_M_isWanted_1 : decode b_M_isWanted 1 = .ok (.getfield 7, 3) := by decide +kernel
theorem d_M_isWanted_4 : decode b_M_isWanted 4 = .ok (.iconst 3, 1) := by decide +kernel
theorem d_M_isWanted_5 : decode b_M_isWanted 5 = .ok (.iaload, 1) := by decide +kernel
theorem d_M_isWanted_6 : decode b_M_isWanted 6 = .ok (.iconst 1, 1) := by decide +kernel
theorem d_M_isWanted_7 : decode b_M_isWanted 7 = .ok (.if_icmp .eq 22, 3) := by decide +kernel
theorem d_M_isWanted_10 : decode b_M_isWanted 10 = .ok (.aload_n 0, 1) := by decide +kernel
theorem d_M_isWanted_11 : decode b_M_isWanted 11 = .ok (.getfield 62, 3) := by decide +kernel
theorem d_M_isWanted_14 : decode b_M_isWanted 14 = .ok (.ifCond .ne 15, 3) := by decide +kernel
theorem d_M_isWanted_17 : decode b_M_isWanted 17 = .ok (.aload_n 0, 1) := by decide +kernel
theorem d_M_isWanted_18 : decode b_M_isWanted 18 = .ok (.getfield 7, 3) := by decide +kernel
theorem d_M_isWanted_21 : decode b_M_isWanted 21 = .ok (.iconst 2, 1) := by decide +kernel
theorem d_M_isWanted_22 : decode b_M_isWanted 22 = .ok (.iaload, 1) := by decide +kernel
theorem d_M_isWanted_23 : decode b_M_isWanted 23 = .ok (.iload_n 1, 1) := by decide +kernel
theorem d_M_isWanted_24 : decode b_M_isWanted 24 = .ok (.iconst 1, 1) := by decide +kernel
theorem d_M_isWanted_25 : decode b_M_isWanted 25 = .ok (.iadd, 1) := by decide +kernel
theorem d_M_isWanted_26 : decode b_M_isWanted 26 = .ok (.if_icmp .ne 7, 3) := by decide +kernel
theorem d_M_isWanted_29 : decode b_M_isWanted 29 = .ok (.iconst 1, 1) := by decide +kernel
theorem d_M_isWanted_30 : decode b_M_isWanted 30 = .ok (.goto 4, 3) := by decide +kernel
theorem d_M_isWanted_33 : decode b_M_isWanted 33 = .ok (.iconst 0, 1) := by decide +kernel
theorem d_M_isWanted_34 : decode b_M_isWanted 34 = .ok (.ireturn, 1) := by decide +kernel
theorem d_M_begin_0 : decode b_M_begin 0 = .ok (.iconst 0, 1) := by decide +kernel
theorem d_M_begin_1 : decode b_M_begin 1 = .ok (.istore_n 1, 1) := by decide +kernel
theorem d_M_begin_2 : decode b_M_begin 2 = .ok (.iload_n 1, 1) := by decide +kernel
theorem d_M_begin_3 : decode b_M_begin 3 = .ok (.iconst 2, 1) := by decide +kernel
theorem d_M_begin_4 : decode b_M_begin 4 = .ok (.if_icmp .ge 47, 3) := by decide +kernel
theorem d_M_begin_7 : decode b_M_begin 7 = .ok (.aload_n 0, 1) := by decide +kernel
theorem d_M_begin_8 : decode b_M_begin 8 = .ok (.iload_n 1, 1) := by decide +kernel
theorem d_M_begin_9 : decode b_M_begin 9 = .ok (.invokevirtual 84, 3) := by decide +kernel
theorem d_M_begin_12 : decode b_M_begin 12 = .ok (.ifCond .eq 33, 3) := by decide +kernel
theorem d_M_begin_15 : decode b_M_begin 15 = .ok (.aload_n 0, 1) := by decide +kernel
theorem d_M_begin_16 : decode b_M_begin 16 = .ok (.getfield 13, 3) := by decide +kernel
theorem d_M_begin_19 : decode b_M_begin 19 = .ok (.iload_n 1, 1) := by decide +kernel
theorem d_M_begin_20 : decode b_M_begin 20 = .ok (.baload, 1) := by decide +kernel
theorem d_M_begin_21 : decode b_M_begin 21 = .ok (.ifCond .ne 24, 3) := by decide +kernel
theorem d_M_begin_24 : decode b_M_begin 24 = .ok (.aload_n 0, 1) := by decide +kernel
theorem d_M_begin_25 : decode b_M_begin 25 = .ok (.getfield 13, 3) := by decide +kernel
theorem d_M_begin_28 : decode b_M_begin 28 = .ok (.iload_n 1, 1) := by decide +kernel
theorem d_M_begin_29 : decode b_M_begin 29 = .ok (.iconst 1, 1) := by decide +kernel
theorem d_M_begin_30 : decode b_M_begin 30 = .ok (.bastore, 1) := by decide +kernel
theorem d_M_begin_31 : decode b_M_begin 31 = .ok (.aload_n 0, 1) := by decide +kernel
theorem d_M_begin_32 : decode b_M_begin 32 = .ok (.getfield 17, 3) := by decide +kernel
theorem d_M_begin_35 : decode b_M_begin 35 = .ok (.iload_n 1, 1) := by decide +kernel
theorem d_M_begin_36 : decode b_M_begin 36 = .ok (.iconst 0, 1) := by decide +kernel
theorem d_M_begin_37 : decode b_M_begin 37 = .ok (.iastore, 1) := by decide +kernel
theorem d_M_begin_38 : decode b_M_begin 38 = .ok (.aload_n 0, 1) := by decide +kernel
theorem d_M_begin_39 : decode b_M_begin 39 = .ok (.getfield 20, 3) := by decide +kernel
theorem d_M_begin_42 : decode b_M_begin 42 = .ok (.iload_n 1, 1) := by decide +kernel
theorem d_M_begin_43 : decode b_M_begin 43 = .ok (.iconst 0, 1) := by decide +kernel
theorem d_M_begin_44 : decode b_M_begin 44 = .ok (.iastore, 1) := by decide +kernel
theorem d_M_begin_45 : decode b_M_begin 45 = .ok (.iinc 1 1, 3) := by decide +kernel
theorem d_M_begin_48 : decode b_M_begin 48 = .ok (.goto (-46), 3) := by decide +kernel
theorem d_M_begin_51 : decode b_M_begin 51 = .ok (.return_, 1) := by decide +kernel
theorem d_M_input_0 : decode b_M_input 0 = .ok (.aload_n 0, 1) := by decide +kernel
theorem d_M_input_1 : decode b_M_input 1 = .ok (.iconst 0, 1) := by decide +kernel
theorem d_M_input_2 : decode b_M_input 2 = .ok (.putfield 50, 3) := by decide +kernel
theorem d_M_input_5 : decode b_M_input 5 = .ok (.iload_n 1, 1) := by decide +kernel
theorem d_M_input_6 : decode b_M_input 6 = .ok (.iconst 0, 1) := by decide +kernel
theorem d_M_input_7 : decode b_M_input 7 = .ok (.bipush 8, 2) := by decide +kernel
theorem d_M_input_9 : decode b_M_input 9 = .ok (.invokestatic 80, 3) := by decide +kernel
theorem d_M_input_12 : decode b_M_input 12 = .ok (.ifCond .ne 5, 3) := by decide +kernel
theorem d_M_input_15 : decode b_M_input 15 = .ok (.iconst (-1), 1) := by decide +kernel
theorem d_M_input_16 : decode b_M_input 16 = .ok (.ireturn, 1) := by decide +kernel
theorem d_M_input_17 : decode b_M_input 17 = .ok (.iload_n 2, 1) := by decide +kernel
theorem d_M_input_18 : decode b_M_input 18 = .ok (.iconst 0, 1) := by decide +kernel
theorem d_M_input_19 : decode b_M_input 19 = .ok (.iload_n 1, 1) := by decide +kernel
theorem d_M_input_20 : decode b_M_input 20 = .ok (.invokestatic 88, 3) := by decide +kernel
theorem d_M_input_23 : decode b_M_input 23 = .ok (.invokestatic 80, 3) := by decide +kernel
theorem d_M_input_26 : decode b_M_input 26 = .ok (.ifCond .ne 6, 3) := by decide +kernel
theorem d_M_input_29 : decode b_M_input 29 = .ok (.bipush (-2), 2) := by decide +kernel
theorem d_M_input_31 : decode b_M_input 31 = .ok (.ireturn, 1) := by decide +kernel
theorem d_M_input_32 : decode b_M_input 32 = .ok (.aload_n 0, 1) := by decide +kernel
theorem d_M_input_33 : decode b_M_input 33 = .ok (.invokevirtual 91, 3) := by decide +kernel
theorem d_M_input_36 : decode b_M_input 36 = .ok (.aload_n 0, 1) := by decide +kernel
theorem d_M_input_37 : decode b_M_input 37 = .ok (.getfield 7, 3) := by decide +kernel
theorem d_M_input_40 : decode b_M_input 40 = .ok (.iload_n 1, 1) := by decide +kernel
theorem d_M_input_41 : decode b_M_input 41 = .ok (.iload_n 2, 1) := by decide +kernel
theorem d_M_input_42 : decode b_M_input 42 = .ok (.iastore, 1) := by decide +kernel
theorem d_M_input_43 : decode b_M_input 43 = .ok (.iload_n 1, 1) := by decide +kernel
theorem d_M_input_44 : decode b_M_input 44 = .ok (.iconst 1, 1) := by decide +kernel
theorem d_M_input_45 : decode b_M_input 45 = .ok (.if_icmp .ne 33, 3) := by decide +kernel
theorem d_M_input_48 : decode b_M_input 48 = .ok (.aload_n 0, 1) := by decide +kernel
theorem d_M_input_49 : decode b_M_input 49 = .ok (.iload_n 2, 1) := by decide +kernel
theorem d_M_input_50 : decode b_M_input 50 = .ok (.sipush 200, 3) := by decide +kernel
theorem d_M_input_53 : decode b_M_input 53 = .ok (.if_icmp .lt 17, 3) := by decide +kernel
theorem d_M_input_56 : decode b_M_input 56 = .ok (.aload_n 0, 1) := by decide +kernel
theorem d_M_input_57 : decode b_M_input 57 = .ok (.getfield 58, 3) := by decide +kernel
theorem d_M_input_60 : decode b_M_input 60 = .ok (.ifCond .eq 14, 3) := by decide +kernel
theorem d_M_input_63 : decode b_M_input 63 = .ok (.iload_n 2, 1) := by decide +kernel
theorem d_M_input_64 : decode b_M_input 64 = .ok (.sipush 400, 3) := by decide +kernel
theorem d_M_input_67 : decode b_M_input 67 = .ok (.if_icmp .gt 7, 3) := by decide +kernel
theorem d_M_input_70 : decode b_M_input 70 = .ok (.iconst 1, 1) := by decide +kernel
theorem d_M_input_71 : decode b_M_input 71 = .ok (.goto 4, 3) := by decide +kernel
theorem d_M_input_74 : decode b_M_input 74 = .ok (.iconst 0, 1) := by decide +kernel
theorem d_M_input_75 : decode b_M_input 75 = .ok (.putfield 58, 3) := by decide +kernel
theorem d_M_input_78 : decode b_M_input 78 = .ok (.iload_n 1, 1) := by decide +kernel
theorem d_M_input_79 : decode b_M_input 79 = .ok (.iconst 2, 1) := by decide +kernel
theorem d_M_input_80 : decode b_M_input 80 = .ok (.if_icmp .ne 46, 3) := by decide +kernel
theorem d_M_input_83 : decode b_M_input 83 = .ok (.iload_n 2, 1) := by decide +kernel
theorem d_M_input_84 : decode b_M_input 84 = .ok (.ifCond .le 42, 3) := by decide +kernel
theorem d_M_input_87 : decode b_M_input 87 = .ok (.iload_n 2, 1) := by decide +kernel
theorem d_M_input_88 : decode b_M_input 88 = .ok (.iconst 1, 1) := by decide +kernel
theorem d_M_input_89 : decode b_M_input 89 = .ok (.if_icmp .ne 7, 3) := by decide +kernel
theorem d_M_input_92 : decode b_M_input 92 = .ok (.iconst 1, 1) := by decide +kernel
theorem d_M_input_93 : decode b_M_input 93 = .ok (.goto 4, 3) := by decide +kernel
theorem d_M_input_96 : decode b_M_input 96 = .ok (.iconst 0, 1) := by decide +kernel
theorem d_M_input_97 : decode b_M_input 97 = .ok (.istore_n 3, 1) := by decide +kernel
theorem d_M_input_98 : decode b_M_input 98 = .ok (.aload_n 0, 1) := by decide +kernel
theorem d_M_input_99 : decode b_M_input 99 = .ok (.getfield 13, 3) := by decide +kernel
theorem d_M_input_102 : decode b_M_input 102 = .ok (.iload_n 3, 1) := by decide +kernel
theorem d_M_input_103 : decode b_M_input 103 = .ok (.aload_n 0, 1) := by decide +kernel
theorem d_M_input_104 : decode b_M_input 104 = .ok (.getfield 13, 3) := by decide +kernel
theorem d_M_input_107 : decode b_M_input 107 = .ok (.iload_n 3, 1) := by decide +kernel
theorem d_M_input_108 : decode b_M_input 108 = .ok (.baload, 1) := by decide +kernel
theorem d_M_input_109 : decode b_M_input 109 = .ok (.ifCond .eq 15, 3) := by decide +kernel
theorem d_M_input_112 : decode b_M_input 112 = .ok (.aload_n 0, 1) := by decide +kernel
theorem d_M_input_113 : decode b_M_input 113 = .ok (.iload_n 3, 1) := by decide +kernel
theorem d_M_input_114 : decode b_M_input 114 = .ok (.invokevirtual 84, 3) := by decide +kernel
theorem d_M_input_117 : decode b_M_input 117 = .ok (.ifCond .eq 7, 3) := by decide +kernel
theorem d_M_input_120 : decode b_M_input 120 = .ok (.iconst 1, 1) := by decide +kernel
theorem d_M_input_121 : decode b_M_input 121 = .ok (.goto 4, 3) := by decide +kernel
theorem d_M_input_124 : decode b_M_input 124 = .ok (.iconst 0, 1) := by decide +kernel
theorem d_M_input_125 : decode b_M_input 125 = .ok (.bastore, 1) := by decide +kernel
theorem d_M_input_126 : decode b_M_input 126 = .ok (.aload_n 0, 1) := by decide +kernel
theorem d_M_input_127 : decode b_M_input 127 = .ok (.invokevirtual 94, 3) := by decide +kernel
theorem d_M_input_130 : decode b_M_input 130 = .ok (.aload_n 0, 1) := by decide +kernel
theorem d_M_input_131 : decode b_M_input 131 = .ok (.invokevirtual 97, 3) := by decide +kernel
theorem d_M_input_134 : decode b_M_input 134 = .ok (.ireturn, 1) := by decide +kernel
theorem d_M_tickSide_0 : decode b_M_tickSide 0 = .ok (.aload_n 0, 1) := by decide +kernel
theorem d_M_tickSide_1 : decode b_M_tickSide 1 = .ok (.getfield 13, 3) := by decide +kernel
theorem d_M_tickSide_4 : decode b_M_tickSide 4 = .ok (.iload_n 1, 1) := by decide +kernel
theorem d_M_tickSide_5 : decode b_M_tickSide 5 = .ok (.baload, 1) := by decide +kernel
theorem d_M_tickSide_6 : decode b_M_tickSide 6 = .ok (.ifCond .ne 4, 3) := by decide +kernel
theorem d_M_tickSide_9 : decode b_M_tickSide 9 = .ok (.return_, 1) := by decide +kernel
theorem d_M_tickSide_10 : decode b_M_tickSide 10 = .ok (.aload_n 0, 1) := by decide +kernel
theorem d_M_tickSide_11 : decode b_M_tickSide 11 = .ok (.getfield 17, 3) := by decide +kernel
theorem d_M_tickSide_14 : decode b_M_tickSide 14 = .ok (.iload_n 1, 1) := by decide +kernel
theorem d_M_tickSide_15 : decode b_M_tickSide 15 = .ok (.dup2, 1) := by decide +kernel
theorem d_M_tickSide_16 : decode b_M_tickSide 16 = .ok (.iaload, 1) := by decide +kernel
theorem d_M_tickSide_17 : decode b_M_tickSide 17 = .ok (.iconst 1, 1) := by decide +kernel
theorem d_M_tickSide_18 : decode b_M_tickSide 18 = .ok (.iadd, 1) := by decide +kernel
theorem d_M_tickSide_19 : decode b_M_tickSide 19 = .ok (.iastore, 1) := by decide +kernel
theorem d_M_tickSide_20 : decode b_M_tickSide 20 = .ok (.aload_n 0, 1) := by decide +kernel
theorem d_M_tickSide_21 : decode b_M_tickSide 21 = .ok (.getfield 17, 3) := by decide +kernel
theorem d_M_tickSide_24 : decode b_M_tickSide 24 = .ok (.iload_n 1, 1) := by decide +kernel
theorem d_M_tickSide_25 : decode b_M_tickSide 25 = .ok (.iaload, 1) := by decide +kernel
theorem d_M_tickSide_26 : decode b_M_tickSide 26 = .ok (.aload_n 0, 1) := by decide +kernel
theorem d_M_tickSide_27 : decode b_M_tickSide 27 = .ok (.iload_n 1, 1) := by decide +kernel
theorem d_M_tickSide_28 : decode b_M_tickSide 28 = .ok (.invokevirtual 54, 3) := by decide +kernel
theorem d_M_tickSide_31 : decode b_M_tickSide 31 = .ok (.if_icmp .ge 4, 3) := by decide +kernel
theorem d_M_tickSide_34 : decode b_M_tickSide 34 = .ok (.return_, 1) := by decide +kernel
theorem d_M_tickSide_35 : decode b_M_tickSide 35 = .ok (.aload_n 0, 1) := by decide +kernel
theorem d_M_tickSide_36 : decode b_M_tickSide 36 = .ok (.getfield 17, 3) := by decide +kernel
theorem d_M_tickSide_39 : decode b_M_tickSide 39 = .ok (.iload_n 1, 1) := by decide +kernel
theorem d_M_tickSide_40 : decode b_M_tickSide 40 = .ok (.iconst 0, 1) := by decide +kernel
theorem d_M_tickSide_41 : decode b_M_tickSide 41 = .ok (.iastore, 1) := by decide +kernel
theorem d_M_tickSide_42 : decode b_M_tickSide 42 = .ok (.aload_n 0, 1) := by decide +kernel
theorem d_M_tickSide_43 : decode b_M_tickSide 43 = .ok (.getfield 20, 3) := by decide +kernel
theorem d_M_tickSide_46 : decode b_M_tickSide 46 = .ok (.iload_n 1, 1) := by decide +kernel
theorem d_M_tickSide_47 : decode b_M_tickSide 47 = .ok (.dup2, 1) := by decide +kernel
theorem d_M_tickSide_48 : decode b_M_tickSide 48 = .ok (.iaload, 1) := by decide +kernel
theorem d_M_tickSide_49 : decode b_M_tickSide 49 = .ok (.iconst 1, 1) := by decide +kernel
theorem d_M_tickSide_50 : decode b_M_tickSide 50 = .ok (.iadd, 1) := by decide +kernel
theorem d_M_tickSide_51 : decode b_M_tickSide 51 = .ok (.iastore, 1) := by decide +kernel
theorem d_M_tickSide_52 : decode b_M_tickSide 52 = .ok (.aload_n 0, 1) := by decide +kernel
theorem d_M_tickSide_53 : decode b_M_tickSide 53 = .ok (.getfield 13, 3) := by decide +kernel
theorem d_M_tickSide_56 : decode b_M_tickSide 56 = .ok (.iload_n 1, 1) := by decide +kernel
theorem d_M_tickSide_57 : decode b_M_tickSide 57 = .ok (.aload_n 0, 1) := by decide +kernel
theorem d_M_tickSide_58 : decode b_M_tickSide 58 = .ok (.iload_n 1, 1) := by decide +kernel
theorem d_M_tickSide_59 : decode b_M_tickSide 59 = .ok (.invokevirtual 84, 3) := by decide +kernel
theorem d_M_tickSide_62 : decode b_M_tickSide 62 = .ok (.ifCond .ne 13, 3) := by decide +kernel
theorem d_M_tickSide_65 : decode b_M_tickSide 65 = .ok (.aload_n 0, 1) := by decide +kernel
theorem d_M_tickSide_66 : decode b_M_tickSide 66 = .ok (.getfield 20, 3) := by decide +kernel
theorem d_M_tickSide_69 : decode b_M_tickSide 69 = .ok (.iload_n 1, 1) := by decide +kernel
theorem d_M_tickSide_70 : decode b_M_tickSide 70 = .ok (.iaload, 1) := by decide +kernel
theorem d_M_tickSide_71 : decode b_M_tickSide 71 = .ok (.iconst 3, 1) := by decide +kernel
theorem d_M_tickSide_72 : decode b_M_tickSide 72 = .ok (.if_icmp .ge 7, 3) := by decide +kernel
theorem d_M_tickSide_75 : decode b_M_tickSide 75 = .ok (.iconst 1, 1) := by decide +kernel
theorem d_M_tickSide_76 : decode b_M_tickSide 76 = .ok (.goto 4, 3) := by decide +kernel
theorem d_M_tickSide_79 : decode b_M_tickSide 79 = .ok (.iconst 0, 1) := by decide +kernel
theorem d_M_tickSide_80 : decode b_M_tickSide 80 = .ok (.bastore, 1) := by decide +kernel
theorem d_M_tickSide_81 : decode b_M_tickSide 81 = .ok (.return_, 1) := by decide +kernel
theorem d_M_speed_0 : decode b_M_speed 0 = .ok (.aload_n 0, 1) := by decide +kernel
theorem d_M_speed_1 : decode b_M_speed 1 = .ok (.getfield 7, 3) := by decide +kernel
theorem d_M_speed_4 : decode b_M_speed 4 = .ok (.iconst 5, 1) := by decide +kernel
theorem d_M_speed_5 : decode b_M_speed 5 = .ok (.iaload, 1) := by decide +kernel
theorem d_M_speed_6 : decode b_M_speed 6 = .ok (.ifCond .ne 5, 3) := by decide +kernel
theorem d_M_speed_9 : decode b_M_speed 9 = .ok (.iconst 0, 1) := by decide +kernel
theorem d_M_speed_10 : decode b_M_speed 10 = .ok (.ireturn, 1) := by decide +kernel
theorem d_M_speed_11 : decode b_M_speed 11 = .ok (.aload_n 0, 1) := by decide +kernel
theorem d_M_speed_12 : decode b_M_speed 12 = .ok (.getfield 7, 3) := by decide +kernel
theorem d_M_speed_15 : decode b_M_speed 15 = .ok (.iconst 4, 1) := by decide +kernel
theorem d_M_speed_16 : decode b_M_speed 16 = .ok (.iaload, 1) := by decide +kernel
theorem d_M_speed_17 : decode b_M_speed 17 = .ok (.iconst 1, 1) := by decide +kernel
theorem d_M_speed_18 : decode b_M_speed 18 = .ok (.if_icmp .ne 29, 3) := by decide +kernel
theorem d_M_speed_21 : decode b_M_speed 21 = .ok (.aload_n 0, 1) := by decide +kernel
theorem d_M_speed_22 : decode b_M_speed 22 = .ok (.getfield 101, 3) := by decide +kernel
theorem d_M_speed_25 : decode b_M_speed 25 = .ok (.ifCond .ne 7, 3) := by decide +kernel
theorem d_M_speed_28 : decode b_M_speed 28 = .ok (.iconst 0, 1) := by decide +kernel
theorem d_M_speed_29 : decode b_M_speed 29 = .ok (.goto 17, 3) := by decide +kernel
theorem d_M_speed_32 : decode b_M_speed 32 = .ok (.aload_n 0, 1) := by decide +kernel
theorem d_M_speed_33 : decode b_M_speed 33 = .ok (.getfield 101, 3) := by decide +kernel
theorem d_M_speed_36 : decode b_M_speed 36 = .ok (.bipush 8, 2) := by decide +kernel
theorem d_M_speed_38 : decode b_M_speed 38 = .ok (.if_icmp .ge 7, 3) := by decide +kernel
theorem d_M_speed_41 : decode b_M_speed 41 = .ok (.iconst 1, 1) := by decide +kernel
theorem d_M_speed_42 : decode b_M_speed 42 = .ok (.goto 4, 3) := by decide +kernel
theorem d_M_speed_45 : decode b_M_speed 45 = .ok (.iconst 2, 1) := by decide +kernel
theorem d_M_speed_46 : decode b_M_speed 46 = .ok (.ireturn, 1) := by decide +kernel
theorem d_M_speed_47 : decode b_M_speed 47 = .ok (.aload_n 0, 1) := by decide +kernel
theorem d_M_speed_48 : decode b_M_speed 48 = .ok (.getfield 7, 3) := by decide +kernel
theorem d_M_speed_51 : decode b_M_speed 51 = .ok (.iconst 4, 1) := by decide +kernel
theorem d_M_speed_52 : decode b_M_speed 52 = .ok (.iaload, 1) := by decide +kernel
theorem d_M_speed_53 : decode b_M_speed 53 = .ok (.ifCond .ne 7, 3) := by decide +kernel
theorem d_M_speed_56 : decode b_M_speed 56 = .ok (.iconst 0, 1) := by decide +kernel
theorem d_M_speed_57 : decode b_M_speed 57 = .ok (.goto 11, 3) := by decide +kernel
theorem d_M_speed_60 : decode b_M_speed 60 = .ok (.aload_n 0, 1) := by decide +kernel
theorem d_M_speed_61 : decode b_M_speed 61 = .ok (.getfield 7, 3) := by decide +kernel
theorem d_M_speed_64 : decode b_M_speed 64 = .ok (.iconst 4, 1) := by decide +kernel
theorem d_M_speed_65 : decode b_M_speed 65 = .ok (.iaload, 1) := by decide +kernel
theorem d_M_speed_66 : decode b_M_speed 66 = .ok (.iconst 1, 1) := by decide +kernel
theorem d_M_speed_67 : decode b_M_speed 67 = .ok (.isub, 1) := by decide +kernel
theorem d_M_speed_68 : decode b_M_speed 68 = .ok (.ireturn, 1) := by decide +kernel
theorem d_M_tickWiper_0 : decode b_M_tickWiper 0 = .ok (.aload_n 0, 1) := by decide +kernel
theorem d_M_tickWiper_1 : decode b_M_tickWiper 1 = .ok (.invokevirtual 104, 3) := by decide +kernel
theorem d_M_tickWiper_4 : decode b_M_tickWiper 4 = .ok (.istore_n 1, 1) := by decide +kernel
theorem d_M_tickWiper_5 : decode b_M_tickWiper 5 = .ok (.aload_n 0, 1) := by decide +kernel
theorem d_M_tickWiper_6 : decode b_M_tickWiper 6 = .ok (.iconst 0, 1) := by decide +kernel
theorem d_M_tickWiper_7 : decode b_M_tickWiper 7 = .ok (.putfield 68, 3) := by decide +kernel
theorem d_M_tickWiper_10 : decode b_M_tickWiper 10 = .ok (.aload_n 0, 1) := by decide +kernel
theorem d_M_tickWiper_11 : decode b_M_tickWiper 11 = .ok (.getfield 107, 3) := by decide +kernel
theorem d_M_tickWiper_14 : decode b_M_tickWiper 14 = .ok (.ifCond .ne 13, 3) := by decide +kernel
theorem d_M_tickWiper_17 : decode b_M_tickWiper 17 = .ok (.iload_n 1, 1) := by decide +kernel
theorem d_M_tickWiper_18 : decode b_M_tickWiper 18 = .ok (.ifCond .ne 9, 3) := by decide +kernel
theorem d_M_tickWiper_21 : decode b_M_tickWiper 21 = .ok (.aload_n 0, 1) := by decide +kernel
theorem d_M_tickWiper_22 : decode b_M_tickWiper 22 = .ok (.iconst 0, 1) := by decide +kernel
theorem d_M_tickWiper_23 : decode b_M_tickWiper 23 = .ok (.putfield 110, 3) := by decide +kernel
theorem d_M_tickWiper_26 : decode b_M_tickWiper 26 = .ok (.return_, 1) := by decide +kernel
theorem d_M_tickWiper_27 : decode b_M_tickWiper 27 = .ok (.aload_n 0, 1) := by decide +kernel
theorem d_M_tickWiper_28 : decode b_M_tickWiper 28 = .ok (.getfield 107, 3) := by decide +kernel
theorem d_M_tickWiper_31 : decode b_M_tickWiper 31 = .ok (.ifCond .ne 21, 3) := by decide +kernel
theorem d_M_tickWiper_34 : decode b_M_tickWiper 34 = .ok (.aload_n 0, 1) := by decide +kernel
theorem d_M_tickWiper_35 : decode b_M_tickWiper 35 = .ok (.getfield 110, 3) := by decide +kernel
theorem d_M_tickWiper_38 : decode b_M_tickWiper 38 = .ok (.ifCond .le 14, 3) := by decide +kernel
theorem d_M_tickWiper_41 : decode b_M_tickWiper 41 = .ok (.aload_n 0, 1) := by decide +kernel
theorem d_M_tickWiper_42 : decode b_M_tickWiper 42 = .ok (.dup, 1) := by decide +kernel
theorem d_M_tickWiper_43 : decode b_M_tickWiper 43 = .ok (.getfield 110, 3) := by decide +kernel
theorem d_M_tickWiper_46 : decode b_M_tickWiper 46 = .ok (.iconst 1, 1) := by decide +kernel
theorem d_M_tickWiper_47 : decode b_M_tickWiper 47 = .ok (.isub, 1) := by decide +kernel
theorem d_M_tickWiper_48 : decode b_M_tickWiper 48 = .ok (.putfield 110, 3) := by decide +kernel
theorem d_M_tickWiper_51 : decode b_M_tickWiper 51 = .ok (.return_, 1) := by decide +kernel
theorem d_M_tickWiper_52 : decode b_M_tickWiper 52 = .ok (.aload_n 0, 1) := by decide +kernel
theorem d_M_tickWiper_53 : decode b_M_tickWiper 53 = .ok (.iload_n 1, 1) := by decide +kernel
theorem d_M_tickWiper_54 : decode b_M_tickWiper 54 = .ok (.ifCond .ne 7, 3) := by decide +kernel
theorem d_M_tickWiper_57 : decode b_M_tickWiper 57 = .ok (.iconst 1, 1) := by decide +kernel
theorem d_M_tickWiper_58 : decode b_M_tickWiper 58 = .ok (.goto 4, 3) := by decide +kernel
theorem d_M_tickWiper_61 : decode b_M_tickWiper 61 = .ok (.iload_n 1, 1) := by decide +kernel
theorem d_M_tickWiper_62 : decode b_M_tickWiper 62 = .ok (.putfield 68, 3) := by decide +kernel
theorem d_M_tickWiper_65 : decode b_M_tickWiper 65 = .ok (.aload_n 0, 1) := by decide +kernel
theorem d_M_tickWiper_66 : decode b_M_tickWiper 66 = .ok (.dup, 1) := by decide +kernel
theorem d_M_tickWiper_67 : decode b_M_tickWiper 67 = .ok (.getfield 107, 3) := by decide +kernel
theorem d_M_tickWiper_70 : decode b_M_tickWiper 70 = .ok (.aload_n 0, 1) := by decide +kernel
theorem d_M_tickWiper_71 : decode b_M_tickWiper 71 = .ok (.getfield 68, 3) := by decide +kernel
theorem d_M_tickWiper_74 : decode b_M_tickWiper 74 = .ok (.iadd, 1) := by decide +kernel
theorem d_M_tickWiper_75 : decode b_M_tickWiper 75 = .ok (.putfield 107, 3) := by decide +kernel
theorem d_M_tickWiper_78 : decode b_M_tickWiper 78 = .ok (.aload_n 0, 1) := by decide +kernel
theorem d_M_tickWiper_79 : decode b_M_tickWiper 79 = .ok (.getfield 107, 3) := by decide +kernel
theorem d_M_tickWiper_82 : decode b_M_tickWiper 82 = .ok (.bipush 100, 2) := by decide +kernel
theorem d_M_tickWiper_84 : decode b_M_tickWiper 84 = .ok (.if_icmp .ge 4, 3) := by decide +kernel
theorem d_M_tickWiper_87 : decode b_M_tickWiper 87 = .ok (.return_, 1) := by decide +kernel
theorem d_M_tickWiper_88 : decode b_M_tickWiper 88 = .ok (.aload_n 0, 1) := by decide +kernel
theorem d_M_tickWiper_89 : decode b_M_tickWiper 89 = .ok (.iconst 0, 1) := by decide +kernel
theorem d_M_tickWiper_90 : decode b_M_tickWiper 90 = .ok (.putfield 107, 3) := by decide +kernel
theorem d_M_tickWiper_93 : decode b_M_tickWiper 93 = .ok (.aload_n 0, 1) := by decide +kernel
theorem d_M_tickWiper_94 : decode b_M_tickWiper 94 = .ok (.getfield 7, 3) := by decide +kernel
theorem d_M_tickWiper_97 : decode b_M_tickWiper 97 = .ok (.iconst 4, 1) := by decide +kernel
theorem d_M_tickWiper_98 : decode b_M_tickWiper 98 = .ok (.iaload, 1) := by decide +kernel
theorem d_M_tickWiper_99 : decode b_M_tickWiper 99 = .ok (.iconst 1, 1) := by decide +kernel
theorem d_M_tickWiper_100 : decode b_M_tickWiper 100 = .ok (.if_icmp .ne 30, 3) := by decide +kernel
theorem d_M_tickWiper_103 : decode b_M_tickWiper 103 = .ok (.aload_n 0, 1) := by decide +kernel
theorem d_M_tickWiper_104 : decode b_M_tickWiper 104 = .ok (.getfield 101, 3) := by decide +kernel
theorem d_M_tickWiper_107 : decode b_M_tickWiper 107 = .ok (.iconst 1, 1) := by decide +kernel
theorem d_M_tickWiper_108 : decode b_M_tickWiper 108 = .ok (.iconst 4, 1) := by decide +kernel
theorem d_M_tickWiper_109 : decode b_M_tickWiper 109 = .ok (.invokestatic 80, 3) := by decide +kernel
theorem d_M_tickWiper_112 : decode b_M_tickWiper 112 = .ok (.ifCond .eq 18, 3) := by decide +kernel
theorem d_M_tickWiper_115 : decode b_M_tickWiper 115 = .ok (.aload_n 0, 1) := by decide +kernel
theorem d_M_tickWiper_116 : decode b_M_tickWiper 116 = .ok (.sipush 400, 3) := by decide +kernel
theorem d_M_tickWiper_119 : decode b_M_tickWiper 119 = .ok (.bipush 80, 2) := by decide +kernel
theorem d_M_tickWiper_121 : decode b_M_tickWiper 121 = .ok (.aload_n 0, 1) := by decide +kernel
theorem d_M_tickWiper_122 : decode b_M_tickWiper 122 = .ok (.getfield 101, 3) := by decide +kernel
theorem d_M_tickWiper_125 : decode b_M_tickWiper 125 = .ok (.imul, 1) := by decide +kernel
theorem d_M_tickWiper_126 : decode b_M_tickWiper 126 = .ok (.isub, 1) := by decide +kernel
theorem d_M_tickWiper_127 : decode b_M_tickWiper 127 = .ok (.putfield 110, 3) := by decide +kernel
theorem d_M_tickWiper_130 : decode b_M_tickWiper 130 = .ok (.return_, 1) := by decide +kernel
theorem d_M_tickWindow_0 : decode b_M_tickWindow 0 = .ok (.aload_n 0, 1) := by decide +kernel
theorem d_M_tickWindow_1 : decode b_M_tickWindow 1 = .ok (.getfield 32, 3) := by decide +kernel
theorem d_M_tickWindow_4 : decode b_M_tickWindow 4 = .ok (.iload_n 1, 1) := by decide +kernel
theorem d_M_tickWindow_5 : decode b_M_tickWindow 5 = .ok (.baload, 1) := by decide +kernel
theorem d_M_tickWindow_6 : decode b_M_tickWindow 6 = .ok (.ifCond .eq 7, 3) := by decide +kernel
theorem d_M_tickWindow_9 : decode b_M_tickWindow 9 = .ok (.iconst 2, 1) := by decide +kernel
theorem d_M_tickWindow_10 : decode b_M_tickWindow 10 = .ok (.goto 4, 3) := by decide +kernel
theorem d_M_tickWindow_13 : decode b_M_tickWindow 13 = .ok (.iconst 1, 1) := by decide +kernel
theorem d_M_tickWindow_14 : decode b_M_tickWindow 14 = .ok (.istore_n 2, 1) := by decide +kernel
theorem d_M_tickWindow_15 : decode b_M_tickWindow 15 = .ok (.aload_n 0, 1) := by decide +kernel
theorem d_M_tickWindow_16 : decode b_M_tickWindow 16 = .ok (.getfield 29, 3) := by decide +kernel
theorem d_M_tickWindow_19 : decode b_M_tickWindow 19 = .ok (.iload_n 1, 1) := by decide +kernel
theorem d_M_tickWindow_20 : decode b_M_tickWindow 20 = .ok (.iaload, 1) := by decide +kernel
theorem d_M_tickWindow_21 : decode b_M_tickWindow 21 = .ok (.aload_n 0, 1) := by decide +kernel
theorem d_M_tickWindow_22 : decode b_M_tickWindow 22 = .ok (.getfield 26, 3) := by decide +kernel
theorem d_M_tickWindow_25 : decode b_M_tickWindow 25 = .ok (.iload_n 1, 1) := by decide +kernel
theorem d_M_tickWindow_26 : decode b_M_tickWindow 26 = .ok (.iaload, 1) := by decide +kernel
theorem d_M_tickWindow_27 : decode b_M_tickWindow 27 = .ok (.isub, 1) := by decide +kernel
theorem d_M_tickWindow_28 : decode b_M_tickWindow 28 = .ok (.istore_n 3, 1) := by decide +kernel
theorem d_M_tickWindow_29 : decode b_M_tickWindow 29 = .ok (.aload_n 0, 1) := by decide +kernel
theorem d_M_tickWindow_30 : decode b_M_tickWindow 30 = .ok (.getfield 26, 3) := by decide +kernel
theorem d_M_tickWindow_33 : decode b_M_tickWindow 33 = .ok (.iload_n 1, 1) := by decide +kernel
theorem d_M_tickWindow_34 : decode b_M_tickWindow 34 = .ok (.dup2, 1) := by decide +kernel
theorem d_M_tickWindow_35 : decode b_M_tickWindow 35 = .ok (.iaload, 1) := by decide +kernel
theorem d_M_tickWindow_36 : decode b_M_tickWindow 36 = .ok (.iload_n 3, 1) := by decide +kernel
theorem d_M_tickWindow_37 : decode b_M_tickWindow 37 = .ok (.iload_n 2, 1) := by decide +kernel
theorem d_M_tickWindow_38 : decode b_M_tickWindow 38 = .ok (.if_icmp .le 7, 3) := by decide +kernel
theorem d_M_tickWindow_41 : decode b_M_tickWindow 41 = .ok (.iload_n 2, 1) := by decide +kernel
theorem d_M_tickWindow_42 : decode b_M_tickWindow 42 = .ok (.goto 15, 3) := by decide +kernel
theorem d_M_tickWindow_45 : decode b_M_tickWindow 45 = .ok (.iload_n 3, 1) := by decide +kernel
theorem d_M_tickWindow_46 : decode b_M_tickWindow 46 = .ok (.iload_n 2, 1) := by decide +kernel
theorem d_M_tickWindow_47 : decode b_M_tickWindow 47 = .ok (.ineg, 1) := by decide +kernel
theorem d_M_tickWindow_48 : decode b_M_tickWindow 48 = .ok (.if_icmp .ge 8, 3) := by decide +kernel
theorem d_M_tickWindow_51 : decode b_M_tickWindow 51 = .ok (.iload_n 2, 1) := by decide +kernel
theorem d_M_tickWindow_52 : decode b_M_tickWindow 52 = .ok (.ineg, 1) := by decide +kernel
theorem d_M_tickWindow_53 : decode b_M_tickWindow 53 = .ok (.goto 4, 3) := by decide +kernel
theorem d_M_tickWindow_56 : decode b_M_tickWindow 56 = .ok (.iload_n 3, 1) := by decide +kernel
theorem d_M_tickWindow_57 : decode b_M_tickWindow 57 = .ok (.iadd, 1) := by decide +kernel
theorem d_M_tickWindow_58 : decode b_M_tickWindow 58 = .ok (.iastore, 1) := by decide +kernel
theorem d_M_tickWindow_59 : decode b_M_tickWindow 59 = .ok (.return_, 1) := by decide +kernel
theorem d_M_tick_0 : decode b_M_tick 0 = .ok (.aload_n 0, 1) := by decide +kernel
theorem d_M_tick_1 : decode b_M_tick 1 = .ok (.dup, 1) := by decide +kernel
theorem d_M_tick_2 : decode b_M_tick 2 = .ok (.getfield 113, 3) := by decide +kernel
theorem d_M_tick_5 : decode b_M_tick 5 = .ok (.iconst 1, 1) := by decide +kernel
theorem d_M_tick_6 : decode b_M_tick 6 = .ok (.iadd, 1) := by decide +kernel
theorem d_M_tick_7 : decode b_M_tick 7 = .ok (.putfield 113, 3) := by decide +kernel
theorem d_M_tick_10 : decode b_M_tick 10 = .ok (.aload_n 0, 1) := by decide +kernel
theorem d_M_tick_11 : decode b_M_tick 11 = .ok (.iconst 0, 1) := by decide +kernel
theorem d_M_tick_12 : decode b_M_tick 12 = .ok (.invokevirtual 116, 3) := by decide +kernel
theorem d_M_tick_15 : decode b_M_tick 15 = .ok (.aload_n 0, 1) := by decide +kernel
theorem d_M_tick_16 : decode b_M_tick 16 = .ok (.iconst 1, 1) := by decide +kernel
theorem d_M_tick_17 : decode b_M_tick 17 = .ok (.invokevirtual 116, 3) := by decide +kernel
theorem d_M_tick_20 : decode b_M_tick 20 = .ok (.aload_n 0, 1) := by decide +kernel
theorem d_M_tick_21 : decode b_M_tick 21 = .ok (.invokevirtual 120, 3) := by decide +kernel
theorem d_M_tick_24 : decode b_M_tick 24 = .ok (.aload_n 0, 1) := by decide +kernel
theorem d_M_tick_25 : decode b_M_tick 25 = .ok (.getfield 7, 3) := by decide +kernel
theorem d_M_tick_28 : decode b_M_tick 28 = .ok (.bipush 8, 2) := by decide +kernel
theorem d_M_tick_30 : decode b_M_tick 30 = .ok (.iaload, 1) := by decide +kernel
theorem d_M_tick_31 : decode b_M_tick 31 = .ok (.iconst 1, 1) := by decide +kernel
theorem d_M_tick_32 : decode b_M_tick 32 = .ok (.if_icmp .eq 10, 3) := by decide +kernel
theorem d_M_tick_35 : decode b_M_tick 35 = .ok (.aload_n 0, 1) := by decide +kernel
theorem d_M_tick_36 : decode b_M_tick 36 = .ok (.getfield 62, 3) := by decide +kernel
theorem d_M_tick_39 : decode b_M_tick 39 = .ok (.ifCond .eq 7, 3) := by decide +kernel
theorem d_M_tick_42 : decode b_M_tick 42 = .ok (.iconst 1, 1) := by decide +kernel
theorem d_M_tick_43 : decode b_M_tick 43 = .ok (.goto 4, 3) := by decide +kernel
theorem d_M_tick_46 : decode b_M_tick 46 = .ok (.iconst 0, 1) := by decide +kernel
theorem d_M_tick_47 : decode b_M_tick 47 = .ok (.istore_n 1, 1) := by decide +kernel
theorem d_M_tick_48 : decode b_M_tick 48 = .ok (.aload_n 0, 1) := by decide +kernel
theorem d_M_tick_49 : decode b_M_tick 49 = .ok (.dup, 1) := by decide +kernel
theorem d_M_tick_50 : decode b_M_tick 50 = .ok (.getfield 71, 3) := by decide +kernel
theorem d_M_tick_53 : decode b_M_tick 53 = .ok (.iload_n 1, 1) := by decide +kernel
theorem d_M_tick_54 : decode b_M_tick 54 = .ok (.ifCond .eq 20, 3) := by decide +kernel
theorem d_M_tick_57 : decode b_M_tick 57 = .ok (.aload_n 0, 1) := by decide +kernel
theorem d_M_tick_58 : decode b_M_tick 58 = .ok (.getfield 71, 3) := by decide +kernel
theorem d_M_tick_61 : decode b_M_tick 61 = .ok (.bipush 100, 2) := by decide +kernel
theorem d_M_tick_63 : decode b_M_tick 63 = .ok (.if_icmp .ge 7, 3) := by decide +kernel
theorem d_M_tick_66 : decode b_M_tick 66 = .ok (.iconst 1, 1) := by decide +kernel
theorem d_M_tick_67 : decode b_M_tick 67 = .ok (.goto 19, 3) := by decide +kernel
theorem d_M_tick_70 : decode b_M_tick 70 = .ok (.iconst 0, 1) := by decide +kernel
theorem d_M_tick_71 : decode b_M_tick 71 = .ok (.goto 15, 3) := by decide +kernel
theorem d_M_tick_74 : decode b_M_tick 74 = .ok (.aload_n 0, 1) := by decide +kernel
theorem d_M_tick_75 : decode b_M_tick 75 = .ok (.getfield 71, 3) := by decide +kernel
theorem d_M_tick_78 : decode b_M_tick 78 = .ok (.ifCond .le 7, 3) := by decide +kernel
theorem d_M_tick_81 : decode b_M_tick 81 = .ok (.iconst (-1), 1) := by decide +kernel
theorem d_M_tick_82 : decode b_M_tick 82 = .ok (.goto 4, 3) := by decide +kernel
theorem d_M_tick_85 : decode b_M_tick 85 = .ok (.iconst 0, 1) := by decide +kernel
theorem d_M_tick_86 : decode b_M_tick 86 = .ok (.iadd, 1) := by decide +kernel
theorem d_M_tick_87 : decode b_M_tick 87 = .ok (.putfield 71, 3) := by decide +kernel
theorem d_M_tick_90 : decode b_M_tick 90 = .ok (.iconst 0, 1) := by decide +kernel
theorem d_M_tick_91 : decode b_M_tick 91 = .ok (.istore_n 2, 1) := by decide +kernel
theorem d_M_tick_92 : decode b_M_tick 92 = .ok (.iload_n 2, 1) := by decide +kernel
theorem d_M_tick_93 : decode b_M_tick 93 = .ok (.iconst 4, 1) := by decide +kernel
theorem d_M_tick_94 : decode b_M_tick 94 = .ok (.if_icmp .ge 14, 3) := by decide +kernel
theorem d_M_tick_97 : decode b_M_tick 97 = .ok (.aload_n 0, 1) := by decide +kernel
theorem d_M_tick_98 : decode b_M_tick 98 = .ok (.iload_n 2, 1) := by decide +kernel
theorem d_M_tick_99 : decode b_M_tick 99 = .ok (.invokevirtual 123, 3) := by decide +kernel
theorem d_M_tick_102 : decode b_M_tick 102 = .ok (.iinc 2 1, 3) := by decide +kernel
theorem d_M_tick_105 : decode b_M_tick 105 = .ok (.goto (-13), 3) := by decide +kernel
theorem d_M_tick_108 : decode b_M_tick 108 = .ok (.return_, 1) := by decide +kernel
theorem d_M_step_0 : decode b_M_step 0 = .ok (.aload_n 0, 1) := by decide +kernel
theorem d_M_step_1 : decode b_M_step 1 = .ok (.iconst 0, 1) := by decide +kernel
theorem d_M_step_2 : decode b_M_step 2 = .ok (.putfield 50, 3) := by decide +kernel
theorem d_M_step_5 : decode b_M_step 5 = .ok (.iload_n 1, 1) := by decide +kernel
theorem d_M_step_6 : decode b_M_step 6 = .ok (.iconst 0, 1) := by decide +kernel
theorem d_M_step_7 : decode b_M_step 7 = .ok (.sipush 1000, 3) := by decide +kernel
theorem d_M_step_10 : decode b_M_step 10 = .ok (.invokestatic 80, 3) := by decide +kernel
theorem d_M_step_13 : decode b_M_step 13 = .ok (.ifCond .ne 6, 3) := by decide +kernel
theorem d_M_step_16 : decode b_M_step 16 = .ok (.bipush (-2), 2) := by decide +kernel
theorem d_M_step_18 : decode b_M_step 18 = .ok (.ireturn, 1) := by decide +kernel
theorem d_M_step_19 : decode b_M_step 19 = .ok (.aload_n 0, 1) := by decide +kernel
theorem d_M_step_20 : decode b_M_step 20 = .ok (.invokevirtual 91, 3) := by decide +kernel
theorem d_M_step_23 : decode b_M_step 23 = .ok (.iconst 0, 1) := by decide +kernel
theorem d_M_step_24 : decode b_M_step 24 = .ok (.istore_n 2, 1) := by decide +kernel
theorem d_M_step_25 : decode b_M_step 25 = .ok (.iload_n 2, 1) := by decide +kernel
theorem d_M_step_26 : decode b_M_step 26 = .ok (.iload_n 1, 1) := by decide +kernel
theorem d_M_step_27 : decode b_M_step 27 = .ok (.if_icmp .ge 13, 3) := by decide +kernel
theorem d_M_step_30 : decode b_M_step 30 = .ok (.aload_n 0, 1) := by decide +kernel
theorem d_M_step_31 : decode b_M_step 31 = .ok (.invokevirtual 126, 3) := by decide +kernel
theorem d_M_step_34 : decode b_M_step 34 = .ok (.iinc 2 1, 3) := by decide +kernel
theorem d_M_step_37 : decode b_M_step 37 = .ok (.goto (-12), 3) := by decide +kernel
theorem d_M_step_40 : decode b_M_step 40 = .ok (.aload_n 0, 1) := by decide +kernel
theorem d_M_step_41 : decode b_M_step 41 = .ok (.invokevirtual 97, 3) := by decide +kernel
theorem d_M_step_44 : decode b_M_step 44 = .ok (.ireturn, 1) := by decide +kernel
theorem d_M_isWindow_0 : decode b_M_isWindow 0 = .ok (.iload_n 0, 1) := by decide +kernel
theorem d_M_isWindow_1 : decode b_M_isWindow 1 = .ok (.iconst 0, 1) := by decide +kernel
theorem d_M_isWindow_2 : decode b_M_isWindow 2 = .ok (.iconst 3, 1) := by decide +kernel
theorem d_M_isWindow_3 : decode b_M_isWindow 3 = .ok (.invokestatic 80, 3) := by decide +kernel
theorem d_M_isWindow_6 : decode b_M_isWindow 6 = .ok (.ireturn, 1) := by decide +kernel
theorem d_M_pinch_0 : decode b_M_pinch 0 = .ok (.aload_n 0, 1) := by decide +kernel
theorem d_M_pinch_1 : decode b_M_pinch 1 = .ok (.iconst 0, 1) := by decide +kernel
theorem d_M_pinch_2 : decode b_M_pinch 2 = .ok (.putfield 50, 3) := by decide +kernel
theorem d_M_pinch_5 : decode b_M_pinch 5 = .ok (.iload_n 1, 1) := by decide +kernel
theorem d_M_pinch_6 : decode b_M_pinch 6 = .ok (.invokestatic 129, 3) := by decide +kernel
theorem d_M_pinch_9 : decode b_M_pinch 9 = .ok (.ifCond .ne 5, 3) := by decide +kernel
theorem d_M_pinch_12 : decode b_M_pinch 12 = .ok (.iconst (-1), 1) := by decide +kernel
theorem d_M_pinch_13 : decode b_M_pinch 13 = .ok (.ireturn, 1) := by decide +kernel
theorem d_M_pinch_14 : decode b_M_pinch 14 = .ok (.iload_n 2, 1) := by decide +kernel
theorem d_M_pinch_15 : decode b_M_pinch 15 = .ok (.iconst 0, 1) := by decide +kernel
theorem d_M_pinch_16 : decode b_M_pinch 16 = .ok (.sipush 1000, 3) := by decide +kernel
theorem d_M_pinch_19 : decode b_M_pinch 19 = .ok (.invokestatic 80, 3) := by decide +kernel
theorem d_M_pinch_22 : decode b_M_pinch 22 = .ok (.ifCond .ne 6, 3) := by decide +kernel
theorem d_M_pinch_25 : decode b_M_pinch 25 = .ok (.bipush (-2), 2) := by decide +kernel
theorem d_M_pinch_27 : decode b_M_pinch 27 = .ok (.ireturn, 1) := by decide +kernel
theorem d_M_pinch_28 : decode b_M_pinch 28 = .ok (.aload_n 0, 1) := by decide +kernel
theorem d_M_pinch_29 : decode b_M_pinch 29 = .ok (.getfield 29, 3) := by decide +kernel
theorem d_M_pinch_32 : decode b_M_pinch 32 = .ok (.iload_n 1, 1) := by decide +kernel
theorem d_M_pinch_33 : decode b_M_pinch 33 = .ok (.iaload, 1) := by decide +kernel
theorem d_M_pinch_34 : decode b_M_pinch 34 = .ok (.aload_n 0, 1) := by decide +kernel
theorem d_M_pinch_35 : decode b_M_pinch 35 = .ok (.getfield 26, 3) := by decide +kernel
theorem d_M_pinch_38 : decode b_M_pinch 38 = .ok (.iload_n 1, 1) := by decide +kernel
theorem d_M_pinch_39 : decode b_M_pinch 39 = .ok (.iaload, 1) := by decide +kernel
theorem d_M_pinch_40 : decode b_M_pinch 40 = .ok (.if_icmp .le 9, 3) := by decide +kernel
theorem d_M_pinch_43 : decode b_M_pinch 43 = .ok (.iload_n 2, 1) := by decide +kernel
theorem d_M_pinch_44 : decode b_M_pinch 44 = .ok (.bipush 100, 2) := by decide +kernel
theorem d_M_pinch_46 : decode b_M_pinch 46 = .ok (.if_icmp .gt 5, 3) := by decide +kernel
theorem d_M_pinch_49 : decode b_M_pinch 49 = .ok (.iconst 0, 1) := by decide +kernel
theorem d_M_pinch_50 : decode b_M_pinch 50 = .ok (.ireturn, 1) := by decide +kernel
theorem d_M_pinch_51 : decode b_M_pinch 51 = .ok (.aload_n 0, 1) := by decide +kernel
theorem d_M_pinch_52 : decode b_M_pinch 52 = .ok (.getfield 29, 3) := by decide +kernel
theorem d_M_pinch_55 : decode b_M_pinch 55 = .ok (.iload_n 1, 1) := by decide +kernel
theorem d_M_pinch_56 : decode b_M_pinch 56 = .ok (.aload_n 0, 1) := by decide +kernel
theorem d_M_pinch_57 : decode b_M_pinch 57 = .ok (.getfield 26, 3) := by decide +kernel
theorem d_M_pinch_60 : decode b_M_pinch 60 = .ok (.iload_n 1, 1) := by decide +kernel
theorem d_M_pinch_61 : decode b_M_pinch 61 = .ok (.iaload, 1) := by decide +kernel
theorem d_M_pinch_62 : decode b_M_pinch 62 = .ok (.bipush 60, 2) := by decide +kernel
theorem d_M_pinch_64 : decode b_M_pinch 64 = .ok (.if_icmp .le 15, 3) := by decide +kernel
theorem d_M_pinch_67 : decode b_M_pinch 67 = .ok (.aload_n 0, 1) := by decide +kernel
theorem d_M_pinch_68 : decode b_M_pinch 68 = .ok (.getfield 26, 3) := by decide +kernel
theorem d_M_pinch_71 : decode b_M_pinch 71 = .ok (.iload_n 1, 1) := by decide +kernel
theorem d_M_pinch_72 : decode b_M_pinch 72 = .ok (.iaload, 1) := by decide +kernel
theorem d_M_pinch_73 : decode b_M_pinch 73 = .ok (.bipush 60, 2) := by decide +kernel
theorem d_M_pinch_75 : decode b_M_pinch 75 = .ok (.isub, 1) := by decide +kernel
theorem d_M_pinch_76 : decode b_M_pinch 76 = .ok (.goto 4, 3) := by decide +kernel
theorem d_M_pinch_79 : decode b_M_pinch 79 = .ok (.iconst 0, 1) := by decide +kernel
theorem d_M_pinch_80 : decode b_M_pinch 80 = .ok (.iastore, 1) := by decide +kernel
theorem d_M_pinch_81 : decode b_M_pinch 81 = .ok (.iconst 1, 1) := by decide +kernel
theorem d_M_pinch_82 : decode b_M_pinch 82 = .ok (.ireturn, 1) := by decide +kernel
theorem d_M_learn_0 : decode b_M_learn 0 = .ok (.aload_n 0, 1) := by decide +kernel
theorem d_M_learn_1 : decode b_M_learn 1 = .ok (.iconst 0, 1) := by decide +kernel
theorem d_M_learn_2 : decode b_M_learn 2 = .ok (.putfield 50, 3) := by decide +kernel
theorem d_M_learn_5 : decode b_M_learn 5 = .ok (.iload_n 1, 1) := by decide +kernel
theorem d_M_learn_6 : decode b_M_learn 6 = .ok (.invokestatic 129, 3) := by decide +kernel
theorem d_M_learn_9 : decode b_M_learn 9 = .ok (.ifCond .ne 5, 3) := by decide +kernel
theorem d_M_learn_12 : decode b_M_learn 12 = .ok (.iconst (-1), 1) := by decide +kernel
theorem d_M_learn_13 : decode b_M_learn 13 = .ok (.ireturn, 1) := by decide +kernel
theorem d_M_learn_14 : decode b_M_learn 14 = .ok (.aload_n 0, 1) := by decide +kernel
theorem d_M_learn_15 : decode b_M_learn 15 = .ok (.getfield 26, 3) := by decide +kernel
theorem d_M_learn_18 : decode b_M_learn 18 = .ok (.iload_n 1, 1) := by decide +kernel
theorem d_M_learn_19 : decode b_M_learn 19 = .ok (.iaload, 1) := by decide +kernel
theorem d_M_learn_20 : decode b_M_learn 20 = .ok (.aload_n 0, 1) := by decide +kernel
theorem d_M_learn_21 : decode b_M_learn 21 = .ok (.getfield 29, 3) := by decide +kernel
theorem d_M_learn_24 : decode b_M_learn 24 = .ok (.iload_n 1, 1) := by decide +kernel
theorem d_M_learn_25 : decode b_M_learn 25 = .ok (.iaload, 1) := by decide +kernel
theorem d_M_learn_26 : decode b_M_learn 26 = .ok (.if_icmp .ne 28, 3) := by decide +kernel
theorem d_M_learn_29 : decode b_M_learn 29 = .ok (.aload_n 0, 1) := by decide +kernel
theorem d_M_learn_30 : decode b_M_learn 30 = .ok (.getfield 26, 3) := by decide +kernel
theorem d_M_learn_33 : decode b_M_learn 33 = .ok (.iload_n 1, 1) := by decide +kernel
theorem d_M_learn_34 : decode b_M_learn 34 = .ok (.iaload, 1) := by decide +kernel
theorem d_M_learn_35 : decode b_M_learn 35 = .ok (.ifCond .eq 15, 3) := by decide +kernel
theorem d_M_learn_38 : decode b_M_learn 38 = .ok (.aload_n 0, 1) := by decide +kernel
theorem d_M_learn_39 : decode b_M_learn 39 = .ok (.getfield 26, 3) := by decide +kernel
theorem d_M_learn_42 : decode b_M_learn 42 = .ok (.iload_n 1, 1) := by decide +kernel
theorem d_M_learn_43 : decode b_M_learn 43 = .ok (.iaload, 1) := by decide +kernel
theorem d_M_learn_44 : decode b_M_learn 44 = .ok (.sipush 200, 3) := by decide +kernel
theorem d_M_learn_47 : decode b_M_learn 47 = .ok (.if_icmp .ne 7, 3) := by decide +kernel
theorem d_M_learn_50 : decode b_M_learn 50 = .ok (.iconst 1, 1) := by decide +kernel
theorem d_M_learn_51 : decode b_M_learn 51 = .ok (.goto 4, 3) := by decide +kernel
theorem d_M_learn_54 : decode b_M_learn 54 = .ok (.iconst 0, 1) := by decide +kernel
theorem d_M_learn_55 : decode b_M_learn 55 = .ok (.istore_n 2, 1) := by decide +kernel
theorem d_M_learn_56 : decode b_M_learn 56 = .ok (.aload_n 0, 1) := by decide +kernel
theorem d_M_learn_57 : decode b_M_learn 57 = .ok (.getfield 32, 3) := by decide +kernel
theorem d_M_learn_60 : decode b_M_learn 60 = .ok (.iload_n 1, 1) := by decide +kernel
theorem d_M_learn_61 : decode b_M_learn 61 = .ok (.aload_n 0, 1) := by decide +kernel
theorem d_M_learn_62 : decode b_M_learn 62 = .ok (.getfield 32, 3) := by decide +kernel
theorem d_M_learn_65 : decode b_M_learn 65 = .ok (.iload_n 1, 1) := by decide +kernel
theorem d_M_learn_66 : decode b_M_learn 66 = .ok (.baload, 1) := by decide +kernel
theorem d_M_learn_67 : decode b_M_learn 67 = .ok (.ifCond .ne 7, 3) := by decide +kernel
theorem d_M_learn_70 : decode b_M_learn 70 = .ok (.iload_n 2, 1) := by decide +kernel
theorem d_M_learn_71 : decode b_M_learn 71 = .ok (.ifCond .eq 7, 3) := by decide +kernel
theorem d_M_learn_74 : decode b_M_learn 74 = .ok (.iconst 1, 1) := by decide +kernel
theorem d_M_learn_75 : decode b_M_learn 75 = .ok (.goto 4, 3) := by decide +kernel
theorem d_M_learn_78 : decode b_M_learn 78 = .ok (.iconst 0, 1) := by decide +kernel
theorem d_M_learn_79 : decode b_M_learn 79 = .ok (.bastore, 1) := by decide +kernel
theorem d_M_learn_80 : decode b_M_learn 80 = .ok (.iload_n 2, 1) := by decide +kernel
theorem d_M_learn_81 : decode b_M_learn 81 = .ok (.ifCond .eq 7, 3) := by decide +kernel
theorem d_M_learn_84 : decode b_M_learn 84 = .ok (.iconst 1, 1) := by decide +kernel
theorem d_M_learn_85 : decode b_M_learn 85 = .ok (.goto 4, 3) := by decide +kernel
theorem d_M_learn_88 : decode b_M_learn 88 = .ok (.iconst 0, 1) := by decide +kernel
theorem d_M_learn_89 : decode b_M_learn 89 = .ok (.ireturn, 1) := by decide +kernel
theorem d_M_window_0 : decode b_M_window 0 = .ok (.aload_n 0, 1) := by decide +kernel
theorem d_M_window_1 : decode b_M_window 1 = .ok (.iconst 0, 1) := by decide +kernel
theorem d_M_window_2 : decode b_M_window 2 = .ok (.putfield 50, 3) := by decide +kernel
theorem d_M_window_5 : decode b_M_window 5 = .ok (.iload_n 1, 1) := by decide +kernel
theorem d_M_window_6 : decode b_M_window 6 = .ok (.invokestatic 129, 3) := by decide +kernel
theorem d_M_window_9 : decode b_M_window 9 = .ok (.ifCond .ne 5, 3) := by decide +kernel
theorem d_M_window_12 : decode b_M_window 12 = .ok (.iconst (-1), 1) := by decide +kernel
theorem d_M_window_13 : decode b_M_window 13 = .ok (.ireturn, 1) := by decide +kernel
theorem d_M_window_14 : decode b_M_window 14 = .ok (.iload_n 2, 1) := by decide +kernel
theorem d_M_window_15 : decode b_M_window 15 = .ok (.iconst 0, 1) := by decide +kernel
theorem d_M_window_16 : decode b_M_window 16 = .ok (.sipush 200, 3) := by decide +kernel
theorem d_M_window_19 : decode b_M_window 19 = .ok (.invokestatic 80, 3) := by decide +kernel
theorem d_M_window_22 : decode b_M_window 22 = .ok (.ifCond .ne 6, 3) := by decide +kernel
theorem d_M_window_25 : decode b_M_window 25 = .ok (.bipush (-2), 2) := by decide +kernel
theorem d_M_window_27 : decode b_M_window 27 = .ok (.ireturn, 1) := by decide +kernel
theorem d_M_window_28 : decode b_M_window 28 = .ok (.aload_n 0, 1) := by decide +kernel
theorem d_M_window_29 : decode b_M_window 29 = .ok (.getfield 29, 3) := by decide +kernel
theorem d_M_window_32 : decode b_M_window 32 = .ok (.iload_n 1, 1) := by decide +kernel
theorem d_M_window_33 : decode b_M_window 33 = .ok (.iload_n 2, 1) := by decide +kernel
theorem d_M_window_34 : decode b_M_window 34 = .ok (.iastore, 1) := by decide +kernel
theorem d_M_window_35 : decode b_M_window 35 = .ok (.iload_n 2, 1) := by decide +kernel
theorem d_M_window_36 : decode b_M_window 36 = .ok (.aload_n 0, 1) := by decide +kernel
theorem d_M_window_37 : decode b_M_window 37 = .ok (.getfield 26, 3) := by decide +kernel
theorem d_M_window_40 : decode b_M_window 40 = .ok (.iload_n 1, 1) := by decide +kernel
theorem d_M_window_41 : decode b_M_window 41 = .ok (.iaload, 1) := by decide +kernel
theorem d_M_window_42 : decode b_M_window 42 = .ok (.if_icmp .le 14, 3) := by decide +kernel
theorem d_M_window_45 : decode b_M_window 45 = .ok (.iload_n 2, 1) := by decide +kernel
theorem d_M_window_46 : decode b_M_window 46 = .ok (.aload_n 0, 1) := by decide +kernel
theorem d_M_window_47 : decode b_M_window 47 = .ok (.getfield 26, 3) := by decide +kernel
theorem d_M_window_50 : decode b_M_window 50 = .ok (.iload_n 1, 1) := by decide +kernel
theorem d_M_window_51 : decode b_M_window 51 = .ok (.iaload, 1) := by decide +kernel
theorem d_M_window_52 : decode b_M_window 52 = .ok (.isub, 1) := by decide +kernel
theorem d_M_window_53 : decode b_M_window 53 = .ok (.goto 11, 3) := by decide +kernel
theorem d_M_window_56 : decode b_M_window 56 = .ok (.aload_n 0, 1) := by decide +kernel
theorem d_M_window_57 : decode b_M_window 57 = .ok (.getfield 26, 3) := by decide +kernel
theorem d_M_window_60 : decode b_M_window 60 = .ok (.iload_n 1, 1) := by decide +kernel
theorem d_M_window_61 : decode b_M_window 61 = .ok (.iaload, 1) := by decide +kernel
theorem d_M_window_62 : decode b_M_window 62 = .ok (.iload_n 2, 1) := by decide +kernel
theorem d_M_window_63 : decode b_M_window 63 = .ok (.isub, 1) := by decide +kernel
theorem d_M_window_64 : decode b_M_window 64 = .ok (.istore_n 3, 1) := by decide +kernel
theorem d_M_window_65 : decode b_M_window 65 = .ok (.aload_n 0, 1) := by decide +kernel
theorem d_M_window_66 : decode b_M_window 66 = .ok (.getfield 32, 3) := by decide +kernel
theorem d_M_window_69 : decode b_M_window 69 = .ok (.iload_n 1, 1) := by decide +kernel
theorem d_M_window_70 : decode b_M_window 70 = .ok (.baload, 1) := by decide +kernel
theorem d_M_window_71 : decode b_M_window 71 = .ok (.ifCond .eq 11, 3) := by decide +kernel
theorem d_M_window_74 : decode b_M_window 74 = .ok (.iload_n 3, 1) := by decide +kernel
theorem d_M_window_75 : decode b_M_window 75 = .ok (.iconst 1, 1) := by decide +kernel
theorem d_M_window_76 : decode b_M_window 76 = .ok (.iadd, 1) := by decide +kernel
theorem d_M_window_77 : decode b_M_window 77 = .ok (.iconst 2, 1) := by decide +kernel
theorem d_M_window_78 : decode b_M_window 78 = .ok (.idiv, 1) := by decide +kernel
theorem d_M_window_79 : decode b_M_window 79 = .ok (.goto 4, 3) := by decide +kernel
theorem d_M_window_82 : decode b_M_window 82 = .ok (.iload_n 3, 1) := by decide +kernel
theorem d_M_window_83 : decode b_M_window 83 = .ok (.ireturn, 1) := by decide +kernel
theorem d_M_load_0 : decode b_M_load 0 = .ok (.aload_n 0, 1) := by decide +kernel
theorem d_M_load_1 : decode b_M_load 1 = .ok (.iconst 0, 1) := by decide +kernel
theorem d_M_load_2 : decode b_M_load 2 = .ok (.putfield 50, 3) := by decide +kernel
theorem d_M_load_5 : decode b_M_load 5 = .ok (.iload_n 1, 1) := by decide +kernel
theorem d_M_load_6 : decode b_M_load 6 = .ok (.iconst 0, 1) := by decide +kernel
theorem d_M_load_7 : decode b_M_load 7 = .ok (.bipush 9, 2) := by decide +kernel
theorem d_M_load_9 : decode b_M_load 9 = .ok (.invokestatic 80, 3) := by decide +kernel
theorem d_M_load_12 : decode b_M_load 12 = .ok (.ifCond .ne 6, 3) := by decide +kernel
theorem d_M_load_15 : decode b_M_load 15 = .ok (.bipush (-2), 2) := by decide +kernel
theorem d_M_load_17 : decode b_M_load 17 = .ok (.ireturn, 1) := by decide +kernel
theorem d_M_load_18 : decode b_M_load 18 = .ok (.aload_n 0, 1) := by decide +kernel
theorem d_M_load_19 : decode b_M_load 19 = .ok (.getfield 132, 3) := by decide +kernel
theorem d_M_load_22 : decode b_M_load 22 = .ok (.bipush 12, 2) := by decide +kernel
theorem d_M_load_24 : decode b_M_load 24 = .ok (.if_icmp .ne 6, 3) := by decide +kernel
theorem d_M_load_27 : decode b_M_load 27 = .ok (.bipush (-4), 2) := by decide +kernel
theorem d_M_load_29 : decode b_M_load 29 = .ok (.ireturn, 1) := by decide +kernel
theorem d_M_load_30 : decode b_M_load 30 = .ok (.aload_n 0, 1) := by decide +kernel
theorem d_M_load_31 : decode b_M_load 31 = .ok (.dup, 1) := by decide +kernel
theorem d_M_load_32 : decode b_M_load 32 = .ok (.getfield 132, 3) := by decide +kernel
theorem d_M_load_35 : decode b_M_load 35 = .ok (.iconst 1, 1) := by decide +kernel
theorem d_M_load_36 : decode b_M_load 36 = .ok (.iadd, 1) := by decide +kernel
theorem d_M_load_37 : decode b_M_load 37 = .ok (.putfield 132, 3) := by decide +kernel
theorem d_M_load_40 : decode b_M_load 40 = .ok (.aload_n 0, 1) := by decide +kernel
theorem d_M_load_41 : decode b_M_load 41 = .ok (.getfield 35, 3) := by decide +kernel
theorem d_M_load_44 : decode b_M_load 44 = .ok (.aload_n 0, 1) := by decide +kernel
theorem d_M_load_45 : decode b_M_load 45 = .ok (.getfield 132, 3) := by decide +kernel
theorem d_M_load_48 : decode b_M_load 48 = .ok (.iload_n 1, 1) := by decide +kernel
theorem d_M_load_49 : decode b_M_load 49 = .ok (.iastore, 1) := by decide +kernel
theorem d_M_load_50 : decode b_M_load 50 = .ok (.aload_n 0, 1) := by decide +kernel
theorem d_M_load_51 : decode b_M_load 51 = .ok (.getfield 38, 3) := by decide +kernel
theorem d_M_load_54 : decode b_M_load 54 = .ok (.aload_n 0, 1) := by decide +kernel
theorem d_M_load_55 : decode b_M_load 55 = .ok (.getfield 132, 3) := by decide +kernel
theorem d_M_load_58 : decode b_M_load 58 = .ok (.iload_n 2, 1) := by decide +kernel
theorem d_M_load_59 : decode b_M_load 59 = .ok (.bastore, 1) := by decide +kernel
theorem d_M_load_60 : decode b_M_load 60 = .ok (.aload_n 0, 1) := by decide +kernel
theorem d_M_load_61 : decode b_M_load 61 = .ok (.getfield 132, 3) := by decide +kernel
theorem d_M_load_64 : decode b_M_load 64 = .ok (.ireturn, 1) := by decide +kernel
theorem d_M_isOn_0 : decode b_M_isOn 0 = .ok (.aload_n 0, 1) := by decide +kernel
theorem d_M_isOn_1 : decode b_M_isOn 1 = .ok (.iconst 0, 1) := by decide +kernel
theorem d_M_isOn_2 : decode b_M_isOn 2 = .ok (.putfield 50, 3) := by decide +kernel
theorem d_M_isOn_5 : decode b_M_isOn 5 = .ok (.iload_n 1, 1) := by decide +kernel
theorem d_M_isOn_6 : decode b_M_isOn 6 = .ok (.iconst 1, 1) := by decide +kernel
theorem d_M_isOn_7 : decode b_M_isOn 7 = .ok (.aload_n 0, 1) := by decide +kernel
theorem d_M_isOn_8 : decode b_M_isOn 8 = .ok (.getfield 132, 3) := by decide +kernel
theorem d_M_isOn_11 : decode b_M_isOn 11 = .ok (.invokestatic 80, 3) := by decide +kernel
theorem d_M_isOn_14 : decode b_M_isOn 14 = .ok (.ifCond .ne 5, 3) := by decide +kernel
theorem d_M_isOn_17 : decode b_M_isOn 17 = .ok (.iconst (-1), 1) := by decide +kernel
theorem d_M_isOn_18 : decode b_M_isOn 18 = .ok (.ireturn, 1) := by decide +kernel
theorem d_M_isOn_19 : decode b_M_isOn 19 = .ok (.aload_n 0, 1) := by decide +kernel
theorem d_M_isOn_20 : decode b_M_isOn 20 = .ok (.getfield 41, 3) := by decide +kernel
theorem d_M_isOn_23 : decode b_M_isOn 23 = .ok (.iload_n 1, 1) := by decide +kernel
theorem d_M_isOn_24 : decode b_M_isOn 24 = .ok (.baload, 1) := by decide +kernel
theorem d_M_isOn_25 : decode b_M_isOn 25 = .ok (.ifCond .eq 7, 3) := by decide +kernel
theorem d_M_isOn_28 : decode b_M_isOn 28 = .ok (.iconst 0, 1) := by decide +kernel
theorem d_M_isOn_29 : decode b_M_isOn 29 = .ok (.goto 4, 3) := by decide +kernel
theorem d_M_isOn_32 : decode b_M_isOn 32 = .ok (.iconst 1, 1) := by decide +kernel
theorem d_M_isOn_33 : decode b_M_isOn 33 = .ok (.ireturn, 1) := by decide +kernel
theorem d_M_putOff_0 : decode b_M_putOff 0 = .ok (.iconst 0, 1) := by decide +kernel
theorem d_M_putOff_1 : decode b_M_putOff 1 = .ok (.istore_n 1, 1) := by decide +kernel
theorem d_M_putOff_2 : decode b_M_putOff 2 = .ok (.iconst 1, 1) := by decide +kernel
theorem d_M_putOff_3 : decode b_M_putOff 3 = .ok (.istore_n 2, 1) := by decide +kernel
theorem d_M_putOff_4 : decode b_M_putOff 4 = .ok (.iload_n 2, 1) := by decide +kernel
theorem d_M_putOff_5 : decode b_M_putOff 5 = .ok (.aload_n 0, 1) := by decide +kernel
theorem d_M_putOff_6 : decode b_M_putOff 6 = .ok (.getfield 132, 3) := by decide +kernel
theorem d_M_putOff_9 : decode b_M_putOff 9 = .ok (.if_icmp .gt 48, 3) := by decide +kernel
theorem d_M_putOff_12 : decode b_M_putOff 12 = .ok (.aload_n 0, 1) := by decide +kernel
theorem d_M_putOff_13 : decode b_M_putOff 13 = .ok (.getfield 41, 3) := by decide +kernel
theorem d_M_putOff_16 : decode b_M_putOff 16 = .ok (.iload_n 2, 1) := by decide +kernel
theorem d_M_putOff_17 : decode b_M_putOff 17 = .ok (.baload, 1) := by decide +kernel
theorem d_M_putOff_18 : decode b_M_putOff 18 = .ok (.ifCond .ne 33, 3) := by decide +kernel
theorem d_M_putOff_21 : decode b_M_putOff 21 = .ok (.aload_n 0, 1) := by decide +kernel
theorem d_M_putOff_22 : decode b_M_putOff 22 = .ok (.getfield 38, 3) := by decide +kernel
theorem d_M_putOff_25 : decode b_M_putOff 25 = .ok (.iload_n 2, 1) := by decide +kernel
theorem d_M_putOff_26 : decode b_M_putOff 26 = .ok (.baload, 1) := by decide +kernel
theorem d_M_putOff_27 : decode b_M_putOff 27 = .ok (.ifCond .ne 24, 3) := by decide +kernel
theorem d_M_putOff_30 : decode b_M_putOff 30 = .ok (.iload_n 1, 1) := by decide +kernel
theorem d_M_putOff_31 : decode b_M_putOff 31 = .ok (.ifCond .eq 18, 3) := by decide +kernel
theorem d_M_putOff_34 : decode b_M_putOff 34 = .ok (.aload_n 0, 1) := by decide +kernel
theorem d_M_putOff_35 : decode b_M_putOff 35 = .ok (.getfield 35, 3) := by decide +kernel
theorem d_M_putOff_38 : decode b_M_putOff 38 = .ok (.iload_n 2, 1) := by decide +kernel
theorem d_M_putOff_39 : decode b_M_putOff 39 = .ok (.iaload, 1) := by decide +kernel
theorem d_M_putOff_40 : decode b_M_putOff 40 = .ok (.aload_n 0, 1) := by decide +kernel
theorem d_M_putOff_41 : decode b_M_putOff 41 = .ok (.getfield 35, 3) := by decide +kernel
theorem d_M_putOff_44 : decode b_M_putOff 44 = .ok (.iload_n 1, 1) := by decide +kernel
theorem d_M_putOff_45 : decode b_M_putOff 45 = .ok (.iaload, 1) := by decide +kernel
theorem d_M_putOff_46 : decode b_M_putOff 46 = .ok (.if_icmp .lt 5, 3) := by decide +kernel
theorem d_M_putOff_49 : decode b_M_putOff 49 = .ok (.iload_n 2, 1) := by decide +kernel
theorem d_M_putOff_50 : decode b_M_putOff 50 = .ok (.istore_n 1, 1) := by decide +kernel
theorem d_M_putOff_51 : decode b_M_putOff 51 = .ok (.iinc 2 1, 3) := by decide +kernel
theorem d_M_putOff_54 : decode b_M_putOff 54 = .ok (.goto (-50), 3) := by decide +kernel
theorem d_M_putOff_57 : decode b_M_putOff 57 = .ok (.aload_n 0, 1) := by decide +kernel
theorem d_M_putOff_58 : decode b_M_putOff 58 = .ok (.getfield 41, 3) := by decide +kernel
theorem d_M_putOff_61 : decode b_M_putOff 61 = .ok (.iload_n 1, 1) := by decide +kernel
theorem d_M_putOff_62 : decode b_M_putOff 62 = .ok (.iload_n 1, 1) := by decide +kernel
theorem d_M_putOff_63 : decode b_M_putOff 63 = .ok (.ifCond .le 7, 3) := by decide +kernel
theorem d_M_putOff_66 : decode b_M_putOff 66 = .ok (.iconst 1, 1) := by decide +kernel
theorem d_M_putOff_67 : decode b_M_putOff 67 = .ok (.goto 4, 3) := by decide +kernel
theorem d_M_putOff_70 : decode b_M_putOff 70 = .ok (.iconst 0, 1) := by decide +kernel
theorem d_M_putOff_71 : decode b_M_putOff 71 = .ok (.bastore, 1) := by decide +kernel
theorem d_M_putOff_72 : decode b_M_putOff 72 = .ok (.return_, 1) := by decide +kernel
theorem d_M_putOn_0 : decode b_M_putOn 0 = .ok (.iconst 0, 1) := by decide +kernel
theorem d_M_putOn_1 : decode b_M_putOn 1 = .ok (.istore_n 1, 1) := by decide +kernel
theorem d_M_putOn_2 : decode b_M_putOn 2 = .ok (.iconst 1, 1) := by decide +kernel
theorem d_M_putOn_3 : decode b_M_putOn 3 = .ok (.istore_n 2, 1) := by decide +kernel
theorem d_M_putOn_4 : decode b_M_putOn 4 = .ok (.iload_n 2, 1) := by decide +kernel
theorem d_M_putOn_5 : decode b_M_putOn 5 = .ok (.aload_n 0, 1) := by decide +kernel
theorem d_M_putOn_6 : decode b_M_putOn 6 = .ok (.getfield 132, 3) := by decide +kernel
theorem d_M_putOn_9 : decode b_M_putOn 9 = .ok (.if_icmp .gt 39, 3) := by decide +kernel
theorem d_M_putOn_12 : decode b_M_putOn 12 = .ok (.aload_n 0, 1) := by decide +kernel
theorem d_M_putOn_13 : decode b_M_putOn 13 = .ok (.getfield 41, 3) := by decide +kernel
theorem d_M_putOn_16 : decode b_M_putOn 16 = .ok (.iload_n 2, 1) := by decide +kernel
theorem d_M_putOn_17 : decode b_M_putOn 17 = .ok (.baload, 1) := by decide +kernel
theorem d_M_putOn_18 : decode b_M_putOn 18 = .ok (.ifCond .eq 24, 3) := by decide +kernel
theorem d_M_putOn_21 : decode b_M_putOn 21 = .ok (.iload_n 1, 1) := by decide +kernel
theorem d_M_putOn_22 : decode b_M_putOn 22 = .ok (.ifCond .eq 18, 3) := by decide +kernel
theorem d_M_putOn_25 : decode b_M_putOn 25 = .ok (.aload_n 0, 1) := by decide +kernel
theorem d_M_putOn_26 : decode b_M_putOn 26 = .ok (.getfield 35, 3) := by decide +kernel
theorem d_M_putOn_29 : decode b_M_putOn 29 = .ok (.iload_n 2, 1) := by decide +kernel
theorem d_M_putOn_30 : decode b_M_putOn 30 = .ok (.iaload, 1) := by decide +kernel
theorem d_M_putOn_31 : decode b_M_putOn 31 = .ok (.aload_n 0, 1) := by decide +kernel
theorem d_M_putOn_32 : decode b_M_putOn 32 = .ok (.getfield 35, 3) := by decide +kernel
theorem d_M_putOn_35 : decode b_M_putOn 35 = .ok (.iload_n 1, 1) := by decide +kernel
theorem d_M_putOn_36 : decode b_M_putOn 36 = .ok (.iaload, 1) := by decide +kernel
theorem d_M_putOn_37 : decode b_M_putOn 37 = .ok (.if_icmp .ge 5, 3) := by decide +kernel
theorem d_M_putOn_40 : decode b_M_putOn 40 = .ok (.iload_n 2, 1) := by decide +kernel
theorem d_M_putOn_41 : decode b_M_putOn 41 = .ok (.istore_n 1, 1) := by decide +kernel
theorem d_M_putOn_42 : decode b_M_putOn 42 = .ok (.iinc 2 1, 3) := by decide +kernel
theorem d_M_putOn_45 : decode b_M_putOn 45 = .ok (.goto (-41), 3) := by decide +kernel
theorem d_M_putOn_48 : decode b_M_putOn 48 = .ok (.aload_n 0, 1) := by decide +kernel
theorem d_M_putOn_49 : decode b_M_putOn 49 = .ok (.getfield 41, 3) := by decide +kernel
theorem d_M_putOn_52 : decode b_M_putOn 52 = .ok (.iload_n 1, 1) := by decide +kernel
theorem d_M_putOn_53 : decode b_M_putOn 53 = .ok (.iconst 0, 1) := by decide +kernel
theorem d_M_putOn_54 : decode b_M_putOn 54 = .ok (.bastore, 1) := by decide +kernel
theorem d_M_putOn_55 : decode b_M_putOn 55 = .ok (.return_, 1) := by decide +kernel
theorem d_M_shed_0 : decode b_M_shed 0 = .ok (.aload_n 0, 1) := by decide +kernel
theorem d_M_shed_1 : decode b_M_shed 1 = .ok (.iconst 0, 1) := by decide +kernel
theorem d_M_shed_2 : decode b_M_shed 2 = .ok (.putfield 50, 3) := by decide +kernel
theorem d_M_shed_5 : decode b_M_shed 5 = .ok (.iload_n 1, 1) := by decide +kernel
theorem d_M_shed_6 : decode b_M_shed 6 = .ok (.iconst 0, 1) := by decide +kernel
theorem d_M_shed_7 : decode b_M_shed 7 = .ok (.sipush 20000, 3) := by decide +kernel
theorem d_M_shed_10 : decode b_M_shed 10 = .ok (.invokestatic 80, 3) := by decide +kernel
theorem d_M_shed_13 : decode b_M_shed 13 = .ok (.ifCond .ne 6, 3) := by decide +kernel
theorem d_M_shed_16 : decode b_M_shed 16 = .ok (.bipush (-2), 2) := by decide +kernel
theorem d_M_shed_18 : decode b_M_shed 18 = .ok (.ireturn, 1) := by decide +kernel
theorem d_M_shed_19 : decode b_M_shed 19 = .ok (.aload_n 0, 1) := by decide +kernel
theorem d_M_shed_20 : decode b_M_shed 20 = .ok (.iload_n 1, 1) := by decide +kernel
theorem d_M_shed_21 : decode b_M_shed 21 = .ok (.sipush 11500, 3) := by decide +kernel
theorem d_M_shed_24 : decode b_M_shed 24 = .ok (.if_icmp .ge 12, 3) := by decide +kernel
theorem d_M_shed_27 : decode b_M_shed 27 = .ok (.aload_n 0, 1) := by decide +kernel
theorem d_M_shed_28 : decode b_M_shed 28 = .ok (.getfield 135, 3) := by decide +kernel
theorem d_M_shed_31 : decode b_M_shed 31 = .ok (.iconst 1, 1) := by decide +kernel
theorem d_M_shed_32 : decode b_M_shed 32 = .ok (.iadd, 1) := by decide +kernel
theorem d_M_shed_33 : decode b_M_shed 33 = .ok (.goto 4, 3) := by decide +kernel
theorem d_M_shed_36 : decode b_M_shed 36 = .ok (.iconst 0, 1) := by decide +kernel
theorem d_M_shed_37 : decode b_M_shed 37 = .ok (.putfield 135, 3) := by decide +kernel
theorem d_M_shed_40 : decode b_M_shed 40 = .ok (.aload_n 0, 1) := by decide +kernel
theorem d_M_shed_41 : decode b_M_shed 41 = .ok (.iload_n 1, 1) := by decide +kernel
theorem d_M_shed_42 : decode b_M_shed 42 = .ok (.sipush 12500, 3) := by decide +kernel
theorem d_M_shed_45 : decode b_M_shed 45 = .ok (.if_icmp .le 12, 3) := by decide +kernel
theorem d_M_shed_48 : decode b_M_shed 48 = .ok (.aload_n 0, 1) := by decide +kernel
theorem d_M_shed_49 : decode b_M_shed 49 = .ok (.getfield 138, 3) := by decide +kernel
theorem d_M_shed_52 : decode b_M_shed 52 = .ok (.iconst 1, 1) := by decide +kernel
theorem d_M_shed_53 : decode b_M_shed 53 = .ok (.iadd, 1) := by decide +kernel
theorem d_M_shed_54 : decode b_M_shed 54 = .ok (.goto 4, 3) := by decide +kernel
theorem d_M_shed_57 : decode b_M_shed 57 = .ok (.iconst 0, 1) := by decide +kernel
theorem d_M_shed_58 : decode b_M_shed 58 = .ok (.putfield 138, 3) := by decide +kernel
theorem d_M_shed_61 : decode b_M_shed 61 = .ok (.aload_n 0, 1) := by decide +kernel
theorem d_M_shed_62 : decode b_M_shed 62 = .ok (.getfield 135, 3) := by decide +kernel
theorem d_M_shed_65 : decode b_M_shed 65 = .ok (.iconst 3, 1) := by decide +kernel
theorem d_M_shed_66 : decode b_M_shed 66 = .ok (.if_icmp .ne 12, 3) := by decide +kernel
theorem d_M_shed_69 : decode b_M_shed 69 = .ok (.aload_n 0, 1) := by decide +kernel
theorem d_M_shed_70 : decode b_M_shed 70 = .ok (.invokevirtual 141, 3) := by decide +kernel
theorem d_M_shed_73 : decode b_M_shed 73 = .ok (.aload_n 0, 1) := by decide +kernel
theorem d_M_shed_74 : decode b_M_shed 74 = .ok (.iconst 0, 1) := by decide +kernel
theorem d_M_shed_75 : decode b_M_shed 75 = .ok (.putfield 135, 3) := by decide +kernel
theorem d_M_shed_78 : decode b_M_shed 78 = .ok (.aload_n 0, 1) := by decide +kernel
theorem d_M_shed_79 : decode b_M_shed 79 = .ok (.getfield 138, 3) := by decide +kernel
theorem d_M_shed_82 : decode b_M_shed 82 = .ok (.iconst 3, 1) := by decide +kernel
theorem d_M_shed_83 : decode b_M_shed 83 = .ok (.if_icmp .ne 12, 3) := by decide +kernel
theorem d_M_shed_86 : decode b_M_shed 86 = .ok (.aload_n 0, 1) := by decide +kernel
theorem d_M_shed_87 : decode b_M_shed 87 = .ok (.invokevirtual 144, 3) := by decide +kernel
theorem d_M_shed_90 : decode b_M_shed 90 = .ok (.aload_n 0, 1) := by decide +kernel
theorem d_M_shed_91 : decode b_M_shed 91 = .ok (.iconst 0, 1) := by decide +kernel
theorem d_M_shed_92 : decode b_M_shed 92 = .ok (.putfield 138, 3) := by decide +kernel
theorem d_M_shed_95 : decode b_M_shed 95 = .ok (.iconst 0, 1) := by decide +kernel
theorem d_M_shed_96 : decode b_M_shed 96 = .ok (.istore_n 2, 1) := by decide +kernel
theorem d_M_shed_97 : decode b_M_shed 97 = .ok (.iconst 1, 1) := by decide +kernel
theorem d_M_shed_98 : decode b_M_shed 98 = .ok (.istore_n 3, 1) := by decide +kernel
theorem d_M_shed_99 : decode b_M_shed 99 = .ok (.iload_n 3, 1) := by decide +kernel
theorem d_M_shed_100 : decode b_M_shed 100 = .ok (.aload_n 0, 1) := by decide +kernel
theorem d_M_shed_101 : decode b_M_shed 101 = .ok (.getfield 132, 3) := by decide +kernel
theorem d_M_shed_104 : decode b_M_shed 104 = .ok (.if_icmp .gt 26, 3) := by decide +kernel
theorem d_M_shed_107 : decode b_M_shed 107 = .ok (.iload_n 2, 1) := by decide +kernel
theorem d_M_shed_108 : decode b_M_shed 108 = .ok (.aload_n 0, 1) := by decide +kernel
theorem d_M_shed_109 : decode b_M_shed 109 = .ok (.getfield 41, 3) := by decide +kernel
theorem d_M_shed_112 : decode b_M_shed 112 = .ok (.iload_n 3, 1) := by decide +kernel
theorem d_M_shed_113 : decode b_M_shed 113 = .ok (.baload, 1) := by decide +kernel
theorem d_M_shed_114 : decode b_M_shed 114 = .ok (.ifCond .eq 7, 3) := by decide +kernel
theorem d_M_shed_117 : decode b_M_shed 117 = .ok (.iconst 1, 1) := by decide +kernel
theorem d_M_shed_118 : decode b_M_shed 118 = .ok (.goto 4, 3) := by decide +kernel
theorem d_M_shed_121 : decode b_M_shed 121 = .ok (.iconst 0, 1) := by decide +kernel
theorem d_M_shed_122 : decode b_M_shed 122 = .ok (.iadd, 1) := by decide +kernel
theorem d_M_shed_123 : decode b_M_shed 123 = .ok (.istore_n 2, 1) := by decide +kernel
theorem d_M_shed_124 : decode b_M_shed 124 = .ok (.iinc 3 1, 3) := by decide +kernel
theorem d_M_shed_127 : decode b_M_shed 127 = .ok (.goto (-28), 3) := by decide +kernel
theorem d_M_shed_130 : decode b_M_shed 130 = .ok (.iload_n 2, 1) := by decide +kernel
theorem d_M_shed_131 : decode b_M_shed 131 = .ok (.ireturn, 1) := by decide +kernel
theorem d_M_bulb_0 : decode b_M_bulb 0 = .ok (.aload_n 0, 1) := by decide +kernel
theorem d_M_bulb_1 : decode b_M_bulb 1 = .ok (.iconst 0, 1) := by decide +kernel
theorem d_M_bulb_2 : decode b_M_bulb 2 = .ok (.putfield 50, 3) := by decide +kernel
theorem d_M_bulb_5 : decode b_M_bulb 5 = .ok (.iload_n 1, 1) := by decide +kernel
theorem d_M_bulb_6 : decode b_M_bulb 6 = .ok (.iconst 0, 1) := by decide +kernel
theorem d_M_bulb_7 : decode b_M_bulb 7 = .ok (.iconst 5, 1) := by decide +kernel
theorem d_M_bulb_8 : decode b_M_bulb 8 = .ok (.invokestatic 80, 3) := by decide +kernel
theorem d_M_bulb_11 : decode b_M_bulb 11 = .ok (.ifCond .ne 5, 3) := by decide +kernel
theorem d_M_bulb_14 : decode b_M_bulb 14 = .ok (.iconst (-1), 1) := by decide +kernel
theorem d_M_bulb_15 : decode b_M_bulb 15 = .ok (.ireturn, 1) := by decide +kernel
theorem d_M_bulb_16 : decode b_M_bulb 16 = .ok (.aload_n 0, 1) := by decide +kernel
theorem d_M_bulb_17 : decode b_M_bulb 17 = .ok (.getfield 23, 3) := by decide +kernel
theorem d_M_bulb_20 : decode b_M_bulb 20 = .ok (.iload_n 1, 1) := by decide +kernel
theorem d_M_bulb_21 : decode b_M_bulb 21 = .ok (.iload_n 2, 1) := by decide +kernel
theorem d_M_bulb_22 : decode b_M_bulb 22 = .ok (.ifCond .ne 7, 3) := by decide +kernel
theorem d_M_bulb_25 : decode b_M_bulb 25 = .ok (.iconst 1, 1) := by decide +kernel
theorem d_M_bulb_26 : decode b_M_bulb 26 = .ok (.goto 4, 3) := by decide +kernel
theorem d_M_bulb_29 : decode b_M_bulb 29 = .ok (.iconst 0, 1) := by decide +kernel
theorem d_M_bulb_30 : decode b_M_bulb 30 = .ok (.bastore, 1) := by decide +kernel
theorem d_M_bulb_31 : decode b_M_bulb 31 = .ok (.iload_n 1, 1) := by decide +kernel
theorem d_M_bulb_32 : decode b_M_bulb 32 = .ok (.iconst 3, 1) := by decide +kernel
theorem d_M_bulb_33 : decode b_M_bulb 33 = .ok (.if_icmp .le 9, 3) := by decide +kernel
theorem d_M_bulb_36 : decode b_M_bulb 36 = .ok (.iload_n 1, 1) := by decide +kernel
theorem d_M_bulb_37 : decode b_M_bulb 37 = .ok (.iconst 4, 1) := by decide +kernel
theorem d_M_bulb_38 : decode b_M_bulb 38 = .ok (.isub, 1) := by decide +kernel
theorem d_M_bulb_39 : decode b_M_bulb 39 = .ok (.goto 18, 3) := by decide +kernel
theorem d_M_bulb_42 : decode b_M_bulb 42 = .ok (.iload_n 1, 1) := by decide +kernel
theorem d_M_bulb_43 : decode b_M_bulb 43 = .ok (.iconst 2, 1) := by decide +kernel
theorem d_M_bulb_44 : decode b_M_bulb 44 = .ok (.irem, 1) := by decide +kernel
theorem d_M_bulb_45 : decode b_M_bulb 45 = .ok (.ifCond .ne 9, 3) := by decide +kernel
theorem d_M_bulb_48 : decode b_M_bulb 48 = .ok (.iload_n 1, 1) := by decide +kernel
theorem d_M_bulb_49 : decode b_M_bulb 49 = .ok (.iconst 1, 1) := by decide +kernel
theorem d_M_bulb_50 : decode b_M_bulb 50 = .ok (.iadd, 1) := by decide +kernel
theorem d_M_bulb_51 : decode b_M_bulb 51 = .ok (.goto 6, 3) := by decide +kernel
theorem d_M_bulb_54 : decode b_M_bulb 54 = .ok (.iload_n 1, 1) := by decide +kernel
theorem d_M_bulb_55 : decode b_M_bulb 55 = .ok (.iconst 1, 1) := by decide +kernel
theorem d_M_bulb_56 : decode b_M_bulb 56 = .ok (.isub, 1) := by decide +kernel
theorem d_M_bulb_57 : decode b_M_bulb 57 = .ok (.istore_n 3, 1) := by decide +kernel
theorem d_M_bulb_58 : decode b_M_bulb 58 = .ok (.iload_n 2, 1) := by decide +kernel
theorem d_M_bulb_59 : decode b_M_bulb 59 = .ok (.ifCond .ne 12, 3) := by decide +kernel
theorem d_M_bulb_62 : decode b_M_bulb 62 = .ok (.aload_n 0, 1) := by decide +kernel
theorem d_M_bulb_63 : decode b_M_bulb 63 = .ok (.getfield 23, 3) := by decide +kernel
theorem d_M_bulb_66 : decode b_M_bulb 66 = .ok (.iload_n 3, 1) := by decide +kernel
theorem d_M_bulb_67 : decode b_M_bulb 67 = .ok (.baload, 1) := by decide +kernel
theorem d_M_bulb_68 : decode b_M_bulb 68 = .ok (.ifCond .eq 7, 3) := by decide +kernel
theorem d_M_bulb_71 : decode b_M_bulb 71 = .ok (.iconst 0, 1) := by decide +kernel
theorem d_M_bulb_72 : decode b_M_bulb 72 = .ok (.goto 6, 3) := by decide +kernel
theorem d_M_bulb_75 : decode b_M_bulb 75 = .ok (.iload_n 3, 1) := by decide +kernel
theorem d_M_bulb_76 : decode b_M_bulb 76 = .ok (.iconst 1, 1) := by decide +kernel
theorem d_M_bulb_77 : decode b_M_bulb 77 = .ok (.iadd, 1) := by decide +kernel
theorem d_M_bulb_78 : decode b_M_bulb 78 = .ok (.ireturn, 1) := by decide +kernel
theorem d_M_rain_0 : decode b_M_rain 0 = .ok (.aload_n 0, 1) := by decide +kernel
theorem d_M_rain_1 : decode b_M_rain 1 = .ok (.iconst 0, 1) := by decide +kernel
theorem d_M_rain_2 : decode b_M_rain 2 = .ok (.putfield 50, 3) := by decide +kernel
theorem d_M_rain_5 : decode b_M_rain 5 = .ok (.iload_n 1, 1) := by decide +kernel
theorem d_M_rain_6 : decode b_M_rain 6 = .ok (.iconst 0, 1) := by decide +kernel
theorem d_M_rain_7 : decode b_M_rain 7 = .ok (.bipush 9, 2) := by decide +kernel
theorem d_M_rain_9 : decode b_M_rain 9 = .ok (.invokestatic 80, 3) := by decide +kernel
theorem d_M_rain_12 : decode b_M_rain 12 = .ok (.ifCond .ne 6, 3) := by decide +kernel
theorem d_M_rain_15 : decode b_M_rain 15 = .ok (.bipush (-2), 2) := by decide +kernel
theorem d_M_rain_17 : decode b_M_rain 17 = .ok (.ireturn, 1) := by decide +kernel
theorem d_M_rain_18 : decode b_M_rain 18 = .ok (.aload_n 0, 1) := by decide +kernel
theorem d_M_rain_19 : decode b_M_rain 19 = .ok (.getfield 101, 3) := by decide +kernel
theorem d_M_rain_22 : decode b_M_rain 22 = .ok (.istore_n 2, 1) := by decide +kernel
theorem d_M_rain_23 : decode b_M_rain 23 = .ok (.aload_n 0, 1) := by decide +kernel
theorem d_M_rain_24 : decode b_M_rain 24 = .ok (.iload_n 1, 1) := by decide +kernel
theorem d_M_rain_25 : decode b_M_rain 25 = .ok (.putfield 101, 3) := by decide +kernel
theorem d_M_rain_28 : decode b_M_rain 28 = .ok (.iload_n 2, 1) := by decide +kernel
theorem d_M_rain_29 : decode b_M_rain 29 = .ok (.ireturn, 1) := by decide +kernel
theorem d_M_crash_0 : decode b_M_crash 0 = .ok (.aload_n 0, 1) := by decide +kernel
theorem d_M_crash_1 : decode b_M_crash 1 = .ok (.iconst 0, 1) := by decide +kernel
theorem d_M_crash_2 : decode b_M_crash 2 = .ok (.putfield 50, 3) := by decide +kernel
theorem d_M_crash_5 : decode b_M_crash 5 = .ok (.aload_n 0, 1) := by decide +kernel
theorem d_M_crash_6 : decode b_M_crash 6 = .ok (.getfield 62, 3) := by decide +kernel
theorem d_M_crash_9 : decode b_M_crash 9 = .ok (.ifCond .eq 6, 3) := by decide +kernel
theorem d_M_crash_12 : decode b_M_crash 12 = .ok (.bipush (-3), 2) := by decide +kernel
theorem d_M_crash_14 : decode b_M_crash 14 = .ok (.ireturn, 1) := by decide +kernel
theorem d_M_crash_15 : decode b_M_crash 15 = .ok (.aload_n 0, 1) := by decide +kernel
theorem d_M_crash_16 : decode b_M_crash 16 = .ok (.invokevirtual 91, 3) := by decide +kernel
theorem d_M_crash_19 : decode b_M_crash 19 = .ok (.aload_n 0, 1) := by decide +kernel
theorem d_M_crash_20 : decode b_M_crash 20 = .ok (.iconst 1, 1) := by decide +kernel
theorem d_M_crash_21 : decode b_M_crash 21 = .ok (.putfield 62, 3) := by decide +kernel
theorem d_M_crash_24 : decode b_M_crash 24 = .ok (.iconst 0, 1) := by decide +kernel
theorem d_M_crash_25 : decode b_M_crash 25 = .ok (.istore_n 1, 1) := by decide +kernel
theorem d_M_crash_26 : decode b_M_crash 26 = .ok (.iload_n 1, 1) := by decide +kernel
theorem d_M_crash_27 : decode b_M_crash 27 = .ok (.iconst 4, 1) := by decide +kernel
theorem d_M_crash_28 : decode b_M_crash 28 = .ok (.if_icmp .ge 16, 3) := by decide +kernel
theorem d_M_crash_31 : decode b_M_crash 31 = .ok (.aload_n 0, 1) := by decide +kernel
theorem d_M_crash_32 : decode b_M_crash 32 = .ok (.getfield 29, 3) := by decide +kernel
theorem d_M_crash_35 : decode b_M_crash 35 = .ok (.iload_n 1, 1) := by decide +kernel
theorem d_M_crash_36 : decode b_M_crash 36 = .ok (.iconst 0, 1) := by decide +kernel
theorem d_M_crash_37 : decode b_M_crash 37 = .ok (.iastore, 1) := by decide +kernel
theorem d_M_crash_38 : decode b_M_crash 38 = .ok (.iinc 1 1, 3) := by decide +kernel
theorem d_M_crash_41 : decode b_M_crash 41 = .ok (.goto (-15), 3) := by decide +kernel
theorem d_M_crash_44 : decode b_M_crash 44 = .ok (.aload_n 0, 1) := by decide +kernel
theorem d_M_crash_45 : decode b_M_crash 45 = .ok (.invokevirtual 94, 3) := by decide +kernel
theorem d_M_crash_48 : decode b_M_crash 48 = .ok (.aload_n 0, 1) := by decide +kernel
theorem d_M_crash_49 : decode b_M_crash 49 = .ok (.invokevirtual 97, 3) := by decide +kernel
theorem d_M_crash_52 : decode b_M_crash 52 = .ok (.ireturn, 1) := by decide +kernel
theorem d_M_memory_0 : decode b_M_memory 0 = .ok (.aload_n 0, 1) := by decide +kernel
theorem d_M_memory_1 : decode b_M_memory 1 = .ok (.iconst 0, 1) := by decide +kernel
theorem d_M_memory_2 : decode b_M_memory 2 = .ok (.putfield 50, 3) := by decide +kernel
theorem d_M_memory_5 : decode b_M_memory 5 = .ok (.iload_n 1, 1) := by decide +kernel
theorem d_M_memory_6 : decode b_M_memory 6 = .ok (.iconst 0, 1) := by decide +kernel
theorem d_M_memory_7 : decode b_M_memory 7 = .ok (.iconst 3, 1) := by decide +kernel
theorem d_M_memory_8 : decode b_M_memory 8 = .ok (.invokestatic 80, 3) := by decide +kernel
theorem d_M_memory_11 : decode b_M_memory 11 = .ok (.ifCond .ne 5, 3) := by decide +kernel
theorem d_M_memory_14 : decode b_M_memory 14 = .ok (.iconst (-1), 1) := by decide +kernel
theorem d_M_memory_15 : decode b_M_memory 15 = .ok (.ireturn, 1) := by decide +kernel
theorem d_M_memory_16 : decode b_M_memory 16 = .ok (.iload_n 2, 1) := by decide +kernel
theorem d_M_memory_17 : decode b_M_memory 17 = .ok (.iconst 0, 1) := by decide +kernel
theorem d_M_memory_18 : decode b_M_memory 18 = .ok (.iconst 4, 1) := by decide +kernel
theorem d_M_memory_19 : decode b_M_memory 19 = .ok (.invokestatic 80, 3) := by decide +kernel
theorem d_M_memory_22 : decode b_M_memory 22 = .ok (.ifCond .eq 12, 3) := by decide +kernel
theorem d_M_memory_25 : decode b_M_memory 25 = .ok (.iload_n 3, 1) := by decide +kernel
theorem d_M_memory_26 : decode b_M_memory 26 = .ok (.iconst 0, 1) := by decide +kernel
theorem d_M_memory_27 : decode b_M_memory 27 = .ok (.iconst 1, 1) := by decide +kernel
theorem d_M_memory_28 : decode b_M_memory 28 = .ok (.invokestatic 80, 3) := by decide +kernel
theorem d_M_memory_31 : decode b_M_memory 31 = .ok (.ifCond .ne 6, 3) := by decide +kernel
theorem d_M_memory_34 : decode b_M_memory 34 = .ok (.bipush (-2), 2) := by decide +kernel
theorem d_M_memory_36 : decode b_M_memory 36 = .ok (.ireturn, 1) := by decide +kernel
theorem d_M_memory_37 : decode b_M_memory 37 = .ok (.iconst 5, 1) := by decide +kernel
theorem d_M_memory_38 : decode b_M_memory 38 = .ok (.iload_n 1, 1) := by decide +kernel
theorem d_M_memory_39 : decode b_M_memory 39 = .ok (.imul, 1) := by decide +kernel
theorem d_M_memory_40 : decode b_M_memory 40 = .ok (.iload_n 2, 1) := by decide +kernel
theorem d_M_memory_41 : decode b_M_memory 41 = .ok (.iadd, 1) := by decide +kernel
theorem d_M_memory_42 : decode b_M_memory 42 = .ok (.istore 4, 2) := by decide +kernel
theorem d_M_memory_44 : decode b_M_memory 44 = .ok (.iload_n 3, 1) := by decide +kernel
theorem d_M_memory_45 : decode b_M_memory 45 = .ok (.ifCond .ne 31, 3) := by decide +kernel
theorem d_M_memory_48 : decode b_M_memory 48 = .ok (.aload_n 0, 1) := by decide +kernel
theorem d_M_memory_49 : decode b_M_memory 49 = .ok (.getfield 44, 3) := by decide +kernel
theorem d_M_memory_52 : decode b_M_memory 52 = .ok (.iload 4, 2) := by decide +kernel
theorem d_M_memory_54 : decode b_M_memory 54 = .ok (.iload_n 2, 1) := by decide +kernel
theorem d_M_memory_55 : decode b_M_memory 55 = .ok (.iconst 4, 1) := by decide +kernel
theorem d_M_memory_56 : decode b_M_memory 56 = .ok (.if_icmp .ne 10, 3) := by decide +kernel
theorem d_M_memory_59 : decode b_M_memory 59 = .ok (.aload_n 0, 1) := by decide +kernel
theorem d_M_memory_60 : decode b_M_memory 60 = .ok (.getfield 71, 3) := by decide +kernel
theorem d_M_memory_63 : decode b_M_memory 63 = .ok (.goto 9, 3) := by decide +kernel
theorem d_M_memory_66 : decode b_M_memory 66 = .ok (.aload_n 0, 1) := by decide +kernel
theorem d_M_memory_67 : decode b_M_memory 67 = .ok (.getfield 29, 3) := by decide +kernel
theorem d_M_memory_70 : decode b_M_memory 70 = .ok (.iload_n 2, 1) := by decide +kernel
theorem d_M_memory_71 : decode b_M_memory 71 = .ok (.iaload, 1) := by decide +kernel
theorem d_M_memory_72 : decode b_M_memory 72 = .ok (.iastore, 1) := by decide +kernel
theorem d_M_memory_73 : decode b_M_memory 73 = .ok (.goto 45, 3) := by decide +kernel
theorem d_M_memory_76 : decode b_M_memory 76 = .ok (.aload_n 0, 1) := by decide +kernel
theorem d_M_memory_77 : decode b_M_memory 77 = .ok (.getfield 44, 3) := by decide +kernel
theorem d_M_memory_80 : decode b_M_memory 80 = .ok (.iload 4, 2) := by decide +kernel
theorem d_M_memory_82 : decode b_M_memory 82 = .ok (.iaload, 1) := by decide +kernel
theorem d_M_memory_83 : decode b_M_memory 83 = .ok (.ifCond .lt 35, 3) := by decide +kernel
theorem d_M_memory_86 : decode b_M_memory 86 = .ok (.iload_n 2, 1) := by decide +kernel
theorem d_M_memory_87 : decode b_M_memory 87 = .ok (.iconst 4, 1) := by decide +kernel
theorem d_M_memory_88 : decode b_M_memory 88 = .ok (.if_icmp .ne 17, 3) := by decide +kernel
theorem d_M_memory_91 : decode b_M_memory 91 = .ok (.aload_n 0, 1) := by decide +kernel
theorem d_M_memory_92 : decode b_M_memory 92 = .ok (.aload_n 0, 1) := by decide +kernel
theorem d_M_memory_93 : decode b_M_memory 93 = .ok (.getfield 44, 3) := by decide +kernel
theorem d_M_memory_96 : decode b_M_memory 96 = .ok (.iload 4, 2) := by decide +kernel
theorem d_M_memory_98 : decode b_M_memory 98 = .ok (.iaload, 1) := by decide +kernel
theorem d_M_memory_99 : decode b_M_memory 99 = .ok (.putfield 71, 3) := by decide +kernel
theorem d_M_memory_102 : decode b_M_memory 102 = .ok (.goto 16, 3) := by decide +kernel
theorem d_M_memory_105 : decode b_M_memory 105 = .ok (.aload_n 0, 1) := by decide +kernel
theorem d_M_memory_106 : decode b_M_memory 106 = .ok (.getfield 29, 3) := by decide +kernel
theorem d_M_memory_109 : decode b_M_memory 109 = .ok (.iload_n 2, 1) := by decide +kernel
theorem d_M_memory_110 : decode b_M_memory 110 = .ok (.aload_n 0, 1) := by decide +kernel
theorem d_M_memory_111 : decode b_M_memory 111 = .ok (.getfield 44, 3) := by decide +kernel
theorem d_M_memory_114 : decode b_M_memory 114 = .ok (.iload 4, 2) := by decide +kernel
theorem d_M_memory_116 : decode b_M_memory 116 = .ok (.iaload, 1) := by decide +kernel
theorem d_M_memory_117 : decode b_M_memory 117 = .ok (.iastore, 1) := by decide +kernel
theorem d_M_memory_118 : decode b_M_memory 118 = .ok (.aload_n 0, 1) := by decide +kernel
theorem d_M_memory_119 : decode b_M_memory 119 = .ok (.getfield 44, 3) := by decide +kernel
theorem d_M_memory_122 : decode b_M_memory 122 = .ok (.iload 4, 2) := by decide +kernel
theorem d_M_memory_124 : decode b_M_memory 124 = .ok (.iaload, 1) := by decide +kernel
theorem d_M_memory_125 : decode b_M_memory 125 = .ok (.ireturn, 1) := by decide +kernel
theorem d_M_trailer_0 : decode b_M_trailer 0 = .ok (.aload_n 0, 1) := by decide +kernel
theorem d_M_trailer_1 : decode b_M_trailer 1 = .ok (.iconst 0, 1) := by decide +kernel
theorem d_M_trailer_2 : decode b_M_trailer 2 = .ok (.putfield 50, 3) := by decide +kernel
theorem d_M_trailer_5 : decode b_M_trailer 5 = .ok (.aload_n 0, 1) := by decide +kernel
theorem d_M_trailer_6 : decode b_M_trailer 6 = .ok (.invokevirtual 91, 3) := by decide +kernel
theorem d_M_trailer_9 : decode b_M_trailer 9 = .ok (.aload_n 0, 1) := by decide +kernel
theorem d_M_trailer_10 : decode b_M_trailer 10 = .ok (.iload_n 1, 1) := by decide +kernel
theorem d_M_trailer_11 : decode b_M_trailer 11 = .ok (.putfield 74, 3) := by decide +kernel
theorem d_M_trailer_14 : decode b_M_trailer 14 = .ok (.aload_n 0, 1) := by decide +kernel
theorem d_M_trailer_15 : decode b_M_trailer 15 = .ok (.invokevirtual 97, 3) := by decide +kernel
theorem d_M_trailer_18 : decode b_M_trailer 18 = .ok (.ireturn, 1) := by decide +kernel
theorem d_M_state_0 : decode b_M_state 0 = .ok (.aload_n 0, 1) := by decide +kernel
theorem d_M_state_1 : decode b_M_state 1 = .ok (.iconst 0, 1) := by decide +kernel
theorem d_M_state_2 : decode b_M_state 2 = .ok (.putfield 50, 3) := by decide +kernel
theorem d_M_state_5 : decode b_M_state 5 = .ok (.iload_n 1, 1) := by decide +kernel
theorem d_M_state_6 : decode b_M_state 6 = .ok (.iconst 0, 1) := by decide +kernel
theorem d_M_state_7 : decode b_M_state 7 = .ok (.bipush 9, 2) := by decide +kernel
theorem d_M_state_9 : decode b_M_state 9 = .ok (.invokestatic 80, 3) := by decide +kernel
theorem d_M_state_12 : decode b_M_state 12 = .ok (.ifCond .ne 6, 3) := by decide +kernel
theorem d_M_state_15 : decode b_M_state 15 = .ok (.bipush (-2), 2) := by decide +kernel
theorem d_M_state_17 : decode b_M_state 17 = .ok (.ireturn, 1) := by decide +kernel
theorem d_M_state_18 : decode b_M_state 18 = .ok (.iload_n 1, 1) := by decide +kernel
theorem d_M_state_19 : decode b_M_state 19 = .ok (.iconst 4, 1) := by decide +kernel
theorem d_M_state_20 : decode b_M_state 20 = .ok (.if_icmp .ge 12, 3) := by decide +kernel
theorem d_M_state_23 : decode b_M_state 23 = .ok (.aload_n 0, 1) := by decide +kernel
theorem d_M_state_24 : decode b_M_state 24 = .ok (.getfield 26, 3) := by decide +kernel
theorem d_M_state_27 : decode b_M_state 27 = .ok (.iload_n 1, 1) := by decide +kernel
theorem d_M_state_28 : decode b_M_state 28 = .ok (.iaload, 1) := by decide +kernel
theorem d_M_state_29 : decode b_M_state 29 = .ok (.goto 70, 3) := by decide +kernel
theorem d_M_state_32 : decode b_M_state 32 = .ok (.iload_n 1, 1) := by decide +kernel
theorem d_M_state_33 : decode b_M_state 33 = .ok (.iconst 4, 1) := by decide +kernel
theorem d_M_state_34 : decode b_M_state 34 = .ok (.if_icmp .ne 10, 3) := by decide +kernel
theorem d_M_state_37 : decode b_M_state 37 = .ok (.aload_n 0, 1) := by decide +kernel
theorem d_M_state_38 : decode b_M_state 38 = .ok (.getfield 107, 3) := by decide +kernel
theorem d_M_state_41 : decode b_M_state 41 = .ok (.goto 58, 3) := by decide +kernel
theorem d_M_state_44 : decode b_M_state 44 = .ok (.iload_n 1, 1) := by decide +kernel
theorem d_M_state_45 : decode b_M_state 45 = .ok (.iconst 5, 1) := by decide +kernel
theorem d_M_state_46 : decode b_M_state 46 = .ok (.if_icmp .ne 10, 3) := by decide +kernel
theorem d_M_state_49 : decode b_M_state 49 = .ok (.aload_n 0, 1) := by decide +kernel
theorem d_M_state_50 : decode b_M_state 50 = .ok (.getfield 110, 3) := by decide +kernel
theorem d_M_state_53 : decode b_M_state 53 = .ok (.goto 46, 3) := by decide +kernel
theorem d_M_state_56 : decode b_M_state 56 = .ok (.iload_n 1, 1) := by decide +kernel
theorem d_M_state_57 : decode b_M_state 57 = .ok (.bipush 8, 2) := by decide +kernel
theorem d_M_state_59 : decode b_M_state 59 = .ok (.if_icmp .ge 15, 3) := by decide +kernel
theorem d_M_state_62 : decode b_M_state 62 = .ok (.aload_n 0, 1) := by decide +kernel
theorem d_M_state_63 : decode b_M_state 63 = .ok (.getfield 20, 3) := by decide +kernel
theorem d_M_state_66 : decode b_M_state 66 = .ok (.iload_n 1, 1) := by decide +kernel
theorem d_M_state_67 : decode b_M_state 67 = .ok (.bipush 6, 2) := by decide +kernel
theorem d_M_state_69 : decode b_M_state 69 = .ok (.isub, 1) := by decide +kernel
theorem d_M_state_70 : decode b_M_state 70 = .ok (.iaload, 1) := by decide +kernel
theorem d_M_state_71 : decode b_M_state 71 = .ok (.goto 28, 3) := by decide +kernel
theorem d_M_state_74 : decode b_M_state 74 = .ok (.iload_n 1, 1) := by decide +kernel
theorem d_M_state_75 : decode b_M_state 75 = .ok (.bipush 8, 2) := by decide +kernel
theorem d_M_state_77 : decode b_M_state 77 = .ok (.if_icmp .ne 18, 3) := by decide +kernel
theorem d_M_state_80 : decode b_M_state 80 = .ok (.aload_n 0, 1) := by decide +kernel
theorem d_M_state_81 : decode b_M_state 81 = .ok (.getfield 58, 3) := by decide +kernel
theorem d_M_state_84 : decode b_M_state 84 = .ok (.ifCond .eq 7, 3) := by decide +kernel
theorem d_M_state_87 : decode b_M_state 87 = .ok (.iconst 1, 1) := by decide +kernel
theorem d_M_state_88 : decode b_M_state 88 = .ok (.goto 11, 3) := by decide +kernel
theorem d_M_state_91 : decode b_M_state 91 = .ok (.iconst 0, 1) := by decide +kernel
theorem d_M_state_92 : decode b_M_state 92 = .ok (.goto 7, 3) := by decide +kernel
theorem d_M_state_95 : decode b_M_state 95 = .ok (.aload_n 0, 1) := by decide +kernel
theorem d_M_state_96 : decode b_M_state 96 = .ok (.getfield 113, 3) := by decide +kernel
theorem d_M_state_99 : decode b_M_state 99 = .ok (.ireturn, 1) := by decide +kernel
