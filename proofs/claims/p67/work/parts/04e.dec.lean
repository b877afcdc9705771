theorem dL_furnished_318 : decode cL_furnished 318 = .ok (.goto (-234), 3) := by decide +kernel
theorem dL_furnished_321 : decode cL_furnished 321 = .ok (.aload_n 1, 1) := by decide +kernel
theorem dL_furnished_322 : decode cL_furnished 322 = .ok (.areturn, 1) := by decide +kernel
theorem dL_part_0 : decode cL_part 0 = .ok (.aload_n 0, 1) := by decide +kernel
theorem dL_part_1 : decode cL_part 1 = .ok (.aload_n 1, 1) := by decide +kernel
theorem dL_part_2 : decode cL_part 2 = .ok (.bipush 32, 2) := by decide +kernel
theorem dL_part_4 : decode cL_part 4 = .ok (.invokestatic 21, 3) := by decide +kernel
theorem dL_part_7 : decode cL_part 7 = .ok (.aload_n 0, 1) := by decide +kernel
theorem dL_part_8 : decode cL_part 8 = .ok (.aload_n 1, 1) := by decide +kernel
theorem dL_part_9 : decode cL_part 9 = .ok (.iload_n 2, 1) := by decide +kernel
theorem dL_part_10 : decode cL_part 10 = .ok (.invokestatic 40, 3) := by decide +kernel
theorem dL_part_13 : decode cL_part 13 = .ok (.return_, 1) := by decide +kernel
theorem dL_says_0 : decode cL_says 0 = .ok (.aload_n 0, 1) := by decide +kernel
theorem dL_says_1 : decode cL_says 1 = .ok (.aload_n 1, 1) := by decide +kernel
theorem dL_says_2 : decode cL_says 2 = .ok (.ldc2_w 43, 3) := by decide +kernel
theorem dL_says_5 : decode cL_says 5 = .ok (.invokestatic 45, 3) := by decide +kernel
theorem dL_says_8 : decode cL_says 8 = .ok (.aload_n 0, 1) := by decide +kernel
theorem dL_says_9 : decode cL_says 9 = .ok (.aload_n 1, 1) := by decide +kernel
theorem dL_says_10 : decode cL_says 10 = .ok (.ldc2_w 49, 3) := by decide +kernel
theorem dL_says_13 : decode cL_says 13 = .ok (.invokestatic 45, 3) := by decide +kernel
theorem dL_says_16 : decode cL_says 16 = .ok (.aload_n 0, 1) := by decide +kernel
theorem dL_says_17 : decode cL_says 17 = .ok (.aload_n 1, 1) := by decide +kernel
theorem dL_says_18 : decode cL_says 18 = .ok (.aload_n 2, 1) := by decide +kernel
theorem dL_says_19 : decode cL_says 19 = .ok (.iconst 1, 1) := by decide +kernel
theorem dL_says_20 : decode cL_says 20 = .ok (.iaload, 1) := by decide +kernel
theorem dL_says_21 : decode cL_says 21 = .ok (.invokestatic 51, 3) := by decide +kernel
theorem dL_says_24 : decode cL_says 24 = .ok (.aload_n 0, 1) := by decide +kernel
theorem dL_says_25 : decode cL_says 25 = .ok (.aload_n 1, 1) := by decide +kernel
theorem dL_says_26 : decode cL_says 26 = .ok (.ldc2_w 54, 3) := by decide +kernel
theorem dL_says_29 : decode cL_says 29 = .ok (.invokestatic 45, 3) := by decide +kernel
theorem dL_says_32 : decode cL_says 32 = .ok (.aload_n 0, 1) := by decide +kernel
theorem dL_says_33 : decode cL_says 33 = .ok (.aload_n 1, 1) := by decide +kernel
theorem dL_says_34 : decode cL_says 34 = .ok (.aload_n 2, 1) := by decide +kernel
theorem dL_says_35 : decode cL_says 35 = .ok (.iconst 2, 1) := by decide +kernel
theorem dL_says_36 : decode cL_says 36 = .ok (.iaload, 1) := by decide +kernel
theorem dL_says_37 : decode cL_says 37 = .ok (.invokestatic 51, 3) := by decide +kernel
theorem dL_says_40 : decode cL_says 40 = .ok (.aload_n 0, 1) := by decide +kernel
theorem dL_says_41 : decode cL_says 41 = .ok (.aload_n 1, 1) := by decide +kernel
theorem dL_says_42 : decode cL_says 42 = .ok (.ldc2_w 56, 3) := by decide +kernel
theorem dL_says_45 : decode cL_says 45 = .ok (.invokestatic 45, 3) := by decide +kernel
theorem dL_says_48 : decode cL_says 48 = .ok (.aload_n 0, 1) := by decide +kernel
theorem dL_says_49 : decode cL_says 49 = .ok (.aload_n 1, 1) := by decide +kernel
theorem dL_says_50 : decode cL_says 50 = .ok (.aload_n 2, 1) := by decide +kernel
theorem dL_says_51 : decode cL_says 51 = .ok (.iconst 3, 1) := by decide +kernel
theorem dL_says_52 : decode cL_says 52 = .ok (.iaload, 1) := by decide +kernel
theorem dL_says_53 : decode cL_says 53 = .ok (.invokestatic 51, 3) := by decide +kernel
theorem dL_says_56 : decode cL_says 56 = .ok (.aload_n 2, 1) := by decide +kernel
theorem dL_says_57 : decode cL_says 57 = .ok (.iconst 4, 1) := by decide +kernel
theorem dL_says_58 : decode cL_says 58 = .ok (.iaload, 1) := by decide +kernel
theorem dL_says_59 : decode cL_says 59 = .ok (.ifCond .lt 19, 3) := by decide +kernel
theorem dL_says_62 : decode cL_says 62 = .ok (.aload_n 0, 1) := by decide +kernel
theorem dL_says_63 : decode cL_says 63 = .ok (.aload_n 1, 1) := by decide +kernel
theorem dL_says_64 : decode cL_says 64 = .ok (.ldc2_w 58, 3) := by decide +kernel
theorem dL_says_67 : decode cL_says 67 = .ok (.invokestatic 45, 3) := by decide +kernel
theorem dL_says_70 : decode cL_says 70 = .ok (.aload_n 0, 1) := by decide +kernel
theorem dL_says_71 : decode cL_says 71 = .ok (.aload_n 1, 1) := by decide +kernel
theorem dL_says_72 : decode cL_says 72 = .ok (.aload_n 2, 1) := by decide +kernel
theorem dL_says_73 : decode cL_says 73 = .ok (.iconst 4, 1) := by decide +kernel
theorem dL_says_74 : decode cL_says 74 = .ok (.iaload, 1) := by decide +kernel
theorem dL_says_75 : decode cL_says 75 = .ok (.invokestatic 51, 3) := by decide +kernel
theorem dL_says_78 : decode cL_says 78 = .ok (.iconst 0, 1) := by decide +kernel
theorem dL_says_79 : decode cL_says 79 = .ok (.istore_n 3, 1) := by decide +kernel
theorem dL_says_80 : decode cL_says 80 = .ok (.iload_n 3, 1) := by decide +kernel
theorem dL_says_81 : decode cL_says 81 = .ok (.aload_n 2, 1) := by decide +kernel
theorem dL_says_82 : decode cL_says 82 = .ok (.iconst 2, 1) := by decide +kernel
theorem dL_says_83 : decode cL_says 83 = .ok (.iaload, 1) := by decide +kernel
theorem dL_says_84 : decode cL_says 84 = .ok (.if_icmp .ge 42, 3) := by decide +kernel
theorem dL_says_87 : decode cL_says 87 = .ok (.aload_n 2, 1) := by decide +kernel
theorem dL_says_88 : decode cL_says 88 = .ok (.iconst 5, 1) := by decide +kernel
theorem dL_says_89 : decode cL_says 89 = .ok (.iaload, 1) := by decide +kernel
theorem dL_says_90 : decode cL_says 90 = .ok (.iload_n 3, 1) := by decide +kernel
theorem dL_says_91 : decode cL_says 91 = .ok (.ishr, 1) := by decide +kernel
theorem dL_says_92 : decode cL_says 92 = .ok (.iconst 1, 1) := by decide +kernel
theorem dL_says_93 : decode cL_says 93 = .ok (.iand, 1) := by decide +kernel
theorem dL_says_94 : decode cL_says 94 = .ok (.ifCond .ne 6, 3) := by decide +kernel
theorem dL_says_97 : decode cL_says 97 = .ok (.goto 23, 3) := by decide +kernel
theorem dL_says_100 : decode cL_says 100 = .ok (.aload_n 0, 1) := by decide +kernel
theorem dL_says_101 : decode cL_says 101 = .ok (.aload_n 1, 1) := by decide +kernel
theorem dL_says_102 : decode cL_says 102 = .ok (.ldc2_w 60, 3) := by decide +kernel
theorem dL_says_105 : decode cL_says 105 = .ok (.invokestatic 45, 3) := by decide +kernel
theorem dL_says_108 : decode cL_says 108 = .ok (.aload_n 0, 1) := by decide +kernel
theorem dL_says_109 : decode cL_says 109 = .ok (.aload_n 1, 1) := by decide +kernel
theorem dL_says_110 : decode cL_says 110 = .ok (.iload_n 3, 1) := by decide +kernel
theorem dL_says_111 : decode cL_says 111 = .ok (.invokestatic 51, 3) := by decide +kernel
theorem dL_says_114 : decode cL_says 114 = .ok (.aload_n 0, 1) := by decide +kernel
theorem dL_says_115 : decode cL_says 115 = .ok (.aload_n 1, 1) := by decide +kernel
theorem dL_says_116 : decode cL_says 116 = .ok (.iload_n 3, 1) := by decide +kernel
theorem dL_says_117 : decode cL_says 117 = .ok (.invokestatic 51, 3) := by decide +kernel
theorem dL_says_120 : decode cL_says 120 = .ok (.iinc 3 1, 3) := by decide +kernel
theorem dL_says_123 : decode cL_says 123 = .ok (.goto (-43), 3) := by decide +kernel
theorem dL_says_126 : decode cL_says 126 = .ok (.iconst 0, 1) := by decide +kernel
theorem dL_says_127 : decode cL_says 127 = .ok (.istore_n 3, 1) := by decide +kernel
theorem dL_says_128 : decode cL_says 128 = .ok (.iload_n 3, 1) := by decide +kernel
theorem dL_says_129 : decode cL_says 129 = .ok (.aload_n 2, 1) := by decide +kernel
theorem dL_says_130 : decode cL_says 130 = .ok (.bipush 6, 2) := by decide +kernel
theorem dL_says_132 : decode cL_says 132 = .ok (.iaload, 1) := by decide +kernel
theorem dL_says_133 : decode cL_says 133 = .ok (.if_icmp .ge 16, 3) := by decide +kernel
theorem dL_says_136 : decode cL_says 136 = .ok (.aload_n 0, 1) := by decide +kernel
theorem dL_says_137 : decode cL_says 137 = .ok (.aload_n 1, 1) := by decide +kernel
theorem dL_says_138 : decode cL_says 138 = .ok (.aload_n 2, 1) := by decide +kernel
theorem dL_says_139 : decode cL_says 139 = .ok (.iload_n 3, 1) := by decide +kernel
theorem dL_says_140 : decode cL_says 140 = .ok (.invokestatic 62, 3) := by decide +kernel
theorem dL_says_143 : decode cL_says 143 = .ok (.iinc 3 1, 3) := by decide +kernel
theorem dL_says_146 : decode cL_says 146 = .ok (.goto (-18), 3) := by decide +kernel
theorem dL_says_149 : decode cL_says 149 = .ok (.aload_n 0, 1) := by decide +kernel
theorem dL_says_150 : decode cL_says 150 = .ok (.aload_n 1, 1) := by decide +kernel
theorem dL_says_151 : decode cL_says 151 = .ok (.aload_n 2, 1) := by decide +kernel
theorem dL_says_152 : decode cL_says 152 = .ok (.invokestatic 66, 3) := by decide +kernel
theorem dL_says_155 : decode cL_says 155 = .ok (.aload_n 0, 1) := by decide +kernel
theorem dL_says_156 : decode cL_says 156 = .ok (.aload_n 0, 1) := by decide +kernel
theorem dL_says_157 : decode cL_says 157 = .ok (.aload_n 1, 1) := by decide +kernel
theorem dL_says_158 : decode cL_says 158 = .ok (.invokestatic 70, 3) := by decide +kernel
theorem dL_says_161 : decode cL_says 161 = .ok (.invokevirtual 74, 3) := by decide +kernel
theorem dL_says_164 : decode cL_says 164 = .ok (.ireturn, 1) := by decide +kernel
theorem dL_furniture_0 : decode cL_furniture 0 = .ok (.iconst 0, 1) := by decide +kernel
theorem dL_furniture_1 : decode cL_furniture 1 = .ok (.istore_n 3, 1) := by decide +kernel
theorem dL_furniture_2 : decode cL_furniture 2 = .ok (.iload_n 3, 1) := by decide +kernel
theorem dL_furniture_3 : decode cL_furniture 3 = .ok (.iconst 4, 1) := by decide +kernel
theorem dL_furniture_4 : decode cL_furniture 4 = .ok (.if_icmp .ge 95, 3) := by decide +kernel
theorem dL_furniture_7 : decode cL_furniture 7 = .ok (.aload_n 2, 1) := by decide +kernel
theorem dL_furniture_8 : decode cL_furniture 8 = .ok (.bipush 60, 2) := by decide +kernel
theorem dL_furniture_10 : decode cL_furniture 10 = .ok (.iload_n 3, 1) := by decide +kernel
theorem dL_furniture_11 : decode cL_furniture 11 = .ok (.iadd, 1) := by decide +kernel
theorem dL_furniture_12 : decode cL_furniture 12 = .ok (.iaload, 1) := by decide +kernel
theorem dL_furniture_13 : decode cL_furniture 13 = .ok (.ifCond .ne 6, 3) := by decide +kernel
theorem dL_furniture_16 : decode cL_furniture 16 = .ok (.goto 77, 3) := by decide +kernel
theorem dL_furniture_19 : decode cL_furniture 19 = .ok (.aload_n 0, 1) := by decide +kernel
theorem dL_furniture_20 : decode cL_furniture 20 = .ok (.aload_n 1, 1) := by decide +kernel
theorem dL_furniture_21 : decode cL_furniture 21 = .ok (.ldc2_w 77, 3) := by decide +kernel
theorem dL_furniture_24 : decode cL_furniture 24 = .ok (.invokestatic 45, 3) := by decide +kernel
theorem dL_furniture_27 : decode cL_furniture 27 = .ok (.iload_n 3, 1) := by decide +kernel
theorem dL_furniture_28 : decode cL_furniture 28 = .ok (.ifCond .ne 14, 3) := by decide +kernel
theorem dL_furniture_31 : decode cL_furniture 31 = .ok (.aload_n 0, 1) := by decide +kernel
theorem dL_furniture_32 : decode cL_furniture 32 = .ok (.aload_n 1, 1) := by decide +kernel
theorem dL_furniture_33 : decode cL_furniture 33 = .ok (.ldc2_w 79, 3) := by decide +kernel
theorem dL_furniture_36 : decode cL_furniture 36 = .ok (.invokestatic 45, 3) := by decide +kernel
theorem dL_furniture_39 : decode cL_furniture 39 = .ok (.goto 43, 3) := by decide +kernel
theorem dL_furniture_42 : decode cL_furniture 42 = .ok (.iload_n 3, 1) := by decide +kernel
theorem dL_furniture_43 : decode cL_furniture 43 = .ok (.iconst 1, 1) := by decide +kernel
theorem dL_furniture_44 : decode cL_furniture 44 = .ok (.if_icmp .ne 14, 3) := by decide +kernel
theorem dL_furniture_47 : decode cL_furniture 47 = .ok (.aload_n 0, 1) := by decide +kernel
theorem dL_furniture_48 : decode cL_furniture 48 = .ok (.aload_n 1, 1) := by decide +kernel
theorem dL_furniture_49 : decode cL_furniture 49 = .ok (.ldc2_w 81, 3) := by decide +kernel
theorem dL_furniture_52 : decode cL_furniture 52 = .ok (.invokestatic 45, 3) := by decide +kernel
theorem dL_furniture_55 : decode cL_furniture 55 = .ok (.goto 27, 3) := by decide +kernel
theorem dL_furniture_58 : decode cL_furniture 58 = .ok (.iload_n 3, 1) := by decide +kernel
theorem dL_furniture_59 : decode cL_furniture 59 = .ok (.iconst 2, 1) := by decide +kernel
theorem dL_furniture_60 : decode cL_furniture 60 = .ok (.if_icmp .ne 14, 3) := by decide +kernel
theorem dL_furniture_63 : decode cL_furniture 63 = .ok (.aload_n 0, 1) := by decide +kernel
theorem dL_furniture_64 : decode cL_furniture 64 = .ok (.aload_n 1, 1) := by decide +kernel
theorem dL_furniture_65 : decode cL_furniture 65 = .ok (.ldc2_w 83, 3) := by decide +kernel
theorem dL_furniture_68 : decode cL_furniture 68 = .ok (.invokestatic 45, 3) := by decide +kernel
theorem dL_furniture_71 : decode cL_furniture 71 = .ok (.goto 11, 3) := by decide +kernel
theorem dL_furniture_74 : decode cL_furniture 74 = .ok (.aload_n 0, 1) := by decide +kernel
theorem dL_furniture_75 : decode cL_furniture 75 = .ok (.aload_n 1, 1) := by decide +kernel
theorem dL_furniture_76 : decode cL_furniture 76 = .ok (.ldc2_w 85, 3) := by decide +kernel
theorem dL_furniture_79 : decode cL_furniture 79 = .ok (.invokestatic 45, 3) := by decide +kernel
theorem dL_furniture_82 : decode cL_furniture 82 = .ok (.aload_n 0, 1) := by decide +kernel
theorem dL_furniture_83 : decode cL_furniture 83 = .ok (.aload_n 1, 1) := by decide +kernel
theorem dL_furniture_84 : decode cL_furniture 84 = .ok (.aload_n 2, 1) := by decide +kernel
theorem dL_furniture_85 : decode cL_furniture 85 = .ok (.bipush 60, 2) := by decide +kernel
theorem dL_furniture_87 : decode cL_furniture 87 = .ok (.iload_n 3, 1) := by decide +kernel
theorem dL_furniture_88 : decode cL_furniture 88 = .ok (.iadd, 1) := by decide +kernel
theorem dL_furniture_89 : decode cL_furniture 89 = .ok (.iaload, 1) := by decide +kernel
theorem dL_furniture_90 : decode cL_furniture 90 = .ok (.invokestatic 51, 3) := by decide +kernel
theorem dL_furniture_93 : decode cL_furniture 93 = .ok (.iinc 3 1, 3) := by decide +kernel
theorem dL_furniture_96 : decode cL_furniture 96 = .ok (.goto (-94), 3) := by decide +kernel
theorem dL_furniture_99 : decode cL_furniture 99 = .ok (.iconst 0, 1) := by decide +kernel
theorem dL_furniture_100 : decode cL_furniture 100 = .ok (.istore_n 3, 1) := by decide +kernel
theorem dL_furniture_101 : decode cL_furniture 101 = .ok (.iload_n 3, 1) := by decide +kernel
theorem dL_furniture_102 : decode cL_furniture 102 = .ok (.aload_n 2, 1) := by decide +kernel
theorem dL_furniture_103 : decode cL_furniture 103 = .ok (.bipush 64, 2) := by decide +kernel
theorem dL_furniture_105 : decode cL_furniture 105 = .ok (.iaload, 1) := by decide +kernel
theorem dL_furniture_106 : decode cL_furniture 106 = .ok (.if_icmp .ge 48, 3) := by decide +kernel
theorem dL_furniture_109 : decode cL_furniture 109 = .ok (.aload_n 0, 1) := by decide +kernel
theorem dL_furniture_110 : decode cL_furniture 110 = .ok (.aload_n 1, 1) := by decide +kernel
theorem dL_furniture_111 : decode cL_furniture 111 = .ok (.ldc2_w 87, 3) := by decide +kernel
theorem dL_furniture_114 : decode cL_furniture 114 = .ok (.invokestatic 45, 3) := by decide +kernel
theorem dL_furniture_117 : decode cL_furniture 117 = .ok (.iconst 0, 1) := by decide +kernel
theorem dL_furniture_118 : decode cL_furniture 118 = .ok (.istore 4, 2) := by decide +kernel
theorem dL_furniture_120 : decode cL_furniture 120 = .ok (.iload 4, 2) := by decide +kernel
theorem dL_furniture_122 : decode cL_furniture 122 = .ok (.iconst 3, 1) := by decide +kernel
theorem dL_furniture_123 : decode cL_furniture 123 = .ok (.if_icmp .ge 25, 3) := by decide +kernel
theorem dL_furniture_126 : decode cL_furniture 126 = .ok (.aload_n 0, 1) := by decide +kernel
theorem dL_furniture_127 : decode cL_furniture 127 = .ok (.aload_n 1, 1) := by decide +kernel
theorem dL_furniture_128 : decode cL_furniture 128 = .ok (.aload_n 2, 1) := by decide +kernel
theorem dL_furniture_129 : decode cL_furniture 129 = .ok (.bipush 65, 2) := by decide +kernel
theorem dL_furniture_131 : decode cL_furniture 131 = .ok (.iconst 3, 1) := by decide +kernel
theorem dL_furniture_132 : decode cL_furniture 132 = .ok (.iload_n 3, 1) := by decide +kernel
theorem dL_furniture_133 : decode cL_furniture 133 = .ok (.imul, 1) := by decide +kernel
theorem dL_furniture_134 : decode cL_furniture 134 = .ok (.iadd, 1) := by decide +kernel
theorem dL_furniture_135 : decode cL_furniture 135 = .ok (.iload 4, 2) := by decide +kernel
theorem dL_furniture_137 : decode cL_furniture 137 = .ok (.iadd, 1) := by decide +kernel
theorem dL_furniture_138 : decode cL_furniture 138 = .ok (.iaload, 1) := by decide +kernel
theorem dL_furniture_139 : decode cL_furniture 139 = .ok (.invokestatic 51, 3) := by decide +kernel
theorem dL_furniture_142 : decode cL_furniture 142 = .ok (.iinc 4 1, 3) := by decide +kernel
theorem dL_furniture_145 : decode cL_furniture 145 = .ok (.goto (-25), 3) := by decide +kernel
theorem dL_furniture_148 : decode cL_furniture 148 = .ok (.iinc 3 1, 3) := by decide +kernel
theorem dL_furniture_151 : decode cL_furniture 151 = .ok (.goto (-50), 3) := by decide +kernel
theorem dL_furniture_154 : decode cL_furniture 154 = .ok (.iconst 0, 1) := by decide +kernel
theorem dL_furniture_155 : decode cL_furniture 155 = .ok (.istore_n 3, 1) := by decide +kernel
theorem dL_furniture_156 : decode cL_furniture 156 = .ok (.iload_n 3, 1) := by decide +kernel
theorem dL_furniture_157 : decode cL_furniture 157 = .ok (.aload_n 2, 1) := by decide +kernel
theorem dL_furniture_158 : decode cL_furniture 158 = .ok (.bipush 71, 2) := by decide +kernel
theorem dL_furniture_160 : decode cL_furniture 160 = .ok (.iaload, 1) := by decide +kernel
theorem dL_furniture_161 : decode cL_furniture 161 = .ok (.if_icmp .ge 48, 3) := by decide +kernel
theorem dL_furniture_164 : decode cL_furniture 164 = .ok (.aload_n 0, 1) := by decide +kernel
theorem dL_furniture_165 : decode cL_furniture 165 = .ok (.aload_n 1, 1) := by decide +kernel
theorem dL_furniture_166 : decode cL_furniture 166 = .ok (.ldc2_w 89, 3) := by decide +kernel
theorem dL_furniture_169 : decode cL_furniture 169 = .ok (.invokestatic 45, 3) := by decide +kernel
theorem dL_furniture_172 : decode cL_furniture 172 = .ok (.iconst 0, 1) := by decide +kernel
theorem dL_furniture_173 : decode cL_furniture 173 = .ok (.istore 4, 2) := by decide +kernel
theorem dL_furniture_175 : decode cL_furniture 175 = .ok (.iload 4, 2) := by decide +kernel
theorem dL_furniture_177 : decode cL_furniture 177 = .ok (.iconst 5, 1) := by decide +kernel
theorem dL_furniture_178 : decode cL_furniture 178 = .ok (.if_icmp .ge 25, 3) := by decide +kernel
theorem dL_furniture_181 : decode cL_furniture 181 = .ok (.aload_n 0, 1) := by decide +kernel
theorem dL_furniture_182 : decode cL_furniture 182 = .ok (.aload_n 1, 1) := by decide +kernel
theorem dL_furniture_183 : decode cL_furniture 183 = .ok (.aload_n 2, 1) := by decide +kernel
theorem dL_furniture_184 : decode cL_furniture 184 = .ok (.bipush 72, 2) := by decide +kernel
theorem dL_furniture_186 : decode cL_furniture 186 = .ok (.iconst 5, 1) := by decide +kernel
theorem dL_furniture_187 : decode cL_furniture 187 = .ok (.iload_n 3, 1) := by decide +kernel
theorem dL_furniture_188 : decode cL_furniture 188 = .ok (.imul, 1) := by decide +kernel
theorem dL_furniture_189 : decode cL_furniture 189 = .ok (.iadd, 1) := by decide +kernel
theorem dL_furniture_190 : decode cL_furniture 190 = .ok (.iload 4, 2) := by decide +kernel
theorem dL_furniture_192 : decode cL_furniture 192 = .ok (.iadd, 1) := by decide +kernel
theorem dL_furniture_193 : decode cL_furniture 193 = .ok (.iaload, 1) := by decide +kernel
theorem dL_furniture_194 : decode cL_furniture 194 = .ok (.invokestatic 51, 3) := by decide +kernel
theorem dL_furniture_197 : decode cL_furniture 197 = .ok (.iinc 4 1, 3) := by decide +kernel
theorem dL_furniture_200 : decode cL_furniture 200 = .ok (.goto (-25), 3) := by decide +kernel
theorem dL_furniture_203 : decode cL_furniture 203 = .ok (.iinc 3 1, 3) := by decide +kernel
theorem dL_furniture_206 : decode cL_furniture 206 = .ok (.goto (-50), 3) := by decide +kernel
theorem dL_furniture_209 : decode cL_furniture 209 = .ok (.iconst 0, 1) := by decide +kernel
theorem dL_furniture_210 : decode cL_furniture 210 = .ok (.istore_n 3, 1) := by decide +kernel
theorem dL_furniture_211 : decode cL_furniture 211 = .ok (.iload_n 3, 1) := by decide +kernel
theorem dL_furniture_212 : decode cL_furniture 212 = .ok (.aload_n 2, 1) := by decide +kernel
theorem dL_furniture_213 : decode cL_furniture 213 = .ok (.bipush 82, 2) := by decide +kernel
theorem dL_furniture_215 : decode cL_furniture 215 = .ok (.iaload, 1) := by decide +kernel
theorem dL_furniture_216 : decode cL_furniture 216 = .ok (.if_icmp .ge 48, 3) := by decide +kernel
theorem dL_furniture_219 : decode cL_furniture 219 = .ok (.aload_n 0, 1) := by decide +kernel
theorem dL_furniture_220 : decode cL_furniture 220 = .ok (.aload_n 1, 1) := by decide +kernel
theorem dL_furniture_221 : decode cL_furniture 221 = .ok (.ldc2_w 91, 3) := by decide +kernel
theorem dL_furniture_224 : decode cL_furniture 224 = .ok (.invokestatic 45, 3) := by decide +kernel
theorem dL_furniture_227 : decode cL_furniture 227 = .ok (.iconst 0, 1) := by decide +kernel
theorem dL_furniture_228 : decode cL_furniture 228 = .ok (.istore 4, 2) := by decide +kernel
theorem dL_furniture_230 : decode cL_furniture 230 = .ok (.iload 4, 2) := by decide +kernel
theorem dL_furniture_232 : decode cL_furniture 232 = .ok (.iconst 2, 1) := by decide +kernel
theorem dL_furniture_233 : decode cL_furniture 233 = .ok (.if_icmp .ge 25, 3) := by decide +kernel
theorem dL_furniture_236 : decode cL_furniture 236 = .ok (.aload_n 0, 1) := by decide +kernel
theorem dL_furniture_237 : decode cL_furniture 237 = .ok (.aload_n 1, 1) := by decide +kernel
theorem dL_furniture_238 : decode cL_furniture 238 = .ok (.aload_n 2, 1) := by decide +kernel
theorem dL_furniture_239 : decode cL_furniture 239 = .ok (.bipush 83, 2) := by decide +kernel
theorem dL_furniture_241 : decode cL_furniture 241 = .ok (.iconst 2, 1) := by decide +kernel
theorem dL_furniture_242 : decode cL_furniture 242 = .ok (.iload_n 3, 1) := by decide +kernel
theorem dL_furniture_243 : decode cL_furniture 243 = .ok (.imul, 1) := by decide +kernel
theorem dL_furniture_244 : decode cL_furniture 244 = .ok (.iadd, 1) := by decide +kernel
theorem dL_furniture_245 : decode cL_furniture 245 = .ok (.iload 4, 2) := by decide +kernel
theorem dL_furniture_247 : decode cL_furniture 247 = .ok (.iadd, 1) := by decide +kernel
theorem dL_furniture_248 : decode cL_furniture 248 = .ok (.iaload, 1) := by decide +kernel
theorem dL_furniture_249 : decode cL_furniture 249 = .ok (.invokestatic 51, 3) := by decide +kernel
theorem dL_furniture_252 : decode cL_furniture 252 = .ok (.iinc 4 1, 3) := by decide +kernel
theorem dL_furniture_255 : decode cL_furniture 255 = .ok (.goto (-25), 3) := by decide +kernel
theorem dL_furniture_258 : decode cL_furniture 258 = .ok (.iinc 3 1, 3) := by decide +kernel
theorem dL_furniture_261 : decode cL_furniture 261 = .ok (.goto (-50), 3) := by decide +kernel
theorem dL_furniture_264 : decode cL_furniture 264 = .ok (.return_, 1) := by decide +kernel
theorem dL_train_0 : decode cL_train 0 = .ok (.bipush 10, 2) := by decide +kernel
theorem dL_train_2 : decode cL_train 2 = .ok (.bipush 16, 2) := by decide +kernel
theorem dL_train_4 : decode cL_train 4 = .ok (.iload_n 3, 1) := by decide +kernel
theorem dL_train_5 : decode cL_train 5 = .ok (.imul, 1) := by decide +kernel
theorem dL_train_6 : decode cL_train 6 = .ok (.iadd, 1) := by decide +kernel
theorem dL_train_7 : decode cL_train 7 = .ok (.istore 4, 2) := by decide +kernel
theorem dL_train_9 : decode cL_train 9 = .ok (.aload_n 0, 1) := by decide +kernel
theorem dL_train_10 : decode cL_train 10 = .ok (.aload_n 1, 1) := by decide +kernel
theorem dL_train_11 : decode cL_train 11 = .ok (.ldc2_w 93, 3) := by decide +kernel
theorem dL_train_14 : decode cL_train 14 = .ok (.invokestatic 45, 3) := by decide +kernel
theorem dL_train_17 : decode cL_train 17 = .ok (.iconst 0, 1) := by decide +kernel
theorem dL_train_18 : decode cL_train 18 = .ok (.istore 5, 2) := by decide +kernel
theorem dL_train_20 : decode cL_train 20 = .ok (.iload 5, 2) := by decide +kernel
theorem dL_train_22 : decode cL_train 22 = .ok (.bipush 8, 2) := by decide +kernel
theorem dL_train_24 : decode cL_train 24 = .ok (.if_icmp .ge 21, 3) := by decide +kernel
theorem dL_train_27 : decode cL_train 27 = .ok (.aload_n 0, 1) := by decide +kernel
theorem dL_train_28 : decode cL_train 28 = .ok (.aload_n 1, 1) := by decide +kernel
theorem dL_train_29 : decode cL_train 29 = .ok (.aload_n 2, 1) := by decide +kernel
theorem dL_train_30 : decode cL_train 30 = .ok (.iload 4, 2) := by decide +kernel
theorem dL_train_32 : decode cL_train 32 = .ok (.iload 5, 2) := by decide +kernel
theorem dL_train_34 : decode cL_train 34 = .ok (.iadd, 1) := by decide +kernel
theorem dL_train_35 : decode cL_train 35 = .ok (.iaload, 1) := by decide +kernel
theorem dL_train_36 : decode cL_train 36 = .ok (.invokestatic 51, 3) := by decide +kernel
theorem dL_train_39 : decode cL_train 39 = .ok (.iinc 5 1, 3) := by decide +kernel
theorem dL_train_42 : decode cL_train 42 = .ok (.goto (-22), 3) := by decide +kernel
theorem dL_train_45 : decode cL_train 45 = .ok (.aload_n 2, 1) := by decide +kernel
theorem dL_train_46 : decode cL_train 46 = .ok (.iload 4, 2) := by decide +kernel
theorem dL_train_48 : decode cL_train 48 = .ok (.bipush 8, 2) := by decide +kernel
theorem dL_train_50 : decode cL_train 50 = .ok (.iadd, 1) := by decide +kernel
theorem dL_train_51 : decode cL_train 51 = .ok (.iaload, 1) := by decide +kernel
theorem dL_train_52 : decode cL_train 52 = .ok (.iconst 1, 1) := by decide +kernel
theorem dL_train_53 : decode cL_train 53 = .ok (.if_icmp .ne 38, 3) := by decide +kernel
theorem dL_train_56 : decode cL_train 56 = .ok (.aload_n 0, 1) := by decide +kernel
theorem dL_train_57 : decode cL_train 57 = .ok (.aload_n 1, 1) := by decide +kernel
theorem dL_train_58 : decode cL_train 58 = .ok (.ldc2_w 95, 3) := by decide +kernel
theorem dL_train_61 : decode cL_train 61 = .ok (.invokestatic 45, 3) := by decide +kernel
theorem dL_train_64 : decode cL_train 64 = .ok (.aload_n 0, 1) := by decide +kernel
theorem dL_train_65 : decode cL_train 65 = .ok (.aload_n 1, 1) := by decide +kernel
theorem dL_train_66 : decode cL_train 66 = .ok (.aload_n 2, 1) := by decide +kernel
theorem dL_train_67 : decode cL_train 67 = .ok (.iload 4, 2) := by decide +kernel
theorem dL_train_69 : decode cL_train 69 = .ok (.bipush 9, 2) := by decide +kernel
theorem dL_train_71 : decode cL_train 71 = .ok (.iadd, 1) := by decide +kernel
theorem dL_train_72 : decode cL_train 72 = .ok (.iaload, 1) := by decide +kernel
theorem dL_train_73 : decode cL_train 73 = .ok (.invokestatic 51, 3) := by decide +kernel
theorem dL_train_76 : decode cL_train 76 = .ok (.aload_n 0, 1) := by decide +kernel
theorem dL_train_77 : decode cL_train 77 = .ok (.aload_n 1, 1) := by decide +kernel
theorem dL_train_78 : decode cL_train 78 = .ok (.aload_n 2, 1) := by decide +kernel
theorem dL_train_79 : decode cL_train 79 = .ok (.iload 4, 2) := by decide +kernel
theorem dL_train_81 : decode cL_train 81 = .ok (.bipush 10, 2) := by decide +kernel
theorem dL_train_83 : decode cL_train 83 = .ok (.iadd, 1) := by decide +kernel
theorem dL_train_84 : decode cL_train 84 = .ok (.iaload, 1) := by decide +kernel
theorem dL_train_85 : decode cL_train 85 = .ok (.invokestatic 51, 3) := by decide +kernel
theorem dL_train_88 : decode cL_train 88 = .ok (.goto 34, 3) := by decide +kernel
theorem dL_train_91 : decode cL_train 91 = .ok (.aload_n 2, 1) := by decide +kernel
theorem dL_train_92 : decode cL_train 92 = .ok (.iload 4, 2) := by decide +kernel
theorem dL_train_94 : decode cL_train 94 = .ok (.bipush 8, 2) := by decide +kernel
theorem dL_train_96 : decode cL_train 96 = .ok (.iadd, 1) := by decide +kernel
theorem dL_train_97 : decode cL_train 97 = .ok (.iaload, 1) := by decide +kernel
theorem dL_train_98 : decode cL_train 98 = .ok (.iconst 2, 1) := by decide +kernel
theorem dL_train_99 : decode cL_train 99 = .ok (.if_icmp .ne 23, 3) := by decide +kernel
theorem dL_train_102 : decode cL_train 102 = .ok (.aload_n 0, 1) := by decide +kernel
theorem dL_train_103 : decode cL_train 103 = .ok (.aload_n 1, 1) := by decide +kernel
theorem dL_train_104 : decode cL_train 104 = .ok (.ldc2_w 97, 3) := by decide +kernel
theorem dL_train_107 : decode cL_train 107 = .ok (.invokestatic 45, 3) := by decide +kernel
theorem dL_train_110 : decode cL_train 110 = .ok (.aload_n 0, 1) := by decide +kernel
theorem dL_train_111 : decode cL_train 111 = .ok (.aload_n 1, 1) := by decide +kernel
theorem dL_train_112 : decode cL_train 112 = .ok (.aload_n 2, 1) := by decide +kernel
theorem dL_train_113 : decode cL_train 113 = .ok (.iload 4, 2) := by decide +kernel
theorem dL_train_115 : decode cL_train 115 = .ok (.bipush 9, 2) := by decide +kernel
theorem dL_train_117 : decode cL_train 117 = .ok (.iadd, 1) := by decide +kernel
theorem dL_train_118 : decode cL_train 118 = .ok (.iaload, 1) := by decide +kernel
theorem dL_train_119 : decode cL_train 119 = .ok (.invokestatic 51, 3) := by decide +kernel
theorem dL_train_122 : decode cL_train 122 = .ok (.aload_n 2, 1) := by decide +kernel
theorem dL_train_123 : decode cL_train 123 = .ok (.iload 4, 2) := by decide +kernel
theorem dL_train_125 : decode cL_train 125 = .ok (.bipush 11, 2) := by decide +kernel
theorem dL_train_127 : decode cL_train 127 = .ok (.iadd, 1) := by decide +kernel
theorem dL_train_128 : decode cL_train 128 = .ok (.iaload, 1) := by decide +kernel
theorem dL_train_129 : decode cL_train 129 = .ok (.ifCond .ne 13, 3) := by decide +kernel
theorem dL_train_132 : decode cL_train 132 = .ok (.aload_n 2, 1) := by decide +kernel
theorem dL_train_133 : decode cL_train 133 = .ok (.iload 4, 2) := by decide +kernel
theorem dL_train_135 : decode cL_train 135 = .ok (.bipush 12, 2) := by decide +kernel
theorem dL_train_137 : decode cL_train 137 = .ok (.iadd, 1) := by decide +kernel
theorem dL_train_138 : decode cL_train 138 = .ok (.iaload, 1) := by decide +kernel
theorem dL_train_139 : decode cL_train 139 = .ok (.ifCond .eq 41, 3) := by decide +kernel
theorem dL_train_142 : decode cL_train 142 = .ok (.aload_n 0, 1) := by decide +kernel
theorem dL_train_143 : decode cL_train 143 = .ok (.aload_n 1, 1) := by decide +kernel
theorem dL_train_144 : decode cL_train 144 = .ok (.ldc2_w 99, 3) := by decide +kernel
theorem dL_train_147 : decode cL_train 147 = .ok (.invokestatic 45, 3) := by decide +kernel
theorem dL_train_150 : decode cL_train 150 = .ok (.aload_n 0, 1) := by decide +kernel
theorem dL_train_151 : decode cL_train 151 = .ok (.aload_n 1, 1) := by decide +kernel
theorem dL_train_152 : decode cL_train 152 = .ok (.iload_n 3, 1) := by decide +kernel
theorem dL_train_153 : decode cL_train 153 = .ok (.invokestatic 51, 3) := by decide +kernel
theorem dL_train_156 : decode cL_train 156 = .ok (.aload_n 0, 1) := by decide +kernel
theorem dL_train_157 : decode cL_train 157 = .ok (.aload_n 1, 1) := by decide +kernel
theorem dL_train_158 : decode cL_train 158 = .ok (.aload_n 2, 1) := by decide +kernel
theorem dL_train_159 : decode cL_train 159 = .ok (.iload 4, 2) := by decide +kernel
theorem dL_train_161 : decode cL_train 161 = .ok (.bipush 11, 2) := by decide +kernel
theorem dL_train_163 : decode cL_train 163 = .ok (.iadd, 1) := by decide +kernel
theorem dL_train_164 : decode cL_train 164 = .ok (.iaload, 1) := by decide +kernel
theorem dL_train_165 : decode cL_train 165 = .ok (.invokestatic 51, 3) := by decide +kernel
theorem dL_train_168 : decode cL_train 168 = .ok (.aload_n 0, 1) := by decide +kernel
theorem dL_train_169 : decode cL_train 169 = .ok (.aload_n 1, 1) := by decide +kernel
theorem dL_train_170 : decode cL_train 170 = .ok (.aload_n 2, 1) := by decide +kernel
theorem dL_train_171 : decode cL_train 171 = .ok (.iload 4, 2) := by decide +kernel
theorem dL_train_173 : decode cL_train 173 = .ok (.bipush 12, 2) := by decide +kernel
theorem dL_train_175 : decode cL_train 175 = .ok (.iadd, 1) := by decide +kernel
theorem dL_train_176 : decode cL_train 176 = .ok (.iaload, 1) := by decide +kernel
theorem dL_train_177 : decode cL_train 177 = .ok (.invokestatic 51, 3) := by decide +kernel
theorem dL_train_180 : decode cL_train 180 = .ok (.aload_n 2, 1) := by decide +kernel
theorem dL_train_181 : decode cL_train 181 = .ok (.iload 4, 2) := by decide +kernel
theorem dL_train_183 : decode cL_train 183 = .ok (.bipush 13, 2) := by decide +kernel
theorem dL_train_185 : decode cL_train 185 = .ok (.iadd, 1) := by decide +kernel
theorem dL_train_186 : decode cL_train 186 = .ok (.iaload, 1) := by decide +kernel
theorem dL_train_187 : decode cL_train 187 = .ok (.ifCond .ne 17, 3) := by decide +kernel
theorem dL_train_190 : decode cL_train 190 = .ok (.aload_n 0, 1) := by decide +kernel
theorem dL_train_191 : decode cL_train 191 = .ok (.aload_n 1, 1) := by decide +kernel
theorem dL_train_192 : decode cL_train 192 = .ok (.ldc2_w 101, 3) := by decide +kernel
theorem dL_train_195 : decode cL_train 195 = .ok (.invokestatic 45, 3) := by decide +kernel
theorem dL_train_198 : decode cL_train 198 = .ok (.aload_n 0, 1) := by decide +kernel
theorem dL_train_199 : decode cL_train 199 = .ok (.aload_n 1, 1) := by decide +kernel
theorem dL_train_200 : decode cL_train 200 = .ok (.iload_n 3, 1) := by decide +kernel
theorem dL_train_201 : decode cL_train 201 = .ok (.invokestatic 51, 3) := by decide +kernel
theorem dL_train_204 : decode cL_train 204 = .ok (.aload_n 2, 1) := by decide +kernel
theorem dL_train_205 : decode cL_train 205 = .ok (.iload 4, 2) := by decide +kernel
theorem dL_train_207 : decode cL_train 207 = .ok (.bipush 14, 2) := by decide +kernel
theorem dL_train_209 : decode cL_train 209 = .ok (.iadd, 1) := by decide +kernel
theorem dL_train_210 : decode cL_train 210 = .ok (.iaload, 1) := by decide +kernel
theorem dL_train_211 : decode cL_train 211 = .ok (.ifCond .ne 4, 3) := by decide +kernel
theorem dL_train_214 : decode cL_train 214 = .ok (.return_, 1) := by decide +kernel
theorem dL_train_215 : decode cL_train 215 = .ok (.aload_n 0, 1) := by decide +kernel
theorem dL_train_216 : decode cL_train 216 = .ok (.aload_n 1, 1) := by decide +kernel
theorem dL_train_217 : decode cL_train 217 = .ok (.ldc2_w 103, 3) := by decide +kernel
theorem dL_train_220 : decode cL_train 220 = .ok (.invokestatic 45, 3) := by decide +kernel
theorem dL_train_223 : decode cL_train 223 = .ok (.aload_n 0, 1) := by decide +kernel
theorem dL_train_224 : decode cL_train 224 = .ok (.aload_n 1, 1) := by decide +kernel
theorem dL_train_225 : decode cL_train 225 = .ok (.iload_n 3, 1) := by decide +kernel
theorem dL_train_226 : decode cL_train 226 = .ok (.invokestatic 51, 3) := by decide +kernel
theorem dL_train_229 : decode cL_train 229 = .ok (.aload_n 2, 1) := by decide +kernel
theorem dL_train_230 : decode cL_train 230 = .ok (.iload 4, 2) := by decide +kernel
theorem dL_train_232 : decode cL_train 232 = .ok (.bipush 14, 2) := by decide +kernel
theorem dL_train_234 : decode cL_train 234 = .ok (.iadd, 1) := by decide +kernel
theorem dL_train_235 : decode cL_train 235 = .ok (.iaload, 1) := by decide +kernel
theorem dL_train_236 : decode cL_train 236 = .ok (.iconst 1, 1) := by decide +kernel
theorem dL_train_237 : decode cL_train 237 = .ok (.if_icmp .ne 14, 3) := by decide +kernel
theorem dL_train_240 : decode cL_train 240 = .ok (.aload_n 0, 1) := by decide +kernel
theorem dL_train_241 : decode cL_train 241 = .ok (.aload_n 1, 1) := by decide +kernel
theorem dL_train_242 : decode cL_train 242 = .ok (.ldc2_w 105, 3) := by decide +kernel
theorem dL_train_245 : decode cL_train 245 = .ok (.invokestatic 45, 3) := by decide +kernel
theorem dL_train_248 : decode cL_train 248 = .ok (.goto 11, 3) := by decide +kernel
theorem dL_train_251 : decode cL_train 251 = .ok (.aload_n 0, 1) := by decide +kernel
theorem dL_train_252 : decode cL_train 252 = .ok (.aload_n 1, 1) := by decide +kernel
theorem dL_train_253 : decode cL_train 253 = .ok (.ldc2_w 107, 3) := by decide +kernel
theorem dL_train_256 : decode cL_train 256 = .ok (.invokestatic 45, 3) := by decide +kernel
theorem dL_train_259 : decode cL_train 259 = .ok (.return_, 1) := by decide +kernel
theorem dL_shoaled_0 : decode cL_shoaled 0 = .ok (.iload_n 3, 1) := by decide +kernel
theorem dL_shoaled_1 : decode cL_shoaled 1 = .ok (.istore 4, 2) := by decide +kernel
theorem dL_shoaled_3 : decode cL_shoaled 3 = .ok (.bipush 72, 2) := by decide +kernel
theorem dL_shoaled_5 : decode cL_shoaled 5 = .ok (.istore 5, 2) := by decide +kernel
theorem dL_shoaled_7 : decode cL_shoaled 7 = .ok (.iload 5, 2) := by decide +kernel
theorem dL_shoaled_9 : decode cL_shoaled 9 = .ok (.bipush 72, 2) := by decide +kernel
theorem dL_shoaled_11 : decode cL_shoaled 11 = .ok (.iconst 5, 1) := by decide +kernel
theorem dL_shoaled_12 : decode cL_shoaled 12 = .ok (.aload_n 0, 1) := by decide +kernel
theorem dL_shoaled_13 : decode cL_shoaled 13 = .ok (.bipush 71, 2) := by decide +kernel
theorem dL_shoaled_15 : decode cL_shoaled 15 = .ok (.iaload, 1) := by decide +kernel
theorem dL_shoaled_16 : decode cL_shoaled 16 = .ok (.imul, 1) := by decide +kernel
theorem dL_shoaled_17 : decode cL_shoaled 17 = .ok (.iadd, 1) := by decide +kernel
theorem dL_shoaled_18 : decode cL_shoaled 18 = .ok (.if_icmp .ge 61, 3) := by decide +kernel
theorem dL_shoaled_21 : decode cL_shoaled 21 = .ok (.iload_n 1, 1) := by decide +kernel
theorem dL_shoaled_22 : decode cL_shoaled 22 = .ok (.aload_n 0, 1) := by decide +kernel
theorem dL_shoaled_23 : decode cL_shoaled 23 = .ok (.iload 5, 2) := by decide +kernel
theorem dL_shoaled_25 : decode cL_shoaled 25 = .ok (.iaload, 1) := by decide +kernel
theorem dL_shoaled_26 : decode cL_shoaled 26 = .ok (.if_icmp .lt 47, 3) := by decide +kernel
theorem dL_shoaled_29 : decode cL_shoaled 29 = .ok (.iload_n 2, 1) := by decide +kernel
theorem dL_shoaled_30 : decode cL_shoaled 30 = .ok (.aload_n 0, 1) := by decide +kernel
theorem dL_shoaled_31 : decode cL_shoaled 31 = .ok (.iload 5, 2) := by decide +kernel
theorem dL_shoaled_33 : decode cL_shoaled 33 = .ok (.iconst 1, 1) := by decide +kernel
theorem dL_shoaled_34 : decode cL_shoaled 34 = .ok (.iadd, 1) := by decide +kernel
theorem dL_shoaled_35 : decode cL_shoaled 35 = .ok (.iaload, 1) := by decide +kernel
theorem dL_shoaled_36 : decode cL_shoaled 36 = .ok (.if_icmp .lt 37, 3) := by decide +kernel
theorem dL_shoaled_39 : decode cL_shoaled 39 = .ok (.iload_n 1, 1) := by decide +kernel
theorem dL_shoaled_40 : decode cL_shoaled 40 = .ok (.aload_n 0, 1) := by decide +kernel
theorem dL_shoaled_41 : decode cL_shoaled 41 = .ok (.iload 5, 2) := by decide +kernel
theorem dL_shoaled_43 : decode cL_shoaled 43 = .ok (.iconst 2, 1) := by decide +kernel
theorem dL_shoaled_44 : decode cL_shoaled 44 = .ok (.iadd, 1) := by decide +kernel
theorem dL_shoaled_45 : decode cL_shoaled 45 = .ok (.iaload, 1) := by decide +kernel
theorem dL_shoaled_46 : decode cL_shoaled 46 = .ok (.if_icmp .gt 27, 3) := by decide +kernel
theorem dL_shoaled_49 : decode cL_shoaled 49 = .ok (.iload_n 2, 1) := by decide +kernel
theorem dL_shoaled_50 : decode cL_shoaled 50 = .ok (.aload_n 0, 1) := by decide +kernel
theorem dL_shoaled_51 : decode cL_shoaled 51 = .ok (.iload 5, 2) := by decide +kernel
theorem dL_shoaled_53 : decode cL_shoaled 53 = .ok (.iconst 3, 1) := by decide +kernel
theorem dL_shoaled_54 : decode cL_shoaled 54 = .ok (.iadd, 1) := by decide +kernel
theorem dL_shoaled_55 : decode cL_shoaled 55 = .ok (.iaload, 1) := by decide +kernel
theorem dL_shoaled_56 : decode cL_shoaled 56 = .ok (.if_icmp .gt 17, 3) := by decide +kernel
theorem dL_shoaled_59 : decode cL_shoaled 59 = .ok (.iload 4, 2) := by decide +kernel
theorem dL_shoaled_61 : decode cL_shoaled 61 = .ok (.aload_n 0, 1) := by decide +kernel
theorem dL_shoaled_62 : decode cL_shoaled 62 = .ok (.iload 5, 2) := by decide +kernel
theorem dL_shoaled_64 : decode cL_shoaled 64 = .ok (.iconst 4, 1) := by decide +kernel
theorem dL_shoaled_65 : decode cL_shoaled 65 = .ok (.iadd, 1) := by decide +kernel
theorem dL_shoaled_66 : decode cL_shoaled 66 = .ok (.iaload, 1) := by decide +kernel
theorem dL_shoaled_67 : decode cL_shoaled 67 = .ok (.imul, 1) := by decide +kernel
theorem dL_shoaled_68 : decode cL_shoaled 68 = .ok (.bipush 100, 2) := by decide +kernel
theorem dL_shoaled_70 : decode cL_shoaled 70 = .ok (.idiv, 1) := by decide +kernel
theorem dL_shoaled_71 : decode cL_shoaled 71 = .ok (.istore 4, 2) := by decide +kernel
theorem dL_shoaled_73 : decode cL_shoaled 73 = .ok (.iinc 5 5, 3) := by decide +kernel
theorem dL_shoaled_76 : decode cL_shoaled 76 = .ok (.goto (-69), 3) := by decide +kernel
theorem dL_shoaled_79 : decode cL_shoaled 79 = .ok (.iload 4, 2) := by decide +kernel
theorem dL_shoaled_81 : decode cL_shoaled 81 = .ok (.ireturn, 1) := by decide +kernel
theorem dL_law_0 : decode cL_law 0 = .ok (.new 14, 3) := by decide +kernel
theorem dL_law_3 : decode cL_law 3 = .ok (.dup, 1) := by decide +kernel
theorem dL_law_4 : decode cL_law 4 = .ok (.invokespecial 202, 3) := by decide +kernel
theorem dL_law_7 : decode cL_law 7 = .ok (.astore_n 1, 1) := by decide +kernel
theorem dL_law_8 : decode cL_law 8 = .ok (.bipush 7, 2) := by decide +kernel
theorem dL_law_10 : decode cL_law 10 = .ok (.newarray .int, 2) := by decide +kernel
theorem dL_law_12 : decode cL_law 12 = .ok (.astore_n 2, 1) := by decide +kernel
theorem dL_law_13 : decode cL_law 13 = .ok (.aload_n 0, 1) := by decide +kernel
theorem dL_law_14 : decode cL_law 14 = .ok (.invokestatic 203, 3) := by decide +kernel
theorem dL_law_17 : decode cL_law 17 = .ok (.astore_n 3, 1) := by decide +kernel
theorem dL_law_18 : decode cL_law 18 = .ok (.aload_n 1, 1) := by decide +kernel
theorem dL_law_19 : decode cL_law 19 = .ok (.aload_n 2, 1) := by decide +kernel
theorem dL_law_20 : decode cL_law 20 = .ok (.aload_n 3, 1) := by decide +kernel
theorem dL_law_21 : decode cL_law 21 = .ok (.invokestatic 207, 3) := by decide +kernel
theorem dL_law_24 : decode cL_law 24 = .ok (.aload_n 3, 1) := by decide +kernel
theorem dL_law_25 : decode cL_law 25 = .ok (.bipush 6, 2) := by decide +kernel
theorem dL_law_27 : decode cL_law 27 = .ok (.iaload, 1) := by decide +kernel
theorem dL_law_28 : decode cL_law 28 = .ok (.if_icmp .eq 5, 3) := by decide +kernel
theorem dL_law_31 : decode cL_law 31 = .ok (.iconst 0, 1) := by decide +kernel
theorem dL_law_32 : decode cL_law 32 = .ok (.ireturn, 1) := by decide +kernel
theorem dL_law_33 : decode cL_law 33 = .ok (.iconst 0, 1) := by decide +kernel
theorem dL_law_34 : decode cL_law 34 = .ok (.istore 4, 2) := by decide +kernel
theorem dL_law_36 : decode cL_law 36 = .ok (.iload 4, 2) := by decide +kernel
theorem dL_law_38 : decode cL_law 38 = .ok (.bipush 6, 2) := by decide +kernel
theorem dL_law_40 : decode cL_law 40 = .ok (.if_icmp .ge 573, 3) := by decide +kernel
theorem dL_law_43 : decode cL_law 43 = .ok (.aload_n 0, 1) := by decide +kernel
theorem dL_law_44 : decode cL_law 44 = .ok (.bipush 7, 2) := by decide +kernel
theorem dL_law_46 : decode cL_law 46 = .ok (.iload 4, 2) := by decide +kernel
theorem dL_law_48 : decode cL_law 48 = .ok (.iadd, 1) := by decide +kernel
theorem dL_law_49 : decode cL_law 49 = .ok (.invokestatic 32, 3) := by decide +kernel
theorem dL_law_52 : decode cL_law 52 = .ok (.istore 5, 2) := by decide +kernel
theorem dL_law_54 : decode cL_law 54 = .ok (.iconst 1, 1) := by decide +kernel
theorem dL_law_55 : decode cL_law 55 = .ok (.iload 5, 2) := by decide +kernel
theorem dL_law_57 : decode cL_law 57 = .ok (.bipush 7, 2) := by decide +kernel
theorem dL_law_59 : decode cL_law 59 = .ok (.iand, 1) := by decide +kernel
theorem dL_law_60 : decode cL_law 60 = .ok (.iadd, 1) := by decide +kernel
theorem dL_law_61 : decode cL_law 61 = .ok (.istore 6, 2) := by decide +kernel
theorem dL_law_63 : decode cL_law 63 = .ok (.aload_n 1, 1) := by decide +kernel
theorem dL_law_64 : decode cL_law 64 = .ok (.aload_n 3, 1) := by decide +kernel
theorem dL_law_65 : decode cL_law 65 = .ok (.iload 6, 2) := by decide +kernel
theorem dL_law_67 : decode cL_law 67 = .ok (.invokestatic 211, 3) := by decide +kernel
theorem dL_law_70 : decode cL_law 70 = .ok (.ifCond .ne 5, 3) := by decide +kernel
theorem dL_law_73 : decode cL_law 73 = .ok (.iconst 0, 1) := by decide +kernel
theorem dL_law_74 : decode cL_law 74 = .ok (.ireturn, 1) := by decide +kernel
theorem dL_law_75 : decode cL_law 75 = .ok (.iload 5, 2) := by decide +kernel
theorem dL_law_77 : decode cL_law 77 = .ok (.iconst 3, 1) := by decide +kernel
theorem dL_law_78 : decode cL_law 78 = .ok (.ishr, 1) := by decide +kernel
theorem dL_law_79 : decode cL_law 79 = .ok (.iconst 3, 1) := by decide +kernel
theorem dL_law_80 : decode cL_law 80 = .ok (.iand, 1) := by decide +kernel
theorem dL_law_81 : decode cL_law 81 = .ok (.aload_n 3, 1) := by decide +kernel
theorem dL_law_82 : decode cL_law 82 = .ok (.bipush 6, 2) := by decide +kernel
theorem dL_law_84 : decode cL_law 84 = .ok (.iaload, 1) := by decide +kernel
theorem dL_law_85 : decode cL_law 85 = .ok (.irem, 1) := by decide +kernel
theorem dL_law_86 : decode cL_law 86 = .ok (.istore 7, 2) := by decide +kernel
theorem dL_law_88 : decode cL_law 88 = .ok (.iload 5, 2) := by decide +kernel
theorem dL_law_90 : decode cL_law 90 = .ok (.iconst 5, 1) := by decide +kernel
theorem dL_law_91 : decode cL_law 91 = .ok (.ishr, 1) := by decide +kernel
theorem dL_law_92 : decode cL_law 92 = .ok (.bipush 7, 2) := by decide +kernel
theorem dL_law_94 : decode cL_law 94 = .ok (.iand, 1) := by decide +kernel
theorem dL_law_95 : decode cL_law 95 = .ok (.aload_n 3, 1) := by decide +kernel
theorem dL_law_96 : decode cL_law 96 = .ok (.iconst 1, 1) := by decide +kernel
theorem dL_law_97 : decode cL_law 97 = .ok (.iaload, 1) := by decide +kernel
theorem dL_law_98 : decode cL_law 98 = .ok (.irem, 1) := by decide +kernel
theorem dL_law_99 : decode cL_law 99 = .ok (.istore 8, 2) := by decide +kernel
theorem dL_law_101 : decode cL_law 101 = .ok (.iload 5, 2) := by decide +kernel
theorem dL_law_103 : decode cL_law 103 = .ok (.bipush 8, 2) := by decide +kernel
theorem dL_law_105 : decode cL_law 105 = .ok (.ishr, 1) := by decide +kernel
theorem dL_law_106 : decode cL_law 106 = .ok (.bipush 7, 2) := by decide +kernel
theorem dL_law_108 : decode cL_law 108 = .ok (.iand, 1) := by decide +kernel
theorem dL_law_109 : decode cL_law 109 = .ok (.aload_n 3, 1) := by decide +kernel
theorem dL_law_110 : decode cL_law 110 = .ok (.iconst 2, 1) := by decide +kernel
theorem dL_law_111 : decode cL_law 111 = .ok (.iaload, 1) := by decide +kernel
theorem dL_law_112 : decode cL_law 112 = .ok (.irem, 1) := by decide +kernel
theorem dL_law_113 : decode cL_law 113 = .ok (.istore 9, 2) := by decide +kernel
theorem dL_law_115 : decode cL_law 115 = .ok (.iload 5, 2) := by decide +kernel
theorem dL_law_117 : decode cL_law 117 = .ok (.bipush 11, 2) := by decide +kernel
theorem dL_law_119 : decode cL_law 119 = .ok (.ishr, 1) := by decide +kernel
theorem dL_law_120 : decode cL_law 120 = .ok (.bipush 7, 2) := by decide +kernel
theorem dL_law_122 : decode cL_law 122 = .ok (.iand, 1) := by decide +kernel
theorem dL_law_123 : decode cL_law 123 = .ok (.aload_n 3, 1) := by decide +kernel
theorem dL_law_124 : decode cL_law 124 = .ok (.iconst 2, 1) := by decide +kernel
theorem dL_law_125 : decode cL_law 125 = .ok (.iaload, 1) := by decide +kernel
theorem dL_law_126 : decode cL_law 126 = .ok (.irem, 1) := by decide +kernel
theorem dL_law_127 : decode cL_law 127 = .ok (.istore 10, 2) := by decide +kernel
theorem dL_law_129 : decode cL_law 129 = .ok (.iload 5, 2) := by decide +kernel
theorem dL_law_131 : decode cL_law 131 = .ok (.bipush 14, 2) := by decide +kernel
theorem dL_law_133 : decode cL_law 133 = .ok (.ishr, 1) := by decide +kernel
theorem dL_law_134 : decode cL_law 134 = .ok (.bipush 127, 2) := by decide +kernel
theorem dL_law_136 : decode cL_law 136 = .ok (.iand, 1) := by decide +kernel
theorem dL_law_137 : decode cL_law 137 = .ok (.istore 11, 2) := by decide +kernel
theorem dL_law_139 : decode cL_law 139 = .ok (.aload_n 1, 1) := by decide +kernel
theorem dL_law_140 : decode cL_law 140 = .ok (.aload_n 3, 1) := by decide +kernel
theorem dL_law_141 : decode cL_law 141 = .ok (.invokestatic 215, 3) := by decide +kernel
theorem dL_law_144 : decode cL_law 144 = .ok (.astore 12, 2) := by decide +kernel
theorem dL_law_146 : decode cL_law 146 = .ok (.aload_n 1, 1) := by decide +kernel
theorem dL_law_147 : decode cL_law 147 = .ok (.iload 7, 2) := by decide +kernel
theorem dL_law_149 : decode cL_law 149 = .ok (.iload 6, 2) := by decide +kernel
theorem dL_law_151 : decode cL_law 151 = .ok (.iload 11, 2) := by decide +kernel
theorem dL_law_153 : decode cL_law 153 = .ok (.invokevirtual 219, 3) := by decide +kernel
theorem dL_law_156 : decode cL_law 156 = .ok (.istore 13, 2) := by decide +kernel
theorem dL_law_158 : decode cL_law 158 = .ok (.aload_n 1, 1) := by decide +kernel
theorem dL_law_159 : decode cL_law 159 = .ok (.iload 7, 2) := by decide +kernel
theorem dL_law_161 : decode cL_law 161 = .ok (.iload 8, 2) := by decide +kernel
theorem dL_law_163 : decode cL_law 163 = .ok (.iload 9, 2) := by decide +kernel
theorem dL_law_165 : decode cL_law 165 = .ok (.iload 6, 2) := by decide +kernel
theorem dL_law_167 : decode cL_law 167 = .ok (.invokevirtual 222, 3) := by decide +kernel
theorem dL_law_170 : decode cL_law 170 = .ok (.istore 14, 2) := by decide +kernel
theorem dL_law_172 : decode cL_law 172 = .ok (.aload_n 1, 1) := by decide +kernel
theorem dL_law_173 : decode cL_law 173 = .ok (.iload 8, 2) := by decide +kernel
theorem dL_law_175 : decode cL_law 175 = .ok (.iload 9, 2) := by decide +kernel
theorem dL_law_177 : decode cL_law 177 = .ok (.iload 10, 2) := by decide +kernel
theorem dL_law_179 : decode cL_law 179 = .ok (.iload 6, 2) := by decide +kernel
theorem dL_law_181 : decode cL_law 181 = .ok (.invokevirtual 226, 3) := by decide +kernel
theorem dL_law_184 : decode cL_law 184 = .ok (.lstore 15, 2) := by decide +kernel
theorem dL_law_186 : decode cL_law 186 = .ok (.aload_n 1, 1) := by decide +kernel
theorem dL_law_187 : decode cL_law 187 = .ok (.iload 8, 2) := by decide +kernel
theorem dL_law_189 : decode cL_law 189 = .ok (.iload 9, 2) := by decide +kernel
theorem dL_law_191 : decode cL_law 191 = .ok (.iload 6, 2) := by decide +kernel
theorem dL_law_193 : decode cL_law 193 = .ok (.invokevirtual 230, 3) := by decide +kernel
theorem dL_law_196 : decode cL_law 196 = .ok (.istore 17, 2) := by decide +kernel
theorem dL_law_198 : decode cL_law 198 = .ok (.aload 12, 2) := by decide +kernel
theorem dL_law_200 : decode cL_law 200 = .ok (.aload_n 1, 1) := by decide +kernel
theorem dL_law_201 : decode cL_law 201 = .ok (.aload_n 3, 1) := by decide +kernel
theorem dL_law_202 : decode cL_law 202 = .ok (.invokestatic 215, 3) := by decide +kernel
theorem dL_law_205 : decode cL_law 205 = .ok (.invokestatic 233, 3) := by decide +kernel
theorem dL_law_208 : decode cL_law 208 = .ok (.ifCond .ne 5, 3) := by decide +kernel
theorem dL_law_211 : decode cL_law 211 = .ok (.iconst 0, 1) := by decide +kernel
theorem dL_law_212 : decode cL_law 212 = .ok (.ireturn, 1) := by decide +kernel
theorem dL_law_213 : decode cL_law 213 = .ok (.aload_n 1, 1) := by decide +kernel
theorem dL_law_214 : decode cL_law 214 = .ok (.iload 7, 2) := by decide +kernel
theorem dL_law_216 : decode cL_law 216 = .ok (.iconst 0, 1) := by decide +kernel
theorem dL_law_217 : decode cL_law 217 = .ok (.invokevirtual 239, 3) := by decide +kernel
theorem dL_law_220 : decode cL_law 220 = .ok (.istore 18, 2) := by decide +kernel
theorem dL_law_222 : decode cL_law 222 = .ok (.aload_n 1, 1) := by decide +kernel
theorem dL_law_223 : decode cL_law 223 = .ok (.iload 6, 2) := by decide +kernel
theorem dL_law_225 : decode cL_law 225 = .ok (.iload 11, 2) := by decide +kernel
theorem dL_law_227 : decode cL_law 227 = .ok (.invokevirtual 243, 3) := by decide +kernel
theorem dL_law_230 : decode cL_law 230 = .ok (.iload 13, 2) := by decide +kernel
theorem dL_law_232 : decode cL_law 232 = .ok (.if_icmp .ne 34, 3) := by decide +kernel
theorem dL_law_235 : decode cL_law 235 = .ok (.aload_n 1, 1) := by decide +kernel
theorem dL_law_236 : decode cL_law 236 = .ok (.iload 7, 2) := by decide +kernel
theorem dL_law_238 : decode cL_law 238 = .ok (.iload 8, 2) := by decide +kernel
theorem dL_law_240 : decode cL_law 240 = .ok (.iload 9, 2) := by decide +kernel
theorem dL_law_242 : decode cL_law 242 = .ok (.invokevirtual 246, 3) := by decide +kernel
theorem dL_law_245 : decode cL_law 245 = .ok (.ifCond .ne 21, 3) := by decide +kernel
theorem dL_law_248 : decode cL_law 248 = .ok (.aload_n 1, 1) := by decide +kernel
theorem dL_law_249 : decode cL_law 249 = .ok (.invokevirtual 248, 3) := by decide +kernel
theorem dL_law_252 : decode cL_law 252 = .ok (.ifCond .lt 14, 3) := by decide +kernel
theorem dL_law_255 : decode cL_law 255 = .ok (.aload_n 1, 1) := by decide +kernel
theorem dL_law_256 : decode cL_law 256 = .ok (.iload 7, 2) := by decide +kernel
theorem dL_law_258 : decode cL_law 258 = .ok (.invokevirtual 189, 3) := by decide +kernel
theorem dL_law_261 : decode cL_law 261 = .ok (.iload 18, 2) := by decide +kernel
theorem dL_law_263 : decode cL_law 263 = .ok (.if_icmp .eq 5, 3) := by decide +kernel
theorem dL_law_266 : decode cL_law 266 = .ok (.iconst 0, 1) := by decide +kernel
theorem dL_law_267 : decode cL_law 267 = .ok (.ireturn, 1) := by decide +kernel
theorem dL_law_268 : decode cL_law 268 = .ok (.aload_n 1, 1) := by decide +kernel
theorem dL_law_269 : decode cL_law 269 = .ok (.iload 7, 2) := by decide +kernel
theorem dL_law_271 : decode cL_law 271 = .ok (.iload 8, 2) := by decide +kernel
theorem dL_law_273 : decode cL_law 273 = .ok (.iload 9, 2) := by decide +kernel
theorem dL_law_275 : decode cL_law 275 = .ok (.iload 6, 2) := by decide +kernel
theorem dL_law_277 : decode cL_law 277 = .ok (.iload 14, 2) := by decide +kernel
theorem dL_law_279 : decode cL_law 279 = .ok (.invokestatic 251, 3) := by decide +kernel
theorem dL_law_282 : decode cL_law 282 = .ok (.ifCond .ne 5, 3) := by decide +kernel
theorem dL_law_285 : decode cL_law 285 = .ok (.iconst 0, 1) := by decide +kernel
theorem dL_law_286 : decode cL_law 286 = .ok (.ireturn, 1) := by decide +kernel
theorem dL_law_287 : decode cL_law 287 = .ok (.aload_n 3, 1) := by decide +kernel
theorem dL_law_288 : decode cL_law 288 = .ok (.iconst 4, 1) := by decide +kernel
theorem dL_law_289 : decode cL_law 289 = .ok (.iaload, 1) := by decide +kernel
theorem dL_law_290 : decode cL_law 290 = .ok (.ifCond .ge 21, 3) := by decide +kernel
theorem dL_law_293 : decode cL_law 293 = .ok (.lload 15, 2) := by decide +kernel
theorem dL_law_295 : decode cL_law 295 = .ok (.ldc2_w 255, 3) := by decide +kernel
theorem dL_law_298 : decode cL_law 298 = .ok (.lcmp, 1) := by decide +kernel
theorem dL_law_299 : decode cL_law 299 = .ok (.ifCond .ne 68, 3) := by decide +kernel
theorem dL_law_302 : decode cL_law 302 = .ok (.iload 17, 2) := by decide +kernel
theorem dL_law_304 : decode cL_law 304 = .ok (.iconst (-1), 1) := by decide +kernel
theorem dL_law_305 : decode cL_law 305 = .ok (.if_icmp .eq 64, 3) := by decide +kernel
theorem dL_law_308 : decode cL_law 308 = .ok (.goto 59, 3) := by decide +kernel
theorem dL_law_311 : decode cL_law 311 = .ok (.aload_n 1, 1) := by decide +kernel
theorem dL_law_312 : decode cL_law 312 = .ok (.iload 10, 2) := by decide +kernel
theorem dL_law_314 : decode cL_law 314 = .ok (.invokevirtual 257, 3) := by decide +kernel
theorem dL_law_317 : decode cL_law 317 = .ok (.aload_n 1, 1) := by decide +kernel
theorem dL_law_318 : decode cL_law 318 = .ok (.iload 10, 2) := by decide +kernel
theorem dL_law_320 : decode cL_law 320 = .ok (.invokevirtual 260, 3) := by decide +kernel
theorem dL_law_323 : decode cL_law 323 = .ok (.if_icmp .ne 44, 3) := by decide +kernel
theorem dL_law_326 : decode cL_law 326 = .ok (.aload_n 1, 1) := by decide +kernel
theorem dL_law_327 : decode cL_law 327 = .ok (.iload 8, 2) := by decide +kernel
theorem dL_law_329 : decode cL_law 329 = .ok (.iload 9, 2) := by decide +kernel
theorem dL_law_331 : decode cL_law 331 = .ok (.iload 6, 2) := by decide +kernel
theorem dL_law_333 : decode cL_law 333 = .ok (.invokevirtual 262, 3) := by decide +kernel
theorem dL_law_336 : decode cL_law 336 = .ok (.lload 15, 2) := by decide +kernel
theorem dL_law_338 : decode cL_law 338 = .ok (.lcmp, 1) := by decide +kernel
theorem dL_law_339 : decode cL_law 339 = .ok (.ifCond .ne 28, 3) := by decide +kernel
theorem dL_law_342 : decode cL_law 342 = .ok (.aload_n 1, 1) := by decide +kernel
theorem dL_law_343 : decode cL_law 343 = .ok (.invokevirtual 248, 3) := by decide +kernel
theorem dL_law_346 : decode cL_law 346 = .ok (.ifCond .lt 21, 3) := by decide +kernel
theorem dL_law_349 : decode cL_law 349 = .ok (.aload_n 1, 1) := by decide +kernel
theorem dL_law_350 : decode cL_law 350 = .ok (.iload 8, 2) := by decide +kernel
theorem dL_law_352 : decode cL_law 352 = .ok (.iload 9, 2) := by decide +kernel
theorem dL_law_354 : decode cL_law 354 = .ok (.iload 17, 2) := by decide +kernel
theorem dL_law_356 : decode cL_law 356 = .ok (.iload 6, 2) := by decide +kernel
theorem dL_law_358 : decode cL_law 358 = .ok (.invokevirtual 226, 3) := by decide +kernel
theorem dL_law_361 : decode cL_law 361 = .ok (.lload 15, 2) := by decide +kernel
theorem dL_law_363 : decode cL_law 363 = .ok (.lcmp, 1) := by decide +kernel
theorem dL_law_364 : decode cL_law 364 = .ok (.ifCond .ge 5, 3) := by decide +kernel
theorem dL_law_367 : decode cL_law 367 = .ok (.iconst 0, 1) := by decide +kernel
theorem dL_law_368 : decode cL_law 368 = .ok (.ireturn, 1) := by decide +kernel
theorem dL_law_369 : decode cL_law 369 = .ok (.aload 12, 2) := by decide +kernel
theorem dL_law_371 : decode cL_law 371 = .ok (.aload_n 1, 1) := by decide +kernel
theorem dL_law_372 : decode cL_law 372 = .ok (.aload_n 3, 1) := by decide +kernel
theorem dL_law_373 : decode cL_law 373 = .ok (.invokestatic 215, 3) := by decide +kernel
theorem dL_law_376 : decode cL_law 376 = .ok (.invokestatic 233, 3) := by decide +kernel
theorem dL_law_379 : decode cL_law 379 = .ok (.ifCond .ne 5, 3) := by decide +kernel
theorem dL_law_382 : decode cL_law 382 = .ok (.iconst 0, 1) := by decide +kernel
theorem dL_law_383 : decode cL_law 383 = .ok (.ireturn, 1) := by decide +kernel
theorem dL_law_384 : decode cL_law 384 = .ok (.iload 5, 2) := by decide +kernel
theorem dL_law_386 : decode cL_law 386 = .ok (.bipush 21, 2) := by decide +kernel
theorem dL_law_388 : decode cL_law 388 = .ok (.ishr, 1) := by decide +kernel
theorem dL_law_389 : decode cL_law 389 = .ok (.iconst 1, 1) := by decide +kernel
theorem dL_law_390 : decode cL_law 390 = .ok (.iand, 1) := by decide +kernel
theorem dL_law_391 : decode cL_law 391 = .ok (.istore 19, 2) := by decide +kernel
theorem dL_law_393 : decode cL_law 393 = .ok (.aload_n 1, 1) := by decide +kernel
theorem dL_law_394 : decode cL_law 394 = .ok (.iload 19, 2) := by decide +kernel
theorem dL_law_396 : decode cL_law 396 = .ok (.invokevirtual 266, 3) := by decide +kernel
theorem dL_law_399 : decode cL_law 399 = .ok (.aload_n 1, 1) := by decide +kernel
theorem dL_law_400 : decode cL_law 400 = .ok (.invokevirtual 176, 3) := by decide +kernel
theorem dL_law_403 : decode cL_law 403 = .ok (.if_icmp .eq 5, 3) := by decide +kernel
theorem dL_law_406 : decode cL_law 406 = .ok (.iconst 0, 1) := by decide +kernel
theorem dL_law_407 : decode cL_law 407 = .ok (.ireturn, 1) := by decide +kernel
theorem dL_law_408 : decode cL_law 408 = .ok (.aload_n 1, 1) := by decide +kernel
theorem dL_law_409 : decode cL_law 409 = .ok (.invokevirtual 176, 3) := by decide +kernel
theorem dL_law_412 : decode cL_law 412 = .ok (.istore 20, 2) := by decide +kernel
theorem dL_law_414 : decode cL_law 414 = .ok (.aload_n 1, 1) := by decide +kernel
theorem dL_law_415 : decode cL_law 415 = .ok (.iload 8, 2) := by decide +kernel
theorem dL_law_417 : decode cL_law 417 = .ok (.iload 9, 2) := by decide +kernel
theorem dL_law_419 : decode cL_law 419 = .ok (.iload 20, 2) := by decide +kernel
theorem dL_law_421 : decode cL_law 421 = .ok (.iload 6, 2) := by decide +kernel
theorem dL_law_423 : decode cL_law 423 = .ok (.iadd, 1) := by decide +kernel
theorem dL_law_424 : decode cL_law 424 = .ok (.invokevirtual 269, 3) := by decide +kernel
theorem dL_law_427 : decode cL_law 427 = .ok (.istore 21, 2) := by decide +kernel
theorem dL_law_429 : decode cL_law 429 = .ok (.aload_n 1, 1) := by decide +kernel
theorem dL_law_430 : decode cL_law 430 = .ok (.iload 6, 2) := by decide +kernel
theorem dL_law_432 : decode cL_law 432 = .ok (.invokevirtual 272, 3) := by decide +kernel
theorem dL_law_435 : decode cL_law 435 = .ok (.iload 20, 2) := by decide +kernel
theorem dL_law_437 : decode cL_law 437 = .ok (.iload 6, 2) := by decide +kernel
theorem dL_law_439 : decode cL_law 439 = .ok (.iadd, 1) := by decide +kernel
theorem dL_law_440 : decode cL_law 440 = .ok (.if_icmp .ne 16, 3) := by decide +kernel
theorem dL_law_443 : decode cL_law 443 = .ok (.aload_n 1, 1) := by decide +kernel
theorem dL_law_444 : decode cL_law 444 = .ok (.iload 8, 2) := by decide +kernel
theorem dL_law_446 : decode cL_law 446 = .ok (.iload 9, 2) := by decide +kernel
theorem dL_law_448 : decode cL_law 448 = .ok (.invokevirtual 200, 3) := by decide +kernel
theorem dL_law_451 : decode cL_law 451 = .ok (.iload 21, 2) := by decide +kernel
theorem dL_law_453 : decode cL_law 453 = .ok (.if_icmp .eq 5, 3) := by decide +kernel
theorem dL_law_456 : decode cL_law 456 = .ok (.iconst 0, 1) := by decide +kernel
theorem dL_law_457 : decode cL_law 457 = .ok (.ireturn, 1) := by decide +kernel
theorem dL_law_458 : decode cL_law 458 = .ok (.iload 5, 2) := by decide +kernel
theorem dL_law_460 : decode cL_law 460 = .ok (.bipush 22, 2) := by decide +kernel
theorem dL_law_462 : decode cL_law 462 = .ok (.ishr, 1) := by decide +kernel
theorem dL_law_463 : decode cL_law 463 = .ok (.iconst 1, 1) := by decide +kernel
theorem dL_law_464 : decode cL_law 464 = .ok (.iand, 1) := by decide +kernel
theorem dL_law_465 : decode cL_law 465 = .ok (.iconst 1, 1) := by decide +kernel
theorem dL_law_466 : decode cL_law 466 = .ok (.if_icmp .ne 36, 3) := by decide +kernel
theorem dL_law_469 : decode cL_law 469 = .ok (.aload_n 1, 1) := by decide +kernel
theorem dL_law_470 : decode cL_law 470 = .ok (.iload 19, 2) := by decide +kernel
theorem dL_law_472 : decode cL_law 472 = .ok (.invokevirtual 275, 3) := by decide +kernel
theorem dL_law_475 : decode cL_law 475 = .ok (.iload 20, 2) := by decide +kernel
theorem dL_law_477 : decode cL_law 477 = .ok (.if_icmp .ne 23, 3) := by decide +kernel
theorem dL_law_480 : decode cL_law 480 = .ok (.aload_n 1, 1) := by decide +kernel
theorem dL_law_481 : decode cL_law 481 = .ok (.invokevirtual 278, 3) := by decide +kernel
theorem dL_law_484 : decode cL_law 484 = .ok (.ifCond .ne 16, 3) := by decide +kernel
theorem dL_law_487 : decode cL_law 487 = .ok (.aload 12, 2) := by decide +kernel
theorem dL_law_489 : decode cL_law 489 = .ok (.aload_n 1, 1) := by decide +kernel
theorem dL_law_490 : decode cL_law 490 = .ok (.aload_n 3, 1) := by decide +kernel
theorem dL_law_491 : decode cL_law 491 = .ok (.invokestatic 215, 3) := by decide +kernel
theorem dL_law_494 : decode cL_law 494 = .ok (.invokestatic 233, 3) := by decide +kernel
theorem dL_law_497 : decode cL_law 497 = .ok (.ifCond .ne 5, 3) := by decide +kernel
theorem dL_law_500 : decode cL_law 500 = .ok (.iconst 0, 1) := by decide +kernel
theorem dL_law_501 : decode cL_law 501 = .ok (.ireturn, 1) := by decide +kernel
theorem dL_law_502 : decode cL_law 502 = .ok (.iload 5, 2) := by decide +kernel
theorem dL_law_504 : decode cL_law 504 = .ok (.bipush 23, 2) := by decide +kernel
theorem dL_law_506 : decode cL_law 506 = .ok (.ishr, 1) := by decide +kernel
theorem dL_law_507 : decode cL_law 507 = .ok (.iconst 3, 1) := by decide +kernel
theorem dL_law_508 : decode cL_law 508 = .ok (.iand, 1) := by decide +kernel
theorem dL_law_509 : decode cL_law 509 = .ok (.ifCond .ne 45, 3) := by decide +kernel
theorem dL_law_512 : decode cL_law 512 = .ok (.aload_n 1, 1) := by decide +kernel
theorem dL_law_513 : decode cL_law 513 = .ok (.iload 7, 2) := by decide +kernel
theorem dL_law_515 : decode cL_law 515 = .ok (.iconst 1, 1) := by decide +kernel
theorem dL_law_516 : decode cL_law 516 = .ok (.iload 5, 2) := by decide +kernel
theorem dL_law_518 : decode cL_law 518 = .ok (.bipush 25, 2) := by decide +kernel
theorem dL_law_520 : decode cL_law 520 = .ok (.ishr, 1) := by decide +kernel
theorem dL_law_521 : decode cL_law 521 = .ok (.bipush 31, 2) := by decide +kernel
theorem dL_law_523 : decode cL_law 523 = .ok (.iand, 1) := by decide +kernel
theorem dL_law_524 : decode cL_law 524 = .ok (.iadd, 1) := by decide +kernel
theorem dL_law_525 : decode cL_law 525 = .ok (.invokevirtual 281, 3) := by decide +kernel
theorem dL_law_528 : decode cL_law 528 = .ok (.iconst 1, 1) := by decide +kernel
theorem dL_law_529 : decode cL_law 529 = .ok (.if_icmp .lt 23, 3) := by decide +kernel
theorem dL_law_532 : decode cL_law 532 = .ok (.aload_n 1, 1) := by decide +kernel
theorem dL_law_533 : decode cL_law 533 = .ok (.iload 7, 2) := by decide +kernel
theorem dL_law_535 : decode cL_law 535 = .ok (.iconst 0, 1) := by decide +kernel
theorem dL_law_536 : decode cL_law 536 = .ok (.invokevirtual 193, 3) := by decide +kernel
theorem dL_law_539 : decode cL_law 539 = .ok (.iconst 1, 1) := by decide +kernel
theorem dL_law_540 : decode cL_law 540 = .ok (.iload 5, 2) := by decide +kernel
theorem dL_law_542 : decode cL_law 542 = .ok (.bipush 25, 2) := by decide +kernel
theorem dL_law_544 : decode cL_law 544 = .ok (.ishr, 1) := by decide +kernel
theorem dL_law_545 : decode cL_law 545 = .ok (.bipush 31, 2) := by decide +kernel
theorem dL_law_547 : decode cL_law 547 = .ok (.iand, 1) := by decide +kernel
theorem dL_law_548 : decode cL_law 548 = .ok (.iadd, 1) := by decide +kernel
theorem dL_law_549 : decode cL_law 549 = .ok (.if_icmp .eq 5, 3) := by decide +kernel
theorem dL_law_552 : decode cL_law 552 = .ok (.iconst 0, 1) := by decide +kernel
theorem dL_law_553 : decode cL_law 553 = .ok (.ireturn, 1) := by decide +kernel
theorem dL_law_554 : decode cL_law 554 = .ok (.iload 5, 2) := by decide +kernel
theorem dL_law_556 : decode cL_law 556 = .ok (.bipush 23, 2) := by decide +kernel
theorem dL_law_558 : decode cL_law 558 = .ok (.ishr, 1) := by decide +kernel
theorem dL_law_559 : decode cL_law 559 = .ok (.iconst 3, 1) := by decide +kernel
theorem dL_law_560 : decode cL_law 560 = .ok (.iand, 1) := by decide +kernel
theorem dL_law_561 : decode cL_law 561 = .ok (.iconst 1, 1) := by decide +kernel
theorem dL_law_562 : decode cL_law 562 = .ok (.if_icmp .ne 45, 3) := by decide +kernel
theorem dL_law_565 : decode cL_law 565 = .ok (.aload_n 1, 1) := by decide +kernel
theorem dL_law_566 : decode cL_law 566 = .ok (.iload 7, 2) := by decide +kernel
theorem dL_law_568 : decode cL_law 568 = .ok (.iload 8, 2) := by decide +kernel
theorem dL_law_570 : decode cL_law 570 = .ok (.iload 9, 2) := by decide +kernel
theorem dL_law_572 : decode cL_law 572 = .ok (.invokevirtual 284, 3) := by decide +kernel
theorem dL_law_575 : decode cL_law 575 = .ok (.aload_n 1, 1) := by decide +kernel
theorem dL_law_576 : decode cL_law 576 = .ok (.iload 7, 2) := by decide +kernel
theorem dL_law_578 : decode cL_law 578 = .ok (.iconst 1, 1) := by decide +kernel
theorem dL_law_579 : decode cL_law 579 = .ok (.aload_n 1, 1) := by decide +kernel
theorem dL_law_580 : decode cL_law 580 = .ok (.invokevirtual 176, 3) := by decide +kernel
theorem dL_law_583 : decode cL_law 583 = .ok (.invokevirtual 196, 3) := by decide +kernel
theorem dL_law_586 : decode cL_law 586 = .ok (.aload_n 3, 1) := by decide +kernel
theorem dL_law_587 : decode cL_law 587 = .ok (.iconst 1, 1) := by decide +kernel
theorem dL_law_588 : decode cL_law 588 = .ok (.iaload, 1) := by decide +kernel
theorem dL_law_589 : decode cL_law 589 = .ok (.imul, 1) := by decide +kernel
theorem dL_law_590 : decode cL_law 590 = .ok (.aload_n 1, 1) := by decide +kernel
theorem dL_law_591 : decode cL_law 591 = .ok (.iload 7, 2) := by decide +kernel
theorem dL_law_593 : decode cL_law 593 = .ok (.iconst 0, 1) := by decide +kernel
theorem dL_law_594 : decode cL_law 594 = .ok (.aload_n 1, 1) := by decide +kernel
theorem dL_law_595 : decode cL_law 595 = .ok (.invokevirtual 176, 3) := by decide +kernel
theorem dL_law_598 : decode cL_law 598 = .ok (.invokevirtual 196, 3) := by decide +kernel
theorem dL_law_601 : decode cL_law 601 = .ok (.iadd, 1) := by decide +kernel
theorem dL_law_602 : decode cL_law 602 = .ok (.if_icmp .eq 5, 3) := by decide +kernel
theorem dL_law_605 : decode cL_law 605 = .ok (.iconst 0, 1) := by decide +kernel
theorem dL_law_606 : decode cL_law 606 = .ok (.ireturn, 1) := by decide +kernel
theorem dL_law_607 : decode cL_law 607 = .ok (.iinc 4 1, 3) := by decide +kernel
theorem dL_law_610 : decode cL_law 610 = .ok (.goto (-574), 3) := by decide +kernel
theorem dL_law_613 : decode cL_law 613 = .ok (.iconst 1, 1) := by decide +kernel
theorem dL_law_614 : decode cL_law 614 = .ok (.ireturn, 1) := by decide +kernel
theorem dL_isBest_0 : decode cL_isBest 0 = .ok (.aload_n 0, 1) := by decide +kernel
theorem dL_isBest_1 : decode cL_isBest 1 = .ok (.iload_n 1, 1) := by decide +kernel
theorem dL_isBest_2 : decode cL_isBest 2 = .ok (.iload 5, 2) := by decide +kernel
theorem dL_isBest_4 : decode cL_isBest 4 = .ok (.invokevirtual 287, 3) := by decide +kernel
theorem dL_isBest_7 : decode cL_isBest 7 = .ok (.istore 6, 2) := by decide +kernel
theorem dL_isBest_9 : decode cL_isBest 9 = .ok (.aload_n 0, 1) := by decide +kernel
theorem dL_isBest_10 : decode cL_isBest 10 = .ok (.iload_n 2, 1) := by decide +kernel
theorem dL_isBest_11 : decode cL_isBest 11 = .ok (.iload_n 3, 1) := by decide +kernel
theorem dL_isBest_12 : decode cL_isBest 12 = .ok (.iload 4, 2) := by decide +kernel
theorem dL_isBest_14 : decode cL_isBest 14 = .ok (.invokevirtual 262, 3) := by decide +kernel
theorem dL_isBest_17 : decode cL_isBest 17 = .ok (.lstore 7, 2) := by decide +kernel
theorem dL_isBest_19 : decode cL_isBest 19 = .ok (.iconst 0, 1) := by decide +kernel
theorem dL_isBest_20 : decode cL_isBest 20 = .ok (.istore 9, 2) := by decide +kernel
theorem dL_isBest_22 : decode cL_isBest 22 = .ok (.iload 9, 2) := by decide +kernel
theorem dL_isBest_24 : decode cL_isBest 24 = .ok (.sipush 360, 3) := by decide +kernel
theorem dL_isBest_27 : decode cL_isBest 27 = .ok (.if_icmp .ge 56, 3) := by decide +kernel
theorem dL_isBest_30 : decode cL_isBest 30 = .ok (.aload_n 0, 1) := by decide +kernel
theorem dL_isBest_31 : decode cL_isBest 31 = .ok (.iload_n 1, 1) := by decide +kernel
theorem dL_isBest_32 : decode cL_isBest 32 = .ok (.iload 9, 2) := by decide +kernel
theorem dL_isBest_34 : decode cL_isBest 34 = .ok (.invokevirtual 287, 3) := by decide +kernel
theorem dL_isBest_37 : decode cL_isBest 37 = .ok (.ifCond .ge 5, 3) := by decide +kernel
theorem dL_isBest_40 : decode cL_isBest 40 = .ok (.iconst 0, 1) := by decide +kernel
theorem dL_isBest_41 : decode cL_isBest 41 = .ok (.ireturn, 1) := by decide +kernel
theorem dL_isBest_42 : decode cL_isBest 42 = .ok (.aload_n 0, 1) := by decide +kernel
theorem dL_isBest_43 : decode cL_isBest 43 = .ok (.iload_n 2, 1) := by decide +kernel
theorem dL_isBest_44 : decode cL_isBest 44 = .ok (.iload_n 3, 1) := by decide +kernel
theorem dL_isBest_45 : decode cL_isBest 45 = .ok (.iload 4, 2) := by decide +kernel
theorem dL_isBest_47 : decode cL_isBest 47 = .ok (.invokevirtual 262, 3) := by decide +kernel
theorem dL_isBest_50 : decode cL_isBest 50 = .ok (.lstore 10, 2) := by decide +kernel
theorem dL_isBest_52 : decode cL_isBest 52 = .ok (.lload 10, 2) := by decide +kernel
theorem dL_isBest_54 : decode cL_isBest 54 = .ok (.lload 7, 2) := by decide +kernel
theorem dL_isBest_56 : decode cL_isBest 56 = .ok (.lcmp, 1) := by decide +kernel
theorem dL_isBest_57 : decode cL_isBest 57 = .ok (.ifCond .lt 18, 3) := by decide +kernel
theorem dL_isBest_60 : decode cL_isBest 60 = .ok (.lload 10, 2) := by decide +kernel
theorem dL_isBest_62 : decode cL_isBest 62 = .ok (.lload 7, 2) := by decide +kernel
theorem dL_isBest_64 : decode cL_isBest 64 = .ok (.lcmp, 1) := by decide +kernel
theorem dL_isBest_65 : decode cL_isBest 65 = .ok (.ifCond .ne 12, 3) := by decide +kernel
theorem dL_isBest_68 : decode cL_isBest 68 = .ok (.iload 9, 2) := by decide +kernel
theorem dL_isBest_70 : decode cL_isBest 70 = .ok (.iload 5, 2) := by decide +kernel
theorem dL_isBest_72 : decode cL_isBest 72 = .ok (.if_icmp .ge 5, 3) := by decide +kernel
theorem dL_isBest_75 : decode cL_isBest 75 = .ok (.iconst 0, 1) := by decide +kernel
theorem dL_isBest_76 : decode cL_isBest 76 = .ok (.ireturn, 1) := by decide +kernel
theorem dL_isBest_77 : decode cL_isBest 77 = .ok (.iinc 9 15, 3) := by decide +kernel
theorem dL_isBest_80 : decode cL_isBest 80 = .ok (.goto (-58), 3) := by decide +kernel
theorem dL_isBest_83 : decode cL_isBest 83 = .ok (.aload_n 0, 1) := by decide +kernel
theorem dL_isBest_84 : decode cL_isBest 84 = .ok (.iload_n 1, 1) := by decide +kernel
theorem dL_isBest_85 : decode cL_isBest 85 = .ok (.iload 6, 2) := by decide +kernel
theorem dL_isBest_87 : decode cL_isBest 87 = .ok (.invokevirtual 287, 3) := by decide +kernel
theorem dL_isBest_90 : decode cL_isBest 90 = .ok (.sipush 345, 3) := by decide +kernel
theorem dL_isBest_93 : decode cL_isBest 93 = .ok (.if_icmp .ne 7, 3) := by decide +kernel
theorem dL_isBest_96 : decode cL_isBest 96 = .ok (.iconst 1, 1) := by decide +kernel
theorem dL_isBest_97 : decode cL_isBest 97 = .ok (.goto 4, 3) := by decide +kernel
theorem dL_isBest_100 : decode cL_isBest 100 = .ok (.iconst 0, 1) := by decide +kernel
theorem dL_isBest_101 : decode cL_isBest 101 = .ok (.ireturn, 1) := by decide +kernel
theorem dL_isRight_0 : decode cL_isRight 0 = .ok (.iconst 0, 1) := by decide +kernel
theorem dL_isRight_1 : decode cL_isRight 1 = .ok (.istore_n 3, 1) := by decide +kernel
theorem dL_isRight_2 : decode cL_isRight 2 = .ok (.iconst 0, 1) := by decide +kernel
theorem dL_isRight_3 : decode cL_isRight 3 = .ok (.istore 4, 2) := by decide +kernel
theorem dL_isRight_5 : decode cL_isRight 5 = .ok (.lconst 0, 1) := by decide +kernel
theorem dL_isRight_6 : decode cL_isRight 6 = .ok (.lstore 5, 2) := by decide +kernel
theorem dL_isRight_8 : decode cL_isRight 8 = .ok (.iconst 0, 1) := by decide +kernel
theorem dL_isRight_9 : decode cL_isRight 9 = .ok (.istore 7, 2) := by decide +kernel
theorem dL_isRight_11 : decode cL_isRight 11 = .ok (.iload 7, 2) := by decide +kernel
theorem dL_isRight_13 : decode cL_isRight 13 = .ok (.aload_n 1, 1) := by decide +kernel
theorem dL_isRight_14 : decode cL_isRight 14 = .ok (.iconst 2, 1) := by decide +kernel
theorem dL_isRight_15 : decode cL_isRight 15 = .ok (.iaload, 1) := by decide +kernel
theorem dL_isRight_16 : decode cL_isRight 16 = .ok (.if_icmp .ge 560, 3) := by decide +kernel
theorem dL_isRight_19 : decode cL_isRight 19 = .ok (.lconst 0, 1) := by decide +kernel
theorem dL_isRight_20 : decode cL_isRight 20 = .ok (.lstore 8, 2) := by decide +kernel
theorem dL_isRight_22 : decode cL_isRight 22 = .ok (.iconst 0, 1) := by decide +kernel
theorem dL_isRight_23 : decode cL_isRight 23 = .ok (.istore 10, 2) := by decide +kernel
theorem dL_isRight_25 : decode cL_isRight 25 = .ok (.iload 10, 2) := by decide +kernel
theorem dL_isRight_27 : decode cL_isRight 27 = .ok (.aload_n 1, 1) := by decide +kernel
theorem dL_isRight_28 : decode cL_isRight 28 = .ok (.iconst 1, 1) := by decide +kernel
theorem dL_isRight_29 : decode cL_isRight 29 = .ok (.iaload, 1) := by decide +kernel
theorem dL_isRight_30 : decode cL_isRight 30 = .ok (.if_icmp .ge 518, 3) := by decide +kernel
theorem dL_isRight_33 : decode cL_isRight 33 = .ok (.iconst 0, 1) := by decide +kernel
theorem dL_isRight_34 : decode cL_isRight 34 = .ok (.istore 11, 2) := by decide +kernel
theorem dL_isRight_36 : decode cL_isRight 36 = .ok (.iconst 0, 1) := by decide +kernel
theorem dL_isRight_37 : decode cL_isRight 37 = .ok (.istore 12, 2) := by decide +kernel
theorem dL_isRight_39 : decode cL_isRight 39 = .ok (.iload 12, 2) := by decide +kernel
theorem dL_isRight_41 : decode cL_isRight 41 = .ok (.aload_n 1, 1) := by decide +kernel
theorem dL_isRight_42 : decode cL_isRight 42 = .ok (.bipush 6, 2) := by decide +kernel
theorem dL_isRight_44 : decode cL_isRight 44 = .ok (.iaload, 1) := by decide +kernel
theorem dL_isRight_45 : decode cL_isRight 45 = .ok (.if_icmp .ge 326, 3) := by decide +kernel
theorem dL_isRight_48 : decode cL_isRight 48 = .ok (.aload_n 0, 1) := by decide +kernel
theorem dL_isRight_49 : decode cL_isRight 49 = .ok (.iload 12, 2) := by decide +kernel
theorem dL_isRight_51 : decode cL_isRight 51 = .ok (.iload 10, 2) := by decide +kernel
theorem dL_isRight_53 : decode cL_isRight 53 = .ok (.iload 7, 2) := by decide +kernel
theorem dL_isRight_55 : decode cL_isRight 55 = .ok (.invokevirtual 246, 3) := by decide +kernel
theorem dL_isRight_58 : decode cL_isRight 58 = .ok (.istore 13, 2) := by decide +kernel
theorem dL_isRight_60 : decode cL_isRight 60 = .ok (.iload 11, 2) := by decide +kernel
theorem dL_isRight_62 : decode cL_isRight 62 = .ok (.iload 13, 2) := by decide +kernel
theorem dL_isRight_64 : decode cL_isRight 64 = .ok (.iadd, 1) := by decide +kernel
theorem dL_isRight_65 : decode cL_isRight 65 = .ok (.istore 11, 2) := by decide +kernel
theorem dL_isRight_67 : decode cL_isRight 67 = .ok (.aload_n 0, 1) := by decide +kernel
theorem dL_isRight_68 : decode cL_isRight 68 = .ok (.iload 12, 2) := by decide +kernel
theorem dL_isRight_70 : decode cL_isRight 70 = .ok (.iconst 0, 1) := by decide +kernel
theorem dL_isRight_71 : decode cL_isRight 71 = .ok (.aload_n 0, 1) := by decide +kernel
theorem dL_isRight_72 : decode cL_isRight 72 = .ok (.invokevirtual 176, 3) := by decide +kernel
theorem dL_isRight_75 : decode cL_isRight 75 = .ok (.invokevirtual 196, 3) := by decide +kernel
theorem dL_isRight_78 : decode cL_isRight 78 = .ok (.istore 14, 2) := by decide +kernel
theorem dL_isRight_80 : decode cL_isRight 80 = .ok (.aload_n 0, 1) := by decide +kernel
theorem dL_isRight_81 : decode cL_isRight 81 = .ok (.iload 12, 2) := by decide +kernel
theorem dL_isRight_83 : decode cL_isRight 83 = .ok (.iconst 1, 1) := by decide +kernel
theorem dL_isRight_84 : decode cL_isRight 84 = .ok (.aload_n 0, 1) := by decide +kernel
theorem dL_isRight_85 : decode cL_isRight 85 = .ok (.invokevirtual 176, 3) := by decide +kernel
theorem dL_isRight_88 : decode cL_isRight 88 = .ok (.invokevirtual 196, 3) := by decide +kernel
theorem dL_isRight_91 : decode cL_isRight 91 = .ok (.istore 15, 2) := by decide +kernel
theorem dL_isRight_93 : decode cL_isRight 93 = .ok (.aload_n 0, 1) := by decide +kernel
theorem dL_isRight_94 : decode cL_isRight 94 = .ok (.iload 14, 2) := by decide +kernel
theorem dL_isRight_96 : decode cL_isRight 96 = .ok (.iload 10, 2) := by decide +kernel
theorem dL_isRight_98 : decode cL_isRight 98 = .ok (.isub, 1) := by decide +kernel
theorem dL_isRight_99 : decode cL_isRight 99 = .ok (.invokestatic 25, 3) := by decide +kernel
theorem dL_isRight_102 : decode cL_isRight 102 = .ok (.iload 15, 2) := by decide +kernel
theorem dL_isRight_104 : decode cL_isRight 104 = .ok (.iload 7, 2) := by decide +kernel
theorem dL_isRight_106 : decode cL_isRight 106 = .ok (.isub, 1) := by decide +kernel
theorem dL_isRight_107 : decode cL_isRight 107 = .ok (.invokestatic 25, 3) := by decide +kernel
theorem dL_isRight_110 : decode cL_isRight 110 = .ok (.invokevirtual 290, 3) := by decide +kernel
theorem dL_isRight_113 : decode cL_isRight 113 = .ok (.istore 16, 2) := by decide +kernel
theorem dL_isRight_115 : decode cL_isRight 115 = .ok (.aload_n 0, 1) := by decide +kernel
theorem dL_isRight_116 : decode cL_isRight 116 = .ok (.iload 12, 2) := by decide +kernel
theorem dL_isRight_118 : decode cL_isRight 118 = .ok (.iload 10, 2) := by decide +kernel
theorem dL_isRight_120 : decode cL_isRight 120 = .ok (.iload 7, 2) := by decide +kernel
theorem dL_isRight_122 : decode cL_isRight 122 = .ok (.invokevirtual 293, 3) := by decide +kernel
theorem dL_isRight_125 : decode cL_isRight 125 = .ok (.istore 17, 2) := by decide +kernel
theorem dL_isRight_127 : decode cL_isRight 127 = .ok (.iload 13, 2) := by decide +kernel
theorem dL_isRight_129 : decode cL_isRight 129 = .ok (.invokestatic 25, 3) := by decide +kernel
theorem dL_isRight_132 : decode cL_isRight 132 = .ok (.iconst 5, 1) := by decide +kernel
theorem dL_isRight_133 : decode cL_isRight 133 = .ok (.aload_n 0, 1) := by decide +kernel
theorem dL_isRight_134 : decode cL_isRight 134 = .ok (.iload 12, 2) := by decide +kernel
theorem dL_isRight_136 : decode cL_isRight 136 = .ok (.iconst 0, 1) := by decide +kernel
theorem dL_isRight_137 : decode cL_isRight 137 = .ok (.invokevirtual 193, 3) := by decide +kernel
theorem dL_isRight_140 : decode cL_isRight 140 = .ok (.imul, 1) := by decide +kernel
theorem dL_isRight_141 : decode cL_isRight 141 = .ok (.if_icmp .gt 83, 3) := by decide +kernel
theorem dL_isRight_144 : decode cL_isRight 144 = .ok (.aload_n 0, 1) := by decide +kernel
theorem dL_isRight_145 : decode cL_isRight 145 = .ok (.iload 12, 2) := by decide +kernel
theorem dL_isRight_147 : decode cL_isRight 147 = .ok (.iload 10, 2) := by decide +kernel
theorem dL_isRight_149 : decode cL_isRight 149 = .ok (.iload 7, 2) := by decide +kernel
theorem dL_isRight_151 : decode cL_isRight 151 = .ok (.invokevirtual 295, 3) := by decide +kernel
theorem dL_isRight_154 : decode cL_isRight 154 = .ok (.ifCond .eq 18, 3) := by decide +kernel
theorem dL_isRight_157 : decode cL_isRight 157 = .ok (.iload 13, 2) := by decide +kernel
theorem dL_isRight_159 : decode cL_isRight 159 = .ok (.invokestatic 25, 3) := by decide +kernel
theorem dL_isRight_162 : decode cL_isRight 162 = .ok (.aload_n 0, 1) := by decide +kernel
theorem dL_isRight_163 : decode cL_isRight 163 = .ok (.iload 12, 2) := by decide +kernel
theorem dL_isRight_165 : decode cL_isRight 165 = .ok (.iconst 0, 1) := by decide +kernel
theorem dL_isRight_166 : decode cL_isRight 166 = .ok (.invokevirtual 193, 3) := by decide +kernel
theorem dL_isRight_169 : decode cL_isRight 169 = .ok (.if_icmp .gt 55, 3) := by decide +kernel
theorem dL_isRight_172 : decode cL_isRight 172 = .ok (.aload_n 0, 1) := by decide +kernel
theorem dL_isRight_173 : decode cL_isRight 173 = .ok (.iload 12, 2) := by decide +kernel
theorem dL_isRight_175 : decode cL_isRight 175 = .ok (.invokevirtual 189, 3) := by decide +kernel
theorem dL_isRight_178 : decode cL_isRight 178 = .ok (.ifCond .ne 8, 3) := by decide +kernel
theorem dL_isRight_181 : decode cL_isRight 181 = .ok (.iload 13, 2) := by decide +kernel
theorem dL_isRight_183 : decode cL_isRight 183 = .ok (.ifCond .ne 41, 3) := by decide +kernel
theorem dL_isRight_186 : decode cL_isRight 186 = .ok (.iload 17, 2) := by decide +kernel
theorem dL_isRight_188 : decode cL_isRight 188 = .ok (.ifCond .ge 38, 3) := by decide +kernel
theorem dL_isRight_191 : decode cL_isRight 191 = .ok (.iload 13, 2) := by decide +kernel
theorem dL_isRight_193 : decode cL_isRight 193 = .ok (.ifCond .ne 31, 3) := by decide +kernel
theorem dL_isRight_196 : decode cL_isRight 196 = .ok (.aload_n 0, 1) := by decide +kernel
theorem dL_isRight_197 : decode cL_isRight 197 = .ok (.iload 12, 2) := by decide +kernel
theorem dL_isRight_199 : decode cL_isRight 199 = .ok (.iload 10, 2) := by decide +kernel
theorem dL_isRight_201 : decode cL_isRight 201 = .ok (.iload 7, 2) := by decide +kernel
theorem dL_isRight_203 : decode cL_isRight 203 = .ok (.invokevirtual 298, 3) := by decide +kernel
theorem dL_isRight_206 : decode cL_isRight 206 = .ok (.iconst (-1), 1) := by decide +kernel
theorem dL_isRight_207 : decode cL_isRight 207 = .ok (.if_icmp .ne 17, 3) := by decide +kernel
theorem dL_isRight_210 : decode cL_isRight 210 = .ok (.aload_n 0, 1) := by decide +kernel
theorem dL_isRight_211 : decode cL_isRight 211 = .ok (.iload 12, 2) := by decide +kernel
theorem dL_isRight_213 : decode cL_isRight 213 = .ok (.iload 10, 2) := by decide +kernel
theorem dL_isRight_215 : decode cL_isRight 215 = .ok (.iload 7, 2) := by decide +kernel
theorem dL_isRight_217 : decode cL_isRight 217 = .ok (.invokevirtual 301, 3) := by decide +kernel
theorem dL_isRight_220 : decode cL_isRight 220 = .ok (.iconst (-1), 1) := by decide +kernel
theorem dL_isRight_221 : decode cL_isRight 221 = .ok (.if_icmp .eq 5, 3) := by decide +kernel
theorem dL_isRight_224 : decode cL_isRight 224 = .ok (.iconst 0, 1) := by decide +kernel
theorem dL_isRight_225 : decode cL_isRight 225 = .ok (.ireturn, 1) := by decide +kernel
theorem dL_isRight_226 : decode cL_isRight 226 = .ok (.iload 17, 2) := by decide +kernel
theorem dL_isRight_228 : decode cL_isRight 228 = .ok (.ifCond .lt 74, 3) := by decide +kernel
theorem dL_isRight_231 : decode cL_isRight 231 = .ok (.aload_n 0, 1) := by decide +kernel
theorem dL_isRight_232 : decode cL_isRight 232 = .ok (.iload 12, 2) := by decide +kernel
theorem dL_isRight_234 : decode cL_isRight 234 = .ok (.iload 10, 2) := by decide +kernel
theorem dL_isRight_236 : decode cL_isRight 236 = .ok (.iload 7, 2) := by decide +kernel
theorem dL_isRight_238 : decode cL_isRight 238 = .ok (.invokevirtual 295, 3) := by decide +kernel
theorem dL_isRight_241 : decode cL_isRight 241 = .ok (.ifCond .ne 10, 3) := by decide +kernel
theorem dL_isRight_244 : decode cL_isRight 244 = .ok (.iload 17, 2) := by decide +kernel
theorem dL_isRight_246 : decode cL_isRight 246 = .ok (.iload 16, 2) := by decide +kernel
theorem dL_isRight_248 : decode cL_isRight 248 = .ok (.if_icmp .ne 52, 3) := by decide +kernel
theorem dL_isRight_251 : decode cL_isRight 251 = .ok (.aload_n 0, 1) := by decide +kernel
theorem dL_isRight_252 : decode cL_isRight 252 = .ok (.iload 12, 2) := by decide +kernel
theorem dL_isRight_254 : decode cL_isRight 254 = .ok (.iload 10, 2) := by decide +kernel
theorem dL_isRight_256 : decode cL_isRight 256 = .ok (.iload 7, 2) := by decide +kernel
theorem dL_isRight_258 : decode cL_isRight 258 = .ok (.invokevirtual 298, 3) := by decide +kernel
theorem dL_isRight_261 : decode cL_isRight 261 = .ok (.aload_n 0, 1) := by decide +kernel
theorem dL_isRight_262 : decode cL_isRight 262 = .ok (.iload 12, 2) := by decide +kernel
theorem dL_isRight_264 : decode cL_isRight 264 = .ok (.iconst 4, 1) := by decide +kernel
theorem dL_isRight_265 : decode cL_isRight 265 = .ok (.invokevirtual 193, 3) := by decide +kernel
theorem dL_isRight_268 : decode cL_isRight 268 = .ok (.if_icmp .lt 32, 3) := by decide +kernel
theorem dL_isRight_271 : decode cL_isRight 271 = .ok (.aload_n 0, 1) := by decide +kernel
theorem dL_isRight_272 : decode cL_isRight 272 = .ok (.iload 12, 2) := by decide +kernel
theorem dL_isRight_274 : decode cL_isRight 274 = .ok (.iload 10, 2) := by decide +kernel
theorem dL_isRight_276 : decode cL_isRight 276 = .ok (.iload 7, 2) := by decide +kernel
theorem dL_isRight_278 : decode cL_isRight 278 = .ok (.invokevirtual 301, 3) := by decide +kernel
theorem dL_isRight_281 : decode cL_isRight 281 = .ok (.ifCond .lt 19, 3) := by decide +kernel
theorem dL_isRight_284 : decode cL_isRight 284 = .ok (.aload_n 0, 1) := by decide +kernel
theorem dL_isRight_285 : decode cL_isRight 285 = .ok (.iload 12, 2) := by decide +kernel
theorem dL_isRight_287 : decode cL_isRight 287 = .ok (.iload 10, 2) := by decide +kernel
theorem dL_isRight_289 : decode cL_isRight 289 = .ok (.iload 7, 2) := by decide +kernel
theorem dL_isRight_291 : decode cL_isRight 291 = .ok (.invokevirtual 301, 3) := by decide +kernel
theorem dL_isRight_294 : decode cL_isRight 294 = .ok (.sipush 359, 3) := by decide +kernel
theorem dL_isRight_297 : decode cL_isRight 297 = .ok (.if_icmp .le 5, 3) := by decide +kernel
theorem dL_isRight_300 : decode cL_isRight 300 = .ok (.iconst 0, 1) := by decide +kernel
theorem dL_isRight_301 : decode cL_isRight 301 = .ok (.ireturn, 1) := by decide +kernel
theorem dL_isRight_302 : decode cL_isRight 302 = .ok (.iconst 0, 1) := by decide +kernel
theorem dL_isRight_303 : decode cL_isRight 303 = .ok (.istore 18, 2) := by decide +kernel
theorem dL_isRight_305 : decode cL_isRight 305 = .ok (.iload 18, 2) := by decide +kernel
theorem dL_isRight_307 : decode cL_isRight 307 = .ok (.aload_n 1, 1) := by decide +kernel
theorem dL_isRight_308 : decode cL_isRight 308 = .ok (.iconst 2, 1) := by decide +kernel
theorem dL_isRight_309 : decode cL_isRight 309 = .ok (.iaload, 1) := by decide +kernel
theorem dL_isRight_310 : decode cL_isRight 310 = .ok (.if_icmp .ge 55, 3) := by decide +kernel
theorem dL_isRight_313 : decode cL_isRight 313 = .ok (.aload_n 0, 1) := by decide +kernel
theorem dL_isRight_314 : decode cL_isRight 314 = .ok (.iload 12, 2) := by decide +kernel
theorem dL_isRight_316 : decode cL_isRight 316 = .ok (.iload 10, 2) := by decide +kernel
theorem dL_isRight_318 : decode cL_isRight 318 = .ok (.iload 7, 2) := by decide +kernel
theorem dL_isRight_320 : decode cL_isRight 320 = .ok (.invokevirtual 295, 3) := by decide +kernel
theorem dL_isRight_323 : decode cL_isRight 323 = .ok (.ifCond .eq 42, 3) := by decide +kernel
theorem dL_isRight_326 : decode cL_isRight 326 = .ok (.iload 17, 2) := by decide +kernel
theorem dL_isRight_328 : decode cL_isRight 328 = .ok (.ifCond .lt 37, 3) := by decide +kernel
theorem dL_isRight_331 : decode cL_isRight 331 = .ok (.aload_n 0, 1) := by decide +kernel
theorem dL_isRight_332 : decode cL_isRight 332 = .ok (.iload 18, 2) := by decide +kernel
theorem dL_isRight_334 : decode cL_isRight 334 = .ok (.invokevirtual 260, 3) := by decide +kernel
theorem dL_isRight_337 : decode cL_isRight 337 = .ok (.ifCond .eq 22, 3) := by decide +kernel
theorem dL_isRight_340 : decode cL_isRight 340 = .ok (.aload_n 0, 1) := by decide +kernel
theorem dL_isRight_341 : decode cL_isRight 341 = .ok (.iload 12, 2) := by decide +kernel
theorem dL_isRight_343 : decode cL_isRight 343 = .ok (.iload 10, 2) := by decide +kernel
theorem dL_isRight_345 : decode cL_isRight 345 = .ok (.iload 7, 2) := by decide +kernel
theorem dL_isRight_347 : decode cL_isRight 347 = .ok (.iload 18, 2) := by decide +kernel
theorem dL_isRight_349 : decode cL_isRight 349 = .ok (.invokevirtual 304, 3) := by decide +kernel
theorem dL_isRight_352 : decode cL_isRight 352 = .ok (.iload 17, 2) := by decide +kernel
theorem dL_isRight_354 : decode cL_isRight 354 = .ok (.if_icmp .ge 5, 3) := by decide +kernel
theorem dL_isRight_357 : decode cL_isRight 357 = .ok (.iconst 0, 1) := by decide +kernel
theorem dL_isRight_358 : decode cL_isRight 358 = .ok (.ireturn, 1) := by decide +kernel
theorem dL_isRight_359 : decode cL_isRight 359 = .ok (.iinc 18 1, 3) := by decide +kernel
theorem dL_isRight_362 : decode cL_isRight 362 = .ok (.goto (-57), 3) := by decide +kernel
theorem dL_isRight_365 : decode cL_isRight 365 = .ok (.iinc 12 1, 3) := by decide +kernel
theorem dL_isRight_368 : decode cL_isRight 368 = .ok (.goto (-329), 3) := by decide +kernel
theorem dL_isRight_371 : decode cL_isRight 371 = .ok (.aload_n 0, 1) := by decide +kernel
theorem dL_isRight_372 : decode cL_isRight 372 = .ok (.iload 10, 2) := by decide +kernel
theorem dL_isRight_374 : decode cL_isRight 374 = .ok (.iload 7, 2) := by decide +kernel
theorem dL_isRight_376 : decode cL_isRight 376 = .ok (.iload_n 2, 1) := by decide +kernel
theorem dL_isRight_377 : decode cL_isRight 377 = .ok (.invokevirtual 262, 3) := by decide +kernel
theorem dL_isRight_380 : decode cL_isRight 380 = .ok (.lstore 12, 2) := by decide +kernel
theorem dL_isRight_382 : decode cL_isRight 382 = .ok (.lload 8, 2) := by decide +kernel
theorem dL_isRight_384 : decode cL_isRight 384 = .ok (.lload 12, 2) := by decide +kernel
theorem dL_isRight_386 : decode cL_isRight 386 = .ok (.ladd, 1) := by decide +kernel
theorem dL_isRight_387 : decode cL_isRight 387 = .ok (.lstore 8, 2) := by decide +kernel
theorem dL_isRight_389 : decode cL_isRight 389 = .ok (.aload_n 1, 1) := by decide +kernel
theorem dL_isRight_390 : decode cL_isRight 390 = .ok (.iload 10, 2) := by decide +kernel
theorem dL_isRight_392 : decode cL_isRight 392 = .ok (.iload 7, 2) := by decide +kernel
theorem dL_isRight_394 : decode cL_isRight 394 = .ok (.iload 11, 2) := by decide +kernel
theorem dL_isRight_396 : decode cL_isRight 396 = .ok (.invokestatic 170, 3) := by decide +kernel
theorem dL_isRight_399 : decode cL_isRight 399 = .ok (.istore 11, 2) := by decide +kernel
theorem dL_isRight_401 : decode cL_isRight 401 = .ok (.aload_n 0, 1) := by decide +kernel
theorem dL_isRight_402 : decode cL_isRight 402 = .ok (.iload 10, 2) := by decide +kernel
theorem dL_isRight_404 : decode cL_isRight 404 = .ok (.iload 7, 2) := by decide +kernel
theorem dL_isRight_406 : decode cL_isRight 406 = .ok (.invokevirtual 200, 3) := by decide +kernel
theorem dL_isRight_409 : decode cL_isRight 409 = .ok (.iload 11, 2) := by decide +kernel
theorem dL_isRight_411 : decode cL_isRight 411 = .ok (.if_icmp .ne 83, 3) := by decide +kernel
theorem dL_isRight_414 : decode cL_isRight 414 = .ok (.aload_n 0, 1) := by decide +kernel
theorem dL_isRight_415 : decode cL_isRight 415 = .ok (.iload 10, 2) := by decide +kernel
theorem dL_isRight_417 : decode cL_isRight 417 = .ok (.iload 7, 2) := by decide +kernel
theorem dL_isRight_419 : decode cL_isRight 419 = .ok (.aload_n 0, 1) := by decide +kernel
theorem dL_isRight_420 : decode cL_isRight 420 = .ok (.invokevirtual 176, 3) := by decide +kernel
theorem dL_isRight_423 : decode cL_isRight 423 = .ok (.invokevirtual 269, 3) := by decide +kernel
theorem dL_isRight_426 : decode cL_isRight 426 = .ok (.iload 11, 2) := by decide +kernel
theorem dL_isRight_428 : decode cL_isRight 428 = .ok (.if_icmp .ne 66, 3) := by decide +kernel
theorem dL_isRight_431 : decode cL_isRight 431 = .ok (.iload_n 2, 1) := by decide +kernel
theorem dL_isRight_432 : decode cL_isRight 432 = .ok (.iconst 1, 1) := by decide +kernel
theorem dL_isRight_433 : decode cL_isRight 433 = .ok (.if_icmp .ne 16, 3) := by decide +kernel
theorem dL_isRight_436 : decode cL_isRight 436 = .ok (.lload 12, 2) := by decide +kernel
theorem dL_isRight_438 : decode cL_isRight 438 = .ok (.iload 11, 2) := by decide +kernel
theorem dL_isRight_440 : decode cL_isRight 440 = .ok (.i2l, 1) := by decide +kernel
theorem dL_isRight_441 : decode cL_isRight 441 = .ok (.iload 11, 2) := by decide +kernel
theorem dL_isRight_443 : decode cL_isRight 443 = .ok (.i2l, 1) := by decide +kernel
theorem dL_isRight_444 : decode cL_isRight 444 = .ok (.lmul, 1) := by decide +kernel
theorem dL_isRight_445 : decode cL_isRight 445 = .ok (.lcmp, 1) := by decide +kernel
theorem dL_isRight_446 : decode cL_isRight 446 = .ok (.ifCond .ne 48, 3) := by decide +kernel
theorem dL_isRight_449 : decode cL_isRight 449 = .ok (.aload_n 0, 1) := by decide +kernel
theorem dL_isRight_450 : decode cL_isRight 450 = .ok (.iload 10, 2) := by decide +kernel
theorem dL_isRight_452 : decode cL_isRight 452 = .ok (.iload 7, 2) := by decide +kernel
theorem dL_isRight_454 : decode cL_isRight 454 = .ok (.iload_n 2, 1) := by decide +kernel
theorem dL_isRight_455 : decode cL_isRight 455 = .ok (.iconst 0, 1) := by decide +kernel
theorem dL_isRight_456 : decode cL_isRight 456 = .ok (.invokevirtual 307, 3) := by decide +kernel
theorem dL_isRight_459 : decode cL_isRight 459 = .ok (.lload 12, 2) := by decide +kernel
theorem dL_isRight_461 : decode cL_isRight 461 = .ok (.lconst 0, 1) := by decide +kernel
theorem dL_isRight_462 : decode cL_isRight 462 = .ok (.lcmp, 1) := by decide +kernel
theorem dL_isRight_463 : decode cL_isRight 463 = .ok (.ifCond .ne 7, 3) := by decide +kernel
theorem dL_isRight_466 : decode cL_isRight 466 = .ok (.iconst 1, 1) := by decide +kernel
theorem dL_isRight_467 : decode cL_isRight 467 = .ok (.goto 4, 3) := by decide +kernel
theorem dL_isRight_470 : decode cL_isRight 470 = .ok (.iconst 0, 1) := by decide +kernel
theorem dL_isRight_471 : decode cL_isRight 471 = .ok (.if_icmp .ne 23, 3) := by decide +kernel
theorem dL_isRight_474 : decode cL_isRight 474 = .ok (.lload 12, 2) := by decide +kernel
theorem dL_isRight_476 : decode cL_isRight 476 = .ok (.lconst 0, 1) := by decide +kernel
theorem dL_isRight_477 : decode cL_isRight 477 = .ok (.lcmp, 1) := by decide +kernel
theorem dL_isRight_478 : decode cL_isRight 478 = .ok (.ifCond .ne 18, 3) := by decide +kernel
theorem dL_isRight_481 : decode cL_isRight 481 = .ok (.aload_n 0, 1) := by decide +kernel
theorem dL_isRight_482 : decode cL_isRight 482 = .ok (.iload 10, 2) := by decide +kernel
theorem dL_isRight_484 : decode cL_isRight 484 = .ok (.iload 7, 2) := by decide +kernel
theorem dL_isRight_486 : decode cL_isRight 486 = .ok (.iload_n 2, 1) := by decide +kernel
theorem dL_isRight_487 : decode cL_isRight 487 = .ok (.iconst 1, 1) := by decide +kernel
theorem dL_isRight_488 : decode cL_isRight 488 = .ok (.invokevirtual 311, 3) := by decide +kernel
theorem dL_isRight_491 : decode cL_isRight 491 = .ok (.ifCond .eq 5, 3) := by decide +kernel
theorem dL_isRight_494 : decode cL_isRight 494 = .ok (.iconst 0, 1) := by decide +kernel
theorem dL_isRight_495 : decode cL_isRight 495 = .ok (.ireturn, 1) := by decide +kernel
theorem dL_isRight_496 : decode cL_isRight 496 = .ok (.iload_n 3, 1) := by decide +kernel
theorem dL_isRight_497 : decode cL_isRight 497 = .ok (.aload_n 0, 1) := by decide +kernel
theorem dL_isRight_498 : decode cL_isRight 498 = .ok (.iload 10, 2) := by decide +kernel
theorem dL_isRight_500 : decode cL_isRight 500 = .ok (.iload 7, 2) := by decide +kernel
theorem dL_isRight_502 : decode cL_isRight 502 = .ok (.iload_n 2, 1) := by decide +kernel
theorem dL_isRight_503 : decode cL_isRight 503 = .ok (.bipush 20, 2) := by decide +kernel
theorem dL_isRight_505 : decode cL_isRight 505 = .ok (.invokevirtual 307, 3) := by decide +kernel
theorem dL_isRight_508 : decode cL_isRight 508 = .ok (.ifCond .eq 7, 3) := by decide +kernel
theorem dL_isRight_511 : decode cL_isRight 511 = .ok (.iconst 1, 1) := by decide +kernel
theorem dL_isRight_512 : decode cL_isRight 512 = .ok (.goto 4, 3) := by decide +kernel
theorem dL_isRight_515 : decode cL_isRight 515 = .ok (.iconst 0, 1) := by decide +kernel
theorem dL_isRight_516 : decode cL_isRight 516 = .ok (.iadd, 1) := by decide +kernel
theorem dL_isRight_517 : decode cL_isRight 517 = .ok (.istore_n 3, 1) := by decide +kernel
theorem dL_isRight_518 : decode cL_isRight 518 = .ok (.iload 4, 2) := by decide +kernel
theorem dL_isRight_520 : decode cL_isRight 520 = .ok (.aload_n 0, 1) := by decide +kernel
theorem dL_isRight_521 : decode cL_isRight 521 = .ok (.iload 10, 2) := by decide +kernel
theorem dL_isRight_523 : decode cL_isRight 523 = .ok (.iload 7, 2) := by decide +kernel
theorem dL_isRight_525 : decode cL_isRight 525 = .ok (.iload_n 2, 1) := by decide +kernel
theorem dL_isRight_526 : decode cL_isRight 526 = .ok (.bipush 50, 2) := by decide +kernel
theorem dL_isRight_528 : decode cL_isRight 528 = .ok (.invokevirtual 311, 3) := by decide +kernel
theorem dL_isRight_531 : decode cL_isRight 531 = .ok (.ifCond .eq 7, 3) := by decide +kernel
theorem dL_isRight_534 : decode cL_isRight 534 = .ok (.iconst 1, 1) := by decide +kernel
theorem dL_isRight_535 : decode cL_isRight 535 = .ok (.goto 4, 3) := by decide +kernel
theorem dL_isRight_538 : decode cL_isRight 538 = .ok (.iconst 0, 1) := by decide +kernel
theorem dL_isRight_539 : decode cL_isRight 539 = .ok (.iadd, 1) := by decide +kernel
theorem dL_isRight_540 : decode cL_isRight 540 = .ok (.istore 4, 2) := by decide +kernel
theorem dL_isRight_542 : decode cL_isRight 542 = .ok (.iinc 10 1, 3) := by decide +kernel
theorem dL_isRight_545 : decode cL_isRight 545 = .ok (.goto (-520), 3) := by decide +kernel
theorem dL_isRight_548 : decode cL_isRight 548 = .ok (.aload_n 0, 1) := by decide +kernel
theorem dL_isRight_549 : decode cL_isRight 549 = .ok (.iload 7, 2) := by decide +kernel
theorem dL_isRight_551 : decode cL_isRight 551 = .ok (.iload_n 2, 1) := by decide +kernel
theorem dL_isRight_552 : decode cL_isRight 552 = .ok (.invokevirtual 314, 3) := by decide +kernel
theorem dL_isRight_555 : decode cL_isRight 555 = .ok (.lload 8, 2) := by decide +kernel
theorem dL_isRight_557 : decode cL_isRight 557 = .ok (.lcmp, 1) := by decide +kernel
theorem dL_isRight_558 : decode cL_isRight 558 = .ok (.ifCond .eq 5, 3) := by decide +kernel
theorem dL_isRight_561 : decode cL_isRight 561 = .ok (.iconst 0, 1) := by decide +kernel
theorem dL_isRight_562 : decode cL_isRight 562 = .ok (.ireturn, 1) := by decide +kernel
theorem dL_isRight_563 : decode cL_isRight 563 = .ok (.lload 5, 2) := by decide +kernel
theorem dL_isRight_565 : decode cL_isRight 565 = .ok (.lload 8, 2) := by decide +kernel
theorem dL_isRight_567 : decode cL_isRight 567 = .ok (.ladd, 1) := by decide +kernel
theorem dL_isRight_568 : decode cL_isRight 568 = .ok (.lstore 5, 2) := by decide +kernel
theorem dL_isRight_570 : decode cL_isRight 570 = .ok (.iinc 7 1, 3) := by decide +kernel
theorem dL_isRight_573 : decode cL_isRight 573 = .ok (.goto (-562), 3) := by decide +kernel
theorem dL_isRight_576 : decode cL_isRight 576 = .ok (.aload_n 0, 1) := by decide +kernel
theorem dL_isRight_577 : decode cL_isRight 577 = .ok (.iload_n 2, 1) := by decide +kernel
theorem dL_isRight_578 : decode cL_isRight 578 = .ok (.invokevirtual 318, 3) := by decide +kernel
theorem dL_isRight_581 : decode cL_isRight 581 = .ok (.lload 5, 2) := by decide +kernel
theorem dL_isRight_583 : decode cL_isRight 583 = .ok (.lcmp, 1) := by decide +kernel
theorem dL_isRight_584 : decode cL_isRight 584 = .ok (.ifCond .ne 64, 3) := by decide +kernel
theorem dL_isRight_587 : decode cL_isRight 587 = .ok (.aload_n 0, 1) := by decide +kernel
theorem dL_isRight_588 : decode cL_isRight 588 = .ok (.iload_n 2, 1) := by decide +kernel
theorem dL_isRight_589 : decode cL_isRight 589 = .ok (.bipush 20, 2) := by decide +kernel
theorem dL_isRight_591 : decode cL_isRight 591 = .ok (.invokevirtual 243, 3) := by decide +kernel
theorem dL_isRight_594 : decode cL_isRight 594 = .ok (.iload_n 3, 1) := by decide +kernel
theorem dL_isRight_595 : decode cL_isRight 595 = .ok (.if_icmp .ne 53, 3) := by decide +kernel
theorem dL_isRight_598 : decode cL_isRight 598 = .ok (.aload_n 0, 1) := by decide +kernel
theorem dL_isRight_599 : decode cL_isRight 599 = .ok (.iload_n 2, 1) := by decide +kernel
theorem dL_isRight_600 : decode cL_isRight 600 = .ok (.bipush 50, 2) := by decide +kernel
theorem dL_isRight_602 : decode cL_isRight 602 = .ok (.invokevirtual 322, 3) := by decide +kernel
theorem dL_isRight_605 : decode cL_isRight 605 = .ok (.iload 4, 2) := by decide +kernel
theorem dL_isRight_607 : decode cL_isRight 607 = .ok (.if_icmp .ne 41, 3) := by decide +kernel
theorem dL_isRight_610 : decode cL_isRight 610 = .ok (.aload_n 0, 1) := by decide +kernel
theorem dL_isRight_611 : decode cL_isRight 611 = .ok (.iload_n 2, 1) := by decide +kernel
theorem dL_isRight_612 : decode cL_isRight 612 = .ok (.bipush 20, 2) := by decide +kernel
theorem dL_isRight_614 : decode cL_isRight 614 = .ok (.invokevirtual 325, 3) := by decide +kernel
theorem dL_isRight_617 : decode cL_isRight 617 = .ok (.iload_n 3, 1) := by decide +kernel
theorem dL_isRight_618 : decode cL_isRight 618 = .ok (.if_icmp .gt 30, 3) := by decide +kernel
theorem dL_isRight_621 : decode cL_isRight 621 = .ok (.aload_n 0, 1) := by decide +kernel
theorem dL_isRight_622 : decode cL_isRight 622 = .ok (.iload_n 2, 1) := by decide +kernel
theorem dL_isRight_623 : decode cL_isRight 623 = .ok (.bipush 20, 2) := by decide +kernel
theorem dL_isRight_625 : decode cL_isRight 625 = .ok (.invokevirtual 325, 3) := by decide +kernel
theorem dL_isRight_628 : decode cL_isRight 628 = .ok (.ifCond .ne 7, 3) := by decide +kernel
theorem dL_isRight_631 : decode cL_isRight 631 = .ok (.iconst 1, 1) := by decide +kernel
theorem dL_isRight_632 : decode cL_isRight 632 = .ok (.goto 4, 3) := by decide +kernel
theorem dL_isRight_635 : decode cL_isRight 635 = .ok (.iconst 0, 1) := by decide +kernel
theorem dL_isRight_636 : decode cL_isRight 636 = .ok (.iload_n 3, 1) := by decide +kernel
theorem dL_isRight_637 : decode cL_isRight 637 = .ok (.ifCond .ne 7, 3) := by decide +kernel
theorem dL_isRight_640 : decode cL_isRight 640 = .ok (.iconst 1, 1) := by decide +kernel
theorem dL_isRight_641 : decode cL_isRight 641 = .ok (.goto 4, 3) := by decide +kernel
theorem dL_isRight_644 : decode cL_isRight 644 = .ok (.iconst 0, 1) := by decide +kernel
theorem dL_isRight_645 : decode cL_isRight 645 = .ok (.if_icmp .eq 5, 3) := by decide +kernel
theorem dL_isRight_648 : decode cL_isRight 648 = .ok (.iconst 0, 1) := by decide +kernel
theorem dL_isRight_649 : decode cL_isRight 649 = .ok (.ireturn, 1) := by decide +kernel
theorem dL_isRight_650 : decode cL_isRight 650 = .ok (.iconst 0, 1) := by decide +kernel
theorem dL_isRight_651 : decode cL_isRight 651 = .ok (.istore 7, 2) := by decide +kernel
theorem dL_isRight_653 : decode cL_isRight 653 = .ok (.iload 7, 2) := by decide +kernel
theorem dL_isRight_655 : decode cL_isRight 655 = .ok (.aload_n 1, 1) := by decide +kernel
theorem dL_isRight_656 : decode cL_isRight 656 = .ok (.bipush 82, 2) := by decide +kernel
theorem dL_isRight_658 : decode cL_isRight 658 = .ok (.iaload, 1) := by decide +kernel
theorem dL_isRight_659 : decode cL_isRight 659 = .ok (.if_icmp .ge 64, 3) := by decide +kernel
theorem dL_isRight_662 : decode cL_isRight 662 = .ok (.aload_n 0, 1) := by decide +kernel
theorem dL_isRight_663 : decode cL_isRight 663 = .ok (.iload 7, 2) := by decide +kernel
theorem dL_isRight_665 : decode cL_isRight 665 = .ok (.iload_n 2, 1) := by decide +kernel
theorem dL_isRight_666 : decode cL_isRight 666 = .ok (.invokevirtual 328, 3) := by decide +kernel
theorem dL_isRight_669 : decode cL_isRight 669 = .ok (.aload_n 0, 1) := by decide +kernel
theorem dL_isRight_670 : decode cL_isRight 670 = .ok (.aload_n 0, 1) := by decide +kernel
theorem dL_isRight_671 : decode cL_isRight 671 = .ok (.iload 7, 2) := by decide +kernel
theorem dL_isRight_673 : decode cL_isRight 673 = .ok (.iconst 0, 1) := by decide +kernel
theorem dL_isRight_674 : decode cL_isRight 674 = .ok (.invokevirtual 331, 3) := by decide +kernel
theorem dL_isRight_677 : decode cL_isRight 677 = .ok (.aload_n 0, 1) := by decide +kernel
theorem dL_isRight_678 : decode cL_isRight 678 = .ok (.iload 7, 2) := by decide +kernel
theorem dL_isRight_680 : decode cL_isRight 680 = .ok (.iconst 1, 1) := by decide +kernel
theorem dL_isRight_681 : decode cL_isRight 681 = .ok (.invokevirtual 331, 3) := by decide +kernel
theorem dL_isRight_684 : decode cL_isRight 684 = .ok (.invokevirtual 200, 3) := by decide +kernel
theorem dL_isRight_687 : decode cL_isRight 687 = .ok (.invokestatic 25, 3) := by decide +kernel
theorem dL_isRight_690 : decode cL_isRight 690 = .ok (.if_icmp .lt 25, 3) := by decide +kernel
theorem dL_isRight_693 : decode cL_isRight 693 = .ok (.aload_n 0, 1) := by decide +kernel
theorem dL_isRight_694 : decode cL_isRight 694 = .ok (.iload 7, 2) := by decide +kernel
theorem dL_isRight_696 : decode cL_isRight 696 = .ok (.iload_n 2, 1) := by decide +kernel
theorem dL_isRight_697 : decode cL_isRight 697 = .ok (.invokevirtual 334, 3) := by decide +kernel
theorem dL_isRight_700 : decode cL_isRight 700 = .ok (.iload_n 2, 1) := by decide +kernel
theorem dL_isRight_701 : decode cL_isRight 701 = .ok (.if_icmp .ge 14, 3) := by decide +kernel
theorem dL_isRight_704 : decode cL_isRight 704 = .ok (.aload_n 0, 1) := by decide +kernel
theorem dL_isRight_705 : decode cL_isRight 705 = .ok (.iload 7, 2) := by decide +kernel
theorem dL_isRight_707 : decode cL_isRight 707 = .ok (.iload_n 2, 1) := by decide +kernel
theorem dL_isRight_708 : decode cL_isRight 708 = .ok (.invokevirtual 337, 3) := by decide +kernel
theorem dL_isRight_711 : decode cL_isRight 711 = .ok (.iconst 1, 1) := by decide +kernel
theorem dL_isRight_712 : decode cL_isRight 712 = .ok (.if_icmp .ge 5, 3) := by decide +kernel
theorem dL_isRight_715 : decode cL_isRight 715 = .ok (.iconst 0, 1) := by decide +kernel
theorem dL_isRight_716 : decode cL_isRight 716 = .ok (.ireturn, 1) := by decide +kernel
theorem dL_isRight_717 : decode cL_isRight 717 = .ok (.iinc 7 1, 3) := by decide +kernel
theorem dL_isRight_720 : decode cL_isRight 720 = .ok (.goto (-67), 3) := by decide +kernel
theorem dL_isRight_723 : decode cL_isRight 723 = .ok (.aload_n 0, 1) := by decide +kernel
theorem dL_isRight_724 : decode cL_isRight 724 = .ok (.iconst 0, 1) := by decide +kernel
theorem dL_isRight_725 : decode cL_isRight 725 = .ok (.iload_n 2, 1) := by decide +kernel
theorem dL_isRight_726 : decode cL_isRight 726 = .ok (.invokevirtual 340, 3) := by decide +kernel
theorem dL_isRight_729 : decode cL_isRight 729 = .ok (.istore 7, 2) := by decide +kernel
theorem dL_isRight_731 : decode cL_isRight 731 = .ok (.lload 5, 2) := by decide +kernel
theorem dL_isRight_733 : decode cL_isRight 733 = .ok (.lconst 0, 1) := by decide +kernel
theorem dL_isRight_734 : decode cL_isRight 734 = .ok (.lcmp, 1) := by decide +kernel
theorem dL_isRight_735 : decode cL_isRight 735 = .ok (.ifCond .ne 7, 3) := by decide +kernel
theorem dL_isRight_738 : decode cL_isRight 738 = .ok (.iconst 1, 1) := by decide +kernel
theorem dL_isRight_739 : decode cL_isRight 739 = .ok (.goto 4, 3) := by decide +kernel
theorem dL_isRight_742 : decode cL_isRight 742 = .ok (.iconst 0, 1) := by decide +kernel
theorem dL_isRight_743 : decode cL_isRight 743 = .ok (.aload_n 0, 1) := by decide +kernel
theorem dL_isRight_744 : decode cL_isRight 744 = .ok (.iload 7, 2) := by decide +kernel
theorem dL_isRight_746 : decode cL_isRight 746 = .ok (.aload_n 1, 1) := by decide +kernel
theorem dL_isRight_747 : decode cL_isRight 747 = .ok (.iconst 1, 1) := by decide +kernel
theorem dL_isRight_748 : decode cL_isRight 748 = .ok (.iaload, 1) := by decide +kernel
theorem dL_isRight_749 : decode cL_isRight 749 = .ok (.irem, 1) := by decide +kernel
theorem dL_isRight_750 : decode cL_isRight 750 = .ok (.iload 7, 2) := by decide +kernel
theorem dL_isRight_752 : decode cL_isRight 752 = .ok (.aload_n 1, 1) := by decide +kernel
theorem dL_isRight_753 : decode cL_isRight 753 = .ok (.iconst 1, 1) := by decide +kernel
theorem dL_isRight_754 : decode cL_isRight 754 = .ok (.iaload, 1) := by decide +kernel
theorem dL_isRight_755 : decode cL_isRight 755 = .ok (.idiv, 1) := by decide +kernel
theorem dL_isRight_756 : decode cL_isRight 756 = .ok (.iload_n 2, 1) := by decide +kernel
theorem dL_isRight_757 : decode cL_isRight 757 = .ok (.invokevirtual 262, 3) := by decide +kernel
theorem dL_isRight_760 : decode cL_isRight 760 = .ok (.lconst 0, 1) := by decide +kernel
theorem dL_isRight_761 : decode cL_isRight 761 = .ok (.lcmp, 1) := by decide +kernel
theorem dL_isRight_762 : decode cL_isRight 762 = .ok (.ifCond .ne 7, 3) := by decide +kernel
theorem dL_isRight_765 : decode cL_isRight 765 = .ok (.iconst 1, 1) := by decide +kernel
theorem dL_isRight_766 : decode cL_isRight 766 = .ok (.goto 4, 3) := by decide +kernel
theorem dL_isRight_769 : decode cL_isRight 769 = .ok (.iconst 0, 1) := by decide +kernel
theorem dL_isRight_770 : decode cL_isRight 770 = .ok (.if_icmp .ne 36, 3) := by decide +kernel
theorem dL_isRight_773 : decode cL_isRight 773 = .ok (.lload 5, 2) := by decide +kernel
theorem dL_isRight_775 : decode cL_isRight 775 = .ok (.lconst 0, 1) := by decide +kernel
theorem dL_isRight_776 : decode cL_isRight 776 = .ok (.lcmp, 1) := by decide +kernel
theorem dL_isRight_777 : decode cL_isRight 777 = .ok (.ifCond .eq 25, 3) := by decide +kernel
theorem dL_isRight_780 : decode cL_isRight 780 = .ok (.aload_n 0, 1) := by decide +kernel
theorem dL_isRight_781 : decode cL_isRight 781 = .ok (.iload 7, 2) := by decide +kernel
theorem dL_isRight_783 : decode cL_isRight 783 = .ok (.aload_n 1, 1) := by decide +kernel
theorem dL_isRight_784 : decode cL_isRight 784 = .ok (.iconst 1, 1) := by decide +kernel
theorem dL_isRight_785 : decode cL_isRight 785 = .ok (.iaload, 1) := by decide +kernel
theorem dL_isRight_786 : decode cL_isRight 786 = .ok (.irem, 1) := by decide +kernel
theorem dL_isRight_787 : decode cL_isRight 787 = .ok (.iload 7, 2) := by decide +kernel
theorem dL_isRight_789 : decode cL_isRight 789 = .ok (.aload_n 1, 1) := by decide +kernel
theorem dL_isRight_790 : decode cL_isRight 790 = .ok (.iconst 1, 1) := by decide +kernel
theorem dL_isRight_791 : decode cL_isRight 791 = .ok (.iaload, 1) := by decide +kernel
theorem dL_isRight_792 : decode cL_isRight 792 = .ok (.idiv, 1) := by decide +kernel
theorem dL_isRight_793 : decode cL_isRight 793 = .ok (.iload_n 2, 1) := by decide +kernel
theorem dL_isRight_794 : decode cL_isRight 794 = .ok (.bipush 100, 2) := by decide +kernel
theorem dL_isRight_796 : decode cL_isRight 796 = .ok (.invokevirtual 311, 3) := by decide +kernel
theorem dL_isRight_799 : decode cL_isRight 799 = .ok (.ifCond .eq 7, 3) := by decide +kernel
theorem dL_isRight_802 : decode cL_isRight 802 = .ok (.iconst 1, 1) := by decide +kernel
theorem dL_isRight_803 : decode cL_isRight 803 = .ok (.goto 4, 3) := by decide +kernel
theorem dL_isRight_806 : decode cL_isRight 806 = .ok (.iconst 0, 1) := by decide +kernel
theorem dL_isRight_807 : decode cL_isRight 807 = .ok (.ireturn, 1) := by decide +kernel
theorem dL_seen_0 : decode cL_seen 0 = .ok (.bipush 80, 2) := by decide +kernel
theorem dL_seen_2 : decode cL_seen 2 = .ok (.newarray .long, 2) := by decide +kernel
theorem dL_seen_4 : decode cL_seen 4 = .ok (.astore_n 2, 1) := by decide +kernel
theorem dL_seen_5 : decode cL_seen 5 = .ok (.iconst 0, 1) := by decide +kernel
theorem dL_seen_6 : decode cL_seen 6 = .ok (.istore_n 3, 1) := by decide +kernel
theorem dL_seen_7 : decode cL_seen 7 = .ok (.aload_n 2, 1) := by decide +kernel
theorem dL_seen_8 : decode cL_seen 8 = .ok (.iload_n 3, 1) := by decide +kernel
theorem dL_seen_9 : decode cL_seen 9 = .ok (.iinc 3 1, 3) := by decide +kernel
theorem dL_seen_12 : decode cL_seen 12 = .ok (.aload_n 0, 1) := by decide +kernel
theorem dL_seen_13 : decode cL_seen 13 = .ok (.invokevirtual 176, 3) := by decide +kernel
theorem dL_seen_16 : decode cL_seen 16 = .ok (.i2l, 1) := by decide +kernel
theorem dL_seen_17 : decode cL_seen 17 = .ok (.lastore, 1) := by decide +kernel
theorem dL_seen_18 : decode cL_seen 18 = .ok (.aload_n 2, 1) := by decide +kernel
theorem dL_seen_19 : decode cL_seen 19 = .ok (.iload_n 3, 1) := by decide +kernel
theorem dL_seen_20 : decode cL_seen 20 = .ok (.iinc 3 1, 3) := by decide +kernel
theorem dL_seen_23 : decode cL_seen 23 = .ok (.aload_n 0, 1) := by decide +kernel
theorem dL_seen_24 : decode cL_seen 24 = .ok (.invokevirtual 180, 3) := by decide +kernel
theorem dL_seen_27 : decode cL_seen 27 = .ok (.i2l, 1) := by decide +kernel
theorem dL_seen_28 : decode cL_seen 28 = .ok (.lastore, 1) := by decide +kernel
theorem dL_seen_29 : decode cL_seen 29 = .ok (.aload_n 2, 1) := by decide +kernel
theorem dL_seen_30 : decode cL_seen 30 = .ok (.iload_n 3, 1) := by decide +kernel
theorem dL_seen_31 : decode cL_seen 31 = .ok (.iinc 3 1, 3) := by decide +kernel
theorem dL_seen_34 : decode cL_seen 34 = .ok (.aload_n 0, 1) := by decide +kernel
theorem dL_seen_35 : decode cL_seen 35 = .ok (.iconst 3, 1) := by decide +kernel
theorem dL_seen_36 : decode cL_seen 36 = .ok (.invokevirtual 318, 3) := by decide +kernel
theorem dL_seen_39 : decode cL_seen 39 = .ok (.lastore, 1) := by decide +kernel
theorem dL_seen_40 : decode cL_seen 40 = .ok (.iconst 0, 1) := by decide +kernel
theorem dL_seen_41 : decode cL_seen 41 = .ok (.istore 4, 2) := by decide +kernel
theorem dL_seen_43 : decode cL_seen 43 = .ok (.iload 4, 2) := by decide +kernel
theorem dL_seen_45 : decode cL_seen 45 = .ok (.aload_n 1, 1) := by decide +kernel
theorem dL_seen_46 : decode cL_seen 46 = .ok (.bipush 6, 2) := by decide +kernel
theorem dL_seen_48 : decode cL_seen 48 = .ok (.iaload, 1) := by decide +kernel
theorem dL_seen_49 : decode cL_seen 49 = .ok (.if_icmp .ge 91, 3) := by decide +kernel
theorem dL_seen_52 : decode cL_seen 52 = .ok (.aload_n 2, 1) := by decide +kernel
theorem dL_seen_53 : decode cL_seen 53 = .ok (.iload_n 3, 1) := by decide +kernel
theorem dL_seen_54 : decode cL_seen 54 = .ok (.iinc 3 1, 3) := by decide +kernel
theorem dL_seen_57 : decode cL_seen 57 = .ok (.aload_n 0, 1) := by decide +kernel
theorem dL_seen_58 : decode cL_seen 58 = .ok (.iload 4, 2) := by decide +kernel
theorem dL_seen_60 : decode cL_seen 60 = .ok (.invokevirtual 189, 3) := by decide +kernel
theorem dL_seen_63 : decode cL_seen 63 = .ok (.ifCond .eq 7, 3) := by decide +kernel
theorem dL_seen_66 : decode cL_seen 66 = .ok (.lconst 1, 1) := by decide +kernel
theorem dL_seen_67 : decode cL_seen 67 = .ok (.goto 4, 3) := by decide +kernel
theorem dL_seen_70 : decode cL_seen 70 = .ok (.lconst 0, 1) := by decide +kernel
theorem dL_seen_71 : decode cL_seen 71 = .ok (.lastore, 1) := by decide +kernel
theorem dL_seen_72 : decode cL_seen 72 = .ok (.aload_n 2, 1) := by decide +kernel
theorem dL_seen_73 : decode cL_seen 73 = .ok (.iload_n 3, 1) := by decide +kernel
theorem dL_seen_74 : decode cL_seen 74 = .ok (.iinc 3 1, 3) := by decide +kernel
theorem dL_seen_77 : decode cL_seen 77 = .ok (.aload_n 0, 1) := by decide +kernel
theorem dL_seen_78 : decode cL_seen 78 = .ok (.iload 4, 2) := by decide +kernel
theorem dL_seen_80 : decode cL_seen 80 = .ok (.iconst 0, 1) := by decide +kernel
theorem dL_seen_81 : decode cL_seen 81 = .ok (.invokevirtual 193, 3) := by decide +kernel
theorem dL_seen_84 : decode cL_seen 84 = .ok (.i2l, 1) := by decide +kernel
theorem dL_seen_85 : decode cL_seen 85 = .ok (.lastore, 1) := by decide +kernel
theorem dL_seen_86 : decode cL_seen 86 = .ok (.aload_n 2, 1) := by decide +kernel
theorem dL_seen_87 : decode cL_seen 87 = .ok (.iload_n 3, 1) := by decide +kernel
theorem dL_seen_88 : decode cL_seen 88 = .ok (.iinc 3 1, 3) := by decide +kernel
theorem dL_seen_91 : decode cL_seen 91 = .ok (.aload_n 0, 1) := by decide +kernel
theorem dL_seen_92 : decode cL_seen 92 = .ok (.iload 4, 2) := by decide +kernel
theorem dL_seen_94 : decode cL_seen 94 = .ok (.iconst 3, 1) := by decide +kernel
theorem dL_seen_95 : decode cL_seen 95 = .ok (.invokevirtual 193, 3) := by decide +kernel
theorem dL_seen_98 : decode cL_seen 98 = .ok (.i2l, 1) := by decide +kernel
theorem dL_seen_99 : decode cL_seen 99 = .ok (.lastore, 1) := by decide +kernel
theorem dL_seen_100 : decode cL_seen 100 = .ok (.aload_n 2, 1) := by decide +kernel
theorem dL_seen_101 : decode cL_seen 101 = .ok (.iload_n 3, 1) := by decide +kernel
theorem dL_seen_102 : decode cL_seen 102 = .ok (.iinc 3 1, 3) := by decide +kernel
theorem dL_seen_105 : decode cL_seen 105 = .ok (.aload_n 0, 1) := by decide +kernel
theorem dL_seen_106 : decode cL_seen 106 = .ok (.iload 4, 2) := by decide +kernel
theorem dL_seen_108 : decode cL_seen 108 = .ok (.iconst 0, 1) := by decide +kernel
theorem dL_seen_109 : decode cL_seen 109 = .ok (.sipush 500, 3) := by decide +kernel
theorem dL_seen_112 : decode cL_seen 112 = .ok (.invokevirtual 196, 3) := by decide +kernel
theorem dL_seen_115 : decode cL_seen 115 = .ok (.i2l, 1) := by decide +kernel
theorem dL_seen_116 : decode cL_seen 116 = .ok (.lastore, 1) := by decide +kernel
theorem dL_seen_117 : decode cL_seen 117 = .ok (.aload_n 2, 1) := by decide +kernel
theorem dL_seen_118 : decode cL_seen 118 = .ok (.iload_n 3, 1) := by decide +kernel
theorem dL_seen_119 : decode cL_seen 119 = .ok (.iinc 3 1, 3) := by decide +kernel
theorem dL_seen_122 : decode cL_seen 122 = .ok (.aload_n 0, 1) := by decide +kernel
theorem dL_seen_123 : decode cL_seen 123 = .ok (.iload 4, 2) := by decide +kernel
theorem dL_seen_125 : decode cL_seen 125 = .ok (.iconst 1, 1) := by decide +kernel
theorem dL_seen_126 : decode cL_seen 126 = .ok (.sipush 500, 3) := by decide +kernel
theorem dL_seen_129 : decode cL_seen 129 = .ok (.invokevirtual 196, 3) := by decide +kernel
theorem dL_seen_132 : decode cL_seen 132 = .ok (.i2l, 1) := by decide +kernel
theorem dL_seen_133 : decode cL_seen 133 = .ok (.lastore, 1) := by decide +kernel
theorem dL_seen_134 : decode cL_seen 134 = .ok (.iinc 4 1, 3) := by decide +kernel
theorem dL_seen_137 : decode cL_seen 137 = .ok (.goto (-94), 3) := by decide +kernel
theorem dL_seen_140 : decode cL_seen 140 = .ok (.iconst 0, 1) := by decide +kernel
theorem dL_seen_141 : decode cL_seen 141 = .ok (.istore 4, 2) := by decide +kernel
theorem dL_seen_143 : decode cL_seen 143 = .ok (.iload 4, 2) := by decide +kernel
theorem dL_seen_145 : decode cL_seen 145 = .ok (.aload_n 1, 1) := by decide +kernel
theorem dL_seen_146 : decode cL_seen 146 = .ok (.iconst 1, 1) := by decide +kernel
theorem dL_seen_147 : decode cL_seen 147 = .ok (.iaload, 1) := by decide +kernel
theorem dL_seen_148 : decode cL_seen 148 = .ok (.aload_n 1, 1) := by decide +kernel
theorem dL_seen_149 : decode cL_seen 149 = .ok (.iconst 2, 1) := by decide +kernel
theorem dL_seen_150 : decode cL_seen 150 = .ok (.iaload, 1) := by decide +kernel
theorem dL_seen_151 : decode cL_seen 151 = .ok (.imul, 1) := by decide +kernel
theorem dL_seen_152 : decode cL_seen 152 = .ok (.if_icmp .ge 32, 3) := by decide +kernel
theorem dL_seen_155 : decode cL_seen 155 = .ok (.aload_n 2, 1) := by decide +kernel
theorem dL_seen_156 : decode cL_seen 156 = .ok (.iload_n 3, 1) := by decide +kernel
theorem dL_seen_157 : decode cL_seen 157 = .ok (.iinc 3 1, 3) := by decide +kernel
theorem dL_seen_160 : decode cL_seen 160 = .ok (.aload_n 0, 1) := by decide +kernel
theorem dL_seen_161 : decode cL_seen 161 = .ok (.iload 4, 2) := by decide +kernel
theorem dL_seen_163 : decode cL_seen 163 = .ok (.aload_n 1, 1) := by decide +kernel
theorem dL_seen_164 : decode cL_seen 164 = .ok (.iconst 1, 1) := by decide +kernel
theorem dL_seen_165 : decode cL_seen 165 = .ok (.iaload, 1) := by decide +kernel
theorem dL_seen_166 : decode cL_seen 166 = .ok (.irem, 1) := by decide +kernel
theorem dL_seen_167 : decode cL_seen 167 = .ok (.iload 4, 2) := by decide +kernel
theorem dL_seen_169 : decode cL_seen 169 = .ok (.aload_n 1, 1) := by decide +kernel
theorem dL_seen_170 : decode cL_seen 170 = .ok (.iconst 1, 1) := by decide +kernel
theorem dL_seen_171 : decode cL_seen 171 = .ok (.iaload, 1) := by decide +kernel
theorem dL_seen_172 : decode cL_seen 172 = .ok (.idiv, 1) := by decide +kernel
theorem dL_seen_173 : decode cL_seen 173 = .ok (.invokevirtual 200, 3) := by decide +kernel
theorem dL_seen_176 : decode cL_seen 176 = .ok (.i2l, 1) := by decide +kernel
theorem dL_seen_177 : decode cL_seen 177 = .ok (.lastore, 1) := by decide +kernel
theorem dL_seen_178 : decode cL_seen 178 = .ok (.iinc 4 1, 3) := by decide +kernel
theorem dL_seen_181 : decode cL_seen 181 = .ok (.goto (-38), 3) := by decide +kernel
theorem dL_seen_184 : decode cL_seen 184 = .ok (.aload_n 2, 1) := by decide +kernel
theorem dL_seen_185 : decode cL_seen 185 = .ok (.areturn, 1) := by decide +kernel
