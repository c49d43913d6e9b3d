theorem d_LAW_0 : decode code 0 = .ok (.new 8, 3) := by decide +kernel
theorem d_LAW_3 : decode code 3 = .ok (.dup, 1) := by decide +kernel
theorem d_LAW_4 : decode code 4 = .ok (.invokespecial 45, 3) := by decide +kernel
theorem d_LAW_7 : decode code 7 = .ok (.astore_n 1, 1) := by decide +kernel
theorem d_LAW_8 : decode code 8 = .ok (.new 46, 3) := by decide +kernel
theorem d_LAW_11 : decode code 11 = .ok (.dup, 1) := by decide +kernel
theorem d_LAW_12 : decode code 12 = .ok (.invokespecial 48, 3) := by decide +kernel
theorem d_LAW_15 : decode code 15 = .ok (.astore_n 2, 1) := by decide +kernel
theorem d_LAW_16 : decode code 16 = .ok (.iconst 1, 1) := by decide +kernel
theorem d_LAW_17 : decode code 17 = .ok (.newarray .long, 2) := by decide +kernel
theorem d_LAW_19 : decode code 19 = .ok (.astore_n 3, 1) := by decide +kernel
theorem d_LAW_20 : decode code 20 = .ok (.iconst 0, 1) := by decide +kernel
theorem d_LAW_21 : decode code 21 = .ok (.istore 4, 2) := by decide +kernel
theorem d_LAW_23 : decode code 23 = .ok (.iload 4, 2) := by decide +kernel
theorem d_LAW_25 : decode code 25 = .ok (.aload_n 0, 1) := by decide +kernel
theorem d_LAW_26 : decode code 26 = .ok (.arraylength, 1) := by decide +kernel
theorem d_LAW_27 : decode code 27 = .ok (.iconst 4, 1) := by decide +kernel
theorem d_LAW_28 : decode code 28 = .ok (.isub, 1) := by decide +kernel
theorem d_LAW_29 : decode code 29 = .ok (.if_icmp .gt 672, 3) := by decide +kernel
theorem d_LAW_32 : decode code 32 = .ok (.aload_n 0, 1) := by decide +kernel
theorem d_LAW_33 : decode code 33 = .ok (.iload 4, 2) := by decide +kernel
theorem d_LAW_35 : decode code 35 = .ok (.iaload, 1) := by decide +kernel
theorem d_LAW_36 : decode code 36 = .ok (.bipush 15, 2) := by decide +kernel
theorem d_LAW_38 : decode code 38 = .ok (.iand, 1) := by decide +kernel
theorem d_LAW_39 : decode code 39 = .ok (.tableswitch 656 0 9 #[53, 121, 177, 237, 305, 396, 452, 520, 587, 600], 53) := by decide +kernel
theorem d_LAW_92 : decode code 92 = .ok (.aload_n 1, 1) := by decide +kernel
theorem d_LAW_93 : decode code 93 = .ok (.aload_n 0, 1) := by decide +kernel
theorem d_LAW_94 : decode code 94 = .ok (.iload 4, 2) := by decide +kernel
theorem d_LAW_96 : decode code 96 = .ok (.iconst 1, 1) := by decide +kernel
theorem d_LAW_97 : decode code 97 = .ok (.iadd, 1) := by decide +kernel
theorem d_LAW_98 : decode code 98 = .ok (.iaload, 1) := by decide +kernel
theorem d_LAW_99 : decode code 99 = .ok (.aload_n 0, 1) := by decide +kernel
theorem d_LAW_100 : decode code 100 = .ok (.iload 4, 2) := by decide +kernel
theorem d_LAW_102 : decode code 102 = .ok (.iconst 2, 1) := by decide +kernel
theorem d_LAW_103 : decode code 103 = .ok (.iadd, 1) := by decide +kernel
theorem d_LAW_104 : decode code 104 = .ok (.iaload, 1) := by decide +kernel
theorem d_LAW_105 : decode code 105 = .ok (.aload_n 3, 1) := by decide +kernel
theorem d_LAW_106 : decode code 106 = .ok (.invokestatic 49, 3) := by decide +kernel
theorem d_LAW_109 : decode code 109 = .ok (.istore 5, 2) := by decide +kernel
theorem d_LAW_111 : decode code 111 = .ok (.aload_n 2, 1) := by decide +kernel
theorem d_LAW_112 : decode code 112 = .ok (.aload_n 0, 1) := by decide +kernel
theorem d_LAW_113 : decode code 113 = .ok (.iload 4, 2) := by decide +kernel
theorem d_LAW_115 : decode code 115 = .ok (.iconst 1, 1) := by decide +kernel
theorem d_LAW_116 : decode code 116 = .ok (.iadd, 1) := by decide +kernel
theorem d_LAW_117 : decode code 117 = .ok (.iaload, 1) := by decide +kernel
theorem d_LAW_118 : decode code 118 = .ok (.aload_n 0, 1) := by decide +kernel
theorem d_LAW_119 : decode code 119 = .ok (.iload 4, 2) := by decide +kernel
theorem d_LAW_121 : decode code 121 = .ok (.iconst 2, 1) := by decide +kernel
theorem d_LAW_122 : decode code 122 = .ok (.iadd, 1) := by decide +kernel
theorem d_LAW_123 : decode code 123 = .ok (.iaload, 1) := by decide +kernel
theorem d_LAW_124 : decode code 124 = .ok (.invokevirtual 54, 3) := by decide +kernel
theorem d_LAW_127 : decode code 127 = .ok (.istore 6, 2) := by decide +kernel
theorem d_LAW_129 : decode code 129 = .ok (.aload_n 2, 1) := by decide +kernel
theorem d_LAW_130 : decode code 130 = .ok (.invokevirtual 55, 3) := by decide +kernel
theorem d_LAW_133 : decode code 133 = .ok (.iload 5, 2) := by decide +kernel
theorem d_LAW_135 : decode code 135 = .ok (.if_icmp .eq 5, 3) := by decide +kernel
theorem d_LAW_138 : decode code 138 = .ok (.iconst 0, 1) := by decide +kernel
theorem d_LAW_139 : decode code 139 = .ok (.ireturn, 1) := by decide +kernel
theorem d_LAW_140 : decode code 140 = .ok (.iload 5, 2) := by decide +kernel
theorem d_LAW_142 : decode code 142 = .ok (.ifCond .ne 15, 3) := by decide +kernel
theorem d_LAW_145 : decode code 145 = .ok (.aload_n 3, 1) := by decide +kernel
theorem d_LAW_146 : decode code 146 = .ok (.iconst 0, 1) := by decide +kernel
theorem d_LAW_147 : decode code 147 = .ok (.laload, 1) := by decide +kernel
theorem d_LAW_148 : decode code 148 = .ok (.iload 6, 2) := by decide +kernel
theorem d_LAW_150 : decode code 150 = .ok (.i2l, 1) := by decide +kernel
theorem d_LAW_151 : decode code 151 = .ok (.lcmp, 1) := by decide +kernel
theorem d_LAW_152 : decode code 152 = .ok (.ifCond .eq 5, 3) := by decide +kernel
theorem d_LAW_155 : decode code 155 = .ok (.iconst 0, 1) := by decide +kernel
theorem d_LAW_156 : decode code 156 = .ok (.ireturn, 1) := by decide +kernel
theorem d_LAW_157 : decode code 157 = .ok (.goto 538, 3) := by decide +kernel
theorem d_LAW_160 : decode code 160 = .ok (.aload_n 1, 1) := by decide +kernel
theorem d_LAW_161 : decode code 161 = .ok (.aload_n 0, 1) := by decide +kernel
theorem d_LAW_162 : decode code 162 = .ok (.iload 4, 2) := by decide +kernel
theorem d_LAW_164 : decode code 164 = .ok (.iconst 1, 1) := by decide +kernel
theorem d_LAW_165 : decode code 165 = .ok (.iadd, 1) := by decide +kernel
theorem d_LAW_166 : decode code 166 = .ok (.iaload, 1) := by decide +kernel
theorem d_LAW_167 : decode code 167 = .ok (.aload_n 3, 1) := by decide +kernel
theorem d_LAW_168 : decode code 168 = .ok (.invokestatic 59, 3) := by decide +kernel
theorem d_LAW_171 : decode code 171 = .ok (.istore 5, 2) := by decide +kernel
theorem d_LAW_173 : decode code 173 = .ok (.aload_n 2, 1) := by decide +kernel
theorem d_LAW_174 : decode code 174 = .ok (.aload_n 0, 1) := by decide +kernel
theorem d_LAW_175 : decode code 175 = .ok (.iload 4, 2) := by decide +kernel
theorem d_LAW_177 : decode code 177 = .ok (.iconst 1, 1) := by decide +kernel
theorem d_LAW_178 : decode code 178 = .ok (.iadd, 1) := by decide +kernel
theorem d_LAW_179 : decode code 179 = .ok (.iaload, 1) := by decide +kernel
theorem d_LAW_180 : decode code 180 = .ok (.invokevirtual 62, 3) := by decide +kernel
theorem d_LAW_183 : decode code 183 = .ok (.istore 6, 2) := by decide +kernel
theorem d_LAW_185 : decode code 185 = .ok (.aload_n 2, 1) := by decide +kernel
theorem d_LAW_186 : decode code 186 = .ok (.invokevirtual 55, 3) := by decide +kernel
theorem d_LAW_189 : decode code 189 = .ok (.iload 5, 2) := by decide +kernel
theorem d_LAW_191 : decode code 191 = .ok (.if_icmp .eq 5, 3) := by decide +kernel
theorem d_LAW_194 : decode code 194 = .ok (.iconst 0, 1) := by decide +kernel
theorem d_LAW_195 : decode code 195 = .ok (.ireturn, 1) := by decide +kernel
theorem d_LAW_196 : decode code 196 = .ok (.iload 5, 2) := by decide +kernel
theorem d_LAW_198 : decode code 198 = .ok (.ifCond .ne 15, 3) := by decide +kernel
theorem d_LAW_201 : decode code 201 = .ok (.aload_n 3, 1) := by decide +kernel
theorem d_LAW_202 : decode code 202 = .ok (.iconst 0, 1) := by decide +kernel
theorem d_LAW_203 : decode code 203 = .ok (.laload, 1) := by decide +kernel
theorem d_LAW_204 : decode code 204 = .ok (.iload 6, 2) := by decide +kernel
theorem d_LAW_206 : decode code 206 = .ok (.i2l, 1) := by decide +kernel
theorem d_LAW_207 : decode code 207 = .ok (.lcmp, 1) := by decide +kernel
theorem d_LAW_208 : decode code 208 = .ok (.ifCond .eq 5, 3) := by decide +kernel
theorem d_LAW_211 : decode code 211 = .ok (.iconst 0, 1) := by decide +kernel
theorem d_LAW_212 : decode code 212 = .ok (.ireturn, 1) := by decide +kernel
theorem d_LAW_213 : decode code 213 = .ok (.goto 482, 3) := by decide +kernel
