/-! The law's own instructions, 0 on -/
theorem d_W_0 : decode code 0 = .ok (.new 8, 3) := by decide +kernel
theorem d_W_3 : decode code 3 = .ok (.dup, 1) := by decide +kernel
theorem d_W_4 : decode code 4 = .ok (.invokespecial 62, 3) := by decide +kernel
theorem d_W_7 : decode code 7 = .ok (.astore_n 1, 1) := by decide +kernel
theorem d_W_8 : decode code 8 = .ok (.new 63, 3) := by decide +kernel
theorem d_W_11 : decode code 11 = .ok (.dup, 1) := by decide +kernel
theorem d_W_12 : decode code 12 = .ok (.invokespecial 65, 3) := by decide +kernel
theorem d_W_15 : decode code 15 = .ok (.astore_n 2, 1) := by decide +kernel
theorem d_W_16 : decode code 16 = .ok (.iconst 1, 1) := by decide +kernel
theorem d_W_17 : decode code 17 = .ok (.newarray .long, 2) := by decide +kernel
theorem d_W_19 : decode code 19 = .ok (.astore_n 3, 1) := by decide +kernel
theorem d_W_20 : decode code 20 = .ok (.iconst 0, 1) := by decide +kernel
theorem d_W_21 : decode code 21 = .ok (.istore 4, 2) := by decide +kernel
theorem d_W_23 : decode code 23 = .ok (.iload 4, 2) := by decide +kernel
theorem d_W_25 : decode code 25 = .ok (.aload_n 0, 1) := by decide +kernel
theorem d_W_26 : decode code 26 = .ok (.arraylength, 1) := by decide +kernel
theorem d_W_27 : decode code 27 = .ok (.iconst 5, 1) := by decide +kernel
theorem d_W_28 : decode code 28 = .ok (.isub, 1) := by decide +kernel
theorem d_W_29 : decode code 29 = .ok (.if_icmp .gt 1082, 3) := by decide +kernel
theorem d_W_32 : decode code 32 = .ok (.aload_n 0, 1) := by decide +kernel
theorem d_W_33 : decode code 33 = .ok (.iload 4, 2) := by decide +kernel
theorem d_W_35 : decode code 35 = .ok (.iaload, 1) := by decide +kernel
theorem d_W_36 : decode code 36 = .ok (.bipush 15, 2) := by decide +kernel
theorem d_W_38 : decode code 38 = .ok (.iand, 1) := by decide +kernel
theorem d_W_39 : decode code 39 = .ok (.tableswitch 1066 0 14 #[73, 141, 233, 301, 337, 405, 473, 541, 609, 689, 769, 849, 929, 997, 1010], 73) := by decide +kernel
theorem d_W_112 : decode code 112 = .ok (.aload_n 1, 1) := by decide +kernel
theorem d_W_113 : decode code 113 = .ok (.aload_n 0, 1) := by decide +kernel
theorem d_W_114 : decode code 114 = .ok (.iload 4, 2) := by decide +kernel
theorem d_W_116 : decode code 116 = .ok (.iconst 1, 1) := by decide +kernel
theorem d_W_117 : decode code 117 = .ok (.iadd, 1) := by decide +kernel
theorem d_W_118 : decode code 118 = .ok (.iaload, 1) := by decide +kernel
theorem d_W_119 : decode code 119 = .ok (.aload_n 0, 1) := by decide +kernel
theorem d_W_120 : decode code 120 = .ok (.iload 4, 2) := by decide +kernel
theorem d_W_122 : decode code 122 = .ok (.iconst 2, 1) := by decide +kernel
theorem d_W_123 : decode code 123 = .ok (.iadd, 1) := by decide +kernel
theorem d_W_124 : decode code 124 = .ok (.iaload, 1) := by decide +kernel
theorem d_W_125 : decode code 125 = .ok (.aload_n 3, 1) := by decide +kernel
theorem d_W_126 : decode code 126 = .ok (.invokestatic 66, 3) := by decide +kernel
theorem d_W_129 : decode code 129 = .ok (.istore 5, 2) := by decide +kernel
theorem d_W_131 : decode code 131 = .ok (.aload_n 2, 1) := by decide +kernel
theorem d_W_132 : decode code 132 = .ok (.aload_n 0, 1) := by decide +kernel
theorem d_W_133 : decode code 133 = .ok (.iload 4, 2) := by decide +kernel
theorem d_W_135 : decode code 135 = .ok (.iconst 1, 1) := by decide +kernel
theorem d_W_136 : decode code 136 = .ok (.iadd, 1) := by decide +kernel
theorem d_W_137 : decode code 137 = .ok (.iaload, 1) := by decide +kernel
theorem d_W_138 : decode code 138 = .ok (.aload_n 0, 1) := by decide +kernel
theorem d_W_139 : decode code 139 = .ok (.iload 4, 2) := by decide +kernel
theorem d_W_141 : decode code 141 = .ok (.iconst 2, 1) := by decide +kernel
theorem d_W_142 : decode code 142 = .ok (.iadd, 1) := by decide +kernel
theorem d_W_143 : decode code 143 = .ok (.iaload, 1) := by decide +kernel
theorem d_W_144 : decode code 144 = .ok (.invokevirtual 71, 3) := by decide +kernel
theorem d_W_147 : decode code 147 = .ok (.istore 6, 2) := by decide +kernel
theorem d_W_149 : decode code 149 = .ok (.aload_n 2, 1) := by decide +kernel
theorem d_W_150 : decode code 150 = .ok (.invokevirtual 72, 3) := by decide +kernel
theorem d_W_153 : decode code 153 = .ok (.iload 5, 2) := by decide +kernel
theorem d_W_155 : decode code 155 = .ok (.if_icmp .eq 5, 3) := by decide +kernel
theorem d_W_158 : decode code 158 = .ok (.iconst 0, 1) := by decide +kernel
theorem d_W_159 : decode code 159 = .ok (.ireturn, 1) := by decide +kernel
theorem d_W_160 : decode code 160 = .ok (.iload 5, 2) := by decide +kernel
theorem d_W_162 : decode code 162 = .ok (.ifCond .ne 15, 3) := by decide +kernel
theorem d_W_165 : decode code 165 = .ok (.aload_n 3, 1) := by decide +kernel
theorem d_W_166 : decode code 166 = .ok (.iconst 0, 1) := by decide +kernel
theorem d_W_167 : decode code 167 = .ok (.laload, 1) := by decide +kernel
theorem d_W_168 : decode code 168 = .ok (.iload 6, 2) := by decide +kernel
theorem d_W_170 : decode code 170 = .ok (.i2l, 1) := by decide +kernel
theorem d_W_171 : decode code 171 = .ok (.lcmp, 1) := by decide +kernel
theorem d_W_172 : decode code 172 = .ok (.ifCond .eq 5, 3) := by decide +kernel
theorem d_W_175 : decode code 175 = .ok (.iconst 0, 1) := by decide +kernel
theorem d_W_176 : decode code 176 = .ok (.ireturn, 1) := by decide +kernel
theorem d_W_177 : decode code 177 = .ok (.goto 928, 3) := by decide +kernel
theorem d_W_180 : decode code 180 = .ok (.aload_n 1, 1) := by decide +kernel
theorem d_W_181 : decode code 181 = .ok (.aload_n 0, 1) := by decide +kernel
theorem d_W_182 : decode code 182 = .ok (.iload 4, 2) := by decide +kernel
theorem d_W_184 : decode code 184 = .ok (.iconst 1, 1) := by decide +kernel
theorem d_W_185 : decode code 185 = .ok (.iadd, 1) := by decide +kernel
theorem d_W_186 : decode code 186 = .ok (.iaload, 1) := by decide +kernel
theorem d_W_187 : decode code 187 = .ok (.aload_n 0, 1) := by decide +kernel
theorem d_W_188 : decode code 188 = .ok (.iload 4, 2) := by decide +kernel
theorem d_W_190 : decode code 190 = .ok (.iconst 2, 1) := by decide +kernel
theorem d_W_191 : decode code 191 = .ok (.iadd, 1) := by decide +kernel
theorem d_W_192 : decode code 192 = .ok (.iaload, 1) := by decide +kernel
theorem d_W_193 : decode code 193 = .ok (.aload_n 0, 1) := by decide +kernel
theorem d_W_194 : decode code 194 = .ok (.iload 4, 2) := by decide +kernel
theorem d_W_196 : decode code 196 = .ok (.iconst 3, 1) := by decide +kernel
theorem d_W_197 : decode code 197 = .ok (.iadd, 1) := by decide +kernel
theorem d_W_198 : decode code 198 = .ok (.iaload, 1) := by decide +kernel
theorem d_W_199 : decode code 199 = .ok (.aload_n 0, 1) := by decide +kernel
theorem d_W_200 : decode code 200 = .ok (.iload 4, 2) := by decide +kernel
theorem d_W_202 : decode code 202 = .ok (.iconst 4, 1) := by decide +kernel
theorem d_W_203 : decode code 203 = .ok (.iadd, 1) := by decide +kernel
theorem d_W_204 : decode code 204 = .ok (.iaload, 1) := by decide +kernel
theorem d_W_205 : decode code 205 = .ok (.aload_n 3, 1) := by decide +kernel
theorem d_W_206 : decode code 206 = .ok (.invokestatic 76, 3) := by decide +kernel
theorem d_W_209 : decode code 209 = .ok (.istore 5, 2) := by decide +kernel
theorem d_W_211 : decode code 211 = .ok (.aload_n 2, 1) := by decide +kernel
theorem d_W_212 : decode code 212 = .ok (.aload_n 0, 1) := by decide +kernel
theorem d_W_213 : decode code 213 = .ok (.iload 4, 2) := by decide +kernel
theorem d_W_215 : decode code 215 = .ok (.iconst 1, 1) := by decide +kernel
theorem d_W_216 : decode code 216 = .ok (.iadd, 1) := by decide +kernel
theorem d_W_217 : decode code 217 = .ok (.iaload, 1) := by decide +kernel
theorem d_W_218 : decode code 218 = .ok (.aload_n 0, 1) := by decide +kernel
theorem d_W_219 : decode code 219 = .ok (.iload 4, 2) := by decide +kernel
theorem d_W_221 : decode code 221 = .ok (.iconst 2, 1) := by decide +kernel
theorem d_W_222 : decode code 222 = .ok (.iadd, 1) := by decide +kernel
theorem d_W_223 : decode code 223 = .ok (.iaload, 1) := by decide +kernel
theorem d_W_224 : decode code 224 = .ok (.aload_n 0, 1) := by decide +kernel
theorem d_W_225 : decode code 225 = .ok (.iload 4, 2) := by decide +kernel
theorem d_W_227 : decode code 227 = .ok (.iconst 3, 1) := by decide +kernel
theorem d_W_228 : decode code 228 = .ok (.iadd, 1) := by decide +kernel
theorem d_W_229 : decode code 229 = .ok (.iaload, 1) := by decide +kernel
