/-! the law's instructions, 1 -/
theorem d_W_0 : decode code 0 = .ok (.new 8, 3) := by decide +kernel
theorem d_W_3 : decode code 3 = .ok (.dup, 1) := by decide +kernel
theorem d_W_4 : decode code 4 = .ok (.invokespecial 20, 3) := by decide +kernel
theorem d_W_7 : decode code 7 = .ok (.astore_n 1, 1) := by decide +kernel
theorem d_W_8 : decode code 8 = .ok (.new 21, 3) := by decide +kernel
theorem d_W_11 : decode code 11 = .ok (.dup, 1) := by decide +kernel
theorem d_W_12 : decode code 12 = .ok (.invokespecial 23, 3) := by decide +kernel
theorem d_W_15 : decode code 15 = .ok (.astore_n 2, 1) := by decide +kernel
theorem d_W_16 : decode code 16 = .ok (.iconst 1, 1) := by decide +kernel
theorem d_W_17 : decode code 17 = .ok (.newarray .long, 2) := by decide +kernel
theorem d_W_19 : decode code 19 = .ok (.astore_n 3, 1) := by decide +kernel
theorem d_W_20 : decode code 20 = .ok (.iconst 0, 1) := by decide +kernel
theorem d_W_21 : decode code 21 = .ok (.istore 4, 2) := by decide +kernel
theorem d_W_23 : decode code 23 = .ok (.iload 4, 2) := by decide +kernel
theorem d_W_25 : decode code 25 = .ok (.aload_n 0, 1) := by decide +kernel
theorem d_W_26 : decode code 26 = .ok (.arraylength, 1) := by decide +kernel
theorem d_W_27 : decode code 27 = .ok (.iconst 5, 1) := by decide +kernel
theorem d_W_28 : decode code 28 = .ok (.isub, 1) := by decide +kernel
theorem d_W_29 : decode code 29 = .ok (.if_icmp .gt 723, 3) := by decide +kernel
theorem d_W_32 : decode code 32 = .ok (.aload_n 0, 1) := by decide +kernel
theorem d_W_33 : decode code 33 = .ok (.iload 4, 2) := by decide +kernel
theorem d_W_35 : decode code 35 = .ok (.iaload, 1) := by decide +kernel
theorem d_W_36 : decode code 36 = .ok (.bipush 31, 2) := by decide +kernel
theorem d_W_38 : decode code 38 = .ok (.iand, 1) := by decide +kernel
theorem d_W_39 : decode code 39 = .ok (.tableswitch 707 0 17 #[85, 134, 159, 236, 261, 298, 311, 334, 378, 403, 440, 477, 526, 539, 583, 620, 657, 694], 85) := by decide +kernel
theorem d_W_124 : decode code 124 = .ok (.aload_n 1, 1) := by decide +kernel
theorem d_W_125 : decode code 125 = .ok (.aload_n 0, 1) := by decide +kernel
theorem d_W_126 : decode code 126 = .ok (.iload 4, 2) := by decide +kernel
theorem d_W_128 : decode code 128 = .ok (.iconst 1, 1) := by decide +kernel
theorem d_W_129 : decode code 129 = .ok (.iadd, 1) := by decide +kernel
theorem d_W_130 : decode code 130 = .ok (.iaload, 1) := by decide +kernel
theorem d_W_131 : decode code 131 = .ok (.aload_n 0, 1) := by decide +kernel
theorem d_W_132 : decode code 132 = .ok (.iload 4, 2) := by decide +kernel
theorem d_W_134 : decode code 134 = .ok (.iconst 2, 1) := by decide +kernel
theorem d_W_135 : decode code 135 = .ok (.iadd, 1) := by decide +kernel
theorem d_W_136 : decode code 136 = .ok (.iaload, 1) := by decide +kernel
theorem d_W_137 : decode code 137 = .ok (.aload_n 0, 1) := by decide +kernel
theorem d_W_138 : decode code 138 = .ok (.iload 4, 2) := by decide +kernel
theorem d_W_140 : decode code 140 = .ok (.iconst 3, 1) := by decide +kernel
theorem d_W_141 : decode code 141 = .ok (.iadd, 1) := by decide +kernel
theorem d_W_142 : decode code 142 = .ok (.iaload, 1) := by decide +kernel
theorem d_W_143 : decode code 143 = .ok (.invokevirtual 24, 3) := by decide +kernel
theorem d_W_146 : decode code 146 = .ok (.aload_n 2, 1) := by decide +kernel
theorem d_W_147 : decode code 147 = .ok (.aload_n 0, 1) := by decide +kernel
theorem d_W_148 : decode code 148 = .ok (.iload 4, 2) := by decide +kernel
theorem d_W_150 : decode code 150 = .ok (.iconst 1, 1) := by decide +kernel
theorem d_W_151 : decode code 151 = .ok (.iadd, 1) := by decide +kernel
theorem d_W_152 : decode code 152 = .ok (.iaload, 1) := by decide +kernel
theorem d_W_153 : decode code 153 = .ok (.aload_n 0, 1) := by decide +kernel
theorem d_W_154 : decode code 154 = .ok (.iload 4, 2) := by decide +kernel
theorem d_W_156 : decode code 156 = .ok (.iconst 2, 1) := by decide +kernel
theorem d_W_157 : decode code 157 = .ok (.iadd, 1) := by decide +kernel
theorem d_W_158 : decode code 158 = .ok (.iaload, 1) := by decide +kernel
theorem d_W_159 : decode code 159 = .ok (.aload_n 0, 1) := by decide +kernel
theorem d_W_160 : decode code 160 = .ok (.iload 4, 2) := by decide +kernel
theorem d_W_162 : decode code 162 = .ok (.iconst 3, 1) := by decide +kernel
theorem d_W_163 : decode code 163 = .ok (.iadd, 1) := by decide +kernel
theorem d_W_164 : decode code 164 = .ok (.iaload, 1) := by decide +kernel
theorem d_W_165 : decode code 165 = .ok (.invokevirtual 28, 3) := by decide +kernel
theorem d_W_168 : decode code 168 = .ok (.if_icmp .eq 578, 3) := by decide +kernel
theorem d_W_171 : decode code 171 = .ok (.iconst 0, 1) := by decide +kernel
theorem d_W_172 : decode code 172 = .ok (.ireturn, 1) := by decide +kernel
theorem d_W_173 : decode code 173 = .ok (.aload_n 1, 1) := by decide +kernel
theorem d_W_174 : decode code 174 = .ok (.aload_n 0, 1) := by decide +kernel
theorem d_W_175 : decode code 175 = .ok (.iload 4, 2) := by decide +kernel
theorem d_W_177 : decode code 177 = .ok (.iconst 1, 1) := by decide +kernel
theorem d_W_178 : decode code 178 = .ok (.iadd, 1) := by decide +kernel
theorem d_W_179 : decode code 179 = .ok (.iaload, 1) := by decide +kernel
theorem d_W_180 : decode code 180 = .ok (.invokevirtual 29, 3) := by decide +kernel
theorem d_W_183 : decode code 183 = .ok (.aload_n 2, 1) := by decide +kernel
theorem d_W_184 : decode code 184 = .ok (.aload_n 0, 1) := by decide +kernel
theorem d_W_185 : decode code 185 = .ok (.iload 4, 2) := by decide +kernel
theorem d_W_187 : decode code 187 = .ok (.iconst 1, 1) := by decide +kernel
theorem d_W_188 : decode code 188 = .ok (.iadd, 1) := by decide +kernel
theorem d_W_189 : decode code 189 = .ok (.iaload, 1) := by decide +kernel
theorem d_W_190 : decode code 190 = .ok (.invokevirtual 33, 3) := by decide +kernel
theorem d_W_193 : decode code 193 = .ok (.if_icmp .eq 553, 3) := by decide +kernel
theorem d_W_196 : decode code 196 = .ok (.iconst 0, 1) := by decide +kernel
theorem d_W_197 : decode code 197 = .ok (.ireturn, 1) := by decide +kernel
theorem d_W_198 : decode code 198 = .ok (.aload_n 1, 1) := by decide +kernel
theorem d_W_199 : decode code 199 = .ok (.aload_n 0, 1) := by decide +kernel
theorem d_W_200 : decode code 200 = .ok (.iload 4, 2) := by decide +kernel
theorem d_W_202 : decode code 202 = .ok (.iconst 1, 1) := by decide +kernel
theorem d_W_203 : decode code 203 = .ok (.iadd, 1) := by decide +kernel
theorem d_W_204 : decode code 204 = .ok (.iaload, 1) := by decide +kernel
theorem d_W_205 : decode code 205 = .ok (.aload_n 0, 1) := by decide +kernel
theorem d_W_206 : decode code 206 = .ok (.iload 4, 2) := by decide +kernel
theorem d_W_208 : decode code 208 = .ok (.iconst 2, 1) := by decide +kernel
theorem d_W_209 : decode code 209 = .ok (.iadd, 1) := by decide +kernel
theorem d_W_210 : decode code 210 = .ok (.iaload, 1) := by decide +kernel
theorem d_W_211 : decode code 211 = .ok (.ifCond .eq 7, 3) := by decide +kernel
theorem d_W_214 : decode code 214 = .ok (.iconst 1, 1) := by decide +kernel
theorem d_W_215 : decode code 215 = .ok (.goto 4, 3) := by decide +kernel
theorem d_W_218 : decode code 218 = .ok (.iconst 0, 1) := by decide +kernel
theorem d_W_219 : decode code 219 = .ok (.aload_n 0, 1) := by decide +kernel
theorem d_W_220 : decode code 220 = .ok (.iload 4, 2) := by decide +kernel
theorem d_W_222 : decode code 222 = .ok (.iconst 3, 1) := by decide +kernel
theorem d_W_223 : decode code 223 = .ok (.iadd, 1) := by decide +kernel
theorem d_W_224 : decode code 224 = .ok (.iaload, 1) := by decide +kernel
theorem d_W_225 : decode code 225 = .ok (.aload_n 0, 1) := by decide +kernel
theorem d_W_226 : decode code 226 = .ok (.iload 4, 2) := by decide +kernel
theorem d_W_228 : decode code 228 = .ok (.iconst 4, 1) := by decide +kernel
theorem d_W_229 : decode code 229 = .ok (.iadd, 1) := by decide +kernel
theorem d_W_230 : decode code 230 = .ok (.iaload, 1) := by decide +kernel
theorem d_W_231 : decode code 231 = .ok (.invokevirtual 34, 3) := by decide +kernel
theorem d_W_234 : decode code 234 = .ok (.aload_n 2, 1) := by decide +kernel
theorem d_W_235 : decode code 235 = .ok (.aload_n 0, 1) := by decide +kernel
theorem d_W_236 : decode code 236 = .ok (.iload 4, 2) := by decide +kernel
theorem d_W_238 : decode code 238 = .ok (.iconst 1, 1) := by decide +kernel
theorem d_W_239 : decode code 239 = .ok (.iadd, 1) := by decide +kernel
theorem d_W_240 : decode code 240 = .ok (.iaload, 1) := by decide +kernel
theorem d_W_241 : decode code 241 = .ok (.aload_n 0, 1) := by decide +kernel
theorem d_W_242 : decode code 242 = .ok (.iload 4, 2) := by decide +kernel
theorem d_W_244 : decode code 244 = .ok (.iconst 2, 1) := by decide +kernel
theorem d_W_245 : decode code 245 = .ok (.iadd, 1) := by decide +kernel
