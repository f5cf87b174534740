theorem d_L_law_153 : decode c_L_law 153 = .ok (.iadd, 1) := by decide +kernel
theorem d_L_law_154 : decode c_L_law 154 = .ok (.iaload, 1) := by decide +kernel
theorem d_L_law_155 : decode c_L_law 155 = .ok (.aload_n 3, 1) := by decide +kernel
theorem d_L_law_156 : decode c_L_law 156 = .ok (.invokestatic 59, 3) := by decide +kernel
theorem d_L_law_159 : decode c_L_law 159 = .ok (.istore 5, 2) := by decide +kernel
theorem d_L_law_161 : decode c_L_law 161 = .ok (.aload_n 2, 1) := by decide +kernel
theorem d_L_law_162 : decode c_L_law 162 = .ok (.aload_n 0, 1) := by decide +kernel
theorem d_L_law_163 : decode c_L_law 163 = .ok (.iload 4, 2) := by decide +kernel
theorem d_L_law_165 : decode c_L_law 165 = .ok (.iconst 1, 1) := by decide +kernel
theorem d_L_law_166 : decode c_L_law 166 = .ok (.iadd, 1) := by decide +kernel
theorem d_L_law_167 : decode c_L_law 167 = .ok (.iaload, 1) := by decide +kernel
theorem d_L_law_168 : decode c_L_law 168 = .ok (.invokevirtual 61, 3) := by decide +kernel
theorem d_L_law_171 : decode c_L_law 171 = .ok (.istore 6, 2) := by decide +kernel
theorem d_L_law_173 : decode c_L_law 173 = .ok (.aload_n 2, 1) := by decide +kernel
theorem d_L_law_174 : decode c_L_law 174 = .ok (.invokevirtual 55, 3) := by decide +kernel
theorem d_L_law_177 : decode c_L_law 177 = .ok (.iload 5, 2) := by decide +kernel
theorem d_L_law_179 : decode c_L_law 179 = .ok (.if_icmp .eq 5, 3) := by decide +kernel
theorem d_L_law_182 : decode c_L_law 182 = .ok (.iconst 0, 1) := by decide +kernel
theorem d_L_law_183 : decode c_L_law 183 = .ok (.ireturn, 1) := by decide +kernel
theorem d_L_law_184 : decode c_L_law 184 = .ok (.iload 5, 2) := by decide +kernel
theorem d_L_law_186 : decode c_L_law 186 = .ok (.ifCond .ne 15, 3) := by decide +kernel
theorem d_L_law_189 : decode c_L_law 189 = .ok (.aload_n 3, 1) := by decide +kernel
theorem d_L_law_190 : decode c_L_law 190 = .ok (.iconst 0, 1) := by decide +kernel
theorem d_L_law_191 : decode c_L_law 191 = .ok (.laload, 1) := by decide +kernel
theorem d_L_law_192 : decode c_L_law 192 = .ok (.iload 6, 2) := by decide +kernel
theorem d_L_law_194 : decode c_L_law 194 = .ok (.i2l, 1) := by decide +kernel
theorem d_L_law_195 : decode c_L_law 195 = .ok (.lcmp, 1) := by decide +kernel
theorem d_L_law_196 : decode c_L_law 196 = .ok (.ifCond .eq 5, 3) := by decide +kernel
theorem d_L_law_199 : decode c_L_law 199 = .ok (.iconst 0, 1) := by decide +kernel
theorem d_L_law_200 : decode c_L_law 200 = .ok (.ireturn, 1) := by decide +kernel
theorem d_L_law_201 : decode c_L_law 201 = .ok (.goto 436, 3) := by decide +kernel
theorem d_L_law_204 : decode c_L_law 204 = .ok (.aload_n 1, 1) := by decide +kernel
theorem d_L_law_205 : decode c_L_law 205 = .ok (.aload_n 0, 1) := by decide +kernel
theorem d_L_law_206 : decode c_L_law 206 = .ok (.iload 4, 2) := by decide +kernel
theorem d_L_law_208 : decode c_L_law 208 = .ok (.iconst 1, 1) := by decide +kernel
theorem d_L_law_209 : decode c_L_law 209 = .ok (.iadd, 1) := by decide +kernel
theorem d_L_law_210 : decode c_L_law 210 = .ok (.iaload, 1) := by decide +kernel
theorem d_L_law_211 : decode c_L_law 211 = .ok (.aload_n 0, 1) := by decide +kernel
theorem d_L_law_212 : decode c_L_law 212 = .ok (.iload 4, 2) := by decide +kernel
theorem d_L_law_214 : decode c_L_law 214 = .ok (.iconst 2, 1) := by decide +kernel
theorem d_L_law_215 : decode c_L_law 215 = .ok (.iadd, 1) := by decide +kernel
theorem d_L_law_216 : decode c_L_law 216 = .ok (.iaload, 1) := by decide +kernel
theorem d_L_law_217 : decode c_L_law 217 = .ok (.aload_n 3, 1) := by decide +kernel
theorem d_L_law_218 : decode c_L_law 218 = .ok (.invokestatic 62, 3) := by decide +kernel
theorem d_L_law_221 : decode c_L_law 221 = .ok (.istore 5, 2) := by decide +kernel
theorem d_L_law_223 : decode c_L_law 223 = .ok (.aload_n 2, 1) := by decide +kernel
theorem d_L_law_224 : decode c_L_law 224 = .ok (.aload_n 0, 1) := by decide +kernel
theorem d_L_law_225 : decode c_L_law 225 = .ok (.iload 4, 2) := by decide +kernel
theorem d_L_law_227 : decode c_L_law 227 = .ok (.iconst 1, 1) := by decide +kernel
theorem d_L_law_228 : decode c_L_law 228 = .ok (.iadd, 1) := by decide +kernel
theorem d_L_law_229 : decode c_L_law 229 = .ok (.iaload, 1) := by decide +kernel
theorem d_L_law_230 : decode c_L_law 230 = .ok (.aload_n 0, 1) := by decide +kernel
theorem d_L_law_231 : decode c_L_law 231 = .ok (.iload 4, 2) := by decide +kernel
theorem d_L_law_233 : decode c_L_law 233 = .ok (.iconst 2, 1) := by decide +kernel
theorem d_L_law_234 : decode c_L_law 234 = .ok (.iadd, 1) := by decide +kernel
theorem d_L_law_235 : decode c_L_law 235 = .ok (.iaload, 1) := by decide +kernel
theorem d_L_law_236 : decode c_L_law 236 = .ok (.invokevirtual 65, 3) := by decide +kernel
theorem d_L_law_239 : decode c_L_law 239 = .ok (.istore 6, 2) := by decide +kernel
theorem d_L_law_241 : decode c_L_law 241 = .ok (.aload_n 2, 1) := by decide +kernel
theorem d_L_law_242 : decode c_L_law 242 = .ok (.invokevirtual 55, 3) := by decide +kernel
theorem d_L_law_245 : decode c_L_law 245 = .ok (.iload 5, 2) := by decide +kernel
theorem d_L_law_247 : decode c_L_law 247 = .ok (.if_icmp .eq 5, 3) := by decide +kernel
theorem d_L_law_250 : decode c_L_law 250 = .ok (.iconst 0, 1) := by decide +kernel
theorem d_L_law_251 : decode c_L_law 251 = .ok (.ireturn, 1) := by decide +kernel
