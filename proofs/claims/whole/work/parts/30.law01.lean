theorem d_Lw_law_154 : decode code 154 = .ok (.iload_n 3, 1) := by decide +kernel
theorem d_Lw_law_155 : decode code 155 = .ok (.iconst 1, 1) := by decide +kernel
theorem d_Lw_law_156 : decode code 156 = .ok (.iadd, 1) := by decide +kernel
theorem d_Lw_law_157 : decode code 157 = .ok (.iaload, 1) := by decide +kernel
theorem d_Lw_law_158 : decode code 158 = .ok (.aload_n 0, 1) := by decide +kernel
theorem d_Lw_law_159 : decode code 159 = .ok (.iload_n 3, 1) := by decide +kernel
theorem d_Lw_law_160 : decode code 160 = .ok (.iconst 2, 1) := by decide +kernel
theorem d_Lw_law_161 : decode code 161 = .ok (.iadd, 1) := by decide +kernel
theorem d_Lw_law_162 : decode code 162 = .ok (.iaload, 1) := by decide +kernel
theorem d_Lw_law_163 : decode code 163 = .ok (.aload_n 0, 1) := by decide +kernel
theorem d_Lw_law_164 : decode code 164 = .ok (.iload_n 3, 1) := by decide +kernel
theorem d_Lw_law_165 : decode code 165 = .ok (.iconst 3, 1) := by decide +kernel
theorem d_Lw_law_166 : decode code 166 = .ok (.iadd, 1) := by decide +kernel
theorem d_Lw_law_167 : decode code 167 = .ok (.iaload, 1) := by decide +kernel
theorem d_Lw_law_168 : decode code 168 = .ok (.aload_n 0, 1) := by decide +kernel
theorem d_Lw_law_169 : decode code 169 = .ok (.iload_n 3, 1) := by decide +kernel
theorem d_Lw_law_170 : decode code 170 = .ok (.iconst 4, 1) := by decide +kernel
theorem d_Lw_law_171 : decode code 171 = .ok (.iadd, 1) := by decide +kernel
theorem d_Lw_law_172 : decode code 172 = .ok (.iaload, 1) := by decide +kernel
theorem d_Lw_law_173 : decode code 173 = .ok (.ifCond .eq 7, 3) := by decide +kernel
theorem d_Lw_law_176 : decode code 176 = .ok (.iconst 1, 1) := by decide +kernel
theorem d_Lw_law_177 : decode code 177 = .ok (.goto 4, 3) := by decide +kernel
theorem d_Lw_law_180 : decode code 180 = .ok (.iconst 0, 1) := by decide +kernel
theorem d_Lw_law_181 : decode code 181 = .ok (.invokevirtual 17, 3) := by decide +kernel
theorem d_Lw_law_184 : decode code 184 = .ok (.if_icmp .eq 496, 3) := by decide +kernel
theorem d_Lw_law_187 : decode code 187 = .ok (.iconst 0, 1) := by decide +kernel
theorem d_Lw_law_188 : decode code 188 = .ok (.ireturn, 1) := by decide +kernel
theorem d_Lw_law_189 : decode code 189 = .ok (.aload_n 1, 1) := by decide +kernel
theorem d_Lw_law_190 : decode code 190 = .ok (.aload_n 0, 1) := by decide +kernel
theorem d_Lw_law_191 : decode code 191 = .ok (.iload_n 3, 1) := by decide +kernel
theorem d_Lw_law_192 : decode code 192 = .ok (.iconst 1, 1) := by decide +kernel
theorem d_Lw_law_193 : decode code 193 = .ok (.iadd, 1) := by decide +kernel
theorem d_Lw_law_194 : decode code 194 = .ok (.iaload, 1) := by decide +kernel
theorem d_Lw_law_195 : decode code 195 = .ok (.aload_n 0, 1) := by decide +kernel
theorem d_Lw_law_196 : decode code 196 = .ok (.iload_n 3, 1) := by decide +kernel
theorem d_Lw_law_197 : decode code 197 = .ok (.iconst 2, 1) := by decide +kernel
theorem d_Lw_law_198 : decode code 198 = .ok (.iadd, 1) := by decide +kernel
theorem d_Lw_law_199 : decode code 199 = .ok (.iaload, 1) := by decide +kernel
theorem d_Lw_law_200 : decode code 200 = .ok (.aload_n 0, 1) := by decide +kernel
theorem d_Lw_law_201 : decode code 201 = .ok (.iload_n 3, 1) := by decide +kernel
theorem d_Lw_law_202 : decode code 202 = .ok (.iconst 3, 1) := by decide +kernel
theorem d_Lw_law_203 : decode code 203 = .ok (.iadd, 1) := by decide +kernel
theorem d_Lw_law_204 : decode code 204 = .ok (.iaload, 1) := by decide +kernel
theorem d_Lw_law_205 : decode code 205 = .ok (.aload_n 0, 1) := by decide +kernel
theorem d_Lw_law_206 : decode code 206 = .ok (.iload_n 3, 1) := by decide +kernel
theorem d_Lw_law_207 : decode code 207 = .ok (.iconst 4, 1) := by decide +kernel
theorem d_Lw_law_208 : decode code 208 = .ok (.iadd, 1) := by decide +kernel
theorem d_Lw_law_209 : decode code 209 = .ok (.iaload, 1) := by decide +kernel
theorem d_Lw_law_210 : decode code 210 = .ok (.invokevirtual 18, 3) := by decide +kernel
theorem d_Lw_law_213 : decode code 213 = .ok (.aload_n 2, 1) := by decide +kernel
