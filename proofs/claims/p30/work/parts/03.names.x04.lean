theorem dX8_numberOf_159 : decode cX8_numberOf 159 = .ok (.ireturn, 1) := by decide +kernel
theorem dX8_numberOf_160 : decode cX8_numberOf 160 = .ok (.aload_n 2, 1) := by decide +kernel
theorem dX8_numberOf_161 : decode cX8_numberOf 161 = .ok (.aload_n 0, 1) := by decide +kernel
theorem dX8_numberOf_162 : decode cX8_numberOf 162 = .ok (.getfield 10, 3) := by decide +kernel
theorem dX8_numberOf_165 : decode cX8_numberOf 165 = .ok (.getfield 125, 3) := by decide +kernel
theorem dX8_numberOf_168 : decode cX8_numberOf 168 = .ok (.invokevirtual 336, 3) := by decide +kernel
theorem dX8_numberOf_171 : decode cX8_numberOf 171 = .ok (.invokevirtual 349, 3) := by decide +kernel
theorem dX8_numberOf_174 : decode cX8_numberOf 174 = .ok (.ireturn, 1) := by decide +kernel
theorem dX8_numberOf_175 : decode cX8_numberOf 175 = .ok (.aload_n 0, 1) := by decide +kernel
theorem dX8_numberOf_176 : decode cX8_numberOf 176 = .ok (.getfield 10, 3) := by decide +kernel
theorem dX8_numberOf_179 : decode cX8_numberOf 179 = .ok (.invokevirtual 278, 3) := by decide +kernel
theorem dX8_numberOf_182 : decode cX8_numberOf 182 = .ok (.ireturn, 1) := by decide +kernel
theorem dX8_numberOf_183 : decode cX8_numberOf 183 = .ok (.aload_n 0, 1) := by decide +kernel
theorem dX8_numberOf_184 : decode cX8_numberOf 184 = .ok (.getfield 10, 3) := by decide +kernel
theorem dX8_numberOf_187 : decode cX8_numberOf 187 = .ok (.invokevirtual 281, 3) := by decide +kernel
theorem dX8_numberOf_190 : decode cX8_numberOf 190 = .ok (.ireturn, 1) := by decide +kernel
theorem dX8_numberOf_191 : decode cX8_numberOf 191 = .ok (.aload_n 0, 1) := by decide +kernel
theorem dX8_numberOf_192 : decode cX8_numberOf 192 = .ok (.getfield 10, 3) := by decide +kernel
theorem dX8_numberOf_195 : decode cX8_numberOf 195 = .ok (.getfield 151, 3) := by decide +kernel
theorem dX8_numberOf_198 : decode cX8_numberOf 198 = .ok (.getfield 167, 3) := by decide +kernel
theorem dX8_numberOf_201 : decode cX8_numberOf 201 = .ok (.ireturn, 1) := by decide +kernel
theorem dX8_numberOf_202 : decode cX8_numberOf 202 = .ok (.aload_n 0, 1) := by decide +kernel
theorem dX8_numberOf_203 : decode cX8_numberOf 203 = .ok (.getfield 27, 3) := by decide +kernel
theorem dX8_numberOf_206 : decode cX8_numberOf 206 = .ok (.ireturn, 1) := by decide +kernel
theorem dJ9_abs_0f7a4_0 : decode cJ9_abs_0f7a4 0 = .ok (.iload_n 0, 1) := by decide +kernel
theorem dJ9_abs_0f7a4_1 : decode cJ9_abs_0f7a4 1 = .ok (.ifCond .ge 8, 3) := by decide +kernel
theorem dJ9_abs_0f7a4_4 : decode cJ9_abs_0f7a4 4 = .ok (.iload_n 0, 1) := by decide +kernel
theorem dJ9_abs_0f7a4_5 : decode cJ9_abs_0f7a4 5 = .ok (.ineg, 1) := by decide +kernel
theorem dJ9_abs_0f7a4_6 : decode cJ9_abs_0f7a4 6 = .ok (.goto 4, 3) := by decide +kernel
theorem dJ9_abs_0f7a4_9 : decode cJ9_abs_0f7a4 9 = .ok (.iload_n 0, 1) := by decide +kernel
theorem dJ9_abs_0f7a4_10 : decode cJ9_abs_0f7a4 10 = .ok (.ireturn, 1) := by decide +kernel
theorem dJ9_max_7cf53_0 : decode cJ9_max_7cf53 0 = .ok (.iload_n 0, 1) := by decide +kernel
theorem dJ9_max_7cf53_1 : decode cJ9_max_7cf53 1 = .ok (.iload_n 1, 1) := by decide +kernel
theorem dJ9_max_7cf53_2 : decode cJ9_max_7cf53 2 = .ok (.if_icmp .lt 7, 3) := by decide +kernel
theorem dJ9_max_7cf53_5 : decode cJ9_max_7cf53 5 = .ok (.iload_n 0, 1) := by decide +kernel
theorem dJ9_max_7cf53_6 : decode cJ9_max_7cf53 6 = .ok (.goto 4, 3) := by decide +kernel
theorem dJ9_max_7cf53_9 : decode cJ9_max_7cf53 9 = .ok (.iload_n 1, 1) := by decide +kernel
theorem dJ9_max_7cf53_10 : decode cJ9_max_7cf53 10 = .ok (.ireturn, 1) := by decide +kernel
theorem dJ9_min_7cf53_0 : decode cJ9_min_7cf53 0 = .ok (.iload_n 0, 1) := by decide +kernel
theorem dJ9_min_7cf53_1 : decode cJ9_min_7cf53 1 = .ok (.iload_n 1, 1) := by decide +kernel
theorem dJ9_min_7cf53_2 : decode cJ9_min_7cf53 2 = .ok (.if_icmp .gt 7, 3) := by decide +kernel
theorem dJ9_min_7cf53_5 : decode cJ9_min_7cf53 5 = .ok (.iload_n 0, 1) := by decide +kernel
theorem dJ9_min_7cf53_6 : decode cJ9_min_7cf53 6 = .ok (.goto 4, 3) := by decide +kernel
theorem dJ9_min_7cf53_9 : decode cJ9_min_7cf53 9 = .ok (.iload_n 1, 1) := by decide +kernel
theorem dJ9_min_7cf53_10 : decode cJ9_min_7cf53 10 = .ok (.ireturn, 1) := by decide +kernel
