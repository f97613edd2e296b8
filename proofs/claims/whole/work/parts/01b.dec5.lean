/-! more decode rows -/
abbrev b_Comp_emit : ByteArray := prog_5_method_3_code
abbrev J_Comp_emit : MethodName × ByteArray × Nat × Option FieldType := (⟨"FaslDesk$Compiler", "emit", "(II)V"⟩, b_Comp_emit, 3, none)
theorem d_Comp_emit_0 : decode b_Comp_emit 0 = .ok (.aload_n 0, 1) := by decide +kernel
theorem d_Comp_emit_1 : decode b_Comp_emit 1 = .ok (.getfield 25, 3) := by decide +kernel
theorem d_Comp_emit_4 : decode b_Comp_emit 4 = .ok (.iload_n 1, 1) := by decide +kernel
theorem d_Comp_emit_5 : decode b_Comp_emit 5 = .ok (.iload_n 2, 1) := by decide +kernel
theorem d_Comp_emit_6 : decode b_Comp_emit 6 = .ok (.invokevirtual 48, 3) := by decide +kernel
theorem d_Comp_emit_9 : decode b_Comp_emit 9 = .ok (.aload_n 0, 1) := by decide +kernel
theorem d_Comp_emit_10 : decode b_Comp_emit 10 = .ok (.dup, 1) := by decide +kernel
theorem d_Comp_emit_11 : decode b_Comp_emit 11 = .ok (.getfield 26, 3) := by decide +kernel
theorem d_Comp_emit_14 : decode b_Comp_emit 14 = .ok (.getstatic 51, 3) := by decide +kernel
theorem d_Comp_emit_17 : decode b_Comp_emit 17 = .ok (.iload_n 1, 1) := by decide +kernel
theorem d_Comp_emit_18 : decode b_Comp_emit 18 = .ok (.iaload, 1) := by decide +kernel
theorem d_Comp_emit_19 : decode b_Comp_emit 19 = .ok (.getstatic 55, 3) := by decide +kernel
theorem d_Comp_emit_22 : decode b_Comp_emit 22 = .ok (.iload_n 1, 1) := by decide +kernel
theorem d_Comp_emit_23 : decode b_Comp_emit 23 = .ok (.iaload, 1) := by decide +kernel
theorem d_Comp_emit_24 : decode b_Comp_emit 24 = .ok (.isub, 1) := by decide +kernel
theorem d_Comp_emit_25 : decode b_Comp_emit 25 = .ok (.iadd, 1) := by decide +kernel
theorem d_Comp_emit_26 : decode b_Comp_emit 26 = .ok (.putfield 26, 3) := by decide +kernel
theorem d_Comp_emit_29 : decode b_Comp_emit 29 = .ok (.aload_n 0, 1) := by decide +kernel
theorem d_Comp_emit_30 : decode b_Comp_emit 30 = .ok (.getfield 15, 3) := by decide +kernel
theorem d_Comp_emit_33 : decode b_Comp_emit 33 = .ok (.aload_n 0, 1) := by decide +kernel
theorem d_Comp_emit_34 : decode b_Comp_emit 34 = .ok (.getfield 15, 3) := by decide +kernel
theorem d_Comp_emit_37 : decode b_Comp_emit 37 = .ok (.getfield 58, 3) := by decide +kernel
theorem d_Comp_emit_40 : decode b_Comp_emit 40 = .ok (.aload_n 0, 1) := by decide +kernel
theorem d_Comp_emit_41 : decode b_Comp_emit 41 = .ok (.getfield 26, 3) := by decide +kernel
theorem d_Comp_emit_44 : decode b_Comp_emit 44 = .ok (.invokestatic 61, 3) := by decide +kernel
theorem d_Comp_emit_47 : decode b_Comp_emit 47 = .ok (.putfield 58, 3) := by decide +kernel
theorem d_Comp_emit_50 : decode b_Comp_emit 50 = .ok (.return_, 1) := by decide +kernel
abbrev b_Comp_emitOfTimes : ByteArray := prog_5_method_4_code
abbrev J_Comp_emitOfTimes : MethodName × ByteArray × Nat × Option FieldType := (⟨"FaslDesk$Compiler", "emitOfTimes", "(I)V"⟩, b_Comp_emitOfTimes, 3, none)
theorem d_Comp_emitOfTimes_0 : decode b_Comp_emitOfTimes 0 = .ok (.aload_n 0, 1) := by decide +kernel
theorem d_Comp_emitOfTimes_1 : decode b_Comp_emitOfTimes 1 = .ok (.getfield 25, 3) := by decide +kernel
theorem d_Comp_emitOfTimes_4 : decode b_Comp_emitOfTimes 4 = .ok (.getfield 67, 3) := by decide +kernel
theorem d_Comp_emitOfTimes_7 : decode b_Comp_emitOfTimes 7 = .ok (.istore_n 2, 1) := by decide +kernel
theorem d_Comp_emitOfTimes_8 : decode b_Comp_emitOfTimes 8 = .ok (.aload_n 0, 1) := by decide +kernel
theorem d_Comp_emitOfTimes_9 : decode b_Comp_emitOfTimes 9 = .ok (.iload_n 1, 1) := by decide +kernel
theorem d_Comp_emitOfTimes_10 : decode b_Comp_emitOfTimes 10 = .ok (.iconst 0, 1) := by decide +kernel
theorem d_Comp_emitOfTimes_11 : decode b_Comp_emitOfTimes 11 = .ok (.invokevirtual 41, 3) := by decide +kernel
theorem d_Comp_emitOfTimes_14 : decode b_Comp_emitOfTimes 14 = .ok (.iload_n 2, 1) := by decide +kernel
theorem d_Comp_emitOfTimes_15 : decode b_Comp_emitOfTimes 15 = .ok (.aload_n 0, 1) := by decide +kernel
theorem d_Comp_emitOfTimes_16 : decode b_Comp_emitOfTimes 16 = .ok (.getfield 25, 3) := by decide +kernel
theorem d_Comp_emitOfTimes_19 : decode b_Comp_emitOfTimes 19 = .ok (.getfield 67, 3) := by decide +kernel
theorem d_Comp_emitOfTimes_22 : decode b_Comp_emitOfTimes 22 = .ok (.if_icmp .ge 13, 3) := by decide +kernel
theorem d_Comp_emitOfTimes_25 : decode b_Comp_emitOfTimes 25 = .ok (.aload_n 0, 1) := by decide +kernel
theorem d_Comp_emitOfTimes_26 : decode b_Comp_emitOfTimes 26 = .ok (.getfield 15, 3) := by decide +kernel
theorem d_Comp_emitOfTimes_29 : decode b_Comp_emitOfTimes 29 = .ok (.getfield 70, 3) := by decide +kernel
theorem d_Comp_emitOfTimes_32 : decode b_Comp_emitOfTimes 32 = .ok (.iload_n 2, 1) := by decide +kernel
theorem d_Comp_emitOfTimes_33 : decode b_Comp_emitOfTimes 33 = .ok (.iconst 1, 1) := by decide +kernel
theorem d_Comp_emitOfTimes_34 : decode b_Comp_emitOfTimes 34 = .ok (.bastore, 1) := by decide +kernel
theorem d_Comp_emitOfTimes_35 : decode b_Comp_emitOfTimes 35 = .ok (.return_, 1) := by decide +kernel
abbrev b_Comp_emitForm : ByteArray := prog_5_method_5_code
abbrev J_Comp_emitForm : MethodName × ByteArray × Nat × Option FieldType := (⟨"FaslDesk$Compiler", "emitForm", "(I)V"⟩, b_Comp_emitForm, 5, none)
theorem d_Comp_emitForm_0 : decode b_Comp_emitForm 0 = .ok (.iload_n 1, 1) := by decide +kernel
theorem d_Comp_emitForm_1 : decode b_Comp_emitForm 1 = .ok (.ifCond .lt 14, 3) := by decide +kernel
theorem d_Comp_emitForm_4 : decode b_Comp_emitForm 4 = .ok (.iload_n 1, 1) := by decide +kernel
theorem d_Comp_emitForm_5 : decode b_Comp_emitForm 5 = .ok (.aload_n 0, 1) := by decide +kernel
theorem d_Comp_emitForm_6 : decode b_Comp_emitForm 6 = .ok (.getfield 9, 3) := by decide +kernel
theorem d_Comp_emitForm_9 : decode b_Comp_emitForm 9 = .ok (.getfield 74, 3) := by decide +kernel
theorem d_Comp_emitForm_12 : decode b_Comp_emitForm 12 = .ok (.if_icmp .lt 4, 3) := by decide +kernel
theorem d_Comp_emitForm_15 : decode b_Comp_emitForm 15 = .ok (.return_, 1) := by decide +kernel
theorem d_Comp_emitForm_16 : decode b_Comp_emitForm 16 = .ok (.aload_n 0, 1) := by decide +kernel
theorem d_Comp_emitForm_17 : decode b_Comp_emitForm 17 = .ok (.getfield 9, 3) := by decide +kernel
theorem d_Comp_emitForm_20 : decode b_Comp_emitForm 20 = .ok (.getfield 75, 3) := by decide +kernel
theorem d_Comp_emitForm_23 : decode b_Comp_emitForm 23 = .ok (.iload_n 1, 1) := by decide +kernel
theorem d_Comp_emitForm_24 : decode b_Comp_emitForm 24 = .ok (.iaload, 1) := by decide +kernel
theorem d_Comp_emitForm_25 : decode b_Comp_emitForm 25 = .ok (.istore_n 2, 1) := by decide +kernel
theorem d_Comp_emitForm_26 : decode b_Comp_emitForm 26 = .ok (.aload_n 0, 1) := by decide +kernel
theorem d_Comp_emitForm_27 : decode b_Comp_emitForm 27 = .ok (.getfield 9, 3) := by decide +kernel
theorem d_Comp_emitForm_30 : decode b_Comp_emitForm 30 = .ok (.getfield 78, 3) := by decide +kernel
theorem d_Comp_emitForm_33 : decode b_Comp_emitForm 33 = .ok (.iload_n 1, 1) := by decide +kernel
theorem d_Comp_emitForm_34 : decode b_Comp_emitForm 34 = .ok (.iaload, 1) := by decide +kernel
theorem d_Comp_emitForm_35 : decode b_Comp_emitForm 35 = .ok (.istore_n 3, 1) := by decide +kernel
theorem d_Comp_emitForm_36 : decode b_Comp_emitForm 36 = .ok (.iload_n 2, 1) := by decide +kernel
theorem d_Comp_emitForm_37 : decode b_Comp_emitForm 37 = .ok (.tableswitch 183 0 16 #[83, 92, 183, 183, 183, 183, 183, 183, 183, 183, 183, 183, 183, 101, 109, 145, 175], 83) := by decide +kernel
theorem d_Comp_emitForm_120 : decode b_Comp_emitForm 120 = .ok (.aload_n 0, 1) := by decide +kernel
theorem d_Comp_emitForm_121 : decode b_Comp_emitForm 121 = .ok (.iconst 0, 1) := by decide +kernel
theorem d_Comp_emitForm_122 : decode b_Comp_emitForm 122 = .ok (.iload_n 3, 1) := by decide +kernel
theorem d_Comp_emitForm_123 : decode b_Comp_emitForm 123 = .ok (.invokevirtual 41, 3) := by decide +kernel
theorem d_Comp_emitForm_126 : decode b_Comp_emitForm 126 = .ok (.goto 154, 3) := by decide +kernel
theorem d_Comp_emitForm_129 : decode b_Comp_emitForm 129 = .ok (.aload_n 0, 1) := by decide +kernel
theorem d_Comp_emitForm_130 : decode b_Comp_emitForm 130 = .ok (.iconst 1, 1) := by decide +kernel
theorem d_Comp_emitForm_131 : decode b_Comp_emitForm 131 = .ok (.iload_n 3, 1) := by decide +kernel
theorem d_Comp_emitForm_132 : decode b_Comp_emitForm 132 = .ok (.invokevirtual 41, 3) := by decide +kernel
theorem d_Comp_emitForm_135 : decode b_Comp_emitForm 135 = .ok (.goto 145, 3) := by decide +kernel
theorem d_Comp_emitForm_138 : decode b_Comp_emitForm 138 = .ok (.aload_n 0, 1) := by decide +kernel
theorem d_Comp_emitForm_139 : decode b_Comp_emitForm 139 = .ok (.iload_n 1, 1) := by decide +kernel
theorem d_Comp_emitForm_140 : decode b_Comp_emitForm 140 = .ok (.invokevirtual 81, 3) := by decide +kernel
theorem d_Comp_emitForm_143 : decode b_Comp_emitForm 143 = .ok (.goto 137, 3) := by decide +kernel
theorem d_Comp_emitForm_146 : decode b_Comp_emitForm 146 = .ok (.aload_n 0, 1) := by decide +kernel
theorem d_Comp_emitForm_147 : decode b_Comp_emitForm 147 = .ok (.aload_n 0, 1) := by decide +kernel
theorem d_Comp_emitForm_148 : decode b_Comp_emitForm 148 = .ok (.getfield 9, 3) := by decide +kernel
theorem d_Comp_emitForm_151 : decode b_Comp_emitForm 151 = .ok (.iload_n 1, 1) := by decide +kernel
theorem d_Comp_emitForm_152 : decode b_Comp_emitForm 152 = .ok (.iconst 0, 1) := by decide +kernel
theorem d_Comp_emitForm_153 : decode b_Comp_emitForm 153 = .ok (.invokevirtual 84, 3) := by decide +kernel
theorem d_Comp_emitForm_156 : decode b_Comp_emitForm 156 = .ok (.invokevirtual 45, 3) := by decide +kernel
theorem d_Comp_emitForm_159 : decode b_Comp_emitForm 159 = .ok (.aload_n 0, 1) := by decide +kernel
theorem d_Comp_emitForm_160 : decode b_Comp_emitForm 160 = .ok (.bipush 13, 2) := by decide +kernel
theorem d_Comp_emitForm_162 : decode b_Comp_emitForm 162 = .ok (.iload_n 3, 1) := by decide +kernel
theorem d_Comp_emitForm_163 : decode b_Comp_emitForm 163 = .ok (.invokevirtual 41, 3) := by decide +kernel
theorem d_Comp_emitForm_166 : decode b_Comp_emitForm 166 = .ok (.aload_n 0, 1) := by decide +kernel
theorem d_Comp_emitForm_167 : decode b_Comp_emitForm 167 = .ok (.aload_n 0, 1) := by decide +kernel
theorem d_Comp_emitForm_168 : decode b_Comp_emitForm 168 = .ok (.getfield 9, 3) := by decide +kernel
theorem d_Comp_emitForm_171 : decode b_Comp_emitForm 171 = .ok (.iload_n 1, 1) := by decide +kernel
theorem d_Comp_emitForm_172 : decode b_Comp_emitForm 172 = .ok (.iconst 1, 1) := by decide +kernel
theorem d_Comp_emitForm_173 : decode b_Comp_emitForm 173 = .ok (.invokevirtual 84, 3) := by decide +kernel
theorem d_Comp_emitForm_176 : decode b_Comp_emitForm 176 = .ok (.invokevirtual 45, 3) := by decide +kernel
theorem d_Comp_emitForm_179 : decode b_Comp_emitForm 179 = .ok (.goto 101, 3) := by decide +kernel
theorem d_Comp_emitForm_182 : decode b_Comp_emitForm 182 = .ok (.aload_n 0, 1) := by decide +kernel
theorem d_Comp_emitForm_183 : decode b_Comp_emitForm 183 = .ok (.aload_n 0, 1) := by decide +kernel
theorem d_Comp_emitForm_184 : decode b_Comp_emitForm 184 = .ok (.getfield 9, 3) := by decide +kernel
theorem d_Comp_emitForm_187 : decode b_Comp_emitForm 187 = .ok (.iload_n 1, 1) := by decide +kernel
theorem d_Comp_emitForm_188 : decode b_Comp_emitForm 188 = .ok (.iconst 0, 1) := by decide +kernel
theorem d_Comp_emitForm_189 : decode b_Comp_emitForm 189 = .ok (.invokevirtual 84, 3) := by decide +kernel
theorem d_Comp_emitForm_192 : decode b_Comp_emitForm 192 = .ok (.invokevirtual 45, 3) := by decide +kernel
theorem d_Comp_emitForm_195 : decode b_Comp_emitForm 195 = .ok (.aload_n 0, 1) := by decide +kernel
theorem d_Comp_emitForm_196 : decode b_Comp_emitForm 196 = .ok (.bipush 19, 2) := by decide +kernel
theorem d_Comp_emitForm_198 : decode b_Comp_emitForm 198 = .ok (.iconst 0, 1) := by decide +kernel
theorem d_Comp_emitForm_199 : decode b_Comp_emitForm 199 = .ok (.invokevirtual 41, 3) := by decide +kernel
theorem d_Comp_emitForm_202 : decode b_Comp_emitForm 202 = .ok (.aload_n 0, 1) := by decide +kernel
theorem d_Comp_emitForm_203 : decode b_Comp_emitForm 203 = .ok (.bipush 13, 2) := by decide +kernel
theorem d_Comp_emitForm_205 : decode b_Comp_emitForm 205 = .ok (.iload_n 3, 1) := by decide +kernel
theorem d_Comp_emitForm_206 : decode b_Comp_emitForm 206 = .ok (.invokevirtual 41, 3) := by decide +kernel
theorem d_Comp_emitForm_209 : decode b_Comp_emitForm 209 = .ok (.goto 71, 3) := by decide +kernel
theorem d_Comp_emitForm_212 : decode b_Comp_emitForm 212 = .ok (.aload_n 0, 1) := by decide +kernel
theorem d_Comp_emitForm_213 : decode b_Comp_emitForm 213 = .ok (.iload_n 1, 1) := by decide +kernel
theorem d_Comp_emitForm_214 : decode b_Comp_emitForm 214 = .ok (.invokevirtual 87, 3) := by decide +kernel
theorem d_Comp_emitForm_217 : decode b_Comp_emitForm 217 = .ok (.goto 63, 3) := by decide +kernel
theorem d_Comp_emitForm_220 : decode b_Comp_emitForm 220 = .ok (.iconst 0, 1) := by decide +kernel
theorem d_Comp_emitForm_221 : decode b_Comp_emitForm 221 = .ok (.istore 4, 2) := by decide +kernel
theorem d_Comp_emitForm_223 : decode b_Comp_emitForm 223 = .ok (.iload 4, 2) := by decide +kernel
theorem d_Comp_emitForm_225 : decode b_Comp_emitForm 225 = .ok (.getstatic 90, 3) := by decide +kernel
theorem d_Comp_emitForm_228 : decode b_Comp_emitForm 228 = .ok (.iload_n 2, 1) := by decide +kernel
theorem d_Comp_emitForm_229 : decode b_Comp_emitForm 229 = .ok (.iaload, 1) := by decide +kernel
theorem d_Comp_emitForm_230 : decode b_Comp_emitForm 230 = .ok (.if_icmp .ge 23, 3) := by decide +kernel
theorem d_Comp_emitForm_233 : decode b_Comp_emitForm 233 = .ok (.aload_n 0, 1) := by decide +kernel
theorem d_Comp_emitForm_234 : decode b_Comp_emitForm 234 = .ok (.aload_n 0, 1) := by decide +kernel
theorem d_Comp_emitForm_235 : decode b_Comp_emitForm 235 = .ok (.getfield 9, 3) := by decide +kernel
theorem d_Comp_emitForm_238 : decode b_Comp_emitForm 238 = .ok (.iload_n 1, 1) := by decide +kernel
theorem d_Comp_emitForm_239 : decode b_Comp_emitForm 239 = .ok (.iload 4, 2) := by decide +kernel
theorem d_Comp_emitForm_241 : decode b_Comp_emitForm 241 = .ok (.invokevirtual 84, 3) := by decide +kernel
theorem d_Comp_emitForm_244 : decode b_Comp_emitForm 244 = .ok (.invokevirtual 45, 3) := by decide +kernel
theorem d_Comp_emitForm_247 : decode b_Comp_emitForm 247 = .ok (.iinc 4 1, 3) := by decide +kernel
theorem d_Comp_emitForm_250 : decode b_Comp_emitForm 250 = .ok (.goto (-27), 3) := by decide +kernel
theorem d_Comp_emitForm_253 : decode b_Comp_emitForm 253 = .ok (.aload_n 0, 1) := by decide +kernel
theorem d_Comp_emitForm_254 : decode b_Comp_emitForm 254 = .ok (.iload_n 2, 1) := by decide +kernel
theorem d_Comp_emitForm_255 : decode b_Comp_emitForm 255 = .ok (.bipush 17, 2) := by decide +kernel
theorem d_Comp_emitForm_257 : decode b_Comp_emitForm 257 = .ok (.if_icmp .ne 8, 3) := by decide +kernel
theorem d_Comp_emitForm_260 : decode b_Comp_emitForm 260 = .ok (.bipush 16, 2) := by decide +kernel
theorem d_Comp_emitForm_262 : decode b_Comp_emitForm 262 = .ok (.goto 4, 3) := by decide +kernel
theorem d_Comp_emitForm_265 : decode b_Comp_emitForm 265 = .ok (.iload_n 2, 1) := by decide +kernel
theorem d_Comp_emitForm_266 : decode b_Comp_emitForm 266 = .ok (.iload_n 2, 1) := by decide +kernel
theorem d_Comp_emitForm_267 : decode b_Comp_emitForm 267 = .ok (.bipush 17, 2) := by decide +kernel
theorem d_Comp_emitForm_269 : decode b_Comp_emitForm 269 = .ok (.if_icmp .ne 7, 3) := by decide +kernel
theorem d_Comp_emitForm_272 : decode b_Comp_emitForm 272 = .ok (.iload_n 3, 1) := by decide +kernel
theorem d_Comp_emitForm_273 : decode b_Comp_emitForm 273 = .ok (.goto 4, 3) := by decide +kernel
theorem d_Comp_emitForm_276 : decode b_Comp_emitForm 276 = .ok (.iconst 0, 1) := by decide +kernel
theorem d_Comp_emitForm_277 : decode b_Comp_emitForm 277 = .ok (.invokevirtual 41, 3) := by decide +kernel
theorem d_Comp_emitForm_280 : decode b_Comp_emitForm 280 = .ok (.return_, 1) := by decide +kernel
abbrev b_Comp_emitIf : ByteArray := prog_5_method_6_code
abbrev J_Comp_emitIf : MethodName × ByteArray × Nat × Option FieldType := (⟨"FaslDesk$Compiler", "emitIf", "(I)V"⟩, b_Comp_emitIf, 5, none)
theorem d_Comp_emitIf_0 : decode b_Comp_emitIf 0 = .ok (.aload_n 0, 1) := by decide +kernel
theorem d_Comp_emitIf_1 : decode b_Comp_emitIf 1 = .ok (.aload_n 0, 1) := by decide +kernel
theorem d_Comp_emitIf_2 : decode b_Comp_emitIf 2 = .ok (.getfield 9, 3) := by decide +kernel
theorem d_Comp_emitIf_5 : decode b_Comp_emitIf 5 = .ok (.iload_n 1, 1) := by decide +kernel
theorem d_Comp_emitIf_6 : decode b_Comp_emitIf 6 = .ok (.iconst 0, 1) := by decide +kernel
theorem d_Comp_emitIf_7 : decode b_Comp_emitIf 7 = .ok (.invokevirtual 84, 3) := by decide +kernel
theorem d_Comp_emitIf_10 : decode b_Comp_emitIf 10 = .ok (.invokevirtual 45, 3) := by decide +kernel
theorem d_Comp_emitIf_13 : decode b_Comp_emitIf 13 = .ok (.aload_n 0, 1) := by decide +kernel
theorem d_Comp_emitIf_14 : decode b_Comp_emitIf 14 = .ok (.getfield 25, 3) := by decide +kernel
theorem d_Comp_emitIf_17 : decode b_Comp_emitIf 17 = .ok (.getfield 67, 3) := by decide +kernel
theorem d_Comp_emitIf_20 : decode b_Comp_emitIf 20 = .ok (.istore_n 2, 1) := by decide +kernel
theorem d_Comp_emitIf_21 : decode b_Comp_emitIf 21 = .ok (.aload_n 0, 1) := by decide +kernel
theorem d_Comp_emitIf_22 : decode b_Comp_emitIf 22 = .ok (.bipush 14, 2) := by decide +kernel
theorem d_Comp_emitIf_24 : decode b_Comp_emitIf 24 = .ok (.aload_n 0, 1) := by decide +kernel
theorem d_Comp_emitIf_25 : decode b_Comp_emitIf 25 = .ok (.getfield 9, 3) := by decide +kernel
theorem d_Comp_emitIf_28 : decode b_Comp_emitIf 28 = .ok (.getfield 78, 3) := by decide +kernel
theorem d_Comp_emitIf_31 : decode b_Comp_emitIf 31 = .ok (.iload_n 1, 1) := by decide +kernel
theorem d_Comp_emitIf_32 : decode b_Comp_emitIf 32 = .ok (.iaload, 1) := by decide +kernel
theorem d_Comp_emitIf_33 : decode b_Comp_emitIf 33 = .ok (.invokevirtual 41, 3) := by decide +kernel
theorem d_Comp_emitIf_36 : decode b_Comp_emitIf 36 = .ok (.aload_n 0, 1) := by decide +kernel
theorem d_Comp_emitIf_37 : decode b_Comp_emitIf 37 = .ok (.getfield 26, 3) := by decide +kernel
theorem d_Comp_emitIf_40 : decode b_Comp_emitIf 40 = .ok (.istore_n 3, 1) := by decide +kernel
theorem d_Comp_emitIf_41 : decode b_Comp_emitIf 41 = .ok (.aload_n 0, 1) := by decide +kernel
theorem d_Comp_emitIf_42 : decode b_Comp_emitIf 42 = .ok (.aload_n 0, 1) := by decide +kernel
theorem d_Comp_emitIf_43 : decode b_Comp_emitIf 43 = .ok (.getfield 9, 3) := by decide +kernel
theorem d_Comp_emitIf_46 : decode b_Comp_emitIf 46 = .ok (.iload_n 1, 1) := by decide +kernel
theorem d_Comp_emitIf_47 : decode b_Comp_emitIf 47 = .ok (.iconst 1, 1) := by decide +kernel
theorem d_Comp_emitIf_48 : decode b_Comp_emitIf 48 = .ok (.invokevirtual 84, 3) := by decide +kernel
theorem d_Comp_emitIf_51 : decode b_Comp_emitIf 51 = .ok (.invokevirtual 45, 3) := by decide +kernel
theorem d_Comp_emitIf_54 : decode b_Comp_emitIf 54 = .ok (.aload_n 0, 1) := by decide +kernel
theorem d_Comp_emitIf_55 : decode b_Comp_emitIf 55 = .ok (.getfield 25, 3) := by decide +kernel
theorem d_Comp_emitIf_58 : decode b_Comp_emitIf 58 = .ok (.getfield 67, 3) := by decide +kernel
theorem d_Comp_emitIf_61 : decode b_Comp_emitIf 61 = .ok (.istore 4, 2) := by decide +kernel
theorem d_Comp_emitIf_63 : decode b_Comp_emitIf 63 = .ok (.aload_n 0, 1) := by decide +kernel
theorem d_Comp_emitIf_64 : decode b_Comp_emitIf 64 = .ok (.bipush 15, 2) := by decide +kernel
theorem d_Comp_emitIf_66 : decode b_Comp_emitIf 66 = .ok (.iconst 0, 1) := by decide +kernel
theorem d_Comp_emitIf_67 : decode b_Comp_emitIf 67 = .ok (.invokevirtual 41, 3) := by decide +kernel
theorem d_Comp_emitIf_70 : decode b_Comp_emitIf 70 = .ok (.aload_n 0, 1) := by decide +kernel
theorem d_Comp_emitIf_71 : decode b_Comp_emitIf 71 = .ok (.iload_n 2, 1) := by decide +kernel
theorem d_Comp_emitIf_72 : decode b_Comp_emitIf 72 = .ok (.aload_n 0, 1) := by decide +kernel
theorem d_Comp_emitIf_73 : decode b_Comp_emitIf 73 = .ok (.getfield 25, 3) := by decide +kernel
theorem d_Comp_emitIf_76 : decode b_Comp_emitIf 76 = .ok (.getfield 67, 3) := by decide +kernel
theorem d_Comp_emitIf_79 : decode b_Comp_emitIf 79 = .ok (.invokevirtual 93, 3) := by decide +kernel
theorem d_Comp_emitIf_82 : decode b_Comp_emitIf 82 = .ok (.aload_n 0, 1) := by decide +kernel
theorem d_Comp_emitIf_83 : decode b_Comp_emitIf 83 = .ok (.iload_n 3, 1) := by decide +kernel
theorem d_Comp_emitIf_84 : decode b_Comp_emitIf 84 = .ok (.putfield 26, 3) := by decide +kernel
theorem d_Comp_emitIf_87 : decode b_Comp_emitIf 87 = .ok (.aload_n 0, 1) := by decide +kernel
theorem d_Comp_emitIf_88 : decode b_Comp_emitIf 88 = .ok (.aload_n 0, 1) := by decide +kernel
theorem d_Comp_emitIf_89 : decode b_Comp_emitIf 89 = .ok (.getfield 9, 3) := by decide +kernel
theorem d_Comp_emitIf_92 : decode b_Comp_emitIf 92 = .ok (.iload_n 1, 1) := by decide +kernel
theorem d_Comp_emitIf_93 : decode b_Comp_emitIf 93 = .ok (.iconst 2, 1) := by decide +kernel
theorem d_Comp_emitIf_94 : decode b_Comp_emitIf 94 = .ok (.invokevirtual 84, 3) := by decide +kernel
theorem d_Comp_emitIf_97 : decode b_Comp_emitIf 97 = .ok (.invokevirtual 45, 3) := by decide +kernel
theorem d_Comp_emitIf_100 : decode b_Comp_emitIf 100 = .ok (.aload_n 0, 1) := by decide +kernel
theorem d_Comp_emitIf_101 : decode b_Comp_emitIf 101 = .ok (.iload 4, 2) := by decide +kernel
theorem d_Comp_emitIf_103 : decode b_Comp_emitIf 103 = .ok (.aload_n 0, 1) := by decide +kernel
theorem d_Comp_emitIf_104 : decode b_Comp_emitIf 104 = .ok (.getfield 25, 3) := by decide +kernel
theorem d_Comp_emitIf_107 : decode b_Comp_emitIf 107 = .ok (.getfield 67, 3) := by decide +kernel
theorem d_Comp_emitIf_110 : decode b_Comp_emitIf 110 = .ok (.invokevirtual 96, 3) := by decide +kernel
theorem d_Comp_emitIf_113 : decode b_Comp_emitIf 113 = .ok (.return_, 1) := by decide +kernel
abbrev b_Comp_emitTimes : ByteArray := prog_5_method_7_code
abbrev J_Comp_emitTimes : MethodName × ByteArray × Nat × Option FieldType := (⟨"FaslDesk$Compiler", "emitTimes", "(I)V"⟩, b_Comp_emitTimes, 5, none)
theorem d_Comp_emitTimes_0 : decode b_Comp_emitTimes 0 = .ok (.aload_n 0, 1) := by decide +kernel
theorem d_Comp_emitTimes_1 : decode b_Comp_emitTimes 1 = .ok (.getfield 9, 3) := by decide +kernel
theorem d_Comp_emitTimes_4 : decode b_Comp_emitTimes 4 = .ok (.getfield 78, 3) := by decide +kernel
theorem d_Comp_emitTimes_7 : decode b_Comp_emitTimes 7 = .ok (.iload_n 1, 1) := by decide +kernel
theorem d_Comp_emitTimes_8 : decode b_Comp_emitTimes 8 = .ok (.iaload, 1) := by decide +kernel
theorem d_Comp_emitTimes_9 : decode b_Comp_emitTimes 9 = .ok (.istore_n 2, 1) := by decide +kernel
theorem d_Comp_emitTimes_10 : decode b_Comp_emitTimes 10 = .ok (.aload_n 0, 1) := by decide +kernel
theorem d_Comp_emitTimes_11 : decode b_Comp_emitTimes 11 = .ok (.aload_n 0, 1) := by decide +kernel
theorem d_Comp_emitTimes_12 : decode b_Comp_emitTimes 12 = .ok (.getfield 9, 3) := by decide +kernel
theorem d_Comp_emitTimes_15 : decode b_Comp_emitTimes 15 = .ok (.iload_n 1, 1) := by decide +kernel
theorem d_Comp_emitTimes_16 : decode b_Comp_emitTimes 16 = .ok (.iconst 0, 1) := by decide +kernel
theorem d_Comp_emitTimes_17 : decode b_Comp_emitTimes 17 = .ok (.invokevirtual 84, 3) := by decide +kernel
theorem d_Comp_emitTimes_20 : decode b_Comp_emitTimes 20 = .ok (.invokevirtual 45, 3) := by decide +kernel
theorem d_Comp_emitTimes_23 : decode b_Comp_emitTimes 23 = .ok (.aload_n 0, 1) := by decide +kernel
theorem d_Comp_emitTimes_24 : decode b_Comp_emitTimes 24 = .ok (.iconst 0, 1) := by decide +kernel
theorem d_Comp_emitTimes_25 : decode b_Comp_emitTimes 25 = .ok (.bipush 7, 2) := by decide +kernel
theorem d_Comp_emitTimes_27 : decode b_Comp_emitTimes 27 = .ok (.invokevirtual 41, 3) := by decide +kernel
theorem d_Comp_emitTimes_30 : decode b_Comp_emitTimes 30 = .ok (.aload_n 0, 1) := by decide +kernel
theorem d_Comp_emitTimes_31 : decode b_Comp_emitTimes 31 = .ok (.bipush 7, 2) := by decide +kernel
theorem d_Comp_emitTimes_33 : decode b_Comp_emitTimes 33 = .ok (.invokevirtual 99, 3) := by decide +kernel
theorem d_Comp_emitTimes_36 : decode b_Comp_emitTimes 36 = .ok (.aload_n 0, 1) := by decide +kernel
theorem d_Comp_emitTimes_37 : decode b_Comp_emitTimes 37 = .ok (.bipush 13, 2) := by decide +kernel
theorem d_Comp_emitTimes_39 : decode b_Comp_emitTimes 39 = .ok (.iload_n 2, 1) := by decide +kernel
theorem d_Comp_emitTimes_40 : decode b_Comp_emitTimes 40 = .ok (.invokevirtual 41, 3) := by decide +kernel
theorem d_Comp_emitTimes_43 : decode b_Comp_emitTimes 43 = .ok (.aload_n 0, 1) := by decide +kernel
theorem d_Comp_emitTimes_44 : decode b_Comp_emitTimes 44 = .ok (.getfield 25, 3) := by decide +kernel
theorem d_Comp_emitTimes_47 : decode b_Comp_emitTimes 47 = .ok (.getfield 67, 3) := by decide +kernel
theorem d_Comp_emitTimes_50 : decode b_Comp_emitTimes 50 = .ok (.istore_n 3, 1) := by decide +kernel
theorem d_Comp_emitTimes_51 : decode b_Comp_emitTimes 51 = .ok (.aload_n 0, 1) := by decide +kernel
theorem d_Comp_emitTimes_52 : decode b_Comp_emitTimes 52 = .ok (.iconst 1, 1) := by decide +kernel
theorem d_Comp_emitTimes_53 : decode b_Comp_emitTimes 53 = .ok (.iload_n 2, 1) := by decide +kernel
theorem d_Comp_emitTimes_54 : decode b_Comp_emitTimes 54 = .ok (.invokevirtual 41, 3) := by decide +kernel
theorem d_Comp_emitTimes_57 : decode b_Comp_emitTimes 57 = .ok (.aload_n 0, 1) := by decide +kernel
theorem d_Comp_emitTimes_58 : decode b_Comp_emitTimes 58 = .ok (.getfield 25, 3) := by decide +kernel
theorem d_Comp_emitTimes_61 : decode b_Comp_emitTimes 61 = .ok (.getfield 67, 3) := by decide +kernel
theorem d_Comp_emitTimes_64 : decode b_Comp_emitTimes 64 = .ok (.istore 4, 2) := by decide +kernel
theorem d_Comp_emitTimes_66 : decode b_Comp_emitTimes 66 = .ok (.aload_n 0, 1) := by decide +kernel
theorem d_Comp_emitTimes_67 : decode b_Comp_emitTimes 67 = .ok (.bipush 14, 2) := by decide +kernel
theorem d_Comp_emitTimes_69 : decode b_Comp_emitTimes 69 = .ok (.iconst 1, 1) := by decide +kernel
theorem d_Comp_emitTimes_70 : decode b_Comp_emitTimes 70 = .ok (.invokevirtual 41, 3) := by decide +kernel
theorem d_Comp_emitTimes_73 : decode b_Comp_emitTimes 73 = .ok (.aload_n 0, 1) := by decide +kernel
theorem d_Comp_emitTimes_74 : decode b_Comp_emitTimes 74 = .ok (.aload_n 0, 1) := by decide +kernel
theorem d_Comp_emitTimes_75 : decode b_Comp_emitTimes 75 = .ok (.getfield 9, 3) := by decide +kernel
theorem d_Comp_emitTimes_78 : decode b_Comp_emitTimes 78 = .ok (.iload_n 1, 1) := by decide +kernel
theorem d_Comp_emitTimes_79 : decode b_Comp_emitTimes 79 = .ok (.iconst 1, 1) := by decide +kernel
theorem d_Comp_emitTimes_80 : decode b_Comp_emitTimes 80 = .ok (.invokevirtual 84, 3) := by decide +kernel
theorem d_Comp_emitTimes_83 : decode b_Comp_emitTimes 83 = .ok (.invokevirtual 45, 3) := by decide +kernel
theorem d_Comp_emitTimes_86 : decode b_Comp_emitTimes 86 = .ok (.aload_n 0, 1) := by decide +kernel
theorem d_Comp_emitTimes_87 : decode b_Comp_emitTimes 87 = .ok (.bipush 18, 2) := by decide +kernel
theorem d_Comp_emitTimes_89 : decode b_Comp_emitTimes 89 = .ok (.invokevirtual 99, 3) := by decide +kernel
theorem d_Comp_emitTimes_92 : decode b_Comp_emitTimes 92 = .ok (.aload_n 0, 1) := by decide +kernel
theorem d_Comp_emitTimes_93 : decode b_Comp_emitTimes 93 = .ok (.iconst 1, 1) := by decide +kernel
theorem d_Comp_emitTimes_94 : decode b_Comp_emitTimes 94 = .ok (.iload_n 2, 1) := by decide +kernel
theorem d_Comp_emitTimes_95 : decode b_Comp_emitTimes 95 = .ok (.invokevirtual 41, 3) := by decide +kernel
theorem d_Comp_emitTimes_98 : decode b_Comp_emitTimes 98 = .ok (.aload_n 0, 1) := by decide +kernel
theorem d_Comp_emitTimes_99 : decode b_Comp_emitTimes 99 = .ok (.iconst 0, 1) := by decide +kernel
theorem d_Comp_emitTimes_100 : decode b_Comp_emitTimes 100 = .ok (.iconst 1, 1) := by decide +kernel
theorem d_Comp_emitTimes_101 : decode b_Comp_emitTimes 101 = .ok (.invokevirtual 41, 3) := by decide +kernel
theorem d_Comp_emitTimes_104 : decode b_Comp_emitTimes 104 = .ok (.aload_n 0, 1) := by decide +kernel
theorem d_Comp_emitTimes_105 : decode b_Comp_emitTimes 105 = .ok (.iconst 3, 1) := by decide +kernel
theorem d_Comp_emitTimes_106 : decode b_Comp_emitTimes 106 = .ok (.invokevirtual 99, 3) := by decide +kernel
theorem d_Comp_emitTimes_109 : decode b_Comp_emitTimes 109 = .ok (.aload_n 0, 1) := by decide +kernel
theorem d_Comp_emitTimes_110 : decode b_Comp_emitTimes 110 = .ok (.bipush 13, 2) := by decide +kernel
theorem d_Comp_emitTimes_112 : decode b_Comp_emitTimes 112 = .ok (.iload_n 2, 1) := by decide +kernel
theorem d_Comp_emitTimes_113 : decode b_Comp_emitTimes 113 = .ok (.invokevirtual 41, 3) := by decide +kernel
theorem d_Comp_emitTimes_116 : decode b_Comp_emitTimes 116 = .ok (.aload_n 0, 1) := by decide +kernel
theorem d_Comp_emitTimes_117 : decode b_Comp_emitTimes 117 = .ok (.bipush 15, 2) := by decide +kernel
theorem d_Comp_emitTimes_119 : decode b_Comp_emitTimes 119 = .ok (.iload_n 3, 1) := by decide +kernel
theorem d_Comp_emitTimes_120 : decode b_Comp_emitTimes 120 = .ok (.invokevirtual 41, 3) := by decide +kernel
theorem d_Comp_emitTimes_123 : decode b_Comp_emitTimes 123 = .ok (.aload_n 0, 1) := by decide +kernel
theorem d_Comp_emitTimes_124 : decode b_Comp_emitTimes 124 = .ok (.iload 4, 2) := by decide +kernel
theorem d_Comp_emitTimes_126 : decode b_Comp_emitTimes 126 = .ok (.aload_n 0, 1) := by decide +kernel
theorem d_Comp_emitTimes_127 : decode b_Comp_emitTimes 127 = .ok (.getfield 25, 3) := by decide +kernel
theorem d_Comp_emitTimes_130 : decode b_Comp_emitTimes 130 = .ok (.getfield 67, 3) := by decide +kernel
theorem d_Comp_emitTimes_133 : decode b_Comp_emitTimes 133 = .ok (.invokevirtual 93, 3) := by decide +kernel
theorem d_Comp_emitTimes_136 : decode b_Comp_emitTimes 136 = .ok (.aload_n 0, 1) := by decide +kernel
theorem d_Comp_emitTimes_137 : decode b_Comp_emitTimes 137 = .ok (.iconst 0, 1) := by decide +kernel
theorem d_Comp_emitTimes_138 : decode b_Comp_emitTimes 138 = .ok (.iconst 0, 1) := by decide +kernel
theorem d_Comp_emitTimes_139 : decode b_Comp_emitTimes 139 = .ok (.invokevirtual 41, 3) := by decide +kernel
theorem d_Comp_emitTimes_142 : decode b_Comp_emitTimes 142 = .ok (.return_, 1) := by decide +kernel
abbrev b_Comp_setFirst : ByteArray := prog_5_method_8_code
abbrev J_Comp_setFirst : MethodName × ByteArray × Nat × Option FieldType := (⟨"FaslDesk$Compiler", "setFirst", "(II)V"⟩, b_Comp_setFirst, 3, none)
theorem d_Comp_setFirst_0 : decode b_Comp_setFirst 0 = .ok (.iload_n 1, 1) := by decide +kernel
theorem d_Comp_setFirst_1 : decode b_Comp_setFirst 1 = .ok (.aload_n 0, 1) := by decide +kernel
theorem d_Comp_setFirst_2 : decode b_Comp_setFirst 2 = .ok (.getfield 25, 3) := by decide +kernel
theorem d_Comp_setFirst_5 : decode b_Comp_setFirst 5 = .ok (.getfield 67, 3) := by decide +kernel
theorem d_Comp_setFirst_8 : decode b_Comp_setFirst 8 = .ok (.if_icmp .ge 13, 3) := by decide +kernel
theorem d_Comp_setFirst_11 : decode b_Comp_setFirst 11 = .ok (.aload_n 0, 1) := by decide +kernel
theorem d_Comp_setFirst_12 : decode b_Comp_setFirst 12 = .ok (.getfield 25, 3) := by decide +kernel
theorem d_Comp_setFirst_15 : decode b_Comp_setFirst 15 = .ok (.getfield 102, 3) := by decide +kernel
theorem d_Comp_setFirst_18 : decode b_Comp_setFirst 18 = .ok (.iload_n 1, 1) := by decide +kernel
theorem d_Comp_setFirst_19 : decode b_Comp_setFirst 19 = .ok (.iload_n 2, 1) := by decide +kernel
theorem d_Comp_setFirst_20 : decode b_Comp_setFirst 20 = .ok (.iastore, 1) := by decide +kernel
theorem d_Comp_setFirst_21 : decode b_Comp_setFirst 21 = .ok (.return_, 1) := by decide +kernel
abbrev b_Comp_setSecond : ByteArray := prog_5_method_9_code
abbrev J_Comp_setSecond : MethodName × ByteArray × Nat × Option FieldType := (⟨"FaslDesk$Compiler", "setSecond", "(II)V"⟩, b_Comp_setSecond, 3, none)
theorem d_Comp_setSecond_0 : decode b_Comp_setSecond 0 = .ok (.iload_n 1, 1) := by decide +kernel
theorem d_Comp_setSecond_1 : decode b_Comp_setSecond 1 = .ok (.aload_n 0, 1) := by decide +kernel
theorem d_Comp_setSecond_2 : decode b_Comp_setSecond 2 = .ok (.getfield 25, 3) := by decide +kernel
theorem d_Comp_setSecond_5 : decode b_Comp_setSecond 5 = .ok (.getfield 67, 3) := by decide +kernel
theorem d_Comp_setSecond_8 : decode b_Comp_setSecond 8 = .ok (.if_icmp .ge 13, 3) := by decide +kernel
theorem d_Comp_setSecond_11 : decode b_Comp_setSecond 11 = .ok (.aload_n 0, 1) := by decide +kernel
theorem d_Comp_setSecond_12 : decode b_Comp_setSecond 12 = .ok (.getfield 25, 3) := by decide +kernel
theorem d_Comp_setSecond_15 : decode b_Comp_setSecond 15 = .ok (.getfield 105, 3) := by decide +kernel
theorem d_Comp_setSecond_18 : decode b_Comp_setSecond 18 = .ok (.iload_n 1, 1) := by decide +kernel
theorem d_Comp_setSecond_19 : decode b_Comp_setSecond 19 = .ok (.iload_n 2, 1) := by decide +kernel
theorem d_Comp_setSecond_20 : decode b_Comp_setSecond 20 = .ok (.iastore, 1) := by decide +kernel
theorem d_Comp_setSecond_21 : decode b_Comp_setSecond 21 = .ok (.return_, 1) := by decide +kernel
abbrev b_Entry_init : ByteArray := prog_6_method_1_code
abbrev J_Entry_init : MethodName × ByteArray × Nat × Option FieldType := (⟨"FaslDesk$Entry", "<init>", "()V"⟩, b_Entry_init, 1, none)
theorem d_Entry_init_0 : decode b_Entry_init 0 = .ok (.aload_n 0, 1) := by decide +kernel
theorem d_Entry_init_1 : decode b_Entry_init 1 = .ok (.invokespecial 3, 3) := by decide +kernel
theorem d_Entry_init_4 : decode b_Entry_init 4 = .ok (.aload_n 0, 1) := by decide +kernel
theorem d_Entry_init_5 : decode b_Entry_init 5 = .ok (.new 9, 3) := by decide +kernel
theorem d_Entry_init_8 : decode b_Entry_init 8 = .ok (.dup, 1) := by decide +kernel
theorem d_Entry_init_9 : decode b_Entry_init 9 = .ok (.invokespecial 11, 3) := by decide +kernel
theorem d_Entry_init_12 : decode b_Entry_init 12 = .ok (.putfield 12, 3) := by decide +kernel
theorem d_Entry_init_15 : decode b_Entry_init 15 = .ok (.aload_n 0, 1) := by decide +kernel
theorem d_Entry_init_16 : decode b_Entry_init 16 = .ok (.sipush 265, 3) := by decide +kernel
theorem d_Entry_init_19 : decode b_Entry_init 19 = .ok (.newarray .boolean, 2) := by decide +kernel
theorem d_Entry_init_21 : decode b_Entry_init 21 = .ok (.putfield 18, 3) := by decide +kernel
theorem d_Entry_init_24 : decode b_Entry_init 24 = .ok (.aload_n 0, 1) := by decide +kernel
theorem d_Entry_init_25 : decode b_Entry_init 25 = .ok (.sipush 265, 3) := by decide +kernel
theorem d_Entry_init_28 : decode b_Entry_init 28 = .ok (.newarray .int, 2) := by decide +kernel
theorem d_Entry_init_30 : decode b_Entry_init 30 = .ok (.putfield 22, 3) := by decide +kernel
theorem d_Entry_init_33 : decode b_Entry_init 33 = .ok (.return_, 1) := by decide +kernel
abbrev b_Entry_startWith : ByteArray := prog_6_method_2_code
abbrev J_Entry_startWith : MethodName × ByteArray × Nat × Option FieldType := (⟨"FaslDesk$Entry", "startWith", "(I)V"⟩, b_Entry_startWith, 3, none)
theorem d_Entry_startWith_0 : decode b_Entry_startWith 0 = .ok (.aload_n 0, 1) := by decide +kernel
theorem d_Entry_startWith_1 : decode b_Entry_startWith 1 = .ok (.getfield 12, 3) := by decide +kernel
theorem d_Entry_startWith_4 : decode b_Entry_startWith 4 = .ok (.iconst 0, 1) := by decide +kernel
theorem d_Entry_startWith_5 : decode b_Entry_startWith 5 = .ok (.putfield 26, 3) := by decide +kernel
theorem d_Entry_startWith_8 : decode b_Entry_startWith 8 = .ok (.aload_n 0, 1) := by decide +kernel
theorem d_Entry_startWith_9 : decode b_Entry_startWith 9 = .ok (.iload_n 1, 1) := by decide +kernel
theorem d_Entry_startWith_10 : decode b_Entry_startWith 10 = .ok (.putfield 30, 3) := by decide +kernel
theorem d_Entry_startWith_13 : decode b_Entry_startWith 13 = .ok (.aload_n 0, 1) := by decide +kernel
theorem d_Entry_startWith_14 : decode b_Entry_startWith 14 = .ok (.iconst 0, 1) := by decide +kernel
theorem d_Entry_startWith_15 : decode b_Entry_startWith 15 = .ok (.putfield 33, 3) := by decide +kernel
theorem d_Entry_startWith_18 : decode b_Entry_startWith 18 = .ok (.iconst 0, 1) := by decide +kernel
theorem d_Entry_startWith_19 : decode b_Entry_startWith 19 = .ok (.istore_n 2, 1) := by decide +kernel
theorem d_Entry_startWith_20 : decode b_Entry_startWith 20 = .ok (.iload_n 2, 1) := by decide +kernel
theorem d_Entry_startWith_21 : decode b_Entry_startWith 21 = .ok (.sipush 265, 3) := by decide +kernel
theorem d_Entry_startWith_24 : decode b_Entry_startWith 24 = .ok (.if_icmp .ge 16, 3) := by decide +kernel
theorem d_Entry_startWith_27 : decode b_Entry_startWith 27 = .ok (.aload_n 0, 1) := by decide +kernel
theorem d_Entry_startWith_28 : decode b_Entry_startWith 28 = .ok (.getfield 18, 3) := by decide +kernel
theorem d_Entry_startWith_31 : decode b_Entry_startWith 31 = .ok (.iload_n 2, 1) := by decide +kernel
theorem d_Entry_startWith_32 : decode b_Entry_startWith 32 = .ok (.iconst 0, 1) := by decide +kernel
theorem d_Entry_startWith_33 : decode b_Entry_startWith 33 = .ok (.bastore, 1) := by decide +kernel
theorem d_Entry_startWith_34 : decode b_Entry_startWith 34 = .ok (.iinc 2 1, 3) := by decide +kernel
theorem d_Entry_startWith_37 : decode b_Entry_startWith 37 = .ok (.goto (-17), 3) := by decide +kernel
theorem d_Entry_startWith_40 : decode b_Entry_startWith 40 = .ok (.return_, 1) := by decide +kernel
abbrev b_Entry_finishFor : ByteArray := prog_6_method_3_code
abbrev J_Entry_finishFor : MethodName × ByteArray × Nat × Option FieldType := (⟨"FaslDesk$Entry", "finishFor", "(I)V"⟩, b_Entry_finishFor, 2, none)
theorem d_Entry_finishFor_0 : decode b_Entry_finishFor 0 = .ok (.aload_n 0, 1) := by decide +kernel
theorem d_Entry_finishFor_1 : decode b_Entry_finishFor 1 = .ok (.iload_n 1, 1) := by decide +kernel
theorem d_Entry_finishFor_2 : decode b_Entry_finishFor 2 = .ok (.putfield 36, 3) := by decide +kernel
theorem d_Entry_finishFor_5 : decode b_Entry_finishFor 5 = .ok (.aload_n 0, 1) := by decide +kernel
theorem d_Entry_finishFor_6 : decode b_Entry_finishFor 6 = .ok (.iload_n 1, 1) := by decide +kernel
theorem d_Entry_finishFor_7 : decode b_Entry_finishFor 7 = .ok (.putfield 39, 3) := by decide +kernel
theorem d_Entry_finishFor_10 : decode b_Entry_finishFor 10 = .ok (.aload_n 0, 1) := by decide +kernel
theorem d_Entry_finishFor_11 : decode b_Entry_finishFor 11 = .ok (.iconst 0, 1) := by decide +kernel
theorem d_Entry_finishFor_12 : decode b_Entry_finishFor 12 = .ok (.putfield 42, 3) := by decide +kernel
theorem d_Entry_finishFor_15 : decode b_Entry_finishFor 15 = .ok (.aload_n 0, 1) := by decide +kernel
theorem d_Entry_finishFor_16 : decode b_Entry_finishFor 16 = .ok (.invokevirtual 46, 3) := by decide +kernel
theorem d_Entry_finishFor_19 : decode b_Entry_finishFor 19 = .ok (.return_, 1) := by decide +kernel
abbrev b_Entry_makeSeal : ByteArray := prog_6_method_4_code
abbrev J_Entry_makeSeal : MethodName × ByteArray × Nat × Option FieldType := (⟨"FaslDesk$Entry", "makeSeal", "()V"⟩, b_Entry_makeSeal, 1, none)
theorem d_Entry_makeSeal_0 : decode b_Entry_makeSeal 0 = .ok (.aload_n 0, 1) := by decide +kernel
theorem d_Entry_makeSeal_1 : decode b_Entry_makeSeal 1 = .ok (.aload_n 0, 1) := by decide +kernel
theorem d_Entry_makeSeal_2 : decode b_Entry_makeSeal 2 = .ok (.getfield 36, 3) := by decide +kernel
theorem d_Entry_makeSeal_5 : decode b_Entry_makeSeal 5 = .ok (.putfield 49, 3) := by decide +kernel
theorem d_Entry_makeSeal_8 : decode b_Entry_makeSeal 8 = .ok (.aload_n 0, 1) := by decide +kernel
theorem d_Entry_makeSeal_9 : decode b_Entry_makeSeal 9 = .ok (.aload_n 0, 1) := by decide +kernel
theorem d_Entry_makeSeal_10 : decode b_Entry_makeSeal 10 = .ok (.getfield 42, 3) := by decide +kernel
theorem d_Entry_makeSeal_13 : decode b_Entry_makeSeal 13 = .ok (.putfield 52, 3) := by decide +kernel
theorem d_Entry_makeSeal_16 : decode b_Entry_makeSeal 16 = .ok (.aload_n 0, 1) := by decide +kernel
theorem d_Entry_makeSeal_17 : decode b_Entry_makeSeal 17 = .ok (.getfield 12, 3) := by decide +kernel
theorem d_Entry_makeSeal_20 : decode b_Entry_makeSeal 20 = .ok (.getfield 55, 3) := by decide +kernel
theorem d_Entry_makeSeal_23 : decode b_Entry_makeSeal 23 = .ok (.iconst 0, 1) := by decide +kernel
theorem d_Entry_makeSeal_24 : decode b_Entry_makeSeal 24 = .ok (.aload_n 0, 1) := by decide +kernel
theorem d_Entry_makeSeal_25 : decode b_Entry_makeSeal 25 = .ok (.getfield 22, 3) := by decide +kernel
theorem d_Entry_makeSeal_28 : decode b_Entry_makeSeal 28 = .ok (.iconst 0, 1) := by decide +kernel
theorem d_Entry_makeSeal_29 : decode b_Entry_makeSeal 29 = .ok (.aload_n 0, 1) := by decide +kernel
theorem d_Entry_makeSeal_30 : decode b_Entry_makeSeal 30 = .ok (.getfield 12, 3) := by decide +kernel
theorem d_Entry_makeSeal_33 : decode b_Entry_makeSeal 33 = .ok (.getfield 26, 3) := by decide +kernel
theorem d_Entry_makeSeal_36 : decode b_Entry_makeSeal 36 = .ok (.invokestatic 58, 3) := by decide +kernel
theorem d_Entry_makeSeal_39 : decode b_Entry_makeSeal 39 = .ok (.return_, 1) := by decide +kernel
abbrev b_Entry_sealGoes : ByteArray := prog_6_method_5_code
abbrev J_Entry_sealGoes : MethodName × ByteArray × Nat × Option FieldType := (⟨"FaslDesk$Entry", "sealGoes", "()Z"⟩, b_Entry_sealGoes, 3, (some .boolean))
theorem d_Entry_sealGoes_0 : decode b_Entry_sealGoes 0 = .ok (.aload_n 0, 1) := by decide +kernel
theorem d_Entry_sealGoes_1 : decode b_Entry_sealGoes 1 = .ok (.getfield 49, 3) := by decide +kernel
theorem d_Entry_sealGoes_4 : decode b_Entry_sealGoes 4 = .ok (.aload_n 0, 1) := by decide +kernel
theorem d_Entry_sealGoes_5 : decode b_Entry_sealGoes 5 = .ok (.getfield 36, 3) := by decide +kernel
theorem d_Entry_sealGoes_8 : decode b_Entry_sealGoes 8 = .ok (.if_icmp .ne 18, 3) := by decide +kernel
theorem d_Entry_sealGoes_11 : decode b_Entry_sealGoes 11 = .ok (.aload_n 0, 1) := by decide +kernel
theorem d_Entry_sealGoes_12 : decode b_Entry_sealGoes 12 = .ok (.getfield 52, 3) := by decide +kernel
theorem d_Entry_sealGoes_15 : decode b_Entry_sealGoes 15 = .ok (.aload_n 0, 1) := by decide +kernel
theorem d_Entry_sealGoes_16 : decode b_Entry_sealGoes 16 = .ok (.getfield 42, 3) := by decide +kernel
theorem d_Entry_sealGoes_19 : decode b_Entry_sealGoes 19 = .ok (.if_icmp .ne 7, 3) := by decide +kernel
theorem d_Entry_sealGoes_22 : decode b_Entry_sealGoes 22 = .ok (.iconst 1, 1) := by decide +kernel
theorem d_Entry_sealGoes_23 : decode b_Entry_sealGoes 23 = .ok (.goto 4, 3) := by decide +kernel
theorem d_Entry_sealGoes_26 : decode b_Entry_sealGoes 26 = .ok (.iconst 0, 1) := by decide +kernel
theorem d_Entry_sealGoes_27 : decode b_Entry_sealGoes 27 = .ok (.istore_n 1, 1) := by decide +kernel
theorem d_Entry_sealGoes_28 : decode b_Entry_sealGoes 28 = .ok (.iconst 0, 1) := by decide +kernel
theorem d_Entry_sealGoes_29 : decode b_Entry_sealGoes 29 = .ok (.istore_n 2, 1) := by decide +kernel
theorem d_Entry_sealGoes_30 : decode b_Entry_sealGoes 30 = .ok (.iload_n 2, 1) := by decide +kernel
theorem d_Entry_sealGoes_31 : decode b_Entry_sealGoes 31 = .ok (.aload_n 0, 1) := by decide +kernel
theorem d_Entry_sealGoes_32 : decode b_Entry_sealGoes 32 = .ok (.getfield 12, 3) := by decide +kernel
theorem d_Entry_sealGoes_35 : decode b_Entry_sealGoes 35 = .ok (.getfield 26, 3) := by decide +kernel
theorem d_Entry_sealGoes_38 : decode b_Entry_sealGoes 38 = .ok (.if_icmp .ge 37, 3) := by decide +kernel
theorem d_Entry_sealGoes_41 : decode b_Entry_sealGoes 41 = .ok (.iload_n 1, 1) := by decide +kernel
theorem d_Entry_sealGoes_42 : decode b_Entry_sealGoes 42 = .ok (.ifCond .eq 33, 3) := by decide +kernel
theorem d_Entry_sealGoes_45 : decode b_Entry_sealGoes 45 = .ok (.aload_n 0, 1) := by decide +kernel
theorem d_Entry_sealGoes_46 : decode b_Entry_sealGoes 46 = .ok (.getfield 22, 3) := by decide +kernel
theorem d_Entry_sealGoes_49 : decode b_Entry_sealGoes 49 = .ok (.iload_n 2, 1) := by decide +kernel
theorem d_Entry_sealGoes_50 : decode b_Entry_sealGoes 50 = .ok (.iaload, 1) := by decide +kernel
theorem d_Entry_sealGoes_51 : decode b_Entry_sealGoes 51 = .ok (.aload_n 0, 1) := by decide +kernel
theorem d_Entry_sealGoes_52 : decode b_Entry_sealGoes 52 = .ok (.getfield 12, 3) := by decide +kernel
theorem d_Entry_sealGoes_55 : decode b_Entry_sealGoes 55 = .ok (.getfield 55, 3) := by decide +kernel
theorem d_Entry_sealGoes_58 : decode b_Entry_sealGoes 58 = .ok (.iload_n 2, 1) := by decide +kernel
theorem d_Entry_sealGoes_59 : decode b_Entry_sealGoes 59 = .ok (.iaload, 1) := by decide +kernel
theorem d_Entry_sealGoes_60 : decode b_Entry_sealGoes 60 = .ok (.if_icmp .ne 7, 3) := by decide +kernel
theorem d_Entry_sealGoes_63 : decode b_Entry_sealGoes 63 = .ok (.iconst 1, 1) := by decide +kernel
theorem d_Entry_sealGoes_64 : decode b_Entry_sealGoes 64 = .ok (.goto 4, 3) := by decide +kernel
theorem d_Entry_sealGoes_67 : decode b_Entry_sealGoes 67 = .ok (.iconst 0, 1) := by decide +kernel
theorem d_Entry_sealGoes_68 : decode b_Entry_sealGoes 68 = .ok (.istore_n 1, 1) := by decide +kernel
theorem d_Entry_sealGoes_69 : decode b_Entry_sealGoes 69 = .ok (.iinc 2 1, 3) := by decide +kernel
theorem d_Entry_sealGoes_72 : decode b_Entry_sealGoes 72 = .ok (.goto (-42), 3) := by decide +kernel
theorem d_Entry_sealGoes_75 : decode b_Entry_sealGoes 75 = .ok (.iload_n 1, 1) := by decide +kernel
theorem d_Entry_sealGoes_76 : decode b_Entry_sealGoes 76 = .ok (.ireturn, 1) := by decide +kernel
abbrev b_Form_init : ByteArray := prog_7_method_1_code
abbrev J_Form_init : MethodName × ByteArray × Nat × Option FieldType := (⟨"FaslDesk$Form", "<init>", "()V"⟩, b_Form_init, 1, none)
theorem d_Form_init_0 : decode b_Form_init 0 = .ok (.aload_n 0, 1) := by decide +kernel
theorem d_Form_init_1 : decode b_Form_init 1 = .ok (.invokespecial 3, 3) := by decide +kernel
theorem d_Form_init_4 : decode b_Form_init 4 = .ok (.aload_n 0, 1) := by decide +kernel
theorem d_Form_init_5 : decode b_Form_init 5 = .ok (.bipush 40, 2) := by decide +kernel
theorem d_Form_init_7 : decode b_Form_init 7 = .ok (.newarray .int, 2) := by decide +kernel
theorem d_Form_init_9 : decode b_Form_init 9 = .ok (.putfield 9, 3) := by decide +kernel
theorem d_Form_init_12 : decode b_Form_init 12 = .ok (.aload_n 0, 1) := by decide +kernel
theorem d_Form_init_13 : decode b_Form_init 13 = .ok (.bipush 40, 2) := by decide +kernel
theorem d_Form_init_15 : decode b_Form_init 15 = .ok (.newarray .int, 2) := by decide +kernel
theorem d_Form_init_17 : decode b_Form_init 17 = .ok (.putfield 15, 3) := by decide +kernel
theorem d_Form_init_20 : decode b_Form_init 20 = .ok (.aload_n 0, 1) := by decide +kernel
theorem d_Form_init_21 : decode b_Form_init 21 = .ok (.bipush 120, 2) := by decide +kernel
theorem d_Form_init_23 : decode b_Form_init 23 = .ok (.newarray .int, 2) := by decide +kernel
theorem d_Form_init_25 : decode b_Form_init 25 = .ok (.putfield 18, 3) := by decide +kernel
theorem d_Form_init_28 : decode b_Form_init 28 = .ok (.return_, 1) := by decide +kernel
abbrev b_Form_allows : ByteArray := prog_7_method_2_code
abbrev J_Form_allows : MethodName × ByteArray × Nat × Option FieldType := (⟨"FaslDesk$Form", "allows", "(II)Z"⟩, b_Form_allows, 2, (some .boolean))
theorem d_Form_allows_0 : decode b_Form_allows 0 = .ok (.iload_n 0, 1) := by decide +kernel
theorem d_Form_allows_1 : decode b_Form_allows 1 = .ok (.tableswitch 114 1 17 #[83, 114, 114, 114, 114, 114, 114, 114, 114, 114, 114, 114, 91, 98, 83, 98, 106], 83) := by decide +kernel
theorem d_Form_allows_84 : decode b_Form_allows 84 = .ok (.iload_n 1, 1) := by decide +kernel
theorem d_Form_allows_85 : decode b_Form_allows 85 = .ok (.iconst 0, 1) := by decide +kernel
theorem d_Form_allows_86 : decode b_Form_allows 86 = .ok (.bipush 6, 2) := by decide +kernel
theorem d_Form_allows_88 : decode b_Form_allows 88 = .ok (.invokestatic 21, 3) := by decide +kernel
theorem d_Form_allows_91 : decode b_Form_allows 91 = .ok (.ireturn, 1) := by decide +kernel
theorem d_Form_allows_92 : decode b_Form_allows 92 = .ok (.iload_n 1, 1) := by decide +kernel
theorem d_Form_allows_93 : decode b_Form_allows 93 = .ok (.iconst 0, 1) := by decide +kernel
theorem d_Form_allows_94 : decode b_Form_allows 94 = .ok (.iconst 5, 1) := by decide +kernel
theorem d_Form_allows_95 : decode b_Form_allows 95 = .ok (.invokestatic 21, 3) := by decide +kernel
theorem d_Form_allows_98 : decode b_Form_allows 98 = .ok (.ireturn, 1) := by decide +kernel
theorem d_Form_allows_99 : decode b_Form_allows 99 = .ok (.iload_n 1, 1) := by decide +kernel
theorem d_Form_allows_100 : decode b_Form_allows 100 = .ok (.iconst 3, 1) := by decide +kernel
theorem d_Form_allows_101 : decode b_Form_allows 101 = .ok (.bipush 6, 2) := by decide +kernel
theorem d_Form_allows_103 : decode b_Form_allows 103 = .ok (.invokestatic 21, 3) := by decide +kernel
theorem d_Form_allows_106 : decode b_Form_allows 106 = .ok (.ireturn, 1) := by decide +kernel
theorem d_Form_allows_107 : decode b_Form_allows 107 = .ok (.iload_n 1, 1) := by decide +kernel
theorem d_Form_allows_108 : decode b_Form_allows 108 = .ok (.iconst 0, 1) := by decide +kernel
theorem d_Form_allows_109 : decode b_Form_allows 109 = .ok (.bipush 7, 2) := by decide +kernel
theorem d_Form_allows_111 : decode b_Form_allows 111 = .ok (.invokestatic 21, 3) := by decide +kernel
theorem d_Form_allows_114 : decode b_Form_allows 114 = .ok (.ireturn, 1) := by decide +kernel
theorem d_Form_allows_115 : decode b_Form_allows 115 = .ok (.iload_n 0, 1) := by decide +kernel
theorem d_Form_allows_116 : decode b_Form_allows 116 = .ok (.iconst 0, 1) := by decide +kernel
theorem d_Form_allows_117 : decode b_Form_allows 117 = .ok (.bipush 17, 2) := by decide +kernel
theorem d_Form_allows_119 : decode b_Form_allows 119 = .ok (.invokestatic 21, 3) := by decide +kernel
theorem d_Form_allows_122 : decode b_Form_allows 122 = .ok (.ireturn, 1) := by decide +kernel
abbrev b_Form_append : ByteArray := prog_7_method_3_code
abbrev J_Form_append : MethodName × ByteArray × Nat × Option FieldType := (⟨"FaslDesk$Form", "append", "(II)V"⟩, b_Form_append, 3, none)
theorem d_Form_append_0 : decode b_Form_append 0 = .ok (.aload_n 0, 1) := by decide +kernel
theorem d_Form_append_1 : decode b_Form_append 1 = .ok (.getfield 25, 3) := by decide +kernel
theorem d_Form_append_4 : decode b_Form_append 4 = .ok (.bipush 40, 2) := by decide +kernel
theorem d_Form_append_6 : decode b_Form_append 6 = .ok (.if_icmp .ge 33, 3) := by decide +kernel
theorem d_Form_append_9 : decode b_Form_append 9 = .ok (.aload_n 0, 1) := by decide +kernel
theorem d_Form_append_10 : decode b_Form_append 10 = .ok (.getfield 9, 3) := by decide +kernel
theorem d_Form_append_13 : decode b_Form_append 13 = .ok (.aload_n 0, 1) := by decide +kernel
theorem d_Form_append_14 : decode b_Form_append 14 = .ok (.getfield 25, 3) := by decide +kernel
theorem d_Form_append_17 : decode b_Form_append 17 = .ok (.iload_n 1, 1) := by decide +kernel
theorem d_Form_append_18 : decode b_Form_append 18 = .ok (.iastore, 1) := by decide +kernel
theorem d_Form_append_19 : decode b_Form_append 19 = .ok (.aload_n 0, 1) := by decide +kernel
theorem d_Form_append_20 : decode b_Form_append 20 = .ok (.getfield 15, 3) := by decide +kernel
theorem d_Form_append_23 : decode b_Form_append 23 = .ok (.aload_n 0, 1) := by decide +kernel
theorem d_Form_append_24 : decode b_Form_append 24 = .ok (.getfield 25, 3) := by decide +kernel
theorem d_Form_append_27 : decode b_Form_append 27 = .ok (.iload_n 2, 1) := by decide +kernel
theorem d_Form_append_28 : decode b_Form_append 28 = .ok (.iastore, 1) := by decide +kernel
theorem d_Form_append_29 : decode b_Form_append 29 = .ok (.aload_n 0, 1) := by decide +kernel
theorem d_Form_append_30 : decode b_Form_append 30 = .ok (.dup, 1) := by decide +kernel
theorem d_Form_append_31 : decode b_Form_append 31 = .ok (.getfield 25, 3) := by decide +kernel
theorem d_Form_append_34 : decode b_Form_append 34 = .ok (.iconst 1, 1) := by decide +kernel
theorem d_Form_append_35 : decode b_Form_append 35 = .ok (.iadd, 1) := by decide +kernel
theorem d_Form_append_36 : decode b_Form_append 36 = .ok (.putfield 25, 3) := by decide +kernel
theorem d_Form_append_39 : decode b_Form_append 39 = .ok (.return_, 1) := by decide +kernel
abbrev b_Form_becomes : ByteArray := prog_7_method_4_code
abbrev J_Form_becomes : MethodName × ByteArray × Nat × Option FieldType := (⟨"FaslDesk$Form", "becomes", "(LFaslDesk$Form;I)V"⟩, b_Form_becomes, 3, none)
theorem d_Form_becomes_0 : decode b_Form_becomes 0 = .ok (.aload_n 1, 1) := by decide +kernel
theorem d_Form_becomes_1 : decode b_Form_becomes 1 = .ok (.getfield 9, 3) := by decide +kernel
theorem d_Form_becomes_4 : decode b_Form_becomes 4 = .ok (.iconst 0, 1) := by decide +kernel
theorem d_Form_becomes_5 : decode b_Form_becomes 5 = .ok (.aload_n 0, 1) := by decide +kernel
theorem d_Form_becomes_6 : decode b_Form_becomes 6 = .ok (.getfield 9, 3) := by decide +kernel
theorem d_Form_becomes_9 : decode b_Form_becomes 9 = .ok (.iconst 0, 1) := by decide +kernel
theorem d_Form_becomes_10 : decode b_Form_becomes 10 = .ok (.bipush 40, 2) := by decide +kernel
theorem d_Form_becomes_12 : decode b_Form_becomes 12 = .ok (.invokestatic 29, 3) := by decide +kernel
theorem d_Form_becomes_15 : decode b_Form_becomes 15 = .ok (.aload_n 1, 1) := by decide +kernel
theorem d_Form_becomes_16 : decode b_Form_becomes 16 = .ok (.getfield 15, 3) := by decide +kernel
theorem d_Form_becomes_19 : decode b_Form_becomes 19 = .ok (.iconst 0, 1) := by decide +kernel
theorem d_Form_becomes_20 : decode b_Form_becomes 20 = .ok (.aload_n 0, 1) := by decide +kernel
theorem d_Form_becomes_21 : decode b_Form_becomes 21 = .ok (.getfield 15, 3) := by decide +kernel
theorem d_Form_becomes_24 : decode b_Form_becomes 24 = .ok (.iconst 0, 1) := by decide +kernel
theorem d_Form_becomes_25 : decode b_Form_becomes 25 = .ok (.bipush 40, 2) := by decide +kernel
theorem d_Form_becomes_27 : decode b_Form_becomes 27 = .ok (.invokestatic 29, 3) := by decide +kernel
theorem d_Form_becomes_30 : decode b_Form_becomes 30 = .ok (.aload_n 1, 1) := by decide +kernel
theorem d_Form_becomes_31 : decode b_Form_becomes 31 = .ok (.getfield 18, 3) := by decide +kernel
theorem d_Form_becomes_34 : decode b_Form_becomes 34 = .ok (.iconst 0, 1) := by decide +kernel
theorem d_Form_becomes_35 : decode b_Form_becomes 35 = .ok (.aload_n 0, 1) := by decide +kernel
theorem d_Form_becomes_36 : decode b_Form_becomes 36 = .ok (.getfield 18, 3) := by decide +kernel
theorem d_Form_becomes_39 : decode b_Form_becomes 39 = .ok (.iconst 0, 1) := by decide +kernel
theorem d_Form_becomes_40 : decode b_Form_becomes 40 = .ok (.bipush 120, 2) := by decide +kernel
theorem d_Form_becomes_42 : decode b_Form_becomes 42 = .ok (.invokestatic 29, 3) := by decide +kernel
theorem d_Form_becomes_45 : decode b_Form_becomes 45 = .ok (.aload_n 0, 1) := by decide +kernel
theorem d_Form_becomes_46 : decode b_Form_becomes 46 = .ok (.aload_n 1, 1) := by decide +kernel
theorem d_Form_becomes_47 : decode b_Form_becomes 47 = .ok (.getfield 25, 3) := by decide +kernel
theorem d_Form_becomes_50 : decode b_Form_becomes 50 = .ok (.putfield 25, 3) := by decide +kernel
theorem d_Form_becomes_53 : decode b_Form_becomes 53 = .ok (.aload_n 0, 1) := by decide +kernel
theorem d_Form_becomes_54 : decode b_Form_becomes 54 = .ok (.iload_n 2, 1) := by decide +kernel
theorem d_Form_becomes_55 : decode b_Form_becomes 55 = .ok (.putfield 35, 3) := by decide +kernel
theorem d_Form_becomes_58 : decode b_Form_becomes 58 = .ok (.return_, 1) := by decide +kernel
abbrev b_Form_start : ByteArray := prog_7_method_5_code
abbrev J_Form_start : MethodName × ByteArray × Nat × Option FieldType := (⟨"FaslDesk$Form", "start", "(II)I"⟩, b_Form_start, 3, (some .int))
theorem d_Form_start_0 : decode b_Form_start 0 = .ok (.aload_n 0, 1) := by decide +kernel
theorem d_Form_start_1 : decode b_Form_start 1 = .ok (.getfield 18, 3) := by decide +kernel
theorem d_Form_start_4 : decode b_Form_start 4 = .ok (.iload_n 1, 1) := by decide +kernel
theorem d_Form_start_5 : decode b_Form_start 5 = .ok (.iconst 3, 1) := by decide +kernel
theorem d_Form_start_6 : decode b_Form_start 6 = .ok (.imul, 1) := by decide +kernel
theorem d_Form_start_7 : decode b_Form_start 7 = .ok (.iload_n 2, 1) := by decide +kernel
theorem d_Form_start_8 : decode b_Form_start 8 = .ok (.iadd, 1) := by decide +kernel
theorem d_Form_start_9 : decode b_Form_start 9 = .ok (.iaload, 1) := by decide +kernel
theorem d_Form_start_10 : decode b_Form_start 10 = .ok (.ireturn, 1) := by decide +kernel
abbrev b_Form_isOneFormOf : ByteArray := prog_7_method_6_code
abbrev J_Form_isOneFormOf : MethodName × ByteArray × Nat × Option FieldType := (⟨"FaslDesk$Form", "isOneFormOf", "(II)Z"⟩, b_Form_isOneFormOf, 4, (some .boolean))
theorem d_Form_isOneFormOf_0 : decode b_Form_isOneFormOf 0 = .ok (.iconst 1, 1) := by decide +kernel
theorem d_Form_isOneFormOf_1 : decode b_Form_isOneFormOf 1 = .ok (.iload_n 2, 1) := by decide +kernel
theorem d_Form_isOneFormOf_2 : decode b_Form_isOneFormOf 2 = .ok (.ishl, 1) := by decide +kernel
theorem d_Form_isOneFormOf_3 : decode b_Form_isOneFormOf 3 = .ok (.iconst 1, 1) := by decide +kernel
theorem d_Form_isOneFormOf_4 : decode b_Form_isOneFormOf 4 = .ok (.isub, 1) := by decide +kernel
theorem d_Form_isOneFormOf_5 : decode b_Form_isOneFormOf 5 = .ok (.istore_n 3, 1) := by decide +kernel
theorem d_Form_isOneFormOf_6 : decode b_Form_isOneFormOf 6 = .ok (.aload_n 0, 1) := by decide +kernel
theorem d_Form_isOneFormOf_7 : decode b_Form_isOneFormOf 7 = .ok (.iload_n 1, 1) := by decide +kernel
theorem d_Form_isOneFormOf_8 : decode b_Form_isOneFormOf 8 = .ok (.invokevirtual 38, 3) := by decide +kernel
theorem d_Form_isOneFormOf_11 : decode b_Form_isOneFormOf 11 = .ok (.ifCond .eq 22, 3) := by decide +kernel
theorem d_Form_isOneFormOf_14 : decode b_Form_isOneFormOf 14 = .ok (.aload_n 0, 1) := by decide +kernel
theorem d_Form_isOneFormOf_15 : decode b_Form_isOneFormOf 15 = .ok (.iconst 0, 1) := by decide +kernel
theorem d_Form_isOneFormOf_16 : decode b_Form_isOneFormOf 16 = .ok (.iload_n 3, 1) := by decide +kernel
theorem d_Form_isOneFormOf_17 : decode b_Form_isOneFormOf 17 = .ok (.iconst 0, 1) := by decide +kernel
theorem d_Form_isOneFormOf_18 : decode b_Form_isOneFormOf 18 = .ok (.iconst 0, 1) := by decide +kernel
theorem d_Form_isOneFormOf_19 : decode b_Form_isOneFormOf 19 = .ok (.invokevirtual 42, 3) := by decide +kernel
theorem d_Form_isOneFormOf_22 : decode b_Form_isOneFormOf 22 = .ok (.aload_n 0, 1) := by decide +kernel
theorem d_Form_isOneFormOf_23 : decode b_Form_isOneFormOf 23 = .ok (.getfield 25, 3) := by decide +kernel
theorem d_Form_isOneFormOf_26 : decode b_Form_isOneFormOf 26 = .ok (.if_icmp .ne 7, 3) := by decide +kernel
theorem d_Form_isOneFormOf_29 : decode b_Form_isOneFormOf 29 = .ok (.iconst 1, 1) := by decide +kernel
theorem d_Form_isOneFormOf_30 : decode b_Form_isOneFormOf 30 = .ok (.goto 4, 3) := by decide +kernel
theorem d_Form_isOneFormOf_33 : decode b_Form_isOneFormOf 33 = .ok (.iconst 0, 1) := by decide +kernel
theorem d_Form_isOneFormOf_34 : decode b_Form_isOneFormOf 34 = .ok (.ireturn, 1) := by decide +kernel
abbrev b_Form_callsGo : ByteArray := prog_7_method_7_code
abbrev J_Form_callsGo : MethodName × ByteArray × Nat × Option FieldType := (⟨"FaslDesk$Form", "callsGo", "(I)Z"⟩, b_Form_callsGo, 5, (some .boolean))
theorem d_Form_callsGo_0 : decode b_Form_callsGo 0 = .ok (.iconst 0, 1) := by decide +kernel
theorem d_Form_callsGo_1 : decode b_Form_callsGo 1 = .ok (.istore_n 2, 1) := by decide +kernel
theorem d_Form_callsGo_2 : decode b_Form_callsGo 2 = .ok (.iconst 1, 1) := by decide +kernel
theorem d_Form_callsGo_3 : decode b_Form_callsGo 3 = .ok (.istore_n 3, 1) := by decide +kernel
theorem d_Form_callsGo_4 : decode b_Form_callsGo 4 = .ok (.iconst 0, 1) := by decide +kernel
theorem d_Form_callsGo_5 : decode b_Form_callsGo 5 = .ok (.istore 4, 2) := by decide +kernel
theorem d_Form_callsGo_7 : decode b_Form_callsGo 7 = .ok (.iload 4, 2) := by decide +kernel
theorem d_Form_callsGo_9 : decode b_Form_callsGo 9 = .ok (.aload_n 0, 1) := by decide +kernel
theorem d_Form_callsGo_10 : decode b_Form_callsGo 10 = .ok (.getfield 25, 3) := by decide +kernel
theorem d_Form_callsGo_13 : decode b_Form_callsGo 13 = .ok (.if_icmp .ge 45, 3) := by decide +kernel
theorem d_Form_callsGo_16 : decode b_Form_callsGo 16 = .ok (.aload_n 0, 1) := by decide +kernel
theorem d_Form_callsGo_17 : decode b_Form_callsGo 17 = .ok (.getfield 9, 3) := by decide +kernel
theorem d_Form_callsGo_20 : decode b_Form_callsGo 20 = .ok (.iload 4, 2) := by decide +kernel
theorem d_Form_callsGo_22 : decode b_Form_callsGo 22 = .ok (.iaload, 1) := by decide +kernel
theorem d_Form_callsGo_23 : decode b_Form_callsGo 23 = .ok (.bipush 17, 2) := by decide +kernel
theorem d_Form_callsGo_25 : decode b_Form_callsGo 25 = .ok (.if_icmp .ne 27, 3) := by decide +kernel
theorem d_Form_callsGo_28 : decode b_Form_callsGo 28 = .ok (.iinc 2 1, 3) := by decide +kernel
theorem d_Form_callsGo_31 : decode b_Form_callsGo 31 = .ok (.iload_n 3, 1) := by decide +kernel
theorem d_Form_callsGo_32 : decode b_Form_callsGo 32 = .ok (.ifCond .eq 18, 3) := by decide +kernel
theorem d_Form_callsGo_35 : decode b_Form_callsGo 35 = .ok (.aload_n 0, 1) := by decide +kernel
theorem d_Form_callsGo_36 : decode b_Form_callsGo 36 = .ok (.getfield 15, 3) := by decide +kernel
theorem d_Form_callsGo_39 : decode b_Form_callsGo 39 = .ok (.iload 4, 2) := by decide +kernel
theorem d_Form_callsGo_41 : decode b_Form_callsGo 41 = .ok (.iaload, 1) := by decide +kernel
theorem d_Form_callsGo_42 : decode b_Form_callsGo 42 = .ok (.iload_n 1, 1) := by decide +kernel
theorem d_Form_callsGo_43 : decode b_Form_callsGo 43 = .ok (.if_icmp .ge 7, 3) := by decide +kernel
theorem d_Form_callsGo_46 : decode b_Form_callsGo 46 = .ok (.iconst 1, 1) := by decide +kernel
theorem d_Form_callsGo_47 : decode b_Form_callsGo 47 = .ok (.goto 4, 3) := by decide +kernel
theorem d_Form_callsGo_50 : decode b_Form_callsGo 50 = .ok (.iconst 0, 1) := by decide +kernel
theorem d_Form_callsGo_51 : decode b_Form_callsGo 51 = .ok (.istore_n 3, 1) := by decide +kernel
theorem d_Form_callsGo_52 : decode b_Form_callsGo 52 = .ok (.iinc 4 1, 3) := by decide +kernel
theorem d_Form_callsGo_55 : decode b_Form_callsGo 55 = .ok (.goto (-48), 3) := by decide +kernel
theorem d_Form_callsGo_58 : decode b_Form_callsGo 58 = .ok (.iload_n 3, 1) := by decide +kernel
theorem d_Form_callsGo_59 : decode b_Form_callsGo 59 = .ok (.ifCond .eq 12, 3) := by decide +kernel
theorem d_Form_callsGo_62 : decode b_Form_callsGo 62 = .ok (.iload_n 2, 1) := by decide +kernel
theorem d_Form_callsGo_63 : decode b_Form_callsGo 63 = .ok (.iconst 2, 1) := by decide +kernel
theorem d_Form_callsGo_64 : decode b_Form_callsGo 64 = .ok (.if_icmp .gt 7, 3) := by decide +kernel
theorem d_Form_callsGo_67 : decode b_Form_callsGo 67 = .ok (.iconst 1, 1) := by decide +kernel
theorem d_Form_callsGo_68 : decode b_Form_callsGo 68 = .ok (.goto 4, 3) := by decide +kernel
theorem d_Form_callsGo_71 : decode b_Form_callsGo 71 = .ok (.iconst 0, 1) := by decide +kernel
theorem d_Form_callsGo_72 : decode b_Form_callsGo 72 = .ok (.ireturn, 1) := by decide +kernel
abbrev b_Form_endOf : ByteArray := prog_7_method_8_code
abbrev J_Form_endOf : MethodName × ByteArray × Nat × Option FieldType := (⟨"FaslDesk$Form", "endOf", "(IIII)I"⟩, b_Form_endOf, 10, (some .int))
theorem d_Form_endOf_0 : decode b_Form_endOf 0 = .ok (.iload_n 1, 1) := by decide +kernel
theorem d_Form_endOf_1 : decode b_Form_endOf 1 = .ok (.ifCond .lt 23, 3) := by decide +kernel
theorem d_Form_endOf_4 : decode b_Form_endOf 4 = .ok (.iload_n 1, 1) := by decide +kernel
theorem d_Form_endOf_5 : decode b_Form_endOf 5 = .ok (.aload_n 0, 1) := by decide +kernel
theorem d_Form_endOf_6 : decode b_Form_endOf 6 = .ok (.getfield 25, 3) := by decide +kernel
theorem d_Form_endOf_9 : decode b_Form_endOf 9 = .ok (.if_icmp .ge 15, 3) := by decide +kernel
theorem d_Form_endOf_12 : decode b_Form_endOf 12 = .ok (.aload_n 0, 1) := by decide +kernel
theorem d_Form_endOf_13 : decode b_Form_endOf 13 = .ok (.iload_n 1, 1) := by decide +kernel
theorem d_Form_endOf_14 : decode b_Form_endOf 14 = .ok (.iload_n 2, 1) := by decide +kernel
theorem d_Form_endOf_15 : decode b_Form_endOf 15 = .ok (.iload_n 3, 1) := by decide +kernel
theorem d_Form_endOf_16 : decode b_Form_endOf 16 = .ok (.iload 4, 2) := by decide +kernel
theorem d_Form_endOf_18 : decode b_Form_endOf 18 = .ok (.invokevirtual 46, 3) := by decide +kernel
theorem d_Form_endOf_21 : decode b_Form_endOf 21 = .ok (.ifCond .ne 5, 3) := by decide +kernel
theorem d_Form_endOf_24 : decode b_Form_endOf 24 = .ok (.iconst (-1), 1) := by decide +kernel
theorem d_Form_endOf_25 : decode b_Form_endOf 25 = .ok (.ireturn, 1) := by decide +kernel
theorem d_Form_endOf_26 : decode b_Form_endOf 26 = .ok (.aload_n 0, 1) := by decide +kernel
theorem d_Form_endOf_27 : decode b_Form_endOf 27 = .ok (.getfield 9, 3) := by decide +kernel
theorem d_Form_endOf_30 : decode b_Form_endOf 30 = .ok (.iload_n 1, 1) := by decide +kernel
theorem d_Form_endOf_31 : decode b_Form_endOf 31 = .ok (.iaload, 1) := by decide +kernel
theorem d_Form_endOf_32 : decode b_Form_endOf 32 = .ok (.bipush 16, 2) := by decide +kernel
theorem d_Form_endOf_34 : decode b_Form_endOf 34 = .ok (.if_icmp .ne 7, 3) := by decide +kernel
theorem d_Form_endOf_37 : decode b_Form_endOf 37 = .ok (.iconst 1, 1) := by decide +kernel
theorem d_Form_endOf_38 : decode b_Form_endOf 38 = .ok (.goto 4, 3) := by decide +kernel
theorem d_Form_endOf_41 : decode b_Form_endOf 41 = .ok (.iconst 0, 1) := by decide +kernel
theorem d_Form_endOf_42 : decode b_Form_endOf 42 = .ok (.istore 5, 2) := by decide +kernel
theorem d_Form_endOf_44 : decode b_Form_endOf 44 = .ok (.iconst 1, 1) := by decide +kernel
theorem d_Form_endOf_45 : decode b_Form_endOf 45 = .ok (.aload_n 0, 1) := by decide +kernel
theorem d_Form_endOf_46 : decode b_Form_endOf 46 = .ok (.getfield 15, 3) := by decide +kernel
theorem d_Form_endOf_49 : decode b_Form_endOf 49 = .ok (.iload_n 1, 1) := by decide +kernel
theorem d_Form_endOf_50 : decode b_Form_endOf 50 = .ok (.iaload, 1) := by decide +kernel
theorem d_Form_endOf_51 : decode b_Form_endOf 51 = .ok (.ishl, 1) := by decide +kernel
theorem d_Form_endOf_52 : decode b_Form_endOf 52 = .ok (.istore 6, 2) := by decide +kernel
theorem d_Form_endOf_54 : decode b_Form_endOf 54 = .ok (.iload_n 1, 1) := by decide +kernel
theorem d_Form_endOf_55 : decode b_Form_endOf 55 = .ok (.iconst 1, 1) := by decide +kernel
theorem d_Form_endOf_56 : decode b_Form_endOf 56 = .ok (.iadd, 1) := by decide +kernel
theorem d_Form_endOf_57 : decode b_Form_endOf 57 = .ok (.istore 7, 2) := by decide +kernel
theorem d_Form_endOf_59 : decode b_Form_endOf 59 = .ok (.iconst 0, 1) := by decide +kernel
theorem d_Form_endOf_60 : decode b_Form_endOf 60 = .ok (.istore 8, 2) := by decide +kernel
theorem d_Form_endOf_62 : decode b_Form_endOf 62 = .ok (.iload 8, 2) := by decide +kernel
theorem d_Form_endOf_64 : decode b_Form_endOf 64 = .ok (.getstatic 50, 3) := by decide +kernel
theorem d_Form_endOf_67 : decode b_Form_endOf 67 = .ok (.aload_n 0, 1) := by decide +kernel
theorem d_Form_endOf_68 : decode b_Form_endOf 68 = .ok (.getfield 9, 3) := by decide +kernel
theorem d_Form_endOf_71 : decode b_Form_endOf 71 = .ok (.iload_n 1, 1) := by decide +kernel
theorem d_Form_endOf_72 : decode b_Form_endOf 72 = .ok (.iaload, 1) := by decide +kernel
theorem d_Form_endOf_73 : decode b_Form_endOf 73 = .ok (.iaload, 1) := by decide +kernel
theorem d_Form_endOf_74 : decode b_Form_endOf 74 = .ok (.if_icmp .ge 104, 3) := by decide +kernel
theorem d_Form_endOf_77 : decode b_Form_endOf 77 = .ok (.iload 8, 2) := by decide +kernel
theorem d_Form_endOf_79 : decode b_Form_endOf 79 = .ok (.iconst 1, 1) := by decide +kernel
theorem d_Form_endOf_80 : decode b_Form_endOf 80 = .ok (.if_icmp .ne 23, 3) := by decide +kernel
theorem d_Form_endOf_83 : decode b_Form_endOf 83 = .ok (.iload 5, 2) := by decide +kernel
theorem d_Form_endOf_85 : decode b_Form_endOf 85 = .ok (.ifCond .ne 14, 3) := by decide +kernel
theorem d_Form_endOf_88 : decode b_Form_endOf 88 = .ok (.aload_n 0, 1) := by decide +kernel
theorem d_Form_endOf_89 : decode b_Form_endOf 89 = .ok (.getfield 9, 3) := by decide +kernel
theorem d_Form_endOf_92 : decode b_Form_endOf 92 = .ok (.iload_n 1, 1) := by decide +kernel
theorem d_Form_endOf_93 : decode b_Form_endOf 93 = .ok (.iaload, 1) := by decide +kernel
theorem d_Form_endOf_94 : decode b_Form_endOf 94 = .ok (.bipush 14, 2) := by decide +kernel
theorem d_Form_endOf_96 : decode b_Form_endOf 96 = .ok (.if_icmp .ne 7, 3) := by decide +kernel
theorem d_Form_endOf_99 : decode b_Form_endOf 99 = .ok (.iconst 1, 1) := by decide +kernel
theorem d_Form_endOf_100 : decode b_Form_endOf 100 = .ok (.goto 4, 3) := by decide +kernel
theorem d_Form_endOf_103 : decode b_Form_endOf 103 = .ok (.iconst 0, 1) := by decide +kernel
theorem d_Form_endOf_104 : decode b_Form_endOf 104 = .ok (.istore 9, 2) := by decide +kernel
theorem d_Form_endOf_106 : decode b_Form_endOf 106 = .ok (.aload_n 0, 1) := by decide +kernel
theorem d_Form_endOf_107 : decode b_Form_endOf 107 = .ok (.getfield 18, 3) := by decide +kernel
theorem d_Form_endOf_110 : decode b_Form_endOf 110 = .ok (.iload_n 1, 1) := by decide +kernel
theorem d_Form_endOf_111 : decode b_Form_endOf 111 = .ok (.iconst 3, 1) := by decide +kernel
theorem d_Form_endOf_112 : decode b_Form_endOf 112 = .ok (.imul, 1) := by decide +kernel
theorem d_Form_endOf_113 : decode b_Form_endOf 113 = .ok (.iload 8, 2) := by decide +kernel
theorem d_Form_endOf_115 : decode b_Form_endOf 115 = .ok (.iadd, 1) := by decide +kernel
theorem d_Form_endOf_116 : decode b_Form_endOf 116 = .ok (.iload 7, 2) := by decide +kernel
theorem d_Form_endOf_118 : decode b_Form_endOf 118 = .ok (.iastore, 1) := by decide +kernel
theorem d_Form_endOf_119 : decode b_Form_endOf 119 = .ok (.aload_n 0, 1) := by decide +kernel
theorem d_Form_endOf_120 : decode b_Form_endOf 120 = .ok (.iload 7, 2) := by decide +kernel
theorem d_Form_endOf_122 : decode b_Form_endOf 122 = .ok (.iload 9, 2) := by decide +kernel
theorem d_Form_endOf_124 : decode b_Form_endOf 124 = .ok (.ifCond .eq 10, 3) := by decide +kernel
theorem d_Form_endOf_127 : decode b_Form_endOf 127 = .ok (.iload_n 2, 1) := by decide +kernel
theorem d_Form_endOf_128 : decode b_Form_endOf 128 = .ok (.iload 6, 2) := by decide +kernel
theorem d_Form_endOf_130 : decode b_Form_endOf 130 = .ok (.ior, 1) := by decide +kernel
theorem d_Form_endOf_131 : decode b_Form_endOf 131 = .ok (.goto 4, 3) := by decide +kernel
theorem d_Form_endOf_134 : decode b_Form_endOf 134 = .ok (.iload_n 2, 1) := by decide +kernel
theorem d_Form_endOf_135 : decode b_Form_endOf 135 = .ok (.iload 9, 2) := by decide +kernel
theorem d_Form_endOf_137 : decode b_Form_endOf 137 = .ok (.ifCond .eq 15, 3) := by decide +kernel
theorem d_Form_endOf_140 : decode b_Form_endOf 140 = .ok (.iload 5, 2) := by decide +kernel
theorem d_Form_endOf_142 : decode b_Form_endOf 142 = .ok (.ifCond .eq 10, 3) := by decide +kernel
theorem d_Form_endOf_145 : decode b_Form_endOf 145 = .ok (.iload_n 3, 1) := by decide +kernel
theorem d_Form_endOf_146 : decode b_Form_endOf 146 = .ok (.iload 6, 2) := by decide +kernel
theorem d_Form_endOf_148 : decode b_Form_endOf 148 = .ok (.ior, 1) := by decide +kernel
theorem d_Form_endOf_149 : decode b_Form_endOf 149 = .ok (.goto 4, 3) := by decide +kernel
theorem d_Form_endOf_152 : decode b_Form_endOf 152 = .ok (.iload_n 3, 1) := by decide +kernel
theorem d_Form_endOf_153 : decode b_Form_endOf 153 = .ok (.iload 5, 2) := by decide +kernel
theorem d_Form_endOf_155 : decode b_Form_endOf 155 = .ok (.ifCond .eq 10, 3) := by decide +kernel
theorem d_Form_endOf_158 : decode b_Form_endOf 158 = .ok (.iload 4, 2) := by decide +kernel
theorem d_Form_endOf_160 : decode b_Form_endOf 160 = .ok (.iconst 1, 1) := by decide +kernel
theorem d_Form_endOf_161 : decode b_Form_endOf 161 = .ok (.iadd, 1) := by decide +kernel
theorem d_Form_endOf_162 : decode b_Form_endOf 162 = .ok (.goto 5, 3) := by decide +kernel
theorem d_Form_endOf_165 : decode b_Form_endOf 165 = .ok (.iload 4, 2) := by decide +kernel
theorem d_Form_endOf_167 : decode b_Form_endOf 167 = .ok (.invokevirtual 42, 3) := by decide +kernel
theorem d_Form_endOf_170 : decode b_Form_endOf 170 = .ok (.istore 7, 2) := by decide +kernel
theorem d_Form_endOf_172 : decode b_Form_endOf 172 = .ok (.iinc 8 1, 3) := by decide +kernel
theorem d_Form_endOf_175 : decode b_Form_endOf 175 = .ok (.goto (-113), 3) := by decide +kernel
theorem d_Form_endOf_178 : decode b_Form_endOf 178 = .ok (.iload 7, 2) := by decide +kernel
theorem d_Form_endOf_180 : decode b_Form_endOf 180 = .ok (.ireturn, 1) := by decide +kernel
abbrev b_Form_mayStand : ByteArray := prog_7_method_9_code
abbrev J_Form_mayStand : MethodName × ByteArray × Nat × Option FieldType := (⟨"FaslDesk$Form", "mayStand", "(IIII)Z"⟩, b_Form_mayStand, 7, (some .boolean))
theorem d_Form_mayStand_0 : decode b_Form_mayStand 0 = .ok (.iload_n 2, 1) := by decide +kernel
theorem d_Form_mayStand_1 : decode b_Form_mayStand 1 = .ok (.aload_n 0, 1) := by decide +kernel
theorem d_Form_mayStand_2 : decode b_Form_mayStand 2 = .ok (.getfield 15, 3) := by decide +kernel
theorem d_Form_mayStand_5 : decode b_Form_mayStand 5 = .ok (.iload_n 1, 1) := by decide +kernel
theorem d_Form_mayStand_6 : decode b_Form_mayStand 6 = .ok (.iaload, 1) := by decide +kernel
theorem d_Form_mayStand_7 : decode b_Form_mayStand 7 = .ok (.ishr, 1) := by decide +kernel
theorem d_Form_mayStand_8 : decode b_Form_mayStand 8 = .ok (.iconst 1, 1) := by decide +kernel
theorem d_Form_mayStand_9 : decode b_Form_mayStand 9 = .ok (.iand, 1) := by decide +kernel
theorem d_Form_mayStand_10 : decode b_Form_mayStand 10 = .ok (.ifCond .eq 7, 3) := by decide +kernel
theorem d_Form_mayStand_13 : decode b_Form_mayStand 13 = .ok (.iconst 1, 1) := by decide +kernel
theorem d_Form_mayStand_14 : decode b_Form_mayStand 14 = .ok (.goto 4, 3) := by decide +kernel
theorem d_Form_mayStand_17 : decode b_Form_mayStand 17 = .ok (.iconst 0, 1) := by decide +kernel
theorem d_Form_mayStand_18 : decode b_Form_mayStand 18 = .ok (.istore 5, 2) := by decide +kernel
theorem d_Form_mayStand_20 : decode b_Form_mayStand 20 = .ok (.iload_n 3, 1) := by decide +kernel
theorem d_Form_mayStand_21 : decode b_Form_mayStand 21 = .ok (.aload_n 0, 1) := by decide +kernel
theorem d_Form_mayStand_22 : decode b_Form_mayStand 22 = .ok (.getfield 15, 3) := by decide +kernel
theorem d_Form_mayStand_25 : decode b_Form_mayStand 25 = .ok (.iload_n 1, 1) := by decide +kernel
theorem d_Form_mayStand_26 : decode b_Form_mayStand 26 = .ok (.iaload, 1) := by decide +kernel
theorem d_Form_mayStand_27 : decode b_Form_mayStand 27 = .ok (.ishr, 1) := by decide +kernel
theorem d_Form_mayStand_28 : decode b_Form_mayStand 28 = .ok (.iconst 1, 1) := by decide +kernel
theorem d_Form_mayStand_29 : decode b_Form_mayStand 29 = .ok (.iand, 1) := by decide +kernel
theorem d_Form_mayStand_30 : decode b_Form_mayStand 30 = .ok (.ifCond .eq 7, 3) := by decide +kernel
theorem d_Form_mayStand_33 : decode b_Form_mayStand 33 = .ok (.iconst 1, 1) := by decide +kernel
theorem d_Form_mayStand_34 : decode b_Form_mayStand 34 = .ok (.goto 4, 3) := by decide +kernel
theorem d_Form_mayStand_37 : decode b_Form_mayStand 37 = .ok (.iconst 0, 1) := by decide +kernel
theorem d_Form_mayStand_38 : decode b_Form_mayStand 38 = .ok (.istore 6, 2) := by decide +kernel
theorem d_Form_mayStand_40 : decode b_Form_mayStand 40 = .ok (.aload_n 0, 1) := by decide +kernel
theorem d_Form_mayStand_41 : decode b_Form_mayStand 41 = .ok (.getfield 9, 3) := by decide +kernel
theorem d_Form_mayStand_44 : decode b_Form_mayStand 44 = .ok (.iload_n 1, 1) := by decide +kernel
theorem d_Form_mayStand_45 : decode b_Form_mayStand 45 = .ok (.iaload, 1) := by decide +kernel
theorem d_Form_mayStand_46 : decode b_Form_mayStand 46 = .ok (.lookupswitch 108 #[(1, 50), (14, 69), (15, 53), (16, 80), (17, 97)], 50) := by decide +kernel
theorem d_Form_mayStand_96 : decode b_Form_mayStand 96 = .ok (.iload 5, 2) := by decide +kernel
theorem d_Form_mayStand_98 : decode b_Form_mayStand 98 = .ok (.ireturn, 1) := by decide +kernel
theorem d_Form_mayStand_99 : decode b_Form_mayStand 99 = .ok (.iload 5, 2) := by decide +kernel
theorem d_Form_mayStand_101 : decode b_Form_mayStand 101 = .ok (.ifCond .eq 12, 3) := by decide +kernel
theorem d_Form_mayStand_104 : decode b_Form_mayStand 104 = .ok (.iload 6, 2) := by decide +kernel
theorem d_Form_mayStand_106 : decode b_Form_mayStand 106 = .ok (.ifCond .ne 7, 3) := by decide +kernel
theorem d_Form_mayStand_109 : decode b_Form_mayStand 109 = .ok (.iconst 1, 1) := by decide +kernel
theorem d_Form_mayStand_110 : decode b_Form_mayStand 110 = .ok (.goto 4, 3) := by decide +kernel
theorem d_Form_mayStand_113 : decode b_Form_mayStand 113 = .ok (.iconst 0, 1) := by decide +kernel
theorem d_Form_mayStand_114 : decode b_Form_mayStand 114 = .ok (.ireturn, 1) := by decide +kernel
theorem d_Form_mayStand_115 : decode b_Form_mayStand 115 = .ok (.iload 6, 2) := by decide +kernel
theorem d_Form_mayStand_117 : decode b_Form_mayStand 117 = .ok (.ifCond .ne 7, 3) := by decide +kernel
theorem d_Form_mayStand_120 : decode b_Form_mayStand 120 = .ok (.iconst 1, 1) := by decide +kernel
theorem d_Form_mayStand_121 : decode b_Form_mayStand 121 = .ok (.goto 4, 3) := by decide +kernel
theorem d_Form_mayStand_124 : decode b_Form_mayStand 124 = .ok (.iconst 0, 1) := by decide +kernel
theorem d_Form_mayStand_125 : decode b_Form_mayStand 125 = .ok (.ireturn, 1) := by decide +kernel
theorem d_Form_mayStand_126 : decode b_Form_mayStand 126 = .ok (.iload 6, 2) := by decide +kernel
theorem d_Form_mayStand_128 : decode b_Form_mayStand 128 = .ok (.ifCond .ne 13, 3) := by decide +kernel
theorem d_Form_mayStand_131 : decode b_Form_mayStand 131 = .ok (.iload 4, 2) := by decide +kernel
theorem d_Form_mayStand_133 : decode b_Form_mayStand 133 = .ok (.iconst 2, 1) := by decide +kernel
theorem d_Form_mayStand_134 : decode b_Form_mayStand 134 = .ok (.if_icmp .ge 7, 3) := by decide +kernel
theorem d_Form_mayStand_137 : decode b_Form_mayStand 137 = .ok (.iconst 1, 1) := by decide +kernel
theorem d_Form_mayStand_138 : decode b_Form_mayStand 138 = .ok (.goto 4, 3) := by decide +kernel
theorem d_Form_mayStand_141 : decode b_Form_mayStand 141 = .ok (.iconst 0, 1) := by decide +kernel
theorem d_Form_mayStand_142 : decode b_Form_mayStand 142 = .ok (.ireturn, 1) := by decide +kernel
theorem d_Form_mayStand_143 : decode b_Form_mayStand 143 = .ok (.iload 4, 2) := by decide +kernel
theorem d_Form_mayStand_145 : decode b_Form_mayStand 145 = .ok (.ifCond .ne 7, 3) := by decide +kernel
theorem d_Form_mayStand_148 : decode b_Form_mayStand 148 = .ok (.iconst 1, 1) := by decide +kernel
theorem d_Form_mayStand_149 : decode b_Form_mayStand 149 = .ok (.goto 4, 3) := by decide +kernel
theorem d_Form_mayStand_152 : decode b_Form_mayStand 152 = .ok (.iconst 0, 1) := by decide +kernel
theorem d_Form_mayStand_153 : decode b_Form_mayStand 153 = .ok (.ireturn, 1) := by decide +kernel
theorem d_Form_mayStand_154 : decode b_Form_mayStand 154 = .ok (.iconst 1, 1) := by decide +kernel
theorem d_Form_mayStand_155 : decode b_Form_mayStand 155 = .ok (.ireturn, 1) := by decide +kernel
