/-! more decode rows -/
abbrev b_Model_takes : ByteArray := prog_14_method_14_code
abbrev J_Model_takes : MethodName × ByteArray × Nat × Option FieldType := (⟨"FaslDeskModel", "takes", "(I)I"⟩, b_Model_takes, 1, (some .int))
theorem d_Model_takes_0 : decode b_Model_takes 0 = .ok (.iload_n 0, 1) := by decide +kernel
theorem d_Model_takes_1 : decode b_Model_takes 1 = .ok (.iconst 2, 1) := by decide +kernel
theorem d_Model_takes_2 : decode b_Model_takes 2 = .ok (.if_icmp .lt 15, 3) := by decide +kernel
theorem d_Model_takes_5 : decode b_Model_takes 5 = .ok (.iload_n 0, 1) := by decide +kernel
theorem d_Model_takes_6 : decode b_Model_takes 6 = .ok (.bipush 15, 2) := by decide +kernel
theorem d_Model_takes_8 : decode b_Model_takes 8 = .ok (.if_icmp .eq 9, 3) := by decide +kernel
theorem d_Model_takes_11 : decode b_Model_takes 11 = .ok (.iload_n 0, 1) := by decide +kernel
theorem d_Model_takes_12 : decode b_Model_takes 12 = .ok (.bipush 21, 2) := by decide +kernel
theorem d_Model_takes_14 : decode b_Model_takes 14 = .ok (.if_icmp .ne 7, 3) := by decide +kernel
theorem d_Model_takes_17 : decode b_Model_takes 17 = .ok (.iconst 0, 1) := by decide +kernel
theorem d_Model_takes_18 : decode b_Model_takes 18 = .ok (.goto 30, 3) := by decide +kernel
theorem d_Model_takes_21 : decode b_Model_takes 21 = .ok (.iload_n 0, 1) := by decide +kernel
theorem d_Model_takes_22 : decode b_Model_takes 22 = .ok (.bipush 12, 2) := by decide +kernel
theorem d_Model_takes_24 : decode b_Model_takes 24 = .ok (.if_icmp .lt 9, 3) := by decide +kernel
theorem d_Model_takes_27 : decode b_Model_takes 27 = .ok (.iload_n 0, 1) := by decide +kernel
theorem d_Model_takes_28 : decode b_Model_takes 28 = .ok (.bipush 20, 2) := by decide +kernel
theorem d_Model_takes_30 : decode b_Model_takes 30 = .ok (.if_icmp .ne 7, 3) := by decide +kernel
theorem d_Model_takes_33 : decode b_Model_takes 33 = .ok (.iconst 2, 1) := by decide +kernel
theorem d_Model_takes_34 : decode b_Model_takes 34 = .ok (.goto 14, 3) := by decide +kernel
theorem d_Model_takes_37 : decode b_Model_takes 37 = .ok (.iload_n 0, 1) := by decide +kernel
theorem d_Model_takes_38 : decode b_Model_takes 38 = .ok (.bipush 16, 2) := by decide +kernel
theorem d_Model_takes_40 : decode b_Model_takes 40 = .ok (.if_icmp .ne 7, 3) := by decide +kernel
theorem d_Model_takes_43 : decode b_Model_takes 43 = .ok (.iconst 3, 1) := by decide +kernel
theorem d_Model_takes_44 : decode b_Model_takes 44 = .ok (.goto 4, 3) := by decide +kernel
theorem d_Model_takes_47 : decode b_Model_takes 47 = .ok (.iconst 1, 1) := by decide +kernel
theorem d_Model_takes_48 : decode b_Model_takes 48 = .ok (.ireturn, 1) := by decide +kernel
abbrev b_Model_puts : ByteArray := prog_14_method_15_code
abbrev J_Model_puts : MethodName × ByteArray × Nat × Option FieldType := (⟨"FaslDeskModel", "puts", "(I)I"⟩, b_Model_puts, 1, (some .int))
theorem d_Model_puts_0 : decode b_Model_puts 0 = .ok (.iload_n 0, 1) := by decide +kernel
theorem d_Model_puts_1 : decode b_Model_puts 1 = .ok (.bipush 13, 2) := by decide +kernel
theorem d_Model_puts_3 : decode b_Model_puts 3 = .ok (.if_icmp .lt 9, 3) := by decide +kernel
theorem d_Model_puts_6 : decode b_Model_puts 6 = .ok (.iload_n 0, 1) := by decide +kernel
theorem d_Model_puts_7 : decode b_Model_puts 7 = .ok (.bipush 16, 2) := by decide +kernel
theorem d_Model_puts_9 : decode b_Model_puts 9 = .ok (.if_icmp .ne 7, 3) := by decide +kernel
theorem d_Model_puts_12 : decode b_Model_puts 12 = .ok (.iconst 1, 1) := by decide +kernel
theorem d_Model_puts_13 : decode b_Model_puts 13 = .ok (.goto 20, 3) := by decide +kernel
theorem d_Model_puts_16 : decode b_Model_puts 16 = .ok (.iload_n 0, 1) := by decide +kernel
theorem d_Model_puts_17 : decode b_Model_puts 17 = .ok (.bipush 19, 2) := by decide +kernel
theorem d_Model_puts_19 : decode b_Model_puts 19 = .ok (.if_icmp .eq 9, 3) := by decide +kernel
theorem d_Model_puts_22 : decode b_Model_puts 22 = .ok (.iload_n 0, 1) := by decide +kernel
theorem d_Model_puts_23 : decode b_Model_puts 23 = .ok (.bipush 20, 2) := by decide +kernel
theorem d_Model_puts_25 : decode b_Model_puts 25 = .ok (.if_icmp .ne 7, 3) := by decide +kernel
theorem d_Model_puts_28 : decode b_Model_puts 28 = .ok (.iconst 2, 1) := by decide +kernel
theorem d_Model_puts_29 : decode b_Model_puts 29 = .ok (.goto 4, 3) := by decide +kernel
theorem d_Model_puts_32 : decode b_Model_puts 32 = .ok (.iconst 0, 1) := by decide +kernel
theorem d_Model_puts_33 : decode b_Model_puts 33 = .ok (.ireturn, 1) := by decide +kernel
abbrev b_Model_measure : ByteArray := prog_14_method_16_code
abbrev J_Model_measure : MethodName × ByteArray × Nat × Option FieldType := (⟨"FaslDeskModel", "measure", "(I)I"⟩, b_Model_measure, 9, (some .int))
theorem d_Model_measure_0 : decode b_Model_measure 0 = .ok (.aload_n 0, 1) := by decide +kernel
theorem d_Model_measure_1 : decode b_Model_measure 1 = .ok (.getfield 37, 3) := by decide +kernel
theorem d_Model_measure_4 : decode b_Model_measure 4 = .ok (.iload_n 1, 1) := by decide +kernel
theorem d_Model_measure_5 : decode b_Model_measure 5 = .ok (.iaload, 1) := by decide +kernel
theorem d_Model_measure_6 : decode b_Model_measure 6 = .ok (.istore_n 2, 1) := by decide +kernel
theorem d_Model_measure_7 : decode b_Model_measure 7 = .ok (.iconst 0, 1) := by decide +kernel
theorem d_Model_measure_8 : decode b_Model_measure 8 = .ok (.istore_n 3, 1) := by decide +kernel
theorem d_Model_measure_9 : decode b_Model_measure 9 = .ok (.iconst 0, 1) := by decide +kernel
theorem d_Model_measure_10 : decode b_Model_measure 10 = .ok (.istore 4, 2) := by decide +kernel
theorem d_Model_measure_12 : decode b_Model_measure 12 = .ok (.iconst 0, 1) := by decide +kernel
theorem d_Model_measure_13 : decode b_Model_measure 13 = .ok (.istore 5, 2) := by decide +kernel
theorem d_Model_measure_15 : decode b_Model_measure 15 = .ok (.iload 5, 2) := by decide +kernel
theorem d_Model_measure_17 : decode b_Model_measure 17 = .ok (.iload_n 2, 1) := by decide +kernel
theorem d_Model_measure_18 : decode b_Model_measure 18 = .ok (.if_icmp .ge 17, 3) := by decide +kernel
theorem d_Model_measure_21 : decode b_Model_measure 21 = .ok (.aload_n 0, 1) := by decide +kernel
theorem d_Model_measure_22 : decode b_Model_measure 22 = .ok (.getfield 43, 3) := by decide +kernel
theorem d_Model_measure_25 : decode b_Model_measure 25 = .ok (.iload 5, 2) := by decide +kernel
theorem d_Model_measure_27 : decode b_Model_measure 27 = .ok (.iconst (-1), 1) := by decide +kernel
theorem d_Model_measure_28 : decode b_Model_measure 28 = .ok (.iastore, 1) := by decide +kernel
theorem d_Model_measure_29 : decode b_Model_measure 29 = .ok (.iinc 5 1, 3) := by decide +kernel
theorem d_Model_measure_32 : decode b_Model_measure 32 = .ok (.goto (-17), 3) := by decide +kernel
theorem d_Model_measure_35 : decode b_Model_measure 35 = .ok (.aload_n 0, 1) := by decide +kernel
theorem d_Model_measure_36 : decode b_Model_measure 36 = .ok (.getfield 43, 3) := by decide +kernel
theorem d_Model_measure_39 : decode b_Model_measure 39 = .ok (.iconst 0, 1) := by decide +kernel
theorem d_Model_measure_40 : decode b_Model_measure 40 = .ok (.iconst 0, 1) := by decide +kernel
theorem d_Model_measure_41 : decode b_Model_measure 41 = .ok (.iastore, 1) := by decide +kernel
theorem d_Model_measure_42 : decode b_Model_measure 42 = .ok (.iconst 1, 1) := by decide +kernel
theorem d_Model_measure_43 : decode b_Model_measure 43 = .ok (.istore 5, 2) := by decide +kernel
theorem d_Model_measure_45 : decode b_Model_measure 45 = .ok (.iload 5, 2) := by decide +kernel
theorem d_Model_measure_47 : decode b_Model_measure 47 = .ok (.ifCond .eq 194, 3) := by decide +kernel
theorem d_Model_measure_50 : decode b_Model_measure 50 = .ok (.iconst 0, 1) := by decide +kernel
theorem d_Model_measure_51 : decode b_Model_measure 51 = .ok (.istore 5, 2) := by decide +kernel
theorem d_Model_measure_53 : decode b_Model_measure 53 = .ok (.iconst 0, 1) := by decide +kernel
theorem d_Model_measure_54 : decode b_Model_measure 54 = .ok (.istore 6, 2) := by decide +kernel
theorem d_Model_measure_56 : decode b_Model_measure 56 = .ok (.iload 6, 2) := by decide +kernel
theorem d_Model_measure_58 : decode b_Model_measure 58 = .ok (.iload_n 2, 1) := by decide +kernel
theorem d_Model_measure_59 : decode b_Model_measure 59 = .ok (.if_icmp .ge 179, 3) := by decide +kernel
theorem d_Model_measure_62 : decode b_Model_measure 62 = .ok (.aload_n 0, 1) := by decide +kernel
theorem d_Model_measure_63 : decode b_Model_measure 63 = .ok (.getfield 28, 3) := by decide +kernel
theorem d_Model_measure_66 : decode b_Model_measure 66 = .ok (.sipush 280, 3) := by decide +kernel
theorem d_Model_measure_69 : decode b_Model_measure 69 = .ok (.iload_n 1, 1) := by decide +kernel
theorem d_Model_measure_70 : decode b_Model_measure 70 = .ok (.imul, 1) := by decide +kernel
theorem d_Model_measure_71 : decode b_Model_measure 71 = .ok (.iload 6, 2) := by decide +kernel
theorem d_Model_measure_73 : decode b_Model_measure 73 = .ok (.iadd, 1) := by decide +kernel
theorem d_Model_measure_74 : decode b_Model_measure 74 = .ok (.iaload, 1) := by decide +kernel
theorem d_Model_measure_75 : decode b_Model_measure 75 = .ok (.istore 7, 2) := by decide +kernel
theorem d_Model_measure_77 : decode b_Model_measure 77 = .ok (.aload_n 0, 1) := by decide +kernel
theorem d_Model_measure_78 : decode b_Model_measure 78 = .ok (.getfield 43, 3) := by decide +kernel
theorem d_Model_measure_81 : decode b_Model_measure 81 = .ok (.iload 6, 2) := by decide +kernel
theorem d_Model_measure_83 : decode b_Model_measure 83 = .ok (.iaload, 1) := by decide +kernel
theorem d_Model_measure_84 : decode b_Model_measure 84 = .ok (.ifCond .lt 148, 3) := by decide +kernel
theorem d_Model_measure_87 : decode b_Model_measure 87 = .ok (.aload_n 0, 1) := by decide +kernel
theorem d_Model_measure_88 : decode b_Model_measure 88 = .ok (.getfield 43, 3) := by decide +kernel
theorem d_Model_measure_91 : decode b_Model_measure 91 = .ok (.iload 6, 2) := by decide +kernel
theorem d_Model_measure_93 : decode b_Model_measure 93 = .ok (.iaload, 1) := by decide +kernel
theorem d_Model_measure_94 : decode b_Model_measure 94 = .ok (.bipush 99, 2) := by decide +kernel
theorem d_Model_measure_96 : decode b_Model_measure 96 = .ok (.if_icmp .le 6, 3) := by decide +kernel
theorem d_Model_measure_99 : decode b_Model_measure 99 = .ok (.goto 133, 3) := by decide +kernel
theorem d_Model_measure_102 : decode b_Model_measure 102 = .ok (.aload_n 0, 1) := by decide +kernel
theorem d_Model_measure_103 : decode b_Model_measure 103 = .ok (.getfield 43, 3) := by decide +kernel
theorem d_Model_measure_106 : decode b_Model_measure 106 = .ok (.iload 6, 2) := by decide +kernel
theorem d_Model_measure_108 : decode b_Model_measure 108 = .ok (.iaload, 1) := by decide +kernel
theorem d_Model_measure_109 : decode b_Model_measure 109 = .ok (.iload 7, 2) := by decide +kernel
theorem d_Model_measure_111 : decode b_Model_measure 111 = .ok (.invokestatic 142, 3) := by decide +kernel
theorem d_Model_measure_114 : decode b_Model_measure 114 = .ok (.isub, 1) := by decide +kernel
theorem d_Model_measure_115 : decode b_Model_measure 115 = .ok (.istore_n 3, 1) := by decide +kernel
theorem d_Model_measure_116 : decode b_Model_measure 116 = .ok (.iload_n 3, 1) := by decide +kernel
theorem d_Model_measure_117 : decode b_Model_measure 117 = .ok (.ifCond .ge 5, 3) := by decide +kernel
theorem d_Model_measure_120 : decode b_Model_measure 120 = .ok (.iconst (-1), 1) := by decide +kernel
theorem d_Model_measure_121 : decode b_Model_measure 121 = .ok (.ireturn, 1) := by decide +kernel
theorem d_Model_measure_122 : decode b_Model_measure 122 = .ok (.iload_n 3, 1) := by decide +kernel
theorem d_Model_measure_123 : decode b_Model_measure 123 = .ok (.iload 7, 2) := by decide +kernel
theorem d_Model_measure_125 : decode b_Model_measure 125 = .ok (.invokestatic 145, 3) := by decide +kernel
theorem d_Model_measure_128 : decode b_Model_measure 128 = .ok (.iadd, 1) := by decide +kernel
theorem d_Model_measure_129 : decode b_Model_measure 129 = .ok (.istore_n 3, 1) := by decide +kernel
theorem d_Model_measure_130 : decode b_Model_measure 130 = .ok (.iload_n 3, 1) := by decide +kernel
theorem d_Model_measure_131 : decode b_Model_measure 131 = .ok (.iload 4, 2) := by decide +kernel
theorem d_Model_measure_133 : decode b_Model_measure 133 = .ok (.if_icmp .le 6, 3) := by decide +kernel
theorem d_Model_measure_136 : decode b_Model_measure 136 = .ok (.iload_n 3, 1) := by decide +kernel
theorem d_Model_measure_137 : decode b_Model_measure 137 = .ok (.istore 4, 2) := by decide +kernel
theorem d_Model_measure_139 : decode b_Model_measure 139 = .ok (.aload_n 0, 1) := by decide +kernel
theorem d_Model_measure_140 : decode b_Model_measure 140 = .ok (.getfield 43, 3) := by decide +kernel
theorem d_Model_measure_143 : decode b_Model_measure 143 = .ok (.iload 6, 2) := by decide +kernel
theorem d_Model_measure_145 : decode b_Model_measure 145 = .ok (.dup2, 1) := by decide +kernel
theorem d_Model_measure_146 : decode b_Model_measure 146 = .ok (.iaload, 1) := by decide +kernel
theorem d_Model_measure_147 : decode b_Model_measure 147 = .ok (.bipush 100, 2) := by decide +kernel
theorem d_Model_measure_149 : decode b_Model_measure 149 = .ok (.iadd, 1) := by decide +kernel
theorem d_Model_measure_150 : decode b_Model_measure 150 = .ok (.iastore, 1) := by decide +kernel
theorem d_Model_measure_151 : decode b_Model_measure 151 = .ok (.iconst 1, 1) := by decide +kernel
theorem d_Model_measure_152 : decode b_Model_measure 152 = .ok (.istore 5, 2) := by decide +kernel
theorem d_Model_measure_154 : decode b_Model_measure 154 = .ok (.iload 7, 2) := by decide +kernel
theorem d_Model_measure_156 : decode b_Model_measure 156 = .ok (.bipush 15, 2) := by decide +kernel
theorem d_Model_measure_158 : decode b_Model_measure 158 = .ok (.if_icmp .ne 19, 3) := by decide +kernel
theorem d_Model_measure_161 : decode b_Model_measure 161 = .ok (.aload_n 0, 1) := by decide +kernel
theorem d_Model_measure_162 : decode b_Model_measure 162 = .ok (.getfield 31, 3) := by decide +kernel
theorem d_Model_measure_165 : decode b_Model_measure 165 = .ok (.sipush 280, 3) := by decide +kernel
theorem d_Model_measure_168 : decode b_Model_measure 168 = .ok (.iload_n 1, 1) := by decide +kernel
theorem d_Model_measure_169 : decode b_Model_measure 169 = .ok (.imul, 1) := by decide +kernel
theorem d_Model_measure_170 : decode b_Model_measure 170 = .ok (.iload 6, 2) := by decide +kernel
theorem d_Model_measure_172 : decode b_Model_measure 172 = .ok (.iadd, 1) := by decide +kernel
theorem d_Model_measure_173 : decode b_Model_measure 173 = .ok (.iaload, 1) := by decide +kernel
theorem d_Model_measure_174 : decode b_Model_measure 174 = .ok (.goto 7, 3) := by decide +kernel
theorem d_Model_measure_177 : decode b_Model_measure 177 = .ok (.iload 6, 2) := by decide +kernel
theorem d_Model_measure_179 : decode b_Model_measure 179 = .ok (.iconst 1, 1) := by decide +kernel
theorem d_Model_measure_180 : decode b_Model_measure 180 = .ok (.iadd, 1) := by decide +kernel
theorem d_Model_measure_181 : decode b_Model_measure 181 = .ok (.istore 8, 2) := by decide +kernel
theorem d_Model_measure_183 : decode b_Model_measure 183 = .ok (.iload 7, 2) := by decide +kernel
theorem d_Model_measure_185 : decode b_Model_measure 185 = .ok (.bipush 17, 2) := by decide +kernel
theorem d_Model_measure_187 : decode b_Model_measure 187 = .ok (.if_icmp .eq 14, 3) := by decide +kernel
theorem d_Model_measure_190 : decode b_Model_measure 190 = .ok (.aload_n 0, 1) := by decide +kernel
theorem d_Model_measure_191 : decode b_Model_measure 191 = .ok (.iload 8, 2) := by decide +kernel
theorem d_Model_measure_193 : decode b_Model_measure 193 = .ok (.iload_n 2, 1) := by decide +kernel
theorem d_Model_measure_194 : decode b_Model_measure 194 = .ok (.iload_n 3, 1) := by decide +kernel
theorem d_Model_measure_195 : decode b_Model_measure 195 = .ok (.invokevirtual 148, 3) := by decide +kernel
theorem d_Model_measure_198 : decode b_Model_measure 198 = .ok (.ifCond .eq 32, 3) := by decide +kernel
theorem d_Model_measure_201 : decode b_Model_measure 201 = .ok (.iload 7, 2) := by decide +kernel
theorem d_Model_measure_203 : decode b_Model_measure 203 = .ok (.bipush 14, 2) := by decide +kernel
theorem d_Model_measure_205 : decode b_Model_measure 205 = .ok (.if_icmp .ne 27, 3) := by decide +kernel
theorem d_Model_measure_208 : decode b_Model_measure 208 = .ok (.aload_n 0, 1) := by decide +kernel
theorem d_Model_measure_209 : decode b_Model_measure 209 = .ok (.aload_n 0, 1) := by decide +kernel
theorem d_Model_measure_210 : decode b_Model_measure 210 = .ok (.getfield 34, 3) := by decide +kernel
theorem d_Model_measure_213 : decode b_Model_measure 213 = .ok (.sipush 280, 3) := by decide +kernel
theorem d_Model_measure_216 : decode b_Model_measure 216 = .ok (.iload_n 1, 1) := by decide +kernel
theorem d_Model_measure_217 : decode b_Model_measure 217 = .ok (.imul, 1) := by decide +kernel
theorem d_Model_measure_218 : decode b_Model_measure 218 = .ok (.iload 6, 2) := by decide +kernel
theorem d_Model_measure_220 : decode b_Model_measure 220 = .ok (.iadd, 1) := by decide +kernel
theorem d_Model_measure_221 : decode b_Model_measure 221 = .ok (.iaload, 1) := by decide +kernel
theorem d_Model_measure_222 : decode b_Model_measure 222 = .ok (.iload_n 2, 1) := by decide +kernel
theorem d_Model_measure_223 : decode b_Model_measure 223 = .ok (.iload_n 3, 1) := by decide +kernel
theorem d_Model_measure_224 : decode b_Model_measure 224 = .ok (.invokevirtual 148, 3) := by decide +kernel
theorem d_Model_measure_227 : decode b_Model_measure 227 = .ok (.ifCond .ne 5, 3) := by decide +kernel
theorem d_Model_measure_230 : decode b_Model_measure 230 = .ok (.iconst (-1), 1) := by decide +kernel
theorem d_Model_measure_231 : decode b_Model_measure 231 = .ok (.ireturn, 1) := by decide +kernel
theorem d_Model_measure_232 : decode b_Model_measure 232 = .ok (.iinc 6 1, 3) := by decide +kernel
theorem d_Model_measure_235 : decode b_Model_measure 235 = .ok (.goto (-179), 3) := by decide +kernel
theorem d_Model_measure_238 : decode b_Model_measure 238 = .ok (.goto (-193), 3) := by decide +kernel
theorem d_Model_measure_241 : decode b_Model_measure 241 = .ok (.iload 4, 2) := by decide +kernel
theorem d_Model_measure_243 : decode b_Model_measure 243 = .ok (.ireturn, 1) := by decide +kernel
abbrev b_Model_reach : ByteArray := prog_14_method_17_code
abbrev J_Model_reach : MethodName × ByteArray × Nat × Option FieldType := (⟨"FaslDeskModel", "reach", "(III)Z"⟩, b_Model_reach, 4, (some .boolean))
theorem d_Model_reach_0 : decode b_Model_reach 0 = .ok (.iload_n 1, 1) := by decide +kernel
theorem d_Model_reach_1 : decode b_Model_reach 1 = .ok (.iload_n 2, 1) := by decide +kernel
theorem d_Model_reach_2 : decode b_Model_reach 2 = .ok (.if_icmp .lt 5, 3) := by decide +kernel
theorem d_Model_reach_5 : decode b_Model_reach 5 = .ok (.iconst 0, 1) := by decide +kernel
theorem d_Model_reach_6 : decode b_Model_reach 6 = .ok (.ireturn, 1) := by decide +kernel
theorem d_Model_reach_7 : decode b_Model_reach 7 = .ok (.aload_n 0, 1) := by decide +kernel
theorem d_Model_reach_8 : decode b_Model_reach 8 = .ok (.getfield 43, 3) := by decide +kernel
theorem d_Model_reach_11 : decode b_Model_reach 11 = .ok (.iload_n 1, 1) := by decide +kernel
theorem d_Model_reach_12 : decode b_Model_reach 12 = .ok (.iaload, 1) := by decide +kernel
theorem d_Model_reach_13 : decode b_Model_reach 13 = .ok (.ifCond .ge 10, 3) := by decide +kernel
theorem d_Model_reach_16 : decode b_Model_reach 16 = .ok (.aload_n 0, 1) := by decide +kernel
theorem d_Model_reach_17 : decode b_Model_reach 17 = .ok (.getfield 43, 3) := by decide +kernel
theorem d_Model_reach_20 : decode b_Model_reach 20 = .ok (.iload_n 1, 1) := by decide +kernel
theorem d_Model_reach_21 : decode b_Model_reach 21 = .ok (.iload_n 3, 1) := by decide +kernel
theorem d_Model_reach_22 : decode b_Model_reach 22 = .ok (.iastore, 1) := by decide +kernel
theorem d_Model_reach_23 : decode b_Model_reach 23 = .ok (.aload_n 0, 1) := by decide +kernel
theorem d_Model_reach_24 : decode b_Model_reach 24 = .ok (.getfield 43, 3) := by decide +kernel
theorem d_Model_reach_27 : decode b_Model_reach 27 = .ok (.iload_n 1, 1) := by decide +kernel
theorem d_Model_reach_28 : decode b_Model_reach 28 = .ok (.iaload, 1) := by decide +kernel
theorem d_Model_reach_29 : decode b_Model_reach 29 = .ok (.bipush 100, 2) := by decide +kernel
theorem d_Model_reach_31 : decode b_Model_reach 31 = .ok (.irem, 1) := by decide +kernel
theorem d_Model_reach_32 : decode b_Model_reach 32 = .ok (.iload_n 3, 1) := by decide +kernel
theorem d_Model_reach_33 : decode b_Model_reach 33 = .ok (.if_icmp .ne 7, 3) := by decide +kernel
theorem d_Model_reach_36 : decode b_Model_reach 36 = .ok (.iconst 1, 1) := by decide +kernel
theorem d_Model_reach_37 : decode b_Model_reach 37 = .ok (.goto 4, 3) := by decide +kernel
theorem d_Model_reach_40 : decode b_Model_reach 40 = .ok (.iconst 0, 1) := by decide +kernel
theorem d_Model_reach_41 : decode b_Model_reach 41 = .ok (.ireturn, 1) := by decide +kernel
abbrev b_Model_isSo : ByteArray := prog_14_method_18_code
abbrev J_Model_isSo : MethodName × ByteArray × Nat × Option FieldType := (⟨"FaslDeskModel", "isSo", "(II)Z"⟩, b_Model_isSo, 3, (some .boolean))
theorem d_Model_isSo_0 : decode b_Model_isSo 0 = .ok (.iload_n 0, 1) := by decide +kernel
theorem d_Model_isSo_1 : decode b_Model_isSo 1 = .ok (.iconst 2, 1) := by decide +kernel
theorem d_Model_isSo_2 : decode b_Model_isSo 2 = .ok (.if_icmp .ge 15, 3) := by decide +kernel
theorem d_Model_isSo_5 : decode b_Model_isSo 5 = .ok (.iload_n 1, 1) := by decide +kernel
theorem d_Model_isSo_6 : decode b_Model_isSo 6 = .ok (.ifCond .ne 7, 3) := by decide +kernel
theorem d_Model_isSo_9 : decode b_Model_isSo 9 = .ok (.iconst 1, 1) := by decide +kernel
theorem d_Model_isSo_10 : decode b_Model_isSo 10 = .ok (.goto 33, 3) := by decide +kernel
theorem d_Model_isSo_13 : decode b_Model_isSo 13 = .ok (.iconst 0, 1) := by decide +kernel
theorem d_Model_isSo_14 : decode b_Model_isSo 14 = .ok (.goto 29, 3) := by decide +kernel
theorem d_Model_isSo_17 : decode b_Model_isSo 17 = .ok (.iload_n 0, 1) := by decide +kernel
theorem d_Model_isSo_18 : decode b_Model_isSo 18 = .ok (.iconst 4, 1) := by decide +kernel
theorem d_Model_isSo_19 : decode b_Model_isSo 19 = .ok (.if_icmp .ge 15, 3) := by decide +kernel
theorem d_Model_isSo_22 : decode b_Model_isSo 22 = .ok (.iload_n 1, 1) := by decide +kernel
theorem d_Model_isSo_23 : decode b_Model_isSo 23 = .ok (.ifCond .ge 7, 3) := by decide +kernel
theorem d_Model_isSo_26 : decode b_Model_isSo 26 = .ok (.iconst 1, 1) := by decide +kernel
theorem d_Model_isSo_27 : decode b_Model_isSo 27 = .ok (.goto 16, 3) := by decide +kernel
theorem d_Model_isSo_30 : decode b_Model_isSo 30 = .ok (.iconst 0, 1) := by decide +kernel
theorem d_Model_isSo_31 : decode b_Model_isSo 31 = .ok (.goto 12, 3) := by decide +kernel
theorem d_Model_isSo_34 : decode b_Model_isSo 34 = .ok (.iload_n 1, 1) := by decide +kernel
theorem d_Model_isSo_35 : decode b_Model_isSo 35 = .ok (.ifCond .le 7, 3) := by decide +kernel
theorem d_Model_isSo_38 : decode b_Model_isSo 38 = .ok (.iconst 1, 1) := by decide +kernel
theorem d_Model_isSo_39 : decode b_Model_isSo 39 = .ok (.goto 4, 3) := by decide +kernel
theorem d_Model_isSo_42 : decode b_Model_isSo 42 = .ok (.iconst 0, 1) := by decide +kernel
theorem d_Model_isSo_43 : decode b_Model_isSo 43 = .ok (.istore_n 2, 1) := by decide +kernel
theorem d_Model_isSo_44 : decode b_Model_isSo 44 = .ok (.iload_n 2, 1) := by decide +kernel
theorem d_Model_isSo_45 : decode b_Model_isSo 45 = .ok (.iload_n 0, 1) := by decide +kernel
theorem d_Model_isSo_46 : decode b_Model_isSo 46 = .ok (.iconst 2, 1) := by decide +kernel
theorem d_Model_isSo_47 : decode b_Model_isSo 47 = .ok (.irem, 1) := by decide +kernel
theorem d_Model_isSo_48 : decode b_Model_isSo 48 = .ok (.ifCond .ne 7, 3) := by decide +kernel
theorem d_Model_isSo_51 : decode b_Model_isSo 51 = .ok (.iconst 1, 1) := by decide +kernel
theorem d_Model_isSo_52 : decode b_Model_isSo 52 = .ok (.goto 4, 3) := by decide +kernel
theorem d_Model_isSo_55 : decode b_Model_isSo 55 = .ok (.iconst 0, 1) := by decide +kernel
theorem d_Model_isSo_56 : decode b_Model_isSo 56 = .ok (.if_icmp .ne 7, 3) := by decide +kernel
theorem d_Model_isSo_59 : decode b_Model_isSo 59 = .ok (.iconst 1, 1) := by decide +kernel
theorem d_Model_isSo_60 : decode b_Model_isSo 60 = .ok (.goto 4, 3) := by decide +kernel
theorem d_Model_isSo_63 : decode b_Model_isSo 63 = .ok (.iconst 0, 1) := by decide +kernel
theorem d_Model_isSo_64 : decode b_Model_isSo 64 = .ok (.ireturn, 1) := by decide +kernel
abbrev b_Model_enter : ByteArray := prog_14_method_19_code
abbrev J_Model_enter : MethodName × ByteArray × Nat × Option FieldType := (⟨"FaslDeskModel", "enter", "(IIIIII)V"⟩, b_Model_enter, 8, none)
theorem d_Model_enter_0 : decode b_Model_enter 0 = .ok (.aload_n 0, 1) := by decide +kernel
theorem d_Model_enter_1 : decode b_Model_enter 1 = .ok (.getfield 86, 3) := by decide +kernel
theorem d_Model_enter_4 : decode b_Model_enter 4 = .ok (.iload_n 1, 1) := by decide +kernel
theorem d_Model_enter_5 : decode b_Model_enter 5 = .ok (.iload_n 2, 1) := by decide +kernel
theorem d_Model_enter_6 : decode b_Model_enter 6 = .ok (.iastore, 1) := by decide +kernel
theorem d_Model_enter_7 : decode b_Model_enter 7 = .ok (.aload_n 0, 1) := by decide +kernel
theorem d_Model_enter_8 : decode b_Model_enter 8 = .ok (.getfield 83, 3) := by decide +kernel
theorem d_Model_enter_11 : decode b_Model_enter 11 = .ok (.iload_n 1, 1) := by decide +kernel
theorem d_Model_enter_12 : decode b_Model_enter 12 = .ok (.iconst 0, 1) := by decide +kernel
theorem d_Model_enter_13 : decode b_Model_enter 13 = .ok (.iastore, 1) := by decide +kernel
theorem d_Model_enter_14 : decode b_Model_enter 14 = .ok (.iconst 0, 1) := by decide +kernel
theorem d_Model_enter_15 : decode b_Model_enter 15 = .ok (.istore 7, 2) := by decide +kernel
theorem d_Model_enter_17 : decode b_Model_enter 17 = .ok (.iload 7, 2) := by decide +kernel
theorem d_Model_enter_19 : decode b_Model_enter 19 = .ok (.bipush 7, 2) := by decide +kernel
theorem d_Model_enter_21 : decode b_Model_enter 21 = .ok (.if_icmp .ge 54, 3) := by decide +kernel
theorem d_Model_enter_24 : decode b_Model_enter 24 = .ok (.aload_n 0, 1) := by decide +kernel
theorem d_Model_enter_25 : decode b_Model_enter 25 = .ok (.getfield 80, 3) := by decide +kernel
theorem d_Model_enter_28 : decode b_Model_enter 28 = .ok (.bipush 7, 2) := by decide +kernel
theorem d_Model_enter_30 : decode b_Model_enter 30 = .ok (.iload_n 1, 1) := by decide +kernel
theorem d_Model_enter_31 : decode b_Model_enter 31 = .ok (.imul, 1) := by decide +kernel
theorem d_Model_enter_32 : decode b_Model_enter 32 = .ok (.iload 7, 2) := by decide +kernel
theorem d_Model_enter_34 : decode b_Model_enter 34 = .ok (.iadd, 1) := by decide +kernel
theorem d_Model_enter_35 : decode b_Model_enter 35 = .ok (.iload 7, 2) := by decide +kernel
theorem d_Model_enter_37 : decode b_Model_enter 37 = .ok (.iload_n 3, 1) := by decide +kernel
theorem d_Model_enter_38 : decode b_Model_enter 38 = .ok (.if_icmp .lt 7, 3) := by decide +kernel
theorem d_Model_enter_41 : decode b_Model_enter 41 = .ok (.iconst 0, 1) := by decide +kernel
theorem d_Model_enter_42 : decode b_Model_enter 42 = .ok (.goto 26, 3) := by decide +kernel
theorem d_Model_enter_45 : decode b_Model_enter 45 = .ok (.iload 7, 2) := by decide +kernel
theorem d_Model_enter_47 : decode b_Model_enter 47 = .ok (.ifCond .ne 8, 3) := by decide +kernel
theorem d_Model_enter_50 : decode b_Model_enter 50 = .ok (.iload 4, 2) := by decide +kernel
theorem d_Model_enter_52 : decode b_Model_enter 52 = .ok (.goto 16, 3) := by decide +kernel
theorem d_Model_enter_55 : decode b_Model_enter 55 = .ok (.iload 7, 2) := by decide +kernel
theorem d_Model_enter_57 : decode b_Model_enter 57 = .ok (.iconst 1, 1) := by decide +kernel
theorem d_Model_enter_58 : decode b_Model_enter 58 = .ok (.if_icmp .ne 8, 3) := by decide +kernel
theorem d_Model_enter_61 : decode b_Model_enter 61 = .ok (.iload 5, 2) := by decide +kernel
theorem d_Model_enter_63 : decode b_Model_enter 63 = .ok (.goto 5, 3) := by decide +kernel
theorem d_Model_enter_66 : decode b_Model_enter 66 = .ok (.iload 6, 2) := by decide +kernel
theorem d_Model_enter_68 : decode b_Model_enter 68 = .ok (.iastore, 1) := by decide +kernel
theorem d_Model_enter_69 : decode b_Model_enter 69 = .ok (.iinc 7 1, 3) := by decide +kernel
theorem d_Model_enter_72 : decode b_Model_enter 72 = .ok (.goto (-55), 3) := by decide +kernel
theorem d_Model_enter_75 : decode b_Model_enter 75 = .ok (.return_, 1) := by decide +kernel
abbrev b_Model_go : ByteArray := prog_14_method_20_code
abbrev J_Model_go : MethodName × ByteArray × Nat × Option FieldType := (⟨"FaslDeskModel", "go", "(IIIII)I"⟩, b_Model_go, 14, (some .int))
theorem d_Model_go_0 : decode b_Model_go 0 = .ok (.iconst 0, 1) := by decide +kernel
theorem d_Model_go_1 : decode b_Model_go 1 = .ok (.istore 6, 2) := by decide +kernel
theorem d_Model_go_3 : decode b_Model_go 3 = .ok (.iconst 0, 1) := by decide +kernel
theorem d_Model_go_4 : decode b_Model_go 4 = .ok (.istore 7, 2) := by decide +kernel
theorem d_Model_go_6 : decode b_Model_go 6 = .ok (.iload_n 1, 1) := by decide +kernel
theorem d_Model_go_7 : decode b_Model_go 7 = .ok (.iload_n 1, 1) := by decide +kernel
theorem d_Model_go_8 : decode b_Model_go 8 = .ok (.bipush 8, 2) := by decide +kernel
theorem d_Model_go_10 : decode b_Model_go 10 = .ok (.irem, 1) := by decide +kernel
theorem d_Model_go_11 : decode b_Model_go 11 = .ok (.isub, 1) := by decide +kernel
theorem d_Model_go_12 : decode b_Model_go 12 = .ok (.istore 8, 2) := by decide +kernel
theorem d_Model_go_14 : decode b_Model_go 14 = .ok (.aload_n 0, 1) := by decide +kernel
theorem d_Model_go_15 : decode b_Model_go 15 = .ok (.iconst 0, 1) := by decide +kernel
theorem d_Model_go_16 : decode b_Model_go 16 = .ok (.iload_n 1, 1) := by decide +kernel
theorem d_Model_go_17 : decode b_Model_go 17 = .ok (.iload_n 2, 1) := by decide +kernel
theorem d_Model_go_18 : decode b_Model_go 18 = .ok (.iload_n 3, 1) := by decide +kernel
theorem d_Model_go_19 : decode b_Model_go 19 = .ok (.iload 4, 2) := by decide +kernel
theorem d_Model_go_21 : decode b_Model_go 21 = .ok (.iload 5, 2) := by decide +kernel
theorem d_Model_go_23 : decode b_Model_go 23 = .ok (.invokevirtual 151, 3) := by decide +kernel
theorem d_Model_go_26 : decode b_Model_go 26 = .ok (.sipush 280, 3) := by decide +kernel
theorem d_Model_go_29 : decode b_Model_go 29 = .ok (.aload_n 0, 1) := by decide +kernel
theorem d_Model_go_30 : decode b_Model_go 30 = .ok (.getfield 86, 3) := by decide +kernel
theorem d_Model_go_33 : decode b_Model_go 33 = .ok (.iload 6, 2) := by decide +kernel
theorem d_Model_go_35 : decode b_Model_go 35 = .ok (.iaload, 1) := by decide +kernel
theorem d_Model_go_36 : decode b_Model_go 36 = .ok (.imul, 1) := by decide +kernel
theorem d_Model_go_37 : decode b_Model_go 37 = .ok (.aload_n 0, 1) := by decide +kernel
theorem d_Model_go_38 : decode b_Model_go 38 = .ok (.getfield 83, 3) := by decide +kernel
theorem d_Model_go_41 : decode b_Model_go 41 = .ok (.iload 6, 2) := by decide +kernel
theorem d_Model_go_43 : decode b_Model_go 43 = .ok (.dup2, 1) := by decide +kernel
theorem d_Model_go_44 : decode b_Model_go 44 = .ok (.iaload, 1) := by decide +kernel
theorem d_Model_go_45 : decode b_Model_go 45 = .ok (.dup_x2, 1) := by decide +kernel
theorem d_Model_go_46 : decode b_Model_go 46 = .ok (.iconst 1, 1) := by decide +kernel
theorem d_Model_go_47 : decode b_Model_go 47 = .ok (.iadd, 1) := by decide +kernel
theorem d_Model_go_48 : decode b_Model_go 48 = .ok (.iastore, 1) := by decide +kernel
theorem d_Model_go_49 : decode b_Model_go 49 = .ok (.iadd, 1) := by decide +kernel
theorem d_Model_go_50 : decode b_Model_go 50 = .ok (.istore 9, 2) := by decide +kernel
theorem d_Model_go_52 : decode b_Model_go 52 = .ok (.aload_n 0, 1) := by decide +kernel
theorem d_Model_go_53 : decode b_Model_go 53 = .ok (.getfield 28, 3) := by decide +kernel
theorem d_Model_go_56 : decode b_Model_go 56 = .ok (.iload 9, 2) := by decide +kernel
theorem d_Model_go_58 : decode b_Model_go 58 = .ok (.iaload, 1) := by decide +kernel
theorem d_Model_go_59 : decode b_Model_go 59 = .ok (.istore 10, 2) := by decide +kernel
theorem d_Model_go_61 : decode b_Model_go 61 = .ok (.aload_n 0, 1) := by decide +kernel
theorem d_Model_go_62 : decode b_Model_go 62 = .ok (.getfield 31, 3) := by decide +kernel
theorem d_Model_go_65 : decode b_Model_go 65 = .ok (.iload 9, 2) := by decide +kernel
theorem d_Model_go_67 : decode b_Model_go 67 = .ok (.iaload, 1) := by decide +kernel
theorem d_Model_go_68 : decode b_Model_go 68 = .ok (.istore 11, 2) := by decide +kernel
theorem d_Model_go_70 : decode b_Model_go 70 = .ok (.iload 10, 2) := by decide +kernel
theorem d_Model_go_72 : decode b_Model_go 72 = .ok (.bipush 17, 2) := by decide +kernel
theorem d_Model_go_74 : decode b_Model_go 74 = .ok (.if_icmp .ne 56, 3) := by decide +kernel
theorem d_Model_go_77 : decode b_Model_go 77 = .ok (.iload 6, 2) := by decide +kernel
theorem d_Model_go_79 : decode b_Model_go 79 = .ok (.ifCond .ne 13, 3) := by decide +kernel
theorem d_Model_go_82 : decode b_Model_go 82 = .ok (.aload_n 0, 1) := by decide +kernel
theorem d_Model_go_83 : decode b_Model_go 83 = .ok (.getfield 77, 3) := by decide +kernel
theorem d_Model_go_86 : decode b_Model_go 86 = .ok (.iload 7, 2) := by decide +kernel
theorem d_Model_go_88 : decode b_Model_go 88 = .ok (.iconst 1, 1) := by decide +kernel
theorem d_Model_go_89 : decode b_Model_go 89 = .ok (.isub, 1) := by decide +kernel
theorem d_Model_go_90 : decode b_Model_go 90 = .ok (.iaload, 1) := by decide +kernel
theorem d_Model_go_91 : decode b_Model_go 91 = .ok (.ireturn, 1) := by decide +kernel
theorem d_Model_go_92 : decode b_Model_go 92 = .ok (.aload_n 0, 1) := by decide +kernel
theorem d_Model_go_93 : decode b_Model_go 93 = .ok (.getfield 77, 3) := by decide +kernel
theorem d_Model_go_96 : decode b_Model_go 96 = .ok (.iload 7, 2) := by decide +kernel
theorem d_Model_go_98 : decode b_Model_go 98 = .ok (.iconst 1, 1) := by decide +kernel
theorem d_Model_go_99 : decode b_Model_go 99 = .ok (.isub, 1) := by decide +kernel
theorem d_Model_go_100 : decode b_Model_go 100 = .ok (.iaload, 1) := by decide +kernel
theorem d_Model_go_101 : decode b_Model_go 101 = .ok (.istore 12, 2) := by decide +kernel
theorem d_Model_go_103 : decode b_Model_go 103 = .ok (.iinc 6 (-1), 3) := by decide +kernel
theorem d_Model_go_106 : decode b_Model_go 106 = .ok (.aload_n 0, 1) := by decide +kernel
theorem d_Model_go_107 : decode b_Model_go 107 = .ok (.getfield 89, 3) := by decide +kernel
theorem d_Model_go_110 : decode b_Model_go 110 = .ok (.iload 6, 2) := by decide +kernel
theorem d_Model_go_112 : decode b_Model_go 112 = .ok (.iaload, 1) := by decide +kernel
theorem d_Model_go_113 : decode b_Model_go 113 = .ok (.istore 7, 2) := by decide +kernel
theorem d_Model_go_115 : decode b_Model_go 115 = .ok (.aload_n 0, 1) := by decide +kernel
theorem d_Model_go_116 : decode b_Model_go 116 = .ok (.getfield 77, 3) := by decide +kernel
theorem d_Model_go_119 : decode b_Model_go 119 = .ok (.iload 7, 2) := by decide +kernel
theorem d_Model_go_121 : decode b_Model_go 121 = .ok (.iinc 7 1, 3) := by decide +kernel
theorem d_Model_go_124 : decode b_Model_go 124 = .ok (.iload 12, 2) := by decide +kernel
theorem d_Model_go_126 : decode b_Model_go 126 = .ok (.iastore, 1) := by decide +kernel
theorem d_Model_go_127 : decode b_Model_go 127 = .ok (.goto 275, 3) := by decide +kernel
theorem d_Model_go_130 : decode b_Model_go 130 = .ok (.iload 10, 2) := by decide +kernel
theorem d_Model_go_132 : decode b_Model_go 132 = .ok (.bipush 16, 2) := by decide +kernel
theorem d_Model_go_134 : decode b_Model_go 134 = .ok (.if_icmp .ne 132, 3) := by decide +kernel
theorem d_Model_go_137 : decode b_Model_go 137 = .ok (.iload 8, 2) := by decide +kernel
theorem d_Model_go_139 : decode b_Model_go 139 = .ok (.ifCond .ne 21, 3) := by decide +kernel
theorem d_Model_go_142 : decode b_Model_go 142 = .ok (.aload_n 0, 1) := by decide +kernel
theorem d_Model_go_143 : decode b_Model_go 143 = .ok (.getfield 16, 3) := by decide +kernel
theorem d_Model_go_146 : decode b_Model_go 146 = .ok (.iload 11, 2) := by decide +kernel
theorem d_Model_go_148 : decode b_Model_go 148 = .ok (.iaload, 1) := by decide +kernel
theorem d_Model_go_149 : decode b_Model_go 149 = .ok (.ifCond .le 7, 3) := by decide +kernel
theorem d_Model_go_152 : decode b_Model_go 152 = .ok (.iconst 1, 1) := by decide +kernel
theorem d_Model_go_153 : decode b_Model_go 153 = .ok (.goto 14, 3) := by decide +kernel
theorem d_Model_go_156 : decode b_Model_go 156 = .ok (.iconst 0, 1) := by decide +kernel
theorem d_Model_go_157 : decode b_Model_go 157 = .ok (.goto 10, 3) := by decide +kernel
theorem d_Model_go_160 : decode b_Model_go 160 = .ok (.aload_n 0, 1) := by decide +kernel
theorem d_Model_go_161 : decode b_Model_go 161 = .ok (.getfield 50, 3) := by decide +kernel
theorem d_Model_go_164 : decode b_Model_go 164 = .ok (.iload 11, 2) := by decide +kernel
theorem d_Model_go_166 : decode b_Model_go 166 = .ok (.baload, 1) := by decide +kernel
theorem d_Model_go_167 : decode b_Model_go 167 = .ok (.istore 12, 2) := by decide +kernel
theorem d_Model_go_169 : decode b_Model_go 169 = .ok (.iload 12, 2) := by decide +kernel
theorem d_Model_go_171 : decode b_Model_go 171 = .ok (.ifCond .ne 19, 3) := by decide +kernel
theorem d_Model_go_174 : decode b_Model_go 174 = .ok (.aload_n 0, 1) := by decide +kernel
theorem d_Model_go_175 : decode b_Model_go 175 = .ok (.iload 8, 2) := by decide +kernel
theorem d_Model_go_177 : decode b_Model_go 177 = .ok (.ifCond .ne 7, 3) := by decide +kernel
theorem d_Model_go_180 : decode b_Model_go 180 = .ok (.iconst 1, 1) := by decide +kernel
theorem d_Model_go_181 : decode b_Model_go 181 = .ok (.goto 4, 3) := by decide +kernel
theorem d_Model_go_184 : decode b_Model_go 184 = .ok (.iconst 3, 1) := by decide +kernel
theorem d_Model_go_185 : decode b_Model_go 185 = .ok (.putfield 155, 3) := by decide +kernel
theorem d_Model_go_188 : decode b_Model_go 188 = .ok (.iconst 0, 1) := by decide +kernel
theorem d_Model_go_189 : decode b_Model_go 189 = .ok (.ireturn, 1) := by decide +kernel
theorem d_Model_go_190 : decode b_Model_go 190 = .ok (.iinc 7 (-3), 3) := by decide +kernel
theorem d_Model_go_193 : decode b_Model_go 193 = .ok (.aload_n 0, 1) := by decide +kernel
theorem d_Model_go_194 : decode b_Model_go 194 = .ok (.getfield 89, 3) := by decide +kernel
theorem d_Model_go_197 : decode b_Model_go 197 = .ok (.iload 6, 2) := by decide +kernel
theorem d_Model_go_199 : decode b_Model_go 199 = .ok (.iload 7, 2) := by decide +kernel
theorem d_Model_go_201 : decode b_Model_go 201 = .ok (.iastore, 1) := by decide +kernel
theorem d_Model_go_202 : decode b_Model_go 202 = .ok (.iinc 6 1, 3) := by decide +kernel
theorem d_Model_go_205 : decode b_Model_go 205 = .ok (.aload_n 0, 1) := by decide +kernel
theorem d_Model_go_206 : decode b_Model_go 206 = .ok (.iload 6, 2) := by decide +kernel
theorem d_Model_go_208 : decode b_Model_go 208 = .ok (.iload 8, 2) := by decide +kernel
theorem d_Model_go_210 : decode b_Model_go 210 = .ok (.iload 11, 2) := by decide +kernel
theorem d_Model_go_212 : decode b_Model_go 212 = .ok (.iadd, 1) := by decide +kernel
theorem d_Model_go_213 : decode b_Model_go 213 = .ok (.iload 8, 2) := by decide +kernel
theorem d_Model_go_215 : decode b_Model_go 215 = .ok (.ifCond .ne 13, 3) := by decide +kernel
theorem d_Model_go_218 : decode b_Model_go 218 = .ok (.aload_n 0, 1) := by decide +kernel
theorem d_Model_go_219 : decode b_Model_go 219 = .ok (.getfield 19, 3) := by decide +kernel
theorem d_Model_go_222 : decode b_Model_go 222 = .ok (.iload 11, 2) := by decide +kernel
theorem d_Model_go_224 : decode b_Model_go 224 = .ok (.iaload, 1) := by decide +kernel
theorem d_Model_go_225 : decode b_Model_go 225 = .ok (.goto 10, 3) := by decide +kernel
theorem d_Model_go_228 : decode b_Model_go 228 = .ok (.aload_n 0, 1) := by decide +kernel
theorem d_Model_go_229 : decode b_Model_go 229 = .ok (.getfield 74, 3) := by decide +kernel
theorem d_Model_go_232 : decode b_Model_go 232 = .ok (.iload 11, 2) := by decide +kernel
theorem d_Model_go_234 : decode b_Model_go 234 = .ok (.iaload, 1) := by decide +kernel
theorem d_Model_go_235 : decode b_Model_go 235 = .ok (.aload_n 0, 1) := by decide +kernel
theorem d_Model_go_236 : decode b_Model_go 236 = .ok (.getfield 77, 3) := by decide +kernel
theorem d_Model_go_239 : decode b_Model_go 239 = .ok (.iload 7, 2) := by decide +kernel
theorem d_Model_go_241 : decode b_Model_go 241 = .ok (.iaload, 1) := by decide +kernel
theorem d_Model_go_242 : decode b_Model_go 242 = .ok (.aload_n 0, 1) := by decide +kernel
theorem d_Model_go_243 : decode b_Model_go 243 = .ok (.getfield 77, 3) := by decide +kernel
theorem d_Model_go_246 : decode b_Model_go 246 = .ok (.iload 7, 2) := by decide +kernel
theorem d_Model_go_248 : decode b_Model_go 248 = .ok (.iconst 1, 1) := by decide +kernel
theorem d_Model_go_249 : decode b_Model_go 249 = .ok (.iadd, 1) := by decide +kernel
theorem d_Model_go_250 : decode b_Model_go 250 = .ok (.iaload, 1) := by decide +kernel
theorem d_Model_go_251 : decode b_Model_go 251 = .ok (.aload_n 0, 1) := by decide +kernel
theorem d_Model_go_252 : decode b_Model_go 252 = .ok (.getfield 77, 3) := by decide +kernel
theorem d_Model_go_255 : decode b_Model_go 255 = .ok (.iload 7, 2) := by decide +kernel
theorem d_Model_go_257 : decode b_Model_go 257 = .ok (.iconst 2, 1) := by decide +kernel
theorem d_Model_go_258 : decode b_Model_go 258 = .ok (.iadd, 1) := by decide +kernel
theorem d_Model_go_259 : decode b_Model_go 259 = .ok (.iaload, 1) := by decide +kernel
theorem d_Model_go_260 : decode b_Model_go 260 = .ok (.invokevirtual 151, 3) := by decide +kernel
theorem d_Model_go_263 : decode b_Model_go 263 = .ok (.goto 139, 3) := by decide +kernel
theorem d_Model_go_266 : decode b_Model_go 266 = .ok (.iload 10, 2) := by decide +kernel
theorem d_Model_go_268 : decode b_Model_go 268 = .ok (.iconst 2, 1) := by decide +kernel
theorem d_Model_go_269 : decode b_Model_go 269 = .ok (.bipush 11, 2) := by decide +kernel
theorem d_Model_go_271 : decode b_Model_go 271 = .ok (.invokestatic 102, 3) := by decide +kernel
theorem d_Model_go_274 : decode b_Model_go 274 = .ok (.ifCond .eq 72, 3) := by decide +kernel
theorem d_Model_go_277 : decode b_Model_go 277 = .ok (.iinc 7 (-1), 3) := by decide +kernel
theorem d_Model_go_280 : decode b_Model_go 280 = .ok (.aload_n 0, 1) := by decide +kernel
theorem d_Model_go_281 : decode b_Model_go 281 = .ok (.getfield 77, 3) := by decide +kernel
theorem d_Model_go_284 : decode b_Model_go 284 = .ok (.iload 7, 2) := by decide +kernel
theorem d_Model_go_286 : decode b_Model_go 286 = .ok (.iconst 1, 1) := by decide +kernel
theorem d_Model_go_287 : decode b_Model_go 287 = .ok (.isub, 1) := by decide +kernel
theorem d_Model_go_288 : decode b_Model_go 288 = .ok (.iaload, 1) := by decide +kernel
theorem d_Model_go_289 : decode b_Model_go 289 = .ok (.istore 12, 2) := by decide +kernel
theorem d_Model_go_291 : decode b_Model_go 291 = .ok (.aload_n 0, 1) := by decide +kernel
theorem d_Model_go_292 : decode b_Model_go 292 = .ok (.getfield 77, 3) := by decide +kernel
theorem d_Model_go_295 : decode b_Model_go 295 = .ok (.iload 7, 2) := by decide +kernel
theorem d_Model_go_297 : decode b_Model_go 297 = .ok (.iaload, 1) := by decide +kernel
theorem d_Model_go_298 : decode b_Model_go 298 = .ok (.istore 13, 2) := by decide +kernel
theorem d_Model_go_300 : decode b_Model_go 300 = .ok (.iload 10, 2) := by decide +kernel
theorem d_Model_go_302 : decode b_Model_go 302 = .ok (.iconst 5, 1) := by decide +kernel
theorem d_Model_go_303 : decode b_Model_go 303 = .ok (.if_icmp .eq 10, 3) := by decide +kernel
theorem d_Model_go_306 : decode b_Model_go 306 = .ok (.iload 10, 2) := by decide +kernel
theorem d_Model_go_308 : decode b_Model_go 308 = .ok (.bipush 6, 2) := by decide +kernel
theorem d_Model_go_310 : decode b_Model_go 310 = .ok (.if_icmp .ne 15, 3) := by decide +kernel
theorem d_Model_go_313 : decode b_Model_go 313 = .ok (.iload 13, 2) := by decide +kernel
theorem d_Model_go_315 : decode b_Model_go 315 = .ok (.ifCond .ne 10, 3) := by decide +kernel
theorem d_Model_go_318 : decode b_Model_go 318 = .ok (.aload_n 0, 1) := by decide +kernel
theorem d_Model_go_319 : decode b_Model_go 319 = .ok (.iconst 2, 1) := by decide +kernel
theorem d_Model_go_320 : decode b_Model_go 320 = .ok (.putfield 155, 3) := by decide +kernel
theorem d_Model_go_323 : decode b_Model_go 323 = .ok (.iconst 0, 1) := by decide +kernel
theorem d_Model_go_324 : decode b_Model_go 324 = .ok (.ireturn, 1) := by decide +kernel
theorem d_Model_go_325 : decode b_Model_go 325 = .ok (.aload_n 0, 1) := by decide +kernel
theorem d_Model_go_326 : decode b_Model_go 326 = .ok (.getfield 77, 3) := by decide +kernel
theorem d_Model_go_329 : decode b_Model_go 329 = .ok (.iload 7, 2) := by decide +kernel
theorem d_Model_go_331 : decode b_Model_go 331 = .ok (.iconst 1, 1) := by decide +kernel
theorem d_Model_go_332 : decode b_Model_go 332 = .ok (.isub, 1) := by decide +kernel
theorem d_Model_go_333 : decode b_Model_go 333 = .ok (.iload 10, 2) := by decide +kernel
theorem d_Model_go_335 : decode b_Model_go 335 = .ok (.iload 12, 2) := by decide +kernel
theorem d_Model_go_337 : decode b_Model_go 337 = .ok (.iload 13, 2) := by decide +kernel
theorem d_Model_go_339 : decode b_Model_go 339 = .ok (.invokestatic 158, 3) := by decide +kernel
theorem d_Model_go_342 : decode b_Model_go 342 = .ok (.iastore, 1) := by decide +kernel
theorem d_Model_go_343 : decode b_Model_go 343 = .ok (.goto 59, 3) := by decide +kernel
theorem d_Model_go_346 : decode b_Model_go 346 = .ok (.iload 10, 2) := by decide +kernel
theorem d_Model_go_348 : decode b_Model_go 348 = .ok (.bipush 14, 2) := by decide +kernel
theorem d_Model_go_350 : decode b_Model_go 350 = .ok (.if_icmp .ne 38, 3) := by decide +kernel
theorem d_Model_go_353 : decode b_Model_go 353 = .ok (.iinc 7 (-1), 3) := by decide +kernel
theorem d_Model_go_356 : decode b_Model_go 356 = .ok (.iload 11, 2) := by decide +kernel
theorem d_Model_go_358 : decode b_Model_go 358 = .ok (.aload_n 0, 1) := by decide +kernel
theorem d_Model_go_359 : decode b_Model_go 359 = .ok (.getfield 77, 3) := by decide +kernel
theorem d_Model_go_362 : decode b_Model_go 362 = .ok (.iload 7, 2) := by decide +kernel
theorem d_Model_go_364 : decode b_Model_go 364 = .ok (.iaload, 1) := by decide +kernel
theorem d_Model_go_365 : decode b_Model_go 365 = .ok (.invokestatic 162, 3) := by decide +kernel
theorem d_Model_go_368 : decode b_Model_go 368 = .ok (.ifCond .ne 34, 3) := by decide +kernel
theorem d_Model_go_371 : decode b_Model_go 371 = .ok (.aload_n 0, 1) := by decide +kernel
theorem d_Model_go_372 : decode b_Model_go 372 = .ok (.getfield 83, 3) := by decide +kernel
theorem d_Model_go_375 : decode b_Model_go 375 = .ok (.iload 6, 2) := by decide +kernel
theorem d_Model_go_377 : decode b_Model_go 377 = .ok (.aload_n 0, 1) := by decide +kernel
theorem d_Model_go_378 : decode b_Model_go 378 = .ok (.getfield 34, 3) := by decide +kernel
theorem d_Model_go_381 : decode b_Model_go 381 = .ok (.iload 9, 2) := by decide +kernel
theorem d_Model_go_383 : decode b_Model_go 383 = .ok (.iaload, 1) := by decide +kernel
theorem d_Model_go_384 : decode b_Model_go 384 = .ok (.iastore, 1) := by decide +kernel
theorem d_Model_go_385 : decode b_Model_go 385 = .ok (.goto 17, 3) := by decide +kernel
theorem d_Model_go_388 : decode b_Model_go 388 = .ok (.aload_n 0, 1) := by decide +kernel
theorem d_Model_go_389 : decode b_Model_go 389 = .ok (.iload 10, 2) := by decide +kernel
theorem d_Model_go_391 : decode b_Model_go 391 = .ok (.iload 11, 2) := by decide +kernel
theorem d_Model_go_393 : decode b_Model_go 393 = .ok (.iload 6, 2) := by decide +kernel
theorem d_Model_go_395 : decode b_Model_go 395 = .ok (.iload 7, 2) := by decide +kernel
theorem d_Model_go_397 : decode b_Model_go 397 = .ok (.invokevirtual 165, 3) := by decide +kernel
theorem d_Model_go_400 : decode b_Model_go 400 = .ok (.istore 7, 2) := by decide +kernel
theorem d_Model_go_402 : decode b_Model_go 402 = .ok (.goto (-376), 3) := by decide +kernel
abbrev b_Model_compute : ByteArray := prog_14_method_21_code
abbrev J_Model_compute : MethodName × ByteArray × Nat × Option FieldType := (⟨"FaslDeskModel", "compute", "(III)I"⟩, b_Model_compute, 3, (some .int))
theorem d_Model_compute_0 : decode b_Model_compute 0 = .ok (.iload_n 0, 1) := by decide +kernel
theorem d_Model_compute_1 : decode b_Model_compute 1 = .ok (.tableswitch 87 2 10 #[51, 55, 59, 63, 67, 71, 75, 79, 83], 51) := by decide +kernel
theorem d_Model_compute_52 : decode b_Model_compute 52 = .ok (.iload_n 1, 1) := by decide +kernel
theorem d_Model_compute_53 : decode b_Model_compute 53 = .ok (.iload_n 2, 1) := by decide +kernel
theorem d_Model_compute_54 : decode b_Model_compute 54 = .ok (.iadd, 1) := by decide +kernel
theorem d_Model_compute_55 : decode b_Model_compute 55 = .ok (.ireturn, 1) := by decide +kernel
theorem d_Model_compute_56 : decode b_Model_compute 56 = .ok (.iload_n 1, 1) := by decide +kernel
theorem d_Model_compute_57 : decode b_Model_compute 57 = .ok (.iload_n 2, 1) := by decide +kernel
theorem d_Model_compute_58 : decode b_Model_compute 58 = .ok (.isub, 1) := by decide +kernel
theorem d_Model_compute_59 : decode b_Model_compute 59 = .ok (.ireturn, 1) := by decide +kernel
theorem d_Model_compute_60 : decode b_Model_compute 60 = .ok (.iload_n 1, 1) := by decide +kernel
theorem d_Model_compute_61 : decode b_Model_compute 61 = .ok (.iload_n 2, 1) := by decide +kernel
theorem d_Model_compute_62 : decode b_Model_compute 62 = .ok (.imul, 1) := by decide +kernel
theorem d_Model_compute_63 : decode b_Model_compute 63 = .ok (.ireturn, 1) := by decide +kernel
theorem d_Model_compute_64 : decode b_Model_compute 64 = .ok (.iload_n 1, 1) := by decide +kernel
theorem d_Model_compute_65 : decode b_Model_compute 65 = .ok (.iload_n 2, 1) := by decide +kernel
theorem d_Model_compute_66 : decode b_Model_compute 66 = .ok (.idiv, 1) := by decide +kernel
theorem d_Model_compute_67 : decode b_Model_compute 67 = .ok (.ireturn, 1) := by decide +kernel
theorem d_Model_compute_68 : decode b_Model_compute 68 = .ok (.iload_n 1, 1) := by decide +kernel
theorem d_Model_compute_69 : decode b_Model_compute 69 = .ok (.iload_n 2, 1) := by decide +kernel
theorem d_Model_compute_70 : decode b_Model_compute 70 = .ok (.irem, 1) := by decide +kernel
theorem d_Model_compute_71 : decode b_Model_compute 71 = .ok (.ireturn, 1) := by decide +kernel
theorem d_Model_compute_72 : decode b_Model_compute 72 = .ok (.iload_n 1, 1) := by decide +kernel
theorem d_Model_compute_73 : decode b_Model_compute 73 = .ok (.iload_n 2, 1) := by decide +kernel
theorem d_Model_compute_74 : decode b_Model_compute 74 = .ok (.iand, 1) := by decide +kernel
theorem d_Model_compute_75 : decode b_Model_compute 75 = .ok (.ireturn, 1) := by decide +kernel
theorem d_Model_compute_76 : decode b_Model_compute 76 = .ok (.iload_n 1, 1) := by decide +kernel
theorem d_Model_compute_77 : decode b_Model_compute 77 = .ok (.iload_n 2, 1) := by decide +kernel
theorem d_Model_compute_78 : decode b_Model_compute 78 = .ok (.ior, 1) := by decide +kernel
theorem d_Model_compute_79 : decode b_Model_compute 79 = .ok (.ireturn, 1) := by decide +kernel
theorem d_Model_compute_80 : decode b_Model_compute 80 = .ok (.iload_n 1, 1) := by decide +kernel
theorem d_Model_compute_81 : decode b_Model_compute 81 = .ok (.iload_n 2, 1) := by decide +kernel
theorem d_Model_compute_82 : decode b_Model_compute 82 = .ok (.ixor, 1) := by decide +kernel
theorem d_Model_compute_83 : decode b_Model_compute 83 = .ok (.ireturn, 1) := by decide +kernel
theorem d_Model_compute_84 : decode b_Model_compute 84 = .ok (.iload_n 1, 1) := by decide +kernel
theorem d_Model_compute_85 : decode b_Model_compute 85 = .ok (.iload_n 2, 1) := by decide +kernel
theorem d_Model_compute_86 : decode b_Model_compute 86 = .ok (.ishl, 1) := by decide +kernel
theorem d_Model_compute_87 : decode b_Model_compute 87 = .ok (.ireturn, 1) := by decide +kernel
theorem d_Model_compute_88 : decode b_Model_compute 88 = .ok (.iload_n 1, 1) := by decide +kernel
theorem d_Model_compute_89 : decode b_Model_compute 89 = .ok (.iload_n 2, 1) := by decide +kernel
theorem d_Model_compute_90 : decode b_Model_compute 90 = .ok (.ishr, 1) := by decide +kernel
theorem d_Model_compute_91 : decode b_Model_compute 91 = .ok (.ireturn, 1) := by decide +kernel
abbrev b_Model_simple : ByteArray := prog_14_method_22_code
abbrev J_Model_simple : MethodName × ByteArray × Nat × Option FieldType := (⟨"FaslDeskModel", "simple", "(IIII)I"⟩, b_Model_simple, 6, (some .int))
theorem d_Model_simple_0 : decode b_Model_simple 0 = .ok (.iload_n 1, 1) := by decide +kernel
theorem d_Model_simple_1 : decode b_Model_simple 1 = .ok (.tableswitch 261 0 20 #[99, 112, 261, 261, 261, 261, 261, 261, 261, 261, 261, 261, 135, 157, 261, 182, 261, 261, 192, 197, 218], 99) := by decide +kernel
theorem d_Model_simple_100 : decode b_Model_simple 100 = .ok (.aload_n 0, 1) := by decide +kernel
theorem d_Model_simple_101 : decode b_Model_simple 101 = .ok (.getfield 77, 3) := by decide +kernel
theorem d_Model_simple_104 : decode b_Model_simple 104 = .ok (.iload 4, 2) := by decide +kernel
theorem d_Model_simple_106 : decode b_Model_simple 106 = .ok (.iload_n 2, 1) := by decide +kernel
theorem d_Model_simple_107 : decode b_Model_simple 107 = .ok (.iastore, 1) := by decide +kernel
theorem d_Model_simple_108 : decode b_Model_simple 108 = .ok (.iload 4, 2) := by decide +kernel
theorem d_Model_simple_110 : decode b_Model_simple 110 = .ok (.iconst 1, 1) := by decide +kernel
theorem d_Model_simple_111 : decode b_Model_simple 111 = .ok (.iadd, 1) := by decide +kernel
theorem d_Model_simple_112 : decode b_Model_simple 112 = .ok (.ireturn, 1) := by decide +kernel
theorem d_Model_simple_113 : decode b_Model_simple 113 = .ok (.aload_n 0, 1) := by decide +kernel
theorem d_Model_simple_114 : decode b_Model_simple 114 = .ok (.getfield 77, 3) := by decide +kernel
theorem d_Model_simple_117 : decode b_Model_simple 117 = .ok (.iload 4, 2) := by decide +kernel
theorem d_Model_simple_119 : decode b_Model_simple 119 = .ok (.aload_n 0, 1) := by decide +kernel
theorem d_Model_simple_120 : decode b_Model_simple 120 = .ok (.getfield 80, 3) := by decide +kernel
theorem d_Model_simple_123 : decode b_Model_simple 123 = .ok (.bipush 7, 2) := by decide +kernel
theorem d_Model_simple_125 : decode b_Model_simple 125 = .ok (.iload_n 3, 1) := by decide +kernel
theorem d_Model_simple_126 : decode b_Model_simple 126 = .ok (.imul, 1) := by decide +kernel
theorem d_Model_simple_127 : decode b_Model_simple 127 = .ok (.iload_n 2, 1) := by decide +kernel
theorem d_Model_simple_128 : decode b_Model_simple 128 = .ok (.iadd, 1) := by decide +kernel
theorem d_Model_simple_129 : decode b_Model_simple 129 = .ok (.iaload, 1) := by decide +kernel
theorem d_Model_simple_130 : decode b_Model_simple 130 = .ok (.iastore, 1) := by decide +kernel
theorem d_Model_simple_131 : decode b_Model_simple 131 = .ok (.iload 4, 2) := by decide +kernel
theorem d_Model_simple_133 : decode b_Model_simple 133 = .ok (.iconst 1, 1) := by decide +kernel
theorem d_Model_simple_134 : decode b_Model_simple 134 = .ok (.iadd, 1) := by decide +kernel
theorem d_Model_simple_135 : decode b_Model_simple 135 = .ok (.ireturn, 1) := by decide +kernel
theorem d_Model_simple_136 : decode b_Model_simple 136 = .ok (.aload_n 0, 1) := by decide +kernel
theorem d_Model_simple_137 : decode b_Model_simple 137 = .ok (.getfield 77, 3) := by decide +kernel
theorem d_Model_simple_140 : decode b_Model_simple 140 = .ok (.iload 4, 2) := by decide +kernel
theorem d_Model_simple_142 : decode b_Model_simple 142 = .ok (.iconst 1, 1) := by decide +kernel
theorem d_Model_simple_143 : decode b_Model_simple 143 = .ok (.isub, 1) := by decide +kernel
theorem d_Model_simple_144 : decode b_Model_simple 144 = .ok (.aload_n 0, 1) := by decide +kernel
theorem d_Model_simple_145 : decode b_Model_simple 145 = .ok (.getfield 77, 3) := by decide +kernel
theorem d_Model_simple_148 : decode b_Model_simple 148 = .ok (.iload 4, 2) := by decide +kernel
theorem d_Model_simple_150 : decode b_Model_simple 150 = .ok (.iconst 1, 1) := by decide +kernel
theorem d_Model_simple_151 : decode b_Model_simple 151 = .ok (.isub, 1) := by decide +kernel
theorem d_Model_simple_152 : decode b_Model_simple 152 = .ok (.iaload, 1) := by decide +kernel
theorem d_Model_simple_153 : decode b_Model_simple 153 = .ok (.ineg, 1) := by decide +kernel
theorem d_Model_simple_154 : decode b_Model_simple 154 = .ok (.iastore, 1) := by decide +kernel
theorem d_Model_simple_155 : decode b_Model_simple 155 = .ok (.iload 4, 2) := by decide +kernel
theorem d_Model_simple_157 : decode b_Model_simple 157 = .ok (.ireturn, 1) := by decide +kernel
theorem d_Model_simple_158 : decode b_Model_simple 158 = .ok (.aload_n 0, 1) := by decide +kernel
theorem d_Model_simple_159 : decode b_Model_simple 159 = .ok (.getfield 80, 3) := by decide +kernel
theorem d_Model_simple_162 : decode b_Model_simple 162 = .ok (.bipush 7, 2) := by decide +kernel
theorem d_Model_simple_164 : decode b_Model_simple 164 = .ok (.iload_n 3, 1) := by decide +kernel
theorem d_Model_simple_165 : decode b_Model_simple 165 = .ok (.imul, 1) := by decide +kernel
theorem d_Model_simple_166 : decode b_Model_simple 166 = .ok (.iload_n 2, 1) := by decide +kernel
theorem d_Model_simple_167 : decode b_Model_simple 167 = .ok (.iadd, 1) := by decide +kernel
theorem d_Model_simple_168 : decode b_Model_simple 168 = .ok (.aload_n 0, 1) := by decide +kernel
theorem d_Model_simple_169 : decode b_Model_simple 169 = .ok (.getfield 77, 3) := by decide +kernel
theorem d_Model_simple_172 : decode b_Model_simple 172 = .ok (.iload 4, 2) := by decide +kernel
theorem d_Model_simple_174 : decode b_Model_simple 174 = .ok (.iconst 1, 1) := by decide +kernel
theorem d_Model_simple_175 : decode b_Model_simple 175 = .ok (.isub, 1) := by decide +kernel
theorem d_Model_simple_176 : decode b_Model_simple 176 = .ok (.iaload, 1) := by decide +kernel
theorem d_Model_simple_177 : decode b_Model_simple 177 = .ok (.iastore, 1) := by decide +kernel
theorem d_Model_simple_178 : decode b_Model_simple 178 = .ok (.iload 4, 2) := by decide +kernel
theorem d_Model_simple_180 : decode b_Model_simple 180 = .ok (.iconst 1, 1) := by decide +kernel
theorem d_Model_simple_181 : decode b_Model_simple 181 = .ok (.isub, 1) := by decide +kernel
theorem d_Model_simple_182 : decode b_Model_simple 182 = .ok (.ireturn, 1) := by decide +kernel
theorem d_Model_simple_183 : decode b_Model_simple 183 = .ok (.aload_n 0, 1) := by decide +kernel
theorem d_Model_simple_184 : decode b_Model_simple 184 = .ok (.getfield 83, 3) := by decide +kernel
theorem d_Model_simple_187 : decode b_Model_simple 187 = .ok (.iload_n 3, 1) := by decide +kernel
theorem d_Model_simple_188 : decode b_Model_simple 188 = .ok (.iload_n 2, 1) := by decide +kernel
theorem d_Model_simple_189 : decode b_Model_simple 189 = .ok (.iastore, 1) := by decide +kernel
theorem d_Model_simple_190 : decode b_Model_simple 190 = .ok (.iload 4, 2) := by decide +kernel
theorem d_Model_simple_192 : decode b_Model_simple 192 = .ok (.ireturn, 1) := by decide +kernel
theorem d_Model_simple_193 : decode b_Model_simple 193 = .ok (.iload 4, 2) := by decide +kernel
theorem d_Model_simple_195 : decode b_Model_simple 195 = .ok (.iconst 1, 1) := by decide +kernel
theorem d_Model_simple_196 : decode b_Model_simple 196 = .ok (.isub, 1) := by decide +kernel
theorem d_Model_simple_197 : decode b_Model_simple 197 = .ok (.ireturn, 1) := by decide +kernel
theorem d_Model_simple_198 : decode b_Model_simple 198 = .ok (.aload_n 0, 1) := by decide +kernel
theorem d_Model_simple_199 : decode b_Model_simple 199 = .ok (.getfield 77, 3) := by decide +kernel
theorem d_Model_simple_202 : decode b_Model_simple 202 = .ok (.iload 4, 2) := by decide +kernel
theorem d_Model_simple_204 : decode b_Model_simple 204 = .ok (.aload_n 0, 1) := by decide +kernel
theorem d_Model_simple_205 : decode b_Model_simple 205 = .ok (.getfield 77, 3) := by decide +kernel
theorem d_Model_simple_208 : decode b_Model_simple 208 = .ok (.iload 4, 2) := by decide +kernel
theorem d_Model_simple_210 : decode b_Model_simple 210 = .ok (.iconst 1, 1) := by decide +kernel
theorem d_Model_simple_211 : decode b_Model_simple 211 = .ok (.isub, 1) := by decide +kernel
theorem d_Model_simple_212 : decode b_Model_simple 212 = .ok (.iaload, 1) := by decide +kernel
theorem d_Model_simple_213 : decode b_Model_simple 213 = .ok (.iastore, 1) := by decide +kernel
theorem d_Model_simple_214 : decode b_Model_simple 214 = .ok (.iload 4, 2) := by decide +kernel
theorem d_Model_simple_216 : decode b_Model_simple 216 = .ok (.iconst 1, 1) := by decide +kernel
theorem d_Model_simple_217 : decode b_Model_simple 217 = .ok (.iadd, 1) := by decide +kernel
theorem d_Model_simple_218 : decode b_Model_simple 218 = .ok (.ireturn, 1) := by decide +kernel
theorem d_Model_simple_219 : decode b_Model_simple 219 = .ok (.aload_n 0, 1) := by decide +kernel
theorem d_Model_simple_220 : decode b_Model_simple 220 = .ok (.getfield 77, 3) := by decide +kernel
theorem d_Model_simple_223 : decode b_Model_simple 223 = .ok (.iload 4, 2) := by decide +kernel
theorem d_Model_simple_225 : decode b_Model_simple 225 = .ok (.iconst 1, 1) := by decide +kernel
theorem d_Model_simple_226 : decode b_Model_simple 226 = .ok (.isub, 1) := by decide +kernel
theorem d_Model_simple_227 : decode b_Model_simple 227 = .ok (.iaload, 1) := by decide +kernel
theorem d_Model_simple_228 : decode b_Model_simple 228 = .ok (.istore 5, 2) := by decide +kernel
theorem d_Model_simple_230 : decode b_Model_simple 230 = .ok (.aload_n 0, 1) := by decide +kernel
theorem d_Model_simple_231 : decode b_Model_simple 231 = .ok (.getfield 77, 3) := by decide +kernel
theorem d_Model_simple_234 : decode b_Model_simple 234 = .ok (.iload 4, 2) := by decide +kernel
theorem d_Model_simple_236 : decode b_Model_simple 236 = .ok (.iconst 1, 1) := by decide +kernel
theorem d_Model_simple_237 : decode b_Model_simple 237 = .ok (.isub, 1) := by decide +kernel
theorem d_Model_simple_238 : decode b_Model_simple 238 = .ok (.aload_n 0, 1) := by decide +kernel
theorem d_Model_simple_239 : decode b_Model_simple 239 = .ok (.getfield 77, 3) := by decide +kernel
theorem d_Model_simple_242 : decode b_Model_simple 242 = .ok (.iload 4, 2) := by decide +kernel
theorem d_Model_simple_244 : decode b_Model_simple 244 = .ok (.iconst 2, 1) := by decide +kernel
theorem d_Model_simple_245 : decode b_Model_simple 245 = .ok (.isub, 1) := by decide +kernel
theorem d_Model_simple_246 : decode b_Model_simple 246 = .ok (.iaload, 1) := by decide +kernel
theorem d_Model_simple_247 : decode b_Model_simple 247 = .ok (.iastore, 1) := by decide +kernel
theorem d_Model_simple_248 : decode b_Model_simple 248 = .ok (.aload_n 0, 1) := by decide +kernel
theorem d_Model_simple_249 : decode b_Model_simple 249 = .ok (.getfield 77, 3) := by decide +kernel
theorem d_Model_simple_252 : decode b_Model_simple 252 = .ok (.iload 4, 2) := by decide +kernel
theorem d_Model_simple_254 : decode b_Model_simple 254 = .ok (.iconst 2, 1) := by decide +kernel
theorem d_Model_simple_255 : decode b_Model_simple 255 = .ok (.isub, 1) := by decide +kernel
theorem d_Model_simple_256 : decode b_Model_simple 256 = .ok (.iload 5, 2) := by decide +kernel
theorem d_Model_simple_258 : decode b_Model_simple 258 = .ok (.iastore, 1) := by decide +kernel
theorem d_Model_simple_259 : decode b_Model_simple 259 = .ok (.iload 4, 2) := by decide +kernel
theorem d_Model_simple_261 : decode b_Model_simple 261 = .ok (.ireturn, 1) := by decide +kernel
theorem d_Model_simple_262 : decode b_Model_simple 262 = .ok (.iload 4, 2) := by decide +kernel
theorem d_Model_simple_264 : decode b_Model_simple 264 = .ok (.ireturn, 1) := by decide +kernel
abbrev b_Model_interpret : ByteArray := prog_14_method_23_code
abbrev J_Model_interpret : MethodName × ByteArray × Nat × Option FieldType := (⟨"FaslDeskModel", "interpret", "(IIII)I"⟩, b_Model_interpret, 5, (some .int))
theorem d_Model_interpret_0 : decode b_Model_interpret 0 = .ok (.aload_n 0, 1) := by decide +kernel
theorem d_Model_interpret_1 : decode b_Model_interpret 1 = .ok (.iconst 0, 1) := by decide +kernel
theorem d_Model_interpret_2 : decode b_Model_interpret 2 = .ok (.putfield 155, 3) := by decide +kernel
theorem d_Model_interpret_5 : decode b_Model_interpret 5 = .ok (.iload_n 1, 1) := by decide +kernel
theorem d_Model_interpret_6 : decode b_Model_interpret 6 = .ok (.iconst 0, 1) := by decide +kernel
theorem d_Model_interpret_7 : decode b_Model_interpret 7 = .ok (.bipush 7, 2) := by decide +kernel
theorem d_Model_interpret_9 : decode b_Model_interpret 9 = .ok (.invokestatic 102, 3) := by decide +kernel
theorem d_Model_interpret_12 : decode b_Model_interpret 12 = .ok (.ifCond .eq 28, 3) := by decide +kernel
theorem d_Model_interpret_15 : decode b_Model_interpret 15 = .ok (.aload_n 0, 1) := by decide +kernel
theorem d_Model_interpret_16 : decode b_Model_interpret 16 = .ok (.getfield 16, 3) := by decide +kernel
theorem d_Model_interpret_19 : decode b_Model_interpret 19 = .ok (.iload_n 1, 1) := by decide +kernel
theorem d_Model_interpret_20 : decode b_Model_interpret 20 = .ok (.iaload, 1) := by decide +kernel
theorem d_Model_interpret_21 : decode b_Model_interpret 21 = .ok (.ifCond .le 19, 3) := by decide +kernel
theorem d_Model_interpret_24 : decode b_Model_interpret 24 = .ok (.aload_n 0, 1) := by decide +kernel
theorem d_Model_interpret_25 : decode b_Model_interpret 25 = .ok (.iload_n 1, 1) := by decide +kernel
theorem d_Model_interpret_26 : decode b_Model_interpret 26 = .ok (.aload_n 0, 1) := by decide +kernel
theorem d_Model_interpret_27 : decode b_Model_interpret 27 = .ok (.getfield 19, 3) := by decide +kernel
theorem d_Model_interpret_30 : decode b_Model_interpret 30 = .ok (.iload_n 1, 1) := by decide +kernel
theorem d_Model_interpret_31 : decode b_Model_interpret 31 = .ok (.iaload, 1) := by decide +kernel
theorem d_Model_interpret_32 : decode b_Model_interpret 32 = .ok (.iload_n 2, 1) := by decide +kernel
theorem d_Model_interpret_33 : decode b_Model_interpret 33 = .ok (.iload_n 3, 1) := by decide +kernel
theorem d_Model_interpret_34 : decode b_Model_interpret 34 = .ok (.iload 4, 2) := by decide +kernel
theorem d_Model_interpret_36 : decode b_Model_interpret 36 = .ok (.invokevirtual 168, 3) := by decide +kernel
theorem d_Model_interpret_39 : decode b_Model_interpret 39 = .ok (.ireturn, 1) := by decide +kernel
theorem d_Model_interpret_40 : decode b_Model_interpret 40 = .ok (.aload_n 0, 1) := by decide +kernel
theorem d_Model_interpret_41 : decode b_Model_interpret 41 = .ok (.iconst 1, 1) := by decide +kernel
theorem d_Model_interpret_42 : decode b_Model_interpret 42 = .ok (.putfield 155, 3) := by decide +kernel
theorem d_Model_interpret_45 : decode b_Model_interpret 45 = .ok (.iconst 0, 1) := by decide +kernel
theorem d_Model_interpret_46 : decode b_Model_interpret 46 = .ok (.ireturn, 1) := by decide +kernel
abbrev b_Model_run : ByteArray := prog_14_method_24_code
abbrev J_Model_run : MethodName × ByteArray × Nat × Option FieldType := (⟨"FaslDeskModel", "run", "(IIII)I"⟩, b_Model_run, 5, (some .int))
theorem d_Model_run_0 : decode b_Model_run 0 = .ok (.aload_n 0, 1) := by decide +kernel
theorem d_Model_run_1 : decode b_Model_run 1 = .ok (.iconst 0, 1) := by decide +kernel
theorem d_Model_run_2 : decode b_Model_run 2 = .ok (.putfield 155, 3) := by decide +kernel
theorem d_Model_run_5 : decode b_Model_run 5 = .ok (.iload_n 1, 1) := by decide +kernel
theorem d_Model_run_6 : decode b_Model_run 6 = .ok (.iconst 0, 1) := by decide +kernel
theorem d_Model_run_7 : decode b_Model_run 7 = .ok (.bipush 7, 2) := by decide +kernel
theorem d_Model_run_9 : decode b_Model_run 9 = .ok (.invokestatic 102, 3) := by decide +kernel
theorem d_Model_run_12 : decode b_Model_run 12 = .ok (.ifCond .eq 31, 3) := by decide +kernel
theorem d_Model_run_15 : decode b_Model_run 15 = .ok (.aload_n 0, 1) := by decide +kernel
theorem d_Model_run_16 : decode b_Model_run 16 = .ok (.getfield 50, 3) := by decide +kernel
theorem d_Model_run_19 : decode b_Model_run 19 = .ok (.iload_n 1, 1) := by decide +kernel
theorem d_Model_run_20 : decode b_Model_run 20 = .ok (.baload, 1) := by decide +kernel
theorem d_Model_run_21 : decode b_Model_run 21 = .ok (.ifCond .eq 22, 3) := by decide +kernel
theorem d_Model_run_24 : decode b_Model_run 24 = .ok (.aload_n 0, 1) := by decide +kernel
theorem d_Model_run_25 : decode b_Model_run 25 = .ok (.bipush 16, 2) := by decide +kernel
theorem d_Model_run_27 : decode b_Model_run 27 = .ok (.iload_n 1, 1) := by decide +kernel
theorem d_Model_run_28 : decode b_Model_run 28 = .ok (.iadd, 1) := by decide +kernel
theorem d_Model_run_29 : decode b_Model_run 29 = .ok (.aload_n 0, 1) := by decide +kernel
theorem d_Model_run_30 : decode b_Model_run 30 = .ok (.getfield 74, 3) := by decide +kernel
theorem d_Model_run_33 : decode b_Model_run 33 = .ok (.iload_n 1, 1) := by decide +kernel
theorem d_Model_run_34 : decode b_Model_run 34 = .ok (.iaload, 1) := by decide +kernel
theorem d_Model_run_35 : decode b_Model_run 35 = .ok (.iload_n 2, 1) := by decide +kernel
theorem d_Model_run_36 : decode b_Model_run 36 = .ok (.iload_n 3, 1) := by decide +kernel
theorem d_Model_run_37 : decode b_Model_run 37 = .ok (.iload 4, 2) := by decide +kernel
theorem d_Model_run_39 : decode b_Model_run 39 = .ok (.invokevirtual 168, 3) := by decide +kernel
theorem d_Model_run_42 : decode b_Model_run 42 = .ok (.ireturn, 1) := by decide +kernel
theorem d_Model_run_43 : decode b_Model_run 43 = .ok (.aload_n 0, 1) := by decide +kernel
theorem d_Model_run_44 : decode b_Model_run 44 = .ok (.iconst 1, 1) := by decide +kernel
theorem d_Model_run_45 : decode b_Model_run 45 = .ok (.putfield 155, 3) := by decide +kernel
theorem d_Model_run_48 : decode b_Model_run 48 = .ok (.iconst 0, 1) := by decide +kernel
theorem d_Model_run_49 : decode b_Model_run 49 = .ok (.ireturn, 1) := by decide +kernel
