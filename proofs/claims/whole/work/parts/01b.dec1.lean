/-! more decode rows -/
abbrev b_Model_clear : ByteArray := prog_14_method_6_code
abbrev J_Model_clear : MethodName × ByteArray × Nat × Option FieldType := (⟨"FaslDeskModel", "clear", "()I"⟩, b_Model_clear, 2, (some .int))
theorem d_Model_clear_0 : decode b_Model_clear 0 = .ok (.aload_n 0, 1) := by decide +kernel
theorem d_Model_clear_1 : decode b_Model_clear 1 = .ok (.getfield 16, 3) := by decide +kernel
theorem d_Model_clear_4 : decode b_Model_clear 4 = .ok (.bipush 8, 2) := by decide +kernel
theorem d_Model_clear_6 : decode b_Model_clear 6 = .ok (.iaload, 1) := by decide +kernel
theorem d_Model_clear_7 : decode b_Model_clear 7 = .ok (.istore_n 1, 1) := by decide +kernel
theorem d_Model_clear_8 : decode b_Model_clear 8 = .ok (.aload_n 0, 1) := by decide +kernel
theorem d_Model_clear_9 : decode b_Model_clear 9 = .ok (.getfield 16, 3) := by decide +kernel
theorem d_Model_clear_12 : decode b_Model_clear 12 = .ok (.bipush 8, 2) := by decide +kernel
theorem d_Model_clear_14 : decode b_Model_clear 14 = .ok (.iconst 0, 1) := by decide +kernel
theorem d_Model_clear_15 : decode b_Model_clear 15 = .ok (.iastore, 1) := by decide +kernel
theorem d_Model_clear_16 : decode b_Model_clear 16 = .ok (.iload_n 1, 1) := by decide +kernel
theorem d_Model_clear_17 : decode b_Model_clear 17 = .ok (.ireturn, 1) := by decide +kernel
abbrev b_Model_relate : ByteArray := prog_14_method_7_code
abbrev J_Model_relate : MethodName × ByteArray × Nat × Option FieldType := (⟨"FaslDeskModel", "relate", "()Z"⟩, b_Model_relate, 4, (some .boolean))
theorem d_Model_relate_0 : decode b_Model_relate 0 = .ok (.aload_n 0, 1) := by decide +kernel
theorem d_Model_relate_1 : decode b_Model_relate 1 = .ok (.getfield 16, 3) := by decide +kernel
theorem d_Model_relate_4 : decode b_Model_relate 4 = .ok (.bipush 8, 2) := by decide +kernel
theorem d_Model_relate_6 : decode b_Model_relate 6 = .ok (.iaload, 1) := by decide +kernel
theorem d_Model_relate_7 : decode b_Model_relate 7 = .ok (.istore_n 1, 1) := by decide +kernel
theorem d_Model_relate_8 : decode b_Model_relate 8 = .ok (.iconst 0, 1) := by decide +kernel
theorem d_Model_relate_9 : decode b_Model_relate 9 = .ok (.istore_n 2, 1) := by decide +kernel
theorem d_Model_relate_10 : decode b_Model_relate 10 = .ok (.iconst 0, 1) := by decide +kernel
theorem d_Model_relate_11 : decode b_Model_relate 11 = .ok (.istore_n 3, 1) := by decide +kernel
theorem d_Model_relate_12 : decode b_Model_relate 12 = .ok (.iload_n 3, 1) := by decide +kernel
theorem d_Model_relate_13 : decode b_Model_relate 13 = .ok (.iload_n 1, 1) := by decide +kernel
theorem d_Model_relate_14 : decode b_Model_relate 14 = .ok (.if_icmp .ge 138, 3) := by decide +kernel
theorem d_Model_relate_17 : decode b_Model_relate 17 = .ok (.iload_n 3, 1) := by decide +kernel
theorem d_Model_relate_18 : decode b_Model_relate 18 = .ok (.ifCond .le 9, 3) := by decide +kernel
theorem d_Model_relate_21 : decode b_Model_relate 21 = .ok (.iload_n 2, 1) := by decide +kernel
theorem d_Model_relate_22 : decode b_Model_relate 22 = .ok (.ifCond .ne 5, 3) := by decide +kernel
theorem d_Model_relate_25 : decode b_Model_relate 25 = .ok (.iconst 0, 1) := by decide +kernel
theorem d_Model_relate_26 : decode b_Model_relate 26 = .ok (.ireturn, 1) := by decide +kernel
theorem d_Model_relate_27 : decode b_Model_relate 27 = .ok (.aload_n 0, 1) := by decide +kernel
theorem d_Model_relate_28 : decode b_Model_relate 28 = .ok (.getfield 22, 3) := by decide +kernel
theorem d_Model_relate_31 : decode b_Model_relate 31 = .ok (.iload_n 3, 1) := by decide +kernel
theorem d_Model_relate_32 : decode b_Model_relate 32 = .ok (.iload_n 2, 1) := by decide +kernel
theorem d_Model_relate_33 : decode b_Model_relate 33 = .ok (.ifCond .ne 7, 3) := by decide +kernel
theorem d_Model_relate_36 : decode b_Model_relate 36 = .ok (.iconst (-1), 1) := by decide +kernel
theorem d_Model_relate_37 : decode b_Model_relate 37 = .ok (.goto 11, 3) := by decide +kernel
theorem d_Model_relate_40 : decode b_Model_relate 40 = .ok (.aload_n 0, 1) := by decide +kernel
theorem d_Model_relate_41 : decode b_Model_relate 41 = .ok (.getfield 89, 3) := by decide +kernel
theorem d_Model_relate_44 : decode b_Model_relate 44 = .ok (.iload_n 2, 1) := by decide +kernel
theorem d_Model_relate_45 : decode b_Model_relate 45 = .ok (.iconst 1, 1) := by decide +kernel
theorem d_Model_relate_46 : decode b_Model_relate 46 = .ok (.isub, 1) := by decide +kernel
theorem d_Model_relate_47 : decode b_Model_relate 47 = .ok (.iaload, 1) := by decide +kernel
theorem d_Model_relate_48 : decode b_Model_relate 48 = .ok (.iastore, 1) := by decide +kernel
theorem d_Model_relate_49 : decode b_Model_relate 49 = .ok (.aload_n 0, 1) := by decide +kernel
theorem d_Model_relate_50 : decode b_Model_relate 50 = .ok (.getfield 25, 3) := by decide +kernel
theorem d_Model_relate_53 : decode b_Model_relate 53 = .ok (.iload_n 3, 1) := by decide +kernel
theorem d_Model_relate_54 : decode b_Model_relate 54 = .ok (.iconst 0, 1) := by decide +kernel
theorem d_Model_relate_55 : decode b_Model_relate 55 = .ok (.iastore, 1) := by decide +kernel
theorem d_Model_relate_56 : decode b_Model_relate 56 = .ok (.iload_n 2, 1) := by decide +kernel
theorem d_Model_relate_57 : decode b_Model_relate 57 = .ok (.ifCond .le 56, 3) := by decide +kernel
theorem d_Model_relate_60 : decode b_Model_relate 60 = .ok (.aload_n 0, 1) := by decide +kernel
theorem d_Model_relate_61 : decode b_Model_relate 61 = .ok (.getfield 25, 3) := by decide +kernel
theorem d_Model_relate_64 : decode b_Model_relate 64 = .ok (.iload_n 3, 1) := by decide +kernel
theorem d_Model_relate_65 : decode b_Model_relate 65 = .ok (.aload_n 0, 1) := by decide +kernel
theorem d_Model_relate_66 : decode b_Model_relate 66 = .ok (.getfield 92, 3) := by decide +kernel
theorem d_Model_relate_69 : decode b_Model_relate 69 = .ok (.iload_n 2, 1) := by decide +kernel
theorem d_Model_relate_70 : decode b_Model_relate 70 = .ok (.iconst 1, 1) := by decide +kernel
theorem d_Model_relate_71 : decode b_Model_relate 71 = .ok (.isub, 1) := by decide +kernel
theorem d_Model_relate_72 : decode b_Model_relate 72 = .ok (.dup2, 1) := by decide +kernel
theorem d_Model_relate_73 : decode b_Model_relate 73 = .ok (.iaload, 1) := by decide +kernel
theorem d_Model_relate_74 : decode b_Model_relate 74 = .ok (.iconst 1, 1) := by decide +kernel
theorem d_Model_relate_75 : decode b_Model_relate 75 = .ok (.iadd, 1) := by decide +kernel
theorem d_Model_relate_76 : decode b_Model_relate 76 = .ok (.dup_x2, 1) := by decide +kernel
theorem d_Model_relate_77 : decode b_Model_relate 77 = .ok (.iastore, 1) := by decide +kernel
theorem d_Model_relate_78 : decode b_Model_relate 78 = .ok (.iastore, 1) := by decide +kernel
theorem d_Model_relate_79 : decode b_Model_relate 79 = .ok (.aload_n 0, 1) := by decide +kernel
theorem d_Model_relate_80 : decode b_Model_relate 80 = .ok (.getfield 92, 3) := by decide +kernel
theorem d_Model_relate_83 : decode b_Model_relate 83 = .ok (.iload_n 2, 1) := by decide +kernel
theorem d_Model_relate_84 : decode b_Model_relate 84 = .ok (.iconst 1, 1) := by decide +kernel
theorem d_Model_relate_85 : decode b_Model_relate 85 = .ok (.isub, 1) := by decide +kernel
theorem d_Model_relate_86 : decode b_Model_relate 86 = .ok (.iaload, 1) := by decide +kernel
theorem d_Model_relate_87 : decode b_Model_relate 87 = .ok (.aload_n 0, 1) := by decide +kernel
theorem d_Model_relate_88 : decode b_Model_relate 88 = .ok (.getfield 7, 3) := by decide +kernel
theorem d_Model_relate_91 : decode b_Model_relate 91 = .ok (.sipush 320, 3) := by decide +kernel
theorem d_Model_relate_94 : decode b_Model_relate 94 = .ok (.aload_n 0, 1) := by decide +kernel
theorem d_Model_relate_95 : decode b_Model_relate 95 = .ok (.getfield 89, 3) := by decide +kernel
theorem d_Model_relate_98 : decode b_Model_relate 98 = .ok (.iload_n 2, 1) := by decide +kernel
theorem d_Model_relate_99 : decode b_Model_relate 99 = .ok (.iconst 1, 1) := by decide +kernel
theorem d_Model_relate_100 : decode b_Model_relate 100 = .ok (.isub, 1) := by decide +kernel
theorem d_Model_relate_101 : decode b_Model_relate 101 = .ok (.iaload, 1) := by decide +kernel
theorem d_Model_relate_102 : decode b_Model_relate 102 = .ok (.iadd, 1) := by decide +kernel
theorem d_Model_relate_103 : decode b_Model_relate 103 = .ok (.iaload, 1) := by decide +kernel
theorem d_Model_relate_104 : decode b_Model_relate 104 = .ok (.invokestatic 110, 3) := by decide +kernel
theorem d_Model_relate_107 : decode b_Model_relate 107 = .ok (.if_icmp .ne 6, 3) := by decide +kernel
theorem d_Model_relate_110 : decode b_Model_relate 110 = .ok (.iinc 2 (-1), 3) := by decide +kernel
theorem d_Model_relate_113 : decode b_Model_relate 113 = .ok (.aload_n 0, 1) := by decide +kernel
theorem d_Model_relate_114 : decode b_Model_relate 114 = .ok (.getfield 7, 3) := by decide +kernel
theorem d_Model_relate_117 : decode b_Model_relate 117 = .ok (.sipush 320, 3) := by decide +kernel
theorem d_Model_relate_120 : decode b_Model_relate 120 = .ok (.iload_n 3, 1) := by decide +kernel
theorem d_Model_relate_121 : decode b_Model_relate 121 = .ok (.iadd, 1) := by decide +kernel
theorem d_Model_relate_122 : decode b_Model_relate 122 = .ok (.iaload, 1) := by decide +kernel
theorem d_Model_relate_123 : decode b_Model_relate 123 = .ok (.invokestatic 110, 3) := by decide +kernel
theorem d_Model_relate_126 : decode b_Model_relate 126 = .ok (.ifCond .le 20, 3) := by decide +kernel
theorem d_Model_relate_129 : decode b_Model_relate 129 = .ok (.aload_n 0, 1) := by decide +kernel
theorem d_Model_relate_130 : decode b_Model_relate 130 = .ok (.getfield 89, 3) := by decide +kernel
theorem d_Model_relate_133 : decode b_Model_relate 133 = .ok (.iload_n 2, 1) := by decide +kernel
theorem d_Model_relate_134 : decode b_Model_relate 134 = .ok (.iload_n 3, 1) := by decide +kernel
theorem d_Model_relate_135 : decode b_Model_relate 135 = .ok (.iastore, 1) := by decide +kernel
theorem d_Model_relate_136 : decode b_Model_relate 136 = .ok (.aload_n 0, 1) := by decide +kernel
theorem d_Model_relate_137 : decode b_Model_relate 137 = .ok (.getfield 92, 3) := by decide +kernel
theorem d_Model_relate_140 : decode b_Model_relate 140 = .ok (.iload_n 2, 1) := by decide +kernel
theorem d_Model_relate_141 : decode b_Model_relate 141 = .ok (.iinc 2 1, 3) := by decide +kernel
theorem d_Model_relate_144 : decode b_Model_relate 144 = .ok (.iconst 0, 1) := by decide +kernel
theorem d_Model_relate_145 : decode b_Model_relate 145 = .ok (.iastore, 1) := by decide +kernel
theorem d_Model_relate_146 : decode b_Model_relate 146 = .ok (.iinc 3 1, 3) := by decide +kernel
theorem d_Model_relate_149 : decode b_Model_relate 149 = .ok (.goto (-137), 3) := by decide +kernel
theorem d_Model_relate_152 : decode b_Model_relate 152 = .ok (.iload_n 1, 1) := by decide +kernel
theorem d_Model_relate_153 : decode b_Model_relate 153 = .ok (.ifCond .le 11, 3) := by decide +kernel
theorem d_Model_relate_156 : decode b_Model_relate 156 = .ok (.iload_n 2, 1) := by decide +kernel
theorem d_Model_relate_157 : decode b_Model_relate 157 = .ok (.ifCond .ne 7, 3) := by decide +kernel
theorem d_Model_relate_160 : decode b_Model_relate 160 = .ok (.iconst 1, 1) := by decide +kernel
theorem d_Model_relate_161 : decode b_Model_relate 161 = .ok (.goto 4, 3) := by decide +kernel
theorem d_Model_relate_164 : decode b_Model_relate 164 = .ok (.iconst 0, 1) := by decide +kernel
theorem d_Model_relate_165 : decode b_Model_relate 165 = .ok (.ireturn, 1) := by decide +kernel
abbrev b_Model_stands : ByteArray := prog_14_method_8_code
abbrev J_Model_stands : MethodName × ByteArray × Nat × Option FieldType := (⟨"FaslDeskModel", "stands", "(III)Z"⟩, b_Model_stands, 13, (some .boolean))
theorem d_Model_stands_0 : decode b_Model_stands 0 = .ok (.aload_n 0, 1) := by decide +kernel
theorem d_Model_stands_1 : decode b_Model_stands 1 = .ok (.getfield 7, 3) := by decide +kernel
theorem d_Model_stands_4 : decode b_Model_stands 4 = .ok (.sipush 320, 3) := by decide +kernel
theorem d_Model_stands_7 : decode b_Model_stands 7 = .ok (.iload_n 1, 1) := by decide +kernel
theorem d_Model_stands_8 : decode b_Model_stands 8 = .ok (.iadd, 1) := by decide +kernel
theorem d_Model_stands_9 : decode b_Model_stands 9 = .ok (.iaload, 1) := by decide +kernel
theorem d_Model_stands_10 : decode b_Model_stands 10 = .ok (.istore 4, 2) := by decide +kernel
theorem d_Model_stands_12 : decode b_Model_stands 12 = .ok (.aload_n 0, 1) := by decide +kernel
theorem d_Model_stands_13 : decode b_Model_stands 13 = .ok (.getfield 13, 3) := by decide +kernel
theorem d_Model_stands_16 : decode b_Model_stands 16 = .ok (.sipush 320, 3) := by decide +kernel
theorem d_Model_stands_19 : decode b_Model_stands 19 = .ok (.iload_n 1, 1) := by decide +kernel
theorem d_Model_stands_20 : decode b_Model_stands 20 = .ok (.iadd, 1) := by decide +kernel
theorem d_Model_stands_21 : decode b_Model_stands 21 = .ok (.iaload, 1) := by decide +kernel
theorem d_Model_stands_22 : decode b_Model_stands 22 = .ok (.istore 5, 2) := by decide +kernel
theorem d_Model_stands_24 : decode b_Model_stands 24 = .ok (.iload_n 1, 1) := by decide +kernel
theorem d_Model_stands_25 : decode b_Model_stands 25 = .ok (.istore 6, 2) := by decide +kernel
theorem d_Model_stands_27 : decode b_Model_stands 27 = .ok (.iconst 0, 1) := by decide +kernel
theorem d_Model_stands_28 : decode b_Model_stands 28 = .ok (.istore 7, 2) := by decide +kernel
theorem d_Model_stands_30 : decode b_Model_stands 30 = .ok (.iload 5, 2) := by decide +kernel
theorem d_Model_stands_32 : decode b_Model_stands 32 = .ok (.iload_n 3, 1) := by decide +kernel
theorem d_Model_stands_33 : decode b_Model_stands 33 = .ok (.if_icmp .ge 7, 3) := by decide +kernel
theorem d_Model_stands_36 : decode b_Model_stands 36 = .ok (.iconst 1, 1) := by decide +kernel
theorem d_Model_stands_37 : decode b_Model_stands 37 = .ok (.goto 4, 3) := by decide +kernel
theorem d_Model_stands_40 : decode b_Model_stands 40 = .ok (.iconst 0, 1) := by decide +kernel
theorem d_Model_stands_41 : decode b_Model_stands 41 = .ok (.istore 8, 2) := by decide +kernel
theorem d_Model_stands_43 : decode b_Model_stands 43 = .ok (.iconst 0, 1) := by decide +kernel
theorem d_Model_stands_44 : decode b_Model_stands 44 = .ok (.istore 9, 2) := by decide +kernel
theorem d_Model_stands_46 : decode b_Model_stands 46 = .ok (.aload_n 0, 1) := by decide +kernel
theorem d_Model_stands_47 : decode b_Model_stands 47 = .ok (.getfield 22, 3) := by decide +kernel
theorem d_Model_stands_50 : decode b_Model_stands 50 = .ok (.iload_n 1, 1) := by decide +kernel
theorem d_Model_stands_51 : decode b_Model_stands 51 = .ok (.iaload, 1) := by decide +kernel
theorem d_Model_stands_52 : decode b_Model_stands 52 = .ok (.istore 10, 2) := by decide +kernel
theorem d_Model_stands_54 : decode b_Model_stands 54 = .ok (.iload 10, 2) := by decide +kernel
theorem d_Model_stands_56 : decode b_Model_stands 56 = .ok (.ifCond .lt 112, 3) := by decide +kernel
theorem d_Model_stands_59 : decode b_Model_stands 59 = .ok (.aload_n 0, 1) := by decide +kernel
theorem d_Model_stands_60 : decode b_Model_stands 60 = .ok (.getfield 7, 3) := by decide +kernel
theorem d_Model_stands_63 : decode b_Model_stands 63 = .ok (.sipush 320, 3) := by decide +kernel
theorem d_Model_stands_66 : decode b_Model_stands 66 = .ok (.iload 10, 2) := by decide +kernel
theorem d_Model_stands_68 : decode b_Model_stands 68 = .ok (.iadd, 1) := by decide +kernel
theorem d_Model_stands_69 : decode b_Model_stands 69 = .ok (.iaload, 1) := by decide +kernel
theorem d_Model_stands_70 : decode b_Model_stands 70 = .ok (.istore 11, 2) := by decide +kernel
theorem d_Model_stands_72 : decode b_Model_stands 72 = .ok (.aload_n 0, 1) := by decide +kernel
theorem d_Model_stands_73 : decode b_Model_stands 73 = .ok (.getfield 13, 3) := by decide +kernel
theorem d_Model_stands_76 : decode b_Model_stands 76 = .ok (.sipush 320, 3) := by decide +kernel
theorem d_Model_stands_79 : decode b_Model_stands 79 = .ok (.iload 10, 2) := by decide +kernel
theorem d_Model_stands_81 : decode b_Model_stands 81 = .ok (.iadd, 1) := by decide +kernel
theorem d_Model_stands_82 : decode b_Model_stands 82 = .ok (.iaload, 1) := by decide +kernel
theorem d_Model_stands_83 : decode b_Model_stands 83 = .ok (.iload 5, 2) := by decide +kernel
theorem d_Model_stands_85 : decode b_Model_stands 85 = .ok (.if_icmp .ne 18, 3) := by decide +kernel
theorem d_Model_stands_88 : decode b_Model_stands 88 = .ok (.aload_n 0, 1) := by decide +kernel
theorem d_Model_stands_89 : decode b_Model_stands 89 = .ok (.getfield 25, 3) := by decide +kernel
theorem d_Model_stands_92 : decode b_Model_stands 92 = .ok (.iload 6, 2) := by decide +kernel
theorem d_Model_stands_94 : decode b_Model_stands 94 = .ok (.iaload, 1) := by decide +kernel
theorem d_Model_stands_95 : decode b_Model_stands 95 = .ok (.iconst 2, 1) := by decide +kernel
theorem d_Model_stands_96 : decode b_Model_stands 96 = .ok (.if_icmp .ne 7, 3) := by decide +kernel
theorem d_Model_stands_99 : decode b_Model_stands 99 = .ok (.iconst 1, 1) := by decide +kernel
theorem d_Model_stands_100 : decode b_Model_stands 100 = .ok (.goto 4, 3) := by decide +kernel
theorem d_Model_stands_103 : decode b_Model_stands 103 = .ok (.iconst 0, 1) := by decide +kernel
theorem d_Model_stands_104 : decode b_Model_stands 104 = .ok (.istore 12, 2) := by decide +kernel
theorem d_Model_stands_106 : decode b_Model_stands 106 = .ok (.iload 8, 2) := by decide +kernel
theorem d_Model_stands_108 : decode b_Model_stands 108 = .ok (.iload 11, 2) := by decide +kernel
theorem d_Model_stands_110 : decode b_Model_stands 110 = .ok (.bipush 14, 2) := by decide +kernel
theorem d_Model_stands_112 : decode b_Model_stands 112 = .ok (.if_icmp .eq 10, 3) := by decide +kernel
theorem d_Model_stands_115 : decode b_Model_stands 115 = .ok (.iload 11, 2) := by decide +kernel
theorem d_Model_stands_117 : decode b_Model_stands 117 = .ok (.bipush 16, 2) := by decide +kernel
theorem d_Model_stands_119 : decode b_Model_stands 119 = .ok (.if_icmp .ne 12, 3) := by decide +kernel
theorem d_Model_stands_122 : decode b_Model_stands 122 = .ok (.iload 12, 2) := by decide +kernel
theorem d_Model_stands_124 : decode b_Model_stands 124 = .ok (.ifCond .eq 7, 3) := by decide +kernel
theorem d_Model_stands_127 : decode b_Model_stands 127 = .ok (.iconst 1, 1) := by decide +kernel
theorem d_Model_stands_128 : decode b_Model_stands 128 = .ok (.goto 4, 3) := by decide +kernel
theorem d_Model_stands_131 : decode b_Model_stands 131 = .ok (.iconst 0, 1) := by decide +kernel
theorem d_Model_stands_132 : decode b_Model_stands 132 = .ok (.ior, 1) := by decide +kernel
theorem d_Model_stands_133 : decode b_Model_stands 133 = .ok (.istore 8, 2) := by decide +kernel
theorem d_Model_stands_135 : decode b_Model_stands 135 = .ok (.iload 11, 2) := by decide +kernel
theorem d_Model_stands_137 : decode b_Model_stands 137 = .ok (.bipush 16, 2) := by decide +kernel
theorem d_Model_stands_139 : decode b_Model_stands 139 = .ok (.if_icmp .ne 13, 3) := by decide +kernel
theorem d_Model_stands_142 : decode b_Model_stands 142 = .ok (.iinc 7 1, 3) := by decide +kernel
theorem d_Model_stands_145 : decode b_Model_stands 145 = .ok (.iload 9, 2) := by decide +kernel
theorem d_Model_stands_147 : decode b_Model_stands 147 = .ok (.iload 12, 2) := by decide +kernel
theorem d_Model_stands_149 : decode b_Model_stands 149 = .ok (.ior, 1) := by decide +kernel
theorem d_Model_stands_150 : decode b_Model_stands 150 = .ok (.istore 9, 2) := by decide +kernel
theorem d_Model_stands_152 : decode b_Model_stands 152 = .ok (.iload 10, 2) := by decide +kernel
theorem d_Model_stands_154 : decode b_Model_stands 154 = .ok (.istore 6, 2) := by decide +kernel
theorem d_Model_stands_156 : decode b_Model_stands 156 = .ok (.aload_n 0, 1) := by decide +kernel
theorem d_Model_stands_157 : decode b_Model_stands 157 = .ok (.getfield 22, 3) := by decide +kernel
theorem d_Model_stands_160 : decode b_Model_stands 160 = .ok (.iload 10, 2) := by decide +kernel
theorem d_Model_stands_162 : decode b_Model_stands 162 = .ok (.iaload, 1) := by decide +kernel
theorem d_Model_stands_163 : decode b_Model_stands 163 = .ok (.istore 10, 2) := by decide +kernel
theorem d_Model_stands_165 : decode b_Model_stands 165 = .ok (.goto (-111), 3) := by decide +kernel
theorem d_Model_stands_168 : decode b_Model_stands 168 = .ok (.iload 4, 2) := by decide +kernel
theorem d_Model_stands_170 : decode b_Model_stands 170 = .ok (.iconst 1, 1) := by decide +kernel
theorem d_Model_stands_171 : decode b_Model_stands 171 = .ok (.if_icmp .ne 6, 3) := by decide +kernel
theorem d_Model_stands_174 : decode b_Model_stands 174 = .ok (.iload 8, 2) := by decide +kernel
theorem d_Model_stands_176 : decode b_Model_stands 176 = .ok (.ireturn, 1) := by decide +kernel
theorem d_Model_stands_177 : decode b_Model_stands 177 = .ok (.iload 4, 2) := by decide +kernel
theorem d_Model_stands_179 : decode b_Model_stands 179 = .ok (.bipush 15, 2) := by decide +kernel
theorem d_Model_stands_181 : decode b_Model_stands 181 = .ok (.if_icmp .ne 19, 3) := by decide +kernel
theorem d_Model_stands_184 : decode b_Model_stands 184 = .ok (.iload 8, 2) := by decide +kernel
theorem d_Model_stands_186 : decode b_Model_stands 186 = .ok (.ifCond .eq 12, 3) := by decide +kernel
theorem d_Model_stands_189 : decode b_Model_stands 189 = .ok (.iload 9, 2) := by decide +kernel
theorem d_Model_stands_191 : decode b_Model_stands 191 = .ok (.ifCond .ne 7, 3) := by decide +kernel
theorem d_Model_stands_194 : decode b_Model_stands 194 = .ok (.iconst 1, 1) := by decide +kernel
theorem d_Model_stands_195 : decode b_Model_stands 195 = .ok (.goto 4, 3) := by decide +kernel
theorem d_Model_stands_198 : decode b_Model_stands 198 = .ok (.iconst 0, 1) := by decide +kernel
theorem d_Model_stands_199 : decode b_Model_stands 199 = .ok (.ireturn, 1) := by decide +kernel
theorem d_Model_stands_200 : decode b_Model_stands 200 = .ok (.iload 4, 2) := by decide +kernel
theorem d_Model_stands_202 : decode b_Model_stands 202 = .ok (.bipush 14, 2) := by decide +kernel
theorem d_Model_stands_204 : decode b_Model_stands 204 = .ok (.if_icmp .ne 14, 3) := by decide +kernel
theorem d_Model_stands_207 : decode b_Model_stands 207 = .ok (.iload 9, 2) := by decide +kernel
theorem d_Model_stands_209 : decode b_Model_stands 209 = .ok (.ifCond .ne 7, 3) := by decide +kernel
theorem d_Model_stands_212 : decode b_Model_stands 212 = .ok (.iconst 1, 1) := by decide +kernel
theorem d_Model_stands_213 : decode b_Model_stands 213 = .ok (.goto 4, 3) := by decide +kernel
theorem d_Model_stands_216 : decode b_Model_stands 216 = .ok (.iconst 0, 1) := by decide +kernel
theorem d_Model_stands_217 : decode b_Model_stands 217 = .ok (.ireturn, 1) := by decide +kernel
theorem d_Model_stands_218 : decode b_Model_stands 218 = .ok (.iload 4, 2) := by decide +kernel
theorem d_Model_stands_220 : decode b_Model_stands 220 = .ok (.bipush 16, 2) := by decide +kernel
theorem d_Model_stands_222 : decode b_Model_stands 222 = .ok (.if_icmp .ne 20, 3) := by decide +kernel
theorem d_Model_stands_225 : decode b_Model_stands 225 = .ok (.iload 9, 2) := by decide +kernel
theorem d_Model_stands_227 : decode b_Model_stands 227 = .ok (.ifCond .ne 13, 3) := by decide +kernel
theorem d_Model_stands_230 : decode b_Model_stands 230 = .ok (.iload 7, 2) := by decide +kernel
theorem d_Model_stands_232 : decode b_Model_stands 232 = .ok (.iconst 2, 1) := by decide +kernel
theorem d_Model_stands_233 : decode b_Model_stands 233 = .ok (.if_icmp .ge 7, 3) := by decide +kernel
theorem d_Model_stands_236 : decode b_Model_stands 236 = .ok (.iconst 1, 1) := by decide +kernel
theorem d_Model_stands_237 : decode b_Model_stands 237 = .ok (.goto 4, 3) := by decide +kernel
theorem d_Model_stands_240 : decode b_Model_stands 240 = .ok (.iconst 0, 1) := by decide +kernel
theorem d_Model_stands_241 : decode b_Model_stands 241 = .ok (.ireturn, 1) := by decide +kernel
theorem d_Model_stands_242 : decode b_Model_stands 242 = .ok (.iload 4, 2) := by decide +kernel
theorem d_Model_stands_244 : decode b_Model_stands 244 = .ok (.bipush 17, 2) := by decide +kernel
theorem d_Model_stands_246 : decode b_Model_stands 246 = .ok (.if_icmp .ne 14, 3) := by decide +kernel
theorem d_Model_stands_249 : decode b_Model_stands 249 = .ok (.iload 5, 2) := by decide +kernel
theorem d_Model_stands_251 : decode b_Model_stands 251 = .ok (.iload_n 2, 1) := by decide +kernel
theorem d_Model_stands_252 : decode b_Model_stands 252 = .ok (.if_icmp .ge 12, 3) := by decide +kernel
theorem d_Model_stands_255 : decode b_Model_stands 255 = .ok (.iload 7, 2) := by decide +kernel
theorem d_Model_stands_257 : decode b_Model_stands 257 = .ok (.ifCond .ne 7, 3) := by decide +kernel
theorem d_Model_stands_260 : decode b_Model_stands 260 = .ok (.iconst 1, 1) := by decide +kernel
theorem d_Model_stands_261 : decode b_Model_stands 261 = .ok (.goto 4, 3) := by decide +kernel
theorem d_Model_stands_264 : decode b_Model_stands 264 = .ok (.iconst 0, 1) := by decide +kernel
theorem d_Model_stands_265 : decode b_Model_stands 265 = .ok (.ireturn, 1) := by decide +kernel
abbrev b_Model_define : ByteArray := prog_14_method_9_code
abbrev J_Model_define : MethodName × ByteArray × Nat × Option FieldType := (⟨"FaslDeskModel", "define", "(II)I"⟩, b_Model_define, 6, (some .int))
theorem d_Model_define_0 : decode b_Model_define 0 = .ok (.iload_n 1, 1) := by decide +kernel
theorem d_Model_define_1 : decode b_Model_define 1 = .ok (.iconst 0, 1) := by decide +kernel
theorem d_Model_define_2 : decode b_Model_define 2 = .ok (.bipush 7, 2) := by decide +kernel
theorem d_Model_define_4 : decode b_Model_define 4 = .ok (.invokestatic 102, 3) := by decide +kernel
theorem d_Model_define_7 : decode b_Model_define 7 = .ok (.ifCond .eq 19, 3) := by decide +kernel
theorem d_Model_define_10 : decode b_Model_define 10 = .ok (.iload_n 2, 1) := by decide +kernel
theorem d_Model_define_11 : decode b_Model_define 11 = .ok (.iconst 0, 1) := by decide +kernel
theorem d_Model_define_12 : decode b_Model_define 12 = .ok (.iconst 3, 1) := by decide +kernel
theorem d_Model_define_13 : decode b_Model_define 13 = .ok (.invokestatic 102, 3) := by decide +kernel
theorem d_Model_define_16 : decode b_Model_define 16 = .ok (.ifCond .eq 10, 3) := by decide +kernel
theorem d_Model_define_19 : decode b_Model_define 19 = .ok (.aload_n 0, 1) := by decide +kernel
theorem d_Model_define_20 : decode b_Model_define 20 = .ok (.invokevirtual 114, 3) := by decide +kernel
theorem d_Model_define_23 : decode b_Model_define 23 = .ok (.ifCond .ne 5, 3) := by decide +kernel
theorem d_Model_define_26 : decode b_Model_define 26 = .ok (.iconst (-1), 1) := by decide +kernel
theorem d_Model_define_27 : decode b_Model_define 27 = .ok (.ireturn, 1) := by decide +kernel
theorem d_Model_define_28 : decode b_Model_define 28 = .ok (.aload_n 0, 1) := by decide +kernel
theorem d_Model_define_29 : decode b_Model_define 29 = .ok (.getfield 16, 3) := by decide +kernel
theorem d_Model_define_32 : decode b_Model_define 32 = .ok (.bipush 8, 2) := by decide +kernel
theorem d_Model_define_34 : decode b_Model_define 34 = .ok (.iaload, 1) := by decide +kernel
theorem d_Model_define_35 : decode b_Model_define 35 = .ok (.istore_n 3, 1) := by decide +kernel
theorem d_Model_define_36 : decode b_Model_define 36 = .ok (.iconst 0, 1) := by decide +kernel
theorem d_Model_define_37 : decode b_Model_define 37 = .ok (.istore 4, 2) := by decide +kernel
theorem d_Model_define_39 : decode b_Model_define 39 = .ok (.iconst 0, 1) := by decide +kernel
theorem d_Model_define_40 : decode b_Model_define 40 = .ok (.istore 5, 2) := by decide +kernel
theorem d_Model_define_42 : decode b_Model_define 42 = .ok (.iload 5, 2) := by decide +kernel
theorem d_Model_define_44 : decode b_Model_define 44 = .ok (.iload_n 3, 1) := by decide +kernel
theorem d_Model_define_45 : decode b_Model_define 45 = .ok (.if_icmp .ge 47, 3) := by decide +kernel
theorem d_Model_define_48 : decode b_Model_define 48 = .ok (.aload_n 0, 1) := by decide +kernel
theorem d_Model_define_49 : decode b_Model_define 49 = .ok (.getfield 7, 3) := by decide +kernel
theorem d_Model_define_52 : decode b_Model_define 52 = .ok (.sipush 320, 3) := by decide +kernel
theorem d_Model_define_55 : decode b_Model_define 55 = .ok (.iload 5, 2) := by decide +kernel
theorem d_Model_define_57 : decode b_Model_define 57 = .ok (.iadd, 1) := by decide +kernel
theorem d_Model_define_58 : decode b_Model_define 58 = .ok (.iaload, 1) := by decide +kernel
theorem d_Model_define_59 : decode b_Model_define 59 = .ok (.bipush 17, 2) := by decide +kernel
theorem d_Model_define_61 : decode b_Model_define 61 = .ok (.if_icmp .ne 6, 3) := by decide +kernel
theorem d_Model_define_64 : decode b_Model_define 64 = .ok (.iinc 4 1, 3) := by decide +kernel
theorem d_Model_define_67 : decode b_Model_define 67 = .ok (.aload_n 0, 1) := by decide +kernel
theorem d_Model_define_68 : decode b_Model_define 68 = .ok (.iload 5, 2) := by decide +kernel
theorem d_Model_define_70 : decode b_Model_define 70 = .ok (.iload_n 1, 1) := by decide +kernel
theorem d_Model_define_71 : decode b_Model_define 71 = .ok (.iload_n 2, 1) := by decide +kernel
theorem d_Model_define_72 : decode b_Model_define 72 = .ok (.invokevirtual 118, 3) := by decide +kernel
theorem d_Model_define_75 : decode b_Model_define 75 = .ok (.ifCond .eq 9, 3) := by decide +kernel
theorem d_Model_define_78 : decode b_Model_define 78 = .ok (.iload 4, 2) := by decide +kernel
theorem d_Model_define_80 : decode b_Model_define 80 = .ok (.iconst 2, 1) := by decide +kernel
theorem d_Model_define_81 : decode b_Model_define 81 = .ok (.if_icmp .le 5, 3) := by decide +kernel
theorem d_Model_define_84 : decode b_Model_define 84 = .ok (.iconst (-1), 1) := by decide +kernel
theorem d_Model_define_85 : decode b_Model_define 85 = .ok (.ireturn, 1) := by decide +kernel
theorem d_Model_define_86 : decode b_Model_define 86 = .ok (.iinc 5 1, 3) := by decide +kernel
theorem d_Model_define_89 : decode b_Model_define 89 = .ok (.goto (-47), 3) := by decide +kernel
theorem d_Model_define_92 : decode b_Model_define 92 = .ok (.iconst 0, 1) := by decide +kernel
theorem d_Model_define_93 : decode b_Model_define 93 = .ok (.istore 5, 2) := by decide +kernel
theorem d_Model_define_95 : decode b_Model_define 95 = .ok (.iload 5, 2) := by decide +kernel
theorem d_Model_define_97 : decode b_Model_define 97 = .ok (.iload_n 3, 1) := by decide +kernel
theorem d_Model_define_98 : decode b_Model_define 98 = .ok (.if_icmp .ge 55, 3) := by decide +kernel
theorem d_Model_define_101 : decode b_Model_define 101 = .ok (.aload_n 0, 1) := by decide +kernel
theorem d_Model_define_102 : decode b_Model_define 102 = .ok (.getfield 7, 3) := by decide +kernel
theorem d_Model_define_105 : decode b_Model_define 105 = .ok (.bipush 40, 2) := by decide +kernel
theorem d_Model_define_107 : decode b_Model_define 107 = .ok (.iload_n 1, 1) := by decide +kernel
theorem d_Model_define_108 : decode b_Model_define 108 = .ok (.imul, 1) := by decide +kernel
theorem d_Model_define_109 : decode b_Model_define 109 = .ok (.iload 5, 2) := by decide +kernel
theorem d_Model_define_111 : decode b_Model_define 111 = .ok (.iadd, 1) := by decide +kernel
theorem d_Model_define_112 : decode b_Model_define 112 = .ok (.aload_n 0, 1) := by decide +kernel
theorem d_Model_define_113 : decode b_Model_define 113 = .ok (.getfield 7, 3) := by decide +kernel
theorem d_Model_define_116 : decode b_Model_define 116 = .ok (.sipush 320, 3) := by decide +kernel
theorem d_Model_define_119 : decode b_Model_define 119 = .ok (.iload 5, 2) := by decide +kernel
theorem d_Model_define_121 : decode b_Model_define 121 = .ok (.iadd, 1) := by decide +kernel
theorem d_Model_define_122 : decode b_Model_define 122 = .ok (.iaload, 1) := by decide +kernel
theorem d_Model_define_123 : decode b_Model_define 123 = .ok (.iastore, 1) := by decide +kernel
theorem d_Model_define_124 : decode b_Model_define 124 = .ok (.aload_n 0, 1) := by decide +kernel
theorem d_Model_define_125 : decode b_Model_define 125 = .ok (.getfield 13, 3) := by decide +kernel
theorem d_Model_define_128 : decode b_Model_define 128 = .ok (.bipush 40, 2) := by decide +kernel
theorem d_Model_define_130 : decode b_Model_define 130 = .ok (.iload_n 1, 1) := by decide +kernel
theorem d_Model_define_131 : decode b_Model_define 131 = .ok (.imul, 1) := by decide +kernel
theorem d_Model_define_132 : decode b_Model_define 132 = .ok (.iload 5, 2) := by decide +kernel
theorem d_Model_define_134 : decode b_Model_define 134 = .ok (.iadd, 1) := by decide +kernel
theorem d_Model_define_135 : decode b_Model_define 135 = .ok (.aload_n 0, 1) := by decide +kernel
theorem d_Model_define_136 : decode b_Model_define 136 = .ok (.getfield 13, 3) := by decide +kernel
theorem d_Model_define_139 : decode b_Model_define 139 = .ok (.sipush 320, 3) := by decide +kernel
theorem d_Model_define_142 : decode b_Model_define 142 = .ok (.iload 5, 2) := by decide +kernel
theorem d_Model_define_144 : decode b_Model_define 144 = .ok (.iadd, 1) := by decide +kernel
theorem d_Model_define_145 : decode b_Model_define 145 = .ok (.iaload, 1) := by decide +kernel
theorem d_Model_define_146 : decode b_Model_define 146 = .ok (.iastore, 1) := by decide +kernel
theorem d_Model_define_147 : decode b_Model_define 147 = .ok (.iinc 5 1, 3) := by decide +kernel
theorem d_Model_define_150 : decode b_Model_define 150 = .ok (.goto (-55), 3) := by decide +kernel
theorem d_Model_define_153 : decode b_Model_define 153 = .ok (.aload_n 0, 1) := by decide +kernel
theorem d_Model_define_154 : decode b_Model_define 154 = .ok (.getfield 16, 3) := by decide +kernel
theorem d_Model_define_157 : decode b_Model_define 157 = .ok (.iload_n 1, 1) := by decide +kernel
theorem d_Model_define_158 : decode b_Model_define 158 = .ok (.iload_n 3, 1) := by decide +kernel
theorem d_Model_define_159 : decode b_Model_define 159 = .ok (.iastore, 1) := by decide +kernel
theorem d_Model_define_160 : decode b_Model_define 160 = .ok (.aload_n 0, 1) := by decide +kernel
theorem d_Model_define_161 : decode b_Model_define 161 = .ok (.getfield 16, 3) := by decide +kernel
theorem d_Model_define_164 : decode b_Model_define 164 = .ok (.bipush 8, 2) := by decide +kernel
theorem d_Model_define_166 : decode b_Model_define 166 = .ok (.iconst 0, 1) := by decide +kernel
theorem d_Model_define_167 : decode b_Model_define 167 = .ok (.iastore, 1) := by decide +kernel
theorem d_Model_define_168 : decode b_Model_define 168 = .ok (.aload_n 0, 1) := by decide +kernel
theorem d_Model_define_169 : decode b_Model_define 169 = .ok (.getfield 19, 3) := by decide +kernel
theorem d_Model_define_172 : decode b_Model_define 172 = .ok (.iload_n 1, 1) := by decide +kernel
theorem d_Model_define_173 : decode b_Model_define 173 = .ok (.iload_n 2, 1) := by decide +kernel
theorem d_Model_define_174 : decode b_Model_define 174 = .ok (.iastore, 1) := by decide +kernel
theorem d_Model_define_175 : decode b_Model_define 175 = .ok (.aload_n 0, 1) := by decide +kernel
theorem d_Model_define_176 : decode b_Model_define 176 = .ok (.iload_n 1, 1) := by decide +kernel
theorem d_Model_define_177 : decode b_Model_define 177 = .ok (.invokevirtual 121, 3) := by decide +kernel
theorem d_Model_define_180 : decode b_Model_define 180 = .ok (.iload_n 3, 1) := by decide +kernel
theorem d_Model_define_181 : decode b_Model_define 181 = .ok (.ireturn, 1) := by decide +kernel
abbrev b_Model_put : ByteArray := prog_14_method_10_code
abbrev J_Model_put : MethodName × ByteArray × Nat × Option FieldType := (⟨"FaslDeskModel", "put", "(IIII)I"⟩, b_Model_put, 6, (some .int))
theorem d_Model_put_0 : decode b_Model_put 0 = .ok (.sipush 280, 3) := by decide +kernel
theorem d_Model_put_3 : decode b_Model_put 3 = .ok (.iload_n 1, 1) := by decide +kernel
theorem d_Model_put_4 : decode b_Model_put 4 = .ok (.imul, 1) := by decide +kernel
theorem d_Model_put_5 : decode b_Model_put 5 = .ok (.aload_n 0, 1) := by decide +kernel
theorem d_Model_put_6 : decode b_Model_put 6 = .ok (.getfield 125, 3) := by decide +kernel
theorem d_Model_put_9 : decode b_Model_put 9 = .ok (.iadd, 1) := by decide +kernel
theorem d_Model_put_10 : decode b_Model_put 10 = .ok (.istore 5, 2) := by decide +kernel
theorem d_Model_put_12 : decode b_Model_put 12 = .ok (.aload_n 0, 1) := by decide +kernel
theorem d_Model_put_13 : decode b_Model_put 13 = .ok (.getfield 28, 3) := by decide +kernel
theorem d_Model_put_16 : decode b_Model_put 16 = .ok (.iload 5, 2) := by decide +kernel
theorem d_Model_put_18 : decode b_Model_put 18 = .ok (.iload_n 2, 1) := by decide +kernel
theorem d_Model_put_19 : decode b_Model_put 19 = .ok (.iastore, 1) := by decide +kernel
theorem d_Model_put_20 : decode b_Model_put 20 = .ok (.aload_n 0, 1) := by decide +kernel
theorem d_Model_put_21 : decode b_Model_put 21 = .ok (.getfield 31, 3) := by decide +kernel
theorem d_Model_put_24 : decode b_Model_put 24 = .ok (.iload 5, 2) := by decide +kernel
theorem d_Model_put_26 : decode b_Model_put 26 = .ok (.iload_n 3, 1) := by decide +kernel
theorem d_Model_put_27 : decode b_Model_put 27 = .ok (.iastore, 1) := by decide +kernel
theorem d_Model_put_28 : decode b_Model_put 28 = .ok (.aload_n 0, 1) := by decide +kernel
theorem d_Model_put_29 : decode b_Model_put 29 = .ok (.getfield 34, 3) := by decide +kernel
theorem d_Model_put_32 : decode b_Model_put 32 = .ok (.iload 5, 2) := by decide +kernel
theorem d_Model_put_34 : decode b_Model_put 34 = .ok (.iload 4, 2) := by decide +kernel
theorem d_Model_put_36 : decode b_Model_put 36 = .ok (.iastore, 1) := by decide +kernel
theorem d_Model_put_37 : decode b_Model_put 37 = .ok (.aload_n 0, 1) := by decide +kernel
theorem d_Model_put_38 : decode b_Model_put 38 = .ok (.getfield 46, 3) := by decide +kernel
theorem d_Model_put_41 : decode b_Model_put 41 = .ok (.iload 5, 2) := by decide +kernel
theorem d_Model_put_43 : decode b_Model_put 43 = .ok (.iconst 0, 1) := by decide +kernel
theorem d_Model_put_44 : decode b_Model_put 44 = .ok (.bastore, 1) := by decide +kernel
theorem d_Model_put_45 : decode b_Model_put 45 = .ok (.aload_n 0, 1) := by decide +kernel
theorem d_Model_put_46 : decode b_Model_put 46 = .ok (.dup, 1) := by decide +kernel
theorem d_Model_put_47 : decode b_Model_put 47 = .ok (.getfield 125, 3) := by decide +kernel
theorem d_Model_put_50 : decode b_Model_put 50 = .ok (.dup_x1, 1) := by decide +kernel
theorem d_Model_put_51 : decode b_Model_put 51 = .ok (.iconst 1, 1) := by decide +kernel
theorem d_Model_put_52 : decode b_Model_put 52 = .ok (.iadd, 1) := by decide +kernel
theorem d_Model_put_53 : decode b_Model_put 53 = .ok (.putfield 125, 3) := by decide +kernel
theorem d_Model_put_56 : decode b_Model_put 56 = .ok (.ireturn, 1) := by decide +kernel
abbrev b_Model_fix : ByteArray := prog_14_method_11_code
abbrev J_Model_fix : MethodName × ByteArray × Nat × Option FieldType := (⟨"FaslDeskModel", "fix", "(II)V"⟩, b_Model_fix, 3, none)
theorem d_Model_fix_0 : decode b_Model_fix 0 = .ok (.aload_n 0, 1) := by decide +kernel
theorem d_Model_fix_1 : decode b_Model_fix 1 = .ok (.getfield 46, 3) := by decide +kernel
theorem d_Model_fix_4 : decode b_Model_fix 4 = .ok (.sipush 280, 3) := by decide +kernel
theorem d_Model_fix_7 : decode b_Model_fix 7 = .ok (.iload_n 1, 1) := by decide +kernel
theorem d_Model_fix_8 : decode b_Model_fix 8 = .ok (.imul, 1) := by decide +kernel
theorem d_Model_fix_9 : decode b_Model_fix 9 = .ok (.aload_n 0, 1) := by decide +kernel
theorem d_Model_fix_10 : decode b_Model_fix 10 = .ok (.iload_n 1, 1) := by decide +kernel
theorem d_Model_fix_11 : decode b_Model_fix 11 = .ok (.iload_n 2, 1) := by decide +kernel
theorem d_Model_fix_12 : decode b_Model_fix 12 = .ok (.iconst 0, 1) := by decide +kernel
theorem d_Model_fix_13 : decode b_Model_fix 13 = .ok (.iconst 0, 1) := by decide +kernel
theorem d_Model_fix_14 : decode b_Model_fix 14 = .ok (.invokevirtual 128, 3) := by decide +kernel
theorem d_Model_fix_17 : decode b_Model_fix 17 = .ok (.iadd, 1) := by decide +kernel
theorem d_Model_fix_18 : decode b_Model_fix 18 = .ok (.iconst 1, 1) := by decide +kernel
theorem d_Model_fix_19 : decode b_Model_fix 19 = .ok (.bastore, 1) := by decide +kernel
theorem d_Model_fix_20 : decode b_Model_fix 20 = .ok (.return_, 1) := by decide +kernel
abbrev b_Model_translate : ByteArray := prog_14_method_12_code
abbrev J_Model_translate : MethodName × ByteArray × Nat × Option FieldType := (⟨"FaslDeskModel", "translate", "(I)V"⟩, b_Model_translate, 8, none)
theorem d_Model_translate_0 : decode b_Model_translate 0 = .ok (.iconst 0, 1) := by decide +kernel
theorem d_Model_translate_1 : decode b_Model_translate 1 = .ok (.istore_n 2, 1) := by decide +kernel
theorem d_Model_translate_2 : decode b_Model_translate 2 = .ok (.aload_n 0, 1) := by decide +kernel
theorem d_Model_translate_3 : decode b_Model_translate 3 = .ok (.iconst 0, 1) := by decide +kernel
theorem d_Model_translate_4 : decode b_Model_translate 4 = .ok (.putfield 125, 3) := by decide +kernel
theorem d_Model_translate_7 : decode b_Model_translate 7 = .ok (.aload_n 0, 1) := by decide +kernel
theorem d_Model_translate_8 : decode b_Model_translate 8 = .ok (.getfield 19, 3) := by decide +kernel
theorem d_Model_translate_11 : decode b_Model_translate 11 = .ok (.iload_n 1, 1) := by decide +kernel
theorem d_Model_translate_12 : decode b_Model_translate 12 = .ok (.iaload, 1) := by decide +kernel
theorem d_Model_translate_13 : decode b_Model_translate 13 = .ok (.istore_n 3, 1) := by decide +kernel
theorem d_Model_translate_14 : decode b_Model_translate 14 = .ok (.iload_n 3, 1) := by decide +kernel
theorem d_Model_translate_15 : decode b_Model_translate 15 = .ok (.bipush 7, 2) := by decide +kernel
theorem d_Model_translate_17 : decode b_Model_translate 17 = .ok (.if_icmp .ge 28, 3) := by decide +kernel
theorem d_Model_translate_20 : decode b_Model_translate 20 = .ok (.aload_n 0, 1) := by decide +kernel
theorem d_Model_translate_21 : decode b_Model_translate 21 = .ok (.iload_n 1, 1) := by decide +kernel
theorem d_Model_translate_22 : decode b_Model_translate 22 = .ok (.iconst 0, 1) := by decide +kernel
theorem d_Model_translate_23 : decode b_Model_translate 23 = .ok (.iconst 0, 1) := by decide +kernel
theorem d_Model_translate_24 : decode b_Model_translate 24 = .ok (.iconst 0, 1) := by decide +kernel
theorem d_Model_translate_25 : decode b_Model_translate 25 = .ok (.invokevirtual 128, 3) := by decide +kernel
theorem d_Model_translate_28 : decode b_Model_translate 28 = .ok (.pop, 1) := by decide +kernel
theorem d_Model_translate_29 : decode b_Model_translate 29 = .ok (.aload_n 0, 1) := by decide +kernel
theorem d_Model_translate_30 : decode b_Model_translate 30 = .ok (.iload_n 1, 1) := by decide +kernel
theorem d_Model_translate_31 : decode b_Model_translate 31 = .ok (.bipush 13, 2) := by decide +kernel
theorem d_Model_translate_33 : decode b_Model_translate 33 = .ok (.iload_n 3, 1) := by decide +kernel
theorem d_Model_translate_34 : decode b_Model_translate 34 = .ok (.iconst 0, 1) := by decide +kernel
theorem d_Model_translate_35 : decode b_Model_translate 35 = .ok (.invokevirtual 128, 3) := by decide +kernel
theorem d_Model_translate_38 : decode b_Model_translate 38 = .ok (.pop, 1) := by decide +kernel
theorem d_Model_translate_39 : decode b_Model_translate 39 = .ok (.iinc 3 1, 3) := by decide +kernel
theorem d_Model_translate_42 : decode b_Model_translate 42 = .ok (.goto (-28), 3) := by decide +kernel
theorem d_Model_translate_45 : decode b_Model_translate 45 = .ok (.iconst 0, 1) := by decide +kernel
theorem d_Model_translate_46 : decode b_Model_translate 46 = .ok (.istore_n 3, 1) := by decide +kernel
theorem d_Model_translate_47 : decode b_Model_translate 47 = .ok (.iload_n 3, 1) := by decide +kernel
theorem d_Model_translate_48 : decode b_Model_translate 48 = .ok (.aload_n 0, 1) := by decide +kernel
theorem d_Model_translate_49 : decode b_Model_translate 49 = .ok (.getfield 16, 3) := by decide +kernel
theorem d_Model_translate_52 : decode b_Model_translate 52 = .ok (.iload_n 1, 1) := by decide +kernel
theorem d_Model_translate_53 : decode b_Model_translate 53 = .ok (.iaload, 1) := by decide +kernel
theorem d_Model_translate_54 : decode b_Model_translate 54 = .ok (.if_icmp .ge 123, 3) := by decide +kernel
theorem d_Model_translate_57 : decode b_Model_translate 57 = .ok (.aload_n 0, 1) := by decide +kernel
theorem d_Model_translate_58 : decode b_Model_translate 58 = .ok (.getfield 7, 3) := by decide +kernel
theorem d_Model_translate_61 : decode b_Model_translate 61 = .ok (.bipush 40, 2) := by decide +kernel
theorem d_Model_translate_63 : decode b_Model_translate 63 = .ok (.iload_n 1, 1) := by decide +kernel
theorem d_Model_translate_64 : decode b_Model_translate 64 = .ok (.imul, 1) := by decide +kernel
theorem d_Model_translate_65 : decode b_Model_translate 65 = .ok (.iload_n 3, 1) := by decide +kernel
theorem d_Model_translate_66 : decode b_Model_translate 66 = .ok (.iadd, 1) := by decide +kernel
theorem d_Model_translate_67 : decode b_Model_translate 67 = .ok (.iaload, 1) := by decide +kernel
theorem d_Model_translate_68 : decode b_Model_translate 68 = .ok (.istore 4, 2) := by decide +kernel
theorem d_Model_translate_70 : decode b_Model_translate 70 = .ok (.aload_n 0, 1) := by decide +kernel
theorem d_Model_translate_71 : decode b_Model_translate 71 = .ok (.getfield 13, 3) := by decide +kernel
theorem d_Model_translate_74 : decode b_Model_translate 74 = .ok (.bipush 40, 2) := by decide +kernel
theorem d_Model_translate_76 : decode b_Model_translate 76 = .ok (.iload_n 1, 1) := by decide +kernel
theorem d_Model_translate_77 : decode b_Model_translate 77 = .ok (.imul, 1) := by decide +kernel
theorem d_Model_translate_78 : decode b_Model_translate 78 = .ok (.iload_n 3, 1) := by decide +kernel
theorem d_Model_translate_79 : decode b_Model_translate 79 = .ok (.iadd, 1) := by decide +kernel
theorem d_Model_translate_80 : decode b_Model_translate 80 = .ok (.iaload, 1) := by decide +kernel
theorem d_Model_translate_81 : decode b_Model_translate 81 = .ok (.istore 5, 2) := by decide +kernel
theorem d_Model_translate_83 : decode b_Model_translate 83 = .ok (.iload 4, 2) := by decide +kernel
theorem d_Model_translate_85 : decode b_Model_translate 85 = .ok (.iconst 2, 1) := by decide +kernel
theorem d_Model_translate_86 : decode b_Model_translate 86 = .ok (.if_icmp .ge 17, 3) := by decide +kernel
theorem d_Model_translate_89 : decode b_Model_translate 89 = .ok (.aload_n 0, 1) := by decide +kernel
theorem d_Model_translate_90 : decode b_Model_translate 90 = .ok (.iload_n 1, 1) := by decide +kernel
theorem d_Model_translate_91 : decode b_Model_translate 91 = .ok (.iload 4, 2) := by decide +kernel
theorem d_Model_translate_93 : decode b_Model_translate 93 = .ok (.iload 5, 2) := by decide +kernel
theorem d_Model_translate_95 : decode b_Model_translate 95 = .ok (.iconst 0, 1) := by decide +kernel
theorem d_Model_translate_96 : decode b_Model_translate 96 = .ok (.invokevirtual 128, 3) := by decide +kernel
theorem d_Model_translate_99 : decode b_Model_translate 99 = .ok (.pop, 1) := by decide +kernel
theorem d_Model_translate_100 : decode b_Model_translate 100 = .ok (.goto 23, 3) := by decide +kernel
theorem d_Model_translate_103 : decode b_Model_translate 103 = .ok (.aload_n 0, 1) := by decide +kernel
theorem d_Model_translate_104 : decode b_Model_translate 104 = .ok (.getfield 89, 3) := by decide +kernel
theorem d_Model_translate_107 : decode b_Model_translate 107 = .ok (.iload_n 2, 1) := by decide +kernel
theorem d_Model_translate_108 : decode b_Model_translate 108 = .ok (.iload_n 3, 1) := by decide +kernel
theorem d_Model_translate_109 : decode b_Model_translate 109 = .ok (.iastore, 1) := by decide +kernel
theorem d_Model_translate_110 : decode b_Model_translate 110 = .ok (.aload_n 0, 1) := by decide +kernel
theorem d_Model_translate_111 : decode b_Model_translate 111 = .ok (.getfield 92, 3) := by decide +kernel
theorem d_Model_translate_114 : decode b_Model_translate 114 = .ok (.iload_n 2, 1) := by decide +kernel
theorem d_Model_translate_115 : decode b_Model_translate 115 = .ok (.iinc 2 1, 3) := by decide +kernel
theorem d_Model_translate_118 : decode b_Model_translate 118 = .ok (.iconst 0, 1) := by decide +kernel
theorem d_Model_translate_119 : decode b_Model_translate 119 = .ok (.iastore, 1) := by decide +kernel
theorem d_Model_translate_120 : decode b_Model_translate 120 = .ok (.goto 51, 3) := by decide +kernel
theorem d_Model_translate_123 : decode b_Model_translate 123 = .ok (.iconst 1, 1) := by decide +kernel
theorem d_Model_translate_124 : decode b_Model_translate 124 = .ok (.istore 6, 2) := by decide +kernel
theorem d_Model_translate_126 : decode b_Model_translate 126 = .ok (.iload 6, 2) := by decide +kernel
theorem d_Model_translate_128 : decode b_Model_translate 128 = .ok (.ifCond .eq 43, 3) := by decide +kernel
theorem d_Model_translate_131 : decode b_Model_translate 131 = .ok (.iload_n 2, 1) := by decide +kernel
theorem d_Model_translate_132 : decode b_Model_translate 132 = .ok (.ifCond .le 39, 3) := by decide +kernel
theorem d_Model_translate_135 : decode b_Model_translate 135 = .ok (.iload_n 2, 1) := by decide +kernel
theorem d_Model_translate_136 : decode b_Model_translate 136 = .ok (.iconst 1, 1) := by decide +kernel
theorem d_Model_translate_137 : decode b_Model_translate 137 = .ok (.isub, 1) := by decide +kernel
theorem d_Model_translate_138 : decode b_Model_translate 138 = .ok (.istore 7, 2) := by decide +kernel
theorem d_Model_translate_140 : decode b_Model_translate 140 = .ok (.aload_n 0, 1) := by decide +kernel
theorem d_Model_translate_141 : decode b_Model_translate 141 = .ok (.getfield 92, 3) := by decide +kernel
theorem d_Model_translate_144 : decode b_Model_translate 144 = .ok (.iload 7, 2) := by decide +kernel
theorem d_Model_translate_146 : decode b_Model_translate 146 = .ok (.dup2, 1) := by decide +kernel
theorem d_Model_translate_147 : decode b_Model_translate 147 = .ok (.iaload, 1) := by decide +kernel
theorem d_Model_translate_148 : decode b_Model_translate 148 = .ok (.iconst 1, 1) := by decide +kernel
theorem d_Model_translate_149 : decode b_Model_translate 149 = .ok (.iadd, 1) := by decide +kernel
theorem d_Model_translate_150 : decode b_Model_translate 150 = .ok (.iastore, 1) := by decide +kernel
theorem d_Model_translate_151 : decode b_Model_translate 151 = .ok (.aload_n 0, 1) := by decide +kernel
theorem d_Model_translate_152 : decode b_Model_translate 152 = .ok (.iload_n 1, 1) := by decide +kernel
theorem d_Model_translate_153 : decode b_Model_translate 153 = .ok (.iload 7, 2) := by decide +kernel
theorem d_Model_translate_155 : decode b_Model_translate 155 = .ok (.invokevirtual 132, 3) := by decide +kernel
theorem d_Model_translate_158 : decode b_Model_translate 158 = .ok (.istore 6, 2) := by decide +kernel
theorem d_Model_translate_160 : decode b_Model_translate 160 = .ok (.iload 6, 2) := by decide +kernel
theorem d_Model_translate_162 : decode b_Model_translate 162 = .ok (.ifCond .eq 6, 3) := by decide +kernel
theorem d_Model_translate_165 : decode b_Model_translate 165 = .ok (.iinc 2 (-1), 3) := by decide +kernel
theorem d_Model_translate_168 : decode b_Model_translate 168 = .ok (.goto (-42), 3) := by decide +kernel
theorem d_Model_translate_171 : decode b_Model_translate 171 = .ok (.iinc 3 1, 3) := by decide +kernel
theorem d_Model_translate_174 : decode b_Model_translate 174 = .ok (.goto (-127), 3) := by decide +kernel
theorem d_Model_translate_177 : decode b_Model_translate 177 = .ok (.aload_n 0, 1) := by decide +kernel
theorem d_Model_translate_178 : decode b_Model_translate 178 = .ok (.iload_n 1, 1) := by decide +kernel
theorem d_Model_translate_179 : decode b_Model_translate 179 = .ok (.bipush 17, 2) := by decide +kernel
theorem d_Model_translate_181 : decode b_Model_translate 181 = .ok (.iconst 0, 1) := by decide +kernel
theorem d_Model_translate_182 : decode b_Model_translate 182 = .ok (.iconst 0, 1) := by decide +kernel
theorem d_Model_translate_183 : decode b_Model_translate 183 = .ok (.invokevirtual 128, 3) := by decide +kernel
theorem d_Model_translate_186 : decode b_Model_translate 186 = .ok (.pop, 1) := by decide +kernel
theorem d_Model_translate_187 : decode b_Model_translate 187 = .ok (.aload_n 0, 1) := by decide +kernel
theorem d_Model_translate_188 : decode b_Model_translate 188 = .ok (.getfield 37, 3) := by decide +kernel
theorem d_Model_translate_191 : decode b_Model_translate 191 = .ok (.iload_n 1, 1) := by decide +kernel
theorem d_Model_translate_192 : decode b_Model_translate 192 = .ok (.aload_n 0, 1) := by decide +kernel
theorem d_Model_translate_193 : decode b_Model_translate 193 = .ok (.getfield 125, 3) := by decide +kernel
theorem d_Model_translate_196 : decode b_Model_translate 196 = .ok (.iastore, 1) := by decide +kernel
theorem d_Model_translate_197 : decode b_Model_translate 197 = .ok (.aload_n 0, 1) := by decide +kernel
theorem d_Model_translate_198 : decode b_Model_translate 198 = .ok (.getfield 40, 3) := by decide +kernel
theorem d_Model_translate_201 : decode b_Model_translate 201 = .ok (.iload_n 1, 1) := by decide +kernel
theorem d_Model_translate_202 : decode b_Model_translate 202 = .ok (.aload_n 0, 1) := by decide +kernel
theorem d_Model_translate_203 : decode b_Model_translate 203 = .ok (.iload_n 1, 1) := by decide +kernel
theorem d_Model_translate_204 : decode b_Model_translate 204 = .ok (.invokevirtual 135, 3) := by decide +kernel
theorem d_Model_translate_207 : decode b_Model_translate 207 = .ok (.iastore, 1) := by decide +kernel
theorem d_Model_translate_208 : decode b_Model_translate 208 = .ok (.return_, 1) := by decide +kernel
abbrev b_Model_behind : ByteArray := prog_14_method_13_code
abbrev J_Model_behind : MethodName × ByteArray × Nat × Option FieldType := (⟨"FaslDeskModel", "behind", "(II)Z"⟩, b_Model_behind, 9, (some .boolean))
theorem d_Model_behind_0 : decode b_Model_behind 0 = .ok (.aload_n 0, 1) := by decide +kernel
theorem d_Model_behind_1 : decode b_Model_behind 1 = .ok (.getfield 89, 3) := by decide +kernel
theorem d_Model_behind_4 : decode b_Model_behind 4 = .ok (.iload_n 2, 1) := by decide +kernel
theorem d_Model_behind_5 : decode b_Model_behind 5 = .ok (.iaload, 1) := by decide +kernel
theorem d_Model_behind_6 : decode b_Model_behind 6 = .ok (.istore_n 3, 1) := by decide +kernel
theorem d_Model_behind_7 : decode b_Model_behind 7 = .ok (.aload_n 0, 1) := by decide +kernel
theorem d_Model_behind_8 : decode b_Model_behind 8 = .ok (.getfield 7, 3) := by decide +kernel
theorem d_Model_behind_11 : decode b_Model_behind 11 = .ok (.bipush 40, 2) := by decide +kernel
theorem d_Model_behind_13 : decode b_Model_behind 13 = .ok (.iload_n 1, 1) := by decide +kernel
theorem d_Model_behind_14 : decode b_Model_behind 14 = .ok (.imul, 1) := by decide +kernel
theorem d_Model_behind_15 : decode b_Model_behind 15 = .ok (.iload_n 3, 1) := by decide +kernel
theorem d_Model_behind_16 : decode b_Model_behind 16 = .ok (.iadd, 1) := by decide +kernel
theorem d_Model_behind_17 : decode b_Model_behind 17 = .ok (.iaload, 1) := by decide +kernel
theorem d_Model_behind_18 : decode b_Model_behind 18 = .ok (.istore 4, 2) := by decide +kernel
theorem d_Model_behind_20 : decode b_Model_behind 20 = .ok (.aload_n 0, 1) := by decide +kernel
theorem d_Model_behind_21 : decode b_Model_behind 21 = .ok (.getfield 13, 3) := by decide +kernel
theorem d_Model_behind_24 : decode b_Model_behind 24 = .ok (.bipush 40, 2) := by decide +kernel
theorem d_Model_behind_26 : decode b_Model_behind 26 = .ok (.iload_n 1, 1) := by decide +kernel
theorem d_Model_behind_27 : decode b_Model_behind 27 = .ok (.imul, 1) := by decide +kernel
theorem d_Model_behind_28 : decode b_Model_behind 28 = .ok (.iload_n 3, 1) := by decide +kernel
theorem d_Model_behind_29 : decode b_Model_behind 29 = .ok (.iadd, 1) := by decide +kernel
theorem d_Model_behind_30 : decode b_Model_behind 30 = .ok (.iaload, 1) := by decide +kernel
theorem d_Model_behind_31 : decode b_Model_behind 31 = .ok (.istore 5, 2) := by decide +kernel
theorem d_Model_behind_33 : decode b_Model_behind 33 = .ok (.aload_n 0, 1) := by decide +kernel
theorem d_Model_behind_34 : decode b_Model_behind 34 = .ok (.getfield 92, 3) := by decide +kernel
theorem d_Model_behind_37 : decode b_Model_behind 37 = .ok (.iload_n 2, 1) := by decide +kernel
theorem d_Model_behind_38 : decode b_Model_behind 38 = .ok (.iaload, 1) := by decide +kernel
theorem d_Model_behind_39 : decode b_Model_behind 39 = .ok (.istore 6, 2) := by decide +kernel
theorem d_Model_behind_41 : decode b_Model_behind 41 = .ok (.sipush 280, 3) := by decide +kernel
theorem d_Model_behind_44 : decode b_Model_behind 44 = .ok (.iload_n 1, 1) := by decide +kernel
theorem d_Model_behind_45 : decode b_Model_behind 45 = .ok (.imul, 1) := by decide +kernel
theorem d_Model_behind_46 : decode b_Model_behind 46 = .ok (.istore 7, 2) := by decide +kernel
theorem d_Model_behind_48 : decode b_Model_behind 48 = .ok (.iload 4, 2) := by decide +kernel
theorem d_Model_behind_50 : decode b_Model_behind 50 = .ok (.bipush 13, 2) := by decide +kernel
theorem d_Model_behind_52 : decode b_Model_behind 52 = .ok (.if_icmp .ge 23, 3) := by decide +kernel
theorem d_Model_behind_55 : decode b_Model_behind 55 = .ok (.iload 6, 2) := by decide +kernel
theorem d_Model_behind_57 : decode b_Model_behind 57 = .ok (.iload 4, 2) := by decide +kernel
theorem d_Model_behind_59 : decode b_Model_behind 59 = .ok (.invokestatic 110, 3) := by decide +kernel
theorem d_Model_behind_62 : decode b_Model_behind 62 = .ok (.if_icmp .ne 13, 3) := by decide +kernel
theorem d_Model_behind_65 : decode b_Model_behind 65 = .ok (.aload_n 0, 1) := by decide +kernel
theorem d_Model_behind_66 : decode b_Model_behind 66 = .ok (.iload_n 1, 1) := by decide +kernel
theorem d_Model_behind_67 : decode b_Model_behind 67 = .ok (.iload 4, 2) := by decide +kernel
theorem d_Model_behind_69 : decode b_Model_behind 69 = .ok (.iconst 0, 1) := by decide +kernel
theorem d_Model_behind_70 : decode b_Model_behind 70 = .ok (.iconst 0, 1) := by decide +kernel
theorem d_Model_behind_71 : decode b_Model_behind 71 = .ok (.invokevirtual 128, 3) := by decide +kernel
theorem d_Model_behind_74 : decode b_Model_behind 74 = .ok (.pop, 1) := by decide +kernel
theorem d_Model_behind_75 : decode b_Model_behind 75 = .ok (.iload 4, 2) := by decide +kernel
theorem d_Model_behind_77 : decode b_Model_behind 77 = .ok (.bipush 13, 2) := by decide +kernel
theorem d_Model_behind_79 : decode b_Model_behind 79 = .ok (.if_icmp .ne 25, 3) := by decide +kernel
theorem d_Model_behind_82 : decode b_Model_behind 82 = .ok (.iload 6, 2) := by decide +kernel
theorem d_Model_behind_84 : decode b_Model_behind 84 = .ok (.iconst 1, 1) := by decide +kernel
theorem d_Model_behind_85 : decode b_Model_behind 85 = .ok (.if_icmp .ne 19, 3) := by decide +kernel
theorem d_Model_behind_88 : decode b_Model_behind 88 = .ok (.aload_n 0, 1) := by decide +kernel
theorem d_Model_behind_89 : decode b_Model_behind 89 = .ok (.getfield 95, 3) := by decide +kernel
theorem d_Model_behind_92 : decode b_Model_behind 92 = .ok (.iload_n 2, 1) := by decide +kernel
theorem d_Model_behind_93 : decode b_Model_behind 93 = .ok (.aload_n 0, 1) := by decide +kernel
theorem d_Model_behind_94 : decode b_Model_behind 94 = .ok (.iload_n 1, 1) := by decide +kernel
theorem d_Model_behind_95 : decode b_Model_behind 95 = .ok (.bipush 14, 2) := by decide +kernel
theorem d_Model_behind_97 : decode b_Model_behind 97 = .ok (.iload 5, 2) := by decide +kernel
theorem d_Model_behind_99 : decode b_Model_behind 99 = .ok (.iconst 0, 1) := by decide +kernel
theorem d_Model_behind_100 : decode b_Model_behind 100 = .ok (.invokevirtual 128, 3) := by decide +kernel
theorem d_Model_behind_103 : decode b_Model_behind 103 = .ok (.iastore, 1) := by decide +kernel
theorem d_Model_behind_104 : decode b_Model_behind 104 = .ok (.iload 4, 2) := by decide +kernel
theorem d_Model_behind_106 : decode b_Model_behind 106 = .ok (.bipush 13, 2) := by decide +kernel
theorem d_Model_behind_108 : decode b_Model_behind 108 = .ok (.if_icmp .ne 46, 3) := by decide +kernel
theorem d_Model_behind_111 : decode b_Model_behind 111 = .ok (.iload 6, 2) := by decide +kernel
theorem d_Model_behind_113 : decode b_Model_behind 113 = .ok (.iconst 2, 1) := by decide +kernel
theorem d_Model_behind_114 : decode b_Model_behind 114 = .ok (.if_icmp .ne 40, 3) := by decide +kernel
theorem d_Model_behind_117 : decode b_Model_behind 117 = .ok (.aload_n 0, 1) := by decide +kernel
theorem d_Model_behind_118 : decode b_Model_behind 118 = .ok (.iload_n 1, 1) := by decide +kernel
theorem d_Model_behind_119 : decode b_Model_behind 119 = .ok (.bipush 15, 2) := by decide +kernel
theorem d_Model_behind_121 : decode b_Model_behind 121 = .ok (.iconst 0, 1) := by decide +kernel
theorem d_Model_behind_122 : decode b_Model_behind 122 = .ok (.iconst 0, 1) := by decide +kernel
theorem d_Model_behind_123 : decode b_Model_behind 123 = .ok (.invokevirtual 128, 3) := by decide +kernel
theorem d_Model_behind_126 : decode b_Model_behind 126 = .ok (.istore 8, 2) := by decide +kernel
theorem d_Model_behind_128 : decode b_Model_behind 128 = .ok (.aload_n 0, 1) := by decide +kernel
theorem d_Model_behind_129 : decode b_Model_behind 129 = .ok (.getfield 34, 3) := by decide +kernel
theorem d_Model_behind_132 : decode b_Model_behind 132 = .ok (.iload 7, 2) := by decide +kernel
theorem d_Model_behind_134 : decode b_Model_behind 134 = .ok (.aload_n 0, 1) := by decide +kernel
theorem d_Model_behind_135 : decode b_Model_behind 135 = .ok (.getfield 95, 3) := by decide +kernel
theorem d_Model_behind_138 : decode b_Model_behind 138 = .ok (.iload_n 2, 1) := by decide +kernel
theorem d_Model_behind_139 : decode b_Model_behind 139 = .ok (.iaload, 1) := by decide +kernel
theorem d_Model_behind_140 : decode b_Model_behind 140 = .ok (.iadd, 1) := by decide +kernel
theorem d_Model_behind_141 : decode b_Model_behind 141 = .ok (.aload_n 0, 1) := by decide +kernel
theorem d_Model_behind_142 : decode b_Model_behind 142 = .ok (.getfield 125, 3) := by decide +kernel
theorem d_Model_behind_145 : decode b_Model_behind 145 = .ok (.iastore, 1) := by decide +kernel
theorem d_Model_behind_146 : decode b_Model_behind 146 = .ok (.aload_n 0, 1) := by decide +kernel
theorem d_Model_behind_147 : decode b_Model_behind 147 = .ok (.getfield 95, 3) := by decide +kernel
theorem d_Model_behind_150 : decode b_Model_behind 150 = .ok (.iload_n 2, 1) := by decide +kernel
theorem d_Model_behind_151 : decode b_Model_behind 151 = .ok (.iload 8, 2) := by decide +kernel
theorem d_Model_behind_153 : decode b_Model_behind 153 = .ok (.iastore, 1) := by decide +kernel
theorem d_Model_behind_154 : decode b_Model_behind 154 = .ok (.iload 4, 2) := by decide +kernel
theorem d_Model_behind_156 : decode b_Model_behind 156 = .ok (.bipush 13, 2) := by decide +kernel
theorem d_Model_behind_158 : decode b_Model_behind 158 = .ok (.if_icmp .ne 27, 3) := by decide +kernel
theorem d_Model_behind_161 : decode b_Model_behind 161 = .ok (.iload 6, 2) := by decide +kernel
theorem d_Model_behind_163 : decode b_Model_behind 163 = .ok (.iconst 3, 1) := by decide +kernel
theorem d_Model_behind_164 : decode b_Model_behind 164 = .ok (.if_icmp .ne 21, 3) := by decide +kernel
theorem d_Model_behind_167 : decode b_Model_behind 167 = .ok (.aload_n 0, 1) := by decide +kernel
theorem d_Model_behind_168 : decode b_Model_behind 168 = .ok (.getfield 31, 3) := by decide +kernel
theorem d_Model_behind_171 : decode b_Model_behind 171 = .ok (.iload 7, 2) := by decide +kernel
theorem d_Model_behind_173 : decode b_Model_behind 173 = .ok (.aload_n 0, 1) := by decide +kernel
theorem d_Model_behind_174 : decode b_Model_behind 174 = .ok (.getfield 95, 3) := by decide +kernel
theorem d_Model_behind_177 : decode b_Model_behind 177 = .ok (.iload_n 2, 1) := by decide +kernel
theorem d_Model_behind_178 : decode b_Model_behind 178 = .ok (.iaload, 1) := by decide +kernel
theorem d_Model_behind_179 : decode b_Model_behind 179 = .ok (.iadd, 1) := by decide +kernel
theorem d_Model_behind_180 : decode b_Model_behind 180 = .ok (.aload_n 0, 1) := by decide +kernel
theorem d_Model_behind_181 : decode b_Model_behind 181 = .ok (.getfield 125, 3) := by decide +kernel
theorem d_Model_behind_184 : decode b_Model_behind 184 = .ok (.iastore, 1) := by decide +kernel
theorem d_Model_behind_185 : decode b_Model_behind 185 = .ok (.iload 4, 2) := by decide +kernel
theorem d_Model_behind_187 : decode b_Model_behind 187 = .ok (.bipush 14, 2) := by decide +kernel
theorem d_Model_behind_189 : decode b_Model_behind 189 = .ok (.if_icmp .ne 20, 3) := by decide +kernel
theorem d_Model_behind_192 : decode b_Model_behind 192 = .ok (.iload 6, 2) := by decide +kernel
theorem d_Model_behind_194 : decode b_Model_behind 194 = .ok (.iconst 1, 1) := by decide +kernel
theorem d_Model_behind_195 : decode b_Model_behind 195 = .ok (.if_icmp .ne 14, 3) := by decide +kernel
theorem d_Model_behind_198 : decode b_Model_behind 198 = .ok (.aload_n 0, 1) := by decide +kernel
theorem d_Model_behind_199 : decode b_Model_behind 199 = .ok (.iload_n 1, 1) := by decide +kernel
theorem d_Model_behind_200 : decode b_Model_behind 200 = .ok (.bipush 13, 2) := by decide +kernel
theorem d_Model_behind_202 : decode b_Model_behind 202 = .ok (.iload 5, 2) := by decide +kernel
theorem d_Model_behind_204 : decode b_Model_behind 204 = .ok (.iconst 0, 1) := by decide +kernel
theorem d_Model_behind_205 : decode b_Model_behind 205 = .ok (.invokevirtual 128, 3) := by decide +kernel
theorem d_Model_behind_208 : decode b_Model_behind 208 = .ok (.pop, 1) := by decide +kernel
theorem d_Model_behind_209 : decode b_Model_behind 209 = .ok (.iload 4, 2) := by decide +kernel
theorem d_Model_behind_211 : decode b_Model_behind 211 = .ok (.bipush 15, 2) := by decide +kernel
theorem d_Model_behind_213 : decode b_Model_behind 213 = .ok (.if_icmp .ne 24, 3) := by decide +kernel
theorem d_Model_behind_216 : decode b_Model_behind 216 = .ok (.aload_n 0, 1) := by decide +kernel
theorem d_Model_behind_217 : decode b_Model_behind 217 = .ok (.iload_n 1, 1) := by decide +kernel
theorem d_Model_behind_218 : decode b_Model_behind 218 = .ok (.bipush 19, 2) := by decide +kernel
theorem d_Model_behind_220 : decode b_Model_behind 220 = .ok (.iconst 0, 1) := by decide +kernel
theorem d_Model_behind_221 : decode b_Model_behind 221 = .ok (.iconst 0, 1) := by decide +kernel
theorem d_Model_behind_222 : decode b_Model_behind 222 = .ok (.invokevirtual 128, 3) := by decide +kernel
theorem d_Model_behind_225 : decode b_Model_behind 225 = .ok (.pop, 1) := by decide +kernel
theorem d_Model_behind_226 : decode b_Model_behind 226 = .ok (.aload_n 0, 1) := by decide +kernel
theorem d_Model_behind_227 : decode b_Model_behind 227 = .ok (.iload_n 1, 1) := by decide +kernel
theorem d_Model_behind_228 : decode b_Model_behind 228 = .ok (.bipush 13, 2) := by decide +kernel
theorem d_Model_behind_230 : decode b_Model_behind 230 = .ok (.iload 5, 2) := by decide +kernel
theorem d_Model_behind_232 : decode b_Model_behind 232 = .ok (.iconst 0, 1) := by decide +kernel
theorem d_Model_behind_233 : decode b_Model_behind 233 = .ok (.invokevirtual 128, 3) := by decide +kernel
theorem d_Model_behind_236 : decode b_Model_behind 236 = .ok (.pop, 1) := by decide +kernel
theorem d_Model_behind_237 : decode b_Model_behind 237 = .ok (.iload 4, 2) := by decide +kernel
theorem d_Model_behind_239 : decode b_Model_behind 239 = .ok (.bipush 16, 2) := by decide +kernel
theorem d_Model_behind_241 : decode b_Model_behind 241 = .ok (.if_icmp .ne 62, 3) := by decide +kernel
theorem d_Model_behind_244 : decode b_Model_behind 244 = .ok (.iload 6, 2) := by decide +kernel
theorem d_Model_behind_246 : decode b_Model_behind 246 = .ok (.iconst 1, 1) := by decide +kernel
theorem d_Model_behind_247 : decode b_Model_behind 247 = .ok (.if_icmp .ne 56, 3) := by decide +kernel
theorem d_Model_behind_250 : decode b_Model_behind 250 = .ok (.aload_n 0, 1) := by decide +kernel
theorem d_Model_behind_251 : decode b_Model_behind 251 = .ok (.iload_n 1, 1) := by decide +kernel
theorem d_Model_behind_252 : decode b_Model_behind 252 = .ok (.iconst 0, 1) := by decide +kernel
theorem d_Model_behind_253 : decode b_Model_behind 253 = .ok (.bipush 7, 2) := by decide +kernel
theorem d_Model_behind_255 : decode b_Model_behind 255 = .ok (.iconst 0, 1) := by decide +kernel
theorem d_Model_behind_256 : decode b_Model_behind 256 = .ok (.invokevirtual 128, 3) := by decide +kernel
theorem d_Model_behind_259 : decode b_Model_behind 259 = .ok (.pop, 1) := by decide +kernel
theorem d_Model_behind_260 : decode b_Model_behind 260 = .ok (.aload_n 0, 1) := by decide +kernel
theorem d_Model_behind_261 : decode b_Model_behind 261 = .ok (.iload_n 1, 1) := by decide +kernel
theorem d_Model_behind_262 : decode b_Model_behind 262 = .ok (.bipush 7, 2) := by decide +kernel
theorem d_Model_behind_264 : decode b_Model_behind 264 = .ok (.invokevirtual 138, 3) := by decide +kernel
theorem d_Model_behind_267 : decode b_Model_behind 267 = .ok (.aload_n 0, 1) := by decide +kernel
theorem d_Model_behind_268 : decode b_Model_behind 268 = .ok (.iload_n 1, 1) := by decide +kernel
theorem d_Model_behind_269 : decode b_Model_behind 269 = .ok (.bipush 13, 2) := by decide +kernel
theorem d_Model_behind_271 : decode b_Model_behind 271 = .ok (.iload 5, 2) := by decide +kernel
theorem d_Model_behind_273 : decode b_Model_behind 273 = .ok (.iconst 0, 1) := by decide +kernel
theorem d_Model_behind_274 : decode b_Model_behind 274 = .ok (.invokevirtual 128, 3) := by decide +kernel
theorem d_Model_behind_277 : decode b_Model_behind 277 = .ok (.pop, 1) := by decide +kernel
theorem d_Model_behind_278 : decode b_Model_behind 278 = .ok (.aload_n 0, 1) := by decide +kernel
theorem d_Model_behind_279 : decode b_Model_behind 279 = .ok (.getfield 95, 3) := by decide +kernel
theorem d_Model_behind_282 : decode b_Model_behind 282 = .ok (.iload_n 2, 1) := by decide +kernel
theorem d_Model_behind_283 : decode b_Model_behind 283 = .ok (.aload_n 0, 1) := by decide +kernel
theorem d_Model_behind_284 : decode b_Model_behind 284 = .ok (.iload_n 1, 1) := by decide +kernel
theorem d_Model_behind_285 : decode b_Model_behind 285 = .ok (.iconst 1, 1) := by decide +kernel
theorem d_Model_behind_286 : decode b_Model_behind 286 = .ok (.iload 5, 2) := by decide +kernel
theorem d_Model_behind_288 : decode b_Model_behind 288 = .ok (.iconst 0, 1) := by decide +kernel
theorem d_Model_behind_289 : decode b_Model_behind 289 = .ok (.invokevirtual 128, 3) := by decide +kernel
theorem d_Model_behind_292 : decode b_Model_behind 292 = .ok (.iastore, 1) := by decide +kernel
theorem d_Model_behind_293 : decode b_Model_behind 293 = .ok (.aload_n 0, 1) := by decide +kernel
theorem d_Model_behind_294 : decode b_Model_behind 294 = .ok (.iload_n 1, 1) := by decide +kernel
theorem d_Model_behind_295 : decode b_Model_behind 295 = .ok (.bipush 14, 2) := by decide +kernel
theorem d_Model_behind_297 : decode b_Model_behind 297 = .ok (.iconst 1, 1) := by decide +kernel
theorem d_Model_behind_298 : decode b_Model_behind 298 = .ok (.iconst 0, 1) := by decide +kernel
theorem d_Model_behind_299 : decode b_Model_behind 299 = .ok (.invokevirtual 128, 3) := by decide +kernel
theorem d_Model_behind_302 : decode b_Model_behind 302 = .ok (.pop, 1) := by decide +kernel
theorem d_Model_behind_303 : decode b_Model_behind 303 = .ok (.iload 4, 2) := by decide +kernel
theorem d_Model_behind_305 : decode b_Model_behind 305 = .ok (.bipush 16, 2) := by decide +kernel
theorem d_Model_behind_307 : decode b_Model_behind 307 = .ok (.if_icmp .ne 96, 3) := by decide +kernel
theorem d_Model_behind_310 : decode b_Model_behind 310 = .ok (.iload 6, 2) := by decide +kernel
theorem d_Model_behind_312 : decode b_Model_behind 312 = .ok (.iconst 2, 1) := by decide +kernel
theorem d_Model_behind_313 : decode b_Model_behind 313 = .ok (.if_icmp .ne 90, 3) := by decide +kernel
theorem d_Model_behind_316 : decode b_Model_behind 316 = .ok (.aload_n 0, 1) := by decide +kernel
theorem d_Model_behind_317 : decode b_Model_behind 317 = .ok (.iload_n 1, 1) := by decide +kernel
theorem d_Model_behind_318 : decode b_Model_behind 318 = .ok (.bipush 18, 2) := by decide +kernel
theorem d_Model_behind_320 : decode b_Model_behind 320 = .ok (.invokevirtual 138, 3) := by decide +kernel
theorem d_Model_behind_323 : decode b_Model_behind 323 = .ok (.aload_n 0, 1) := by decide +kernel
theorem d_Model_behind_324 : decode b_Model_behind 324 = .ok (.iload_n 1, 1) := by decide +kernel
theorem d_Model_behind_325 : decode b_Model_behind 325 = .ok (.iconst 1, 1) := by decide +kernel
theorem d_Model_behind_326 : decode b_Model_behind 326 = .ok (.iload 5, 2) := by decide +kernel
theorem d_Model_behind_328 : decode b_Model_behind 328 = .ok (.iconst 0, 1) := by decide +kernel
theorem d_Model_behind_329 : decode b_Model_behind 329 = .ok (.invokevirtual 128, 3) := by decide +kernel
theorem d_Model_behind_332 : decode b_Model_behind 332 = .ok (.pop, 1) := by decide +kernel
theorem d_Model_behind_333 : decode b_Model_behind 333 = .ok (.aload_n 0, 1) := by decide +kernel
theorem d_Model_behind_334 : decode b_Model_behind 334 = .ok (.iload_n 1, 1) := by decide +kernel
theorem d_Model_behind_335 : decode b_Model_behind 335 = .ok (.iconst 0, 1) := by decide +kernel
theorem d_Model_behind_336 : decode b_Model_behind 336 = .ok (.iconst 1, 1) := by decide +kernel
theorem d_Model_behind_337 : decode b_Model_behind 337 = .ok (.iconst 0, 1) := by decide +kernel
theorem d_Model_behind_338 : decode b_Model_behind 338 = .ok (.invokevirtual 128, 3) := by decide +kernel
theorem d_Model_behind_341 : decode b_Model_behind 341 = .ok (.pop, 1) := by decide +kernel
theorem d_Model_behind_342 : decode b_Model_behind 342 = .ok (.aload_n 0, 1) := by decide +kernel
theorem d_Model_behind_343 : decode b_Model_behind 343 = .ok (.iload_n 1, 1) := by decide +kernel
theorem d_Model_behind_344 : decode b_Model_behind 344 = .ok (.iconst 3, 1) := by decide +kernel
theorem d_Model_behind_345 : decode b_Model_behind 345 = .ok (.invokevirtual 138, 3) := by decide +kernel
theorem d_Model_behind_348 : decode b_Model_behind 348 = .ok (.aload_n 0, 1) := by decide +kernel
theorem d_Model_behind_349 : decode b_Model_behind 349 = .ok (.iload_n 1, 1) := by decide +kernel
theorem d_Model_behind_350 : decode b_Model_behind 350 = .ok (.bipush 13, 2) := by decide +kernel
theorem d_Model_behind_352 : decode b_Model_behind 352 = .ok (.iload 5, 2) := by decide +kernel
theorem d_Model_behind_354 : decode b_Model_behind 354 = .ok (.iconst 0, 1) := by decide +kernel
theorem d_Model_behind_355 : decode b_Model_behind 355 = .ok (.invokevirtual 128, 3) := by decide +kernel
theorem d_Model_behind_358 : decode b_Model_behind 358 = .ok (.pop, 1) := by decide +kernel
theorem d_Model_behind_359 : decode b_Model_behind 359 = .ok (.aload_n 0, 1) := by decide +kernel
theorem d_Model_behind_360 : decode b_Model_behind 360 = .ok (.iload_n 1, 1) := by decide +kernel
theorem d_Model_behind_361 : decode b_Model_behind 361 = .ok (.bipush 15, 2) := by decide +kernel
theorem d_Model_behind_363 : decode b_Model_behind 363 = .ok (.aload_n 0, 1) := by decide +kernel
theorem d_Model_behind_364 : decode b_Model_behind 364 = .ok (.getfield 95, 3) := by decide +kernel
theorem d_Model_behind_367 : decode b_Model_behind 367 = .ok (.iload_n 2, 1) := by decide +kernel
theorem d_Model_behind_368 : decode b_Model_behind 368 = .ok (.iaload, 1) := by decide +kernel
theorem d_Model_behind_369 : decode b_Model_behind 369 = .ok (.iconst 0, 1) := by decide +kernel
theorem d_Model_behind_370 : decode b_Model_behind 370 = .ok (.invokevirtual 128, 3) := by decide +kernel
theorem d_Model_behind_373 : decode b_Model_behind 373 = .ok (.pop, 1) := by decide +kernel
theorem d_Model_behind_374 : decode b_Model_behind 374 = .ok (.aload_n 0, 1) := by decide +kernel
theorem d_Model_behind_375 : decode b_Model_behind 375 = .ok (.getfield 34, 3) := by decide +kernel
theorem d_Model_behind_378 : decode b_Model_behind 378 = .ok (.iload 7, 2) := by decide +kernel
theorem d_Model_behind_380 : decode b_Model_behind 380 = .ok (.aload_n 0, 1) := by decide +kernel
theorem d_Model_behind_381 : decode b_Model_behind 381 = .ok (.getfield 95, 3) := by decide +kernel
theorem d_Model_behind_384 : decode b_Model_behind 384 = .ok (.iload_n 2, 1) := by decide +kernel
theorem d_Model_behind_385 : decode b_Model_behind 385 = .ok (.iaload, 1) := by decide +kernel
theorem d_Model_behind_386 : decode b_Model_behind 386 = .ok (.iadd, 1) := by decide +kernel
theorem d_Model_behind_387 : decode b_Model_behind 387 = .ok (.iconst 1, 1) := by decide +kernel
theorem d_Model_behind_388 : decode b_Model_behind 388 = .ok (.iadd, 1) := by decide +kernel
theorem d_Model_behind_389 : decode b_Model_behind 389 = .ok (.aload_n 0, 1) := by decide +kernel
theorem d_Model_behind_390 : decode b_Model_behind 390 = .ok (.getfield 125, 3) := by decide +kernel
theorem d_Model_behind_393 : decode b_Model_behind 393 = .ok (.iastore, 1) := by decide +kernel
theorem d_Model_behind_394 : decode b_Model_behind 394 = .ok (.aload_n 0, 1) := by decide +kernel
theorem d_Model_behind_395 : decode b_Model_behind 395 = .ok (.iload_n 1, 1) := by decide +kernel
theorem d_Model_behind_396 : decode b_Model_behind 396 = .ok (.iconst 0, 1) := by decide +kernel
theorem d_Model_behind_397 : decode b_Model_behind 397 = .ok (.iconst 0, 1) := by decide +kernel
theorem d_Model_behind_398 : decode b_Model_behind 398 = .ok (.iconst 0, 1) := by decide +kernel
theorem d_Model_behind_399 : decode b_Model_behind 399 = .ok (.invokevirtual 128, 3) := by decide +kernel
theorem d_Model_behind_402 : decode b_Model_behind 402 = .ok (.pop, 1) := by decide +kernel
theorem d_Model_behind_403 : decode b_Model_behind 403 = .ok (.iload 4, 2) := by decide +kernel
theorem d_Model_behind_405 : decode b_Model_behind 405 = .ok (.bipush 17, 2) := by decide +kernel
theorem d_Model_behind_407 : decode b_Model_behind 407 = .ok (.if_icmp .ne 20, 3) := by decide +kernel
theorem d_Model_behind_410 : decode b_Model_behind 410 = .ok (.iload 6, 2) := by decide +kernel
theorem d_Model_behind_412 : decode b_Model_behind 412 = .ok (.iconst 3, 1) := by decide +kernel
theorem d_Model_behind_413 : decode b_Model_behind 413 = .ok (.if_icmp .ne 14, 3) := by decide +kernel
theorem d_Model_behind_416 : decode b_Model_behind 416 = .ok (.aload_n 0, 1) := by decide +kernel
theorem d_Model_behind_417 : decode b_Model_behind 417 = .ok (.iload_n 1, 1) := by decide +kernel
theorem d_Model_behind_418 : decode b_Model_behind 418 = .ok (.bipush 16, 2) := by decide +kernel
theorem d_Model_behind_420 : decode b_Model_behind 420 = .ok (.iload 5, 2) := by decide +kernel
theorem d_Model_behind_422 : decode b_Model_behind 422 = .ok (.iconst 0, 1) := by decide +kernel
theorem d_Model_behind_423 : decode b_Model_behind 423 = .ok (.invokevirtual 128, 3) := by decide +kernel
theorem d_Model_behind_426 : decode b_Model_behind 426 = .ok (.pop, 1) := by decide +kernel
theorem d_Model_behind_427 : decode b_Model_behind 427 = .ok (.iload 6, 2) := by decide +kernel
theorem d_Model_behind_429 : decode b_Model_behind 429 = .ok (.iload 4, 2) := by decide +kernel
theorem d_Model_behind_431 : decode b_Model_behind 431 = .ok (.invokestatic 110, 3) := by decide +kernel
theorem d_Model_behind_434 : decode b_Model_behind 434 = .ok (.if_icmp .ne 7, 3) := by decide +kernel
theorem d_Model_behind_437 : decode b_Model_behind 437 = .ok (.iconst 1, 1) := by decide +kernel
theorem d_Model_behind_438 : decode b_Model_behind 438 = .ok (.goto 4, 3) := by decide +kernel
theorem d_Model_behind_441 : decode b_Model_behind 441 = .ok (.iconst 0, 1) := by decide +kernel
theorem d_Model_behind_442 : decode b_Model_behind 442 = .ok (.ireturn, 1) := by decide +kernel
