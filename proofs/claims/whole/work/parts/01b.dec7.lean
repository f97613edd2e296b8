/-! more decode rows -/
abbrev b_Interp_finish : ByteArray := prog_10_method_8_code
abbrev J_Interp_finish : MethodName × ByteArray × Nat × Option FieldType := (⟨"FaslDesk$Interpreter", "finish", "(III)V"⟩, b_Interp_finish, 6, none)
theorem d_Interp_finish_0 : decode b_Interp_finish 0 = .ok (.aload_n 0, 1) := by decide +kernel
theorem d_Interp_finish_1 : decode b_Interp_finish 1 = .ok (.getfield 19, 3) := by decide +kernel
theorem d_Interp_finish_4 : decode b_Interp_finish 4 = .ok (.iload_n 1, 1) := by decide +kernel
theorem d_Interp_finish_5 : decode b_Interp_finish 5 = .ok (.aaload, 1) := by decide +kernel
theorem d_Interp_finish_6 : decode b_Interp_finish 6 = .ok (.astore 4, 2) := by decide +kernel
theorem d_Interp_finish_8 : decode b_Interp_finish 8 = .ok (.iload_n 2, 1) := by decide +kernel
theorem d_Interp_finish_9 : decode b_Interp_finish 9 = .ok (.lookupswitch 118 #[(0, 51), (1, 60), (12, 75), (15, 89), (17, 104)], 51) := by decide +kernel
theorem d_Interp_finish_60 : decode b_Interp_finish 60 = .ok (.aload 4, 2) := by decide +kernel
theorem d_Interp_finish_62 : decode b_Interp_finish 62 = .ok (.iload_n 3, 1) := by decide +kernel
theorem d_Interp_finish_63 : decode b_Interp_finish 63 = .ok (.invokevirtual 123, 3) := by decide +kernel
theorem d_Interp_finish_66 : decode b_Interp_finish 66 = .ok (.goto 84, 3) := by decide +kernel
theorem d_Interp_finish_69 : decode b_Interp_finish 69 = .ok (.aload 4, 2) := by decide +kernel
theorem d_Interp_finish_71 : decode b_Interp_finish 71 = .ok (.aload 4, 2) := by decide +kernel
theorem d_Interp_finish_73 : decode b_Interp_finish 73 = .ok (.getfield 87, 3) := by decide +kernel
theorem d_Interp_finish_76 : decode b_Interp_finish 76 = .ok (.iload_n 3, 1) := by decide +kernel
theorem d_Interp_finish_77 : decode b_Interp_finish 77 = .ok (.iaload, 1) := by decide +kernel
theorem d_Interp_finish_78 : decode b_Interp_finish 78 = .ok (.invokevirtual 123, 3) := by decide +kernel
theorem d_Interp_finish_81 : decode b_Interp_finish 81 = .ok (.goto 69, 3) := by decide +kernel
theorem d_Interp_finish_84 : decode b_Interp_finish 84 = .ok (.aload 4, 2) := by decide +kernel
theorem d_Interp_finish_86 : decode b_Interp_finish 86 = .ok (.aload 4, 2) := by decide +kernel
theorem d_Interp_finish_88 : decode b_Interp_finish 88 = .ok (.invokevirtual 69, 3) := by decide +kernel
theorem d_Interp_finish_91 : decode b_Interp_finish 91 = .ok (.ineg, 1) := by decide +kernel
theorem d_Interp_finish_92 : decode b_Interp_finish 92 = .ok (.invokevirtual 123, 3) := by decide +kernel
theorem d_Interp_finish_95 : decode b_Interp_finish 95 = .ok (.goto 55, 3) := by decide +kernel
theorem d_Interp_finish_98 : decode b_Interp_finish 98 = .ok (.aload 4, 2) := by decide +kernel
theorem d_Interp_finish_100 : decode b_Interp_finish 100 = .ok (.getfield 87, 3) := by decide +kernel
theorem d_Interp_finish_103 : decode b_Interp_finish 103 = .ok (.iload_n 3, 1) := by decide +kernel
theorem d_Interp_finish_104 : decode b_Interp_finish 104 = .ok (.aload 4, 2) := by decide +kernel
theorem d_Interp_finish_106 : decode b_Interp_finish 106 = .ok (.invokevirtual 126, 3) := by decide +kernel
theorem d_Interp_finish_109 : decode b_Interp_finish 109 = .ok (.iastore, 1) := by decide +kernel
theorem d_Interp_finish_110 : decode b_Interp_finish 110 = .ok (.goto 40, 3) := by decide +kernel
theorem d_Interp_finish_113 : decode b_Interp_finish 113 = .ok (.aload 4, 2) := by decide +kernel
theorem d_Interp_finish_115 : decode b_Interp_finish 115 = .ok (.aload_n 0, 1) := by decide +kernel
theorem d_Interp_finish_116 : decode b_Interp_finish 116 = .ok (.iload_n 1, 1) := by decide +kernel
theorem d_Interp_finish_117 : decode b_Interp_finish 117 = .ok (.iload_n 3, 1) := by decide +kernel
theorem d_Interp_finish_118 : decode b_Interp_finish 118 = .ok (.invokevirtual 129, 3) := by decide +kernel
theorem d_Interp_finish_121 : decode b_Interp_finish 121 = .ok (.invokevirtual 123, 3) := by decide +kernel
theorem d_Interp_finish_124 : decode b_Interp_finish 124 = .ok (.goto 26, 3) := by decide +kernel
theorem d_Interp_finish_127 : decode b_Interp_finish 127 = .ok (.aload 4, 2) := by decide +kernel
theorem d_Interp_finish_129 : decode b_Interp_finish 129 = .ok (.invokevirtual 69, 3) := by decide +kernel
theorem d_Interp_finish_132 : decode b_Interp_finish 132 = .ok (.istore 5, 2) := by decide +kernel
theorem d_Interp_finish_134 : decode b_Interp_finish 134 = .ok (.aload 4, 2) := by decide +kernel
theorem d_Interp_finish_136 : decode b_Interp_finish 136 = .ok (.iload_n 2, 1) := by decide +kernel
theorem d_Interp_finish_137 : decode b_Interp_finish 137 = .ok (.aload 4, 2) := by decide +kernel
theorem d_Interp_finish_139 : decode b_Interp_finish 139 = .ok (.invokevirtual 69, 3) := by decide +kernel
theorem d_Interp_finish_142 : decode b_Interp_finish 142 = .ok (.iload 5, 2) := by decide +kernel
theorem d_Interp_finish_144 : decode b_Interp_finish 144 = .ok (.invokestatic 132, 3) := by decide +kernel
theorem d_Interp_finish_147 : decode b_Interp_finish 147 = .ok (.invokevirtual 123, 3) := by decide +kernel
theorem d_Interp_finish_150 : decode b_Interp_finish 150 = .ok (.return_, 1) := by decide +kernel
abbrev b_Interp_answerOfLower : ByteArray := prog_10_method_9_code
abbrev J_Interp_answerOfLower : MethodName × ByteArray × Nat × Option FieldType := (⟨"FaslDesk$Interpreter", "answerOfLower", "(II)I"⟩, b_Interp_answerOfLower, 7, (some .int))
theorem d_Interp_answerOfLower_0 : decode b_Interp_answerOfLower 0 = .ok (.aload_n 0, 1) := by decide +kernel
theorem d_Interp_answerOfLower_1 : decode b_Interp_answerOfLower 1 = .ok (.getfield 19, 3) := by decide +kernel
theorem d_Interp_answerOfLower_4 : decode b_Interp_answerOfLower 4 = .ok (.iload_n 1, 1) := by decide +kernel
theorem d_Interp_answerOfLower_5 : decode b_Interp_answerOfLower 5 = .ok (.aaload, 1) := by decide +kernel
theorem d_Interp_answerOfLower_6 : decode b_Interp_answerOfLower 6 = .ok (.astore_n 3, 1) := by decide +kernel
theorem d_Interp_answerOfLower_7 : decode b_Interp_answerOfLower 7 = .ok (.aload_n 3, 1) := by decide +kernel
theorem d_Interp_answerOfLower_8 : decode b_Interp_answerOfLower 8 = .ok (.invokevirtual 69, 3) := by decide +kernel
theorem d_Interp_answerOfLower_11 : decode b_Interp_answerOfLower 11 = .ok (.istore 4, 2) := by decide +kernel
theorem d_Interp_answerOfLower_13 : decode b_Interp_answerOfLower 13 = .ok (.aload_n 3, 1) := by decide +kernel
theorem d_Interp_answerOfLower_14 : decode b_Interp_answerOfLower 14 = .ok (.invokevirtual 69, 3) := by decide +kernel
theorem d_Interp_answerOfLower_17 : decode b_Interp_answerOfLower 17 = .ok (.istore 5, 2) := by decide +kernel
theorem d_Interp_answerOfLower_19 : decode b_Interp_answerOfLower 19 = .ok (.aload_n 3, 1) := by decide +kernel
theorem d_Interp_answerOfLower_20 : decode b_Interp_answerOfLower 20 = .ok (.invokevirtual 69, 3) := by decide +kernel
theorem d_Interp_answerOfLower_23 : decode b_Interp_answerOfLower 23 = .ok (.istore 6, 2) := by decide +kernel
theorem d_Interp_answerOfLower_25 : decode b_Interp_answerOfLower 25 = .ok (.aload_n 0, 1) := by decide +kernel
theorem d_Interp_answerOfLower_26 : decode b_Interp_answerOfLower 26 = .ok (.iload_n 2, 1) := by decide +kernel
theorem d_Interp_answerOfLower_27 : decode b_Interp_answerOfLower 27 = .ok (.iload_n 1, 1) := by decide +kernel
theorem d_Interp_answerOfLower_28 : decode b_Interp_answerOfLower 28 = .ok (.if_icmp .ge 7, 3) := by decide +kernel
theorem d_Interp_answerOfLower_31 : decode b_Interp_answerOfLower 31 = .ok (.iload_n 2, 1) := by decide +kernel
theorem d_Interp_answerOfLower_32 : decode b_Interp_answerOfLower 32 = .ok (.goto 4, 3) := by decide +kernel
theorem d_Interp_answerOfLower_35 : decode b_Interp_answerOfLower 35 = .ok (.iconst (-1), 1) := by decide +kernel
theorem d_Interp_answerOfLower_36 : decode b_Interp_answerOfLower 36 = .ok (.iload 6, 2) := by decide +kernel
theorem d_Interp_answerOfLower_38 : decode b_Interp_answerOfLower 38 = .ok (.iload 5, 2) := by decide +kernel
theorem d_Interp_answerOfLower_40 : decode b_Interp_answerOfLower 40 = .ok (.iload 4, 2) := by decide +kernel
theorem d_Interp_answerOfLower_42 : decode b_Interp_answerOfLower 42 = .ok (.invokevirtual 136, 3) := by decide +kernel
theorem d_Interp_answerOfLower_45 : decode b_Interp_answerOfLower 45 = .ok (.ireturn, 1) := by decide +kernel
abbrev b_Ints_reckon : ByteArray := prog_11_method_2_code
abbrev J_Ints_reckon : MethodName × ByteArray × Nat × Option FieldType := (⟨"FaslDesk$Ints", "reckon", "(III)I"⟩, b_Ints_reckon, 3, (some .int))
theorem d_Ints_reckon_0 : decode b_Ints_reckon 0 = .ok (.iload_n 0, 1) := by decide +kernel
theorem d_Ints_reckon_1 : decode b_Ints_reckon 1 = .ok (.tableswitch 96 2 10 #[51, 55, 59, 63, 70, 77, 81, 85, 89], 51) := by decide +kernel
theorem d_Ints_reckon_52 : decode b_Ints_reckon 52 = .ok (.iload_n 1, 1) := by decide +kernel
theorem d_Ints_reckon_53 : decode b_Ints_reckon 53 = .ok (.iload_n 2, 1) := by decide +kernel
theorem d_Ints_reckon_54 : decode b_Ints_reckon 54 = .ok (.iadd, 1) := by decide +kernel
theorem d_Ints_reckon_55 : decode b_Ints_reckon 55 = .ok (.ireturn, 1) := by decide +kernel
theorem d_Ints_reckon_56 : decode b_Ints_reckon 56 = .ok (.iload_n 1, 1) := by decide +kernel
theorem d_Ints_reckon_57 : decode b_Ints_reckon 57 = .ok (.iload_n 2, 1) := by decide +kernel
theorem d_Ints_reckon_58 : decode b_Ints_reckon 58 = .ok (.isub, 1) := by decide +kernel
theorem d_Ints_reckon_59 : decode b_Ints_reckon 59 = .ok (.ireturn, 1) := by decide +kernel
theorem d_Ints_reckon_60 : decode b_Ints_reckon 60 = .ok (.iload_n 1, 1) := by decide +kernel
theorem d_Ints_reckon_61 : decode b_Ints_reckon 61 = .ok (.iload_n 2, 1) := by decide +kernel
theorem d_Ints_reckon_62 : decode b_Ints_reckon 62 = .ok (.imul, 1) := by decide +kernel
theorem d_Ints_reckon_63 : decode b_Ints_reckon 63 = .ok (.ireturn, 1) := by decide +kernel
theorem d_Ints_reckon_64 : decode b_Ints_reckon 64 = .ok (.iload_n 1, 1) := by decide +kernel
theorem d_Ints_reckon_65 : decode b_Ints_reckon 65 = .ok (.iload_n 2, 1) := by decide +kernel
theorem d_Ints_reckon_66 : decode b_Ints_reckon 66 = .ok (.invokestatic 7, 3) := by decide +kernel
theorem d_Ints_reckon_69 : decode b_Ints_reckon 69 = .ok (.idiv, 1) := by decide +kernel
theorem d_Ints_reckon_70 : decode b_Ints_reckon 70 = .ok (.ireturn, 1) := by decide +kernel
theorem d_Ints_reckon_71 : decode b_Ints_reckon 71 = .ok (.iload_n 1, 1) := by decide +kernel
theorem d_Ints_reckon_72 : decode b_Ints_reckon 72 = .ok (.iload_n 2, 1) := by decide +kernel
theorem d_Ints_reckon_73 : decode b_Ints_reckon 73 = .ok (.invokestatic 7, 3) := by decide +kernel
theorem d_Ints_reckon_76 : decode b_Ints_reckon 76 = .ok (.irem, 1) := by decide +kernel
theorem d_Ints_reckon_77 : decode b_Ints_reckon 77 = .ok (.ireturn, 1) := by decide +kernel
theorem d_Ints_reckon_78 : decode b_Ints_reckon 78 = .ok (.iload_n 1, 1) := by decide +kernel
theorem d_Ints_reckon_79 : decode b_Ints_reckon 79 = .ok (.iload_n 2, 1) := by decide +kernel
theorem d_Ints_reckon_80 : decode b_Ints_reckon 80 = .ok (.iand, 1) := by decide +kernel
theorem d_Ints_reckon_81 : decode b_Ints_reckon 81 = .ok (.ireturn, 1) := by decide +kernel
theorem d_Ints_reckon_82 : decode b_Ints_reckon 82 = .ok (.iload_n 1, 1) := by decide +kernel
theorem d_Ints_reckon_83 : decode b_Ints_reckon 83 = .ok (.iload_n 2, 1) := by decide +kernel
theorem d_Ints_reckon_84 : decode b_Ints_reckon 84 = .ok (.ior, 1) := by decide +kernel
theorem d_Ints_reckon_85 : decode b_Ints_reckon 85 = .ok (.ireturn, 1) := by decide +kernel
theorem d_Ints_reckon_86 : decode b_Ints_reckon 86 = .ok (.iload_n 1, 1) := by decide +kernel
theorem d_Ints_reckon_87 : decode b_Ints_reckon 87 = .ok (.iload_n 2, 1) := by decide +kernel
theorem d_Ints_reckon_88 : decode b_Ints_reckon 88 = .ok (.ixor, 1) := by decide +kernel
theorem d_Ints_reckon_89 : decode b_Ints_reckon 89 = .ok (.ireturn, 1) := by decide +kernel
theorem d_Ints_reckon_90 : decode b_Ints_reckon 90 = .ok (.iload_n 1, 1) := by decide +kernel
theorem d_Ints_reckon_91 : decode b_Ints_reckon 91 = .ok (.iload_n 2, 1) := by decide +kernel
theorem d_Ints_reckon_92 : decode b_Ints_reckon 92 = .ok (.bipush 31, 2) := by decide +kernel
theorem d_Ints_reckon_94 : decode b_Ints_reckon 94 = .ok (.iand, 1) := by decide +kernel
theorem d_Ints_reckon_95 : decode b_Ints_reckon 95 = .ok (.ishl, 1) := by decide +kernel
theorem d_Ints_reckon_96 : decode b_Ints_reckon 96 = .ok (.ireturn, 1) := by decide +kernel
theorem d_Ints_reckon_97 : decode b_Ints_reckon 97 = .ok (.iload_n 1, 1) := by decide +kernel
theorem d_Ints_reckon_98 : decode b_Ints_reckon 98 = .ok (.iload_n 2, 1) := by decide +kernel
theorem d_Ints_reckon_99 : decode b_Ints_reckon 99 = .ok (.bipush 31, 2) := by decide +kernel
theorem d_Ints_reckon_101 : decode b_Ints_reckon 101 = .ok (.iand, 1) := by decide +kernel
theorem d_Ints_reckon_102 : decode b_Ints_reckon 102 = .ok (.ishr, 1) := by decide +kernel
theorem d_Ints_reckon_103 : decode b_Ints_reckon 103 = .ok (.ireturn, 1) := by decide +kernel
abbrev b_Ints_isAsSaid : ByteArray := prog_11_method_3_code
abbrev J_Ints_isAsSaid : MethodName × ByteArray × Nat × Option FieldType := (⟨"FaslDesk$Ints", "isAsSaid", "(II)Z"⟩, b_Ints_isAsSaid, 2, (some .boolean))
theorem d_Ints_isAsSaid_0 : decode b_Ints_isAsSaid 0 = .ok (.iload_n 0, 1) := by decide +kernel
theorem d_Ints_isAsSaid_1 : decode b_Ints_isAsSaid 1 = .ok (.tableswitch 85 0 4 #[35, 45, 55, 65, 75], 35) := by decide +kernel
theorem d_Ints_isAsSaid_36 : decode b_Ints_isAsSaid 36 = .ok (.iload_n 1, 1) := by decide +kernel
theorem d_Ints_isAsSaid_37 : decode b_Ints_isAsSaid 37 = .ok (.ifCond .ne 7, 3) := by decide +kernel
theorem d_Ints_isAsSaid_40 : decode b_Ints_isAsSaid 40 = .ok (.iconst 1, 1) := by decide +kernel
theorem d_Ints_isAsSaid_41 : decode b_Ints_isAsSaid 41 = .ok (.goto 4, 3) := by decide +kernel
theorem d_Ints_isAsSaid_44 : decode b_Ints_isAsSaid 44 = .ok (.iconst 0, 1) := by decide +kernel
theorem d_Ints_isAsSaid_45 : decode b_Ints_isAsSaid 45 = .ok (.ireturn, 1) := by decide +kernel
theorem d_Ints_isAsSaid_46 : decode b_Ints_isAsSaid 46 = .ok (.iload_n 1, 1) := by decide +kernel
theorem d_Ints_isAsSaid_47 : decode b_Ints_isAsSaid 47 = .ok (.ifCond .eq 7, 3) := by decide +kernel
theorem d_Ints_isAsSaid_50 : decode b_Ints_isAsSaid 50 = .ok (.iconst 1, 1) := by decide +kernel
theorem d_Ints_isAsSaid_51 : decode b_Ints_isAsSaid 51 = .ok (.goto 4, 3) := by decide +kernel
theorem d_Ints_isAsSaid_54 : decode b_Ints_isAsSaid 54 = .ok (.iconst 0, 1) := by decide +kernel
theorem d_Ints_isAsSaid_55 : decode b_Ints_isAsSaid 55 = .ok (.ireturn, 1) := by decide +kernel
theorem d_Ints_isAsSaid_56 : decode b_Ints_isAsSaid 56 = .ok (.iload_n 1, 1) := by decide +kernel
theorem d_Ints_isAsSaid_57 : decode b_Ints_isAsSaid 57 = .ok (.ifCond .ge 7, 3) := by decide +kernel
theorem d_Ints_isAsSaid_60 : decode b_Ints_isAsSaid 60 = .ok (.iconst 1, 1) := by decide +kernel
theorem d_Ints_isAsSaid_61 : decode b_Ints_isAsSaid 61 = .ok (.goto 4, 3) := by decide +kernel
theorem d_Ints_isAsSaid_64 : decode b_Ints_isAsSaid 64 = .ok (.iconst 0, 1) := by decide +kernel
theorem d_Ints_isAsSaid_65 : decode b_Ints_isAsSaid 65 = .ok (.ireturn, 1) := by decide +kernel
theorem d_Ints_isAsSaid_66 : decode b_Ints_isAsSaid 66 = .ok (.iload_n 1, 1) := by decide +kernel
theorem d_Ints_isAsSaid_67 : decode b_Ints_isAsSaid 67 = .ok (.ifCond .lt 7, 3) := by decide +kernel
theorem d_Ints_isAsSaid_70 : decode b_Ints_isAsSaid 70 = .ok (.iconst 1, 1) := by decide +kernel
theorem d_Ints_isAsSaid_71 : decode b_Ints_isAsSaid 71 = .ok (.goto 4, 3) := by decide +kernel
theorem d_Ints_isAsSaid_74 : decode b_Ints_isAsSaid 74 = .ok (.iconst 0, 1) := by decide +kernel
theorem d_Ints_isAsSaid_75 : decode b_Ints_isAsSaid 75 = .ok (.ireturn, 1) := by decide +kernel
theorem d_Ints_isAsSaid_76 : decode b_Ints_isAsSaid 76 = .ok (.iload_n 1, 1) := by decide +kernel
theorem d_Ints_isAsSaid_77 : decode b_Ints_isAsSaid 77 = .ok (.ifCond .le 7, 3) := by decide +kernel
theorem d_Ints_isAsSaid_80 : decode b_Ints_isAsSaid 80 = .ok (.iconst 1, 1) := by decide +kernel
theorem d_Ints_isAsSaid_81 : decode b_Ints_isAsSaid 81 = .ok (.goto 4, 3) := by decide +kernel
theorem d_Ints_isAsSaid_84 : decode b_Ints_isAsSaid 84 = .ok (.iconst 0, 1) := by decide +kernel
theorem d_Ints_isAsSaid_85 : decode b_Ints_isAsSaid 85 = .ok (.ireturn, 1) := by decide +kernel
theorem d_Ints_isAsSaid_86 : decode b_Ints_isAsSaid 86 = .ok (.iload_n 1, 1) := by decide +kernel
theorem d_Ints_isAsSaid_87 : decode b_Ints_isAsSaid 87 = .ok (.ifCond .gt 7, 3) := by decide +kernel
theorem d_Ints_isAsSaid_90 : decode b_Ints_isAsSaid 90 = .ok (.iconst 1, 1) := by decide +kernel
theorem d_Ints_isAsSaid_91 : decode b_Ints_isAsSaid 91 = .ok (.goto 4, 3) := by decide +kernel
theorem d_Ints_isAsSaid_94 : decode b_Ints_isAsSaid 94 = .ok (.iconst 0, 1) := by decide +kernel
theorem d_Ints_isAsSaid_95 : decode b_Ints_isAsSaid 95 = .ok (.ireturn, 1) := by decide +kernel
abbrev b_Ints_divisor : ByteArray := prog_11_method_4_code
abbrev J_Ints_divisor : MethodName × ByteArray × Nat × Option FieldType := (⟨"FaslDesk$Ints", "divisor", "(I)I"⟩, b_Ints_divisor, 1, (some .int))
theorem d_Ints_divisor_0 : decode b_Ints_divisor 0 = .ok (.iload_n 0, 1) := by decide +kernel
theorem d_Ints_divisor_1 : decode b_Ints_divisor 1 = .ok (.ifCond .ne 13, 3) := by decide +kernel
theorem d_Ints_divisor_4 : decode b_Ints_divisor 4 = .ok (.new 13, 3) := by decide +kernel
theorem d_Ints_divisor_7 : decode b_Ints_divisor 7 = .ok (.dup, 1) := by decide +kernel
theorem d_Ints_divisor_8 : decode b_Ints_divisor 8 = .ok (.ldc 15, 2) := by decide +kernel
theorem d_Ints_divisor_10 : decode b_Ints_divisor 10 = .ok (.invokespecial 17, 3) := by decide +kernel
theorem d_Ints_divisor_13 : decode b_Ints_divisor 13 = .ok (.athrow, 1) := by decide +kernel
theorem d_Ints_divisor_14 : decode b_Ints_divisor 14 = .ok (.iload_n 0, 1) := by decide +kernel
theorem d_Ints_divisor_15 : decode b_Ints_divisor 15 = .ok (.ireturn, 1) := by decide +kernel
abbrev b_Opens_init : ByteArray := prog_12_method_1_code
abbrev J_Opens_init : MethodName × ByteArray × Nat × Option FieldType := (⟨"FaslDesk$OpenForms", "<init>", "()V"⟩, b_Opens_init, 1, none)
theorem d_Opens_init_0 : decode b_Opens_init 0 = .ok (.aload_n 0, 1) := by decide +kernel
theorem d_Opens_init_1 : decode b_Opens_init 1 = .ok (.invokespecial 3, 3) := by decide +kernel
theorem d_Opens_init_4 : decode b_Opens_init 4 = .ok (.aload_n 0, 1) := by decide +kernel
theorem d_Opens_init_5 : decode b_Opens_init 5 = .ok (.bipush 40, 2) := by decide +kernel
theorem d_Opens_init_7 : decode b_Opens_init 7 = .ok (.newarray .int, 2) := by decide +kernel
theorem d_Opens_init_9 : decode b_Opens_init 9 = .ok (.putfield 9, 3) := by decide +kernel
theorem d_Opens_init_12 : decode b_Opens_init 12 = .ok (.aload_n 0, 1) := by decide +kernel
theorem d_Opens_init_13 : decode b_Opens_init 13 = .ok (.bipush 40, 2) := by decide +kernel
theorem d_Opens_init_15 : decode b_Opens_init 15 = .ok (.newarray .int, 2) := by decide +kernel
theorem d_Opens_init_17 : decode b_Opens_init 17 = .ok (.putfield 15, 3) := by decide +kernel
theorem d_Opens_init_20 : decode b_Opens_init 20 = .ok (.return_, 1) := by decide +kernel
abbrev b_Opens_begin : ByteArray := prog_12_method_2_code
abbrev J_Opens_begin : MethodName × ByteArray × Nat × Option FieldType := (⟨"FaslDesk$OpenForms", "begin", "()V"⟩, b_Opens_begin, 1, none)
theorem d_Opens_begin_0 : decode b_Opens_begin 0 = .ok (.aload_n 0, 1) := by decide +kernel
theorem d_Opens_begin_1 : decode b_Opens_begin 1 = .ok (.iconst 0, 1) := by decide +kernel
theorem d_Opens_begin_2 : decode b_Opens_begin 2 = .ok (.putfield 18, 3) := by decide +kernel
theorem d_Opens_begin_5 : decode b_Opens_begin 5 = .ok (.aload_n 0, 1) := by decide +kernel
theorem d_Opens_begin_6 : decode b_Opens_begin 6 = .ok (.iconst 0, 1) := by decide +kernel
theorem d_Opens_begin_7 : decode b_Opens_begin 7 = .ok (.invokevirtual 22, 3) := by decide +kernel
theorem d_Opens_begin_10 : decode b_Opens_begin 10 = .ok (.return_, 1) := by decide +kernel
abbrev b_Opens_isEmpty : ByteArray := prog_12_method_3_code
abbrev J_Opens_isEmpty : MethodName × ByteArray × Nat × Option FieldType := (⟨"FaslDesk$OpenForms", "isEmpty", "()Z"⟩, b_Opens_isEmpty, 1, (some .boolean))
theorem d_Opens_isEmpty_0 : decode b_Opens_isEmpty 0 = .ok (.aload_n 0, 1) := by decide +kernel
theorem d_Opens_isEmpty_1 : decode b_Opens_isEmpty 1 = .ok (.getfield 18, 3) := by decide +kernel
theorem d_Opens_isEmpty_4 : decode b_Opens_isEmpty 4 = .ok (.ifCond .ne 7, 3) := by decide +kernel
theorem d_Opens_isEmpty_7 : decode b_Opens_isEmpty 7 = .ok (.iconst 1, 1) := by decide +kernel
theorem d_Opens_isEmpty_8 : decode b_Opens_isEmpty 8 = .ok (.goto 4, 3) := by decide +kernel
theorem d_Opens_isEmpty_11 : decode b_Opens_isEmpty 11 = .ok (.iconst 0, 1) := by decide +kernel
theorem d_Opens_isEmpty_12 : decode b_Opens_isEmpty 12 = .ok (.ireturn, 1) := by decide +kernel
abbrev b_Opens_place : ByteArray := prog_12_method_4_code
abbrev J_Opens_place : MethodName × ByteArray × Nat × Option FieldType := (⟨"FaslDesk$OpenForms", "place", "()I"⟩, b_Opens_place, 1, (some .int))
theorem d_Opens_place_0 : decode b_Opens_place 0 = .ok (.aload_n 0, 1) := by decide +kernel
theorem d_Opens_place_1 : decode b_Opens_place 1 = .ok (.invokevirtual 26, 3) := by decide +kernel
theorem d_Opens_place_4 : decode b_Opens_place 4 = .ok (.ifCond .eq 7, 3) := by decide +kernel
theorem d_Opens_place_7 : decode b_Opens_place 7 = .ok (.iconst 0, 1) := by decide +kernel
theorem d_Opens_place_8 : decode b_Opens_place 8 = .ok (.goto 14, 3) := by decide +kernel
theorem d_Opens_place_11 : decode b_Opens_place 11 = .ok (.aload_n 0, 1) := by decide +kernel
theorem d_Opens_place_12 : decode b_Opens_place 12 = .ok (.getfield 9, 3) := by decide +kernel
theorem d_Opens_place_15 : decode b_Opens_place 15 = .ok (.aload_n 0, 1) := by decide +kernel
theorem d_Opens_place_16 : decode b_Opens_place 16 = .ok (.getfield 18, 3) := by decide +kernel
theorem d_Opens_place_19 : decode b_Opens_place 19 = .ok (.iconst 1, 1) := by decide +kernel
theorem d_Opens_place_20 : decode b_Opens_place 20 = .ok (.isub, 1) := by decide +kernel
theorem d_Opens_place_21 : decode b_Opens_place 21 = .ok (.iaload, 1) := by decide +kernel
theorem d_Opens_place_22 : decode b_Opens_place 22 = .ok (.ireturn, 1) := by decide +kernel
abbrev b_Opens_partsDone : ByteArray := prog_12_method_5_code
abbrev J_Opens_partsDone : MethodName × ByteArray × Nat × Option FieldType := (⟨"FaslDesk$OpenForms", "partsDone", "()I"⟩, b_Opens_partsDone, 1, (some .int))
theorem d_Opens_partsDone_0 : decode b_Opens_partsDone 0 = .ok (.aload_n 0, 1) := by decide +kernel
theorem d_Opens_partsDone_1 : decode b_Opens_partsDone 1 = .ok (.invokevirtual 26, 3) := by decide +kernel
theorem d_Opens_partsDone_4 : decode b_Opens_partsDone 4 = .ok (.ifCond .eq 7, 3) := by decide +kernel
theorem d_Opens_partsDone_7 : decode b_Opens_partsDone 7 = .ok (.iconst 0, 1) := by decide +kernel
theorem d_Opens_partsDone_8 : decode b_Opens_partsDone 8 = .ok (.goto 14, 3) := by decide +kernel
theorem d_Opens_partsDone_11 : decode b_Opens_partsDone 11 = .ok (.aload_n 0, 1) := by decide +kernel
theorem d_Opens_partsDone_12 : decode b_Opens_partsDone 12 = .ok (.getfield 15, 3) := by decide +kernel
theorem d_Opens_partsDone_15 : decode b_Opens_partsDone 15 = .ok (.aload_n 0, 1) := by decide +kernel
theorem d_Opens_partsDone_16 : decode b_Opens_partsDone 16 = .ok (.getfield 18, 3) := by decide +kernel
theorem d_Opens_partsDone_19 : decode b_Opens_partsDone 19 = .ok (.iconst 1, 1) := by decide +kernel
theorem d_Opens_partsDone_20 : decode b_Opens_partsDone 20 = .ok (.isub, 1) := by decide +kernel
theorem d_Opens_partsDone_21 : decode b_Opens_partsDone 21 = .ok (.iaload, 1) := by decide +kernel
theorem d_Opens_partsDone_22 : decode b_Opens_partsDone 22 = .ok (.ireturn, 1) := by decide +kernel
abbrev b_Opens_enterPart : ByteArray := prog_12_method_6_code
abbrev J_Opens_enterPart : MethodName × ByteArray × Nat × Option FieldType := (⟨"FaslDesk$OpenForms", "enterPart", "(I)V"⟩, b_Opens_enterPart, 2, none)
theorem d_Opens_enterPart_0 : decode b_Opens_enterPart 0 = .ok (.aload_n 0, 1) := by decide +kernel
theorem d_Opens_enterPart_1 : decode b_Opens_enterPart 1 = .ok (.invokevirtual 26, 3) := by decide +kernel
theorem d_Opens_enterPart_4 : decode b_Opens_enterPart 4 = .ok (.ifCond .ne 18, 3) := by decide +kernel
theorem d_Opens_enterPart_7 : decode b_Opens_enterPart 7 = .ok (.aload_n 0, 1) := by decide +kernel
theorem d_Opens_enterPart_8 : decode b_Opens_enterPart 8 = .ok (.getfield 15, 3) := by decide +kernel
theorem d_Opens_enterPart_11 : decode b_Opens_enterPart 11 = .ok (.aload_n 0, 1) := by decide +kernel
theorem d_Opens_enterPart_12 : decode b_Opens_enterPart 12 = .ok (.getfield 18, 3) := by decide +kernel
theorem d_Opens_enterPart_15 : decode b_Opens_enterPart 15 = .ok (.iconst 1, 1) := by decide +kernel
theorem d_Opens_enterPart_16 : decode b_Opens_enterPart 16 = .ok (.isub, 1) := by decide +kernel
theorem d_Opens_enterPart_17 : decode b_Opens_enterPart 17 = .ok (.dup2, 1) := by decide +kernel
theorem d_Opens_enterPart_18 : decode b_Opens_enterPart 18 = .ok (.iaload, 1) := by decide +kernel
theorem d_Opens_enterPart_19 : decode b_Opens_enterPart 19 = .ok (.iconst 1, 1) := by decide +kernel
theorem d_Opens_enterPart_20 : decode b_Opens_enterPart 20 = .ok (.iadd, 1) := by decide +kernel
theorem d_Opens_enterPart_21 : decode b_Opens_enterPart 21 = .ok (.iastore, 1) := by decide +kernel
theorem d_Opens_enterPart_22 : decode b_Opens_enterPart 22 = .ok (.aload_n 0, 1) := by decide +kernel
theorem d_Opens_enterPart_23 : decode b_Opens_enterPart 23 = .ok (.iload_n 1, 1) := by decide +kernel
theorem d_Opens_enterPart_24 : decode b_Opens_enterPart 24 = .ok (.invokevirtual 22, 3) := by decide +kernel
theorem d_Opens_enterPart_27 : decode b_Opens_enterPart 27 = .ok (.return_, 1) := by decide +kernel
abbrev b_Opens_leave : ByteArray := prog_12_method_7_code
abbrev J_Opens_leave : MethodName × ByteArray × Nat × Option FieldType := (⟨"FaslDesk$OpenForms", "leave", "()V"⟩, b_Opens_leave, 1, none)
theorem d_Opens_leave_0 : decode b_Opens_leave 0 = .ok (.aload_n 0, 1) := by decide +kernel
theorem d_Opens_leave_1 : decode b_Opens_leave 1 = .ok (.invokevirtual 26, 3) := by decide +kernel
theorem d_Opens_leave_4 : decode b_Opens_leave 4 = .ok (.ifCond .ne 13, 3) := by decide +kernel
theorem d_Opens_leave_7 : decode b_Opens_leave 7 = .ok (.aload_n 0, 1) := by decide +kernel
theorem d_Opens_leave_8 : decode b_Opens_leave 8 = .ok (.dup, 1) := by decide +kernel
theorem d_Opens_leave_9 : decode b_Opens_leave 9 = .ok (.getfield 18, 3) := by decide +kernel
theorem d_Opens_leave_12 : decode b_Opens_leave 12 = .ok (.iconst 1, 1) := by decide +kernel
theorem d_Opens_leave_13 : decode b_Opens_leave 13 = .ok (.isub, 1) := by decide +kernel
theorem d_Opens_leave_14 : decode b_Opens_leave 14 = .ok (.putfield 18, 3) := by decide +kernel
theorem d_Opens_leave_17 : decode b_Opens_leave 17 = .ok (.return_, 1) := by decide +kernel
abbrev b_Opens_goOnAs : ByteArray := prog_12_method_8_code
abbrev J_Opens_goOnAs : MethodName × ByteArray × Nat × Option FieldType := (⟨"FaslDesk$OpenForms", "goOnAs", "(I)V"⟩, b_Opens_goOnAs, 2, none)
theorem d_Opens_goOnAs_0 : decode b_Opens_goOnAs 0 = .ok (.aload_n 0, 1) := by decide +kernel
theorem d_Opens_goOnAs_1 : decode b_Opens_goOnAs 1 = .ok (.invokevirtual 30, 3) := by decide +kernel
theorem d_Opens_goOnAs_4 : decode b_Opens_goOnAs 4 = .ok (.aload_n 0, 1) := by decide +kernel
theorem d_Opens_goOnAs_5 : decode b_Opens_goOnAs 5 = .ok (.iload_n 1, 1) := by decide +kernel
theorem d_Opens_goOnAs_6 : decode b_Opens_goOnAs 6 = .ok (.invokevirtual 22, 3) := by decide +kernel
theorem d_Opens_goOnAs_9 : decode b_Opens_goOnAs 9 = .ok (.return_, 1) := by decide +kernel
abbrev b_Opens_enter : ByteArray := prog_12_method_9_code
abbrev J_Opens_enter : MethodName × ByteArray × Nat × Option FieldType := (⟨"FaslDesk$OpenForms", "enter", "(I)V"⟩, b_Opens_enter, 2, none)
theorem d_Opens_enter_0 : decode b_Opens_enter 0 = .ok (.aload_n 0, 1) := by decide +kernel
theorem d_Opens_enter_1 : decode b_Opens_enter 1 = .ok (.getfield 18, 3) := by decide +kernel
theorem d_Opens_enter_4 : decode b_Opens_enter 4 = .ok (.bipush 40, 2) := by decide +kernel
theorem d_Opens_enter_6 : decode b_Opens_enter 6 = .ok (.if_icmp .ge 33, 3) := by decide +kernel
theorem d_Opens_enter_9 : decode b_Opens_enter 9 = .ok (.aload_n 0, 1) := by decide +kernel
theorem d_Opens_enter_10 : decode b_Opens_enter 10 = .ok (.getfield 9, 3) := by decide +kernel
theorem d_Opens_enter_13 : decode b_Opens_enter 13 = .ok (.aload_n 0, 1) := by decide +kernel
theorem d_Opens_enter_14 : decode b_Opens_enter 14 = .ok (.getfield 18, 3) := by decide +kernel
theorem d_Opens_enter_17 : decode b_Opens_enter 17 = .ok (.iload_n 1, 1) := by decide +kernel
theorem d_Opens_enter_18 : decode b_Opens_enter 18 = .ok (.iastore, 1) := by decide +kernel
theorem d_Opens_enter_19 : decode b_Opens_enter 19 = .ok (.aload_n 0, 1) := by decide +kernel
theorem d_Opens_enter_20 : decode b_Opens_enter 20 = .ok (.getfield 15, 3) := by decide +kernel
theorem d_Opens_enter_23 : decode b_Opens_enter 23 = .ok (.aload_n 0, 1) := by decide +kernel
theorem d_Opens_enter_24 : decode b_Opens_enter 24 = .ok (.getfield 18, 3) := by decide +kernel
theorem d_Opens_enter_27 : decode b_Opens_enter 27 = .ok (.iconst 0, 1) := by decide +kernel
theorem d_Opens_enter_28 : decode b_Opens_enter 28 = .ok (.iastore, 1) := by decide +kernel
theorem d_Opens_enter_29 : decode b_Opens_enter 29 = .ok (.aload_n 0, 1) := by decide +kernel
theorem d_Opens_enter_30 : decode b_Opens_enter 30 = .ok (.dup, 1) := by decide +kernel
theorem d_Opens_enter_31 : decode b_Opens_enter 31 = .ok (.getfield 18, 3) := by decide +kernel
theorem d_Opens_enter_34 : decode b_Opens_enter 34 = .ok (.iconst 1, 1) := by decide +kernel
theorem d_Opens_enter_35 : decode b_Opens_enter 35 = .ok (.iadd, 1) := by decide +kernel
theorem d_Opens_enter_36 : decode b_Opens_enter 36 = .ok (.putfield 18, 3) := by decide +kernel
theorem d_Opens_enter_39 : decode b_Opens_enter 39 = .ok (.return_, 1) := by decide +kernel
abbrev b_Law_interpret : ByteArray := method_3_code
abbrev J_Law_interpret : MethodName × ByteArray × Nat × Option FieldType := (⟨"FaslDeskLaw", "interpret", "(LFaslDesk;IIII[J)I"⟩, b_Law_interpret, 7, (some .int))
theorem d_Law_interpret_0 : decode b_Law_interpret 0 = .ok (.aload 5, 2) := by decide +kernel
theorem d_Law_interpret_2 : decode b_Law_interpret 2 = .ok (.iconst 0, 1) := by decide +kernel
theorem d_Law_interpret_3 : decode b_Law_interpret 3 = .ok (.aload_n 0, 1) := by decide +kernel
theorem d_Law_interpret_4 : decode b_Law_interpret 4 = .ok (.iload_n 1, 1) := by decide +kernel
theorem d_Law_interpret_5 : decode b_Law_interpret 5 = .ok (.iload_n 2, 1) := by decide +kernel
theorem d_Law_interpret_6 : decode b_Law_interpret 6 = .ok (.iload_n 3, 1) := by decide +kernel
theorem d_Law_interpret_7 : decode b_Law_interpret 7 = .ok (.iload 4, 2) := by decide +kernel
theorem d_Law_interpret_9 : decode b_Law_interpret 9 = .ok (.invokevirtual 7, 3) := by decide +kernel
theorem d_Law_interpret_12 : decode b_Law_interpret 12 = .ok (.i2l, 1) := by decide +kernel
theorem d_Law_interpret_13 : decode b_Law_interpret 13 = .ok (.lastore, 1) := by decide +kernel
theorem d_Law_interpret_14 : decode b_Law_interpret 14 = .ok (.goto 11, 3) := by decide +kernel
theorem d_Law_interpret_17 : decode b_Law_interpret 17 = .ok (.astore 6, 2) := by decide +kernel
theorem d_Law_interpret_19 : decode b_Law_interpret 19 = .ok (.iconst 1, 1) := by decide +kernel
theorem d_Law_interpret_20 : decode b_Law_interpret 20 = .ok (.ireturn, 1) := by decide +kernel
theorem d_Law_interpret_21 : decode b_Law_interpret 21 = .ok (.astore 6, 2) := by decide +kernel
theorem d_Law_interpret_23 : decode b_Law_interpret 23 = .ok (.iconst 2, 1) := by decide +kernel
theorem d_Law_interpret_24 : decode b_Law_interpret 24 = .ok (.ireturn, 1) := by decide +kernel
theorem d_Law_interpret_25 : decode b_Law_interpret 25 = .ok (.iconst 0, 1) := by decide +kernel
theorem d_Law_interpret_26 : decode b_Law_interpret 26 = .ok (.ireturn, 1) := by decide +kernel
abbrev b_Law_run : ByteArray := method_4_code
abbrev J_Law_run : MethodName × ByteArray × Nat × Option FieldType := (⟨"FaslDeskLaw", "run", "(LFaslDesk;IIII[J)I"⟩, b_Law_run, 7, (some .int))
theorem d_Law_run_0 : decode b_Law_run 0 = .ok (.aload 5, 2) := by decide +kernel
theorem d_Law_run_2 : decode b_Law_run 2 = .ok (.iconst 0, 1) := by decide +kernel
theorem d_Law_run_3 : decode b_Law_run 3 = .ok (.aload_n 0, 1) := by decide +kernel
theorem d_Law_run_4 : decode b_Law_run 4 = .ok (.iload_n 1, 1) := by decide +kernel
theorem d_Law_run_5 : decode b_Law_run 5 = .ok (.iload_n 2, 1) := by decide +kernel
theorem d_Law_run_6 : decode b_Law_run 6 = .ok (.iload_n 3, 1) := by decide +kernel
theorem d_Law_run_7 : decode b_Law_run 7 = .ok (.iload 4, 2) := by decide +kernel
theorem d_Law_run_9 : decode b_Law_run 9 = .ok (.invokevirtual 17, 3) := by decide +kernel
theorem d_Law_run_12 : decode b_Law_run 12 = .ok (.i2l, 1) := by decide +kernel
theorem d_Law_run_13 : decode b_Law_run 13 = .ok (.lastore, 1) := by decide +kernel
theorem d_Law_run_14 : decode b_Law_run 14 = .ok (.goto 15, 3) := by decide +kernel
theorem d_Law_run_17 : decode b_Law_run 17 = .ok (.astore 6, 2) := by decide +kernel
theorem d_Law_run_19 : decode b_Law_run 19 = .ok (.iconst 1, 1) := by decide +kernel
theorem d_Law_run_20 : decode b_Law_run 20 = .ok (.ireturn, 1) := by decide +kernel
theorem d_Law_run_21 : decode b_Law_run 21 = .ok (.astore 6, 2) := by decide +kernel
theorem d_Law_run_23 : decode b_Law_run 23 = .ok (.iconst 2, 1) := by decide +kernel
theorem d_Law_run_24 : decode b_Law_run 24 = .ok (.ireturn, 1) := by decide +kernel
theorem d_Law_run_25 : decode b_Law_run 25 = .ok (.astore 6, 2) := by decide +kernel
theorem d_Law_run_27 : decode b_Law_run 27 = .ok (.iconst 3, 1) := by decide +kernel
theorem d_Law_run_28 : decode b_Law_run 28 = .ok (.ireturn, 1) := by decide +kernel
theorem d_Law_run_29 : decode b_Law_run 29 = .ok (.iconst 0, 1) := by decide +kernel
theorem d_Law_run_30 : decode b_Law_run 30 = .ok (.ireturn, 1) := by decide +kernel
abbrev b_Law_law : ByteArray := code
abbrev J_Law_law : MethodName × ByteArray × Nat × Option FieldType := (⟨"FaslDeskLaw", "law", "([I)Z"⟩, b_Law_law, 7, (some .boolean))
theorem d_Law_law_0 : decode b_Law_law 0 = .ok (.new 8, 3) := by decide +kernel
theorem d_Law_law_3 : decode b_Law_law 3 = .ok (.dup, 1) := by decide +kernel
theorem d_Law_law_4 : decode b_Law_law 4 = .ok (.invokespecial 22, 3) := by decide +kernel
theorem d_Law_law_7 : decode b_Law_law 7 = .ok (.astore_n 1, 1) := by decide +kernel
theorem d_Law_law_8 : decode b_Law_law 8 = .ok (.new 23, 3) := by decide +kernel
theorem d_Law_law_11 : decode b_Law_law 11 = .ok (.dup, 1) := by decide +kernel
theorem d_Law_law_12 : decode b_Law_law 12 = .ok (.invokespecial 25, 3) := by decide +kernel
theorem d_Law_law_15 : decode b_Law_law 15 = .ok (.astore_n 2, 1) := by decide +kernel
theorem d_Law_law_16 : decode b_Law_law 16 = .ok (.iconst 1, 1) := by decide +kernel
theorem d_Law_law_17 : decode b_Law_law 17 = .ok (.newarray .long, 2) := by decide +kernel
theorem d_Law_law_19 : decode b_Law_law 19 = .ok (.astore_n 3, 1) := by decide +kernel
theorem d_Law_law_20 : decode b_Law_law 20 = .ok (.iconst 0, 1) := by decide +kernel
theorem d_Law_law_21 : decode b_Law_law 21 = .ok (.istore 4, 2) := by decide +kernel
theorem d_Law_law_23 : decode b_Law_law 23 = .ok (.iload 4, 2) := by decide +kernel
theorem d_Law_law_25 : decode b_Law_law 25 = .ok (.aload_n 0, 1) := by decide +kernel
theorem d_Law_law_26 : decode b_Law_law 26 = .ok (.arraylength, 1) := by decide +kernel
theorem d_Law_law_27 : decode b_Law_law 27 = .ok (.iconst 5, 1) := by decide +kernel
theorem d_Law_law_28 : decode b_Law_law 28 = .ok (.isub, 1) := by decide +kernel
theorem d_Law_law_29 : decode b_Law_law 29 = .ok (.if_icmp .gt 624, 3) := by decide +kernel
theorem d_Law_law_32 : decode b_Law_law 32 = .ok (.aload_n 0, 1) := by decide +kernel
theorem d_Law_law_33 : decode b_Law_law 33 = .ok (.iload 4, 2) := by decide +kernel
theorem d_Law_law_35 : decode b_Law_law 35 = .ok (.iaload, 1) := by decide +kernel
theorem d_Law_law_36 : decode b_Law_law 36 = .ok (.bipush 15, 2) := by decide +kernel
theorem d_Law_law_38 : decode b_Law_law 38 = .ok (.iand, 1) := by decide +kernel
theorem d_Law_law_39 : decode b_Law_law 39 = .ok (.tableswitch 608 0 12 #[65, 102, 139, 152, 244, 269, 318, 367, 392, 405, 497, 534, 583], 65) := by decide +kernel
theorem d_Law_law_104 : decode b_Law_law 104 = .ok (.aload_n 1, 1) := by decide +kernel
theorem d_Law_law_105 : decode b_Law_law 105 = .ok (.aload_n 0, 1) := by decide +kernel
theorem d_Law_law_106 : decode b_Law_law 106 = .ok (.iload 4, 2) := by decide +kernel
theorem d_Law_law_108 : decode b_Law_law 108 = .ok (.iconst 1, 1) := by decide +kernel
theorem d_Law_law_109 : decode b_Law_law 109 = .ok (.iadd, 1) := by decide +kernel
theorem d_Law_law_110 : decode b_Law_law 110 = .ok (.iaload, 1) := by decide +kernel
theorem d_Law_law_111 : decode b_Law_law 111 = .ok (.aload_n 0, 1) := by decide +kernel
theorem d_Law_law_112 : decode b_Law_law 112 = .ok (.iload 4, 2) := by decide +kernel
theorem d_Law_law_114 : decode b_Law_law 114 = .ok (.iconst 2, 1) := by decide +kernel
theorem d_Law_law_115 : decode b_Law_law 115 = .ok (.iadd, 1) := by decide +kernel
theorem d_Law_law_116 : decode b_Law_law 116 = .ok (.iaload, 1) := by decide +kernel
theorem d_Law_law_117 : decode b_Law_law 117 = .ok (.invokevirtual 26, 3) := by decide +kernel
theorem d_Law_law_120 : decode b_Law_law 120 = .ok (.aload_n 2, 1) := by decide +kernel
theorem d_Law_law_121 : decode b_Law_law 121 = .ok (.aload_n 0, 1) := by decide +kernel
theorem d_Law_law_122 : decode b_Law_law 122 = .ok (.iload 4, 2) := by decide +kernel
theorem d_Law_law_124 : decode b_Law_law 124 = .ok (.iconst 1, 1) := by decide +kernel
theorem d_Law_law_125 : decode b_Law_law 125 = .ok (.iadd, 1) := by decide +kernel
theorem d_Law_law_126 : decode b_Law_law 126 = .ok (.iaload, 1) := by decide +kernel
theorem d_Law_law_127 : decode b_Law_law 127 = .ok (.aload_n 0, 1) := by decide +kernel
theorem d_Law_law_128 : decode b_Law_law 128 = .ok (.iload 4, 2) := by decide +kernel
theorem d_Law_law_130 : decode b_Law_law 130 = .ok (.iconst 2, 1) := by decide +kernel
theorem d_Law_law_131 : decode b_Law_law 131 = .ok (.iadd, 1) := by decide +kernel
theorem d_Law_law_132 : decode b_Law_law 132 = .ok (.iaload, 1) := by decide +kernel
theorem d_Law_law_133 : decode b_Law_law 133 = .ok (.invokevirtual 30, 3) := by decide +kernel
theorem d_Law_law_136 : decode b_Law_law 136 = .ok (.if_icmp .eq 511, 3) := by decide +kernel
theorem d_Law_law_139 : decode b_Law_law 139 = .ok (.iconst 0, 1) := by decide +kernel
theorem d_Law_law_140 : decode b_Law_law 140 = .ok (.ireturn, 1) := by decide +kernel
theorem d_Law_law_141 : decode b_Law_law 141 = .ok (.aload_n 1, 1) := by decide +kernel
theorem d_Law_law_142 : decode b_Law_law 142 = .ok (.aload_n 0, 1) := by decide +kernel
theorem d_Law_law_143 : decode b_Law_law 143 = .ok (.iload 4, 2) := by decide +kernel
theorem d_Law_law_145 : decode b_Law_law 145 = .ok (.iconst 1, 1) := by decide +kernel
theorem d_Law_law_146 : decode b_Law_law 146 = .ok (.iadd, 1) := by decide +kernel
theorem d_Law_law_147 : decode b_Law_law 147 = .ok (.iaload, 1) := by decide +kernel
theorem d_Law_law_148 : decode b_Law_law 148 = .ok (.aload_n 0, 1) := by decide +kernel
theorem d_Law_law_149 : decode b_Law_law 149 = .ok (.iload 4, 2) := by decide +kernel
theorem d_Law_law_151 : decode b_Law_law 151 = .ok (.iconst 2, 1) := by decide +kernel
theorem d_Law_law_152 : decode b_Law_law 152 = .ok (.iadd, 1) := by decide +kernel
theorem d_Law_law_153 : decode b_Law_law 153 = .ok (.iaload, 1) := by decide +kernel
theorem d_Law_law_154 : decode b_Law_law 154 = .ok (.invokevirtual 31, 3) := by decide +kernel
theorem d_Law_law_157 : decode b_Law_law 157 = .ok (.aload_n 2, 1) := by decide +kernel
theorem d_Law_law_158 : decode b_Law_law 158 = .ok (.aload_n 0, 1) := by decide +kernel
theorem d_Law_law_159 : decode b_Law_law 159 = .ok (.iload 4, 2) := by decide +kernel
theorem d_Law_law_161 : decode b_Law_law 161 = .ok (.iconst 1, 1) := by decide +kernel
theorem d_Law_law_162 : decode b_Law_law 162 = .ok (.iadd, 1) := by decide +kernel
theorem d_Law_law_163 : decode b_Law_law 163 = .ok (.iaload, 1) := by decide +kernel
theorem d_Law_law_164 : decode b_Law_law 164 = .ok (.aload_n 0, 1) := by decide +kernel
theorem d_Law_law_165 : decode b_Law_law 165 = .ok (.iload 4, 2) := by decide +kernel
theorem d_Law_law_167 : decode b_Law_law 167 = .ok (.iconst 2, 1) := by decide +kernel
theorem d_Law_law_168 : decode b_Law_law 168 = .ok (.iadd, 1) := by decide +kernel
theorem d_Law_law_169 : decode b_Law_law 169 = .ok (.iaload, 1) := by decide +kernel
theorem d_Law_law_170 : decode b_Law_law 170 = .ok (.invokevirtual 34, 3) := by decide +kernel
theorem d_Law_law_173 : decode b_Law_law 173 = .ok (.if_icmp .eq 474, 3) := by decide +kernel
theorem d_Law_law_176 : decode b_Law_law 176 = .ok (.iconst 0, 1) := by decide +kernel
theorem d_Law_law_177 : decode b_Law_law 177 = .ok (.ireturn, 1) := by decide +kernel
theorem d_Law_law_178 : decode b_Law_law 178 = .ok (.aload_n 1, 1) := by decide +kernel
theorem d_Law_law_179 : decode b_Law_law 179 = .ok (.invokevirtual 35, 3) := by decide +kernel
theorem d_Law_law_182 : decode b_Law_law 182 = .ok (.aload_n 2, 1) := by decide +kernel
theorem d_Law_law_183 : decode b_Law_law 183 = .ok (.invokevirtual 39, 3) := by decide +kernel
theorem d_Law_law_186 : decode b_Law_law 186 = .ok (.if_icmp .eq 461, 3) := by decide +kernel
theorem d_Law_law_189 : decode b_Law_law 189 = .ok (.iconst 0, 1) := by decide +kernel
theorem d_Law_law_190 : decode b_Law_law 190 = .ok (.ireturn, 1) := by decide +kernel
theorem d_Law_law_191 : decode b_Law_law 191 = .ok (.aload_n 1, 1) := by decide +kernel
theorem d_Law_law_192 : decode b_Law_law 192 = .ok (.aload_n 0, 1) := by decide +kernel
theorem d_Law_law_193 : decode b_Law_law 193 = .ok (.iload 4, 2) := by decide +kernel
theorem d_Law_law_195 : decode b_Law_law 195 = .ok (.iconst 1, 1) := by decide +kernel
theorem d_Law_law_196 : decode b_Law_law 196 = .ok (.iadd, 1) := by decide +kernel
theorem d_Law_law_197 : decode b_Law_law 197 = .ok (.iaload, 1) := by decide +kernel
theorem d_Law_law_198 : decode b_Law_law 198 = .ok (.aload_n 0, 1) := by decide +kernel
theorem d_Law_law_199 : decode b_Law_law 199 = .ok (.iload 4, 2) := by decide +kernel
theorem d_Law_law_201 : decode b_Law_law 201 = .ok (.iconst 2, 1) := by decide +kernel
theorem d_Law_law_202 : decode b_Law_law 202 = .ok (.iadd, 1) := by decide +kernel
theorem d_Law_law_203 : decode b_Law_law 203 = .ok (.iaload, 1) := by decide +kernel
theorem d_Law_law_204 : decode b_Law_law 204 = .ok (.aload_n 0, 1) := by decide +kernel
theorem d_Law_law_205 : decode b_Law_law 205 = .ok (.iload 4, 2) := by decide +kernel
theorem d_Law_law_207 : decode b_Law_law 207 = .ok (.iconst 3, 1) := by decide +kernel
theorem d_Law_law_208 : decode b_Law_law 208 = .ok (.iadd, 1) := by decide +kernel
theorem d_Law_law_209 : decode b_Law_law 209 = .ok (.iaload, 1) := by decide +kernel
theorem d_Law_law_210 : decode b_Law_law 210 = .ok (.aload_n 0, 1) := by decide +kernel
theorem d_Law_law_211 : decode b_Law_law 211 = .ok (.iload 4, 2) := by decide +kernel
theorem d_Law_law_213 : decode b_Law_law 213 = .ok (.iconst 4, 1) := by decide +kernel
theorem d_Law_law_214 : decode b_Law_law 214 = .ok (.iadd, 1) := by decide +kernel
theorem d_Law_law_215 : decode b_Law_law 215 = .ok (.iaload, 1) := by decide +kernel
theorem d_Law_law_216 : decode b_Law_law 216 = .ok (.aload_n 3, 1) := by decide +kernel
theorem d_Law_law_217 : decode b_Law_law 217 = .ok (.invokestatic 40, 3) := by decide +kernel
theorem d_Law_law_220 : decode b_Law_law 220 = .ok (.istore 5, 2) := by decide +kernel
theorem d_Law_law_222 : decode b_Law_law 222 = .ok (.aload_n 2, 1) := by decide +kernel
theorem d_Law_law_223 : decode b_Law_law 223 = .ok (.aload_n 0, 1) := by decide +kernel
theorem d_Law_law_224 : decode b_Law_law 224 = .ok (.iload 4, 2) := by decide +kernel
theorem d_Law_law_226 : decode b_Law_law 226 = .ok (.iconst 1, 1) := by decide +kernel
theorem d_Law_law_227 : decode b_Law_law 227 = .ok (.iadd, 1) := by decide +kernel
theorem d_Law_law_228 : decode b_Law_law 228 = .ok (.iaload, 1) := by decide +kernel
theorem d_Law_law_229 : decode b_Law_law 229 = .ok (.aload_n 0, 1) := by decide +kernel
theorem d_Law_law_230 : decode b_Law_law 230 = .ok (.iload 4, 2) := by decide +kernel
theorem d_Law_law_232 : decode b_Law_law 232 = .ok (.iconst 2, 1) := by decide +kernel
theorem d_Law_law_233 : decode b_Law_law 233 = .ok (.iadd, 1) := by decide +kernel
theorem d_Law_law_234 : decode b_Law_law 234 = .ok (.iaload, 1) := by decide +kernel
theorem d_Law_law_235 : decode b_Law_law 235 = .ok (.aload_n 0, 1) := by decide +kernel
theorem d_Law_law_236 : decode b_Law_law 236 = .ok (.iload 4, 2) := by decide +kernel
theorem d_Law_law_238 : decode b_Law_law 238 = .ok (.iconst 3, 1) := by decide +kernel
theorem d_Law_law_239 : decode b_Law_law 239 = .ok (.iadd, 1) := by decide +kernel
theorem d_Law_law_240 : decode b_Law_law 240 = .ok (.iaload, 1) := by decide +kernel
theorem d_Law_law_241 : decode b_Law_law 241 = .ok (.aload_n 0, 1) := by decide +kernel
theorem d_Law_law_242 : decode b_Law_law 242 = .ok (.iload 4, 2) := by decide +kernel
theorem d_Law_law_244 : decode b_Law_law 244 = .ok (.iconst 4, 1) := by decide +kernel
theorem d_Law_law_245 : decode b_Law_law 245 = .ok (.iadd, 1) := by decide +kernel
theorem d_Law_law_246 : decode b_Law_law 246 = .ok (.iaload, 1) := by decide +kernel
theorem d_Law_law_247 : decode b_Law_law 247 = .ok (.invokevirtual 45, 3) := by decide +kernel
theorem d_Law_law_250 : decode b_Law_law 250 = .ok (.istore 6, 2) := by decide +kernel
theorem d_Law_law_252 : decode b_Law_law 252 = .ok (.aload_n 2, 1) := by decide +kernel
theorem d_Law_law_253 : decode b_Law_law 253 = .ok (.invokevirtual 46, 3) := by decide +kernel
theorem d_Law_law_256 : decode b_Law_law 256 = .ok (.iload 5, 2) := by decide +kernel
theorem d_Law_law_258 : decode b_Law_law 258 = .ok (.if_icmp .eq 5, 3) := by decide +kernel
theorem d_Law_law_261 : decode b_Law_law 261 = .ok (.iconst 0, 1) := by decide +kernel
theorem d_Law_law_262 : decode b_Law_law 262 = .ok (.ireturn, 1) := by decide +kernel
theorem d_Law_law_263 : decode b_Law_law 263 = .ok (.iload 5, 2) := by decide +kernel
theorem d_Law_law_265 : decode b_Law_law 265 = .ok (.ifCond .ne 15, 3) := by decide +kernel
theorem d_Law_law_268 : decode b_Law_law 268 = .ok (.aload_n 3, 1) := by decide +kernel
theorem d_Law_law_269 : decode b_Law_law 269 = .ok (.iconst 0, 1) := by decide +kernel
theorem d_Law_law_270 : decode b_Law_law 270 = .ok (.laload, 1) := by decide +kernel
theorem d_Law_law_271 : decode b_Law_law 271 = .ok (.iload 6, 2) := by decide +kernel
theorem d_Law_law_273 : decode b_Law_law 273 = .ok (.i2l, 1) := by decide +kernel
theorem d_Law_law_274 : decode b_Law_law 274 = .ok (.lcmp, 1) := by decide +kernel
theorem d_Law_law_275 : decode b_Law_law 275 = .ok (.ifCond .eq 5, 3) := by decide +kernel
theorem d_Law_law_278 : decode b_Law_law 278 = .ok (.iconst 0, 1) := by decide +kernel
theorem d_Law_law_279 : decode b_Law_law 279 = .ok (.ireturn, 1) := by decide +kernel
theorem d_Law_law_280 : decode b_Law_law 280 = .ok (.goto 367, 3) := by decide +kernel
theorem d_Law_law_283 : decode b_Law_law 283 = .ok (.aload_n 1, 1) := by decide +kernel
theorem d_Law_law_284 : decode b_Law_law 284 = .ok (.aload_n 0, 1) := by decide +kernel
theorem d_Law_law_285 : decode b_Law_law 285 = .ok (.iload 4, 2) := by decide +kernel
theorem d_Law_law_287 : decode b_Law_law 287 = .ok (.iconst 1, 1) := by decide +kernel
theorem d_Law_law_288 : decode b_Law_law 288 = .ok (.iadd, 1) := by decide +kernel
theorem d_Law_law_289 : decode b_Law_law 289 = .ok (.iaload, 1) := by decide +kernel
theorem d_Law_law_290 : decode b_Law_law 290 = .ok (.invokevirtual 49, 3) := by decide +kernel
theorem d_Law_law_293 : decode b_Law_law 293 = .ok (.aload_n 2, 1) := by decide +kernel
theorem d_Law_law_294 : decode b_Law_law 294 = .ok (.aload_n 0, 1) := by decide +kernel
theorem d_Law_law_295 : decode b_Law_law 295 = .ok (.iload 4, 2) := by decide +kernel
theorem d_Law_law_297 : decode b_Law_law 297 = .ok (.iconst 1, 1) := by decide +kernel
theorem d_Law_law_298 : decode b_Law_law 298 = .ok (.iadd, 1) := by decide +kernel
theorem d_Law_law_299 : decode b_Law_law 299 = .ok (.iaload, 1) := by decide +kernel
theorem d_Law_law_300 : decode b_Law_law 300 = .ok (.invokevirtual 53, 3) := by decide +kernel
theorem d_Law_law_303 : decode b_Law_law 303 = .ok (.if_icmp .eq 344, 3) := by decide +kernel
theorem d_Law_law_306 : decode b_Law_law 306 = .ok (.iconst 0, 1) := by decide +kernel
theorem d_Law_law_307 : decode b_Law_law 307 = .ok (.ireturn, 1) := by decide +kernel
theorem d_Law_law_308 : decode b_Law_law 308 = .ok (.aload_n 1, 1) := by decide +kernel
theorem d_Law_law_309 : decode b_Law_law 309 = .ok (.aload_n 0, 1) := by decide +kernel
theorem d_Law_law_310 : decode b_Law_law 310 = .ok (.iload 4, 2) := by decide +kernel
theorem d_Law_law_312 : decode b_Law_law 312 = .ok (.iconst 1, 1) := by decide +kernel
theorem d_Law_law_313 : decode b_Law_law 313 = .ok (.iadd, 1) := by decide +kernel
theorem d_Law_law_314 : decode b_Law_law 314 = .ok (.iaload, 1) := by decide +kernel
theorem d_Law_law_315 : decode b_Law_law 315 = .ok (.aload_n 0, 1) := by decide +kernel
theorem d_Law_law_316 : decode b_Law_law 316 = .ok (.iload 4, 2) := by decide +kernel
theorem d_Law_law_318 : decode b_Law_law 318 = .ok (.iconst 2, 1) := by decide +kernel
theorem d_Law_law_319 : decode b_Law_law 319 = .ok (.iadd, 1) := by decide +kernel
theorem d_Law_law_320 : decode b_Law_law 320 = .ok (.iaload, 1) := by decide +kernel
theorem d_Law_law_321 : decode b_Law_law 321 = .ok (.aload_n 0, 1) := by decide +kernel
theorem d_Law_law_322 : decode b_Law_law 322 = .ok (.iload 4, 2) := by decide +kernel
theorem d_Law_law_324 : decode b_Law_law 324 = .ok (.iconst 3, 1) := by decide +kernel
theorem d_Law_law_325 : decode b_Law_law 325 = .ok (.iadd, 1) := by decide +kernel
theorem d_Law_law_326 : decode b_Law_law 326 = .ok (.iaload, 1) := by decide +kernel
theorem d_Law_law_327 : decode b_Law_law 327 = .ok (.invokevirtual 54, 3) := by decide +kernel
theorem d_Law_law_330 : decode b_Law_law 330 = .ok (.aload_n 2, 1) := by decide +kernel
theorem d_Law_law_331 : decode b_Law_law 331 = .ok (.aload_n 0, 1) := by decide +kernel
theorem d_Law_law_332 : decode b_Law_law 332 = .ok (.iload 4, 2) := by decide +kernel
theorem d_Law_law_334 : decode b_Law_law 334 = .ok (.iconst 1, 1) := by decide +kernel
theorem d_Law_law_335 : decode b_Law_law 335 = .ok (.iadd, 1) := by decide +kernel
theorem d_Law_law_336 : decode b_Law_law 336 = .ok (.iaload, 1) := by decide +kernel
theorem d_Law_law_337 : decode b_Law_law 337 = .ok (.aload_n 0, 1) := by decide +kernel
theorem d_Law_law_338 : decode b_Law_law 338 = .ok (.iload 4, 2) := by decide +kernel
theorem d_Law_law_340 : decode b_Law_law 340 = .ok (.iconst 2, 1) := by decide +kernel
theorem d_Law_law_341 : decode b_Law_law 341 = .ok (.iadd, 1) := by decide +kernel
theorem d_Law_law_342 : decode b_Law_law 342 = .ok (.iaload, 1) := by decide +kernel
theorem d_Law_law_343 : decode b_Law_law 343 = .ok (.aload_n 0, 1) := by decide +kernel
theorem d_Law_law_344 : decode b_Law_law 344 = .ok (.iload 4, 2) := by decide +kernel
theorem d_Law_law_346 : decode b_Law_law 346 = .ok (.iconst 3, 1) := by decide +kernel
theorem d_Law_law_347 : decode b_Law_law 347 = .ok (.iadd, 1) := by decide +kernel
theorem d_Law_law_348 : decode b_Law_law 348 = .ok (.iaload, 1) := by decide +kernel
theorem d_Law_law_349 : decode b_Law_law 349 = .ok (.invokevirtual 58, 3) := by decide +kernel
theorem d_Law_law_352 : decode b_Law_law 352 = .ok (.if_icmp .eq 295, 3) := by decide +kernel
theorem d_Law_law_355 : decode b_Law_law 355 = .ok (.iconst 0, 1) := by decide +kernel
theorem d_Law_law_356 : decode b_Law_law 356 = .ok (.ireturn, 1) := by decide +kernel
theorem d_Law_law_357 : decode b_Law_law 357 = .ok (.aload_n 1, 1) := by decide +kernel
theorem d_Law_law_358 : decode b_Law_law 358 = .ok (.aload_n 0, 1) := by decide +kernel
theorem d_Law_law_359 : decode b_Law_law 359 = .ok (.iload 4, 2) := by decide +kernel
theorem d_Law_law_361 : decode b_Law_law 361 = .ok (.iconst 1, 1) := by decide +kernel
theorem d_Law_law_362 : decode b_Law_law 362 = .ok (.iadd, 1) := by decide +kernel
theorem d_Law_law_363 : decode b_Law_law 363 = .ok (.iaload, 1) := by decide +kernel
theorem d_Law_law_364 : decode b_Law_law 364 = .ok (.aload_n 0, 1) := by decide +kernel
theorem d_Law_law_365 : decode b_Law_law 365 = .ok (.iload 4, 2) := by decide +kernel
theorem d_Law_law_367 : decode b_Law_law 367 = .ok (.iconst 2, 1) := by decide +kernel
theorem d_Law_law_368 : decode b_Law_law 368 = .ok (.iadd, 1) := by decide +kernel
theorem d_Law_law_369 : decode b_Law_law 369 = .ok (.iaload, 1) := by decide +kernel
theorem d_Law_law_370 : decode b_Law_law 370 = .ok (.aload_n 0, 1) := by decide +kernel
theorem d_Law_law_371 : decode b_Law_law 371 = .ok (.iload 4, 2) := by decide +kernel
theorem d_Law_law_373 : decode b_Law_law 373 = .ok (.iconst 3, 1) := by decide +kernel
theorem d_Law_law_374 : decode b_Law_law 374 = .ok (.iadd, 1) := by decide +kernel
theorem d_Law_law_375 : decode b_Law_law 375 = .ok (.iaload, 1) := by decide +kernel
theorem d_Law_law_376 : decode b_Law_law 376 = .ok (.invokevirtual 59, 3) := by decide +kernel
theorem d_Law_law_379 : decode b_Law_law 379 = .ok (.aload_n 2, 1) := by decide +kernel
theorem d_Law_law_380 : decode b_Law_law 380 = .ok (.aload_n 0, 1) := by decide +kernel
theorem d_Law_law_381 : decode b_Law_law 381 = .ok (.iload 4, 2) := by decide +kernel
theorem d_Law_law_383 : decode b_Law_law 383 = .ok (.iconst 1, 1) := by decide +kernel
theorem d_Law_law_384 : decode b_Law_law 384 = .ok (.iadd, 1) := by decide +kernel
theorem d_Law_law_385 : decode b_Law_law 385 = .ok (.iaload, 1) := by decide +kernel
theorem d_Law_law_386 : decode b_Law_law 386 = .ok (.aload_n 0, 1) := by decide +kernel
theorem d_Law_law_387 : decode b_Law_law 387 = .ok (.iload 4, 2) := by decide +kernel
theorem d_Law_law_389 : decode b_Law_law 389 = .ok (.iconst 2, 1) := by decide +kernel
theorem d_Law_law_390 : decode b_Law_law 390 = .ok (.iadd, 1) := by decide +kernel
theorem d_Law_law_391 : decode b_Law_law 391 = .ok (.iaload, 1) := by decide +kernel
theorem d_Law_law_392 : decode b_Law_law 392 = .ok (.aload_n 0, 1) := by decide +kernel
theorem d_Law_law_393 : decode b_Law_law 393 = .ok (.iload 4, 2) := by decide +kernel
theorem d_Law_law_395 : decode b_Law_law 395 = .ok (.iconst 3, 1) := by decide +kernel
theorem d_Law_law_396 : decode b_Law_law 396 = .ok (.iadd, 1) := by decide +kernel
theorem d_Law_law_397 : decode b_Law_law 397 = .ok (.iaload, 1) := by decide +kernel
theorem d_Law_law_398 : decode b_Law_law 398 = .ok (.invokevirtual 62, 3) := by decide +kernel
theorem d_Law_law_401 : decode b_Law_law 401 = .ok (.if_icmp .eq 246, 3) := by decide +kernel
theorem d_Law_law_404 : decode b_Law_law 404 = .ok (.iconst 0, 1) := by decide +kernel
theorem d_Law_law_405 : decode b_Law_law 405 = .ok (.ireturn, 1) := by decide +kernel
theorem d_Law_law_406 : decode b_Law_law 406 = .ok (.aload_n 1, 1) := by decide +kernel
theorem d_Law_law_407 : decode b_Law_law 407 = .ok (.aload_n 0, 1) := by decide +kernel
theorem d_Law_law_408 : decode b_Law_law 408 = .ok (.iload 4, 2) := by decide +kernel
theorem d_Law_law_410 : decode b_Law_law 410 = .ok (.iconst 1, 1) := by decide +kernel
theorem d_Law_law_411 : decode b_Law_law 411 = .ok (.iadd, 1) := by decide +kernel
theorem d_Law_law_412 : decode b_Law_law 412 = .ok (.iaload, 1) := by decide +kernel
theorem d_Law_law_413 : decode b_Law_law 413 = .ok (.invokevirtual 63, 3) := by decide +kernel
theorem d_Law_law_416 : decode b_Law_law 416 = .ok (.aload_n 2, 1) := by decide +kernel
theorem d_Law_law_417 : decode b_Law_law 417 = .ok (.aload_n 0, 1) := by decide +kernel
theorem d_Law_law_418 : decode b_Law_law 418 = .ok (.iload 4, 2) := by decide +kernel
theorem d_Law_law_420 : decode b_Law_law 420 = .ok (.iconst 1, 1) := by decide +kernel
theorem d_Law_law_421 : decode b_Law_law 421 = .ok (.iadd, 1) := by decide +kernel
theorem d_Law_law_422 : decode b_Law_law 422 = .ok (.iaload, 1) := by decide +kernel
theorem d_Law_law_423 : decode b_Law_law 423 = .ok (.invokevirtual 66, 3) := by decide +kernel
theorem d_Law_law_426 : decode b_Law_law 426 = .ok (.if_icmp .eq 221, 3) := by decide +kernel
theorem d_Law_law_429 : decode b_Law_law 429 = .ok (.iconst 0, 1) := by decide +kernel
theorem d_Law_law_430 : decode b_Law_law 430 = .ok (.ireturn, 1) := by decide +kernel
theorem d_Law_law_431 : decode b_Law_law 431 = .ok (.aload_n 1, 1) := by decide +kernel
theorem d_Law_law_432 : decode b_Law_law 432 = .ok (.invokevirtual 67, 3) := by decide +kernel
theorem d_Law_law_435 : decode b_Law_law 435 = .ok (.aload_n 2, 1) := by decide +kernel
theorem d_Law_law_436 : decode b_Law_law 436 = .ok (.invokevirtual 70, 3) := by decide +kernel
theorem d_Law_law_439 : decode b_Law_law 439 = .ok (.if_icmp .eq 208, 3) := by decide +kernel
theorem d_Law_law_442 : decode b_Law_law 442 = .ok (.iconst 0, 1) := by decide +kernel
theorem d_Law_law_443 : decode b_Law_law 443 = .ok (.ireturn, 1) := by decide +kernel
theorem d_Law_law_444 : decode b_Law_law 444 = .ok (.aload_n 1, 1) := by decide +kernel
theorem d_Law_law_445 : decode b_Law_law 445 = .ok (.aload_n 0, 1) := by decide +kernel
theorem d_Law_law_446 : decode b_Law_law 446 = .ok (.iload 4, 2) := by decide +kernel
theorem d_Law_law_448 : decode b_Law_law 448 = .ok (.iconst 1, 1) := by decide +kernel
theorem d_Law_law_449 : decode b_Law_law 449 = .ok (.iadd, 1) := by decide +kernel
theorem d_Law_law_450 : decode b_Law_law 450 = .ok (.iaload, 1) := by decide +kernel
theorem d_Law_law_451 : decode b_Law_law 451 = .ok (.aload_n 0, 1) := by decide +kernel
theorem d_Law_law_452 : decode b_Law_law 452 = .ok (.iload 4, 2) := by decide +kernel
theorem d_Law_law_454 : decode b_Law_law 454 = .ok (.iconst 2, 1) := by decide +kernel
theorem d_Law_law_455 : decode b_Law_law 455 = .ok (.iadd, 1) := by decide +kernel
theorem d_Law_law_456 : decode b_Law_law 456 = .ok (.iaload, 1) := by decide +kernel
theorem d_Law_law_457 : decode b_Law_law 457 = .ok (.aload_n 0, 1) := by decide +kernel
theorem d_Law_law_458 : decode b_Law_law 458 = .ok (.iload 4, 2) := by decide +kernel
theorem d_Law_law_460 : decode b_Law_law 460 = .ok (.iconst 3, 1) := by decide +kernel
theorem d_Law_law_461 : decode b_Law_law 461 = .ok (.iadd, 1) := by decide +kernel
theorem d_Law_law_462 : decode b_Law_law 462 = .ok (.iaload, 1) := by decide +kernel
theorem d_Law_law_463 : decode b_Law_law 463 = .ok (.aload_n 0, 1) := by decide +kernel
theorem d_Law_law_464 : decode b_Law_law 464 = .ok (.iload 4, 2) := by decide +kernel
theorem d_Law_law_466 : decode b_Law_law 466 = .ok (.iconst 4, 1) := by decide +kernel
theorem d_Law_law_467 : decode b_Law_law 467 = .ok (.iadd, 1) := by decide +kernel
theorem d_Law_law_468 : decode b_Law_law 468 = .ok (.iaload, 1) := by decide +kernel
theorem d_Law_law_469 : decode b_Law_law 469 = .ok (.aload_n 3, 1) := by decide +kernel
theorem d_Law_law_470 : decode b_Law_law 470 = .ok (.invokestatic 71, 3) := by decide +kernel
theorem d_Law_law_473 : decode b_Law_law 473 = .ok (.istore 5, 2) := by decide +kernel
theorem d_Law_law_475 : decode b_Law_law 475 = .ok (.aload_n 2, 1) := by decide +kernel
theorem d_Law_law_476 : decode b_Law_law 476 = .ok (.aload_n 0, 1) := by decide +kernel
theorem d_Law_law_477 : decode b_Law_law 477 = .ok (.iload 4, 2) := by decide +kernel
theorem d_Law_law_479 : decode b_Law_law 479 = .ok (.iconst 1, 1) := by decide +kernel
theorem d_Law_law_480 : decode b_Law_law 480 = .ok (.iadd, 1) := by decide +kernel
theorem d_Law_law_481 : decode b_Law_law 481 = .ok (.iaload, 1) := by decide +kernel
theorem d_Law_law_482 : decode b_Law_law 482 = .ok (.aload_n 0, 1) := by decide +kernel
theorem d_Law_law_483 : decode b_Law_law 483 = .ok (.iload 4, 2) := by decide +kernel
theorem d_Law_law_485 : decode b_Law_law 485 = .ok (.iconst 2, 1) := by decide +kernel
theorem d_Law_law_486 : decode b_Law_law 486 = .ok (.iadd, 1) := by decide +kernel
theorem d_Law_law_487 : decode b_Law_law 487 = .ok (.iaload, 1) := by decide +kernel
theorem d_Law_law_488 : decode b_Law_law 488 = .ok (.aload_n 0, 1) := by decide +kernel
theorem d_Law_law_489 : decode b_Law_law 489 = .ok (.iload 4, 2) := by decide +kernel
theorem d_Law_law_491 : decode b_Law_law 491 = .ok (.iconst 3, 1) := by decide +kernel
theorem d_Law_law_492 : decode b_Law_law 492 = .ok (.iadd, 1) := by decide +kernel
theorem d_Law_law_493 : decode b_Law_law 493 = .ok (.iaload, 1) := by decide +kernel
theorem d_Law_law_494 : decode b_Law_law 494 = .ok (.aload_n 0, 1) := by decide +kernel
theorem d_Law_law_495 : decode b_Law_law 495 = .ok (.iload 4, 2) := by decide +kernel
theorem d_Law_law_497 : decode b_Law_law 497 = .ok (.iconst 4, 1) := by decide +kernel
theorem d_Law_law_498 : decode b_Law_law 498 = .ok (.iadd, 1) := by decide +kernel
theorem d_Law_law_499 : decode b_Law_law 499 = .ok (.iaload, 1) := by decide +kernel
theorem d_Law_law_500 : decode b_Law_law 500 = .ok (.invokevirtual 73, 3) := by decide +kernel
theorem d_Law_law_503 : decode b_Law_law 503 = .ok (.istore 6, 2) := by decide +kernel
theorem d_Law_law_505 : decode b_Law_law 505 = .ok (.aload_n 2, 1) := by decide +kernel
theorem d_Law_law_506 : decode b_Law_law 506 = .ok (.invokevirtual 46, 3) := by decide +kernel
theorem d_Law_law_509 : decode b_Law_law 509 = .ok (.iload 5, 2) := by decide +kernel
theorem d_Law_law_511 : decode b_Law_law 511 = .ok (.if_icmp .eq 5, 3) := by decide +kernel
theorem d_Law_law_514 : decode b_Law_law 514 = .ok (.iconst 0, 1) := by decide +kernel
theorem d_Law_law_515 : decode b_Law_law 515 = .ok (.ireturn, 1) := by decide +kernel
theorem d_Law_law_516 : decode b_Law_law 516 = .ok (.iload 5, 2) := by decide +kernel
theorem d_Law_law_518 : decode b_Law_law 518 = .ok (.ifCond .ne 15, 3) := by decide +kernel
theorem d_Law_law_521 : decode b_Law_law 521 = .ok (.aload_n 3, 1) := by decide +kernel
theorem d_Law_law_522 : decode b_Law_law 522 = .ok (.iconst 0, 1) := by decide +kernel
theorem d_Law_law_523 : decode b_Law_law 523 = .ok (.laload, 1) := by decide +kernel
theorem d_Law_law_524 : decode b_Law_law 524 = .ok (.iload 6, 2) := by decide +kernel
theorem d_Law_law_526 : decode b_Law_law 526 = .ok (.i2l, 1) := by decide +kernel
theorem d_Law_law_527 : decode b_Law_law 527 = .ok (.lcmp, 1) := by decide +kernel
theorem d_Law_law_528 : decode b_Law_law 528 = .ok (.ifCond .eq 5, 3) := by decide +kernel
theorem d_Law_law_531 : decode b_Law_law 531 = .ok (.iconst 0, 1) := by decide +kernel
theorem d_Law_law_532 : decode b_Law_law 532 = .ok (.ireturn, 1) := by decide +kernel
theorem d_Law_law_533 : decode b_Law_law 533 = .ok (.goto 114, 3) := by decide +kernel
theorem d_Law_law_536 : decode b_Law_law 536 = .ok (.aload_n 1, 1) := by decide +kernel
theorem d_Law_law_537 : decode b_Law_law 537 = .ok (.aload_n 0, 1) := by decide +kernel
theorem d_Law_law_538 : decode b_Law_law 538 = .ok (.iload 4, 2) := by decide +kernel
theorem d_Law_law_540 : decode b_Law_law 540 = .ok (.iconst 1, 1) := by decide +kernel
theorem d_Law_law_541 : decode b_Law_law 541 = .ok (.iadd, 1) := by decide +kernel
theorem d_Law_law_542 : decode b_Law_law 542 = .ok (.iaload, 1) := by decide +kernel
theorem d_Law_law_543 : decode b_Law_law 543 = .ok (.aload_n 0, 1) := by decide +kernel
theorem d_Law_law_544 : decode b_Law_law 544 = .ok (.iload 4, 2) := by decide +kernel
theorem d_Law_law_546 : decode b_Law_law 546 = .ok (.iconst 2, 1) := by decide +kernel
theorem d_Law_law_547 : decode b_Law_law 547 = .ok (.iadd, 1) := by decide +kernel
theorem d_Law_law_548 : decode b_Law_law 548 = .ok (.iaload, 1) := by decide +kernel
theorem d_Law_law_549 : decode b_Law_law 549 = .ok (.invokevirtual 74, 3) := by decide +kernel
theorem d_Law_law_552 : decode b_Law_law 552 = .ok (.aload_n 2, 1) := by decide +kernel
theorem d_Law_law_553 : decode b_Law_law 553 = .ok (.aload_n 0, 1) := by decide +kernel
theorem d_Law_law_554 : decode b_Law_law 554 = .ok (.iload 4, 2) := by decide +kernel
theorem d_Law_law_556 : decode b_Law_law 556 = .ok (.iconst 1, 1) := by decide +kernel
theorem d_Law_law_557 : decode b_Law_law 557 = .ok (.iadd, 1) := by decide +kernel
theorem d_Law_law_558 : decode b_Law_law 558 = .ok (.iaload, 1) := by decide +kernel
theorem d_Law_law_559 : decode b_Law_law 559 = .ok (.aload_n 0, 1) := by decide +kernel
theorem d_Law_law_560 : decode b_Law_law 560 = .ok (.iload 4, 2) := by decide +kernel
theorem d_Law_law_562 : decode b_Law_law 562 = .ok (.iconst 2, 1) := by decide +kernel
theorem d_Law_law_563 : decode b_Law_law 563 = .ok (.iadd, 1) := by decide +kernel
theorem d_Law_law_564 : decode b_Law_law 564 = .ok (.iaload, 1) := by decide +kernel
theorem d_Law_law_565 : decode b_Law_law 565 = .ok (.invokevirtual 77, 3) := by decide +kernel
theorem d_Law_law_568 : decode b_Law_law 568 = .ok (.if_icmp .eq 79, 3) := by decide +kernel
theorem d_Law_law_571 : decode b_Law_law 571 = .ok (.iconst 0, 1) := by decide +kernel
theorem d_Law_law_572 : decode b_Law_law 572 = .ok (.ireturn, 1) := by decide +kernel
theorem d_Law_law_573 : decode b_Law_law 573 = .ok (.aload_n 1, 1) := by decide +kernel
theorem d_Law_law_574 : decode b_Law_law 574 = .ok (.aload_n 0, 1) := by decide +kernel
theorem d_Law_law_575 : decode b_Law_law 575 = .ok (.iload 4, 2) := by decide +kernel
theorem d_Law_law_577 : decode b_Law_law 577 = .ok (.iconst 1, 1) := by decide +kernel
theorem d_Law_law_578 : decode b_Law_law 578 = .ok (.iadd, 1) := by decide +kernel
theorem d_Law_law_579 : decode b_Law_law 579 = .ok (.iaload, 1) := by decide +kernel
theorem d_Law_law_580 : decode b_Law_law 580 = .ok (.aload_n 0, 1) := by decide +kernel
theorem d_Law_law_581 : decode b_Law_law 581 = .ok (.iload 4, 2) := by decide +kernel
theorem d_Law_law_583 : decode b_Law_law 583 = .ok (.iconst 2, 1) := by decide +kernel
theorem d_Law_law_584 : decode b_Law_law 584 = .ok (.iadd, 1) := by decide +kernel
theorem d_Law_law_585 : decode b_Law_law 585 = .ok (.iaload, 1) := by decide +kernel
theorem d_Law_law_586 : decode b_Law_law 586 = .ok (.aload_n 0, 1) := by decide +kernel
theorem d_Law_law_587 : decode b_Law_law 587 = .ok (.iload 4, 2) := by decide +kernel
theorem d_Law_law_589 : decode b_Law_law 589 = .ok (.iconst 3, 1) := by decide +kernel
theorem d_Law_law_590 : decode b_Law_law 590 = .ok (.iadd, 1) := by decide +kernel
theorem d_Law_law_591 : decode b_Law_law 591 = .ok (.iaload, 1) := by decide +kernel
theorem d_Law_law_592 : decode b_Law_law 592 = .ok (.invokevirtual 78, 3) := by decide +kernel
theorem d_Law_law_595 : decode b_Law_law 595 = .ok (.aload_n 2, 1) := by decide +kernel
theorem d_Law_law_596 : decode b_Law_law 596 = .ok (.aload_n 0, 1) := by decide +kernel
theorem d_Law_law_597 : decode b_Law_law 597 = .ok (.iload 4, 2) := by decide +kernel
theorem d_Law_law_599 : decode b_Law_law 599 = .ok (.iconst 1, 1) := by decide +kernel
theorem d_Law_law_600 : decode b_Law_law 600 = .ok (.iadd, 1) := by decide +kernel
theorem d_Law_law_601 : decode b_Law_law 601 = .ok (.iaload, 1) := by decide +kernel
theorem d_Law_law_602 : decode b_Law_law 602 = .ok (.aload_n 0, 1) := by decide +kernel
theorem d_Law_law_603 : decode b_Law_law 603 = .ok (.iload 4, 2) := by decide +kernel
theorem d_Law_law_605 : decode b_Law_law 605 = .ok (.iconst 2, 1) := by decide +kernel
theorem d_Law_law_606 : decode b_Law_law 606 = .ok (.iadd, 1) := by decide +kernel
theorem d_Law_law_607 : decode b_Law_law 607 = .ok (.iaload, 1) := by decide +kernel
theorem d_Law_law_608 : decode b_Law_law 608 = .ok (.aload_n 0, 1) := by decide +kernel
theorem d_Law_law_609 : decode b_Law_law 609 = .ok (.iload 4, 2) := by decide +kernel
theorem d_Law_law_611 : decode b_Law_law 611 = .ok (.iconst 3, 1) := by decide +kernel
theorem d_Law_law_612 : decode b_Law_law 612 = .ok (.iadd, 1) := by decide +kernel
theorem d_Law_law_613 : decode b_Law_law 613 = .ok (.iaload, 1) := by decide +kernel
theorem d_Law_law_614 : decode b_Law_law 614 = .ok (.invokevirtual 81, 3) := by decide +kernel
theorem d_Law_law_617 : decode b_Law_law 617 = .ok (.if_icmp .eq 30, 3) := by decide +kernel
theorem d_Law_law_620 : decode b_Law_law 620 = .ok (.iconst 0, 1) := by decide +kernel
theorem d_Law_law_621 : decode b_Law_law 621 = .ok (.ireturn, 1) := by decide +kernel
theorem d_Law_law_622 : decode b_Law_law 622 = .ok (.aload_n 1, 1) := by decide +kernel
theorem d_Law_law_623 : decode b_Law_law 623 = .ok (.aload_n 0, 1) := by decide +kernel
theorem d_Law_law_624 : decode b_Law_law 624 = .ok (.iload 4, 2) := by decide +kernel
theorem d_Law_law_626 : decode b_Law_law 626 = .ok (.iconst 1, 1) := by decide +kernel
theorem d_Law_law_627 : decode b_Law_law 627 = .ok (.iadd, 1) := by decide +kernel
theorem d_Law_law_628 : decode b_Law_law 628 = .ok (.iaload, 1) := by decide +kernel
theorem d_Law_law_629 : decode b_Law_law 629 = .ok (.invokevirtual 82, 3) := by decide +kernel
theorem d_Law_law_632 : decode b_Law_law 632 = .ok (.aload_n 2, 1) := by decide +kernel
theorem d_Law_law_633 : decode b_Law_law 633 = .ok (.aload_n 0, 1) := by decide +kernel
theorem d_Law_law_634 : decode b_Law_law 634 = .ok (.iload 4, 2) := by decide +kernel
theorem d_Law_law_636 : decode b_Law_law 636 = .ok (.iconst 1, 1) := by decide +kernel
theorem d_Law_law_637 : decode b_Law_law 637 = .ok (.iadd, 1) := by decide +kernel
theorem d_Law_law_638 : decode b_Law_law 638 = .ok (.iaload, 1) := by decide +kernel
theorem d_Law_law_639 : decode b_Law_law 639 = .ok (.invokevirtual 85, 3) := by decide +kernel
theorem d_Law_law_642 : decode b_Law_law 642 = .ok (.if_icmp .eq 5, 3) := by decide +kernel
theorem d_Law_law_645 : decode b_Law_law 645 = .ok (.iconst 0, 1) := by decide +kernel
theorem d_Law_law_646 : decode b_Law_law 646 = .ok (.ireturn, 1) := by decide +kernel
theorem d_Law_law_647 : decode b_Law_law 647 = .ok (.iinc 4 5, 3) := by decide +kernel
theorem d_Law_law_650 : decode b_Law_law 650 = .ok (.goto (-627), 3) := by decide +kernel
theorem d_Law_law_653 : decode b_Law_law 653 = .ok (.iconst 1, 1) := by decide +kernel
theorem d_Law_law_654 : decode b_Law_law 654 = .ok (.ireturn, 1) := by decide +kernel
