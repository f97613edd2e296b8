/-! more decode rows -/
abbrev b_Model_entry : ByteArray := prog_14_method_36_code
abbrev J_Model_entry : MethodName × ByteArray × Nat × Option FieldType := (⟨"FaslDeskModel", "entry", "(II)I"⟩, b_Model_entry, 3, (some .int))
theorem d_Model_entry_0 : decode b_Model_entry 0 = .ok (.iload_n 1, 1) := by decide +kernel
theorem d_Model_entry_1 : decode b_Model_entry 1 = .ok (.iconst 0, 1) := by decide +kernel
theorem d_Model_entry_2 : decode b_Model_entry 2 = .ok (.aload_n 0, 1) := by decide +kernel
theorem d_Model_entry_3 : decode b_Model_entry 3 = .ok (.getfield 172, 3) := by decide +kernel
theorem d_Model_entry_6 : decode b_Model_entry 6 = .ok (.iconst 1, 1) := by decide +kernel
theorem d_Model_entry_7 : decode b_Model_entry 7 = .ok (.isub, 1) := by decide +kernel
theorem d_Model_entry_8 : decode b_Model_entry 8 = .ok (.invokestatic 102, 3) := by decide +kernel
theorem d_Model_entry_11 : decode b_Model_entry 11 = .ok (.ifCond .ne 5, 3) := by decide +kernel
theorem d_Model_entry_14 : decode b_Model_entry 14 = .ok (.iconst (-1), 1) := by decide +kernel
theorem d_Model_entry_15 : decode b_Model_entry 15 = .ok (.ireturn, 1) := by decide +kernel
theorem d_Model_entry_16 : decode b_Model_entry 16 = .ok (.iload_n 2, 1) := by decide +kernel
theorem d_Model_entry_17 : decode b_Model_entry 17 = .ok (.tableswitch 94 0 5 #[39, 46, 53, 63, 73, 80], 39) := by decide +kernel
theorem d_Model_entry_56 : decode b_Model_entry 56 = .ok (.aload_n 0, 1) := by decide +kernel
theorem d_Model_entry_57 : decode b_Model_entry 57 = .ok (.getfield 59, 3) := by decide +kernel
theorem d_Model_entry_60 : decode b_Model_entry 60 = .ok (.iload_n 1, 1) := by decide +kernel
theorem d_Model_entry_61 : decode b_Model_entry 61 = .ok (.iaload, 1) := by decide +kernel
theorem d_Model_entry_62 : decode b_Model_entry 62 = .ok (.ireturn, 1) := by decide +kernel
theorem d_Model_entry_63 : decode b_Model_entry 63 = .ok (.aload_n 0, 1) := by decide +kernel
theorem d_Model_entry_64 : decode b_Model_entry 64 = .ok (.getfield 62, 3) := by decide +kernel
theorem d_Model_entry_67 : decode b_Model_entry 67 = .ok (.iload_n 1, 1) := by decide +kernel
theorem d_Model_entry_68 : decode b_Model_entry 68 = .ok (.iaload, 1) := by decide +kernel
theorem d_Model_entry_69 : decode b_Model_entry 69 = .ok (.ireturn, 1) := by decide +kernel
theorem d_Model_entry_70 : decode b_Model_entry 70 = .ok (.aload_n 0, 1) := by decide +kernel
theorem d_Model_entry_71 : decode b_Model_entry 71 = .ok (.getfield 37, 3) := by decide +kernel
theorem d_Model_entry_74 : decode b_Model_entry 74 = .ok (.bipush 8, 2) := by decide +kernel
theorem d_Model_entry_76 : decode b_Model_entry 76 = .ok (.iload_n 1, 1) := by decide +kernel
theorem d_Model_entry_77 : decode b_Model_entry 77 = .ok (.iadd, 1) := by decide +kernel
theorem d_Model_entry_78 : decode b_Model_entry 78 = .ok (.iaload, 1) := by decide +kernel
theorem d_Model_entry_79 : decode b_Model_entry 79 = .ok (.ireturn, 1) := by decide +kernel
theorem d_Model_entry_80 : decode b_Model_entry 80 = .ok (.aload_n 0, 1) := by decide +kernel
theorem d_Model_entry_81 : decode b_Model_entry 81 = .ok (.getfield 40, 3) := by decide +kernel
theorem d_Model_entry_84 : decode b_Model_entry 84 = .ok (.bipush 8, 2) := by decide +kernel
theorem d_Model_entry_86 : decode b_Model_entry 86 = .ok (.iload_n 1, 1) := by decide +kernel
theorem d_Model_entry_87 : decode b_Model_entry 87 = .ok (.iadd, 1) := by decide +kernel
theorem d_Model_entry_88 : decode b_Model_entry 88 = .ok (.iaload, 1) := by decide +kernel
theorem d_Model_entry_89 : decode b_Model_entry 89 = .ok (.ireturn, 1) := by decide +kernel
theorem d_Model_entry_90 : decode b_Model_entry 90 = .ok (.aload_n 0, 1) := by decide +kernel
theorem d_Model_entry_91 : decode b_Model_entry 91 = .ok (.getfield 65, 3) := by decide +kernel
theorem d_Model_entry_94 : decode b_Model_entry 94 = .ok (.iload_n 1, 1) := by decide +kernel
theorem d_Model_entry_95 : decode b_Model_entry 95 = .ok (.iaload, 1) := by decide +kernel
theorem d_Model_entry_96 : decode b_Model_entry 96 = .ok (.ireturn, 1) := by decide +kernel
theorem d_Model_entry_97 : decode b_Model_entry 97 = .ok (.aload_n 0, 1) := by decide +kernel
theorem d_Model_entry_98 : decode b_Model_entry 98 = .ok (.iload_n 1, 1) := by decide +kernel
theorem d_Model_entry_99 : decode b_Model_entry 99 = .ok (.invokevirtual 198, 3) := by decide +kernel
theorem d_Model_entry_102 : decode b_Model_entry 102 = .ok (.ifCond .eq 7, 3) := by decide +kernel
theorem d_Model_entry_105 : decode b_Model_entry 105 = .ok (.iconst 1, 1) := by decide +kernel
theorem d_Model_entry_106 : decode b_Model_entry 106 = .ok (.goto 4, 3) := by decide +kernel
theorem d_Model_entry_109 : decode b_Model_entry 109 = .ok (.iconst 0, 1) := by decide +kernel
theorem d_Model_entry_110 : decode b_Model_entry 110 = .ok (.ireturn, 1) := by decide +kernel
theorem d_Model_entry_111 : decode b_Model_entry 111 = .ok (.iconst (-1), 1) := by decide +kernel
theorem d_Model_entry_112 : decode b_Model_entry 112 = .ok (.ireturn, 1) := by decide +kernel
abbrev b_Model_unit : ByteArray := prog_14_method_37_code
abbrev J_Model_unit : MethodName × ByteArray × Nat × Option FieldType := (⟨"FaslDeskModel", "unit", "(III)I"⟩, b_Model_unit, 5, (some .int))
theorem d_Model_unit_0 : decode b_Model_unit 0 = .ok (.iload_n 1, 1) := by decide +kernel
theorem d_Model_unit_1 : decode b_Model_unit 1 = .ok (.iconst 0, 1) := by decide +kernel
theorem d_Model_unit_2 : decode b_Model_unit 2 = .ok (.aload_n 0, 1) := by decide +kernel
theorem d_Model_unit_3 : decode b_Model_unit 3 = .ok (.getfield 172, 3) := by decide +kernel
theorem d_Model_unit_6 : decode b_Model_unit 6 = .ok (.iconst 1, 1) := by decide +kernel
theorem d_Model_unit_7 : decode b_Model_unit 7 = .ok (.isub, 1) := by decide +kernel
theorem d_Model_unit_8 : decode b_Model_unit 8 = .ok (.invokestatic 102, 3) := by decide +kernel
theorem d_Model_unit_11 : decode b_Model_unit 11 = .ok (.ifCond .eq 31, 3) := by decide +kernel
theorem d_Model_unit_14 : decode b_Model_unit 14 = .ok (.iload_n 2, 1) := by decide +kernel
theorem d_Model_unit_15 : decode b_Model_unit 15 = .ok (.iconst 0, 1) := by decide +kernel
theorem d_Model_unit_16 : decode b_Model_unit 16 = .ok (.aload_n 0, 1) := by decide +kernel
theorem d_Model_unit_17 : decode b_Model_unit 17 = .ok (.getfield 37, 3) := by decide +kernel
theorem d_Model_unit_20 : decode b_Model_unit 20 = .ok (.bipush 8, 2) := by decide +kernel
theorem d_Model_unit_22 : decode b_Model_unit 22 = .ok (.iload_n 1, 1) := by decide +kernel
theorem d_Model_unit_23 : decode b_Model_unit 23 = .ok (.iadd, 1) := by decide +kernel
theorem d_Model_unit_24 : decode b_Model_unit 24 = .ok (.iaload, 1) := by decide +kernel
theorem d_Model_unit_25 : decode b_Model_unit 25 = .ok (.iconst 1, 1) := by decide +kernel
theorem d_Model_unit_26 : decode b_Model_unit 26 = .ok (.isub, 1) := by decide +kernel
theorem d_Model_unit_27 : decode b_Model_unit 27 = .ok (.invokestatic 102, 3) := by decide +kernel
theorem d_Model_unit_30 : decode b_Model_unit 30 = .ok (.ifCond .eq 12, 3) := by decide +kernel
theorem d_Model_unit_33 : decode b_Model_unit 33 = .ok (.iload_n 3, 1) := by decide +kernel
theorem d_Model_unit_34 : decode b_Model_unit 34 = .ok (.iconst 0, 1) := by decide +kernel
theorem d_Model_unit_35 : decode b_Model_unit 35 = .ok (.iconst 2, 1) := by decide +kernel
theorem d_Model_unit_36 : decode b_Model_unit 36 = .ok (.invokestatic 102, 3) := by decide +kernel
theorem d_Model_unit_39 : decode b_Model_unit 39 = .ok (.ifCond .ne 5, 3) := by decide +kernel
theorem d_Model_unit_42 : decode b_Model_unit 42 = .ok (.iconst (-1), 1) := by decide +kernel
theorem d_Model_unit_43 : decode b_Model_unit 43 = .ok (.ireturn, 1) := by decide +kernel
theorem d_Model_unit_44 : decode b_Model_unit 44 = .ok (.sipush 280, 3) := by decide +kernel
theorem d_Model_unit_47 : decode b_Model_unit 47 = .ok (.bipush 8, 2) := by decide +kernel
theorem d_Model_unit_49 : decode b_Model_unit 49 = .ok (.iload_n 1, 1) := by decide +kernel
theorem d_Model_unit_50 : decode b_Model_unit 50 = .ok (.iadd, 1) := by decide +kernel
theorem d_Model_unit_51 : decode b_Model_unit 51 = .ok (.imul, 1) := by decide +kernel
theorem d_Model_unit_52 : decode b_Model_unit 52 = .ok (.iload_n 2, 1) := by decide +kernel
theorem d_Model_unit_53 : decode b_Model_unit 53 = .ok (.iadd, 1) := by decide +kernel
theorem d_Model_unit_54 : decode b_Model_unit 54 = .ok (.istore 4, 2) := by decide +kernel
theorem d_Model_unit_56 : decode b_Model_unit 56 = .ok (.iload_n 3, 1) := by decide +kernel
theorem d_Model_unit_57 : decode b_Model_unit 57 = .ok (.ifCond .ne 13, 3) := by decide +kernel
theorem d_Model_unit_60 : decode b_Model_unit 60 = .ok (.aload_n 0, 1) := by decide +kernel
theorem d_Model_unit_61 : decode b_Model_unit 61 = .ok (.getfield 28, 3) := by decide +kernel
theorem d_Model_unit_64 : decode b_Model_unit 64 = .ok (.iload 4, 2) := by decide +kernel
theorem d_Model_unit_66 : decode b_Model_unit 66 = .ok (.iaload, 1) := by decide +kernel
theorem d_Model_unit_67 : decode b_Model_unit 67 = .ok (.goto 25, 3) := by decide +kernel
theorem d_Model_unit_70 : decode b_Model_unit 70 = .ok (.iload_n 3, 1) := by decide +kernel
theorem d_Model_unit_71 : decode b_Model_unit 71 = .ok (.iconst 1, 1) := by decide +kernel
theorem d_Model_unit_72 : decode b_Model_unit 72 = .ok (.if_icmp .ne 13, 3) := by decide +kernel
theorem d_Model_unit_75 : decode b_Model_unit 75 = .ok (.aload_n 0, 1) := by decide +kernel
theorem d_Model_unit_76 : decode b_Model_unit 76 = .ok (.getfield 31, 3) := by decide +kernel
theorem d_Model_unit_79 : decode b_Model_unit 79 = .ok (.iload 4, 2) := by decide +kernel
theorem d_Model_unit_81 : decode b_Model_unit 81 = .ok (.iaload, 1) := by decide +kernel
theorem d_Model_unit_82 : decode b_Model_unit 82 = .ok (.goto 10, 3) := by decide +kernel
theorem d_Model_unit_85 : decode b_Model_unit 85 = .ok (.aload_n 0, 1) := by decide +kernel
theorem d_Model_unit_86 : decode b_Model_unit 86 = .ok (.getfield 34, 3) := by decide +kernel
theorem d_Model_unit_89 : decode b_Model_unit 89 = .ok (.iload 4, 2) := by decide +kernel
theorem d_Model_unit_91 : decode b_Model_unit 91 = .ok (.iaload, 1) := by decide +kernel
theorem d_Model_unit_92 : decode b_Model_unit 92 = .ok (.ireturn, 1) := by decide +kernel
abbrev b_Model_count : ByteArray := prog_14_method_38_code
abbrev J_Model_count : MethodName × ByteArray × Nat × Option FieldType := (⟨"FaslDeskModel", "count", "(I)I"⟩, b_Model_count, 4, (some .int))
theorem d_Model_count_0 : decode b_Model_count 0 = .ok (.iconst 0, 1) := by decide +kernel
theorem d_Model_count_1 : decode b_Model_count 1 = .ok (.istore_n 2, 1) := by decide +kernel
theorem d_Model_count_2 : decode b_Model_count 2 = .ok (.iload_n 1, 1) := by decide +kernel
theorem d_Model_count_3 : decode b_Model_count 3 = .ok (.tableswitch 134 0 7 #[45, 73, 78, 83, 111, 116, 121, 126], 45) := by decide +kernel
theorem d_Model_count_48 : decode b_Model_count 48 = .ok (.iconst 0, 1) := by decide +kernel
theorem d_Model_count_49 : decode b_Model_count 49 = .ok (.istore_n 3, 1) := by decide +kernel
theorem d_Model_count_50 : decode b_Model_count 50 = .ok (.iload_n 3, 1) := by decide +kernel
theorem d_Model_count_51 : decode b_Model_count 51 = .ok (.bipush 8, 2) := by decide +kernel
theorem d_Model_count_53 : decode b_Model_count 53 = .ok (.if_icmp .ge 21, 3) := by decide +kernel
theorem d_Model_count_56 : decode b_Model_count 56 = .ok (.aload_n 0, 1) := by decide +kernel
theorem d_Model_count_57 : decode b_Model_count 57 = .ok (.getfield 16, 3) := by decide +kernel
theorem d_Model_count_60 : decode b_Model_count 60 = .ok (.iload_n 3, 1) := by decide +kernel
theorem d_Model_count_61 : decode b_Model_count 61 = .ok (.iaload, 1) := by decide +kernel
theorem d_Model_count_62 : decode b_Model_count 62 = .ok (.ifCond .le 6, 3) := by decide +kernel
theorem d_Model_count_65 : decode b_Model_count 65 = .ok (.iinc 2 1, 3) := by decide +kernel
theorem d_Model_count_68 : decode b_Model_count 68 = .ok (.iinc 3 1, 3) := by decide +kernel
theorem d_Model_count_71 : decode b_Model_count 71 = .ok (.goto (-21), 3) := by decide +kernel
theorem d_Model_count_74 : decode b_Model_count 74 = .ok (.iload_n 2, 1) := by decide +kernel
theorem d_Model_count_75 : decode b_Model_count 75 = .ok (.ireturn, 1) := by decide +kernel
theorem d_Model_count_76 : decode b_Model_count 76 = .ok (.aload_n 0, 1) := by decide +kernel
theorem d_Model_count_77 : decode b_Model_count 77 = .ok (.getfield 172, 3) := by decide +kernel
theorem d_Model_count_80 : decode b_Model_count 80 = .ok (.ireturn, 1) := by decide +kernel
theorem d_Model_count_81 : decode b_Model_count 81 = .ok (.aload_n 0, 1) := by decide +kernel
theorem d_Model_count_82 : decode b_Model_count 82 = .ok (.getfield 181, 3) := by decide +kernel
theorem d_Model_count_85 : decode b_Model_count 85 = .ok (.ireturn, 1) := by decide +kernel
theorem d_Model_count_86 : decode b_Model_count 86 = .ok (.iconst 0, 1) := by decide +kernel
theorem d_Model_count_87 : decode b_Model_count 87 = .ok (.istore_n 3, 1) := by decide +kernel
theorem d_Model_count_88 : decode b_Model_count 88 = .ok (.iload_n 3, 1) := by decide +kernel
theorem d_Model_count_89 : decode b_Model_count 89 = .ok (.bipush 8, 2) := by decide +kernel
theorem d_Model_count_91 : decode b_Model_count 91 = .ok (.if_icmp .ge 21, 3) := by decide +kernel
theorem d_Model_count_94 : decode b_Model_count 94 = .ok (.aload_n 0, 1) := by decide +kernel
theorem d_Model_count_95 : decode b_Model_count 95 = .ok (.getfield 50, 3) := by decide +kernel
theorem d_Model_count_98 : decode b_Model_count 98 = .ok (.iload_n 3, 1) := by decide +kernel
theorem d_Model_count_99 : decode b_Model_count 99 = .ok (.baload, 1) := by decide +kernel
theorem d_Model_count_100 : decode b_Model_count 100 = .ok (.ifCond .eq 6, 3) := by decide +kernel
theorem d_Model_count_103 : decode b_Model_count 103 = .ok (.iinc 2 1, 3) := by decide +kernel
theorem d_Model_count_106 : decode b_Model_count 106 = .ok (.iinc 3 1, 3) := by decide +kernel
theorem d_Model_count_109 : decode b_Model_count 109 = .ok (.goto (-21), 3) := by decide +kernel
theorem d_Model_count_112 : decode b_Model_count 112 = .ok (.iload_n 2, 1) := by decide +kernel
theorem d_Model_count_113 : decode b_Model_count 113 = .ok (.ireturn, 1) := by decide +kernel
theorem d_Model_count_114 : decode b_Model_count 114 = .ok (.aload_n 0, 1) := by decide +kernel
theorem d_Model_count_115 : decode b_Model_count 115 = .ok (.getfield 201, 3) := by decide +kernel
theorem d_Model_count_118 : decode b_Model_count 118 = .ok (.ireturn, 1) := by decide +kernel
theorem d_Model_count_119 : decode b_Model_count 119 = .ok (.aload_n 0, 1) := by decide +kernel
theorem d_Model_count_120 : decode b_Model_count 120 = .ok (.getfield 191, 3) := by decide +kernel
theorem d_Model_count_123 : decode b_Model_count 123 = .ok (.ireturn, 1) := by decide +kernel
theorem d_Model_count_124 : decode b_Model_count 124 = .ok (.aload_n 0, 1) := by decide +kernel
theorem d_Model_count_125 : decode b_Model_count 125 = .ok (.getfield 98, 3) := by decide +kernel
theorem d_Model_count_128 : decode b_Model_count 128 = .ok (.ireturn, 1) := by decide +kernel
theorem d_Model_count_129 : decode b_Model_count 129 = .ok (.aload_n 0, 1) := by decide +kernel
theorem d_Model_count_130 : decode b_Model_count 130 = .ok (.getfield 16, 3) := by decide +kernel
theorem d_Model_count_133 : decode b_Model_count 133 = .ok (.bipush 8, 2) := by decide +kernel
theorem d_Model_count_135 : decode b_Model_count 135 = .ok (.iaload, 1) := by decide +kernel
theorem d_Model_count_136 : decode b_Model_count 136 = .ok (.ireturn, 1) := by decide +kernel
theorem d_Model_count_137 : decode b_Model_count 137 = .ok (.iconst (-1), 1) := by decide +kernel
theorem d_Model_count_138 : decode b_Model_count 138 = .ok (.ireturn, 1) := by decide +kernel
abbrev b_Arch_init : ByteArray := prog_2_method_1_code
abbrev J_Arch_init : MethodName × ByteArray × Nat × Option FieldType := (⟨"FaslDesk$Archive", "<init>", "()V"⟩, b_Arch_init, 2, none)
theorem d_Arch_init_0 : decode b_Arch_init 0 = .ok (.aload_n 0, 1) := by decide +kernel
theorem d_Arch_init_1 : decode b_Arch_init 1 = .ok (.invokespecial 3, 3) := by decide +kernel
theorem d_Arch_init_4 : decode b_Arch_init 4 = .ok (.aload_n 0, 1) := by decide +kernel
theorem d_Arch_init_5 : decode b_Arch_init 5 = .ok (.bipush 8, 2) := by decide +kernel
theorem d_Arch_init_7 : decode b_Arch_init 7 = .ok (.anewarray 9, 3) := by decide +kernel
theorem d_Arch_init_10 : decode b_Arch_init 10 = .ok (.putfield 11, 3) := by decide +kernel
theorem d_Arch_init_13 : decode b_Arch_init 13 = .ok (.aload_n 0, 1) := by decide +kernel
theorem d_Arch_init_14 : decode b_Arch_init 14 = .ok (.new 17, 3) := by decide +kernel
theorem d_Arch_init_17 : decode b_Arch_init 17 = .ok (.dup, 1) := by decide +kernel
theorem d_Arch_init_18 : decode b_Arch_init 18 = .ok (.invokespecial 19, 3) := by decide +kernel
theorem d_Arch_init_21 : decode b_Arch_init 21 = .ok (.putfield 20, 3) := by decide +kernel
theorem d_Arch_init_24 : decode b_Arch_init 24 = .ok (.iconst 0, 1) := by decide +kernel
theorem d_Arch_init_25 : decode b_Arch_init 25 = .ok (.istore_n 1, 1) := by decide +kernel
theorem d_Arch_init_26 : decode b_Arch_init 26 = .ok (.iload_n 1, 1) := by decide +kernel
theorem d_Arch_init_27 : decode b_Arch_init 27 = .ok (.bipush 8, 2) := by decide +kernel
theorem d_Arch_init_29 : decode b_Arch_init 29 = .ok (.if_icmp .ge 22, 3) := by decide +kernel
theorem d_Arch_init_32 : decode b_Arch_init 32 = .ok (.aload_n 0, 1) := by decide +kernel
theorem d_Arch_init_33 : decode b_Arch_init 33 = .ok (.getfield 11, 3) := by decide +kernel
theorem d_Arch_init_36 : decode b_Arch_init 36 = .ok (.iload_n 1, 1) := by decide +kernel
theorem d_Arch_init_37 : decode b_Arch_init 37 = .ok (.new 9, 3) := by decide +kernel
theorem d_Arch_init_40 : decode b_Arch_init 40 = .ok (.dup, 1) := by decide +kernel
theorem d_Arch_init_41 : decode b_Arch_init 41 = .ok (.invokespecial 24, 3) := by decide +kernel
theorem d_Arch_init_44 : decode b_Arch_init 44 = .ok (.aastore, 1) := by decide +kernel
theorem d_Arch_init_45 : decode b_Arch_init 45 = .ok (.iinc 1 1, 3) := by decide +kernel
theorem d_Arch_init_48 : decode b_Arch_init 48 = .ok (.goto (-22), 3) := by decide +kernel
theorem d_Arch_init_51 : decode b_Arch_init 51 = .ok (.return_, 1) := by decide +kernel
abbrev b_Arch_has : ByteArray := prog_2_method_2_code
abbrev J_Arch_has : MethodName × ByteArray × Nat × Option FieldType := (⟨"FaslDesk$Archive", "has", "(I)Z"⟩, b_Arch_has, 2, (some .boolean))
theorem d_Arch_has_0 : decode b_Arch_has 0 = .ok (.iload_n 1, 1) := by decide +kernel
theorem d_Arch_has_1 : decode b_Arch_has 1 = .ok (.ifCond .lt 15, 3) := by decide +kernel
theorem d_Arch_has_4 : decode b_Arch_has 4 = .ok (.iload_n 1, 1) := by decide +kernel
theorem d_Arch_has_5 : decode b_Arch_has 5 = .ok (.aload_n 0, 1) := by decide +kernel
theorem d_Arch_has_6 : decode b_Arch_has 6 = .ok (.getfield 25, 3) := by decide +kernel
theorem d_Arch_has_9 : decode b_Arch_has 9 = .ok (.if_icmp .ge 7, 3) := by decide +kernel
theorem d_Arch_has_12 : decode b_Arch_has 12 = .ok (.iconst 1, 1) := by decide +kernel
theorem d_Arch_has_13 : decode b_Arch_has 13 = .ok (.goto 4, 3) := by decide +kernel
theorem d_Arch_has_16 : decode b_Arch_has 16 = .ok (.iconst 0, 1) := by decide +kernel
theorem d_Arch_has_17 : decode b_Arch_has 17 = .ok (.ireturn, 1) := by decide +kernel
abbrev b_Arch_placeFor : ByteArray := prog_2_method_3_code
abbrev J_Arch_placeFor : MethodName × ByteArray × Nat × Option FieldType := (⟨"FaslDesk$Archive", "placeFor", "(I)I"⟩, b_Arch_placeFor, 3, (some .int))
theorem d_Arch_placeFor_0 : decode b_Arch_placeFor 0 = .ok (.iconst 0, 1) := by decide +kernel
theorem d_Arch_placeFor_1 : decode b_Arch_placeFor 1 = .ok (.istore_n 2, 1) := by decide +kernel
theorem d_Arch_placeFor_2 : decode b_Arch_placeFor 2 = .ok (.iload_n 2, 1) := by decide +kernel
theorem d_Arch_placeFor_3 : decode b_Arch_placeFor 3 = .ok (.aload_n 0, 1) := by decide +kernel
theorem d_Arch_placeFor_4 : decode b_Arch_placeFor 4 = .ok (.getfield 25, 3) := by decide +kernel
theorem d_Arch_placeFor_7 : decode b_Arch_placeFor 7 = .ok (.if_icmp .ge 24, 3) := by decide +kernel
theorem d_Arch_placeFor_10 : decode b_Arch_placeFor 10 = .ok (.aload_n 0, 1) := by decide +kernel
theorem d_Arch_placeFor_11 : decode b_Arch_placeFor 11 = .ok (.getfield 11, 3) := by decide +kernel
theorem d_Arch_placeFor_14 : decode b_Arch_placeFor 14 = .ok (.iload_n 2, 1) := by decide +kernel
theorem d_Arch_placeFor_15 : decode b_Arch_placeFor 15 = .ok (.aaload, 1) := by decide +kernel
theorem d_Arch_placeFor_16 : decode b_Arch_placeFor 16 = .ok (.getfield 29, 3) := by decide +kernel
theorem d_Arch_placeFor_19 : decode b_Arch_placeFor 19 = .ok (.iload_n 1, 1) := by decide +kernel
theorem d_Arch_placeFor_20 : decode b_Arch_placeFor 20 = .ok (.if_icmp .ne 5, 3) := by decide +kernel
theorem d_Arch_placeFor_23 : decode b_Arch_placeFor 23 = .ok (.iload_n 2, 1) := by decide +kernel
theorem d_Arch_placeFor_24 : decode b_Arch_placeFor 24 = .ok (.ireturn, 1) := by decide +kernel
theorem d_Arch_placeFor_25 : decode b_Arch_placeFor 25 = .ok (.iinc 2 1, 3) := by decide +kernel
theorem d_Arch_placeFor_28 : decode b_Arch_placeFor 28 = .ok (.goto (-26), 3) := by decide +kernel
theorem d_Arch_placeFor_31 : decode b_Arch_placeFor 31 = .ok (.aload_n 0, 1) := by decide +kernel
theorem d_Arch_placeFor_32 : decode b_Arch_placeFor 32 = .ok (.getfield 25, 3) := by decide +kernel
theorem d_Arch_placeFor_35 : decode b_Arch_placeFor 35 = .ok (.ireturn, 1) := by decide +kernel
abbrev b_Arch_keepWith : ByteArray := prog_2_method_4_code
abbrev J_Arch_keepWith : MethodName × ByteArray × Nat × Option FieldType := (⟨"FaslDesk$Archive", "keepWith", "(I)V"⟩, b_Arch_keepWith, 2, none)
theorem d_Arch_keepWith_0 : decode b_Arch_keepWith 0 = .ok (.aload_n 0, 1) := by decide +kernel
theorem d_Arch_keepWith_1 : decode b_Arch_keepWith 1 = .ok (.aload_n 0, 1) := by decide +kernel
theorem d_Arch_keepWith_2 : decode b_Arch_keepWith 2 = .ok (.getfield 25, 3) := by decide +kernel
theorem d_Arch_keepWith_5 : decode b_Arch_keepWith 5 = .ok (.iload_n 1, 1) := by decide +kernel
theorem d_Arch_keepWith_6 : decode b_Arch_keepWith 6 = .ok (.iconst 1, 1) := by decide +kernel
theorem d_Arch_keepWith_7 : decode b_Arch_keepWith 7 = .ok (.iadd, 1) := by decide +kernel
theorem d_Arch_keepWith_8 : decode b_Arch_keepWith 8 = .ok (.invokestatic 32, 3) := by decide +kernel
theorem d_Arch_keepWith_11 : decode b_Arch_keepWith 11 = .ok (.putfield 25, 3) := by decide +kernel
theorem d_Arch_keepWith_14 : decode b_Arch_keepWith 14 = .ok (.aload_n 0, 1) := by decide +kernel
theorem d_Arch_keepWith_15 : decode b_Arch_keepWith 15 = .ok (.aload_n 0, 1) := by decide +kernel
theorem d_Arch_keepWith_16 : decode b_Arch_keepWith 16 = .ok (.getfield 25, 3) := by decide +kernel
theorem d_Arch_keepWith_19 : decode b_Arch_keepWith 19 = .ok (.putfield 38, 3) := by decide +kernel
theorem d_Arch_keepWith_22 : decode b_Arch_keepWith 22 = .ok (.return_, 1) := by decide +kernel
abbrev b_Arch_remove : ByteArray := prog_2_method_5_code
abbrev J_Arch_remove : MethodName × ByteArray × Nat × Option FieldType := (⟨"FaslDesk$Archive", "remove", "(I)I"⟩, b_Arch_remove, 4, (some .int))
theorem d_Arch_remove_0 : decode b_Arch_remove 0 = .ok (.aload_n 0, 1) := by decide +kernel
theorem d_Arch_remove_1 : decode b_Arch_remove 1 = .ok (.getfield 11, 3) := by decide +kernel
theorem d_Arch_remove_4 : decode b_Arch_remove 4 = .ok (.iload_n 1, 1) := by decide +kernel
theorem d_Arch_remove_5 : decode b_Arch_remove 5 = .ok (.aaload, 1) := by decide +kernel
theorem d_Arch_remove_6 : decode b_Arch_remove 6 = .ok (.astore_n 2, 1) := by decide +kernel
theorem d_Arch_remove_7 : decode b_Arch_remove 7 = .ok (.iload_n 1, 1) := by decide +kernel
theorem d_Arch_remove_8 : decode b_Arch_remove 8 = .ok (.istore_n 3, 1) := by decide +kernel
theorem d_Arch_remove_9 : decode b_Arch_remove 9 = .ok (.iload_n 3, 1) := by decide +kernel
theorem d_Arch_remove_10 : decode b_Arch_remove 10 = .ok (.aload_n 0, 1) := by decide +kernel
theorem d_Arch_remove_11 : decode b_Arch_remove 11 = .ok (.getfield 25, 3) := by decide +kernel
theorem d_Arch_remove_14 : decode b_Arch_remove 14 = .ok (.iconst 1, 1) := by decide +kernel
theorem d_Arch_remove_15 : decode b_Arch_remove 15 = .ok (.isub, 1) := by decide +kernel
theorem d_Arch_remove_16 : decode b_Arch_remove 16 = .ok (.if_icmp .ge 23, 3) := by decide +kernel
theorem d_Arch_remove_19 : decode b_Arch_remove 19 = .ok (.aload_n 0, 1) := by decide +kernel
theorem d_Arch_remove_20 : decode b_Arch_remove 20 = .ok (.getfield 11, 3) := by decide +kernel
theorem d_Arch_remove_23 : decode b_Arch_remove 23 = .ok (.iload_n 3, 1) := by decide +kernel
theorem d_Arch_remove_24 : decode b_Arch_remove 24 = .ok (.aload_n 0, 1) := by decide +kernel
theorem d_Arch_remove_25 : decode b_Arch_remove 25 = .ok (.getfield 11, 3) := by decide +kernel
theorem d_Arch_remove_28 : decode b_Arch_remove 28 = .ok (.iload_n 3, 1) := by decide +kernel
theorem d_Arch_remove_29 : decode b_Arch_remove 29 = .ok (.iconst 1, 1) := by decide +kernel
theorem d_Arch_remove_30 : decode b_Arch_remove 30 = .ok (.iadd, 1) := by decide +kernel
theorem d_Arch_remove_31 : decode b_Arch_remove 31 = .ok (.aaload, 1) := by decide +kernel
theorem d_Arch_remove_32 : decode b_Arch_remove 32 = .ok (.aastore, 1) := by decide +kernel
theorem d_Arch_remove_33 : decode b_Arch_remove 33 = .ok (.iinc 3 1, 3) := by decide +kernel
theorem d_Arch_remove_36 : decode b_Arch_remove 36 = .ok (.goto (-27), 3) := by decide +kernel
theorem d_Arch_remove_39 : decode b_Arch_remove 39 = .ok (.aload_n 0, 1) := by decide +kernel
theorem d_Arch_remove_40 : decode b_Arch_remove 40 = .ok (.dup, 1) := by decide +kernel
theorem d_Arch_remove_41 : decode b_Arch_remove 41 = .ok (.getfield 25, 3) := by decide +kernel
theorem d_Arch_remove_44 : decode b_Arch_remove 44 = .ok (.iconst 1, 1) := by decide +kernel
theorem d_Arch_remove_45 : decode b_Arch_remove 45 = .ok (.isub, 1) := by decide +kernel
theorem d_Arch_remove_46 : decode b_Arch_remove 46 = .ok (.putfield 25, 3) := by decide +kernel
theorem d_Arch_remove_49 : decode b_Arch_remove 49 = .ok (.aload_n 0, 1) := by decide +kernel
theorem d_Arch_remove_50 : decode b_Arch_remove 50 = .ok (.getfield 11, 3) := by decide +kernel
theorem d_Arch_remove_53 : decode b_Arch_remove 53 = .ok (.aload_n 0, 1) := by decide +kernel
theorem d_Arch_remove_54 : decode b_Arch_remove 54 = .ok (.getfield 25, 3) := by decide +kernel
theorem d_Arch_remove_57 : decode b_Arch_remove 57 = .ok (.aload_n 2, 1) := by decide +kernel
theorem d_Arch_remove_58 : decode b_Arch_remove 58 = .ok (.aastore, 1) := by decide +kernel
theorem d_Arch_remove_59 : decode b_Arch_remove 59 = .ok (.aload_n 0, 1) := by decide +kernel
theorem d_Arch_remove_60 : decode b_Arch_remove 60 = .ok (.aload_n 0, 1) := by decide +kernel
theorem d_Arch_remove_61 : decode b_Arch_remove 61 = .ok (.getfield 25, 3) := by decide +kernel
theorem d_Arch_remove_64 : decode b_Arch_remove 64 = .ok (.putfield 38, 3) := by decide +kernel
theorem d_Arch_remove_67 : decode b_Arch_remove 67 = .ok (.aload_n 2, 1) := by decide +kernel
theorem d_Arch_remove_68 : decode b_Arch_remove 68 = .ok (.getfield 29, 3) := by decide +kernel
theorem d_Arch_remove_71 : decode b_Arch_remove 71 = .ok (.ireturn, 1) := by decide +kernel
abbrev b_Arch_findFault : ByteArray := prog_2_method_6_code
abbrev J_Arch_findFault : MethodName × ByteArray × Nat × Option FieldType := (⟨"FaslDesk$Archive", "findFault", "()I"⟩, b_Arch_findFault, 2, (some .int))
theorem d_Arch_findFault_0 : decode b_Arch_findFault 0 = .ok (.aload_n 0, 1) := by decide +kernel
theorem d_Arch_findFault_1 : decode b_Arch_findFault 1 = .ok (.iconst (-1), 1) := by decide +kernel
theorem d_Arch_findFault_2 : decode b_Arch_findFault 2 = .ok (.putfield 41, 3) := by decide +kernel
theorem d_Arch_findFault_5 : decode b_Arch_findFault 5 = .ok (.aload_n 0, 1) := by decide +kernel
theorem d_Arch_findFault_6 : decode b_Arch_findFault 6 = .ok (.getfield 44, 3) := by decide +kernel
theorem d_Arch_findFault_9 : decode b_Arch_findFault 9 = .ok (.ifCond .eq 5, 3) := by decide +kernel
theorem d_Arch_findFault_12 : decode b_Arch_findFault 12 = .ok (.iconst 1, 1) := by decide +kernel
theorem d_Arch_findFault_13 : decode b_Arch_findFault 13 = .ok (.ireturn, 1) := by decide +kernel
theorem d_Arch_findFault_14 : decode b_Arch_findFault 14 = .ok (.aload_n 0, 1) := by decide +kernel
theorem d_Arch_findFault_15 : decode b_Arch_findFault 15 = .ok (.getfield 38, 3) := by decide +kernel
theorem d_Arch_findFault_18 : decode b_Arch_findFault 18 = .ok (.aload_n 0, 1) := by decide +kernel
theorem d_Arch_findFault_19 : decode b_Arch_findFault 19 = .ok (.getfield 25, 3) := by decide +kernel
theorem d_Arch_findFault_22 : decode b_Arch_findFault 22 = .ok (.if_icmp .eq 20, 3) := by decide +kernel
theorem d_Arch_findFault_25 : decode b_Arch_findFault 25 = .ok (.aload_n 0, 1) := by decide +kernel
theorem d_Arch_findFault_26 : decode b_Arch_findFault 26 = .ok (.getfield 38, 3) := by decide +kernel
theorem d_Arch_findFault_29 : decode b_Arch_findFault 29 = .ok (.aload_n 0, 1) := by decide +kernel
theorem d_Arch_findFault_30 : decode b_Arch_findFault 30 = .ok (.getfield 25, 3) := by decide +kernel
theorem d_Arch_findFault_33 : decode b_Arch_findFault 33 = .ok (.if_icmp .le 7, 3) := by decide +kernel
theorem d_Arch_findFault_36 : decode b_Arch_findFault 36 = .ok (.iconst 2, 1) := by decide +kernel
theorem d_Arch_findFault_37 : decode b_Arch_findFault 37 = .ok (.goto 4, 3) := by decide +kernel
theorem d_Arch_findFault_40 : decode b_Arch_findFault 40 = .ok (.iconst 3, 1) := by decide +kernel
theorem d_Arch_findFault_41 : decode b_Arch_findFault 41 = .ok (.ireturn, 1) := by decide +kernel
theorem d_Arch_findFault_42 : decode b_Arch_findFault 42 = .ok (.aload_n 0, 1) := by decide +kernel
theorem d_Arch_findFault_43 : decode b_Arch_findFault 43 = .ok (.invokevirtual 47, 3) := by decide +kernel
theorem d_Arch_findFault_46 : decode b_Arch_findFault 46 = .ok (.istore_n 1, 1) := by decide +kernel
theorem d_Arch_findFault_47 : decode b_Arch_findFault 47 = .ok (.iload_n 1, 1) := by decide +kernel
theorem d_Arch_findFault_48 : decode b_Arch_findFault 48 = .ok (.ifCond .ne 8, 3) := by decide +kernel
theorem d_Arch_findFault_51 : decode b_Arch_findFault 51 = .ok (.aload_n 0, 1) := by decide +kernel
theorem d_Arch_findFault_52 : decode b_Arch_findFault 52 = .ok (.invokevirtual 51, 3) := by decide +kernel
theorem d_Arch_findFault_55 : decode b_Arch_findFault 55 = .ok (.istore_n 1, 1) := by decide +kernel
theorem d_Arch_findFault_56 : decode b_Arch_findFault 56 = .ok (.iload_n 1, 1) := by decide +kernel
theorem d_Arch_findFault_57 : decode b_Arch_findFault 57 = .ok (.ifCond .ne 8, 3) := by decide +kernel
theorem d_Arch_findFault_60 : decode b_Arch_findFault 60 = .ok (.aload_n 0, 1) := by decide +kernel
theorem d_Arch_findFault_61 : decode b_Arch_findFault 61 = .ok (.invokevirtual 54, 3) := by decide +kernel
theorem d_Arch_findFault_64 : decode b_Arch_findFault 64 = .ok (.istore_n 1, 1) := by decide +kernel
theorem d_Arch_findFault_65 : decode b_Arch_findFault 65 = .ok (.iload_n 1, 1) := by decide +kernel
theorem d_Arch_findFault_66 : decode b_Arch_findFault 66 = .ok (.ireturn, 1) := by decide +kernel
abbrev b_Arch_findOddEntry : ByteArray := prog_2_method_7_code
abbrev J_Arch_findOddEntry : MethodName × ByteArray × Nat × Option FieldType := (⟨"FaslDesk$Archive", "findOddEntry", "()I"⟩, b_Arch_findOddEntry, 2, (some .int))
theorem d_Arch_findOddEntry_0 : decode b_Arch_findOddEntry 0 = .ok (.iconst 0, 1) := by decide +kernel
theorem d_Arch_findOddEntry_1 : decode b_Arch_findOddEntry 1 = .ok (.istore_n 1, 1) := by decide +kernel
theorem d_Arch_findOddEntry_2 : decode b_Arch_findOddEntry 2 = .ok (.iload_n 1, 1) := by decide +kernel
theorem d_Arch_findOddEntry_3 : decode b_Arch_findOddEntry 3 = .ok (.aload_n 0, 1) := by decide +kernel
theorem d_Arch_findOddEntry_4 : decode b_Arch_findOddEntry 4 = .ok (.getfield 25, 3) := by decide +kernel
theorem d_Arch_findOddEntry_7 : decode b_Arch_findOddEntry 7 = .ok (.if_icmp .ge 47, 3) := by decide +kernel
theorem d_Arch_findOddEntry_10 : decode b_Arch_findOddEntry 10 = .ok (.aload_n 0, 1) := by decide +kernel
theorem d_Arch_findOddEntry_11 : decode b_Arch_findOddEntry 11 = .ok (.iload_n 1, 1) := by decide +kernel
theorem d_Arch_findOddEntry_12 : decode b_Arch_findOddEntry 12 = .ok (.putfield 41, 3) := by decide +kernel
theorem d_Arch_findOddEntry_15 : decode b_Arch_findOddEntry 15 = .ok (.aload_n 0, 1) := by decide +kernel
theorem d_Arch_findOddEntry_16 : decode b_Arch_findOddEntry 16 = .ok (.getfield 11, 3) := by decide +kernel
theorem d_Arch_findOddEntry_19 : decode b_Arch_findOddEntry 19 = .ok (.iload_n 1, 1) := by decide +kernel
theorem d_Arch_findOddEntry_20 : decode b_Arch_findOddEntry 20 = .ok (.aaload, 1) := by decide +kernel
theorem d_Arch_findOddEntry_21 : decode b_Arch_findOddEntry 21 = .ok (.invokevirtual 57, 3) := by decide +kernel
theorem d_Arch_findOddEntry_24 : decode b_Arch_findOddEntry 24 = .ok (.ifCond .ne 5, 3) := by decide +kernel
theorem d_Arch_findOddEntry_27 : decode b_Arch_findOddEntry 27 = .ok (.iconst 4, 1) := by decide +kernel
theorem d_Arch_findOddEntry_28 : decode b_Arch_findOddEntry 28 = .ok (.ireturn, 1) := by decide +kernel
theorem d_Arch_findOddEntry_29 : decode b_Arch_findOddEntry 29 = .ok (.aload_n 0, 1) := by decide +kernel
theorem d_Arch_findOddEntry_30 : decode b_Arch_findOddEntry 30 = .ok (.aload_n 0, 1) := by decide +kernel
theorem d_Arch_findOddEntry_31 : decode b_Arch_findOddEntry 31 = .ok (.getfield 11, 3) := by decide +kernel
theorem d_Arch_findOddEntry_34 : decode b_Arch_findOddEntry 34 = .ok (.iload_n 1, 1) := by decide +kernel
theorem d_Arch_findOddEntry_35 : decode b_Arch_findOddEntry 35 = .ok (.aaload, 1) := by decide +kernel
theorem d_Arch_findOddEntry_36 : decode b_Arch_findOddEntry 36 = .ok (.getfield 29, 3) := by decide +kernel
theorem d_Arch_findOddEntry_39 : decode b_Arch_findOddEntry 39 = .ok (.invokevirtual 61, 3) := by decide +kernel
theorem d_Arch_findOddEntry_42 : decode b_Arch_findOddEntry 42 = .ok (.iload_n 1, 1) := by decide +kernel
theorem d_Arch_findOddEntry_43 : decode b_Arch_findOddEntry 43 = .ok (.if_icmp .ge 5, 3) := by decide +kernel
theorem d_Arch_findOddEntry_46 : decode b_Arch_findOddEntry 46 = .ok (.iconst 5, 1) := by decide +kernel
theorem d_Arch_findOddEntry_47 : decode b_Arch_findOddEntry 47 = .ok (.ireturn, 1) := by decide +kernel
theorem d_Arch_findOddEntry_48 : decode b_Arch_findOddEntry 48 = .ok (.iinc 1 1, 3) := by decide +kernel
theorem d_Arch_findOddEntry_51 : decode b_Arch_findOddEntry 51 = .ok (.goto (-49), 3) := by decide +kernel
theorem d_Arch_findOddEntry_54 : decode b_Arch_findOddEntry 54 = .ok (.iconst 0, 1) := by decide +kernel
theorem d_Arch_findOddEntry_55 : decode b_Arch_findOddEntry 55 = .ok (.ireturn, 1) := by decide +kernel
abbrev b_Arch_findOddClass : ByteArray := prog_2_method_8_code
abbrev J_Arch_findOddClass : MethodName × ByteArray × Nat × Option FieldType := (⟨"FaslDesk$Archive", "findOddClass", "()I"⟩, b_Arch_findOddClass, 2, (some .int))
theorem d_Arch_findOddClass_0 : decode b_Arch_findOddClass 0 = .ok (.iconst 0, 1) := by decide +kernel
theorem d_Arch_findOddClass_1 : decode b_Arch_findOddClass 1 = .ok (.istore_n 1, 1) := by decide +kernel
theorem d_Arch_findOddClass_2 : decode b_Arch_findOddClass 2 = .ok (.iload_n 1, 1) := by decide +kernel
theorem d_Arch_findOddClass_3 : decode b_Arch_findOddClass 3 = .ok (.aload_n 0, 1) := by decide +kernel
theorem d_Arch_findOddClass_4 : decode b_Arch_findOddClass 4 = .ok (.getfield 25, 3) := by decide +kernel
theorem d_Arch_findOddClass_7 : decode b_Arch_findOddClass 7 = .ok (.if_icmp .ge 53, 3) := by decide +kernel
theorem d_Arch_findOddClass_10 : decode b_Arch_findOddClass 10 = .ok (.aload_n 0, 1) := by decide +kernel
theorem d_Arch_findOddClass_11 : decode b_Arch_findOddClass 11 = .ok (.iload_n 1, 1) := by decide +kernel
theorem d_Arch_findOddClass_12 : decode b_Arch_findOddClass 12 = .ok (.putfield 41, 3) := by decide +kernel
theorem d_Arch_findOddClass_15 : decode b_Arch_findOddClass 15 = .ok (.aload_n 0, 1) := by decide +kernel
theorem d_Arch_findOddClass_16 : decode b_Arch_findOddClass 16 = .ok (.getfield 11, 3) := by decide +kernel
theorem d_Arch_findOddClass_19 : decode b_Arch_findOddClass 19 = .ok (.iload_n 1, 1) := by decide +kernel
theorem d_Arch_findOddClass_20 : decode b_Arch_findOddClass 20 = .ok (.aaload, 1) := by decide +kernel
theorem d_Arch_findOddClass_21 : decode b_Arch_findOddClass 21 = .ok (.getfield 65, 3) := by decide +kernel
theorem d_Arch_findOddClass_24 : decode b_Arch_findOddClass 24 = .ok (.ifCond .eq 6, 3) := by decide +kernel
theorem d_Arch_findOddClass_27 : decode b_Arch_findOddClass 27 = .ok (.bipush 6, 2) := by decide +kernel
theorem d_Arch_findOddClass_29 : decode b_Arch_findOddClass 29 = .ok (.ireturn, 1) := by decide +kernel
theorem d_Arch_findOddClass_30 : decode b_Arch_findOddClass 30 = .ok (.aload_n 0, 1) := by decide +kernel
theorem d_Arch_findOddClass_31 : decode b_Arch_findOddClass 31 = .ok (.getfield 11, 3) := by decide +kernel
theorem d_Arch_findOddClass_34 : decode b_Arch_findOddClass 34 = .ok (.iload_n 1, 1) := by decide +kernel
theorem d_Arch_findOddClass_35 : decode b_Arch_findOddClass 35 = .ok (.aaload, 1) := by decide +kernel
theorem d_Arch_findOddClass_36 : decode b_Arch_findOddClass 36 = .ok (.getfield 69, 3) := by decide +kernel
theorem d_Arch_findOddClass_39 : decode b_Arch_findOddClass 39 = .ok (.aload_n 0, 1) := by decide +kernel
theorem d_Arch_findOddClass_40 : decode b_Arch_findOddClass 40 = .ok (.getfield 11, 3) := by decide +kernel
theorem d_Arch_findOddClass_43 : decode b_Arch_findOddClass 43 = .ok (.iload_n 1, 1) := by decide +kernel
theorem d_Arch_findOddClass_44 : decode b_Arch_findOddClass 44 = .ok (.aaload, 1) := by decide +kernel
theorem d_Arch_findOddClass_45 : decode b_Arch_findOddClass 45 = .ok (.getfield 29, 3) := by decide +kernel
theorem d_Arch_findOddClass_48 : decode b_Arch_findOddClass 48 = .ok (.if_icmp .eq 6, 3) := by decide +kernel
theorem d_Arch_findOddClass_51 : decode b_Arch_findOddClass 51 = .ok (.bipush 7, 2) := by decide +kernel
theorem d_Arch_findOddClass_53 : decode b_Arch_findOddClass 53 = .ok (.ireturn, 1) := by decide +kernel
theorem d_Arch_findOddClass_54 : decode b_Arch_findOddClass 54 = .ok (.iinc 1 1, 3) := by decide +kernel
theorem d_Arch_findOddClass_57 : decode b_Arch_findOddClass 57 = .ok (.goto (-55), 3) := by decide +kernel
theorem d_Arch_findOddClass_60 : decode b_Arch_findOddClass 60 = .ok (.iconst 0, 1) := by decide +kernel
theorem d_Arch_findOddClass_61 : decode b_Arch_findOddClass 61 = .ok (.ireturn, 1) := by decide +kernel
abbrev b_Arch_findOddCode : ByteArray := prog_2_method_9_code
abbrev J_Arch_findOddCode : MethodName × ByteArray × Nat × Option FieldType := (⟨"FaslDesk$Archive", "findOddCode", "()I"⟩, b_Arch_findOddCode, 2, (some .int))
theorem d_Arch_findOddCode_0 : decode b_Arch_findOddCode 0 = .ok (.iconst 0, 1) := by decide +kernel
theorem d_Arch_findOddCode_1 : decode b_Arch_findOddCode 1 = .ok (.istore_n 1, 1) := by decide +kernel
theorem d_Arch_findOddCode_2 : decode b_Arch_findOddCode 2 = .ok (.iload_n 1, 1) := by decide +kernel
theorem d_Arch_findOddCode_3 : decode b_Arch_findOddCode 3 = .ok (.aload_n 0, 1) := by decide +kernel
theorem d_Arch_findOddCode_4 : decode b_Arch_findOddCode 4 = .ok (.getfield 25, 3) := by decide +kernel
theorem d_Arch_findOddCode_7 : decode b_Arch_findOddCode 7 = .ok (.if_icmp .ge 45, 3) := by decide +kernel
theorem d_Arch_findOddCode_10 : decode b_Arch_findOddCode 10 = .ok (.aload_n 0, 1) := by decide +kernel
theorem d_Arch_findOddCode_11 : decode b_Arch_findOddCode 11 = .ok (.iload_n 1, 1) := by decide +kernel
theorem d_Arch_findOddCode_12 : decode b_Arch_findOddCode 12 = .ok (.putfield 41, 3) := by decide +kernel
theorem d_Arch_findOddCode_15 : decode b_Arch_findOddCode 15 = .ok (.aload_n 0, 1) := by decide +kernel
theorem d_Arch_findOddCode_16 : decode b_Arch_findOddCode 16 = .ok (.getfield 20, 3) := by decide +kernel
theorem d_Arch_findOddCode_19 : decode b_Arch_findOddCode 19 = .ok (.aload_n 0, 1) := by decide +kernel
theorem d_Arch_findOddCode_20 : decode b_Arch_findOddCode 20 = .ok (.getfield 11, 3) := by decide +kernel
theorem d_Arch_findOddCode_23 : decode b_Arch_findOddCode 23 = .ok (.iload_n 1, 1) := by decide +kernel
theorem d_Arch_findOddCode_24 : decode b_Arch_findOddCode 24 = .ok (.aaload, 1) := by decide +kernel
theorem d_Arch_findOddCode_25 : decode b_Arch_findOddCode 25 = .ok (.getfield 72, 3) := by decide +kernel
theorem d_Arch_findOddCode_28 : decode b_Arch_findOddCode 28 = .ok (.aload_n 0, 1) := by decide +kernel
theorem d_Arch_findOddCode_29 : decode b_Arch_findOddCode 29 = .ok (.getfield 11, 3) := by decide +kernel
theorem d_Arch_findOddCode_32 : decode b_Arch_findOddCode 32 = .ok (.iload_n 1, 1) := by decide +kernel
theorem d_Arch_findOddCode_33 : decode b_Arch_findOddCode 33 = .ok (.aaload, 1) := by decide +kernel
theorem d_Arch_findOddCode_34 : decode b_Arch_findOddCode 34 = .ok (.getfield 76, 3) := by decide +kernel
theorem d_Arch_findOddCode_37 : decode b_Arch_findOddCode 37 = .ok (.invokevirtual 79, 3) := by decide +kernel
theorem d_Arch_findOddCode_40 : decode b_Arch_findOddCode 40 = .ok (.ifCond .ne 6, 3) := by decide +kernel
theorem d_Arch_findOddCode_43 : decode b_Arch_findOddCode 43 = .ok (.bipush 8, 2) := by decide +kernel
theorem d_Arch_findOddCode_45 : decode b_Arch_findOddCode 45 = .ok (.ireturn, 1) := by decide +kernel
theorem d_Arch_findOddCode_46 : decode b_Arch_findOddCode 46 = .ok (.iinc 1 1, 3) := by decide +kernel
theorem d_Arch_findOddCode_49 : decode b_Arch_findOddCode 49 = .ok (.goto (-47), 3) := by decide +kernel
theorem d_Arch_findOddCode_52 : decode b_Arch_findOddCode 52 = .ok (.iconst 0, 1) := by decide +kernel
theorem d_Arch_findOddCode_53 : decode b_Arch_findOddCode 53 = .ok (.ireturn, 1) := by decide +kernel
abbrev b_Code_init : ByteArray := prog_3_method_1_code
abbrev J_Code_init : MethodName × ByteArray × Nat × Option FieldType := (⟨"FaslDesk$Code", "<init>", "()V"⟩, b_Code_init, 1, none)
theorem d_Code_init_0 : decode b_Code_init 0 = .ok (.aload_n 0, 1) := by decide +kernel
theorem d_Code_init_1 : decode b_Code_init 1 = .ok (.invokespecial 3, 3) := by decide +kernel
theorem d_Code_init_4 : decode b_Code_init 4 = .ok (.aload_n 0, 1) := by decide +kernel
theorem d_Code_init_5 : decode b_Code_init 5 = .ok (.sipush 265, 3) := by decide +kernel
theorem d_Code_init_8 : decode b_Code_init 8 = .ok (.newarray .int, 2) := by decide +kernel
theorem d_Code_init_10 : decode b_Code_init 10 = .ok (.putfield 9, 3) := by decide +kernel
theorem d_Code_init_13 : decode b_Code_init 13 = .ok (.aload_n 0, 1) := by decide +kernel
theorem d_Code_init_14 : decode b_Code_init 14 = .ok (.sipush 265, 3) := by decide +kernel
theorem d_Code_init_17 : decode b_Code_init 17 = .ok (.newarray .int, 2) := by decide +kernel
theorem d_Code_init_19 : decode b_Code_init 19 = .ok (.putfield 15, 3) := by decide +kernel
theorem d_Code_init_22 : decode b_Code_init 22 = .ok (.aload_n 0, 1) := by decide +kernel
theorem d_Code_init_23 : decode b_Code_init 23 = .ok (.sipush 265, 3) := by decide +kernel
theorem d_Code_init_26 : decode b_Code_init 26 = .ok (.newarray .int, 2) := by decide +kernel
theorem d_Code_init_28 : decode b_Code_init 28 = .ok (.putfield 18, 3) := by decide +kernel
theorem d_Code_init_31 : decode b_Code_init 31 = .ok (.return_, 1) := by decide +kernel
abbrev b_Code_forgeable : ByteArray := prog_3_method_2_code
abbrev J_Code_forgeable : MethodName × ByteArray × Nat × Option FieldType := (⟨"FaslDesk$Code", "forgeable", "(I)Z"⟩, b_Code_forgeable, 1, (some .boolean))
theorem d_Code_forgeable_0 : decode b_Code_forgeable 0 = .ok (.iload_n 0, 1) := by decide +kernel
theorem d_Code_forgeable_1 : decode b_Code_forgeable 1 = .ok (.iconst 2, 1) := by decide +kernel
theorem d_Code_forgeable_2 : decode b_Code_forgeable 2 = .ok (.bipush 12, 2) := by decide +kernel
theorem d_Code_forgeable_4 : decode b_Code_forgeable 4 = .ok (.invokestatic 21, 3) := by decide +kernel
theorem d_Code_forgeable_7 : decode b_Code_forgeable 7 = .ok (.ifCond .ne 14, 3) := by decide +kernel
theorem d_Code_forgeable_10 : decode b_Code_forgeable 10 = .ok (.iload_n 0, 1) := by decide +kernel
theorem d_Code_forgeable_11 : decode b_Code_forgeable 11 = .ok (.bipush 17, 2) := by decide +kernel
theorem d_Code_forgeable_13 : decode b_Code_forgeable 13 = .ok (.bipush 21, 2) := by decide +kernel
theorem d_Code_forgeable_15 : decode b_Code_forgeable 15 = .ok (.invokestatic 21, 3) := by decide +kernel
theorem d_Code_forgeable_18 : decode b_Code_forgeable 18 = .ok (.ifCond .eq 7, 3) := by decide +kernel
theorem d_Code_forgeable_21 : decode b_Code_forgeable 21 = .ok (.iconst 1, 1) := by decide +kernel
theorem d_Code_forgeable_22 : decode b_Code_forgeable 22 = .ok (.goto 4, 3) := by decide +kernel
theorem d_Code_forgeable_25 : decode b_Code_forgeable 25 = .ok (.iconst 0, 1) := by decide +kernel
theorem d_Code_forgeable_26 : decode b_Code_forgeable 26 = .ok (.ireturn, 1) := by decide +kernel
abbrev b_Code_append : ByteArray := prog_3_method_3_code
abbrev J_Code_append : MethodName × ByteArray × Nat × Option FieldType := (⟨"FaslDesk$Code", "append", "(II)V"⟩, b_Code_append, 3, none)
theorem d_Code_append_0 : decode b_Code_append 0 = .ok (.aload_n 0, 1) := by decide +kernel
theorem d_Code_append_1 : decode b_Code_append 1 = .ok (.getfield 25, 3) := by decide +kernel
theorem d_Code_append_4 : decode b_Code_append 4 = .ok (.sipush 265, 3) := by decide +kernel
theorem d_Code_append_7 : decode b_Code_append 7 = .ok (.if_icmp .ge 43, 3) := by decide +kernel
theorem d_Code_append_10 : decode b_Code_append 10 = .ok (.aload_n 0, 1) := by decide +kernel
theorem d_Code_append_11 : decode b_Code_append 11 = .ok (.getfield 9, 3) := by decide +kernel
theorem d_Code_append_14 : decode b_Code_append 14 = .ok (.aload_n 0, 1) := by decide +kernel
theorem d_Code_append_15 : decode b_Code_append 15 = .ok (.getfield 25, 3) := by decide +kernel
theorem d_Code_append_18 : decode b_Code_append 18 = .ok (.iload_n 1, 1) := by decide +kernel
theorem d_Code_append_19 : decode b_Code_append 19 = .ok (.iastore, 1) := by decide +kernel
theorem d_Code_append_20 : decode b_Code_append 20 = .ok (.aload_n 0, 1) := by decide +kernel
theorem d_Code_append_21 : decode b_Code_append 21 = .ok (.getfield 15, 3) := by decide +kernel
theorem d_Code_append_24 : decode b_Code_append 24 = .ok (.aload_n 0, 1) := by decide +kernel
theorem d_Code_append_25 : decode b_Code_append 25 = .ok (.getfield 25, 3) := by decide +kernel
theorem d_Code_append_28 : decode b_Code_append 28 = .ok (.iload_n 2, 1) := by decide +kernel
theorem d_Code_append_29 : decode b_Code_append 29 = .ok (.iastore, 1) := by decide +kernel
theorem d_Code_append_30 : decode b_Code_append 30 = .ok (.aload_n 0, 1) := by decide +kernel
theorem d_Code_append_31 : decode b_Code_append 31 = .ok (.getfield 18, 3) := by decide +kernel
theorem d_Code_append_34 : decode b_Code_append 34 = .ok (.aload_n 0, 1) := by decide +kernel
theorem d_Code_append_35 : decode b_Code_append 35 = .ok (.getfield 25, 3) := by decide +kernel
theorem d_Code_append_38 : decode b_Code_append 38 = .ok (.iconst 0, 1) := by decide +kernel
theorem d_Code_append_39 : decode b_Code_append 39 = .ok (.iastore, 1) := by decide +kernel
theorem d_Code_append_40 : decode b_Code_append 40 = .ok (.aload_n 0, 1) := by decide +kernel
theorem d_Code_append_41 : decode b_Code_append 41 = .ok (.dup, 1) := by decide +kernel
theorem d_Code_append_42 : decode b_Code_append 42 = .ok (.getfield 25, 3) := by decide +kernel
theorem d_Code_append_45 : decode b_Code_append 45 = .ok (.iconst 1, 1) := by decide +kernel
theorem d_Code_append_46 : decode b_Code_append 46 = .ok (.iadd, 1) := by decide +kernel
theorem d_Code_append_47 : decode b_Code_append 47 = .ok (.putfield 25, 3) := by decide +kernel
theorem d_Code_append_50 : decode b_Code_append 50 = .ok (.return_, 1) := by decide +kernel
abbrev b_Code_becomes : ByteArray := prog_3_method_4_code
abbrev J_Code_becomes : MethodName × ByteArray × Nat × Option FieldType := (⟨"FaslDesk$Code", "becomes", "(LFaslDesk$Code;)V"⟩, b_Code_becomes, 2, none)
theorem d_Code_becomes_0 : decode b_Code_becomes 0 = .ok (.aload_n 1, 1) := by decide +kernel
theorem d_Code_becomes_1 : decode b_Code_becomes 1 = .ok (.getfield 9, 3) := by decide +kernel
theorem d_Code_becomes_4 : decode b_Code_becomes 4 = .ok (.iconst 0, 1) := by decide +kernel
theorem d_Code_becomes_5 : decode b_Code_becomes 5 = .ok (.aload_n 0, 1) := by decide +kernel
theorem d_Code_becomes_6 : decode b_Code_becomes 6 = .ok (.getfield 9, 3) := by decide +kernel
theorem d_Code_becomes_9 : decode b_Code_becomes 9 = .ok (.iconst 0, 1) := by decide +kernel
theorem d_Code_becomes_10 : decode b_Code_becomes 10 = .ok (.aload_n 1, 1) := by decide +kernel
theorem d_Code_becomes_11 : decode b_Code_becomes 11 = .ok (.getfield 25, 3) := by decide +kernel
theorem d_Code_becomes_14 : decode b_Code_becomes 14 = .ok (.invokestatic 29, 3) := by decide +kernel
theorem d_Code_becomes_17 : decode b_Code_becomes 17 = .ok (.aload_n 1, 1) := by decide +kernel
theorem d_Code_becomes_18 : decode b_Code_becomes 18 = .ok (.getfield 15, 3) := by decide +kernel
theorem d_Code_becomes_21 : decode b_Code_becomes 21 = .ok (.iconst 0, 1) := by decide +kernel
theorem d_Code_becomes_22 : decode b_Code_becomes 22 = .ok (.aload_n 0, 1) := by decide +kernel
theorem d_Code_becomes_23 : decode b_Code_becomes 23 = .ok (.getfield 15, 3) := by decide +kernel
theorem d_Code_becomes_26 : decode b_Code_becomes 26 = .ok (.iconst 0, 1) := by decide +kernel
theorem d_Code_becomes_27 : decode b_Code_becomes 27 = .ok (.aload_n 1, 1) := by decide +kernel
theorem d_Code_becomes_28 : decode b_Code_becomes 28 = .ok (.getfield 25, 3) := by decide +kernel
theorem d_Code_becomes_31 : decode b_Code_becomes 31 = .ok (.invokestatic 29, 3) := by decide +kernel
theorem d_Code_becomes_34 : decode b_Code_becomes 34 = .ok (.aload_n 1, 1) := by decide +kernel
theorem d_Code_becomes_35 : decode b_Code_becomes 35 = .ok (.getfield 18, 3) := by decide +kernel
theorem d_Code_becomes_38 : decode b_Code_becomes 38 = .ok (.iconst 0, 1) := by decide +kernel
theorem d_Code_becomes_39 : decode b_Code_becomes 39 = .ok (.aload_n 0, 1) := by decide +kernel
theorem d_Code_becomes_40 : decode b_Code_becomes 40 = .ok (.getfield 18, 3) := by decide +kernel
theorem d_Code_becomes_43 : decode b_Code_becomes 43 = .ok (.iconst 0, 1) := by decide +kernel
theorem d_Code_becomes_44 : decode b_Code_becomes 44 = .ok (.aload_n 1, 1) := by decide +kernel
theorem d_Code_becomes_45 : decode b_Code_becomes 45 = .ok (.getfield 25, 3) := by decide +kernel
theorem d_Code_becomes_48 : decode b_Code_becomes 48 = .ok (.invokestatic 29, 3) := by decide +kernel
theorem d_Code_becomes_51 : decode b_Code_becomes 51 = .ok (.aload_n 0, 1) := by decide +kernel
theorem d_Code_becomes_52 : decode b_Code_becomes 52 = .ok (.aload_n 1, 1) := by decide +kernel
theorem d_Code_becomes_53 : decode b_Code_becomes 53 = .ok (.getfield 25, 3) := by decide +kernel
theorem d_Code_becomes_56 : decode b_Code_becomes 56 = .ok (.putfield 25, 3) := by decide +kernel
theorem d_Code_becomes_59 : decode b_Code_becomes 59 = .ok (.return_, 1) := by decide +kernel
abbrev b_Check_init : ByteArray := prog_4_method_1_code
abbrev J_Check_init : MethodName × ByteArray × Nat × Option FieldType := (⟨"FaslDesk$CodeCheck", "<init>", "()V"⟩, b_Check_init, 1, none)
theorem d_Check_init_0 : decode b_Check_init 0 = .ok (.aload_n 0, 1) := by decide +kernel
theorem d_Check_init_1 : decode b_Check_init 1 = .ok (.invokespecial 3, 3) := by decide +kernel
theorem d_Check_init_4 : decode b_Check_init 4 = .ok (.aload_n 0, 1) := by decide +kernel
theorem d_Check_init_5 : decode b_Check_init 5 = .ok (.sipush 265, 3) := by decide +kernel
theorem d_Check_init_8 : decode b_Check_init 8 = .ok (.newarray .int, 2) := by decide +kernel
theorem d_Check_init_10 : decode b_Check_init 10 = .ok (.putfield 9, 3) := by decide +kernel
theorem d_Check_init_13 : decode b_Check_init 13 = .ok (.aload_n 0, 1) := by decide +kernel
theorem d_Check_init_14 : decode b_Check_init 14 = .ok (.sipush 265, 3) := by decide +kernel
theorem d_Check_init_17 : decode b_Check_init 17 = .ok (.newarray .int, 2) := by decide +kernel
theorem d_Check_init_19 : decode b_Check_init 19 = .ok (.putfield 15, 3) := by decide +kernel
theorem d_Check_init_22 : decode b_Check_init 22 = .ok (.return_, 1) := by decide +kernel
abbrev b_Check_goes : ByteArray := prog_4_method_2_code
abbrev J_Check_goes : MethodName × ByteArray × Nat × Option FieldType := (⟨"FaslDesk$CodeCheck", "goes", "(LFaslDesk$Code;I)Z"⟩, b_Check_goes, 5, (some .boolean))
theorem d_Check_goes_0 : decode b_Check_goes 0 = .ok (.aload_n 0, 1) := by decide +kernel
theorem d_Check_goes_1 : decode b_Check_goes 1 = .ok (.aload_n 1, 1) := by decide +kernel
theorem d_Check_goes_2 : decode b_Check_goes 2 = .ok (.putfield 18, 3) := by decide +kernel
theorem d_Check_goes_5 : decode b_Check_goes 5 = .ok (.aload_n 0, 1) := by decide +kernel
theorem d_Check_goes_6 : decode b_Check_goes 6 = .ok (.iconst 0, 1) := by decide +kernel
theorem d_Check_goes_7 : decode b_Check_goes 7 = .ok (.putfield 22, 3) := by decide +kernel
theorem d_Check_goes_10 : decode b_Check_goes 10 = .ok (.iconst 0, 1) := by decide +kernel
theorem d_Check_goes_11 : decode b_Check_goes 11 = .ok (.istore_n 3, 1) := by decide +kernel
theorem d_Check_goes_12 : decode b_Check_goes 12 = .ok (.iload_n 3, 1) := by decide +kernel
theorem d_Check_goes_13 : decode b_Check_goes 13 = .ok (.aload_n 0, 1) := by decide +kernel
theorem d_Check_goes_14 : decode b_Check_goes 14 = .ok (.getfield 18, 3) := by decide +kernel
theorem d_Check_goes_17 : decode b_Check_goes 17 = .ok (.getfield 26, 3) := by decide +kernel
theorem d_Check_goes_20 : decode b_Check_goes 20 = .ok (.if_icmp .ge 16, 3) := by decide +kernel
theorem d_Check_goes_23 : decode b_Check_goes 23 = .ok (.aload_n 0, 1) := by decide +kernel
theorem d_Check_goes_24 : decode b_Check_goes 24 = .ok (.getfield 9, 3) := by decide +kernel
theorem d_Check_goes_27 : decode b_Check_goes 27 = .ok (.iload_n 3, 1) := by decide +kernel
theorem d_Check_goes_28 : decode b_Check_goes 28 = .ok (.iconst (-1), 1) := by decide +kernel
theorem d_Check_goes_29 : decode b_Check_goes 29 = .ok (.iastore, 1) := by decide +kernel
theorem d_Check_goes_30 : decode b_Check_goes 30 = .ok (.iinc 3 1, 3) := by decide +kernel
theorem d_Check_goes_33 : decode b_Check_goes 33 = .ok (.goto (-21), 3) := by decide +kernel
theorem d_Check_goes_36 : decode b_Check_goes 36 = .ok (.aload_n 0, 1) := by decide +kernel
theorem d_Check_goes_37 : decode b_Check_goes 37 = .ok (.iconst 0, 1) := by decide +kernel
theorem d_Check_goes_38 : decode b_Check_goes 38 = .ok (.iconst 0, 1) := by decide +kernel
theorem d_Check_goes_39 : decode b_Check_goes 39 = .ok (.invokevirtual 31, 3) := by decide +kernel
theorem d_Check_goes_42 : decode b_Check_goes 42 = .ok (.istore_n 3, 1) := by decide +kernel
theorem d_Check_goes_43 : decode b_Check_goes 43 = .ok (.iconst 0, 1) := by decide +kernel
theorem d_Check_goes_44 : decode b_Check_goes 44 = .ok (.istore 4, 2) := by decide +kernel
theorem d_Check_goes_46 : decode b_Check_goes 46 = .ok (.iload 4, 2) := by decide +kernel
theorem d_Check_goes_48 : decode b_Check_goes 48 = .ok (.aload_n 0, 1) := by decide +kernel
theorem d_Check_goes_49 : decode b_Check_goes 49 = .ok (.getfield 22, 3) := by decide +kernel
theorem d_Check_goes_52 : decode b_Check_goes 52 = .ok (.if_icmp .ge 34, 3) := by decide +kernel
theorem d_Check_goes_55 : decode b_Check_goes 55 = .ok (.iload 4, 2) := by decide +kernel
theorem d_Check_goes_57 : decode b_Check_goes 57 = .ok (.sipush 265, 3) := by decide +kernel
theorem d_Check_goes_60 : decode b_Check_goes 60 = .ok (.if_icmp .ge 26, 3) := by decide +kernel
theorem d_Check_goes_63 : decode b_Check_goes 63 = .ok (.iload_n 3, 1) := by decide +kernel
theorem d_Check_goes_64 : decode b_Check_goes 64 = .ok (.ifCond .eq 22, 3) := by decide +kernel
theorem d_Check_goes_67 : decode b_Check_goes 67 = .ok (.aload_n 0, 1) := by decide +kernel
theorem d_Check_goes_68 : decode b_Check_goes 68 = .ok (.aload_n 0, 1) := by decide +kernel
theorem d_Check_goes_69 : decode b_Check_goes 69 = .ok (.getfield 15, 3) := by decide +kernel
theorem d_Check_goes_72 : decode b_Check_goes 72 = .ok (.iload 4, 2) := by decide +kernel
theorem d_Check_goes_74 : decode b_Check_goes 74 = .ok (.iaload, 1) := by decide +kernel
theorem d_Check_goes_75 : decode b_Check_goes 75 = .ok (.iload_n 2, 1) := by decide +kernel
theorem d_Check_goes_76 : decode b_Check_goes 76 = .ok (.invokevirtual 35, 3) := by decide +kernel
theorem d_Check_goes_79 : decode b_Check_goes 79 = .ok (.istore_n 3, 1) := by decide +kernel
theorem d_Check_goes_80 : decode b_Check_goes 80 = .ok (.iinc 4 1, 3) := by decide +kernel
theorem d_Check_goes_83 : decode b_Check_goes 83 = .ok (.goto (-37), 3) := by decide +kernel
theorem d_Check_goes_86 : decode b_Check_goes 86 = .ok (.iload_n 3, 1) := by decide +kernel
theorem d_Check_goes_87 : decode b_Check_goes 87 = .ok (.ireturn, 1) := by decide +kernel
abbrev b_Check_passes : ByteArray := prog_4_method_3_code
abbrev J_Check_passes : MethodName × ByteArray × Nat × Option FieldType := (⟨"FaslDesk$CodeCheck", "passes", "(II)Z"⟩, b_Check_passes, 6, (some .boolean))
theorem d_Check_passes_0 : decode b_Check_passes 0 = .ok (.aload_n 0, 1) := by decide +kernel
theorem d_Check_passes_1 : decode b_Check_passes 1 = .ok (.getfield 18, 3) := by decide +kernel
theorem d_Check_passes_4 : decode b_Check_passes 4 = .ok (.getfield 38, 3) := by decide +kernel
theorem d_Check_passes_7 : decode b_Check_passes 7 = .ok (.iload_n 1, 1) := by decide +kernel
theorem d_Check_passes_8 : decode b_Check_passes 8 = .ok (.iaload, 1) := by decide +kernel
theorem d_Check_passes_9 : decode b_Check_passes 9 = .ok (.istore_n 3, 1) := by decide +kernel
theorem d_Check_passes_10 : decode b_Check_passes 10 = .ok (.aload_n 0, 1) := by decide +kernel
theorem d_Check_passes_11 : decode b_Check_passes 11 = .ok (.getfield 9, 3) := by decide +kernel
theorem d_Check_passes_14 : decode b_Check_passes 14 = .ok (.iload_n 1, 1) := by decide +kernel
theorem d_Check_passes_15 : decode b_Check_passes 15 = .ok (.iaload, 1) := by decide +kernel
theorem d_Check_passes_16 : decode b_Check_passes 16 = .ok (.getstatic 41, 3) := by decide +kernel
theorem d_Check_passes_19 : decode b_Check_passes 19 = .ok (.iload_n 3, 1) := by decide +kernel
theorem d_Check_passes_20 : decode b_Check_passes 20 = .ok (.iaload, 1) := by decide +kernel
theorem d_Check_passes_21 : decode b_Check_passes 21 = .ok (.isub, 1) := by decide +kernel
theorem d_Check_passes_22 : decode b_Check_passes 22 = .ok (.istore 4, 2) := by decide +kernel
theorem d_Check_passes_24 : decode b_Check_passes 24 = .ok (.iload 4, 2) := by decide +kernel
theorem d_Check_passes_26 : decode b_Check_passes 26 = .ok (.ifCond .lt 15, 3) := by decide +kernel
theorem d_Check_passes_29 : decode b_Check_passes 29 = .ok (.iload 4, 2) := by decide +kernel
theorem d_Check_passes_31 : decode b_Check_passes 31 = .ok (.getstatic 44, 3) := by decide +kernel
theorem d_Check_passes_34 : decode b_Check_passes 34 = .ok (.iload_n 3, 1) := by decide +kernel
theorem d_Check_passes_35 : decode b_Check_passes 35 = .ok (.iaload, 1) := by decide +kernel
theorem d_Check_passes_36 : decode b_Check_passes 36 = .ok (.iadd, 1) := by decide +kernel
theorem d_Check_passes_37 : decode b_Check_passes 37 = .ok (.iload_n 2, 1) := by decide +kernel
theorem d_Check_passes_38 : decode b_Check_passes 38 = .ok (.if_icmp .le 5, 3) := by decide +kernel
theorem d_Check_passes_41 : decode b_Check_passes 41 = .ok (.iconst 0, 1) := by decide +kernel
theorem d_Check_passes_42 : decode b_Check_passes 42 = .ok (.ireturn, 1) := by decide +kernel
theorem d_Check_passes_43 : decode b_Check_passes 43 = .ok (.iload 4, 2) := by decide +kernel
theorem d_Check_passes_45 : decode b_Check_passes 45 = .ok (.getstatic 44, 3) := by decide +kernel
theorem d_Check_passes_48 : decode b_Check_passes 48 = .ok (.iload_n 3, 1) := by decide +kernel
theorem d_Check_passes_49 : decode b_Check_passes 49 = .ok (.iaload, 1) := by decide +kernel
theorem d_Check_passes_50 : decode b_Check_passes 50 = .ok (.iadd, 1) := by decide +kernel
theorem d_Check_passes_51 : decode b_Check_passes 51 = .ok (.istore 5, 2) := by decide +kernel
theorem d_Check_passes_53 : decode b_Check_passes 53 = .ok (.iload_n 3, 1) := by decide +kernel
theorem d_Check_passes_54 : decode b_Check_passes 54 = .ok (.tableswitch 84 14 17 #[48, 32, 84, 30], 30) := by decide +kernel
theorem d_Check_passes_84 : decode b_Check_passes 84 = .ok (.iconst 1, 1) := by decide +kernel
theorem d_Check_passes_85 : decode b_Check_passes 85 = .ok (.ireturn, 1) := by decide +kernel
theorem d_Check_passes_86 : decode b_Check_passes 86 = .ok (.aload_n 0, 1) := by decide +kernel
theorem d_Check_passes_87 : decode b_Check_passes 87 = .ok (.aload_n 0, 1) := by decide +kernel
theorem d_Check_passes_88 : decode b_Check_passes 88 = .ok (.getfield 18, 3) := by decide +kernel
theorem d_Check_passes_91 : decode b_Check_passes 91 = .ok (.getfield 47, 3) := by decide +kernel
theorem d_Check_passes_94 : decode b_Check_passes 94 = .ok (.iload_n 1, 1) := by decide +kernel
theorem d_Check_passes_95 : decode b_Check_passes 95 = .ok (.iaload, 1) := by decide +kernel
theorem d_Check_passes_96 : decode b_Check_passes 96 = .ok (.iload 5, 2) := by decide +kernel
theorem d_Check_passes_98 : decode b_Check_passes 98 = .ok (.invokevirtual 31, 3) := by decide +kernel
theorem d_Check_passes_101 : decode b_Check_passes 101 = .ok (.ireturn, 1) := by decide +kernel
theorem d_Check_passes_102 : decode b_Check_passes 102 = .ok (.aload_n 0, 1) := by decide +kernel
theorem d_Check_passes_103 : decode b_Check_passes 103 = .ok (.iload_n 1, 1) := by decide +kernel
theorem d_Check_passes_104 : decode b_Check_passes 104 = .ok (.iconst 1, 1) := by decide +kernel
theorem d_Check_passes_105 : decode b_Check_passes 105 = .ok (.iadd, 1) := by decide +kernel
theorem d_Check_passes_106 : decode b_Check_passes 106 = .ok (.iload 5, 2) := by decide +kernel
theorem d_Check_passes_108 : decode b_Check_passes 108 = .ok (.invokevirtual 31, 3) := by decide +kernel
theorem d_Check_passes_111 : decode b_Check_passes 111 = .ok (.ifCond .eq 25, 3) := by decide +kernel
theorem d_Check_passes_114 : decode b_Check_passes 114 = .ok (.aload_n 0, 1) := by decide +kernel
theorem d_Check_passes_115 : decode b_Check_passes 115 = .ok (.aload_n 0, 1) := by decide +kernel
theorem d_Check_passes_116 : decode b_Check_passes 116 = .ok (.getfield 18, 3) := by decide +kernel
theorem d_Check_passes_119 : decode b_Check_passes 119 = .ok (.getfield 50, 3) := by decide +kernel
theorem d_Check_passes_122 : decode b_Check_passes 122 = .ok (.iload_n 1, 1) := by decide +kernel
theorem d_Check_passes_123 : decode b_Check_passes 123 = .ok (.iaload, 1) := by decide +kernel
theorem d_Check_passes_124 : decode b_Check_passes 124 = .ok (.iload 5, 2) := by decide +kernel
theorem d_Check_passes_126 : decode b_Check_passes 126 = .ok (.invokevirtual 31, 3) := by decide +kernel
theorem d_Check_passes_129 : decode b_Check_passes 129 = .ok (.ifCond .eq 7, 3) := by decide +kernel
theorem d_Check_passes_132 : decode b_Check_passes 132 = .ok (.iconst 1, 1) := by decide +kernel
theorem d_Check_passes_133 : decode b_Check_passes 133 = .ok (.goto 4, 3) := by decide +kernel
theorem d_Check_passes_136 : decode b_Check_passes 136 = .ok (.iconst 0, 1) := by decide +kernel
theorem d_Check_passes_137 : decode b_Check_passes 137 = .ok (.ireturn, 1) := by decide +kernel
theorem d_Check_passes_138 : decode b_Check_passes 138 = .ok (.aload_n 0, 1) := by decide +kernel
theorem d_Check_passes_139 : decode b_Check_passes 139 = .ok (.iload_n 1, 1) := by decide +kernel
theorem d_Check_passes_140 : decode b_Check_passes 140 = .ok (.iconst 1, 1) := by decide +kernel
theorem d_Check_passes_141 : decode b_Check_passes 141 = .ok (.iadd, 1) := by decide +kernel
theorem d_Check_passes_142 : decode b_Check_passes 142 = .ok (.iload 5, 2) := by decide +kernel
theorem d_Check_passes_144 : decode b_Check_passes 144 = .ok (.invokevirtual 31, 3) := by decide +kernel
theorem d_Check_passes_147 : decode b_Check_passes 147 = .ok (.ireturn, 1) := by decide +kernel
abbrev b_Check_reach : ByteArray := prog_4_method_4_code
abbrev J_Check_reach : MethodName × ByteArray × Nat × Option FieldType := (⟨"FaslDesk$CodeCheck", "reach", "(II)Z"⟩, b_Check_reach, 3, (some .boolean))
theorem d_Check_reach_0 : decode b_Check_reach 0 = .ok (.iload_n 1, 1) := by decide +kernel
theorem d_Check_reach_1 : decode b_Check_reach 1 = .ok (.ifCond .lt 14, 3) := by decide +kernel
theorem d_Check_reach_4 : decode b_Check_reach 4 = .ok (.iload_n 1, 1) := by decide +kernel
theorem d_Check_reach_5 : decode b_Check_reach 5 = .ok (.aload_n 0, 1) := by decide +kernel
theorem d_Check_reach_6 : decode b_Check_reach 6 = .ok (.getfield 18, 3) := by decide +kernel
theorem d_Check_reach_9 : decode b_Check_reach 9 = .ok (.getfield 26, 3) := by decide +kernel
theorem d_Check_reach_12 : decode b_Check_reach 12 = .ok (.if_icmp .lt 5, 3) := by decide +kernel
theorem d_Check_reach_15 : decode b_Check_reach 15 = .ok (.iconst 0, 1) := by decide +kernel
theorem d_Check_reach_16 : decode b_Check_reach 16 = .ok (.ireturn, 1) := by decide +kernel
theorem d_Check_reach_17 : decode b_Check_reach 17 = .ok (.aload_n 0, 1) := by decide +kernel
theorem d_Check_reach_18 : decode b_Check_reach 18 = .ok (.getfield 9, 3) := by decide +kernel
theorem d_Check_reach_21 : decode b_Check_reach 21 = .ok (.iload_n 1, 1) := by decide +kernel
theorem d_Check_reach_22 : decode b_Check_reach 22 = .ok (.iaload, 1) := by decide +kernel
theorem d_Check_reach_23 : decode b_Check_reach 23 = .ok (.iconst (-1), 1) := by decide +kernel
theorem d_Check_reach_24 : decode b_Check_reach 24 = .ok (.if_icmp .ne 30, 3) := by decide +kernel
theorem d_Check_reach_27 : decode b_Check_reach 27 = .ok (.aload_n 0, 1) := by decide +kernel
theorem d_Check_reach_28 : decode b_Check_reach 28 = .ok (.getfield 9, 3) := by decide +kernel
theorem d_Check_reach_31 : decode b_Check_reach 31 = .ok (.iload_n 1, 1) := by decide +kernel
theorem d_Check_reach_32 : decode b_Check_reach 32 = .ok (.iload_n 2, 1) := by decide +kernel
theorem d_Check_reach_33 : decode b_Check_reach 33 = .ok (.iastore, 1) := by decide +kernel
theorem d_Check_reach_34 : decode b_Check_reach 34 = .ok (.aload_n 0, 1) := by decide +kernel
theorem d_Check_reach_35 : decode b_Check_reach 35 = .ok (.getfield 15, 3) := by decide +kernel
theorem d_Check_reach_38 : decode b_Check_reach 38 = .ok (.aload_n 0, 1) := by decide +kernel
theorem d_Check_reach_39 : decode b_Check_reach 39 = .ok (.getfield 22, 3) := by decide +kernel
theorem d_Check_reach_42 : decode b_Check_reach 42 = .ok (.iload_n 1, 1) := by decide +kernel
theorem d_Check_reach_43 : decode b_Check_reach 43 = .ok (.iastore, 1) := by decide +kernel
theorem d_Check_reach_44 : decode b_Check_reach 44 = .ok (.aload_n 0, 1) := by decide +kernel
theorem d_Check_reach_45 : decode b_Check_reach 45 = .ok (.dup, 1) := by decide +kernel
theorem d_Check_reach_46 : decode b_Check_reach 46 = .ok (.getfield 22, 3) := by decide +kernel
theorem d_Check_reach_49 : decode b_Check_reach 49 = .ok (.iconst 1, 1) := by decide +kernel
theorem d_Check_reach_50 : decode b_Check_reach 50 = .ok (.iadd, 1) := by decide +kernel
theorem d_Check_reach_51 : decode b_Check_reach 51 = .ok (.putfield 22, 3) := by decide +kernel
theorem d_Check_reach_54 : decode b_Check_reach 54 = .ok (.aload_n 0, 1) := by decide +kernel
theorem d_Check_reach_55 : decode b_Check_reach 55 = .ok (.getfield 9, 3) := by decide +kernel
theorem d_Check_reach_58 : decode b_Check_reach 58 = .ok (.iload_n 1, 1) := by decide +kernel
theorem d_Check_reach_59 : decode b_Check_reach 59 = .ok (.iaload, 1) := by decide +kernel
theorem d_Check_reach_60 : decode b_Check_reach 60 = .ok (.iload_n 2, 1) := by decide +kernel
theorem d_Check_reach_61 : decode b_Check_reach 61 = .ok (.if_icmp .ne 7, 3) := by decide +kernel
theorem d_Check_reach_64 : decode b_Check_reach 64 = .ok (.iconst 1, 1) := by decide +kernel
theorem d_Check_reach_65 : decode b_Check_reach 65 = .ok (.goto 4, 3) := by decide +kernel
theorem d_Check_reach_68 : decode b_Check_reach 68 = .ok (.iconst 0, 1) := by decide +kernel
theorem d_Check_reach_69 : decode b_Check_reach 69 = .ok (.ireturn, 1) := by decide +kernel
abbrev b_Comp_init : ByteArray := prog_5_method_1_code
abbrev J_Comp_init : MethodName × ByteArray × Nat × Option FieldType := (⟨"FaslDesk$Compiler", "<init>", "()V"⟩, b_Comp_init, 1, none)
theorem d_Comp_init_0 : decode b_Comp_init 0 = .ok (.aload_n 0, 1) := by decide +kernel
theorem d_Comp_init_1 : decode b_Comp_init 1 = .ok (.invokespecial 3, 3) := by decide +kernel
theorem d_Comp_init_4 : decode b_Comp_init 4 = .ok (.return_, 1) := by decide +kernel
abbrev b_Comp_translate : ByteArray := prog_5_method_2_code
abbrev J_Comp_translate : MethodName × ByteArray × Nat × Option FieldType := (⟨"FaslDesk$Compiler", "translate", "(LFaslDesk$Form;LFaslDesk$Entry;)V"⟩, b_Comp_translate, 4, none)
theorem d_Comp_translate_0 : decode b_Comp_translate 0 = .ok (.aload_n 0, 1) := by decide +kernel
theorem d_Comp_translate_1 : decode b_Comp_translate 1 = .ok (.aload_n 1, 1) := by decide +kernel
theorem d_Comp_translate_2 : decode b_Comp_translate 2 = .ok (.putfield 9, 3) := by decide +kernel
theorem d_Comp_translate_5 : decode b_Comp_translate 5 = .ok (.aload_n 0, 1) := by decide +kernel
theorem d_Comp_translate_6 : decode b_Comp_translate 6 = .ok (.aload_n 2, 1) := by decide +kernel
theorem d_Comp_translate_7 : decode b_Comp_translate 7 = .ok (.putfield 15, 3) := by decide +kernel
theorem d_Comp_translate_10 : decode b_Comp_translate 10 = .ok (.aload_n 0, 1) := by decide +kernel
theorem d_Comp_translate_11 : decode b_Comp_translate 11 = .ok (.aload_n 2, 1) := by decide +kernel
theorem d_Comp_translate_12 : decode b_Comp_translate 12 = .ok (.getfield 19, 3) := by decide +kernel
theorem d_Comp_translate_15 : decode b_Comp_translate 15 = .ok (.putfield 25, 3) := by decide +kernel
theorem d_Comp_translate_18 : decode b_Comp_translate 18 = .ok (.aload_n 0, 1) := by decide +kernel
theorem d_Comp_translate_19 : decode b_Comp_translate 19 = .ok (.iconst 0, 1) := by decide +kernel
theorem d_Comp_translate_20 : decode b_Comp_translate 20 = .ok (.putfield 26, 3) := by decide +kernel
theorem d_Comp_translate_23 : decode b_Comp_translate 23 = .ok (.aload_n 0, 1) := by decide +kernel
theorem d_Comp_translate_24 : decode b_Comp_translate 24 = .ok (.getfield 15, 3) := by decide +kernel
theorem d_Comp_translate_27 : decode b_Comp_translate 27 = .ok (.aload_n 0, 1) := by decide +kernel
theorem d_Comp_translate_28 : decode b_Comp_translate 28 = .ok (.getfield 9, 3) := by decide +kernel
theorem d_Comp_translate_31 : decode b_Comp_translate 31 = .ok (.getfield 30, 3) := by decide +kernel
theorem d_Comp_translate_34 : decode b_Comp_translate 34 = .ok (.invokevirtual 35, 3) := by decide +kernel
theorem d_Comp_translate_37 : decode b_Comp_translate 37 = .ok (.aload_n 0, 1) := by decide +kernel
theorem d_Comp_translate_38 : decode b_Comp_translate 38 = .ok (.getfield 9, 3) := by decide +kernel
theorem d_Comp_translate_41 : decode b_Comp_translate 41 = .ok (.getfield 30, 3) := by decide +kernel
theorem d_Comp_translate_44 : decode b_Comp_translate 44 = .ok (.istore_n 3, 1) := by decide +kernel
theorem d_Comp_translate_45 : decode b_Comp_translate 45 = .ok (.iload_n 3, 1) := by decide +kernel
theorem d_Comp_translate_46 : decode b_Comp_translate 46 = .ok (.bipush 7, 2) := by decide +kernel
theorem d_Comp_translate_48 : decode b_Comp_translate 48 = .ok (.if_icmp .ge 22, 3) := by decide +kernel
theorem d_Comp_translate_51 : decode b_Comp_translate 51 = .ok (.aload_n 0, 1) := by decide +kernel
theorem d_Comp_translate_52 : decode b_Comp_translate 52 = .ok (.iconst 0, 1) := by decide +kernel
theorem d_Comp_translate_53 : decode b_Comp_translate 53 = .ok (.iconst 0, 1) := by decide +kernel
theorem d_Comp_translate_54 : decode b_Comp_translate 54 = .ok (.invokevirtual 41, 3) := by decide +kernel
theorem d_Comp_translate_57 : decode b_Comp_translate 57 = .ok (.aload_n 0, 1) := by decide +kernel
theorem d_Comp_translate_58 : decode b_Comp_translate 58 = .ok (.bipush 13, 2) := by decide +kernel
theorem d_Comp_translate_60 : decode b_Comp_translate 60 = .ok (.iload_n 3, 1) := by decide +kernel
theorem d_Comp_translate_61 : decode b_Comp_translate 61 = .ok (.invokevirtual 41, 3) := by decide +kernel
theorem d_Comp_translate_64 : decode b_Comp_translate 64 = .ok (.iinc 3 1, 3) := by decide +kernel
theorem d_Comp_translate_67 : decode b_Comp_translate 67 = .ok (.goto (-22), 3) := by decide +kernel
theorem d_Comp_translate_70 : decode b_Comp_translate 70 = .ok (.aload_n 0, 1) := by decide +kernel
theorem d_Comp_translate_71 : decode b_Comp_translate 71 = .ok (.iconst 0, 1) := by decide +kernel
theorem d_Comp_translate_72 : decode b_Comp_translate 72 = .ok (.invokevirtual 45, 3) := by decide +kernel
theorem d_Comp_translate_75 : decode b_Comp_translate 75 = .ok (.aload_n 0, 1) := by decide +kernel
theorem d_Comp_translate_76 : decode b_Comp_translate 76 = .ok (.bipush 17, 2) := by decide +kernel
theorem d_Comp_translate_78 : decode b_Comp_translate 78 = .ok (.iconst 0, 1) := by decide +kernel
theorem d_Comp_translate_79 : decode b_Comp_translate 79 = .ok (.invokevirtual 41, 3) := by decide +kernel
theorem d_Comp_translate_82 : decode b_Comp_translate 82 = .ok (.return_, 1) := by decide +kernel
