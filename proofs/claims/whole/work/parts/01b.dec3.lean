/-! more decode rows -/
abbrev b_Model_thrown : ByteArray := prog_14_method_25_code
abbrev J_Model_thrown : MethodName × ByteArray × Nat × Option FieldType := (⟨"FaslDeskModel", "thrown", "()I"⟩, b_Model_thrown, 1, (some .int))
theorem d_Model_thrown_0 : decode b_Model_thrown 0 = .ok (.aload_n 0, 1) := by decide +kernel
theorem d_Model_thrown_1 : decode b_Model_thrown 1 = .ok (.getfield 155, 3) := by decide +kernel
theorem d_Model_thrown_4 : decode b_Model_thrown 4 = .ok (.ireturn, 1) := by decide +kernel
abbrev b_Model_copyUnits : ByteArray := prog_14_method_26_code
abbrev J_Model_copyUnits : MethodName × ByteArray × Nat × Option FieldType := (⟨"FaslDeskModel", "copyUnits", "(II)V"⟩, b_Model_copyUnits, 6, none)
theorem d_Model_copyUnits_0 : decode b_Model_copyUnits 0 = .ok (.aload_n 0, 1) := by decide +kernel
theorem d_Model_copyUnits_1 : decode b_Model_copyUnits 1 = .ok (.getfield 37, 3) := by decide +kernel
theorem d_Model_copyUnits_4 : decode b_Model_copyUnits 4 = .ok (.iload_n 1, 1) := by decide +kernel
theorem d_Model_copyUnits_5 : decode b_Model_copyUnits 5 = .ok (.aload_n 0, 1) := by decide +kernel
theorem d_Model_copyUnits_6 : decode b_Model_copyUnits 6 = .ok (.getfield 37, 3) := by decide +kernel
theorem d_Model_copyUnits_9 : decode b_Model_copyUnits 9 = .ok (.iload_n 2, 1) := by decide +kernel
theorem d_Model_copyUnits_10 : decode b_Model_copyUnits 10 = .ok (.iaload, 1) := by decide +kernel
theorem d_Model_copyUnits_11 : decode b_Model_copyUnits 11 = .ok (.iastore, 1) := by decide +kernel
theorem d_Model_copyUnits_12 : decode b_Model_copyUnits 12 = .ok (.aload_n 0, 1) := by decide +kernel
theorem d_Model_copyUnits_13 : decode b_Model_copyUnits 13 = .ok (.getfield 40, 3) := by decide +kernel
theorem d_Model_copyUnits_16 : decode b_Model_copyUnits 16 = .ok (.iload_n 1, 1) := by decide +kernel
theorem d_Model_copyUnits_17 : decode b_Model_copyUnits 17 = .ok (.aload_n 0, 1) := by decide +kernel
theorem d_Model_copyUnits_18 : decode b_Model_copyUnits 18 = .ok (.getfield 40, 3) := by decide +kernel
theorem d_Model_copyUnits_21 : decode b_Model_copyUnits 21 = .ok (.iload_n 2, 1) := by decide +kernel
theorem d_Model_copyUnits_22 : decode b_Model_copyUnits 22 = .ok (.iaload, 1) := by decide +kernel
theorem d_Model_copyUnits_23 : decode b_Model_copyUnits 23 = .ok (.iastore, 1) := by decide +kernel
theorem d_Model_copyUnits_24 : decode b_Model_copyUnits 24 = .ok (.iconst 0, 1) := by decide +kernel
theorem d_Model_copyUnits_25 : decode b_Model_copyUnits 25 = .ok (.istore_n 3, 1) := by decide +kernel
theorem d_Model_copyUnits_26 : decode b_Model_copyUnits 26 = .ok (.iload_n 3, 1) := by decide +kernel
theorem d_Model_copyUnits_27 : decode b_Model_copyUnits 27 = .ok (.aload_n 0, 1) := by decide +kernel
theorem d_Model_copyUnits_28 : decode b_Model_copyUnits 28 = .ok (.getfield 37, 3) := by decide +kernel
theorem d_Model_copyUnits_31 : decode b_Model_copyUnits 31 = .ok (.iload_n 2, 1) := by decide +kernel
theorem d_Model_copyUnits_32 : decode b_Model_copyUnits 32 = .ok (.iaload, 1) := by decide +kernel
theorem d_Model_copyUnits_33 : decode b_Model_copyUnits 33 = .ok (.if_icmp .ge 83, 3) := by decide +kernel
theorem d_Model_copyUnits_36 : decode b_Model_copyUnits 36 = .ok (.sipush 280, 3) := by decide +kernel
theorem d_Model_copyUnits_39 : decode b_Model_copyUnits 39 = .ok (.iload_n 1, 1) := by decide +kernel
theorem d_Model_copyUnits_40 : decode b_Model_copyUnits 40 = .ok (.imul, 1) := by decide +kernel
theorem d_Model_copyUnits_41 : decode b_Model_copyUnits 41 = .ok (.iload_n 3, 1) := by decide +kernel
theorem d_Model_copyUnits_42 : decode b_Model_copyUnits 42 = .ok (.iadd, 1) := by decide +kernel
theorem d_Model_copyUnits_43 : decode b_Model_copyUnits 43 = .ok (.istore 4, 2) := by decide +kernel
theorem d_Model_copyUnits_45 : decode b_Model_copyUnits 45 = .ok (.sipush 280, 3) := by decide +kernel
theorem d_Model_copyUnits_48 : decode b_Model_copyUnits 48 = .ok (.iload_n 2, 1) := by decide +kernel
theorem d_Model_copyUnits_49 : decode b_Model_copyUnits 49 = .ok (.imul, 1) := by decide +kernel
theorem d_Model_copyUnits_50 : decode b_Model_copyUnits 50 = .ok (.iload_n 3, 1) := by decide +kernel
theorem d_Model_copyUnits_51 : decode b_Model_copyUnits 51 = .ok (.iadd, 1) := by decide +kernel
theorem d_Model_copyUnits_52 : decode b_Model_copyUnits 52 = .ok (.istore 5, 2) := by decide +kernel
theorem d_Model_copyUnits_54 : decode b_Model_copyUnits 54 = .ok (.aload_n 0, 1) := by decide +kernel
theorem d_Model_copyUnits_55 : decode b_Model_copyUnits 55 = .ok (.getfield 28, 3) := by decide +kernel
theorem d_Model_copyUnits_58 : decode b_Model_copyUnits 58 = .ok (.iload 4, 2) := by decide +kernel
theorem d_Model_copyUnits_60 : decode b_Model_copyUnits 60 = .ok (.aload_n 0, 1) := by decide +kernel
theorem d_Model_copyUnits_61 : decode b_Model_copyUnits 61 = .ok (.getfield 28, 3) := by decide +kernel
theorem d_Model_copyUnits_64 : decode b_Model_copyUnits 64 = .ok (.iload 5, 2) := by decide +kernel
theorem d_Model_copyUnits_66 : decode b_Model_copyUnits 66 = .ok (.iaload, 1) := by decide +kernel
theorem d_Model_copyUnits_67 : decode b_Model_copyUnits 67 = .ok (.iastore, 1) := by decide +kernel
theorem d_Model_copyUnits_68 : decode b_Model_copyUnits 68 = .ok (.aload_n 0, 1) := by decide +kernel
theorem d_Model_copyUnits_69 : decode b_Model_copyUnits 69 = .ok (.getfield 31, 3) := by decide +kernel
theorem d_Model_copyUnits_72 : decode b_Model_copyUnits 72 = .ok (.iload 4, 2) := by decide +kernel
theorem d_Model_copyUnits_74 : decode b_Model_copyUnits 74 = .ok (.aload_n 0, 1) := by decide +kernel
theorem d_Model_copyUnits_75 : decode b_Model_copyUnits 75 = .ok (.getfield 31, 3) := by decide +kernel
theorem d_Model_copyUnits_78 : decode b_Model_copyUnits 78 = .ok (.iload 5, 2) := by decide +kernel
theorem d_Model_copyUnits_80 : decode b_Model_copyUnits 80 = .ok (.iaload, 1) := by decide +kernel
theorem d_Model_copyUnits_81 : decode b_Model_copyUnits 81 = .ok (.iastore, 1) := by decide +kernel
theorem d_Model_copyUnits_82 : decode b_Model_copyUnits 82 = .ok (.aload_n 0, 1) := by decide +kernel
theorem d_Model_copyUnits_83 : decode b_Model_copyUnits 83 = .ok (.getfield 34, 3) := by decide +kernel
theorem d_Model_copyUnits_86 : decode b_Model_copyUnits 86 = .ok (.iload 4, 2) := by decide +kernel
theorem d_Model_copyUnits_88 : decode b_Model_copyUnits 88 = .ok (.aload_n 0, 1) := by decide +kernel
theorem d_Model_copyUnits_89 : decode b_Model_copyUnits 89 = .ok (.getfield 34, 3) := by decide +kernel
theorem d_Model_copyUnits_92 : decode b_Model_copyUnits 92 = .ok (.iload 5, 2) := by decide +kernel
theorem d_Model_copyUnits_94 : decode b_Model_copyUnits 94 = .ok (.iaload, 1) := by decide +kernel
theorem d_Model_copyUnits_95 : decode b_Model_copyUnits 95 = .ok (.iastore, 1) := by decide +kernel
theorem d_Model_copyUnits_96 : decode b_Model_copyUnits 96 = .ok (.aload_n 0, 1) := by decide +kernel
theorem d_Model_copyUnits_97 : decode b_Model_copyUnits 97 = .ok (.getfield 46, 3) := by decide +kernel
theorem d_Model_copyUnits_100 : decode b_Model_copyUnits 100 = .ok (.iload 4, 2) := by decide +kernel
theorem d_Model_copyUnits_102 : decode b_Model_copyUnits 102 = .ok (.aload_n 0, 1) := by decide +kernel
theorem d_Model_copyUnits_103 : decode b_Model_copyUnits 103 = .ok (.getfield 46, 3) := by decide +kernel
theorem d_Model_copyUnits_106 : decode b_Model_copyUnits 106 = .ok (.iload 5, 2) := by decide +kernel
theorem d_Model_copyUnits_108 : decode b_Model_copyUnits 108 = .ok (.baload, 1) := by decide +kernel
theorem d_Model_copyUnits_109 : decode b_Model_copyUnits 109 = .ok (.bastore, 1) := by decide +kernel
theorem d_Model_copyUnits_110 : decode b_Model_copyUnits 110 = .ok (.iinc 3 1, 3) := by decide +kernel
theorem d_Model_copyUnits_113 : decode b_Model_copyUnits 113 = .ok (.goto (-87), 3) := by decide +kernel
theorem d_Model_copyUnits_116 : decode b_Model_copyUnits 116 = .ok (.return_, 1) := by decide +kernel
abbrev b_Model_seal : ByteArray := prog_14_method_27_code
abbrev J_Model_seal : MethodName × ByteArray × Nat × Option FieldType := (⟨"FaslDeskModel", "seal", "(I)V"⟩, b_Model_seal, 3, none)
theorem d_Model_seal_0 : decode b_Model_seal 0 = .ok (.aload_n 0, 1) := by decide +kernel
theorem d_Model_seal_1 : decode b_Model_seal 1 = .ok (.getfield 68, 3) := by decide +kernel
theorem d_Model_seal_4 : decode b_Model_seal 4 = .ok (.iload_n 1, 1) := by decide +kernel
theorem d_Model_seal_5 : decode b_Model_seal 5 = .ok (.aload_n 0, 1) := by decide +kernel
theorem d_Model_seal_6 : decode b_Model_seal 6 = .ok (.getfield 59, 3) := by decide +kernel
theorem d_Model_seal_9 : decode b_Model_seal 9 = .ok (.iload_n 1, 1) := by decide +kernel
theorem d_Model_seal_10 : decode b_Model_seal 10 = .ok (.iaload, 1) := by decide +kernel
theorem d_Model_seal_11 : decode b_Model_seal 11 = .ok (.iastore, 1) := by decide +kernel
theorem d_Model_seal_12 : decode b_Model_seal 12 = .ok (.aload_n 0, 1) := by decide +kernel
theorem d_Model_seal_13 : decode b_Model_seal 13 = .ok (.getfield 56, 3) := by decide +kernel
theorem d_Model_seal_16 : decode b_Model_seal 16 = .ok (.iload_n 1, 1) := by decide +kernel
theorem d_Model_seal_17 : decode b_Model_seal 17 = .ok (.aload_n 0, 1) := by decide +kernel
theorem d_Model_seal_18 : decode b_Model_seal 18 = .ok (.getfield 53, 3) := by decide +kernel
theorem d_Model_seal_21 : decode b_Model_seal 21 = .ok (.iload_n 1, 1) := by decide +kernel
theorem d_Model_seal_22 : decode b_Model_seal 22 = .ok (.baload, 1) := by decide +kernel
theorem d_Model_seal_23 : decode b_Model_seal 23 = .ok (.bastore, 1) := by decide +kernel
theorem d_Model_seal_24 : decode b_Model_seal 24 = .ok (.iconst 0, 1) := by decide +kernel
theorem d_Model_seal_25 : decode b_Model_seal 25 = .ok (.istore_n 2, 1) := by decide +kernel
theorem d_Model_seal_26 : decode b_Model_seal 26 = .ok (.iload_n 2, 1) := by decide +kernel
theorem d_Model_seal_27 : decode b_Model_seal 27 = .ok (.aload_n 0, 1) := by decide +kernel
theorem d_Model_seal_28 : decode b_Model_seal 28 = .ok (.getfield 37, 3) := by decide +kernel
theorem d_Model_seal_31 : decode b_Model_seal 31 = .ok (.bipush 8, 2) := by decide +kernel
theorem d_Model_seal_33 : decode b_Model_seal 33 = .ok (.iload_n 1, 1) := by decide +kernel
theorem d_Model_seal_34 : decode b_Model_seal 34 = .ok (.iadd, 1) := by decide +kernel
theorem d_Model_seal_35 : decode b_Model_seal 35 = .ok (.iaload, 1) := by decide +kernel
theorem d_Model_seal_36 : decode b_Model_seal 36 = .ok (.if_icmp .ge 36, 3) := by decide +kernel
theorem d_Model_seal_39 : decode b_Model_seal 39 = .ok (.aload_n 0, 1) := by decide +kernel
theorem d_Model_seal_40 : decode b_Model_seal 40 = .ok (.getfield 71, 3) := by decide +kernel
theorem d_Model_seal_43 : decode b_Model_seal 43 = .ok (.sipush 280, 3) := by decide +kernel
theorem d_Model_seal_46 : decode b_Model_seal 46 = .ok (.iload_n 1, 1) := by decide +kernel
theorem d_Model_seal_47 : decode b_Model_seal 47 = .ok (.imul, 1) := by decide +kernel
theorem d_Model_seal_48 : decode b_Model_seal 48 = .ok (.iload_n 2, 1) := by decide +kernel
theorem d_Model_seal_49 : decode b_Model_seal 49 = .ok (.iadd, 1) := by decide +kernel
theorem d_Model_seal_50 : decode b_Model_seal 50 = .ok (.aload_n 0, 1) := by decide +kernel
theorem d_Model_seal_51 : decode b_Model_seal 51 = .ok (.getfield 28, 3) := by decide +kernel
theorem d_Model_seal_54 : decode b_Model_seal 54 = .ok (.sipush 280, 3) := by decide +kernel
theorem d_Model_seal_57 : decode b_Model_seal 57 = .ok (.bipush 8, 2) := by decide +kernel
theorem d_Model_seal_59 : decode b_Model_seal 59 = .ok (.iload_n 1, 1) := by decide +kernel
theorem d_Model_seal_60 : decode b_Model_seal 60 = .ok (.iadd, 1) := by decide +kernel
theorem d_Model_seal_61 : decode b_Model_seal 61 = .ok (.imul, 1) := by decide +kernel
theorem d_Model_seal_62 : decode b_Model_seal 62 = .ok (.iload_n 2, 1) := by decide +kernel
theorem d_Model_seal_63 : decode b_Model_seal 63 = .ok (.iadd, 1) := by decide +kernel
theorem d_Model_seal_64 : decode b_Model_seal 64 = .ok (.iaload, 1) := by decide +kernel
theorem d_Model_seal_65 : decode b_Model_seal 65 = .ok (.iastore, 1) := by decide +kernel
theorem d_Model_seal_66 : decode b_Model_seal 66 = .ok (.iinc 2 1, 3) := by decide +kernel
theorem d_Model_seal_69 : decode b_Model_seal 69 = .ok (.goto (-43), 3) := by decide +kernel
theorem d_Model_seal_72 : decode b_Model_seal 72 = .ok (.return_, 1) := by decide +kernel
abbrev b_Model_goes : ByteArray := prog_14_method_28_code
abbrev J_Model_goes : MethodName × ByteArray × Nat × Option FieldType := (⟨"FaslDeskModel", "goes", "(I)Z"⟩, b_Model_goes, 4, (some .boolean))
theorem d_Model_goes_0 : decode b_Model_goes 0 = .ok (.aload_n 0, 1) := by decide +kernel
theorem d_Model_goes_1 : decode b_Model_goes 1 = .ok (.getfield 68, 3) := by decide +kernel
theorem d_Model_goes_4 : decode b_Model_goes 4 = .ok (.iload_n 1, 1) := by decide +kernel
theorem d_Model_goes_5 : decode b_Model_goes 5 = .ok (.iaload, 1) := by decide +kernel
theorem d_Model_goes_6 : decode b_Model_goes 6 = .ok (.aload_n 0, 1) := by decide +kernel
theorem d_Model_goes_7 : decode b_Model_goes 7 = .ok (.getfield 59, 3) := by decide +kernel
theorem d_Model_goes_10 : decode b_Model_goes 10 = .ok (.iload_n 1, 1) := by decide +kernel
theorem d_Model_goes_11 : decode b_Model_goes 11 = .ok (.iaload, 1) := by decide +kernel
theorem d_Model_goes_12 : decode b_Model_goes 12 = .ok (.if_icmp .ne 22, 3) := by decide +kernel
theorem d_Model_goes_15 : decode b_Model_goes 15 = .ok (.aload_n 0, 1) := by decide +kernel
theorem d_Model_goes_16 : decode b_Model_goes 16 = .ok (.getfield 56, 3) := by decide +kernel
theorem d_Model_goes_19 : decode b_Model_goes 19 = .ok (.iload_n 1, 1) := by decide +kernel
theorem d_Model_goes_20 : decode b_Model_goes 20 = .ok (.baload, 1) := by decide +kernel
theorem d_Model_goes_21 : decode b_Model_goes 21 = .ok (.aload_n 0, 1) := by decide +kernel
theorem d_Model_goes_22 : decode b_Model_goes 22 = .ok (.getfield 53, 3) := by decide +kernel
theorem d_Model_goes_25 : decode b_Model_goes 25 = .ok (.iload_n 1, 1) := by decide +kernel
theorem d_Model_goes_26 : decode b_Model_goes 26 = .ok (.baload, 1) := by decide +kernel
theorem d_Model_goes_27 : decode b_Model_goes 27 = .ok (.if_icmp .ne 7, 3) := by decide +kernel
theorem d_Model_goes_30 : decode b_Model_goes 30 = .ok (.iconst 1, 1) := by decide +kernel
theorem d_Model_goes_31 : decode b_Model_goes 31 = .ok (.goto 4, 3) := by decide +kernel
theorem d_Model_goes_34 : decode b_Model_goes 34 = .ok (.iconst 0, 1) := by decide +kernel
theorem d_Model_goes_35 : decode b_Model_goes 35 = .ok (.istore_n 2, 1) := by decide +kernel
theorem d_Model_goes_36 : decode b_Model_goes 36 = .ok (.iconst 0, 1) := by decide +kernel
theorem d_Model_goes_37 : decode b_Model_goes 37 = .ok (.istore_n 3, 1) := by decide +kernel
theorem d_Model_goes_38 : decode b_Model_goes 38 = .ok (.iload_n 3, 1) := by decide +kernel
theorem d_Model_goes_39 : decode b_Model_goes 39 = .ok (.aload_n 0, 1) := by decide +kernel
theorem d_Model_goes_40 : decode b_Model_goes 40 = .ok (.getfield 37, 3) := by decide +kernel
theorem d_Model_goes_43 : decode b_Model_goes 43 = .ok (.bipush 8, 2) := by decide +kernel
theorem d_Model_goes_45 : decode b_Model_goes 45 = .ok (.iload_n 1, 1) := by decide +kernel
theorem d_Model_goes_46 : decode b_Model_goes 46 = .ok (.iadd, 1) := by decide +kernel
theorem d_Model_goes_47 : decode b_Model_goes 47 = .ok (.iaload, 1) := by decide +kernel
theorem d_Model_goes_48 : decode b_Model_goes 48 = .ok (.if_icmp .ge 47, 3) := by decide +kernel
theorem d_Model_goes_51 : decode b_Model_goes 51 = .ok (.iload_n 2, 1) := by decide +kernel
theorem d_Model_goes_52 : decode b_Model_goes 52 = .ok (.aload_n 0, 1) := by decide +kernel
theorem d_Model_goes_53 : decode b_Model_goes 53 = .ok (.getfield 71, 3) := by decide +kernel
theorem d_Model_goes_56 : decode b_Model_goes 56 = .ok (.sipush 280, 3) := by decide +kernel
theorem d_Model_goes_59 : decode b_Model_goes 59 = .ok (.iload_n 1, 1) := by decide +kernel
theorem d_Model_goes_60 : decode b_Model_goes 60 = .ok (.imul, 1) := by decide +kernel
theorem d_Model_goes_61 : decode b_Model_goes 61 = .ok (.iload_n 3, 1) := by decide +kernel
theorem d_Model_goes_62 : decode b_Model_goes 62 = .ok (.iadd, 1) := by decide +kernel
theorem d_Model_goes_63 : decode b_Model_goes 63 = .ok (.iaload, 1) := by decide +kernel
theorem d_Model_goes_64 : decode b_Model_goes 64 = .ok (.aload_n 0, 1) := by decide +kernel
theorem d_Model_goes_65 : decode b_Model_goes 65 = .ok (.getfield 28, 3) := by decide +kernel
theorem d_Model_goes_68 : decode b_Model_goes 68 = .ok (.sipush 280, 3) := by decide +kernel
theorem d_Model_goes_71 : decode b_Model_goes 71 = .ok (.bipush 8, 2) := by decide +kernel
theorem d_Model_goes_73 : decode b_Model_goes 73 = .ok (.iload_n 1, 1) := by decide +kernel
theorem d_Model_goes_74 : decode b_Model_goes 74 = .ok (.iadd, 1) := by decide +kernel
theorem d_Model_goes_75 : decode b_Model_goes 75 = .ok (.imul, 1) := by decide +kernel
theorem d_Model_goes_76 : decode b_Model_goes 76 = .ok (.iload_n 3, 1) := by decide +kernel
theorem d_Model_goes_77 : decode b_Model_goes 77 = .ok (.iadd, 1) := by decide +kernel
theorem d_Model_goes_78 : decode b_Model_goes 78 = .ok (.iaload, 1) := by decide +kernel
theorem d_Model_goes_79 : decode b_Model_goes 79 = .ok (.if_icmp .ne 7, 3) := by decide +kernel
theorem d_Model_goes_82 : decode b_Model_goes 82 = .ok (.iconst 1, 1) := by decide +kernel
theorem d_Model_goes_83 : decode b_Model_goes 83 = .ok (.goto 4, 3) := by decide +kernel
theorem d_Model_goes_86 : decode b_Model_goes 86 = .ok (.iconst 0, 1) := by decide +kernel
theorem d_Model_goes_87 : decode b_Model_goes 87 = .ok (.iand, 1) := by decide +kernel
theorem d_Model_goes_88 : decode b_Model_goes 88 = .ok (.istore_n 2, 1) := by decide +kernel
theorem d_Model_goes_89 : decode b_Model_goes 89 = .ok (.iinc 3 1, 3) := by decide +kernel
theorem d_Model_goes_92 : decode b_Model_goes 92 = .ok (.goto (-54), 3) := by decide +kernel
theorem d_Model_goes_95 : decode b_Model_goes 95 = .ok (.iload_n 2, 1) := by decide +kernel
theorem d_Model_goes_96 : decode b_Model_goes 96 = .ok (.ireturn, 1) := by decide +kernel
abbrev b_Model_compile : ByteArray := prog_14_method_29_code
abbrev J_Model_compile : MethodName × ByteArray × Nat × Option FieldType := (⟨"FaslDeskModel", "compile", "(I)I"⟩, b_Model_compile, 3, (some .int))
theorem d_Model_compile_0 : decode b_Model_compile 0 = .ok (.iload_n 1, 1) := by decide +kernel
theorem d_Model_compile_1 : decode b_Model_compile 1 = .ok (.iconst 0, 1) := by decide +kernel
theorem d_Model_compile_2 : decode b_Model_compile 2 = .ok (.bipush 7, 2) := by decide +kernel
theorem d_Model_compile_4 : decode b_Model_compile 4 = .ok (.invokestatic 102, 3) := by decide +kernel
theorem d_Model_compile_7 : decode b_Model_compile 7 = .ok (.ifCond .eq 12, 3) := by decide +kernel
theorem d_Model_compile_10 : decode b_Model_compile 10 = .ok (.aload_n 0, 1) := by decide +kernel
theorem d_Model_compile_11 : decode b_Model_compile 11 = .ok (.getfield 16, 3) := by decide +kernel
theorem d_Model_compile_14 : decode b_Model_compile 14 = .ok (.iload_n 1, 1) := by decide +kernel
theorem d_Model_compile_15 : decode b_Model_compile 15 = .ok (.iaload, 1) := by decide +kernel
theorem d_Model_compile_16 : decode b_Model_compile 16 = .ok (.ifCond .ne 5, 3) := by decide +kernel
theorem d_Model_compile_19 : decode b_Model_compile 19 = .ok (.iconst (-1), 1) := by decide +kernel
theorem d_Model_compile_20 : decode b_Model_compile 20 = .ok (.ireturn, 1) := by decide +kernel
theorem d_Model_compile_21 : decode b_Model_compile 21 = .ok (.iconst 0, 1) := by decide +kernel
theorem d_Model_compile_22 : decode b_Model_compile 22 = .ok (.istore_n 2, 1) := by decide +kernel
theorem d_Model_compile_23 : decode b_Model_compile 23 = .ok (.iload_n 2, 1) := by decide +kernel
theorem d_Model_compile_24 : decode b_Model_compile 24 = .ok (.aload_n 0, 1) := by decide +kernel
theorem d_Model_compile_25 : decode b_Model_compile 25 = .ok (.getfield 172, 3) := by decide +kernel
theorem d_Model_compile_28 : decode b_Model_compile 28 = .ok (.if_icmp .ge 19, 3) := by decide +kernel
theorem d_Model_compile_31 : decode b_Model_compile 31 = .ok (.aload_n 0, 1) := by decide +kernel
theorem d_Model_compile_32 : decode b_Model_compile 32 = .ok (.getfield 59, 3) := by decide +kernel
theorem d_Model_compile_35 : decode b_Model_compile 35 = .ok (.iload_n 2, 1) := by decide +kernel
theorem d_Model_compile_36 : decode b_Model_compile 36 = .ok (.iaload, 1) := by decide +kernel
theorem d_Model_compile_37 : decode b_Model_compile 37 = .ok (.iload_n 1, 1) := by decide +kernel
theorem d_Model_compile_38 : decode b_Model_compile 38 = .ok (.if_icmp .eq 9, 3) := by decide +kernel
theorem d_Model_compile_41 : decode b_Model_compile 41 = .ok (.iinc 2 1, 3) := by decide +kernel
theorem d_Model_compile_44 : decode b_Model_compile 44 = .ok (.goto (-21), 3) := by decide +kernel
theorem d_Model_compile_47 : decode b_Model_compile 47 = .ok (.iload_n 2, 1) := by decide +kernel
theorem d_Model_compile_48 : decode b_Model_compile 48 = .ok (.bipush 8, 2) := by decide +kernel
theorem d_Model_compile_50 : decode b_Model_compile 50 = .ok (.if_icmp .ne 6, 3) := by decide +kernel
theorem d_Model_compile_53 : decode b_Model_compile 53 = .ok (.bipush (-2), 2) := by decide +kernel
theorem d_Model_compile_55 : decode b_Model_compile 55 = .ok (.ireturn, 1) := by decide +kernel
theorem d_Model_compile_56 : decode b_Model_compile 56 = .ok (.iload_n 2, 1) := by decide +kernel
theorem d_Model_compile_57 : decode b_Model_compile 57 = .ok (.aload_n 0, 1) := by decide +kernel
theorem d_Model_compile_58 : decode b_Model_compile 58 = .ok (.getfield 172, 3) := by decide +kernel
theorem d_Model_compile_61 : decode b_Model_compile 61 = .ok (.if_icmp .ne 13, 3) := by decide +kernel
theorem d_Model_compile_64 : decode b_Model_compile 64 = .ok (.aload_n 0, 1) := by decide +kernel
theorem d_Model_compile_65 : decode b_Model_compile 65 = .ok (.dup, 1) := by decide +kernel
theorem d_Model_compile_66 : decode b_Model_compile 66 = .ok (.getfield 172, 3) := by decide +kernel
theorem d_Model_compile_69 : decode b_Model_compile 69 = .ok (.iconst 1, 1) := by decide +kernel
theorem d_Model_compile_70 : decode b_Model_compile 70 = .ok (.iadd, 1) := by decide +kernel
theorem d_Model_compile_71 : decode b_Model_compile 71 = .ok (.putfield 172, 3) := by decide +kernel
theorem d_Model_compile_74 : decode b_Model_compile 74 = .ok (.aload_n 0, 1) := by decide +kernel
theorem d_Model_compile_75 : decode b_Model_compile 75 = .ok (.getfield 59, 3) := by decide +kernel
theorem d_Model_compile_78 : decode b_Model_compile 78 = .ok (.iload_n 2, 1) := by decide +kernel
theorem d_Model_compile_79 : decode b_Model_compile 79 = .ok (.iload_n 1, 1) := by decide +kernel
theorem d_Model_compile_80 : decode b_Model_compile 80 = .ok (.iastore, 1) := by decide +kernel
theorem d_Model_compile_81 : decode b_Model_compile 81 = .ok (.aload_n 0, 1) := by decide +kernel
theorem d_Model_compile_82 : decode b_Model_compile 82 = .ok (.getfield 65, 3) := by decide +kernel
theorem d_Model_compile_85 : decode b_Model_compile 85 = .ok (.iload_n 2, 1) := by decide +kernel
theorem d_Model_compile_86 : decode b_Model_compile 86 = .ok (.iload_n 1, 1) := by decide +kernel
theorem d_Model_compile_87 : decode b_Model_compile 87 = .ok (.iastore, 1) := by decide +kernel
theorem d_Model_compile_88 : decode b_Model_compile 88 = .ok (.aload_n 0, 1) := by decide +kernel
theorem d_Model_compile_89 : decode b_Model_compile 89 = .ok (.getfield 62, 3) := by decide +kernel
theorem d_Model_compile_92 : decode b_Model_compile 92 = .ok (.iload_n 2, 1) := by decide +kernel
theorem d_Model_compile_93 : decode b_Model_compile 93 = .ok (.aload_n 0, 1) := by decide +kernel
theorem d_Model_compile_94 : decode b_Model_compile 94 = .ok (.getfield 19, 3) := by decide +kernel
theorem d_Model_compile_97 : decode b_Model_compile 97 = .ok (.iload_n 1, 1) := by decide +kernel
theorem d_Model_compile_98 : decode b_Model_compile 98 = .ok (.iaload, 1) := by decide +kernel
theorem d_Model_compile_99 : decode b_Model_compile 99 = .ok (.iastore, 1) := by decide +kernel
theorem d_Model_compile_100 : decode b_Model_compile 100 = .ok (.aload_n 0, 1) := by decide +kernel
theorem d_Model_compile_101 : decode b_Model_compile 101 = .ok (.getfield 53, 3) := by decide +kernel
theorem d_Model_compile_104 : decode b_Model_compile 104 = .ok (.iload_n 2, 1) := by decide +kernel
theorem d_Model_compile_105 : decode b_Model_compile 105 = .ok (.iconst 0, 1) := by decide +kernel
theorem d_Model_compile_106 : decode b_Model_compile 106 = .ok (.bastore, 1) := by decide +kernel
theorem d_Model_compile_107 : decode b_Model_compile 107 = .ok (.aload_n 0, 1) := by decide +kernel
theorem d_Model_compile_108 : decode b_Model_compile 108 = .ok (.bipush 8, 2) := by decide +kernel
theorem d_Model_compile_110 : decode b_Model_compile 110 = .ok (.iload_n 2, 1) := by decide +kernel
theorem d_Model_compile_111 : decode b_Model_compile 111 = .ok (.iadd, 1) := by decide +kernel
theorem d_Model_compile_112 : decode b_Model_compile 112 = .ok (.iload_n 1, 1) := by decide +kernel
theorem d_Model_compile_113 : decode b_Model_compile 113 = .ok (.invokevirtual 175, 3) := by decide +kernel
theorem d_Model_compile_116 : decode b_Model_compile 116 = .ok (.aload_n 0, 1) := by decide +kernel
theorem d_Model_compile_117 : decode b_Model_compile 117 = .ok (.iload_n 2, 1) := by decide +kernel
theorem d_Model_compile_118 : decode b_Model_compile 118 = .ok (.invokevirtual 178, 3) := by decide +kernel
theorem d_Model_compile_121 : decode b_Model_compile 121 = .ok (.aload_n 0, 1) := by decide +kernel
theorem d_Model_compile_122 : decode b_Model_compile 122 = .ok (.aload_n 0, 1) := by decide +kernel
theorem d_Model_compile_123 : decode b_Model_compile 123 = .ok (.getfield 172, 3) := by decide +kernel
theorem d_Model_compile_126 : decode b_Model_compile 126 = .ok (.putfield 181, 3) := by decide +kernel
theorem d_Model_compile_129 : decode b_Model_compile 129 = .ok (.iload_n 2, 1) := by decide +kernel
theorem d_Model_compile_130 : decode b_Model_compile 130 = .ok (.ireturn, 1) := by decide +kernel
abbrev b_Model_damage : ByteArray := prog_14_method_30_code
abbrev J_Model_damage : MethodName × ByteArray × Nat × Option FieldType := (⟨"FaslDeskModel", "damage", "(III)I"⟩, b_Model_damage, 4, (some .int))
theorem d_Model_damage_0 : decode b_Model_damage 0 = .ok (.iload_n 1, 1) := by decide +kernel
theorem d_Model_damage_1 : decode b_Model_damage 1 = .ok (.iconst 0, 1) := by decide +kernel
theorem d_Model_damage_2 : decode b_Model_damage 2 = .ok (.iconst 4, 1) := by decide +kernel
theorem d_Model_damage_3 : decode b_Model_damage 3 = .ok (.invokestatic 102, 3) := by decide +kernel
theorem d_Model_damage_6 : decode b_Model_damage 6 = .ok (.ifCond .eq 56, 3) := by decide +kernel
theorem d_Model_damage_9 : decode b_Model_damage 9 = .ok (.iload_n 1, 1) := by decide +kernel
theorem d_Model_damage_10 : decode b_Model_damage 10 = .ok (.ifCond .eq 8, 3) := by decide +kernel
theorem d_Model_damage_13 : decode b_Model_damage 13 = .ok (.iload_n 1, 1) := by decide +kernel
theorem d_Model_damage_14 : decode b_Model_damage 14 = .ok (.iconst 2, 1) := by decide +kernel
theorem d_Model_damage_15 : decode b_Model_damage 15 = .ok (.if_icmp .ne 13, 3) := by decide +kernel
theorem d_Model_damage_18 : decode b_Model_damage 18 = .ok (.iload_n 3, 1) := by decide +kernel
theorem d_Model_damage_19 : decode b_Model_damage 19 = .ok (.iconst 0, 1) := by decide +kernel
theorem d_Model_damage_20 : decode b_Model_damage 20 = .ok (.bipush 7, 2) := by decide +kernel
theorem d_Model_damage_22 : decode b_Model_damage 22 = .ok (.invokestatic 102, 3) := by decide +kernel
theorem d_Model_damage_25 : decode b_Model_damage 25 = .ok (.ifCond .eq 37, 3) := by decide +kernel
theorem d_Model_damage_28 : decode b_Model_damage 28 = .ok (.iload_n 1, 1) := by decide +kernel
theorem d_Model_damage_29 : decode b_Model_damage 29 = .ok (.iconst 1, 1) := by decide +kernel
theorem d_Model_damage_30 : decode b_Model_damage 30 = .ok (.if_icmp .ne 13, 3) := by decide +kernel
theorem d_Model_damage_33 : decode b_Model_damage 33 = .ok (.iload_n 3, 1) := by decide +kernel
theorem d_Model_damage_34 : decode b_Model_damage 34 = .ok (.iconst 0, 1) := by decide +kernel
theorem d_Model_damage_35 : decode b_Model_damage 35 = .ok (.bipush 9, 2) := by decide +kernel
theorem d_Model_damage_37 : decode b_Model_damage 37 = .ok (.invokestatic 102, 3) := by decide +kernel
theorem d_Model_damage_40 : decode b_Model_damage 40 = .ok (.ifCond .eq 22, 3) := by decide +kernel
theorem d_Model_damage_43 : decode b_Model_damage 43 = .ok (.iload_n 1, 1) := by decide +kernel
theorem d_Model_damage_44 : decode b_Model_damage 44 = .ok (.iconst 1, 1) := by decide +kernel
theorem d_Model_damage_45 : decode b_Model_damage 45 = .ok (.if_icmp .le 19, 3) := by decide +kernel
theorem d_Model_damage_48 : decode b_Model_damage 48 = .ok (.iload_n 2, 1) := by decide +kernel
theorem d_Model_damage_49 : decode b_Model_damage 49 = .ok (.iconst 0, 1) := by decide +kernel
theorem d_Model_damage_50 : decode b_Model_damage 50 = .ok (.aload_n 0, 1) := by decide +kernel
theorem d_Model_damage_51 : decode b_Model_damage 51 = .ok (.getfield 172, 3) := by decide +kernel
theorem d_Model_damage_54 : decode b_Model_damage 54 = .ok (.iconst 1, 1) := by decide +kernel
theorem d_Model_damage_55 : decode b_Model_damage 55 = .ok (.isub, 1) := by decide +kernel
theorem d_Model_damage_56 : decode b_Model_damage 56 = .ok (.invokestatic 102, 3) := by decide +kernel
theorem d_Model_damage_59 : decode b_Model_damage 59 = .ok (.ifCond .ne 5, 3) := by decide +kernel
theorem d_Model_damage_62 : decode b_Model_damage 62 = .ok (.iconst (-1), 1) := by decide +kernel
theorem d_Model_damage_63 : decode b_Model_damage 63 = .ok (.ireturn, 1) := by decide +kernel
theorem d_Model_damage_64 : decode b_Model_damage 64 = .ok (.iload_n 1, 1) := by decide +kernel
theorem d_Model_damage_65 : decode b_Model_damage 65 = .ok (.ifCond .ne 8, 3) := by decide +kernel
theorem d_Model_damage_68 : decode b_Model_damage 68 = .ok (.aload_n 0, 1) := by decide +kernel
theorem d_Model_damage_69 : decode b_Model_damage 69 = .ok (.iload_n 3, 1) := by decide +kernel
theorem d_Model_damage_70 : decode b_Model_damage 70 = .ok (.putfield 184, 3) := by decide +kernel
theorem d_Model_damage_73 : decode b_Model_damage 73 = .ok (.iload_n 1, 1) := by decide +kernel
theorem d_Model_damage_74 : decode b_Model_damage 74 = .ok (.iconst 1, 1) := by decide +kernel
theorem d_Model_damage_75 : decode b_Model_damage 75 = .ok (.if_icmp .ne 8, 3) := by decide +kernel
theorem d_Model_damage_78 : decode b_Model_damage 78 = .ok (.aload_n 0, 1) := by decide +kernel
theorem d_Model_damage_79 : decode b_Model_damage 79 = .ok (.iload_n 3, 1) := by decide +kernel
theorem d_Model_damage_80 : decode b_Model_damage 80 = .ok (.putfield 181, 3) := by decide +kernel
theorem d_Model_damage_83 : decode b_Model_damage 83 = .ok (.iload_n 1, 1) := by decide +kernel
theorem d_Model_damage_84 : decode b_Model_damage 84 = .ok (.iconst 2, 1) := by decide +kernel
theorem d_Model_damage_85 : decode b_Model_damage 85 = .ok (.if_icmp .ne 10, 3) := by decide +kernel
theorem d_Model_damage_88 : decode b_Model_damage 88 = .ok (.aload_n 0, 1) := by decide +kernel
theorem d_Model_damage_89 : decode b_Model_damage 89 = .ok (.getfield 59, 3) := by decide +kernel
theorem d_Model_damage_92 : decode b_Model_damage 92 = .ok (.iload_n 2, 1) := by decide +kernel
theorem d_Model_damage_93 : decode b_Model_damage 93 = .ok (.iload_n 3, 1) := by decide +kernel
theorem d_Model_damage_94 : decode b_Model_damage 94 = .ok (.iastore, 1) := by decide +kernel
theorem d_Model_damage_95 : decode b_Model_damage 95 = .ok (.iload_n 1, 1) := by decide +kernel
theorem d_Model_damage_96 : decode b_Model_damage 96 = .ok (.iconst 3, 1) := by decide +kernel
theorem d_Model_damage_97 : decode b_Model_damage 97 = .ok (.if_icmp .ne 23, 3) := by decide +kernel
theorem d_Model_damage_100 : decode b_Model_damage 100 = .ok (.aload_n 0, 1) := by decide +kernel
theorem d_Model_damage_101 : decode b_Model_damage 101 = .ok (.getfield 53, 3) := by decide +kernel
theorem d_Model_damage_104 : decode b_Model_damage 104 = .ok (.iload_n 2, 1) := by decide +kernel
theorem d_Model_damage_105 : decode b_Model_damage 105 = .ok (.aload_n 0, 1) := by decide +kernel
theorem d_Model_damage_106 : decode b_Model_damage 106 = .ok (.getfield 53, 3) := by decide +kernel
theorem d_Model_damage_109 : decode b_Model_damage 109 = .ok (.iload_n 2, 1) := by decide +kernel
theorem d_Model_damage_110 : decode b_Model_damage 110 = .ok (.baload, 1) := by decide +kernel
theorem d_Model_damage_111 : decode b_Model_damage 111 = .ok (.ifCond .ne 7, 3) := by decide +kernel
theorem d_Model_damage_114 : decode b_Model_damage 114 = .ok (.iconst 1, 1) := by decide +kernel
theorem d_Model_damage_115 : decode b_Model_damage 115 = .ok (.goto 4, 3) := by decide +kernel
theorem d_Model_damage_118 : decode b_Model_damage 118 = .ok (.iconst 0, 1) := by decide +kernel
theorem d_Model_damage_119 : decode b_Model_damage 119 = .ok (.bastore, 1) := by decide +kernel
theorem d_Model_damage_120 : decode b_Model_damage 120 = .ok (.iload_n 1, 1) := by decide +kernel
theorem d_Model_damage_121 : decode b_Model_damage 121 = .ok (.iconst 4, 1) := by decide +kernel
theorem d_Model_damage_122 : decode b_Model_damage 122 = .ok (.if_icmp .ne 8, 3) := by decide +kernel
theorem d_Model_damage_125 : decode b_Model_damage 125 = .ok (.aload_n 0, 1) := by decide +kernel
theorem d_Model_damage_126 : decode b_Model_damage 126 = .ok (.iload_n 2, 1) := by decide +kernel
theorem d_Model_damage_127 : decode b_Model_damage 127 = .ok (.invokevirtual 178, 3) := by decide +kernel
theorem d_Model_damage_130 : decode b_Model_damage 130 = .ok (.iconst 1, 1) := by decide +kernel
theorem d_Model_damage_131 : decode b_Model_damage 131 = .ok (.ireturn, 1) := by decide +kernel
abbrev b_Model_isForged : ByteArray := prog_14_method_31_code
abbrev J_Model_isForged : MethodName × ByteArray × Nat × Option FieldType := (⟨"FaslDeskModel", "isForged", "(I)Z"⟩, b_Model_isForged, 1, (some .boolean))
theorem d_Model_isForged_0 : decode b_Model_isForged 0 = .ok (.iload_n 0, 1) := by decide +kernel
theorem d_Model_isForged_1 : decode b_Model_isForged 1 = .ok (.iconst 2, 1) := by decide +kernel
theorem d_Model_isForged_2 : decode b_Model_isForged 2 = .ok (.bipush 12, 2) := by decide +kernel
theorem d_Model_isForged_4 : decode b_Model_isForged 4 = .ok (.invokestatic 102, 3) := by decide +kernel
theorem d_Model_isForged_7 : decode b_Model_isForged 7 = .ok (.ifCond .ne 14, 3) := by decide +kernel
theorem d_Model_isForged_10 : decode b_Model_isForged 10 = .ok (.iload_n 0, 1) := by decide +kernel
theorem d_Model_isForged_11 : decode b_Model_isForged 11 = .ok (.bipush 17, 2) := by decide +kernel
theorem d_Model_isForged_13 : decode b_Model_isForged 13 = .ok (.bipush 21, 2) := by decide +kernel
theorem d_Model_isForged_15 : decode b_Model_isForged 15 = .ok (.invokestatic 102, 3) := by decide +kernel
theorem d_Model_isForged_18 : decode b_Model_isForged 18 = .ok (.ifCond .eq 7, 3) := by decide +kernel
theorem d_Model_isForged_21 : decode b_Model_isForged 21 = .ok (.iconst 1, 1) := by decide +kernel
theorem d_Model_isForged_22 : decode b_Model_isForged 22 = .ok (.goto 4, 3) := by decide +kernel
theorem d_Model_isForged_25 : decode b_Model_isForged 25 = .ok (.iconst 0, 1) := by decide +kernel
theorem d_Model_isForged_26 : decode b_Model_isForged 26 = .ok (.ireturn, 1) := by decide +kernel
abbrev b_Model_forge : ByteArray := prog_14_method_32_code
abbrev J_Model_forge : MethodName × ByteArray × Nat × Option FieldType := (⟨"FaslDeskModel", "forge", "(III)I"⟩, b_Model_forge, 6, (some .int))
theorem d_Model_forge_0 : decode b_Model_forge 0 = .ok (.iload_n 1, 1) := by decide +kernel
theorem d_Model_forge_1 : decode b_Model_forge 1 = .ok (.iconst 0, 1) := by decide +kernel
theorem d_Model_forge_2 : decode b_Model_forge 2 = .ok (.aload_n 0, 1) := by decide +kernel
theorem d_Model_forge_3 : decode b_Model_forge 3 = .ok (.getfield 172, 3) := by decide +kernel
theorem d_Model_forge_6 : decode b_Model_forge 6 = .ok (.iconst 1, 1) := by decide +kernel
theorem d_Model_forge_7 : decode b_Model_forge 7 = .ok (.isub, 1) := by decide +kernel
theorem d_Model_forge_8 : decode b_Model_forge 8 = .ok (.invokestatic 102, 3) := by decide +kernel
theorem d_Model_forge_11 : decode b_Model_forge 11 = .ok (.ifCond .eq 29, 3) := by decide +kernel
theorem d_Model_forge_14 : decode b_Model_forge 14 = .ok (.iload_n 2, 1) := by decide +kernel
theorem d_Model_forge_15 : decode b_Model_forge 15 = .ok (.iconst 0, 1) := by decide +kernel
theorem d_Model_forge_16 : decode b_Model_forge 16 = .ok (.aload_n 0, 1) := by decide +kernel
theorem d_Model_forge_17 : decode b_Model_forge 17 = .ok (.getfield 37, 3) := by decide +kernel
theorem d_Model_forge_20 : decode b_Model_forge 20 = .ok (.bipush 8, 2) := by decide +kernel
theorem d_Model_forge_22 : decode b_Model_forge 22 = .ok (.iload_n 1, 1) := by decide +kernel
theorem d_Model_forge_23 : decode b_Model_forge 23 = .ok (.iadd, 1) := by decide +kernel
theorem d_Model_forge_24 : decode b_Model_forge 24 = .ok (.iaload, 1) := by decide +kernel
theorem d_Model_forge_25 : decode b_Model_forge 25 = .ok (.iconst 1, 1) := by decide +kernel
theorem d_Model_forge_26 : decode b_Model_forge 26 = .ok (.isub, 1) := by decide +kernel
theorem d_Model_forge_27 : decode b_Model_forge 27 = .ok (.invokestatic 102, 3) := by decide +kernel
theorem d_Model_forge_30 : decode b_Model_forge 30 = .ok (.ifCond .eq 10, 3) := by decide +kernel
theorem d_Model_forge_33 : decode b_Model_forge 33 = .ok (.iload_n 3, 1) := by decide +kernel
theorem d_Model_forge_34 : decode b_Model_forge 34 = .ok (.invokestatic 187, 3) := by decide +kernel
theorem d_Model_forge_37 : decode b_Model_forge 37 = .ok (.ifCond .ne 5, 3) := by decide +kernel
theorem d_Model_forge_40 : decode b_Model_forge 40 = .ok (.iconst (-1), 1) := by decide +kernel
theorem d_Model_forge_41 : decode b_Model_forge 41 = .ok (.ireturn, 1) := by decide +kernel
theorem d_Model_forge_42 : decode b_Model_forge 42 = .ok (.sipush 280, 3) := by decide +kernel
theorem d_Model_forge_45 : decode b_Model_forge 45 = .ok (.bipush 8, 2) := by decide +kernel
theorem d_Model_forge_47 : decode b_Model_forge 47 = .ok (.iload_n 1, 1) := by decide +kernel
theorem d_Model_forge_48 : decode b_Model_forge 48 = .ok (.iadd, 1) := by decide +kernel
theorem d_Model_forge_49 : decode b_Model_forge 49 = .ok (.imul, 1) := by decide +kernel
theorem d_Model_forge_50 : decode b_Model_forge 50 = .ok (.iload_n 2, 1) := by decide +kernel
theorem d_Model_forge_51 : decode b_Model_forge 51 = .ok (.iadd, 1) := by decide +kernel
theorem d_Model_forge_52 : decode b_Model_forge 52 = .ok (.istore 4, 2) := by decide +kernel
theorem d_Model_forge_54 : decode b_Model_forge 54 = .ok (.aload_n 0, 1) := by decide +kernel
theorem d_Model_forge_55 : decode b_Model_forge 55 = .ok (.getfield 28, 3) := by decide +kernel
theorem d_Model_forge_58 : decode b_Model_forge 58 = .ok (.iload 4, 2) := by decide +kernel
theorem d_Model_forge_60 : decode b_Model_forge 60 = .ok (.iaload, 1) := by decide +kernel
theorem d_Model_forge_61 : decode b_Model_forge 61 = .ok (.invokestatic 187, 3) := by decide +kernel
theorem d_Model_forge_64 : decode b_Model_forge 64 = .ok (.ifCond .eq 13, 3) := by decide +kernel
theorem d_Model_forge_67 : decode b_Model_forge 67 = .ok (.aload_n 0, 1) := by decide +kernel
theorem d_Model_forge_68 : decode b_Model_forge 68 = .ok (.getfield 46, 3) := by decide +kernel
theorem d_Model_forge_71 : decode b_Model_forge 71 = .ok (.iload 4, 2) := by decide +kernel
theorem d_Model_forge_73 : decode b_Model_forge 73 = .ok (.baload, 1) := by decide +kernel
theorem d_Model_forge_74 : decode b_Model_forge 74 = .ok (.ifCond .eq 5, 3) := by decide +kernel
theorem d_Model_forge_77 : decode b_Model_forge 77 = .ok (.iconst (-1), 1) := by decide +kernel
theorem d_Model_forge_78 : decode b_Model_forge 78 = .ok (.ireturn, 1) := by decide +kernel
theorem d_Model_forge_79 : decode b_Model_forge 79 = .ok (.aload_n 0, 1) := by decide +kernel
theorem d_Model_forge_80 : decode b_Model_forge 80 = .ok (.getfield 28, 3) := by decide +kernel
theorem d_Model_forge_83 : decode b_Model_forge 83 = .ok (.iload 4, 2) := by decide +kernel
theorem d_Model_forge_85 : decode b_Model_forge 85 = .ok (.iaload, 1) := by decide +kernel
theorem d_Model_forge_86 : decode b_Model_forge 86 = .ok (.istore 5, 2) := by decide +kernel
theorem d_Model_forge_88 : decode b_Model_forge 88 = .ok (.aload_n 0, 1) := by decide +kernel
theorem d_Model_forge_89 : decode b_Model_forge 89 = .ok (.getfield 28, 3) := by decide +kernel
theorem d_Model_forge_92 : decode b_Model_forge 92 = .ok (.iload 4, 2) := by decide +kernel
theorem d_Model_forge_94 : decode b_Model_forge 94 = .ok (.iload_n 3, 1) := by decide +kernel
theorem d_Model_forge_95 : decode b_Model_forge 95 = .ok (.iastore, 1) := by decide +kernel
theorem d_Model_forge_96 : decode b_Model_forge 96 = .ok (.iload 5, 2) := by decide +kernel
theorem d_Model_forge_98 : decode b_Model_forge 98 = .ok (.ireturn, 1) := by decide +kernel
abbrev b_Model_drop : ByteArray := prog_14_method_33_code
abbrev J_Model_drop : MethodName × ByteArray × Nat × Option FieldType := (⟨"FaslDeskModel", "drop", "(I)I"⟩, b_Model_drop, 5, (some .int))
theorem d_Model_drop_0 : decode b_Model_drop 0 = .ok (.iload_n 1, 1) := by decide +kernel
theorem d_Model_drop_1 : decode b_Model_drop 1 = .ok (.iconst 0, 1) := by decide +kernel
theorem d_Model_drop_2 : decode b_Model_drop 2 = .ok (.aload_n 0, 1) := by decide +kernel
theorem d_Model_drop_3 : decode b_Model_drop 3 = .ok (.getfield 172, 3) := by decide +kernel
theorem d_Model_drop_6 : decode b_Model_drop 6 = .ok (.iconst 1, 1) := by decide +kernel
theorem d_Model_drop_7 : decode b_Model_drop 7 = .ok (.isub, 1) := by decide +kernel
theorem d_Model_drop_8 : decode b_Model_drop 8 = .ok (.invokestatic 102, 3) := by decide +kernel
theorem d_Model_drop_11 : decode b_Model_drop 11 = .ok (.ifCond .ne 5, 3) := by decide +kernel
theorem d_Model_drop_14 : decode b_Model_drop 14 = .ok (.iconst (-1), 1) := by decide +kernel
theorem d_Model_drop_15 : decode b_Model_drop 15 = .ok (.ireturn, 1) := by decide +kernel
theorem d_Model_drop_16 : decode b_Model_drop 16 = .ok (.aload_n 0, 1) := by decide +kernel
theorem d_Model_drop_17 : decode b_Model_drop 17 = .ok (.getfield 59, 3) := by decide +kernel
theorem d_Model_drop_20 : decode b_Model_drop 20 = .ok (.iload_n 1, 1) := by decide +kernel
theorem d_Model_drop_21 : decode b_Model_drop 21 = .ok (.iaload, 1) := by decide +kernel
theorem d_Model_drop_22 : decode b_Model_drop 22 = .ok (.istore_n 2, 1) := by decide +kernel
theorem d_Model_drop_23 : decode b_Model_drop 23 = .ok (.aload_n 0, 1) := by decide +kernel
theorem d_Model_drop_24 : decode b_Model_drop 24 = .ok (.dup, 1) := by decide +kernel
theorem d_Model_drop_25 : decode b_Model_drop 25 = .ok (.getfield 172, 3) := by decide +kernel
theorem d_Model_drop_28 : decode b_Model_drop 28 = .ok (.iconst 1, 1) := by decide +kernel
theorem d_Model_drop_29 : decode b_Model_drop 29 = .ok (.isub, 1) := by decide +kernel
theorem d_Model_drop_30 : decode b_Model_drop 30 = .ok (.putfield 172, 3) := by decide +kernel
theorem d_Model_drop_33 : decode b_Model_drop 33 = .ok (.iload_n 1, 1) := by decide +kernel
theorem d_Model_drop_34 : decode b_Model_drop 34 = .ok (.istore_n 3, 1) := by decide +kernel
theorem d_Model_drop_35 : decode b_Model_drop 35 = .ok (.iload_n 3, 1) := by decide +kernel
theorem d_Model_drop_36 : decode b_Model_drop 36 = .ok (.aload_n 0, 1) := by decide +kernel
theorem d_Model_drop_37 : decode b_Model_drop 37 = .ok (.getfield 172, 3) := by decide +kernel
theorem d_Model_drop_40 : decode b_Model_drop 40 = .ok (.if_icmp .ge 156, 3) := by decide +kernel
theorem d_Model_drop_43 : decode b_Model_drop 43 = .ok (.aload_n 0, 1) := by decide +kernel
theorem d_Model_drop_44 : decode b_Model_drop 44 = .ok (.getfield 59, 3) := by decide +kernel
theorem d_Model_drop_47 : decode b_Model_drop 47 = .ok (.iload_n 3, 1) := by decide +kernel
theorem d_Model_drop_48 : decode b_Model_drop 48 = .ok (.aload_n 0, 1) := by decide +kernel
theorem d_Model_drop_49 : decode b_Model_drop 49 = .ok (.getfield 59, 3) := by decide +kernel
theorem d_Model_drop_52 : decode b_Model_drop 52 = .ok (.iload_n 3, 1) := by decide +kernel
theorem d_Model_drop_53 : decode b_Model_drop 53 = .ok (.iconst 1, 1) := by decide +kernel
theorem d_Model_drop_54 : decode b_Model_drop 54 = .ok (.iadd, 1) := by decide +kernel
theorem d_Model_drop_55 : decode b_Model_drop 55 = .ok (.iaload, 1) := by decide +kernel
theorem d_Model_drop_56 : decode b_Model_drop 56 = .ok (.iastore, 1) := by decide +kernel
theorem d_Model_drop_57 : decode b_Model_drop 57 = .ok (.aload_n 0, 1) := by decide +kernel
theorem d_Model_drop_58 : decode b_Model_drop 58 = .ok (.getfield 65, 3) := by decide +kernel
theorem d_Model_drop_61 : decode b_Model_drop 61 = .ok (.iload_n 3, 1) := by decide +kernel
theorem d_Model_drop_62 : decode b_Model_drop 62 = .ok (.aload_n 0, 1) := by decide +kernel
theorem d_Model_drop_63 : decode b_Model_drop 63 = .ok (.getfield 65, 3) := by decide +kernel
theorem d_Model_drop_66 : decode b_Model_drop 66 = .ok (.iload_n 3, 1) := by decide +kernel
theorem d_Model_drop_67 : decode b_Model_drop 67 = .ok (.iconst 1, 1) := by decide +kernel
theorem d_Model_drop_68 : decode b_Model_drop 68 = .ok (.iadd, 1) := by decide +kernel
theorem d_Model_drop_69 : decode b_Model_drop 69 = .ok (.iaload, 1) := by decide +kernel
theorem d_Model_drop_70 : decode b_Model_drop 70 = .ok (.iastore, 1) := by decide +kernel
theorem d_Model_drop_71 : decode b_Model_drop 71 = .ok (.aload_n 0, 1) := by decide +kernel
theorem d_Model_drop_72 : decode b_Model_drop 72 = .ok (.getfield 62, 3) := by decide +kernel
theorem d_Model_drop_75 : decode b_Model_drop 75 = .ok (.iload_n 3, 1) := by decide +kernel
theorem d_Model_drop_76 : decode b_Model_drop 76 = .ok (.aload_n 0, 1) := by decide +kernel
theorem d_Model_drop_77 : decode b_Model_drop 77 = .ok (.getfield 62, 3) := by decide +kernel
theorem d_Model_drop_80 : decode b_Model_drop 80 = .ok (.iload_n 3, 1) := by decide +kernel
theorem d_Model_drop_81 : decode b_Model_drop 81 = .ok (.iconst 1, 1) := by decide +kernel
theorem d_Model_drop_82 : decode b_Model_drop 82 = .ok (.iadd, 1) := by decide +kernel
theorem d_Model_drop_83 : decode b_Model_drop 83 = .ok (.iaload, 1) := by decide +kernel
theorem d_Model_drop_84 : decode b_Model_drop 84 = .ok (.iastore, 1) := by decide +kernel
theorem d_Model_drop_85 : decode b_Model_drop 85 = .ok (.aload_n 0, 1) := by decide +kernel
theorem d_Model_drop_86 : decode b_Model_drop 86 = .ok (.getfield 53, 3) := by decide +kernel
theorem d_Model_drop_89 : decode b_Model_drop 89 = .ok (.iload_n 3, 1) := by decide +kernel
theorem d_Model_drop_90 : decode b_Model_drop 90 = .ok (.aload_n 0, 1) := by decide +kernel
theorem d_Model_drop_91 : decode b_Model_drop 91 = .ok (.getfield 53, 3) := by decide +kernel
theorem d_Model_drop_94 : decode b_Model_drop 94 = .ok (.iload_n 3, 1) := by decide +kernel
theorem d_Model_drop_95 : decode b_Model_drop 95 = .ok (.iconst 1, 1) := by decide +kernel
theorem d_Model_drop_96 : decode b_Model_drop 96 = .ok (.iadd, 1) := by decide +kernel
theorem d_Model_drop_97 : decode b_Model_drop 97 = .ok (.baload, 1) := by decide +kernel
theorem d_Model_drop_98 : decode b_Model_drop 98 = .ok (.bastore, 1) := by decide +kernel
theorem d_Model_drop_99 : decode b_Model_drop 99 = .ok (.aload_n 0, 1) := by decide +kernel
theorem d_Model_drop_100 : decode b_Model_drop 100 = .ok (.getfield 68, 3) := by decide +kernel
theorem d_Model_drop_103 : decode b_Model_drop 103 = .ok (.iload_n 3, 1) := by decide +kernel
theorem d_Model_drop_104 : decode b_Model_drop 104 = .ok (.aload_n 0, 1) := by decide +kernel
theorem d_Model_drop_105 : decode b_Model_drop 105 = .ok (.getfield 68, 3) := by decide +kernel
theorem d_Model_drop_108 : decode b_Model_drop 108 = .ok (.iload_n 3, 1) := by decide +kernel
theorem d_Model_drop_109 : decode b_Model_drop 109 = .ok (.iconst 1, 1) := by decide +kernel
theorem d_Model_drop_110 : decode b_Model_drop 110 = .ok (.iadd, 1) := by decide +kernel
theorem d_Model_drop_111 : decode b_Model_drop 111 = .ok (.iaload, 1) := by decide +kernel
theorem d_Model_drop_112 : decode b_Model_drop 112 = .ok (.iastore, 1) := by decide +kernel
theorem d_Model_drop_113 : decode b_Model_drop 113 = .ok (.aload_n 0, 1) := by decide +kernel
theorem d_Model_drop_114 : decode b_Model_drop 114 = .ok (.getfield 56, 3) := by decide +kernel
theorem d_Model_drop_117 : decode b_Model_drop 117 = .ok (.iload_n 3, 1) := by decide +kernel
theorem d_Model_drop_118 : decode b_Model_drop 118 = .ok (.aload_n 0, 1) := by decide +kernel
theorem d_Model_drop_119 : decode b_Model_drop 119 = .ok (.getfield 56, 3) := by decide +kernel
theorem d_Model_drop_122 : decode b_Model_drop 122 = .ok (.iload_n 3, 1) := by decide +kernel
theorem d_Model_drop_123 : decode b_Model_drop 123 = .ok (.iconst 1, 1) := by decide +kernel
theorem d_Model_drop_124 : decode b_Model_drop 124 = .ok (.iadd, 1) := by decide +kernel
theorem d_Model_drop_125 : decode b_Model_drop 125 = .ok (.baload, 1) := by decide +kernel
theorem d_Model_drop_126 : decode b_Model_drop 126 = .ok (.bastore, 1) := by decide +kernel
theorem d_Model_drop_127 : decode b_Model_drop 127 = .ok (.aload_n 0, 1) := by decide +kernel
theorem d_Model_drop_128 : decode b_Model_drop 128 = .ok (.bipush 8, 2) := by decide +kernel
theorem d_Model_drop_130 : decode b_Model_drop 130 = .ok (.iload_n 3, 1) := by decide +kernel
theorem d_Model_drop_131 : decode b_Model_drop 131 = .ok (.iadd, 1) := by decide +kernel
theorem d_Model_drop_132 : decode b_Model_drop 132 = .ok (.bipush 9, 2) := by decide +kernel
theorem d_Model_drop_134 : decode b_Model_drop 134 = .ok (.iload_n 3, 1) := by decide +kernel
theorem d_Model_drop_135 : decode b_Model_drop 135 = .ok (.iadd, 1) := by decide +kernel
theorem d_Model_drop_136 : decode b_Model_drop 136 = .ok (.invokevirtual 175, 3) := by decide +kernel
theorem d_Model_drop_139 : decode b_Model_drop 139 = .ok (.iconst 0, 1) := by decide +kernel
theorem d_Model_drop_140 : decode b_Model_drop 140 = .ok (.istore 4, 2) := by decide +kernel
theorem d_Model_drop_142 : decode b_Model_drop 142 = .ok (.iload 4, 2) := by decide +kernel
theorem d_Model_drop_144 : decode b_Model_drop 144 = .ok (.aload_n 0, 1) := by decide +kernel
theorem d_Model_drop_145 : decode b_Model_drop 145 = .ok (.getfield 37, 3) := by decide +kernel
theorem d_Model_drop_148 : decode b_Model_drop 148 = .ok (.bipush 8, 2) := by decide +kernel
theorem d_Model_drop_150 : decode b_Model_drop 150 = .ok (.iload_n 3, 1) := by decide +kernel
theorem d_Model_drop_151 : decode b_Model_drop 151 = .ok (.iadd, 1) := by decide +kernel
theorem d_Model_drop_152 : decode b_Model_drop 152 = .ok (.iaload, 1) := by decide +kernel
theorem d_Model_drop_153 : decode b_Model_drop 153 = .ok (.if_icmp .ge 37, 3) := by decide +kernel
theorem d_Model_drop_156 : decode b_Model_drop 156 = .ok (.aload_n 0, 1) := by decide +kernel
theorem d_Model_drop_157 : decode b_Model_drop 157 = .ok (.getfield 71, 3) := by decide +kernel
theorem d_Model_drop_160 : decode b_Model_drop 160 = .ok (.sipush 280, 3) := by decide +kernel
theorem d_Model_drop_163 : decode b_Model_drop 163 = .ok (.iload_n 3, 1) := by decide +kernel
theorem d_Model_drop_164 : decode b_Model_drop 164 = .ok (.imul, 1) := by decide +kernel
theorem d_Model_drop_165 : decode b_Model_drop 165 = .ok (.iload 4, 2) := by decide +kernel
theorem d_Model_drop_167 : decode b_Model_drop 167 = .ok (.iadd, 1) := by decide +kernel
theorem d_Model_drop_168 : decode b_Model_drop 168 = .ok (.aload_n 0, 1) := by decide +kernel
theorem d_Model_drop_169 : decode b_Model_drop 169 = .ok (.getfield 71, 3) := by decide +kernel
theorem d_Model_drop_172 : decode b_Model_drop 172 = .ok (.sipush 280, 3) := by decide +kernel
theorem d_Model_drop_175 : decode b_Model_drop 175 = .ok (.iload_n 3, 1) := by decide +kernel
theorem d_Model_drop_176 : decode b_Model_drop 176 = .ok (.iconst 1, 1) := by decide +kernel
theorem d_Model_drop_177 : decode b_Model_drop 177 = .ok (.iadd, 1) := by decide +kernel
theorem d_Model_drop_178 : decode b_Model_drop 178 = .ok (.imul, 1) := by decide +kernel
theorem d_Model_drop_179 : decode b_Model_drop 179 = .ok (.iload 4, 2) := by decide +kernel
theorem d_Model_drop_181 : decode b_Model_drop 181 = .ok (.iadd, 1) := by decide +kernel
theorem d_Model_drop_182 : decode b_Model_drop 182 = .ok (.iaload, 1) := by decide +kernel
theorem d_Model_drop_183 : decode b_Model_drop 183 = .ok (.iastore, 1) := by decide +kernel
theorem d_Model_drop_184 : decode b_Model_drop 184 = .ok (.iinc 4 1, 3) := by decide +kernel
theorem d_Model_drop_187 : decode b_Model_drop 187 = .ok (.goto (-45), 3) := by decide +kernel
theorem d_Model_drop_190 : decode b_Model_drop 190 = .ok (.iinc 3 1, 3) := by decide +kernel
theorem d_Model_drop_193 : decode b_Model_drop 193 = .ok (.goto (-158), 3) := by decide +kernel
theorem d_Model_drop_196 : decode b_Model_drop 196 = .ok (.aload_n 0, 1) := by decide +kernel
theorem d_Model_drop_197 : decode b_Model_drop 197 = .ok (.aload_n 0, 1) := by decide +kernel
theorem d_Model_drop_198 : decode b_Model_drop 198 = .ok (.getfield 172, 3) := by decide +kernel
theorem d_Model_drop_201 : decode b_Model_drop 201 = .ok (.putfield 181, 3) := by decide +kernel
theorem d_Model_drop_204 : decode b_Model_drop 204 = .ok (.iload_n 2, 1) := by decide +kernel
theorem d_Model_drop_205 : decode b_Model_drop 205 = .ok (.ireturn, 1) := by decide +kernel
abbrev b_Model_fault : ByteArray := prog_14_method_34_code
abbrev J_Model_fault : MethodName × ByteArray × Nat × Option FieldType := (⟨"FaslDeskModel", "fault", "(II)I"⟩, b_Model_fault, 3, (some .int))
theorem d_Model_fault_0 : decode b_Model_fault 0 = .ok (.aload_n 0, 1) := by decide +kernel
theorem d_Model_fault_1 : decode b_Model_fault 1 = .ok (.dup, 1) := by decide +kernel
theorem d_Model_fault_2 : decode b_Model_fault 2 = .ok (.getfield 191, 3) := by decide +kernel
theorem d_Model_fault_5 : decode b_Model_fault 5 = .ok (.iconst 1, 1) := by decide +kernel
theorem d_Model_fault_6 : decode b_Model_fault 6 = .ok (.iadd, 1) := by decide +kernel
theorem d_Model_fault_7 : decode b_Model_fault 7 = .ok (.putfield 191, 3) := by decide +kernel
theorem d_Model_fault_10 : decode b_Model_fault 10 = .ok (.aload_n 0, 1) := by decide +kernel
theorem d_Model_fault_11 : decode b_Model_fault 11 = .ok (.iload_n 2, 1) := by decide +kernel
theorem d_Model_fault_12 : decode b_Model_fault 12 = .ok (.putfield 98, 3) := by decide +kernel
theorem d_Model_fault_15 : decode b_Model_fault 15 = .ok (.iload_n 1, 1) := by decide +kernel
theorem d_Model_fault_16 : decode b_Model_fault 16 = .ok (.ireturn, 1) := by decide +kernel
abbrev b_Model_load : ByteArray := prog_14_method_35_code
abbrev J_Model_load : MethodName × ByteArray × Nat × Option FieldType := (⟨"FaslDeskModel", "load", "()I"⟩, b_Model_load, 3, (some .int))
theorem d_Model_load_0 : decode b_Model_load 0 = .ok (.aload_n 0, 1) := by decide +kernel
theorem d_Model_load_1 : decode b_Model_load 1 = .ok (.getfield 184, 3) := by decide +kernel
theorem d_Model_load_4 : decode b_Model_load 4 = .ok (.ifCond .eq 10, 3) := by decide +kernel
theorem d_Model_load_7 : decode b_Model_load 7 = .ok (.aload_n 0, 1) := by decide +kernel
theorem d_Model_load_8 : decode b_Model_load 8 = .ok (.iconst 1, 1) := by decide +kernel
theorem d_Model_load_9 : decode b_Model_load 9 = .ok (.iconst (-1), 1) := by decide +kernel
theorem d_Model_load_10 : decode b_Model_load 10 = .ok (.invokevirtual 194, 3) := by decide +kernel
theorem d_Model_load_13 : decode b_Model_load 13 = .ok (.ireturn, 1) := by decide +kernel
theorem d_Model_load_14 : decode b_Model_load 14 = .ok (.aload_n 0, 1) := by decide +kernel
theorem d_Model_load_15 : decode b_Model_load 15 = .ok (.getfield 181, 3) := by decide +kernel
theorem d_Model_load_18 : decode b_Model_load 18 = .ok (.aload_n 0, 1) := by decide +kernel
theorem d_Model_load_19 : decode b_Model_load 19 = .ok (.getfield 172, 3) := by decide +kernel
theorem d_Model_load_22 : decode b_Model_load 22 = .ok (.if_icmp .eq 25, 3) := by decide +kernel
theorem d_Model_load_25 : decode b_Model_load 25 = .ok (.aload_n 0, 1) := by decide +kernel
theorem d_Model_load_26 : decode b_Model_load 26 = .ok (.aload_n 0, 1) := by decide +kernel
theorem d_Model_load_27 : decode b_Model_load 27 = .ok (.getfield 181, 3) := by decide +kernel
theorem d_Model_load_30 : decode b_Model_load 30 = .ok (.aload_n 0, 1) := by decide +kernel
theorem d_Model_load_31 : decode b_Model_load 31 = .ok (.getfield 172, 3) := by decide +kernel
theorem d_Model_load_34 : decode b_Model_load 34 = .ok (.if_icmp .le 7, 3) := by decide +kernel
theorem d_Model_load_37 : decode b_Model_load 37 = .ok (.iconst 2, 1) := by decide +kernel
theorem d_Model_load_38 : decode b_Model_load 38 = .ok (.goto 4, 3) := by decide +kernel
theorem d_Model_load_41 : decode b_Model_load 41 = .ok (.iconst 3, 1) := by decide +kernel
theorem d_Model_load_42 : decode b_Model_load 42 = .ok (.iconst (-1), 1) := by decide +kernel
theorem d_Model_load_43 : decode b_Model_load 43 = .ok (.invokevirtual 194, 3) := by decide +kernel
theorem d_Model_load_46 : decode b_Model_load 46 = .ok (.ireturn, 1) := by decide +kernel
theorem d_Model_load_47 : decode b_Model_load 47 = .ok (.iconst 0, 1) := by decide +kernel
theorem d_Model_load_48 : decode b_Model_load 48 = .ok (.istore_n 1, 1) := by decide +kernel
theorem d_Model_load_49 : decode b_Model_load 49 = .ok (.iload_n 1, 1) := by decide +kernel
theorem d_Model_load_50 : decode b_Model_load 50 = .ok (.aload_n 0, 1) := by decide +kernel
theorem d_Model_load_51 : decode b_Model_load 51 = .ok (.getfield 172, 3) := by decide +kernel
theorem d_Model_load_54 : decode b_Model_load 54 = .ok (.if_icmp .ge 59, 3) := by decide +kernel
theorem d_Model_load_57 : decode b_Model_load 57 = .ok (.aload_n 0, 1) := by decide +kernel
theorem d_Model_load_58 : decode b_Model_load 58 = .ok (.iload_n 1, 1) := by decide +kernel
theorem d_Model_load_59 : decode b_Model_load 59 = .ok (.invokevirtual 198, 3) := by decide +kernel
theorem d_Model_load_62 : decode b_Model_load 62 = .ok (.ifCond .ne 10, 3) := by decide +kernel
theorem d_Model_load_65 : decode b_Model_load 65 = .ok (.aload_n 0, 1) := by decide +kernel
theorem d_Model_load_66 : decode b_Model_load 66 = .ok (.iconst 4, 1) := by decide +kernel
theorem d_Model_load_67 : decode b_Model_load 67 = .ok (.iload_n 1, 1) := by decide +kernel
theorem d_Model_load_68 : decode b_Model_load 68 = .ok (.invokevirtual 194, 3) := by decide +kernel
theorem d_Model_load_71 : decode b_Model_load 71 = .ok (.ireturn, 1) := by decide +kernel
theorem d_Model_load_72 : decode b_Model_load 72 = .ok (.iconst 0, 1) := by decide +kernel
theorem d_Model_load_73 : decode b_Model_load 73 = .ok (.istore_n 2, 1) := by decide +kernel
theorem d_Model_load_74 : decode b_Model_load 74 = .ok (.iload_n 2, 1) := by decide +kernel
theorem d_Model_load_75 : decode b_Model_load 75 = .ok (.iload_n 1, 1) := by decide +kernel
theorem d_Model_load_76 : decode b_Model_load 76 = .ok (.if_icmp .ge 31, 3) := by decide +kernel
theorem d_Model_load_79 : decode b_Model_load 79 = .ok (.aload_n 0, 1) := by decide +kernel
theorem d_Model_load_80 : decode b_Model_load 80 = .ok (.getfield 59, 3) := by decide +kernel
theorem d_Model_load_83 : decode b_Model_load 83 = .ok (.iload_n 2, 1) := by decide +kernel
theorem d_Model_load_84 : decode b_Model_load 84 = .ok (.iaload, 1) := by decide +kernel
theorem d_Model_load_85 : decode b_Model_load 85 = .ok (.aload_n 0, 1) := by decide +kernel
theorem d_Model_load_86 : decode b_Model_load 86 = .ok (.getfield 59, 3) := by decide +kernel
theorem d_Model_load_89 : decode b_Model_load 89 = .ok (.iload_n 1, 1) := by decide +kernel
theorem d_Model_load_90 : decode b_Model_load 90 = .ok (.iaload, 1) := by decide +kernel
theorem d_Model_load_91 : decode b_Model_load 91 = .ok (.if_icmp .ne 10, 3) := by decide +kernel
theorem d_Model_load_94 : decode b_Model_load 94 = .ok (.aload_n 0, 1) := by decide +kernel
theorem d_Model_load_95 : decode b_Model_load 95 = .ok (.iconst 5, 1) := by decide +kernel
theorem d_Model_load_96 : decode b_Model_load 96 = .ok (.iload_n 1, 1) := by decide +kernel
theorem d_Model_load_97 : decode b_Model_load 97 = .ok (.invokevirtual 194, 3) := by decide +kernel
theorem d_Model_load_100 : decode b_Model_load 100 = .ok (.ireturn, 1) := by decide +kernel
theorem d_Model_load_101 : decode b_Model_load 101 = .ok (.iinc 2 1, 3) := by decide +kernel
theorem d_Model_load_104 : decode b_Model_load 104 = .ok (.goto (-30), 3) := by decide +kernel
theorem d_Model_load_107 : decode b_Model_load 107 = .ok (.iinc 1 1, 3) := by decide +kernel
theorem d_Model_load_110 : decode b_Model_load 110 = .ok (.goto (-61), 3) := by decide +kernel
theorem d_Model_load_113 : decode b_Model_load 113 = .ok (.iconst 0, 1) := by decide +kernel
theorem d_Model_load_114 : decode b_Model_load 114 = .ok (.istore_n 1, 1) := by decide +kernel
theorem d_Model_load_115 : decode b_Model_load 115 = .ok (.iload_n 1, 1) := by decide +kernel
theorem d_Model_load_116 : decode b_Model_load 116 = .ok (.aload_n 0, 1) := by decide +kernel
theorem d_Model_load_117 : decode b_Model_load 117 = .ok (.getfield 172, 3) := by decide +kernel
theorem d_Model_load_120 : decode b_Model_load 120 = .ok (.if_icmp .ge 49, 3) := by decide +kernel
theorem d_Model_load_123 : decode b_Model_load 123 = .ok (.aload_n 0, 1) := by decide +kernel
theorem d_Model_load_124 : decode b_Model_load 124 = .ok (.getfield 53, 3) := by decide +kernel
theorem d_Model_load_127 : decode b_Model_load 127 = .ok (.iload_n 1, 1) := by decide +kernel
theorem d_Model_load_128 : decode b_Model_load 128 = .ok (.baload, 1) := by decide +kernel
theorem d_Model_load_129 : decode b_Model_load 129 = .ok (.ifCond .eq 11, 3) := by decide +kernel
theorem d_Model_load_132 : decode b_Model_load 132 = .ok (.aload_n 0, 1) := by decide +kernel
theorem d_Model_load_133 : decode b_Model_load 133 = .ok (.bipush 6, 2) := by decide +kernel
theorem d_Model_load_135 : decode b_Model_load 135 = .ok (.iload_n 1, 1) := by decide +kernel
theorem d_Model_load_136 : decode b_Model_load 136 = .ok (.invokevirtual 194, 3) := by decide +kernel
theorem d_Model_load_139 : decode b_Model_load 139 = .ok (.ireturn, 1) := by decide +kernel
theorem d_Model_load_140 : decode b_Model_load 140 = .ok (.aload_n 0, 1) := by decide +kernel
theorem d_Model_load_141 : decode b_Model_load 141 = .ok (.getfield 65, 3) := by decide +kernel
theorem d_Model_load_144 : decode b_Model_load 144 = .ok (.iload_n 1, 1) := by decide +kernel
theorem d_Model_load_145 : decode b_Model_load 145 = .ok (.iaload, 1) := by decide +kernel
theorem d_Model_load_146 : decode b_Model_load 146 = .ok (.aload_n 0, 1) := by decide +kernel
theorem d_Model_load_147 : decode b_Model_load 147 = .ok (.getfield 59, 3) := by decide +kernel
theorem d_Model_load_150 : decode b_Model_load 150 = .ok (.iload_n 1, 1) := by decide +kernel
theorem d_Model_load_151 : decode b_Model_load 151 = .ok (.iaload, 1) := by decide +kernel
theorem d_Model_load_152 : decode b_Model_load 152 = .ok (.if_icmp .eq 11, 3) := by decide +kernel
theorem d_Model_load_155 : decode b_Model_load 155 = .ok (.aload_n 0, 1) := by decide +kernel
theorem d_Model_load_156 : decode b_Model_load 156 = .ok (.bipush 7, 2) := by decide +kernel
theorem d_Model_load_158 : decode b_Model_load 158 = .ok (.iload_n 1, 1) := by decide +kernel
theorem d_Model_load_159 : decode b_Model_load 159 = .ok (.invokevirtual 194, 3) := by decide +kernel
theorem d_Model_load_162 : decode b_Model_load 162 = .ok (.ireturn, 1) := by decide +kernel
theorem d_Model_load_163 : decode b_Model_load 163 = .ok (.iinc 1 1, 3) := by decide +kernel
theorem d_Model_load_166 : decode b_Model_load 166 = .ok (.goto (-51), 3) := by decide +kernel
theorem d_Model_load_169 : decode b_Model_load 169 = .ok (.iconst 0, 1) := by decide +kernel
theorem d_Model_load_170 : decode b_Model_load 170 = .ok (.istore_n 1, 1) := by decide +kernel
theorem d_Model_load_171 : decode b_Model_load 171 = .ok (.iload_n 1, 1) := by decide +kernel
theorem d_Model_load_172 : decode b_Model_load 172 = .ok (.aload_n 0, 1) := by decide +kernel
theorem d_Model_load_173 : decode b_Model_load 173 = .ok (.getfield 172, 3) := by decide +kernel
theorem d_Model_load_176 : decode b_Model_load 176 = .ok (.if_icmp .ge 43, 3) := by decide +kernel
theorem d_Model_load_179 : decode b_Model_load 179 = .ok (.aload_n 0, 1) := by decide +kernel
theorem d_Model_load_180 : decode b_Model_load 180 = .ok (.bipush 8, 2) := by decide +kernel
theorem d_Model_load_182 : decode b_Model_load 182 = .ok (.iload_n 1, 1) := by decide +kernel
theorem d_Model_load_183 : decode b_Model_load 183 = .ok (.iadd, 1) := by decide +kernel
theorem d_Model_load_184 : decode b_Model_load 184 = .ok (.invokevirtual 135, 3) := by decide +kernel
theorem d_Model_load_187 : decode b_Model_load 187 = .ok (.istore_n 2, 1) := by decide +kernel
theorem d_Model_load_188 : decode b_Model_load 188 = .ok (.iload_n 2, 1) := by decide +kernel
theorem d_Model_load_189 : decode b_Model_load 189 = .ok (.ifCond .lt 16, 3) := by decide +kernel
theorem d_Model_load_192 : decode b_Model_load 192 = .ok (.iload_n 2, 1) := by decide +kernel
theorem d_Model_load_193 : decode b_Model_load 193 = .ok (.aload_n 0, 1) := by decide +kernel
theorem d_Model_load_194 : decode b_Model_load 194 = .ok (.getfield 40, 3) := by decide +kernel
theorem d_Model_load_197 : decode b_Model_load 197 = .ok (.bipush 8, 2) := by decide +kernel
theorem d_Model_load_199 : decode b_Model_load 199 = .ok (.iload_n 1, 1) := by decide +kernel
theorem d_Model_load_200 : decode b_Model_load 200 = .ok (.iadd, 1) := by decide +kernel
theorem d_Model_load_201 : decode b_Model_load 201 = .ok (.iaload, 1) := by decide +kernel
theorem d_Model_load_202 : decode b_Model_load 202 = .ok (.if_icmp .le 11, 3) := by decide +kernel
theorem d_Model_load_205 : decode b_Model_load 205 = .ok (.aload_n 0, 1) := by decide +kernel
theorem d_Model_load_206 : decode b_Model_load 206 = .ok (.bipush 8, 2) := by decide +kernel
theorem d_Model_load_208 : decode b_Model_load 208 = .ok (.iload_n 1, 1) := by decide +kernel
theorem d_Model_load_209 : decode b_Model_load 209 = .ok (.invokevirtual 194, 3) := by decide +kernel
theorem d_Model_load_212 : decode b_Model_load 212 = .ok (.ireturn, 1) := by decide +kernel
theorem d_Model_load_213 : decode b_Model_load 213 = .ok (.iinc 1 1, 3) := by decide +kernel
theorem d_Model_load_216 : decode b_Model_load 216 = .ok (.goto (-45), 3) := by decide +kernel
theorem d_Model_load_219 : decode b_Model_load 219 = .ok (.iconst 0, 1) := by decide +kernel
theorem d_Model_load_220 : decode b_Model_load 220 = .ok (.istore_n 1, 1) := by decide +kernel
theorem d_Model_load_221 : decode b_Model_load 221 = .ok (.iload_n 1, 1) := by decide +kernel
theorem d_Model_load_222 : decode b_Model_load 222 = .ok (.bipush 8, 2) := by decide +kernel
theorem d_Model_load_224 : decode b_Model_load 224 = .ok (.if_icmp .ge 16, 3) := by decide +kernel
theorem d_Model_load_227 : decode b_Model_load 227 = .ok (.aload_n 0, 1) := by decide +kernel
theorem d_Model_load_228 : decode b_Model_load 228 = .ok (.getfield 50, 3) := by decide +kernel
theorem d_Model_load_231 : decode b_Model_load 231 = .ok (.iload_n 1, 1) := by decide +kernel
theorem d_Model_load_232 : decode b_Model_load 232 = .ok (.iconst 0, 1) := by decide +kernel
theorem d_Model_load_233 : decode b_Model_load 233 = .ok (.bastore, 1) := by decide +kernel
theorem d_Model_load_234 : decode b_Model_load 234 = .ok (.iinc 1 1, 3) := by decide +kernel
theorem d_Model_load_237 : decode b_Model_load 237 = .ok (.goto (-16), 3) := by decide +kernel
theorem d_Model_load_240 : decode b_Model_load 240 = .ok (.iconst 0, 1) := by decide +kernel
theorem d_Model_load_241 : decode b_Model_load 241 = .ok (.istore_n 1, 1) := by decide +kernel
theorem d_Model_load_242 : decode b_Model_load 242 = .ok (.iload_n 1, 1) := by decide +kernel
theorem d_Model_load_243 : decode b_Model_load 243 = .ok (.aload_n 0, 1) := by decide +kernel
theorem d_Model_load_244 : decode b_Model_load 244 = .ok (.getfield 172, 3) := by decide +kernel
theorem d_Model_load_247 : decode b_Model_load 247 = .ok (.if_icmp .ge 47, 3) := by decide +kernel
theorem d_Model_load_250 : decode b_Model_load 250 = .ok (.aload_n 0, 1) := by decide +kernel
theorem d_Model_load_251 : decode b_Model_load 251 = .ok (.getfield 59, 3) := by decide +kernel
theorem d_Model_load_254 : decode b_Model_load 254 = .ok (.iload_n 1, 1) := by decide +kernel
theorem d_Model_load_255 : decode b_Model_load 255 = .ok (.iaload, 1) := by decide +kernel
theorem d_Model_load_256 : decode b_Model_load 256 = .ok (.istore_n 2, 1) := by decide +kernel
theorem d_Model_load_257 : decode b_Model_load 257 = .ok (.aload_n 0, 1) := by decide +kernel
theorem d_Model_load_258 : decode b_Model_load 258 = .ok (.getfield 50, 3) := by decide +kernel
theorem d_Model_load_261 : decode b_Model_load 261 = .ok (.iload_n 2, 1) := by decide +kernel
theorem d_Model_load_262 : decode b_Model_load 262 = .ok (.iconst 1, 1) := by decide +kernel
theorem d_Model_load_263 : decode b_Model_load 263 = .ok (.bastore, 1) := by decide +kernel
theorem d_Model_load_264 : decode b_Model_load 264 = .ok (.aload_n 0, 1) := by decide +kernel
theorem d_Model_load_265 : decode b_Model_load 265 = .ok (.getfield 74, 3) := by decide +kernel
theorem d_Model_load_268 : decode b_Model_load 268 = .ok (.iload_n 2, 1) := by decide +kernel
theorem d_Model_load_269 : decode b_Model_load 269 = .ok (.aload_n 0, 1) := by decide +kernel
theorem d_Model_load_270 : decode b_Model_load 270 = .ok (.getfield 62, 3) := by decide +kernel
theorem d_Model_load_273 : decode b_Model_load 273 = .ok (.iload_n 1, 1) := by decide +kernel
theorem d_Model_load_274 : decode b_Model_load 274 = .ok (.iaload, 1) := by decide +kernel
theorem d_Model_load_275 : decode b_Model_load 275 = .ok (.iastore, 1) := by decide +kernel
theorem d_Model_load_276 : decode b_Model_load 276 = .ok (.aload_n 0, 1) := by decide +kernel
theorem d_Model_load_277 : decode b_Model_load 277 = .ok (.bipush 16, 2) := by decide +kernel
theorem d_Model_load_279 : decode b_Model_load 279 = .ok (.iload_n 2, 1) := by decide +kernel
theorem d_Model_load_280 : decode b_Model_load 280 = .ok (.iadd, 1) := by decide +kernel
theorem d_Model_load_281 : decode b_Model_load 281 = .ok (.bipush 8, 2) := by decide +kernel
theorem d_Model_load_283 : decode b_Model_load 283 = .ok (.iload_n 1, 1) := by decide +kernel
theorem d_Model_load_284 : decode b_Model_load 284 = .ok (.iadd, 1) := by decide +kernel
theorem d_Model_load_285 : decode b_Model_load 285 = .ok (.invokevirtual 175, 3) := by decide +kernel
theorem d_Model_load_288 : decode b_Model_load 288 = .ok (.iinc 1 1, 3) := by decide +kernel
theorem d_Model_load_291 : decode b_Model_load 291 = .ok (.goto (-49), 3) := by decide +kernel
theorem d_Model_load_294 : decode b_Model_load 294 = .ok (.aload_n 0, 1) := by decide +kernel
theorem d_Model_load_295 : decode b_Model_load 295 = .ok (.dup, 1) := by decide +kernel
theorem d_Model_load_296 : decode b_Model_load 296 = .ok (.getfield 201, 3) := by decide +kernel
theorem d_Model_load_299 : decode b_Model_load 299 = .ok (.iconst 1, 1) := by decide +kernel
theorem d_Model_load_300 : decode b_Model_load 300 = .ok (.iadd, 1) := by decide +kernel
theorem d_Model_load_301 : decode b_Model_load 301 = .ok (.putfield 201, 3) := by decide +kernel
theorem d_Model_load_304 : decode b_Model_load 304 = .ok (.iconst 0, 1) := by decide +kernel
theorem d_Model_load_305 : decode b_Model_load 305 = .ok (.ireturn, 1) := by decide +kernel
