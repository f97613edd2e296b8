/-! methods: codes, names, decode rows -/
abbrev b_Desk_init : ByteArray := prog_1_method_1_code
abbrev J_Desk_init : MethodName × ByteArray × Nat × Option FieldType := (⟨"FaslDesk", "<init>", "()V"⟩, b_Desk_init, 1, none)
theorem d_Desk_init_0 : decode b_Desk_init 0 = .ok (.aload_n 0, 1) := by decide +kernel
theorem d_Desk_init_1 : decode b_Desk_init 1 = .ok (.invokespecial 1, 3) := by decide +kernel
theorem d_Desk_init_4 : decode b_Desk_init 4 = .ok (.aload_n 0, 1) := by decide +kernel
theorem d_Desk_init_5 : decode b_Desk_init 5 = .ok (.new 7, 3) := by decide +kernel
theorem d_Desk_init_8 : decode b_Desk_init 8 = .ok (.dup, 1) := by decide +kernel
theorem d_Desk_init_9 : decode b_Desk_init 9 = .ok (.invokespecial 9, 3) := by decide +kernel
theorem d_Desk_init_12 : decode b_Desk_init 12 = .ok (.putfield 10, 3) := by decide +kernel
theorem d_Desk_init_15 : decode b_Desk_init 15 = .ok (.aload_n 0, 1) := by decide +kernel
theorem d_Desk_init_16 : decode b_Desk_init 16 = .ok (.new 16, 3) := by decide +kernel
theorem d_Desk_init_19 : decode b_Desk_init 19 = .ok (.dup, 1) := by decide +kernel
theorem d_Desk_init_20 : decode b_Desk_init 20 = .ok (.invokespecial 18, 3) := by decide +kernel
theorem d_Desk_init_23 : decode b_Desk_init 23 = .ok (.putfield 19, 3) := by decide +kernel
theorem d_Desk_init_26 : decode b_Desk_init 26 = .ok (.aload_n 0, 1) := by decide +kernel
theorem d_Desk_init_27 : decode b_Desk_init 27 = .ok (.new 23, 3) := by decide +kernel
theorem d_Desk_init_30 : decode b_Desk_init 30 = .ok (.dup, 1) := by decide +kernel
theorem d_Desk_init_31 : decode b_Desk_init 31 = .ok (.invokespecial 25, 3) := by decide +kernel
theorem d_Desk_init_34 : decode b_Desk_init 34 = .ok (.putfield 26, 3) := by decide +kernel
theorem d_Desk_init_37 : decode b_Desk_init 37 = .ok (.aload_n 0, 1) := by decide +kernel
theorem d_Desk_init_38 : decode b_Desk_init 38 = .ok (.new 30, 3) := by decide +kernel
theorem d_Desk_init_41 : decode b_Desk_init 41 = .ok (.dup, 1) := by decide +kernel
theorem d_Desk_init_42 : decode b_Desk_init 42 = .ok (.invokespecial 32, 3) := by decide +kernel
theorem d_Desk_init_45 : decode b_Desk_init 45 = .ok (.putfield 33, 3) := by decide +kernel
theorem d_Desk_init_48 : decode b_Desk_init 48 = .ok (.aload_n 0, 1) := by decide +kernel
theorem d_Desk_init_49 : decode b_Desk_init 49 = .ok (.new 37, 3) := by decide +kernel
theorem d_Desk_init_52 : decode b_Desk_init 52 = .ok (.dup, 1) := by decide +kernel
theorem d_Desk_init_53 : decode b_Desk_init 53 = .ok (.invokespecial 39, 3) := by decide +kernel
theorem d_Desk_init_56 : decode b_Desk_init 56 = .ok (.putfield 40, 3) := by decide +kernel
theorem d_Desk_init_59 : decode b_Desk_init 59 = .ok (.aload_n 0, 1) := by decide +kernel
theorem d_Desk_init_60 : decode b_Desk_init 60 = .ok (.iconst (-1), 1) := by decide +kernel
theorem d_Desk_init_61 : decode b_Desk_init 61 = .ok (.putfield 44, 3) := by decide +kernel
theorem d_Desk_init_64 : decode b_Desk_init 64 = .ok (.return_, 1) := by decide +kernel
abbrev b_Desk_token : ByteArray := prog_1_method_2_code
abbrev J_Desk_token : MethodName × ByteArray × Nat × Option FieldType := (⟨"FaslDesk", "token", "(II)I"⟩, b_Desk_token, 3, (some .int))
theorem d_Desk_token_0 : decode b_Desk_token 0 = .ok (.iload_n 1, 1) := by decide +kernel
theorem d_Desk_token_1 : decode b_Desk_token 1 = .ok (.iload_n 2, 1) := by decide +kernel
theorem d_Desk_token_2 : decode b_Desk_token 2 = .ok (.invokestatic 48, 3) := by decide +kernel
theorem d_Desk_token_5 : decode b_Desk_token 5 = .ok (.ifCond .ne 5, 3) := by decide +kernel
theorem d_Desk_token_8 : decode b_Desk_token 8 = .ok (.iconst (-1), 1) := by decide +kernel
theorem d_Desk_token_9 : decode b_Desk_token 9 = .ok (.ireturn, 1) := by decide +kernel
theorem d_Desk_token_10 : decode b_Desk_token 10 = .ok (.aload_n 0, 1) := by decide +kernel
theorem d_Desk_token_11 : decode b_Desk_token 11 = .ok (.getfield 10, 3) := by decide +kernel
theorem d_Desk_token_14 : decode b_Desk_token 14 = .ok (.getfield 52, 3) := by decide +kernel
theorem d_Desk_token_17 : decode b_Desk_token 17 = .ok (.bipush 40, 2) := by decide +kernel
theorem d_Desk_token_19 : decode b_Desk_token 19 = .ok (.if_icmp .lt 6, 3) := by decide +kernel
theorem d_Desk_token_22 : decode b_Desk_token 22 = .ok (.bipush (-2), 2) := by decide +kernel
theorem d_Desk_token_24 : decode b_Desk_token 24 = .ok (.ireturn, 1) := by decide +kernel
theorem d_Desk_token_25 : decode b_Desk_token 25 = .ok (.aload_n 0, 1) := by decide +kernel
theorem d_Desk_token_26 : decode b_Desk_token 26 = .ok (.getfield 10, 3) := by decide +kernel
theorem d_Desk_token_29 : decode b_Desk_token 29 = .ok (.iload_n 1, 1) := by decide +kernel
theorem d_Desk_token_30 : decode b_Desk_token 30 = .ok (.iload_n 2, 1) := by decide +kernel
theorem d_Desk_token_31 : decode b_Desk_token 31 = .ok (.invokevirtual 55, 3) := by decide +kernel
theorem d_Desk_token_34 : decode b_Desk_token 34 = .ok (.aload_n 0, 1) := by decide +kernel
theorem d_Desk_token_35 : decode b_Desk_token 35 = .ok (.getfield 10, 3) := by decide +kernel
theorem d_Desk_token_38 : decode b_Desk_token 38 = .ok (.getfield 52, 3) := by decide +kernel
theorem d_Desk_token_41 : decode b_Desk_token 41 = .ok (.ireturn, 1) := by decide +kernel
abbrev b_Desk_define : ByteArray := prog_1_method_3_code
abbrev J_Desk_define : MethodName × ByteArray × Nat × Option FieldType := (⟨"FaslDesk", "define", "(II)I"⟩, b_Desk_define, 3, (some .int))
theorem d_Desk_define_0 : decode b_Desk_define 0 = .ok (.iload_n 1, 1) := by decide +kernel
theorem d_Desk_define_1 : decode b_Desk_define 1 = .ok (.iconst 0, 1) := by decide +kernel
theorem d_Desk_define_2 : decode b_Desk_define 2 = .ok (.bipush 7, 2) := by decide +kernel
theorem d_Desk_define_4 : decode b_Desk_define 4 = .ok (.invokestatic 59, 3) := by decide +kernel
theorem d_Desk_define_7 : decode b_Desk_define 7 = .ok (.ifCond .eq 24, 3) := by decide +kernel
theorem d_Desk_define_10 : decode b_Desk_define 10 = .ok (.iload_n 2, 1) := by decide +kernel
theorem d_Desk_define_11 : decode b_Desk_define 11 = .ok (.iconst 0, 1) := by decide +kernel
theorem d_Desk_define_12 : decode b_Desk_define 12 = .ok (.iconst 3, 1) := by decide +kernel
theorem d_Desk_define_13 : decode b_Desk_define 13 = .ok (.invokestatic 59, 3) := by decide +kernel
theorem d_Desk_define_16 : decode b_Desk_define 16 = .ok (.ifCond .eq 15, 3) := by decide +kernel
theorem d_Desk_define_19 : decode b_Desk_define 19 = .ok (.aload_n 0, 1) := by decide +kernel
theorem d_Desk_define_20 : decode b_Desk_define 20 = .ok (.getfield 10, 3) := by decide +kernel
theorem d_Desk_define_23 : decode b_Desk_define 23 = .ok (.iload_n 1, 1) := by decide +kernel
theorem d_Desk_define_24 : decode b_Desk_define 24 = .ok (.iload_n 2, 1) := by decide +kernel
theorem d_Desk_define_25 : decode b_Desk_define 25 = .ok (.invokevirtual 63, 3) := by decide +kernel
theorem d_Desk_define_28 : decode b_Desk_define 28 = .ok (.ifCond .ne 5, 3) := by decide +kernel
theorem d_Desk_define_31 : decode b_Desk_define 31 = .ok (.iconst (-1), 1) := by decide +kernel
theorem d_Desk_define_32 : decode b_Desk_define 32 = .ok (.ireturn, 1) := by decide +kernel
theorem d_Desk_define_33 : decode b_Desk_define 33 = .ok (.aload_n 0, 1) := by decide +kernel
theorem d_Desk_define_34 : decode b_Desk_define 34 = .ok (.getfield 19, 3) := by decide +kernel
theorem d_Desk_define_37 : decode b_Desk_define 37 = .ok (.getfield 66, 3) := by decide +kernel
theorem d_Desk_define_40 : decode b_Desk_define 40 = .ok (.iload_n 1, 1) := by decide +kernel
theorem d_Desk_define_41 : decode b_Desk_define 41 = .ok (.aaload, 1) := by decide +kernel
theorem d_Desk_define_42 : decode b_Desk_define 42 = .ok (.aload_n 0, 1) := by decide +kernel
theorem d_Desk_define_43 : decode b_Desk_define 43 = .ok (.getfield 10, 3) := by decide +kernel
theorem d_Desk_define_46 : decode b_Desk_define 46 = .ok (.iload_n 2, 1) := by decide +kernel
theorem d_Desk_define_47 : decode b_Desk_define 47 = .ok (.invokevirtual 70, 3) := by decide +kernel
theorem d_Desk_define_50 : decode b_Desk_define 50 = .ok (.aload_n 0, 1) := by decide +kernel
theorem d_Desk_define_51 : decode b_Desk_define 51 = .ok (.getfield 10, 3) := by decide +kernel
theorem d_Desk_define_54 : decode b_Desk_define 54 = .ok (.iconst 0, 1) := by decide +kernel
theorem d_Desk_define_55 : decode b_Desk_define 55 = .ok (.putfield 52, 3) := by decide +kernel
theorem d_Desk_define_58 : decode b_Desk_define 58 = .ok (.aload_n 0, 1) := by decide +kernel
theorem d_Desk_define_59 : decode b_Desk_define 59 = .ok (.getfield 19, 3) := by decide +kernel
theorem d_Desk_define_62 : decode b_Desk_define 62 = .ok (.getfield 66, 3) := by decide +kernel
theorem d_Desk_define_65 : decode b_Desk_define 65 = .ok (.iload_n 1, 1) := by decide +kernel
theorem d_Desk_define_66 : decode b_Desk_define 66 = .ok (.aaload, 1) := by decide +kernel
theorem d_Desk_define_67 : decode b_Desk_define 67 = .ok (.getfield 52, 3) := by decide +kernel
theorem d_Desk_define_70 : decode b_Desk_define 70 = .ok (.ireturn, 1) := by decide +kernel
abbrev b_Desk_clear : ByteArray := prog_1_method_4_code
abbrev J_Desk_clear : MethodName × ByteArray × Nat × Option FieldType := (⟨"FaslDesk", "clear", "()I"⟩, b_Desk_clear, 2, (some .int))
theorem d_Desk_clear_0 : decode b_Desk_clear 0 = .ok (.aload_n 0, 1) := by decide +kernel
theorem d_Desk_clear_1 : decode b_Desk_clear 1 = .ok (.getfield 10, 3) := by decide +kernel
theorem d_Desk_clear_4 : decode b_Desk_clear 4 = .ok (.getfield 52, 3) := by decide +kernel
theorem d_Desk_clear_7 : decode b_Desk_clear 7 = .ok (.istore_n 1, 1) := by decide +kernel
theorem d_Desk_clear_8 : decode b_Desk_clear 8 = .ok (.aload_n 0, 1) := by decide +kernel
theorem d_Desk_clear_9 : decode b_Desk_clear 9 = .ok (.getfield 10, 3) := by decide +kernel
theorem d_Desk_clear_12 : decode b_Desk_clear 12 = .ok (.iconst 0, 1) := by decide +kernel
theorem d_Desk_clear_13 : decode b_Desk_clear 13 = .ok (.putfield 52, 3) := by decide +kernel
theorem d_Desk_clear_16 : decode b_Desk_clear 16 = .ok (.iload_n 1, 1) := by decide +kernel
theorem d_Desk_clear_17 : decode b_Desk_clear 17 = .ok (.ireturn, 1) := by decide +kernel
abbrev b_Desk_interpret : ByteArray := prog_1_method_5_code
abbrev J_Desk_interpret : MethodName × ByteArray × Nat × Option FieldType := (⟨"FaslDesk", "interpret", "(IIII)I"⟩, b_Desk_interpret, 5, (some .int))
theorem d_Desk_interpret_0 : decode b_Desk_interpret 0 = .ok (.aload_n 0, 1) := by decide +kernel
theorem d_Desk_interpret_1 : decode b_Desk_interpret 1 = .ok (.getfield 19, 3) := by decide +kernel
theorem d_Desk_interpret_4 : decode b_Desk_interpret 4 = .ok (.iload_n 1, 1) := by decide +kernel
theorem d_Desk_interpret_5 : decode b_Desk_interpret 5 = .ok (.iload_n 2, 1) := by decide +kernel
theorem d_Desk_interpret_6 : decode b_Desk_interpret 6 = .ok (.iload_n 3, 1) := by decide +kernel
theorem d_Desk_interpret_7 : decode b_Desk_interpret 7 = .ok (.iload 4, 2) := by decide +kernel
theorem d_Desk_interpret_9 : decode b_Desk_interpret 9 = .ok (.invokevirtual 74, 3) := by decide +kernel
theorem d_Desk_interpret_12 : decode b_Desk_interpret 12 = .ok (.ireturn, 1) := by decide +kernel
abbrev b_Desk_compile : ByteArray := prog_1_method_6_code
abbrev J_Desk_compile : MethodName × ByteArray × Nat × Option FieldType := (⟨"FaslDesk", "compile", "(I)I"⟩, b_Desk_compile, 3, (some .int))
theorem d_Desk_compile_0 : decode b_Desk_compile 0 = .ok (.aload_n 0, 1) := by decide +kernel
theorem d_Desk_compile_1 : decode b_Desk_compile 1 = .ok (.getfield 19, 3) := by decide +kernel
theorem d_Desk_compile_4 : decode b_Desk_compile 4 = .ok (.iload_n 1, 1) := by decide +kernel
theorem d_Desk_compile_5 : decode b_Desk_compile 5 = .ok (.invokevirtual 78, 3) := by decide +kernel
theorem d_Desk_compile_8 : decode b_Desk_compile 8 = .ok (.ifCond .ne 5, 3) := by decide +kernel
theorem d_Desk_compile_11 : decode b_Desk_compile 11 = .ok (.iconst (-1), 1) := by decide +kernel
theorem d_Desk_compile_12 : decode b_Desk_compile 12 = .ok (.ireturn, 1) := by decide +kernel
theorem d_Desk_compile_13 : decode b_Desk_compile 13 = .ok (.aload_n 0, 1) := by decide +kernel
theorem d_Desk_compile_14 : decode b_Desk_compile 14 = .ok (.getfield 33, 3) := by decide +kernel
theorem d_Desk_compile_17 : decode b_Desk_compile 17 = .ok (.iload_n 1, 1) := by decide +kernel
theorem d_Desk_compile_18 : decode b_Desk_compile 18 = .ok (.invokevirtual 82, 3) := by decide +kernel
theorem d_Desk_compile_21 : decode b_Desk_compile 21 = .ok (.istore_n 2, 1) := by decide +kernel
theorem d_Desk_compile_22 : decode b_Desk_compile 22 = .ok (.iload_n 2, 1) := by decide +kernel
theorem d_Desk_compile_23 : decode b_Desk_compile 23 = .ok (.bipush 8, 2) := by decide +kernel
theorem d_Desk_compile_25 : decode b_Desk_compile 25 = .ok (.if_icmp .lt 6, 3) := by decide +kernel
theorem d_Desk_compile_28 : decode b_Desk_compile 28 = .ok (.bipush (-2), 2) := by decide +kernel
theorem d_Desk_compile_30 : decode b_Desk_compile 30 = .ok (.ireturn, 1) := by decide +kernel
theorem d_Desk_compile_31 : decode b_Desk_compile 31 = .ok (.aload_n 0, 1) := by decide +kernel
theorem d_Desk_compile_32 : decode b_Desk_compile 32 = .ok (.getfield 26, 3) := by decide +kernel
theorem d_Desk_compile_35 : decode b_Desk_compile 35 = .ok (.aload_n 0, 1) := by decide +kernel
theorem d_Desk_compile_36 : decode b_Desk_compile 36 = .ok (.getfield 19, 3) := by decide +kernel
theorem d_Desk_compile_39 : decode b_Desk_compile 39 = .ok (.getfield 66, 3) := by decide +kernel
theorem d_Desk_compile_42 : decode b_Desk_compile 42 = .ok (.iload_n 1, 1) := by decide +kernel
theorem d_Desk_compile_43 : decode b_Desk_compile 43 = .ok (.aaload, 1) := by decide +kernel
theorem d_Desk_compile_44 : decode b_Desk_compile 44 = .ok (.aload_n 0, 1) := by decide +kernel
theorem d_Desk_compile_45 : decode b_Desk_compile 45 = .ok (.getfield 33, 3) := by decide +kernel
theorem d_Desk_compile_48 : decode b_Desk_compile 48 = .ok (.getfield 86, 3) := by decide +kernel
theorem d_Desk_compile_51 : decode b_Desk_compile 51 = .ok (.iload_n 2, 1) := by decide +kernel
theorem d_Desk_compile_52 : decode b_Desk_compile 52 = .ok (.aaload, 1) := by decide +kernel
theorem d_Desk_compile_53 : decode b_Desk_compile 53 = .ok (.invokevirtual 90, 3) := by decide +kernel
theorem d_Desk_compile_56 : decode b_Desk_compile 56 = .ok (.aload_n 0, 1) := by decide +kernel
theorem d_Desk_compile_57 : decode b_Desk_compile 57 = .ok (.getfield 33, 3) := by decide +kernel
theorem d_Desk_compile_60 : decode b_Desk_compile 60 = .ok (.getfield 86, 3) := by decide +kernel
theorem d_Desk_compile_63 : decode b_Desk_compile 63 = .ok (.iload_n 2, 1) := by decide +kernel
theorem d_Desk_compile_64 : decode b_Desk_compile 64 = .ok (.aaload, 1) := by decide +kernel
theorem d_Desk_compile_65 : decode b_Desk_compile 65 = .ok (.iload_n 1, 1) := by decide +kernel
theorem d_Desk_compile_66 : decode b_Desk_compile 66 = .ok (.invokevirtual 94, 3) := by decide +kernel
theorem d_Desk_compile_69 : decode b_Desk_compile 69 = .ok (.aload_n 0, 1) := by decide +kernel
theorem d_Desk_compile_70 : decode b_Desk_compile 70 = .ok (.getfield 33, 3) := by decide +kernel
theorem d_Desk_compile_73 : decode b_Desk_compile 73 = .ok (.iload_n 2, 1) := by decide +kernel
theorem d_Desk_compile_74 : decode b_Desk_compile 74 = .ok (.invokevirtual 100, 3) := by decide +kernel
theorem d_Desk_compile_77 : decode b_Desk_compile 77 = .ok (.iload_n 2, 1) := by decide +kernel
theorem d_Desk_compile_78 : decode b_Desk_compile 78 = .ok (.ireturn, 1) := by decide +kernel
abbrev b_Desk_damage : ByteArray := prog_1_method_7_code
abbrev J_Desk_damage : MethodName × ByteArray × Nat × Option FieldType := (⟨"FaslDesk", "damage", "(III)I"⟩, b_Desk_damage, 4, (some .int))
theorem d_Desk_damage_0 : decode b_Desk_damage 0 = .ok (.iload_n 1, 1) := by decide +kernel
theorem d_Desk_damage_1 : decode b_Desk_damage 1 = .ok (.tableswitch 66 0 4 #[35, 41, 47, 54, 60], 35) := by decide +kernel
theorem d_Desk_damage_36 : decode b_Desk_damage 36 = .ok (.aload_n 0, 1) := by decide +kernel
theorem d_Desk_damage_37 : decode b_Desk_damage 37 = .ok (.iload_n 3, 1) := by decide +kernel
theorem d_Desk_damage_38 : decode b_Desk_damage 38 = .ok (.invokevirtual 103, 3) := by decide +kernel
theorem d_Desk_damage_41 : decode b_Desk_damage 41 = .ok (.ireturn, 1) := by decide +kernel
theorem d_Desk_damage_42 : decode b_Desk_damage 42 = .ok (.aload_n 0, 1) := by decide +kernel
theorem d_Desk_damage_43 : decode b_Desk_damage 43 = .ok (.iload_n 3, 1) := by decide +kernel
theorem d_Desk_damage_44 : decode b_Desk_damage 44 = .ok (.invokevirtual 106, 3) := by decide +kernel
theorem d_Desk_damage_47 : decode b_Desk_damage 47 = .ok (.ireturn, 1) := by decide +kernel
theorem d_Desk_damage_48 : decode b_Desk_damage 48 = .ok (.aload_n 0, 1) := by decide +kernel
theorem d_Desk_damage_49 : decode b_Desk_damage 49 = .ok (.iload_n 2, 1) := by decide +kernel
theorem d_Desk_damage_50 : decode b_Desk_damage 50 = .ok (.iload_n 3, 1) := by decide +kernel
theorem d_Desk_damage_51 : decode b_Desk_damage 51 = .ok (.invokevirtual 109, 3) := by decide +kernel
theorem d_Desk_damage_54 : decode b_Desk_damage 54 = .ok (.ireturn, 1) := by decide +kernel
theorem d_Desk_damage_55 : decode b_Desk_damage 55 = .ok (.aload_n 0, 1) := by decide +kernel
theorem d_Desk_damage_56 : decode b_Desk_damage 56 = .ok (.iload_n 2, 1) := by decide +kernel
theorem d_Desk_damage_57 : decode b_Desk_damage 57 = .ok (.invokevirtual 113, 3) := by decide +kernel
theorem d_Desk_damage_60 : decode b_Desk_damage 60 = .ok (.ireturn, 1) := by decide +kernel
theorem d_Desk_damage_61 : decode b_Desk_damage 61 = .ok (.aload_n 0, 1) := by decide +kernel
theorem d_Desk_damage_62 : decode b_Desk_damage 62 = .ok (.iload_n 2, 1) := by decide +kernel
theorem d_Desk_damage_63 : decode b_Desk_damage 63 = .ok (.invokevirtual 116, 3) := by decide +kernel
theorem d_Desk_damage_66 : decode b_Desk_damage 66 = .ok (.ireturn, 1) := by decide +kernel
theorem d_Desk_damage_67 : decode b_Desk_damage 67 = .ok (.iconst (-1), 1) := by decide +kernel
theorem d_Desk_damage_68 : decode b_Desk_damage 68 = .ok (.ireturn, 1) := by decide +kernel
abbrev b_Desk_forge : ByteArray := prog_1_method_8_code
abbrev J_Desk_forge : MethodName × ByteArray × Nat × Option FieldType := (⟨"FaslDesk", "forge", "(III)I"⟩, b_Desk_forge, 6, (some .int))
theorem d_Desk_forge_0 : decode b_Desk_forge 0 = .ok (.aload_n 0, 1) := by decide +kernel
theorem d_Desk_forge_1 : decode b_Desk_forge 1 = .ok (.iload_n 1, 1) := by decide +kernel
theorem d_Desk_forge_2 : decode b_Desk_forge 2 = .ok (.iload_n 2, 1) := by decide +kernel
theorem d_Desk_forge_3 : decode b_Desk_forge 3 = .ok (.invokevirtual 119, 3) := by decide +kernel
theorem d_Desk_forge_6 : decode b_Desk_forge 6 = .ok (.ifCond .eq 10, 3) := by decide +kernel
theorem d_Desk_forge_9 : decode b_Desk_forge 9 = .ok (.iload_n 3, 1) := by decide +kernel
theorem d_Desk_forge_10 : decode b_Desk_forge 10 = .ok (.invokestatic 122, 3) := by decide +kernel
theorem d_Desk_forge_13 : decode b_Desk_forge 13 = .ok (.ifCond .ne 5, 3) := by decide +kernel
theorem d_Desk_forge_16 : decode b_Desk_forge 16 = .ok (.iconst (-1), 1) := by decide +kernel
theorem d_Desk_forge_17 : decode b_Desk_forge 17 = .ok (.ireturn, 1) := by decide +kernel
theorem d_Desk_forge_18 : decode b_Desk_forge 18 = .ok (.aload_n 0, 1) := by decide +kernel
theorem d_Desk_forge_19 : decode b_Desk_forge 19 = .ok (.getfield 33, 3) := by decide +kernel
theorem d_Desk_forge_22 : decode b_Desk_forge 22 = .ok (.getfield 86, 3) := by decide +kernel
theorem d_Desk_forge_25 : decode b_Desk_forge 25 = .ok (.iload_n 1, 1) := by decide +kernel
theorem d_Desk_forge_26 : decode b_Desk_forge 26 = .ok (.aaload, 1) := by decide +kernel
theorem d_Desk_forge_27 : decode b_Desk_forge 27 = .ok (.astore 4, 2) := by decide +kernel
theorem d_Desk_forge_29 : decode b_Desk_forge 29 = .ok (.aload 4, 2) := by decide +kernel
theorem d_Desk_forge_31 : decode b_Desk_forge 31 = .ok (.getfield 127, 3) := by decide +kernel
theorem d_Desk_forge_34 : decode b_Desk_forge 34 = .ok (.getfield 131, 3) := by decide +kernel
theorem d_Desk_forge_37 : decode b_Desk_forge 37 = .ok (.iload_n 2, 1) := by decide +kernel
theorem d_Desk_forge_38 : decode b_Desk_forge 38 = .ok (.iaload, 1) := by decide +kernel
theorem d_Desk_forge_39 : decode b_Desk_forge 39 = .ok (.istore 5, 2) := by decide +kernel
theorem d_Desk_forge_41 : decode b_Desk_forge 41 = .ok (.iload 5, 2) := by decide +kernel
theorem d_Desk_forge_43 : decode b_Desk_forge 43 = .ok (.invokestatic 122, 3) := by decide +kernel
theorem d_Desk_forge_46 : decode b_Desk_forge 46 = .ok (.ifCond .eq 13, 3) := by decide +kernel
theorem d_Desk_forge_49 : decode b_Desk_forge 49 = .ok (.aload 4, 2) := by decide +kernel
theorem d_Desk_forge_51 : decode b_Desk_forge 51 = .ok (.getfield 135, 3) := by decide +kernel
theorem d_Desk_forge_54 : decode b_Desk_forge 54 = .ok (.iload_n 2, 1) := by decide +kernel
theorem d_Desk_forge_55 : decode b_Desk_forge 55 = .ok (.baload, 1) := by decide +kernel
theorem d_Desk_forge_56 : decode b_Desk_forge 56 = .ok (.ifCond .eq 5, 3) := by decide +kernel
theorem d_Desk_forge_59 : decode b_Desk_forge 59 = .ok (.iconst (-1), 1) := by decide +kernel
theorem d_Desk_forge_60 : decode b_Desk_forge 60 = .ok (.ireturn, 1) := by decide +kernel
theorem d_Desk_forge_61 : decode b_Desk_forge 61 = .ok (.aload 4, 2) := by decide +kernel
theorem d_Desk_forge_63 : decode b_Desk_forge 63 = .ok (.getfield 127, 3) := by decide +kernel
theorem d_Desk_forge_66 : decode b_Desk_forge 66 = .ok (.getfield 131, 3) := by decide +kernel
theorem d_Desk_forge_69 : decode b_Desk_forge 69 = .ok (.iload_n 2, 1) := by decide +kernel
theorem d_Desk_forge_70 : decode b_Desk_forge 70 = .ok (.iload_n 3, 1) := by decide +kernel
theorem d_Desk_forge_71 : decode b_Desk_forge 71 = .ok (.iastore, 1) := by decide +kernel
theorem d_Desk_forge_72 : decode b_Desk_forge 72 = .ok (.iload 5, 2) := by decide +kernel
theorem d_Desk_forge_74 : decode b_Desk_forge 74 = .ok (.ireturn, 1) := by decide +kernel
abbrev b_Desk_drop : ByteArray := prog_1_method_9_code
abbrev J_Desk_drop : MethodName × ByteArray × Nat × Option FieldType := (⟨"FaslDesk", "drop", "(I)I"⟩, b_Desk_drop, 2, (some .int))
theorem d_Desk_drop_0 : decode b_Desk_drop 0 = .ok (.aload_n 0, 1) := by decide +kernel
theorem d_Desk_drop_1 : decode b_Desk_drop 1 = .ok (.getfield 33, 3) := by decide +kernel
theorem d_Desk_drop_4 : decode b_Desk_drop 4 = .ok (.iload_n 1, 1) := by decide +kernel
theorem d_Desk_drop_5 : decode b_Desk_drop 5 = .ok (.invokevirtual 139, 3) := by decide +kernel
theorem d_Desk_drop_8 : decode b_Desk_drop 8 = .ok (.ifCond .eq 14, 3) := by decide +kernel
theorem d_Desk_drop_11 : decode b_Desk_drop 11 = .ok (.aload_n 0, 1) := by decide +kernel
theorem d_Desk_drop_12 : decode b_Desk_drop 12 = .ok (.getfield 33, 3) := by decide +kernel
theorem d_Desk_drop_15 : decode b_Desk_drop 15 = .ok (.iload_n 1, 1) := by decide +kernel
theorem d_Desk_drop_16 : decode b_Desk_drop 16 = .ok (.invokevirtual 140, 3) := by decide +kernel
theorem d_Desk_drop_19 : decode b_Desk_drop 19 = .ok (.goto 4, 3) := by decide +kernel
theorem d_Desk_drop_22 : decode b_Desk_drop 22 = .ok (.iconst (-1), 1) := by decide +kernel
theorem d_Desk_drop_23 : decode b_Desk_drop 23 = .ok (.ireturn, 1) := by decide +kernel
abbrev b_Desk_load : ByteArray := prog_1_method_10_code
abbrev J_Desk_load : MethodName × ByteArray × Nat × Option FieldType := (⟨"FaslDesk", "load", "()I"⟩, b_Desk_load, 2, (some .int))
theorem d_Desk_load_0 : decode b_Desk_load 0 = .ok (.aload_n 0, 1) := by decide +kernel
theorem d_Desk_load_1 : decode b_Desk_load 1 = .ok (.getfield 33, 3) := by decide +kernel
theorem d_Desk_load_4 : decode b_Desk_load 4 = .ok (.invokevirtual 143, 3) := by decide +kernel
theorem d_Desk_load_7 : decode b_Desk_load 7 = .ok (.istore_n 1, 1) := by decide +kernel
theorem d_Desk_load_8 : decode b_Desk_load 8 = .ok (.iload_n 1, 1) := by decide +kernel
theorem d_Desk_load_9 : decode b_Desk_load 9 = .ok (.ifCond .eq 26, 3) := by decide +kernel
theorem d_Desk_load_12 : decode b_Desk_load 12 = .ok (.aload_n 0, 1) := by decide +kernel
theorem d_Desk_load_13 : decode b_Desk_load 13 = .ok (.dup, 1) := by decide +kernel
theorem d_Desk_load_14 : decode b_Desk_load 14 = .ok (.getfield 147, 3) := by decide +kernel
theorem d_Desk_load_17 : decode b_Desk_load 17 = .ok (.iconst 1, 1) := by decide +kernel
theorem d_Desk_load_18 : decode b_Desk_load 18 = .ok (.iadd, 1) := by decide +kernel
theorem d_Desk_load_19 : decode b_Desk_load 19 = .ok (.putfield 147, 3) := by decide +kernel
theorem d_Desk_load_22 : decode b_Desk_load 22 = .ok (.aload_n 0, 1) := by decide +kernel
theorem d_Desk_load_23 : decode b_Desk_load 23 = .ok (.aload_n 0, 1) := by decide +kernel
theorem d_Desk_load_24 : decode b_Desk_load 24 = .ok (.getfield 33, 3) := by decide +kernel
theorem d_Desk_load_27 : decode b_Desk_load 27 = .ok (.getfield 150, 3) := by decide +kernel
theorem d_Desk_load_30 : decode b_Desk_load 30 = .ok (.putfield 44, 3) := by decide +kernel
theorem d_Desk_load_33 : decode b_Desk_load 33 = .ok (.iload_n 1, 1) := by decide +kernel
theorem d_Desk_load_34 : decode b_Desk_load 34 = .ok (.ireturn, 1) := by decide +kernel
theorem d_Desk_load_35 : decode b_Desk_load 35 = .ok (.aload_n 0, 1) := by decide +kernel
theorem d_Desk_load_36 : decode b_Desk_load 36 = .ok (.getfield 40, 3) := by decide +kernel
theorem d_Desk_load_39 : decode b_Desk_load 39 = .ok (.aload_n 0, 1) := by decide +kernel
theorem d_Desk_load_40 : decode b_Desk_load 40 = .ok (.getfield 33, 3) := by decide +kernel
theorem d_Desk_load_43 : decode b_Desk_load 43 = .ok (.invokevirtual 153, 3) := by decide +kernel
theorem d_Desk_load_46 : decode b_Desk_load 46 = .ok (.aload_n 0, 1) := by decide +kernel
theorem d_Desk_load_47 : decode b_Desk_load 47 = .ok (.dup, 1) := by decide +kernel
theorem d_Desk_load_48 : decode b_Desk_load 48 = .ok (.getfield 157, 3) := by decide +kernel
theorem d_Desk_load_51 : decode b_Desk_load 51 = .ok (.iconst 1, 1) := by decide +kernel
theorem d_Desk_load_52 : decode b_Desk_load 52 = .ok (.iadd, 1) := by decide +kernel
theorem d_Desk_load_53 : decode b_Desk_load 53 = .ok (.putfield 157, 3) := by decide +kernel
theorem d_Desk_load_56 : decode b_Desk_load 56 = .ok (.iconst 0, 1) := by decide +kernel
theorem d_Desk_load_57 : decode b_Desk_load 57 = .ok (.ireturn, 1) := by decide +kernel
abbrev b_Desk_run : ByteArray := prog_1_method_11_code
abbrev J_Desk_run : MethodName × ByteArray × Nat × Option FieldType := (⟨"FaslDesk", "run", "(IIII)I"⟩, b_Desk_run, 5, (some .int))
theorem d_Desk_run_0 : decode b_Desk_run 0 = .ok (.aload_n 0, 1) := by decide +kernel
theorem d_Desk_run_1 : decode b_Desk_run 1 = .ok (.getfield 40, 3) := by decide +kernel
theorem d_Desk_run_4 : decode b_Desk_run 4 = .ok (.iload_n 1, 1) := by decide +kernel
theorem d_Desk_run_5 : decode b_Desk_run 5 = .ok (.invokevirtual 160, 3) := by decide +kernel
theorem d_Desk_run_8 : decode b_Desk_run 8 = .ok (.ifCond .ne 13, 3) := by decide +kernel
theorem d_Desk_run_11 : decode b_Desk_run 11 = .ok (.new 161, 3) := by decide +kernel
theorem d_Desk_run_14 : decode b_Desk_run 14 = .ok (.dup, 1) := by decide +kernel
theorem d_Desk_run_15 : decode b_Desk_run 15 = .ok (.ldc 163, 2) := by decide +kernel
theorem d_Desk_run_17 : decode b_Desk_run 17 = .ok (.invokespecial 165, 3) := by decide +kernel
theorem d_Desk_run_20 : decode b_Desk_run 20 = .ok (.athrow, 1) := by decide +kernel
theorem d_Desk_run_21 : decode b_Desk_run 21 = .ok (.aload_n 0, 1) := by decide +kernel
theorem d_Desk_run_22 : decode b_Desk_run 22 = .ok (.getfield 40, 3) := by decide +kernel
theorem d_Desk_run_25 : decode b_Desk_run 25 = .ok (.iload_n 1, 1) := by decide +kernel
theorem d_Desk_run_26 : decode b_Desk_run 26 = .ok (.iload_n 2, 1) := by decide +kernel
theorem d_Desk_run_27 : decode b_Desk_run 27 = .ok (.iload_n 3, 1) := by decide +kernel
theorem d_Desk_run_28 : decode b_Desk_run 28 = .ok (.iload 4, 2) := by decide +kernel
theorem d_Desk_run_30 : decode b_Desk_run 30 = .ok (.invokevirtual 168, 3) := by decide +kernel
theorem d_Desk_run_33 : decode b_Desk_run 33 = .ok (.ireturn, 1) := by decide +kernel
abbrev b_Desk_entry : ByteArray := prog_1_method_12_code
abbrev J_Desk_entry : MethodName × ByteArray × Nat × Option FieldType := (⟨"FaslDesk", "entry", "(II)I"⟩, b_Desk_entry, 4, (some .int))
theorem d_Desk_entry_0 : decode b_Desk_entry 0 = .ok (.aload_n 0, 1) := by decide +kernel
theorem d_Desk_entry_1 : decode b_Desk_entry 1 = .ok (.getfield 33, 3) := by decide +kernel
theorem d_Desk_entry_4 : decode b_Desk_entry 4 = .ok (.iload_n 1, 1) := by decide +kernel
theorem d_Desk_entry_5 : decode b_Desk_entry 5 = .ok (.invokevirtual 139, 3) := by decide +kernel
theorem d_Desk_entry_8 : decode b_Desk_entry 8 = .ok (.ifCond .ne 5, 3) := by decide +kernel
theorem d_Desk_entry_11 : decode b_Desk_entry 11 = .ok (.iconst (-1), 1) := by decide +kernel
theorem d_Desk_entry_12 : decode b_Desk_entry 12 = .ok (.ireturn, 1) := by decide +kernel
theorem d_Desk_entry_13 : decode b_Desk_entry 13 = .ok (.aload_n 0, 1) := by decide +kernel
theorem d_Desk_entry_14 : decode b_Desk_entry 14 = .ok (.getfield 33, 3) := by decide +kernel
theorem d_Desk_entry_17 : decode b_Desk_entry 17 = .ok (.getfield 86, 3) := by decide +kernel
theorem d_Desk_entry_20 : decode b_Desk_entry 20 = .ok (.iload_n 1, 1) := by decide +kernel
theorem d_Desk_entry_21 : decode b_Desk_entry 21 = .ok (.aaload, 1) := by decide +kernel
theorem d_Desk_entry_22 : decode b_Desk_entry 22 = .ok (.astore_n 3, 1) := by decide +kernel
theorem d_Desk_entry_23 : decode b_Desk_entry 23 = .ok (.iload_n 2, 1) := by decide +kernel
theorem d_Desk_entry_24 : decode b_Desk_entry 24 = .ok (.tableswitch 81 0 5 #[40, 45, 50, 58, 63, 68], 40) := by decide +kernel
theorem d_Desk_entry_64 : decode b_Desk_entry 64 = .ok (.aload_n 3, 1) := by decide +kernel
theorem d_Desk_entry_65 : decode b_Desk_entry 65 = .ok (.getfield 169, 3) := by decide +kernel
theorem d_Desk_entry_68 : decode b_Desk_entry 68 = .ok (.ireturn, 1) := by decide +kernel
theorem d_Desk_entry_69 : decode b_Desk_entry 69 = .ok (.aload_n 3, 1) := by decide +kernel
theorem d_Desk_entry_70 : decode b_Desk_entry 70 = .ok (.getfield 172, 3) := by decide +kernel
theorem d_Desk_entry_73 : decode b_Desk_entry 73 = .ok (.ireturn, 1) := by decide +kernel
theorem d_Desk_entry_74 : decode b_Desk_entry 74 = .ok (.aload_n 3, 1) := by decide +kernel
theorem d_Desk_entry_75 : decode b_Desk_entry 75 = .ok (.getfield 127, 3) := by decide +kernel
theorem d_Desk_entry_78 : decode b_Desk_entry 78 = .ok (.getfield 175, 3) := by decide +kernel
theorem d_Desk_entry_81 : decode b_Desk_entry 81 = .ok (.ireturn, 1) := by decide +kernel
theorem d_Desk_entry_82 : decode b_Desk_entry 82 = .ok (.aload_n 3, 1) := by decide +kernel
theorem d_Desk_entry_83 : decode b_Desk_entry 83 = .ok (.getfield 176, 3) := by decide +kernel
theorem d_Desk_entry_86 : decode b_Desk_entry 86 = .ok (.ireturn, 1) := by decide +kernel
theorem d_Desk_entry_87 : decode b_Desk_entry 87 = .ok (.aload_n 3, 1) := by decide +kernel
theorem d_Desk_entry_88 : decode b_Desk_entry 88 = .ok (.getfield 179, 3) := by decide +kernel
theorem d_Desk_entry_91 : decode b_Desk_entry 91 = .ok (.ireturn, 1) := by decide +kernel
theorem d_Desk_entry_92 : decode b_Desk_entry 92 = .ok (.aload_n 3, 1) := by decide +kernel
theorem d_Desk_entry_93 : decode b_Desk_entry 93 = .ok (.invokevirtual 182, 3) := by decide +kernel
theorem d_Desk_entry_96 : decode b_Desk_entry 96 = .ok (.ifCond .eq 7, 3) := by decide +kernel
theorem d_Desk_entry_99 : decode b_Desk_entry 99 = .ok (.iconst 1, 1) := by decide +kernel
theorem d_Desk_entry_100 : decode b_Desk_entry 100 = .ok (.goto 4, 3) := by decide +kernel
theorem d_Desk_entry_103 : decode b_Desk_entry 103 = .ok (.iconst 0, 1) := by decide +kernel
theorem d_Desk_entry_104 : decode b_Desk_entry 104 = .ok (.ireturn, 1) := by decide +kernel
theorem d_Desk_entry_105 : decode b_Desk_entry 105 = .ok (.iconst (-1), 1) := by decide +kernel
theorem d_Desk_entry_106 : decode b_Desk_entry 106 = .ok (.ireturn, 1) := by decide +kernel
abbrev b_Desk_unit : ByteArray := prog_1_method_13_code
abbrev J_Desk_unit : MethodName × ByteArray × Nat × Option FieldType := (⟨"FaslDesk", "unit", "(III)I"⟩, b_Desk_unit, 5, (some .int))
theorem d_Desk_unit_0 : decode b_Desk_unit 0 = .ok (.aload_n 0, 1) := by decide +kernel
theorem d_Desk_unit_1 : decode b_Desk_unit 1 = .ok (.iload_n 1, 1) := by decide +kernel
theorem d_Desk_unit_2 : decode b_Desk_unit 2 = .ok (.iload_n 2, 1) := by decide +kernel
theorem d_Desk_unit_3 : decode b_Desk_unit 3 = .ok (.invokevirtual 119, 3) := by decide +kernel
theorem d_Desk_unit_6 : decode b_Desk_unit 6 = .ok (.ifCond .ne 5, 3) := by decide +kernel
theorem d_Desk_unit_9 : decode b_Desk_unit 9 = .ok (.iconst (-1), 1) := by decide +kernel
theorem d_Desk_unit_10 : decode b_Desk_unit 10 = .ok (.ireturn, 1) := by decide +kernel
theorem d_Desk_unit_11 : decode b_Desk_unit 11 = .ok (.aload_n 0, 1) := by decide +kernel
theorem d_Desk_unit_12 : decode b_Desk_unit 12 = .ok (.getfield 33, 3) := by decide +kernel
theorem d_Desk_unit_15 : decode b_Desk_unit 15 = .ok (.getfield 86, 3) := by decide +kernel
theorem d_Desk_unit_18 : decode b_Desk_unit 18 = .ok (.iload_n 1, 1) := by decide +kernel
theorem d_Desk_unit_19 : decode b_Desk_unit 19 = .ok (.aaload, 1) := by decide +kernel
theorem d_Desk_unit_20 : decode b_Desk_unit 20 = .ok (.getfield 127, 3) := by decide +kernel
theorem d_Desk_unit_23 : decode b_Desk_unit 23 = .ok (.astore 4, 2) := by decide +kernel
theorem d_Desk_unit_25 : decode b_Desk_unit 25 = .ok (.iload_n 3, 1) := by decide +kernel
theorem d_Desk_unit_26 : decode b_Desk_unit 26 = .ok (.tableswitch 50 0 2 #[26, 34, 42], 26) := by decide +kernel
theorem d_Desk_unit_52 : decode b_Desk_unit 52 = .ok (.aload 4, 2) := by decide +kernel
theorem d_Desk_unit_54 : decode b_Desk_unit 54 = .ok (.getfield 131, 3) := by decide +kernel
theorem d_Desk_unit_57 : decode b_Desk_unit 57 = .ok (.iload_n 2, 1) := by decide +kernel
theorem d_Desk_unit_58 : decode b_Desk_unit 58 = .ok (.iaload, 1) := by decide +kernel
theorem d_Desk_unit_59 : decode b_Desk_unit 59 = .ok (.ireturn, 1) := by decide +kernel
theorem d_Desk_unit_60 : decode b_Desk_unit 60 = .ok (.aload 4, 2) := by decide +kernel
theorem d_Desk_unit_62 : decode b_Desk_unit 62 = .ok (.getfield 186, 3) := by decide +kernel
theorem d_Desk_unit_65 : decode b_Desk_unit 65 = .ok (.iload_n 2, 1) := by decide +kernel
theorem d_Desk_unit_66 : decode b_Desk_unit 66 = .ok (.iaload, 1) := by decide +kernel
theorem d_Desk_unit_67 : decode b_Desk_unit 67 = .ok (.ireturn, 1) := by decide +kernel
theorem d_Desk_unit_68 : decode b_Desk_unit 68 = .ok (.aload 4, 2) := by decide +kernel
theorem d_Desk_unit_70 : decode b_Desk_unit 70 = .ok (.getfield 189, 3) := by decide +kernel
theorem d_Desk_unit_73 : decode b_Desk_unit 73 = .ok (.iload_n 2, 1) := by decide +kernel
theorem d_Desk_unit_74 : decode b_Desk_unit 74 = .ok (.iaload, 1) := by decide +kernel
theorem d_Desk_unit_75 : decode b_Desk_unit 75 = .ok (.ireturn, 1) := by decide +kernel
theorem d_Desk_unit_76 : decode b_Desk_unit 76 = .ok (.iconst (-1), 1) := by decide +kernel
theorem d_Desk_unit_77 : decode b_Desk_unit 77 = .ok (.ireturn, 1) := by decide +kernel
abbrev b_Desk_count : ByteArray := prog_1_method_14_code
abbrev J_Desk_count : MethodName × ByteArray × Nat × Option FieldType := (⟨"FaslDesk", "count", "(I)I"⟩, b_Desk_count, 2, (some .int))
theorem d_Desk_count_0 : decode b_Desk_count 0 = .ok (.iload_n 1, 1) := by decide +kernel
theorem d_Desk_count_1 : decode b_Desk_count 1 = .ok (.tableswitch 102 0 7 #[47, 55, 63, 71, 79, 84, 89, 94], 47) := by decide +kernel
theorem d_Desk_count_48 : decode b_Desk_count 48 = .ok (.aload_n 0, 1) := by decide +kernel
theorem d_Desk_count_49 : decode b_Desk_count 49 = .ok (.getfield 19, 3) := by decide +kernel
theorem d_Desk_count_52 : decode b_Desk_count 52 = .ok (.invokevirtual 192, 3) := by decide +kernel
theorem d_Desk_count_55 : decode b_Desk_count 55 = .ok (.ireturn, 1) := by decide +kernel
theorem d_Desk_count_56 : decode b_Desk_count 56 = .ok (.aload_n 0, 1) := by decide +kernel
theorem d_Desk_count_57 : decode b_Desk_count 57 = .ok (.getfield 33, 3) := by decide +kernel
theorem d_Desk_count_60 : decode b_Desk_count 60 = .ok (.getfield 195, 3) := by decide +kernel
theorem d_Desk_count_63 : decode b_Desk_count 63 = .ok (.ireturn, 1) := by decide +kernel
theorem d_Desk_count_64 : decode b_Desk_count 64 = .ok (.aload_n 0, 1) := by decide +kernel
theorem d_Desk_count_65 : decode b_Desk_count 65 = .ok (.getfield 33, 3) := by decide +kernel
theorem d_Desk_count_68 : decode b_Desk_count 68 = .ok (.getfield 197, 3) := by decide +kernel
theorem d_Desk_count_71 : decode b_Desk_count 71 = .ok (.ireturn, 1) := by decide +kernel
theorem d_Desk_count_72 : decode b_Desk_count 72 = .ok (.aload_n 0, 1) := by decide +kernel
theorem d_Desk_count_73 : decode b_Desk_count 73 = .ok (.getfield 40, 3) := by decide +kernel
theorem d_Desk_count_76 : decode b_Desk_count 76 = .ok (.invokevirtual 200, 3) := by decide +kernel
theorem d_Desk_count_79 : decode b_Desk_count 79 = .ok (.ireturn, 1) := by decide +kernel
theorem d_Desk_count_80 : decode b_Desk_count 80 = .ok (.aload_n 0, 1) := by decide +kernel
theorem d_Desk_count_81 : decode b_Desk_count 81 = .ok (.getfield 157, 3) := by decide +kernel
theorem d_Desk_count_84 : decode b_Desk_count 84 = .ok (.ireturn, 1) := by decide +kernel
theorem d_Desk_count_85 : decode b_Desk_count 85 = .ok (.aload_n 0, 1) := by decide +kernel
theorem d_Desk_count_86 : decode b_Desk_count 86 = .ok (.getfield 147, 3) := by decide +kernel
theorem d_Desk_count_89 : decode b_Desk_count 89 = .ok (.ireturn, 1) := by decide +kernel
theorem d_Desk_count_90 : decode b_Desk_count 90 = .ok (.aload_n 0, 1) := by decide +kernel
theorem d_Desk_count_91 : decode b_Desk_count 91 = .ok (.getfield 44, 3) := by decide +kernel
theorem d_Desk_count_94 : decode b_Desk_count 94 = .ok (.ireturn, 1) := by decide +kernel
theorem d_Desk_count_95 : decode b_Desk_count 95 = .ok (.aload_n 0, 1) := by decide +kernel
theorem d_Desk_count_96 : decode b_Desk_count 96 = .ok (.getfield 10, 3) := by decide +kernel
theorem d_Desk_count_99 : decode b_Desk_count 99 = .ok (.getfield 52, 3) := by decide +kernel
theorem d_Desk_count_102 : decode b_Desk_count 102 = .ok (.ireturn, 1) := by decide +kernel
theorem d_Desk_count_103 : decode b_Desk_count 103 = .ok (.iconst (-1), 1) := by decide +kernel
theorem d_Desk_count_104 : decode b_Desk_count 104 = .ok (.ireturn, 1) := by decide +kernel
abbrev b_Desk_damageMagic : ByteArray := prog_1_method_15_code
abbrev J_Desk_damageMagic : MethodName × ByteArray × Nat × Option FieldType := (⟨"FaslDesk", "damageMagic", "(I)I"⟩, b_Desk_damageMagic, 2, (some .int))
theorem d_Desk_damageMagic_0 : decode b_Desk_damageMagic 0 = .ok (.iload_n 1, 1) := by decide +kernel
theorem d_Desk_damageMagic_1 : decode b_Desk_damageMagic 1 = .ok (.iconst 0, 1) := by decide +kernel
theorem d_Desk_damageMagic_2 : decode b_Desk_damageMagic 2 = .ok (.bipush 7, 2) := by decide +kernel
theorem d_Desk_damageMagic_4 : decode b_Desk_damageMagic 4 = .ok (.invokestatic 59, 3) := by decide +kernel
theorem d_Desk_damageMagic_7 : decode b_Desk_damageMagic 7 = .ok (.ifCond .ne 5, 3) := by decide +kernel
theorem d_Desk_damageMagic_10 : decode b_Desk_damageMagic 10 = .ok (.iconst (-1), 1) := by decide +kernel
theorem d_Desk_damageMagic_11 : decode b_Desk_damageMagic 11 = .ok (.ireturn, 1) := by decide +kernel
theorem d_Desk_damageMagic_12 : decode b_Desk_damageMagic 12 = .ok (.aload_n 0, 1) := by decide +kernel
theorem d_Desk_damageMagic_13 : decode b_Desk_damageMagic 13 = .ok (.getfield 33, 3) := by decide +kernel
theorem d_Desk_damageMagic_16 : decode b_Desk_damageMagic 16 = .ok (.iload_n 1, 1) := by decide +kernel
theorem d_Desk_damageMagic_17 : decode b_Desk_damageMagic 17 = .ok (.putfield 201, 3) := by decide +kernel
theorem d_Desk_damageMagic_20 : decode b_Desk_damageMagic 20 = .ok (.iconst 1, 1) := by decide +kernel
theorem d_Desk_damageMagic_21 : decode b_Desk_damageMagic 21 = .ok (.ireturn, 1) := by decide +kernel
abbrev b_Desk_damageStated : ByteArray := prog_1_method_16_code
abbrev J_Desk_damageStated : MethodName × ByteArray × Nat × Option FieldType := (⟨"FaslDesk", "damageStated", "(I)I"⟩, b_Desk_damageStated, 2, (some .int))
theorem d_Desk_damageStated_0 : decode b_Desk_damageStated 0 = .ok (.iload_n 1, 1) := by decide +kernel
theorem d_Desk_damageStated_1 : decode b_Desk_damageStated 1 = .ok (.iconst 0, 1) := by decide +kernel
theorem d_Desk_damageStated_2 : decode b_Desk_damageStated 2 = .ok (.bipush 9, 2) := by decide +kernel
theorem d_Desk_damageStated_4 : decode b_Desk_damageStated 4 = .ok (.invokestatic 59, 3) := by decide +kernel
theorem d_Desk_damageStated_7 : decode b_Desk_damageStated 7 = .ok (.ifCond .ne 5, 3) := by decide +kernel
theorem d_Desk_damageStated_10 : decode b_Desk_damageStated 10 = .ok (.iconst (-1), 1) := by decide +kernel
theorem d_Desk_damageStated_11 : decode b_Desk_damageStated 11 = .ok (.ireturn, 1) := by decide +kernel
theorem d_Desk_damageStated_12 : decode b_Desk_damageStated 12 = .ok (.aload_n 0, 1) := by decide +kernel
theorem d_Desk_damageStated_13 : decode b_Desk_damageStated 13 = .ok (.getfield 33, 3) := by decide +kernel
theorem d_Desk_damageStated_16 : decode b_Desk_damageStated 16 = .ok (.iload_n 1, 1) := by decide +kernel
theorem d_Desk_damageStated_17 : decode b_Desk_damageStated 17 = .ok (.putfield 197, 3) := by decide +kernel
theorem d_Desk_damageStated_20 : decode b_Desk_damageStated 20 = .ok (.iconst 1, 1) := by decide +kernel
theorem d_Desk_damageStated_21 : decode b_Desk_damageStated 21 = .ok (.ireturn, 1) := by decide +kernel
abbrev b_Desk_damageNumber : ByteArray := prog_1_method_17_code
abbrev J_Desk_damageNumber : MethodName × ByteArray × Nat × Option FieldType := (⟨"FaslDesk", "damageNumber", "(II)I"⟩, b_Desk_damageNumber, 3, (some .int))
theorem d_Desk_damageNumber_0 : decode b_Desk_damageNumber 0 = .ok (.aload_n 0, 1) := by decide +kernel
theorem d_Desk_damageNumber_1 : decode b_Desk_damageNumber 1 = .ok (.getfield 33, 3) := by decide +kernel
theorem d_Desk_damageNumber_4 : decode b_Desk_damageNumber 4 = .ok (.iload_n 1, 1) := by decide +kernel
theorem d_Desk_damageNumber_5 : decode b_Desk_damageNumber 5 = .ok (.invokevirtual 139, 3) := by decide +kernel
theorem d_Desk_damageNumber_8 : decode b_Desk_damageNumber 8 = .ok (.ifCond .eq 13, 3) := by decide +kernel
theorem d_Desk_damageNumber_11 : decode b_Desk_damageNumber 11 = .ok (.iload_n 2, 1) := by decide +kernel
theorem d_Desk_damageNumber_12 : decode b_Desk_damageNumber 12 = .ok (.iconst 0, 1) := by decide +kernel
theorem d_Desk_damageNumber_13 : decode b_Desk_damageNumber 13 = .ok (.bipush 7, 2) := by decide +kernel
theorem d_Desk_damageNumber_15 : decode b_Desk_damageNumber 15 = .ok (.invokestatic 59, 3) := by decide +kernel
theorem d_Desk_damageNumber_18 : decode b_Desk_damageNumber 18 = .ok (.ifCond .ne 5, 3) := by decide +kernel
theorem d_Desk_damageNumber_21 : decode b_Desk_damageNumber 21 = .ok (.iconst (-1), 1) := by decide +kernel
theorem d_Desk_damageNumber_22 : decode b_Desk_damageNumber 22 = .ok (.ireturn, 1) := by decide +kernel
theorem d_Desk_damageNumber_23 : decode b_Desk_damageNumber 23 = .ok (.aload_n 0, 1) := by decide +kernel
theorem d_Desk_damageNumber_24 : decode b_Desk_damageNumber 24 = .ok (.getfield 33, 3) := by decide +kernel
theorem d_Desk_damageNumber_27 : decode b_Desk_damageNumber 27 = .ok (.getfield 86, 3) := by decide +kernel
theorem d_Desk_damageNumber_30 : decode b_Desk_damageNumber 30 = .ok (.iload_n 1, 1) := by decide +kernel
theorem d_Desk_damageNumber_31 : decode b_Desk_damageNumber 31 = .ok (.aaload, 1) := by decide +kernel
theorem d_Desk_damageNumber_32 : decode b_Desk_damageNumber 32 = .ok (.iload_n 2, 1) := by decide +kernel
theorem d_Desk_damageNumber_33 : decode b_Desk_damageNumber 33 = .ok (.putfield 169, 3) := by decide +kernel
theorem d_Desk_damageNumber_36 : decode b_Desk_damageNumber 36 = .ok (.iconst 1, 1) := by decide +kernel
theorem d_Desk_damageNumber_37 : decode b_Desk_damageNumber 37 = .ok (.ireturn, 1) := by decide +kernel
abbrev b_Desk_damageOctet : ByteArray := prog_1_method_18_code
abbrev J_Desk_damageOctet : MethodName × ByteArray × Nat × Option FieldType := (⟨"FaslDesk", "damageOctet", "(I)I"⟩, b_Desk_damageOctet, 3, (some .int))
theorem d_Desk_damageOctet_0 : decode b_Desk_damageOctet 0 = .ok (.aload_n 0, 1) := by decide +kernel
theorem d_Desk_damageOctet_1 : decode b_Desk_damageOctet 1 = .ok (.getfield 33, 3) := by decide +kernel
theorem d_Desk_damageOctet_4 : decode b_Desk_damageOctet 4 = .ok (.iload_n 1, 1) := by decide +kernel
theorem d_Desk_damageOctet_5 : decode b_Desk_damageOctet 5 = .ok (.invokevirtual 139, 3) := by decide +kernel
theorem d_Desk_damageOctet_8 : decode b_Desk_damageOctet 8 = .ok (.ifCond .ne 5, 3) := by decide +kernel
theorem d_Desk_damageOctet_11 : decode b_Desk_damageOctet 11 = .ok (.iconst (-1), 1) := by decide +kernel
theorem d_Desk_damageOctet_12 : decode b_Desk_damageOctet 12 = .ok (.ireturn, 1) := by decide +kernel
theorem d_Desk_damageOctet_13 : decode b_Desk_damageOctet 13 = .ok (.aload_n 0, 1) := by decide +kernel
theorem d_Desk_damageOctet_14 : decode b_Desk_damageOctet 14 = .ok (.getfield 33, 3) := by decide +kernel
theorem d_Desk_damageOctet_17 : decode b_Desk_damageOctet 17 = .ok (.getfield 86, 3) := by decide +kernel
theorem d_Desk_damageOctet_20 : decode b_Desk_damageOctet 20 = .ok (.iload_n 1, 1) := by decide +kernel
theorem d_Desk_damageOctet_21 : decode b_Desk_damageOctet 21 = .ok (.aaload, 1) := by decide +kernel
theorem d_Desk_damageOctet_22 : decode b_Desk_damageOctet 22 = .ok (.astore_n 2, 1) := by decide +kernel
theorem d_Desk_damageOctet_23 : decode b_Desk_damageOctet 23 = .ok (.aload_n 2, 1) := by decide +kernel
theorem d_Desk_damageOctet_24 : decode b_Desk_damageOctet 24 = .ok (.aload_n 2, 1) := by decide +kernel
theorem d_Desk_damageOctet_25 : decode b_Desk_damageOctet 25 = .ok (.getfield 204, 3) := by decide +kernel
theorem d_Desk_damageOctet_28 : decode b_Desk_damageOctet 28 = .ok (.ifCond .ne 7, 3) := by decide +kernel
theorem d_Desk_damageOctet_31 : decode b_Desk_damageOctet 31 = .ok (.iconst 1, 1) := by decide +kernel
theorem d_Desk_damageOctet_32 : decode b_Desk_damageOctet 32 = .ok (.goto 4, 3) := by decide +kernel
theorem d_Desk_damageOctet_35 : decode b_Desk_damageOctet 35 = .ok (.iconst 0, 1) := by decide +kernel
theorem d_Desk_damageOctet_36 : decode b_Desk_damageOctet 36 = .ok (.putfield 204, 3) := by decide +kernel
theorem d_Desk_damageOctet_39 : decode b_Desk_damageOctet 39 = .ok (.iconst 1, 1) := by decide +kernel
theorem d_Desk_damageOctet_40 : decode b_Desk_damageOctet 40 = .ok (.ireturn, 1) := by decide +kernel
abbrev b_Desk_sealAnew : ByteArray := prog_1_method_19_code
abbrev J_Desk_sealAnew : MethodName × ByteArray × Nat × Option FieldType := (⟨"FaslDesk", "sealAnew", "(I)I"⟩, b_Desk_sealAnew, 2, (some .int))
theorem d_Desk_sealAnew_0 : decode b_Desk_sealAnew 0 = .ok (.aload_n 0, 1) := by decide +kernel
theorem d_Desk_sealAnew_1 : decode b_Desk_sealAnew 1 = .ok (.getfield 33, 3) := by decide +kernel
theorem d_Desk_sealAnew_4 : decode b_Desk_sealAnew 4 = .ok (.iload_n 1, 1) := by decide +kernel
theorem d_Desk_sealAnew_5 : decode b_Desk_sealAnew 5 = .ok (.invokevirtual 139, 3) := by decide +kernel
theorem d_Desk_sealAnew_8 : decode b_Desk_sealAnew 8 = .ok (.ifCond .ne 5, 3) := by decide +kernel
theorem d_Desk_sealAnew_11 : decode b_Desk_sealAnew 11 = .ok (.iconst (-1), 1) := by decide +kernel
theorem d_Desk_sealAnew_12 : decode b_Desk_sealAnew 12 = .ok (.ireturn, 1) := by decide +kernel
theorem d_Desk_sealAnew_13 : decode b_Desk_sealAnew 13 = .ok (.aload_n 0, 1) := by decide +kernel
theorem d_Desk_sealAnew_14 : decode b_Desk_sealAnew 14 = .ok (.getfield 33, 3) := by decide +kernel
theorem d_Desk_sealAnew_17 : decode b_Desk_sealAnew 17 = .ok (.getfield 86, 3) := by decide +kernel
theorem d_Desk_sealAnew_20 : decode b_Desk_sealAnew 20 = .ok (.iload_n 1, 1) := by decide +kernel
theorem d_Desk_sealAnew_21 : decode b_Desk_sealAnew 21 = .ok (.aaload, 1) := by decide +kernel
theorem d_Desk_sealAnew_22 : decode b_Desk_sealAnew 22 = .ok (.invokevirtual 208, 3) := by decide +kernel
theorem d_Desk_sealAnew_25 : decode b_Desk_sealAnew 25 = .ok (.iconst 1, 1) := by decide +kernel
theorem d_Desk_sealAnew_26 : decode b_Desk_sealAnew 26 = .ok (.ireturn, 1) := by decide +kernel
abbrev b_Desk_hasUnit : ByteArray := prog_1_method_20_code
abbrev J_Desk_hasUnit : MethodName × ByteArray × Nat × Option FieldType := (⟨"FaslDesk", "hasUnit", "(II)Z"⟩, b_Desk_hasUnit, 3, (some .boolean))
theorem d_Desk_hasUnit_0 : decode b_Desk_hasUnit 0 = .ok (.aload_n 0, 1) := by decide +kernel
theorem d_Desk_hasUnit_1 : decode b_Desk_hasUnit 1 = .ok (.getfield 33, 3) := by decide +kernel
theorem d_Desk_hasUnit_4 : decode b_Desk_hasUnit 4 = .ok (.iload_n 1, 1) := by decide +kernel
theorem d_Desk_hasUnit_5 : decode b_Desk_hasUnit 5 = .ok (.invokevirtual 139, 3) := by decide +kernel
theorem d_Desk_hasUnit_8 : decode b_Desk_hasUnit 8 = .ok (.ifCond .eq 30, 3) := by decide +kernel
theorem d_Desk_hasUnit_11 : decode b_Desk_hasUnit 11 = .ok (.iload_n 2, 1) := by decide +kernel
theorem d_Desk_hasUnit_12 : decode b_Desk_hasUnit 12 = .ok (.ifCond .lt 26, 3) := by decide +kernel
theorem d_Desk_hasUnit_15 : decode b_Desk_hasUnit 15 = .ok (.iload_n 2, 1) := by decide +kernel
theorem d_Desk_hasUnit_16 : decode b_Desk_hasUnit 16 = .ok (.aload_n 0, 1) := by decide +kernel
theorem d_Desk_hasUnit_17 : decode b_Desk_hasUnit 17 = .ok (.getfield 33, 3) := by decide +kernel
theorem d_Desk_hasUnit_20 : decode b_Desk_hasUnit 20 = .ok (.getfield 86, 3) := by decide +kernel
theorem d_Desk_hasUnit_23 : decode b_Desk_hasUnit 23 = .ok (.iload_n 1, 1) := by decide +kernel
theorem d_Desk_hasUnit_24 : decode b_Desk_hasUnit 24 = .ok (.aaload, 1) := by decide +kernel
theorem d_Desk_hasUnit_25 : decode b_Desk_hasUnit 25 = .ok (.getfield 127, 3) := by decide +kernel
theorem d_Desk_hasUnit_28 : decode b_Desk_hasUnit 28 = .ok (.getfield 175, 3) := by decide +kernel
theorem d_Desk_hasUnit_31 : decode b_Desk_hasUnit 31 = .ok (.if_icmp .ge 7, 3) := by decide +kernel
theorem d_Desk_hasUnit_34 : decode b_Desk_hasUnit 34 = .ok (.iconst 1, 1) := by decide +kernel
theorem d_Desk_hasUnit_35 : decode b_Desk_hasUnit 35 = .ok (.goto 4, 3) := by decide +kernel
theorem d_Desk_hasUnit_38 : decode b_Desk_hasUnit 38 = .ok (.iconst 0, 1) := by decide +kernel
theorem d_Desk_hasUnit_39 : decode b_Desk_hasUnit 39 = .ok (.ireturn, 1) := by decide +kernel
abbrev b_Desk_within : ByteArray := prog_1_method_21_code
abbrev J_Desk_within : MethodName × ByteArray × Nat × Option FieldType := (⟨"FaslDesk", "within", "(III)Z"⟩, b_Desk_within, 3, (some .boolean))
theorem d_Desk_within_0 : decode b_Desk_within 0 = .ok (.iload_n 0, 1) := by decide +kernel
theorem d_Desk_within_1 : decode b_Desk_within 1 = .ok (.iload_n 1, 1) := by decide +kernel
theorem d_Desk_within_2 : decode b_Desk_within 2 = .ok (.if_icmp .lt 12, 3) := by decide +kernel
theorem d_Desk_within_5 : decode b_Desk_within 5 = .ok (.iload_n 0, 1) := by decide +kernel
theorem d_Desk_within_6 : decode b_Desk_within 6 = .ok (.iload_n 2, 1) := by decide +kernel
theorem d_Desk_within_7 : decode b_Desk_within 7 = .ok (.if_icmp .gt 7, 3) := by decide +kernel
theorem d_Desk_within_10 : decode b_Desk_within 10 = .ok (.iconst 1, 1) := by decide +kernel
theorem d_Desk_within_11 : decode b_Desk_within 11 = .ok (.goto 4, 3) := by decide +kernel
theorem d_Desk_within_14 : decode b_Desk_within 14 = .ok (.iconst 0, 1) := by decide +kernel
theorem d_Desk_within_15 : decode b_Desk_within 15 = .ok (.ireturn, 1) := by decide +kernel
abbrev b_Model_init : ByteArray := prog_14_method_1_code
abbrev J_Model_init : MethodName × ByteArray × Nat × Option FieldType := (⟨"FaslDeskModel", "<init>", "()V"⟩, b_Model_init, 1, none)
theorem d_Model_init_0 : decode b_Model_init 0 = .ok (.aload_n 0, 1) := by decide +kernel
theorem d_Model_init_1 : decode b_Model_init 1 = .ok (.invokespecial 1, 3) := by decide +kernel
theorem d_Model_init_4 : decode b_Model_init 4 = .ok (.aload_n 0, 1) := by decide +kernel
theorem d_Model_init_5 : decode b_Model_init 5 = .ok (.sipush 360, 3) := by decide +kernel
theorem d_Model_init_8 : decode b_Model_init 8 = .ok (.newarray .int, 2) := by decide +kernel
theorem d_Model_init_10 : decode b_Model_init 10 = .ok (.putfield 7, 3) := by decide +kernel
theorem d_Model_init_13 : decode b_Model_init 13 = .ok (.aload_n 0, 1) := by decide +kernel
theorem d_Model_init_14 : decode b_Model_init 14 = .ok (.sipush 360, 3) := by decide +kernel
theorem d_Model_init_17 : decode b_Model_init 17 = .ok (.newarray .int, 2) := by decide +kernel
theorem d_Model_init_19 : decode b_Model_init 19 = .ok (.putfield 13, 3) := by decide +kernel
theorem d_Model_init_22 : decode b_Model_init 22 = .ok (.aload_n 0, 1) := by decide +kernel
theorem d_Model_init_23 : decode b_Model_init 23 = .ok (.bipush 9, 2) := by decide +kernel
theorem d_Model_init_25 : decode b_Model_init 25 = .ok (.newarray .int, 2) := by decide +kernel
theorem d_Model_init_27 : decode b_Model_init 27 = .ok (.putfield 16, 3) := by decide +kernel
theorem d_Model_init_30 : decode b_Model_init 30 = .ok (.aload_n 0, 1) := by decide +kernel
theorem d_Model_init_31 : decode b_Model_init 31 = .ok (.bipush 8, 2) := by decide +kernel
theorem d_Model_init_33 : decode b_Model_init 33 = .ok (.newarray .int, 2) := by decide +kernel
theorem d_Model_init_35 : decode b_Model_init 35 = .ok (.putfield 19, 3) := by decide +kernel
theorem d_Model_init_38 : decode b_Model_init 38 = .ok (.aload_n 0, 1) := by decide +kernel
theorem d_Model_init_39 : decode b_Model_init 39 = .ok (.bipush 40, 2) := by decide +kernel
theorem d_Model_init_41 : decode b_Model_init 41 = .ok (.newarray .int, 2) := by decide +kernel
theorem d_Model_init_43 : decode b_Model_init 43 = .ok (.putfield 22, 3) := by decide +kernel
theorem d_Model_init_46 : decode b_Model_init 46 = .ok (.aload_n 0, 1) := by decide +kernel
theorem d_Model_init_47 : decode b_Model_init 47 = .ok (.bipush 40, 2) := by decide +kernel
theorem d_Model_init_49 : decode b_Model_init 49 = .ok (.newarray .int, 2) := by decide +kernel
theorem d_Model_init_51 : decode b_Model_init 51 = .ok (.putfield 25, 3) := by decide +kernel
theorem d_Model_init_54 : decode b_Model_init 54 = .ok (.aload_n 0, 1) := by decide +kernel
theorem d_Model_init_55 : decode b_Model_init 55 = .ok (.sipush 6720, 3) := by decide +kernel
theorem d_Model_init_58 : decode b_Model_init 58 = .ok (.newarray .int, 2) := by decide +kernel
theorem d_Model_init_60 : decode b_Model_init 60 = .ok (.putfield 28, 3) := by decide +kernel
theorem d_Model_init_63 : decode b_Model_init 63 = .ok (.aload_n 0, 1) := by decide +kernel
theorem d_Model_init_64 : decode b_Model_init 64 = .ok (.sipush 6720, 3) := by decide +kernel
theorem d_Model_init_67 : decode b_Model_init 67 = .ok (.newarray .int, 2) := by decide +kernel
theorem d_Model_init_69 : decode b_Model_init 69 = .ok (.putfield 31, 3) := by decide +kernel
theorem d_Model_init_72 : decode b_Model_init 72 = .ok (.aload_n 0, 1) := by decide +kernel
theorem d_Model_init_73 : decode b_Model_init 73 = .ok (.sipush 6720, 3) := by decide +kernel
theorem d_Model_init_76 : decode b_Model_init 76 = .ok (.newarray .int, 2) := by decide +kernel
theorem d_Model_init_78 : decode b_Model_init 78 = .ok (.putfield 34, 3) := by decide +kernel
theorem d_Model_init_81 : decode b_Model_init 81 = .ok (.aload_n 0, 1) := by decide +kernel
theorem d_Model_init_82 : decode b_Model_init 82 = .ok (.bipush 24, 2) := by decide +kernel
theorem d_Model_init_84 : decode b_Model_init 84 = .ok (.newarray .int, 2) := by decide +kernel
theorem d_Model_init_86 : decode b_Model_init 86 = .ok (.putfield 37, 3) := by decide +kernel
theorem d_Model_init_89 : decode b_Model_init 89 = .ok (.aload_n 0, 1) := by decide +kernel
theorem d_Model_init_90 : decode b_Model_init 90 = .ok (.bipush 24, 2) := by decide +kernel
theorem d_Model_init_92 : decode b_Model_init 92 = .ok (.newarray .int, 2) := by decide +kernel
theorem d_Model_init_94 : decode b_Model_init 94 = .ok (.putfield 40, 3) := by decide +kernel
theorem d_Model_init_97 : decode b_Model_init 97 = .ok (.aload_n 0, 1) := by decide +kernel
theorem d_Model_init_98 : decode b_Model_init 98 = .ok (.sipush 280, 3) := by decide +kernel
theorem d_Model_init_101 : decode b_Model_init 101 = .ok (.newarray .int, 2) := by decide +kernel
theorem d_Model_init_103 : decode b_Model_init 103 = .ok (.putfield 43, 3) := by decide +kernel
theorem d_Model_init_106 : decode b_Model_init 106 = .ok (.aload_n 0, 1) := by decide +kernel
theorem d_Model_init_107 : decode b_Model_init 107 = .ok (.sipush 6720, 3) := by decide +kernel
theorem d_Model_init_110 : decode b_Model_init 110 = .ok (.newarray .boolean, 2) := by decide +kernel
theorem d_Model_init_112 : decode b_Model_init 112 = .ok (.putfield 46, 3) := by decide +kernel
theorem d_Model_init_115 : decode b_Model_init 115 = .ok (.aload_n 0, 1) := by decide +kernel
theorem d_Model_init_116 : decode b_Model_init 116 = .ok (.bipush 8, 2) := by decide +kernel
theorem d_Model_init_118 : decode b_Model_init 118 = .ok (.newarray .boolean, 2) := by decide +kernel
theorem d_Model_init_120 : decode b_Model_init 120 = .ok (.putfield 50, 3) := by decide +kernel
theorem d_Model_init_123 : decode b_Model_init 123 = .ok (.aload_n 0, 1) := by decide +kernel
theorem d_Model_init_124 : decode b_Model_init 124 = .ok (.bipush 8, 2) := by decide +kernel
theorem d_Model_init_126 : decode b_Model_init 126 = .ok (.newarray .boolean, 2) := by decide +kernel
theorem d_Model_init_128 : decode b_Model_init 128 = .ok (.putfield 53, 3) := by decide +kernel
theorem d_Model_init_131 : decode b_Model_init 131 = .ok (.aload_n 0, 1) := by decide +kernel
theorem d_Model_init_132 : decode b_Model_init 132 = .ok (.bipush 8, 2) := by decide +kernel
theorem d_Model_init_134 : decode b_Model_init 134 = .ok (.newarray .boolean, 2) := by decide +kernel
theorem d_Model_init_136 : decode b_Model_init 136 = .ok (.putfield 56, 3) := by decide +kernel
theorem d_Model_init_139 : decode b_Model_init 139 = .ok (.aload_n 0, 1) := by decide +kernel
theorem d_Model_init_140 : decode b_Model_init 140 = .ok (.bipush 8, 2) := by decide +kernel
theorem d_Model_init_142 : decode b_Model_init 142 = .ok (.newarray .int, 2) := by decide +kernel
theorem d_Model_init_144 : decode b_Model_init 144 = .ok (.putfield 59, 3) := by decide +kernel
theorem d_Model_init_147 : decode b_Model_init 147 = .ok (.aload_n 0, 1) := by decide +kernel
theorem d_Model_init_148 : decode b_Model_init 148 = .ok (.bipush 8, 2) := by decide +kernel
theorem d_Model_init_150 : decode b_Model_init 150 = .ok (.newarray .int, 2) := by decide +kernel
theorem d_Model_init_152 : decode b_Model_init 152 = .ok (.putfield 62, 3) := by decide +kernel
theorem d_Model_init_155 : decode b_Model_init 155 = .ok (.aload_n 0, 1) := by decide +kernel
theorem d_Model_init_156 : decode b_Model_init 156 = .ok (.bipush 8, 2) := by decide +kernel
theorem d_Model_init_158 : decode b_Model_init 158 = .ok (.newarray .int, 2) := by decide +kernel
theorem d_Model_init_160 : decode b_Model_init 160 = .ok (.putfield 65, 3) := by decide +kernel
theorem d_Model_init_163 : decode b_Model_init 163 = .ok (.aload_n 0, 1) := by decide +kernel
theorem d_Model_init_164 : decode b_Model_init 164 = .ok (.bipush 8, 2) := by decide +kernel
theorem d_Model_init_166 : decode b_Model_init 166 = .ok (.newarray .int, 2) := by decide +kernel
theorem d_Model_init_168 : decode b_Model_init 168 = .ok (.putfield 68, 3) := by decide +kernel
theorem d_Model_init_171 : decode b_Model_init 171 = .ok (.aload_n 0, 1) := by decide +kernel
theorem d_Model_init_172 : decode b_Model_init 172 = .ok (.sipush 2240, 3) := by decide +kernel
theorem d_Model_init_175 : decode b_Model_init 175 = .ok (.newarray .int, 2) := by decide +kernel
theorem d_Model_init_177 : decode b_Model_init 177 = .ok (.putfield 71, 3) := by decide +kernel
theorem d_Model_init_180 : decode b_Model_init 180 = .ok (.aload_n 0, 1) := by decide +kernel
theorem d_Model_init_181 : decode b_Model_init 181 = .ok (.bipush 8, 2) := by decide +kernel
theorem d_Model_init_183 : decode b_Model_init 183 = .ok (.newarray .int, 2) := by decide +kernel
theorem d_Model_init_185 : decode b_Model_init 185 = .ok (.putfield 74, 3) := by decide +kernel
theorem d_Model_init_188 : decode b_Model_init 188 = .ok (.aload_n 0, 1) := by decide +kernel
theorem d_Model_init_189 : decode b_Model_init 189 = .ok (.sipush 800, 3) := by decide +kernel
theorem d_Model_init_192 : decode b_Model_init 192 = .ok (.newarray .int, 2) := by decide +kernel
theorem d_Model_init_194 : decode b_Model_init 194 = .ok (.putfield 77, 3) := by decide +kernel
theorem d_Model_init_197 : decode b_Model_init 197 = .ok (.aload_n 0, 1) := by decide +kernel
theorem d_Model_init_198 : decode b_Model_init 198 = .ok (.bipush 63, 2) := by decide +kernel
theorem d_Model_init_200 : decode b_Model_init 200 = .ok (.newarray .int, 2) := by decide +kernel
theorem d_Model_init_202 : decode b_Model_init 202 = .ok (.putfield 80, 3) := by decide +kernel
theorem d_Model_init_205 : decode b_Model_init 205 = .ok (.aload_n 0, 1) := by decide +kernel
theorem d_Model_init_206 : decode b_Model_init 206 = .ok (.bipush 9, 2) := by decide +kernel
theorem d_Model_init_208 : decode b_Model_init 208 = .ok (.newarray .int, 2) := by decide +kernel
theorem d_Model_init_210 : decode b_Model_init 210 = .ok (.putfield 83, 3) := by decide +kernel
theorem d_Model_init_213 : decode b_Model_init 213 = .ok (.aload_n 0, 1) := by decide +kernel
theorem d_Model_init_214 : decode b_Model_init 214 = .ok (.bipush 9, 2) := by decide +kernel
theorem d_Model_init_216 : decode b_Model_init 216 = .ok (.newarray .int, 2) := by decide +kernel
theorem d_Model_init_218 : decode b_Model_init 218 = .ok (.putfield 86, 3) := by decide +kernel
theorem d_Model_init_221 : decode b_Model_init 221 = .ok (.aload_n 0, 1) := by decide +kernel
theorem d_Model_init_222 : decode b_Model_init 222 = .ok (.bipush 48, 2) := by decide +kernel
theorem d_Model_init_224 : decode b_Model_init 224 = .ok (.newarray .int, 2) := by decide +kernel
theorem d_Model_init_226 : decode b_Model_init 226 = .ok (.putfield 89, 3) := by decide +kernel
theorem d_Model_init_229 : decode b_Model_init 229 = .ok (.aload_n 0, 1) := by decide +kernel
theorem d_Model_init_230 : decode b_Model_init 230 = .ok (.bipush 48, 2) := by decide +kernel
theorem d_Model_init_232 : decode b_Model_init 232 = .ok (.newarray .int, 2) := by decide +kernel
theorem d_Model_init_234 : decode b_Model_init 234 = .ok (.putfield 92, 3) := by decide +kernel
theorem d_Model_init_237 : decode b_Model_init 237 = .ok (.aload_n 0, 1) := by decide +kernel
theorem d_Model_init_238 : decode b_Model_init 238 = .ok (.bipush 48, 2) := by decide +kernel
theorem d_Model_init_240 : decode b_Model_init 240 = .ok (.newarray .int, 2) := by decide +kernel
theorem d_Model_init_242 : decode b_Model_init 242 = .ok (.putfield 95, 3) := by decide +kernel
theorem d_Model_init_245 : decode b_Model_init 245 = .ok (.aload_n 0, 1) := by decide +kernel
theorem d_Model_init_246 : decode b_Model_init 246 = .ok (.iconst (-1), 1) := by decide +kernel
theorem d_Model_init_247 : decode b_Model_init 247 = .ok (.putfield 98, 3) := by decide +kernel
theorem d_Model_init_250 : decode b_Model_init 250 = .ok (.return_, 1) := by decide +kernel
abbrev b_Model_is : ByteArray := prog_14_method_2_code
abbrev J_Model_is : MethodName × ByteArray × Nat × Option FieldType := (⟨"FaslDeskModel", "is", "(III)Z"⟩, b_Model_is, 3, (some .boolean))
theorem d_Model_is_0 : decode b_Model_is 0 = .ok (.iload_n 0, 1) := by decide +kernel
theorem d_Model_is_1 : decode b_Model_is 1 = .ok (.iload_n 1, 1) := by decide +kernel
theorem d_Model_is_2 : decode b_Model_is 2 = .ok (.if_icmp .lt 12, 3) := by decide +kernel
theorem d_Model_is_5 : decode b_Model_is 5 = .ok (.iload_n 0, 1) := by decide +kernel
theorem d_Model_is_6 : decode b_Model_is 6 = .ok (.iload_n 2, 1) := by decide +kernel
theorem d_Model_is_7 : decode b_Model_is 7 = .ok (.if_icmp .gt 7, 3) := by decide +kernel
theorem d_Model_is_10 : decode b_Model_is 10 = .ok (.iconst 1, 1) := by decide +kernel
theorem d_Model_is_11 : decode b_Model_is 11 = .ok (.goto 4, 3) := by decide +kernel
theorem d_Model_is_14 : decode b_Model_is 14 = .ok (.iconst 0, 1) := by decide +kernel
theorem d_Model_is_15 : decode b_Model_is 15 = .ok (.ireturn, 1) := by decide +kernel
abbrev b_Model_parts : ByteArray := prog_14_method_3_code
abbrev J_Model_parts : MethodName × ByteArray × Nat × Option FieldType := (⟨"FaslDeskModel", "parts", "(I)I"⟩, b_Model_parts, 1, (some .int))
theorem d_Model_parts_0 : decode b_Model_parts 0 = .ok (.iload_n 0, 1) := by decide +kernel
theorem d_Model_parts_1 : decode b_Model_parts 1 = .ok (.iconst 2, 1) := by decide +kernel
theorem d_Model_parts_2 : decode b_Model_parts 2 = .ok (.if_icmp .ge 7, 3) := by decide +kernel
theorem d_Model_parts_5 : decode b_Model_parts 5 = .ok (.iconst 0, 1) := by decide +kernel
theorem d_Model_parts_6 : decode b_Model_parts 6 = .ok (.goto 42, 3) := by decide +kernel
theorem d_Model_parts_9 : decode b_Model_parts 9 = .ok (.iload_n 0, 1) := by decide +kernel
theorem d_Model_parts_10 : decode b_Model_parts 10 = .ok (.bipush 12, 2) := by decide +kernel
theorem d_Model_parts_12 : decode b_Model_parts 12 = .ok (.if_icmp .lt 15, 3) := by decide +kernel
theorem d_Model_parts_15 : decode b_Model_parts 15 = .ok (.iload_n 0, 1) := by decide +kernel
theorem d_Model_parts_16 : decode b_Model_parts 16 = .ok (.bipush 14, 2) := by decide +kernel
theorem d_Model_parts_18 : decode b_Model_parts 18 = .ok (.if_icmp .eq 9, 3) := by decide +kernel
theorem d_Model_parts_21 : decode b_Model_parts 21 = .ok (.iload_n 0, 1) := by decide +kernel
theorem d_Model_parts_22 : decode b_Model_parts 22 = .ok (.bipush 16, 2) := by decide +kernel
theorem d_Model_parts_24 : decode b_Model_parts 24 = .ok (.if_icmp .ne 7, 3) := by decide +kernel
theorem d_Model_parts_27 : decode b_Model_parts 27 = .ok (.iconst 2, 1) := by decide +kernel
theorem d_Model_parts_28 : decode b_Model_parts 28 = .ok (.goto 20, 3) := by decide +kernel
theorem d_Model_parts_31 : decode b_Model_parts 31 = .ok (.iload_n 0, 1) := by decide +kernel
theorem d_Model_parts_32 : decode b_Model_parts 32 = .ok (.bipush 12, 2) := by decide +kernel
theorem d_Model_parts_34 : decode b_Model_parts 34 = .ok (.if_icmp .eq 9, 3) := by decide +kernel
theorem d_Model_parts_37 : decode b_Model_parts 37 = .ok (.iload_n 0, 1) := by decide +kernel
theorem d_Model_parts_38 : decode b_Model_parts 38 = .ok (.bipush 15, 2) := by decide +kernel
theorem d_Model_parts_40 : decode b_Model_parts 40 = .ok (.if_icmp .ne 7, 3) := by decide +kernel
theorem d_Model_parts_43 : decode b_Model_parts 43 = .ok (.iconst 1, 1) := by decide +kernel
theorem d_Model_parts_44 : decode b_Model_parts 44 = .ok (.goto 4, 3) := by decide +kernel
theorem d_Model_parts_47 : decode b_Model_parts 47 = .ok (.iconst 3, 1) := by decide +kernel
theorem d_Model_parts_48 : decode b_Model_parts 48 = .ok (.ireturn, 1) := by decide +kernel
abbrev b_Model_fits : ByteArray := prog_14_method_4_code
abbrev J_Model_fits : MethodName × ByteArray × Nat × Option FieldType := (⟨"FaslDeskModel", "fits", "(II)Z"⟩, b_Model_fits, 2, (some .boolean))
theorem d_Model_fits_0 : decode b_Model_fits 0 = .ok (.iload_n 0, 1) := by decide +kernel
theorem d_Model_fits_1 : decode b_Model_fits 1 = .ok (.tableswitch 114 1 17 #[83, 114, 114, 114, 114, 114, 114, 114, 114, 114, 114, 114, 91, 98, 83, 98, 106], 83) := by decide +kernel
theorem d_Model_fits_84 : decode b_Model_fits 84 = .ok (.iload_n 1, 1) := by decide +kernel
theorem d_Model_fits_85 : decode b_Model_fits 85 = .ok (.iconst 0, 1) := by decide +kernel
theorem d_Model_fits_86 : decode b_Model_fits 86 = .ok (.bipush 6, 2) := by decide +kernel
theorem d_Model_fits_88 : decode b_Model_fits 88 = .ok (.invokestatic 102, 3) := by decide +kernel
theorem d_Model_fits_91 : decode b_Model_fits 91 = .ok (.ireturn, 1) := by decide +kernel
theorem d_Model_fits_92 : decode b_Model_fits 92 = .ok (.iload_n 1, 1) := by decide +kernel
theorem d_Model_fits_93 : decode b_Model_fits 93 = .ok (.iconst 0, 1) := by decide +kernel
theorem d_Model_fits_94 : decode b_Model_fits 94 = .ok (.iconst 5, 1) := by decide +kernel
theorem d_Model_fits_95 : decode b_Model_fits 95 = .ok (.invokestatic 102, 3) := by decide +kernel
theorem d_Model_fits_98 : decode b_Model_fits 98 = .ok (.ireturn, 1) := by decide +kernel
theorem d_Model_fits_99 : decode b_Model_fits 99 = .ok (.iload_n 1, 1) := by decide +kernel
theorem d_Model_fits_100 : decode b_Model_fits 100 = .ok (.iconst 3, 1) := by decide +kernel
theorem d_Model_fits_101 : decode b_Model_fits 101 = .ok (.bipush 6, 2) := by decide +kernel
theorem d_Model_fits_103 : decode b_Model_fits 103 = .ok (.invokestatic 102, 3) := by decide +kernel
theorem d_Model_fits_106 : decode b_Model_fits 106 = .ok (.ireturn, 1) := by decide +kernel
theorem d_Model_fits_107 : decode b_Model_fits 107 = .ok (.iload_n 1, 1) := by decide +kernel
theorem d_Model_fits_108 : decode b_Model_fits 108 = .ok (.iconst 0, 1) := by decide +kernel
theorem d_Model_fits_109 : decode b_Model_fits 109 = .ok (.bipush 7, 2) := by decide +kernel
theorem d_Model_fits_111 : decode b_Model_fits 111 = .ok (.invokestatic 102, 3) := by decide +kernel
theorem d_Model_fits_114 : decode b_Model_fits 114 = .ok (.ireturn, 1) := by decide +kernel
theorem d_Model_fits_115 : decode b_Model_fits 115 = .ok (.iload_n 0, 1) := by decide +kernel
theorem d_Model_fits_116 : decode b_Model_fits 116 = .ok (.iconst 0, 1) := by decide +kernel
theorem d_Model_fits_117 : decode b_Model_fits 117 = .ok (.bipush 17, 2) := by decide +kernel
theorem d_Model_fits_119 : decode b_Model_fits 119 = .ok (.invokestatic 102, 3) := by decide +kernel
theorem d_Model_fits_122 : decode b_Model_fits 122 = .ok (.ireturn, 1) := by decide +kernel
abbrev b_Model_token : ByteArray := prog_14_method_5_code
abbrev J_Model_token : MethodName × ByteArray × Nat × Option FieldType := (⟨"FaslDeskModel", "token", "(II)I"⟩, b_Model_token, 3, (some .int))
theorem d_Model_token_0 : decode b_Model_token 0 = .ok (.iload_n 1, 1) := by decide +kernel
theorem d_Model_token_1 : decode b_Model_token 1 = .ok (.iload_n 2, 1) := by decide +kernel
theorem d_Model_token_2 : decode b_Model_token 2 = .ok (.invokestatic 106, 3) := by decide +kernel
theorem d_Model_token_5 : decode b_Model_token 5 = .ok (.ifCond .ne 5, 3) := by decide +kernel
theorem d_Model_token_8 : decode b_Model_token 8 = .ok (.iconst (-1), 1) := by decide +kernel
theorem d_Model_token_9 : decode b_Model_token 9 = .ok (.ireturn, 1) := by decide +kernel
theorem d_Model_token_10 : decode b_Model_token 10 = .ok (.aload_n 0, 1) := by decide +kernel
theorem d_Model_token_11 : decode b_Model_token 11 = .ok (.getfield 16, 3) := by decide +kernel
theorem d_Model_token_14 : decode b_Model_token 14 = .ok (.bipush 8, 2) := by decide +kernel
theorem d_Model_token_16 : decode b_Model_token 16 = .ok (.iaload, 1) := by decide +kernel
theorem d_Model_token_17 : decode b_Model_token 17 = .ok (.bipush 40, 2) := by decide +kernel
theorem d_Model_token_19 : decode b_Model_token 19 = .ok (.if_icmp .ne 6, 3) := by decide +kernel
theorem d_Model_token_22 : decode b_Model_token 22 = .ok (.bipush (-2), 2) := by decide +kernel
theorem d_Model_token_24 : decode b_Model_token 24 = .ok (.ireturn, 1) := by decide +kernel
theorem d_Model_token_25 : decode b_Model_token 25 = .ok (.aload_n 0, 1) := by decide +kernel
theorem d_Model_token_26 : decode b_Model_token 26 = .ok (.getfield 7, 3) := by decide +kernel
theorem d_Model_token_29 : decode b_Model_token 29 = .ok (.sipush 320, 3) := by decide +kernel
theorem d_Model_token_32 : decode b_Model_token 32 = .ok (.aload_n 0, 1) := by decide +kernel
theorem d_Model_token_33 : decode b_Model_token 33 = .ok (.getfield 16, 3) := by decide +kernel
theorem d_Model_token_36 : decode b_Model_token 36 = .ok (.bipush 8, 2) := by decide +kernel
theorem d_Model_token_38 : decode b_Model_token 38 = .ok (.iaload, 1) := by decide +kernel
theorem d_Model_token_39 : decode b_Model_token 39 = .ok (.iadd, 1) := by decide +kernel
theorem d_Model_token_40 : decode b_Model_token 40 = .ok (.iload_n 1, 1) := by decide +kernel
theorem d_Model_token_41 : decode b_Model_token 41 = .ok (.iastore, 1) := by decide +kernel
theorem d_Model_token_42 : decode b_Model_token 42 = .ok (.aload_n 0, 1) := by decide +kernel
theorem d_Model_token_43 : decode b_Model_token 43 = .ok (.getfield 13, 3) := by decide +kernel
theorem d_Model_token_46 : decode b_Model_token 46 = .ok (.sipush 320, 3) := by decide +kernel
theorem d_Model_token_49 : decode b_Model_token 49 = .ok (.aload_n 0, 1) := by decide +kernel
theorem d_Model_token_50 : decode b_Model_token 50 = .ok (.getfield 16, 3) := by decide +kernel
theorem d_Model_token_53 : decode b_Model_token 53 = .ok (.bipush 8, 2) := by decide +kernel
theorem d_Model_token_55 : decode b_Model_token 55 = .ok (.iaload, 1) := by decide +kernel
theorem d_Model_token_56 : decode b_Model_token 56 = .ok (.iadd, 1) := by decide +kernel
theorem d_Model_token_57 : decode b_Model_token 57 = .ok (.iload_n 2, 1) := by decide +kernel
theorem d_Model_token_58 : decode b_Model_token 58 = .ok (.iastore, 1) := by decide +kernel
theorem d_Model_token_59 : decode b_Model_token 59 = .ok (.aload_n 0, 1) := by decide +kernel
theorem d_Model_token_60 : decode b_Model_token 60 = .ok (.getfield 16, 3) := by decide +kernel
theorem d_Model_token_63 : decode b_Model_token 63 = .ok (.bipush 8, 2) := by decide +kernel
theorem d_Model_token_65 : decode b_Model_token 65 = .ok (.dup2, 1) := by decide +kernel
theorem d_Model_token_66 : decode b_Model_token 66 = .ok (.iaload, 1) := by decide +kernel
theorem d_Model_token_67 : decode b_Model_token 67 = .ok (.iconst 1, 1) := by decide +kernel
theorem d_Model_token_68 : decode b_Model_token 68 = .ok (.iadd, 1) := by decide +kernel
theorem d_Model_token_69 : decode b_Model_token 69 = .ok (.dup_x2, 1) := by decide +kernel
theorem d_Model_token_70 : decode b_Model_token 70 = .ok (.iastore, 1) := by decide +kernel
theorem d_Model_token_71 : decode b_Model_token 71 = .ok (.ireturn, 1) := by decide +kernel
