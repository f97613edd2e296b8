/-! more decode rows -/
abbrev b_Frame_init : ByteArray := prog_8_method_1_code
abbrev J_Frame_init : MethodName × ByteArray × Nat × Option FieldType := (⟨"FaslDesk$Frame", "<init>", "()V"⟩, b_Frame_init, 1, none)
theorem d_Frame_init_0 : decode b_Frame_init 0 = .ok (.aload_n 0, 1) := by decide +kernel
theorem d_Frame_init_1 : decode b_Frame_init 1 = .ok (.invokespecial 3, 3) := by decide +kernel
theorem d_Frame_init_4 : decode b_Frame_init 4 = .ok (.aload_n 0, 1) := by decide +kernel
theorem d_Frame_init_5 : decode b_Frame_init 5 = .ok (.bipush 7, 2) := by decide +kernel
theorem d_Frame_init_7 : decode b_Frame_init 7 = .ok (.newarray .int, 2) := by decide +kernel
theorem d_Frame_init_9 : decode b_Frame_init 9 = .ok (.putfield 9, 3) := by decide +kernel
theorem d_Frame_init_12 : decode b_Frame_init 12 = .ok (.aload_n 0, 1) := by decide +kernel
theorem d_Frame_init_13 : decode b_Frame_init 13 = .ok (.bipush 42, 2) := by decide +kernel
theorem d_Frame_init_15 : decode b_Frame_init 15 = .ok (.newarray .int, 2) := by decide +kernel
theorem d_Frame_init_17 : decode b_Frame_init 17 = .ok (.putfield 15, 3) := by decide +kernel
theorem d_Frame_init_20 : decode b_Frame_init 20 = .ok (.return_, 1) := by decide +kernel
abbrev b_Frame_begin : ByteArray := prog_8_method_2_code
abbrev J_Frame_begin : MethodName × ByteArray × Nat × Option FieldType := (⟨"FaslDesk$Frame", "begin", "(IIII)V"⟩, b_Frame_begin, 5, none)
theorem d_Frame_begin_0 : decode b_Frame_begin 0 = .ok (.aload_n 0, 1) := by decide +kernel
theorem d_Frame_begin_1 : decode b_Frame_begin 1 = .ok (.getfield 9, 3) := by decide +kernel
theorem d_Frame_begin_4 : decode b_Frame_begin 4 = .ok (.iconst 0, 1) := by decide +kernel
theorem d_Frame_begin_5 : decode b_Frame_begin 5 = .ok (.invokestatic 18, 3) := by decide +kernel
theorem d_Frame_begin_8 : decode b_Frame_begin 8 = .ok (.aload_n 0, 1) := by decide +kernel
theorem d_Frame_begin_9 : decode b_Frame_begin 9 = .ok (.getfield 9, 3) := by decide +kernel
theorem d_Frame_begin_12 : decode b_Frame_begin 12 = .ok (.iconst 0, 1) := by decide +kernel
theorem d_Frame_begin_13 : decode b_Frame_begin 13 = .ok (.iload_n 1, 1) := by decide +kernel
theorem d_Frame_begin_14 : decode b_Frame_begin 14 = .ok (.ifCond .le 7, 3) := by decide +kernel
theorem d_Frame_begin_17 : decode b_Frame_begin 17 = .ok (.iload_n 2, 1) := by decide +kernel
theorem d_Frame_begin_18 : decode b_Frame_begin 18 = .ok (.goto 4, 3) := by decide +kernel
theorem d_Frame_begin_21 : decode b_Frame_begin 21 = .ok (.iconst 0, 1) := by decide +kernel
theorem d_Frame_begin_22 : decode b_Frame_begin 22 = .ok (.iastore, 1) := by decide +kernel
theorem d_Frame_begin_23 : decode b_Frame_begin 23 = .ok (.aload_n 0, 1) := by decide +kernel
theorem d_Frame_begin_24 : decode b_Frame_begin 24 = .ok (.getfield 9, 3) := by decide +kernel
theorem d_Frame_begin_27 : decode b_Frame_begin 27 = .ok (.iconst 1, 1) := by decide +kernel
theorem d_Frame_begin_28 : decode b_Frame_begin 28 = .ok (.iload_n 1, 1) := by decide +kernel
theorem d_Frame_begin_29 : decode b_Frame_begin 29 = .ok (.iconst 1, 1) := by decide +kernel
theorem d_Frame_begin_30 : decode b_Frame_begin 30 = .ok (.if_icmp .le 7, 3) := by decide +kernel
theorem d_Frame_begin_33 : decode b_Frame_begin 33 = .ok (.iload_n 3, 1) := by decide +kernel
theorem d_Frame_begin_34 : decode b_Frame_begin 34 = .ok (.goto 4, 3) := by decide +kernel
theorem d_Frame_begin_37 : decode b_Frame_begin 37 = .ok (.iconst 0, 1) := by decide +kernel
theorem d_Frame_begin_38 : decode b_Frame_begin 38 = .ok (.iastore, 1) := by decide +kernel
theorem d_Frame_begin_39 : decode b_Frame_begin 39 = .ok (.aload_n 0, 1) := by decide +kernel
theorem d_Frame_begin_40 : decode b_Frame_begin 40 = .ok (.getfield 9, 3) := by decide +kernel
theorem d_Frame_begin_43 : decode b_Frame_begin 43 = .ok (.iconst 2, 1) := by decide +kernel
theorem d_Frame_begin_44 : decode b_Frame_begin 44 = .ok (.iload_n 1, 1) := by decide +kernel
theorem d_Frame_begin_45 : decode b_Frame_begin 45 = .ok (.iconst 2, 1) := by decide +kernel
theorem d_Frame_begin_46 : decode b_Frame_begin 46 = .ok (.if_icmp .le 8, 3) := by decide +kernel
theorem d_Frame_begin_49 : decode b_Frame_begin 49 = .ok (.iload 4, 2) := by decide +kernel
theorem d_Frame_begin_51 : decode b_Frame_begin 51 = .ok (.goto 4, 3) := by decide +kernel
theorem d_Frame_begin_54 : decode b_Frame_begin 54 = .ok (.iconst 0, 1) := by decide +kernel
theorem d_Frame_begin_55 : decode b_Frame_begin 55 = .ok (.iastore, 1) := by decide +kernel
theorem d_Frame_begin_56 : decode b_Frame_begin 56 = .ok (.aload_n 0, 1) := by decide +kernel
theorem d_Frame_begin_57 : decode b_Frame_begin 57 = .ok (.iconst 0, 1) := by decide +kernel
theorem d_Frame_begin_58 : decode b_Frame_begin 58 = .ok (.putfield 24, 3) := by decide +kernel
theorem d_Frame_begin_61 : decode b_Frame_begin 61 = .ok (.return_, 1) := by decide +kernel
abbrev b_Frame_push : ByteArray := prog_8_method_3_code
abbrev J_Frame_push : MethodName × ByteArray × Nat × Option FieldType := (⟨"FaslDesk$Frame", "push", "(I)V"⟩, b_Frame_push, 2, none)
theorem d_Frame_push_0 : decode b_Frame_push 0 = .ok (.aload_n 0, 1) := by decide +kernel
theorem d_Frame_push_1 : decode b_Frame_push 1 = .ok (.getfield 24, 3) := by decide +kernel
theorem d_Frame_push_4 : decode b_Frame_push 4 = .ok (.bipush 42, 2) := by decide +kernel
theorem d_Frame_push_6 : decode b_Frame_push 6 = .ok (.if_icmp .ge 23, 3) := by decide +kernel
theorem d_Frame_push_9 : decode b_Frame_push 9 = .ok (.aload_n 0, 1) := by decide +kernel
theorem d_Frame_push_10 : decode b_Frame_push 10 = .ok (.getfield 15, 3) := by decide +kernel
theorem d_Frame_push_13 : decode b_Frame_push 13 = .ok (.aload_n 0, 1) := by decide +kernel
theorem d_Frame_push_14 : decode b_Frame_push 14 = .ok (.getfield 24, 3) := by decide +kernel
theorem d_Frame_push_17 : decode b_Frame_push 17 = .ok (.iload_n 1, 1) := by decide +kernel
theorem d_Frame_push_18 : decode b_Frame_push 18 = .ok (.iastore, 1) := by decide +kernel
theorem d_Frame_push_19 : decode b_Frame_push 19 = .ok (.aload_n 0, 1) := by decide +kernel
theorem d_Frame_push_20 : decode b_Frame_push 20 = .ok (.dup, 1) := by decide +kernel
theorem d_Frame_push_21 : decode b_Frame_push 21 = .ok (.getfield 24, 3) := by decide +kernel
theorem d_Frame_push_24 : decode b_Frame_push 24 = .ok (.iconst 1, 1) := by decide +kernel
theorem d_Frame_push_25 : decode b_Frame_push 25 = .ok (.iadd, 1) := by decide +kernel
theorem d_Frame_push_26 : decode b_Frame_push 26 = .ok (.putfield 24, 3) := by decide +kernel
theorem d_Frame_push_29 : decode b_Frame_push 29 = .ok (.return_, 1) := by decide +kernel
abbrev b_Frame_pop : ByteArray := prog_8_method_4_code
abbrev J_Frame_pop : MethodName × ByteArray × Nat × Option FieldType := (⟨"FaslDesk$Frame", "pop", "()I"⟩, b_Frame_pop, 1, (some .int))
theorem d_Frame_pop_0 : decode b_Frame_pop 0 = .ok (.aload_n 0, 1) := by decide +kernel
theorem d_Frame_pop_1 : decode b_Frame_pop 1 = .ok (.getfield 24, 3) := by decide +kernel
theorem d_Frame_pop_4 : decode b_Frame_pop 4 = .ok (.ifCond .ne 5, 3) := by decide +kernel
theorem d_Frame_pop_7 : decode b_Frame_pop 7 = .ok (.iconst 0, 1) := by decide +kernel
theorem d_Frame_pop_8 : decode b_Frame_pop 8 = .ok (.ireturn, 1) := by decide +kernel
theorem d_Frame_pop_9 : decode b_Frame_pop 9 = .ok (.aload_n 0, 1) := by decide +kernel
theorem d_Frame_pop_10 : decode b_Frame_pop 10 = .ok (.dup, 1) := by decide +kernel
theorem d_Frame_pop_11 : decode b_Frame_pop 11 = .ok (.getfield 24, 3) := by decide +kernel
theorem d_Frame_pop_14 : decode b_Frame_pop 14 = .ok (.iconst 1, 1) := by decide +kernel
theorem d_Frame_pop_15 : decode b_Frame_pop 15 = .ok (.isub, 1) := by decide +kernel
theorem d_Frame_pop_16 : decode b_Frame_pop 16 = .ok (.putfield 24, 3) := by decide +kernel
theorem d_Frame_pop_19 : decode b_Frame_pop 19 = .ok (.aload_n 0, 1) := by decide +kernel
theorem d_Frame_pop_20 : decode b_Frame_pop 20 = .ok (.getfield 15, 3) := by decide +kernel
theorem d_Frame_pop_23 : decode b_Frame_pop 23 = .ok (.aload_n 0, 1) := by decide +kernel
theorem d_Frame_pop_24 : decode b_Frame_pop 24 = .ok (.getfield 24, 3) := by decide +kernel
theorem d_Frame_pop_27 : decode b_Frame_pop 27 = .ok (.iaload, 1) := by decide +kernel
theorem d_Frame_pop_28 : decode b_Frame_pop 28 = .ok (.ireturn, 1) := by decide +kernel
abbrev b_Frame_top : ByteArray := prog_8_method_5_code
abbrev J_Frame_top : MethodName × ByteArray × Nat × Option FieldType := (⟨"FaslDesk$Frame", "top", "()I"⟩, b_Frame_top, 1, (some .int))
theorem d_Frame_top_0 : decode b_Frame_top 0 = .ok (.aload_n 0, 1) := by decide +kernel
theorem d_Frame_top_1 : decode b_Frame_top 1 = .ok (.getfield 24, 3) := by decide +kernel
theorem d_Frame_top_4 : decode b_Frame_top 4 = .ok (.ifCond .ne 7, 3) := by decide +kernel
theorem d_Frame_top_7 : decode b_Frame_top 7 = .ok (.iconst 0, 1) := by decide +kernel
theorem d_Frame_top_8 : decode b_Frame_top 8 = .ok (.goto 14, 3) := by decide +kernel
theorem d_Frame_top_11 : decode b_Frame_top 11 = .ok (.aload_n 0, 1) := by decide +kernel
theorem d_Frame_top_12 : decode b_Frame_top 12 = .ok (.getfield 15, 3) := by decide +kernel
theorem d_Frame_top_15 : decode b_Frame_top 15 = .ok (.aload_n 0, 1) := by decide +kernel
theorem d_Frame_top_16 : decode b_Frame_top 16 = .ok (.getfield 24, 3) := by decide +kernel
theorem d_Frame_top_19 : decode b_Frame_top 19 = .ok (.iconst 1, 1) := by decide +kernel
theorem d_Frame_top_20 : decode b_Frame_top 20 = .ok (.isub, 1) := by decide +kernel
theorem d_Frame_top_21 : decode b_Frame_top 21 = .ok (.iaload, 1) := by decide +kernel
theorem d_Frame_top_22 : decode b_Frame_top 22 = .ok (.ireturn, 1) := by decide +kernel
abbrev b_Image_init : ByteArray := prog_9_method_1_code
abbrev J_Image_init : MethodName × ByteArray × Nat × Option FieldType := (⟨"FaslDesk$Image", "<init>", "()V"⟩, b_Image_init, 2, none)
theorem d_Image_init_0 : decode b_Image_init 0 = .ok (.aload_n 0, 1) := by decide +kernel
theorem d_Image_init_1 : decode b_Image_init 1 = .ok (.invokespecial 3, 3) := by decide +kernel
theorem d_Image_init_4 : decode b_Image_init 4 = .ok (.aload_n 0, 1) := by decide +kernel
theorem d_Image_init_5 : decode b_Image_init 5 = .ok (.bipush 8, 2) := by decide +kernel
theorem d_Image_init_7 : decode b_Image_init 7 = .ok (.anewarray 9, 3) := by decide +kernel
theorem d_Image_init_10 : decode b_Image_init 10 = .ok (.putfield 11, 3) := by decide +kernel
theorem d_Image_init_13 : decode b_Image_init 13 = .ok (.aload_n 0, 1) := by decide +kernel
theorem d_Image_init_14 : decode b_Image_init 14 = .ok (.bipush 8, 2) := by decide +kernel
theorem d_Image_init_16 : decode b_Image_init 16 = .ok (.anewarray 17, 3) := by decide +kernel
theorem d_Image_init_19 : decode b_Image_init 19 = .ok (.putfield 19, 3) := by decide +kernel
theorem d_Image_init_22 : decode b_Image_init 22 = .ok (.iconst 0, 1) := by decide +kernel
theorem d_Image_init_23 : decode b_Image_init 23 = .ok (.istore_n 1, 1) := by decide +kernel
theorem d_Image_init_24 : decode b_Image_init 24 = .ok (.iload_n 1, 1) := by decide +kernel
theorem d_Image_init_25 : decode b_Image_init 25 = .ok (.bipush 8, 2) := by decide +kernel
theorem d_Image_init_27 : decode b_Image_init 27 = .ok (.if_icmp .ge 35, 3) := by decide +kernel
theorem d_Image_init_30 : decode b_Image_init 30 = .ok (.aload_n 0, 1) := by decide +kernel
theorem d_Image_init_31 : decode b_Image_init 31 = .ok (.getfield 11, 3) := by decide +kernel
theorem d_Image_init_34 : decode b_Image_init 34 = .ok (.iload_n 1, 1) := by decide +kernel
theorem d_Image_init_35 : decode b_Image_init 35 = .ok (.new 9, 3) := by decide +kernel
theorem d_Image_init_38 : decode b_Image_init 38 = .ok (.dup, 1) := by decide +kernel
theorem d_Image_init_39 : decode b_Image_init 39 = .ok (.invokespecial 23, 3) := by decide +kernel
theorem d_Image_init_42 : decode b_Image_init 42 = .ok (.aastore, 1) := by decide +kernel
theorem d_Image_init_43 : decode b_Image_init 43 = .ok (.aload_n 0, 1) := by decide +kernel
theorem d_Image_init_44 : decode b_Image_init 44 = .ok (.getfield 19, 3) := by decide +kernel
theorem d_Image_init_47 : decode b_Image_init 47 = .ok (.iload_n 1, 1) := by decide +kernel
theorem d_Image_init_48 : decode b_Image_init 48 = .ok (.new 17, 3) := by decide +kernel
theorem d_Image_init_51 : decode b_Image_init 51 = .ok (.dup, 1) := by decide +kernel
theorem d_Image_init_52 : decode b_Image_init 52 = .ok (.invokespecial 24, 3) := by decide +kernel
theorem d_Image_init_55 : decode b_Image_init 55 = .ok (.aastore, 1) := by decide +kernel
theorem d_Image_init_56 : decode b_Image_init 56 = .ok (.iinc 1 1, 3) := by decide +kernel
theorem d_Image_init_59 : decode b_Image_init 59 = .ok (.goto (-35), 3) := by decide +kernel
theorem d_Image_init_62 : decode b_Image_init 62 = .ok (.return_, 1) := by decide +kernel
abbrev b_Image_has : ByteArray := prog_9_method_2_code
abbrev J_Image_has : MethodName × ByteArray × Nat × Option FieldType := (⟨"FaslDesk$Image", "has", "(I)Z"⟩, b_Image_has, 2, (some .boolean))
theorem d_Image_has_0 : decode b_Image_has 0 = .ok (.iload_n 1, 1) := by decide +kernel
theorem d_Image_has_1 : decode b_Image_has 1 = .ok (.iconst 0, 1) := by decide +kernel
theorem d_Image_has_2 : decode b_Image_has 2 = .ok (.bipush 7, 2) := by decide +kernel
theorem d_Image_has_4 : decode b_Image_has 4 = .ok (.invokestatic 25, 3) := by decide +kernel
theorem d_Image_has_7 : decode b_Image_has 7 = .ok (.ifCond .eq 19, 3) := by decide +kernel
theorem d_Image_has_10 : decode b_Image_has 10 = .ok (.aload_n 0, 1) := by decide +kernel
theorem d_Image_has_11 : decode b_Image_has 11 = .ok (.getfield 11, 3) := by decide +kernel
theorem d_Image_has_14 : decode b_Image_has 14 = .ok (.iload_n 1, 1) := by decide +kernel
theorem d_Image_has_15 : decode b_Image_has 15 = .ok (.aaload, 1) := by decide +kernel
theorem d_Image_has_16 : decode b_Image_has 16 = .ok (.getfield 29, 3) := by decide +kernel
theorem d_Image_has_19 : decode b_Image_has 19 = .ok (.ifCond .le 7, 3) := by decide +kernel
theorem d_Image_has_22 : decode b_Image_has 22 = .ok (.iconst 1, 1) := by decide +kernel
theorem d_Image_has_23 : decode b_Image_has 23 = .ok (.goto 4, 3) := by decide +kernel
theorem d_Image_has_26 : decode b_Image_has 26 = .ok (.iconst 0, 1) := by decide +kernel
theorem d_Image_has_27 : decode b_Image_has 27 = .ok (.ireturn, 1) := by decide +kernel
abbrev b_Image_size : ByteArray := prog_9_method_3_code
abbrev J_Image_size : MethodName × ByteArray × Nat × Option FieldType := (⟨"FaslDesk$Image", "size", "()I"⟩, b_Image_size, 3, (some .int))
theorem d_Image_size_0 : decode b_Image_size 0 = .ok (.iconst 0, 1) := by decide +kernel
theorem d_Image_size_1 : decode b_Image_size 1 = .ok (.istore_n 1, 1) := by decide +kernel
theorem d_Image_size_2 : decode b_Image_size 2 = .ok (.iconst 0, 1) := by decide +kernel
theorem d_Image_size_3 : decode b_Image_size 3 = .ok (.istore_n 2, 1) := by decide +kernel
theorem d_Image_size_4 : decode b_Image_size 4 = .ok (.iload_n 2, 1) := by decide +kernel
theorem d_Image_size_5 : decode b_Image_size 5 = .ok (.bipush 8, 2) := by decide +kernel
theorem d_Image_size_7 : decode b_Image_size 7 = .ok (.if_icmp .ge 20, 3) := by decide +kernel
theorem d_Image_size_10 : decode b_Image_size 10 = .ok (.aload_n 0, 1) := by decide +kernel
theorem d_Image_size_11 : decode b_Image_size 11 = .ok (.iload_n 2, 1) := by decide +kernel
theorem d_Image_size_12 : decode b_Image_size 12 = .ok (.invokevirtual 33, 3) := by decide +kernel
theorem d_Image_size_15 : decode b_Image_size 15 = .ok (.ifCond .eq 6, 3) := by decide +kernel
theorem d_Image_size_18 : decode b_Image_size 18 = .ok (.iinc 1 1, 3) := by decide +kernel
theorem d_Image_size_21 : decode b_Image_size 21 = .ok (.iinc 2 1, 3) := by decide +kernel
theorem d_Image_size_24 : decode b_Image_size 24 = .ok (.goto (-20), 3) := by decide +kernel
theorem d_Image_size_27 : decode b_Image_size 27 = .ok (.iload_n 1, 1) := by decide +kernel
theorem d_Image_size_28 : decode b_Image_size 28 = .ok (.ireturn, 1) := by decide +kernel
abbrev b_Image_remake : ByteArray := prog_9_method_4_code
abbrev J_Image_remake : MethodName × ByteArray × Nat × Option FieldType := (⟨"FaslDesk$Image", "remake", "(LFaslDesk$Archive;)V"⟩, b_Image_remake, 3, none)
theorem d_Image_remake_0 : decode b_Image_remake 0 = .ok (.iconst 0, 1) := by decide +kernel
theorem d_Image_remake_1 : decode b_Image_remake 1 = .ok (.istore_n 2, 1) := by decide +kernel
theorem d_Image_remake_2 : decode b_Image_remake 2 = .ok (.iload_n 2, 1) := by decide +kernel
theorem d_Image_remake_3 : decode b_Image_remake 3 = .ok (.bipush 8, 2) := by decide +kernel
theorem d_Image_remake_5 : decode b_Image_remake 5 = .ok (.if_icmp .ge 19, 3) := by decide +kernel
theorem d_Image_remake_8 : decode b_Image_remake 8 = .ok (.aload_n 0, 1) := by decide +kernel
theorem d_Image_remake_9 : decode b_Image_remake 9 = .ok (.getfield 11, 3) := by decide +kernel
theorem d_Image_remake_12 : decode b_Image_remake 12 = .ok (.iload_n 2, 1) := by decide +kernel
theorem d_Image_remake_13 : decode b_Image_remake 13 = .ok (.aaload, 1) := by decide +kernel
theorem d_Image_remake_14 : decode b_Image_remake 14 = .ok (.iconst 0, 1) := by decide +kernel
theorem d_Image_remake_15 : decode b_Image_remake 15 = .ok (.putfield 29, 3) := by decide +kernel
theorem d_Image_remake_18 : decode b_Image_remake 18 = .ok (.iinc 2 1, 3) := by decide +kernel
theorem d_Image_remake_21 : decode b_Image_remake 21 = .ok (.goto (-19), 3) := by decide +kernel
theorem d_Image_remake_24 : decode b_Image_remake 24 = .ok (.iconst 0, 1) := by decide +kernel
theorem d_Image_remake_25 : decode b_Image_remake 25 = .ok (.istore_n 2, 1) := by decide +kernel
theorem d_Image_remake_26 : decode b_Image_remake 26 = .ok (.iload_n 2, 1) := by decide +kernel
theorem d_Image_remake_27 : decode b_Image_remake 27 = .ok (.aload_n 1, 1) := by decide +kernel
theorem d_Image_remake_28 : decode b_Image_remake 28 = .ok (.getfield 37, 3) := by decide +kernel
theorem d_Image_remake_31 : decode b_Image_remake 31 = .ok (.if_icmp .ge 35, 3) := by decide +kernel
theorem d_Image_remake_34 : decode b_Image_remake 34 = .ok (.aload_n 0, 1) := by decide +kernel
theorem d_Image_remake_35 : decode b_Image_remake 35 = .ok (.getfield 11, 3) := by decide +kernel
theorem d_Image_remake_38 : decode b_Image_remake 38 = .ok (.aload_n 1, 1) := by decide +kernel
theorem d_Image_remake_39 : decode b_Image_remake 39 = .ok (.getfield 42, 3) := by decide +kernel
theorem d_Image_remake_42 : decode b_Image_remake 42 = .ok (.iload_n 2, 1) := by decide +kernel
theorem d_Image_remake_43 : decode b_Image_remake 43 = .ok (.aaload, 1) := by decide +kernel
theorem d_Image_remake_44 : decode b_Image_remake 44 = .ok (.getfield 46, 3) := by decide +kernel
theorem d_Image_remake_47 : decode b_Image_remake 47 = .ok (.aaload, 1) := by decide +kernel
theorem d_Image_remake_48 : decode b_Image_remake 48 = .ok (.aload_n 1, 1) := by decide +kernel
theorem d_Image_remake_49 : decode b_Image_remake 49 = .ok (.getfield 42, 3) := by decide +kernel
theorem d_Image_remake_52 : decode b_Image_remake 52 = .ok (.iload_n 2, 1) := by decide +kernel
theorem d_Image_remake_53 : decode b_Image_remake 53 = .ok (.aaload, 1) := by decide +kernel
theorem d_Image_remake_54 : decode b_Image_remake 54 = .ok (.getfield 51, 3) := by decide +kernel
theorem d_Image_remake_57 : decode b_Image_remake 57 = .ok (.invokevirtual 55, 3) := by decide +kernel
theorem d_Image_remake_60 : decode b_Image_remake 60 = .ok (.iinc 2 1, 3) := by decide +kernel
theorem d_Image_remake_63 : decode b_Image_remake 63 = .ok (.goto (-37), 3) := by decide +kernel
theorem d_Image_remake_66 : decode b_Image_remake 66 = .ok (.return_, 1) := by decide +kernel
abbrev b_Image_answer : ByteArray := prog_9_method_5_code
abbrev J_Image_answer : MethodName × ByteArray × Nat × Option FieldType := (⟨"FaslDesk$Image", "answer", "(IIII)I"⟩, b_Image_answer, 8, (some .int))
theorem d_Image_answer_0 : decode b_Image_answer 0 = .ok (.aload_n 0, 1) := by decide +kernel
theorem d_Image_answer_1 : decode b_Image_answer 1 = .ok (.getfield 11, 3) := by decide +kernel
theorem d_Image_answer_4 : decode b_Image_answer 4 = .ok (.iload_n 1, 1) := by decide +kernel
theorem d_Image_answer_5 : decode b_Image_answer 5 = .ok (.aaload, 1) := by decide +kernel
theorem d_Image_answer_6 : decode b_Image_answer 6 = .ok (.astore 5, 2) := by decide +kernel
theorem d_Image_answer_8 : decode b_Image_answer 8 = .ok (.aload_n 0, 1) := by decide +kernel
theorem d_Image_answer_9 : decode b_Image_answer 9 = .ok (.getfield 19, 3) := by decide +kernel
theorem d_Image_answer_12 : decode b_Image_answer 12 = .ok (.iload_n 1, 1) := by decide +kernel
theorem d_Image_answer_13 : decode b_Image_answer 13 = .ok (.aaload, 1) := by decide +kernel
theorem d_Image_answer_14 : decode b_Image_answer 14 = .ok (.iconst 3, 1) := by decide +kernel
theorem d_Image_answer_15 : decode b_Image_answer 15 = .ok (.iload_n 2, 1) := by decide +kernel
theorem d_Image_answer_16 : decode b_Image_answer 16 = .ok (.iload_n 3, 1) := by decide +kernel
theorem d_Image_answer_17 : decode b_Image_answer 17 = .ok (.iload 4, 2) := by decide +kernel
theorem d_Image_answer_19 : decode b_Image_answer 19 = .ok (.invokevirtual 59, 3) := by decide +kernel
theorem d_Image_answer_22 : decode b_Image_answer 22 = .ok (.iconst 0, 1) := by decide +kernel
theorem d_Image_answer_23 : decode b_Image_answer 23 = .ok (.istore 6, 2) := by decide +kernel
theorem d_Image_answer_25 : decode b_Image_answer 25 = .ok (.iconst 0, 1) := by decide +kernel
theorem d_Image_answer_26 : decode b_Image_answer 26 = .ok (.istore 7, 2) := by decide +kernel
theorem d_Image_answer_28 : decode b_Image_answer 28 = .ok (.iload 7, 2) := by decide +kernel
theorem d_Image_answer_30 : decode b_Image_answer 30 = .ok (.ldc 63, 2) := by decide +kernel
theorem d_Image_answer_32 : decode b_Image_answer 32 = .ok (.if_icmp .ge 41, 3) := by decide +kernel
theorem d_Image_answer_35 : decode b_Image_answer 35 = .ok (.iload 6, 2) := by decide +kernel
theorem d_Image_answer_37 : decode b_Image_answer 37 = .ok (.aload 5, 2) := by decide +kernel
theorem d_Image_answer_39 : decode b_Image_answer 39 = .ok (.getfield 29, 3) := by decide +kernel
theorem d_Image_answer_42 : decode b_Image_answer 42 = .ok (.if_icmp .ge 31, 3) := by decide +kernel
theorem d_Image_answer_45 : decode b_Image_answer 45 = .ok (.aload 5, 2) := by decide +kernel
theorem d_Image_answer_47 : decode b_Image_answer 47 = .ok (.getfield 64, 3) := by decide +kernel
theorem d_Image_answer_50 : decode b_Image_answer 50 = .ok (.iload 6, 2) := by decide +kernel
theorem d_Image_answer_52 : decode b_Image_answer 52 = .ok (.iaload, 1) := by decide +kernel
theorem d_Image_answer_53 : decode b_Image_answer 53 = .ok (.bipush 17, 2) := by decide +kernel
theorem d_Image_answer_55 : decode b_Image_answer 55 = .ok (.if_icmp .eq 18, 3) := by decide +kernel
theorem d_Image_answer_58 : decode b_Image_answer 58 = .ok (.aload_n 0, 1) := by decide +kernel
theorem d_Image_answer_59 : decode b_Image_answer 59 = .ok (.iload_n 1, 1) := by decide +kernel
theorem d_Image_answer_60 : decode b_Image_answer 60 = .ok (.iload 6, 2) := by decide +kernel
theorem d_Image_answer_62 : decode b_Image_answer 62 = .ok (.invokevirtual 68, 3) := by decide +kernel
theorem d_Image_answer_65 : decode b_Image_answer 65 = .ok (.istore 6, 2) := by decide +kernel
theorem d_Image_answer_67 : decode b_Image_answer 67 = .ok (.iinc 7 1, 3) := by decide +kernel
theorem d_Image_answer_70 : decode b_Image_answer 70 = .ok (.goto (-42), 3) := by decide +kernel
theorem d_Image_answer_73 : decode b_Image_answer 73 = .ok (.aload_n 0, 1) := by decide +kernel
theorem d_Image_answer_74 : decode b_Image_answer 74 = .ok (.getfield 19, 3) := by decide +kernel
theorem d_Image_answer_77 : decode b_Image_answer 77 = .ok (.iload_n 1, 1) := by decide +kernel
theorem d_Image_answer_78 : decode b_Image_answer 78 = .ok (.aaload, 1) := by decide +kernel
theorem d_Image_answer_79 : decode b_Image_answer 79 = .ok (.invokevirtual 72, 3) := by decide +kernel
theorem d_Image_answer_82 : decode b_Image_answer 82 = .ok (.ireturn, 1) := by decide +kernel
abbrev b_Image_perform : ByteArray := prog_9_method_6_code
abbrev J_Image_perform : MethodName × ByteArray × Nat × Option FieldType := (⟨"FaslDesk$Image", "perform", "(II)I"⟩, b_Image_perform, 5, (some .int))
theorem d_Image_perform_0 : decode b_Image_perform 0 = .ok (.aload_n 0, 1) := by decide +kernel
theorem d_Image_perform_1 : decode b_Image_perform 1 = .ok (.getfield 19, 3) := by decide +kernel
theorem d_Image_perform_4 : decode b_Image_perform 4 = .ok (.iload_n 1, 1) := by decide +kernel
theorem d_Image_perform_5 : decode b_Image_perform 5 = .ok (.aaload, 1) := by decide +kernel
theorem d_Image_perform_6 : decode b_Image_perform 6 = .ok (.astore_n 3, 1) := by decide +kernel
theorem d_Image_perform_7 : decode b_Image_perform 7 = .ok (.aload_n 0, 1) := by decide +kernel
theorem d_Image_perform_8 : decode b_Image_perform 8 = .ok (.getfield 11, 3) := by decide +kernel
theorem d_Image_perform_11 : decode b_Image_perform 11 = .ok (.iload_n 1, 1) := by decide +kernel
theorem d_Image_perform_12 : decode b_Image_perform 12 = .ok (.aaload, 1) := by decide +kernel
theorem d_Image_perform_13 : decode b_Image_perform 13 = .ok (.getfield 76, 3) := by decide +kernel
theorem d_Image_perform_16 : decode b_Image_perform 16 = .ok (.iload_n 2, 1) := by decide +kernel
theorem d_Image_perform_17 : decode b_Image_perform 17 = .ok (.iaload, 1) := by decide +kernel
theorem d_Image_perform_18 : decode b_Image_perform 18 = .ok (.istore 4, 2) := by decide +kernel
theorem d_Image_perform_20 : decode b_Image_perform 20 = .ok (.aload_n 0, 1) := by decide +kernel
theorem d_Image_perform_21 : decode b_Image_perform 21 = .ok (.getfield 11, 3) := by decide +kernel
theorem d_Image_perform_24 : decode b_Image_perform 24 = .ok (.iload_n 1, 1) := by decide +kernel
theorem d_Image_perform_25 : decode b_Image_perform 25 = .ok (.aaload, 1) := by decide +kernel
theorem d_Image_perform_26 : decode b_Image_perform 26 = .ok (.getfield 64, 3) := by decide +kernel
theorem d_Image_perform_29 : decode b_Image_perform 29 = .ok (.iload_n 2, 1) := by decide +kernel
theorem d_Image_perform_30 : decode b_Image_perform 30 = .ok (.iaload, 1) := by decide +kernel
theorem d_Image_perform_31 : decode b_Image_perform 31 = .ok (.tableswitch 165 0 16 #[81, 90, 165, 165, 165, 165, 165, 165, 165, 165, 165, 165, 165, 104, 118, 148, 151], 81) := by decide +kernel
theorem d_Image_perform_112 : decode b_Image_perform 112 = .ok (.aload_n 3, 1) := by decide +kernel
theorem d_Image_perform_113 : decode b_Image_perform 113 = .ok (.iload 4, 2) := by decide +kernel
theorem d_Image_perform_115 : decode b_Image_perform 115 = .ok (.invokevirtual 79, 3) := by decide +kernel
theorem d_Image_perform_118 : decode b_Image_perform 118 = .ok (.goto 93, 3) := by decide +kernel
theorem d_Image_perform_121 : decode b_Image_perform 121 = .ok (.aload_n 3, 1) := by decide +kernel
theorem d_Image_perform_122 : decode b_Image_perform 122 = .ok (.aload_n 3, 1) := by decide +kernel
theorem d_Image_perform_123 : decode b_Image_perform 123 = .ok (.getfield 83, 3) := by decide +kernel
theorem d_Image_perform_126 : decode b_Image_perform 126 = .ok (.iload 4, 2) := by decide +kernel
theorem d_Image_perform_128 : decode b_Image_perform 128 = .ok (.iaload, 1) := by decide +kernel
theorem d_Image_perform_129 : decode b_Image_perform 129 = .ok (.invokevirtual 79, 3) := by decide +kernel
theorem d_Image_perform_132 : decode b_Image_perform 132 = .ok (.goto 79, 3) := by decide +kernel
theorem d_Image_perform_135 : decode b_Image_perform 135 = .ok (.aload_n 3, 1) := by decide +kernel
theorem d_Image_perform_136 : decode b_Image_perform 136 = .ok (.getfield 83, 3) := by decide +kernel
theorem d_Image_perform_139 : decode b_Image_perform 139 = .ok (.iload 4, 2) := by decide +kernel
theorem d_Image_perform_141 : decode b_Image_perform 141 = .ok (.aload_n 3, 1) := by decide +kernel
theorem d_Image_perform_142 : decode b_Image_perform 142 = .ok (.invokevirtual 72, 3) := by decide +kernel
theorem d_Image_perform_145 : decode b_Image_perform 145 = .ok (.iastore, 1) := by decide +kernel
theorem d_Image_perform_146 : decode b_Image_perform 146 = .ok (.goto 65, 3) := by decide +kernel
theorem d_Image_perform_149 : decode b_Image_perform 149 = .ok (.iload 4, 2) := by decide +kernel
theorem d_Image_perform_151 : decode b_Image_perform 151 = .ok (.aload_n 3, 1) := by decide +kernel
theorem d_Image_perform_152 : decode b_Image_perform 152 = .ok (.invokevirtual 72, 3) := by decide +kernel
theorem d_Image_perform_155 : decode b_Image_perform 155 = .ok (.invokestatic 86, 3) := by decide +kernel
theorem d_Image_perform_158 : decode b_Image_perform 158 = .ok (.ifCond .eq 9, 3) := by decide +kernel
theorem d_Image_perform_161 : decode b_Image_perform 161 = .ok (.iload_n 2, 1) := by decide +kernel
theorem d_Image_perform_162 : decode b_Image_perform 162 = .ok (.iconst 1, 1) := by decide +kernel
theorem d_Image_perform_163 : decode b_Image_perform 163 = .ok (.iadd, 1) := by decide +kernel
theorem d_Image_perform_164 : decode b_Image_perform 164 = .ok (.goto 14, 3) := by decide +kernel
theorem d_Image_perform_167 : decode b_Image_perform 167 = .ok (.aload_n 0, 1) := by decide +kernel
theorem d_Image_perform_168 : decode b_Image_perform 168 = .ok (.getfield 11, 3) := by decide +kernel
theorem d_Image_perform_171 : decode b_Image_perform 171 = .ok (.iload_n 1, 1) := by decide +kernel
theorem d_Image_perform_172 : decode b_Image_perform 172 = .ok (.aaload, 1) := by decide +kernel
theorem d_Image_perform_173 : decode b_Image_perform 173 = .ok (.getfield 92, 3) := by decide +kernel
theorem d_Image_perform_176 : decode b_Image_perform 176 = .ok (.iload_n 2, 1) := by decide +kernel
theorem d_Image_perform_177 : decode b_Image_perform 177 = .ok (.iaload, 1) := by decide +kernel
theorem d_Image_perform_178 : decode b_Image_perform 178 = .ok (.ireturn, 1) := by decide +kernel
theorem d_Image_perform_179 : decode b_Image_perform 179 = .ok (.iload 4, 2) := by decide +kernel
theorem d_Image_perform_181 : decode b_Image_perform 181 = .ok (.ireturn, 1) := by decide +kernel
theorem d_Image_perform_182 : decode b_Image_perform 182 = .ok (.aload_n 3, 1) := by decide +kernel
theorem d_Image_perform_183 : decode b_Image_perform 183 = .ok (.aload_n 0, 1) := by decide +kernel
theorem d_Image_perform_184 : decode b_Image_perform 184 = .ok (.iload_n 1, 1) := by decide +kernel
theorem d_Image_perform_185 : decode b_Image_perform 185 = .ok (.iload 4, 2) := by decide +kernel
theorem d_Image_perform_187 : decode b_Image_perform 187 = .ok (.invokevirtual 95, 3) := by decide +kernel
theorem d_Image_perform_190 : decode b_Image_perform 190 = .ok (.invokevirtual 79, 3) := by decide +kernel
theorem d_Image_perform_193 : decode b_Image_perform 193 = .ok (.goto 18, 3) := by decide +kernel
theorem d_Image_perform_196 : decode b_Image_perform 196 = .ok (.aload_n 0, 1) := by decide +kernel
theorem d_Image_perform_197 : decode b_Image_perform 197 = .ok (.getfield 11, 3) := by decide +kernel
theorem d_Image_perform_200 : decode b_Image_perform 200 = .ok (.iload_n 1, 1) := by decide +kernel
theorem d_Image_perform_201 : decode b_Image_perform 201 = .ok (.aaload, 1) := by decide +kernel
theorem d_Image_perform_202 : decode b_Image_perform 202 = .ok (.getfield 64, 3) := by decide +kernel
theorem d_Image_perform_205 : decode b_Image_perform 205 = .ok (.iload_n 2, 1) := by decide +kernel
theorem d_Image_perform_206 : decode b_Image_perform 206 = .ok (.iaload, 1) := by decide +kernel
theorem d_Image_perform_207 : decode b_Image_perform 207 = .ok (.aload_n 3, 1) := by decide +kernel
theorem d_Image_perform_208 : decode b_Image_perform 208 = .ok (.invokestatic 98, 3) := by decide +kernel
theorem d_Image_perform_211 : decode b_Image_perform 211 = .ok (.iload_n 2, 1) := by decide +kernel
theorem d_Image_perform_212 : decode b_Image_perform 212 = .ok (.iconst 1, 1) := by decide +kernel
theorem d_Image_perform_213 : decode b_Image_perform 213 = .ok (.iadd, 1) := by decide +kernel
theorem d_Image_perform_214 : decode b_Image_perform 214 = .ok (.ireturn, 1) := by decide +kernel
abbrev b_Image_rework : ByteArray := prog_9_method_7_code
abbrev J_Image_rework : MethodName × ByteArray × Nat × Option FieldType := (⟨"FaslDesk$Image", "rework", "(ILFaslDesk$Frame;)V"⟩, b_Image_rework, 4, none)
theorem d_Image_rework_0 : decode b_Image_rework 0 = .ok (.iload_n 0, 1) := by decide +kernel
theorem d_Image_rework_1 : decode b_Image_rework 1 = .ok (.bipush 21, 2) := by decide +kernel
theorem d_Image_rework_3 : decode b_Image_rework 3 = .ok (.if_icmp .ne 4, 3) := by decide +kernel
theorem d_Image_rework_6 : decode b_Image_rework 6 = .ok (.return_, 1) := by decide +kernel
theorem d_Image_rework_7 : decode b_Image_rework 7 = .ok (.aload_n 1, 1) := by decide +kernel
theorem d_Image_rework_8 : decode b_Image_rework 8 = .ok (.invokevirtual 72, 3) := by decide +kernel
theorem d_Image_rework_11 : decode b_Image_rework 11 = .ok (.istore_n 2, 1) := by decide +kernel
theorem d_Image_rework_12 : decode b_Image_rework 12 = .ok (.iload_n 0, 1) := by decide +kernel
theorem d_Image_rework_13 : decode b_Image_rework 13 = .ok (.tableswitch 94 12 20 #[51, 94, 94, 94, 94, 94, 60, 63, 76], 51) := by decide +kernel
theorem d_Image_rework_64 : decode b_Image_rework 64 = .ok (.aload_n 1, 1) := by decide +kernel
theorem d_Image_rework_65 : decode b_Image_rework 65 = .ok (.iload_n 2, 1) := by decide +kernel
theorem d_Image_rework_66 : decode b_Image_rework 66 = .ok (.ineg, 1) := by decide +kernel
theorem d_Image_rework_67 : decode b_Image_rework 67 = .ok (.invokevirtual 79, 3) := by decide +kernel
theorem d_Image_rework_70 : decode b_Image_rework 70 = .ok (.goto 50, 3) := by decide +kernel
theorem d_Image_rework_73 : decode b_Image_rework 73 = .ok (.goto 47, 3) := by decide +kernel
theorem d_Image_rework_76 : decode b_Image_rework 76 = .ok (.aload_n 1, 1) := by decide +kernel
theorem d_Image_rework_77 : decode b_Image_rework 77 = .ok (.iload_n 2, 1) := by decide +kernel
theorem d_Image_rework_78 : decode b_Image_rework 78 = .ok (.invokevirtual 79, 3) := by decide +kernel
theorem d_Image_rework_81 : decode b_Image_rework 81 = .ok (.aload_n 1, 1) := by decide +kernel
theorem d_Image_rework_82 : decode b_Image_rework 82 = .ok (.iload_n 2, 1) := by decide +kernel
theorem d_Image_rework_83 : decode b_Image_rework 83 = .ok (.invokevirtual 79, 3) := by decide +kernel
theorem d_Image_rework_86 : decode b_Image_rework 86 = .ok (.goto 34, 3) := by decide +kernel
theorem d_Image_rework_89 : decode b_Image_rework 89 = .ok (.aload_n 1, 1) := by decide +kernel
theorem d_Image_rework_90 : decode b_Image_rework 90 = .ok (.invokevirtual 72, 3) := by decide +kernel
theorem d_Image_rework_93 : decode b_Image_rework 93 = .ok (.istore_n 3, 1) := by decide +kernel
theorem d_Image_rework_94 : decode b_Image_rework 94 = .ok (.aload_n 1, 1) := by decide +kernel
theorem d_Image_rework_95 : decode b_Image_rework 95 = .ok (.iload_n 2, 1) := by decide +kernel
theorem d_Image_rework_96 : decode b_Image_rework 96 = .ok (.invokevirtual 79, 3) := by decide +kernel
theorem d_Image_rework_99 : decode b_Image_rework 99 = .ok (.aload_n 1, 1) := by decide +kernel
theorem d_Image_rework_100 : decode b_Image_rework 100 = .ok (.iload_n 3, 1) := by decide +kernel
theorem d_Image_rework_101 : decode b_Image_rework 101 = .ok (.invokevirtual 79, 3) := by decide +kernel
theorem d_Image_rework_104 : decode b_Image_rework 104 = .ok (.goto 16, 3) := by decide +kernel
theorem d_Image_rework_107 : decode b_Image_rework 107 = .ok (.aload_n 1, 1) := by decide +kernel
theorem d_Image_rework_108 : decode b_Image_rework 108 = .ok (.iload_n 0, 1) := by decide +kernel
theorem d_Image_rework_109 : decode b_Image_rework 109 = .ok (.aload_n 1, 1) := by decide +kernel
theorem d_Image_rework_110 : decode b_Image_rework 110 = .ok (.invokevirtual 72, 3) := by decide +kernel
theorem d_Image_rework_113 : decode b_Image_rework 113 = .ok (.iload_n 2, 1) := by decide +kernel
theorem d_Image_rework_114 : decode b_Image_rework 114 = .ok (.invokestatic 102, 3) := by decide +kernel
theorem d_Image_rework_117 : decode b_Image_rework 117 = .ok (.invokevirtual 79, 3) := by decide +kernel
theorem d_Image_rework_120 : decode b_Image_rework 120 = .ok (.return_, 1) := by decide +kernel
abbrev b_Image_answerOfLower : ByteArray := prog_9_method_8_code
abbrev J_Image_answerOfLower : MethodName × ByteArray × Nat × Option FieldType := (⟨"FaslDesk$Image", "answerOfLower", "(II)I"⟩, b_Image_answerOfLower, 7, (some .int))
theorem d_Image_answerOfLower_0 : decode b_Image_answerOfLower 0 = .ok (.aload_n 0, 1) := by decide +kernel
theorem d_Image_answerOfLower_1 : decode b_Image_answerOfLower 1 = .ok (.getfield 19, 3) := by decide +kernel
theorem d_Image_answerOfLower_4 : decode b_Image_answerOfLower 4 = .ok (.iload_n 1, 1) := by decide +kernel
theorem d_Image_answerOfLower_5 : decode b_Image_answerOfLower 5 = .ok (.aaload, 1) := by decide +kernel
theorem d_Image_answerOfLower_6 : decode b_Image_answerOfLower 6 = .ok (.astore_n 3, 1) := by decide +kernel
theorem d_Image_answerOfLower_7 : decode b_Image_answerOfLower 7 = .ok (.aload_n 3, 1) := by decide +kernel
theorem d_Image_answerOfLower_8 : decode b_Image_answerOfLower 8 = .ok (.invokevirtual 72, 3) := by decide +kernel
theorem d_Image_answerOfLower_11 : decode b_Image_answerOfLower 11 = .ok (.istore 4, 2) := by decide +kernel
theorem d_Image_answerOfLower_13 : decode b_Image_answerOfLower 13 = .ok (.aload_n 3, 1) := by decide +kernel
theorem d_Image_answerOfLower_14 : decode b_Image_answerOfLower 14 = .ok (.invokevirtual 72, 3) := by decide +kernel
theorem d_Image_answerOfLower_17 : decode b_Image_answerOfLower 17 = .ok (.istore 5, 2) := by decide +kernel
theorem d_Image_answerOfLower_19 : decode b_Image_answerOfLower 19 = .ok (.aload_n 3, 1) := by decide +kernel
theorem d_Image_answerOfLower_20 : decode b_Image_answerOfLower 20 = .ok (.invokevirtual 72, 3) := by decide +kernel
theorem d_Image_answerOfLower_23 : decode b_Image_answerOfLower 23 = .ok (.istore 6, 2) := by decide +kernel
theorem d_Image_answerOfLower_25 : decode b_Image_answerOfLower 25 = .ok (.iload_n 2, 1) := by decide +kernel
theorem d_Image_answerOfLower_26 : decode b_Image_answerOfLower 26 = .ok (.iload_n 1, 1) := by decide +kernel
theorem d_Image_answerOfLower_27 : decode b_Image_answerOfLower 27 = .ok (.if_icmp .ge 11, 3) := by decide +kernel
theorem d_Image_answerOfLower_30 : decode b_Image_answerOfLower 30 = .ok (.aload_n 0, 1) := by decide +kernel
theorem d_Image_answerOfLower_31 : decode b_Image_answerOfLower 31 = .ok (.iload_n 2, 1) := by decide +kernel
theorem d_Image_answerOfLower_32 : decode b_Image_answerOfLower 32 = .ok (.invokevirtual 33, 3) := by decide +kernel
theorem d_Image_answerOfLower_35 : decode b_Image_answerOfLower 35 = .ok (.ifCond .ne 13, 3) := by decide +kernel
theorem d_Image_answerOfLower_38 : decode b_Image_answerOfLower 38 = .ok (.new 106, 3) := by decide +kernel
theorem d_Image_answerOfLower_41 : decode b_Image_answerOfLower 41 = .ok (.dup, 1) := by decide +kernel
theorem d_Image_answerOfLower_42 : decode b_Image_answerOfLower 42 = .ok (.ldc 108, 2) := by decide +kernel
theorem d_Image_answerOfLower_44 : decode b_Image_answerOfLower 44 = .ok (.invokespecial 110, 3) := by decide +kernel
theorem d_Image_answerOfLower_47 : decode b_Image_answerOfLower 47 = .ok (.athrow, 1) := by decide +kernel
theorem d_Image_answerOfLower_48 : decode b_Image_answerOfLower 48 = .ok (.aload_n 0, 1) := by decide +kernel
theorem d_Image_answerOfLower_49 : decode b_Image_answerOfLower 49 = .ok (.iload_n 2, 1) := by decide +kernel
theorem d_Image_answerOfLower_50 : decode b_Image_answerOfLower 50 = .ok (.iload 6, 2) := by decide +kernel
theorem d_Image_answerOfLower_52 : decode b_Image_answerOfLower 52 = .ok (.iload 5, 2) := by decide +kernel
theorem d_Image_answerOfLower_54 : decode b_Image_answerOfLower 54 = .ok (.iload 4, 2) := by decide +kernel
theorem d_Image_answerOfLower_56 : decode b_Image_answerOfLower 56 = .ok (.invokevirtual 113, 3) := by decide +kernel
theorem d_Image_answerOfLower_59 : decode b_Image_answerOfLower 59 = .ok (.ireturn, 1) := by decide +kernel
abbrev b_Interp_init : ByteArray := prog_10_method_1_code
abbrev J_Interp_init : MethodName × ByteArray × Nat × Option FieldType := (⟨"FaslDesk$Interpreter", "<init>", "()V"⟩, b_Interp_init, 2, none)
theorem d_Interp_init_0 : decode b_Interp_init 0 = .ok (.aload_n 0, 1) := by decide +kernel
theorem d_Interp_init_1 : decode b_Interp_init 1 = .ok (.invokespecial 3, 3) := by decide +kernel
theorem d_Interp_init_4 : decode b_Interp_init 4 = .ok (.aload_n 0, 1) := by decide +kernel
theorem d_Interp_init_5 : decode b_Interp_init 5 = .ok (.bipush 8, 2) := by decide +kernel
theorem d_Interp_init_7 : decode b_Interp_init 7 = .ok (.anewarray 9, 3) := by decide +kernel
theorem d_Interp_init_10 : decode b_Interp_init 10 = .ok (.putfield 11, 3) := by decide +kernel
theorem d_Interp_init_13 : decode b_Interp_init 13 = .ok (.aload_n 0, 1) := by decide +kernel
theorem d_Interp_init_14 : decode b_Interp_init 14 = .ok (.bipush 8, 2) := by decide +kernel
theorem d_Interp_init_16 : decode b_Interp_init 16 = .ok (.anewarray 17, 3) := by decide +kernel
theorem d_Interp_init_19 : decode b_Interp_init 19 = .ok (.putfield 19, 3) := by decide +kernel
theorem d_Interp_init_22 : decode b_Interp_init 22 = .ok (.aload_n 0, 1) := by decide +kernel
theorem d_Interp_init_23 : decode b_Interp_init 23 = .ok (.bipush 8, 2) := by decide +kernel
theorem d_Interp_init_25 : decode b_Interp_init 25 = .ok (.anewarray 23, 3) := by decide +kernel
theorem d_Interp_init_28 : decode b_Interp_init 28 = .ok (.putfield 25, 3) := by decide +kernel
theorem d_Interp_init_31 : decode b_Interp_init 31 = .ok (.iconst 0, 1) := by decide +kernel
theorem d_Interp_init_32 : decode b_Interp_init 32 = .ok (.istore_n 1, 1) := by decide +kernel
theorem d_Interp_init_33 : decode b_Interp_init 33 = .ok (.iload_n 1, 1) := by decide +kernel
theorem d_Interp_init_34 : decode b_Interp_init 34 = .ok (.bipush 8, 2) := by decide +kernel
theorem d_Interp_init_36 : decode b_Interp_init 36 = .ok (.if_icmp .ge 48, 3) := by decide +kernel
theorem d_Interp_init_39 : decode b_Interp_init 39 = .ok (.aload_n 0, 1) := by decide +kernel
theorem d_Interp_init_40 : decode b_Interp_init 40 = .ok (.getfield 11, 3) := by decide +kernel
theorem d_Interp_init_43 : decode b_Interp_init 43 = .ok (.iload_n 1, 1) := by decide +kernel
theorem d_Interp_init_44 : decode b_Interp_init 44 = .ok (.new 9, 3) := by decide +kernel
theorem d_Interp_init_47 : decode b_Interp_init 47 = .ok (.dup, 1) := by decide +kernel
theorem d_Interp_init_48 : decode b_Interp_init 48 = .ok (.invokespecial 29, 3) := by decide +kernel
theorem d_Interp_init_51 : decode b_Interp_init 51 = .ok (.aastore, 1) := by decide +kernel
theorem d_Interp_init_52 : decode b_Interp_init 52 = .ok (.aload_n 0, 1) := by decide +kernel
theorem d_Interp_init_53 : decode b_Interp_init 53 = .ok (.getfield 19, 3) := by decide +kernel
theorem d_Interp_init_56 : decode b_Interp_init 56 = .ok (.iload_n 1, 1) := by decide +kernel
theorem d_Interp_init_57 : decode b_Interp_init 57 = .ok (.new 17, 3) := by decide +kernel
theorem d_Interp_init_60 : decode b_Interp_init 60 = .ok (.dup, 1) := by decide +kernel
theorem d_Interp_init_61 : decode b_Interp_init 61 = .ok (.invokespecial 30, 3) := by decide +kernel
theorem d_Interp_init_64 : decode b_Interp_init 64 = .ok (.aastore, 1) := by decide +kernel
theorem d_Interp_init_65 : decode b_Interp_init 65 = .ok (.aload_n 0, 1) := by decide +kernel
theorem d_Interp_init_66 : decode b_Interp_init 66 = .ok (.getfield 25, 3) := by decide +kernel
theorem d_Interp_init_69 : decode b_Interp_init 69 = .ok (.iload_n 1, 1) := by decide +kernel
theorem d_Interp_init_70 : decode b_Interp_init 70 = .ok (.new 23, 3) := by decide +kernel
theorem d_Interp_init_73 : decode b_Interp_init 73 = .ok (.dup, 1) := by decide +kernel
theorem d_Interp_init_74 : decode b_Interp_init 74 = .ok (.invokespecial 31, 3) := by decide +kernel
theorem d_Interp_init_77 : decode b_Interp_init 77 = .ok (.aastore, 1) := by decide +kernel
theorem d_Interp_init_78 : decode b_Interp_init 78 = .ok (.iinc 1 1, 3) := by decide +kernel
theorem d_Interp_init_81 : decode b_Interp_init 81 = .ok (.goto (-48), 3) := by decide +kernel
theorem d_Interp_init_84 : decode b_Interp_init 84 = .ok (.return_, 1) := by decide +kernel
abbrev b_Interp_has : ByteArray := prog_10_method_2_code
abbrev J_Interp_has : MethodName × ByteArray × Nat × Option FieldType := (⟨"FaslDesk$Interpreter", "has", "(I)Z"⟩, b_Interp_has, 2, (some .boolean))
theorem d_Interp_has_0 : decode b_Interp_has 0 = .ok (.iload_n 1, 1) := by decide +kernel
theorem d_Interp_has_1 : decode b_Interp_has 1 = .ok (.iconst 0, 1) := by decide +kernel
theorem d_Interp_has_2 : decode b_Interp_has 2 = .ok (.bipush 7, 2) := by decide +kernel
theorem d_Interp_has_4 : decode b_Interp_has 4 = .ok (.invokestatic 32, 3) := by decide +kernel
theorem d_Interp_has_7 : decode b_Interp_has 7 = .ok (.ifCond .eq 19, 3) := by decide +kernel
theorem d_Interp_has_10 : decode b_Interp_has 10 = .ok (.aload_n 0, 1) := by decide +kernel
theorem d_Interp_has_11 : decode b_Interp_has 11 = .ok (.getfield 11, 3) := by decide +kernel
theorem d_Interp_has_14 : decode b_Interp_has 14 = .ok (.iload_n 1, 1) := by decide +kernel
theorem d_Interp_has_15 : decode b_Interp_has 15 = .ok (.aaload, 1) := by decide +kernel
theorem d_Interp_has_16 : decode b_Interp_has 16 = .ok (.getfield 36, 3) := by decide +kernel
theorem d_Interp_has_19 : decode b_Interp_has 19 = .ok (.ifCond .le 7, 3) := by decide +kernel
theorem d_Interp_has_22 : decode b_Interp_has 22 = .ok (.iconst 1, 1) := by decide +kernel
theorem d_Interp_has_23 : decode b_Interp_has 23 = .ok (.goto 4, 3) := by decide +kernel
theorem d_Interp_has_26 : decode b_Interp_has 26 = .ok (.iconst 0, 1) := by decide +kernel
theorem d_Interp_has_27 : decode b_Interp_has 27 = .ok (.ireturn, 1) := by decide +kernel
abbrev b_Interp_size : ByteArray := prog_10_method_3_code
abbrev J_Interp_size : MethodName × ByteArray × Nat × Option FieldType := (⟨"FaslDesk$Interpreter", "size", "()I"⟩, b_Interp_size, 3, (some .int))
theorem d_Interp_size_0 : decode b_Interp_size 0 = .ok (.iconst 0, 1) := by decide +kernel
theorem d_Interp_size_1 : decode b_Interp_size 1 = .ok (.istore_n 1, 1) := by decide +kernel
theorem d_Interp_size_2 : decode b_Interp_size 2 = .ok (.iconst 0, 1) := by decide +kernel
theorem d_Interp_size_3 : decode b_Interp_size 3 = .ok (.istore_n 2, 1) := by decide +kernel
theorem d_Interp_size_4 : decode b_Interp_size 4 = .ok (.iload_n 2, 1) := by decide +kernel
theorem d_Interp_size_5 : decode b_Interp_size 5 = .ok (.bipush 8, 2) := by decide +kernel
theorem d_Interp_size_7 : decode b_Interp_size 7 = .ok (.if_icmp .ge 20, 3) := by decide +kernel
theorem d_Interp_size_10 : decode b_Interp_size 10 = .ok (.aload_n 0, 1) := by decide +kernel
theorem d_Interp_size_11 : decode b_Interp_size 11 = .ok (.iload_n 2, 1) := by decide +kernel
theorem d_Interp_size_12 : decode b_Interp_size 12 = .ok (.invokevirtual 40, 3) := by decide +kernel
theorem d_Interp_size_15 : decode b_Interp_size 15 = .ok (.ifCond .eq 6, 3) := by decide +kernel
theorem d_Interp_size_18 : decode b_Interp_size 18 = .ok (.iinc 1 1, 3) := by decide +kernel
theorem d_Interp_size_21 : decode b_Interp_size 21 = .ok (.iinc 2 1, 3) := by decide +kernel
theorem d_Interp_size_24 : decode b_Interp_size 24 = .ok (.goto (-20), 3) := by decide +kernel
theorem d_Interp_size_27 : decode b_Interp_size 27 = .ok (.iload_n 1, 1) := by decide +kernel
theorem d_Interp_size_28 : decode b_Interp_size 28 = .ok (.ireturn, 1) := by decide +kernel
abbrev b_Interp_answer : ByteArray := prog_10_method_4_code
abbrev J_Interp_answer : MethodName × ByteArray × Nat × Option FieldType := (⟨"FaslDesk$Interpreter", "answer", "(IIII)I"⟩, b_Interp_answer, 6, (some .int))
theorem d_Interp_answer_0 : decode b_Interp_answer 0 = .ok (.aload_n 0, 1) := by decide +kernel
theorem d_Interp_answer_1 : decode b_Interp_answer 1 = .ok (.iload_n 1, 1) := by decide +kernel
theorem d_Interp_answer_2 : decode b_Interp_answer 2 = .ok (.invokevirtual 40, 3) := by decide +kernel
theorem d_Interp_answer_5 : decode b_Interp_answer 5 = .ok (.ifCond .ne 13, 3) := by decide +kernel
theorem d_Interp_answer_8 : decode b_Interp_answer 8 = .ok (.new 44, 3) := by decide +kernel
theorem d_Interp_answer_11 : decode b_Interp_answer 11 = .ok (.dup, 1) := by decide +kernel
theorem d_Interp_answer_12 : decode b_Interp_answer 12 = .ok (.ldc 46, 2) := by decide +kernel
theorem d_Interp_answer_14 : decode b_Interp_answer 14 = .ok (.invokespecial 48, 3) := by decide +kernel
theorem d_Interp_answer_17 : decode b_Interp_answer 17 = .ok (.athrow, 1) := by decide +kernel
theorem d_Interp_answer_18 : decode b_Interp_answer 18 = .ok (.aload_n 0, 1) := by decide +kernel
theorem d_Interp_answer_19 : decode b_Interp_answer 19 = .ok (.getfield 19, 3) := by decide +kernel
theorem d_Interp_answer_22 : decode b_Interp_answer 22 = .ok (.iload_n 1, 1) := by decide +kernel
theorem d_Interp_answer_23 : decode b_Interp_answer 23 = .ok (.aaload, 1) := by decide +kernel
theorem d_Interp_answer_24 : decode b_Interp_answer 24 = .ok (.aload_n 0, 1) := by decide +kernel
theorem d_Interp_answer_25 : decode b_Interp_answer 25 = .ok (.getfield 11, 3) := by decide +kernel
theorem d_Interp_answer_28 : decode b_Interp_answer 28 = .ok (.iload_n 1, 1) := by decide +kernel
theorem d_Interp_answer_29 : decode b_Interp_answer 29 = .ok (.aaload, 1) := by decide +kernel
theorem d_Interp_answer_30 : decode b_Interp_answer 30 = .ok (.getfield 51, 3) := by decide +kernel
theorem d_Interp_answer_33 : decode b_Interp_answer 33 = .ok (.iload_n 2, 1) := by decide +kernel
theorem d_Interp_answer_34 : decode b_Interp_answer 34 = .ok (.iload_n 3, 1) := by decide +kernel
theorem d_Interp_answer_35 : decode b_Interp_answer 35 = .ok (.iload 4, 2) := by decide +kernel
theorem d_Interp_answer_37 : decode b_Interp_answer 37 = .ok (.invokevirtual 54, 3) := by decide +kernel
theorem d_Interp_answer_40 : decode b_Interp_answer 40 = .ok (.aload_n 0, 1) := by decide +kernel
theorem d_Interp_answer_41 : decode b_Interp_answer 41 = .ok (.getfield 25, 3) := by decide +kernel
theorem d_Interp_answer_44 : decode b_Interp_answer 44 = .ok (.iload_n 1, 1) := by decide +kernel
theorem d_Interp_answer_45 : decode b_Interp_answer 45 = .ok (.aaload, 1) := by decide +kernel
theorem d_Interp_answer_46 : decode b_Interp_answer 46 = .ok (.invokevirtual 58, 3) := by decide +kernel
theorem d_Interp_answer_49 : decode b_Interp_answer 49 = .ok (.iconst 0, 1) := by decide +kernel
theorem d_Interp_answer_50 : decode b_Interp_answer 50 = .ok (.istore 5, 2) := by decide +kernel
theorem d_Interp_answer_52 : decode b_Interp_answer 52 = .ok (.iload 5, 2) := by decide +kernel
theorem d_Interp_answer_54 : decode b_Interp_answer 54 = .ok (.ldc 60, 2) := by decide +kernel
theorem d_Interp_answer_56 : decode b_Interp_answer 56 = .ok (.if_icmp .ge 26, 3) := by decide +kernel
theorem d_Interp_answer_59 : decode b_Interp_answer 59 = .ok (.aload_n 0, 1) := by decide +kernel
theorem d_Interp_answer_60 : decode b_Interp_answer 60 = .ok (.getfield 25, 3) := by decide +kernel
theorem d_Interp_answer_63 : decode b_Interp_answer 63 = .ok (.iload_n 1, 1) := by decide +kernel
theorem d_Interp_answer_64 : decode b_Interp_answer 64 = .ok (.aaload, 1) := by decide +kernel
theorem d_Interp_answer_65 : decode b_Interp_answer 65 = .ok (.invokevirtual 61, 3) := by decide +kernel
theorem d_Interp_answer_68 : decode b_Interp_answer 68 = .ok (.ifCond .ne 14, 3) := by decide +kernel
theorem d_Interp_answer_71 : decode b_Interp_answer 71 = .ok (.aload_n 0, 1) := by decide +kernel
theorem d_Interp_answer_72 : decode b_Interp_answer 72 = .ok (.iload_n 1, 1) := by decide +kernel
theorem d_Interp_answer_73 : decode b_Interp_answer 73 = .ok (.invokevirtual 65, 3) := by decide +kernel
theorem d_Interp_answer_76 : decode b_Interp_answer 76 = .ok (.iinc 5 1, 3) := by decide +kernel
theorem d_Interp_answer_79 : decode b_Interp_answer 79 = .ok (.goto (-27), 3) := by decide +kernel
theorem d_Interp_answer_82 : decode b_Interp_answer 82 = .ok (.aload_n 0, 1) := by decide +kernel
theorem d_Interp_answer_83 : decode b_Interp_answer 83 = .ok (.getfield 19, 3) := by decide +kernel
theorem d_Interp_answer_86 : decode b_Interp_answer 86 = .ok (.iload_n 1, 1) := by decide +kernel
theorem d_Interp_answer_87 : decode b_Interp_answer 87 = .ok (.aaload, 1) := by decide +kernel
theorem d_Interp_answer_88 : decode b_Interp_answer 88 = .ok (.invokevirtual 69, 3) := by decide +kernel
theorem d_Interp_answer_91 : decode b_Interp_answer 91 = .ok (.ireturn, 1) := by decide +kernel
abbrev b_Interp_advance : ByteArray := prog_10_method_5_code
abbrev J_Interp_advance : MethodName × ByteArray × Nat × Option FieldType := (⟨"FaslDesk$Interpreter", "advance", "(I)V"⟩, b_Interp_advance, 6, none)
theorem d_Interp_advance_0 : decode b_Interp_advance 0 = .ok (.aload_n 0, 1) := by decide +kernel
theorem d_Interp_advance_1 : decode b_Interp_advance 1 = .ok (.getfield 11, 3) := by decide +kernel
theorem d_Interp_advance_4 : decode b_Interp_advance 4 = .ok (.iload_n 1, 1) := by decide +kernel
theorem d_Interp_advance_5 : decode b_Interp_advance 5 = .ok (.aaload, 1) := by decide +kernel
theorem d_Interp_advance_6 : decode b_Interp_advance 6 = .ok (.astore_n 2, 1) := by decide +kernel
theorem d_Interp_advance_7 : decode b_Interp_advance 7 = .ok (.aload_n 0, 1) := by decide +kernel
theorem d_Interp_advance_8 : decode b_Interp_advance 8 = .ok (.getfield 25, 3) := by decide +kernel
theorem d_Interp_advance_11 : decode b_Interp_advance 11 = .ok (.iload_n 1, 1) := by decide +kernel
theorem d_Interp_advance_12 : decode b_Interp_advance 12 = .ok (.aaload, 1) := by decide +kernel
theorem d_Interp_advance_13 : decode b_Interp_advance 13 = .ok (.invokevirtual 73, 3) := by decide +kernel
theorem d_Interp_advance_16 : decode b_Interp_advance 16 = .ok (.istore_n 3, 1) := by decide +kernel
theorem d_Interp_advance_17 : decode b_Interp_advance 17 = .ok (.aload_n 0, 1) := by decide +kernel
theorem d_Interp_advance_18 : decode b_Interp_advance 18 = .ok (.getfield 25, 3) := by decide +kernel
theorem d_Interp_advance_21 : decode b_Interp_advance 21 = .ok (.iload_n 1, 1) := by decide +kernel
theorem d_Interp_advance_22 : decode b_Interp_advance 22 = .ok (.aaload, 1) := by decide +kernel
theorem d_Interp_advance_23 : decode b_Interp_advance 23 = .ok (.invokevirtual 76, 3) := by decide +kernel
theorem d_Interp_advance_26 : decode b_Interp_advance 26 = .ok (.istore 4, 2) := by decide +kernel
theorem d_Interp_advance_28 : decode b_Interp_advance 28 = .ok (.aload_n 2, 1) := by decide +kernel
theorem d_Interp_advance_29 : decode b_Interp_advance 29 = .ok (.getfield 79, 3) := by decide +kernel
theorem d_Interp_advance_32 : decode b_Interp_advance 32 = .ok (.iload_n 3, 1) := by decide +kernel
theorem d_Interp_advance_33 : decode b_Interp_advance 33 = .ok (.iaload, 1) := by decide +kernel
theorem d_Interp_advance_34 : decode b_Interp_advance 34 = .ok (.istore 5, 2) := by decide +kernel
theorem d_Interp_advance_36 : decode b_Interp_advance 36 = .ok (.iload 5, 2) := by decide +kernel
theorem d_Interp_advance_38 : decode b_Interp_advance 38 = .ok (.bipush 13, 2) := by decide +kernel
theorem d_Interp_advance_40 : decode b_Interp_advance 40 = .ok (.if_icmp .ne 18, 3) := by decide +kernel
theorem d_Interp_advance_43 : decode b_Interp_advance 43 = .ok (.iload 4, 2) := by decide +kernel
theorem d_Interp_advance_45 : decode b_Interp_advance 45 = .ok (.iconst 1, 1) := by decide +kernel
theorem d_Interp_advance_46 : decode b_Interp_advance 46 = .ok (.if_icmp .ne 12, 3) := by decide +kernel
theorem d_Interp_advance_49 : decode b_Interp_advance 49 = .ok (.aload_n 0, 1) := by decide +kernel
theorem d_Interp_advance_50 : decode b_Interp_advance 50 = .ok (.iload_n 1, 1) := by decide +kernel
theorem d_Interp_advance_51 : decode b_Interp_advance 51 = .ok (.iload_n 3, 1) := by decide +kernel
theorem d_Interp_advance_52 : decode b_Interp_advance 52 = .ok (.invokevirtual 83, 3) := by decide +kernel
theorem d_Interp_advance_55 : decode b_Interp_advance 55 = .ok (.goto 143, 3) := by decide +kernel
theorem d_Interp_advance_58 : decode b_Interp_advance 58 = .ok (.iload 5, 2) := by decide +kernel
theorem d_Interp_advance_60 : decode b_Interp_advance 60 = .ok (.bipush 14, 2) := by decide +kernel
theorem d_Interp_advance_62 : decode b_Interp_advance 62 = .ok (.if_icmp .ne 52, 3) := by decide +kernel
theorem d_Interp_advance_65 : decode b_Interp_advance 65 = .ok (.iload 4, 2) := by decide +kernel
theorem d_Interp_advance_67 : decode b_Interp_advance 67 = .ok (.iconst 1, 1) := by decide +kernel
theorem d_Interp_advance_68 : decode b_Interp_advance 68 = .ok (.if_icmp .ne 46, 3) := by decide +kernel
theorem d_Interp_advance_71 : decode b_Interp_advance 71 = .ok (.aload_n 0, 1) := by decide +kernel
theorem d_Interp_advance_72 : decode b_Interp_advance 72 = .ok (.getfield 19, 3) := by decide +kernel
theorem d_Interp_advance_75 : decode b_Interp_advance 75 = .ok (.iload_n 1, 1) := by decide +kernel
theorem d_Interp_advance_76 : decode b_Interp_advance 76 = .ok (.aaload, 1) := by decide +kernel
theorem d_Interp_advance_77 : decode b_Interp_advance 77 = .ok (.getfield 87, 3) := by decide +kernel
theorem d_Interp_advance_80 : decode b_Interp_advance 80 = .ok (.aload_n 2, 1) := by decide +kernel
theorem d_Interp_advance_81 : decode b_Interp_advance 81 = .ok (.getfield 90, 3) := by decide +kernel
theorem d_Interp_advance_84 : decode b_Interp_advance 84 = .ok (.iload_n 3, 1) := by decide +kernel
theorem d_Interp_advance_85 : decode b_Interp_advance 85 = .ok (.iaload, 1) := by decide +kernel
theorem d_Interp_advance_86 : decode b_Interp_advance 86 = .ok (.aload_n 0, 1) := by decide +kernel
theorem d_Interp_advance_87 : decode b_Interp_advance 87 = .ok (.getfield 19, 3) := by decide +kernel
theorem d_Interp_advance_90 : decode b_Interp_advance 90 = .ok (.iload_n 1, 1) := by decide +kernel
theorem d_Interp_advance_91 : decode b_Interp_advance 91 = .ok (.aaload, 1) := by decide +kernel
theorem d_Interp_advance_92 : decode b_Interp_advance 92 = .ok (.invokevirtual 69, 3) := by decide +kernel
theorem d_Interp_advance_95 : decode b_Interp_advance 95 = .ok (.iastore, 1) := by decide +kernel
theorem d_Interp_advance_96 : decode b_Interp_advance 96 = .ok (.aload_n 0, 1) := by decide +kernel
theorem d_Interp_advance_97 : decode b_Interp_advance 97 = .ok (.getfield 25, 3) := by decide +kernel
theorem d_Interp_advance_100 : decode b_Interp_advance 100 = .ok (.iload_n 1, 1) := by decide +kernel
theorem d_Interp_advance_101 : decode b_Interp_advance 101 = .ok (.aaload, 1) := by decide +kernel
theorem d_Interp_advance_102 : decode b_Interp_advance 102 = .ok (.aload_n 2, 1) := by decide +kernel
theorem d_Interp_advance_103 : decode b_Interp_advance 103 = .ok (.iload_n 3, 1) := by decide +kernel
theorem d_Interp_advance_104 : decode b_Interp_advance 104 = .ok (.iconst 1, 1) := by decide +kernel
theorem d_Interp_advance_105 : decode b_Interp_advance 105 = .ok (.invokevirtual 93, 3) := by decide +kernel
theorem d_Interp_advance_108 : decode b_Interp_advance 108 = .ok (.invokevirtual 97, 3) := by decide +kernel
theorem d_Interp_advance_111 : decode b_Interp_advance 111 = .ok (.goto 87, 3) := by decide +kernel
theorem d_Interp_advance_114 : decode b_Interp_advance 114 = .ok (.iload 5, 2) := by decide +kernel
theorem d_Interp_advance_116 : decode b_Interp_advance 116 = .ok (.bipush 16, 2) := by decide +kernel
theorem d_Interp_advance_118 : decode b_Interp_advance 118 = .ok (.if_icmp .ne 28, 3) := by decide +kernel
theorem d_Interp_advance_121 : decode b_Interp_advance 121 = .ok (.iload 4, 2) := by decide +kernel
theorem d_Interp_advance_123 : decode b_Interp_advance 123 = .ok (.ifCond .le 23, 3) := by decide +kernel
theorem d_Interp_advance_126 : decode b_Interp_advance 126 = .ok (.aload_n 0, 1) := by decide +kernel
theorem d_Interp_advance_127 : decode b_Interp_advance 127 = .ok (.iload_n 1, 1) := by decide +kernel
theorem d_Interp_advance_128 : decode b_Interp_advance 128 = .ok (.iload_n 3, 1) := by decide +kernel
theorem d_Interp_advance_129 : decode b_Interp_advance 129 = .ok (.iload 4, 2) := by decide +kernel
theorem d_Interp_advance_131 : decode b_Interp_advance 131 = .ok (.iconst 1, 1) := by decide +kernel
theorem d_Interp_advance_132 : decode b_Interp_advance 132 = .ok (.if_icmp .ne 7, 3) := by decide +kernel
theorem d_Interp_advance_135 : decode b_Interp_advance 135 = .ok (.iconst 1, 1) := by decide +kernel
theorem d_Interp_advance_136 : decode b_Interp_advance 136 = .ok (.goto 4, 3) := by decide +kernel
theorem d_Interp_advance_139 : decode b_Interp_advance 139 = .ok (.iconst 0, 1) := by decide +kernel
theorem d_Interp_advance_140 : decode b_Interp_advance 140 = .ok (.invokevirtual 100, 3) := by decide +kernel
theorem d_Interp_advance_143 : decode b_Interp_advance 143 = .ok (.goto 55, 3) := by decide +kernel
theorem d_Interp_advance_146 : decode b_Interp_advance 146 = .ok (.iload 4, 2) := by decide +kernel
theorem d_Interp_advance_148 : decode b_Interp_advance 148 = .ok (.getstatic 104, 3) := by decide +kernel
theorem d_Interp_advance_151 : decode b_Interp_advance 151 = .ok (.iload 5, 2) := by decide +kernel
theorem d_Interp_advance_153 : decode b_Interp_advance 153 = .ok (.iaload, 1) := by decide +kernel
theorem d_Interp_advance_154 : decode b_Interp_advance 154 = .ok (.if_icmp .ge 22, 3) := by decide +kernel
theorem d_Interp_advance_157 : decode b_Interp_advance 157 = .ok (.aload_n 0, 1) := by decide +kernel
theorem d_Interp_advance_158 : decode b_Interp_advance 158 = .ok (.getfield 25, 3) := by decide +kernel
theorem d_Interp_advance_161 : decode b_Interp_advance 161 = .ok (.iload_n 1, 1) := by decide +kernel
theorem d_Interp_advance_162 : decode b_Interp_advance 162 = .ok (.aaload, 1) := by decide +kernel
theorem d_Interp_advance_163 : decode b_Interp_advance 163 = .ok (.aload_n 2, 1) := by decide +kernel
theorem d_Interp_advance_164 : decode b_Interp_advance 164 = .ok (.iload_n 3, 1) := by decide +kernel
theorem d_Interp_advance_165 : decode b_Interp_advance 165 = .ok (.iload 4, 2) := by decide +kernel
theorem d_Interp_advance_167 : decode b_Interp_advance 167 = .ok (.invokevirtual 93, 3) := by decide +kernel
theorem d_Interp_advance_170 : decode b_Interp_advance 170 = .ok (.invokevirtual 107, 3) := by decide +kernel
theorem d_Interp_advance_173 : decode b_Interp_advance 173 = .ok (.goto 25, 3) := by decide +kernel
theorem d_Interp_advance_176 : decode b_Interp_advance 176 = .ok (.aload_n 0, 1) := by decide +kernel
theorem d_Interp_advance_177 : decode b_Interp_advance 177 = .ok (.getfield 25, 3) := by decide +kernel
theorem d_Interp_advance_180 : decode b_Interp_advance 180 = .ok (.iload_n 1, 1) := by decide +kernel
theorem d_Interp_advance_181 : decode b_Interp_advance 181 = .ok (.aaload, 1) := by decide +kernel
theorem d_Interp_advance_182 : decode b_Interp_advance 182 = .ok (.invokevirtual 110, 3) := by decide +kernel
theorem d_Interp_advance_185 : decode b_Interp_advance 185 = .ok (.aload_n 0, 1) := by decide +kernel
theorem d_Interp_advance_186 : decode b_Interp_advance 186 = .ok (.iload_n 1, 1) := by decide +kernel
theorem d_Interp_advance_187 : decode b_Interp_advance 187 = .ok (.iload 5, 2) := by decide +kernel
theorem d_Interp_advance_189 : decode b_Interp_advance 189 = .ok (.aload_n 2, 1) := by decide +kernel
theorem d_Interp_advance_190 : decode b_Interp_advance 190 = .ok (.getfield 90, 3) := by decide +kernel
theorem d_Interp_advance_193 : decode b_Interp_advance 193 = .ok (.iload_n 3, 1) := by decide +kernel
theorem d_Interp_advance_194 : decode b_Interp_advance 194 = .ok (.iaload, 1) := by decide +kernel
theorem d_Interp_advance_195 : decode b_Interp_advance 195 = .ok (.invokevirtual 113, 3) := by decide +kernel
theorem d_Interp_advance_198 : decode b_Interp_advance 198 = .ok (.return_, 1) := by decide +kernel
abbrev b_Interp_choose : ByteArray := prog_10_method_6_code
abbrev J_Interp_choose : MethodName × ByteArray × Nat × Option FieldType := (⟨"FaslDesk$Interpreter", "choose", "(II)V"⟩, b_Interp_choose, 4, none)
theorem d_Interp_choose_0 : decode b_Interp_choose 0 = .ok (.aload_n 0, 1) := by decide +kernel
theorem d_Interp_choose_1 : decode b_Interp_choose 1 = .ok (.getfield 11, 3) := by decide +kernel
theorem d_Interp_choose_4 : decode b_Interp_choose 4 = .ok (.iload_n 1, 1) := by decide +kernel
theorem d_Interp_choose_5 : decode b_Interp_choose 5 = .ok (.aaload, 1) := by decide +kernel
theorem d_Interp_choose_6 : decode b_Interp_choose 6 = .ok (.getfield 90, 3) := by decide +kernel
theorem d_Interp_choose_9 : decode b_Interp_choose 9 = .ok (.iload_n 2, 1) := by decide +kernel
theorem d_Interp_choose_10 : decode b_Interp_choose 10 = .ok (.iaload, 1) := by decide +kernel
theorem d_Interp_choose_11 : decode b_Interp_choose 11 = .ok (.aload_n 0, 1) := by decide +kernel
theorem d_Interp_choose_12 : decode b_Interp_choose 12 = .ok (.getfield 19, 3) := by decide +kernel
theorem d_Interp_choose_15 : decode b_Interp_choose 15 = .ok (.iload_n 1, 1) := by decide +kernel
theorem d_Interp_choose_16 : decode b_Interp_choose 16 = .ok (.aaload, 1) := by decide +kernel
theorem d_Interp_choose_17 : decode b_Interp_choose 17 = .ok (.invokevirtual 69, 3) := by decide +kernel
theorem d_Interp_choose_20 : decode b_Interp_choose 20 = .ok (.invokestatic 117, 3) := by decide +kernel
theorem d_Interp_choose_23 : decode b_Interp_choose 23 = .ok (.istore_n 3, 1) := by decide +kernel
theorem d_Interp_choose_24 : decode b_Interp_choose 24 = .ok (.aload_n 0, 1) := by decide +kernel
theorem d_Interp_choose_25 : decode b_Interp_choose 25 = .ok (.getfield 25, 3) := by decide +kernel
theorem d_Interp_choose_28 : decode b_Interp_choose 28 = .ok (.iload_n 1, 1) := by decide +kernel
theorem d_Interp_choose_29 : decode b_Interp_choose 29 = .ok (.aaload, 1) := by decide +kernel
theorem d_Interp_choose_30 : decode b_Interp_choose 30 = .ok (.aload_n 0, 1) := by decide +kernel
theorem d_Interp_choose_31 : decode b_Interp_choose 31 = .ok (.getfield 11, 3) := by decide +kernel
theorem d_Interp_choose_34 : decode b_Interp_choose 34 = .ok (.iload_n 1, 1) := by decide +kernel
theorem d_Interp_choose_35 : decode b_Interp_choose 35 = .ok (.aaload, 1) := by decide +kernel
theorem d_Interp_choose_36 : decode b_Interp_choose 36 = .ok (.iload_n 2, 1) := by decide +kernel
theorem d_Interp_choose_37 : decode b_Interp_choose 37 = .ok (.iload_n 3, 1) := by decide +kernel
theorem d_Interp_choose_38 : decode b_Interp_choose 38 = .ok (.ifCond .eq 7, 3) := by decide +kernel
theorem d_Interp_choose_41 : decode b_Interp_choose 41 = .ok (.iconst 1, 1) := by decide +kernel
theorem d_Interp_choose_42 : decode b_Interp_choose 42 = .ok (.goto 4, 3) := by decide +kernel
theorem d_Interp_choose_45 : decode b_Interp_choose 45 = .ok (.iconst 2, 1) := by decide +kernel
theorem d_Interp_choose_46 : decode b_Interp_choose 46 = .ok (.invokevirtual 93, 3) := by decide +kernel
theorem d_Interp_choose_49 : decode b_Interp_choose 49 = .ok (.invokevirtual 97, 3) := by decide +kernel
theorem d_Interp_choose_52 : decode b_Interp_choose 52 = .ok (.return_, 1) := by decide +kernel
abbrev b_Interp_goRound : ByteArray := prog_10_method_7_code
abbrev J_Interp_goRound : MethodName × ByteArray × Nat × Option FieldType := (⟨"FaslDesk$Interpreter", "goRound", "(IIZ)V"⟩, b_Interp_goRound, 7, none)
theorem d_Interp_goRound_0 : decode b_Interp_goRound 0 = .ok (.aload_n 0, 1) := by decide +kernel
theorem d_Interp_goRound_1 : decode b_Interp_goRound 1 = .ok (.getfield 19, 3) := by decide +kernel
theorem d_Interp_goRound_4 : decode b_Interp_goRound 4 = .ok (.iload_n 1, 1) := by decide +kernel
theorem d_Interp_goRound_5 : decode b_Interp_goRound 5 = .ok (.aaload, 1) := by decide +kernel
theorem d_Interp_goRound_6 : decode b_Interp_goRound 6 = .ok (.getfield 87, 3) := by decide +kernel
theorem d_Interp_goRound_9 : decode b_Interp_goRound 9 = .ok (.astore 4, 2) := by decide +kernel
theorem d_Interp_goRound_11 : decode b_Interp_goRound 11 = .ok (.aload_n 0, 1) := by decide +kernel
theorem d_Interp_goRound_12 : decode b_Interp_goRound 12 = .ok (.getfield 11, 3) := by decide +kernel
theorem d_Interp_goRound_15 : decode b_Interp_goRound 15 = .ok (.iload_n 1, 1) := by decide +kernel
theorem d_Interp_goRound_16 : decode b_Interp_goRound 16 = .ok (.aaload, 1) := by decide +kernel
theorem d_Interp_goRound_17 : decode b_Interp_goRound 17 = .ok (.getfield 90, 3) := by decide +kernel
theorem d_Interp_goRound_20 : decode b_Interp_goRound 20 = .ok (.iload_n 2, 1) := by decide +kernel
theorem d_Interp_goRound_21 : decode b_Interp_goRound 21 = .ok (.iaload, 1) := by decide +kernel
theorem d_Interp_goRound_22 : decode b_Interp_goRound 22 = .ok (.istore 5, 2) := by decide +kernel
theorem d_Interp_goRound_24 : decode b_Interp_goRound 24 = .ok (.aload_n 0, 1) := by decide +kernel
theorem d_Interp_goRound_25 : decode b_Interp_goRound 25 = .ok (.getfield 19, 3) := by decide +kernel
theorem d_Interp_goRound_28 : decode b_Interp_goRound 28 = .ok (.iload_n 1, 1) := by decide +kernel
theorem d_Interp_goRound_29 : decode b_Interp_goRound 29 = .ok (.aaload, 1) := by decide +kernel
theorem d_Interp_goRound_30 : decode b_Interp_goRound 30 = .ok (.invokevirtual 69, 3) := by decide +kernel
theorem d_Interp_goRound_33 : decode b_Interp_goRound 33 = .ok (.istore 6, 2) := by decide +kernel
theorem d_Interp_goRound_35 : decode b_Interp_goRound 35 = .ok (.aload 4, 2) := by decide +kernel
theorem d_Interp_goRound_37 : decode b_Interp_goRound 37 = .ok (.iload 5, 2) := by decide +kernel
theorem d_Interp_goRound_39 : decode b_Interp_goRound 39 = .ok (.iload_n 3, 1) := by decide +kernel
theorem d_Interp_goRound_40 : decode b_Interp_goRound 40 = .ok (.ifCond .eq 11, 3) := by decide +kernel
theorem d_Interp_goRound_43 : decode b_Interp_goRound 43 = .ok (.iload 6, 2) := by decide +kernel
theorem d_Interp_goRound_45 : decode b_Interp_goRound 45 = .ok (.bipush 7, 2) := by decide +kernel
theorem d_Interp_goRound_47 : decode b_Interp_goRound 47 = .ok (.iand, 1) := by decide +kernel
theorem d_Interp_goRound_48 : decode b_Interp_goRound 48 = .ok (.goto 10, 3) := by decide +kernel
theorem d_Interp_goRound_51 : decode b_Interp_goRound 51 = .ok (.aload 4, 2) := by decide +kernel
theorem d_Interp_goRound_53 : decode b_Interp_goRound 53 = .ok (.iload 5, 2) := by decide +kernel
theorem d_Interp_goRound_55 : decode b_Interp_goRound 55 = .ok (.iaload, 1) := by decide +kernel
theorem d_Interp_goRound_56 : decode b_Interp_goRound 56 = .ok (.iconst 1, 1) := by decide +kernel
theorem d_Interp_goRound_57 : decode b_Interp_goRound 57 = .ok (.isub, 1) := by decide +kernel
theorem d_Interp_goRound_58 : decode b_Interp_goRound 58 = .ok (.iastore, 1) := by decide +kernel
theorem d_Interp_goRound_59 : decode b_Interp_goRound 59 = .ok (.aload 4, 2) := by decide +kernel
theorem d_Interp_goRound_61 : decode b_Interp_goRound 61 = .ok (.iload 5, 2) := by decide +kernel
theorem d_Interp_goRound_63 : decode b_Interp_goRound 63 = .ok (.iaload, 1) := by decide +kernel
theorem d_Interp_goRound_64 : decode b_Interp_goRound 64 = .ok (.ifCond .eq 26, 3) := by decide +kernel
theorem d_Interp_goRound_67 : decode b_Interp_goRound 67 = .ok (.aload_n 0, 1) := by decide +kernel
theorem d_Interp_goRound_68 : decode b_Interp_goRound 68 = .ok (.getfield 25, 3) := by decide +kernel
theorem d_Interp_goRound_71 : decode b_Interp_goRound 71 = .ok (.iload_n 1, 1) := by decide +kernel
theorem d_Interp_goRound_72 : decode b_Interp_goRound 72 = .ok (.aaload, 1) := by decide +kernel
theorem d_Interp_goRound_73 : decode b_Interp_goRound 73 = .ok (.aload_n 0, 1) := by decide +kernel
theorem d_Interp_goRound_74 : decode b_Interp_goRound 74 = .ok (.getfield 11, 3) := by decide +kernel
theorem d_Interp_goRound_77 : decode b_Interp_goRound 77 = .ok (.iload_n 1, 1) := by decide +kernel
theorem d_Interp_goRound_78 : decode b_Interp_goRound 78 = .ok (.aaload, 1) := by decide +kernel
theorem d_Interp_goRound_79 : decode b_Interp_goRound 79 = .ok (.iload_n 2, 1) := by decide +kernel
theorem d_Interp_goRound_80 : decode b_Interp_goRound 80 = .ok (.iconst 1, 1) := by decide +kernel
theorem d_Interp_goRound_81 : decode b_Interp_goRound 81 = .ok (.invokevirtual 93, 3) := by decide +kernel
theorem d_Interp_goRound_84 : decode b_Interp_goRound 84 = .ok (.invokevirtual 107, 3) := by decide +kernel
theorem d_Interp_goRound_87 : decode b_Interp_goRound 87 = .ok (.goto 22, 3) := by decide +kernel
theorem d_Interp_goRound_90 : decode b_Interp_goRound 90 = .ok (.aload_n 0, 1) := by decide +kernel
theorem d_Interp_goRound_91 : decode b_Interp_goRound 91 = .ok (.getfield 25, 3) := by decide +kernel
theorem d_Interp_goRound_94 : decode b_Interp_goRound 94 = .ok (.iload_n 1, 1) := by decide +kernel
theorem d_Interp_goRound_95 : decode b_Interp_goRound 95 = .ok (.aaload, 1) := by decide +kernel
theorem d_Interp_goRound_96 : decode b_Interp_goRound 96 = .ok (.invokevirtual 110, 3) := by decide +kernel
theorem d_Interp_goRound_99 : decode b_Interp_goRound 99 = .ok (.aload_n 0, 1) := by decide +kernel
theorem d_Interp_goRound_100 : decode b_Interp_goRound 100 = .ok (.getfield 19, 3) := by decide +kernel
theorem d_Interp_goRound_103 : decode b_Interp_goRound 103 = .ok (.iload_n 1, 1) := by decide +kernel
theorem d_Interp_goRound_104 : decode b_Interp_goRound 104 = .ok (.aaload, 1) := by decide +kernel
theorem d_Interp_goRound_105 : decode b_Interp_goRound 105 = .ok (.iconst 0, 1) := by decide +kernel
theorem d_Interp_goRound_106 : decode b_Interp_goRound 106 = .ok (.invokevirtual 123, 3) := by decide +kernel
theorem d_Interp_goRound_109 : decode b_Interp_goRound 109 = .ok (.return_, 1) := by decide +kernel
