/-! more words by their places -/
set_option maxRecDepth 100000 in
theorem k_0 : (Jvm.Cond.initialized "FaslDeskLaw") ∈ xv_BIG := xv_in 0 rfl rfl
set_option maxRecDepth 100000 in
theorem k_1 : (Jvm.Cond.initialized "FaslDesk") ∈ xv_BIG := xv_in 1 rfl rfl
set_option maxRecDepth 100000 in
theorem k_2 : (Jvm.Cond.initialized "FaslDesk$Form") ∈ xv_BIG := xv_in 2 rfl rfl
set_option maxRecDepth 100000 in
theorem k_3 : (Jvm.Cond.initialized "FaslDesk$Interpreter") ∈ xv_BIG := xv_in 3 rfl rfl
set_option maxRecDepth 100000 in
theorem k_4 : (Jvm.Cond.initialized "FaslDesk$Frame") ∈ xv_BIG := xv_in 4 rfl rfl
set_option maxRecDepth 100000 in
theorem k_5 : (Jvm.Cond.initialized "FaslDesk$OpenForms") ∈ xv_BIG := xv_in 5 rfl rfl
set_option maxRecDepth 100000 in
theorem k_6 : (Jvm.Cond.initialized "FaslDesk$Compiler") ∈ xv_BIG := xv_in 6 rfl rfl
set_option maxRecDepth 100000 in
theorem k_7 : (Jvm.Cond.initialized "FaslDesk$Archive") ∈ xv_BIG := xv_in 7 rfl rfl
set_option maxRecDepth 100000 in
theorem k_8 : (Jvm.Cond.initialized "FaslDesk$CodeCheck") ∈ xv_BIG := xv_in 8 rfl rfl
set_option maxRecDepth 100000 in
theorem k_9 : (Jvm.Cond.initialized "FaslDesk$Entry") ∈ xv_BIG := xv_in 9 rfl rfl
set_option maxRecDepth 100000 in
theorem k_10 : (Jvm.Cond.initialized "FaslDesk$Code") ∈ xv_BIG := xv_in 10 rfl rfl
set_option maxRecDepth 100000 in
theorem k_11 : (Jvm.Cond.initialized "FaslDesk$Image") ∈ xv_BIG := xv_in 11 rfl rfl
set_option maxRecDepth 100000 in
theorem k_12 : (Jvm.Cond.initialized "FaslDeskModel") ∈ xv_BIG := xv_in 12 rfl rfl
set_option maxRecDepth 100000 in
theorem k_13 : (Jvm.Cond.initialized "java/lang/System") ∈ xv_BIG := xv_in 13 rfl rfl
set_option maxRecDepth 100000 in
theorem k_14 : (Jvm.Cond.initialized "java/lang/Throwable") ∈ xv_BIG := xv_in 14 rfl rfl
set_option maxRecDepth 100000 in
theorem k_15 : (Jvm.Cond.initialized "java/lang/Exception") ∈ xv_BIG := xv_in 15 rfl rfl
set_option maxRecDepth 100000 in
theorem k_16 : (Jvm.Cond.initialized "java/lang/RuntimeException") ∈ xv_BIG := xv_in 16 rfl rfl
set_option maxRecDepth 100000 in
theorem k_17 : (Jvm.Cond.initialized "java/util/NoSuchElementException") ∈ xv_BIG := xv_in 17 rfl rfl
set_option maxRecDepth 100000 in
theorem k_18 : (Jvm.Cond.initialized "java/util/Arrays") ∈ xv_BIG := xv_in 18 rfl rfl
set_option maxRecDepth 100000 in
theorem k_19 : (Jvm.Cond.initialized "FaslDesk$Ints") ∈ xv_BIG := xv_in 19 rfl rfl
set_option maxRecDepth 100000 in
theorem k_20 : (Jvm.Cond.initialized "java/lang/ArithmeticException") ∈ xv_BIG := xv_in 20 rfl rfl
set_option maxRecDepth 100000 in
theorem k_21 : (Jvm.Cond.initialized "java/lang/Math") ∈ xv_BIG := xv_in 21 rfl rfl
set_option maxRecDepth 100000 in
theorem k_22 : (Jvm.Cond.initialized "java/lang/IllegalStateException") ∈ xv_BIG := xv_in 22 rfl rfl
set_option maxRecDepth 100000 in
theorem k_23 : (Jvm.Cond.classLink "FaslDeskLaw" (8 : Nat) "FaslDesk") ∈ xv_BIG := xv_in 23 rfl rfl
set_option maxRecDepth 100000 in
theorem k_24 : (Jvm.Cond.instantiable "FaslDesk" (8 : Nat)) ∈ xv_BIG := xv_in 24 rfl rfl
set_option maxRecDepth 100000 in
theorem k_28 : (Jvm.Cond.methodLink "FaslDesk" (1 : Nat) ({ cls := "java/lang/Object", name := "<init>", desc := "()V" } : Jvm.MethodName)) ∈ xv_BIG := xv_in 28 rfl rfl
set_option maxRecDepth 100000 in
theorem k_29 : (Jvm.Cond.instanceMethod ({ cls := "java/lang/Object", name := "<init>", desc := "()V" } : Jvm.MethodName)) ∈ xv_BIG := xv_in 29 rfl rfl
set_option maxRecDepth 100000 in
theorem k_30 : (Jvm.Cond.code ({ cls := "java/lang/Object", name := "<init>", desc := "()V" } : Jvm.MethodName) object_method_1_code (1 : Nat) (Option.none : Option Jvm.ClassFile.FieldType)) ∈ xv_BIG := xv_in 30 rfl rfl
set_option maxRecDepth 100000 in
theorem k_31 : (Jvm.Cond.classLink "FaslDesk" (7 : Nat) "FaslDesk$Form") ∈ xv_BIG := xv_in 31 rfl rfl
set_option maxRecDepth 100000 in
theorem k_32 : (Jvm.Cond.instantiable "FaslDesk$Form" (5 : Nat)) ∈ xv_BIG := xv_in 32 rfl rfl
set_option maxRecDepth 100000 in
theorem k_36 : (Jvm.Cond.methodLink "FaslDesk$Form" (3 : Nat) ({ cls := "java/lang/Object", name := "<init>", desc := "()V" } : Jvm.MethodName)) ∈ xv_BIG := xv_in 36 rfl rfl
set_option maxRecDepth 100000 in
theorem k_62 : (Jvm.Cond.arrayClass Jvm.ClassFile.FieldType.int) ∈ xv_BIG := xv_in 62 rfl rfl
set_option maxRecDepth 100000 in
theorem k_63 : (Jvm.Cond.classLink "FaslDesk" (16 : Nat) "FaslDesk$Interpreter") ∈ xv_BIG := xv_in 63 rfl rfl
set_option maxRecDepth 100000 in
theorem k_64 : (Jvm.Cond.instantiable "FaslDesk$Interpreter" (3 : Nat)) ∈ xv_BIG := xv_in 64 rfl rfl
set_option maxRecDepth 100000 in
theorem k_68 : (Jvm.Cond.methodLink "FaslDesk$Interpreter" (3 : Nat) ({ cls := "java/lang/Object", name := "<init>", desc := "()V" } : Jvm.MethodName)) ∈ xv_BIG := xv_in 68 rfl rfl
set_option maxRecDepth 100000 in
theorem k_69 : (Jvm.Cond.classLink "FaslDesk$Interpreter" (9 : Nat) "FaslDesk$Form") ∈ xv_BIG := xv_in 69 rfl rfl
set_option maxRecDepth 100000 in
theorem k_71 : (Jvm.Cond.classLink "FaslDesk$Interpreter" (17 : Nat) "FaslDesk$Frame") ∈ xv_BIG := xv_in 71 rfl rfl
set_option maxRecDepth 100000 in
theorem k_73 : (Jvm.Cond.classLink "FaslDesk$Interpreter" (23 : Nat) "FaslDesk$OpenForms") ∈ xv_BIG := xv_in 73 rfl rfl
set_option maxRecDepth 100000 in
theorem k_76 : (Jvm.Cond.instantiable "FaslDesk$Frame" (3 : Nat)) ∈ xv_BIG := xv_in 76 rfl rfl
set_option maxRecDepth 100000 in
theorem k_80 : (Jvm.Cond.methodLink "FaslDesk$Frame" (3 : Nat) ({ cls := "java/lang/Object", name := "<init>", desc := "()V" } : Jvm.MethodName)) ∈ xv_BIG := xv_in 80 rfl rfl
set_option maxRecDepth 100000 in
theorem k_93 : (Jvm.Cond.instantiable "FaslDesk$OpenForms" (3 : Nat)) ∈ xv_BIG := xv_in 93 rfl rfl
set_option maxRecDepth 100000 in
theorem k_97 : (Jvm.Cond.methodLink "FaslDesk$OpenForms" (3 : Nat) ({ cls := "java/lang/Object", name := "<init>", desc := "()V" } : Jvm.MethodName)) ∈ xv_BIG := xv_in 97 rfl rfl
set_option maxRecDepth 100000 in
theorem k_119 : (Jvm.Cond.classLink "FaslDesk" (23 : Nat) "FaslDesk$Compiler") ∈ xv_BIG := xv_in 119 rfl rfl
set_option maxRecDepth 100000 in
theorem k_120 : (Jvm.Cond.instantiable "FaslDesk$Compiler" (4 : Nat)) ∈ xv_BIG := xv_in 120 rfl rfl
set_option maxRecDepth 100000 in
theorem k_124 : (Jvm.Cond.methodLink "FaslDesk$Compiler" (3 : Nat) ({ cls := "java/lang/Object", name := "<init>", desc := "()V" } : Jvm.MethodName)) ∈ xv_BIG := xv_in 124 rfl rfl
set_option maxRecDepth 100000 in
theorem k_138 : (Jvm.Cond.classLink "FaslDesk" (30 : Nat) "FaslDesk$Archive") ∈ xv_BIG := xv_in 138 rfl rfl
set_option maxRecDepth 100000 in
theorem k_139 : (Jvm.Cond.instantiable "FaslDesk$Archive" (6 : Nat)) ∈ xv_BIG := xv_in 139 rfl rfl
set_option maxRecDepth 100000 in
theorem k_143 : (Jvm.Cond.methodLink "FaslDesk$Archive" (3 : Nat) ({ cls := "java/lang/Object", name := "<init>", desc := "()V" } : Jvm.MethodName)) ∈ xv_BIG := xv_in 143 rfl rfl
set_option maxRecDepth 100000 in
theorem k_144 : (Jvm.Cond.classLink "FaslDesk$Archive" (9 : Nat) "FaslDesk$Entry") ∈ xv_BIG := xv_in 144 rfl rfl
set_option maxRecDepth 100000 in
theorem k_146 : (Jvm.Cond.classLink "FaslDesk$Archive" (17 : Nat) "FaslDesk$CodeCheck") ∈ xv_BIG := xv_in 146 rfl rfl
set_option maxRecDepth 100000 in
theorem k_147 : (Jvm.Cond.instantiable "FaslDesk$CodeCheck" (4 : Nat)) ∈ xv_BIG := xv_in 147 rfl rfl
set_option maxRecDepth 100000 in
theorem k_151 : (Jvm.Cond.methodLink "FaslDesk$CodeCheck" (3 : Nat) ({ cls := "java/lang/Object", name := "<init>", desc := "()V" } : Jvm.MethodName)) ∈ xv_BIG := xv_in 151 rfl rfl
set_option maxRecDepth 100000 in
theorem k_165 : (Jvm.Cond.instantiable "FaslDesk$Entry" (10 : Nat)) ∈ xv_BIG := xv_in 165 rfl rfl
set_option maxRecDepth 100000 in
theorem k_169 : (Jvm.Cond.methodLink "FaslDesk$Entry" (3 : Nat) ({ cls := "java/lang/Object", name := "<init>", desc := "()V" } : Jvm.MethodName)) ∈ xv_BIG := xv_in 169 rfl rfl
set_option maxRecDepth 100000 in
theorem k_170 : (Jvm.Cond.classLink "FaslDesk$Entry" (9 : Nat) "FaslDesk$Code") ∈ xv_BIG := xv_in 170 rfl rfl
set_option maxRecDepth 100000 in
theorem k_171 : (Jvm.Cond.instantiable "FaslDesk$Code" (4 : Nat)) ∈ xv_BIG := xv_in 171 rfl rfl
set_option maxRecDepth 100000 in
theorem k_175 : (Jvm.Cond.methodLink "FaslDesk$Code" (3 : Nat) ({ cls := "java/lang/Object", name := "<init>", desc := "()V" } : Jvm.MethodName)) ∈ xv_BIG := xv_in 175 rfl rfl
set_option maxRecDepth 100000 in
theorem k_254 : (Jvm.Cond.arrayClass Jvm.ClassFile.FieldType.boolean) ∈ xv_BIG := xv_in 254 rfl rfl
set_option maxRecDepth 100000 in
theorem k_281 : (Jvm.Cond.classLink "FaslDesk" (37 : Nat) "FaslDesk$Image") ∈ xv_BIG := xv_in 281 rfl rfl
set_option maxRecDepth 100000 in
theorem k_282 : (Jvm.Cond.instantiable "FaslDesk$Image" (2 : Nat)) ∈ xv_BIG := xv_in 282 rfl rfl
set_option maxRecDepth 100000 in
theorem k_286 : (Jvm.Cond.methodLink "FaslDesk$Image" (3 : Nat) ({ cls := "java/lang/Object", name := "<init>", desc := "()V" } : Jvm.MethodName)) ∈ xv_BIG := xv_in 286 rfl rfl
set_option maxRecDepth 100000 in
theorem k_287 : (Jvm.Cond.classLink "FaslDesk$Image" (9 : Nat) "FaslDesk$Code") ∈ xv_BIG := xv_in 287 rfl rfl
set_option maxRecDepth 100000 in
theorem k_289 : (Jvm.Cond.classLink "FaslDesk$Image" (17 : Nat) "FaslDesk$Frame") ∈ xv_BIG := xv_in 289 rfl rfl
set_option maxRecDepth 100000 in
theorem k_365 : (Jvm.Cond.methodLink "FaslDesk$Form" (29 : Nat) ({ cls := "java/lang/System", name := "arraycopy", desc := "(Ljava/lang/Object;ILjava/lang/Object;II)V" } : Jvm.MethodName)) ∈ xv_BIG := xv_in 365 rfl rfl
set_option maxRecDepth 100000 in
theorem k_366 : (Jvm.Cond.static ({ cls := "java/lang/System", name := "arraycopy", desc := "(Ljava/lang/Object;ILjava/lang/Object;II)V" } : Jvm.MethodName)) ∈ xv_BIG := xv_in 366 rfl rfl
set_option maxRecDepth 100000 in
theorem k_367 : (Jvm.Cond.native ({ cls := "java/lang/System", name := "arraycopy", desc := "(Ljava/lang/Object;ILjava/lang/Object;II)V" } : Jvm.MethodName)) ∈ xv_BIG := xv_in 367 rfl rfl
set_option maxRecDepth 100000 in
theorem k_405 : (Jvm.Cond.methodLink "FaslDesk$Compiler" (61 : Nat) ({ cls := "java/lang/Math", name := "max", desc := "(II)I" } : Jvm.MethodName)) ∈ xv_BIG := xv_in 405 rfl rfl
set_option maxRecDepth 100000 in
theorem k_406 : (Jvm.Cond.static ({ cls := "java/lang/Math", name := "max", desc := "(II)I" } : Jvm.MethodName)) ∈ xv_BIG := xv_in 406 rfl rfl
set_option maxRecDepth 100000 in
theorem k_407 : (Jvm.Cond.code ({ cls := "java/lang/Math", name := "max", desc := "(II)I" } : Jvm.MethodName) prog_18_method_65_code (2 : Nat) (Option.some Jvm.ClassFile.FieldType.int)) ∈ xv_BIG := xv_in 407 rfl rfl
set_option maxRecDepth 100000 in
theorem k_445 : (Jvm.Cond.methodLink "FaslDesk$Entry" (58 : Nat) ({ cls := "java/lang/System", name := "arraycopy", desc := "(Ljava/lang/Object;ILjava/lang/Object;II)V" } : Jvm.MethodName)) ∈ xv_BIG := xv_in 445 rfl rfl
set_option maxRecDepth 100000 in
theorem k_450 : (Jvm.Cond.methodLink "FaslDesk$Archive" (32 : Nat) ({ cls := "java/lang/Math", name := "max", desc := "(II)I" } : Jvm.MethodName)) ∈ xv_BIG := xv_in 450 rfl rfl
set_option maxRecDepth 100000 in
theorem k_547 : (Jvm.Cond.methodLink "FaslDesk$Code" (29 : Nat) ({ cls := "java/lang/System", name := "arraycopy", desc := "(Ljava/lang/Object;ILjava/lang/Object;II)V" } : Jvm.MethodName)) ∈ xv_BIG := xv_in 547 rfl rfl
set_option maxRecDepth 100000 in
theorem k_578 : (Jvm.Cond.classLink "FaslDeskLaw" (13 : Nat) "java/util/NoSuchElementException") ∈ xv_BIG := xv_in 578 rfl rfl
set_option maxRecDepth 100000 in
theorem k_579 : (Jvm.Cond.classLink "FaslDeskLaw" (15 : Nat) "java/lang/ArithmeticException") ∈ xv_BIG := xv_in 579 rfl rfl
set_option maxRecDepth 100000 in
theorem k_588 : (Jvm.Cond.classLink "FaslDesk$Interpreter" (44 : Nat) "java/util/NoSuchElementException") ∈ xv_BIG := xv_in 588 rfl rfl
set_option maxRecDepth 100000 in
theorem k_589 : (Jvm.Cond.instantiable "java/util/NoSuchElementException" (6 : Nat)) ∈ xv_BIG := xv_in 589 rfl rfl
set_option maxRecDepth 100000 in
theorem k_613 : (Jvm.Cond.methodLink "java/lang/Throwable" (1 : Nat) ({ cls := "java/lang/Object", name := "<init>", desc := "()V" } : Jvm.MethodName)) ∈ xv_BIG := xv_in 613 rfl rfl
set_option maxRecDepth 100000 in
theorem k_627 : (Jvm.Cond.instantiable "java/lang/Throwable" (6 : Nat)) ∈ xv_BIG := xv_in 627 rfl rfl
set_option maxRecDepth 100000 in
theorem k_628 : (Jvm.Cond.native ({ cls := "java/lang/Throwable", name := "fillInStackTrace", desc := "(I)Ljava/lang/Throwable;" } : Jvm.MethodName)) ∈ xv_BIG := xv_in 628 rfl rfl
set_option maxRecDepth 100000 in
theorem k_655 : (Jvm.Cond.arrayClass Jvm.ClassFile.FieldType.byte) ∈ xv_BIG := xv_in 655 rfl rfl
set_option maxRecDepth 100000 in
theorem k_671 : (Jvm.Cond.constant "FaslDesk$Interpreter" (60 : Nat) (1000000 : Int32)) ∈ xv_BIG := xv_in 671 rfl rfl
set_option maxRecDepth 100000 in
theorem k_742 : (Jvm.Cond.classLink "FaslDesk$Ints" (13 : Nat) "java/lang/ArithmeticException") ∈ xv_BIG := xv_in 742 rfl rfl
set_option maxRecDepth 100000 in
theorem k_743 : (Jvm.Cond.instantiable "java/lang/ArithmeticException" (6 : Nat)) ∈ xv_BIG := xv_in 743 rfl rfl
set_option maxRecDepth 100000 in
theorem k_761 : (Jvm.Cond.classLink "FaslDeskLaw" (20 : Nat) "java/lang/IllegalStateException") ∈ xv_BIG := xv_in 761 rfl rfl
set_option maxRecDepth 100000 in
theorem k_767 : (Jvm.Cond.classLink "FaslDesk" (161 : Nat) "java/util/NoSuchElementException") ∈ xv_BIG := xv_in 767 rfl rfl
set_option maxRecDepth 100000 in
theorem k_775 : (Jvm.Cond.constant "FaslDesk$Image" (63 : Nat) (1000000 : Int32)) ∈ xv_BIG := xv_in 775 rfl rfl
set_option maxRecDepth 100000 in
theorem k_787 : (Jvm.Cond.classLink "FaslDesk$Image" (106 : Nat) "java/lang/IllegalStateException") ∈ xv_BIG := xv_in 787 rfl rfl
set_option maxRecDepth 100000 in
theorem k_788 : (Jvm.Cond.instantiable "java/lang/IllegalStateException" (6 : Nat)) ∈ xv_BIG := xv_in 788 rfl rfl
set_option maxRecDepth 100000 in
theorem k_808 : (Jvm.Cond.classLink "FaslDeskLaw" (23 : Nat) "FaslDeskModel") ∈ xv_BIG := xv_in 808 rfl rfl
set_option maxRecDepth 100000 in
theorem k_809 : (Jvm.Cond.instantiable "FaslDeskModel" (37 : Nat)) ∈ xv_BIG := xv_in 809 rfl rfl
set_option maxRecDepth 100000 in
theorem k_813 : (Jvm.Cond.methodLink "FaslDeskModel" (1 : Nat) ({ cls := "java/lang/Object", name := "<init>", desc := "()V" } : Jvm.MethodName)) ∈ xv_BIG := xv_in 813 rfl rfl
set_option maxRecDepth 100000 in
theorem k_1066 : (Jvm.Cond.arrayClass Jvm.ClassFile.FieldType.long) ∈ xv_BIG := xv_in 1066 rfl rfl
