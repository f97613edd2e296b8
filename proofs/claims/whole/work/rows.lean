section
-- ===== PART A: goes FIRST, ahead of the names: the tables' words, and 'selects' of the private methods out of them =====
/-- a private method of a class that the tables say can be made, by its rows of tables_1 -/
def lw_okq (q : MethodName × Nat) : Prop := (q.1.cls ≠ "java/lang/invoke/MethodHandle" ∧ q.1.cls ≠ "java/lang/invoke/VarHandle") ∧ Cond.instantiable q.1.cls q.2 ∈ tables_1 ∧ Cond.privateMethod q.1 ∈ tables_1 ∧ Cond.instanceMethod q.1 ∈ tables_1
theorem lw_p0 : lw_okq (⟨"FaslDesk$Form", "callsGo", "(I)Z"⟩, 5) := ⟨⟨by decide +kernel, by decide +kernel⟩, List.mem_of_getElem? (i := 32) (by decide +kernel), List.mem_of_getElem? (i := 348) (by decide +kernel), List.mem_of_getElem? (i := 349) (by decide +kernel)⟩
theorem lw_p1 : lw_okq (⟨"FaslDesk$Form", "endOf", "(IIII)I"⟩, 5) := ⟨⟨by decide +kernel, by decide +kernel⟩, List.mem_of_getElem? (i := 32) (by decide +kernel), List.mem_of_getElem? (i := 352) (by decide +kernel), List.mem_of_getElem? (i := 353) (by decide +kernel)⟩
theorem lw_p2 : lw_okq (⟨"FaslDesk$Form", "mayStand", "(IIII)Z"⟩, 5) := ⟨⟨by decide +kernel, by decide +kernel⟩, List.mem_of_getElem? (i := 32) (by decide +kernel), List.mem_of_getElem? (i := 356) (by decide +kernel), List.mem_of_getElem? (i := 357) (by decide +kernel)⟩
theorem lw_p3 : lw_okq (⟨"FaslDesk$Compiler", "emit", "(II)V"⟩, 4) := ⟨⟨by decide +kernel, by decide +kernel⟩, List.mem_of_getElem? (i := 120) (by decide +kernel), List.mem_of_getElem? (i := 394) (by decide +kernel), List.mem_of_getElem? (i := 395) (by decide +kernel)⟩
theorem lw_p4 : lw_okq (⟨"FaslDesk$Compiler", "emitForm", "(I)V"⟩, 4) := ⟨⟨by decide +kernel, by decide +kernel⟩, List.mem_of_getElem? (i := 120) (by decide +kernel), List.mem_of_getElem? (i := 409) (by decide +kernel), List.mem_of_getElem? (i := 410) (by decide +kernel)⟩
theorem lw_p5 : lw_okq (⟨"FaslDesk$Compiler", "emitIf", "(I)V"⟩, 4) := ⟨⟨by decide +kernel, by decide +kernel⟩, List.mem_of_getElem? (i := 120) (by decide +kernel), List.mem_of_getElem? (i := 413) (by decide +kernel), List.mem_of_getElem? (i := 414) (by decide +kernel)⟩
theorem lw_p6 : lw_okq (⟨"FaslDesk$Compiler", "setSecond", "(II)V"⟩, 4) := ⟨⟨by decide +kernel, by decide +kernel⟩, List.mem_of_getElem? (i := 120) (by decide +kernel), List.mem_of_getElem? (i := 421) (by decide +kernel), List.mem_of_getElem? (i := 422) (by decide +kernel)⟩
theorem lw_p7 : lw_okq (⟨"FaslDesk$Compiler", "setFirst", "(II)V"⟩, 4) := ⟨⟨by decide +kernel, by decide +kernel⟩, List.mem_of_getElem? (i := 120) (by decide +kernel), List.mem_of_getElem? (i := 425) (by decide +kernel), List.mem_of_getElem? (i := 426) (by decide +kernel)⟩
theorem lw_p8 : lw_okq (⟨"FaslDesk$Compiler", "emitTimes", "(I)V"⟩, 4) := ⟨⟨by decide +kernel, by decide +kernel⟩, List.mem_of_getElem? (i := 120) (by decide +kernel), List.mem_of_getElem? (i := 429) (by decide +kernel), List.mem_of_getElem? (i := 430) (by decide +kernel)⟩
theorem lw_p9 : lw_okq (⟨"FaslDesk$Compiler", "emitOfTimes", "(I)V"⟩, 4) := ⟨⟨by decide +kernel, by decide +kernel⟩, List.mem_of_getElem? (i := 120) (by decide +kernel), List.mem_of_getElem? (i := 433) (by decide +kernel), List.mem_of_getElem? (i := 434) (by decide +kernel)⟩
theorem lw_p10 : lw_okq (⟨"FaslDesk", "damageMagic", "(I)I"⟩, 8) := ⟨⟨by decide +kernel, by decide +kernel⟩, List.mem_of_getElem? (i := 24) (by decide +kernel), List.mem_of_getElem? (i := 456) (by decide +kernel), List.mem_of_getElem? (i := 457) (by decide +kernel)⟩
theorem lw_p11 : lw_okq (⟨"FaslDesk", "damageStated", "(I)I"⟩, 8) := ⟨⟨by decide +kernel, by decide +kernel⟩, List.mem_of_getElem? (i := 24) (by decide +kernel), List.mem_of_getElem? (i := 460) (by decide +kernel), List.mem_of_getElem? (i := 461) (by decide +kernel)⟩
theorem lw_p12 : lw_okq (⟨"FaslDesk", "damageNumber", "(II)I"⟩, 8) := ⟨⟨by decide +kernel, by decide +kernel⟩, List.mem_of_getElem? (i := 24) (by decide +kernel), List.mem_of_getElem? (i := 464) (by decide +kernel), List.mem_of_getElem? (i := 465) (by decide +kernel)⟩
theorem lw_p13 : lw_okq (⟨"FaslDesk", "damageOctet", "(I)I"⟩, 8) := ⟨⟨by decide +kernel, by decide +kernel⟩, List.mem_of_getElem? (i := 24) (by decide +kernel), List.mem_of_getElem? (i := 472) (by decide +kernel), List.mem_of_getElem? (i := 473) (by decide +kernel)⟩
theorem lw_p14 : lw_okq (⟨"FaslDesk", "sealAnew", "(I)I"⟩, 8) := ⟨⟨by decide +kernel, by decide +kernel⟩, List.mem_of_getElem? (i := 24) (by decide +kernel), List.mem_of_getElem? (i := 476) (by decide +kernel), List.mem_of_getElem? (i := 477) (by decide +kernel)⟩
theorem lw_p15 : lw_okq (⟨"FaslDesk", "hasUnit", "(II)Z"⟩, 8) := ⟨⟨by decide +kernel, by decide +kernel⟩, List.mem_of_getElem? (i := 24) (by decide +kernel), List.mem_of_getElem? (i := 485) (by decide +kernel), List.mem_of_getElem? (i := 486) (by decide +kernel)⟩
def lw_privs_1 : List (MethodName × Nat) := [(⟨"FaslDesk$Form", "callsGo", "(I)Z"⟩, 5), (⟨"FaslDesk$Form", "endOf", "(IIII)I"⟩, 5), (⟨"FaslDesk$Form", "mayStand", "(IIII)Z"⟩, 5), (⟨"FaslDesk$Compiler", "emit", "(II)V"⟩, 4), (⟨"FaslDesk$Compiler", "emitForm", "(I)V"⟩, 4), (⟨"FaslDesk$Compiler", "emitIf", "(I)V"⟩, 4), (⟨"FaslDesk$Compiler", "setSecond", "(II)V"⟩, 4), (⟨"FaslDesk$Compiler", "setFirst", "(II)V"⟩, 4), (⟨"FaslDesk$Compiler", "emitTimes", "(I)V"⟩, 4), (⟨"FaslDesk$Compiler", "emitOfTimes", "(I)V"⟩, 4), (⟨"FaslDesk", "damageMagic", "(I)I"⟩, 8), (⟨"FaslDesk", "damageStated", "(I)I"⟩, 8), (⟨"FaslDesk", "damageNumber", "(II)I"⟩, 8), (⟨"FaslDesk", "damageOctet", "(I)I"⟩, 8), (⟨"FaslDesk", "sealAnew", "(I)I"⟩, 8), (⟨"FaslDesk", "hasUnit", "(II)Z"⟩, 8)]
theorem lw_r1 : ∀ q ∈ lw_privs_1, lw_okq q := List.forall_mem_cons.mpr ⟨lw_p0, List.forall_mem_cons.mpr ⟨lw_p1, List.forall_mem_cons.mpr ⟨lw_p2, List.forall_mem_cons.mpr ⟨lw_p3, List.forall_mem_cons.mpr ⟨lw_p4, List.forall_mem_cons.mpr ⟨lw_p5, List.forall_mem_cons.mpr ⟨lw_p6, List.forall_mem_cons.mpr ⟨lw_p7, List.forall_mem_cons.mpr ⟨lw_p8, List.forall_mem_cons.mpr ⟨lw_p9, List.forall_mem_cons.mpr ⟨lw_p10, List.forall_mem_cons.mpr ⟨lw_p11, List.forall_mem_cons.mpr ⟨lw_p12, List.forall_mem_cons.mpr ⟨lw_p13, List.forall_mem_cons.mpr ⟨lw_p14, List.forall_mem_cons.mpr ⟨lw_p15, fun _ h => absurd h List.not_mem_nil⟩⟩⟩⟩⟩⟩⟩⟩⟩⟩⟩⟩⟩⟩⟩⟩
theorem lw_p16 : lw_okq (⟨"FaslDesk$Archive", "findOddEntry", "()I"⟩, 6) := ⟨⟨by decide +kernel, by decide +kernel⟩, List.mem_of_getElem? (i := 139) (by decide +kernel), List.mem_of_getElem? (i := 509) (by decide +kernel), List.mem_of_getElem? (i := 510) (by decide +kernel)⟩
theorem lw_p17 : lw_okq (⟨"FaslDesk$Archive", "findOddClass", "()I"⟩, 6) := ⟨⟨by decide +kernel, by decide +kernel⟩, List.mem_of_getElem? (i := 139) (by decide +kernel), List.mem_of_getElem? (i := 518) (by decide +kernel), List.mem_of_getElem? (i := 519) (by decide +kernel)⟩
theorem lw_p18 : lw_okq (⟨"FaslDesk$Archive", "findOddCode", "()I"⟩, 6) := ⟨⟨by decide +kernel, by decide +kernel⟩, List.mem_of_getElem? (i := 139) (by decide +kernel), List.mem_of_getElem? (i := 522) (by decide +kernel), List.mem_of_getElem? (i := 523) (by decide +kernel)⟩
theorem lw_p19 : lw_okq (⟨"FaslDesk$CodeCheck", "reach", "(II)Z"⟩, 4) := ⟨⟨by decide +kernel, by decide +kernel⟩, List.mem_of_getElem? (i := 147) (by decide +kernel), List.mem_of_getElem? (i := 530) (by decide +kernel), List.mem_of_getElem? (i := 531) (by decide +kernel)⟩
theorem lw_p20 : lw_okq (⟨"FaslDesk$CodeCheck", "passes", "(II)Z"⟩, 4) := ⟨⟨by decide +kernel, by decide +kernel⟩, List.mem_of_getElem? (i := 147) (by decide +kernel), List.mem_of_getElem? (i := 534) (by decide +kernel), List.mem_of_getElem? (i := 535) (by decide +kernel)⟩
theorem lw_p21 : lw_okq (⟨"FaslDesk$Interpreter", "answer", "(IIII)I"⟩, 3) := ⟨⟨by decide +kernel, by decide +kernel⟩, List.mem_of_getElem? (i := 64) (by decide +kernel), List.mem_of_getElem? (i := 585) (by decide +kernel), List.mem_of_getElem? (i := 586) (by decide +kernel)⟩
theorem lw_p22 : lw_okq (⟨"java/lang/Throwable", "fillInStackTrace", "(I)Ljava/lang/Throwable;"⟩, 6) := ⟨⟨by decide +kernel, by decide +kernel⟩, List.mem_of_getElem? (i := 627) (by decide +kernel), List.mem_of_getElem? (i := 625) (by decide +kernel), List.mem_of_getElem? (i := 626) (by decide +kernel)⟩
theorem lw_p23 : lw_okq (⟨"FaslDesk$OpenForms", "enter", "(I)V"⟩, 3) := ⟨⟨by decide +kernel, by decide +kernel⟩, List.mem_of_getElem? (i := 93) (by decide +kernel), List.mem_of_getElem? (i := 668) (by decide +kernel), List.mem_of_getElem? (i := 669) (by decide +kernel)⟩
theorem lw_p24 : lw_okq (⟨"FaslDesk$Interpreter", "advance", "(I)V"⟩, 3) := ⟨⟨by decide +kernel, by decide +kernel⟩, List.mem_of_getElem? (i := 64) (by decide +kernel), List.mem_of_getElem? (i := 677) (by decide +kernel), List.mem_of_getElem? (i := 678) (by decide +kernel)⟩
theorem lw_p25 : lw_okq (⟨"FaslDesk$Interpreter", "choose", "(II)V"⟩, 3) := ⟨⟨by decide +kernel, by decide +kernel⟩, List.mem_of_getElem? (i := 64) (by decide +kernel), List.mem_of_getElem? (i := 690) (by decide +kernel), List.mem_of_getElem? (i := 691) (by decide +kernel)⟩
theorem lw_p26 : lw_okq (⟨"FaslDesk$Interpreter", "goRound", "(IIZ)V"⟩, 3) := ⟨⟨by decide +kernel, by decide +kernel⟩, List.mem_of_getElem? (i := 64) (by decide +kernel), List.mem_of_getElem? (i := 710) (by decide +kernel), List.mem_of_getElem? (i := 711) (by decide +kernel)⟩
theorem lw_p27 : lw_okq (⟨"FaslDesk$Interpreter", "finish", "(III)V"⟩, 3) := ⟨⟨by decide +kernel, by decide +kernel⟩, List.mem_of_getElem? (i := 64) (by decide +kernel), List.mem_of_getElem? (i := 724) (by decide +kernel), List.mem_of_getElem? (i := 725) (by decide +kernel)⟩
theorem lw_p28 : lw_okq (⟨"FaslDesk$Interpreter", "answerOfLower", "(II)I"⟩, 3) := ⟨⟨by decide +kernel, by decide +kernel⟩, List.mem_of_getElem? (i := 64) (by decide +kernel), List.mem_of_getElem? (i := 732) (by decide +kernel), List.mem_of_getElem? (i := 733) (by decide +kernel)⟩
theorem lw_p29 : lw_okq (⟨"FaslDesk$Image", "answer", "(IIII)I"⟩, 2) := ⟨⟨by decide +kernel, by decide +kernel⟩, List.mem_of_getElem? (i := 282) (by decide +kernel), List.mem_of_getElem? (i := 771) (by decide +kernel), List.mem_of_getElem? (i := 772) (by decide +kernel)⟩
theorem lw_p30 : lw_okq (⟨"FaslDesk$Image", "perform", "(II)I"⟩, 2) := ⟨⟨by decide +kernel, by decide +kernel⟩, List.mem_of_getElem? (i := 282) (by decide +kernel), List.mem_of_getElem? (i := 777) (by decide +kernel), List.mem_of_getElem? (i := 778) (by decide +kernel)⟩
theorem lw_p31 : lw_okq (⟨"FaslDesk$Image", "answerOfLower", "(II)I"⟩, 2) := ⟨⟨by decide +kernel, by decide +kernel⟩, List.mem_of_getElem? (i := 282) (by decide +kernel), List.mem_of_getElem? (i := 784) (by decide +kernel), List.mem_of_getElem? (i := 785) (by decide +kernel)⟩
def lw_privs_2 : List (MethodName × Nat) := [(⟨"FaslDesk$Archive", "findOddEntry", "()I"⟩, 6), (⟨"FaslDesk$Archive", "findOddClass", "()I"⟩, 6), (⟨"FaslDesk$Archive", "findOddCode", "()I"⟩, 6), (⟨"FaslDesk$CodeCheck", "reach", "(II)Z"⟩, 4), (⟨"FaslDesk$CodeCheck", "passes", "(II)Z"⟩, 4), (⟨"FaslDesk$Interpreter", "answer", "(IIII)I"⟩, 3), (⟨"java/lang/Throwable", "fillInStackTrace", "(I)Ljava/lang/Throwable;"⟩, 6), (⟨"FaslDesk$OpenForms", "enter", "(I)V"⟩, 3), (⟨"FaslDesk$Interpreter", "advance", "(I)V"⟩, 3), (⟨"FaslDesk$Interpreter", "choose", "(II)V"⟩, 3), (⟨"FaslDesk$Interpreter", "goRound", "(IIZ)V"⟩, 3), (⟨"FaslDesk$Interpreter", "finish", "(III)V"⟩, 3), (⟨"FaslDesk$Interpreter", "answerOfLower", "(II)I"⟩, 3), (⟨"FaslDesk$Image", "answer", "(IIII)I"⟩, 2), (⟨"FaslDesk$Image", "perform", "(II)I"⟩, 2), (⟨"FaslDesk$Image", "answerOfLower", "(II)I"⟩, 2)]
theorem lw_r2 : ∀ q ∈ lw_privs_2, lw_okq q := List.forall_mem_cons.mpr ⟨lw_p16, List.forall_mem_cons.mpr ⟨lw_p17, List.forall_mem_cons.mpr ⟨lw_p18, List.forall_mem_cons.mpr ⟨lw_p19, List.forall_mem_cons.mpr ⟨lw_p20, List.forall_mem_cons.mpr ⟨lw_p21, List.forall_mem_cons.mpr ⟨lw_p22, List.forall_mem_cons.mpr ⟨lw_p23, List.forall_mem_cons.mpr ⟨lw_p24, List.forall_mem_cons.mpr ⟨lw_p25, List.forall_mem_cons.mpr ⟨lw_p26, List.forall_mem_cons.mpr ⟨lw_p27, List.forall_mem_cons.mpr ⟨lw_p28, List.forall_mem_cons.mpr ⟨lw_p29, List.forall_mem_cons.mpr ⟨lw_p30, List.forall_mem_cons.mpr ⟨lw_p31, fun _ h => absurd h List.not_mem_nil⟩⟩⟩⟩⟩⟩⟩⟩⟩⟩⟩⟩⟩⟩⟩⟩
theorem lw_p32 : lw_okq (⟨"FaslDeskModel", "relate", "()Z"⟩, 37) := ⟨⟨by decide +kernel, by decide +kernel⟩, List.mem_of_getElem? (i := 809) (by decide +kernel), List.mem_of_getElem? (i := 945) (by decide +kernel), List.mem_of_getElem? (i := 946) (by decide +kernel)⟩
theorem lw_p33 : lw_okq (⟨"FaslDeskModel", "stands", "(III)Z"⟩, 37) := ⟨⟨by decide +kernel, by decide +kernel⟩, List.mem_of_getElem? (i := 809) (by decide +kernel), List.mem_of_getElem? (i := 952) (by decide +kernel), List.mem_of_getElem? (i := 953) (by decide +kernel)⟩
theorem lw_p34 : lw_okq (⟨"FaslDeskModel", "translate", "(I)V"⟩, 37) := ⟨⟨by decide +kernel, by decide +kernel⟩, List.mem_of_getElem? (i := 809) (by decide +kernel), List.mem_of_getElem? (i := 956) (by decide +kernel), List.mem_of_getElem? (i := 957) (by decide +kernel)⟩
theorem lw_p35 : lw_okq (⟨"FaslDeskModel", "put", "(IIII)I"⟩, 37) := ⟨⟨by decide +kernel, by decide +kernel⟩, List.mem_of_getElem? (i := 809) (by decide +kernel), List.mem_of_getElem? (i := 960) (by decide +kernel), List.mem_of_getElem? (i := 961) (by decide +kernel)⟩
theorem lw_p36 : lw_okq (⟨"FaslDeskModel", "behind", "(II)Z"⟩, 37) := ⟨⟨by decide +kernel, by decide +kernel⟩, List.mem_of_getElem? (i := 809) (by decide +kernel), List.mem_of_getElem? (i := 964) (by decide +kernel), List.mem_of_getElem? (i := 965) (by decide +kernel)⟩
theorem lw_p37 : lw_okq (⟨"FaslDeskModel", "fix", "(II)V"⟩, 37) := ⟨⟨by decide +kernel, by decide +kernel⟩, List.mem_of_getElem? (i := 809) (by decide +kernel), List.mem_of_getElem? (i := 968) (by decide +kernel), List.mem_of_getElem? (i := 969) (by decide +kernel)⟩
theorem lw_p38 : lw_okq (⟨"FaslDeskModel", "measure", "(I)I"⟩, 37) := ⟨⟨by decide +kernel, by decide +kernel⟩, List.mem_of_getElem? (i := 809) (by decide +kernel), List.mem_of_getElem? (i := 972) (by decide +kernel), List.mem_of_getElem? (i := 973) (by decide +kernel)⟩
theorem lw_p39 : lw_okq (⟨"FaslDeskModel", "reach", "(III)Z"⟩, 37) := ⟨⟨by decide +kernel, by decide +kernel⟩, List.mem_of_getElem? (i := 809) (by decide +kernel), List.mem_of_getElem? (i := 982) (by decide +kernel), List.mem_of_getElem? (i := 983) (by decide +kernel)⟩
theorem lw_p40 : lw_okq (⟨"FaslDeskModel", "go", "(IIIII)I"⟩, 37) := ⟨⟨by decide +kernel, by decide +kernel⟩, List.mem_of_getElem? (i := 809) (by decide +kernel), List.mem_of_getElem? (i := 990) (by decide +kernel), List.mem_of_getElem? (i := 991) (by decide +kernel)⟩
theorem lw_p41 : lw_okq (⟨"FaslDeskModel", "enter", "(IIIIII)V"⟩, 37) := ⟨⟨by decide +kernel, by decide +kernel⟩, List.mem_of_getElem? (i := 809) (by decide +kernel), List.mem_of_getElem? (i := 994) (by decide +kernel), List.mem_of_getElem? (i := 995) (by decide +kernel)⟩
theorem lw_p42 : lw_okq (⟨"FaslDeskModel", "simple", "(IIII)I"⟩, 37) := ⟨⟨by decide +kernel, by decide +kernel⟩, List.mem_of_getElem? (i := 809) (by decide +kernel), List.mem_of_getElem? (i := 1004) (by decide +kernel), List.mem_of_getElem? (i := 1005) (by decide +kernel)⟩
theorem lw_p43 : lw_okq (⟨"FaslDeskModel", "copyUnits", "(II)V"⟩, 37) := ⟨⟨by decide +kernel, by decide +kernel⟩, List.mem_of_getElem? (i := 809) (by decide +kernel), List.mem_of_getElem? (i := 1020) (by decide +kernel), List.mem_of_getElem? (i := 1021) (by decide +kernel)⟩
theorem lw_p44 : lw_okq (⟨"FaslDeskModel", "seal", "(I)V"⟩, 37) := ⟨⟨by decide +kernel, by decide +kernel⟩, List.mem_of_getElem? (i := 809) (by decide +kernel), List.mem_of_getElem? (i := 1024) (by decide +kernel), List.mem_of_getElem? (i := 1025) (by decide +kernel)⟩
theorem lw_p45 : lw_okq (⟨"FaslDeskModel", "fault", "(II)I"⟩, 37) := ⟨⟨by decide +kernel, by decide +kernel⟩, List.mem_of_getElem? (i := 809) (by decide +kernel), List.mem_of_getElem? (i := 1047) (by decide +kernel), List.mem_of_getElem? (i := 1048) (by decide +kernel)⟩
theorem lw_p46 : lw_okq (⟨"FaslDeskModel", "goes", "(I)Z"⟩, 37) := ⟨⟨by decide +kernel, by decide +kernel⟩, List.mem_of_getElem? (i := 809) (by decide +kernel), List.mem_of_getElem? (i := 1051) (by decide +kernel), List.mem_of_getElem? (i := 1052) (by decide +kernel)⟩
def lw_privs_3 : List (MethodName × Nat) := [(⟨"FaslDeskModel", "relate", "()Z"⟩, 37), (⟨"FaslDeskModel", "stands", "(III)Z"⟩, 37), (⟨"FaslDeskModel", "translate", "(I)V"⟩, 37), (⟨"FaslDeskModel", "put", "(IIII)I"⟩, 37), (⟨"FaslDeskModel", "behind", "(II)Z"⟩, 37), (⟨"FaslDeskModel", "fix", "(II)V"⟩, 37), (⟨"FaslDeskModel", "measure", "(I)I"⟩, 37), (⟨"FaslDeskModel", "reach", "(III)Z"⟩, 37), (⟨"FaslDeskModel", "go", "(IIIII)I"⟩, 37), (⟨"FaslDeskModel", "enter", "(IIIIII)V"⟩, 37), (⟨"FaslDeskModel", "simple", "(IIII)I"⟩, 37), (⟨"FaslDeskModel", "copyUnits", "(II)V"⟩, 37), (⟨"FaslDeskModel", "seal", "(I)V"⟩, 37), (⟨"FaslDeskModel", "fault", "(II)I"⟩, 37), (⟨"FaslDeskModel", "goes", "(I)Z"⟩, 37)]
theorem lw_r3 : ∀ q ∈ lw_privs_3, lw_okq q := List.forall_mem_cons.mpr ⟨lw_p32, List.forall_mem_cons.mpr ⟨lw_p33, List.forall_mem_cons.mpr ⟨lw_p34, List.forall_mem_cons.mpr ⟨lw_p35, List.forall_mem_cons.mpr ⟨lw_p36, List.forall_mem_cons.mpr ⟨lw_p37, List.forall_mem_cons.mpr ⟨lw_p38, List.forall_mem_cons.mpr ⟨lw_p39, List.forall_mem_cons.mpr ⟨lw_p40, List.forall_mem_cons.mpr ⟨lw_p41, List.forall_mem_cons.mpr ⟨lw_p42, List.forall_mem_cons.mpr ⟨lw_p43, List.forall_mem_cons.mpr ⟨lw_p44, List.forall_mem_cons.mpr ⟨lw_p45, List.forall_mem_cons.mpr ⟨lw_p46, fun _ h => absurd h List.not_mem_nil⟩⟩⟩⟩⟩⟩⟩⟩⟩⟩⟩⟩⟩⟩⟩
def lw_privs : List (MethodName × Nat) := lw_privs_1 ++ (lw_privs_2 ++ (lw_privs_3))
def lw_tbl : List Cond := k2_sels lw_privs ++ tables_1
theorem lw_privs_ok : ∀ q ∈ lw_privs, lw_okq q := by
  show ∀ q ∈ lw_privs_1 ++ (lw_privs_2 ++ (lw_privs_3)), lw_okq q
  exact List.forall_mem_append.mpr ⟨lw_r1, List.forall_mem_append.mpr ⟨lw_r2, lw_r3⟩⟩
end
section
/-! words, classes, names -/
def xv_BIG : List Cond := lw_tbl.filter goodWord
theorem xv_in (k : Nat) {w : Cond} (h : tables_1[k]? = some w) (g : goodWord w = true) : w ∈ xv_BIG := List.mem_filter.mpr ⟨List.mem_append_right _ (List.mem_of_getElem? h), g⟩
theorem xv_inP (k : Nat) {w : Cond} (h : (k2_sels lw_privs)[k]? = some w) (g : goodWord w = true) : w ∈ xv_BIG := List.mem_filter.mpr ⟨List.mem_append_left _ (List.mem_of_getElem? h), g⟩
theorem xv_good (w : Cond) (h : w ∈ xv_BIG) : w ∈ xv_BIG ∧ ((w.onTables && w.keeps) = true ∨ ∃ ty, w = .arrayClass ty) := ⟨h, good_of_word (List.mem_filter.mp h).2⟩
def xv_nest : List Cond := [(Jvm.Cond.methodLinkNest "FaslDesk" (9 : Nat) ({ cls := "FaslDesk$Form", name := "<init>", desc := "()V" } : Jvm.MethodName) "FaslDesk"), (Jvm.Cond.methodLinkNest "FaslDesk$Interpreter" (29 : Nat) ({ cls := "FaslDesk$Form", name := "<init>", desc := "()V" } : Jvm.MethodName) "FaslDesk"), (Jvm.Cond.methodLinkNest "FaslDesk$Interpreter" (30 : Nat) ({ cls := "FaslDesk$Frame", name := "<init>", desc := "()V" } : Jvm.MethodName) "FaslDesk"), (Jvm.Cond.methodLinkNest "FaslDesk$Interpreter" (31 : Nat) ({ cls := "FaslDesk$OpenForms", name := "<init>", desc := "()V" } : Jvm.MethodName) "FaslDesk"), (Jvm.Cond.methodLinkNest "FaslDesk" (25 : Nat) ({ cls := "FaslDesk$Compiler", name := "<init>", desc := "()V" } : Jvm.MethodName) "FaslDesk"), (Jvm.Cond.methodLinkNest "FaslDesk$Archive" (19 : Nat) ({ cls := "FaslDesk$CodeCheck", name := "<init>", desc := "()V" } : Jvm.MethodName) "FaslDesk"), (Jvm.Cond.methodLinkNest "FaslDesk$Archive" (24 : Nat) ({ cls := "FaslDesk$Entry", name := "<init>", desc := "()V" } : Jvm.MethodName) "FaslDesk"), (Jvm.Cond.methodLinkNest "FaslDesk$Entry" (11 : Nat) ({ cls := "FaslDesk$Code", name := "<init>", desc := "()V" } : Jvm.MethodName) "FaslDesk"), (Jvm.Cond.methodLinkNest "FaslDesk$Image" (23 : Nat) ({ cls := "FaslDesk$Code", name := "<init>", desc := "()V" } : Jvm.MethodName) "FaslDesk"), (Jvm.Cond.methodLinkNest "FaslDesk$Image" (24 : Nat) ({ cls := "FaslDesk$Frame", name := "<init>", desc := "()V" } : Jvm.MethodName) "FaslDesk"), (Jvm.Cond.methodLinkNest "FaslDesk$Form" (21 : Nat) ({ cls := "FaslDesk", name := "within", desc := "(III)Z" } : Jvm.MethodName) "FaslDesk"), (Jvm.Cond.methodLinkNest "FaslDesk$Interpreter" (32 : Nat) ({ cls := "FaslDesk", name := "within", desc := "(III)Z" } : Jvm.MethodName) "FaslDesk"), (Jvm.Cond.methodLinkNest "FaslDesk$Code" (21 : Nat) ({ cls := "FaslDesk", name := "within", desc := "(III)Z" } : Jvm.MethodName) "FaslDesk"), (Jvm.Cond.methodLinkNest "FaslDesk$Image" (25 : Nat) ({ cls := "FaslDesk", name := "within", desc := "(III)Z" } : Jvm.MethodName) "FaslDesk"), (Jvm.Cond.methodLinkNest "FaslDesk" (74 : Nat) ({ cls := "FaslDesk$Interpreter", name := "answer", desc := "(IIII)I" } : Jvm.MethodName) "FaslDesk"), (Jvm.Cond.methodLinkNest "FaslDesk" (168 : Nat) ({ cls := "FaslDesk$Image", name := "answer", desc := "(IIII)I" } : Jvm.MethodName) "FaslDesk")]
def xv_ra : List String := ["FaslDesk$Form", "FaslDesk$Frame", "FaslDesk$OpenForms", "FaslDesk$Entry", "FaslDesk$Code"]
def xv_T0 : u_T := fun k => match k with
  | 0 => ("FaslDesk$Form", "op", "[I", true)
  | 1 => ("FaslDesk$Form", "a", "[I", true)
  | 2 => ("FaslDesk$Form", "length", "I", false)
  | 3 => ("FaslDesk$Form", "parameters", "I", false)
  | _ => ("FaslDesk$Form", "starts", "[I", true)
def xv_T1 : u_T := fun k => match k with
  | 0 => ("FaslDesk$Frame", "variables", "[I", true)
  | 1 => ("FaslDesk$Frame", "values", "[I", true)
  | _ => ("FaslDesk$Frame", "size", "I", false)
def xv_T2 : u_T := fun k => match k with
  | 0 => ("FaslDesk$OpenForms", "places", "[I", true)
  | 1 => ("FaslDesk$OpenForms", "parts", "[I", true)
  | _ => ("FaslDesk$OpenForms", "size", "I", false)
def xv_T3 : u_T := fun k => match k with
  | 0 => ("FaslDesk$Interpreter", "forms", "[LFaslDesk$Form;", true)
  | 1 => ("FaslDesk$Interpreter", "frames", "[LFaslDesk$Frame;", true)
  | _ => ("FaslDesk$Interpreter", "opens", "[LFaslDesk$OpenForms;", true)
def xv_T4 : u_T := fun k => match k with
  | 0 => ("FaslDesk$Code", "op", "[I", true)
  | 1 => ("FaslDesk$Code", "first", "[I", true)
  | 2 => ("FaslDesk$Code", "second", "[I", true)
  | _ => ("FaslDesk$Code", "length", "I", false)
def xv_T5 : u_T := fun k => match k with
  | 0 => ("FaslDesk$Entry", "code", "LFaslDesk$Code;", true)
  | 1 => ("FaslDesk$Entry", "ofTimes", "[Z", true)
  | 2 => ("FaslDesk$Entry", "number", "I", false)
  | 3 => ("FaslDesk$Entry", "parameters", "I", false)
  | 4 => ("FaslDesk$Entry", "stack", "I", false)
  | 5 => ("FaslDesk$Entry", "namedFor", "I", false)
  | 6 => ("FaslDesk$Entry", "octetChanged", "Z", false)
  | 7 => ("FaslDesk$Entry", "sealedOps", "[I", true)
  | 8 => ("FaslDesk$Entry", "sealedNumber", "I", false)
  | _ => ("FaslDesk$Entry", "sealedOctet", "Z", false)
def xv_T6 : u_T := fun k => match k with
  | 0 => ("FaslDesk$Compiler", "form", "LFaslDesk$Form;", false)
  | 1 => ("FaslDesk$Compiler", "target", "LFaslDesk$Entry;", false)
  | 2 => ("FaslDesk$Compiler", "code", "LFaslDesk$Code;", false)
  | _ => ("FaslDesk$Compiler", "height", "I", false)
def xv_T7 : u_T := fun k => match k with
  | 0 => ("FaslDesk$CodeCheck", "heights", "[I", true)
  | 1 => ("FaslDesk$CodeCheck", "reached", "[I", true)
  | 2 => ("FaslDesk$CodeCheck", "reachedSize", "I", false)
  | _ => ("FaslDesk$CodeCheck", "code", "LFaslDesk$Code;", false)
def xv_T8 : u_T := fun k => match k with
  | 0 => ("FaslDesk$Archive", "entries", "[LFaslDesk$Entry;", true)
  | 1 => ("FaslDesk$Archive", "size", "I", false)
  | 2 => ("FaslDesk$Archive", "magic", "I", false)
  | 3 => ("FaslDesk$Archive", "stated", "I", false)
  | 4 => ("FaslDesk$Archive", "faultAt", "I", false)
  | _ => ("FaslDesk$Archive", "codeCheck", "LFaslDesk$CodeCheck;", true)
def xv_T9 : u_T := fun k => match k with
  | 0 => ("FaslDesk$Image", "codes", "[LFaslDesk$Code;", true)
  | _ => ("FaslDesk$Image", "frames", "[LFaslDesk$Frame;", true)
def xv_T10 : u_T := fun k => match k with
  | 0 => ("FaslDesk", "draft", "LFaslDesk$Form;", true)
  | 1 => ("FaslDesk", "interpreter", "LFaslDesk$Interpreter;", true)
  | 2 => ("FaslDesk", "compiler", "LFaslDesk$Compiler;", true)
  | 3 => ("FaslDesk", "archive", "LFaslDesk$Archive;", true)
  | 4 => ("FaslDesk", "image", "LFaslDesk$Image;", true)
  | 5 => ("FaslDesk", "imagesMade", "I", false)
  | 6 => ("FaslDesk", "faultsFound", "I", false)
  | _ => ("FaslDesk", "latestFaultAt", "I", false)
def xv_T11 : u_T := fun k => match k with
  | 0 => ("FaslDeskModel", "op", "[I", true)
  | 1 => ("FaslDeskModel", "arg", "[I", true)
  | 2 => ("FaslDeskModel", "length", "[I", true)
  | 3 => ("FaslDeskModel", "params", "[I", true)
  | 4 => ("FaslDeskModel", "up", "[I", true)
  | 5 => ("FaslDeskModel", "part", "[I", true)
  | 6 => ("FaslDeskModel", "uOp", "[I", true)
  | 7 => ("FaslDeskModel", "uA", "[I", true)
  | 8 => ("FaslDeskModel", "uB", "[I", true)
  | 9 => ("FaslDeskModel", "many", "[I", true)
  | 10 => ("FaslDeskModel", "most", "[I", true)
  | 11 => ("FaslDeskModel", "way", "[I", true)
  | 12 => ("FaslDeskModel", "fixed", "[Z", true)
  | 13 => ("FaslDeskModel", "image", "[Z", true)
  | 14 => ("FaslDeskModel", "octet", "[Z", true)
  | 15 => ("FaslDeskModel", "sealOctet", "[Z", true)
  | 16 => ("FaslDeskModel", "number", "[I", true)
  | 17 => ("FaslDeskModel", "eParams", "[I", true)
  | 18 => ("FaslDeskModel", "named", "[I", true)
  | 19 => ("FaslDeskModel", "sealNumber", "[I", true)
  | 20 => ("FaslDeskModel", "sealOp", "[I", true)
  | 21 => ("FaslDeskModel", "iParams", "[I", true)
  | 22 => ("FaslDeskModel", "stack", "[I", true)
  | 23 => ("FaslDeskModel", "local", "[I", true)
  | 24 => ("FaslDeskModel", "at", "[I", true)
  | 25 => ("FaslDeskModel", "who", "[I", true)
  | 26 => ("FaslDeskModel", "open", "[I", true)
  | 27 => ("FaslDeskModel", "stage", "[I", true)
  | 28 => ("FaslDeskModel", "patch", "[I", true)
  | 29 => ("FaslDeskModel", "magic", "I", false)
  | 30 => ("FaslDeskModel", "claimed", "I", false)
  | 31 => ("FaslDeskModel", "entries", "I", false)
  | 32 => ("FaslDeskModel", "images", "I", false)
  | 33 => ("FaslDeskModel", "faults", "I", false)
  | 34 => ("FaslDeskModel", "faultEntry", "I", false)
  | 35 => ("FaslDeskModel", "thrown", "I", false)
  | _ => ("FaslDeskModel", "units", "I", false)
def xv_Tx : u_T := fun _ => ("", "", "", false)
def xv_cl : List vw_C := [("FaslDesk$Form", xv_T0, 5), ("FaslDesk$Frame", xv_T1, 3), ("FaslDesk$OpenForms", xv_T2, 3), ("FaslDesk$Interpreter", xv_T3, 3), ("FaslDesk$Code", xv_T4, 4), ("FaslDesk$Entry", xv_T5, 10), ("FaslDesk$Compiler", xv_T6, 4), ("FaslDesk$CodeCheck", xv_T7, 4), ("FaslDesk$Archive", xv_T8, 6), ("FaslDesk$Image", xv_T9, 2), ("FaslDesk", xv_T10, 8), ("FaslDeskModel", xv_T11, 37), ("java/util/NoSuchElementException", xv_Tx, 0), ("java/lang/ArithmeticException", xv_Tx, 0), ("java/lang/IllegalStateException", xv_Tx, 0)]
abbrev xv_nc : Nat := 15
theorem xv_nc_le : xv_nc ≤ 99 := by decide
def xv_nm (ci : Nat) : String := (xv_cl.getD ci ("", xv_Tx, 0)).1
def xv_T (ci : Nat) : u_T := (xv_cl.getD ci ("", xv_Tx, 0)).2.1
def xv_nf (ci : Nat) : Nat := (xv_cl.getD ci ("", xv_Tx, 0)).2.2
def xv_ty (ci j : Nat) : FieldType := (parseFieldDescriptor (xv_T ci j).2.2.1).getD .int
def xv_rf (ci j : Nat) : Bool := (xv_ty ci j).isReference
set_option maxRecDepth 100000 in
theorem xv_cw0 : ∀ w ∈ u_ws (xv_nm 0) (xv_T 0) (xv_nf 0), w ∈ xv_BIG := by
  intro w hw
  obtain ⟨k, hk, rfl⟩ := List.mem_map.mp hw
  have hk : k < 5 := List.mem_range.mp hk
  rcases (by omega : k = 0 ∨ k = 1 ∨ k = 2 ∨ k = 3 ∨ k = 4) with rfl | rfl | rfl | rfl | rfl
  · exact xv_in 51 rfl rfl
  · exact xv_in 53 rfl rfl
  · exact xv_in 55 rfl rfl
  · exact xv_in 57 rfl rfl
  · exact xv_in 59 rfl rfl
set_option maxRecDepth 100000 in
theorem xv_cw1 : ∀ w ∈ u_ws (xv_nm 1) (xv_T 1) (xv_nf 1), w ∈ xv_BIG := by
  intro w hw
  obtain ⟨k, hk, rfl⟩ := List.mem_map.mp hw
  have hk : k < 3 := List.mem_range.mp hk
  rcases (by omega : k = 0 ∨ k = 1 ∨ k = 2) with rfl | rfl | rfl
  · exact xv_in 86 rfl rfl
  · exact xv_in 88 rfl rfl
  · exact xv_in 90 rfl rfl
set_option maxRecDepth 100000 in
theorem xv_cw2 : ∀ w ∈ u_ws (xv_nm 2) (xv_T 2) (xv_nf 2), w ∈ xv_BIG := by
  intro w hw
  obtain ⟨k, hk, rfl⟩ := List.mem_map.mp hw
  have hk : k < 3 := List.mem_range.mp hk
  rcases (by omega : k = 0 ∨ k = 1 ∨ k = 2) with rfl | rfl | rfl
  · exact xv_in 101 rfl rfl
  · exact xv_in 103 rfl rfl
  · exact xv_in 105 rfl rfl
set_option maxRecDepth 100000 in
theorem xv_cw3 : ∀ w ∈ u_ws (xv_nm 3) (xv_T 3) (xv_nf 3), w ∈ xv_BIG := by
  intro w hw
  obtain ⟨k, hk, rfl⟩ := List.mem_map.mp hw
  have hk : k < 3 := List.mem_range.mp hk
  rcases (by omega : k = 0 ∨ k = 1 ∨ k = 2) with rfl | rfl | rfl
  · exact xv_in 112 rfl rfl
  · exact xv_in 114 rfl rfl
  · exact xv_in 116 rfl rfl
set_option maxRecDepth 100000 in
theorem xv_cw4 : ∀ w ∈ u_ws (xv_nm 4) (xv_T 4) (xv_nf 4), w ∈ xv_BIG := by
  intro w hw
  obtain ⟨k, hk, rfl⟩ := List.mem_map.mp hw
  have hk : k < 4 := List.mem_range.mp hk
  rcases (by omega : k = 0 ∨ k = 1 ∨ k = 2 ∨ k = 3) with rfl | rfl | rfl | rfl
  · exact xv_in 197 rfl rfl
  · exact xv_in 199 rfl rfl
  · exact xv_in 201 rfl rfl
  · exact xv_in 203 rfl rfl
set_option maxRecDepth 100000 in
theorem xv_cw5 : ∀ w ∈ u_ws (xv_nm 5) (xv_T 5) (xv_nf 5), w ∈ xv_BIG := by
  intro w hw
  obtain ⟨k, hk, rfl⟩ := List.mem_map.mp hw
  have hk : k < 10 := List.mem_range.mp hk
  rcases (by omega : k = 0 ∨ k = 1 ∨ k = 2 ∨ k = 3 ∨ k = 4 ∨ k = 5 ∨ k = 6 ∨ k = 7 ∨ k = 8 ∨ k = 9) with rfl | rfl | rfl | rfl | rfl | rfl | rfl | rfl | rfl | rfl
  · exact xv_in 233 rfl rfl
  · exact xv_in 235 rfl rfl
  · exact xv_in 237 rfl rfl
  · exact xv_in 239 rfl rfl
  · exact xv_in 241 rfl rfl
  · exact xv_in 243 rfl rfl
  · exact xv_in 245 rfl rfl
  · exact xv_in 247 rfl rfl
  · exact xv_in 249 rfl rfl
  · exact xv_in 251 rfl rfl
set_option maxRecDepth 100000 in
theorem xv_cw6 : ∀ w ∈ u_ws (xv_nm 6) (xv_T 6) (xv_nf 6), w ∈ xv_BIG := by
  intro w hw
  obtain ⟨k, hk, rfl⟩ := List.mem_map.mp hw
  have hk : k < 4 := List.mem_range.mp hk
  rcases (by omega : k = 0 ∨ k = 1 ∨ k = 2 ∨ k = 3) with rfl | rfl | rfl | rfl
  · exact xv_in 129 rfl rfl
  · exact xv_in 131 rfl rfl
  · exact xv_in 133 rfl rfl
  · exact xv_in 135 rfl rfl
set_option maxRecDepth 100000 in
theorem xv_cw7 : ∀ w ∈ u_ws (xv_nm 7) (xv_T 7) (xv_nf 7), w ∈ xv_BIG := by
  intro w hw
  obtain ⟨k, hk, rfl⟩ := List.mem_map.mp hw
  have hk : k < 4 := List.mem_range.mp hk
  rcases (by omega : k = 0 ∨ k = 1 ∨ k = 2 ∨ k = 3) with rfl | rfl | rfl | rfl
  · exact xv_in 156 rfl rfl
  · exact xv_in 158 rfl rfl
  · exact xv_in 160 rfl rfl
  · exact xv_in 162 rfl rfl
set_option maxRecDepth 100000 in
theorem xv_cw8 : ∀ w ∈ u_ws (xv_nm 8) (xv_T 8) (xv_nf 8), w ∈ xv_BIG := by
  intro w hw
  obtain ⟨k, hk, rfl⟩ := List.mem_map.mp hw
  have hk : k < 6 := List.mem_range.mp hk
  rcases (by omega : k = 0 ∨ k = 1 ∨ k = 2 ∨ k = 3 ∨ k = 4 ∨ k = 5) with rfl | rfl | rfl | rfl | rfl | rfl
  · exact xv_in 268 rfl rfl
  · exact xv_in 270 rfl rfl
  · exact xv_in 272 rfl rfl
  · exact xv_in 274 rfl rfl
  · exact xv_in 276 rfl rfl
  · exact xv_in 278 rfl rfl
set_option maxRecDepth 100000 in
theorem xv_cw9 : ∀ w ∈ u_ws (xv_nm 9) (xv_T 9) (xv_nf 9), w ∈ xv_BIG := by
  intro w hw
  obtain ⟨k, hk, rfl⟩ := List.mem_map.mp hw
  have hk : k < 2 := List.mem_range.mp hk
  rcases (by omega : k = 0 ∨ k = 1) with rfl | rfl
  · exact xv_in 294 rfl rfl
  · exact xv_in 296 rfl rfl
set_option maxRecDepth 100000 in
theorem xv_cw10 : ∀ w ∈ u_ws (xv_nm 10) (xv_T 10) (xv_nf 10), w ∈ xv_BIG := by
  intro w hw
  obtain ⟨k, hk, rfl⟩ := List.mem_map.mp hw
  have hk : k < 8 := List.mem_range.mp hk
  rcases (by omega : k = 0 ∨ k = 1 ∨ k = 2 ∨ k = 3 ∨ k = 4 ∨ k = 5 ∨ k = 6 ∨ k = 7) with rfl | rfl | rfl | rfl | rfl | rfl | rfl | rfl
  · exact xv_in 307 rfl rfl
  · exact xv_in 309 rfl rfl
  · exact xv_in 311 rfl rfl
  · exact xv_in 313 rfl rfl
  · exact xv_in 315 rfl rfl
  · exact xv_in 317 rfl rfl
  · exact xv_in 319 rfl rfl
  · exact xv_in 321 rfl rfl
set_option maxRecDepth 100000 in
theorem xv_cw11 : ∀ w ∈ u_ws (xv_nm 11) (xv_T 11) (xv_nf 11), w ∈ xv_BIG := by
  intro w hw
  obtain ⟨k, hk, rfl⟩ := List.mem_map.mp hw
  have hk : k < 37 := List.mem_range.mp hk
  rcases (by omega : k = 0 ∨ k = 1 ∨ k = 2 ∨ k = 3 ∨ k = 4 ∨ k = 5 ∨ k = 6 ∨ k = 7 ∨ k = 8 ∨ k = 9 ∨ k = 10 ∨ k = 11 ∨ k = 12 ∨ k = 13 ∨ k = 14 ∨ k = 15 ∨ k = 16 ∨ k = 17 ∨ k = 18 ∨ k = 19 ∨ k = 20 ∨ k = 21 ∨ k = 22 ∨ k = 23 ∨ k = 24 ∨ k = 25 ∨ k = 26 ∨ k = 27 ∨ k = 28 ∨ k = 29 ∨ k = 30 ∨ k = 31 ∨ k = 32 ∨ k = 33 ∨ k = 34 ∨ k = 35 ∨ k = 36) with rfl | rfl | rfl | rfl | rfl | rfl | rfl | rfl | rfl | rfl | rfl | rfl | rfl | rfl | rfl | rfl | rfl | rfl | rfl | rfl | rfl | rfl | rfl | rfl | rfl | rfl | rfl | rfl | rfl | rfl | rfl | rfl | rfl | rfl | rfl | rfl | rfl
  · exact xv_in 851 rfl rfl
  · exact xv_in 853 rfl rfl
  · exact xv_in 855 rfl rfl
  · exact xv_in 857 rfl rfl
  · exact xv_in 859 rfl rfl
  · exact xv_in 861 rfl rfl
  · exact xv_in 863 rfl rfl
  · exact xv_in 865 rfl rfl
  · exact xv_in 867 rfl rfl
  · exact xv_in 869 rfl rfl
  · exact xv_in 871 rfl rfl
  · exact xv_in 873 rfl rfl
  · exact xv_in 875 rfl rfl
  · exact xv_in 877 rfl rfl
  · exact xv_in 879 rfl rfl
  · exact xv_in 881 rfl rfl
  · exact xv_in 883 rfl rfl
  · exact xv_in 885 rfl rfl
  · exact xv_in 887 rfl rfl
  · exact xv_in 889 rfl rfl
  · exact xv_in 891 rfl rfl
  · exact xv_in 893 rfl rfl
  · exact xv_in 895 rfl rfl
  · exact xv_in 897 rfl rfl
  · exact xv_in 899 rfl rfl
  · exact xv_in 901 rfl rfl
  · exact xv_in 903 rfl rfl
  · exact xv_in 905 rfl rfl
  · exact xv_in 907 rfl rfl
  · exact xv_in 909 rfl rfl
  · exact xv_in 911 rfl rfl
  · exact xv_in 913 rfl rfl
  · exact xv_in 915 rfl rfl
  · exact xv_in 917 rfl rfl
  · exact xv_in 919 rfl rfl
  · exact xv_in 921 rfl rfl
  · exact xv_in 923 rfl rfl
set_option maxRecDepth 100000 in
theorem xv_cls (ci : Nat) (hc : ci < xv_nc) : (∀ w ∈ u_ws (xv_nm ci) (xv_T ci) (xv_nf ci), w ∈ xv_BIG) ∧ (∀ k, k < xv_nf ci → parseFieldDescriptor (xv_T ci k).2.2.1 = some (xv_ty ci k)) ∧ (∀ a, a < xv_nf ci → ∀ b, b < xv_nf ci → a ≠ b → (xv_T ci a).2.1 ≠ (xv_T ci b).2.1) := by
  rcases (by unfold xv_nc at hc; omega : ci = 0 ∨ ci = 1 ∨ ci = 2 ∨ ci = 3 ∨ ci = 4 ∨ ci = 5 ∨ ci = 6 ∨ ci = 7 ∨ ci = 8 ∨ ci = 9 ∨ ci = 10 ∨ ci = 11 ∨ ci = 12 ∨ ci = 13 ∨ ci = 14) with rfl | rfl | rfl | rfl | rfl | rfl | rfl | rfl | rfl | rfl | rfl | rfl | rfl | rfl | rfl
  · exact ⟨xv_cw0, by decide +kernel, by decide +kernel⟩
  · exact ⟨xv_cw1, by decide +kernel, by decide +kernel⟩
  · exact ⟨xv_cw2, by decide +kernel, by decide +kernel⟩
  · exact ⟨xv_cw3, by decide +kernel, by decide +kernel⟩
  · exact ⟨xv_cw4, by decide +kernel, by decide +kernel⟩
  · exact ⟨xv_cw5, by decide +kernel, by decide +kernel⟩
  · exact ⟨xv_cw6, by decide +kernel, by decide +kernel⟩
  · exact ⟨xv_cw7, by decide +kernel, by decide +kernel⟩
  · exact ⟨xv_cw8, by decide +kernel, by decide +kernel⟩
  · exact ⟨xv_cw9, by decide +kernel, by decide +kernel⟩
  · exact ⟨xv_cw10, by decide +kernel, by decide +kernel⟩
  · exact ⟨xv_cw11, by decide +kernel, by decide +kernel⟩
  · exact ⟨by decide +kernel, by decide +kernel, by decide +kernel⟩
  · exact ⟨by decide +kernel, by decide +kernel, by decide +kernel⟩
  · exact ⟨by decide +kernel, by decide +kernel, by decide +kernel⟩
theorem xv_cls4 (ci : Nat) (hc : ci < xv_nc) : ∀ j, j < xv_nf ci → defaultValue (xv_ty ci j) = if xv_rf ci j = true then Value.null else Value.int 0 := by
  rcases (by unfold xv_nc at hc; omega : ci = 0 ∨ ci = 1 ∨ ci = 2 ∨ ci = 3 ∨ ci = 4 ∨ ci = 5 ∨ ci = 6 ∨ ci = 7 ∨ ci = 8 ∨ ci = 9 ∨ ci = 10 ∨ ci = 11 ∨ ci = 12 ∨ ci = 13 ∨ ci = 14) with rfl | rfl | rfl | rfl | rfl | rfl | rfl | rfl | rfl | rfl | rfl | rfl | rfl | rfl | rfl
  · decide +kernel
  · decide +kernel
  · decide +kernel
  · decide +kernel
  · decide +kernel
  · decide +kernel
  · decide +kernel
  · decide +kernel
  · decide +kernel
  · decide +kernel
  · decide +kernel
  · decide +kernel
  · decide +kernel
  · decide +kernel
  · decide +kernel
abbrev xv_ns : Nat := 3
def xv_sC (k : Nat) : String := match k with
  | 0 => "FaslDesk$Form"
  | 1 => "FaslDesk$Code"
  | _ => "FaslDesk$Code"
def xv_sn (k : Nat) : String := match k with
  | 0 => "PARTS"
  | 1 => "TAKES"
  | _ => "LEAVES"
def xv_sL (k : Nat) : List Int32 := match k with
  | 0 => [0, 0, 2, 2, 2, 2, 2, 2, 2, 2, 2, 2, 1, 3, 2, 1, 2, 3]
  | 1 => [0, 0, 2, 2, 2, 2, 2, 2, 2, 2, 2, 2, 1, 1, 1, 0, 3, 1, 1, 1, 2, 0]
  | _ => [1, 1, 1, 1, 1, 1, 1, 1, 1, 1, 1, 1, 1, 0, 0, 0, 1, 0, 0, 2, 2, 0]
def xv_sN (k : Nat) : Nat := (xv_sL k).length
def xv_sf (k j : Nat) : Int32 := (xv_sL k).getD j 0
end
section
/-! methods: codes, names, decode rows -/
abbrev b_Desk_init : ByteArray := prog_1_method_1_code
abbrev J_Desk_init : MethodName × ByteArray × Nat × Option FieldType := (⟨"FaslDesk", "<init>", "()V"⟩, b_Desk_init, 1, none)
theorem d_Desk_init_0 : decode b_Desk_init 0 = .ok (.aload_n 0, 1) := by decide +kernel
theorem d_Desk_init_1 : decode b_Desk_init 1 = .ok (.invokespecial 1, 3) := by decide +kernel
theorem d_Desk_init_4 : decode b_Desk_init 4 = .ok (.aload_n 0, 1) := by decide +kernel
theorem d_Desk_init_5 : decode b_Desk_init 5 = .ok (.new 7, 3) := by decide +kernel
theorem d_Desk_init_8 : decode b_Desk_init 8 = .ok (.dup, 1) := by decide +kernel
theorem d_Desk_init_9 : decode b_Desk_init 9 = .ok (.invokespecial 9, 3) := by decide +kernel
theorem d_Desk_init_12 : decode b_Desk_init 12 = .ok (.putfield 10, 3) := by decide +kernel
theorem d_Desk_init_15 : decode b_Desk_init 15 = .ok (.aload_n 0, 1) := by decide +kernel
theorem d_Desk_init_16 : decode b_Desk_init 16 = .ok (.new 16, 3) := by decide +kernel
theorem d_Desk_init_19 : decode b_Desk_init 19 = .ok (.dup, 1) := by decide +kernel
theorem d_Desk_init_20 : decode b_Desk_init 20 = .ok (.invokespecial 18, 3) := by decide +kernel
theorem d_Desk_init_23 : decode b_Desk_init 23 = .ok (.putfield 19, 3) := by decide +kernel
theorem d_Desk_init_26 : decode b_Desk_init 26 = .ok (.aload_n 0, 1) := by decide +kernel
theorem d_Desk_init_27 : decode b_Desk_init 27 = .ok (.new 23, 3) := by decide +kernel
theorem d_Desk_init_30 : decode b_Desk_init 30 = .ok (.dup, 1) := by decide +kernel
theorem d_Desk_init_31 : decode b_Desk_init 31 = .ok (.invokespecial 25, 3) := by decide +kernel
theorem d_Desk_init_34 : decode b_Desk_init 34 = .ok (.putfield 26, 3) := by decide +kernel
theorem d_Desk_init_37 : decode b_Desk_init 37 = .ok (.aload_n 0, 1) := by decide +kernel
theorem d_Desk_init_38 : decode b_Desk_init 38 = .ok (.new 30, 3) := by decide +kernel
theorem d_Desk_init_41 : decode b_Desk_init 41 = .ok (.dup, 1) := by decide +kernel
theorem d_Desk_init_42 : decode b_Desk_init 42 = .ok (.invokespecial 32, 3) := by decide +kernel
theorem d_Desk_init_45 : decode b_Desk_init 45 = .ok (.putfield 33, 3) := by decide +kernel
theorem d_Desk_init_48 : decode b_Desk_init 48 = .ok (.aload_n 0, 1) := by decide +kernel
theorem d_Desk_init_49 : decode b_Desk_init 49 = .ok (.new 37, 3) := by decide +kernel
theorem d_Desk_init_52 : decode b_Desk_init 52 = .ok (.dup, 1) := by decide +kernel
theorem d_Desk_init_53 : decode b_Desk_init 53 = .ok (.invokespecial 39, 3) := by decide +kernel
theorem d_Desk_init_56 : decode b_Desk_init 56 = .ok (.putfield 40, 3) := by decide +kernel
theorem d_Desk_init_59 : decode b_Desk_init 59 = .ok (.aload_n 0, 1) := by decide +kernel
theorem d_Desk_init_60 : decode b_Desk_init 60 = .ok (.iconst (-1), 1) := by decide +kernel
theorem d_Desk_init_61 : decode b_Desk_init 61 = .ok (.putfield 44, 3) := by decide +kernel
theorem d_Desk_init_64 : decode b_Desk_init 64 = .ok (.return_, 1) := by decide +kernel
abbrev b_Desk_token : ByteArray := prog_1_method_2_code
abbrev J_Desk_token : MethodName × ByteArray × Nat × Option FieldType := (⟨"FaslDesk", "token", "(II)I"⟩, b_Desk_token, 3, (some .int))
theorem d_Desk_token_0 : decode b_Desk_token 0 = .ok (.iload_n 1, 1) := by decide +kernel
theorem d_Desk_token_1 : decode b_Desk_token 1 = .ok (.iload_n 2, 1) := by decide +kernel
theorem d_Desk_token_2 : decode b_Desk_token 2 = .ok (.invokestatic 48, 3) := by decide +kernel
theorem d_Desk_token_5 : decode b_Desk_token 5 = .ok (.ifCond .ne 5, 3) := by decide +kernel
theorem d_Desk_token_8 : decode b_Desk_token 8 = .ok (.iconst (-1), 1) := by decide +kernel
theorem d_Desk_token_9 : decode b_Desk_token 9 = .ok (.ireturn, 1) := by decide +kernel
theorem d_Desk_token_10 : decode b_Desk_token 10 = .ok (.aload_n 0, 1) := by decide +kernel
theorem d_Desk_token_11 : decode b_Desk_token 11 = .ok (.getfield 10, 3) := by decide +kernel
theorem d_Desk_token_14 : decode b_Desk_token 14 = .ok (.getfield 52, 3) := by decide +kernel
theorem d_Desk_token_17 : decode b_Desk_token 17 = .ok (.bipush 40, 2) := by decide +kernel
theorem d_Desk_token_19 : decode b_Desk_token 19 = .ok (.if_icmp .lt 6, 3) := by decide +kernel
theorem d_Desk_token_22 : decode b_Desk_token 22 = .ok (.bipush (-2), 2) := by decide +kernel
theorem d_Desk_token_24 : decode b_Desk_token 24 = .ok (.ireturn, 1) := by decide +kernel
theorem d_Desk_token_25 : decode b_Desk_token 25 = .ok (.aload_n 0, 1) := by decide +kernel
theorem d_Desk_token_26 : decode b_Desk_token 26 = .ok (.getfield 10, 3) := by decide +kernel
theorem d_Desk_token_29 : decode b_Desk_token 29 = .ok (.iload_n 1, 1) := by decide +kernel
theorem d_Desk_token_30 : decode b_Desk_token 30 = .ok (.iload_n 2, 1) := by decide +kernel
theorem d_Desk_token_31 : decode b_Desk_token 31 = .ok (.invokevirtual 55, 3) := by decide +kernel
theorem d_Desk_token_34 : decode b_Desk_token 34 = .ok (.aload_n 0, 1) := by decide +kernel
theorem d_Desk_token_35 : decode b_Desk_token 35 = .ok (.getfield 10, 3) := by decide +kernel
theorem d_Desk_token_38 : decode b_Desk_token 38 = .ok (.getfield 52, 3) := by decide +kernel
theorem d_Desk_token_41 : decode b_Desk_token 41 = .ok (.ireturn, 1) := by decide +kernel
abbrev b_Desk_define : ByteArray := prog_1_method_3_code
abbrev J_Desk_define : MethodName × ByteArray × Nat × Option FieldType := (⟨"FaslDesk", "define", "(II)I"⟩, b_Desk_define, 3, (some .int))
theorem d_Desk_define_0 : decode b_Desk_define 0 = .ok (.iload_n 1, 1) := by decide +kernel
theorem d_Desk_define_1 : decode b_Desk_define 1 = .ok (.iconst 0, 1) := by decide +kernel
theorem d_Desk_define_2 : decode b_Desk_define 2 = .ok (.bipush 7, 2) := by decide +kernel
theorem d_Desk_define_4 : decode b_Desk_define 4 = .ok (.invokestatic 59, 3) := by decide +kernel
theorem d_Desk_define_7 : decode b_Desk_define 7 = .ok (.ifCond .eq 24, 3) := by decide +kernel
theorem d_Desk_define_10 : decode b_Desk_define 10 = .ok (.iload_n 2, 1) := by decide +kernel
theorem d_Desk_define_11 : decode b_Desk_define 11 = .ok (.iconst 0, 1) := by decide +kernel
theorem d_Desk_define_12 : decode b_Desk_define 12 = .ok (.iconst 3, 1) := by decide +kernel
theorem d_Desk_define_13 : decode b_Desk_define 13 = .ok (.invokestatic 59, 3) := by decide +kernel
theorem d_Desk_define_16 : decode b_Desk_define 16 = .ok (.ifCond .eq 15, 3) := by decide +kernel
theorem d_Desk_define_19 : decode b_Desk_define 19 = .ok (.aload_n 0, 1) := by decide +kernel
theorem d_Desk_define_20 : decode b_Desk_define 20 = .ok (.getfield 10, 3) := by decide +kernel
theorem d_Desk_define_23 : decode b_Desk_define 23 = .ok (.iload_n 1, 1) := by decide +kernel
theorem d_Desk_define_24 : decode b_Desk_define 24 = .ok (.iload_n 2, 1) := by decide +kernel
theorem d_Desk_define_25 : decode b_Desk_define 25 = .ok (.invokevirtual 63, 3) := by decide +kernel
theorem d_Desk_define_28 : decode b_Desk_define 28 = .ok (.ifCond .ne 5, 3) := by decide +kernel
theorem d_Desk_define_31 : decode b_Desk_define 31 = .ok (.iconst (-1), 1) := by decide +kernel
theorem d_Desk_define_32 : decode b_Desk_define 32 = .ok (.ireturn, 1) := by decide +kernel
theorem d_Desk_define_33 : decode b_Desk_define 33 = .ok (.aload_n 0, 1) := by decide +kernel
theorem d_Desk_define_34 : decode b_Desk_define 34 = .ok (.getfield 19, 3) := by decide +kernel
theorem d_Desk_define_37 : decode b_Desk_define 37 = .ok (.getfield 66, 3) := by decide +kernel
theorem d_Desk_define_40 : decode b_Desk_define 40 = .ok (.iload_n 1, 1) := by decide +kernel
theorem d_Desk_define_41 : decode b_Desk_define 41 = .ok (.aaload, 1) := by decide +kernel
theorem d_Desk_define_42 : decode b_Desk_define 42 = .ok (.aload_n 0, 1) := by decide +kernel
theorem d_Desk_define_43 : decode b_Desk_define 43 = .ok (.getfield 10, 3) := by decide +kernel
theorem d_Desk_define_46 : decode b_Desk_define 46 = .ok (.iload_n 2, 1) := by decide +kernel
theorem d_Desk_define_47 : decode b_Desk_define 47 = .ok (.invokevirtual 70, 3) := by decide +kernel
theorem d_Desk_define_50 : decode b_Desk_define 50 = .ok (.aload_n 0, 1) := by decide +kernel
theorem d_Desk_define_51 : decode b_Desk_define 51 = .ok (.getfield 10, 3) := by decide +kernel
theorem d_Desk_define_54 : decode b_Desk_define 54 = .ok (.iconst 0, 1) := by decide +kernel
theorem d_Desk_define_55 : decode b_Desk_define 55 = .ok (.putfield 52, 3) := by decide +kernel
theorem d_Desk_define_58 : decode b_Desk_define 58 = .ok (.aload_n 0, 1) := by decide +kernel
theorem d_Desk_define_59 : decode b_Desk_define 59 = .ok (.getfield 19, 3) := by decide +kernel
theorem d_Desk_define_62 : decode b_Desk_define 62 = .ok (.getfield 66, 3) := by decide +kernel
theorem d_Desk_define_65 : decode b_Desk_define 65 = .ok (.iload_n 1, 1) := by decide +kernel
theorem d_Desk_define_66 : decode b_Desk_define 66 = .ok (.aaload, 1) := by decide +kernel
theorem d_Desk_define_67 : decode b_Desk_define 67 = .ok (.getfield 52, 3) := by decide +kernel
theorem d_Desk_define_70 : decode b_Desk_define 70 = .ok (.ireturn, 1) := by decide +kernel
abbrev b_Desk_clear : ByteArray := prog_1_method_4_code
abbrev J_Desk_clear : MethodName × ByteArray × Nat × Option FieldType := (⟨"FaslDesk", "clear", "()I"⟩, b_Desk_clear, 2, (some .int))
theorem d_Desk_clear_0 : decode b_Desk_clear 0 = .ok (.aload_n 0, 1) := by decide +kernel
theorem d_Desk_clear_1 : decode b_Desk_clear 1 = .ok (.getfield 10, 3) := by decide +kernel
theorem d_Desk_clear_4 : decode b_Desk_clear 4 = .ok (.getfield 52, 3) := by decide +kernel
theorem d_Desk_clear_7 : decode b_Desk_clear 7 = .ok (.istore_n 1, 1) := by decide +kernel
theorem d_Desk_clear_8 : decode b_Desk_clear 8 = .ok (.aload_n 0, 1) := by decide +kernel
theorem d_Desk_clear_9 : decode b_Desk_clear 9 = .ok (.getfield 10, 3) := by decide +kernel
theorem d_Desk_clear_12 : decode b_Desk_clear 12 = .ok (.iconst 0, 1) := by decide +kernel
theorem d_Desk_clear_13 : decode b_Desk_clear 13 = .ok (.putfield 52, 3) := by decide +kernel
theorem d_Desk_clear_16 : decode b_Desk_clear 16 = .ok (.iload_n 1, 1) := by decide +kernel
theorem d_Desk_clear_17 : decode b_Desk_clear 17 = .ok (.ireturn, 1) := by decide +kernel
abbrev b_Desk_interpret : ByteArray := prog_1_method_5_code
abbrev J_Desk_interpret : MethodName × ByteArray × Nat × Option FieldType := (⟨"FaslDesk", "interpret", "(IIII)I"⟩, b_Desk_interpret, 5, (some .int))
theorem d_Desk_interpret_0 : decode b_Desk_interpret 0 = .ok (.aload_n 0, 1) := by decide +kernel
theorem d_Desk_interpret_1 : decode b_Desk_interpret 1 = .ok (.getfield 19, 3) := by decide +kernel
theorem d_Desk_interpret_4 : decode b_Desk_interpret 4 = .ok (.iload_n 1, 1) := by decide +kernel
theorem d_Desk_interpret_5 : decode b_Desk_interpret 5 = .ok (.iload_n 2, 1) := by decide +kernel
theorem d_Desk_interpret_6 : decode b_Desk_interpret 6 = .ok (.iload_n 3, 1) := by decide +kernel
theorem d_Desk_interpret_7 : decode b_Desk_interpret 7 = .ok (.iload 4, 2) := by decide +kernel
theorem d_Desk_interpret_9 : decode b_Desk_interpret 9 = .ok (.invokevirtual 74, 3) := by decide +kernel
theorem d_Desk_interpret_12 : decode b_Desk_interpret 12 = .ok (.ireturn, 1) := by decide +kernel
abbrev b_Desk_compile : ByteArray := prog_1_method_6_code
abbrev J_Desk_compile : MethodName × ByteArray × Nat × Option FieldType := (⟨"FaslDesk", "compile", "(I)I"⟩, b_Desk_compile, 3, (some .int))
theorem d_Desk_compile_0 : decode b_Desk_compile 0 = .ok (.aload_n 0, 1) := by decide +kernel
theorem d_Desk_compile_1 : decode b_Desk_compile 1 = .ok (.getfield 19, 3) := by decide +kernel
theorem d_Desk_compile_4 : decode b_Desk_compile 4 = .ok (.iload_n 1, 1) := by decide +kernel
theorem d_Desk_compile_5 : decode b_Desk_compile 5 = .ok (.invokevirtual 78, 3) := by decide +kernel
theorem d_Desk_compile_8 : decode b_Desk_compile 8 = .ok (.ifCond .ne 5, 3) := by decide +kernel
theorem d_Desk_compile_11 : decode b_Desk_compile 11 = .ok (.iconst (-1), 1) := by decide +kernel
theorem d_Desk_compile_12 : decode b_Desk_compile 12 = .ok (.ireturn, 1) := by decide +kernel
theorem d_Desk_compile_13 : decode b_Desk_compile 13 = .ok (.aload_n 0, 1) := by decide +kernel
theorem d_Desk_compile_14 : decode b_Desk_compile 14 = .ok (.getfield 33, 3) := by decide +kernel
theorem d_Desk_compile_17 : decode b_Desk_compile 17 = .ok (.iload_n 1, 1) := by decide +kernel
theorem d_Desk_compile_18 : decode b_Desk_compile 18 = .ok (.invokevirtual 82, 3) := by decide +kernel
theorem d_Desk_compile_21 : decode b_Desk_compile 21 = .ok (.istore_n 2, 1) := by decide +kernel
theorem d_Desk_compile_22 : decode b_Desk_compile 22 = .ok (.iload_n 2, 1) := by decide +kernel
theorem d_Desk_compile_23 : decode b_Desk_compile 23 = .ok (.bipush 8, 2) := by decide +kernel
theorem d_Desk_compile_25 : decode b_Desk_compile 25 = .ok (.if_icmp .lt 6, 3) := by decide +kernel
theorem d_Desk_compile_28 : decode b_Desk_compile 28 = .ok (.bipush (-2), 2) := by decide +kernel
theorem d_Desk_compile_30 : decode b_Desk_compile 30 = .ok (.ireturn, 1) := by decide +kernel
theorem d_Desk_compile_31 : decode b_Desk_compile 31 = .ok (.aload_n 0, 1) := by decide +kernel
theorem d_Desk_compile_32 : decode b_Desk_compile 32 = .ok (.getfield 26, 3) := by decide +kernel
theorem d_Desk_compile_35 : decode b_Desk_compile 35 = .ok (.aload_n 0, 1) := by decide +kernel
theorem d_Desk_compile_36 : decode b_Desk_compile 36 = .ok (.getfield 19, 3) := by decide +kernel
theorem d_Desk_compile_39 : decode b_Desk_compile 39 = .ok (.getfield 66, 3) := by decide +kernel
theorem d_Desk_compile_42 : decode b_Desk_compile 42 = .ok (.iload_n 1, 1) := by decide +kernel
theorem d_Desk_compile_43 : decode b_Desk_compile 43 = .ok (.aaload, 1) := by decide +kernel
theorem d_Desk_compile_44 : decode b_Desk_compile 44 = .ok (.aload_n 0, 1) := by decide +kernel
theorem d_Desk_compile_45 : decode b_Desk_compile 45 = .ok (.getfield 33, 3) := by decide +kernel
theorem d_Desk_compile_48 : decode b_Desk_compile 48 = .ok (.getfield 86, 3) := by decide +kernel
theorem d_Desk_compile_51 : decode b_Desk_compile 51 = .ok (.iload_n 2, 1) := by decide +kernel
theorem d_Desk_compile_52 : decode b_Desk_compile 52 = .ok (.aaload, 1) := by decide +kernel
theorem d_Desk_compile_53 : decode b_Desk_compile 53 = .ok (.invokevirtual 90, 3) := by decide +kernel
theorem d_Desk_compile_56 : decode b_Desk_compile 56 = .ok (.aload_n 0, 1) := by decide +kernel
theorem d_Desk_compile_57 : decode b_Desk_compile 57 = .ok (.getfield 33, 3) := by decide +kernel
theorem d_Desk_compile_60 : decode b_Desk_compile 60 = .ok (.getfield 86, 3) := by decide +kernel
theorem d_Desk_compile_63 : decode b_Desk_compile 63 = .ok (.iload_n 2, 1) := by decide +kernel
theorem d_Desk_compile_64 : decode b_Desk_compile 64 = .ok (.aaload, 1) := by decide +kernel
theorem d_Desk_compile_65 : decode b_Desk_compile 65 = .ok (.iload_n 1, 1) := by decide +kernel
theorem d_Desk_compile_66 : decode b_Desk_compile 66 = .ok (.invokevirtual 94, 3) := by decide +kernel
theorem d_Desk_compile_69 : decode b_Desk_compile 69 = .ok (.aload_n 0, 1) := by decide +kernel
theorem d_Desk_compile_70 : decode b_Desk_compile 70 = .ok (.getfield 33, 3) := by decide +kernel
theorem d_Desk_compile_73 : decode b_Desk_compile 73 = .ok (.iload_n 2, 1) := by decide +kernel
theorem d_Desk_compile_74 : decode b_Desk_compile 74 = .ok (.invokevirtual 100, 3) := by decide +kernel
theorem d_Desk_compile_77 : decode b_Desk_compile 77 = .ok (.iload_n 2, 1) := by decide +kernel
theorem d_Desk_compile_78 : decode b_Desk_compile 78 = .ok (.ireturn, 1) := by decide +kernel
abbrev b_Desk_damage : ByteArray := prog_1_method_7_code
abbrev J_Desk_damage : MethodName × ByteArray × Nat × Option FieldType := (⟨"FaslDesk", "damage", "(III)I"⟩, b_Desk_damage, 4, (some .int))
theorem d_Desk_damage_0 : decode b_Desk_damage 0 = .ok (.iload_n 1, 1) := by decide +kernel
theorem d_Desk_damage_1 : decode b_Desk_damage 1 = .ok (.tableswitch 66 0 4 #[35, 41, 47, 54, 60], 35) := by decide +kernel
theorem d_Desk_damage_36 : decode b_Desk_damage 36 = .ok (.aload_n 0, 1) := by decide +kernel
theorem d_Desk_damage_37 : decode b_Desk_damage 37 = .ok (.iload_n 3, 1) := by decide +kernel
theorem d_Desk_damage_38 : decode b_Desk_damage 38 = .ok (.invokevirtual 103, 3) := by decide +kernel
theorem d_Desk_damage_41 : decode b_Desk_damage 41 = .ok (.ireturn, 1) := by decide +kernel
theorem d_Desk_damage_42 : decode b_Desk_damage 42 = .ok (.aload_n 0, 1) := by decide +kernel
theorem d_Desk_damage_43 : decode b_Desk_damage 43 = .ok (.iload_n 3, 1) := by decide +kernel
theorem d_Desk_damage_44 : decode b_Desk_damage 44 = .ok (.invokevirtual 106, 3) := by decide +kernel
theorem d_Desk_damage_47 : decode b_Desk_damage 47 = .ok (.ireturn, 1) := by decide +kernel
theorem d_Desk_damage_48 : decode b_Desk_damage 48 = .ok (.aload_n 0, 1) := by decide +kernel
theorem d_Desk_damage_49 : decode b_Desk_damage 49 = .ok (.iload_n 2, 1) := by decide +kernel
theorem d_Desk_damage_50 : decode b_Desk_damage 50 = .ok (.iload_n 3, 1) := by decide +kernel
theorem d_Desk_damage_51 : decode b_Desk_damage 51 = .ok (.invokevirtual 109, 3) := by decide +kernel
theorem d_Desk_damage_54 : decode b_Desk_damage 54 = .ok (.ireturn, 1) := by decide +kernel
theorem d_Desk_damage_55 : decode b_Desk_damage 55 = .ok (.aload_n 0, 1) := by decide +kernel
theorem d_Desk_damage_56 : decode b_Desk_damage 56 = .ok (.iload_n 2, 1) := by decide +kernel
theorem d_Desk_damage_57 : decode b_Desk_damage 57 = .ok (.invokevirtual 113, 3) := by decide +kernel
theorem d_Desk_damage_60 : decode b_Desk_damage 60 = .ok (.ireturn, 1) := by decide +kernel
theorem d_Desk_damage_61 : decode b_Desk_damage 61 = .ok (.aload_n 0, 1) := by decide +kernel
theorem d_Desk_damage_62 : decode b_Desk_damage 62 = .ok (.iload_n 2, 1) := by decide +kernel
theorem d_Desk_damage_63 : decode b_Desk_damage 63 = .ok (.invokevirtual 116, 3) := by decide +kernel
theorem d_Desk_damage_66 : decode b_Desk_damage 66 = .ok (.ireturn, 1) := by decide +kernel
theorem d_Desk_damage_67 : decode b_Desk_damage 67 = .ok (.iconst (-1), 1) := by decide +kernel
theorem d_Desk_damage_68 : decode b_Desk_damage 68 = .ok (.ireturn, 1) := by decide +kernel
abbrev b_Desk_forge : ByteArray := prog_1_method_8_code
abbrev J_Desk_forge : MethodName × ByteArray × Nat × Option FieldType := (⟨"FaslDesk", "forge", "(III)I"⟩, b_Desk_forge, 6, (some .int))
theorem d_Desk_forge_0 : decode b_Desk_forge 0 = .ok (.aload_n 0, 1) := by decide +kernel
theorem d_Desk_forge_1 : decode b_Desk_forge 1 = .ok (.iload_n 1, 1) := by decide +kernel
theorem d_Desk_forge_2 : decode b_Desk_forge 2 = .ok (.iload_n 2, 1) := by decide +kernel
theorem d_Desk_forge_3 : decode b_Desk_forge 3 = .ok (.invokevirtual 119, 3) := by decide +kernel
theorem d_Desk_forge_6 : decode b_Desk_forge 6 = .ok (.ifCond .eq 10, 3) := by decide +kernel
theorem d_Desk_forge_9 : decode b_Desk_forge 9 = .ok (.iload_n 3, 1) := by decide +kernel
theorem d_Desk_forge_10 : decode b_Desk_forge 10 = .ok (.invokestatic 122, 3) := by decide +kernel
theorem d_Desk_forge_13 : decode b_Desk_forge 13 = .ok (.ifCond .ne 5, 3) := by decide +kernel
theorem d_Desk_forge_16 : decode b_Desk_forge 16 = .ok (.iconst (-1), 1) := by decide +kernel
theorem d_Desk_forge_17 : decode b_Desk_forge 17 = .ok (.ireturn, 1) := by decide +kernel
theorem d_Desk_forge_18 : decode b_Desk_forge 18 = .ok (.aload_n 0, 1) := by decide +kernel
theorem d_Desk_forge_19 : decode b_Desk_forge 19 = .ok (.getfield 33, 3) := by decide +kernel
theorem d_Desk_forge_22 : decode b_Desk_forge 22 = .ok (.getfield 86, 3) := by decide +kernel
theorem d_Desk_forge_25 : decode b_Desk_forge 25 = .ok (.iload_n 1, 1) := by decide +kernel
theorem d_Desk_forge_26 : decode b_Desk_forge 26 = .ok (.aaload, 1) := by decide +kernel
theorem d_Desk_forge_27 : decode b_Desk_forge 27 = .ok (.astore 4, 2) := by decide +kernel
theorem d_Desk_forge_29 : decode b_Desk_forge 29 = .ok (.aload 4, 2) := by decide +kernel
theorem d_Desk_forge_31 : decode b_Desk_forge 31 = .ok (.getfield 127, 3) := by decide +kernel
theorem d_Desk_forge_34 : decode b_Desk_forge 34 = .ok (.getfield 131, 3) := by decide +kernel
theorem d_Desk_forge_37 : decode b_Desk_forge 37 = .ok (.iload_n 2, 1) := by decide +kernel
theorem d_Desk_forge_38 : decode b_Desk_forge 38 = .ok (.iaload, 1) := by decide +kernel
theorem d_Desk_forge_39 : decode b_Desk_forge 39 = .ok (.istore 5, 2) := by decide +kernel
theorem d_Desk_forge_41 : decode b_Desk_forge 41 = .ok (.iload 5, 2) := by decide +kernel
theorem d_Desk_forge_43 : decode b_Desk_forge 43 = .ok (.invokestatic 122, 3) := by decide +kernel
theorem d_Desk_forge_46 : decode b_Desk_forge 46 = .ok (.ifCond .eq 13, 3) := by decide +kernel
theorem d_Desk_forge_49 : decode b_Desk_forge 49 = .ok (.aload 4, 2) := by decide +kernel
theorem d_Desk_forge_51 : decode b_Desk_forge 51 = .ok (.getfield 135, 3) := by decide +kernel
theorem d_Desk_forge_54 : decode b_Desk_forge 54 = .ok (.iload_n 2, 1) := by decide +kernel
theorem d_Desk_forge_55 : decode b_Desk_forge 55 = .ok (.baload, 1) := by decide +kernel
theorem d_Desk_forge_56 : decode b_Desk_forge 56 = .ok (.ifCond .eq 5, 3) := by decide +kernel
theorem d_Desk_forge_59 : decode b_Desk_forge 59 = .ok (.iconst (-1), 1) := by decide +kernel
theorem d_Desk_forge_60 : decode b_Desk_forge 60 = .ok (.ireturn, 1) := by decide +kernel
theorem d_Desk_forge_61 : decode b_Desk_forge 61 = .ok (.aload 4, 2) := by decide +kernel
theorem d_Desk_forge_63 : decode b_Desk_forge 63 = .ok (.getfield 127, 3) := by decide +kernel
theorem d_Desk_forge_66 : decode b_Desk_forge 66 = .ok (.getfield 131, 3) := by decide +kernel
theorem d_Desk_forge_69 : decode b_Desk_forge 69 = .ok (.iload_n 2, 1) := by decide +kernel
theorem d_Desk_forge_70 : decode b_Desk_forge 70 = .ok (.iload_n 3, 1) := by decide +kernel
theorem d_Desk_forge_71 : decode b_Desk_forge 71 = .ok (.iastore, 1) := by decide +kernel
theorem d_Desk_forge_72 : decode b_Desk_forge 72 = .ok (.iload 5, 2) := by decide +kernel
theorem d_Desk_forge_74 : decode b_Desk_forge 74 = .ok (.ireturn, 1) := by decide +kernel
abbrev b_Desk_drop : ByteArray := prog_1_method_9_code
abbrev J_Desk_drop : MethodName × ByteArray × Nat × Option FieldType := (⟨"FaslDesk", "drop", "(I)I"⟩, b_Desk_drop, 2, (some .int))
theorem d_Desk_drop_0 : decode b_Desk_drop 0 = .ok (.aload_n 0, 1) := by decide +kernel
theorem d_Desk_drop_1 : decode b_Desk_drop 1 = .ok (.getfield 33, 3) := by decide +kernel
theorem d_Desk_drop_4 : decode b_Desk_drop 4 = .ok (.iload_n 1, 1) := by decide +kernel
theorem d_Desk_drop_5 : decode b_Desk_drop 5 = .ok (.invokevirtual 139, 3) := by decide +kernel
theorem d_Desk_drop_8 : decode b_Desk_drop 8 = .ok (.ifCond .eq 14, 3) := by decide +kernel
theorem d_Desk_drop_11 : decode b_Desk_drop 11 = .ok (.aload_n 0, 1) := by decide +kernel
theorem d_Desk_drop_12 : decode b_Desk_drop 12 = .ok (.getfield 33, 3) := by decide +kernel
theorem d_Desk_drop_15 : decode b_Desk_drop 15 = .ok (.iload_n 1, 1) := by decide +kernel
theorem d_Desk_drop_16 : decode b_Desk_drop 16 = .ok (.invokevirtual 140, 3) := by decide +kernel
theorem d_Desk_drop_19 : decode b_Desk_drop 19 = .ok (.goto 4, 3) := by decide +kernel
theorem d_Desk_drop_22 : decode b_Desk_drop 22 = .ok (.iconst (-1), 1) := by decide +kernel
theorem d_Desk_drop_23 : decode b_Desk_drop 23 = .ok (.ireturn, 1) := by decide +kernel
abbrev b_Desk_load : ByteArray := prog_1_method_10_code
abbrev J_Desk_load : MethodName × ByteArray × Nat × Option FieldType := (⟨"FaslDesk", "load", "()I"⟩, b_Desk_load, 2, (some .int))
theorem d_Desk_load_0 : decode b_Desk_load 0 = .ok (.aload_n 0, 1) := by decide +kernel
theorem d_Desk_load_1 : decode b_Desk_load 1 = .ok (.getfield 33, 3) := by decide +kernel
theorem d_Desk_load_4 : decode b_Desk_load 4 = .ok (.invokevirtual 143, 3) := by decide +kernel
theorem d_Desk_load_7 : decode b_Desk_load 7 = .ok (.istore_n 1, 1) := by decide +kernel
theorem d_Desk_load_8 : decode b_Desk_load 8 = .ok (.iload_n 1, 1) := by decide +kernel
theorem d_Desk_load_9 : decode b_Desk_load 9 = .ok (.ifCond .eq 26, 3) := by decide +kernel
theorem d_Desk_load_12 : decode b_Desk_load 12 = .ok (.aload_n 0, 1) := by decide +kernel
theorem d_Desk_load_13 : decode b_Desk_load 13 = .ok (.dup, 1) := by decide +kernel
theorem d_Desk_load_14 : decode b_Desk_load 14 = .ok (.getfield 147, 3) := by decide +kernel
theorem d_Desk_load_17 : decode b_Desk_load 17 = .ok (.iconst 1, 1) := by decide +kernel
theorem d_Desk_load_18 : decode b_Desk_load 18 = .ok (.iadd, 1) := by decide +kernel
theorem d_Desk_load_19 : decode b_Desk_load 19 = .ok (.putfield 147, 3) := by decide +kernel
theorem d_Desk_load_22 : decode b_Desk_load 22 = .ok (.aload_n 0, 1) := by decide +kernel
theorem d_Desk_load_23 : decode b_Desk_load 23 = .ok (.aload_n 0, 1) := by decide +kernel
theorem d_Desk_load_24 : decode b_Desk_load 24 = .ok (.getfield 33, 3) := by decide +kernel
theorem d_Desk_load_27 : decode b_Desk_load 27 = .ok (.getfield 150, 3) := by decide +kernel
theorem d_Desk_load_30 : decode b_Desk_load 30 = .ok (.putfield 44, 3) := by decide +kernel
theorem d_Desk_load_33 : decode b_Desk_load 33 = .ok (.iload_n 1, 1) := by decide +kernel
theorem d_Desk_load_34 : decode b_Desk_load 34 = .ok (.ireturn, 1) := by decide +kernel
theorem d_Desk_load_35 : decode b_Desk_load 35 = .ok (.aload_n 0, 1) := by decide +kernel
theorem d_Desk_load_36 : decode b_Desk_load 36 = .ok (.getfield 40, 3) := by decide +kernel
theorem d_Desk_load_39 : decode b_Desk_load 39 = .ok (.aload_n 0, 1) := by decide +kernel
theorem d_Desk_load_40 : decode b_Desk_load 40 = .ok (.getfield 33, 3) := by decide +kernel
theorem d_Desk_load_43 : decode b_Desk_load 43 = .ok (.invokevirtual 153, 3) := by decide +kernel
theorem d_Desk_load_46 : decode b_Desk_load 46 = .ok (.aload_n 0, 1) := by decide +kernel
theorem d_Desk_load_47 : decode b_Desk_load 47 = .ok (.dup, 1) := by decide +kernel
theorem d_Desk_load_48 : decode b_Desk_load 48 = .ok (.getfield 157, 3) := by decide +kernel
theorem d_Desk_load_51 : decode b_Desk_load 51 = .ok (.iconst 1, 1) := by decide +kernel
theorem d_Desk_load_52 : decode b_Desk_load 52 = .ok (.iadd, 1) := by decide +kernel
theorem d_Desk_load_53 : decode b_Desk_load 53 = .ok (.putfield 157, 3) := by decide +kernel
theorem d_Desk_load_56 : decode b_Desk_load 56 = .ok (.iconst 0, 1) := by decide +kernel
theorem d_Desk_load_57 : decode b_Desk_load 57 = .ok (.ireturn, 1) := by decide +kernel
abbrev b_Desk_run : ByteArray := prog_1_method_11_code
abbrev J_Desk_run : MethodName × ByteArray × Nat × Option FieldType := (⟨"FaslDesk", "run", "(IIII)I"⟩, b_Desk_run, 5, (some .int))
theorem d_Desk_run_0 : decode b_Desk_run 0 = .ok (.aload_n 0, 1) := by decide +kernel
theorem d_Desk_run_1 : decode b_Desk_run 1 = .ok (.getfield 40, 3) := by decide +kernel
theorem d_Desk_run_4 : decode b_Desk_run 4 = .ok (.iload_n 1, 1) := by decide +kernel
theorem d_Desk_run_5 : decode b_Desk_run 5 = .ok (.invokevirtual 160, 3) := by decide +kernel
theorem d_Desk_run_8 : decode b_Desk_run 8 = .ok (.ifCond .ne 13, 3) := by decide +kernel
theorem d_Desk_run_11 : decode b_Desk_run 11 = .ok (.new 161, 3) := by decide +kernel
theorem d_Desk_run_14 : decode b_Desk_run 14 = .ok (.dup, 1) := by decide +kernel
theorem d_Desk_run_15 : decode b_Desk_run 15 = .ok (.ldc 163, 2) := by decide +kernel
theorem d_Desk_run_17 : decode b_Desk_run 17 = .ok (.invokespecial 165, 3) := by decide +kernel
theorem d_Desk_run_20 : decode b_Desk_run 20 = .ok (.athrow, 1) := by decide +kernel
theorem d_Desk_run_21 : decode b_Desk_run 21 = .ok (.aload_n 0, 1) := by decide +kernel
theorem d_Desk_run_22 : decode b_Desk_run 22 = .ok (.getfield 40, 3) := by decide +kernel
theorem d_Desk_run_25 : decode b_Desk_run 25 = .ok (.iload_n 1, 1) := by decide +kernel
theorem d_Desk_run_26 : decode b_Desk_run 26 = .ok (.iload_n 2, 1) := by decide +kernel
theorem d_Desk_run_27 : decode b_Desk_run 27 = .ok (.iload_n 3, 1) := by decide +kernel
theorem d_Desk_run_28 : decode b_Desk_run 28 = .ok (.iload 4, 2) := by decide +kernel
theorem d_Desk_run_30 : decode b_Desk_run 30 = .ok (.invokevirtual 168, 3) := by decide +kernel
theorem d_Desk_run_33 : decode b_Desk_run 33 = .ok (.ireturn, 1) := by decide +kernel
abbrev b_Desk_entry : ByteArray := prog_1_method_12_code
abbrev J_Desk_entry : MethodName × ByteArray × Nat × Option FieldType := (⟨"FaslDesk", "entry", "(II)I"⟩, b_Desk_entry, 4, (some .int))
theorem d_Desk_entry_0 : decode b_Desk_entry 0 = .ok (.aload_n 0, 1) := by decide +kernel
theorem d_Desk_entry_1 : decode b_Desk_entry 1 = .ok (.getfield 33, 3) := by decide +kernel
theorem d_Desk_entry_4 : decode b_Desk_entry 4 = .ok (.iload_n 1, 1) := by decide +kernel
theorem d_Desk_entry_5 : decode b_Desk_entry 5 = .ok (.invokevirtual 139, 3) := by decide +kernel
theorem d_Desk_entry_8 : decode b_Desk_entry 8 = .ok (.ifCond .ne 5, 3) := by decide +kernel
theorem d_Desk_entry_11 : decode b_Desk_entry 11 = .ok (.iconst (-1), 1) := by decide +kernel
theorem d_Desk_entry_12 : decode b_Desk_entry 12 = .ok (.ireturn, 1) := by decide +kernel
theorem d_Desk_entry_13 : decode b_Desk_entry 13 = .ok (.aload_n 0, 1) := by decide +kernel
theorem d_Desk_entry_14 : decode b_Desk_entry 14 = .ok (.getfield 33, 3) := by decide +kernel
theorem d_Desk_entry_17 : decode b_Desk_entry 17 = .ok (.getfield 86, 3) := by decide +kernel
theorem d_Desk_entry_20 : decode b_Desk_entry 20 = .ok (.iload_n 1, 1) := by decide +kernel
theorem d_Desk_entry_21 : decode b_Desk_entry 21 = .ok (.aaload, 1) := by decide +kernel
theorem d_Desk_entry_22 : decode b_Desk_entry 22 = .ok (.astore_n 3, 1) := by decide +kernel
theorem d_Desk_entry_23 : decode b_Desk_entry 23 = .ok (.iload_n 2, 1) := by decide +kernel
theorem d_Desk_entry_24 : decode b_Desk_entry 24 = .ok (.tableswitch 81 0 5 #[40, 45, 50, 58, 63, 68], 40) := by decide +kernel
theorem d_Desk_entry_64 : decode b_Desk_entry 64 = .ok (.aload_n 3, 1) := by decide +kernel
theorem d_Desk_entry_65 : decode b_Desk_entry 65 = .ok (.getfield 169, 3) := by decide +kernel
theorem d_Desk_entry_68 : decode b_Desk_entry 68 = .ok (.ireturn, 1) := by decide +kernel
theorem d_Desk_entry_69 : decode b_Desk_entry 69 = .ok (.aload_n 3, 1) := by decide +kernel
theorem d_Desk_entry_70 : decode b_Desk_entry 70 = .ok (.getfield 172, 3) := by decide +kernel
theorem d_Desk_entry_73 : decode b_Desk_entry 73 = .ok (.ireturn, 1) := by decide +kernel
theorem d_Desk_entry_74 : decode b_Desk_entry 74 = .ok (.aload_n 3, 1) := by decide +kernel
theorem d_Desk_entry_75 : decode b_Desk_entry 75 = .ok (.getfield 127, 3) := by decide +kernel
theorem d_Desk_entry_78 : decode b_Desk_entry 78 = .ok (.getfield 175, 3) := by decide +kernel
theorem d_Desk_entry_81 : decode b_Desk_entry 81 = .ok (.ireturn, 1) := by decide +kernel
theorem d_Desk_entry_82 : decode b_Desk_entry 82 = .ok (.aload_n 3, 1) := by decide +kernel
theorem d_Desk_entry_83 : decode b_Desk_entry 83 = .ok (.getfield 176, 3) := by decide +kernel
theorem d_Desk_entry_86 : decode b_Desk_entry 86 = .ok (.ireturn, 1) := by decide +kernel
theorem d_Desk_entry_87 : decode b_Desk_entry 87 = .ok (.aload_n 3, 1) := by decide +kernel
theorem d_Desk_entry_88 : decode b_Desk_entry 88 = .ok (.getfield 179, 3) := by decide +kernel
theorem d_Desk_entry_91 : decode b_Desk_entry 91 = .ok (.ireturn, 1) := by decide +kernel
theorem d_Desk_entry_92 : decode b_Desk_entry 92 = .ok (.aload_n 3, 1) := by decide +kernel
theorem d_Desk_entry_93 : decode b_Desk_entry 93 = .ok (.invokevirtual 182, 3) := by decide +kernel
theorem d_Desk_entry_96 : decode b_Desk_entry 96 = .ok (.ifCond .eq 7, 3) := by decide +kernel
theorem d_Desk_entry_99 : decode b_Desk_entry 99 = .ok (.iconst 1, 1) := by decide +kernel
theorem d_Desk_entry_100 : decode b_Desk_entry 100 = .ok (.goto 4, 3) := by decide +kernel
theorem d_Desk_entry_103 : decode b_Desk_entry 103 = .ok (.iconst 0, 1) := by decide +kernel
theorem d_Desk_entry_104 : decode b_Desk_entry 104 = .ok (.ireturn, 1) := by decide +kernel
theorem d_Desk_entry_105 : decode b_Desk_entry 105 = .ok (.iconst (-1), 1) := by decide +kernel
theorem d_Desk_entry_106 : decode b_Desk_entry 106 = .ok (.ireturn, 1) := by decide +kernel
abbrev b_Desk_unit : ByteArray := prog_1_method_13_code
abbrev J_Desk_unit : MethodName × ByteArray × Nat × Option FieldType := (⟨"FaslDesk", "unit", "(III)I"⟩, b_Desk_unit, 5, (some .int))
theorem d_Desk_unit_0 : decode b_Desk_unit 0 = .ok (.aload_n 0, 1) := by decide +kernel
theorem d_Desk_unit_1 : decode b_Desk_unit 1 = .ok (.iload_n 1, 1) := by decide +kernel
theorem d_Desk_unit_2 : decode b_Desk_unit 2 = .ok (.iload_n 2, 1) := by decide +kernel
theorem d_Desk_unit_3 : decode b_Desk_unit 3 = .ok (.invokevirtual 119, 3) := by decide +kernel
theorem d_Desk_unit_6 : decode b_Desk_unit 6 = .ok (.ifCond .ne 5, 3) := by decide +kernel
theorem d_Desk_unit_9 : decode b_Desk_unit 9 = .ok (.iconst (-1), 1) := by decide +kernel
theorem d_Desk_unit_10 : decode b_Desk_unit 10 = .ok (.ireturn, 1) := by decide +kernel
theorem d_Desk_unit_11 : decode b_Desk_unit 11 = .ok (.aload_n 0, 1) := by decide +kernel
theorem d_Desk_unit_12 : decode b_Desk_unit 12 = .ok (.getfield 33, 3) := by decide +kernel
theorem d_Desk_unit_15 : decode b_Desk_unit 15 = .ok (.getfield 86, 3) := by decide +kernel
theorem d_Desk_unit_18 : decode b_Desk_unit 18 = .ok (.iload_n 1, 1) := by decide +kernel
theorem d_Desk_unit_19 : decode b_Desk_unit 19 = .ok (.aaload, 1) := by decide +kernel
theorem d_Desk_unit_20 : decode b_Desk_unit 20 = .ok (.getfield 127, 3) := by decide +kernel
theorem d_Desk_unit_23 : decode b_Desk_unit 23 = .ok (.astore 4, 2) := by decide +kernel
theorem d_Desk_unit_25 : decode b_Desk_unit 25 = .ok (.iload_n 3, 1) := by decide +kernel
theorem d_Desk_unit_26 : decode b_Desk_unit 26 = .ok (.tableswitch 50 0 2 #[26, 34, 42], 26) := by decide +kernel
theorem d_Desk_unit_52 : decode b_Desk_unit 52 = .ok (.aload 4, 2) := by decide +kernel
theorem d_Desk_unit_54 : decode b_Desk_unit 54 = .ok (.getfield 131, 3) := by decide +kernel
theorem d_Desk_unit_57 : decode b_Desk_unit 57 = .ok (.iload_n 2, 1) := by decide +kernel
theorem d_Desk_unit_58 : decode b_Desk_unit 58 = .ok (.iaload, 1) := by decide +kernel
theorem d_Desk_unit_59 : decode b_Desk_unit 59 = .ok (.ireturn, 1) := by decide +kernel
theorem d_Desk_unit_60 : decode b_Desk_unit 60 = .ok (.aload 4, 2) := by decide +kernel
theorem d_Desk_unit_62 : decode b_Desk_unit 62 = .ok (.getfield 186, 3) := by decide +kernel
theorem d_Desk_unit_65 : decode b_Desk_unit 65 = .ok (.iload_n 2, 1) := by decide +kernel
theorem d_Desk_unit_66 : decode b_Desk_unit 66 = .ok (.iaload, 1) := by decide +kernel
theorem d_Desk_unit_67 : decode b_Desk_unit 67 = .ok (.ireturn, 1) := by decide +kernel
theorem d_Desk_unit_68 : decode b_Desk_unit 68 = .ok (.aload 4, 2) := by decide +kernel
theorem d_Desk_unit_70 : decode b_Desk_unit 70 = .ok (.getfield 189, 3) := by decide +kernel
theorem d_Desk_unit_73 : decode b_Desk_unit 73 = .ok (.iload_n 2, 1) := by decide +kernel
theorem d_Desk_unit_74 : decode b_Desk_unit 74 = .ok (.iaload, 1) := by decide +kernel
theorem d_Desk_unit_75 : decode b_Desk_unit 75 = .ok (.ireturn, 1) := by decide +kernel
theorem d_Desk_unit_76 : decode b_Desk_unit 76 = .ok (.iconst (-1), 1) := by decide +kernel
theorem d_Desk_unit_77 : decode b_Desk_unit 77 = .ok (.ireturn, 1) := by decide +kernel
abbrev b_Desk_count : ByteArray := prog_1_method_14_code
abbrev J_Desk_count : MethodName × ByteArray × Nat × Option FieldType := (⟨"FaslDesk", "count", "(I)I"⟩, b_Desk_count, 2, (some .int))
theorem d_Desk_count_0 : decode b_Desk_count 0 = .ok (.iload_n 1, 1) := by decide +kernel
theorem d_Desk_count_1 : decode b_Desk_count 1 = .ok (.tableswitch 102 0 7 #[47, 55, 63, 71, 79, 84, 89, 94], 47) := by decide +kernel
theorem d_Desk_count_48 : decode b_Desk_count 48 = .ok (.aload_n 0, 1) := by decide +kernel
theorem d_Desk_count_49 : decode b_Desk_count 49 = .ok (.getfield 19, 3) := by decide +kernel
theorem d_Desk_count_52 : decode b_Desk_count 52 = .ok (.invokevirtual 192, 3) := by decide +kernel
theorem d_Desk_count_55 : decode b_Desk_count 55 = .ok (.ireturn, 1) := by decide +kernel
theorem d_Desk_count_56 : decode b_Desk_count 56 = .ok (.aload_n 0, 1) := by decide +kernel
theorem d_Desk_count_57 : decode b_Desk_count 57 = .ok (.getfield 33, 3) := by decide +kernel
theorem d_Desk_count_60 : decode b_Desk_count 60 = .ok (.getfield 195, 3) := by decide +kernel
theorem d_Desk_count_63 : decode b_Desk_count 63 = .ok (.ireturn, 1) := by decide +kernel
theorem d_Desk_count_64 : decode b_Desk_count 64 = .ok (.aload_n 0, 1) := by decide +kernel
theorem d_Desk_count_65 : decode b_Desk_count 65 = .ok (.getfield 33, 3) := by decide +kernel
theorem d_Desk_count_68 : decode b_Desk_count 68 = .ok (.getfield 197, 3) := by decide +kernel
theorem d_Desk_count_71 : decode b_Desk_count 71 = .ok (.ireturn, 1) := by decide +kernel
theorem d_Desk_count_72 : decode b_Desk_count 72 = .ok (.aload_n 0, 1) := by decide +kernel
theorem d_Desk_count_73 : decode b_Desk_count 73 = .ok (.getfield 40, 3) := by decide +kernel
theorem d_Desk_count_76 : decode b_Desk_count 76 = .ok (.invokevirtual 200, 3) := by decide +kernel
theorem d_Desk_count_79 : decode b_Desk_count 79 = .ok (.ireturn, 1) := by decide +kernel
theorem d_Desk_count_80 : decode b_Desk_count 80 = .ok (.aload_n 0, 1) := by decide +kernel
theorem d_Desk_count_81 : decode b_Desk_count 81 = .ok (.getfield 157, 3) := by decide +kernel
theorem d_Desk_count_84 : decode b_Desk_count 84 = .ok (.ireturn, 1) := by decide +kernel
theorem d_Desk_count_85 : decode b_Desk_count 85 = .ok (.aload_n 0, 1) := by decide +kernel
theorem d_Desk_count_86 : decode b_Desk_count 86 = .ok (.getfield 147, 3) := by decide +kernel
theorem d_Desk_count_89 : decode b_Desk_count 89 = .ok (.ireturn, 1) := by decide +kernel
theorem d_Desk_count_90 : decode b_Desk_count 90 = .ok (.aload_n 0, 1) := by decide +kernel
theorem d_Desk_count_91 : decode b_Desk_count 91 = .ok (.getfield 44, 3) := by decide +kernel
theorem d_Desk_count_94 : decode b_Desk_count 94 = .ok (.ireturn, 1) := by decide +kernel
theorem d_Desk_count_95 : decode b_Desk_count 95 = .ok (.aload_n 0, 1) := by decide +kernel
theorem d_Desk_count_96 : decode b_Desk_count 96 = .ok (.getfield 10, 3) := by decide +kernel
theorem d_Desk_count_99 : decode b_Desk_count 99 = .ok (.getfield 52, 3) := by decide +kernel
theorem d_Desk_count_102 : decode b_Desk_count 102 = .ok (.ireturn, 1) := by decide +kernel
theorem d_Desk_count_103 : decode b_Desk_count 103 = .ok (.iconst (-1), 1) := by decide +kernel
theorem d_Desk_count_104 : decode b_Desk_count 104 = .ok (.ireturn, 1) := by decide +kernel
abbrev b_Desk_damageMagic : ByteArray := prog_1_method_15_code
abbrev J_Desk_damageMagic : MethodName × ByteArray × Nat × Option FieldType := (⟨"FaslDesk", "damageMagic", "(I)I"⟩, b_Desk_damageMagic, 2, (some .int))
theorem d_Desk_damageMagic_0 : decode b_Desk_damageMagic 0 = .ok (.iload_n 1, 1) := by decide +kernel
theorem d_Desk_damageMagic_1 : decode b_Desk_damageMagic 1 = .ok (.iconst 0, 1) := by decide +kernel
theorem d_Desk_damageMagic_2 : decode b_Desk_damageMagic 2 = .ok (.bipush 7, 2) := by decide +kernel
theorem d_Desk_damageMagic_4 : decode b_Desk_damageMagic 4 = .ok (.invokestatic 59, 3) := by decide +kernel
theorem d_Desk_damageMagic_7 : decode b_Desk_damageMagic 7 = .ok (.ifCond .ne 5, 3) := by decide +kernel
theorem d_Desk_damageMagic_10 : decode b_Desk_damageMagic 10 = .ok (.iconst (-1), 1) := by decide +kernel
theorem d_Desk_damageMagic_11 : decode b_Desk_damageMagic 11 = .ok (.ireturn, 1) := by decide +kernel
theorem d_Desk_damageMagic_12 : decode b_Desk_damageMagic 12 = .ok (.aload_n 0, 1) := by decide +kernel
theorem d_Desk_damageMagic_13 : decode b_Desk_damageMagic 13 = .ok (.getfield 33, 3) := by decide +kernel
theorem d_Desk_damageMagic_16 : decode b_Desk_damageMagic 16 = .ok (.iload_n 1, 1) := by decide +kernel
theorem d_Desk_damageMagic_17 : decode b_Desk_damageMagic 17 = .ok (.putfield 201, 3) := by decide +kernel
theorem d_Desk_damageMagic_20 : decode b_Desk_damageMagic 20 = .ok (.iconst 1, 1) := by decide +kernel
theorem d_Desk_damageMagic_21 : decode b_Desk_damageMagic 21 = .ok (.ireturn, 1) := by decide +kernel
abbrev b_Desk_damageStated : ByteArray := prog_1_method_16_code
abbrev J_Desk_damageStated : MethodName × ByteArray × Nat × Option FieldType := (⟨"FaslDesk", "damageStated", "(I)I"⟩, b_Desk_damageStated, 2, (some .int))
theorem d_Desk_damageStated_0 : decode b_Desk_damageStated 0 = .ok (.iload_n 1, 1) := by decide +kernel
theorem d_Desk_damageStated_1 : decode b_Desk_damageStated 1 = .ok (.iconst 0, 1) := by decide +kernel
theorem d_Desk_damageStated_2 : decode b_Desk_damageStated 2 = .ok (.bipush 9, 2) := by decide +kernel
theorem d_Desk_damageStated_4 : decode b_Desk_damageStated 4 = .ok (.invokestatic 59, 3) := by decide +kernel
theorem d_Desk_damageStated_7 : decode b_Desk_damageStated 7 = .ok (.ifCond .ne 5, 3) := by decide +kernel
theorem d_Desk_damageStated_10 : decode b_Desk_damageStated 10 = .ok (.iconst (-1), 1) := by decide +kernel
theorem d_Desk_damageStated_11 : decode b_Desk_damageStated 11 = .ok (.ireturn, 1) := by decide +kernel
theorem d_Desk_damageStated_12 : decode b_Desk_damageStated 12 = .ok (.aload_n 0, 1) := by decide +kernel
theorem d_Desk_damageStated_13 : decode b_Desk_damageStated 13 = .ok (.getfield 33, 3) := by decide +kernel
theorem d_Desk_damageStated_16 : decode b_Desk_damageStated 16 = .ok (.iload_n 1, 1) := by decide +kernel
theorem d_Desk_damageStated_17 : decode b_Desk_damageStated 17 = .ok (.putfield 197, 3) := by decide +kernel
theorem d_Desk_damageStated_20 : decode b_Desk_damageStated 20 = .ok (.iconst 1, 1) := by decide +kernel
theorem d_Desk_damageStated_21 : decode b_Desk_damageStated 21 = .ok (.ireturn, 1) := by decide +kernel
abbrev b_Desk_damageNumber : ByteArray := prog_1_method_17_code
abbrev J_Desk_damageNumber : MethodName × ByteArray × Nat × Option FieldType := (⟨"FaslDesk", "damageNumber", "(II)I"⟩, b_Desk_damageNumber, 3, (some .int))
theorem d_Desk_damageNumber_0 : decode b_Desk_damageNumber 0 = .ok (.aload_n 0, 1) := by decide +kernel
theorem d_Desk_damageNumber_1 : decode b_Desk_damageNumber 1 = .ok (.getfield 33, 3) := by decide +kernel
theorem d_Desk_damageNumber_4 : decode b_Desk_damageNumber 4 = .ok (.iload_n 1, 1) := by decide +kernel
theorem d_Desk_damageNumber_5 : decode b_Desk_damageNumber 5 = .ok (.invokevirtual 139, 3) := by decide +kernel
theorem d_Desk_damageNumber_8 : decode b_Desk_damageNumber 8 = .ok (.ifCond .eq 13, 3) := by decide +kernel
theorem d_Desk_damageNumber_11 : decode b_Desk_damageNumber 11 = .ok (.iload_n 2, 1) := by decide +kernel
theorem d_Desk_damageNumber_12 : decode b_Desk_damageNumber 12 = .ok (.iconst 0, 1) := by decide +kernel
theorem d_Desk_damageNumber_13 : decode b_Desk_damageNumber 13 = .ok (.bipush 7, 2) := by decide +kernel
theorem d_Desk_damageNumber_15 : decode b_Desk_damageNumber 15 = .ok (.invokestatic 59, 3) := by decide +kernel
theorem d_Desk_damageNumber_18 : decode b_Desk_damageNumber 18 = .ok (.ifCond .ne 5, 3) := by decide +kernel
theorem d_Desk_damageNumber_21 : decode b_Desk_damageNumber 21 = .ok (.iconst (-1), 1) := by decide +kernel
theorem d_Desk_damageNumber_22 : decode b_Desk_damageNumber 22 = .ok (.ireturn, 1) := by decide +kernel
theorem d_Desk_damageNumber_23 : decode b_Desk_damageNumber 23 = .ok (.aload_n 0, 1) := by decide +kernel
theorem d_Desk_damageNumber_24 : decode b_Desk_damageNumber 24 = .ok (.getfield 33, 3) := by decide +kernel
theorem d_Desk_damageNumber_27 : decode b_Desk_damageNumber 27 = .ok (.getfield 86, 3) := by decide +kernel
theorem d_Desk_damageNumber_30 : decode b_Desk_damageNumber 30 = .ok (.iload_n 1, 1) := by decide +kernel
theorem d_Desk_damageNumber_31 : decode b_Desk_damageNumber 31 = .ok (.aaload, 1) := by decide +kernel
theorem d_Desk_damageNumber_32 : decode b_Desk_damageNumber 32 = .ok (.iload_n 2, 1) := by decide +kernel
theorem d_Desk_damageNumber_33 : decode b_Desk_damageNumber 33 = .ok (.putfield 169, 3) := by decide +kernel
theorem d_Desk_damageNumber_36 : decode b_Desk_damageNumber 36 = .ok (.iconst 1, 1) := by decide +kernel
theorem d_Desk_damageNumber_37 : decode b_Desk_damageNumber 37 = .ok (.ireturn, 1) := by decide +kernel
abbrev b_Desk_damageOctet : ByteArray := prog_1_method_18_code
abbrev J_Desk_damageOctet : MethodName × ByteArray × Nat × Option FieldType := (⟨"FaslDesk", "damageOctet", "(I)I"⟩, b_Desk_damageOctet, 3, (some .int))
theorem d_Desk_damageOctet_0 : decode b_Desk_damageOctet 0 = .ok (.aload_n 0, 1) := by decide +kernel
theorem d_Desk_damageOctet_1 : decode b_Desk_damageOctet 1 = .ok (.getfield 33, 3) := by decide +kernel
theorem d_Desk_damageOctet_4 : decode b_Desk_damageOctet 4 = .ok (.iload_n 1, 1) := by decide +kernel
theorem d_Desk_damageOctet_5 : decode b_Desk_damageOctet 5 = .ok (.invokevirtual 139, 3) := by decide +kernel
theorem d_Desk_damageOctet_8 : decode b_Desk_damageOctet 8 = .ok (.ifCond .ne 5, 3) := by decide +kernel
theorem d_Desk_damageOctet_11 : decode b_Desk_damageOctet 11 = .ok (.iconst (-1), 1) := by decide +kernel
theorem d_Desk_damageOctet_12 : decode b_Desk_damageOctet 12 = .ok (.ireturn, 1) := by decide +kernel
theorem d_Desk_damageOctet_13 : decode b_Desk_damageOctet 13 = .ok (.aload_n 0, 1) := by decide +kernel
theorem d_Desk_damageOctet_14 : decode b_Desk_damageOctet 14 = .ok (.getfield 33, 3) := by decide +kernel
theorem d_Desk_damageOctet_17 : decode b_Desk_damageOctet 17 = .ok (.getfield 86, 3) := by decide +kernel
theorem d_Desk_damageOctet_20 : decode b_Desk_damageOctet 20 = .ok (.iload_n 1, 1) := by decide +kernel
theorem d_Desk_damageOctet_21 : decode b_Desk_damageOctet 21 = .ok (.aaload, 1) := by decide +kernel
theorem d_Desk_damageOctet_22 : decode b_Desk_damageOctet 22 = .ok (.astore_n 2, 1) := by decide +kernel
theorem d_Desk_damageOctet_23 : decode b_Desk_damageOctet 23 = .ok (.aload_n 2, 1) := by decide +kernel
theorem d_Desk_damageOctet_24 : decode b_Desk_damageOctet 24 = .ok (.aload_n 2, 1) := by decide +kernel
theorem d_Desk_damageOctet_25 : decode b_Desk_damageOctet 25 = .ok (.getfield 204, 3) := by decide +kernel
theorem d_Desk_damageOctet_28 : decode b_Desk_damageOctet 28 = .ok (.ifCond .ne 7, 3) := by decide +kernel
theorem d_Desk_damageOctet_31 : decode b_Desk_damageOctet 31 = .ok (.iconst 1, 1) := by decide +kernel
theorem d_Desk_damageOctet_32 : decode b_Desk_damageOctet 32 = .ok (.goto 4, 3) := by decide +kernel
theorem d_Desk_damageOctet_35 : decode b_Desk_damageOctet 35 = .ok (.iconst 0, 1) := by decide +kernel
theorem d_Desk_damageOctet_36 : decode b_Desk_damageOctet 36 = .ok (.putfield 204, 3) := by decide +kernel
theorem d_Desk_damageOctet_39 : decode b_Desk_damageOctet 39 = .ok (.iconst 1, 1) := by decide +kernel
theorem d_Desk_damageOctet_40 : decode b_Desk_damageOctet 40 = .ok (.ireturn, 1) := by decide +kernel
abbrev b_Desk_sealAnew : ByteArray := prog_1_method_19_code
abbrev J_Desk_sealAnew : MethodName × ByteArray × Nat × Option FieldType := (⟨"FaslDesk", "sealAnew", "(I)I"⟩, b_Desk_sealAnew, 2, (some .int))
theorem d_Desk_sealAnew_0 : decode b_Desk_sealAnew 0 = .ok (.aload_n 0, 1) := by decide +kernel
theorem d_Desk_sealAnew_1 : decode b_Desk_sealAnew 1 = .ok (.getfield 33, 3) := by decide +kernel
theorem d_Desk_sealAnew_4 : decode b_Desk_sealAnew 4 = .ok (.iload_n 1, 1) := by decide +kernel
theorem d_Desk_sealAnew_5 : decode b_Desk_sealAnew 5 = .ok (.invokevirtual 139, 3) := by decide +kernel
theorem d_Desk_sealAnew_8 : decode b_Desk_sealAnew 8 = .ok (.ifCond .ne 5, 3) := by decide +kernel
theorem d_Desk_sealAnew_11 : decode b_Desk_sealAnew 11 = .ok (.iconst (-1), 1) := by decide +kernel
theorem d_Desk_sealAnew_12 : decode b_Desk_sealAnew 12 = .ok (.ireturn, 1) := by decide +kernel
theorem d_Desk_sealAnew_13 : decode b_Desk_sealAnew 13 = .ok (.aload_n 0, 1) := by decide +kernel
theorem d_Desk_sealAnew_14 : decode b_Desk_sealAnew 14 = .ok (.getfield 33, 3) := by decide +kernel
theorem d_Desk_sealAnew_17 : decode b_Desk_sealAnew 17 = .ok (.getfield 86, 3) := by decide +kernel
theorem d_Desk_sealAnew_20 : decode b_Desk_sealAnew 20 = .ok (.iload_n 1, 1) := by decide +kernel
theorem d_Desk_sealAnew_21 : decode b_Desk_sealAnew 21 = .ok (.aaload, 1) := by decide +kernel
theorem d_Desk_sealAnew_22 : decode b_Desk_sealAnew 22 = .ok (.invokevirtual 208, 3) := by decide +kernel
theorem d_Desk_sealAnew_25 : decode b_Desk_sealAnew 25 = .ok (.iconst 1, 1) := by decide +kernel
theorem d_Desk_sealAnew_26 : decode b_Desk_sealAnew 26 = .ok (.ireturn, 1) := by decide +kernel
abbrev b_Desk_hasUnit : ByteArray := prog_1_method_20_code
abbrev J_Desk_hasUnit : MethodName × ByteArray × Nat × Option FieldType := (⟨"FaslDesk", "hasUnit", "(II)Z"⟩, b_Desk_hasUnit, 3, (some .boolean))
theorem d_Desk_hasUnit_0 : decode b_Desk_hasUnit 0 = .ok (.aload_n 0, 1) := by decide +kernel
theorem d_Desk_hasUnit_1 : decode b_Desk_hasUnit 1 = .ok (.getfield 33, 3) := by decide +kernel
theorem d_Desk_hasUnit_4 : decode b_Desk_hasUnit 4 = .ok (.iload_n 1, 1) := by decide +kernel
theorem d_Desk_hasUnit_5 : decode b_Desk_hasUnit 5 = .ok (.invokevirtual 139, 3) := by decide +kernel
theorem d_Desk_hasUnit_8 : decode b_Desk_hasUnit 8 = .ok (.ifCond .eq 30, 3) := by decide +kernel
theorem d_Desk_hasUnit_11 : decode b_Desk_hasUnit 11 = .ok (.iload_n 2, 1) := by decide +kernel
theorem d_Desk_hasUnit_12 : decode b_Desk_hasUnit 12 = .ok (.ifCond .lt 26, 3) := by decide +kernel
theorem d_Desk_hasUnit_15 : decode b_Desk_hasUnit 15 = .ok (.iload_n 2, 1) := by decide +kernel
theorem d_Desk_hasUnit_16 : decode b_Desk_hasUnit 16 = .ok (.aload_n 0, 1) := by decide +kernel
theorem d_Desk_hasUnit_17 : decode b_Desk_hasUnit 17 = .ok (.getfield 33, 3) := by decide +kernel
theorem d_Desk_hasUnit_20 : decode b_Desk_hasUnit 20 = .ok (.getfield 86, 3) := by decide +kernel
theorem d_Desk_hasUnit_23 : decode b_Desk_hasUnit 23 = .ok (.iload_n 1, 1) := by decide +kernel
theorem d_Desk_hasUnit_24 : decode b_Desk_hasUnit 24 = .ok (.aaload, 1) := by decide +kernel
theorem d_Desk_hasUnit_25 : decode b_Desk_hasUnit 25 = .ok (.getfield 127, 3) := by decide +kernel
theorem d_Desk_hasUnit_28 : decode b_Desk_hasUnit 28 = .ok (.getfield 175, 3) := by decide +kernel
theorem d_Desk_hasUnit_31 : decode b_Desk_hasUnit 31 = .ok (.if_icmp .ge 7, 3) := by decide +kernel
theorem d_Desk_hasUnit_34 : decode b_Desk_hasUnit 34 = .ok (.iconst 1, 1) := by decide +kernel
theorem d_Desk_hasUnit_35 : decode b_Desk_hasUnit 35 = .ok (.goto 4, 3) := by decide +kernel
theorem d_Desk_hasUnit_38 : decode b_Desk_hasUnit 38 = .ok (.iconst 0, 1) := by decide +kernel
theorem d_Desk_hasUnit_39 : decode b_Desk_hasUnit 39 = .ok (.ireturn, 1) := by decide +kernel
abbrev b_Desk_within : ByteArray := prog_1_method_21_code
abbrev J_Desk_within : MethodName × ByteArray × Nat × Option FieldType := (⟨"FaslDesk", "within", "(III)Z"⟩, b_Desk_within, 3, (some .boolean))
theorem d_Desk_within_0 : decode b_Desk_within 0 = .ok (.iload_n 0, 1) := by decide +kernel
theorem d_Desk_within_1 : decode b_Desk_within 1 = .ok (.iload_n 1, 1) := by decide +kernel
theorem d_Desk_within_2 : decode b_Desk_within 2 = .ok (.if_icmp .lt 12, 3) := by decide +kernel
theorem d_Desk_within_5 : decode b_Desk_within 5 = .ok (.iload_n 0, 1) := by decide +kernel
theorem d_Desk_within_6 : decode b_Desk_within 6 = .ok (.iload_n 2, 1) := by decide +kernel
theorem d_Desk_within_7 : decode b_Desk_within 7 = .ok (.if_icmp .gt 7, 3) := by decide +kernel
theorem d_Desk_within_10 : decode b_Desk_within 10 = .ok (.iconst 1, 1) := by decide +kernel
theorem d_Desk_within_11 : decode b_Desk_within 11 = .ok (.goto 4, 3) := by decide +kernel
theorem d_Desk_within_14 : decode b_Desk_within 14 = .ok (.iconst 0, 1) := by decide +kernel
theorem d_Desk_within_15 : decode b_Desk_within 15 = .ok (.ireturn, 1) := by decide +kernel
abbrev b_Model_init : ByteArray := prog_14_method_1_code
abbrev J_Model_init : MethodName × ByteArray × Nat × Option FieldType := (⟨"FaslDeskModel", "<init>", "()V"⟩, b_Model_init, 1, none)
theorem d_Model_init_0 : decode b_Model_init 0 = .ok (.aload_n 0, 1) := by decide +kernel
theorem d_Model_init_1 : decode b_Model_init 1 = .ok (.invokespecial 1, 3) := by decide +kernel
theorem d_Model_init_4 : decode b_Model_init 4 = .ok (.aload_n 0, 1) := by decide +kernel
theorem d_Model_init_5 : decode b_Model_init 5 = .ok (.sipush 360, 3) := by decide +kernel
theorem d_Model_init_8 : decode b_Model_init 8 = .ok (.newarray .int, 2) := by decide +kernel
theorem d_Model_init_10 : decode b_Model_init 10 = .ok (.putfield 7, 3) := by decide +kernel
theorem d_Model_init_13 : decode b_Model_init 13 = .ok (.aload_n 0, 1) := by decide +kernel
theorem d_Model_init_14 : decode b_Model_init 14 = .ok (.sipush 360, 3) := by decide +kernel
theorem d_Model_init_17 : decode b_Model_init 17 = .ok (.newarray .int, 2) := by decide +kernel
theorem d_Model_init_19 : decode b_Model_init 19 = .ok (.putfield 13, 3) := by decide +kernel
theorem d_Model_init_22 : decode b_Model_init 22 = .ok (.aload_n 0, 1) := by decide +kernel
theorem d_Model_init_23 : decode b_Model_init 23 = .ok (.bipush 9, 2) := by decide +kernel
theorem d_Model_init_25 : decode b_Model_init 25 = .ok (.newarray .int, 2) := by decide +kernel
theorem d_Model_init_27 : decode b_Model_init 27 = .ok (.putfield 16, 3) := by decide +kernel
theorem d_Model_init_30 : decode b_Model_init 30 = .ok (.aload_n 0, 1) := by decide +kernel
theorem d_Model_init_31 : decode b_Model_init 31 = .ok (.bipush 8, 2) := by decide +kernel
theorem d_Model_init_33 : decode b_Model_init 33 = .ok (.newarray .int, 2) := by decide +kernel
theorem d_Model_init_35 : decode b_Model_init 35 = .ok (.putfield 19, 3) := by decide +kernel
theorem d_Model_init_38 : decode b_Model_init 38 = .ok (.aload_n 0, 1) := by decide +kernel
theorem d_Model_init_39 : decode b_Model_init 39 = .ok (.bipush 40, 2) := by decide +kernel
theorem d_Model_init_41 : decode b_Model_init 41 = .ok (.newarray .int, 2) := by decide +kernel
theorem d_Model_init_43 : decode b_Model_init 43 = .ok (.putfield 22, 3) := by decide +kernel
theorem d_Model_init_46 : decode b_Model_init 46 = .ok (.aload_n 0, 1) := by decide +kernel
theorem d_Model_init_47 : decode b_Model_init 47 = .ok (.bipush 40, 2) := by decide +kernel
theorem d_Model_init_49 : decode b_Model_init 49 = .ok (.newarray .int, 2) := by decide +kernel
theorem d_Model_init_51 : decode b_Model_init 51 = .ok (.putfield 25, 3) := by decide +kernel
theorem d_Model_init_54 : decode b_Model_init 54 = .ok (.aload_n 0, 1) := by decide +kernel
theorem d_Model_init_55 : decode b_Model_init 55 = .ok (.sipush 6720, 3) := by decide +kernel
theorem d_Model_init_58 : decode b_Model_init 58 = .ok (.newarray .int, 2) := by decide +kernel
theorem d_Model_init_60 : decode b_Model_init 60 = .ok (.putfield 28, 3) := by decide +kernel
theorem d_Model_init_63 : decode b_Model_init 63 = .ok (.aload_n 0, 1) := by decide +kernel
theorem d_Model_init_64 : decode b_Model_init 64 = .ok (.sipush 6720, 3) := by decide +kernel
theorem d_Model_init_67 : decode b_Model_init 67 = .ok (.newarray .int, 2) := by decide +kernel
theorem d_Model_init_69 : decode b_Model_init 69 = .ok (.putfield 31, 3) := by decide +kernel
theorem d_Model_init_72 : decode b_Model_init 72 = .ok (.aload_n 0, 1) := by decide +kernel
theorem d_Model_init_73 : decode b_Model_init 73 = .ok (.sipush 6720, 3) := by decide +kernel
theorem d_Model_init_76 : decode b_Model_init 76 = .ok (.newarray .int, 2) := by decide +kernel
theorem d_Model_init_78 : decode b_Model_init 78 = .ok (.putfield 34, 3) := by decide +kernel
theorem d_Model_init_81 : decode b_Model_init 81 = .ok (.aload_n 0, 1) := by decide +kernel
theorem d_Model_init_82 : decode b_Model_init 82 = .ok (.bipush 24, 2) := by decide +kernel
theorem d_Model_init_84 : decode b_Model_init 84 = .ok (.newarray .int, 2) := by decide +kernel
theorem d_Model_init_86 : decode b_Model_init 86 = .ok (.putfield 37, 3) := by decide +kernel
theorem d_Model_init_89 : decode b_Model_init 89 = .ok (.aload_n 0, 1) := by decide +kernel
theorem d_Model_init_90 : decode b_Model_init 90 = .ok (.bipush 24, 2) := by decide +kernel
theorem d_Model_init_92 : decode b_Model_init 92 = .ok (.newarray .int, 2) := by decide +kernel
theorem d_Model_init_94 : decode b_Model_init 94 = .ok (.putfield 40, 3) := by decide +kernel
theorem d_Model_init_97 : decode b_Model_init 97 = .ok (.aload_n 0, 1) := by decide +kernel
theorem d_Model_init_98 : decode b_Model_init 98 = .ok (.sipush 280, 3) := by decide +kernel
theorem d_Model_init_101 : decode b_Model_init 101 = .ok (.newarray .int, 2) := by decide +kernel
theorem d_Model_init_103 : decode b_Model_init 103 = .ok (.putfield 43, 3) := by decide +kernel
theorem d_Model_init_106 : decode b_Model_init 106 = .ok (.aload_n 0, 1) := by decide +kernel
theorem d_Model_init_107 : decode b_Model_init 107 = .ok (.sipush 6720, 3) := by decide +kernel
theorem d_Model_init_110 : decode b_Model_init 110 = .ok (.newarray .boolean, 2) := by decide +kernel
theorem d_Model_init_112 : decode b_Model_init 112 = .ok (.putfield 46, 3) := by decide +kernel
theorem d_Model_init_115 : decode b_Model_init 115 = .ok (.aload_n 0, 1) := by decide +kernel
theorem d_Model_init_116 : decode b_Model_init 116 = .ok (.bipush 8, 2) := by decide +kernel
theorem d_Model_init_118 : decode b_Model_init 118 = .ok (.newarray .boolean, 2) := by decide +kernel
theorem d_Model_init_120 : decode b_Model_init 120 = .ok (.putfield 50, 3) := by decide +kernel
theorem d_Model_init_123 : decode b_Model_init 123 = .ok (.aload_n 0, 1) := by decide +kernel
theorem d_Model_init_124 : decode b_Model_init 124 = .ok (.bipush 8, 2) := by decide +kernel
theorem d_Model_init_126 : decode b_Model_init 126 = .ok (.newarray .boolean, 2) := by decide +kernel
theorem d_Model_init_128 : decode b_Model_init 128 = .ok (.putfield 53, 3) := by decide +kernel
theorem d_Model_init_131 : decode b_Model_init 131 = .ok (.aload_n 0, 1) := by decide +kernel
theorem d_Model_init_132 : decode b_Model_init 132 = .ok (.bipush 8, 2) := by decide +kernel
theorem d_Model_init_134 : decode b_Model_init 134 = .ok (.newarray .boolean, 2) := by decide +kernel
theorem d_Model_init_136 : decode b_Model_init 136 = .ok (.putfield 56, 3) := by decide +kernel
theorem d_Model_init_139 : decode b_Model_init 139 = .ok (.aload_n 0, 1) := by decide +kernel
theorem d_Model_init_140 : decode b_Model_init 140 = .ok (.bipush 8, 2) := by decide +kernel
theorem d_Model_init_142 : decode b_Model_init 142 = .ok (.newarray .int, 2) := by decide +kernel
theorem d_Model_init_144 : decode b_Model_init 144 = .ok (.putfield 59, 3) := by decide +kernel
theorem d_Model_init_147 : decode b_Model_init 147 = .ok (.aload_n 0, 1) := by decide +kernel
theorem d_Model_init_148 : decode b_Model_init 148 = .ok (.bipush 8, 2) := by decide +kernel
theorem d_Model_init_150 : decode b_Model_init 150 = .ok (.newarray .int, 2) := by decide +kernel
theorem d_Model_init_152 : decode b_Model_init 152 = .ok (.putfield 62, 3) := by decide +kernel
theorem d_Model_init_155 : decode b_Model_init 155 = .ok (.aload_n 0, 1) := by decide +kernel
theorem d_Model_init_156 : decode b_Model_init 156 = .ok (.bipush 8, 2) := by decide +kernel
theorem d_Model_init_158 : decode b_Model_init 158 = .ok (.newarray .int, 2) := by decide +kernel
theorem d_Model_init_160 : decode b_Model_init 160 = .ok (.putfield 65, 3) := by decide +kernel
theorem d_Model_init_163 : decode b_Model_init 163 = .ok (.aload_n 0, 1) := by decide +kernel
theorem d_Model_init_164 : decode b_Model_init 164 = .ok (.bipush 8, 2) := by decide +kernel
theorem d_Model_init_166 : decode b_Model_init 166 = .ok (.newarray .int, 2) := by decide +kernel
theorem d_Model_init_168 : decode b_Model_init 168 = .ok (.putfield 68, 3) := by decide +kernel
theorem d_Model_init_171 : decode b_Model_init 171 = .ok (.aload_n 0, 1) := by decide +kernel
theorem d_Model_init_172 : decode b_Model_init 172 = .ok (.sipush 2240, 3) := by decide +kernel
theorem d_Model_init_175 : decode b_Model_init 175 = .ok (.newarray .int, 2) := by decide +kernel
theorem d_Model_init_177 : decode b_Model_init 177 = .ok (.putfield 71, 3) := by decide +kernel
theorem d_Model_init_180 : decode b_Model_init 180 = .ok (.aload_n 0, 1) := by decide +kernel
theorem d_Model_init_181 : decode b_Model_init 181 = .ok (.bipush 8, 2) := by decide +kernel
theorem d_Model_init_183 : decode b_Model_init 183 = .ok (.newarray .int, 2) := by decide +kernel
theorem d_Model_init_185 : decode b_Model_init 185 = .ok (.putfield 74, 3) := by decide +kernel
theorem d_Model_init_188 : decode b_Model_init 188 = .ok (.aload_n 0, 1) := by decide +kernel
theorem d_Model_init_189 : decode b_Model_init 189 = .ok (.sipush 800, 3) := by decide +kernel
theorem d_Model_init_192 : decode b_Model_init 192 = .ok (.newarray .int, 2) := by decide +kernel
theorem d_Model_init_194 : decode b_Model_init 194 = .ok (.putfield 77, 3) := by decide +kernel
theorem d_Model_init_197 : decode b_Model_init 197 = .ok (.aload_n 0, 1) := by decide +kernel
theorem d_Model_init_198 : decode b_Model_init 198 = .ok (.bipush 63, 2) := by decide +kernel
theorem d_Model_init_200 : decode b_Model_init 200 = .ok (.newarray .int, 2) := by decide +kernel
theorem d_Model_init_202 : decode b_Model_init 202 = .ok (.putfield 80, 3) := by decide +kernel
theorem d_Model_init_205 : decode b_Model_init 205 = .ok (.aload_n 0, 1) := by decide +kernel
theorem d_Model_init_206 : decode b_Model_init 206 = .ok (.bipush 9, 2) := by decide +kernel
theorem d_Model_init_208 : decode b_Model_init 208 = .ok (.newarray .int, 2) := by decide +kernel
theorem d_Model_init_210 : decode b_Model_init 210 = .ok (.putfield 83, 3) := by decide +kernel
theorem d_Model_init_213 : decode b_Model_init 213 = .ok (.aload_n 0, 1) := by decide +kernel
theorem d_Model_init_214 : decode b_Model_init 214 = .ok (.bipush 9, 2) := by decide +kernel
theorem d_Model_init_216 : decode b_Model_init 216 = .ok (.newarray .int, 2) := by decide +kernel
theorem d_Model_init_218 : decode b_Model_init 218 = .ok (.putfield 86, 3) := by decide +kernel
theorem d_Model_init_221 : decode b_Model_init 221 = .ok (.aload_n 0, 1) := by decide +kernel
theorem d_Model_init_222 : decode b_Model_init 222 = .ok (.bipush 48, 2) := by decide +kernel
theorem d_Model_init_224 : decode b_Model_init 224 = .ok (.newarray .int, 2) := by decide +kernel
theorem d_Model_init_226 : decode b_Model_init 226 = .ok (.putfield 89, 3) := by decide +kernel
theorem d_Model_init_229 : decode b_Model_init 229 = .ok (.aload_n 0, 1) := by decide +kernel
theorem d_Model_init_230 : decode b_Model_init 230 = .ok (.bipush 48, 2) := by decide +kernel
theorem d_Model_init_232 : decode b_Model_init 232 = .ok (.newarray .int, 2) := by decide +kernel
theorem d_Model_init_234 : decode b_Model_init 234 = .ok (.putfield 92, 3) := by decide +kernel
theorem d_Model_init_237 : decode b_Model_init 237 = .ok (.aload_n 0, 1) := by decide +kernel
theorem d_Model_init_238 : decode b_Model_init 238 = .ok (.bipush 48, 2) := by decide +kernel
theorem d_Model_init_240 : decode b_Model_init 240 = .ok (.newarray .int, 2) := by decide +kernel
theorem d_Model_init_242 : decode b_Model_init 242 = .ok (.putfield 95, 3) := by decide +kernel
theorem d_Model_init_245 : decode b_Model_init 245 = .ok (.aload_n 0, 1) := by decide +kernel
theorem d_Model_init_246 : decode b_Model_init 246 = .ok (.iconst (-1), 1) := by decide +kernel
theorem d_Model_init_247 : decode b_Model_init 247 = .ok (.putfield 98, 3) := by decide +kernel
theorem d_Model_init_250 : decode b_Model_init 250 = .ok (.return_, 1) := by decide +kernel
abbrev b_Model_is : ByteArray := prog_14_method_2_code
abbrev J_Model_is : MethodName × ByteArray × Nat × Option FieldType := (⟨"FaslDeskModel", "is", "(III)Z"⟩, b_Model_is, 3, (some .boolean))
theorem d_Model_is_0 : decode b_Model_is 0 = .ok (.iload_n 0, 1) := by decide +kernel
theorem d_Model_is_1 : decode b_Model_is 1 = .ok (.iload_n 1, 1) := by decide +kernel
theorem d_Model_is_2 : decode b_Model_is 2 = .ok (.if_icmp .lt 12, 3) := by decide +kernel
theorem d_Model_is_5 : decode b_Model_is 5 = .ok (.iload_n 0, 1) := by decide +kernel
theorem d_Model_is_6 : decode b_Model_is 6 = .ok (.iload_n 2, 1) := by decide +kernel
theorem d_Model_is_7 : decode b_Model_is 7 = .ok (.if_icmp .gt 7, 3) := by decide +kernel
theorem d_Model_is_10 : decode b_Model_is 10 = .ok (.iconst 1, 1) := by decide +kernel
theorem d_Model_is_11 : decode b_Model_is 11 = .ok (.goto 4, 3) := by decide +kernel
theorem d_Model_is_14 : decode b_Model_is 14 = .ok (.iconst 0, 1) := by decide +kernel
theorem d_Model_is_15 : decode b_Model_is 15 = .ok (.ireturn, 1) := by decide +kernel
abbrev b_Model_parts : ByteArray := prog_14_method_3_code
abbrev J_Model_parts : MethodName × ByteArray × Nat × Option FieldType := (⟨"FaslDeskModel", "parts", "(I)I"⟩, b_Model_parts, 1, (some .int))
theorem d_Model_parts_0 : decode b_Model_parts 0 = .ok (.iload_n 0, 1) := by decide +kernel
theorem d_Model_parts_1 : decode b_Model_parts 1 = .ok (.iconst 2, 1) := by decide +kernel
theorem d_Model_parts_2 : decode b_Model_parts 2 = .ok (.if_icmp .ge 7, 3) := by decide +kernel
theorem d_Model_parts_5 : decode b_Model_parts 5 = .ok (.iconst 0, 1) := by decide +kernel
theorem d_Model_parts_6 : decode b_Model_parts 6 = .ok (.goto 42, 3) := by decide +kernel
theorem d_Model_parts_9 : decode b_Model_parts 9 = .ok (.iload_n 0, 1) := by decide +kernel
theorem d_Model_parts_10 : decode b_Model_parts 10 = .ok (.bipush 12, 2) := by decide +kernel
theorem d_Model_parts_12 : decode b_Model_parts 12 = .ok (.if_icmp .lt 15, 3) := by decide +kernel
theorem d_Model_parts_15 : decode b_Model_parts 15 = .ok (.iload_n 0, 1) := by decide +kernel
theorem d_Model_parts_16 : decode b_Model_parts 16 = .ok (.bipush 14, 2) := by decide +kernel
theorem d_Model_parts_18 : decode b_Model_parts 18 = .ok (.if_icmp .eq 9, 3) := by decide +kernel
theorem d_Model_parts_21 : decode b_Model_parts 21 = .ok (.iload_n 0, 1) := by decide +kernel
theorem d_Model_parts_22 : decode b_Model_parts 22 = .ok (.bipush 16, 2) := by decide +kernel
theorem d_Model_parts_24 : decode b_Model_parts 24 = .ok (.if_icmp .ne 7, 3) := by decide +kernel
theorem d_Model_parts_27 : decode b_Model_parts 27 = .ok (.iconst 2, 1) := by decide +kernel
theorem d_Model_parts_28 : decode b_Model_parts 28 = .ok (.goto 20, 3) := by decide +kernel
theorem d_Model_parts_31 : decode b_Model_parts 31 = .ok (.iload_n 0, 1) := by decide +kernel
theorem d_Model_parts_32 : decode b_Model_parts 32 = .ok (.bipush 12, 2) := by decide +kernel
theorem d_Model_parts_34 : decode b_Model_parts 34 = .ok (.if_icmp .eq 9, 3) := by decide +kernel
theorem d_Model_parts_37 : decode b_Model_parts 37 = .ok (.iload_n 0, 1) := by decide +kernel
theorem d_Model_parts_38 : decode b_Model_parts 38 = .ok (.bipush 15, 2) := by decide +kernel
theorem d_Model_parts_40 : decode b_Model_parts 40 = .ok (.if_icmp .ne 7, 3) := by decide +kernel
theorem d_Model_parts_43 : decode b_Model_parts 43 = .ok (.iconst 1, 1) := by decide +kernel
theorem d_Model_parts_44 : decode b_Model_parts 44 = .ok (.goto 4, 3) := by decide +kernel
theorem d_Model_parts_47 : decode b_Model_parts 47 = .ok (.iconst 3, 1) := by decide +kernel
theorem d_Model_parts_48 : decode b_Model_parts 48 = .ok (.ireturn, 1) := by decide +kernel
abbrev b_Model_fits : ByteArray := prog_14_method_4_code
abbrev J_Model_fits : MethodName × ByteArray × Nat × Option FieldType := (⟨"FaslDeskModel", "fits", "(II)Z"⟩, b_Model_fits, 2, (some .boolean))
theorem d_Model_fits_0 : decode b_Model_fits 0 = .ok (.iload_n 0, 1) := by decide +kernel
theorem d_Model_fits_1 : decode b_Model_fits 1 = .ok (.tableswitch 114 1 17 #[83, 114, 114, 114, 114, 114, 114, 114, 114, 114, 114, 114, 91, 98, 83, 98, 106], 83) := by decide +kernel
theorem d_Model_fits_84 : decode b_Model_fits 84 = .ok (.iload_n 1, 1) := by decide +kernel
theorem d_Model_fits_85 : decode b_Model_fits 85 = .ok (.iconst 0, 1) := by decide +kernel
theorem d_Model_fits_86 : decode b_Model_fits 86 = .ok (.bipush 6, 2) := by decide +kernel
theorem d_Model_fits_88 : decode b_Model_fits 88 = .ok (.invokestatic 102, 3) := by decide +kernel
theorem d_Model_fits_91 : decode b_Model_fits 91 = .ok (.ireturn, 1) := by decide +kernel
theorem d_Model_fits_92 : decode b_Model_fits 92 = .ok (.iload_n 1, 1) := by decide +kernel
theorem d_Model_fits_93 : decode b_Model_fits 93 = .ok (.iconst 0, 1) := by decide +kernel
theorem d_Model_fits_94 : decode b_Model_fits 94 = .ok (.iconst 5, 1) := by decide +kernel
theorem d_Model_fits_95 : decode b_Model_fits 95 = .ok (.invokestatic 102, 3) := by decide +kernel
theorem d_Model_fits_98 : decode b_Model_fits 98 = .ok (.ireturn, 1) := by decide +kernel
theorem d_Model_fits_99 : decode b_Model_fits 99 = .ok (.iload_n 1, 1) := by decide +kernel
theorem d_Model_fits_100 : decode b_Model_fits 100 = .ok (.iconst 3, 1) := by decide +kernel
theorem d_Model_fits_101 : decode b_Model_fits 101 = .ok (.bipush 6, 2) := by decide +kernel
theorem d_Model_fits_103 : decode b_Model_fits 103 = .ok (.invokestatic 102, 3) := by decide +kernel
theorem d_Model_fits_106 : decode b_Model_fits 106 = .ok (.ireturn, 1) := by decide +kernel
theorem d_Model_fits_107 : decode b_Model_fits 107 = .ok (.iload_n 1, 1) := by decide +kernel
theorem d_Model_fits_108 : decode b_Model_fits 108 = .ok (.iconst 0, 1) := by decide +kernel
theorem d_Model_fits_109 : decode b_Model_fits 109 = .ok (.bipush 7, 2) := by decide +kernel
theorem d_Model_fits_111 : decode b_Model_fits 111 = .ok (.invokestatic 102, 3) := by decide +kernel
theorem d_Model_fits_114 : decode b_Model_fits 114 = .ok (.ireturn, 1) := by decide +kernel
theorem d_Model_fits_115 : decode b_Model_fits 115 = .ok (.iload_n 0, 1) := by decide +kernel
theorem d_Model_fits_116 : decode b_Model_fits 116 = .ok (.iconst 0, 1) := by decide +kernel
theorem d_Model_fits_117 : decode b_Model_fits 117 = .ok (.bipush 17, 2) := by decide +kernel
theorem d_Model_fits_119 : decode b_Model_fits 119 = .ok (.invokestatic 102, 3) := by decide +kernel
theorem d_Model_fits_122 : decode b_Model_fits 122 = .ok (.ireturn, 1) := by decide +kernel
abbrev b_Model_token : ByteArray := prog_14_method_5_code
abbrev J_Model_token : MethodName × ByteArray × Nat × Option FieldType := (⟨"FaslDeskModel", "token", "(II)I"⟩, b_Model_token, 3, (some .int))
theorem d_Model_token_0 : decode b_Model_token 0 = .ok (.iload_n 1, 1) := by decide +kernel
theorem d_Model_token_1 : decode b_Model_token 1 = .ok (.iload_n 2, 1) := by decide +kernel
theorem d_Model_token_2 : decode b_Model_token 2 = .ok (.invokestatic 106, 3) := by decide +kernel
theorem d_Model_token_5 : decode b_Model_token 5 = .ok (.ifCond .ne 5, 3) := by decide +kernel
theorem d_Model_token_8 : decode b_Model_token 8 = .ok (.iconst (-1), 1) := by decide +kernel
theorem d_Model_token_9 : decode b_Model_token 9 = .ok (.ireturn, 1) := by decide +kernel
theorem d_Model_token_10 : decode b_Model_token 10 = .ok (.aload_n 0, 1) := by decide +kernel
theorem d_Model_token_11 : decode b_Model_token 11 = .ok (.getfield 16, 3) := by decide +kernel
theorem d_Model_token_14 : decode b_Model_token 14 = .ok (.bipush 8, 2) := by decide +kernel
theorem d_Model_token_16 : decode b_Model_token 16 = .ok (.iaload, 1) := by decide +kernel
theorem d_Model_token_17 : decode b_Model_token 17 = .ok (.bipush 40, 2) := by decide +kernel
theorem d_Model_token_19 : decode b_Model_token 19 = .ok (.if_icmp .ne 6, 3) := by decide +kernel
theorem d_Model_token_22 : decode b_Model_token 22 = .ok (.bipush (-2), 2) := by decide +kernel
theorem d_Model_token_24 : decode b_Model_token 24 = .ok (.ireturn, 1) := by decide +kernel
theorem d_Model_token_25 : decode b_Model_token 25 = .ok (.aload_n 0, 1) := by decide +kernel
theorem d_Model_token_26 : decode b_Model_token 26 = .ok (.getfield 7, 3) := by decide +kernel
theorem d_Model_token_29 : decode b_Model_token 29 = .ok (.sipush 320, 3) := by decide +kernel
theorem d_Model_token_32 : decode b_Model_token 32 = .ok (.aload_n 0, 1) := by decide +kernel
theorem d_Model_token_33 : decode b_Model_token 33 = .ok (.getfield 16, 3) := by decide +kernel
theorem d_Model_token_36 : decode b_Model_token 36 = .ok (.bipush 8, 2) := by decide +kernel
theorem d_Model_token_38 : decode b_Model_token 38 = .ok (.iaload, 1) := by decide +kernel
theorem d_Model_token_39 : decode b_Model_token 39 = .ok (.iadd, 1) := by decide +kernel
theorem d_Model_token_40 : decode b_Model_token 40 = .ok (.iload_n 1, 1) := by decide +kernel
theorem d_Model_token_41 : decode b_Model_token 41 = .ok (.iastore, 1) := by decide +kernel
theorem d_Model_token_42 : decode b_Model_token 42 = .ok (.aload_n 0, 1) := by decide +kernel
theorem d_Model_token_43 : decode b_Model_token 43 = .ok (.getfield 13, 3) := by decide +kernel
theorem d_Model_token_46 : decode b_Model_token 46 = .ok (.sipush 320, 3) := by decide +kernel
theorem d_Model_token_49 : decode b_Model_token 49 = .ok (.aload_n 0, 1) := by decide +kernel
theorem d_Model_token_50 : decode b_Model_token 50 = .ok (.getfield 16, 3) := by decide +kernel
theorem d_Model_token_53 : decode b_Model_token 53 = .ok (.bipush 8, 2) := by decide +kernel
theorem d_Model_token_55 : decode b_Model_token 55 = .ok (.iaload, 1) := by decide +kernel
theorem d_Model_token_56 : decode b_Model_token 56 = .ok (.iadd, 1) := by decide +kernel
theorem d_Model_token_57 : decode b_Model_token 57 = .ok (.iload_n 2, 1) := by decide +kernel
theorem d_Model_token_58 : decode b_Model_token 58 = .ok (.iastore, 1) := by decide +kernel
theorem d_Model_token_59 : decode b_Model_token 59 = .ok (.aload_n 0, 1) := by decide +kernel
theorem d_Model_token_60 : decode b_Model_token 60 = .ok (.getfield 16, 3) := by decide +kernel
theorem d_Model_token_63 : decode b_Model_token 63 = .ok (.bipush 8, 2) := by decide +kernel
theorem d_Model_token_65 : decode b_Model_token 65 = .ok (.dup2, 1) := by decide +kernel
theorem d_Model_token_66 : decode b_Model_token 66 = .ok (.iaload, 1) := by decide +kernel
theorem d_Model_token_67 : decode b_Model_token 67 = .ok (.iconst 1, 1) := by decide +kernel
theorem d_Model_token_68 : decode b_Model_token 68 = .ok (.iadd, 1) := by decide +kernel
theorem d_Model_token_69 : decode b_Model_token 69 = .ok (.dup_x2, 1) := by decide +kernel
theorem d_Model_token_70 : decode b_Model_token 70 = .ok (.iastore, 1) := by decide +kernel
theorem d_Model_token_71 : decode b_Model_token 71 = .ok (.ireturn, 1) := by decide +kernel
end
section
/-! more decode rows -/
abbrev b_Model_clear : ByteArray := prog_14_method_6_code
abbrev J_Model_clear : MethodName × ByteArray × Nat × Option FieldType := (⟨"FaslDeskModel", "clear", "()I"⟩, b_Model_clear, 2, (some .int))
theorem d_Model_clear_0 : decode b_Model_clear 0 = .ok (.aload_n 0, 1) := by decide +kernel
theorem d_Model_clear_1 : decode b_Model_clear 1 = .ok (.getfield 16, 3) := by decide +kernel
theorem d_Model_clear_4 : decode b_Model_clear 4 = .ok (.bipush 8, 2) := by decide +kernel
theorem d_Model_clear_6 : decode b_Model_clear 6 = .ok (.iaload, 1) := by decide +kernel
theorem d_Model_clear_7 : decode b_Model_clear 7 = .ok (.istore_n 1, 1) := by decide +kernel
theorem d_Model_clear_8 : decode b_Model_clear 8 = .ok (.aload_n 0, 1) := by decide +kernel
theorem d_Model_clear_9 : decode b_Model_clear 9 = .ok (.getfield 16, 3) := by decide +kernel
theorem d_Model_clear_12 : decode b_Model_clear 12 = .ok (.bipush 8, 2) := by decide +kernel
theorem d_Model_clear_14 : decode b_Model_clear 14 = .ok (.iconst 0, 1) := by decide +kernel
theorem d_Model_clear_15 : decode b_Model_clear 15 = .ok (.iastore, 1) := by decide +kernel
theorem d_Model_clear_16 : decode b_Model_clear 16 = .ok (.iload_n 1, 1) := by decide +kernel
theorem d_Model_clear_17 : decode b_Model_clear 17 = .ok (.ireturn, 1) := by decide +kernel
abbrev b_Model_relate : ByteArray := prog_14_method_7_code
abbrev J_Model_relate : MethodName × ByteArray × Nat × Option FieldType := (⟨"FaslDeskModel", "relate", "()Z"⟩, b_Model_relate, 4, (some .boolean))
theorem d_Model_relate_0 : decode b_Model_relate 0 = .ok (.aload_n 0, 1) := by decide +kernel
theorem d_Model_relate_1 : decode b_Model_relate 1 = .ok (.getfield 16, 3) := by decide +kernel
theorem d_Model_relate_4 : decode b_Model_relate 4 = .ok (.bipush 8, 2) := by decide +kernel
theorem d_Model_relate_6 : decode b_Model_relate 6 = .ok (.iaload, 1) := by decide +kernel
theorem d_Model_relate_7 : decode b_Model_relate 7 = .ok (.istore_n 1, 1) := by decide +kernel
theorem d_Model_relate_8 : decode b_Model_relate 8 = .ok (.iconst 0, 1) := by decide +kernel
theorem d_Model_relate_9 : decode b_Model_relate 9 = .ok (.istore_n 2, 1) := by decide +kernel
theorem d_Model_relate_10 : decode b_Model_relate 10 = .ok (.iconst 0, 1) := by decide +kernel
theorem d_Model_relate_11 : decode b_Model_relate 11 = .ok (.istore_n 3, 1) := by decide +kernel
theorem d_Model_relate_12 : decode b_Model_relate 12 = .ok (.iload_n 3, 1) := by decide +kernel
theorem d_Model_relate_13 : decode b_Model_relate 13 = .ok (.iload_n 1, 1) := by decide +kernel
theorem d_Model_relate_14 : decode b_Model_relate 14 = .ok (.if_icmp .ge 138, 3) := by decide +kernel
theorem d_Model_relate_17 : decode b_Model_relate 17 = .ok (.iload_n 3, 1) := by decide +kernel
theorem d_Model_relate_18 : decode b_Model_relate 18 = .ok (.ifCond .le 9, 3) := by decide +kernel
theorem d_Model_relate_21 : decode b_Model_relate 21 = .ok (.iload_n 2, 1) := by decide +kernel
theorem d_Model_relate_22 : decode b_Model_relate 22 = .ok (.ifCond .ne 5, 3) := by decide +kernel
theorem d_Model_relate_25 : decode b_Model_relate 25 = .ok (.iconst 0, 1) := by decide +kernel
theorem d_Model_relate_26 : decode b_Model_relate 26 = .ok (.ireturn, 1) := by decide +kernel
theorem d_Model_relate_27 : decode b_Model_relate 27 = .ok (.aload_n 0, 1) := by decide +kernel
theorem d_Model_relate_28 : decode b_Model_relate 28 = .ok (.getfield 22, 3) := by decide +kernel
theorem d_Model_relate_31 : decode b_Model_relate 31 = .ok (.iload_n 3, 1) := by decide +kernel
theorem d_Model_relate_32 : decode b_Model_relate 32 = .ok (.iload_n 2, 1) := by decide +kernel
theorem d_Model_relate_33 : decode b_Model_relate 33 = .ok (.ifCond .ne 7, 3) := by decide +kernel
theorem d_Model_relate_36 : decode b_Model_relate 36 = .ok (.iconst (-1), 1) := by decide +kernel
theorem d_Model_relate_37 : decode b_Model_relate 37 = .ok (.goto 11, 3) := by decide +kernel
theorem d_Model_relate_40 : decode b_Model_relate 40 = .ok (.aload_n 0, 1) := by decide +kernel
theorem d_Model_relate_41 : decode b_Model_relate 41 = .ok (.getfield 89, 3) := by decide +kernel
theorem d_Model_relate_44 : decode b_Model_relate 44 = .ok (.iload_n 2, 1) := by decide +kernel
theorem d_Model_relate_45 : decode b_Model_relate 45 = .ok (.iconst 1, 1) := by decide +kernel
theorem d_Model_relate_46 : decode b_Model_relate 46 = .ok (.isub, 1) := by decide +kernel
theorem d_Model_relate_47 : decode b_Model_relate 47 = .ok (.iaload, 1) := by decide +kernel
theorem d_Model_relate_48 : decode b_Model_relate 48 = .ok (.iastore, 1) := by decide +kernel
theorem d_Model_relate_49 : decode b_Model_relate 49 = .ok (.aload_n 0, 1) := by decide +kernel
theorem d_Model_relate_50 : decode b_Model_relate 50 = .ok (.getfield 25, 3) := by decide +kernel
theorem d_Model_relate_53 : decode b_Model_relate 53 = .ok (.iload_n 3, 1) := by decide +kernel
theorem d_Model_relate_54 : decode b_Model_relate 54 = .ok (.iconst 0, 1) := by decide +kernel
theorem d_Model_relate_55 : decode b_Model_relate 55 = .ok (.iastore, 1) := by decide +kernel
theorem d_Model_relate_56 : decode b_Model_relate 56 = .ok (.iload_n 2, 1) := by decide +kernel
theorem d_Model_relate_57 : decode b_Model_relate 57 = .ok (.ifCond .le 56, 3) := by decide +kernel
theorem d_Model_relate_60 : decode b_Model_relate 60 = .ok (.aload_n 0, 1) := by decide +kernel
theorem d_Model_relate_61 : decode b_Model_relate 61 = .ok (.getfield 25, 3) := by decide +kernel
theorem d_Model_relate_64 : decode b_Model_relate 64 = .ok (.iload_n 3, 1) := by decide +kernel
theorem d_Model_relate_65 : decode b_Model_relate 65 = .ok (.aload_n 0, 1) := by decide +kernel
theorem d_Model_relate_66 : decode b_Model_relate 66 = .ok (.getfield 92, 3) := by decide +kernel
theorem d_Model_relate_69 : decode b_Model_relate 69 = .ok (.iload_n 2, 1) := by decide +kernel
theorem d_Model_relate_70 : decode b_Model_relate 70 = .ok (.iconst 1, 1) := by decide +kernel
theorem d_Model_relate_71 : decode b_Model_relate 71 = .ok (.isub, 1) := by decide +kernel
theorem d_Model_relate_72 : decode b_Model_relate 72 = .ok (.dup2, 1) := by decide +kernel
theorem d_Model_relate_73 : decode b_Model_relate 73 = .ok (.iaload, 1) := by decide +kernel
theorem d_Model_relate_74 : decode b_Model_relate 74 = .ok (.iconst 1, 1) := by decide +kernel
theorem d_Model_relate_75 : decode b_Model_relate 75 = .ok (.iadd, 1) := by decide +kernel
theorem d_Model_relate_76 : decode b_Model_relate 76 = .ok (.dup_x2, 1) := by decide +kernel
theorem d_Model_relate_77 : decode b_Model_relate 77 = .ok (.iastore, 1) := by decide +kernel
theorem d_Model_relate_78 : decode b_Model_relate 78 = .ok (.iastore, 1) := by decide +kernel
theorem d_Model_relate_79 : decode b_Model_relate 79 = .ok (.aload_n 0, 1) := by decide +kernel
theorem d_Model_relate_80 : decode b_Model_relate 80 = .ok (.getfield 92, 3) := by decide +kernel
theorem d_Model_relate_83 : decode b_Model_relate 83 = .ok (.iload_n 2, 1) := by decide +kernel
theorem d_Model_relate_84 : decode b_Model_relate 84 = .ok (.iconst 1, 1) := by decide +kernel
theorem d_Model_relate_85 : decode b_Model_relate 85 = .ok (.isub, 1) := by decide +kernel
theorem d_Model_relate_86 : decode b_Model_relate 86 = .ok (.iaload, 1) := by decide +kernel
theorem d_Model_relate_87 : decode b_Model_relate 87 = .ok (.aload_n 0, 1) := by decide +kernel
theorem d_Model_relate_88 : decode b_Model_relate 88 = .ok (.getfield 7, 3) := by decide +kernel
theorem d_Model_relate_91 : decode b_Model_relate 91 = .ok (.sipush 320, 3) := by decide +kernel
theorem d_Model_relate_94 : decode b_Model_relate 94 = .ok (.aload_n 0, 1) := by decide +kernel
theorem d_Model_relate_95 : decode b_Model_relate 95 = .ok (.getfield 89, 3) := by decide +kernel
theorem d_Model_relate_98 : decode b_Model_relate 98 = .ok (.iload_n 2, 1) := by decide +kernel
theorem d_Model_relate_99 : decode b_Model_relate 99 = .ok (.iconst 1, 1) := by decide +kernel
theorem d_Model_relate_100 : decode b_Model_relate 100 = .ok (.isub, 1) := by decide +kernel
theorem d_Model_relate_101 : decode b_Model_relate 101 = .ok (.iaload, 1) := by decide +kernel
theorem d_Model_relate_102 : decode b_Model_relate 102 = .ok (.iadd, 1) := by decide +kernel
theorem d_Model_relate_103 : decode b_Model_relate 103 = .ok (.iaload, 1) := by decide +kernel
theorem d_Model_relate_104 : decode b_Model_relate 104 = .ok (.invokestatic 110, 3) := by decide +kernel
theorem d_Model_relate_107 : decode b_Model_relate 107 = .ok (.if_icmp .ne 6, 3) := by decide +kernel
theorem d_Model_relate_110 : decode b_Model_relate 110 = .ok (.iinc 2 (-1), 3) := by decide +kernel
theorem d_Model_relate_113 : decode b_Model_relate 113 = .ok (.aload_n 0, 1) := by decide +kernel
theorem d_Model_relate_114 : decode b_Model_relate 114 = .ok (.getfield 7, 3) := by decide +kernel
theorem d_Model_relate_117 : decode b_Model_relate 117 = .ok (.sipush 320, 3) := by decide +kernel
theorem d_Model_relate_120 : decode b_Model_relate 120 = .ok (.iload_n 3, 1) := by decide +kernel
theorem d_Model_relate_121 : decode b_Model_relate 121 = .ok (.iadd, 1) := by decide +kernel
theorem d_Model_relate_122 : decode b_Model_relate 122 = .ok (.iaload, 1) := by decide +kernel
theorem d_Model_relate_123 : decode b_Model_relate 123 = .ok (.invokestatic 110, 3) := by decide +kernel
theorem d_Model_relate_126 : decode b_Model_relate 126 = .ok (.ifCond .le 20, 3) := by decide +kernel
theorem d_Model_relate_129 : decode b_Model_relate 129 = .ok (.aload_n 0, 1) := by decide +kernel
theorem d_Model_relate_130 : decode b_Model_relate 130 = .ok (.getfield 89, 3) := by decide +kernel
theorem d_Model_relate_133 : decode b_Model_relate 133 = .ok (.iload_n 2, 1) := by decide +kernel
theorem d_Model_relate_134 : decode b_Model_relate 134 = .ok (.iload_n 3, 1) := by decide +kernel
theorem d_Model_relate_135 : decode b_Model_relate 135 = .ok (.iastore, 1) := by decide +kernel
theorem d_Model_relate_136 : decode b_Model_relate 136 = .ok (.aload_n 0, 1) := by decide +kernel
theorem d_Model_relate_137 : decode b_Model_relate 137 = .ok (.getfield 92, 3) := by decide +kernel
theorem d_Model_relate_140 : decode b_Model_relate 140 = .ok (.iload_n 2, 1) := by decide +kernel
theorem d_Model_relate_141 : decode b_Model_relate 141 = .ok (.iinc 2 1, 3) := by decide +kernel
theorem d_Model_relate_144 : decode b_Model_relate 144 = .ok (.iconst 0, 1) := by decide +kernel
theorem d_Model_relate_145 : decode b_Model_relate 145 = .ok (.iastore, 1) := by decide +kernel
theorem d_Model_relate_146 : decode b_Model_relate 146 = .ok (.iinc 3 1, 3) := by decide +kernel
theorem d_Model_relate_149 : decode b_Model_relate 149 = .ok (.goto (-137), 3) := by decide +kernel
theorem d_Model_relate_152 : decode b_Model_relate 152 = .ok (.iload_n 1, 1) := by decide +kernel
theorem d_Model_relate_153 : decode b_Model_relate 153 = .ok (.ifCond .le 11, 3) := by decide +kernel
theorem d_Model_relate_156 : decode b_Model_relate 156 = .ok (.iload_n 2, 1) := by decide +kernel
theorem d_Model_relate_157 : decode b_Model_relate 157 = .ok (.ifCond .ne 7, 3) := by decide +kernel
theorem d_Model_relate_160 : decode b_Model_relate 160 = .ok (.iconst 1, 1) := by decide +kernel
theorem d_Model_relate_161 : decode b_Model_relate 161 = .ok (.goto 4, 3) := by decide +kernel
theorem d_Model_relate_164 : decode b_Model_relate 164 = .ok (.iconst 0, 1) := by decide +kernel
theorem d_Model_relate_165 : decode b_Model_relate 165 = .ok (.ireturn, 1) := by decide +kernel
abbrev b_Model_stands : ByteArray := prog_14_method_8_code
abbrev J_Model_stands : MethodName × ByteArray × Nat × Option FieldType := (⟨"FaslDeskModel", "stands", "(III)Z"⟩, b_Model_stands, 13, (some .boolean))
theorem d_Model_stands_0 : decode b_Model_stands 0 = .ok (.aload_n 0, 1) := by decide +kernel
theorem d_Model_stands_1 : decode b_Model_stands 1 = .ok (.getfield 7, 3) := by decide +kernel
theorem d_Model_stands_4 : decode b_Model_stands 4 = .ok (.sipush 320, 3) := by decide +kernel
theorem d_Model_stands_7 : decode b_Model_stands 7 = .ok (.iload_n 1, 1) := by decide +kernel
theorem d_Model_stands_8 : decode b_Model_stands 8 = .ok (.iadd, 1) := by decide +kernel
theorem d_Model_stands_9 : decode b_Model_stands 9 = .ok (.iaload, 1) := by decide +kernel
theorem d_Model_stands_10 : decode b_Model_stands 10 = .ok (.istore 4, 2) := by decide +kernel
theorem d_Model_stands_12 : decode b_Model_stands 12 = .ok (.aload_n 0, 1) := by decide +kernel
theorem d_Model_stands_13 : decode b_Model_stands 13 = .ok (.getfield 13, 3) := by decide +kernel
theorem d_Model_stands_16 : decode b_Model_stands 16 = .ok (.sipush 320, 3) := by decide +kernel
theorem d_Model_stands_19 : decode b_Model_stands 19 = .ok (.iload_n 1, 1) := by decide +kernel
theorem d_Model_stands_20 : decode b_Model_stands 20 = .ok (.iadd, 1) := by decide +kernel
theorem d_Model_stands_21 : decode b_Model_stands 21 = .ok (.iaload, 1) := by decide +kernel
theorem d_Model_stands_22 : decode b_Model_stands 22 = .ok (.istore 5, 2) := by decide +kernel
theorem d_Model_stands_24 : decode b_Model_stands 24 = .ok (.iload_n 1, 1) := by decide +kernel
theorem d_Model_stands_25 : decode b_Model_stands 25 = .ok (.istore 6, 2) := by decide +kernel
theorem d_Model_stands_27 : decode b_Model_stands 27 = .ok (.iconst 0, 1) := by decide +kernel
theorem d_Model_stands_28 : decode b_Model_stands 28 = .ok (.istore 7, 2) := by decide +kernel
theorem d_Model_stands_30 : decode b_Model_stands 30 = .ok (.iload 5, 2) := by decide +kernel
theorem d_Model_stands_32 : decode b_Model_stands 32 = .ok (.iload_n 3, 1) := by decide +kernel
theorem d_Model_stands_33 : decode b_Model_stands 33 = .ok (.if_icmp .ge 7, 3) := by decide +kernel
theorem d_Model_stands_36 : decode b_Model_stands 36 = .ok (.iconst 1, 1) := by decide +kernel
theorem d_Model_stands_37 : decode b_Model_stands 37 = .ok (.goto 4, 3) := by decide +kernel
theorem d_Model_stands_40 : decode b_Model_stands 40 = .ok (.iconst 0, 1) := by decide +kernel
theorem d_Model_stands_41 : decode b_Model_stands 41 = .ok (.istore 8, 2) := by decide +kernel
theorem d_Model_stands_43 : decode b_Model_stands 43 = .ok (.iconst 0, 1) := by decide +kernel
theorem d_Model_stands_44 : decode b_Model_stands 44 = .ok (.istore 9, 2) := by decide +kernel
theorem d_Model_stands_46 : decode b_Model_stands 46 = .ok (.aload_n 0, 1) := by decide +kernel
theorem d_Model_stands_47 : decode b_Model_stands 47 = .ok (.getfield 22, 3) := by decide +kernel
theorem d_Model_stands_50 : decode b_Model_stands 50 = .ok (.iload_n 1, 1) := by decide +kernel
theorem d_Model_stands_51 : decode b_Model_stands 51 = .ok (.iaload, 1) := by decide +kernel
theorem d_Model_stands_52 : decode b_Model_stands 52 = .ok (.istore 10, 2) := by decide +kernel
theorem d_Model_stands_54 : decode b_Model_stands 54 = .ok (.iload 10, 2) := by decide +kernel
theorem d_Model_stands_56 : decode b_Model_stands 56 = .ok (.ifCond .lt 112, 3) := by decide +kernel
theorem d_Model_stands_59 : decode b_Model_stands 59 = .ok (.aload_n 0, 1) := by decide +kernel
theorem d_Model_stands_60 : decode b_Model_stands 60 = .ok (.getfield 7, 3) := by decide +kernel
theorem d_Model_stands_63 : decode b_Model_stands 63 = .ok (.sipush 320, 3) := by decide +kernel
theorem d_Model_stands_66 : decode b_Model_stands 66 = .ok (.iload 10, 2) := by decide +kernel
theorem d_Model_stands_68 : decode b_Model_stands 68 = .ok (.iadd, 1) := by decide +kernel
theorem d_Model_stands_69 : decode b_Model_stands 69 = .ok (.iaload, 1) := by decide +kernel
theorem d_Model_stands_70 : decode b_Model_stands 70 = .ok (.istore 11, 2) := by decide +kernel
theorem d_Model_stands_72 : decode b_Model_stands 72 = .ok (.aload_n 0, 1) := by decide +kernel
theorem d_Model_stands_73 : decode b_Model_stands 73 = .ok (.getfield 13, 3) := by decide +kernel
theorem d_Model_stands_76 : decode b_Model_stands 76 = .ok (.sipush 320, 3) := by decide +kernel
theorem d_Model_stands_79 : decode b_Model_stands 79 = .ok (.iload 10, 2) := by decide +kernel
theorem d_Model_stands_81 : decode b_Model_stands 81 = .ok (.iadd, 1) := by decide +kernel
theorem d_Model_stands_82 : decode b_Model_stands 82 = .ok (.iaload, 1) := by decide +kernel
theorem d_Model_stands_83 : decode b_Model_stands 83 = .ok (.iload 5, 2) := by decide +kernel
theorem d_Model_stands_85 : decode b_Model_stands 85 = .ok (.if_icmp .ne 18, 3) := by decide +kernel
theorem d_Model_stands_88 : decode b_Model_stands 88 = .ok (.aload_n 0, 1) := by decide +kernel
theorem d_Model_stands_89 : decode b_Model_stands 89 = .ok (.getfield 25, 3) := by decide +kernel
theorem d_Model_stands_92 : decode b_Model_stands 92 = .ok (.iload 6, 2) := by decide +kernel
theorem d_Model_stands_94 : decode b_Model_stands 94 = .ok (.iaload, 1) := by decide +kernel
theorem d_Model_stands_95 : decode b_Model_stands 95 = .ok (.iconst 2, 1) := by decide +kernel
theorem d_Model_stands_96 : decode b_Model_stands 96 = .ok (.if_icmp .ne 7, 3) := by decide +kernel
theorem d_Model_stands_99 : decode b_Model_stands 99 = .ok (.iconst 1, 1) := by decide +kernel
theorem d_Model_stands_100 : decode b_Model_stands 100 = .ok (.goto 4, 3) := by decide +kernel
theorem d_Model_stands_103 : decode b_Model_stands 103 = .ok (.iconst 0, 1) := by decide +kernel
theorem d_Model_stands_104 : decode b_Model_stands 104 = .ok (.istore 12, 2) := by decide +kernel
theorem d_Model_stands_106 : decode b_Model_stands 106 = .ok (.iload 8, 2) := by decide +kernel
theorem d_Model_stands_108 : decode b_Model_stands 108 = .ok (.iload 11, 2) := by decide +kernel
theorem d_Model_stands_110 : decode b_Model_stands 110 = .ok (.bipush 14, 2) := by decide +kernel
theorem d_Model_stands_112 : decode b_Model_stands 112 = .ok (.if_icmp .eq 10, 3) := by decide +kernel
theorem d_Model_stands_115 : decode b_Model_stands 115 = .ok (.iload 11, 2) := by decide +kernel
theorem d_Model_stands_117 : decode b_Model_stands 117 = .ok (.bipush 16, 2) := by decide +kernel
theorem d_Model_stands_119 : decode b_Model_stands 119 = .ok (.if_icmp .ne 12, 3) := by decide +kernel
theorem d_Model_stands_122 : decode b_Model_stands 122 = .ok (.iload 12, 2) := by decide +kernel
theorem d_Model_stands_124 : decode b_Model_stands 124 = .ok (.ifCond .eq 7, 3) := by decide +kernel
theorem d_Model_stands_127 : decode b_Model_stands 127 = .ok (.iconst 1, 1) := by decide +kernel
theorem d_Model_stands_128 : decode b_Model_stands 128 = .ok (.goto 4, 3) := by decide +kernel
theorem d_Model_stands_131 : decode b_Model_stands 131 = .ok (.iconst 0, 1) := by decide +kernel
theorem d_Model_stands_132 : decode b_Model_stands 132 = .ok (.ior, 1) := by decide +kernel
theorem d_Model_stands_133 : decode b_Model_stands 133 = .ok (.istore 8, 2) := by decide +kernel
theorem d_Model_stands_135 : decode b_Model_stands 135 = .ok (.iload 11, 2) := by decide +kernel
theorem d_Model_stands_137 : decode b_Model_stands 137 = .ok (.bipush 16, 2) := by decide +kernel
theorem d_Model_stands_139 : decode b_Model_stands 139 = .ok (.if_icmp .ne 13, 3) := by decide +kernel
theorem d_Model_stands_142 : decode b_Model_stands 142 = .ok (.iinc 7 1, 3) := by decide +kernel
theorem d_Model_stands_145 : decode b_Model_stands 145 = .ok (.iload 9, 2) := by decide +kernel
theorem d_Model_stands_147 : decode b_Model_stands 147 = .ok (.iload 12, 2) := by decide +kernel
theorem d_Model_stands_149 : decode b_Model_stands 149 = .ok (.ior, 1) := by decide +kernel
theorem d_Model_stands_150 : decode b_Model_stands 150 = .ok (.istore 9, 2) := by decide +kernel
theorem d_Model_stands_152 : decode b_Model_stands 152 = .ok (.iload 10, 2) := by decide +kernel
theorem d_Model_stands_154 : decode b_Model_stands 154 = .ok (.istore 6, 2) := by decide +kernel
theorem d_Model_stands_156 : decode b_Model_stands 156 = .ok (.aload_n 0, 1) := by decide +kernel
theorem d_Model_stands_157 : decode b_Model_stands 157 = .ok (.getfield 22, 3) := by decide +kernel
theorem d_Model_stands_160 : decode b_Model_stands 160 = .ok (.iload 10, 2) := by decide +kernel
theorem d_Model_stands_162 : decode b_Model_stands 162 = .ok (.iaload, 1) := by decide +kernel
theorem d_Model_stands_163 : decode b_Model_stands 163 = .ok (.istore 10, 2) := by decide +kernel
theorem d_Model_stands_165 : decode b_Model_stands 165 = .ok (.goto (-111), 3) := by decide +kernel
theorem d_Model_stands_168 : decode b_Model_stands 168 = .ok (.iload 4, 2) := by decide +kernel
theorem d_Model_stands_170 : decode b_Model_stands 170 = .ok (.iconst 1, 1) := by decide +kernel
theorem d_Model_stands_171 : decode b_Model_stands 171 = .ok (.if_icmp .ne 6, 3) := by decide +kernel
theorem d_Model_stands_174 : decode b_Model_stands 174 = .ok (.iload 8, 2) := by decide +kernel
theorem d_Model_stands_176 : decode b_Model_stands 176 = .ok (.ireturn, 1) := by decide +kernel
theorem d_Model_stands_177 : decode b_Model_stands 177 = .ok (.iload 4, 2) := by decide +kernel
theorem d_Model_stands_179 : decode b_Model_stands 179 = .ok (.bipush 15, 2) := by decide +kernel
theorem d_Model_stands_181 : decode b_Model_stands 181 = .ok (.if_icmp .ne 19, 3) := by decide +kernel
theorem d_Model_stands_184 : decode b_Model_stands 184 = .ok (.iload 8, 2) := by decide +kernel
theorem d_Model_stands_186 : decode b_Model_stands 186 = .ok (.ifCond .eq 12, 3) := by decide +kernel
theorem d_Model_stands_189 : decode b_Model_stands 189 = .ok (.iload 9, 2) := by decide +kernel
theorem d_Model_stands_191 : decode b_Model_stands 191 = .ok (.ifCond .ne 7, 3) := by decide +kernel
theorem d_Model_stands_194 : decode b_Model_stands 194 = .ok (.iconst 1, 1) := by decide +kernel
theorem d_Model_stands_195 : decode b_Model_stands 195 = .ok (.goto 4, 3) := by decide +kernel
theorem d_Model_stands_198 : decode b_Model_stands 198 = .ok (.iconst 0, 1) := by decide +kernel
theorem d_Model_stands_199 : decode b_Model_stands 199 = .ok (.ireturn, 1) := by decide +kernel
theorem d_Model_stands_200 : decode b_Model_stands 200 = .ok (.iload 4, 2) := by decide +kernel
theorem d_Model_stands_202 : decode b_Model_stands 202 = .ok (.bipush 14, 2) := by decide +kernel
theorem d_Model_stands_204 : decode b_Model_stands 204 = .ok (.if_icmp .ne 14, 3) := by decide +kernel
theorem d_Model_stands_207 : decode b_Model_stands 207 = .ok (.iload 9, 2) := by decide +kernel
theorem d_Model_stands_209 : decode b_Model_stands 209 = .ok (.ifCond .ne 7, 3) := by decide +kernel
theorem d_Model_stands_212 : decode b_Model_stands 212 = .ok (.iconst 1, 1) := by decide +kernel
theorem d_Model_stands_213 : decode b_Model_stands 213 = .ok (.goto 4, 3) := by decide +kernel
theorem d_Model_stands_216 : decode b_Model_stands 216 = .ok (.iconst 0, 1) := by decide +kernel
theorem d_Model_stands_217 : decode b_Model_stands 217 = .ok (.ireturn, 1) := by decide +kernel
theorem d_Model_stands_218 : decode b_Model_stands 218 = .ok (.iload 4, 2) := by decide +kernel
theorem d_Model_stands_220 : decode b_Model_stands 220 = .ok (.bipush 16, 2) := by decide +kernel
theorem d_Model_stands_222 : decode b_Model_stands 222 = .ok (.if_icmp .ne 20, 3) := by decide +kernel
theorem d_Model_stands_225 : decode b_Model_stands 225 = .ok (.iload 9, 2) := by decide +kernel
theorem d_Model_stands_227 : decode b_Model_stands 227 = .ok (.ifCond .ne 13, 3) := by decide +kernel
theorem d_Model_stands_230 : decode b_Model_stands 230 = .ok (.iload 7, 2) := by decide +kernel
theorem d_Model_stands_232 : decode b_Model_stands 232 = .ok (.iconst 2, 1) := by decide +kernel
theorem d_Model_stands_233 : decode b_Model_stands 233 = .ok (.if_icmp .ge 7, 3) := by decide +kernel
theorem d_Model_stands_236 : decode b_Model_stands 236 = .ok (.iconst 1, 1) := by decide +kernel
theorem d_Model_stands_237 : decode b_Model_stands 237 = .ok (.goto 4, 3) := by decide +kernel
theorem d_Model_stands_240 : decode b_Model_stands 240 = .ok (.iconst 0, 1) := by decide +kernel
theorem d_Model_stands_241 : decode b_Model_stands 241 = .ok (.ireturn, 1) := by decide +kernel
theorem d_Model_stands_242 : decode b_Model_stands 242 = .ok (.iload 4, 2) := by decide +kernel
theorem d_Model_stands_244 : decode b_Model_stands 244 = .ok (.bipush 17, 2) := by decide +kernel
theorem d_Model_stands_246 : decode b_Model_stands 246 = .ok (.if_icmp .ne 14, 3) := by decide +kernel
theorem d_Model_stands_249 : decode b_Model_stands 249 = .ok (.iload 5, 2) := by decide +kernel
theorem d_Model_stands_251 : decode b_Model_stands 251 = .ok (.iload_n 2, 1) := by decide +kernel
theorem d_Model_stands_252 : decode b_Model_stands 252 = .ok (.if_icmp .ge 12, 3) := by decide +kernel
theorem d_Model_stands_255 : decode b_Model_stands 255 = .ok (.iload 7, 2) := by decide +kernel
theorem d_Model_stands_257 : decode b_Model_stands 257 = .ok (.ifCond .ne 7, 3) := by decide +kernel
theorem d_Model_stands_260 : decode b_Model_stands 260 = .ok (.iconst 1, 1) := by decide +kernel
theorem d_Model_stands_261 : decode b_Model_stands 261 = .ok (.goto 4, 3) := by decide +kernel
theorem d_Model_stands_264 : decode b_Model_stands 264 = .ok (.iconst 0, 1) := by decide +kernel
theorem d_Model_stands_265 : decode b_Model_stands 265 = .ok (.ireturn, 1) := by decide +kernel
abbrev b_Model_define : ByteArray := prog_14_method_9_code
abbrev J_Model_define : MethodName × ByteArray × Nat × Option FieldType := (⟨"FaslDeskModel", "define", "(II)I"⟩, b_Model_define, 6, (some .int))
theorem d_Model_define_0 : decode b_Model_define 0 = .ok (.iload_n 1, 1) := by decide +kernel
theorem d_Model_define_1 : decode b_Model_define 1 = .ok (.iconst 0, 1) := by decide +kernel
theorem d_Model_define_2 : decode b_Model_define 2 = .ok (.bipush 7, 2) := by decide +kernel
theorem d_Model_define_4 : decode b_Model_define 4 = .ok (.invokestatic 102, 3) := by decide +kernel
theorem d_Model_define_7 : decode b_Model_define 7 = .ok (.ifCond .eq 19, 3) := by decide +kernel
theorem d_Model_define_10 : decode b_Model_define 10 = .ok (.iload_n 2, 1) := by decide +kernel
theorem d_Model_define_11 : decode b_Model_define 11 = .ok (.iconst 0, 1) := by decide +kernel
theorem d_Model_define_12 : decode b_Model_define 12 = .ok (.iconst 3, 1) := by decide +kernel
theorem d_Model_define_13 : decode b_Model_define 13 = .ok (.invokestatic 102, 3) := by decide +kernel
theorem d_Model_define_16 : decode b_Model_define 16 = .ok (.ifCond .eq 10, 3) := by decide +kernel
theorem d_Model_define_19 : decode b_Model_define 19 = .ok (.aload_n 0, 1) := by decide +kernel
theorem d_Model_define_20 : decode b_Model_define 20 = .ok (.invokevirtual 114, 3) := by decide +kernel
theorem d_Model_define_23 : decode b_Model_define 23 = .ok (.ifCond .ne 5, 3) := by decide +kernel
theorem d_Model_define_26 : decode b_Model_define 26 = .ok (.iconst (-1), 1) := by decide +kernel
theorem d_Model_define_27 : decode b_Model_define 27 = .ok (.ireturn, 1) := by decide +kernel
theorem d_Model_define_28 : decode b_Model_define 28 = .ok (.aload_n 0, 1) := by decide +kernel
theorem d_Model_define_29 : decode b_Model_define 29 = .ok (.getfield 16, 3) := by decide +kernel
theorem d_Model_define_32 : decode b_Model_define 32 = .ok (.bipush 8, 2) := by decide +kernel
theorem d_Model_define_34 : decode b_Model_define 34 = .ok (.iaload, 1) := by decide +kernel
theorem d_Model_define_35 : decode b_Model_define 35 = .ok (.istore_n 3, 1) := by decide +kernel
theorem d_Model_define_36 : decode b_Model_define 36 = .ok (.iconst 0, 1) := by decide +kernel
theorem d_Model_define_37 : decode b_Model_define 37 = .ok (.istore 4, 2) := by decide +kernel
theorem d_Model_define_39 : decode b_Model_define 39 = .ok (.iconst 0, 1) := by decide +kernel
theorem d_Model_define_40 : decode b_Model_define 40 = .ok (.istore 5, 2) := by decide +kernel
theorem d_Model_define_42 : decode b_Model_define 42 = .ok (.iload 5, 2) := by decide +kernel
theorem d_Model_define_44 : decode b_Model_define 44 = .ok (.iload_n 3, 1) := by decide +kernel
theorem d_Model_define_45 : decode b_Model_define 45 = .ok (.if_icmp .ge 47, 3) := by decide +kernel
theorem d_Model_define_48 : decode b_Model_define 48 = .ok (.aload_n 0, 1) := by decide +kernel
theorem d_Model_define_49 : decode b_Model_define 49 = .ok (.getfield 7, 3) := by decide +kernel
theorem d_Model_define_52 : decode b_Model_define 52 = .ok (.sipush 320, 3) := by decide +kernel
theorem d_Model_define_55 : decode b_Model_define 55 = .ok (.iload 5, 2) := by decide +kernel
theorem d_Model_define_57 : decode b_Model_define 57 = .ok (.iadd, 1) := by decide +kernel
theorem d_Model_define_58 : decode b_Model_define 58 = .ok (.iaload, 1) := by decide +kernel
theorem d_Model_define_59 : decode b_Model_define 59 = .ok (.bipush 17, 2) := by decide +kernel
theorem d_Model_define_61 : decode b_Model_define 61 = .ok (.if_icmp .ne 6, 3) := by decide +kernel
theorem d_Model_define_64 : decode b_Model_define 64 = .ok (.iinc 4 1, 3) := by decide +kernel
theorem d_Model_define_67 : decode b_Model_define 67 = .ok (.aload_n 0, 1) := by decide +kernel
theorem d_Model_define_68 : decode b_Model_define 68 = .ok (.iload 5, 2) := by decide +kernel
theorem d_Model_define_70 : decode b_Model_define 70 = .ok (.iload_n 1, 1) := by decide +kernel
theorem d_Model_define_71 : decode b_Model_define 71 = .ok (.iload_n 2, 1) := by decide +kernel
theorem d_Model_define_72 : decode b_Model_define 72 = .ok (.invokevirtual 118, 3) := by decide +kernel
theorem d_Model_define_75 : decode b_Model_define 75 = .ok (.ifCond .eq 9, 3) := by decide +kernel
theorem d_Model_define_78 : decode b_Model_define 78 = .ok (.iload 4, 2) := by decide +kernel
theorem d_Model_define_80 : decode b_Model_define 80 = .ok (.iconst 2, 1) := by decide +kernel
theorem d_Model_define_81 : decode b_Model_define 81 = .ok (.if_icmp .le 5, 3) := by decide +kernel
theorem d_Model_define_84 : decode b_Model_define 84 = .ok (.iconst (-1), 1) := by decide +kernel
theorem d_Model_define_85 : decode b_Model_define 85 = .ok (.ireturn, 1) := by decide +kernel
theorem d_Model_define_86 : decode b_Model_define 86 = .ok (.iinc 5 1, 3) := by decide +kernel
theorem d_Model_define_89 : decode b_Model_define 89 = .ok (.goto (-47), 3) := by decide +kernel
theorem d_Model_define_92 : decode b_Model_define 92 = .ok (.iconst 0, 1) := by decide +kernel
theorem d_Model_define_93 : decode b_Model_define 93 = .ok (.istore 5, 2) := by decide +kernel
theorem d_Model_define_95 : decode b_Model_define 95 = .ok (.iload 5, 2) := by decide +kernel
theorem d_Model_define_97 : decode b_Model_define 97 = .ok (.iload_n 3, 1) := by decide +kernel
theorem d_Model_define_98 : decode b_Model_define 98 = .ok (.if_icmp .ge 55, 3) := by decide +kernel
theorem d_Model_define_101 : decode b_Model_define 101 = .ok (.aload_n 0, 1) := by decide +kernel
theorem d_Model_define_102 : decode b_Model_define 102 = .ok (.getfield 7, 3) := by decide +kernel
theorem d_Model_define_105 : decode b_Model_define 105 = .ok (.bipush 40, 2) := by decide +kernel
theorem d_Model_define_107 : decode b_Model_define 107 = .ok (.iload_n 1, 1) := by decide +kernel
theorem d_Model_define_108 : decode b_Model_define 108 = .ok (.imul, 1) := by decide +kernel
theorem d_Model_define_109 : decode b_Model_define 109 = .ok (.iload 5, 2) := by decide +kernel
theorem d_Model_define_111 : decode b_Model_define 111 = .ok (.iadd, 1) := by decide +kernel
theorem d_Model_define_112 : decode b_Model_define 112 = .ok (.aload_n 0, 1) := by decide +kernel
theorem d_Model_define_113 : decode b_Model_define 113 = .ok (.getfield 7, 3) := by decide +kernel
theorem d_Model_define_116 : decode b_Model_define 116 = .ok (.sipush 320, 3) := by decide +kernel
theorem d_Model_define_119 : decode b_Model_define 119 = .ok (.iload 5, 2) := by decide +kernel
theorem d_Model_define_121 : decode b_Model_define 121 = .ok (.iadd, 1) := by decide +kernel
theorem d_Model_define_122 : decode b_Model_define 122 = .ok (.iaload, 1) := by decide +kernel
theorem d_Model_define_123 : decode b_Model_define 123 = .ok (.iastore, 1) := by decide +kernel
theorem d_Model_define_124 : decode b_Model_define 124 = .ok (.aload_n 0, 1) := by decide +kernel
theorem d_Model_define_125 : decode b_Model_define 125 = .ok (.getfield 13, 3) := by decide +kernel
theorem d_Model_define_128 : decode b_Model_define 128 = .ok (.bipush 40, 2) := by decide +kernel
theorem d_Model_define_130 : decode b_Model_define 130 = .ok (.iload_n 1, 1) := by decide +kernel
theorem d_Model_define_131 : decode b_Model_define 131 = .ok (.imul, 1) := by decide +kernel
theorem d_Model_define_132 : decode b_Model_define 132 = .ok (.iload 5, 2) := by decide +kernel
theorem d_Model_define_134 : decode b_Model_define 134 = .ok (.iadd, 1) := by decide +kernel
theorem d_Model_define_135 : decode b_Model_define 135 = .ok (.aload_n 0, 1) := by decide +kernel
theorem d_Model_define_136 : decode b_Model_define 136 = .ok (.getfield 13, 3) := by decide +kernel
theorem d_Model_define_139 : decode b_Model_define 139 = .ok (.sipush 320, 3) := by decide +kernel
theorem d_Model_define_142 : decode b_Model_define 142 = .ok (.iload 5, 2) := by decide +kernel
theorem d_Model_define_144 : decode b_Model_define 144 = .ok (.iadd, 1) := by decide +kernel
theorem d_Model_define_145 : decode b_Model_define 145 = .ok (.iaload, 1) := by decide +kernel
theorem d_Model_define_146 : decode b_Model_define 146 = .ok (.iastore, 1) := by decide +kernel
theorem d_Model_define_147 : decode b_Model_define 147 = .ok (.iinc 5 1, 3) := by decide +kernel
theorem d_Model_define_150 : decode b_Model_define 150 = .ok (.goto (-55), 3) := by decide +kernel
theorem d_Model_define_153 : decode b_Model_define 153 = .ok (.aload_n 0, 1) := by decide +kernel
theorem d_Model_define_154 : decode b_Model_define 154 = .ok (.getfield 16, 3) := by decide +kernel
theorem d_Model_define_157 : decode b_Model_define 157 = .ok (.iload_n 1, 1) := by decide +kernel
theorem d_Model_define_158 : decode b_Model_define 158 = .ok (.iload_n 3, 1) := by decide +kernel
theorem d_Model_define_159 : decode b_Model_define 159 = .ok (.iastore, 1) := by decide +kernel
theorem d_Model_define_160 : decode b_Model_define 160 = .ok (.aload_n 0, 1) := by decide +kernel
theorem d_Model_define_161 : decode b_Model_define 161 = .ok (.getfield 16, 3) := by decide +kernel
theorem d_Model_define_164 : decode b_Model_define 164 = .ok (.bipush 8, 2) := by decide +kernel
theorem d_Model_define_166 : decode b_Model_define 166 = .ok (.iconst 0, 1) := by decide +kernel
theorem d_Model_define_167 : decode b_Model_define 167 = .ok (.iastore, 1) := by decide +kernel
theorem d_Model_define_168 : decode b_Model_define 168 = .ok (.aload_n 0, 1) := by decide +kernel
theorem d_Model_define_169 : decode b_Model_define 169 = .ok (.getfield 19, 3) := by decide +kernel
theorem d_Model_define_172 : decode b_Model_define 172 = .ok (.iload_n 1, 1) := by decide +kernel
theorem d_Model_define_173 : decode b_Model_define 173 = .ok (.iload_n 2, 1) := by decide +kernel
theorem d_Model_define_174 : decode b_Model_define 174 = .ok (.iastore, 1) := by decide +kernel
theorem d_Model_define_175 : decode b_Model_define 175 = .ok (.aload_n 0, 1) := by decide +kernel
theorem d_Model_define_176 : decode b_Model_define 176 = .ok (.iload_n 1, 1) := by decide +kernel
theorem d_Model_define_177 : decode b_Model_define 177 = .ok (.invokevirtual 121, 3) := by decide +kernel
theorem d_Model_define_180 : decode b_Model_define 180 = .ok (.iload_n 3, 1) := by decide +kernel
theorem d_Model_define_181 : decode b_Model_define 181 = .ok (.ireturn, 1) := by decide +kernel
abbrev b_Model_put : ByteArray := prog_14_method_10_code
abbrev J_Model_put : MethodName × ByteArray × Nat × Option FieldType := (⟨"FaslDeskModel", "put", "(IIII)I"⟩, b_Model_put, 6, (some .int))
theorem d_Model_put_0 : decode b_Model_put 0 = .ok (.sipush 280, 3) := by decide +kernel
theorem d_Model_put_3 : decode b_Model_put 3 = .ok (.iload_n 1, 1) := by decide +kernel
theorem d_Model_put_4 : decode b_Model_put 4 = .ok (.imul, 1) := by decide +kernel
theorem d_Model_put_5 : decode b_Model_put 5 = .ok (.aload_n 0, 1) := by decide +kernel
theorem d_Model_put_6 : decode b_Model_put 6 = .ok (.getfield 125, 3) := by decide +kernel
theorem d_Model_put_9 : decode b_Model_put 9 = .ok (.iadd, 1) := by decide +kernel
theorem d_Model_put_10 : decode b_Model_put 10 = .ok (.istore 5, 2) := by decide +kernel
theorem d_Model_put_12 : decode b_Model_put 12 = .ok (.aload_n 0, 1) := by decide +kernel
theorem d_Model_put_13 : decode b_Model_put 13 = .ok (.getfield 28, 3) := by decide +kernel
theorem d_Model_put_16 : decode b_Model_put 16 = .ok (.iload 5, 2) := by decide +kernel
theorem d_Model_put_18 : decode b_Model_put 18 = .ok (.iload_n 2, 1) := by decide +kernel
theorem d_Model_put_19 : decode b_Model_put 19 = .ok (.iastore, 1) := by decide +kernel
theorem d_Model_put_20 : decode b_Model_put 20 = .ok (.aload_n 0, 1) := by decide +kernel
theorem d_Model_put_21 : decode b_Model_put 21 = .ok (.getfield 31, 3) := by decide +kernel
theorem d_Model_put_24 : decode b_Model_put 24 = .ok (.iload 5, 2) := by decide +kernel
theorem d_Model_put_26 : decode b_Model_put 26 = .ok (.iload_n 3, 1) := by decide +kernel
theorem d_Model_put_27 : decode b_Model_put 27 = .ok (.iastore, 1) := by decide +kernel
theorem d_Model_put_28 : decode b_Model_put 28 = .ok (.aload_n 0, 1) := by decide +kernel
theorem d_Model_put_29 : decode b_Model_put 29 = .ok (.getfield 34, 3) := by decide +kernel
theorem d_Model_put_32 : decode b_Model_put 32 = .ok (.iload 5, 2) := by decide +kernel
theorem d_Model_put_34 : decode b_Model_put 34 = .ok (.iload 4, 2) := by decide +kernel
theorem d_Model_put_36 : decode b_Model_put 36 = .ok (.iastore, 1) := by decide +kernel
theorem d_Model_put_37 : decode b_Model_put 37 = .ok (.aload_n 0, 1) := by decide +kernel
theorem d_Model_put_38 : decode b_Model_put 38 = .ok (.getfield 46, 3) := by decide +kernel
theorem d_Model_put_41 : decode b_Model_put 41 = .ok (.iload 5, 2) := by decide +kernel
theorem d_Model_put_43 : decode b_Model_put 43 = .ok (.iconst 0, 1) := by decide +kernel
theorem d_Model_put_44 : decode b_Model_put 44 = .ok (.bastore, 1) := by decide +kernel
theorem d_Model_put_45 : decode b_Model_put 45 = .ok (.aload_n 0, 1) := by decide +kernel
theorem d_Model_put_46 : decode b_Model_put 46 = .ok (.dup, 1) := by decide +kernel
theorem d_Model_put_47 : decode b_Model_put 47 = .ok (.getfield 125, 3) := by decide +kernel
theorem d_Model_put_50 : decode b_Model_put 50 = .ok (.dup_x1, 1) := by decide +kernel
theorem d_Model_put_51 : decode b_Model_put 51 = .ok (.iconst 1, 1) := by decide +kernel
theorem d_Model_put_52 : decode b_Model_put 52 = .ok (.iadd, 1) := by decide +kernel
theorem d_Model_put_53 : decode b_Model_put 53 = .ok (.putfield 125, 3) := by decide +kernel
theorem d_Model_put_56 : decode b_Model_put 56 = .ok (.ireturn, 1) := by decide +kernel
abbrev b_Model_fix : ByteArray := prog_14_method_11_code
abbrev J_Model_fix : MethodName × ByteArray × Nat × Option FieldType := (⟨"FaslDeskModel", "fix", "(II)V"⟩, b_Model_fix, 3, none)
theorem d_Model_fix_0 : decode b_Model_fix 0 = .ok (.aload_n 0, 1) := by decide +kernel
theorem d_Model_fix_1 : decode b_Model_fix 1 = .ok (.getfield 46, 3) := by decide +kernel
theorem d_Model_fix_4 : decode b_Model_fix 4 = .ok (.sipush 280, 3) := by decide +kernel
theorem d_Model_fix_7 : decode b_Model_fix 7 = .ok (.iload_n 1, 1) := by decide +kernel
theorem d_Model_fix_8 : decode b_Model_fix 8 = .ok (.imul, 1) := by decide +kernel
theorem d_Model_fix_9 : decode b_Model_fix 9 = .ok (.aload_n 0, 1) := by decide +kernel
theorem d_Model_fix_10 : decode b_Model_fix 10 = .ok (.iload_n 1, 1) := by decide +kernel
theorem d_Model_fix_11 : decode b_Model_fix 11 = .ok (.iload_n 2, 1) := by decide +kernel
theorem d_Model_fix_12 : decode b_Model_fix 12 = .ok (.iconst 0, 1) := by decide +kernel
theorem d_Model_fix_13 : decode b_Model_fix 13 = .ok (.iconst 0, 1) := by decide +kernel
theorem d_Model_fix_14 : decode b_Model_fix 14 = .ok (.invokevirtual 128, 3) := by decide +kernel
theorem d_Model_fix_17 : decode b_Model_fix 17 = .ok (.iadd, 1) := by decide +kernel
theorem d_Model_fix_18 : decode b_Model_fix 18 = .ok (.iconst 1, 1) := by decide +kernel
theorem d_Model_fix_19 : decode b_Model_fix 19 = .ok (.bastore, 1) := by decide +kernel
theorem d_Model_fix_20 : decode b_Model_fix 20 = .ok (.return_, 1) := by decide +kernel
abbrev b_Model_translate : ByteArray := prog_14_method_12_code
abbrev J_Model_translate : MethodName × ByteArray × Nat × Option FieldType := (⟨"FaslDeskModel", "translate", "(I)V"⟩, b_Model_translate, 8, none)
theorem d_Model_translate_0 : decode b_Model_translate 0 = .ok (.iconst 0, 1) := by decide +kernel
theorem d_Model_translate_1 : decode b_Model_translate 1 = .ok (.istore_n 2, 1) := by decide +kernel
theorem d_Model_translate_2 : decode b_Model_translate 2 = .ok (.aload_n 0, 1) := by decide +kernel
theorem d_Model_translate_3 : decode b_Model_translate 3 = .ok (.iconst 0, 1) := by decide +kernel
theorem d_Model_translate_4 : decode b_Model_translate 4 = .ok (.putfield 125, 3) := by decide +kernel
theorem d_Model_translate_7 : decode b_Model_translate 7 = .ok (.aload_n 0, 1) := by decide +kernel
theorem d_Model_translate_8 : decode b_Model_translate 8 = .ok (.getfield 19, 3) := by decide +kernel
theorem d_Model_translate_11 : decode b_Model_translate 11 = .ok (.iload_n 1, 1) := by decide +kernel
theorem d_Model_translate_12 : decode b_Model_translate 12 = .ok (.iaload, 1) := by decide +kernel
theorem d_Model_translate_13 : decode b_Model_translate 13 = .ok (.istore_n 3, 1) := by decide +kernel
theorem d_Model_translate_14 : decode b_Model_translate 14 = .ok (.iload_n 3, 1) := by decide +kernel
theorem d_Model_translate_15 : decode b_Model_translate 15 = .ok (.bipush 7, 2) := by decide +kernel
theorem d_Model_translate_17 : decode b_Model_translate 17 = .ok (.if_icmp .ge 28, 3) := by decide +kernel
theorem d_Model_translate_20 : decode b_Model_translate 20 = .ok (.aload_n 0, 1) := by decide +kernel
theorem d_Model_translate_21 : decode b_Model_translate 21 = .ok (.iload_n 1, 1) := by decide +kernel
theorem d_Model_translate_22 : decode b_Model_translate 22 = .ok (.iconst 0, 1) := by decide +kernel
theorem d_Model_translate_23 : decode b_Model_translate 23 = .ok (.iconst 0, 1) := by decide +kernel
theorem d_Model_translate_24 : decode b_Model_translate 24 = .ok (.iconst 0, 1) := by decide +kernel
theorem d_Model_translate_25 : decode b_Model_translate 25 = .ok (.invokevirtual 128, 3) := by decide +kernel
theorem d_Model_translate_28 : decode b_Model_translate 28 = .ok (.pop, 1) := by decide +kernel
theorem d_Model_translate_29 : decode b_Model_translate 29 = .ok (.aload_n 0, 1) := by decide +kernel
theorem d_Model_translate_30 : decode b_Model_translate 30 = .ok (.iload_n 1, 1) := by decide +kernel
theorem d_Model_translate_31 : decode b_Model_translate 31 = .ok (.bipush 13, 2) := by decide +kernel
theorem d_Model_translate_33 : decode b_Model_translate 33 = .ok (.iload_n 3, 1) := by decide +kernel
theorem d_Model_translate_34 : decode b_Model_translate 34 = .ok (.iconst 0, 1) := by decide +kernel
theorem d_Model_translate_35 : decode b_Model_translate 35 = .ok (.invokevirtual 128, 3) := by decide +kernel
theorem d_Model_translate_38 : decode b_Model_translate 38 = .ok (.pop, 1) := by decide +kernel
theorem d_Model_translate_39 : decode b_Model_translate 39 = .ok (.iinc 3 1, 3) := by decide +kernel
theorem d_Model_translate_42 : decode b_Model_translate 42 = .ok (.goto (-28), 3) := by decide +kernel
theorem d_Model_translate_45 : decode b_Model_translate 45 = .ok (.iconst 0, 1) := by decide +kernel
theorem d_Model_translate_46 : decode b_Model_translate 46 = .ok (.istore_n 3, 1) := by decide +kernel
theorem d_Model_translate_47 : decode b_Model_translate 47 = .ok (.iload_n 3, 1) := by decide +kernel
theorem d_Model_translate_48 : decode b_Model_translate 48 = .ok (.aload_n 0, 1) := by decide +kernel
theorem d_Model_translate_49 : decode b_Model_translate 49 = .ok (.getfield 16, 3) := by decide +kernel
theorem d_Model_translate_52 : decode b_Model_translate 52 = .ok (.iload_n 1, 1) := by decide +kernel
theorem d_Model_translate_53 : decode b_Model_translate 53 = .ok (.iaload, 1) := by decide +kernel
theorem d_Model_translate_54 : decode b_Model_translate 54 = .ok (.if_icmp .ge 123, 3) := by decide +kernel
theorem d_Model_translate_57 : decode b_Model_translate 57 = .ok (.aload_n 0, 1) := by decide +kernel
theorem d_Model_translate_58 : decode b_Model_translate 58 = .ok (.getfield 7, 3) := by decide +kernel
theorem d_Model_translate_61 : decode b_Model_translate 61 = .ok (.bipush 40, 2) := by decide +kernel
theorem d_Model_translate_63 : decode b_Model_translate 63 = .ok (.iload_n 1, 1) := by decide +kernel
theorem d_Model_translate_64 : decode b_Model_translate 64 = .ok (.imul, 1) := by decide +kernel
theorem d_Model_translate_65 : decode b_Model_translate 65 = .ok (.iload_n 3, 1) := by decide +kernel
theorem d_Model_translate_66 : decode b_Model_translate 66 = .ok (.iadd, 1) := by decide +kernel
theorem d_Model_translate_67 : decode b_Model_translate 67 = .ok (.iaload, 1) := by decide +kernel
theorem d_Model_translate_68 : decode b_Model_translate 68 = .ok (.istore 4, 2) := by decide +kernel
theorem d_Model_translate_70 : decode b_Model_translate 70 = .ok (.aload_n 0, 1) := by decide +kernel
theorem d_Model_translate_71 : decode b_Model_translate 71 = .ok (.getfield 13, 3) := by decide +kernel
theorem d_Model_translate_74 : decode b_Model_translate 74 = .ok (.bipush 40, 2) := by decide +kernel
theorem d_Model_translate_76 : decode b_Model_translate 76 = .ok (.iload_n 1, 1) := by decide +kernel
theorem d_Model_translate_77 : decode b_Model_translate 77 = .ok (.imul, 1) := by decide +kernel
theorem d_Model_translate_78 : decode b_Model_translate 78 = .ok (.iload_n 3, 1) := by decide +kernel
theorem d_Model_translate_79 : decode b_Model_translate 79 = .ok (.iadd, 1) := by decide +kernel
theorem d_Model_translate_80 : decode b_Model_translate 80 = .ok (.iaload, 1) := by decide +kernel
theorem d_Model_translate_81 : decode b_Model_translate 81 = .ok (.istore 5, 2) := by decide +kernel
theorem d_Model_translate_83 : decode b_Model_translate 83 = .ok (.iload 4, 2) := by decide +kernel
theorem d_Model_translate_85 : decode b_Model_translate 85 = .ok (.iconst 2, 1) := by decide +kernel
theorem d_Model_translate_86 : decode b_Model_translate 86 = .ok (.if_icmp .ge 17, 3) := by decide +kernel
theorem d_Model_translate_89 : decode b_Model_translate 89 = .ok (.aload_n 0, 1) := by decide +kernel
theorem d_Model_translate_90 : decode b_Model_translate 90 = .ok (.iload_n 1, 1) := by decide +kernel
theorem d_Model_translate_91 : decode b_Model_translate 91 = .ok (.iload 4, 2) := by decide +kernel
theorem d_Model_translate_93 : decode b_Model_translate 93 = .ok (.iload 5, 2) := by decide +kernel
theorem d_Model_translate_95 : decode b_Model_translate 95 = .ok (.iconst 0, 1) := by decide +kernel
theorem d_Model_translate_96 : decode b_Model_translate 96 = .ok (.invokevirtual 128, 3) := by decide +kernel
theorem d_Model_translate_99 : decode b_Model_translate 99 = .ok (.pop, 1) := by decide +kernel
theorem d_Model_translate_100 : decode b_Model_translate 100 = .ok (.goto 23, 3) := by decide +kernel
theorem d_Model_translate_103 : decode b_Model_translate 103 = .ok (.aload_n 0, 1) := by decide +kernel
theorem d_Model_translate_104 : decode b_Model_translate 104 = .ok (.getfield 89, 3) := by decide +kernel
theorem d_Model_translate_107 : decode b_Model_translate 107 = .ok (.iload_n 2, 1) := by decide +kernel
theorem d_Model_translate_108 : decode b_Model_translate 108 = .ok (.iload_n 3, 1) := by decide +kernel
theorem d_Model_translate_109 : decode b_Model_translate 109 = .ok (.iastore, 1) := by decide +kernel
theorem d_Model_translate_110 : decode b_Model_translate 110 = .ok (.aload_n 0, 1) := by decide +kernel
theorem d_Model_translate_111 : decode b_Model_translate 111 = .ok (.getfield 92, 3) := by decide +kernel
theorem d_Model_translate_114 : decode b_Model_translate 114 = .ok (.iload_n 2, 1) := by decide +kernel
theorem d_Model_translate_115 : decode b_Model_translate 115 = .ok (.iinc 2 1, 3) := by decide +kernel
theorem d_Model_translate_118 : decode b_Model_translate 118 = .ok (.iconst 0, 1) := by decide +kernel
theorem d_Model_translate_119 : decode b_Model_translate 119 = .ok (.iastore, 1) := by decide +kernel
theorem d_Model_translate_120 : decode b_Model_translate 120 = .ok (.goto 51, 3) := by decide +kernel
theorem d_Model_translate_123 : decode b_Model_translate 123 = .ok (.iconst 1, 1) := by decide +kernel
theorem d_Model_translate_124 : decode b_Model_translate 124 = .ok (.istore 6, 2) := by decide +kernel
theorem d_Model_translate_126 : decode b_Model_translate 126 = .ok (.iload 6, 2) := by decide +kernel
theorem d_Model_translate_128 : decode b_Model_translate 128 = .ok (.ifCond .eq 43, 3) := by decide +kernel
theorem d_Model_translate_131 : decode b_Model_translate 131 = .ok (.iload_n 2, 1) := by decide +kernel
theorem d_Model_translate_132 : decode b_Model_translate 132 = .ok (.ifCond .le 39, 3) := by decide +kernel
theorem d_Model_translate_135 : decode b_Model_translate 135 = .ok (.iload_n 2, 1) := by decide +kernel
theorem d_Model_translate_136 : decode b_Model_translate 136 = .ok (.iconst 1, 1) := by decide +kernel
theorem d_Model_translate_137 : decode b_Model_translate 137 = .ok (.isub, 1) := by decide +kernel
theorem d_Model_translate_138 : decode b_Model_translate 138 = .ok (.istore 7, 2) := by decide +kernel
theorem d_Model_translate_140 : decode b_Model_translate 140 = .ok (.aload_n 0, 1) := by decide +kernel
theorem d_Model_translate_141 : decode b_Model_translate 141 = .ok (.getfield 92, 3) := by decide +kernel
theorem d_Model_translate_144 : decode b_Model_translate 144 = .ok (.iload 7, 2) := by decide +kernel
theorem d_Model_translate_146 : decode b_Model_translate 146 = .ok (.dup2, 1) := by decide +kernel
theorem d_Model_translate_147 : decode b_Model_translate 147 = .ok (.iaload, 1) := by decide +kernel
theorem d_Model_translate_148 : decode b_Model_translate 148 = .ok (.iconst 1, 1) := by decide +kernel
theorem d_Model_translate_149 : decode b_Model_translate 149 = .ok (.iadd, 1) := by decide +kernel
theorem d_Model_translate_150 : decode b_Model_translate 150 = .ok (.iastore, 1) := by decide +kernel
theorem d_Model_translate_151 : decode b_Model_translate 151 = .ok (.aload_n 0, 1) := by decide +kernel
theorem d_Model_translate_152 : decode b_Model_translate 152 = .ok (.iload_n 1, 1) := by decide +kernel
theorem d_Model_translate_153 : decode b_Model_translate 153 = .ok (.iload 7, 2) := by decide +kernel
theorem d_Model_translate_155 : decode b_Model_translate 155 = .ok (.invokevirtual 132, 3) := by decide +kernel
theorem d_Model_translate_158 : decode b_Model_translate 158 = .ok (.istore 6, 2) := by decide +kernel
theorem d_Model_translate_160 : decode b_Model_translate 160 = .ok (.iload 6, 2) := by decide +kernel
theorem d_Model_translate_162 : decode b_Model_translate 162 = .ok (.ifCond .eq 6, 3) := by decide +kernel
theorem d_Model_translate_165 : decode b_Model_translate 165 = .ok (.iinc 2 (-1), 3) := by decide +kernel
theorem d_Model_translate_168 : decode b_Model_translate 168 = .ok (.goto (-42), 3) := by decide +kernel
theorem d_Model_translate_171 : decode b_Model_translate 171 = .ok (.iinc 3 1, 3) := by decide +kernel
theorem d_Model_translate_174 : decode b_Model_translate 174 = .ok (.goto (-127), 3) := by decide +kernel
theorem d_Model_translate_177 : decode b_Model_translate 177 = .ok (.aload_n 0, 1) := by decide +kernel
theorem d_Model_translate_178 : decode b_Model_translate 178 = .ok (.iload_n 1, 1) := by decide +kernel
theorem d_Model_translate_179 : decode b_Model_translate 179 = .ok (.bipush 17, 2) := by decide +kernel
theorem d_Model_translate_181 : decode b_Model_translate 181 = .ok (.iconst 0, 1) := by decide +kernel
theorem d_Model_translate_182 : decode b_Model_translate 182 = .ok (.iconst 0, 1) := by decide +kernel
theorem d_Model_translate_183 : decode b_Model_translate 183 = .ok (.invokevirtual 128, 3) := by decide +kernel
theorem d_Model_translate_186 : decode b_Model_translate 186 = .ok (.pop, 1) := by decide +kernel
theorem d_Model_translate_187 : decode b_Model_translate 187 = .ok (.aload_n 0, 1) := by decide +kernel
theorem d_Model_translate_188 : decode b_Model_translate 188 = .ok (.getfield 37, 3) := by decide +kernel
theorem d_Model_translate_191 : decode b_Model_translate 191 = .ok (.iload_n 1, 1) := by decide +kernel
theorem d_Model_translate_192 : decode b_Model_translate 192 = .ok (.aload_n 0, 1) := by decide +kernel
theorem d_Model_translate_193 : decode b_Model_translate 193 = .ok (.getfield 125, 3) := by decide +kernel
theorem d_Model_translate_196 : decode b_Model_translate 196 = .ok (.iastore, 1) := by decide +kernel
theorem d_Model_translate_197 : decode b_Model_translate 197 = .ok (.aload_n 0, 1) := by decide +kernel
theorem d_Model_translate_198 : decode b_Model_translate 198 = .ok (.getfield 40, 3) := by decide +kernel
theorem d_Model_translate_201 : decode b_Model_translate 201 = .ok (.iload_n 1, 1) := by decide +kernel
theorem d_Model_translate_202 : decode b_Model_translate 202 = .ok (.aload_n 0, 1) := by decide +kernel
theorem d_Model_translate_203 : decode b_Model_translate 203 = .ok (.iload_n 1, 1) := by decide +kernel
theorem d_Model_translate_204 : decode b_Model_translate 204 = .ok (.invokevirtual 135, 3) := by decide +kernel
theorem d_Model_translate_207 : decode b_Model_translate 207 = .ok (.iastore, 1) := by decide +kernel
theorem d_Model_translate_208 : decode b_Model_translate 208 = .ok (.return_, 1) := by decide +kernel
abbrev b_Model_behind : ByteArray := prog_14_method_13_code
abbrev J_Model_behind : MethodName × ByteArray × Nat × Option FieldType := (⟨"FaslDeskModel", "behind", "(II)Z"⟩, b_Model_behind, 9, (some .boolean))
theorem d_Model_behind_0 : decode b_Model_behind 0 = .ok (.aload_n 0, 1) := by decide +kernel
theorem d_Model_behind_1 : decode b_Model_behind 1 = .ok (.getfield 89, 3) := by decide +kernel
theorem d_Model_behind_4 : decode b_Model_behind 4 = .ok (.iload_n 2, 1) := by decide +kernel
theorem d_Model_behind_5 : decode b_Model_behind 5 = .ok (.iaload, 1) := by decide +kernel
theorem d_Model_behind_6 : decode b_Model_behind 6 = .ok (.istore_n 3, 1) := by decide +kernel
theorem d_Model_behind_7 : decode b_Model_behind 7 = .ok (.aload_n 0, 1) := by decide +kernel
theorem d_Model_behind_8 : decode b_Model_behind 8 = .ok (.getfield 7, 3) := by decide +kernel
theorem d_Model_behind_11 : decode b_Model_behind 11 = .ok (.bipush 40, 2) := by decide +kernel
theorem d_Model_behind_13 : decode b_Model_behind 13 = .ok (.iload_n 1, 1) := by decide +kernel
theorem d_Model_behind_14 : decode b_Model_behind 14 = .ok (.imul, 1) := by decide +kernel
theorem d_Model_behind_15 : decode b_Model_behind 15 = .ok (.iload_n 3, 1) := by decide +kernel
theorem d_Model_behind_16 : decode b_Model_behind 16 = .ok (.iadd, 1) := by decide +kernel
theorem d_Model_behind_17 : decode b_Model_behind 17 = .ok (.iaload, 1) := by decide +kernel
theorem d_Model_behind_18 : decode b_Model_behind 18 = .ok (.istore 4, 2) := by decide +kernel
theorem d_Model_behind_20 : decode b_Model_behind 20 = .ok (.aload_n 0, 1) := by decide +kernel
theorem d_Model_behind_21 : decode b_Model_behind 21 = .ok (.getfield 13, 3) := by decide +kernel
theorem d_Model_behind_24 : decode b_Model_behind 24 = .ok (.bipush 40, 2) := by decide +kernel
theorem d_Model_behind_26 : decode b_Model_behind 26 = .ok (.iload_n 1, 1) := by decide +kernel
theorem d_Model_behind_27 : decode b_Model_behind 27 = .ok (.imul, 1) := by decide +kernel
theorem d_Model_behind_28 : decode b_Model_behind 28 = .ok (.iload_n 3, 1) := by decide +kernel
theorem d_Model_behind_29 : decode b_Model_behind 29 = .ok (.iadd, 1) := by decide +kernel
theorem d_Model_behind_30 : decode b_Model_behind 30 = .ok (.iaload, 1) := by decide +kernel
theorem d_Model_behind_31 : decode b_Model_behind 31 = .ok (.istore 5, 2) := by decide +kernel
theorem d_Model_behind_33 : decode b_Model_behind 33 = .ok (.aload_n 0, 1) := by decide +kernel
theorem d_Model_behind_34 : decode b_Model_behind 34 = .ok (.getfield 92, 3) := by decide +kernel
theorem d_Model_behind_37 : decode b_Model_behind 37 = .ok (.iload_n 2, 1) := by decide +kernel
theorem d_Model_behind_38 : decode b_Model_behind 38 = .ok (.iaload, 1) := by decide +kernel
theorem d_Model_behind_39 : decode b_Model_behind 39 = .ok (.istore 6, 2) := by decide +kernel
theorem d_Model_behind_41 : decode b_Model_behind 41 = .ok (.sipush 280, 3) := by decide +kernel
theorem d_Model_behind_44 : decode b_Model_behind 44 = .ok (.iload_n 1, 1) := by decide +kernel
theorem d_Model_behind_45 : decode b_Model_behind 45 = .ok (.imul, 1) := by decide +kernel
theorem d_Model_behind_46 : decode b_Model_behind 46 = .ok (.istore 7, 2) := by decide +kernel
theorem d_Model_behind_48 : decode b_Model_behind 48 = .ok (.iload 4, 2) := by decide +kernel
theorem d_Model_behind_50 : decode b_Model_behind 50 = .ok (.bipush 13, 2) := by decide +kernel
theorem d_Model_behind_52 : decode b_Model_behind 52 = .ok (.if_icmp .ge 23, 3) := by decide +kernel
theorem d_Model_behind_55 : decode b_Model_behind 55 = .ok (.iload 6, 2) := by decide +kernel
theorem d_Model_behind_57 : decode b_Model_behind 57 = .ok (.iload 4, 2) := by decide +kernel
theorem d_Model_behind_59 : decode b_Model_behind 59 = .ok (.invokestatic 110, 3) := by decide +kernel
theorem d_Model_behind_62 : decode b_Model_behind 62 = .ok (.if_icmp .ne 13, 3) := by decide +kernel
theorem d_Model_behind_65 : decode b_Model_behind 65 = .ok (.aload_n 0, 1) := by decide +kernel
theorem d_Model_behind_66 : decode b_Model_behind 66 = .ok (.iload_n 1, 1) := by decide +kernel
theorem d_Model_behind_67 : decode b_Model_behind 67 = .ok (.iload 4, 2) := by decide +kernel
theorem d_Model_behind_69 : decode b_Model_behind 69 = .ok (.iconst 0, 1) := by decide +kernel
theorem d_Model_behind_70 : decode b_Model_behind 70 = .ok (.iconst 0, 1) := by decide +kernel
theorem d_Model_behind_71 : decode b_Model_behind 71 = .ok (.invokevirtual 128, 3) := by decide +kernel
theorem d_Model_behind_74 : decode b_Model_behind 74 = .ok (.pop, 1) := by decide +kernel
theorem d_Model_behind_75 : decode b_Model_behind 75 = .ok (.iload 4, 2) := by decide +kernel
theorem d_Model_behind_77 : decode b_Model_behind 77 = .ok (.bipush 13, 2) := by decide +kernel
theorem d_Model_behind_79 : decode b_Model_behind 79 = .ok (.if_icmp .ne 25, 3) := by decide +kernel
theorem d_Model_behind_82 : decode b_Model_behind 82 = .ok (.iload 6, 2) := by decide +kernel
theorem d_Model_behind_84 : decode b_Model_behind 84 = .ok (.iconst 1, 1) := by decide +kernel
theorem d_Model_behind_85 : decode b_Model_behind 85 = .ok (.if_icmp .ne 19, 3) := by decide +kernel
theorem d_Model_behind_88 : decode b_Model_behind 88 = .ok (.aload_n 0, 1) := by decide +kernel
theorem d_Model_behind_89 : decode b_Model_behind 89 = .ok (.getfield 95, 3) := by decide +kernel
theorem d_Model_behind_92 : decode b_Model_behind 92 = .ok (.iload_n 2, 1) := by decide +kernel
theorem d_Model_behind_93 : decode b_Model_behind 93 = .ok (.aload_n 0, 1) := by decide +kernel
theorem d_Model_behind_94 : decode b_Model_behind 94 = .ok (.iload_n 1, 1) := by decide +kernel
theorem d_Model_behind_95 : decode b_Model_behind 95 = .ok (.bipush 14, 2) := by decide +kernel
theorem d_Model_behind_97 : decode b_Model_behind 97 = .ok (.iload 5, 2) := by decide +kernel
theorem d_Model_behind_99 : decode b_Model_behind 99 = .ok (.iconst 0, 1) := by decide +kernel
theorem d_Model_behind_100 : decode b_Model_behind 100 = .ok (.invokevirtual 128, 3) := by decide +kernel
theorem d_Model_behind_103 : decode b_Model_behind 103 = .ok (.iastore, 1) := by decide +kernel
theorem d_Model_behind_104 : decode b_Model_behind 104 = .ok (.iload 4, 2) := by decide +kernel
theorem d_Model_behind_106 : decode b_Model_behind 106 = .ok (.bipush 13, 2) := by decide +kernel
theorem d_Model_behind_108 : decode b_Model_behind 108 = .ok (.if_icmp .ne 46, 3) := by decide +kernel
theorem d_Model_behind_111 : decode b_Model_behind 111 = .ok (.iload 6, 2) := by decide +kernel
theorem d_Model_behind_113 : decode b_Model_behind 113 = .ok (.iconst 2, 1) := by decide +kernel
theorem d_Model_behind_114 : decode b_Model_behind 114 = .ok (.if_icmp .ne 40, 3) := by decide +kernel
theorem d_Model_behind_117 : decode b_Model_behind 117 = .ok (.aload_n 0, 1) := by decide +kernel
theorem d_Model_behind_118 : decode b_Model_behind 118 = .ok (.iload_n 1, 1) := by decide +kernel
theorem d_Model_behind_119 : decode b_Model_behind 119 = .ok (.bipush 15, 2) := by decide +kernel
theorem d_Model_behind_121 : decode b_Model_behind 121 = .ok (.iconst 0, 1) := by decide +kernel
theorem d_Model_behind_122 : decode b_Model_behind 122 = .ok (.iconst 0, 1) := by decide +kernel
theorem d_Model_behind_123 : decode b_Model_behind 123 = .ok (.invokevirtual 128, 3) := by decide +kernel
theorem d_Model_behind_126 : decode b_Model_behind 126 = .ok (.istore 8, 2) := by decide +kernel
theorem d_Model_behind_128 : decode b_Model_behind 128 = .ok (.aload_n 0, 1) := by decide +kernel
theorem d_Model_behind_129 : decode b_Model_behind 129 = .ok (.getfield 34, 3) := by decide +kernel
theorem d_Model_behind_132 : decode b_Model_behind 132 = .ok (.iload 7, 2) := by decide +kernel
theorem d_Model_behind_134 : decode b_Model_behind 134 = .ok (.aload_n 0, 1) := by decide +kernel
theorem d_Model_behind_135 : decode b_Model_behind 135 = .ok (.getfield 95, 3) := by decide +kernel
theorem d_Model_behind_138 : decode b_Model_behind 138 = .ok (.iload_n 2, 1) := by decide +kernel
theorem d_Model_behind_139 : decode b_Model_behind 139 = .ok (.iaload, 1) := by decide +kernel
theorem d_Model_behind_140 : decode b_Model_behind 140 = .ok (.iadd, 1) := by decide +kernel
theorem d_Model_behind_141 : decode b_Model_behind 141 = .ok (.aload_n 0, 1) := by decide +kernel
theorem d_Model_behind_142 : decode b_Model_behind 142 = .ok (.getfield 125, 3) := by decide +kernel
theorem d_Model_behind_145 : decode b_Model_behind 145 = .ok (.iastore, 1) := by decide +kernel
theorem d_Model_behind_146 : decode b_Model_behind 146 = .ok (.aload_n 0, 1) := by decide +kernel
theorem d_Model_behind_147 : decode b_Model_behind 147 = .ok (.getfield 95, 3) := by decide +kernel
theorem d_Model_behind_150 : decode b_Model_behind 150 = .ok (.iload_n 2, 1) := by decide +kernel
theorem d_Model_behind_151 : decode b_Model_behind 151 = .ok (.iload 8, 2) := by decide +kernel
theorem d_Model_behind_153 : decode b_Model_behind 153 = .ok (.iastore, 1) := by decide +kernel
theorem d_Model_behind_154 : decode b_Model_behind 154 = .ok (.iload 4, 2) := by decide +kernel
theorem d_Model_behind_156 : decode b_Model_behind 156 = .ok (.bipush 13, 2) := by decide +kernel
theorem d_Model_behind_158 : decode b_Model_behind 158 = .ok (.if_icmp .ne 27, 3) := by decide +kernel
theorem d_Model_behind_161 : decode b_Model_behind 161 = .ok (.iload 6, 2) := by decide +kernel
theorem d_Model_behind_163 : decode b_Model_behind 163 = .ok (.iconst 3, 1) := by decide +kernel
theorem d_Model_behind_164 : decode b_Model_behind 164 = .ok (.if_icmp .ne 21, 3) := by decide +kernel
theorem d_Model_behind_167 : decode b_Model_behind 167 = .ok (.aload_n 0, 1) := by decide +kernel
theorem d_Model_behind_168 : decode b_Model_behind 168 = .ok (.getfield 31, 3) := by decide +kernel
theorem d_Model_behind_171 : decode b_Model_behind 171 = .ok (.iload 7, 2) := by decide +kernel
theorem d_Model_behind_173 : decode b_Model_behind 173 = .ok (.aload_n 0, 1) := by decide +kernel
theorem d_Model_behind_174 : decode b_Model_behind 174 = .ok (.getfield 95, 3) := by decide +kernel
theorem d_Model_behind_177 : decode b_Model_behind 177 = .ok (.iload_n 2, 1) := by decide +kernel
theorem d_Model_behind_178 : decode b_Model_behind 178 = .ok (.iaload, 1) := by decide +kernel
theorem d_Model_behind_179 : decode b_Model_behind 179 = .ok (.iadd, 1) := by decide +kernel
theorem d_Model_behind_180 : decode b_Model_behind 180 = .ok (.aload_n 0, 1) := by decide +kernel
theorem d_Model_behind_181 : decode b_Model_behind 181 = .ok (.getfield 125, 3) := by decide +kernel
theorem d_Model_behind_184 : decode b_Model_behind 184 = .ok (.iastore, 1) := by decide +kernel
theorem d_Model_behind_185 : decode b_Model_behind 185 = .ok (.iload 4, 2) := by decide +kernel
theorem d_Model_behind_187 : decode b_Model_behind 187 = .ok (.bipush 14, 2) := by decide +kernel
theorem d_Model_behind_189 : decode b_Model_behind 189 = .ok (.if_icmp .ne 20, 3) := by decide +kernel
theorem d_Model_behind_192 : decode b_Model_behind 192 = .ok (.iload 6, 2) := by decide +kernel
theorem d_Model_behind_194 : decode b_Model_behind 194 = .ok (.iconst 1, 1) := by decide +kernel
theorem d_Model_behind_195 : decode b_Model_behind 195 = .ok (.if_icmp .ne 14, 3) := by decide +kernel
theorem d_Model_behind_198 : decode b_Model_behind 198 = .ok (.aload_n 0, 1) := by decide +kernel
theorem d_Model_behind_199 : decode b_Model_behind 199 = .ok (.iload_n 1, 1) := by decide +kernel
theorem d_Model_behind_200 : decode b_Model_behind 200 = .ok (.bipush 13, 2) := by decide +kernel
theorem d_Model_behind_202 : decode b_Model_behind 202 = .ok (.iload 5, 2) := by decide +kernel
theorem d_Model_behind_204 : decode b_Model_behind 204 = .ok (.iconst 0, 1) := by decide +kernel
theorem d_Model_behind_205 : decode b_Model_behind 205 = .ok (.invokevirtual 128, 3) := by decide +kernel
theorem d_Model_behind_208 : decode b_Model_behind 208 = .ok (.pop, 1) := by decide +kernel
theorem d_Model_behind_209 : decode b_Model_behind 209 = .ok (.iload 4, 2) := by decide +kernel
theorem d_Model_behind_211 : decode b_Model_behind 211 = .ok (.bipush 15, 2) := by decide +kernel
theorem d_Model_behind_213 : decode b_Model_behind 213 = .ok (.if_icmp .ne 24, 3) := by decide +kernel
theorem d_Model_behind_216 : decode b_Model_behind 216 = .ok (.aload_n 0, 1) := by decide +kernel
theorem d_Model_behind_217 : decode b_Model_behind 217 = .ok (.iload_n 1, 1) := by decide +kernel
theorem d_Model_behind_218 : decode b_Model_behind 218 = .ok (.bipush 19, 2) := by decide +kernel
theorem d_Model_behind_220 : decode b_Model_behind 220 = .ok (.iconst 0, 1) := by decide +kernel
theorem d_Model_behind_221 : decode b_Model_behind 221 = .ok (.iconst 0, 1) := by decide +kernel
theorem d_Model_behind_222 : decode b_Model_behind 222 = .ok (.invokevirtual 128, 3) := by decide +kernel
theorem d_Model_behind_225 : decode b_Model_behind 225 = .ok (.pop, 1) := by decide +kernel
theorem d_Model_behind_226 : decode b_Model_behind 226 = .ok (.aload_n 0, 1) := by decide +kernel
theorem d_Model_behind_227 : decode b_Model_behind 227 = .ok (.iload_n 1, 1) := by decide +kernel
theorem d_Model_behind_228 : decode b_Model_behind 228 = .ok (.bipush 13, 2) := by decide +kernel
theorem d_Model_behind_230 : decode b_Model_behind 230 = .ok (.iload 5, 2) := by decide +kernel
theorem d_Model_behind_232 : decode b_Model_behind 232 = .ok (.iconst 0, 1) := by decide +kernel
theorem d_Model_behind_233 : decode b_Model_behind 233 = .ok (.invokevirtual 128, 3) := by decide +kernel
theorem d_Model_behind_236 : decode b_Model_behind 236 = .ok (.pop, 1) := by decide +kernel
theorem d_Model_behind_237 : decode b_Model_behind 237 = .ok (.iload 4, 2) := by decide +kernel
theorem d_Model_behind_239 : decode b_Model_behind 239 = .ok (.bipush 16, 2) := by decide +kernel
theorem d_Model_behind_241 : decode b_Model_behind 241 = .ok (.if_icmp .ne 62, 3) := by decide +kernel
theorem d_Model_behind_244 : decode b_Model_behind 244 = .ok (.iload 6, 2) := by decide +kernel
theorem d_Model_behind_246 : decode b_Model_behind 246 = .ok (.iconst 1, 1) := by decide +kernel
theorem d_Model_behind_247 : decode b_Model_behind 247 = .ok (.if_icmp .ne 56, 3) := by decide +kernel
theorem d_Model_behind_250 : decode b_Model_behind 250 = .ok (.aload_n 0, 1) := by decide +kernel
theorem d_Model_behind_251 : decode b_Model_behind 251 = .ok (.iload_n 1, 1) := by decide +kernel
theorem d_Model_behind_252 : decode b_Model_behind 252 = .ok (.iconst 0, 1) := by decide +kernel
theorem d_Model_behind_253 : decode b_Model_behind 253 = .ok (.bipush 7, 2) := by decide +kernel
theorem d_Model_behind_255 : decode b_Model_behind 255 = .ok (.iconst 0, 1) := by decide +kernel
theorem d_Model_behind_256 : decode b_Model_behind 256 = .ok (.invokevirtual 128, 3) := by decide +kernel
theorem d_Model_behind_259 : decode b_Model_behind 259 = .ok (.pop, 1) := by decide +kernel
theorem d_Model_behind_260 : decode b_Model_behind 260 = .ok (.aload_n 0, 1) := by decide +kernel
theorem d_Model_behind_261 : decode b_Model_behind 261 = .ok (.iload_n 1, 1) := by decide +kernel
theorem d_Model_behind_262 : decode b_Model_behind 262 = .ok (.bipush 7, 2) := by decide +kernel
theorem d_Model_behind_264 : decode b_Model_behind 264 = .ok (.invokevirtual 138, 3) := by decide +kernel
theorem d_Model_behind_267 : decode b_Model_behind 267 = .ok (.aload_n 0, 1) := by decide +kernel
theorem d_Model_behind_268 : decode b_Model_behind 268 = .ok (.iload_n 1, 1) := by decide +kernel
theorem d_Model_behind_269 : decode b_Model_behind 269 = .ok (.bipush 13, 2) := by decide +kernel
theorem d_Model_behind_271 : decode b_Model_behind 271 = .ok (.iload 5, 2) := by decide +kernel
theorem d_Model_behind_273 : decode b_Model_behind 273 = .ok (.iconst 0, 1) := by decide +kernel
theorem d_Model_behind_274 : decode b_Model_behind 274 = .ok (.invokevirtual 128, 3) := by decide +kernel
theorem d_Model_behind_277 : decode b_Model_behind 277 = .ok (.pop, 1) := by decide +kernel
theorem d_Model_behind_278 : decode b_Model_behind 278 = .ok (.aload_n 0, 1) := by decide +kernel
theorem d_Model_behind_279 : decode b_Model_behind 279 = .ok (.getfield 95, 3) := by decide +kernel
theorem d_Model_behind_282 : decode b_Model_behind 282 = .ok (.iload_n 2, 1) := by decide +kernel
theorem d_Model_behind_283 : decode b_Model_behind 283 = .ok (.aload_n 0, 1) := by decide +kernel
theorem d_Model_behind_284 : decode b_Model_behind 284 = .ok (.iload_n 1, 1) := by decide +kernel
theorem d_Model_behind_285 : decode b_Model_behind 285 = .ok (.iconst 1, 1) := by decide +kernel
theorem d_Model_behind_286 : decode b_Model_behind 286 = .ok (.iload 5, 2) := by decide +kernel
theorem d_Model_behind_288 : decode b_Model_behind 288 = .ok (.iconst 0, 1) := by decide +kernel
theorem d_Model_behind_289 : decode b_Model_behind 289 = .ok (.invokevirtual 128, 3) := by decide +kernel
theorem d_Model_behind_292 : decode b_Model_behind 292 = .ok (.iastore, 1) := by decide +kernel
theorem d_Model_behind_293 : decode b_Model_behind 293 = .ok (.aload_n 0, 1) := by decide +kernel
theorem d_Model_behind_294 : decode b_Model_behind 294 = .ok (.iload_n 1, 1) := by decide +kernel
theorem d_Model_behind_295 : decode b_Model_behind 295 = .ok (.bipush 14, 2) := by decide +kernel
theorem d_Model_behind_297 : decode b_Model_behind 297 = .ok (.iconst 1, 1) := by decide +kernel
theorem d_Model_behind_298 : decode b_Model_behind 298 = .ok (.iconst 0, 1) := by decide +kernel
theorem d_Model_behind_299 : decode b_Model_behind 299 = .ok (.invokevirtual 128, 3) := by decide +kernel
theorem d_Model_behind_302 : decode b_Model_behind 302 = .ok (.pop, 1) := by decide +kernel
theorem d_Model_behind_303 : decode b_Model_behind 303 = .ok (.iload 4, 2) := by decide +kernel
theorem d_Model_behind_305 : decode b_Model_behind 305 = .ok (.bipush 16, 2) := by decide +kernel
theorem d_Model_behind_307 : decode b_Model_behind 307 = .ok (.if_icmp .ne 96, 3) := by decide +kernel
theorem d_Model_behind_310 : decode b_Model_behind 310 = .ok (.iload 6, 2) := by decide +kernel
theorem d_Model_behind_312 : decode b_Model_behind 312 = .ok (.iconst 2, 1) := by decide +kernel
theorem d_Model_behind_313 : decode b_Model_behind 313 = .ok (.if_icmp .ne 90, 3) := by decide +kernel
theorem d_Model_behind_316 : decode b_Model_behind 316 = .ok (.aload_n 0, 1) := by decide +kernel
theorem d_Model_behind_317 : decode b_Model_behind 317 = .ok (.iload_n 1, 1) := by decide +kernel
theorem d_Model_behind_318 : decode b_Model_behind 318 = .ok (.bipush 18, 2) := by decide +kernel
theorem d_Model_behind_320 : decode b_Model_behind 320 = .ok (.invokevirtual 138, 3) := by decide +kernel
theorem d_Model_behind_323 : decode b_Model_behind 323 = .ok (.aload_n 0, 1) := by decide +kernel
theorem d_Model_behind_324 : decode b_Model_behind 324 = .ok (.iload_n 1, 1) := by decide +kernel
theorem d_Model_behind_325 : decode b_Model_behind 325 = .ok (.iconst 1, 1) := by decide +kernel
theorem d_Model_behind_326 : decode b_Model_behind 326 = .ok (.iload 5, 2) := by decide +kernel
theorem d_Model_behind_328 : decode b_Model_behind 328 = .ok (.iconst 0, 1) := by decide +kernel
theorem d_Model_behind_329 : decode b_Model_behind 329 = .ok (.invokevirtual 128, 3) := by decide +kernel
theorem d_Model_behind_332 : decode b_Model_behind 332 = .ok (.pop, 1) := by decide +kernel
theorem d_Model_behind_333 : decode b_Model_behind 333 = .ok (.aload_n 0, 1) := by decide +kernel
theorem d_Model_behind_334 : decode b_Model_behind 334 = .ok (.iload_n 1, 1) := by decide +kernel
theorem d_Model_behind_335 : decode b_Model_behind 335 = .ok (.iconst 0, 1) := by decide +kernel
theorem d_Model_behind_336 : decode b_Model_behind 336 = .ok (.iconst 1, 1) := by decide +kernel
theorem d_Model_behind_337 : decode b_Model_behind 337 = .ok (.iconst 0, 1) := by decide +kernel
theorem d_Model_behind_338 : decode b_Model_behind 338 = .ok (.invokevirtual 128, 3) := by decide +kernel
theorem d_Model_behind_341 : decode b_Model_behind 341 = .ok (.pop, 1) := by decide +kernel
theorem d_Model_behind_342 : decode b_Model_behind 342 = .ok (.aload_n 0, 1) := by decide +kernel
theorem d_Model_behind_343 : decode b_Model_behind 343 = .ok (.iload_n 1, 1) := by decide +kernel
theorem d_Model_behind_344 : decode b_Model_behind 344 = .ok (.iconst 3, 1) := by decide +kernel
theorem d_Model_behind_345 : decode b_Model_behind 345 = .ok (.invokevirtual 138, 3) := by decide +kernel
theorem d_Model_behind_348 : decode b_Model_behind 348 = .ok (.aload_n 0, 1) := by decide +kernel
theorem d_Model_behind_349 : decode b_Model_behind 349 = .ok (.iload_n 1, 1) := by decide +kernel
theorem d_Model_behind_350 : decode b_Model_behind 350 = .ok (.bipush 13, 2) := by decide +kernel
theorem d_Model_behind_352 : decode b_Model_behind 352 = .ok (.iload 5, 2) := by decide +kernel
theorem d_Model_behind_354 : decode b_Model_behind 354 = .ok (.iconst 0, 1) := by decide +kernel
theorem d_Model_behind_355 : decode b_Model_behind 355 = .ok (.invokevirtual 128, 3) := by decide +kernel
theorem d_Model_behind_358 : decode b_Model_behind 358 = .ok (.pop, 1) := by decide +kernel
theorem d_Model_behind_359 : decode b_Model_behind 359 = .ok (.aload_n 0, 1) := by decide +kernel
theorem d_Model_behind_360 : decode b_Model_behind 360 = .ok (.iload_n 1, 1) := by decide +kernel
theorem d_Model_behind_361 : decode b_Model_behind 361 = .ok (.bipush 15, 2) := by decide +kernel
theorem d_Model_behind_363 : decode b_Model_behind 363 = .ok (.aload_n 0, 1) := by decide +kernel
theorem d_Model_behind_364 : decode b_Model_behind 364 = .ok (.getfield 95, 3) := by decide +kernel
theorem d_Model_behind_367 : decode b_Model_behind 367 = .ok (.iload_n 2, 1) := by decide +kernel
theorem d_Model_behind_368 : decode b_Model_behind 368 = .ok (.iaload, 1) := by decide +kernel
theorem d_Model_behind_369 : decode b_Model_behind 369 = .ok (.iconst 0, 1) := by decide +kernel
theorem d_Model_behind_370 : decode b_Model_behind 370 = .ok (.invokevirtual 128, 3) := by decide +kernel
theorem d_Model_behind_373 : decode b_Model_behind 373 = .ok (.pop, 1) := by decide +kernel
theorem d_Model_behind_374 : decode b_Model_behind 374 = .ok (.aload_n 0, 1) := by decide +kernel
theorem d_Model_behind_375 : decode b_Model_behind 375 = .ok (.getfield 34, 3) := by decide +kernel
theorem d_Model_behind_378 : decode b_Model_behind 378 = .ok (.iload 7, 2) := by decide +kernel
theorem d_Model_behind_380 : decode b_Model_behind 380 = .ok (.aload_n 0, 1) := by decide +kernel
theorem d_Model_behind_381 : decode b_Model_behind 381 = .ok (.getfield 95, 3) := by decide +kernel
theorem d_Model_behind_384 : decode b_Model_behind 384 = .ok (.iload_n 2, 1) := by decide +kernel
theorem d_Model_behind_385 : decode b_Model_behind 385 = .ok (.iaload, 1) := by decide +kernel
theorem d_Model_behind_386 : decode b_Model_behind 386 = .ok (.iadd, 1) := by decide +kernel
theorem d_Model_behind_387 : decode b_Model_behind 387 = .ok (.iconst 1, 1) := by decide +kernel
theorem d_Model_behind_388 : decode b_Model_behind 388 = .ok (.iadd, 1) := by decide +kernel
theorem d_Model_behind_389 : decode b_Model_behind 389 = .ok (.aload_n 0, 1) := by decide +kernel
theorem d_Model_behind_390 : decode b_Model_behind 390 = .ok (.getfield 125, 3) := by decide +kernel
theorem d_Model_behind_393 : decode b_Model_behind 393 = .ok (.iastore, 1) := by decide +kernel
theorem d_Model_behind_394 : decode b_Model_behind 394 = .ok (.aload_n 0, 1) := by decide +kernel
theorem d_Model_behind_395 : decode b_Model_behind 395 = .ok (.iload_n 1, 1) := by decide +kernel
theorem d_Model_behind_396 : decode b_Model_behind 396 = .ok (.iconst 0, 1) := by decide +kernel
theorem d_Model_behind_397 : decode b_Model_behind 397 = .ok (.iconst 0, 1) := by decide +kernel
theorem d_Model_behind_398 : decode b_Model_behind 398 = .ok (.iconst 0, 1) := by decide +kernel
theorem d_Model_behind_399 : decode b_Model_behind 399 = .ok (.invokevirtual 128, 3) := by decide +kernel
theorem d_Model_behind_402 : decode b_Model_behind 402 = .ok (.pop, 1) := by decide +kernel
theorem d_Model_behind_403 : decode b_Model_behind 403 = .ok (.iload 4, 2) := by decide +kernel
theorem d_Model_behind_405 : decode b_Model_behind 405 = .ok (.bipush 17, 2) := by decide +kernel
theorem d_Model_behind_407 : decode b_Model_behind 407 = .ok (.if_icmp .ne 20, 3) := by decide +kernel
theorem d_Model_behind_410 : decode b_Model_behind 410 = .ok (.iload 6, 2) := by decide +kernel
theorem d_Model_behind_412 : decode b_Model_behind 412 = .ok (.iconst 3, 1) := by decide +kernel
theorem d_Model_behind_413 : decode b_Model_behind 413 = .ok (.if_icmp .ne 14, 3) := by decide +kernel
theorem d_Model_behind_416 : decode b_Model_behind 416 = .ok (.aload_n 0, 1) := by decide +kernel
theorem d_Model_behind_417 : decode b_Model_behind 417 = .ok (.iload_n 1, 1) := by decide +kernel
theorem d_Model_behind_418 : decode b_Model_behind 418 = .ok (.bipush 16, 2) := by decide +kernel
theorem d_Model_behind_420 : decode b_Model_behind 420 = .ok (.iload 5, 2) := by decide +kernel
theorem d_Model_behind_422 : decode b_Model_behind 422 = .ok (.iconst 0, 1) := by decide +kernel
theorem d_Model_behind_423 : decode b_Model_behind 423 = .ok (.invokevirtual 128, 3) := by decide +kernel
theorem d_Model_behind_426 : decode b_Model_behind 426 = .ok (.pop, 1) := by decide +kernel
theorem d_Model_behind_427 : decode b_Model_behind 427 = .ok (.iload 6, 2) := by decide +kernel
theorem d_Model_behind_429 : decode b_Model_behind 429 = .ok (.iload 4, 2) := by decide +kernel
theorem d_Model_behind_431 : decode b_Model_behind 431 = .ok (.invokestatic 110, 3) := by decide +kernel
theorem d_Model_behind_434 : decode b_Model_behind 434 = .ok (.if_icmp .ne 7, 3) := by decide +kernel
theorem d_Model_behind_437 : decode b_Model_behind 437 = .ok (.iconst 1, 1) := by decide +kernel
theorem d_Model_behind_438 : decode b_Model_behind 438 = .ok (.goto 4, 3) := by decide +kernel
theorem d_Model_behind_441 : decode b_Model_behind 441 = .ok (.iconst 0, 1) := by decide +kernel
theorem d_Model_behind_442 : decode b_Model_behind 442 = .ok (.ireturn, 1) := by decide +kernel
end
section
/-! more decode rows -/
abbrev b_Model_takes : ByteArray := prog_14_method_14_code
abbrev J_Model_takes : MethodName × ByteArray × Nat × Option FieldType := (⟨"FaslDeskModel", "takes", "(I)I"⟩, b_Model_takes, 1, (some .int))
theorem d_Model_takes_0 : decode b_Model_takes 0 = .ok (.iload_n 0, 1) := by decide +kernel
theorem d_Model_takes_1 : decode b_Model_takes 1 = .ok (.iconst 2, 1) := by decide +kernel
theorem d_Model_takes_2 : decode b_Model_takes 2 = .ok (.if_icmp .lt 15, 3) := by decide +kernel
theorem d_Model_takes_5 : decode b_Model_takes 5 = .ok (.iload_n 0, 1) := by decide +kernel
theorem d_Model_takes_6 : decode b_Model_takes 6 = .ok (.bipush 15, 2) := by decide +kernel
theorem d_Model_takes_8 : decode b_Model_takes 8 = .ok (.if_icmp .eq 9, 3) := by decide +kernel
theorem d_Model_takes_11 : decode b_Model_takes 11 = .ok (.iload_n 0, 1) := by decide +kernel
theorem d_Model_takes_12 : decode b_Model_takes 12 = .ok (.bipush 21, 2) := by decide +kernel
theorem d_Model_takes_14 : decode b_Model_takes 14 = .ok (.if_icmp .ne 7, 3) := by decide +kernel
theorem d_Model_takes_17 : decode b_Model_takes 17 = .ok (.iconst 0, 1) := by decide +kernel
theorem d_Model_takes_18 : decode b_Model_takes 18 = .ok (.goto 30, 3) := by decide +kernel
theorem d_Model_takes_21 : decode b_Model_takes 21 = .ok (.iload_n 0, 1) := by decide +kernel
theorem d_Model_takes_22 : decode b_Model_takes 22 = .ok (.bipush 12, 2) := by decide +kernel
theorem d_Model_takes_24 : decode b_Model_takes 24 = .ok (.if_icmp .lt 9, 3) := by decide +kernel
theorem d_Model_takes_27 : decode b_Model_takes 27 = .ok (.iload_n 0, 1) := by decide +kernel
theorem d_Model_takes_28 : decode b_Model_takes 28 = .ok (.bipush 20, 2) := by decide +kernel
theorem d_Model_takes_30 : decode b_Model_takes 30 = .ok (.if_icmp .ne 7, 3) := by decide +kernel
theorem d_Model_takes_33 : decode b_Model_takes 33 = .ok (.iconst 2, 1) := by decide +kernel
theorem d_Model_takes_34 : decode b_Model_takes 34 = .ok (.goto 14, 3) := by decide +kernel
theorem d_Model_takes_37 : decode b_Model_takes 37 = .ok (.iload_n 0, 1) := by decide +kernel
theorem d_Model_takes_38 : decode b_Model_takes 38 = .ok (.bipush 16, 2) := by decide +kernel
theorem d_Model_takes_40 : decode b_Model_takes 40 = .ok (.if_icmp .ne 7, 3) := by decide +kernel
theorem d_Model_takes_43 : decode b_Model_takes 43 = .ok (.iconst 3, 1) := by decide +kernel
theorem d_Model_takes_44 : decode b_Model_takes 44 = .ok (.goto 4, 3) := by decide +kernel
theorem d_Model_takes_47 : decode b_Model_takes 47 = .ok (.iconst 1, 1) := by decide +kernel
theorem d_Model_takes_48 : decode b_Model_takes 48 = .ok (.ireturn, 1) := by decide +kernel
abbrev b_Model_puts : ByteArray := prog_14_method_15_code
abbrev J_Model_puts : MethodName × ByteArray × Nat × Option FieldType := (⟨"FaslDeskModel", "puts", "(I)I"⟩, b_Model_puts, 1, (some .int))
theorem d_Model_puts_0 : decode b_Model_puts 0 = .ok (.iload_n 0, 1) := by decide +kernel
theorem d_Model_puts_1 : decode b_Model_puts 1 = .ok (.bipush 13, 2) := by decide +kernel
theorem d_Model_puts_3 : decode b_Model_puts 3 = .ok (.if_icmp .lt 9, 3) := by decide +kernel
theorem d_Model_puts_6 : decode b_Model_puts 6 = .ok (.iload_n 0, 1) := by decide +kernel
theorem d_Model_puts_7 : decode b_Model_puts 7 = .ok (.bipush 16, 2) := by decide +kernel
theorem d_Model_puts_9 : decode b_Model_puts 9 = .ok (.if_icmp .ne 7, 3) := by decide +kernel
theorem d_Model_puts_12 : decode b_Model_puts 12 = .ok (.iconst 1, 1) := by decide +kernel
theorem d_Model_puts_13 : decode b_Model_puts 13 = .ok (.goto 20, 3) := by decide +kernel
theorem d_Model_puts_16 : decode b_Model_puts 16 = .ok (.iload_n 0, 1) := by decide +kernel
theorem d_Model_puts_17 : decode b_Model_puts 17 = .ok (.bipush 19, 2) := by decide +kernel
theorem d_Model_puts_19 : decode b_Model_puts 19 = .ok (.if_icmp .eq 9, 3) := by decide +kernel
theorem d_Model_puts_22 : decode b_Model_puts 22 = .ok (.iload_n 0, 1) := by decide +kernel
theorem d_Model_puts_23 : decode b_Model_puts 23 = .ok (.bipush 20, 2) := by decide +kernel
theorem d_Model_puts_25 : decode b_Model_puts 25 = .ok (.if_icmp .ne 7, 3) := by decide +kernel
theorem d_Model_puts_28 : decode b_Model_puts 28 = .ok (.iconst 2, 1) := by decide +kernel
theorem d_Model_puts_29 : decode b_Model_puts 29 = .ok (.goto 4, 3) := by decide +kernel
theorem d_Model_puts_32 : decode b_Model_puts 32 = .ok (.iconst 0, 1) := by decide +kernel
theorem d_Model_puts_33 : decode b_Model_puts 33 = .ok (.ireturn, 1) := by decide +kernel
abbrev b_Model_measure : ByteArray := prog_14_method_16_code
abbrev J_Model_measure : MethodName × ByteArray × Nat × Option FieldType := (⟨"FaslDeskModel", "measure", "(I)I"⟩, b_Model_measure, 9, (some .int))
theorem d_Model_measure_0 : decode b_Model_measure 0 = .ok (.aload_n 0, 1) := by decide +kernel
theorem d_Model_measure_1 : decode b_Model_measure 1 = .ok (.getfield 37, 3) := by decide +kernel
theorem d_Model_measure_4 : decode b_Model_measure 4 = .ok (.iload_n 1, 1) := by decide +kernel
theorem d_Model_measure_5 : decode b_Model_measure 5 = .ok (.iaload, 1) := by decide +kernel
theorem d_Model_measure_6 : decode b_Model_measure 6 = .ok (.istore_n 2, 1) := by decide +kernel
theorem d_Model_measure_7 : decode b_Model_measure 7 = .ok (.iconst 0, 1) := by decide +kernel
theorem d_Model_measure_8 : decode b_Model_measure 8 = .ok (.istore_n 3, 1) := by decide +kernel
theorem d_Model_measure_9 : decode b_Model_measure 9 = .ok (.iconst 0, 1) := by decide +kernel
theorem d_Model_measure_10 : decode b_Model_measure 10 = .ok (.istore 4, 2) := by decide +kernel
theorem d_Model_measure_12 : decode b_Model_measure 12 = .ok (.iconst 0, 1) := by decide +kernel
theorem d_Model_measure_13 : decode b_Model_measure 13 = .ok (.istore 5, 2) := by decide +kernel
theorem d_Model_measure_15 : decode b_Model_measure 15 = .ok (.iload 5, 2) := by decide +kernel
theorem d_Model_measure_17 : decode b_Model_measure 17 = .ok (.iload_n 2, 1) := by decide +kernel
theorem d_Model_measure_18 : decode b_Model_measure 18 = .ok (.if_icmp .ge 17, 3) := by decide +kernel
theorem d_Model_measure_21 : decode b_Model_measure 21 = .ok (.aload_n 0, 1) := by decide +kernel
theorem d_Model_measure_22 : decode b_Model_measure 22 = .ok (.getfield 43, 3) := by decide +kernel
theorem d_Model_measure_25 : decode b_Model_measure 25 = .ok (.iload 5, 2) := by decide +kernel
theorem d_Model_measure_27 : decode b_Model_measure 27 = .ok (.iconst (-1), 1) := by decide +kernel
theorem d_Model_measure_28 : decode b_Model_measure 28 = .ok (.iastore, 1) := by decide +kernel
theorem d_Model_measure_29 : decode b_Model_measure 29 = .ok (.iinc 5 1, 3) := by decide +kernel
theorem d_Model_measure_32 : decode b_Model_measure 32 = .ok (.goto (-17), 3) := by decide +kernel
theorem d_Model_measure_35 : decode b_Model_measure 35 = .ok (.aload_n 0, 1) := by decide +kernel
theorem d_Model_measure_36 : decode b_Model_measure 36 = .ok (.getfield 43, 3) := by decide +kernel
theorem d_Model_measure_39 : decode b_Model_measure 39 = .ok (.iconst 0, 1) := by decide +kernel
theorem d_Model_measure_40 : decode b_Model_measure 40 = .ok (.iconst 0, 1) := by decide +kernel
theorem d_Model_measure_41 : decode b_Model_measure 41 = .ok (.iastore, 1) := by decide +kernel
theorem d_Model_measure_42 : decode b_Model_measure 42 = .ok (.iconst 1, 1) := by decide +kernel
theorem d_Model_measure_43 : decode b_Model_measure 43 = .ok (.istore 5, 2) := by decide +kernel
theorem d_Model_measure_45 : decode b_Model_measure 45 = .ok (.iload 5, 2) := by decide +kernel
theorem d_Model_measure_47 : decode b_Model_measure 47 = .ok (.ifCond .eq 194, 3) := by decide +kernel
theorem d_Model_measure_50 : decode b_Model_measure 50 = .ok (.iconst 0, 1) := by decide +kernel
theorem d_Model_measure_51 : decode b_Model_measure 51 = .ok (.istore 5, 2) := by decide +kernel
theorem d_Model_measure_53 : decode b_Model_measure 53 = .ok (.iconst 0, 1) := by decide +kernel
theorem d_Model_measure_54 : decode b_Model_measure 54 = .ok (.istore 6, 2) := by decide +kernel
theorem d_Model_measure_56 : decode b_Model_measure 56 = .ok (.iload 6, 2) := by decide +kernel
theorem d_Model_measure_58 : decode b_Model_measure 58 = .ok (.iload_n 2, 1) := by decide +kernel
theorem d_Model_measure_59 : decode b_Model_measure 59 = .ok (.if_icmp .ge 179, 3) := by decide +kernel
theorem d_Model_measure_62 : decode b_Model_measure 62 = .ok (.aload_n 0, 1) := by decide +kernel
theorem d_Model_measure_63 : decode b_Model_measure 63 = .ok (.getfield 28, 3) := by decide +kernel
theorem d_Model_measure_66 : decode b_Model_measure 66 = .ok (.sipush 280, 3) := by decide +kernel
theorem d_Model_measure_69 : decode b_Model_measure 69 = .ok (.iload_n 1, 1) := by decide +kernel
theorem d_Model_measure_70 : decode b_Model_measure 70 = .ok (.imul, 1) := by decide +kernel
theorem d_Model_measure_71 : decode b_Model_measure 71 = .ok (.iload 6, 2) := by decide +kernel
theorem d_Model_measure_73 : decode b_Model_measure 73 = .ok (.iadd, 1) := by decide +kernel
theorem d_Model_measure_74 : decode b_Model_measure 74 = .ok (.iaload, 1) := by decide +kernel
theorem d_Model_measure_75 : decode b_Model_measure 75 = .ok (.istore 7, 2) := by decide +kernel
theorem d_Model_measure_77 : decode b_Model_measure 77 = .ok (.aload_n 0, 1) := by decide +kernel
theorem d_Model_measure_78 : decode b_Model_measure 78 = .ok (.getfield 43, 3) := by decide +kernel
theorem d_Model_measure_81 : decode b_Model_measure 81 = .ok (.iload 6, 2) := by decide +kernel
theorem d_Model_measure_83 : decode b_Model_measure 83 = .ok (.iaload, 1) := by decide +kernel
theorem d_Model_measure_84 : decode b_Model_measure 84 = .ok (.ifCond .lt 148, 3) := by decide +kernel
theorem d_Model_measure_87 : decode b_Model_measure 87 = .ok (.aload_n 0, 1) := by decide +kernel
theorem d_Model_measure_88 : decode b_Model_measure 88 = .ok (.getfield 43, 3) := by decide +kernel
theorem d_Model_measure_91 : decode b_Model_measure 91 = .ok (.iload 6, 2) := by decide +kernel
theorem d_Model_measure_93 : decode b_Model_measure 93 = .ok (.iaload, 1) := by decide +kernel
theorem d_Model_measure_94 : decode b_Model_measure 94 = .ok (.bipush 99, 2) := by decide +kernel
theorem d_Model_measure_96 : decode b_Model_measure 96 = .ok (.if_icmp .le 6, 3) := by decide +kernel
theorem d_Model_measure_99 : decode b_Model_measure 99 = .ok (.goto 133, 3) := by decide +kernel
theorem d_Model_measure_102 : decode b_Model_measure 102 = .ok (.aload_n 0, 1) := by decide +kernel
theorem d_Model_measure_103 : decode b_Model_measure 103 = .ok (.getfield 43, 3) := by decide +kernel
theorem d_Model_measure_106 : decode b_Model_measure 106 = .ok (.iload 6, 2) := by decide +kernel
theorem d_Model_measure_108 : decode b_Model_measure 108 = .ok (.iaload, 1) := by decide +kernel
theorem d_Model_measure_109 : decode b_Model_measure 109 = .ok (.iload 7, 2) := by decide +kernel
theorem d_Model_measure_111 : decode b_Model_measure 111 = .ok (.invokestatic 142, 3) := by decide +kernel
theorem d_Model_measure_114 : decode b_Model_measure 114 = .ok (.isub, 1) := by decide +kernel
theorem d_Model_measure_115 : decode b_Model_measure 115 = .ok (.istore_n 3, 1) := by decide +kernel
theorem d_Model_measure_116 : decode b_Model_measure 116 = .ok (.iload_n 3, 1) := by decide +kernel
theorem d_Model_measure_117 : decode b_Model_measure 117 = .ok (.ifCond .ge 5, 3) := by decide +kernel
theorem d_Model_measure_120 : decode b_Model_measure 120 = .ok (.iconst (-1), 1) := by decide +kernel
theorem d_Model_measure_121 : decode b_Model_measure 121 = .ok (.ireturn, 1) := by decide +kernel
theorem d_Model_measure_122 : decode b_Model_measure 122 = .ok (.iload_n 3, 1) := by decide +kernel
theorem d_Model_measure_123 : decode b_Model_measure 123 = .ok (.iload 7, 2) := by decide +kernel
theorem d_Model_measure_125 : decode b_Model_measure 125 = .ok (.invokestatic 145, 3) := by decide +kernel
theorem d_Model_measure_128 : decode b_Model_measure 128 = .ok (.iadd, 1) := by decide +kernel
theorem d_Model_measure_129 : decode b_Model_measure 129 = .ok (.istore_n 3, 1) := by decide +kernel
theorem d_Model_measure_130 : decode b_Model_measure 130 = .ok (.iload_n 3, 1) := by decide +kernel
theorem d_Model_measure_131 : decode b_Model_measure 131 = .ok (.iload 4, 2) := by decide +kernel
theorem d_Model_measure_133 : decode b_Model_measure 133 = .ok (.if_icmp .le 6, 3) := by decide +kernel
theorem d_Model_measure_136 : decode b_Model_measure 136 = .ok (.iload_n 3, 1) := by decide +kernel
theorem d_Model_measure_137 : decode b_Model_measure 137 = .ok (.istore 4, 2) := by decide +kernel
theorem d_Model_measure_139 : decode b_Model_measure 139 = .ok (.aload_n 0, 1) := by decide +kernel
theorem d_Model_measure_140 : decode b_Model_measure 140 = .ok (.getfield 43, 3) := by decide +kernel
theorem d_Model_measure_143 : decode b_Model_measure 143 = .ok (.iload 6, 2) := by decide +kernel
theorem d_Model_measure_145 : decode b_Model_measure 145 = .ok (.dup2, 1) := by decide +kernel
theorem d_Model_measure_146 : decode b_Model_measure 146 = .ok (.iaload, 1) := by decide +kernel
theorem d_Model_measure_147 : decode b_Model_measure 147 = .ok (.bipush 100, 2) := by decide +kernel
theorem d_Model_measure_149 : decode b_Model_measure 149 = .ok (.iadd, 1) := by decide +kernel
theorem d_Model_measure_150 : decode b_Model_measure 150 = .ok (.iastore, 1) := by decide +kernel
theorem d_Model_measure_151 : decode b_Model_measure 151 = .ok (.iconst 1, 1) := by decide +kernel
theorem d_Model_measure_152 : decode b_Model_measure 152 = .ok (.istore 5, 2) := by decide +kernel
theorem d_Model_measure_154 : decode b_Model_measure 154 = .ok (.iload 7, 2) := by decide +kernel
theorem d_Model_measure_156 : decode b_Model_measure 156 = .ok (.bipush 15, 2) := by decide +kernel
theorem d_Model_measure_158 : decode b_Model_measure 158 = .ok (.if_icmp .ne 19, 3) := by decide +kernel
theorem d_Model_measure_161 : decode b_Model_measure 161 = .ok (.aload_n 0, 1) := by decide +kernel
theorem d_Model_measure_162 : decode b_Model_measure 162 = .ok (.getfield 31, 3) := by decide +kernel
theorem d_Model_measure_165 : decode b_Model_measure 165 = .ok (.sipush 280, 3) := by decide +kernel
theorem d_Model_measure_168 : decode b_Model_measure 168 = .ok (.iload_n 1, 1) := by decide +kernel
theorem d_Model_measure_169 : decode b_Model_measure 169 = .ok (.imul, 1) := by decide +kernel
theorem d_Model_measure_170 : decode b_Model_measure 170 = .ok (.iload 6, 2) := by decide +kernel
theorem d_Model_measure_172 : decode b_Model_measure 172 = .ok (.iadd, 1) := by decide +kernel
theorem d_Model_measure_173 : decode b_Model_measure 173 = .ok (.iaload, 1) := by decide +kernel
theorem d_Model_measure_174 : decode b_Model_measure 174 = .ok (.goto 7, 3) := by decide +kernel
theorem d_Model_measure_177 : decode b_Model_measure 177 = .ok (.iload 6, 2) := by decide +kernel
theorem d_Model_measure_179 : decode b_Model_measure 179 = .ok (.iconst 1, 1) := by decide +kernel
theorem d_Model_measure_180 : decode b_Model_measure 180 = .ok (.iadd, 1) := by decide +kernel
theorem d_Model_measure_181 : decode b_Model_measure 181 = .ok (.istore 8, 2) := by decide +kernel
theorem d_Model_measure_183 : decode b_Model_measure 183 = .ok (.iload 7, 2) := by decide +kernel
theorem d_Model_measure_185 : decode b_Model_measure 185 = .ok (.bipush 17, 2) := by decide +kernel
theorem d_Model_measure_187 : decode b_Model_measure 187 = .ok (.if_icmp .eq 14, 3) := by decide +kernel
theorem d_Model_measure_190 : decode b_Model_measure 190 = .ok (.aload_n 0, 1) := by decide +kernel
theorem d_Model_measure_191 : decode b_Model_measure 191 = .ok (.iload 8, 2) := by decide +kernel
theorem d_Model_measure_193 : decode b_Model_measure 193 = .ok (.iload_n 2, 1) := by decide +kernel
theorem d_Model_measure_194 : decode b_Model_measure 194 = .ok (.iload_n 3, 1) := by decide +kernel
theorem d_Model_measure_195 : decode b_Model_measure 195 = .ok (.invokevirtual 148, 3) := by decide +kernel
theorem d_Model_measure_198 : decode b_Model_measure 198 = .ok (.ifCond .eq 32, 3) := by decide +kernel
theorem d_Model_measure_201 : decode b_Model_measure 201 = .ok (.iload 7, 2) := by decide +kernel
theorem d_Model_measure_203 : decode b_Model_measure 203 = .ok (.bipush 14, 2) := by decide +kernel
theorem d_Model_measure_205 : decode b_Model_measure 205 = .ok (.if_icmp .ne 27, 3) := by decide +kernel
theorem d_Model_measure_208 : decode b_Model_measure 208 = .ok (.aload_n 0, 1) := by decide +kernel
theorem d_Model_measure_209 : decode b_Model_measure 209 = .ok (.aload_n 0, 1) := by decide +kernel
theorem d_Model_measure_210 : decode b_Model_measure 210 = .ok (.getfield 34, 3) := by decide +kernel
theorem d_Model_measure_213 : decode b_Model_measure 213 = .ok (.sipush 280, 3) := by decide +kernel
theorem d_Model_measure_216 : decode b_Model_measure 216 = .ok (.iload_n 1, 1) := by decide +kernel
theorem d_Model_measure_217 : decode b_Model_measure 217 = .ok (.imul, 1) := by decide +kernel
theorem d_Model_measure_218 : decode b_Model_measure 218 = .ok (.iload 6, 2) := by decide +kernel
theorem d_Model_measure_220 : decode b_Model_measure 220 = .ok (.iadd, 1) := by decide +kernel
theorem d_Model_measure_221 : decode b_Model_measure 221 = .ok (.iaload, 1) := by decide +kernel
theorem d_Model_measure_222 : decode b_Model_measure 222 = .ok (.iload_n 2, 1) := by decide +kernel
theorem d_Model_measure_223 : decode b_Model_measure 223 = .ok (.iload_n 3, 1) := by decide +kernel
theorem d_Model_measure_224 : decode b_Model_measure 224 = .ok (.invokevirtual 148, 3) := by decide +kernel
theorem d_Model_measure_227 : decode b_Model_measure 227 = .ok (.ifCond .ne 5, 3) := by decide +kernel
theorem d_Model_measure_230 : decode b_Model_measure 230 = .ok (.iconst (-1), 1) := by decide +kernel
theorem d_Model_measure_231 : decode b_Model_measure 231 = .ok (.ireturn, 1) := by decide +kernel
theorem d_Model_measure_232 : decode b_Model_measure 232 = .ok (.iinc 6 1, 3) := by decide +kernel
theorem d_Model_measure_235 : decode b_Model_measure 235 = .ok (.goto (-179), 3) := by decide +kernel
theorem d_Model_measure_238 : decode b_Model_measure 238 = .ok (.goto (-193), 3) := by decide +kernel
theorem d_Model_measure_241 : decode b_Model_measure 241 = .ok (.iload 4, 2) := by decide +kernel
theorem d_Model_measure_243 : decode b_Model_measure 243 = .ok (.ireturn, 1) := by decide +kernel
abbrev b_Model_reach : ByteArray := prog_14_method_17_code
abbrev J_Model_reach : MethodName × ByteArray × Nat × Option FieldType := (⟨"FaslDeskModel", "reach", "(III)Z"⟩, b_Model_reach, 4, (some .boolean))
theorem d_Model_reach_0 : decode b_Model_reach 0 = .ok (.iload_n 1, 1) := by decide +kernel
theorem d_Model_reach_1 : decode b_Model_reach 1 = .ok (.iload_n 2, 1) := by decide +kernel
theorem d_Model_reach_2 : decode b_Model_reach 2 = .ok (.if_icmp .lt 5, 3) := by decide +kernel
theorem d_Model_reach_5 : decode b_Model_reach 5 = .ok (.iconst 0, 1) := by decide +kernel
theorem d_Model_reach_6 : decode b_Model_reach 6 = .ok (.ireturn, 1) := by decide +kernel
theorem d_Model_reach_7 : decode b_Model_reach 7 = .ok (.aload_n 0, 1) := by decide +kernel
theorem d_Model_reach_8 : decode b_Model_reach 8 = .ok (.getfield 43, 3) := by decide +kernel
theorem d_Model_reach_11 : decode b_Model_reach 11 = .ok (.iload_n 1, 1) := by decide +kernel
theorem d_Model_reach_12 : decode b_Model_reach 12 = .ok (.iaload, 1) := by decide +kernel
theorem d_Model_reach_13 : decode b_Model_reach 13 = .ok (.ifCond .ge 10, 3) := by decide +kernel
theorem d_Model_reach_16 : decode b_Model_reach 16 = .ok (.aload_n 0, 1) := by decide +kernel
theorem d_Model_reach_17 : decode b_Model_reach 17 = .ok (.getfield 43, 3) := by decide +kernel
theorem d_Model_reach_20 : decode b_Model_reach 20 = .ok (.iload_n 1, 1) := by decide +kernel
theorem d_Model_reach_21 : decode b_Model_reach 21 = .ok (.iload_n 3, 1) := by decide +kernel
theorem d_Model_reach_22 : decode b_Model_reach 22 = .ok (.iastore, 1) := by decide +kernel
theorem d_Model_reach_23 : decode b_Model_reach 23 = .ok (.aload_n 0, 1) := by decide +kernel
theorem d_Model_reach_24 : decode b_Model_reach 24 = .ok (.getfield 43, 3) := by decide +kernel
theorem d_Model_reach_27 : decode b_Model_reach 27 = .ok (.iload_n 1, 1) := by decide +kernel
theorem d_Model_reach_28 : decode b_Model_reach 28 = .ok (.iaload, 1) := by decide +kernel
theorem d_Model_reach_29 : decode b_Model_reach 29 = .ok (.bipush 100, 2) := by decide +kernel
theorem d_Model_reach_31 : decode b_Model_reach 31 = .ok (.irem, 1) := by decide +kernel
theorem d_Model_reach_32 : decode b_Model_reach 32 = .ok (.iload_n 3, 1) := by decide +kernel
theorem d_Model_reach_33 : decode b_Model_reach 33 = .ok (.if_icmp .ne 7, 3) := by decide +kernel
theorem d_Model_reach_36 : decode b_Model_reach 36 = .ok (.iconst 1, 1) := by decide +kernel
theorem d_Model_reach_37 : decode b_Model_reach 37 = .ok (.goto 4, 3) := by decide +kernel
theorem d_Model_reach_40 : decode b_Model_reach 40 = .ok (.iconst 0, 1) := by decide +kernel
theorem d_Model_reach_41 : decode b_Model_reach 41 = .ok (.ireturn, 1) := by decide +kernel
abbrev b_Model_isSo : ByteArray := prog_14_method_18_code
abbrev J_Model_isSo : MethodName × ByteArray × Nat × Option FieldType := (⟨"FaslDeskModel", "isSo", "(II)Z"⟩, b_Model_isSo, 3, (some .boolean))
theorem d_Model_isSo_0 : decode b_Model_isSo 0 = .ok (.iload_n 0, 1) := by decide +kernel
theorem d_Model_isSo_1 : decode b_Model_isSo 1 = .ok (.iconst 2, 1) := by decide +kernel
theorem d_Model_isSo_2 : decode b_Model_isSo 2 = .ok (.if_icmp .ge 15, 3) := by decide +kernel
theorem d_Model_isSo_5 : decode b_Model_isSo 5 = .ok (.iload_n 1, 1) := by decide +kernel
theorem d_Model_isSo_6 : decode b_Model_isSo 6 = .ok (.ifCond .ne 7, 3) := by decide +kernel
theorem d_Model_isSo_9 : decode b_Model_isSo 9 = .ok (.iconst 1, 1) := by decide +kernel
theorem d_Model_isSo_10 : decode b_Model_isSo 10 = .ok (.goto 33, 3) := by decide +kernel
theorem d_Model_isSo_13 : decode b_Model_isSo 13 = .ok (.iconst 0, 1) := by decide +kernel
theorem d_Model_isSo_14 : decode b_Model_isSo 14 = .ok (.goto 29, 3) := by decide +kernel
theorem d_Model_isSo_17 : decode b_Model_isSo 17 = .ok (.iload_n 0, 1) := by decide +kernel
theorem d_Model_isSo_18 : decode b_Model_isSo 18 = .ok (.iconst 4, 1) := by decide +kernel
theorem d_Model_isSo_19 : decode b_Model_isSo 19 = .ok (.if_icmp .ge 15, 3) := by decide +kernel
theorem d_Model_isSo_22 : decode b_Model_isSo 22 = .ok (.iload_n 1, 1) := by decide +kernel
theorem d_Model_isSo_23 : decode b_Model_isSo 23 = .ok (.ifCond .ge 7, 3) := by decide +kernel
theorem d_Model_isSo_26 : decode b_Model_isSo 26 = .ok (.iconst 1, 1) := by decide +kernel
theorem d_Model_isSo_27 : decode b_Model_isSo 27 = .ok (.goto 16, 3) := by decide +kernel
theorem d_Model_isSo_30 : decode b_Model_isSo 30 = .ok (.iconst 0, 1) := by decide +kernel
theorem d_Model_isSo_31 : decode b_Model_isSo 31 = .ok (.goto 12, 3) := by decide +kernel
theorem d_Model_isSo_34 : decode b_Model_isSo 34 = .ok (.iload_n 1, 1) := by decide +kernel
theorem d_Model_isSo_35 : decode b_Model_isSo 35 = .ok (.ifCond .le 7, 3) := by decide +kernel
theorem d_Model_isSo_38 : decode b_Model_isSo 38 = .ok (.iconst 1, 1) := by decide +kernel
theorem d_Model_isSo_39 : decode b_Model_isSo 39 = .ok (.goto 4, 3) := by decide +kernel
theorem d_Model_isSo_42 : decode b_Model_isSo 42 = .ok (.iconst 0, 1) := by decide +kernel
theorem d_Model_isSo_43 : decode b_Model_isSo 43 = .ok (.istore_n 2, 1) := by decide +kernel
theorem d_Model_isSo_44 : decode b_Model_isSo 44 = .ok (.iload_n 2, 1) := by decide +kernel
theorem d_Model_isSo_45 : decode b_Model_isSo 45 = .ok (.iload_n 0, 1) := by decide +kernel
theorem d_Model_isSo_46 : decode b_Model_isSo 46 = .ok (.iconst 2, 1) := by decide +kernel
theorem d_Model_isSo_47 : decode b_Model_isSo 47 = .ok (.irem, 1) := by decide +kernel
theorem d_Model_isSo_48 : decode b_Model_isSo 48 = .ok (.ifCond .ne 7, 3) := by decide +kernel
theorem d_Model_isSo_51 : decode b_Model_isSo 51 = .ok (.iconst 1, 1) := by decide +kernel
theorem d_Model_isSo_52 : decode b_Model_isSo 52 = .ok (.goto 4, 3) := by decide +kernel
theorem d_Model_isSo_55 : decode b_Model_isSo 55 = .ok (.iconst 0, 1) := by decide +kernel
theorem d_Model_isSo_56 : decode b_Model_isSo 56 = .ok (.if_icmp .ne 7, 3) := by decide +kernel
theorem d_Model_isSo_59 : decode b_Model_isSo 59 = .ok (.iconst 1, 1) := by decide +kernel
theorem d_Model_isSo_60 : decode b_Model_isSo 60 = .ok (.goto 4, 3) := by decide +kernel
theorem d_Model_isSo_63 : decode b_Model_isSo 63 = .ok (.iconst 0, 1) := by decide +kernel
theorem d_Model_isSo_64 : decode b_Model_isSo 64 = .ok (.ireturn, 1) := by decide +kernel
abbrev b_Model_enter : ByteArray := prog_14_method_19_code
abbrev J_Model_enter : MethodName × ByteArray × Nat × Option FieldType := (⟨"FaslDeskModel", "enter", "(IIIIII)V"⟩, b_Model_enter, 8, none)
theorem d_Model_enter_0 : decode b_Model_enter 0 = .ok (.aload_n 0, 1) := by decide +kernel
theorem d_Model_enter_1 : decode b_Model_enter 1 = .ok (.getfield 86, 3) := by decide +kernel
theorem d_Model_enter_4 : decode b_Model_enter 4 = .ok (.iload_n 1, 1) := by decide +kernel
theorem d_Model_enter_5 : decode b_Model_enter 5 = .ok (.iload_n 2, 1) := by decide +kernel
theorem d_Model_enter_6 : decode b_Model_enter 6 = .ok (.iastore, 1) := by decide +kernel
theorem d_Model_enter_7 : decode b_Model_enter 7 = .ok (.aload_n 0, 1) := by decide +kernel
theorem d_Model_enter_8 : decode b_Model_enter 8 = .ok (.getfield 83, 3) := by decide +kernel
theorem d_Model_enter_11 : decode b_Model_enter 11 = .ok (.iload_n 1, 1) := by decide +kernel
theorem d_Model_enter_12 : decode b_Model_enter 12 = .ok (.iconst 0, 1) := by decide +kernel
theorem d_Model_enter_13 : decode b_Model_enter 13 = .ok (.iastore, 1) := by decide +kernel
theorem d_Model_enter_14 : decode b_Model_enter 14 = .ok (.iconst 0, 1) := by decide +kernel
theorem d_Model_enter_15 : decode b_Model_enter 15 = .ok (.istore 7, 2) := by decide +kernel
theorem d_Model_enter_17 : decode b_Model_enter 17 = .ok (.iload 7, 2) := by decide +kernel
theorem d_Model_enter_19 : decode b_Model_enter 19 = .ok (.bipush 7, 2) := by decide +kernel
theorem d_Model_enter_21 : decode b_Model_enter 21 = .ok (.if_icmp .ge 54, 3) := by decide +kernel
theorem d_Model_enter_24 : decode b_Model_enter 24 = .ok (.aload_n 0, 1) := by decide +kernel
theorem d_Model_enter_25 : decode b_Model_enter 25 = .ok (.getfield 80, 3) := by decide +kernel
theorem d_Model_enter_28 : decode b_Model_enter 28 = .ok (.bipush 7, 2) := by decide +kernel
theorem d_Model_enter_30 : decode b_Model_enter 30 = .ok (.iload_n 1, 1) := by decide +kernel
theorem d_Model_enter_31 : decode b_Model_enter 31 = .ok (.imul, 1) := by decide +kernel
theorem d_Model_enter_32 : decode b_Model_enter 32 = .ok (.iload 7, 2) := by decide +kernel
theorem d_Model_enter_34 : decode b_Model_enter 34 = .ok (.iadd, 1) := by decide +kernel
theorem d_Model_enter_35 : decode b_Model_enter 35 = .ok (.iload 7, 2) := by decide +kernel
theorem d_Model_enter_37 : decode b_Model_enter 37 = .ok (.iload_n 3, 1) := by decide +kernel
theorem d_Model_enter_38 : decode b_Model_enter 38 = .ok (.if_icmp .lt 7, 3) := by decide +kernel
theorem d_Model_enter_41 : decode b_Model_enter 41 = .ok (.iconst 0, 1) := by decide +kernel
theorem d_Model_enter_42 : decode b_Model_enter 42 = .ok (.goto 26, 3) := by decide +kernel
theorem d_Model_enter_45 : decode b_Model_enter 45 = .ok (.iload 7, 2) := by decide +kernel
theorem d_Model_enter_47 : decode b_Model_enter 47 = .ok (.ifCond .ne 8, 3) := by decide +kernel
theorem d_Model_enter_50 : decode b_Model_enter 50 = .ok (.iload 4, 2) := by decide +kernel
theorem d_Model_enter_52 : decode b_Model_enter 52 = .ok (.goto 16, 3) := by decide +kernel
theorem d_Model_enter_55 : decode b_Model_enter 55 = .ok (.iload 7, 2) := by decide +kernel
theorem d_Model_enter_57 : decode b_Model_enter 57 = .ok (.iconst 1, 1) := by decide +kernel
theorem d_Model_enter_58 : decode b_Model_enter 58 = .ok (.if_icmp .ne 8, 3) := by decide +kernel
theorem d_Model_enter_61 : decode b_Model_enter 61 = .ok (.iload 5, 2) := by decide +kernel
theorem d_Model_enter_63 : decode b_Model_enter 63 = .ok (.goto 5, 3) := by decide +kernel
theorem d_Model_enter_66 : decode b_Model_enter 66 = .ok (.iload 6, 2) := by decide +kernel
theorem d_Model_enter_68 : decode b_Model_enter 68 = .ok (.iastore, 1) := by decide +kernel
theorem d_Model_enter_69 : decode b_Model_enter 69 = .ok (.iinc 7 1, 3) := by decide +kernel
theorem d_Model_enter_72 : decode b_Model_enter 72 = .ok (.goto (-55), 3) := by decide +kernel
theorem d_Model_enter_75 : decode b_Model_enter 75 = .ok (.return_, 1) := by decide +kernel
abbrev b_Model_go : ByteArray := prog_14_method_20_code
abbrev J_Model_go : MethodName × ByteArray × Nat × Option FieldType := (⟨"FaslDeskModel", "go", "(IIIII)I"⟩, b_Model_go, 14, (some .int))
theorem d_Model_go_0 : decode b_Model_go 0 = .ok (.iconst 0, 1) := by decide +kernel
theorem d_Model_go_1 : decode b_Model_go 1 = .ok (.istore 6, 2) := by decide +kernel
theorem d_Model_go_3 : decode b_Model_go 3 = .ok (.iconst 0, 1) := by decide +kernel
theorem d_Model_go_4 : decode b_Model_go 4 = .ok (.istore 7, 2) := by decide +kernel
theorem d_Model_go_6 : decode b_Model_go 6 = .ok (.iload_n 1, 1) := by decide +kernel
theorem d_Model_go_7 : decode b_Model_go 7 = .ok (.iload_n 1, 1) := by decide +kernel
theorem d_Model_go_8 : decode b_Model_go 8 = .ok (.bipush 8, 2) := by decide +kernel
theorem d_Model_go_10 : decode b_Model_go 10 = .ok (.irem, 1) := by decide +kernel
theorem d_Model_go_11 : decode b_Model_go 11 = .ok (.isub, 1) := by decide +kernel
theorem d_Model_go_12 : decode b_Model_go 12 = .ok (.istore 8, 2) := by decide +kernel
theorem d_Model_go_14 : decode b_Model_go 14 = .ok (.aload_n 0, 1) := by decide +kernel
theorem d_Model_go_15 : decode b_Model_go 15 = .ok (.iconst 0, 1) := by decide +kernel
theorem d_Model_go_16 : decode b_Model_go 16 = .ok (.iload_n 1, 1) := by decide +kernel
theorem d_Model_go_17 : decode b_Model_go 17 = .ok (.iload_n 2, 1) := by decide +kernel
theorem d_Model_go_18 : decode b_Model_go 18 = .ok (.iload_n 3, 1) := by decide +kernel
theorem d_Model_go_19 : decode b_Model_go 19 = .ok (.iload 4, 2) := by decide +kernel
theorem d_Model_go_21 : decode b_Model_go 21 = .ok (.iload 5, 2) := by decide +kernel
theorem d_Model_go_23 : decode b_Model_go 23 = .ok (.invokevirtual 151, 3) := by decide +kernel
theorem d_Model_go_26 : decode b_Model_go 26 = .ok (.sipush 280, 3) := by decide +kernel
theorem d_Model_go_29 : decode b_Model_go 29 = .ok (.aload_n 0, 1) := by decide +kernel
theorem d_Model_go_30 : decode b_Model_go 30 = .ok (.getfield 86, 3) := by decide +kernel
theorem d_Model_go_33 : decode b_Model_go 33 = .ok (.iload 6, 2) := by decide +kernel
theorem d_Model_go_35 : decode b_Model_go 35 = .ok (.iaload, 1) := by decide +kernel
theorem d_Model_go_36 : decode b_Model_go 36 = .ok (.imul, 1) := by decide +kernel
theorem d_Model_go_37 : decode b_Model_go 37 = .ok (.aload_n 0, 1) := by decide +kernel
theorem d_Model_go_38 : decode b_Model_go 38 = .ok (.getfield 83, 3) := by decide +kernel
theorem d_Model_go_41 : decode b_Model_go 41 = .ok (.iload 6, 2) := by decide +kernel
theorem d_Model_go_43 : decode b_Model_go 43 = .ok (.dup2, 1) := by decide +kernel
theorem d_Model_go_44 : decode b_Model_go 44 = .ok (.iaload, 1) := by decide +kernel
theorem d_Model_go_45 : decode b_Model_go 45 = .ok (.dup_x2, 1) := by decide +kernel
theorem d_Model_go_46 : decode b_Model_go 46 = .ok (.iconst 1, 1) := by decide +kernel
theorem d_Model_go_47 : decode b_Model_go 47 = .ok (.iadd, 1) := by decide +kernel
theorem d_Model_go_48 : decode b_Model_go 48 = .ok (.iastore, 1) := by decide +kernel
theorem d_Model_go_49 : decode b_Model_go 49 = .ok (.iadd, 1) := by decide +kernel
theorem d_Model_go_50 : decode b_Model_go 50 = .ok (.istore 9, 2) := by decide +kernel
theorem d_Model_go_52 : decode b_Model_go 52 = .ok (.aload_n 0, 1) := by decide +kernel
theorem d_Model_go_53 : decode b_Model_go 53 = .ok (.getfield 28, 3) := by decide +kernel
theorem d_Model_go_56 : decode b_Model_go 56 = .ok (.iload 9, 2) := by decide +kernel
theorem d_Model_go_58 : decode b_Model_go 58 = .ok (.iaload, 1) := by decide +kernel
theorem d_Model_go_59 : decode b_Model_go 59 = .ok (.istore 10, 2) := by decide +kernel
theorem d_Model_go_61 : decode b_Model_go 61 = .ok (.aload_n 0, 1) := by decide +kernel
theorem d_Model_go_62 : decode b_Model_go 62 = .ok (.getfield 31, 3) := by decide +kernel
theorem d_Model_go_65 : decode b_Model_go 65 = .ok (.iload 9, 2) := by decide +kernel
theorem d_Model_go_67 : decode b_Model_go 67 = .ok (.iaload, 1) := by decide +kernel
theorem d_Model_go_68 : decode b_Model_go 68 = .ok (.istore 11, 2) := by decide +kernel
theorem d_Model_go_70 : decode b_Model_go 70 = .ok (.iload 10, 2) := by decide +kernel
theorem d_Model_go_72 : decode b_Model_go 72 = .ok (.bipush 17, 2) := by decide +kernel
theorem d_Model_go_74 : decode b_Model_go 74 = .ok (.if_icmp .ne 56, 3) := by decide +kernel
theorem d_Model_go_77 : decode b_Model_go 77 = .ok (.iload 6, 2) := by decide +kernel
theorem d_Model_go_79 : decode b_Model_go 79 = .ok (.ifCond .ne 13, 3) := by decide +kernel
theorem d_Model_go_82 : decode b_Model_go 82 = .ok (.aload_n 0, 1) := by decide +kernel
theorem d_Model_go_83 : decode b_Model_go 83 = .ok (.getfield 77, 3) := by decide +kernel
theorem d_Model_go_86 : decode b_Model_go 86 = .ok (.iload 7, 2) := by decide +kernel
theorem d_Model_go_88 : decode b_Model_go 88 = .ok (.iconst 1, 1) := by decide +kernel
theorem d_Model_go_89 : decode b_Model_go 89 = .ok (.isub, 1) := by decide +kernel
theorem d_Model_go_90 : decode b_Model_go 90 = .ok (.iaload, 1) := by decide +kernel
theorem d_Model_go_91 : decode b_Model_go 91 = .ok (.ireturn, 1) := by decide +kernel
theorem d_Model_go_92 : decode b_Model_go 92 = .ok (.aload_n 0, 1) := by decide +kernel
theorem d_Model_go_93 : decode b_Model_go 93 = .ok (.getfield 77, 3) := by decide +kernel
theorem d_Model_go_96 : decode b_Model_go 96 = .ok (.iload 7, 2) := by decide +kernel
theorem d_Model_go_98 : decode b_Model_go 98 = .ok (.iconst 1, 1) := by decide +kernel
theorem d_Model_go_99 : decode b_Model_go 99 = .ok (.isub, 1) := by decide +kernel
theorem d_Model_go_100 : decode b_Model_go 100 = .ok (.iaload, 1) := by decide +kernel
theorem d_Model_go_101 : decode b_Model_go 101 = .ok (.istore 12, 2) := by decide +kernel
theorem d_Model_go_103 : decode b_Model_go 103 = .ok (.iinc 6 (-1), 3) := by decide +kernel
theorem d_Model_go_106 : decode b_Model_go 106 = .ok (.aload_n 0, 1) := by decide +kernel
theorem d_Model_go_107 : decode b_Model_go 107 = .ok (.getfield 89, 3) := by decide +kernel
theorem d_Model_go_110 : decode b_Model_go 110 = .ok (.iload 6, 2) := by decide +kernel
theorem d_Model_go_112 : decode b_Model_go 112 = .ok (.iaload, 1) := by decide +kernel
theorem d_Model_go_113 : decode b_Model_go 113 = .ok (.istore 7, 2) := by decide +kernel
theorem d_Model_go_115 : decode b_Model_go 115 = .ok (.aload_n 0, 1) := by decide +kernel
theorem d_Model_go_116 : decode b_Model_go 116 = .ok (.getfield 77, 3) := by decide +kernel
theorem d_Model_go_119 : decode b_Model_go 119 = .ok (.iload 7, 2) := by decide +kernel
theorem d_Model_go_121 : decode b_Model_go 121 = .ok (.iinc 7 1, 3) := by decide +kernel
theorem d_Model_go_124 : decode b_Model_go 124 = .ok (.iload 12, 2) := by decide +kernel
theorem d_Model_go_126 : decode b_Model_go 126 = .ok (.iastore, 1) := by decide +kernel
theorem d_Model_go_127 : decode b_Model_go 127 = .ok (.goto 275, 3) := by decide +kernel
theorem d_Model_go_130 : decode b_Model_go 130 = .ok (.iload 10, 2) := by decide +kernel
theorem d_Model_go_132 : decode b_Model_go 132 = .ok (.bipush 16, 2) := by decide +kernel
theorem d_Model_go_134 : decode b_Model_go 134 = .ok (.if_icmp .ne 132, 3) := by decide +kernel
theorem d_Model_go_137 : decode b_Model_go 137 = .ok (.iload 8, 2) := by decide +kernel
theorem d_Model_go_139 : decode b_Model_go 139 = .ok (.ifCond .ne 21, 3) := by decide +kernel
theorem d_Model_go_142 : decode b_Model_go 142 = .ok (.aload_n 0, 1) := by decide +kernel
theorem d_Model_go_143 : decode b_Model_go 143 = .ok (.getfield 16, 3) := by decide +kernel
theorem d_Model_go_146 : decode b_Model_go 146 = .ok (.iload 11, 2) := by decide +kernel
theorem d_Model_go_148 : decode b_Model_go 148 = .ok (.iaload, 1) := by decide +kernel
theorem d_Model_go_149 : decode b_Model_go 149 = .ok (.ifCond .le 7, 3) := by decide +kernel
theorem d_Model_go_152 : decode b_Model_go 152 = .ok (.iconst 1, 1) := by decide +kernel
theorem d_Model_go_153 : decode b_Model_go 153 = .ok (.goto 14, 3) := by decide +kernel
theorem d_Model_go_156 : decode b_Model_go 156 = .ok (.iconst 0, 1) := by decide +kernel
theorem d_Model_go_157 : decode b_Model_go 157 = .ok (.goto 10, 3) := by decide +kernel
theorem d_Model_go_160 : decode b_Model_go 160 = .ok (.aload_n 0, 1) := by decide +kernel
theorem d_Model_go_161 : decode b_Model_go 161 = .ok (.getfield 50, 3) := by decide +kernel
theorem d_Model_go_164 : decode b_Model_go 164 = .ok (.iload 11, 2) := by decide +kernel
theorem d_Model_go_166 : decode b_Model_go 166 = .ok (.baload, 1) := by decide +kernel
theorem d_Model_go_167 : decode b_Model_go 167 = .ok (.istore 12, 2) := by decide +kernel
theorem d_Model_go_169 : decode b_Model_go 169 = .ok (.iload 12, 2) := by decide +kernel
theorem d_Model_go_171 : decode b_Model_go 171 = .ok (.ifCond .ne 19, 3) := by decide +kernel
theorem d_Model_go_174 : decode b_Model_go 174 = .ok (.aload_n 0, 1) := by decide +kernel
theorem d_Model_go_175 : decode b_Model_go 175 = .ok (.iload 8, 2) := by decide +kernel
theorem d_Model_go_177 : decode b_Model_go 177 = .ok (.ifCond .ne 7, 3) := by decide +kernel
theorem d_Model_go_180 : decode b_Model_go 180 = .ok (.iconst 1, 1) := by decide +kernel
theorem d_Model_go_181 : decode b_Model_go 181 = .ok (.goto 4, 3) := by decide +kernel
theorem d_Model_go_184 : decode b_Model_go 184 = .ok (.iconst 3, 1) := by decide +kernel
theorem d_Model_go_185 : decode b_Model_go 185 = .ok (.putfield 155, 3) := by decide +kernel
theorem d_Model_go_188 : decode b_Model_go 188 = .ok (.iconst 0, 1) := by decide +kernel
theorem d_Model_go_189 : decode b_Model_go 189 = .ok (.ireturn, 1) := by decide +kernel
theorem d_Model_go_190 : decode b_Model_go 190 = .ok (.iinc 7 (-3), 3) := by decide +kernel
theorem d_Model_go_193 : decode b_Model_go 193 = .ok (.aload_n 0, 1) := by decide +kernel
theorem d_Model_go_194 : decode b_Model_go 194 = .ok (.getfield 89, 3) := by decide +kernel
theorem d_Model_go_197 : decode b_Model_go 197 = .ok (.iload 6, 2) := by decide +kernel
theorem d_Model_go_199 : decode b_Model_go 199 = .ok (.iload 7, 2) := by decide +kernel
theorem d_Model_go_201 : decode b_Model_go 201 = .ok (.iastore, 1) := by decide +kernel
theorem d_Model_go_202 : decode b_Model_go 202 = .ok (.iinc 6 1, 3) := by decide +kernel
theorem d_Model_go_205 : decode b_Model_go 205 = .ok (.aload_n 0, 1) := by decide +kernel
theorem d_Model_go_206 : decode b_Model_go 206 = .ok (.iload 6, 2) := by decide +kernel
theorem d_Model_go_208 : decode b_Model_go 208 = .ok (.iload 8, 2) := by decide +kernel
theorem d_Model_go_210 : decode b_Model_go 210 = .ok (.iload 11, 2) := by decide +kernel
theorem d_Model_go_212 : decode b_Model_go 212 = .ok (.iadd, 1) := by decide +kernel
theorem d_Model_go_213 : decode b_Model_go 213 = .ok (.iload 8, 2) := by decide +kernel
theorem d_Model_go_215 : decode b_Model_go 215 = .ok (.ifCond .ne 13, 3) := by decide +kernel
theorem d_Model_go_218 : decode b_Model_go 218 = .ok (.aload_n 0, 1) := by decide +kernel
theorem d_Model_go_219 : decode b_Model_go 219 = .ok (.getfield 19, 3) := by decide +kernel
theorem d_Model_go_222 : decode b_Model_go 222 = .ok (.iload 11, 2) := by decide +kernel
theorem d_Model_go_224 : decode b_Model_go 224 = .ok (.iaload, 1) := by decide +kernel
theorem d_Model_go_225 : decode b_Model_go 225 = .ok (.goto 10, 3) := by decide +kernel
theorem d_Model_go_228 : decode b_Model_go 228 = .ok (.aload_n 0, 1) := by decide +kernel
theorem d_Model_go_229 : decode b_Model_go 229 = .ok (.getfield 74, 3) := by decide +kernel
theorem d_Model_go_232 : decode b_Model_go 232 = .ok (.iload 11, 2) := by decide +kernel
theorem d_Model_go_234 : decode b_Model_go 234 = .ok (.iaload, 1) := by decide +kernel
theorem d_Model_go_235 : decode b_Model_go 235 = .ok (.aload_n 0, 1) := by decide +kernel
theorem d_Model_go_236 : decode b_Model_go 236 = .ok (.getfield 77, 3) := by decide +kernel
theorem d_Model_go_239 : decode b_Model_go 239 = .ok (.iload 7, 2) := by decide +kernel
theorem d_Model_go_241 : decode b_Model_go 241 = .ok (.iaload, 1) := by decide +kernel
theorem d_Model_go_242 : decode b_Model_go 242 = .ok (.aload_n 0, 1) := by decide +kernel
theorem d_Model_go_243 : decode b_Model_go 243 = .ok (.getfield 77, 3) := by decide +kernel
theorem d_Model_go_246 : decode b_Model_go 246 = .ok (.iload 7, 2) := by decide +kernel
theorem d_Model_go_248 : decode b_Model_go 248 = .ok (.iconst 1, 1) := by decide +kernel
theorem d_Model_go_249 : decode b_Model_go 249 = .ok (.iadd, 1) := by decide +kernel
theorem d_Model_go_250 : decode b_Model_go 250 = .ok (.iaload, 1) := by decide +kernel
theorem d_Model_go_251 : decode b_Model_go 251 = .ok (.aload_n 0, 1) := by decide +kernel
theorem d_Model_go_252 : decode b_Model_go 252 = .ok (.getfield 77, 3) := by decide +kernel
theorem d_Model_go_255 : decode b_Model_go 255 = .ok (.iload 7, 2) := by decide +kernel
theorem d_Model_go_257 : decode b_Model_go 257 = .ok (.iconst 2, 1) := by decide +kernel
theorem d_Model_go_258 : decode b_Model_go 258 = .ok (.iadd, 1) := by decide +kernel
theorem d_Model_go_259 : decode b_Model_go 259 = .ok (.iaload, 1) := by decide +kernel
theorem d_Model_go_260 : decode b_Model_go 260 = .ok (.invokevirtual 151, 3) := by decide +kernel
theorem d_Model_go_263 : decode b_Model_go 263 = .ok (.goto 139, 3) := by decide +kernel
theorem d_Model_go_266 : decode b_Model_go 266 = .ok (.iload 10, 2) := by decide +kernel
theorem d_Model_go_268 : decode b_Model_go 268 = .ok (.iconst 2, 1) := by decide +kernel
theorem d_Model_go_269 : decode b_Model_go 269 = .ok (.bipush 11, 2) := by decide +kernel
theorem d_Model_go_271 : decode b_Model_go 271 = .ok (.invokestatic 102, 3) := by decide +kernel
theorem d_Model_go_274 : decode b_Model_go 274 = .ok (.ifCond .eq 72, 3) := by decide +kernel
theorem d_Model_go_277 : decode b_Model_go 277 = .ok (.iinc 7 (-1), 3) := by decide +kernel
theorem d_Model_go_280 : decode b_Model_go 280 = .ok (.aload_n 0, 1) := by decide +kernel
theorem d_Model_go_281 : decode b_Model_go 281 = .ok (.getfield 77, 3) := by decide +kernel
theorem d_Model_go_284 : decode b_Model_go 284 = .ok (.iload 7, 2) := by decide +kernel
theorem d_Model_go_286 : decode b_Model_go 286 = .ok (.iconst 1, 1) := by decide +kernel
theorem d_Model_go_287 : decode b_Model_go 287 = .ok (.isub, 1) := by decide +kernel
theorem d_Model_go_288 : decode b_Model_go 288 = .ok (.iaload, 1) := by decide +kernel
theorem d_Model_go_289 : decode b_Model_go 289 = .ok (.istore 12, 2) := by decide +kernel
theorem d_Model_go_291 : decode b_Model_go 291 = .ok (.aload_n 0, 1) := by decide +kernel
theorem d_Model_go_292 : decode b_Model_go 292 = .ok (.getfield 77, 3) := by decide +kernel
theorem d_Model_go_295 : decode b_Model_go 295 = .ok (.iload 7, 2) := by decide +kernel
theorem d_Model_go_297 : decode b_Model_go 297 = .ok (.iaload, 1) := by decide +kernel
theorem d_Model_go_298 : decode b_Model_go 298 = .ok (.istore 13, 2) := by decide +kernel
theorem d_Model_go_300 : decode b_Model_go 300 = .ok (.iload 10, 2) := by decide +kernel
theorem d_Model_go_302 : decode b_Model_go 302 = .ok (.iconst 5, 1) := by decide +kernel
theorem d_Model_go_303 : decode b_Model_go 303 = .ok (.if_icmp .eq 10, 3) := by decide +kernel
theorem d_Model_go_306 : decode b_Model_go 306 = .ok (.iload 10, 2) := by decide +kernel
theorem d_Model_go_308 : decode b_Model_go 308 = .ok (.bipush 6, 2) := by decide +kernel
theorem d_Model_go_310 : decode b_Model_go 310 = .ok (.if_icmp .ne 15, 3) := by decide +kernel
theorem d_Model_go_313 : decode b_Model_go 313 = .ok (.iload 13, 2) := by decide +kernel
theorem d_Model_go_315 : decode b_Model_go 315 = .ok (.ifCond .ne 10, 3) := by decide +kernel
theorem d_Model_go_318 : decode b_Model_go 318 = .ok (.aload_n 0, 1) := by decide +kernel
theorem d_Model_go_319 : decode b_Model_go 319 = .ok (.iconst 2, 1) := by decide +kernel
theorem d_Model_go_320 : decode b_Model_go 320 = .ok (.putfield 155, 3) := by decide +kernel
theorem d_Model_go_323 : decode b_Model_go 323 = .ok (.iconst 0, 1) := by decide +kernel
theorem d_Model_go_324 : decode b_Model_go 324 = .ok (.ireturn, 1) := by decide +kernel
theorem d_Model_go_325 : decode b_Model_go 325 = .ok (.aload_n 0, 1) := by decide +kernel
theorem d_Model_go_326 : decode b_Model_go 326 = .ok (.getfield 77, 3) := by decide +kernel
theorem d_Model_go_329 : decode b_Model_go 329 = .ok (.iload 7, 2) := by decide +kernel
theorem d_Model_go_331 : decode b_Model_go 331 = .ok (.iconst 1, 1) := by decide +kernel
theorem d_Model_go_332 : decode b_Model_go 332 = .ok (.isub, 1) := by decide +kernel
theorem d_Model_go_333 : decode b_Model_go 333 = .ok (.iload 10, 2) := by decide +kernel
theorem d_Model_go_335 : decode b_Model_go 335 = .ok (.iload 12, 2) := by decide +kernel
theorem d_Model_go_337 : decode b_Model_go 337 = .ok (.iload 13, 2) := by decide +kernel
theorem d_Model_go_339 : decode b_Model_go 339 = .ok (.invokestatic 158, 3) := by decide +kernel
theorem d_Model_go_342 : decode b_Model_go 342 = .ok (.iastore, 1) := by decide +kernel
theorem d_Model_go_343 : decode b_Model_go 343 = .ok (.goto 59, 3) := by decide +kernel
theorem d_Model_go_346 : decode b_Model_go 346 = .ok (.iload 10, 2) := by decide +kernel
theorem d_Model_go_348 : decode b_Model_go 348 = .ok (.bipush 14, 2) := by decide +kernel
theorem d_Model_go_350 : decode b_Model_go 350 = .ok (.if_icmp .ne 38, 3) := by decide +kernel
theorem d_Model_go_353 : decode b_Model_go 353 = .ok (.iinc 7 (-1), 3) := by decide +kernel
theorem d_Model_go_356 : decode b_Model_go 356 = .ok (.iload 11, 2) := by decide +kernel
theorem d_Model_go_358 : decode b_Model_go 358 = .ok (.aload_n 0, 1) := by decide +kernel
theorem d_Model_go_359 : decode b_Model_go 359 = .ok (.getfield 77, 3) := by decide +kernel
theorem d_Model_go_362 : decode b_Model_go 362 = .ok (.iload 7, 2) := by decide +kernel
theorem d_Model_go_364 : decode b_Model_go 364 = .ok (.iaload, 1) := by decide +kernel
theorem d_Model_go_365 : decode b_Model_go 365 = .ok (.invokestatic 162, 3) := by decide +kernel
theorem d_Model_go_368 : decode b_Model_go 368 = .ok (.ifCond .ne 34, 3) := by decide +kernel
theorem d_Model_go_371 : decode b_Model_go 371 = .ok (.aload_n 0, 1) := by decide +kernel
theorem d_Model_go_372 : decode b_Model_go 372 = .ok (.getfield 83, 3) := by decide +kernel
theorem d_Model_go_375 : decode b_Model_go 375 = .ok (.iload 6, 2) := by decide +kernel
theorem d_Model_go_377 : decode b_Model_go 377 = .ok (.aload_n 0, 1) := by decide +kernel
theorem d_Model_go_378 : decode b_Model_go 378 = .ok (.getfield 34, 3) := by decide +kernel
theorem d_Model_go_381 : decode b_Model_go 381 = .ok (.iload 9, 2) := by decide +kernel
theorem d_Model_go_383 : decode b_Model_go 383 = .ok (.iaload, 1) := by decide +kernel
theorem d_Model_go_384 : decode b_Model_go 384 = .ok (.iastore, 1) := by decide +kernel
theorem d_Model_go_385 : decode b_Model_go 385 = .ok (.goto 17, 3) := by decide +kernel
theorem d_Model_go_388 : decode b_Model_go 388 = .ok (.aload_n 0, 1) := by decide +kernel
theorem d_Model_go_389 : decode b_Model_go 389 = .ok (.iload 10, 2) := by decide +kernel
theorem d_Model_go_391 : decode b_Model_go 391 = .ok (.iload 11, 2) := by decide +kernel
theorem d_Model_go_393 : decode b_Model_go 393 = .ok (.iload 6, 2) := by decide +kernel
theorem d_Model_go_395 : decode b_Model_go 395 = .ok (.iload 7, 2) := by decide +kernel
theorem d_Model_go_397 : decode b_Model_go 397 = .ok (.invokevirtual 165, 3) := by decide +kernel
theorem d_Model_go_400 : decode b_Model_go 400 = .ok (.istore 7, 2) := by decide +kernel
theorem d_Model_go_402 : decode b_Model_go 402 = .ok (.goto (-376), 3) := by decide +kernel
abbrev b_Model_compute : ByteArray := prog_14_method_21_code
abbrev J_Model_compute : MethodName × ByteArray × Nat × Option FieldType := (⟨"FaslDeskModel", "compute", "(III)I"⟩, b_Model_compute, 3, (some .int))
theorem d_Model_compute_0 : decode b_Model_compute 0 = .ok (.iload_n 0, 1) := by decide +kernel
theorem d_Model_compute_1 : decode b_Model_compute 1 = .ok (.tableswitch 87 2 10 #[51, 55, 59, 63, 67, 71, 75, 79, 83], 51) := by decide +kernel
theorem d_Model_compute_52 : decode b_Model_compute 52 = .ok (.iload_n 1, 1) := by decide +kernel
theorem d_Model_compute_53 : decode b_Model_compute 53 = .ok (.iload_n 2, 1) := by decide +kernel
theorem d_Model_compute_54 : decode b_Model_compute 54 = .ok (.iadd, 1) := by decide +kernel
theorem d_Model_compute_55 : decode b_Model_compute 55 = .ok (.ireturn, 1) := by decide +kernel
theorem d_Model_compute_56 : decode b_Model_compute 56 = .ok (.iload_n 1, 1) := by decide +kernel
theorem d_Model_compute_57 : decode b_Model_compute 57 = .ok (.iload_n 2, 1) := by decide +kernel
theorem d_Model_compute_58 : decode b_Model_compute 58 = .ok (.isub, 1) := by decide +kernel
theorem d_Model_compute_59 : decode b_Model_compute 59 = .ok (.ireturn, 1) := by decide +kernel
theorem d_Model_compute_60 : decode b_Model_compute 60 = .ok (.iload_n 1, 1) := by decide +kernel
theorem d_Model_compute_61 : decode b_Model_compute 61 = .ok (.iload_n 2, 1) := by decide +kernel
theorem d_Model_compute_62 : decode b_Model_compute 62 = .ok (.imul, 1) := by decide +kernel
theorem d_Model_compute_63 : decode b_Model_compute 63 = .ok (.ireturn, 1) := by decide +kernel
theorem d_Model_compute_64 : decode b_Model_compute 64 = .ok (.iload_n 1, 1) := by decide +kernel
theorem d_Model_compute_65 : decode b_Model_compute 65 = .ok (.iload_n 2, 1) := by decide +kernel
theorem d_Model_compute_66 : decode b_Model_compute 66 = .ok (.idiv, 1) := by decide +kernel
theorem d_Model_compute_67 : decode b_Model_compute 67 = .ok (.ireturn, 1) := by decide +kernel
theorem d_Model_compute_68 : decode b_Model_compute 68 = .ok (.iload_n 1, 1) := by decide +kernel
theorem d_Model_compute_69 : decode b_Model_compute 69 = .ok (.iload_n 2, 1) := by decide +kernel
theorem d_Model_compute_70 : decode b_Model_compute 70 = .ok (.irem, 1) := by decide +kernel
theorem d_Model_compute_71 : decode b_Model_compute 71 = .ok (.ireturn, 1) := by decide +kernel
theorem d_Model_compute_72 : decode b_Model_compute 72 = .ok (.iload_n 1, 1) := by decide +kernel
theorem d_Model_compute_73 : decode b_Model_compute 73 = .ok (.iload_n 2, 1) := by decide +kernel
theorem d_Model_compute_74 : decode b_Model_compute 74 = .ok (.iand, 1) := by decide +kernel
theorem d_Model_compute_75 : decode b_Model_compute 75 = .ok (.ireturn, 1) := by decide +kernel
theorem d_Model_compute_76 : decode b_Model_compute 76 = .ok (.iload_n 1, 1) := by decide +kernel
theorem d_Model_compute_77 : decode b_Model_compute 77 = .ok (.iload_n 2, 1) := by decide +kernel
theorem d_Model_compute_78 : decode b_Model_compute 78 = .ok (.ior, 1) := by decide +kernel
theorem d_Model_compute_79 : decode b_Model_compute 79 = .ok (.ireturn, 1) := by decide +kernel
theorem d_Model_compute_80 : decode b_Model_compute 80 = .ok (.iload_n 1, 1) := by decide +kernel
theorem d_Model_compute_81 : decode b_Model_compute 81 = .ok (.iload_n 2, 1) := by decide +kernel
theorem d_Model_compute_82 : decode b_Model_compute 82 = .ok (.ixor, 1) := by decide +kernel
theorem d_Model_compute_83 : decode b_Model_compute 83 = .ok (.ireturn, 1) := by decide +kernel
theorem d_Model_compute_84 : decode b_Model_compute 84 = .ok (.iload_n 1, 1) := by decide +kernel
theorem d_Model_compute_85 : decode b_Model_compute 85 = .ok (.iload_n 2, 1) := by decide +kernel
theorem d_Model_compute_86 : decode b_Model_compute 86 = .ok (.ishl, 1) := by decide +kernel
theorem d_Model_compute_87 : decode b_Model_compute 87 = .ok (.ireturn, 1) := by decide +kernel
theorem d_Model_compute_88 : decode b_Model_compute 88 = .ok (.iload_n 1, 1) := by decide +kernel
theorem d_Model_compute_89 : decode b_Model_compute 89 = .ok (.iload_n 2, 1) := by decide +kernel
theorem d_Model_compute_90 : decode b_Model_compute 90 = .ok (.ishr, 1) := by decide +kernel
theorem d_Model_compute_91 : decode b_Model_compute 91 = .ok (.ireturn, 1) := by decide +kernel
abbrev b_Model_simple : ByteArray := prog_14_method_22_code
abbrev J_Model_simple : MethodName × ByteArray × Nat × Option FieldType := (⟨"FaslDeskModel", "simple", "(IIII)I"⟩, b_Model_simple, 6, (some .int))
theorem d_Model_simple_0 : decode b_Model_simple 0 = .ok (.iload_n 1, 1) := by decide +kernel
theorem d_Model_simple_1 : decode b_Model_simple 1 = .ok (.tableswitch 261 0 20 #[99, 112, 261, 261, 261, 261, 261, 261, 261, 261, 261, 261, 135, 157, 261, 182, 261, 261, 192, 197, 218], 99) := by decide +kernel
theorem d_Model_simple_100 : decode b_Model_simple 100 = .ok (.aload_n 0, 1) := by decide +kernel
theorem d_Model_simple_101 : decode b_Model_simple 101 = .ok (.getfield 77, 3) := by decide +kernel
theorem d_Model_simple_104 : decode b_Model_simple 104 = .ok (.iload 4, 2) := by decide +kernel
theorem d_Model_simple_106 : decode b_Model_simple 106 = .ok (.iload_n 2, 1) := by decide +kernel
theorem d_Model_simple_107 : decode b_Model_simple 107 = .ok (.iastore, 1) := by decide +kernel
theorem d_Model_simple_108 : decode b_Model_simple 108 = .ok (.iload 4, 2) := by decide +kernel
theorem d_Model_simple_110 : decode b_Model_simple 110 = .ok (.iconst 1, 1) := by decide +kernel
theorem d_Model_simple_111 : decode b_Model_simple 111 = .ok (.iadd, 1) := by decide +kernel
theorem d_Model_simple_112 : decode b_Model_simple 112 = .ok (.ireturn, 1) := by decide +kernel
theorem d_Model_simple_113 : decode b_Model_simple 113 = .ok (.aload_n 0, 1) := by decide +kernel
theorem d_Model_simple_114 : decode b_Model_simple 114 = .ok (.getfield 77, 3) := by decide +kernel
theorem d_Model_simple_117 : decode b_Model_simple 117 = .ok (.iload 4, 2) := by decide +kernel
theorem d_Model_simple_119 : decode b_Model_simple 119 = .ok (.aload_n 0, 1) := by decide +kernel
theorem d_Model_simple_120 : decode b_Model_simple 120 = .ok (.getfield 80, 3) := by decide +kernel
theorem d_Model_simple_123 : decode b_Model_simple 123 = .ok (.bipush 7, 2) := by decide +kernel
theorem d_Model_simple_125 : decode b_Model_simple 125 = .ok (.iload_n 3, 1) := by decide +kernel
theorem d_Model_simple_126 : decode b_Model_simple 126 = .ok (.imul, 1) := by decide +kernel
theorem d_Model_simple_127 : decode b_Model_simple 127 = .ok (.iload_n 2, 1) := by decide +kernel
theorem d_Model_simple_128 : decode b_Model_simple 128 = .ok (.iadd, 1) := by decide +kernel
theorem d_Model_simple_129 : decode b_Model_simple 129 = .ok (.iaload, 1) := by decide +kernel
theorem d_Model_simple_130 : decode b_Model_simple 130 = .ok (.iastore, 1) := by decide +kernel
theorem d_Model_simple_131 : decode b_Model_simple 131 = .ok (.iload 4, 2) := by decide +kernel
theorem d_Model_simple_133 : decode b_Model_simple 133 = .ok (.iconst 1, 1) := by decide +kernel
theorem d_Model_simple_134 : decode b_Model_simple 134 = .ok (.iadd, 1) := by decide +kernel
theorem d_Model_simple_135 : decode b_Model_simple 135 = .ok (.ireturn, 1) := by decide +kernel
theorem d_Model_simple_136 : decode b_Model_simple 136 = .ok (.aload_n 0, 1) := by decide +kernel
theorem d_Model_simple_137 : decode b_Model_simple 137 = .ok (.getfield 77, 3) := by decide +kernel
theorem d_Model_simple_140 : decode b_Model_simple 140 = .ok (.iload 4, 2) := by decide +kernel
theorem d_Model_simple_142 : decode b_Model_simple 142 = .ok (.iconst 1, 1) := by decide +kernel
theorem d_Model_simple_143 : decode b_Model_simple 143 = .ok (.isub, 1) := by decide +kernel
theorem d_Model_simple_144 : decode b_Model_simple 144 = .ok (.aload_n 0, 1) := by decide +kernel
theorem d_Model_simple_145 : decode b_Model_simple 145 = .ok (.getfield 77, 3) := by decide +kernel
theorem d_Model_simple_148 : decode b_Model_simple 148 = .ok (.iload 4, 2) := by decide +kernel
theorem d_Model_simple_150 : decode b_Model_simple 150 = .ok (.iconst 1, 1) := by decide +kernel
theorem d_Model_simple_151 : decode b_Model_simple 151 = .ok (.isub, 1) := by decide +kernel
theorem d_Model_simple_152 : decode b_Model_simple 152 = .ok (.iaload, 1) := by decide +kernel
theorem d_Model_simple_153 : decode b_Model_simple 153 = .ok (.ineg, 1) := by decide +kernel
theorem d_Model_simple_154 : decode b_Model_simple 154 = .ok (.iastore, 1) := by decide +kernel
theorem d_Model_simple_155 : decode b_Model_simple 155 = .ok (.iload 4, 2) := by decide +kernel
theorem d_Model_simple_157 : decode b_Model_simple 157 = .ok (.ireturn, 1) := by decide +kernel
theorem d_Model_simple_158 : decode b_Model_simple 158 = .ok (.aload_n 0, 1) := by decide +kernel
theorem d_Model_simple_159 : decode b_Model_simple 159 = .ok (.getfield 80, 3) := by decide +kernel
theorem d_Model_simple_162 : decode b_Model_simple 162 = .ok (.bipush 7, 2) := by decide +kernel
theorem d_Model_simple_164 : decode b_Model_simple 164 = .ok (.iload_n 3, 1) := by decide +kernel
theorem d_Model_simple_165 : decode b_Model_simple 165 = .ok (.imul, 1) := by decide +kernel
theorem d_Model_simple_166 : decode b_Model_simple 166 = .ok (.iload_n 2, 1) := by decide +kernel
theorem d_Model_simple_167 : decode b_Model_simple 167 = .ok (.iadd, 1) := by decide +kernel
theorem d_Model_simple_168 : decode b_Model_simple 168 = .ok (.aload_n 0, 1) := by decide +kernel
theorem d_Model_simple_169 : decode b_Model_simple 169 = .ok (.getfield 77, 3) := by decide +kernel
theorem d_Model_simple_172 : decode b_Model_simple 172 = .ok (.iload 4, 2) := by decide +kernel
theorem d_Model_simple_174 : decode b_Model_simple 174 = .ok (.iconst 1, 1) := by decide +kernel
theorem d_Model_simple_175 : decode b_Model_simple 175 = .ok (.isub, 1) := by decide +kernel
theorem d_Model_simple_176 : decode b_Model_simple 176 = .ok (.iaload, 1) := by decide +kernel
theorem d_Model_simple_177 : decode b_Model_simple 177 = .ok (.iastore, 1) := by decide +kernel
theorem d_Model_simple_178 : decode b_Model_simple 178 = .ok (.iload 4, 2) := by decide +kernel
theorem d_Model_simple_180 : decode b_Model_simple 180 = .ok (.iconst 1, 1) := by decide +kernel
theorem d_Model_simple_181 : decode b_Model_simple 181 = .ok (.isub, 1) := by decide +kernel
theorem d_Model_simple_182 : decode b_Model_simple 182 = .ok (.ireturn, 1) := by decide +kernel
theorem d_Model_simple_183 : decode b_Model_simple 183 = .ok (.aload_n 0, 1) := by decide +kernel
theorem d_Model_simple_184 : decode b_Model_simple 184 = .ok (.getfield 83, 3) := by decide +kernel
theorem d_Model_simple_187 : decode b_Model_simple 187 = .ok (.iload_n 3, 1) := by decide +kernel
theorem d_Model_simple_188 : decode b_Model_simple 188 = .ok (.iload_n 2, 1) := by decide +kernel
theorem d_Model_simple_189 : decode b_Model_simple 189 = .ok (.iastore, 1) := by decide +kernel
theorem d_Model_simple_190 : decode b_Model_simple 190 = .ok (.iload 4, 2) := by decide +kernel
theorem d_Model_simple_192 : decode b_Model_simple 192 = .ok (.ireturn, 1) := by decide +kernel
theorem d_Model_simple_193 : decode b_Model_simple 193 = .ok (.iload 4, 2) := by decide +kernel
theorem d_Model_simple_195 : decode b_Model_simple 195 = .ok (.iconst 1, 1) := by decide +kernel
theorem d_Model_simple_196 : decode b_Model_simple 196 = .ok (.isub, 1) := by decide +kernel
theorem d_Model_simple_197 : decode b_Model_simple 197 = .ok (.ireturn, 1) := by decide +kernel
theorem d_Model_simple_198 : decode b_Model_simple 198 = .ok (.aload_n 0, 1) := by decide +kernel
theorem d_Model_simple_199 : decode b_Model_simple 199 = .ok (.getfield 77, 3) := by decide +kernel
theorem d_Model_simple_202 : decode b_Model_simple 202 = .ok (.iload 4, 2) := by decide +kernel
theorem d_Model_simple_204 : decode b_Model_simple 204 = .ok (.aload_n 0, 1) := by decide +kernel
theorem d_Model_simple_205 : decode b_Model_simple 205 = .ok (.getfield 77, 3) := by decide +kernel
theorem d_Model_simple_208 : decode b_Model_simple 208 = .ok (.iload 4, 2) := by decide +kernel
theorem d_Model_simple_210 : decode b_Model_simple 210 = .ok (.iconst 1, 1) := by decide +kernel
theorem d_Model_simple_211 : decode b_Model_simple 211 = .ok (.isub, 1) := by decide +kernel
theorem d_Model_simple_212 : decode b_Model_simple 212 = .ok (.iaload, 1) := by decide +kernel
theorem d_Model_simple_213 : decode b_Model_simple 213 = .ok (.iastore, 1) := by decide +kernel
theorem d_Model_simple_214 : decode b_Model_simple 214 = .ok (.iload 4, 2) := by decide +kernel
theorem d_Model_simple_216 : decode b_Model_simple 216 = .ok (.iconst 1, 1) := by decide +kernel
theorem d_Model_simple_217 : decode b_Model_simple 217 = .ok (.iadd, 1) := by decide +kernel
theorem d_Model_simple_218 : decode b_Model_simple 218 = .ok (.ireturn, 1) := by decide +kernel
theorem d_Model_simple_219 : decode b_Model_simple 219 = .ok (.aload_n 0, 1) := by decide +kernel
theorem d_Model_simple_220 : decode b_Model_simple 220 = .ok (.getfield 77, 3) := by decide +kernel
theorem d_Model_simple_223 : decode b_Model_simple 223 = .ok (.iload 4, 2) := by decide +kernel
theorem d_Model_simple_225 : decode b_Model_simple 225 = .ok (.iconst 1, 1) := by decide +kernel
theorem d_Model_simple_226 : decode b_Model_simple 226 = .ok (.isub, 1) := by decide +kernel
theorem d_Model_simple_227 : decode b_Model_simple 227 = .ok (.iaload, 1) := by decide +kernel
theorem d_Model_simple_228 : decode b_Model_simple 228 = .ok (.istore 5, 2) := by decide +kernel
theorem d_Model_simple_230 : decode b_Model_simple 230 = .ok (.aload_n 0, 1) := by decide +kernel
theorem d_Model_simple_231 : decode b_Model_simple 231 = .ok (.getfield 77, 3) := by decide +kernel
theorem d_Model_simple_234 : decode b_Model_simple 234 = .ok (.iload 4, 2) := by decide +kernel
theorem d_Model_simple_236 : decode b_Model_simple 236 = .ok (.iconst 1, 1) := by decide +kernel
theorem d_Model_simple_237 : decode b_Model_simple 237 = .ok (.isub, 1) := by decide +kernel
theorem d_Model_simple_238 : decode b_Model_simple 238 = .ok (.aload_n 0, 1) := by decide +kernel
theorem d_Model_simple_239 : decode b_Model_simple 239 = .ok (.getfield 77, 3) := by decide +kernel
theorem d_Model_simple_242 : decode b_Model_simple 242 = .ok (.iload 4, 2) := by decide +kernel
theorem d_Model_simple_244 : decode b_Model_simple 244 = .ok (.iconst 2, 1) := by decide +kernel
theorem d_Model_simple_245 : decode b_Model_simple 245 = .ok (.isub, 1) := by decide +kernel
theorem d_Model_simple_246 : decode b_Model_simple 246 = .ok (.iaload, 1) := by decide +kernel
theorem d_Model_simple_247 : decode b_Model_simple 247 = .ok (.iastore, 1) := by decide +kernel
theorem d_Model_simple_248 : decode b_Model_simple 248 = .ok (.aload_n 0, 1) := by decide +kernel
theorem d_Model_simple_249 : decode b_Model_simple 249 = .ok (.getfield 77, 3) := by decide +kernel
theorem d_Model_simple_252 : decode b_Model_simple 252 = .ok (.iload 4, 2) := by decide +kernel
theorem d_Model_simple_254 : decode b_Model_simple 254 = .ok (.iconst 2, 1) := by decide +kernel
theorem d_Model_simple_255 : decode b_Model_simple 255 = .ok (.isub, 1) := by decide +kernel
theorem d_Model_simple_256 : decode b_Model_simple 256 = .ok (.iload 5, 2) := by decide +kernel
theorem d_Model_simple_258 : decode b_Model_simple 258 = .ok (.iastore, 1) := by decide +kernel
theorem d_Model_simple_259 : decode b_Model_simple 259 = .ok (.iload 4, 2) := by decide +kernel
theorem d_Model_simple_261 : decode b_Model_simple 261 = .ok (.ireturn, 1) := by decide +kernel
theorem d_Model_simple_262 : decode b_Model_simple 262 = .ok (.iload 4, 2) := by decide +kernel
theorem d_Model_simple_264 : decode b_Model_simple 264 = .ok (.ireturn, 1) := by decide +kernel
abbrev b_Model_interpret : ByteArray := prog_14_method_23_code
abbrev J_Model_interpret : MethodName × ByteArray × Nat × Option FieldType := (⟨"FaslDeskModel", "interpret", "(IIII)I"⟩, b_Model_interpret, 5, (some .int))
theorem d_Model_interpret_0 : decode b_Model_interpret 0 = .ok (.aload_n 0, 1) := by decide +kernel
theorem d_Model_interpret_1 : decode b_Model_interpret 1 = .ok (.iconst 0, 1) := by decide +kernel
theorem d_Model_interpret_2 : decode b_Model_interpret 2 = .ok (.putfield 155, 3) := by decide +kernel
theorem d_Model_interpret_5 : decode b_Model_interpret 5 = .ok (.iload_n 1, 1) := by decide +kernel
theorem d_Model_interpret_6 : decode b_Model_interpret 6 = .ok (.iconst 0, 1) := by decide +kernel
theorem d_Model_interpret_7 : decode b_Model_interpret 7 = .ok (.bipush 7, 2) := by decide +kernel
theorem d_Model_interpret_9 : decode b_Model_interpret 9 = .ok (.invokestatic 102, 3) := by decide +kernel
theorem d_Model_interpret_12 : decode b_Model_interpret 12 = .ok (.ifCond .eq 28, 3) := by decide +kernel
theorem d_Model_interpret_15 : decode b_Model_interpret 15 = .ok (.aload_n 0, 1) := by decide +kernel
theorem d_Model_interpret_16 : decode b_Model_interpret 16 = .ok (.getfield 16, 3) := by decide +kernel
theorem d_Model_interpret_19 : decode b_Model_interpret 19 = .ok (.iload_n 1, 1) := by decide +kernel
theorem d_Model_interpret_20 : decode b_Model_interpret 20 = .ok (.iaload, 1) := by decide +kernel
theorem d_Model_interpret_21 : decode b_Model_interpret 21 = .ok (.ifCond .le 19, 3) := by decide +kernel
theorem d_Model_interpret_24 : decode b_Model_interpret 24 = .ok (.aload_n 0, 1) := by decide +kernel
theorem d_Model_interpret_25 : decode b_Model_interpret 25 = .ok (.iload_n 1, 1) := by decide +kernel
theorem d_Model_interpret_26 : decode b_Model_interpret 26 = .ok (.aload_n 0, 1) := by decide +kernel
theorem d_Model_interpret_27 : decode b_Model_interpret 27 = .ok (.getfield 19, 3) := by decide +kernel
theorem d_Model_interpret_30 : decode b_Model_interpret 30 = .ok (.iload_n 1, 1) := by decide +kernel
theorem d_Model_interpret_31 : decode b_Model_interpret 31 = .ok (.iaload, 1) := by decide +kernel
theorem d_Model_interpret_32 : decode b_Model_interpret 32 = .ok (.iload_n 2, 1) := by decide +kernel
theorem d_Model_interpret_33 : decode b_Model_interpret 33 = .ok (.iload_n 3, 1) := by decide +kernel
theorem d_Model_interpret_34 : decode b_Model_interpret 34 = .ok (.iload 4, 2) := by decide +kernel
theorem d_Model_interpret_36 : decode b_Model_interpret 36 = .ok (.invokevirtual 168, 3) := by decide +kernel
theorem d_Model_interpret_39 : decode b_Model_interpret 39 = .ok (.ireturn, 1) := by decide +kernel
theorem d_Model_interpret_40 : decode b_Model_interpret 40 = .ok (.aload_n 0, 1) := by decide +kernel
theorem d_Model_interpret_41 : decode b_Model_interpret 41 = .ok (.iconst 1, 1) := by decide +kernel
theorem d_Model_interpret_42 : decode b_Model_interpret 42 = .ok (.putfield 155, 3) := by decide +kernel
theorem d_Model_interpret_45 : decode b_Model_interpret 45 = .ok (.iconst 0, 1) := by decide +kernel
theorem d_Model_interpret_46 : decode b_Model_interpret 46 = .ok (.ireturn, 1) := by decide +kernel
abbrev b_Model_run : ByteArray := prog_14_method_24_code
abbrev J_Model_run : MethodName × ByteArray × Nat × Option FieldType := (⟨"FaslDeskModel", "run", "(IIII)I"⟩, b_Model_run, 5, (some .int))
theorem d_Model_run_0 : decode b_Model_run 0 = .ok (.aload_n 0, 1) := by decide +kernel
theorem d_Model_run_1 : decode b_Model_run 1 = .ok (.iconst 0, 1) := by decide +kernel
theorem d_Model_run_2 : decode b_Model_run 2 = .ok (.putfield 155, 3) := by decide +kernel
theorem d_Model_run_5 : decode b_Model_run 5 = .ok (.iload_n 1, 1) := by decide +kernel
theorem d_Model_run_6 : decode b_Model_run 6 = .ok (.iconst 0, 1) := by decide +kernel
theorem d_Model_run_7 : decode b_Model_run 7 = .ok (.bipush 7, 2) := by decide +kernel
theorem d_Model_run_9 : decode b_Model_run 9 = .ok (.invokestatic 102, 3) := by decide +kernel
theorem d_Model_run_12 : decode b_Model_run 12 = .ok (.ifCond .eq 31, 3) := by decide +kernel
theorem d_Model_run_15 : decode b_Model_run 15 = .ok (.aload_n 0, 1) := by decide +kernel
theorem d_Model_run_16 : decode b_Model_run 16 = .ok (.getfield 50, 3) := by decide +kernel
theorem d_Model_run_19 : decode b_Model_run 19 = .ok (.iload_n 1, 1) := by decide +kernel
theorem d_Model_run_20 : decode b_Model_run 20 = .ok (.baload, 1) := by decide +kernel
theorem d_Model_run_21 : decode b_Model_run 21 = .ok (.ifCond .eq 22, 3) := by decide +kernel
theorem d_Model_run_24 : decode b_Model_run 24 = .ok (.aload_n 0, 1) := by decide +kernel
theorem d_Model_run_25 : decode b_Model_run 25 = .ok (.bipush 16, 2) := by decide +kernel
theorem d_Model_run_27 : decode b_Model_run 27 = .ok (.iload_n 1, 1) := by decide +kernel
theorem d_Model_run_28 : decode b_Model_run 28 = .ok (.iadd, 1) := by decide +kernel
theorem d_Model_run_29 : decode b_Model_run 29 = .ok (.aload_n 0, 1) := by decide +kernel
theorem d_Model_run_30 : decode b_Model_run 30 = .ok (.getfield 74, 3) := by decide +kernel
theorem d_Model_run_33 : decode b_Model_run 33 = .ok (.iload_n 1, 1) := by decide +kernel
theorem d_Model_run_34 : decode b_Model_run 34 = .ok (.iaload, 1) := by decide +kernel
theorem d_Model_run_35 : decode b_Model_run 35 = .ok (.iload_n 2, 1) := by decide +kernel
theorem d_Model_run_36 : decode b_Model_run 36 = .ok (.iload_n 3, 1) := by decide +kernel
theorem d_Model_run_37 : decode b_Model_run 37 = .ok (.iload 4, 2) := by decide +kernel
theorem d_Model_run_39 : decode b_Model_run 39 = .ok (.invokevirtual 168, 3) := by decide +kernel
theorem d_Model_run_42 : decode b_Model_run 42 = .ok (.ireturn, 1) := by decide +kernel
theorem d_Model_run_43 : decode b_Model_run 43 = .ok (.aload_n 0, 1) := by decide +kernel
theorem d_Model_run_44 : decode b_Model_run 44 = .ok (.iconst 1, 1) := by decide +kernel
theorem d_Model_run_45 : decode b_Model_run 45 = .ok (.putfield 155, 3) := by decide +kernel
theorem d_Model_run_48 : decode b_Model_run 48 = .ok (.iconst 0, 1) := by decide +kernel
theorem d_Model_run_49 : decode b_Model_run 49 = .ok (.ireturn, 1) := by decide +kernel
end
section
/-! more decode rows -/
abbrev b_Model_thrown : ByteArray := prog_14_method_25_code
abbrev J_Model_thrown : MethodName × ByteArray × Nat × Option FieldType := (⟨"FaslDeskModel", "thrown", "()I"⟩, b_Model_thrown, 1, (some .int))
theorem d_Model_thrown_0 : decode b_Model_thrown 0 = .ok (.aload_n 0, 1) := by decide +kernel
theorem d_Model_thrown_1 : decode b_Model_thrown 1 = .ok (.getfield 155, 3) := by decide +kernel
theorem d_Model_thrown_4 : decode b_Model_thrown 4 = .ok (.ireturn, 1) := by decide +kernel
abbrev b_Model_copyUnits : ByteArray := prog_14_method_26_code
abbrev J_Model_copyUnits : MethodName × ByteArray × Nat × Option FieldType := (⟨"FaslDeskModel", "copyUnits", "(II)V"⟩, b_Model_copyUnits, 6, none)
theorem d_Model_copyUnits_0 : decode b_Model_copyUnits 0 = .ok (.aload_n 0, 1) := by decide +kernel
theorem d_Model_copyUnits_1 : decode b_Model_copyUnits 1 = .ok (.getfield 37, 3) := by decide +kernel
theorem d_Model_copyUnits_4 : decode b_Model_copyUnits 4 = .ok (.iload_n 1, 1) := by decide +kernel
theorem d_Model_copyUnits_5 : decode b_Model_copyUnits 5 = .ok (.aload_n 0, 1) := by decide +kernel
theorem d_Model_copyUnits_6 : decode b_Model_copyUnits 6 = .ok (.getfield 37, 3) := by decide +kernel
theorem d_Model_copyUnits_9 : decode b_Model_copyUnits 9 = .ok (.iload_n 2, 1) := by decide +kernel
theorem d_Model_copyUnits_10 : decode b_Model_copyUnits 10 = .ok (.iaload, 1) := by decide +kernel
theorem d_Model_copyUnits_11 : decode b_Model_copyUnits 11 = .ok (.iastore, 1) := by decide +kernel
theorem d_Model_copyUnits_12 : decode b_Model_copyUnits 12 = .ok (.aload_n 0, 1) := by decide +kernel
theorem d_Model_copyUnits_13 : decode b_Model_copyUnits 13 = .ok (.getfield 40, 3) := by decide +kernel
theorem d_Model_copyUnits_16 : decode b_Model_copyUnits 16 = .ok (.iload_n 1, 1) := by decide +kernel
theorem d_Model_copyUnits_17 : decode b_Model_copyUnits 17 = .ok (.aload_n 0, 1) := by decide +kernel
theorem d_Model_copyUnits_18 : decode b_Model_copyUnits 18 = .ok (.getfield 40, 3) := by decide +kernel
theorem d_Model_copyUnits_21 : decode b_Model_copyUnits 21 = .ok (.iload_n 2, 1) := by decide +kernel
theorem d_Model_copyUnits_22 : decode b_Model_copyUnits 22 = .ok (.iaload, 1) := by decide +kernel
theorem d_Model_copyUnits_23 : decode b_Model_copyUnits 23 = .ok (.iastore, 1) := by decide +kernel
theorem d_Model_copyUnits_24 : decode b_Model_copyUnits 24 = .ok (.iconst 0, 1) := by decide +kernel
theorem d_Model_copyUnits_25 : decode b_Model_copyUnits 25 = .ok (.istore_n 3, 1) := by decide +kernel
theorem d_Model_copyUnits_26 : decode b_Model_copyUnits 26 = .ok (.iload_n 3, 1) := by decide +kernel
theorem d_Model_copyUnits_27 : decode b_Model_copyUnits 27 = .ok (.aload_n 0, 1) := by decide +kernel
theorem d_Model_copyUnits_28 : decode b_Model_copyUnits 28 = .ok (.getfield 37, 3) := by decide +kernel
theorem d_Model_copyUnits_31 : decode b_Model_copyUnits 31 = .ok (.iload_n 2, 1) := by decide +kernel
theorem d_Model_copyUnits_32 : decode b_Model_copyUnits 32 = .ok (.iaload, 1) := by decide +kernel
theorem d_Model_copyUnits_33 : decode b_Model_copyUnits 33 = .ok (.if_icmp .ge 83, 3) := by decide +kernel
theorem d_Model_copyUnits_36 : decode b_Model_copyUnits 36 = .ok (.sipush 280, 3) := by decide +kernel
theorem d_Model_copyUnits_39 : decode b_Model_copyUnits 39 = .ok (.iload_n 1, 1) := by decide +kernel
theorem d_Model_copyUnits_40 : decode b_Model_copyUnits 40 = .ok (.imul, 1) := by decide +kernel
theorem d_Model_copyUnits_41 : decode b_Model_copyUnits 41 = .ok (.iload_n 3, 1) := by decide +kernel
theorem d_Model_copyUnits_42 : decode b_Model_copyUnits 42 = .ok (.iadd, 1) := by decide +kernel
theorem d_Model_copyUnits_43 : decode b_Model_copyUnits 43 = .ok (.istore 4, 2) := by decide +kernel
theorem d_Model_copyUnits_45 : decode b_Model_copyUnits 45 = .ok (.sipush 280, 3) := by decide +kernel
theorem d_Model_copyUnits_48 : decode b_Model_copyUnits 48 = .ok (.iload_n 2, 1) := by decide +kernel
theorem d_Model_copyUnits_49 : decode b_Model_copyUnits 49 = .ok (.imul, 1) := by decide +kernel
theorem d_Model_copyUnits_50 : decode b_Model_copyUnits 50 = .ok (.iload_n 3, 1) := by decide +kernel
theorem d_Model_copyUnits_51 : decode b_Model_copyUnits 51 = .ok (.iadd, 1) := by decide +kernel
theorem d_Model_copyUnits_52 : decode b_Model_copyUnits 52 = .ok (.istore 5, 2) := by decide +kernel
theorem d_Model_copyUnits_54 : decode b_Model_copyUnits 54 = .ok (.aload_n 0, 1) := by decide +kernel
theorem d_Model_copyUnits_55 : decode b_Model_copyUnits 55 = .ok (.getfield 28, 3) := by decide +kernel
theorem d_Model_copyUnits_58 : decode b_Model_copyUnits 58 = .ok (.iload 4, 2) := by decide +kernel
theorem d_Model_copyUnits_60 : decode b_Model_copyUnits 60 = .ok (.aload_n 0, 1) := by decide +kernel
theorem d_Model_copyUnits_61 : decode b_Model_copyUnits 61 = .ok (.getfield 28, 3) := by decide +kernel
theorem d_Model_copyUnits_64 : decode b_Model_copyUnits 64 = .ok (.iload 5, 2) := by decide +kernel
theorem d_Model_copyUnits_66 : decode b_Model_copyUnits 66 = .ok (.iaload, 1) := by decide +kernel
theorem d_Model_copyUnits_67 : decode b_Model_copyUnits 67 = .ok (.iastore, 1) := by decide +kernel
theorem d_Model_copyUnits_68 : decode b_Model_copyUnits 68 = .ok (.aload_n 0, 1) := by decide +kernel
theorem d_Model_copyUnits_69 : decode b_Model_copyUnits 69 = .ok (.getfield 31, 3) := by decide +kernel
theorem d_Model_copyUnits_72 : decode b_Model_copyUnits 72 = .ok (.iload 4, 2) := by decide +kernel
theorem d_Model_copyUnits_74 : decode b_Model_copyUnits 74 = .ok (.aload_n 0, 1) := by decide +kernel
theorem d_Model_copyUnits_75 : decode b_Model_copyUnits 75 = .ok (.getfield 31, 3) := by decide +kernel
theorem d_Model_copyUnits_78 : decode b_Model_copyUnits 78 = .ok (.iload 5, 2) := by decide +kernel
theorem d_Model_copyUnits_80 : decode b_Model_copyUnits 80 = .ok (.iaload, 1) := by decide +kernel
theorem d_Model_copyUnits_81 : decode b_Model_copyUnits 81 = .ok (.iastore, 1) := by decide +kernel
theorem d_Model_copyUnits_82 : decode b_Model_copyUnits 82 = .ok (.aload_n 0, 1) := by decide +kernel
theorem d_Model_copyUnits_83 : decode b_Model_copyUnits 83 = .ok (.getfield 34, 3) := by decide +kernel
theorem d_Model_copyUnits_86 : decode b_Model_copyUnits 86 = .ok (.iload 4, 2) := by decide +kernel
theorem d_Model_copyUnits_88 : decode b_Model_copyUnits 88 = .ok (.aload_n 0, 1) := by decide +kernel
theorem d_Model_copyUnits_89 : decode b_Model_copyUnits 89 = .ok (.getfield 34, 3) := by decide +kernel
theorem d_Model_copyUnits_92 : decode b_Model_copyUnits 92 = .ok (.iload 5, 2) := by decide +kernel
theorem d_Model_copyUnits_94 : decode b_Model_copyUnits 94 = .ok (.iaload, 1) := by decide +kernel
theorem d_Model_copyUnits_95 : decode b_Model_copyUnits 95 = .ok (.iastore, 1) := by decide +kernel
theorem d_Model_copyUnits_96 : decode b_Model_copyUnits 96 = .ok (.aload_n 0, 1) := by decide +kernel
theorem d_Model_copyUnits_97 : decode b_Model_copyUnits 97 = .ok (.getfield 46, 3) := by decide +kernel
theorem d_Model_copyUnits_100 : decode b_Model_copyUnits 100 = .ok (.iload 4, 2) := by decide +kernel
theorem d_Model_copyUnits_102 : decode b_Model_copyUnits 102 = .ok (.aload_n 0, 1) := by decide +kernel
theorem d_Model_copyUnits_103 : decode b_Model_copyUnits 103 = .ok (.getfield 46, 3) := by decide +kernel
theorem d_Model_copyUnits_106 : decode b_Model_copyUnits 106 = .ok (.iload 5, 2) := by decide +kernel
theorem d_Model_copyUnits_108 : decode b_Model_copyUnits 108 = .ok (.baload, 1) := by decide +kernel
theorem d_Model_copyUnits_109 : decode b_Model_copyUnits 109 = .ok (.bastore, 1) := by decide +kernel
theorem d_Model_copyUnits_110 : decode b_Model_copyUnits 110 = .ok (.iinc 3 1, 3) := by decide +kernel
theorem d_Model_copyUnits_113 : decode b_Model_copyUnits 113 = .ok (.goto (-87), 3) := by decide +kernel
theorem d_Model_copyUnits_116 : decode b_Model_copyUnits 116 = .ok (.return_, 1) := by decide +kernel
abbrev b_Model_seal : ByteArray := prog_14_method_27_code
abbrev J_Model_seal : MethodName × ByteArray × Nat × Option FieldType := (⟨"FaslDeskModel", "seal", "(I)V"⟩, b_Model_seal, 3, none)
theorem d_Model_seal_0 : decode b_Model_seal 0 = .ok (.aload_n 0, 1) := by decide +kernel
theorem d_Model_seal_1 : decode b_Model_seal 1 = .ok (.getfield 68, 3) := by decide +kernel
theorem d_Model_seal_4 : decode b_Model_seal 4 = .ok (.iload_n 1, 1) := by decide +kernel
theorem d_Model_seal_5 : decode b_Model_seal 5 = .ok (.aload_n 0, 1) := by decide +kernel
theorem d_Model_seal_6 : decode b_Model_seal 6 = .ok (.getfield 59, 3) := by decide +kernel
theorem d_Model_seal_9 : decode b_Model_seal 9 = .ok (.iload_n 1, 1) := by decide +kernel
theorem d_Model_seal_10 : decode b_Model_seal 10 = .ok (.iaload, 1) := by decide +kernel
theorem d_Model_seal_11 : decode b_Model_seal 11 = .ok (.iastore, 1) := by decide +kernel
theorem d_Model_seal_12 : decode b_Model_seal 12 = .ok (.aload_n 0, 1) := by decide +kernel
theorem d_Model_seal_13 : decode b_Model_seal 13 = .ok (.getfield 56, 3) := by decide +kernel
theorem d_Model_seal_16 : decode b_Model_seal 16 = .ok (.iload_n 1, 1) := by decide +kernel
theorem d_Model_seal_17 : decode b_Model_seal 17 = .ok (.aload_n 0, 1) := by decide +kernel
theorem d_Model_seal_18 : decode b_Model_seal 18 = .ok (.getfield 53, 3) := by decide +kernel
theorem d_Model_seal_21 : decode b_Model_seal 21 = .ok (.iload_n 1, 1) := by decide +kernel
theorem d_Model_seal_22 : decode b_Model_seal 22 = .ok (.baload, 1) := by decide +kernel
theorem d_Model_seal_23 : decode b_Model_seal 23 = .ok (.bastore, 1) := by decide +kernel
theorem d_Model_seal_24 : decode b_Model_seal 24 = .ok (.iconst 0, 1) := by decide +kernel
theorem d_Model_seal_25 : decode b_Model_seal 25 = .ok (.istore_n 2, 1) := by decide +kernel
theorem d_Model_seal_26 : decode b_Model_seal 26 = .ok (.iload_n 2, 1) := by decide +kernel
theorem d_Model_seal_27 : decode b_Model_seal 27 = .ok (.aload_n 0, 1) := by decide +kernel
theorem d_Model_seal_28 : decode b_Model_seal 28 = .ok (.getfield 37, 3) := by decide +kernel
theorem d_Model_seal_31 : decode b_Model_seal 31 = .ok (.bipush 8, 2) := by decide +kernel
theorem d_Model_seal_33 : decode b_Model_seal 33 = .ok (.iload_n 1, 1) := by decide +kernel
theorem d_Model_seal_34 : decode b_Model_seal 34 = .ok (.iadd, 1) := by decide +kernel
theorem d_Model_seal_35 : decode b_Model_seal 35 = .ok (.iaload, 1) := by decide +kernel
theorem d_Model_seal_36 : decode b_Model_seal 36 = .ok (.if_icmp .ge 36, 3) := by decide +kernel
theorem d_Model_seal_39 : decode b_Model_seal 39 = .ok (.aload_n 0, 1) := by decide +kernel
theorem d_Model_seal_40 : decode b_Model_seal 40 = .ok (.getfield 71, 3) := by decide +kernel
theorem d_Model_seal_43 : decode b_Model_seal 43 = .ok (.sipush 280, 3) := by decide +kernel
theorem d_Model_seal_46 : decode b_Model_seal 46 = .ok (.iload_n 1, 1) := by decide +kernel
theorem d_Model_seal_47 : decode b_Model_seal 47 = .ok (.imul, 1) := by decide +kernel
theorem d_Model_seal_48 : decode b_Model_seal 48 = .ok (.iload_n 2, 1) := by decide +kernel
theorem d_Model_seal_49 : decode b_Model_seal 49 = .ok (.iadd, 1) := by decide +kernel
theorem d_Model_seal_50 : decode b_Model_seal 50 = .ok (.aload_n 0, 1) := by decide +kernel
theorem d_Model_seal_51 : decode b_Model_seal 51 = .ok (.getfield 28, 3) := by decide +kernel
theorem d_Model_seal_54 : decode b_Model_seal 54 = .ok (.sipush 280, 3) := by decide +kernel
theorem d_Model_seal_57 : decode b_Model_seal 57 = .ok (.bipush 8, 2) := by decide +kernel
theorem d_Model_seal_59 : decode b_Model_seal 59 = .ok (.iload_n 1, 1) := by decide +kernel
theorem d_Model_seal_60 : decode b_Model_seal 60 = .ok (.iadd, 1) := by decide +kernel
theorem d_Model_seal_61 : decode b_Model_seal 61 = .ok (.imul, 1) := by decide +kernel
theorem d_Model_seal_62 : decode b_Model_seal 62 = .ok (.iload_n 2, 1) := by decide +kernel
theorem d_Model_seal_63 : decode b_Model_seal 63 = .ok (.iadd, 1) := by decide +kernel
theorem d_Model_seal_64 : decode b_Model_seal 64 = .ok (.iaload, 1) := by decide +kernel
theorem d_Model_seal_65 : decode b_Model_seal 65 = .ok (.iastore, 1) := by decide +kernel
theorem d_Model_seal_66 : decode b_Model_seal 66 = .ok (.iinc 2 1, 3) := by decide +kernel
theorem d_Model_seal_69 : decode b_Model_seal 69 = .ok (.goto (-43), 3) := by decide +kernel
theorem d_Model_seal_72 : decode b_Model_seal 72 = .ok (.return_, 1) := by decide +kernel
abbrev b_Model_goes : ByteArray := prog_14_method_28_code
abbrev J_Model_goes : MethodName × ByteArray × Nat × Option FieldType := (⟨"FaslDeskModel", "goes", "(I)Z"⟩, b_Model_goes, 4, (some .boolean))
theorem d_Model_goes_0 : decode b_Model_goes 0 = .ok (.aload_n 0, 1) := by decide +kernel
theorem d_Model_goes_1 : decode b_Model_goes 1 = .ok (.getfield 68, 3) := by decide +kernel
theorem d_Model_goes_4 : decode b_Model_goes 4 = .ok (.iload_n 1, 1) := by decide +kernel
theorem d_Model_goes_5 : decode b_Model_goes 5 = .ok (.iaload, 1) := by decide +kernel
theorem d_Model_goes_6 : decode b_Model_goes 6 = .ok (.aload_n 0, 1) := by decide +kernel
theorem d_Model_goes_7 : decode b_Model_goes 7 = .ok (.getfield 59, 3) := by decide +kernel
theorem d_Model_goes_10 : decode b_Model_goes 10 = .ok (.iload_n 1, 1) := by decide +kernel
theorem d_Model_goes_11 : decode b_Model_goes 11 = .ok (.iaload, 1) := by decide +kernel
theorem d_Model_goes_12 : decode b_Model_goes 12 = .ok (.if_icmp .ne 22, 3) := by decide +kernel
theorem d_Model_goes_15 : decode b_Model_goes 15 = .ok (.aload_n 0, 1) := by decide +kernel
theorem d_Model_goes_16 : decode b_Model_goes 16 = .ok (.getfield 56, 3) := by decide +kernel
theorem d_Model_goes_19 : decode b_Model_goes 19 = .ok (.iload_n 1, 1) := by decide +kernel
theorem d_Model_goes_20 : decode b_Model_goes 20 = .ok (.baload, 1) := by decide +kernel
theorem d_Model_goes_21 : decode b_Model_goes 21 = .ok (.aload_n 0, 1) := by decide +kernel
theorem d_Model_goes_22 : decode b_Model_goes 22 = .ok (.getfield 53, 3) := by decide +kernel
theorem d_Model_goes_25 : decode b_Model_goes 25 = .ok (.iload_n 1, 1) := by decide +kernel
theorem d_Model_goes_26 : decode b_Model_goes 26 = .ok (.baload, 1) := by decide +kernel
theorem d_Model_goes_27 : decode b_Model_goes 27 = .ok (.if_icmp .ne 7, 3) := by decide +kernel
theorem d_Model_goes_30 : decode b_Model_goes 30 = .ok (.iconst 1, 1) := by decide +kernel
theorem d_Model_goes_31 : decode b_Model_goes 31 = .ok (.goto 4, 3) := by decide +kernel
theorem d_Model_goes_34 : decode b_Model_goes 34 = .ok (.iconst 0, 1) := by decide +kernel
theorem d_Model_goes_35 : decode b_Model_goes 35 = .ok (.istore_n 2, 1) := by decide +kernel
theorem d_Model_goes_36 : decode b_Model_goes 36 = .ok (.iconst 0, 1) := by decide +kernel
theorem d_Model_goes_37 : decode b_Model_goes 37 = .ok (.istore_n 3, 1) := by decide +kernel
theorem d_Model_goes_38 : decode b_Model_goes 38 = .ok (.iload_n 3, 1) := by decide +kernel
theorem d_Model_goes_39 : decode b_Model_goes 39 = .ok (.aload_n 0, 1) := by decide +kernel
theorem d_Model_goes_40 : decode b_Model_goes 40 = .ok (.getfield 37, 3) := by decide +kernel
theorem d_Model_goes_43 : decode b_Model_goes 43 = .ok (.bipush 8, 2) := by decide +kernel
theorem d_Model_goes_45 : decode b_Model_goes 45 = .ok (.iload_n 1, 1) := by decide +kernel
theorem d_Model_goes_46 : decode b_Model_goes 46 = .ok (.iadd, 1) := by decide +kernel
theorem d_Model_goes_47 : decode b_Model_goes 47 = .ok (.iaload, 1) := by decide +kernel
theorem d_Model_goes_48 : decode b_Model_goes 48 = .ok (.if_icmp .ge 47, 3) := by decide +kernel
theorem d_Model_goes_51 : decode b_Model_goes 51 = .ok (.iload_n 2, 1) := by decide +kernel
theorem d_Model_goes_52 : decode b_Model_goes 52 = .ok (.aload_n 0, 1) := by decide +kernel
theorem d_Model_goes_53 : decode b_Model_goes 53 = .ok (.getfield 71, 3) := by decide +kernel
theorem d_Model_goes_56 : decode b_Model_goes 56 = .ok (.sipush 280, 3) := by decide +kernel
theorem d_Model_goes_59 : decode b_Model_goes 59 = .ok (.iload_n 1, 1) := by decide +kernel
theorem d_Model_goes_60 : decode b_Model_goes 60 = .ok (.imul, 1) := by decide +kernel
theorem d_Model_goes_61 : decode b_Model_goes 61 = .ok (.iload_n 3, 1) := by decide +kernel
theorem d_Model_goes_62 : decode b_Model_goes 62 = .ok (.iadd, 1) := by decide +kernel
theorem d_Model_goes_63 : decode b_Model_goes 63 = .ok (.iaload, 1) := by decide +kernel
theorem d_Model_goes_64 : decode b_Model_goes 64 = .ok (.aload_n 0, 1) := by decide +kernel
theorem d_Model_goes_65 : decode b_Model_goes 65 = .ok (.getfield 28, 3) := by decide +kernel
theorem d_Model_goes_68 : decode b_Model_goes 68 = .ok (.sipush 280, 3) := by decide +kernel
theorem d_Model_goes_71 : decode b_Model_goes 71 = .ok (.bipush 8, 2) := by decide +kernel
theorem d_Model_goes_73 : decode b_Model_goes 73 = .ok (.iload_n 1, 1) := by decide +kernel
theorem d_Model_goes_74 : decode b_Model_goes 74 = .ok (.iadd, 1) := by decide +kernel
theorem d_Model_goes_75 : decode b_Model_goes 75 = .ok (.imul, 1) := by decide +kernel
theorem d_Model_goes_76 : decode b_Model_goes 76 = .ok (.iload_n 3, 1) := by decide +kernel
theorem d_Model_goes_77 : decode b_Model_goes 77 = .ok (.iadd, 1) := by decide +kernel
theorem d_Model_goes_78 : decode b_Model_goes 78 = .ok (.iaload, 1) := by decide +kernel
theorem d_Model_goes_79 : decode b_Model_goes 79 = .ok (.if_icmp .ne 7, 3) := by decide +kernel
theorem d_Model_goes_82 : decode b_Model_goes 82 = .ok (.iconst 1, 1) := by decide +kernel
theorem d_Model_goes_83 : decode b_Model_goes 83 = .ok (.goto 4, 3) := by decide +kernel
theorem d_Model_goes_86 : decode b_Model_goes 86 = .ok (.iconst 0, 1) := by decide +kernel
theorem d_Model_goes_87 : decode b_Model_goes 87 = .ok (.iand, 1) := by decide +kernel
theorem d_Model_goes_88 : decode b_Model_goes 88 = .ok (.istore_n 2, 1) := by decide +kernel
theorem d_Model_goes_89 : decode b_Model_goes 89 = .ok (.iinc 3 1, 3) := by decide +kernel
theorem d_Model_goes_92 : decode b_Model_goes 92 = .ok (.goto (-54), 3) := by decide +kernel
theorem d_Model_goes_95 : decode b_Model_goes 95 = .ok (.iload_n 2, 1) := by decide +kernel
theorem d_Model_goes_96 : decode b_Model_goes 96 = .ok (.ireturn, 1) := by decide +kernel
abbrev b_Model_compile : ByteArray := prog_14_method_29_code
abbrev J_Model_compile : MethodName × ByteArray × Nat × Option FieldType := (⟨"FaslDeskModel", "compile", "(I)I"⟩, b_Model_compile, 3, (some .int))
theorem d_Model_compile_0 : decode b_Model_compile 0 = .ok (.iload_n 1, 1) := by decide +kernel
theorem d_Model_compile_1 : decode b_Model_compile 1 = .ok (.iconst 0, 1) := by decide +kernel
theorem d_Model_compile_2 : decode b_Model_compile 2 = .ok (.bipush 7, 2) := by decide +kernel
theorem d_Model_compile_4 : decode b_Model_compile 4 = .ok (.invokestatic 102, 3) := by decide +kernel
theorem d_Model_compile_7 : decode b_Model_compile 7 = .ok (.ifCond .eq 12, 3) := by decide +kernel
theorem d_Model_compile_10 : decode b_Model_compile 10 = .ok (.aload_n 0, 1) := by decide +kernel
theorem d_Model_compile_11 : decode b_Model_compile 11 = .ok (.getfield 16, 3) := by decide +kernel
theorem d_Model_compile_14 : decode b_Model_compile 14 = .ok (.iload_n 1, 1) := by decide +kernel
theorem d_Model_compile_15 : decode b_Model_compile 15 = .ok (.iaload, 1) := by decide +kernel
theorem d_Model_compile_16 : decode b_Model_compile 16 = .ok (.ifCond .ne 5, 3) := by decide +kernel
theorem d_Model_compile_19 : decode b_Model_compile 19 = .ok (.iconst (-1), 1) := by decide +kernel
theorem d_Model_compile_20 : decode b_Model_compile 20 = .ok (.ireturn, 1) := by decide +kernel
theorem d_Model_compile_21 : decode b_Model_compile 21 = .ok (.iconst 0, 1) := by decide +kernel
theorem d_Model_compile_22 : decode b_Model_compile 22 = .ok (.istore_n 2, 1) := by decide +kernel
theorem d_Model_compile_23 : decode b_Model_compile 23 = .ok (.iload_n 2, 1) := by decide +kernel
theorem d_Model_compile_24 : decode b_Model_compile 24 = .ok (.aload_n 0, 1) := by decide +kernel
theorem d_Model_compile_25 : decode b_Model_compile 25 = .ok (.getfield 172, 3) := by decide +kernel
theorem d_Model_compile_28 : decode b_Model_compile 28 = .ok (.if_icmp .ge 19, 3) := by decide +kernel
theorem d_Model_compile_31 : decode b_Model_compile 31 = .ok (.aload_n 0, 1) := by decide +kernel
theorem d_Model_compile_32 : decode b_Model_compile 32 = .ok (.getfield 59, 3) := by decide +kernel
theorem d_Model_compile_35 : decode b_Model_compile 35 = .ok (.iload_n 2, 1) := by decide +kernel
theorem d_Model_compile_36 : decode b_Model_compile 36 = .ok (.iaload, 1) := by decide +kernel
theorem d_Model_compile_37 : decode b_Model_compile 37 = .ok (.iload_n 1, 1) := by decide +kernel
theorem d_Model_compile_38 : decode b_Model_compile 38 = .ok (.if_icmp .eq 9, 3) := by decide +kernel
theorem d_Model_compile_41 : decode b_Model_compile 41 = .ok (.iinc 2 1, 3) := by decide +kernel
theorem d_Model_compile_44 : decode b_Model_compile 44 = .ok (.goto (-21), 3) := by decide +kernel
theorem d_Model_compile_47 : decode b_Model_compile 47 = .ok (.iload_n 2, 1) := by decide +kernel
theorem d_Model_compile_48 : decode b_Model_compile 48 = .ok (.bipush 8, 2) := by decide +kernel
theorem d_Model_compile_50 : decode b_Model_compile 50 = .ok (.if_icmp .ne 6, 3) := by decide +kernel
theorem d_Model_compile_53 : decode b_Model_compile 53 = .ok (.bipush (-2), 2) := by decide +kernel
theorem d_Model_compile_55 : decode b_Model_compile 55 = .ok (.ireturn, 1) := by decide +kernel
theorem d_Model_compile_56 : decode b_Model_compile 56 = .ok (.iload_n 2, 1) := by decide +kernel
theorem d_Model_compile_57 : decode b_Model_compile 57 = .ok (.aload_n 0, 1) := by decide +kernel
theorem d_Model_compile_58 : decode b_Model_compile 58 = .ok (.getfield 172, 3) := by decide +kernel
theorem d_Model_compile_61 : decode b_Model_compile 61 = .ok (.if_icmp .ne 13, 3) := by decide +kernel
theorem d_Model_compile_64 : decode b_Model_compile 64 = .ok (.aload_n 0, 1) := by decide +kernel
theorem d_Model_compile_65 : decode b_Model_compile 65 = .ok (.dup, 1) := by decide +kernel
theorem d_Model_compile_66 : decode b_Model_compile 66 = .ok (.getfield 172, 3) := by decide +kernel
theorem d_Model_compile_69 : decode b_Model_compile 69 = .ok (.iconst 1, 1) := by decide +kernel
theorem d_Model_compile_70 : decode b_Model_compile 70 = .ok (.iadd, 1) := by decide +kernel
theorem d_Model_compile_71 : decode b_Model_compile 71 = .ok (.putfield 172, 3) := by decide +kernel
theorem d_Model_compile_74 : decode b_Model_compile 74 = .ok (.aload_n 0, 1) := by decide +kernel
theorem d_Model_compile_75 : decode b_Model_compile 75 = .ok (.getfield 59, 3) := by decide +kernel
theorem d_Model_compile_78 : decode b_Model_compile 78 = .ok (.iload_n 2, 1) := by decide +kernel
theorem d_Model_compile_79 : decode b_Model_compile 79 = .ok (.iload_n 1, 1) := by decide +kernel
theorem d_Model_compile_80 : decode b_Model_compile 80 = .ok (.iastore, 1) := by decide +kernel
theorem d_Model_compile_81 : decode b_Model_compile 81 = .ok (.aload_n 0, 1) := by decide +kernel
theorem d_Model_compile_82 : decode b_Model_compile 82 = .ok (.getfield 65, 3) := by decide +kernel
theorem d_Model_compile_85 : decode b_Model_compile 85 = .ok (.iload_n 2, 1) := by decide +kernel
theorem d_Model_compile_86 : decode b_Model_compile 86 = .ok (.iload_n 1, 1) := by decide +kernel
theorem d_Model_compile_87 : decode b_Model_compile 87 = .ok (.iastore, 1) := by decide +kernel
theorem d_Model_compile_88 : decode b_Model_compile 88 = .ok (.aload_n 0, 1) := by decide +kernel
theorem d_Model_compile_89 : decode b_Model_compile 89 = .ok (.getfield 62, 3) := by decide +kernel
theorem d_Model_compile_92 : decode b_Model_compile 92 = .ok (.iload_n 2, 1) := by decide +kernel
theorem d_Model_compile_93 : decode b_Model_compile 93 = .ok (.aload_n 0, 1) := by decide +kernel
theorem d_Model_compile_94 : decode b_Model_compile 94 = .ok (.getfield 19, 3) := by decide +kernel
theorem d_Model_compile_97 : decode b_Model_compile 97 = .ok (.iload_n 1, 1) := by decide +kernel
theorem d_Model_compile_98 : decode b_Model_compile 98 = .ok (.iaload, 1) := by decide +kernel
theorem d_Model_compile_99 : decode b_Model_compile 99 = .ok (.iastore, 1) := by decide +kernel
theorem d_Model_compile_100 : decode b_Model_compile 100 = .ok (.aload_n 0, 1) := by decide +kernel
theorem d_Model_compile_101 : decode b_Model_compile 101 = .ok (.getfield 53, 3) := by decide +kernel
theorem d_Model_compile_104 : decode b_Model_compile 104 = .ok (.iload_n 2, 1) := by decide +kernel
theorem d_Model_compile_105 : decode b_Model_compile 105 = .ok (.iconst 0, 1) := by decide +kernel
theorem d_Model_compile_106 : decode b_Model_compile 106 = .ok (.bastore, 1) := by decide +kernel
theorem d_Model_compile_107 : decode b_Model_compile 107 = .ok (.aload_n 0, 1) := by decide +kernel
theorem d_Model_compile_108 : decode b_Model_compile 108 = .ok (.bipush 8, 2) := by decide +kernel
theorem d_Model_compile_110 : decode b_Model_compile 110 = .ok (.iload_n 2, 1) := by decide +kernel
theorem d_Model_compile_111 : decode b_Model_compile 111 = .ok (.iadd, 1) := by decide +kernel
theorem d_Model_compile_112 : decode b_Model_compile 112 = .ok (.iload_n 1, 1) := by decide +kernel
theorem d_Model_compile_113 : decode b_Model_compile 113 = .ok (.invokevirtual 175, 3) := by decide +kernel
theorem d_Model_compile_116 : decode b_Model_compile 116 = .ok (.aload_n 0, 1) := by decide +kernel
theorem d_Model_compile_117 : decode b_Model_compile 117 = .ok (.iload_n 2, 1) := by decide +kernel
theorem d_Model_compile_118 : decode b_Model_compile 118 = .ok (.invokevirtual 178, 3) := by decide +kernel
theorem d_Model_compile_121 : decode b_Model_compile 121 = .ok (.aload_n 0, 1) := by decide +kernel
theorem d_Model_compile_122 : decode b_Model_compile 122 = .ok (.aload_n 0, 1) := by decide +kernel
theorem d_Model_compile_123 : decode b_Model_compile 123 = .ok (.getfield 172, 3) := by decide +kernel
theorem d_Model_compile_126 : decode b_Model_compile 126 = .ok (.putfield 181, 3) := by decide +kernel
theorem d_Model_compile_129 : decode b_Model_compile 129 = .ok (.iload_n 2, 1) := by decide +kernel
theorem d_Model_compile_130 : decode b_Model_compile 130 = .ok (.ireturn, 1) := by decide +kernel
abbrev b_Model_damage : ByteArray := prog_14_method_30_code
abbrev J_Model_damage : MethodName × ByteArray × Nat × Option FieldType := (⟨"FaslDeskModel", "damage", "(III)I"⟩, b_Model_damage, 4, (some .int))
theorem d_Model_damage_0 : decode b_Model_damage 0 = .ok (.iload_n 1, 1) := by decide +kernel
theorem d_Model_damage_1 : decode b_Model_damage 1 = .ok (.iconst 0, 1) := by decide +kernel
theorem d_Model_damage_2 : decode b_Model_damage 2 = .ok (.iconst 4, 1) := by decide +kernel
theorem d_Model_damage_3 : decode b_Model_damage 3 = .ok (.invokestatic 102, 3) := by decide +kernel
theorem d_Model_damage_6 : decode b_Model_damage 6 = .ok (.ifCond .eq 56, 3) := by decide +kernel
theorem d_Model_damage_9 : decode b_Model_damage 9 = .ok (.iload_n 1, 1) := by decide +kernel
theorem d_Model_damage_10 : decode b_Model_damage 10 = .ok (.ifCond .eq 8, 3) := by decide +kernel
theorem d_Model_damage_13 : decode b_Model_damage 13 = .ok (.iload_n 1, 1) := by decide +kernel
theorem d_Model_damage_14 : decode b_Model_damage 14 = .ok (.iconst 2, 1) := by decide +kernel
theorem d_Model_damage_15 : decode b_Model_damage 15 = .ok (.if_icmp .ne 13, 3) := by decide +kernel
theorem d_Model_damage_18 : decode b_Model_damage 18 = .ok (.iload_n 3, 1) := by decide +kernel
theorem d_Model_damage_19 : decode b_Model_damage 19 = .ok (.iconst 0, 1) := by decide +kernel
theorem d_Model_damage_20 : decode b_Model_damage 20 = .ok (.bipush 7, 2) := by decide +kernel
theorem d_Model_damage_22 : decode b_Model_damage 22 = .ok (.invokestatic 102, 3) := by decide +kernel
theorem d_Model_damage_25 : decode b_Model_damage 25 = .ok (.ifCond .eq 37, 3) := by decide +kernel
theorem d_Model_damage_28 : decode b_Model_damage 28 = .ok (.iload_n 1, 1) := by decide +kernel
theorem d_Model_damage_29 : decode b_Model_damage 29 = .ok (.iconst 1, 1) := by decide +kernel
theorem d_Model_damage_30 : decode b_Model_damage 30 = .ok (.if_icmp .ne 13, 3) := by decide +kernel
theorem d_Model_damage_33 : decode b_Model_damage 33 = .ok (.iload_n 3, 1) := by decide +kernel
theorem d_Model_damage_34 : decode b_Model_damage 34 = .ok (.iconst 0, 1) := by decide +kernel
theorem d_Model_damage_35 : decode b_Model_damage 35 = .ok (.bipush 9, 2) := by decide +kernel
theorem d_Model_damage_37 : decode b_Model_damage 37 = .ok (.invokestatic 102, 3) := by decide +kernel
theorem d_Model_damage_40 : decode b_Model_damage 40 = .ok (.ifCond .eq 22, 3) := by decide +kernel
theorem d_Model_damage_43 : decode b_Model_damage 43 = .ok (.iload_n 1, 1) := by decide +kernel
theorem d_Model_damage_44 : decode b_Model_damage 44 = .ok (.iconst 1, 1) := by decide +kernel
theorem d_Model_damage_45 : decode b_Model_damage 45 = .ok (.if_icmp .le 19, 3) := by decide +kernel
theorem d_Model_damage_48 : decode b_Model_damage 48 = .ok (.iload_n 2, 1) := by decide +kernel
theorem d_Model_damage_49 : decode b_Model_damage 49 = .ok (.iconst 0, 1) := by decide +kernel
theorem d_Model_damage_50 : decode b_Model_damage 50 = .ok (.aload_n 0, 1) := by decide +kernel
theorem d_Model_damage_51 : decode b_Model_damage 51 = .ok (.getfield 172, 3) := by decide +kernel
theorem d_Model_damage_54 : decode b_Model_damage 54 = .ok (.iconst 1, 1) := by decide +kernel
theorem d_Model_damage_55 : decode b_Model_damage 55 = .ok (.isub, 1) := by decide +kernel
theorem d_Model_damage_56 : decode b_Model_damage 56 = .ok (.invokestatic 102, 3) := by decide +kernel
theorem d_Model_damage_59 : decode b_Model_damage 59 = .ok (.ifCond .ne 5, 3) := by decide +kernel
theorem d_Model_damage_62 : decode b_Model_damage 62 = .ok (.iconst (-1), 1) := by decide +kernel
theorem d_Model_damage_63 : decode b_Model_damage 63 = .ok (.ireturn, 1) := by decide +kernel
theorem d_Model_damage_64 : decode b_Model_damage 64 = .ok (.iload_n 1, 1) := by decide +kernel
theorem d_Model_damage_65 : decode b_Model_damage 65 = .ok (.ifCond .ne 8, 3) := by decide +kernel
theorem d_Model_damage_68 : decode b_Model_damage 68 = .ok (.aload_n 0, 1) := by decide +kernel
theorem d_Model_damage_69 : decode b_Model_damage 69 = .ok (.iload_n 3, 1) := by decide +kernel
theorem d_Model_damage_70 : decode b_Model_damage 70 = .ok (.putfield 184, 3) := by decide +kernel
theorem d_Model_damage_73 : decode b_Model_damage 73 = .ok (.iload_n 1, 1) := by decide +kernel
theorem d_Model_damage_74 : decode b_Model_damage 74 = .ok (.iconst 1, 1) := by decide +kernel
theorem d_Model_damage_75 : decode b_Model_damage 75 = .ok (.if_icmp .ne 8, 3) := by decide +kernel
theorem d_Model_damage_78 : decode b_Model_damage 78 = .ok (.aload_n 0, 1) := by decide +kernel
theorem d_Model_damage_79 : decode b_Model_damage 79 = .ok (.iload_n 3, 1) := by decide +kernel
theorem d_Model_damage_80 : decode b_Model_damage 80 = .ok (.putfield 181, 3) := by decide +kernel
theorem d_Model_damage_83 : decode b_Model_damage 83 = .ok (.iload_n 1, 1) := by decide +kernel
theorem d_Model_damage_84 : decode b_Model_damage 84 = .ok (.iconst 2, 1) := by decide +kernel
theorem d_Model_damage_85 : decode b_Model_damage 85 = .ok (.if_icmp .ne 10, 3) := by decide +kernel
theorem d_Model_damage_88 : decode b_Model_damage 88 = .ok (.aload_n 0, 1) := by decide +kernel
theorem d_Model_damage_89 : decode b_Model_damage 89 = .ok (.getfield 59, 3) := by decide +kernel
theorem d_Model_damage_92 : decode b_Model_damage 92 = .ok (.iload_n 2, 1) := by decide +kernel
theorem d_Model_damage_93 : decode b_Model_damage 93 = .ok (.iload_n 3, 1) := by decide +kernel
theorem d_Model_damage_94 : decode b_Model_damage 94 = .ok (.iastore, 1) := by decide +kernel
theorem d_Model_damage_95 : decode b_Model_damage 95 = .ok (.iload_n 1, 1) := by decide +kernel
theorem d_Model_damage_96 : decode b_Model_damage 96 = .ok (.iconst 3, 1) := by decide +kernel
theorem d_Model_damage_97 : decode b_Model_damage 97 = .ok (.if_icmp .ne 23, 3) := by decide +kernel
theorem d_Model_damage_100 : decode b_Model_damage 100 = .ok (.aload_n 0, 1) := by decide +kernel
theorem d_Model_damage_101 : decode b_Model_damage 101 = .ok (.getfield 53, 3) := by decide +kernel
theorem d_Model_damage_104 : decode b_Model_damage 104 = .ok (.iload_n 2, 1) := by decide +kernel
theorem d_Model_damage_105 : decode b_Model_damage 105 = .ok (.aload_n 0, 1) := by decide +kernel
theorem d_Model_damage_106 : decode b_Model_damage 106 = .ok (.getfield 53, 3) := by decide +kernel
theorem d_Model_damage_109 : decode b_Model_damage 109 = .ok (.iload_n 2, 1) := by decide +kernel
theorem d_Model_damage_110 : decode b_Model_damage 110 = .ok (.baload, 1) := by decide +kernel
theorem d_Model_damage_111 : decode b_Model_damage 111 = .ok (.ifCond .ne 7, 3) := by decide +kernel
theorem d_Model_damage_114 : decode b_Model_damage 114 = .ok (.iconst 1, 1) := by decide +kernel
theorem d_Model_damage_115 : decode b_Model_damage 115 = .ok (.goto 4, 3) := by decide +kernel
theorem d_Model_damage_118 : decode b_Model_damage 118 = .ok (.iconst 0, 1) := by decide +kernel
theorem d_Model_damage_119 : decode b_Model_damage 119 = .ok (.bastore, 1) := by decide +kernel
theorem d_Model_damage_120 : decode b_Model_damage 120 = .ok (.iload_n 1, 1) := by decide +kernel
theorem d_Model_damage_121 : decode b_Model_damage 121 = .ok (.iconst 4, 1) := by decide +kernel
theorem d_Model_damage_122 : decode b_Model_damage 122 = .ok (.if_icmp .ne 8, 3) := by decide +kernel
theorem d_Model_damage_125 : decode b_Model_damage 125 = .ok (.aload_n 0, 1) := by decide +kernel
theorem d_Model_damage_126 : decode b_Model_damage 126 = .ok (.iload_n 2, 1) := by decide +kernel
theorem d_Model_damage_127 : decode b_Model_damage 127 = .ok (.invokevirtual 178, 3) := by decide +kernel
theorem d_Model_damage_130 : decode b_Model_damage 130 = .ok (.iconst 1, 1) := by decide +kernel
theorem d_Model_damage_131 : decode b_Model_damage 131 = .ok (.ireturn, 1) := by decide +kernel
abbrev b_Model_isForged : ByteArray := prog_14_method_31_code
abbrev J_Model_isForged : MethodName × ByteArray × Nat × Option FieldType := (⟨"FaslDeskModel", "isForged", "(I)Z"⟩, b_Model_isForged, 1, (some .boolean))
theorem d_Model_isForged_0 : decode b_Model_isForged 0 = .ok (.iload_n 0, 1) := by decide +kernel
theorem d_Model_isForged_1 : decode b_Model_isForged 1 = .ok (.iconst 2, 1) := by decide +kernel
theorem d_Model_isForged_2 : decode b_Model_isForged 2 = .ok (.bipush 12, 2) := by decide +kernel
theorem d_Model_isForged_4 : decode b_Model_isForged 4 = .ok (.invokestatic 102, 3) := by decide +kernel
theorem d_Model_isForged_7 : decode b_Model_isForged 7 = .ok (.ifCond .ne 14, 3) := by decide +kernel
theorem d_Model_isForged_10 : decode b_Model_isForged 10 = .ok (.iload_n 0, 1) := by decide +kernel
theorem d_Model_isForged_11 : decode b_Model_isForged 11 = .ok (.bipush 17, 2) := by decide +kernel
theorem d_Model_isForged_13 : decode b_Model_isForged 13 = .ok (.bipush 21, 2) := by decide +kernel
theorem d_Model_isForged_15 : decode b_Model_isForged 15 = .ok (.invokestatic 102, 3) := by decide +kernel
theorem d_Model_isForged_18 : decode b_Model_isForged 18 = .ok (.ifCond .eq 7, 3) := by decide +kernel
theorem d_Model_isForged_21 : decode b_Model_isForged 21 = .ok (.iconst 1, 1) := by decide +kernel
theorem d_Model_isForged_22 : decode b_Model_isForged 22 = .ok (.goto 4, 3) := by decide +kernel
theorem d_Model_isForged_25 : decode b_Model_isForged 25 = .ok (.iconst 0, 1) := by decide +kernel
theorem d_Model_isForged_26 : decode b_Model_isForged 26 = .ok (.ireturn, 1) := by decide +kernel
abbrev b_Model_forge : ByteArray := prog_14_method_32_code
abbrev J_Model_forge : MethodName × ByteArray × Nat × Option FieldType := (⟨"FaslDeskModel", "forge", "(III)I"⟩, b_Model_forge, 6, (some .int))
theorem d_Model_forge_0 : decode b_Model_forge 0 = .ok (.iload_n 1, 1) := by decide +kernel
theorem d_Model_forge_1 : decode b_Model_forge 1 = .ok (.iconst 0, 1) := by decide +kernel
theorem d_Model_forge_2 : decode b_Model_forge 2 = .ok (.aload_n 0, 1) := by decide +kernel
theorem d_Model_forge_3 : decode b_Model_forge 3 = .ok (.getfield 172, 3) := by decide +kernel
theorem d_Model_forge_6 : decode b_Model_forge 6 = .ok (.iconst 1, 1) := by decide +kernel
theorem d_Model_forge_7 : decode b_Model_forge 7 = .ok (.isub, 1) := by decide +kernel
theorem d_Model_forge_8 : decode b_Model_forge 8 = .ok (.invokestatic 102, 3) := by decide +kernel
theorem d_Model_forge_11 : decode b_Model_forge 11 = .ok (.ifCond .eq 29, 3) := by decide +kernel
theorem d_Model_forge_14 : decode b_Model_forge 14 = .ok (.iload_n 2, 1) := by decide +kernel
theorem d_Model_forge_15 : decode b_Model_forge 15 = .ok (.iconst 0, 1) := by decide +kernel
theorem d_Model_forge_16 : decode b_Model_forge 16 = .ok (.aload_n 0, 1) := by decide +kernel
theorem d_Model_forge_17 : decode b_Model_forge 17 = .ok (.getfield 37, 3) := by decide +kernel
theorem d_Model_forge_20 : decode b_Model_forge 20 = .ok (.bipush 8, 2) := by decide +kernel
theorem d_Model_forge_22 : decode b_Model_forge 22 = .ok (.iload_n 1, 1) := by decide +kernel
theorem d_Model_forge_23 : decode b_Model_forge 23 = .ok (.iadd, 1) := by decide +kernel
theorem d_Model_forge_24 : decode b_Model_forge 24 = .ok (.iaload, 1) := by decide +kernel
theorem d_Model_forge_25 : decode b_Model_forge 25 = .ok (.iconst 1, 1) := by decide +kernel
theorem d_Model_forge_26 : decode b_Model_forge 26 = .ok (.isub, 1) := by decide +kernel
theorem d_Model_forge_27 : decode b_Model_forge 27 = .ok (.invokestatic 102, 3) := by decide +kernel
theorem d_Model_forge_30 : decode b_Model_forge 30 = .ok (.ifCond .eq 10, 3) := by decide +kernel
theorem d_Model_forge_33 : decode b_Model_forge 33 = .ok (.iload_n 3, 1) := by decide +kernel
theorem d_Model_forge_34 : decode b_Model_forge 34 = .ok (.invokestatic 187, 3) := by decide +kernel
theorem d_Model_forge_37 : decode b_Model_forge 37 = .ok (.ifCond .ne 5, 3) := by decide +kernel
theorem d_Model_forge_40 : decode b_Model_forge 40 = .ok (.iconst (-1), 1) := by decide +kernel
theorem d_Model_forge_41 : decode b_Model_forge 41 = .ok (.ireturn, 1) := by decide +kernel
theorem d_Model_forge_42 : decode b_Model_forge 42 = .ok (.sipush 280, 3) := by decide +kernel
theorem d_Model_forge_45 : decode b_Model_forge 45 = .ok (.bipush 8, 2) := by decide +kernel
theorem d_Model_forge_47 : decode b_Model_forge 47 = .ok (.iload_n 1, 1) := by decide +kernel
theorem d_Model_forge_48 : decode b_Model_forge 48 = .ok (.iadd, 1) := by decide +kernel
theorem d_Model_forge_49 : decode b_Model_forge 49 = .ok (.imul, 1) := by decide +kernel
theorem d_Model_forge_50 : decode b_Model_forge 50 = .ok (.iload_n 2, 1) := by decide +kernel
theorem d_Model_forge_51 : decode b_Model_forge 51 = .ok (.iadd, 1) := by decide +kernel
theorem d_Model_forge_52 : decode b_Model_forge 52 = .ok (.istore 4, 2) := by decide +kernel
theorem d_Model_forge_54 : decode b_Model_forge 54 = .ok (.aload_n 0, 1) := by decide +kernel
theorem d_Model_forge_55 : decode b_Model_forge 55 = .ok (.getfield 28, 3) := by decide +kernel
theorem d_Model_forge_58 : decode b_Model_forge 58 = .ok (.iload 4, 2) := by decide +kernel
theorem d_Model_forge_60 : decode b_Model_forge 60 = .ok (.iaload, 1) := by decide +kernel
theorem d_Model_forge_61 : decode b_Model_forge 61 = .ok (.invokestatic 187, 3) := by decide +kernel
theorem d_Model_forge_64 : decode b_Model_forge 64 = .ok (.ifCond .eq 13, 3) := by decide +kernel
theorem d_Model_forge_67 : decode b_Model_forge 67 = .ok (.aload_n 0, 1) := by decide +kernel
theorem d_Model_forge_68 : decode b_Model_forge 68 = .ok (.getfield 46, 3) := by decide +kernel
theorem d_Model_forge_71 : decode b_Model_forge 71 = .ok (.iload 4, 2) := by decide +kernel
theorem d_Model_forge_73 : decode b_Model_forge 73 = .ok (.baload, 1) := by decide +kernel
theorem d_Model_forge_74 : decode b_Model_forge 74 = .ok (.ifCond .eq 5, 3) := by decide +kernel
theorem d_Model_forge_77 : decode b_Model_forge 77 = .ok (.iconst (-1), 1) := by decide +kernel
theorem d_Model_forge_78 : decode b_Model_forge 78 = .ok (.ireturn, 1) := by decide +kernel
theorem d_Model_forge_79 : decode b_Model_forge 79 = .ok (.aload_n 0, 1) := by decide +kernel
theorem d_Model_forge_80 : decode b_Model_forge 80 = .ok (.getfield 28, 3) := by decide +kernel
theorem d_Model_forge_83 : decode b_Model_forge 83 = .ok (.iload 4, 2) := by decide +kernel
theorem d_Model_forge_85 : decode b_Model_forge 85 = .ok (.iaload, 1) := by decide +kernel
theorem d_Model_forge_86 : decode b_Model_forge 86 = .ok (.istore 5, 2) := by decide +kernel
theorem d_Model_forge_88 : decode b_Model_forge 88 = .ok (.aload_n 0, 1) := by decide +kernel
theorem d_Model_forge_89 : decode b_Model_forge 89 = .ok (.getfield 28, 3) := by decide +kernel
theorem d_Model_forge_92 : decode b_Model_forge 92 = .ok (.iload 4, 2) := by decide +kernel
theorem d_Model_forge_94 : decode b_Model_forge 94 = .ok (.iload_n 3, 1) := by decide +kernel
theorem d_Model_forge_95 : decode b_Model_forge 95 = .ok (.iastore, 1) := by decide +kernel
theorem d_Model_forge_96 : decode b_Model_forge 96 = .ok (.iload 5, 2) := by decide +kernel
theorem d_Model_forge_98 : decode b_Model_forge 98 = .ok (.ireturn, 1) := by decide +kernel
abbrev b_Model_drop : ByteArray := prog_14_method_33_code
abbrev J_Model_drop : MethodName × ByteArray × Nat × Option FieldType := (⟨"FaslDeskModel", "drop", "(I)I"⟩, b_Model_drop, 5, (some .int))
theorem d_Model_drop_0 : decode b_Model_drop 0 = .ok (.iload_n 1, 1) := by decide +kernel
theorem d_Model_drop_1 : decode b_Model_drop 1 = .ok (.iconst 0, 1) := by decide +kernel
theorem d_Model_drop_2 : decode b_Model_drop 2 = .ok (.aload_n 0, 1) := by decide +kernel
theorem d_Model_drop_3 : decode b_Model_drop 3 = .ok (.getfield 172, 3) := by decide +kernel
theorem d_Model_drop_6 : decode b_Model_drop 6 = .ok (.iconst 1, 1) := by decide +kernel
theorem d_Model_drop_7 : decode b_Model_drop 7 = .ok (.isub, 1) := by decide +kernel
theorem d_Model_drop_8 : decode b_Model_drop 8 = .ok (.invokestatic 102, 3) := by decide +kernel
theorem d_Model_drop_11 : decode b_Model_drop 11 = .ok (.ifCond .ne 5, 3) := by decide +kernel
theorem d_Model_drop_14 : decode b_Model_drop 14 = .ok (.iconst (-1), 1) := by decide +kernel
theorem d_Model_drop_15 : decode b_Model_drop 15 = .ok (.ireturn, 1) := by decide +kernel
theorem d_Model_drop_16 : decode b_Model_drop 16 = .ok (.aload_n 0, 1) := by decide +kernel
theorem d_Model_drop_17 : decode b_Model_drop 17 = .ok (.getfield 59, 3) := by decide +kernel
theorem d_Model_drop_20 : decode b_Model_drop 20 = .ok (.iload_n 1, 1) := by decide +kernel
theorem d_Model_drop_21 : decode b_Model_drop 21 = .ok (.iaload, 1) := by decide +kernel
theorem d_Model_drop_22 : decode b_Model_drop 22 = .ok (.istore_n 2, 1) := by decide +kernel
theorem d_Model_drop_23 : decode b_Model_drop 23 = .ok (.aload_n 0, 1) := by decide +kernel
theorem d_Model_drop_24 : decode b_Model_drop 24 = .ok (.dup, 1) := by decide +kernel
theorem d_Model_drop_25 : decode b_Model_drop 25 = .ok (.getfield 172, 3) := by decide +kernel
theorem d_Model_drop_28 : decode b_Model_drop 28 = .ok (.iconst 1, 1) := by decide +kernel
theorem d_Model_drop_29 : decode b_Model_drop 29 = .ok (.isub, 1) := by decide +kernel
theorem d_Model_drop_30 : decode b_Model_drop 30 = .ok (.putfield 172, 3) := by decide +kernel
theorem d_Model_drop_33 : decode b_Model_drop 33 = .ok (.iload_n 1, 1) := by decide +kernel
theorem d_Model_drop_34 : decode b_Model_drop 34 = .ok (.istore_n 3, 1) := by decide +kernel
theorem d_Model_drop_35 : decode b_Model_drop 35 = .ok (.iload_n 3, 1) := by decide +kernel
theorem d_Model_drop_36 : decode b_Model_drop 36 = .ok (.aload_n 0, 1) := by decide +kernel
theorem d_Model_drop_37 : decode b_Model_drop 37 = .ok (.getfield 172, 3) := by decide +kernel
theorem d_Model_drop_40 : decode b_Model_drop 40 = .ok (.if_icmp .ge 156, 3) := by decide +kernel
theorem d_Model_drop_43 : decode b_Model_drop 43 = .ok (.aload_n 0, 1) := by decide +kernel
theorem d_Model_drop_44 : decode b_Model_drop 44 = .ok (.getfield 59, 3) := by decide +kernel
theorem d_Model_drop_47 : decode b_Model_drop 47 = .ok (.iload_n 3, 1) := by decide +kernel
theorem d_Model_drop_48 : decode b_Model_drop 48 = .ok (.aload_n 0, 1) := by decide +kernel
theorem d_Model_drop_49 : decode b_Model_drop 49 = .ok (.getfield 59, 3) := by decide +kernel
theorem d_Model_drop_52 : decode b_Model_drop 52 = .ok (.iload_n 3, 1) := by decide +kernel
theorem d_Model_drop_53 : decode b_Model_drop 53 = .ok (.iconst 1, 1) := by decide +kernel
theorem d_Model_drop_54 : decode b_Model_drop 54 = .ok (.iadd, 1) := by decide +kernel
theorem d_Model_drop_55 : decode b_Model_drop 55 = .ok (.iaload, 1) := by decide +kernel
theorem d_Model_drop_56 : decode b_Model_drop 56 = .ok (.iastore, 1) := by decide +kernel
theorem d_Model_drop_57 : decode b_Model_drop 57 = .ok (.aload_n 0, 1) := by decide +kernel
theorem d_Model_drop_58 : decode b_Model_drop 58 = .ok (.getfield 65, 3) := by decide +kernel
theorem d_Model_drop_61 : decode b_Model_drop 61 = .ok (.iload_n 3, 1) := by decide +kernel
theorem d_Model_drop_62 : decode b_Model_drop 62 = .ok (.aload_n 0, 1) := by decide +kernel
theorem d_Model_drop_63 : decode b_Model_drop 63 = .ok (.getfield 65, 3) := by decide +kernel
theorem d_Model_drop_66 : decode b_Model_drop 66 = .ok (.iload_n 3, 1) := by decide +kernel
theorem d_Model_drop_67 : decode b_Model_drop 67 = .ok (.iconst 1, 1) := by decide +kernel
theorem d_Model_drop_68 : decode b_Model_drop 68 = .ok (.iadd, 1) := by decide +kernel
theorem d_Model_drop_69 : decode b_Model_drop 69 = .ok (.iaload, 1) := by decide +kernel
theorem d_Model_drop_70 : decode b_Model_drop 70 = .ok (.iastore, 1) := by decide +kernel
theorem d_Model_drop_71 : decode b_Model_drop 71 = .ok (.aload_n 0, 1) := by decide +kernel
theorem d_Model_drop_72 : decode b_Model_drop 72 = .ok (.getfield 62, 3) := by decide +kernel
theorem d_Model_drop_75 : decode b_Model_drop 75 = .ok (.iload_n 3, 1) := by decide +kernel
theorem d_Model_drop_76 : decode b_Model_drop 76 = .ok (.aload_n 0, 1) := by decide +kernel
theorem d_Model_drop_77 : decode b_Model_drop 77 = .ok (.getfield 62, 3) := by decide +kernel
theorem d_Model_drop_80 : decode b_Model_drop 80 = .ok (.iload_n 3, 1) := by decide +kernel
theorem d_Model_drop_81 : decode b_Model_drop 81 = .ok (.iconst 1, 1) := by decide +kernel
theorem d_Model_drop_82 : decode b_Model_drop 82 = .ok (.iadd, 1) := by decide +kernel
theorem d_Model_drop_83 : decode b_Model_drop 83 = .ok (.iaload, 1) := by decide +kernel
theorem d_Model_drop_84 : decode b_Model_drop 84 = .ok (.iastore, 1) := by decide +kernel
theorem d_Model_drop_85 : decode b_Model_drop 85 = .ok (.aload_n 0, 1) := by decide +kernel
theorem d_Model_drop_86 : decode b_Model_drop 86 = .ok (.getfield 53, 3) := by decide +kernel
theorem d_Model_drop_89 : decode b_Model_drop 89 = .ok (.iload_n 3, 1) := by decide +kernel
theorem d_Model_drop_90 : decode b_Model_drop 90 = .ok (.aload_n 0, 1) := by decide +kernel
theorem d_Model_drop_91 : decode b_Model_drop 91 = .ok (.getfield 53, 3) := by decide +kernel
theorem d_Model_drop_94 : decode b_Model_drop 94 = .ok (.iload_n 3, 1) := by decide +kernel
theorem d_Model_drop_95 : decode b_Model_drop 95 = .ok (.iconst 1, 1) := by decide +kernel
theorem d_Model_drop_96 : decode b_Model_drop 96 = .ok (.iadd, 1) := by decide +kernel
theorem d_Model_drop_97 : decode b_Model_drop 97 = .ok (.baload, 1) := by decide +kernel
theorem d_Model_drop_98 : decode b_Model_drop 98 = .ok (.bastore, 1) := by decide +kernel
theorem d_Model_drop_99 : decode b_Model_drop 99 = .ok (.aload_n 0, 1) := by decide +kernel
theorem d_Model_drop_100 : decode b_Model_drop 100 = .ok (.getfield 68, 3) := by decide +kernel
theorem d_Model_drop_103 : decode b_Model_drop 103 = .ok (.iload_n 3, 1) := by decide +kernel
theorem d_Model_drop_104 : decode b_Model_drop 104 = .ok (.aload_n 0, 1) := by decide +kernel
theorem d_Model_drop_105 : decode b_Model_drop 105 = .ok (.getfield 68, 3) := by decide +kernel
theorem d_Model_drop_108 : decode b_Model_drop 108 = .ok (.iload_n 3, 1) := by decide +kernel
theorem d_Model_drop_109 : decode b_Model_drop 109 = .ok (.iconst 1, 1) := by decide +kernel
theorem d_Model_drop_110 : decode b_Model_drop 110 = .ok (.iadd, 1) := by decide +kernel
theorem d_Model_drop_111 : decode b_Model_drop 111 = .ok (.iaload, 1) := by decide +kernel
theorem d_Model_drop_112 : decode b_Model_drop 112 = .ok (.iastore, 1) := by decide +kernel
theorem d_Model_drop_113 : decode b_Model_drop 113 = .ok (.aload_n 0, 1) := by decide +kernel
theorem d_Model_drop_114 : decode b_Model_drop 114 = .ok (.getfield 56, 3) := by decide +kernel
theorem d_Model_drop_117 : decode b_Model_drop 117 = .ok (.iload_n 3, 1) := by decide +kernel
theorem d_Model_drop_118 : decode b_Model_drop 118 = .ok (.aload_n 0, 1) := by decide +kernel
theorem d_Model_drop_119 : decode b_Model_drop 119 = .ok (.getfield 56, 3) := by decide +kernel
theorem d_Model_drop_122 : decode b_Model_drop 122 = .ok (.iload_n 3, 1) := by decide +kernel
theorem d_Model_drop_123 : decode b_Model_drop 123 = .ok (.iconst 1, 1) := by decide +kernel
theorem d_Model_drop_124 : decode b_Model_drop 124 = .ok (.iadd, 1) := by decide +kernel
theorem d_Model_drop_125 : decode b_Model_drop 125 = .ok (.baload, 1) := by decide +kernel
theorem d_Model_drop_126 : decode b_Model_drop 126 = .ok (.bastore, 1) := by decide +kernel
theorem d_Model_drop_127 : decode b_Model_drop 127 = .ok (.aload_n 0, 1) := by decide +kernel
theorem d_Model_drop_128 : decode b_Model_drop 128 = .ok (.bipush 8, 2) := by decide +kernel
theorem d_Model_drop_130 : decode b_Model_drop 130 = .ok (.iload_n 3, 1) := by decide +kernel
theorem d_Model_drop_131 : decode b_Model_drop 131 = .ok (.iadd, 1) := by decide +kernel
theorem d_Model_drop_132 : decode b_Model_drop 132 = .ok (.bipush 9, 2) := by decide +kernel
theorem d_Model_drop_134 : decode b_Model_drop 134 = .ok (.iload_n 3, 1) := by decide +kernel
theorem d_Model_drop_135 : decode b_Model_drop 135 = .ok (.iadd, 1) := by decide +kernel
theorem d_Model_drop_136 : decode b_Model_drop 136 = .ok (.invokevirtual 175, 3) := by decide +kernel
theorem d_Model_drop_139 : decode b_Model_drop 139 = .ok (.iconst 0, 1) := by decide +kernel
theorem d_Model_drop_140 : decode b_Model_drop 140 = .ok (.istore 4, 2) := by decide +kernel
theorem d_Model_drop_142 : decode b_Model_drop 142 = .ok (.iload 4, 2) := by decide +kernel
theorem d_Model_drop_144 : decode b_Model_drop 144 = .ok (.aload_n 0, 1) := by decide +kernel
theorem d_Model_drop_145 : decode b_Model_drop 145 = .ok (.getfield 37, 3) := by decide +kernel
theorem d_Model_drop_148 : decode b_Model_drop 148 = .ok (.bipush 8, 2) := by decide +kernel
theorem d_Model_drop_150 : decode b_Model_drop 150 = .ok (.iload_n 3, 1) := by decide +kernel
theorem d_Model_drop_151 : decode b_Model_drop 151 = .ok (.iadd, 1) := by decide +kernel
theorem d_Model_drop_152 : decode b_Model_drop 152 = .ok (.iaload, 1) := by decide +kernel
theorem d_Model_drop_153 : decode b_Model_drop 153 = .ok (.if_icmp .ge 37, 3) := by decide +kernel
theorem d_Model_drop_156 : decode b_Model_drop 156 = .ok (.aload_n 0, 1) := by decide +kernel
theorem d_Model_drop_157 : decode b_Model_drop 157 = .ok (.getfield 71, 3) := by decide +kernel
theorem d_Model_drop_160 : decode b_Model_drop 160 = .ok (.sipush 280, 3) := by decide +kernel
theorem d_Model_drop_163 : decode b_Model_drop 163 = .ok (.iload_n 3, 1) := by decide +kernel
theorem d_Model_drop_164 : decode b_Model_drop 164 = .ok (.imul, 1) := by decide +kernel
theorem d_Model_drop_165 : decode b_Model_drop 165 = .ok (.iload 4, 2) := by decide +kernel
theorem d_Model_drop_167 : decode b_Model_drop 167 = .ok (.iadd, 1) := by decide +kernel
theorem d_Model_drop_168 : decode b_Model_drop 168 = .ok (.aload_n 0, 1) := by decide +kernel
theorem d_Model_drop_169 : decode b_Model_drop 169 = .ok (.getfield 71, 3) := by decide +kernel
theorem d_Model_drop_172 : decode b_Model_drop 172 = .ok (.sipush 280, 3) := by decide +kernel
theorem d_Model_drop_175 : decode b_Model_drop 175 = .ok (.iload_n 3, 1) := by decide +kernel
theorem d_Model_drop_176 : decode b_Model_drop 176 = .ok (.iconst 1, 1) := by decide +kernel
theorem d_Model_drop_177 : decode b_Model_drop 177 = .ok (.iadd, 1) := by decide +kernel
theorem d_Model_drop_178 : decode b_Model_drop 178 = .ok (.imul, 1) := by decide +kernel
theorem d_Model_drop_179 : decode b_Model_drop 179 = .ok (.iload 4, 2) := by decide +kernel
theorem d_Model_drop_181 : decode b_Model_drop 181 = .ok (.iadd, 1) := by decide +kernel
theorem d_Model_drop_182 : decode b_Model_drop 182 = .ok (.iaload, 1) := by decide +kernel
theorem d_Model_drop_183 : decode b_Model_drop 183 = .ok (.iastore, 1) := by decide +kernel
theorem d_Model_drop_184 : decode b_Model_drop 184 = .ok (.iinc 4 1, 3) := by decide +kernel
theorem d_Model_drop_187 : decode b_Model_drop 187 = .ok (.goto (-45), 3) := by decide +kernel
theorem d_Model_drop_190 : decode b_Model_drop 190 = .ok (.iinc 3 1, 3) := by decide +kernel
theorem d_Model_drop_193 : decode b_Model_drop 193 = .ok (.goto (-158), 3) := by decide +kernel
theorem d_Model_drop_196 : decode b_Model_drop 196 = .ok (.aload_n 0, 1) := by decide +kernel
theorem d_Model_drop_197 : decode b_Model_drop 197 = .ok (.aload_n 0, 1) := by decide +kernel
theorem d_Model_drop_198 : decode b_Model_drop 198 = .ok (.getfield 172, 3) := by decide +kernel
theorem d_Model_drop_201 : decode b_Model_drop 201 = .ok (.putfield 181, 3) := by decide +kernel
theorem d_Model_drop_204 : decode b_Model_drop 204 = .ok (.iload_n 2, 1) := by decide +kernel
theorem d_Model_drop_205 : decode b_Model_drop 205 = .ok (.ireturn, 1) := by decide +kernel
abbrev b_Model_fault : ByteArray := prog_14_method_34_code
abbrev J_Model_fault : MethodName × ByteArray × Nat × Option FieldType := (⟨"FaslDeskModel", "fault", "(II)I"⟩, b_Model_fault, 3, (some .int))
theorem d_Model_fault_0 : decode b_Model_fault 0 = .ok (.aload_n 0, 1) := by decide +kernel
theorem d_Model_fault_1 : decode b_Model_fault 1 = .ok (.dup, 1) := by decide +kernel
theorem d_Model_fault_2 : decode b_Model_fault 2 = .ok (.getfield 191, 3) := by decide +kernel
theorem d_Model_fault_5 : decode b_Model_fault 5 = .ok (.iconst 1, 1) := by decide +kernel
theorem d_Model_fault_6 : decode b_Model_fault 6 = .ok (.iadd, 1) := by decide +kernel
theorem d_Model_fault_7 : decode b_Model_fault 7 = .ok (.putfield 191, 3) := by decide +kernel
theorem d_Model_fault_10 : decode b_Model_fault 10 = .ok (.aload_n 0, 1) := by decide +kernel
theorem d_Model_fault_11 : decode b_Model_fault 11 = .ok (.iload_n 2, 1) := by decide +kernel
theorem d_Model_fault_12 : decode b_Model_fault 12 = .ok (.putfield 98, 3) := by decide +kernel
theorem d_Model_fault_15 : decode b_Model_fault 15 = .ok (.iload_n 1, 1) := by decide +kernel
theorem d_Model_fault_16 : decode b_Model_fault 16 = .ok (.ireturn, 1) := by decide +kernel
abbrev b_Model_load : ByteArray := prog_14_method_35_code
abbrev J_Model_load : MethodName × ByteArray × Nat × Option FieldType := (⟨"FaslDeskModel", "load", "()I"⟩, b_Model_load, 3, (some .int))
theorem d_Model_load_0 : decode b_Model_load 0 = .ok (.aload_n 0, 1) := by decide +kernel
theorem d_Model_load_1 : decode b_Model_load 1 = .ok (.getfield 184, 3) := by decide +kernel
theorem d_Model_load_4 : decode b_Model_load 4 = .ok (.ifCond .eq 10, 3) := by decide +kernel
theorem d_Model_load_7 : decode b_Model_load 7 = .ok (.aload_n 0, 1) := by decide +kernel
theorem d_Model_load_8 : decode b_Model_load 8 = .ok (.iconst 1, 1) := by decide +kernel
theorem d_Model_load_9 : decode b_Model_load 9 = .ok (.iconst (-1), 1) := by decide +kernel
theorem d_Model_load_10 : decode b_Model_load 10 = .ok (.invokevirtual 194, 3) := by decide +kernel
theorem d_Model_load_13 : decode b_Model_load 13 = .ok (.ireturn, 1) := by decide +kernel
theorem d_Model_load_14 : decode b_Model_load 14 = .ok (.aload_n 0, 1) := by decide +kernel
theorem d_Model_load_15 : decode b_Model_load 15 = .ok (.getfield 181, 3) := by decide +kernel
theorem d_Model_load_18 : decode b_Model_load 18 = .ok (.aload_n 0, 1) := by decide +kernel
theorem d_Model_load_19 : decode b_Model_load 19 = .ok (.getfield 172, 3) := by decide +kernel
theorem d_Model_load_22 : decode b_Model_load 22 = .ok (.if_icmp .eq 25, 3) := by decide +kernel
theorem d_Model_load_25 : decode b_Model_load 25 = .ok (.aload_n 0, 1) := by decide +kernel
theorem d_Model_load_26 : decode b_Model_load 26 = .ok (.aload_n 0, 1) := by decide +kernel
theorem d_Model_load_27 : decode b_Model_load 27 = .ok (.getfield 181, 3) := by decide +kernel
theorem d_Model_load_30 : decode b_Model_load 30 = .ok (.aload_n 0, 1) := by decide +kernel
theorem d_Model_load_31 : decode b_Model_load 31 = .ok (.getfield 172, 3) := by decide +kernel
theorem d_Model_load_34 : decode b_Model_load 34 = .ok (.if_icmp .le 7, 3) := by decide +kernel
theorem d_Model_load_37 : decode b_Model_load 37 = .ok (.iconst 2, 1) := by decide +kernel
theorem d_Model_load_38 : decode b_Model_load 38 = .ok (.goto 4, 3) := by decide +kernel
theorem d_Model_load_41 : decode b_Model_load 41 = .ok (.iconst 3, 1) := by decide +kernel
theorem d_Model_load_42 : decode b_Model_load 42 = .ok (.iconst (-1), 1) := by decide +kernel
theorem d_Model_load_43 : decode b_Model_load 43 = .ok (.invokevirtual 194, 3) := by decide +kernel
theorem d_Model_load_46 : decode b_Model_load 46 = .ok (.ireturn, 1) := by decide +kernel
theorem d_Model_load_47 : decode b_Model_load 47 = .ok (.iconst 0, 1) := by decide +kernel
theorem d_Model_load_48 : decode b_Model_load 48 = .ok (.istore_n 1, 1) := by decide +kernel
theorem d_Model_load_49 : decode b_Model_load 49 = .ok (.iload_n 1, 1) := by decide +kernel
theorem d_Model_load_50 : decode b_Model_load 50 = .ok (.aload_n 0, 1) := by decide +kernel
theorem d_Model_load_51 : decode b_Model_load 51 = .ok (.getfield 172, 3) := by decide +kernel
theorem d_Model_load_54 : decode b_Model_load 54 = .ok (.if_icmp .ge 59, 3) := by decide +kernel
theorem d_Model_load_57 : decode b_Model_load 57 = .ok (.aload_n 0, 1) := by decide +kernel
theorem d_Model_load_58 : decode b_Model_load 58 = .ok (.iload_n 1, 1) := by decide +kernel
theorem d_Model_load_59 : decode b_Model_load 59 = .ok (.invokevirtual 198, 3) := by decide +kernel
theorem d_Model_load_62 : decode b_Model_load 62 = .ok (.ifCond .ne 10, 3) := by decide +kernel
theorem d_Model_load_65 : decode b_Model_load 65 = .ok (.aload_n 0, 1) := by decide +kernel
theorem d_Model_load_66 : decode b_Model_load 66 = .ok (.iconst 4, 1) := by decide +kernel
theorem d_Model_load_67 : decode b_Model_load 67 = .ok (.iload_n 1, 1) := by decide +kernel
theorem d_Model_load_68 : decode b_Model_load 68 = .ok (.invokevirtual 194, 3) := by decide +kernel
theorem d_Model_load_71 : decode b_Model_load 71 = .ok (.ireturn, 1) := by decide +kernel
theorem d_Model_load_72 : decode b_Model_load 72 = .ok (.iconst 0, 1) := by decide +kernel
theorem d_Model_load_73 : decode b_Model_load 73 = .ok (.istore_n 2, 1) := by decide +kernel
theorem d_Model_load_74 : decode b_Model_load 74 = .ok (.iload_n 2, 1) := by decide +kernel
theorem d_Model_load_75 : decode b_Model_load 75 = .ok (.iload_n 1, 1) := by decide +kernel
theorem d_Model_load_76 : decode b_Model_load 76 = .ok (.if_icmp .ge 31, 3) := by decide +kernel
theorem d_Model_load_79 : decode b_Model_load 79 = .ok (.aload_n 0, 1) := by decide +kernel
theorem d_Model_load_80 : decode b_Model_load 80 = .ok (.getfield 59, 3) := by decide +kernel
theorem d_Model_load_83 : decode b_Model_load 83 = .ok (.iload_n 2, 1) := by decide +kernel
theorem d_Model_load_84 : decode b_Model_load 84 = .ok (.iaload, 1) := by decide +kernel
theorem d_Model_load_85 : decode b_Model_load 85 = .ok (.aload_n 0, 1) := by decide +kernel
theorem d_Model_load_86 : decode b_Model_load 86 = .ok (.getfield 59, 3) := by decide +kernel
theorem d_Model_load_89 : decode b_Model_load 89 = .ok (.iload_n 1, 1) := by decide +kernel
theorem d_Model_load_90 : decode b_Model_load 90 = .ok (.iaload, 1) := by decide +kernel
theorem d_Model_load_91 : decode b_Model_load 91 = .ok (.if_icmp .ne 10, 3) := by decide +kernel
theorem d_Model_load_94 : decode b_Model_load 94 = .ok (.aload_n 0, 1) := by decide +kernel
theorem d_Model_load_95 : decode b_Model_load 95 = .ok (.iconst 5, 1) := by decide +kernel
theorem d_Model_load_96 : decode b_Model_load 96 = .ok (.iload_n 1, 1) := by decide +kernel
theorem d_Model_load_97 : decode b_Model_load 97 = .ok (.invokevirtual 194, 3) := by decide +kernel
theorem d_Model_load_100 : decode b_Model_load 100 = .ok (.ireturn, 1) := by decide +kernel
theorem d_Model_load_101 : decode b_Model_load 101 = .ok (.iinc 2 1, 3) := by decide +kernel
theorem d_Model_load_104 : decode b_Model_load 104 = .ok (.goto (-30), 3) := by decide +kernel
theorem d_Model_load_107 : decode b_Model_load 107 = .ok (.iinc 1 1, 3) := by decide +kernel
theorem d_Model_load_110 : decode b_Model_load 110 = .ok (.goto (-61), 3) := by decide +kernel
theorem d_Model_load_113 : decode b_Model_load 113 = .ok (.iconst 0, 1) := by decide +kernel
theorem d_Model_load_114 : decode b_Model_load 114 = .ok (.istore_n 1, 1) := by decide +kernel
theorem d_Model_load_115 : decode b_Model_load 115 = .ok (.iload_n 1, 1) := by decide +kernel
theorem d_Model_load_116 : decode b_Model_load 116 = .ok (.aload_n 0, 1) := by decide +kernel
theorem d_Model_load_117 : decode b_Model_load 117 = .ok (.getfield 172, 3) := by decide +kernel
theorem d_Model_load_120 : decode b_Model_load 120 = .ok (.if_icmp .ge 49, 3) := by decide +kernel
theorem d_Model_load_123 : decode b_Model_load 123 = .ok (.aload_n 0, 1) := by decide +kernel
theorem d_Model_load_124 : decode b_Model_load 124 = .ok (.getfield 53, 3) := by decide +kernel
theorem d_Model_load_127 : decode b_Model_load 127 = .ok (.iload_n 1, 1) := by decide +kernel
theorem d_Model_load_128 : decode b_Model_load 128 = .ok (.baload, 1) := by decide +kernel
theorem d_Model_load_129 : decode b_Model_load 129 = .ok (.ifCond .eq 11, 3) := by decide +kernel
theorem d_Model_load_132 : decode b_Model_load 132 = .ok (.aload_n 0, 1) := by decide +kernel
theorem d_Model_load_133 : decode b_Model_load 133 = .ok (.bipush 6, 2) := by decide +kernel
theorem d_Model_load_135 : decode b_Model_load 135 = .ok (.iload_n 1, 1) := by decide +kernel
theorem d_Model_load_136 : decode b_Model_load 136 = .ok (.invokevirtual 194, 3) := by decide +kernel
theorem d_Model_load_139 : decode b_Model_load 139 = .ok (.ireturn, 1) := by decide +kernel
theorem d_Model_load_140 : decode b_Model_load 140 = .ok (.aload_n 0, 1) := by decide +kernel
theorem d_Model_load_141 : decode b_Model_load 141 = .ok (.getfield 65, 3) := by decide +kernel
theorem d_Model_load_144 : decode b_Model_load 144 = .ok (.iload_n 1, 1) := by decide +kernel
theorem d_Model_load_145 : decode b_Model_load 145 = .ok (.iaload, 1) := by decide +kernel
theorem d_Model_load_146 : decode b_Model_load 146 = .ok (.aload_n 0, 1) := by decide +kernel
theorem d_Model_load_147 : decode b_Model_load 147 = .ok (.getfield 59, 3) := by decide +kernel
theorem d_Model_load_150 : decode b_Model_load 150 = .ok (.iload_n 1, 1) := by decide +kernel
theorem d_Model_load_151 : decode b_Model_load 151 = .ok (.iaload, 1) := by decide +kernel
theorem d_Model_load_152 : decode b_Model_load 152 = .ok (.if_icmp .eq 11, 3) := by decide +kernel
theorem d_Model_load_155 : decode b_Model_load 155 = .ok (.aload_n 0, 1) := by decide +kernel
theorem d_Model_load_156 : decode b_Model_load 156 = .ok (.bipush 7, 2) := by decide +kernel
theorem d_Model_load_158 : decode b_Model_load 158 = .ok (.iload_n 1, 1) := by decide +kernel
theorem d_Model_load_159 : decode b_Model_load 159 = .ok (.invokevirtual 194, 3) := by decide +kernel
theorem d_Model_load_162 : decode b_Model_load 162 = .ok (.ireturn, 1) := by decide +kernel
theorem d_Model_load_163 : decode b_Model_load 163 = .ok (.iinc 1 1, 3) := by decide +kernel
theorem d_Model_load_166 : decode b_Model_load 166 = .ok (.goto (-51), 3) := by decide +kernel
theorem d_Model_load_169 : decode b_Model_load 169 = .ok (.iconst 0, 1) := by decide +kernel
theorem d_Model_load_170 : decode b_Model_load 170 = .ok (.istore_n 1, 1) := by decide +kernel
theorem d_Model_load_171 : decode b_Model_load 171 = .ok (.iload_n 1, 1) := by decide +kernel
theorem d_Model_load_172 : decode b_Model_load 172 = .ok (.aload_n 0, 1) := by decide +kernel
theorem d_Model_load_173 : decode b_Model_load 173 = .ok (.getfield 172, 3) := by decide +kernel
theorem d_Model_load_176 : decode b_Model_load 176 = .ok (.if_icmp .ge 43, 3) := by decide +kernel
theorem d_Model_load_179 : decode b_Model_load 179 = .ok (.aload_n 0, 1) := by decide +kernel
theorem d_Model_load_180 : decode b_Model_load 180 = .ok (.bipush 8, 2) := by decide +kernel
theorem d_Model_load_182 : decode b_Model_load 182 = .ok (.iload_n 1, 1) := by decide +kernel
theorem d_Model_load_183 : decode b_Model_load 183 = .ok (.iadd, 1) := by decide +kernel
theorem d_Model_load_184 : decode b_Model_load 184 = .ok (.invokevirtual 135, 3) := by decide +kernel
theorem d_Model_load_187 : decode b_Model_load 187 = .ok (.istore_n 2, 1) := by decide +kernel
theorem d_Model_load_188 : decode b_Model_load 188 = .ok (.iload_n 2, 1) := by decide +kernel
theorem d_Model_load_189 : decode b_Model_load 189 = .ok (.ifCond .lt 16, 3) := by decide +kernel
theorem d_Model_load_192 : decode b_Model_load 192 = .ok (.iload_n 2, 1) := by decide +kernel
theorem d_Model_load_193 : decode b_Model_load 193 = .ok (.aload_n 0, 1) := by decide +kernel
theorem d_Model_load_194 : decode b_Model_load 194 = .ok (.getfield 40, 3) := by decide +kernel
theorem d_Model_load_197 : decode b_Model_load 197 = .ok (.bipush 8, 2) := by decide +kernel
theorem d_Model_load_199 : decode b_Model_load 199 = .ok (.iload_n 1, 1) := by decide +kernel
theorem d_Model_load_200 : decode b_Model_load 200 = .ok (.iadd, 1) := by decide +kernel
theorem d_Model_load_201 : decode b_Model_load 201 = .ok (.iaload, 1) := by decide +kernel
theorem d_Model_load_202 : decode b_Model_load 202 = .ok (.if_icmp .le 11, 3) := by decide +kernel
theorem d_Model_load_205 : decode b_Model_load 205 = .ok (.aload_n 0, 1) := by decide +kernel
theorem d_Model_load_206 : decode b_Model_load 206 = .ok (.bipush 8, 2) := by decide +kernel
theorem d_Model_load_208 : decode b_Model_load 208 = .ok (.iload_n 1, 1) := by decide +kernel
theorem d_Model_load_209 : decode b_Model_load 209 = .ok (.invokevirtual 194, 3) := by decide +kernel
theorem d_Model_load_212 : decode b_Model_load 212 = .ok (.ireturn, 1) := by decide +kernel
theorem d_Model_load_213 : decode b_Model_load 213 = .ok (.iinc 1 1, 3) := by decide +kernel
theorem d_Model_load_216 : decode b_Model_load 216 = .ok (.goto (-45), 3) := by decide +kernel
theorem d_Model_load_219 : decode b_Model_load 219 = .ok (.iconst 0, 1) := by decide +kernel
theorem d_Model_load_220 : decode b_Model_load 220 = .ok (.istore_n 1, 1) := by decide +kernel
theorem d_Model_load_221 : decode b_Model_load 221 = .ok (.iload_n 1, 1) := by decide +kernel
theorem d_Model_load_222 : decode b_Model_load 222 = .ok (.bipush 8, 2) := by decide +kernel
theorem d_Model_load_224 : decode b_Model_load 224 = .ok (.if_icmp .ge 16, 3) := by decide +kernel
theorem d_Model_load_227 : decode b_Model_load 227 = .ok (.aload_n 0, 1) := by decide +kernel
theorem d_Model_load_228 : decode b_Model_load 228 = .ok (.getfield 50, 3) := by decide +kernel
theorem d_Model_load_231 : decode b_Model_load 231 = .ok (.iload_n 1, 1) := by decide +kernel
theorem d_Model_load_232 : decode b_Model_load 232 = .ok (.iconst 0, 1) := by decide +kernel
theorem d_Model_load_233 : decode b_Model_load 233 = .ok (.bastore, 1) := by decide +kernel
theorem d_Model_load_234 : decode b_Model_load 234 = .ok (.iinc 1 1, 3) := by decide +kernel
theorem d_Model_load_237 : decode b_Model_load 237 = .ok (.goto (-16), 3) := by decide +kernel
theorem d_Model_load_240 : decode b_Model_load 240 = .ok (.iconst 0, 1) := by decide +kernel
theorem d_Model_load_241 : decode b_Model_load 241 = .ok (.istore_n 1, 1) := by decide +kernel
theorem d_Model_load_242 : decode b_Model_load 242 = .ok (.iload_n 1, 1) := by decide +kernel
theorem d_Model_load_243 : decode b_Model_load 243 = .ok (.aload_n 0, 1) := by decide +kernel
theorem d_Model_load_244 : decode b_Model_load 244 = .ok (.getfield 172, 3) := by decide +kernel
theorem d_Model_load_247 : decode b_Model_load 247 = .ok (.if_icmp .ge 47, 3) := by decide +kernel
theorem d_Model_load_250 : decode b_Model_load 250 = .ok (.aload_n 0, 1) := by decide +kernel
theorem d_Model_load_251 : decode b_Model_load 251 = .ok (.getfield 59, 3) := by decide +kernel
theorem d_Model_load_254 : decode b_Model_load 254 = .ok (.iload_n 1, 1) := by decide +kernel
theorem d_Model_load_255 : decode b_Model_load 255 = .ok (.iaload, 1) := by decide +kernel
theorem d_Model_load_256 : decode b_Model_load 256 = .ok (.istore_n 2, 1) := by decide +kernel
theorem d_Model_load_257 : decode b_Model_load 257 = .ok (.aload_n 0, 1) := by decide +kernel
theorem d_Model_load_258 : decode b_Model_load 258 = .ok (.getfield 50, 3) := by decide +kernel
theorem d_Model_load_261 : decode b_Model_load 261 = .ok (.iload_n 2, 1) := by decide +kernel
theorem d_Model_load_262 : decode b_Model_load 262 = .ok (.iconst 1, 1) := by decide +kernel
theorem d_Model_load_263 : decode b_Model_load 263 = .ok (.bastore, 1) := by decide +kernel
theorem d_Model_load_264 : decode b_Model_load 264 = .ok (.aload_n 0, 1) := by decide +kernel
theorem d_Model_load_265 : decode b_Model_load 265 = .ok (.getfield 74, 3) := by decide +kernel
theorem d_Model_load_268 : decode b_Model_load 268 = .ok (.iload_n 2, 1) := by decide +kernel
theorem d_Model_load_269 : decode b_Model_load 269 = .ok (.aload_n 0, 1) := by decide +kernel
theorem d_Model_load_270 : decode b_Model_load 270 = .ok (.getfield 62, 3) := by decide +kernel
theorem d_Model_load_273 : decode b_Model_load 273 = .ok (.iload_n 1, 1) := by decide +kernel
theorem d_Model_load_274 : decode b_Model_load 274 = .ok (.iaload, 1) := by decide +kernel
theorem d_Model_load_275 : decode b_Model_load 275 = .ok (.iastore, 1) := by decide +kernel
theorem d_Model_load_276 : decode b_Model_load 276 = .ok (.aload_n 0, 1) := by decide +kernel
theorem d_Model_load_277 : decode b_Model_load 277 = .ok (.bipush 16, 2) := by decide +kernel
theorem d_Model_load_279 : decode b_Model_load 279 = .ok (.iload_n 2, 1) := by decide +kernel
theorem d_Model_load_280 : decode b_Model_load 280 = .ok (.iadd, 1) := by decide +kernel
theorem d_Model_load_281 : decode b_Model_load 281 = .ok (.bipush 8, 2) := by decide +kernel
theorem d_Model_load_283 : decode b_Model_load 283 = .ok (.iload_n 1, 1) := by decide +kernel
theorem d_Model_load_284 : decode b_Model_load 284 = .ok (.iadd, 1) := by decide +kernel
theorem d_Model_load_285 : decode b_Model_load 285 = .ok (.invokevirtual 175, 3) := by decide +kernel
theorem d_Model_load_288 : decode b_Model_load 288 = .ok (.iinc 1 1, 3) := by decide +kernel
theorem d_Model_load_291 : decode b_Model_load 291 = .ok (.goto (-49), 3) := by decide +kernel
theorem d_Model_load_294 : decode b_Model_load 294 = .ok (.aload_n 0, 1) := by decide +kernel
theorem d_Model_load_295 : decode b_Model_load 295 = .ok (.dup, 1) := by decide +kernel
theorem d_Model_load_296 : decode b_Model_load 296 = .ok (.getfield 201, 3) := by decide +kernel
theorem d_Model_load_299 : decode b_Model_load 299 = .ok (.iconst 1, 1) := by decide +kernel
theorem d_Model_load_300 : decode b_Model_load 300 = .ok (.iadd, 1) := by decide +kernel
theorem d_Model_load_301 : decode b_Model_load 301 = .ok (.putfield 201, 3) := by decide +kernel
theorem d_Model_load_304 : decode b_Model_load 304 = .ok (.iconst 0, 1) := by decide +kernel
theorem d_Model_load_305 : decode b_Model_load 305 = .ok (.ireturn, 1) := by decide +kernel
end
section
/-! more decode rows -/
abbrev b_Model_entry : ByteArray := prog_14_method_36_code
abbrev J_Model_entry : MethodName × ByteArray × Nat × Option FieldType := (⟨"FaslDeskModel", "entry", "(II)I"⟩, b_Model_entry, 3, (some .int))
theorem d_Model_entry_0 : decode b_Model_entry 0 = .ok (.iload_n 1, 1) := by decide +kernel
theorem d_Model_entry_1 : decode b_Model_entry 1 = .ok (.iconst 0, 1) := by decide +kernel
theorem d_Model_entry_2 : decode b_Model_entry 2 = .ok (.aload_n 0, 1) := by decide +kernel
theorem d_Model_entry_3 : decode b_Model_entry 3 = .ok (.getfield 172, 3) := by decide +kernel
theorem d_Model_entry_6 : decode b_Model_entry 6 = .ok (.iconst 1, 1) := by decide +kernel
theorem d_Model_entry_7 : decode b_Model_entry 7 = .ok (.isub, 1) := by decide +kernel
theorem d_Model_entry_8 : decode b_Model_entry 8 = .ok (.invokestatic 102, 3) := by decide +kernel
theorem d_Model_entry_11 : decode b_Model_entry 11 = .ok (.ifCond .ne 5, 3) := by decide +kernel
theorem d_Model_entry_14 : decode b_Model_entry 14 = .ok (.iconst (-1), 1) := by decide +kernel
theorem d_Model_entry_15 : decode b_Model_entry 15 = .ok (.ireturn, 1) := by decide +kernel
theorem d_Model_entry_16 : decode b_Model_entry 16 = .ok (.iload_n 2, 1) := by decide +kernel
theorem d_Model_entry_17 : decode b_Model_entry 17 = .ok (.tableswitch 94 0 5 #[39, 46, 53, 63, 73, 80], 39) := by decide +kernel
theorem d_Model_entry_56 : decode b_Model_entry 56 = .ok (.aload_n 0, 1) := by decide +kernel
theorem d_Model_entry_57 : decode b_Model_entry 57 = .ok (.getfield 59, 3) := by decide +kernel
theorem d_Model_entry_60 : decode b_Model_entry 60 = .ok (.iload_n 1, 1) := by decide +kernel
theorem d_Model_entry_61 : decode b_Model_entry 61 = .ok (.iaload, 1) := by decide +kernel
theorem d_Model_entry_62 : decode b_Model_entry 62 = .ok (.ireturn, 1) := by decide +kernel
theorem d_Model_entry_63 : decode b_Model_entry 63 = .ok (.aload_n 0, 1) := by decide +kernel
theorem d_Model_entry_64 : decode b_Model_entry 64 = .ok (.getfield 62, 3) := by decide +kernel
theorem d_Model_entry_67 : decode b_Model_entry 67 = .ok (.iload_n 1, 1) := by decide +kernel
theorem d_Model_entry_68 : decode b_Model_entry 68 = .ok (.iaload, 1) := by decide +kernel
theorem d_Model_entry_69 : decode b_Model_entry 69 = .ok (.ireturn, 1) := by decide +kernel
theorem d_Model_entry_70 : decode b_Model_entry 70 = .ok (.aload_n 0, 1) := by decide +kernel
theorem d_Model_entry_71 : decode b_Model_entry 71 = .ok (.getfield 37, 3) := by decide +kernel
theorem d_Model_entry_74 : decode b_Model_entry 74 = .ok (.bipush 8, 2) := by decide +kernel
theorem d_Model_entry_76 : decode b_Model_entry 76 = .ok (.iload_n 1, 1) := by decide +kernel
theorem d_Model_entry_77 : decode b_Model_entry 77 = .ok (.iadd, 1) := by decide +kernel
theorem d_Model_entry_78 : decode b_Model_entry 78 = .ok (.iaload, 1) := by decide +kernel
theorem d_Model_entry_79 : decode b_Model_entry 79 = .ok (.ireturn, 1) := by decide +kernel
theorem d_Model_entry_80 : decode b_Model_entry 80 = .ok (.aload_n 0, 1) := by decide +kernel
theorem d_Model_entry_81 : decode b_Model_entry 81 = .ok (.getfield 40, 3) := by decide +kernel
theorem d_Model_entry_84 : decode b_Model_entry 84 = .ok (.bipush 8, 2) := by decide +kernel
theorem d_Model_entry_86 : decode b_Model_entry 86 = .ok (.iload_n 1, 1) := by decide +kernel
theorem d_Model_entry_87 : decode b_Model_entry 87 = .ok (.iadd, 1) := by decide +kernel
theorem d_Model_entry_88 : decode b_Model_entry 88 = .ok (.iaload, 1) := by decide +kernel
theorem d_Model_entry_89 : decode b_Model_entry 89 = .ok (.ireturn, 1) := by decide +kernel
theorem d_Model_entry_90 : decode b_Model_entry 90 = .ok (.aload_n 0, 1) := by decide +kernel
theorem d_Model_entry_91 : decode b_Model_entry 91 = .ok (.getfield 65, 3) := by decide +kernel
theorem d_Model_entry_94 : decode b_Model_entry 94 = .ok (.iload_n 1, 1) := by decide +kernel
theorem d_Model_entry_95 : decode b_Model_entry 95 = .ok (.iaload, 1) := by decide +kernel
theorem d_Model_entry_96 : decode b_Model_entry 96 = .ok (.ireturn, 1) := by decide +kernel
theorem d_Model_entry_97 : decode b_Model_entry 97 = .ok (.aload_n 0, 1) := by decide +kernel
theorem d_Model_entry_98 : decode b_Model_entry 98 = .ok (.iload_n 1, 1) := by decide +kernel
theorem d_Model_entry_99 : decode b_Model_entry 99 = .ok (.invokevirtual 198, 3) := by decide +kernel
theorem d_Model_entry_102 : decode b_Model_entry 102 = .ok (.ifCond .eq 7, 3) := by decide +kernel
theorem d_Model_entry_105 : decode b_Model_entry 105 = .ok (.iconst 1, 1) := by decide +kernel
theorem d_Model_entry_106 : decode b_Model_entry 106 = .ok (.goto 4, 3) := by decide +kernel
theorem d_Model_entry_109 : decode b_Model_entry 109 = .ok (.iconst 0, 1) := by decide +kernel
theorem d_Model_entry_110 : decode b_Model_entry 110 = .ok (.ireturn, 1) := by decide +kernel
theorem d_Model_entry_111 : decode b_Model_entry 111 = .ok (.iconst (-1), 1) := by decide +kernel
theorem d_Model_entry_112 : decode b_Model_entry 112 = .ok (.ireturn, 1) := by decide +kernel
abbrev b_Model_unit : ByteArray := prog_14_method_37_code
abbrev J_Model_unit : MethodName × ByteArray × Nat × Option FieldType := (⟨"FaslDeskModel", "unit", "(III)I"⟩, b_Model_unit, 5, (some .int))
theorem d_Model_unit_0 : decode b_Model_unit 0 = .ok (.iload_n 1, 1) := by decide +kernel
theorem d_Model_unit_1 : decode b_Model_unit 1 = .ok (.iconst 0, 1) := by decide +kernel
theorem d_Model_unit_2 : decode b_Model_unit 2 = .ok (.aload_n 0, 1) := by decide +kernel
theorem d_Model_unit_3 : decode b_Model_unit 3 = .ok (.getfield 172, 3) := by decide +kernel
theorem d_Model_unit_6 : decode b_Model_unit 6 = .ok (.iconst 1, 1) := by decide +kernel
theorem d_Model_unit_7 : decode b_Model_unit 7 = .ok (.isub, 1) := by decide +kernel
theorem d_Model_unit_8 : decode b_Model_unit 8 = .ok (.invokestatic 102, 3) := by decide +kernel
theorem d_Model_unit_11 : decode b_Model_unit 11 = .ok (.ifCond .eq 31, 3) := by decide +kernel
theorem d_Model_unit_14 : decode b_Model_unit 14 = .ok (.iload_n 2, 1) := by decide +kernel
theorem d_Model_unit_15 : decode b_Model_unit 15 = .ok (.iconst 0, 1) := by decide +kernel
theorem d_Model_unit_16 : decode b_Model_unit 16 = .ok (.aload_n 0, 1) := by decide +kernel
theorem d_Model_unit_17 : decode b_Model_unit 17 = .ok (.getfield 37, 3) := by decide +kernel
theorem d_Model_unit_20 : decode b_Model_unit 20 = .ok (.bipush 8, 2) := by decide +kernel
theorem d_Model_unit_22 : decode b_Model_unit 22 = .ok (.iload_n 1, 1) := by decide +kernel
theorem d_Model_unit_23 : decode b_Model_unit 23 = .ok (.iadd, 1) := by decide +kernel
theorem d_Model_unit_24 : decode b_Model_unit 24 = .ok (.iaload, 1) := by decide +kernel
theorem d_Model_unit_25 : decode b_Model_unit 25 = .ok (.iconst 1, 1) := by decide +kernel
theorem d_Model_unit_26 : decode b_Model_unit 26 = .ok (.isub, 1) := by decide +kernel
theorem d_Model_unit_27 : decode b_Model_unit 27 = .ok (.invokestatic 102, 3) := by decide +kernel
theorem d_Model_unit_30 : decode b_Model_unit 30 = .ok (.ifCond .eq 12, 3) := by decide +kernel
theorem d_Model_unit_33 : decode b_Model_unit 33 = .ok (.iload_n 3, 1) := by decide +kernel
theorem d_Model_unit_34 : decode b_Model_unit 34 = .ok (.iconst 0, 1) := by decide +kernel
theorem d_Model_unit_35 : decode b_Model_unit 35 = .ok (.iconst 2, 1) := by decide +kernel
theorem d_Model_unit_36 : decode b_Model_unit 36 = .ok (.invokestatic 102, 3) := by decide +kernel
theorem d_Model_unit_39 : decode b_Model_unit 39 = .ok (.ifCond .ne 5, 3) := by decide +kernel
theorem d_Model_unit_42 : decode b_Model_unit 42 = .ok (.iconst (-1), 1) := by decide +kernel
theorem d_Model_unit_43 : decode b_Model_unit 43 = .ok (.ireturn, 1) := by decide +kernel
theorem d_Model_unit_44 : decode b_Model_unit 44 = .ok (.sipush 280, 3) := by decide +kernel
theorem d_Model_unit_47 : decode b_Model_unit 47 = .ok (.bipush 8, 2) := by decide +kernel
theorem d_Model_unit_49 : decode b_Model_unit 49 = .ok (.iload_n 1, 1) := by decide +kernel
theorem d_Model_unit_50 : decode b_Model_unit 50 = .ok (.iadd, 1) := by decide +kernel
theorem d_Model_unit_51 : decode b_Model_unit 51 = .ok (.imul, 1) := by decide +kernel
theorem d_Model_unit_52 : decode b_Model_unit 52 = .ok (.iload_n 2, 1) := by decide +kernel
theorem d_Model_unit_53 : decode b_Model_unit 53 = .ok (.iadd, 1) := by decide +kernel
theorem d_Model_unit_54 : decode b_Model_unit 54 = .ok (.istore 4, 2) := by decide +kernel
theorem d_Model_unit_56 : decode b_Model_unit 56 = .ok (.iload_n 3, 1) := by decide +kernel
theorem d_Model_unit_57 : decode b_Model_unit 57 = .ok (.ifCond .ne 13, 3) := by decide +kernel
theorem d_Model_unit_60 : decode b_Model_unit 60 = .ok (.aload_n 0, 1) := by decide +kernel
theorem d_Model_unit_61 : decode b_Model_unit 61 = .ok (.getfield 28, 3) := by decide +kernel
theorem d_Model_unit_64 : decode b_Model_unit 64 = .ok (.iload 4, 2) := by decide +kernel
theorem d_Model_unit_66 : decode b_Model_unit 66 = .ok (.iaload, 1) := by decide +kernel
theorem d_Model_unit_67 : decode b_Model_unit 67 = .ok (.goto 25, 3) := by decide +kernel
theorem d_Model_unit_70 : decode b_Model_unit 70 = .ok (.iload_n 3, 1) := by decide +kernel
theorem d_Model_unit_71 : decode b_Model_unit 71 = .ok (.iconst 1, 1) := by decide +kernel
theorem d_Model_unit_72 : decode b_Model_unit 72 = .ok (.if_icmp .ne 13, 3) := by decide +kernel
theorem d_Model_unit_75 : decode b_Model_unit 75 = .ok (.aload_n 0, 1) := by decide +kernel
theorem d_Model_unit_76 : decode b_Model_unit 76 = .ok (.getfield 31, 3) := by decide +kernel
theorem d_Model_unit_79 : decode b_Model_unit 79 = .ok (.iload 4, 2) := by decide +kernel
theorem d_Model_unit_81 : decode b_Model_unit 81 = .ok (.iaload, 1) := by decide +kernel
theorem d_Model_unit_82 : decode b_Model_unit 82 = .ok (.goto 10, 3) := by decide +kernel
theorem d_Model_unit_85 : decode b_Model_unit 85 = .ok (.aload_n 0, 1) := by decide +kernel
theorem d_Model_unit_86 : decode b_Model_unit 86 = .ok (.getfield 34, 3) := by decide +kernel
theorem d_Model_unit_89 : decode b_Model_unit 89 = .ok (.iload 4, 2) := by decide +kernel
theorem d_Model_unit_91 : decode b_Model_unit 91 = .ok (.iaload, 1) := by decide +kernel
theorem d_Model_unit_92 : decode b_Model_unit 92 = .ok (.ireturn, 1) := by decide +kernel
abbrev b_Model_count : ByteArray := prog_14_method_38_code
abbrev J_Model_count : MethodName × ByteArray × Nat × Option FieldType := (⟨"FaslDeskModel", "count", "(I)I"⟩, b_Model_count, 4, (some .int))
theorem d_Model_count_0 : decode b_Model_count 0 = .ok (.iconst 0, 1) := by decide +kernel
theorem d_Model_count_1 : decode b_Model_count 1 = .ok (.istore_n 2, 1) := by decide +kernel
theorem d_Model_count_2 : decode b_Model_count 2 = .ok (.iload_n 1, 1) := by decide +kernel
theorem d_Model_count_3 : decode b_Model_count 3 = .ok (.tableswitch 134 0 7 #[45, 73, 78, 83, 111, 116, 121, 126], 45) := by decide +kernel
theorem d_Model_count_48 : decode b_Model_count 48 = .ok (.iconst 0, 1) := by decide +kernel
theorem d_Model_count_49 : decode b_Model_count 49 = .ok (.istore_n 3, 1) := by decide +kernel
theorem d_Model_count_50 : decode b_Model_count 50 = .ok (.iload_n 3, 1) := by decide +kernel
theorem d_Model_count_51 : decode b_Model_count 51 = .ok (.bipush 8, 2) := by decide +kernel
theorem d_Model_count_53 : decode b_Model_count 53 = .ok (.if_icmp .ge 21, 3) := by decide +kernel
theorem d_Model_count_56 : decode b_Model_count 56 = .ok (.aload_n 0, 1) := by decide +kernel
theorem d_Model_count_57 : decode b_Model_count 57 = .ok (.getfield 16, 3) := by decide +kernel
theorem d_Model_count_60 : decode b_Model_count 60 = .ok (.iload_n 3, 1) := by decide +kernel
theorem d_Model_count_61 : decode b_Model_count 61 = .ok (.iaload, 1) := by decide +kernel
theorem d_Model_count_62 : decode b_Model_count 62 = .ok (.ifCond .le 6, 3) := by decide +kernel
theorem d_Model_count_65 : decode b_Model_count 65 = .ok (.iinc 2 1, 3) := by decide +kernel
theorem d_Model_count_68 : decode b_Model_count 68 = .ok (.iinc 3 1, 3) := by decide +kernel
theorem d_Model_count_71 : decode b_Model_count 71 = .ok (.goto (-21), 3) := by decide +kernel
theorem d_Model_count_74 : decode b_Model_count 74 = .ok (.iload_n 2, 1) := by decide +kernel
theorem d_Model_count_75 : decode b_Model_count 75 = .ok (.ireturn, 1) := by decide +kernel
theorem d_Model_count_76 : decode b_Model_count 76 = .ok (.aload_n 0, 1) := by decide +kernel
theorem d_Model_count_77 : decode b_Model_count 77 = .ok (.getfield 172, 3) := by decide +kernel
theorem d_Model_count_80 : decode b_Model_count 80 = .ok (.ireturn, 1) := by decide +kernel
theorem d_Model_count_81 : decode b_Model_count 81 = .ok (.aload_n 0, 1) := by decide +kernel
theorem d_Model_count_82 : decode b_Model_count 82 = .ok (.getfield 181, 3) := by decide +kernel
theorem d_Model_count_85 : decode b_Model_count 85 = .ok (.ireturn, 1) := by decide +kernel
theorem d_Model_count_86 : decode b_Model_count 86 = .ok (.iconst 0, 1) := by decide +kernel
theorem d_Model_count_87 : decode b_Model_count 87 = .ok (.istore_n 3, 1) := by decide +kernel
theorem d_Model_count_88 : decode b_Model_count 88 = .ok (.iload_n 3, 1) := by decide +kernel
theorem d_Model_count_89 : decode b_Model_count 89 = .ok (.bipush 8, 2) := by decide +kernel
theorem d_Model_count_91 : decode b_Model_count 91 = .ok (.if_icmp .ge 21, 3) := by decide +kernel
theorem d_Model_count_94 : decode b_Model_count 94 = .ok (.aload_n 0, 1) := by decide +kernel
theorem d_Model_count_95 : decode b_Model_count 95 = .ok (.getfield 50, 3) := by decide +kernel
theorem d_Model_count_98 : decode b_Model_count 98 = .ok (.iload_n 3, 1) := by decide +kernel
theorem d_Model_count_99 : decode b_Model_count 99 = .ok (.baload, 1) := by decide +kernel
theorem d_Model_count_100 : decode b_Model_count 100 = .ok (.ifCond .eq 6, 3) := by decide +kernel
theorem d_Model_count_103 : decode b_Model_count 103 = .ok (.iinc 2 1, 3) := by decide +kernel
theorem d_Model_count_106 : decode b_Model_count 106 = .ok (.iinc 3 1, 3) := by decide +kernel
theorem d_Model_count_109 : decode b_Model_count 109 = .ok (.goto (-21), 3) := by decide +kernel
theorem d_Model_count_112 : decode b_Model_count 112 = .ok (.iload_n 2, 1) := by decide +kernel
theorem d_Model_count_113 : decode b_Model_count 113 = .ok (.ireturn, 1) := by decide +kernel
theorem d_Model_count_114 : decode b_Model_count 114 = .ok (.aload_n 0, 1) := by decide +kernel
theorem d_Model_count_115 : decode b_Model_count 115 = .ok (.getfield 201, 3) := by decide +kernel
theorem d_Model_count_118 : decode b_Model_count 118 = .ok (.ireturn, 1) := by decide +kernel
theorem d_Model_count_119 : decode b_Model_count 119 = .ok (.aload_n 0, 1) := by decide +kernel
theorem d_Model_count_120 : decode b_Model_count 120 = .ok (.getfield 191, 3) := by decide +kernel
theorem d_Model_count_123 : decode b_Model_count 123 = .ok (.ireturn, 1) := by decide +kernel
theorem d_Model_count_124 : decode b_Model_count 124 = .ok (.aload_n 0, 1) := by decide +kernel
theorem d_Model_count_125 : decode b_Model_count 125 = .ok (.getfield 98, 3) := by decide +kernel
theorem d_Model_count_128 : decode b_Model_count 128 = .ok (.ireturn, 1) := by decide +kernel
theorem d_Model_count_129 : decode b_Model_count 129 = .ok (.aload_n 0, 1) := by decide +kernel
theorem d_Model_count_130 : decode b_Model_count 130 = .ok (.getfield 16, 3) := by decide +kernel
theorem d_Model_count_133 : decode b_Model_count 133 = .ok (.bipush 8, 2) := by decide +kernel
theorem d_Model_count_135 : decode b_Model_count 135 = .ok (.iaload, 1) := by decide +kernel
theorem d_Model_count_136 : decode b_Model_count 136 = .ok (.ireturn, 1) := by decide +kernel
theorem d_Model_count_137 : decode b_Model_count 137 = .ok (.iconst (-1), 1) := by decide +kernel
theorem d_Model_count_138 : decode b_Model_count 138 = .ok (.ireturn, 1) := by decide +kernel
abbrev b_Arch_init : ByteArray := prog_2_method_1_code
abbrev J_Arch_init : MethodName × ByteArray × Nat × Option FieldType := (⟨"FaslDesk$Archive", "<init>", "()V"⟩, b_Arch_init, 2, none)
theorem d_Arch_init_0 : decode b_Arch_init 0 = .ok (.aload_n 0, 1) := by decide +kernel
theorem d_Arch_init_1 : decode b_Arch_init 1 = .ok (.invokespecial 3, 3) := by decide +kernel
theorem d_Arch_init_4 : decode b_Arch_init 4 = .ok (.aload_n 0, 1) := by decide +kernel
theorem d_Arch_init_5 : decode b_Arch_init 5 = .ok (.bipush 8, 2) := by decide +kernel
theorem d_Arch_init_7 : decode b_Arch_init 7 = .ok (.anewarray 9, 3) := by decide +kernel
theorem d_Arch_init_10 : decode b_Arch_init 10 = .ok (.putfield 11, 3) := by decide +kernel
theorem d_Arch_init_13 : decode b_Arch_init 13 = .ok (.aload_n 0, 1) := by decide +kernel
theorem d_Arch_init_14 : decode b_Arch_init 14 = .ok (.new 17, 3) := by decide +kernel
theorem d_Arch_init_17 : decode b_Arch_init 17 = .ok (.dup, 1) := by decide +kernel
theorem d_Arch_init_18 : decode b_Arch_init 18 = .ok (.invokespecial 19, 3) := by decide +kernel
theorem d_Arch_init_21 : decode b_Arch_init 21 = .ok (.putfield 20, 3) := by decide +kernel
theorem d_Arch_init_24 : decode b_Arch_init 24 = .ok (.iconst 0, 1) := by decide +kernel
theorem d_Arch_init_25 : decode b_Arch_init 25 = .ok (.istore_n 1, 1) := by decide +kernel
theorem d_Arch_init_26 : decode b_Arch_init 26 = .ok (.iload_n 1, 1) := by decide +kernel
theorem d_Arch_init_27 : decode b_Arch_init 27 = .ok (.bipush 8, 2) := by decide +kernel
theorem d_Arch_init_29 : decode b_Arch_init 29 = .ok (.if_icmp .ge 22, 3) := by decide +kernel
theorem d_Arch_init_32 : decode b_Arch_init 32 = .ok (.aload_n 0, 1) := by decide +kernel
theorem d_Arch_init_33 : decode b_Arch_init 33 = .ok (.getfield 11, 3) := by decide +kernel
theorem d_Arch_init_36 : decode b_Arch_init 36 = .ok (.iload_n 1, 1) := by decide +kernel
theorem d_Arch_init_37 : decode b_Arch_init 37 = .ok (.new 9, 3) := by decide +kernel
theorem d_Arch_init_40 : decode b_Arch_init 40 = .ok (.dup, 1) := by decide +kernel
theorem d_Arch_init_41 : decode b_Arch_init 41 = .ok (.invokespecial 24, 3) := by decide +kernel
theorem d_Arch_init_44 : decode b_Arch_init 44 = .ok (.aastore, 1) := by decide +kernel
theorem d_Arch_init_45 : decode b_Arch_init 45 = .ok (.iinc 1 1, 3) := by decide +kernel
theorem d_Arch_init_48 : decode b_Arch_init 48 = .ok (.goto (-22), 3) := by decide +kernel
theorem d_Arch_init_51 : decode b_Arch_init 51 = .ok (.return_, 1) := by decide +kernel
abbrev b_Arch_has : ByteArray := prog_2_method_2_code
abbrev J_Arch_has : MethodName × ByteArray × Nat × Option FieldType := (⟨"FaslDesk$Archive", "has", "(I)Z"⟩, b_Arch_has, 2, (some .boolean))
theorem d_Arch_has_0 : decode b_Arch_has 0 = .ok (.iload_n 1, 1) := by decide +kernel
theorem d_Arch_has_1 : decode b_Arch_has 1 = .ok (.ifCond .lt 15, 3) := by decide +kernel
theorem d_Arch_has_4 : decode b_Arch_has 4 = .ok (.iload_n 1, 1) := by decide +kernel
theorem d_Arch_has_5 : decode b_Arch_has 5 = .ok (.aload_n 0, 1) := by decide +kernel
theorem d_Arch_has_6 : decode b_Arch_has 6 = .ok (.getfield 25, 3) := by decide +kernel
theorem d_Arch_has_9 : decode b_Arch_has 9 = .ok (.if_icmp .ge 7, 3) := by decide +kernel
theorem d_Arch_has_12 : decode b_Arch_has 12 = .ok (.iconst 1, 1) := by decide +kernel
theorem d_Arch_has_13 : decode b_Arch_has 13 = .ok (.goto 4, 3) := by decide +kernel
theorem d_Arch_has_16 : decode b_Arch_has 16 = .ok (.iconst 0, 1) := by decide +kernel
theorem d_Arch_has_17 : decode b_Arch_has 17 = .ok (.ireturn, 1) := by decide +kernel
abbrev b_Arch_placeFor : ByteArray := prog_2_method_3_code
abbrev J_Arch_placeFor : MethodName × ByteArray × Nat × Option FieldType := (⟨"FaslDesk$Archive", "placeFor", "(I)I"⟩, b_Arch_placeFor, 3, (some .int))
theorem d_Arch_placeFor_0 : decode b_Arch_placeFor 0 = .ok (.iconst 0, 1) := by decide +kernel
theorem d_Arch_placeFor_1 : decode b_Arch_placeFor 1 = .ok (.istore_n 2, 1) := by decide +kernel
theorem d_Arch_placeFor_2 : decode b_Arch_placeFor 2 = .ok (.iload_n 2, 1) := by decide +kernel
theorem d_Arch_placeFor_3 : decode b_Arch_placeFor 3 = .ok (.aload_n 0, 1) := by decide +kernel
theorem d_Arch_placeFor_4 : decode b_Arch_placeFor 4 = .ok (.getfield 25, 3) := by decide +kernel
theorem d_Arch_placeFor_7 : decode b_Arch_placeFor 7 = .ok (.if_icmp .ge 24, 3) := by decide +kernel
theorem d_Arch_placeFor_10 : decode b_Arch_placeFor 10 = .ok (.aload_n 0, 1) := by decide +kernel
theorem d_Arch_placeFor_11 : decode b_Arch_placeFor 11 = .ok (.getfield 11, 3) := by decide +kernel
theorem d_Arch_placeFor_14 : decode b_Arch_placeFor 14 = .ok (.iload_n 2, 1) := by decide +kernel
theorem d_Arch_placeFor_15 : decode b_Arch_placeFor 15 = .ok (.aaload, 1) := by decide +kernel
theorem d_Arch_placeFor_16 : decode b_Arch_placeFor 16 = .ok (.getfield 29, 3) := by decide +kernel
theorem d_Arch_placeFor_19 : decode b_Arch_placeFor 19 = .ok (.iload_n 1, 1) := by decide +kernel
theorem d_Arch_placeFor_20 : decode b_Arch_placeFor 20 = .ok (.if_icmp .ne 5, 3) := by decide +kernel
theorem d_Arch_placeFor_23 : decode b_Arch_placeFor 23 = .ok (.iload_n 2, 1) := by decide +kernel
theorem d_Arch_placeFor_24 : decode b_Arch_placeFor 24 = .ok (.ireturn, 1) := by decide +kernel
theorem d_Arch_placeFor_25 : decode b_Arch_placeFor 25 = .ok (.iinc 2 1, 3) := by decide +kernel
theorem d_Arch_placeFor_28 : decode b_Arch_placeFor 28 = .ok (.goto (-26), 3) := by decide +kernel
theorem d_Arch_placeFor_31 : decode b_Arch_placeFor 31 = .ok (.aload_n 0, 1) := by decide +kernel
theorem d_Arch_placeFor_32 : decode b_Arch_placeFor 32 = .ok (.getfield 25, 3) := by decide +kernel
theorem d_Arch_placeFor_35 : decode b_Arch_placeFor 35 = .ok (.ireturn, 1) := by decide +kernel
abbrev b_Arch_keepWith : ByteArray := prog_2_method_4_code
abbrev J_Arch_keepWith : MethodName × ByteArray × Nat × Option FieldType := (⟨"FaslDesk$Archive", "keepWith", "(I)V"⟩, b_Arch_keepWith, 2, none)
theorem d_Arch_keepWith_0 : decode b_Arch_keepWith 0 = .ok (.aload_n 0, 1) := by decide +kernel
theorem d_Arch_keepWith_1 : decode b_Arch_keepWith 1 = .ok (.aload_n 0, 1) := by decide +kernel
theorem d_Arch_keepWith_2 : decode b_Arch_keepWith 2 = .ok (.getfield 25, 3) := by decide +kernel
theorem d_Arch_keepWith_5 : decode b_Arch_keepWith 5 = .ok (.iload_n 1, 1) := by decide +kernel
theorem d_Arch_keepWith_6 : decode b_Arch_keepWith 6 = .ok (.iconst 1, 1) := by decide +kernel
theorem d_Arch_keepWith_7 : decode b_Arch_keepWith 7 = .ok (.iadd, 1) := by decide +kernel
theorem d_Arch_keepWith_8 : decode b_Arch_keepWith 8 = .ok (.invokestatic 32, 3) := by decide +kernel
theorem d_Arch_keepWith_11 : decode b_Arch_keepWith 11 = .ok (.putfield 25, 3) := by decide +kernel
theorem d_Arch_keepWith_14 : decode b_Arch_keepWith 14 = .ok (.aload_n 0, 1) := by decide +kernel
theorem d_Arch_keepWith_15 : decode b_Arch_keepWith 15 = .ok (.aload_n 0, 1) := by decide +kernel
theorem d_Arch_keepWith_16 : decode b_Arch_keepWith 16 = .ok (.getfield 25, 3) := by decide +kernel
theorem d_Arch_keepWith_19 : decode b_Arch_keepWith 19 = .ok (.putfield 38, 3) := by decide +kernel
theorem d_Arch_keepWith_22 : decode b_Arch_keepWith 22 = .ok (.return_, 1) := by decide +kernel
abbrev b_Arch_remove : ByteArray := prog_2_method_5_code
abbrev J_Arch_remove : MethodName × ByteArray × Nat × Option FieldType := (⟨"FaslDesk$Archive", "remove", "(I)I"⟩, b_Arch_remove, 4, (some .int))
theorem d_Arch_remove_0 : decode b_Arch_remove 0 = .ok (.aload_n 0, 1) := by decide +kernel
theorem d_Arch_remove_1 : decode b_Arch_remove 1 = .ok (.getfield 11, 3) := by decide +kernel
theorem d_Arch_remove_4 : decode b_Arch_remove 4 = .ok (.iload_n 1, 1) := by decide +kernel
theorem d_Arch_remove_5 : decode b_Arch_remove 5 = .ok (.aaload, 1) := by decide +kernel
theorem d_Arch_remove_6 : decode b_Arch_remove 6 = .ok (.astore_n 2, 1) := by decide +kernel
theorem d_Arch_remove_7 : decode b_Arch_remove 7 = .ok (.iload_n 1, 1) := by decide +kernel
theorem d_Arch_remove_8 : decode b_Arch_remove 8 = .ok (.istore_n 3, 1) := by decide +kernel
theorem d_Arch_remove_9 : decode b_Arch_remove 9 = .ok (.iload_n 3, 1) := by decide +kernel
theorem d_Arch_remove_10 : decode b_Arch_remove 10 = .ok (.aload_n 0, 1) := by decide +kernel
theorem d_Arch_remove_11 : decode b_Arch_remove 11 = .ok (.getfield 25, 3) := by decide +kernel
theorem d_Arch_remove_14 : decode b_Arch_remove 14 = .ok (.iconst 1, 1) := by decide +kernel
theorem d_Arch_remove_15 : decode b_Arch_remove 15 = .ok (.isub, 1) := by decide +kernel
theorem d_Arch_remove_16 : decode b_Arch_remove 16 = .ok (.if_icmp .ge 23, 3) := by decide +kernel
theorem d_Arch_remove_19 : decode b_Arch_remove 19 = .ok (.aload_n 0, 1) := by decide +kernel
theorem d_Arch_remove_20 : decode b_Arch_remove 20 = .ok (.getfield 11, 3) := by decide +kernel
theorem d_Arch_remove_23 : decode b_Arch_remove 23 = .ok (.iload_n 3, 1) := by decide +kernel
theorem d_Arch_remove_24 : decode b_Arch_remove 24 = .ok (.aload_n 0, 1) := by decide +kernel
theorem d_Arch_remove_25 : decode b_Arch_remove 25 = .ok (.getfield 11, 3) := by decide +kernel
theorem d_Arch_remove_28 : decode b_Arch_remove 28 = .ok (.iload_n 3, 1) := by decide +kernel
theorem d_Arch_remove_29 : decode b_Arch_remove 29 = .ok (.iconst 1, 1) := by decide +kernel
theorem d_Arch_remove_30 : decode b_Arch_remove 30 = .ok (.iadd, 1) := by decide +kernel
theorem d_Arch_remove_31 : decode b_Arch_remove 31 = .ok (.aaload, 1) := by decide +kernel
theorem d_Arch_remove_32 : decode b_Arch_remove 32 = .ok (.aastore, 1) := by decide +kernel
theorem d_Arch_remove_33 : decode b_Arch_remove 33 = .ok (.iinc 3 1, 3) := by decide +kernel
theorem d_Arch_remove_36 : decode b_Arch_remove 36 = .ok (.goto (-27), 3) := by decide +kernel
theorem d_Arch_remove_39 : decode b_Arch_remove 39 = .ok (.aload_n 0, 1) := by decide +kernel
theorem d_Arch_remove_40 : decode b_Arch_remove 40 = .ok (.dup, 1) := by decide +kernel
theorem d_Arch_remove_41 : decode b_Arch_remove 41 = .ok (.getfield 25, 3) := by decide +kernel
theorem d_Arch_remove_44 : decode b_Arch_remove 44 = .ok (.iconst 1, 1) := by decide +kernel
theorem d_Arch_remove_45 : decode b_Arch_remove 45 = .ok (.isub, 1) := by decide +kernel
theorem d_Arch_remove_46 : decode b_Arch_remove 46 = .ok (.putfield 25, 3) := by decide +kernel
theorem d_Arch_remove_49 : decode b_Arch_remove 49 = .ok (.aload_n 0, 1) := by decide +kernel
theorem d_Arch_remove_50 : decode b_Arch_remove 50 = .ok (.getfield 11, 3) := by decide +kernel
theorem d_Arch_remove_53 : decode b_Arch_remove 53 = .ok (.aload_n 0, 1) := by decide +kernel
theorem d_Arch_remove_54 : decode b_Arch_remove 54 = .ok (.getfield 25, 3) := by decide +kernel
theorem d_Arch_remove_57 : decode b_Arch_remove 57 = .ok (.aload_n 2, 1) := by decide +kernel
theorem d_Arch_remove_58 : decode b_Arch_remove 58 = .ok (.aastore, 1) := by decide +kernel
theorem d_Arch_remove_59 : decode b_Arch_remove 59 = .ok (.aload_n 0, 1) := by decide +kernel
theorem d_Arch_remove_60 : decode b_Arch_remove 60 = .ok (.aload_n 0, 1) := by decide +kernel
theorem d_Arch_remove_61 : decode b_Arch_remove 61 = .ok (.getfield 25, 3) := by decide +kernel
theorem d_Arch_remove_64 : decode b_Arch_remove 64 = .ok (.putfield 38, 3) := by decide +kernel
theorem d_Arch_remove_67 : decode b_Arch_remove 67 = .ok (.aload_n 2, 1) := by decide +kernel
theorem d_Arch_remove_68 : decode b_Arch_remove 68 = .ok (.getfield 29, 3) := by decide +kernel
theorem d_Arch_remove_71 : decode b_Arch_remove 71 = .ok (.ireturn, 1) := by decide +kernel
abbrev b_Arch_findFault : ByteArray := prog_2_method_6_code
abbrev J_Arch_findFault : MethodName × ByteArray × Nat × Option FieldType := (⟨"FaslDesk$Archive", "findFault", "()I"⟩, b_Arch_findFault, 2, (some .int))
theorem d_Arch_findFault_0 : decode b_Arch_findFault 0 = .ok (.aload_n 0, 1) := by decide +kernel
theorem d_Arch_findFault_1 : decode b_Arch_findFault 1 = .ok (.iconst (-1), 1) := by decide +kernel
theorem d_Arch_findFault_2 : decode b_Arch_findFault 2 = .ok (.putfield 41, 3) := by decide +kernel
theorem d_Arch_findFault_5 : decode b_Arch_findFault 5 = .ok (.aload_n 0, 1) := by decide +kernel
theorem d_Arch_findFault_6 : decode b_Arch_findFault 6 = .ok (.getfield 44, 3) := by decide +kernel
theorem d_Arch_findFault_9 : decode b_Arch_findFault 9 = .ok (.ifCond .eq 5, 3) := by decide +kernel
theorem d_Arch_findFault_12 : decode b_Arch_findFault 12 = .ok (.iconst 1, 1) := by decide +kernel
theorem d_Arch_findFault_13 : decode b_Arch_findFault 13 = .ok (.ireturn, 1) := by decide +kernel
theorem d_Arch_findFault_14 : decode b_Arch_findFault 14 = .ok (.aload_n 0, 1) := by decide +kernel
theorem d_Arch_findFault_15 : decode b_Arch_findFault 15 = .ok (.getfield 38, 3) := by decide +kernel
theorem d_Arch_findFault_18 : decode b_Arch_findFault 18 = .ok (.aload_n 0, 1) := by decide +kernel
theorem d_Arch_findFault_19 : decode b_Arch_findFault 19 = .ok (.getfield 25, 3) := by decide +kernel
theorem d_Arch_findFault_22 : decode b_Arch_findFault 22 = .ok (.if_icmp .eq 20, 3) := by decide +kernel
theorem d_Arch_findFault_25 : decode b_Arch_findFault 25 = .ok (.aload_n 0, 1) := by decide +kernel
theorem d_Arch_findFault_26 : decode b_Arch_findFault 26 = .ok (.getfield 38, 3) := by decide +kernel
theorem d_Arch_findFault_29 : decode b_Arch_findFault 29 = .ok (.aload_n 0, 1) := by decide +kernel
theorem d_Arch_findFault_30 : decode b_Arch_findFault 30 = .ok (.getfield 25, 3) := by decide +kernel
theorem d_Arch_findFault_33 : decode b_Arch_findFault 33 = .ok (.if_icmp .le 7, 3) := by decide +kernel
theorem d_Arch_findFault_36 : decode b_Arch_findFault 36 = .ok (.iconst 2, 1) := by decide +kernel
theorem d_Arch_findFault_37 : decode b_Arch_findFault 37 = .ok (.goto 4, 3) := by decide +kernel
theorem d_Arch_findFault_40 : decode b_Arch_findFault 40 = .ok (.iconst 3, 1) := by decide +kernel
theorem d_Arch_findFault_41 : decode b_Arch_findFault 41 = .ok (.ireturn, 1) := by decide +kernel
theorem d_Arch_findFault_42 : decode b_Arch_findFault 42 = .ok (.aload_n 0, 1) := by decide +kernel
theorem d_Arch_findFault_43 : decode b_Arch_findFault 43 = .ok (.invokevirtual 47, 3) := by decide +kernel
theorem d_Arch_findFault_46 : decode b_Arch_findFault 46 = .ok (.istore_n 1, 1) := by decide +kernel
theorem d_Arch_findFault_47 : decode b_Arch_findFault 47 = .ok (.iload_n 1, 1) := by decide +kernel
theorem d_Arch_findFault_48 : decode b_Arch_findFault 48 = .ok (.ifCond .ne 8, 3) := by decide +kernel
theorem d_Arch_findFault_51 : decode b_Arch_findFault 51 = .ok (.aload_n 0, 1) := by decide +kernel
theorem d_Arch_findFault_52 : decode b_Arch_findFault 52 = .ok (.invokevirtual 51, 3) := by decide +kernel
theorem d_Arch_findFault_55 : decode b_Arch_findFault 55 = .ok (.istore_n 1, 1) := by decide +kernel
theorem d_Arch_findFault_56 : decode b_Arch_findFault 56 = .ok (.iload_n 1, 1) := by decide +kernel
theorem d_Arch_findFault_57 : decode b_Arch_findFault 57 = .ok (.ifCond .ne 8, 3) := by decide +kernel
theorem d_Arch_findFault_60 : decode b_Arch_findFault 60 = .ok (.aload_n 0, 1) := by decide +kernel
theorem d_Arch_findFault_61 : decode b_Arch_findFault 61 = .ok (.invokevirtual 54, 3) := by decide +kernel
theorem d_Arch_findFault_64 : decode b_Arch_findFault 64 = .ok (.istore_n 1, 1) := by decide +kernel
theorem d_Arch_findFault_65 : decode b_Arch_findFault 65 = .ok (.iload_n 1, 1) := by decide +kernel
theorem d_Arch_findFault_66 : decode b_Arch_findFault 66 = .ok (.ireturn, 1) := by decide +kernel
abbrev b_Arch_findOddEntry : ByteArray := prog_2_method_7_code
abbrev J_Arch_findOddEntry : MethodName × ByteArray × Nat × Option FieldType := (⟨"FaslDesk$Archive", "findOddEntry", "()I"⟩, b_Arch_findOddEntry, 2, (some .int))
theorem d_Arch_findOddEntry_0 : decode b_Arch_findOddEntry 0 = .ok (.iconst 0, 1) := by decide +kernel
theorem d_Arch_findOddEntry_1 : decode b_Arch_findOddEntry 1 = .ok (.istore_n 1, 1) := by decide +kernel
theorem d_Arch_findOddEntry_2 : decode b_Arch_findOddEntry 2 = .ok (.iload_n 1, 1) := by decide +kernel
theorem d_Arch_findOddEntry_3 : decode b_Arch_findOddEntry 3 = .ok (.aload_n 0, 1) := by decide +kernel
theorem d_Arch_findOddEntry_4 : decode b_Arch_findOddEntry 4 = .ok (.getfield 25, 3) := by decide +kernel
theorem d_Arch_findOddEntry_7 : decode b_Arch_findOddEntry 7 = .ok (.if_icmp .ge 47, 3) := by decide +kernel
theorem d_Arch_findOddEntry_10 : decode b_Arch_findOddEntry 10 = .ok (.aload_n 0, 1) := by decide +kernel
theorem d_Arch_findOddEntry_11 : decode b_Arch_findOddEntry 11 = .ok (.iload_n 1, 1) := by decide +kernel
theorem d_Arch_findOddEntry_12 : decode b_Arch_findOddEntry 12 = .ok (.putfield 41, 3) := by decide +kernel
theorem d_Arch_findOddEntry_15 : decode b_Arch_findOddEntry 15 = .ok (.aload_n 0, 1) := by decide +kernel
theorem d_Arch_findOddEntry_16 : decode b_Arch_findOddEntry 16 = .ok (.getfield 11, 3) := by decide +kernel
theorem d_Arch_findOddEntry_19 : decode b_Arch_findOddEntry 19 = .ok (.iload_n 1, 1) := by decide +kernel
theorem d_Arch_findOddEntry_20 : decode b_Arch_findOddEntry 20 = .ok (.aaload, 1) := by decide +kernel
theorem d_Arch_findOddEntry_21 : decode b_Arch_findOddEntry 21 = .ok (.invokevirtual 57, 3) := by decide +kernel
theorem d_Arch_findOddEntry_24 : decode b_Arch_findOddEntry 24 = .ok (.ifCond .ne 5, 3) := by decide +kernel
theorem d_Arch_findOddEntry_27 : decode b_Arch_findOddEntry 27 = .ok (.iconst 4, 1) := by decide +kernel
theorem d_Arch_findOddEntry_28 : decode b_Arch_findOddEntry 28 = .ok (.ireturn, 1) := by decide +kernel
theorem d_Arch_findOddEntry_29 : decode b_Arch_findOddEntry 29 = .ok (.aload_n 0, 1) := by decide +kernel
theorem d_Arch_findOddEntry_30 : decode b_Arch_findOddEntry 30 = .ok (.aload_n 0, 1) := by decide +kernel
theorem d_Arch_findOddEntry_31 : decode b_Arch_findOddEntry 31 = .ok (.getfield 11, 3) := by decide +kernel
theorem d_Arch_findOddEntry_34 : decode b_Arch_findOddEntry 34 = .ok (.iload_n 1, 1) := by decide +kernel
theorem d_Arch_findOddEntry_35 : decode b_Arch_findOddEntry 35 = .ok (.aaload, 1) := by decide +kernel
theorem d_Arch_findOddEntry_36 : decode b_Arch_findOddEntry 36 = .ok (.getfield 29, 3) := by decide +kernel
theorem d_Arch_findOddEntry_39 : decode b_Arch_findOddEntry 39 = .ok (.invokevirtual 61, 3) := by decide +kernel
theorem d_Arch_findOddEntry_42 : decode b_Arch_findOddEntry 42 = .ok (.iload_n 1, 1) := by decide +kernel
theorem d_Arch_findOddEntry_43 : decode b_Arch_findOddEntry 43 = .ok (.if_icmp .ge 5, 3) := by decide +kernel
theorem d_Arch_findOddEntry_46 : decode b_Arch_findOddEntry 46 = .ok (.iconst 5, 1) := by decide +kernel
theorem d_Arch_findOddEntry_47 : decode b_Arch_findOddEntry 47 = .ok (.ireturn, 1) := by decide +kernel
theorem d_Arch_findOddEntry_48 : decode b_Arch_findOddEntry 48 = .ok (.iinc 1 1, 3) := by decide +kernel
theorem d_Arch_findOddEntry_51 : decode b_Arch_findOddEntry 51 = .ok (.goto (-49), 3) := by decide +kernel
theorem d_Arch_findOddEntry_54 : decode b_Arch_findOddEntry 54 = .ok (.iconst 0, 1) := by decide +kernel
theorem d_Arch_findOddEntry_55 : decode b_Arch_findOddEntry 55 = .ok (.ireturn, 1) := by decide +kernel
abbrev b_Arch_findOddClass : ByteArray := prog_2_method_8_code
abbrev J_Arch_findOddClass : MethodName × ByteArray × Nat × Option FieldType := (⟨"FaslDesk$Archive", "findOddClass", "()I"⟩, b_Arch_findOddClass, 2, (some .int))
theorem d_Arch_findOddClass_0 : decode b_Arch_findOddClass 0 = .ok (.iconst 0, 1) := by decide +kernel
theorem d_Arch_findOddClass_1 : decode b_Arch_findOddClass 1 = .ok (.istore_n 1, 1) := by decide +kernel
theorem d_Arch_findOddClass_2 : decode b_Arch_findOddClass 2 = .ok (.iload_n 1, 1) := by decide +kernel
theorem d_Arch_findOddClass_3 : decode b_Arch_findOddClass 3 = .ok (.aload_n 0, 1) := by decide +kernel
theorem d_Arch_findOddClass_4 : decode b_Arch_findOddClass 4 = .ok (.getfield 25, 3) := by decide +kernel
theorem d_Arch_findOddClass_7 : decode b_Arch_findOddClass 7 = .ok (.if_icmp .ge 53, 3) := by decide +kernel
theorem d_Arch_findOddClass_10 : decode b_Arch_findOddClass 10 = .ok (.aload_n 0, 1) := by decide +kernel
theorem d_Arch_findOddClass_11 : decode b_Arch_findOddClass 11 = .ok (.iload_n 1, 1) := by decide +kernel
theorem d_Arch_findOddClass_12 : decode b_Arch_findOddClass 12 = .ok (.putfield 41, 3) := by decide +kernel
theorem d_Arch_findOddClass_15 : decode b_Arch_findOddClass 15 = .ok (.aload_n 0, 1) := by decide +kernel
theorem d_Arch_findOddClass_16 : decode b_Arch_findOddClass 16 = .ok (.getfield 11, 3) := by decide +kernel
theorem d_Arch_findOddClass_19 : decode b_Arch_findOddClass 19 = .ok (.iload_n 1, 1) := by decide +kernel
theorem d_Arch_findOddClass_20 : decode b_Arch_findOddClass 20 = .ok (.aaload, 1) := by decide +kernel
theorem d_Arch_findOddClass_21 : decode b_Arch_findOddClass 21 = .ok (.getfield 65, 3) := by decide +kernel
theorem d_Arch_findOddClass_24 : decode b_Arch_findOddClass 24 = .ok (.ifCond .eq 6, 3) := by decide +kernel
theorem d_Arch_findOddClass_27 : decode b_Arch_findOddClass 27 = .ok (.bipush 6, 2) := by decide +kernel
theorem d_Arch_findOddClass_29 : decode b_Arch_findOddClass 29 = .ok (.ireturn, 1) := by decide +kernel
theorem d_Arch_findOddClass_30 : decode b_Arch_findOddClass 30 = .ok (.aload_n 0, 1) := by decide +kernel
theorem d_Arch_findOddClass_31 : decode b_Arch_findOddClass 31 = .ok (.getfield 11, 3) := by decide +kernel
theorem d_Arch_findOddClass_34 : decode b_Arch_findOddClass 34 = .ok (.iload_n 1, 1) := by decide +kernel
theorem d_Arch_findOddClass_35 : decode b_Arch_findOddClass 35 = .ok (.aaload, 1) := by decide +kernel
theorem d_Arch_findOddClass_36 : decode b_Arch_findOddClass 36 = .ok (.getfield 69, 3) := by decide +kernel
theorem d_Arch_findOddClass_39 : decode b_Arch_findOddClass 39 = .ok (.aload_n 0, 1) := by decide +kernel
theorem d_Arch_findOddClass_40 : decode b_Arch_findOddClass 40 = .ok (.getfield 11, 3) := by decide +kernel
theorem d_Arch_findOddClass_43 : decode b_Arch_findOddClass 43 = .ok (.iload_n 1, 1) := by decide +kernel
theorem d_Arch_findOddClass_44 : decode b_Arch_findOddClass 44 = .ok (.aaload, 1) := by decide +kernel
theorem d_Arch_findOddClass_45 : decode b_Arch_findOddClass 45 = .ok (.getfield 29, 3) := by decide +kernel
theorem d_Arch_findOddClass_48 : decode b_Arch_findOddClass 48 = .ok (.if_icmp .eq 6, 3) := by decide +kernel
theorem d_Arch_findOddClass_51 : decode b_Arch_findOddClass 51 = .ok (.bipush 7, 2) := by decide +kernel
theorem d_Arch_findOddClass_53 : decode b_Arch_findOddClass 53 = .ok (.ireturn, 1) := by decide +kernel
theorem d_Arch_findOddClass_54 : decode b_Arch_findOddClass 54 = .ok (.iinc 1 1, 3) := by decide +kernel
theorem d_Arch_findOddClass_57 : decode b_Arch_findOddClass 57 = .ok (.goto (-55), 3) := by decide +kernel
theorem d_Arch_findOddClass_60 : decode b_Arch_findOddClass 60 = .ok (.iconst 0, 1) := by decide +kernel
theorem d_Arch_findOddClass_61 : decode b_Arch_findOddClass 61 = .ok (.ireturn, 1) := by decide +kernel
abbrev b_Arch_findOddCode : ByteArray := prog_2_method_9_code
abbrev J_Arch_findOddCode : MethodName × ByteArray × Nat × Option FieldType := (⟨"FaslDesk$Archive", "findOddCode", "()I"⟩, b_Arch_findOddCode, 2, (some .int))
theorem d_Arch_findOddCode_0 : decode b_Arch_findOddCode 0 = .ok (.iconst 0, 1) := by decide +kernel
theorem d_Arch_findOddCode_1 : decode b_Arch_findOddCode 1 = .ok (.istore_n 1, 1) := by decide +kernel
theorem d_Arch_findOddCode_2 : decode b_Arch_findOddCode 2 = .ok (.iload_n 1, 1) := by decide +kernel
theorem d_Arch_findOddCode_3 : decode b_Arch_findOddCode 3 = .ok (.aload_n 0, 1) := by decide +kernel
theorem d_Arch_findOddCode_4 : decode b_Arch_findOddCode 4 = .ok (.getfield 25, 3) := by decide +kernel
theorem d_Arch_findOddCode_7 : decode b_Arch_findOddCode 7 = .ok (.if_icmp .ge 45, 3) := by decide +kernel
theorem d_Arch_findOddCode_10 : decode b_Arch_findOddCode 10 = .ok (.aload_n 0, 1) := by decide +kernel
theorem d_Arch_findOddCode_11 : decode b_Arch_findOddCode 11 = .ok (.iload_n 1, 1) := by decide +kernel
theorem d_Arch_findOddCode_12 : decode b_Arch_findOddCode 12 = .ok (.putfield 41, 3) := by decide +kernel
theorem d_Arch_findOddCode_15 : decode b_Arch_findOddCode 15 = .ok (.aload_n 0, 1) := by decide +kernel
theorem d_Arch_findOddCode_16 : decode b_Arch_findOddCode 16 = .ok (.getfield 20, 3) := by decide +kernel
theorem d_Arch_findOddCode_19 : decode b_Arch_findOddCode 19 = .ok (.aload_n 0, 1) := by decide +kernel
theorem d_Arch_findOddCode_20 : decode b_Arch_findOddCode 20 = .ok (.getfield 11, 3) := by decide +kernel
theorem d_Arch_findOddCode_23 : decode b_Arch_findOddCode 23 = .ok (.iload_n 1, 1) := by decide +kernel
theorem d_Arch_findOddCode_24 : decode b_Arch_findOddCode 24 = .ok (.aaload, 1) := by decide +kernel
theorem d_Arch_findOddCode_25 : decode b_Arch_findOddCode 25 = .ok (.getfield 72, 3) := by decide +kernel
theorem d_Arch_findOddCode_28 : decode b_Arch_findOddCode 28 = .ok (.aload_n 0, 1) := by decide +kernel
theorem d_Arch_findOddCode_29 : decode b_Arch_findOddCode 29 = .ok (.getfield 11, 3) := by decide +kernel
theorem d_Arch_findOddCode_32 : decode b_Arch_findOddCode 32 = .ok (.iload_n 1, 1) := by decide +kernel
theorem d_Arch_findOddCode_33 : decode b_Arch_findOddCode 33 = .ok (.aaload, 1) := by decide +kernel
theorem d_Arch_findOddCode_34 : decode b_Arch_findOddCode 34 = .ok (.getfield 76, 3) := by decide +kernel
theorem d_Arch_findOddCode_37 : decode b_Arch_findOddCode 37 = .ok (.invokevirtual 79, 3) := by decide +kernel
theorem d_Arch_findOddCode_40 : decode b_Arch_findOddCode 40 = .ok (.ifCond .ne 6, 3) := by decide +kernel
theorem d_Arch_findOddCode_43 : decode b_Arch_findOddCode 43 = .ok (.bipush 8, 2) := by decide +kernel
theorem d_Arch_findOddCode_45 : decode b_Arch_findOddCode 45 = .ok (.ireturn, 1) := by decide +kernel
theorem d_Arch_findOddCode_46 : decode b_Arch_findOddCode 46 = .ok (.iinc 1 1, 3) := by decide +kernel
theorem d_Arch_findOddCode_49 : decode b_Arch_findOddCode 49 = .ok (.goto (-47), 3) := by decide +kernel
theorem d_Arch_findOddCode_52 : decode b_Arch_findOddCode 52 = .ok (.iconst 0, 1) := by decide +kernel
theorem d_Arch_findOddCode_53 : decode b_Arch_findOddCode 53 = .ok (.ireturn, 1) := by decide +kernel
abbrev b_Code_init : ByteArray := prog_3_method_1_code
abbrev J_Code_init : MethodName × ByteArray × Nat × Option FieldType := (⟨"FaslDesk$Code", "<init>", "()V"⟩, b_Code_init, 1, none)
theorem d_Code_init_0 : decode b_Code_init 0 = .ok (.aload_n 0, 1) := by decide +kernel
theorem d_Code_init_1 : decode b_Code_init 1 = .ok (.invokespecial 3, 3) := by decide +kernel
theorem d_Code_init_4 : decode b_Code_init 4 = .ok (.aload_n 0, 1) := by decide +kernel
theorem d_Code_init_5 : decode b_Code_init 5 = .ok (.sipush 265, 3) := by decide +kernel
theorem d_Code_init_8 : decode b_Code_init 8 = .ok (.newarray .int, 2) := by decide +kernel
theorem d_Code_init_10 : decode b_Code_init 10 = .ok (.putfield 9, 3) := by decide +kernel
theorem d_Code_init_13 : decode b_Code_init 13 = .ok (.aload_n 0, 1) := by decide +kernel
theorem d_Code_init_14 : decode b_Code_init 14 = .ok (.sipush 265, 3) := by decide +kernel
theorem d_Code_init_17 : decode b_Code_init 17 = .ok (.newarray .int, 2) := by decide +kernel
theorem d_Code_init_19 : decode b_Code_init 19 = .ok (.putfield 15, 3) := by decide +kernel
theorem d_Code_init_22 : decode b_Code_init 22 = .ok (.aload_n 0, 1) := by decide +kernel
theorem d_Code_init_23 : decode b_Code_init 23 = .ok (.sipush 265, 3) := by decide +kernel
theorem d_Code_init_26 : decode b_Code_init 26 = .ok (.newarray .int, 2) := by decide +kernel
theorem d_Code_init_28 : decode b_Code_init 28 = .ok (.putfield 18, 3) := by decide +kernel
theorem d_Code_init_31 : decode b_Code_init 31 = .ok (.return_, 1) := by decide +kernel
abbrev b_Code_forgeable : ByteArray := prog_3_method_2_code
abbrev J_Code_forgeable : MethodName × ByteArray × Nat × Option FieldType := (⟨"FaslDesk$Code", "forgeable", "(I)Z"⟩, b_Code_forgeable, 1, (some .boolean))
theorem d_Code_forgeable_0 : decode b_Code_forgeable 0 = .ok (.iload_n 0, 1) := by decide +kernel
theorem d_Code_forgeable_1 : decode b_Code_forgeable 1 = .ok (.iconst 2, 1) := by decide +kernel
theorem d_Code_forgeable_2 : decode b_Code_forgeable 2 = .ok (.bipush 12, 2) := by decide +kernel
theorem d_Code_forgeable_4 : decode b_Code_forgeable 4 = .ok (.invokestatic 21, 3) := by decide +kernel
theorem d_Code_forgeable_7 : decode b_Code_forgeable 7 = .ok (.ifCond .ne 14, 3) := by decide +kernel
theorem d_Code_forgeable_10 : decode b_Code_forgeable 10 = .ok (.iload_n 0, 1) := by decide +kernel
theorem d_Code_forgeable_11 : decode b_Code_forgeable 11 = .ok (.bipush 17, 2) := by decide +kernel
theorem d_Code_forgeable_13 : decode b_Code_forgeable 13 = .ok (.bipush 21, 2) := by decide +kernel
theorem d_Code_forgeable_15 : decode b_Code_forgeable 15 = .ok (.invokestatic 21, 3) := by decide +kernel
theorem d_Code_forgeable_18 : decode b_Code_forgeable 18 = .ok (.ifCond .eq 7, 3) := by decide +kernel
theorem d_Code_forgeable_21 : decode b_Code_forgeable 21 = .ok (.iconst 1, 1) := by decide +kernel
theorem d_Code_forgeable_22 : decode b_Code_forgeable 22 = .ok (.goto 4, 3) := by decide +kernel
theorem d_Code_forgeable_25 : decode b_Code_forgeable 25 = .ok (.iconst 0, 1) := by decide +kernel
theorem d_Code_forgeable_26 : decode b_Code_forgeable 26 = .ok (.ireturn, 1) := by decide +kernel
abbrev b_Code_append : ByteArray := prog_3_method_3_code
abbrev J_Code_append : MethodName × ByteArray × Nat × Option FieldType := (⟨"FaslDesk$Code", "append", "(II)V"⟩, b_Code_append, 3, none)
theorem d_Code_append_0 : decode b_Code_append 0 = .ok (.aload_n 0, 1) := by decide +kernel
theorem d_Code_append_1 : decode b_Code_append 1 = .ok (.getfield 25, 3) := by decide +kernel
theorem d_Code_append_4 : decode b_Code_append 4 = .ok (.sipush 265, 3) := by decide +kernel
theorem d_Code_append_7 : decode b_Code_append 7 = .ok (.if_icmp .ge 43, 3) := by decide +kernel
theorem d_Code_append_10 : decode b_Code_append 10 = .ok (.aload_n 0, 1) := by decide +kernel
theorem d_Code_append_11 : decode b_Code_append 11 = .ok (.getfield 9, 3) := by decide +kernel
theorem d_Code_append_14 : decode b_Code_append 14 = .ok (.aload_n 0, 1) := by decide +kernel
theorem d_Code_append_15 : decode b_Code_append 15 = .ok (.getfield 25, 3) := by decide +kernel
theorem d_Code_append_18 : decode b_Code_append 18 = .ok (.iload_n 1, 1) := by decide +kernel
theorem d_Code_append_19 : decode b_Code_append 19 = .ok (.iastore, 1) := by decide +kernel
theorem d_Code_append_20 : decode b_Code_append 20 = .ok (.aload_n 0, 1) := by decide +kernel
theorem d_Code_append_21 : decode b_Code_append 21 = .ok (.getfield 15, 3) := by decide +kernel
theorem d_Code_append_24 : decode b_Code_append 24 = .ok (.aload_n 0, 1) := by decide +kernel
theorem d_Code_append_25 : decode b_Code_append 25 = .ok (.getfield 25, 3) := by decide +kernel
theorem d_Code_append_28 : decode b_Code_append 28 = .ok (.iload_n 2, 1) := by decide +kernel
theorem d_Code_append_29 : decode b_Code_append 29 = .ok (.iastore, 1) := by decide +kernel
theorem d_Code_append_30 : decode b_Code_append 30 = .ok (.aload_n 0, 1) := by decide +kernel
theorem d_Code_append_31 : decode b_Code_append 31 = .ok (.getfield 18, 3) := by decide +kernel
theorem d_Code_append_34 : decode b_Code_append 34 = .ok (.aload_n 0, 1) := by decide +kernel
theorem d_Code_append_35 : decode b_Code_append 35 = .ok (.getfield 25, 3) := by decide +kernel
theorem d_Code_append_38 : decode b_Code_append 38 = .ok (.iconst 0, 1) := by decide +kernel
theorem d_Code_append_39 : decode b_Code_append 39 = .ok (.iastore, 1) := by decide +kernel
theorem d_Code_append_40 : decode b_Code_append 40 = .ok (.aload_n 0, 1) := by decide +kernel
theorem d_Code_append_41 : decode b_Code_append 41 = .ok (.dup, 1) := by decide +kernel
theorem d_Code_append_42 : decode b_Code_append 42 = .ok (.getfield 25, 3) := by decide +kernel
theorem d_Code_append_45 : decode b_Code_append 45 = .ok (.iconst 1, 1) := by decide +kernel
theorem d_Code_append_46 : decode b_Code_append 46 = .ok (.iadd, 1) := by decide +kernel
theorem d_Code_append_47 : decode b_Code_append 47 = .ok (.putfield 25, 3) := by decide +kernel
theorem d_Code_append_50 : decode b_Code_append 50 = .ok (.return_, 1) := by decide +kernel
abbrev b_Code_becomes : ByteArray := prog_3_method_4_code
abbrev J_Code_becomes : MethodName × ByteArray × Nat × Option FieldType := (⟨"FaslDesk$Code", "becomes", "(LFaslDesk$Code;)V"⟩, b_Code_becomes, 2, none)
theorem d_Code_becomes_0 : decode b_Code_becomes 0 = .ok (.aload_n 1, 1) := by decide +kernel
theorem d_Code_becomes_1 : decode b_Code_becomes 1 = .ok (.getfield 9, 3) := by decide +kernel
theorem d_Code_becomes_4 : decode b_Code_becomes 4 = .ok (.iconst 0, 1) := by decide +kernel
theorem d_Code_becomes_5 : decode b_Code_becomes 5 = .ok (.aload_n 0, 1) := by decide +kernel
theorem d_Code_becomes_6 : decode b_Code_becomes 6 = .ok (.getfield 9, 3) := by decide +kernel
theorem d_Code_becomes_9 : decode b_Code_becomes 9 = .ok (.iconst 0, 1) := by decide +kernel
theorem d_Code_becomes_10 : decode b_Code_becomes 10 = .ok (.aload_n 1, 1) := by decide +kernel
theorem d_Code_becomes_11 : decode b_Code_becomes 11 = .ok (.getfield 25, 3) := by decide +kernel
theorem d_Code_becomes_14 : decode b_Code_becomes 14 = .ok (.invokestatic 29, 3) := by decide +kernel
theorem d_Code_becomes_17 : decode b_Code_becomes 17 = .ok (.aload_n 1, 1) := by decide +kernel
theorem d_Code_becomes_18 : decode b_Code_becomes 18 = .ok (.getfield 15, 3) := by decide +kernel
theorem d_Code_becomes_21 : decode b_Code_becomes 21 = .ok (.iconst 0, 1) := by decide +kernel
theorem d_Code_becomes_22 : decode b_Code_becomes 22 = .ok (.aload_n 0, 1) := by decide +kernel
theorem d_Code_becomes_23 : decode b_Code_becomes 23 = .ok (.getfield 15, 3) := by decide +kernel
theorem d_Code_becomes_26 : decode b_Code_becomes 26 = .ok (.iconst 0, 1) := by decide +kernel
theorem d_Code_becomes_27 : decode b_Code_becomes 27 = .ok (.aload_n 1, 1) := by decide +kernel
theorem d_Code_becomes_28 : decode b_Code_becomes 28 = .ok (.getfield 25, 3) := by decide +kernel
theorem d_Code_becomes_31 : decode b_Code_becomes 31 = .ok (.invokestatic 29, 3) := by decide +kernel
theorem d_Code_becomes_34 : decode b_Code_becomes 34 = .ok (.aload_n 1, 1) := by decide +kernel
theorem d_Code_becomes_35 : decode b_Code_becomes 35 = .ok (.getfield 18, 3) := by decide +kernel
theorem d_Code_becomes_38 : decode b_Code_becomes 38 = .ok (.iconst 0, 1) := by decide +kernel
theorem d_Code_becomes_39 : decode b_Code_becomes 39 = .ok (.aload_n 0, 1) := by decide +kernel
theorem d_Code_becomes_40 : decode b_Code_becomes 40 = .ok (.getfield 18, 3) := by decide +kernel
theorem d_Code_becomes_43 : decode b_Code_becomes 43 = .ok (.iconst 0, 1) := by decide +kernel
theorem d_Code_becomes_44 : decode b_Code_becomes 44 = .ok (.aload_n 1, 1) := by decide +kernel
theorem d_Code_becomes_45 : decode b_Code_becomes 45 = .ok (.getfield 25, 3) := by decide +kernel
theorem d_Code_becomes_48 : decode b_Code_becomes 48 = .ok (.invokestatic 29, 3) := by decide +kernel
theorem d_Code_becomes_51 : decode b_Code_becomes 51 = .ok (.aload_n 0, 1) := by decide +kernel
theorem d_Code_becomes_52 : decode b_Code_becomes 52 = .ok (.aload_n 1, 1) := by decide +kernel
theorem d_Code_becomes_53 : decode b_Code_becomes 53 = .ok (.getfield 25, 3) := by decide +kernel
theorem d_Code_becomes_56 : decode b_Code_becomes 56 = .ok (.putfield 25, 3) := by decide +kernel
theorem d_Code_becomes_59 : decode b_Code_becomes 59 = .ok (.return_, 1) := by decide +kernel
abbrev b_Check_init : ByteArray := prog_4_method_1_code
abbrev J_Check_init : MethodName × ByteArray × Nat × Option FieldType := (⟨"FaslDesk$CodeCheck", "<init>", "()V"⟩, b_Check_init, 1, none)
theorem d_Check_init_0 : decode b_Check_init 0 = .ok (.aload_n 0, 1) := by decide +kernel
theorem d_Check_init_1 : decode b_Check_init 1 = .ok (.invokespecial 3, 3) := by decide +kernel
theorem d_Check_init_4 : decode b_Check_init 4 = .ok (.aload_n 0, 1) := by decide +kernel
theorem d_Check_init_5 : decode b_Check_init 5 = .ok (.sipush 265, 3) := by decide +kernel
theorem d_Check_init_8 : decode b_Check_init 8 = .ok (.newarray .int, 2) := by decide +kernel
theorem d_Check_init_10 : decode b_Check_init 10 = .ok (.putfield 9, 3) := by decide +kernel
theorem d_Check_init_13 : decode b_Check_init 13 = .ok (.aload_n 0, 1) := by decide +kernel
theorem d_Check_init_14 : decode b_Check_init 14 = .ok (.sipush 265, 3) := by decide +kernel
theorem d_Check_init_17 : decode b_Check_init 17 = .ok (.newarray .int, 2) := by decide +kernel
theorem d_Check_init_19 : decode b_Check_init 19 = .ok (.putfield 15, 3) := by decide +kernel
theorem d_Check_init_22 : decode b_Check_init 22 = .ok (.return_, 1) := by decide +kernel
abbrev b_Check_goes : ByteArray := prog_4_method_2_code
abbrev J_Check_goes : MethodName × ByteArray × Nat × Option FieldType := (⟨"FaslDesk$CodeCheck", "goes", "(LFaslDesk$Code;I)Z"⟩, b_Check_goes, 5, (some .boolean))
theorem d_Check_goes_0 : decode b_Check_goes 0 = .ok (.aload_n 0, 1) := by decide +kernel
theorem d_Check_goes_1 : decode b_Check_goes 1 = .ok (.aload_n 1, 1) := by decide +kernel
theorem d_Check_goes_2 : decode b_Check_goes 2 = .ok (.putfield 18, 3) := by decide +kernel
theorem d_Check_goes_5 : decode b_Check_goes 5 = .ok (.aload_n 0, 1) := by decide +kernel
theorem d_Check_goes_6 : decode b_Check_goes 6 = .ok (.iconst 0, 1) := by decide +kernel
theorem d_Check_goes_7 : decode b_Check_goes 7 = .ok (.putfield 22, 3) := by decide +kernel
theorem d_Check_goes_10 : decode b_Check_goes 10 = .ok (.iconst 0, 1) := by decide +kernel
theorem d_Check_goes_11 : decode b_Check_goes 11 = .ok (.istore_n 3, 1) := by decide +kernel
theorem d_Check_goes_12 : decode b_Check_goes 12 = .ok (.iload_n 3, 1) := by decide +kernel
theorem d_Check_goes_13 : decode b_Check_goes 13 = .ok (.aload_n 0, 1) := by decide +kernel
theorem d_Check_goes_14 : decode b_Check_goes 14 = .ok (.getfield 18, 3) := by decide +kernel
theorem d_Check_goes_17 : decode b_Check_goes 17 = .ok (.getfield 26, 3) := by decide +kernel
theorem d_Check_goes_20 : decode b_Check_goes 20 = .ok (.if_icmp .ge 16, 3) := by decide +kernel
theorem d_Check_goes_23 : decode b_Check_goes 23 = .ok (.aload_n 0, 1) := by decide +kernel
theorem d_Check_goes_24 : decode b_Check_goes 24 = .ok (.getfield 9, 3) := by decide +kernel
theorem d_Check_goes_27 : decode b_Check_goes 27 = .ok (.iload_n 3, 1) := by decide +kernel
theorem d_Check_goes_28 : decode b_Check_goes 28 = .ok (.iconst (-1), 1) := by decide +kernel
theorem d_Check_goes_29 : decode b_Check_goes 29 = .ok (.iastore, 1) := by decide +kernel
theorem d_Check_goes_30 : decode b_Check_goes 30 = .ok (.iinc 3 1, 3) := by decide +kernel
theorem d_Check_goes_33 : decode b_Check_goes 33 = .ok (.goto (-21), 3) := by decide +kernel
theorem d_Check_goes_36 : decode b_Check_goes 36 = .ok (.aload_n 0, 1) := by decide +kernel
theorem d_Check_goes_37 : decode b_Check_goes 37 = .ok (.iconst 0, 1) := by decide +kernel
theorem d_Check_goes_38 : decode b_Check_goes 38 = .ok (.iconst 0, 1) := by decide +kernel
theorem d_Check_goes_39 : decode b_Check_goes 39 = .ok (.invokevirtual 31, 3) := by decide +kernel
theorem d_Check_goes_42 : decode b_Check_goes 42 = .ok (.istore_n 3, 1) := by decide +kernel
theorem d_Check_goes_43 : decode b_Check_goes 43 = .ok (.iconst 0, 1) := by decide +kernel
theorem d_Check_goes_44 : decode b_Check_goes 44 = .ok (.istore 4, 2) := by decide +kernel
theorem d_Check_goes_46 : decode b_Check_goes 46 = .ok (.iload 4, 2) := by decide +kernel
theorem d_Check_goes_48 : decode b_Check_goes 48 = .ok (.aload_n 0, 1) := by decide +kernel
theorem d_Check_goes_49 : decode b_Check_goes 49 = .ok (.getfield 22, 3) := by decide +kernel
theorem d_Check_goes_52 : decode b_Check_goes 52 = .ok (.if_icmp .ge 34, 3) := by decide +kernel
theorem d_Check_goes_55 : decode b_Check_goes 55 = .ok (.iload 4, 2) := by decide +kernel
theorem d_Check_goes_57 : decode b_Check_goes 57 = .ok (.sipush 265, 3) := by decide +kernel
theorem d_Check_goes_60 : decode b_Check_goes 60 = .ok (.if_icmp .ge 26, 3) := by decide +kernel
theorem d_Check_goes_63 : decode b_Check_goes 63 = .ok (.iload_n 3, 1) := by decide +kernel
theorem d_Check_goes_64 : decode b_Check_goes 64 = .ok (.ifCond .eq 22, 3) := by decide +kernel
theorem d_Check_goes_67 : decode b_Check_goes 67 = .ok (.aload_n 0, 1) := by decide +kernel
theorem d_Check_goes_68 : decode b_Check_goes 68 = .ok (.aload_n 0, 1) := by decide +kernel
theorem d_Check_goes_69 : decode b_Check_goes 69 = .ok (.getfield 15, 3) := by decide +kernel
theorem d_Check_goes_72 : decode b_Check_goes 72 = .ok (.iload 4, 2) := by decide +kernel
theorem d_Check_goes_74 : decode b_Check_goes 74 = .ok (.iaload, 1) := by decide +kernel
theorem d_Check_goes_75 : decode b_Check_goes 75 = .ok (.iload_n 2, 1) := by decide +kernel
theorem d_Check_goes_76 : decode b_Check_goes 76 = .ok (.invokevirtual 35, 3) := by decide +kernel
theorem d_Check_goes_79 : decode b_Check_goes 79 = .ok (.istore_n 3, 1) := by decide +kernel
theorem d_Check_goes_80 : decode b_Check_goes 80 = .ok (.iinc 4 1, 3) := by decide +kernel
theorem d_Check_goes_83 : decode b_Check_goes 83 = .ok (.goto (-37), 3) := by decide +kernel
theorem d_Check_goes_86 : decode b_Check_goes 86 = .ok (.iload_n 3, 1) := by decide +kernel
theorem d_Check_goes_87 : decode b_Check_goes 87 = .ok (.ireturn, 1) := by decide +kernel
abbrev b_Check_passes : ByteArray := prog_4_method_3_code
abbrev J_Check_passes : MethodName × ByteArray × Nat × Option FieldType := (⟨"FaslDesk$CodeCheck", "passes", "(II)Z"⟩, b_Check_passes, 6, (some .boolean))
theorem d_Check_passes_0 : decode b_Check_passes 0 = .ok (.aload_n 0, 1) := by decide +kernel
theorem d_Check_passes_1 : decode b_Check_passes 1 = .ok (.getfield 18, 3) := by decide +kernel
theorem d_Check_passes_4 : decode b_Check_passes 4 = .ok (.getfield 38, 3) := by decide +kernel
theorem d_Check_passes_7 : decode b_Check_passes 7 = .ok (.iload_n 1, 1) := by decide +kernel
theorem d_Check_passes_8 : decode b_Check_passes 8 = .ok (.iaload, 1) := by decide +kernel
theorem d_Check_passes_9 : decode b_Check_passes 9 = .ok (.istore_n 3, 1) := by decide +kernel
theorem d_Check_passes_10 : decode b_Check_passes 10 = .ok (.aload_n 0, 1) := by decide +kernel
theorem d_Check_passes_11 : decode b_Check_passes 11 = .ok (.getfield 9, 3) := by decide +kernel
theorem d_Check_passes_14 : decode b_Check_passes 14 = .ok (.iload_n 1, 1) := by decide +kernel
theorem d_Check_passes_15 : decode b_Check_passes 15 = .ok (.iaload, 1) := by decide +kernel
theorem d_Check_passes_16 : decode b_Check_passes 16 = .ok (.getstatic 41, 3) := by decide +kernel
theorem d_Check_passes_19 : decode b_Check_passes 19 = .ok (.iload_n 3, 1) := by decide +kernel
theorem d_Check_passes_20 : decode b_Check_passes 20 = .ok (.iaload, 1) := by decide +kernel
theorem d_Check_passes_21 : decode b_Check_passes 21 = .ok (.isub, 1) := by decide +kernel
theorem d_Check_passes_22 : decode b_Check_passes 22 = .ok (.istore 4, 2) := by decide +kernel
theorem d_Check_passes_24 : decode b_Check_passes 24 = .ok (.iload 4, 2) := by decide +kernel
theorem d_Check_passes_26 : decode b_Check_passes 26 = .ok (.ifCond .lt 15, 3) := by decide +kernel
theorem d_Check_passes_29 : decode b_Check_passes 29 = .ok (.iload 4, 2) := by decide +kernel
theorem d_Check_passes_31 : decode b_Check_passes 31 = .ok (.getstatic 44, 3) := by decide +kernel
theorem d_Check_passes_34 : decode b_Check_passes 34 = .ok (.iload_n 3, 1) := by decide +kernel
theorem d_Check_passes_35 : decode b_Check_passes 35 = .ok (.iaload, 1) := by decide +kernel
theorem d_Check_passes_36 : decode b_Check_passes 36 = .ok (.iadd, 1) := by decide +kernel
theorem d_Check_passes_37 : decode b_Check_passes 37 = .ok (.iload_n 2, 1) := by decide +kernel
theorem d_Check_passes_38 : decode b_Check_passes 38 = .ok (.if_icmp .le 5, 3) := by decide +kernel
theorem d_Check_passes_41 : decode b_Check_passes 41 = .ok (.iconst 0, 1) := by decide +kernel
theorem d_Check_passes_42 : decode b_Check_passes 42 = .ok (.ireturn, 1) := by decide +kernel
theorem d_Check_passes_43 : decode b_Check_passes 43 = .ok (.iload 4, 2) := by decide +kernel
theorem d_Check_passes_45 : decode b_Check_passes 45 = .ok (.getstatic 44, 3) := by decide +kernel
theorem d_Check_passes_48 : decode b_Check_passes 48 = .ok (.iload_n 3, 1) := by decide +kernel
theorem d_Check_passes_49 : decode b_Check_passes 49 = .ok (.iaload, 1) := by decide +kernel
theorem d_Check_passes_50 : decode b_Check_passes 50 = .ok (.iadd, 1) := by decide +kernel
theorem d_Check_passes_51 : decode b_Check_passes 51 = .ok (.istore 5, 2) := by decide +kernel
theorem d_Check_passes_53 : decode b_Check_passes 53 = .ok (.iload_n 3, 1) := by decide +kernel
theorem d_Check_passes_54 : decode b_Check_passes 54 = .ok (.tableswitch 84 14 17 #[48, 32, 84, 30], 30) := by decide +kernel
theorem d_Check_passes_84 : decode b_Check_passes 84 = .ok (.iconst 1, 1) := by decide +kernel
theorem d_Check_passes_85 : decode b_Check_passes 85 = .ok (.ireturn, 1) := by decide +kernel
theorem d_Check_passes_86 : decode b_Check_passes 86 = .ok (.aload_n 0, 1) := by decide +kernel
theorem d_Check_passes_87 : decode b_Check_passes 87 = .ok (.aload_n 0, 1) := by decide +kernel
theorem d_Check_passes_88 : decode b_Check_passes 88 = .ok (.getfield 18, 3) := by decide +kernel
theorem d_Check_passes_91 : decode b_Check_passes 91 = .ok (.getfield 47, 3) := by decide +kernel
theorem d_Check_passes_94 : decode b_Check_passes 94 = .ok (.iload_n 1, 1) := by decide +kernel
theorem d_Check_passes_95 : decode b_Check_passes 95 = .ok (.iaload, 1) := by decide +kernel
theorem d_Check_passes_96 : decode b_Check_passes 96 = .ok (.iload 5, 2) := by decide +kernel
theorem d_Check_passes_98 : decode b_Check_passes 98 = .ok (.invokevirtual 31, 3) := by decide +kernel
theorem d_Check_passes_101 : decode b_Check_passes 101 = .ok (.ireturn, 1) := by decide +kernel
theorem d_Check_passes_102 : decode b_Check_passes 102 = .ok (.aload_n 0, 1) := by decide +kernel
theorem d_Check_passes_103 : decode b_Check_passes 103 = .ok (.iload_n 1, 1) := by decide +kernel
theorem d_Check_passes_104 : decode b_Check_passes 104 = .ok (.iconst 1, 1) := by decide +kernel
theorem d_Check_passes_105 : decode b_Check_passes 105 = .ok (.iadd, 1) := by decide +kernel
theorem d_Check_passes_106 : decode b_Check_passes 106 = .ok (.iload 5, 2) := by decide +kernel
theorem d_Check_passes_108 : decode b_Check_passes 108 = .ok (.invokevirtual 31, 3) := by decide +kernel
theorem d_Check_passes_111 : decode b_Check_passes 111 = .ok (.ifCond .eq 25, 3) := by decide +kernel
theorem d_Check_passes_114 : decode b_Check_passes 114 = .ok (.aload_n 0, 1) := by decide +kernel
theorem d_Check_passes_115 : decode b_Check_passes 115 = .ok (.aload_n 0, 1) := by decide +kernel
theorem d_Check_passes_116 : decode b_Check_passes 116 = .ok (.getfield 18, 3) := by decide +kernel
theorem d_Check_passes_119 : decode b_Check_passes 119 = .ok (.getfield 50, 3) := by decide +kernel
theorem d_Check_passes_122 : decode b_Check_passes 122 = .ok (.iload_n 1, 1) := by decide +kernel
theorem d_Check_passes_123 : decode b_Check_passes 123 = .ok (.iaload, 1) := by decide +kernel
theorem d_Check_passes_124 : decode b_Check_passes 124 = .ok (.iload 5, 2) := by decide +kernel
theorem d_Check_passes_126 : decode b_Check_passes 126 = .ok (.invokevirtual 31, 3) := by decide +kernel
theorem d_Check_passes_129 : decode b_Check_passes 129 = .ok (.ifCond .eq 7, 3) := by decide +kernel
theorem d_Check_passes_132 : decode b_Check_passes 132 = .ok (.iconst 1, 1) := by decide +kernel
theorem d_Check_passes_133 : decode b_Check_passes 133 = .ok (.goto 4, 3) := by decide +kernel
theorem d_Check_passes_136 : decode b_Check_passes 136 = .ok (.iconst 0, 1) := by decide +kernel
theorem d_Check_passes_137 : decode b_Check_passes 137 = .ok (.ireturn, 1) := by decide +kernel
theorem d_Check_passes_138 : decode b_Check_passes 138 = .ok (.aload_n 0, 1) := by decide +kernel
theorem d_Check_passes_139 : decode b_Check_passes 139 = .ok (.iload_n 1, 1) := by decide +kernel
theorem d_Check_passes_140 : decode b_Check_passes 140 = .ok (.iconst 1, 1) := by decide +kernel
theorem d_Check_passes_141 : decode b_Check_passes 141 = .ok (.iadd, 1) := by decide +kernel
theorem d_Check_passes_142 : decode b_Check_passes 142 = .ok (.iload 5, 2) := by decide +kernel
theorem d_Check_passes_144 : decode b_Check_passes 144 = .ok (.invokevirtual 31, 3) := by decide +kernel
theorem d_Check_passes_147 : decode b_Check_passes 147 = .ok (.ireturn, 1) := by decide +kernel
abbrev b_Check_reach : ByteArray := prog_4_method_4_code
abbrev J_Check_reach : MethodName × ByteArray × Nat × Option FieldType := (⟨"FaslDesk$CodeCheck", "reach", "(II)Z"⟩, b_Check_reach, 3, (some .boolean))
theorem d_Check_reach_0 : decode b_Check_reach 0 = .ok (.iload_n 1, 1) := by decide +kernel
theorem d_Check_reach_1 : decode b_Check_reach 1 = .ok (.ifCond .lt 14, 3) := by decide +kernel
theorem d_Check_reach_4 : decode b_Check_reach 4 = .ok (.iload_n 1, 1) := by decide +kernel
theorem d_Check_reach_5 : decode b_Check_reach 5 = .ok (.aload_n 0, 1) := by decide +kernel
theorem d_Check_reach_6 : decode b_Check_reach 6 = .ok (.getfield 18, 3) := by decide +kernel
theorem d_Check_reach_9 : decode b_Check_reach 9 = .ok (.getfield 26, 3) := by decide +kernel
theorem d_Check_reach_12 : decode b_Check_reach 12 = .ok (.if_icmp .lt 5, 3) := by decide +kernel
theorem d_Check_reach_15 : decode b_Check_reach 15 = .ok (.iconst 0, 1) := by decide +kernel
theorem d_Check_reach_16 : decode b_Check_reach 16 = .ok (.ireturn, 1) := by decide +kernel
theorem d_Check_reach_17 : decode b_Check_reach 17 = .ok (.aload_n 0, 1) := by decide +kernel
theorem d_Check_reach_18 : decode b_Check_reach 18 = .ok (.getfield 9, 3) := by decide +kernel
theorem d_Check_reach_21 : decode b_Check_reach 21 = .ok (.iload_n 1, 1) := by decide +kernel
theorem d_Check_reach_22 : decode b_Check_reach 22 = .ok (.iaload, 1) := by decide +kernel
theorem d_Check_reach_23 : decode b_Check_reach 23 = .ok (.iconst (-1), 1) := by decide +kernel
theorem d_Check_reach_24 : decode b_Check_reach 24 = .ok (.if_icmp .ne 30, 3) := by decide +kernel
theorem d_Check_reach_27 : decode b_Check_reach 27 = .ok (.aload_n 0, 1) := by decide +kernel
theorem d_Check_reach_28 : decode b_Check_reach 28 = .ok (.getfield 9, 3) := by decide +kernel
theorem d_Check_reach_31 : decode b_Check_reach 31 = .ok (.iload_n 1, 1) := by decide +kernel
theorem d_Check_reach_32 : decode b_Check_reach 32 = .ok (.iload_n 2, 1) := by decide +kernel
theorem d_Check_reach_33 : decode b_Check_reach 33 = .ok (.iastore, 1) := by decide +kernel
theorem d_Check_reach_34 : decode b_Check_reach 34 = .ok (.aload_n 0, 1) := by decide +kernel
theorem d_Check_reach_35 : decode b_Check_reach 35 = .ok (.getfield 15, 3) := by decide +kernel
theorem d_Check_reach_38 : decode b_Check_reach 38 = .ok (.aload_n 0, 1) := by decide +kernel
theorem d_Check_reach_39 : decode b_Check_reach 39 = .ok (.getfield 22, 3) := by decide +kernel
theorem d_Check_reach_42 : decode b_Check_reach 42 = .ok (.iload_n 1, 1) := by decide +kernel
theorem d_Check_reach_43 : decode b_Check_reach 43 = .ok (.iastore, 1) := by decide +kernel
theorem d_Check_reach_44 : decode b_Check_reach 44 = .ok (.aload_n 0, 1) := by decide +kernel
theorem d_Check_reach_45 : decode b_Check_reach 45 = .ok (.dup, 1) := by decide +kernel
theorem d_Check_reach_46 : decode b_Check_reach 46 = .ok (.getfield 22, 3) := by decide +kernel
theorem d_Check_reach_49 : decode b_Check_reach 49 = .ok (.iconst 1, 1) := by decide +kernel
theorem d_Check_reach_50 : decode b_Check_reach 50 = .ok (.iadd, 1) := by decide +kernel
theorem d_Check_reach_51 : decode b_Check_reach 51 = .ok (.putfield 22, 3) := by decide +kernel
theorem d_Check_reach_54 : decode b_Check_reach 54 = .ok (.aload_n 0, 1) := by decide +kernel
theorem d_Check_reach_55 : decode b_Check_reach 55 = .ok (.getfield 9, 3) := by decide +kernel
theorem d_Check_reach_58 : decode b_Check_reach 58 = .ok (.iload_n 1, 1) := by decide +kernel
theorem d_Check_reach_59 : decode b_Check_reach 59 = .ok (.iaload, 1) := by decide +kernel
theorem d_Check_reach_60 : decode b_Check_reach 60 = .ok (.iload_n 2, 1) := by decide +kernel
theorem d_Check_reach_61 : decode b_Check_reach 61 = .ok (.if_icmp .ne 7, 3) := by decide +kernel
theorem d_Check_reach_64 : decode b_Check_reach 64 = .ok (.iconst 1, 1) := by decide +kernel
theorem d_Check_reach_65 : decode b_Check_reach 65 = .ok (.goto 4, 3) := by decide +kernel
theorem d_Check_reach_68 : decode b_Check_reach 68 = .ok (.iconst 0, 1) := by decide +kernel
theorem d_Check_reach_69 : decode b_Check_reach 69 = .ok (.ireturn, 1) := by decide +kernel
abbrev b_Comp_init : ByteArray := prog_5_method_1_code
abbrev J_Comp_init : MethodName × ByteArray × Nat × Option FieldType := (⟨"FaslDesk$Compiler", "<init>", "()V"⟩, b_Comp_init, 1, none)
theorem d_Comp_init_0 : decode b_Comp_init 0 = .ok (.aload_n 0, 1) := by decide +kernel
theorem d_Comp_init_1 : decode b_Comp_init 1 = .ok (.invokespecial 3, 3) := by decide +kernel
theorem d_Comp_init_4 : decode b_Comp_init 4 = .ok (.return_, 1) := by decide +kernel
abbrev b_Comp_translate : ByteArray := prog_5_method_2_code
abbrev J_Comp_translate : MethodName × ByteArray × Nat × Option FieldType := (⟨"FaslDesk$Compiler", "translate", "(LFaslDesk$Form;LFaslDesk$Entry;)V"⟩, b_Comp_translate, 4, none)
theorem d_Comp_translate_0 : decode b_Comp_translate 0 = .ok (.aload_n 0, 1) := by decide +kernel
theorem d_Comp_translate_1 : decode b_Comp_translate 1 = .ok (.aload_n 1, 1) := by decide +kernel
theorem d_Comp_translate_2 : decode b_Comp_translate 2 = .ok (.putfield 9, 3) := by decide +kernel
theorem d_Comp_translate_5 : decode b_Comp_translate 5 = .ok (.aload_n 0, 1) := by decide +kernel
theorem d_Comp_translate_6 : decode b_Comp_translate 6 = .ok (.aload_n 2, 1) := by decide +kernel
theorem d_Comp_translate_7 : decode b_Comp_translate 7 = .ok (.putfield 15, 3) := by decide +kernel
theorem d_Comp_translate_10 : decode b_Comp_translate 10 = .ok (.aload_n 0, 1) := by decide +kernel
theorem d_Comp_translate_11 : decode b_Comp_translate 11 = .ok (.aload_n 2, 1) := by decide +kernel
theorem d_Comp_translate_12 : decode b_Comp_translate 12 = .ok (.getfield 19, 3) := by decide +kernel
theorem d_Comp_translate_15 : decode b_Comp_translate 15 = .ok (.putfield 25, 3) := by decide +kernel
theorem d_Comp_translate_18 : decode b_Comp_translate 18 = .ok (.aload_n 0, 1) := by decide +kernel
theorem d_Comp_translate_19 : decode b_Comp_translate 19 = .ok (.iconst 0, 1) := by decide +kernel
theorem d_Comp_translate_20 : decode b_Comp_translate 20 = .ok (.putfield 26, 3) := by decide +kernel
theorem d_Comp_translate_23 : decode b_Comp_translate 23 = .ok (.aload_n 0, 1) := by decide +kernel
theorem d_Comp_translate_24 : decode b_Comp_translate 24 = .ok (.getfield 15, 3) := by decide +kernel
theorem d_Comp_translate_27 : decode b_Comp_translate 27 = .ok (.aload_n 0, 1) := by decide +kernel
theorem d_Comp_translate_28 : decode b_Comp_translate 28 = .ok (.getfield 9, 3) := by decide +kernel
theorem d_Comp_translate_31 : decode b_Comp_translate 31 = .ok (.getfield 30, 3) := by decide +kernel
theorem d_Comp_translate_34 : decode b_Comp_translate 34 = .ok (.invokevirtual 35, 3) := by decide +kernel
theorem d_Comp_translate_37 : decode b_Comp_translate 37 = .ok (.aload_n 0, 1) := by decide +kernel
theorem d_Comp_translate_38 : decode b_Comp_translate 38 = .ok (.getfield 9, 3) := by decide +kernel
theorem d_Comp_translate_41 : decode b_Comp_translate 41 = .ok (.getfield 30, 3) := by decide +kernel
theorem d_Comp_translate_44 : decode b_Comp_translate 44 = .ok (.istore_n 3, 1) := by decide +kernel
theorem d_Comp_translate_45 : decode b_Comp_translate 45 = .ok (.iload_n 3, 1) := by decide +kernel
theorem d_Comp_translate_46 : decode b_Comp_translate 46 = .ok (.bipush 7, 2) := by decide +kernel
theorem d_Comp_translate_48 : decode b_Comp_translate 48 = .ok (.if_icmp .ge 22, 3) := by decide +kernel
theorem d_Comp_translate_51 : decode b_Comp_translate 51 = .ok (.aload_n 0, 1) := by decide +kernel
theorem d_Comp_translate_52 : decode b_Comp_translate 52 = .ok (.iconst 0, 1) := by decide +kernel
theorem d_Comp_translate_53 : decode b_Comp_translate 53 = .ok (.iconst 0, 1) := by decide +kernel
theorem d_Comp_translate_54 : decode b_Comp_translate 54 = .ok (.invokevirtual 41, 3) := by decide +kernel
theorem d_Comp_translate_57 : decode b_Comp_translate 57 = .ok (.aload_n 0, 1) := by decide +kernel
theorem d_Comp_translate_58 : decode b_Comp_translate 58 = .ok (.bipush 13, 2) := by decide +kernel
theorem d_Comp_translate_60 : decode b_Comp_translate 60 = .ok (.iload_n 3, 1) := by decide +kernel
theorem d_Comp_translate_61 : decode b_Comp_translate 61 = .ok (.invokevirtual 41, 3) := by decide +kernel
theorem d_Comp_translate_64 : decode b_Comp_translate 64 = .ok (.iinc 3 1, 3) := by decide +kernel
theorem d_Comp_translate_67 : decode b_Comp_translate 67 = .ok (.goto (-22), 3) := by decide +kernel
theorem d_Comp_translate_70 : decode b_Comp_translate 70 = .ok (.aload_n 0, 1) := by decide +kernel
theorem d_Comp_translate_71 : decode b_Comp_translate 71 = .ok (.iconst 0, 1) := by decide +kernel
theorem d_Comp_translate_72 : decode b_Comp_translate 72 = .ok (.invokevirtual 45, 3) := by decide +kernel
theorem d_Comp_translate_75 : decode b_Comp_translate 75 = .ok (.aload_n 0, 1) := by decide +kernel
theorem d_Comp_translate_76 : decode b_Comp_translate 76 = .ok (.bipush 17, 2) := by decide +kernel
theorem d_Comp_translate_78 : decode b_Comp_translate 78 = .ok (.iconst 0, 1) := by decide +kernel
theorem d_Comp_translate_79 : decode b_Comp_translate 79 = .ok (.invokevirtual 41, 3) := by decide +kernel
theorem d_Comp_translate_82 : decode b_Comp_translate 82 = .ok (.return_, 1) := by decide +kernel
end
section
/-! more decode rows -/
abbrev b_Comp_emit : ByteArray := prog_5_method_3_code
abbrev J_Comp_emit : MethodName × ByteArray × Nat × Option FieldType := (⟨"FaslDesk$Compiler", "emit", "(II)V"⟩, b_Comp_emit, 3, none)
theorem d_Comp_emit_0 : decode b_Comp_emit 0 = .ok (.aload_n 0, 1) := by decide +kernel
theorem d_Comp_emit_1 : decode b_Comp_emit 1 = .ok (.getfield 25, 3) := by decide +kernel
theorem d_Comp_emit_4 : decode b_Comp_emit 4 = .ok (.iload_n 1, 1) := by decide +kernel
theorem d_Comp_emit_5 : decode b_Comp_emit 5 = .ok (.iload_n 2, 1) := by decide +kernel
theorem d_Comp_emit_6 : decode b_Comp_emit 6 = .ok (.invokevirtual 48, 3) := by decide +kernel
theorem d_Comp_emit_9 : decode b_Comp_emit 9 = .ok (.aload_n 0, 1) := by decide +kernel
theorem d_Comp_emit_10 : decode b_Comp_emit 10 = .ok (.dup, 1) := by decide +kernel
theorem d_Comp_emit_11 : decode b_Comp_emit 11 = .ok (.getfield 26, 3) := by decide +kernel
theorem d_Comp_emit_14 : decode b_Comp_emit 14 = .ok (.getstatic 51, 3) := by decide +kernel
theorem d_Comp_emit_17 : decode b_Comp_emit 17 = .ok (.iload_n 1, 1) := by decide +kernel
theorem d_Comp_emit_18 : decode b_Comp_emit 18 = .ok (.iaload, 1) := by decide +kernel
theorem d_Comp_emit_19 : decode b_Comp_emit 19 = .ok (.getstatic 55, 3) := by decide +kernel
theorem d_Comp_emit_22 : decode b_Comp_emit 22 = .ok (.iload_n 1, 1) := by decide +kernel
theorem d_Comp_emit_23 : decode b_Comp_emit 23 = .ok (.iaload, 1) := by decide +kernel
theorem d_Comp_emit_24 : decode b_Comp_emit 24 = .ok (.isub, 1) := by decide +kernel
theorem d_Comp_emit_25 : decode b_Comp_emit 25 = .ok (.iadd, 1) := by decide +kernel
theorem d_Comp_emit_26 : decode b_Comp_emit 26 = .ok (.putfield 26, 3) := by decide +kernel
theorem d_Comp_emit_29 : decode b_Comp_emit 29 = .ok (.aload_n 0, 1) := by decide +kernel
theorem d_Comp_emit_30 : decode b_Comp_emit 30 = .ok (.getfield 15, 3) := by decide +kernel
theorem d_Comp_emit_33 : decode b_Comp_emit 33 = .ok (.aload_n 0, 1) := by decide +kernel
theorem d_Comp_emit_34 : decode b_Comp_emit 34 = .ok (.getfield 15, 3) := by decide +kernel
theorem d_Comp_emit_37 : decode b_Comp_emit 37 = .ok (.getfield 58, 3) := by decide +kernel
theorem d_Comp_emit_40 : decode b_Comp_emit 40 = .ok (.aload_n 0, 1) := by decide +kernel
theorem d_Comp_emit_41 : decode b_Comp_emit 41 = .ok (.getfield 26, 3) := by decide +kernel
theorem d_Comp_emit_44 : decode b_Comp_emit 44 = .ok (.invokestatic 61, 3) := by decide +kernel
theorem d_Comp_emit_47 : decode b_Comp_emit 47 = .ok (.putfield 58, 3) := by decide +kernel
theorem d_Comp_emit_50 : decode b_Comp_emit 50 = .ok (.return_, 1) := by decide +kernel
abbrev b_Comp_emitOfTimes : ByteArray := prog_5_method_4_code
abbrev J_Comp_emitOfTimes : MethodName × ByteArray × Nat × Option FieldType := (⟨"FaslDesk$Compiler", "emitOfTimes", "(I)V"⟩, b_Comp_emitOfTimes, 3, none)
theorem d_Comp_emitOfTimes_0 : decode b_Comp_emitOfTimes 0 = .ok (.aload_n 0, 1) := by decide +kernel
theorem d_Comp_emitOfTimes_1 : decode b_Comp_emitOfTimes 1 = .ok (.getfield 25, 3) := by decide +kernel
theorem d_Comp_emitOfTimes_4 : decode b_Comp_emitOfTimes 4 = .ok (.getfield 67, 3) := by decide +kernel
theorem d_Comp_emitOfTimes_7 : decode b_Comp_emitOfTimes 7 = .ok (.istore_n 2, 1) := by decide +kernel
theorem d_Comp_emitOfTimes_8 : decode b_Comp_emitOfTimes 8 = .ok (.aload_n 0, 1) := by decide +kernel
theorem d_Comp_emitOfTimes_9 : decode b_Comp_emitOfTimes 9 = .ok (.iload_n 1, 1) := by decide +kernel
theorem d_Comp_emitOfTimes_10 : decode b_Comp_emitOfTimes 10 = .ok (.iconst 0, 1) := by decide +kernel
theorem d_Comp_emitOfTimes_11 : decode b_Comp_emitOfTimes 11 = .ok (.invokevirtual 41, 3) := by decide +kernel
theorem d_Comp_emitOfTimes_14 : decode b_Comp_emitOfTimes 14 = .ok (.iload_n 2, 1) := by decide +kernel
theorem d_Comp_emitOfTimes_15 : decode b_Comp_emitOfTimes 15 = .ok (.aload_n 0, 1) := by decide +kernel
theorem d_Comp_emitOfTimes_16 : decode b_Comp_emitOfTimes 16 = .ok (.getfield 25, 3) := by decide +kernel
theorem d_Comp_emitOfTimes_19 : decode b_Comp_emitOfTimes 19 = .ok (.getfield 67, 3) := by decide +kernel
theorem d_Comp_emitOfTimes_22 : decode b_Comp_emitOfTimes 22 = .ok (.if_icmp .ge 13, 3) := by decide +kernel
theorem d_Comp_emitOfTimes_25 : decode b_Comp_emitOfTimes 25 = .ok (.aload_n 0, 1) := by decide +kernel
theorem d_Comp_emitOfTimes_26 : decode b_Comp_emitOfTimes 26 = .ok (.getfield 15, 3) := by decide +kernel
theorem d_Comp_emitOfTimes_29 : decode b_Comp_emitOfTimes 29 = .ok (.getfield 70, 3) := by decide +kernel
theorem d_Comp_emitOfTimes_32 : decode b_Comp_emitOfTimes 32 = .ok (.iload_n 2, 1) := by decide +kernel
theorem d_Comp_emitOfTimes_33 : decode b_Comp_emitOfTimes 33 = .ok (.iconst 1, 1) := by decide +kernel
theorem d_Comp_emitOfTimes_34 : decode b_Comp_emitOfTimes 34 = .ok (.bastore, 1) := by decide +kernel
theorem d_Comp_emitOfTimes_35 : decode b_Comp_emitOfTimes 35 = .ok (.return_, 1) := by decide +kernel
abbrev b_Comp_emitForm : ByteArray := prog_5_method_5_code
abbrev J_Comp_emitForm : MethodName × ByteArray × Nat × Option FieldType := (⟨"FaslDesk$Compiler", "emitForm", "(I)V"⟩, b_Comp_emitForm, 5, none)
theorem d_Comp_emitForm_0 : decode b_Comp_emitForm 0 = .ok (.iload_n 1, 1) := by decide +kernel
theorem d_Comp_emitForm_1 : decode b_Comp_emitForm 1 = .ok (.ifCond .lt 14, 3) := by decide +kernel
theorem d_Comp_emitForm_4 : decode b_Comp_emitForm 4 = .ok (.iload_n 1, 1) := by decide +kernel
theorem d_Comp_emitForm_5 : decode b_Comp_emitForm 5 = .ok (.aload_n 0, 1) := by decide +kernel
theorem d_Comp_emitForm_6 : decode b_Comp_emitForm 6 = .ok (.getfield 9, 3) := by decide +kernel
theorem d_Comp_emitForm_9 : decode b_Comp_emitForm 9 = .ok (.getfield 74, 3) := by decide +kernel
theorem d_Comp_emitForm_12 : decode b_Comp_emitForm 12 = .ok (.if_icmp .lt 4, 3) := by decide +kernel
theorem d_Comp_emitForm_15 : decode b_Comp_emitForm 15 = .ok (.return_, 1) := by decide +kernel
theorem d_Comp_emitForm_16 : decode b_Comp_emitForm 16 = .ok (.aload_n 0, 1) := by decide +kernel
theorem d_Comp_emitForm_17 : decode b_Comp_emitForm 17 = .ok (.getfield 9, 3) := by decide +kernel
theorem d_Comp_emitForm_20 : decode b_Comp_emitForm 20 = .ok (.getfield 75, 3) := by decide +kernel
theorem d_Comp_emitForm_23 : decode b_Comp_emitForm 23 = .ok (.iload_n 1, 1) := by decide +kernel
theorem d_Comp_emitForm_24 : decode b_Comp_emitForm 24 = .ok (.iaload, 1) := by decide +kernel
theorem d_Comp_emitForm_25 : decode b_Comp_emitForm 25 = .ok (.istore_n 2, 1) := by decide +kernel
theorem d_Comp_emitForm_26 : decode b_Comp_emitForm 26 = .ok (.aload_n 0, 1) := by decide +kernel
theorem d_Comp_emitForm_27 : decode b_Comp_emitForm 27 = .ok (.getfield 9, 3) := by decide +kernel
theorem d_Comp_emitForm_30 : decode b_Comp_emitForm 30 = .ok (.getfield 78, 3) := by decide +kernel
theorem d_Comp_emitForm_33 : decode b_Comp_emitForm 33 = .ok (.iload_n 1, 1) := by decide +kernel
theorem d_Comp_emitForm_34 : decode b_Comp_emitForm 34 = .ok (.iaload, 1) := by decide +kernel
theorem d_Comp_emitForm_35 : decode b_Comp_emitForm 35 = .ok (.istore_n 3, 1) := by decide +kernel
theorem d_Comp_emitForm_36 : decode b_Comp_emitForm 36 = .ok (.iload_n 2, 1) := by decide +kernel
theorem d_Comp_emitForm_37 : decode b_Comp_emitForm 37 = .ok (.tableswitch 183 0 16 #[83, 92, 183, 183, 183, 183, 183, 183, 183, 183, 183, 183, 183, 101, 109, 145, 175], 83) := by decide +kernel
theorem d_Comp_emitForm_120 : decode b_Comp_emitForm 120 = .ok (.aload_n 0, 1) := by decide +kernel
theorem d_Comp_emitForm_121 : decode b_Comp_emitForm 121 = .ok (.iconst 0, 1) := by decide +kernel
theorem d_Comp_emitForm_122 : decode b_Comp_emitForm 122 = .ok (.iload_n 3, 1) := by decide +kernel
theorem d_Comp_emitForm_123 : decode b_Comp_emitForm 123 = .ok (.invokevirtual 41, 3) := by decide +kernel
theorem d_Comp_emitForm_126 : decode b_Comp_emitForm 126 = .ok (.goto 154, 3) := by decide +kernel
theorem d_Comp_emitForm_129 : decode b_Comp_emitForm 129 = .ok (.aload_n 0, 1) := by decide +kernel
theorem d_Comp_emitForm_130 : decode b_Comp_emitForm 130 = .ok (.iconst 1, 1) := by decide +kernel
theorem d_Comp_emitForm_131 : decode b_Comp_emitForm 131 = .ok (.iload_n 3, 1) := by decide +kernel
theorem d_Comp_emitForm_132 : decode b_Comp_emitForm 132 = .ok (.invokevirtual 41, 3) := by decide +kernel
theorem d_Comp_emitForm_135 : decode b_Comp_emitForm 135 = .ok (.goto 145, 3) := by decide +kernel
theorem d_Comp_emitForm_138 : decode b_Comp_emitForm 138 = .ok (.aload_n 0, 1) := by decide +kernel
theorem d_Comp_emitForm_139 : decode b_Comp_emitForm 139 = .ok (.iload_n 1, 1) := by decide +kernel
theorem d_Comp_emitForm_140 : decode b_Comp_emitForm 140 = .ok (.invokevirtual 81, 3) := by decide +kernel
theorem d_Comp_emitForm_143 : decode b_Comp_emitForm 143 = .ok (.goto 137, 3) := by decide +kernel
theorem d_Comp_emitForm_146 : decode b_Comp_emitForm 146 = .ok (.aload_n 0, 1) := by decide +kernel
theorem d_Comp_emitForm_147 : decode b_Comp_emitForm 147 = .ok (.aload_n 0, 1) := by decide +kernel
theorem d_Comp_emitForm_148 : decode b_Comp_emitForm 148 = .ok (.getfield 9, 3) := by decide +kernel
theorem d_Comp_emitForm_151 : decode b_Comp_emitForm 151 = .ok (.iload_n 1, 1) := by decide +kernel
theorem d_Comp_emitForm_152 : decode b_Comp_emitForm 152 = .ok (.iconst 0, 1) := by decide +kernel
theorem d_Comp_emitForm_153 : decode b_Comp_emitForm 153 = .ok (.invokevirtual 84, 3) := by decide +kernel
theorem d_Comp_emitForm_156 : decode b_Comp_emitForm 156 = .ok (.invokevirtual 45, 3) := by decide +kernel
theorem d_Comp_emitForm_159 : decode b_Comp_emitForm 159 = .ok (.aload_n 0, 1) := by decide +kernel
theorem d_Comp_emitForm_160 : decode b_Comp_emitForm 160 = .ok (.bipush 13, 2) := by decide +kernel
theorem d_Comp_emitForm_162 : decode b_Comp_emitForm 162 = .ok (.iload_n 3, 1) := by decide +kernel
theorem d_Comp_emitForm_163 : decode b_Comp_emitForm 163 = .ok (.invokevirtual 41, 3) := by decide +kernel
theorem d_Comp_emitForm_166 : decode b_Comp_emitForm 166 = .ok (.aload_n 0, 1) := by decide +kernel
theorem d_Comp_emitForm_167 : decode b_Comp_emitForm 167 = .ok (.aload_n 0, 1) := by decide +kernel
theorem d_Comp_emitForm_168 : decode b_Comp_emitForm 168 = .ok (.getfield 9, 3) := by decide +kernel
theorem d_Comp_emitForm_171 : decode b_Comp_emitForm 171 = .ok (.iload_n 1, 1) := by decide +kernel
theorem d_Comp_emitForm_172 : decode b_Comp_emitForm 172 = .ok (.iconst 1, 1) := by decide +kernel
theorem d_Comp_emitForm_173 : decode b_Comp_emitForm 173 = .ok (.invokevirtual 84, 3) := by decide +kernel
theorem d_Comp_emitForm_176 : decode b_Comp_emitForm 176 = .ok (.invokevirtual 45, 3) := by decide +kernel
theorem d_Comp_emitForm_179 : decode b_Comp_emitForm 179 = .ok (.goto 101, 3) := by decide +kernel
theorem d_Comp_emitForm_182 : decode b_Comp_emitForm 182 = .ok (.aload_n 0, 1) := by decide +kernel
theorem d_Comp_emitForm_183 : decode b_Comp_emitForm 183 = .ok (.aload_n 0, 1) := by decide +kernel
theorem d_Comp_emitForm_184 : decode b_Comp_emitForm 184 = .ok (.getfield 9, 3) := by decide +kernel
theorem d_Comp_emitForm_187 : decode b_Comp_emitForm 187 = .ok (.iload_n 1, 1) := by decide +kernel
theorem d_Comp_emitForm_188 : decode b_Comp_emitForm 188 = .ok (.iconst 0, 1) := by decide +kernel
theorem d_Comp_emitForm_189 : decode b_Comp_emitForm 189 = .ok (.invokevirtual 84, 3) := by decide +kernel
theorem d_Comp_emitForm_192 : decode b_Comp_emitForm 192 = .ok (.invokevirtual 45, 3) := by decide +kernel
theorem d_Comp_emitForm_195 : decode b_Comp_emitForm 195 = .ok (.aload_n 0, 1) := by decide +kernel
theorem d_Comp_emitForm_196 : decode b_Comp_emitForm 196 = .ok (.bipush 19, 2) := by decide +kernel
theorem d_Comp_emitForm_198 : decode b_Comp_emitForm 198 = .ok (.iconst 0, 1) := by decide +kernel
theorem d_Comp_emitForm_199 : decode b_Comp_emitForm 199 = .ok (.invokevirtual 41, 3) := by decide +kernel
theorem d_Comp_emitForm_202 : decode b_Comp_emitForm 202 = .ok (.aload_n 0, 1) := by decide +kernel
theorem d_Comp_emitForm_203 : decode b_Comp_emitForm 203 = .ok (.bipush 13, 2) := by decide +kernel
theorem d_Comp_emitForm_205 : decode b_Comp_emitForm 205 = .ok (.iload_n 3, 1) := by decide +kernel
theorem d_Comp_emitForm_206 : decode b_Comp_emitForm 206 = .ok (.invokevirtual 41, 3) := by decide +kernel
theorem d_Comp_emitForm_209 : decode b_Comp_emitForm 209 = .ok (.goto 71, 3) := by decide +kernel
theorem d_Comp_emitForm_212 : decode b_Comp_emitForm 212 = .ok (.aload_n 0, 1) := by decide +kernel
theorem d_Comp_emitForm_213 : decode b_Comp_emitForm 213 = .ok (.iload_n 1, 1) := by decide +kernel
theorem d_Comp_emitForm_214 : decode b_Comp_emitForm 214 = .ok (.invokevirtual 87, 3) := by decide +kernel
theorem d_Comp_emitForm_217 : decode b_Comp_emitForm 217 = .ok (.goto 63, 3) := by decide +kernel
theorem d_Comp_emitForm_220 : decode b_Comp_emitForm 220 = .ok (.iconst 0, 1) := by decide +kernel
theorem d_Comp_emitForm_221 : decode b_Comp_emitForm 221 = .ok (.istore 4, 2) := by decide +kernel
theorem d_Comp_emitForm_223 : decode b_Comp_emitForm 223 = .ok (.iload 4, 2) := by decide +kernel
theorem d_Comp_emitForm_225 : decode b_Comp_emitForm 225 = .ok (.getstatic 90, 3) := by decide +kernel
theorem d_Comp_emitForm_228 : decode b_Comp_emitForm 228 = .ok (.iload_n 2, 1) := by decide +kernel
theorem d_Comp_emitForm_229 : decode b_Comp_emitForm 229 = .ok (.iaload, 1) := by decide +kernel
theorem d_Comp_emitForm_230 : decode b_Comp_emitForm 230 = .ok (.if_icmp .ge 23, 3) := by decide +kernel
theorem d_Comp_emitForm_233 : decode b_Comp_emitForm 233 = .ok (.aload_n 0, 1) := by decide +kernel
theorem d_Comp_emitForm_234 : decode b_Comp_emitForm 234 = .ok (.aload_n 0, 1) := by decide +kernel
theorem d_Comp_emitForm_235 : decode b_Comp_emitForm 235 = .ok (.getfield 9, 3) := by decide +kernel
theorem d_Comp_emitForm_238 : decode b_Comp_emitForm 238 = .ok (.iload_n 1, 1) := by decide +kernel
theorem d_Comp_emitForm_239 : decode b_Comp_emitForm 239 = .ok (.iload 4, 2) := by decide +kernel
theorem d_Comp_emitForm_241 : decode b_Comp_emitForm 241 = .ok (.invokevirtual 84, 3) := by decide +kernel
theorem d_Comp_emitForm_244 : decode b_Comp_emitForm 244 = .ok (.invokevirtual 45, 3) := by decide +kernel
theorem d_Comp_emitForm_247 : decode b_Comp_emitForm 247 = .ok (.iinc 4 1, 3) := by decide +kernel
theorem d_Comp_emitForm_250 : decode b_Comp_emitForm 250 = .ok (.goto (-27), 3) := by decide +kernel
theorem d_Comp_emitForm_253 : decode b_Comp_emitForm 253 = .ok (.aload_n 0, 1) := by decide +kernel
theorem d_Comp_emitForm_254 : decode b_Comp_emitForm 254 = .ok (.iload_n 2, 1) := by decide +kernel
theorem d_Comp_emitForm_255 : decode b_Comp_emitForm 255 = .ok (.bipush 17, 2) := by decide +kernel
theorem d_Comp_emitForm_257 : decode b_Comp_emitForm 257 = .ok (.if_icmp .ne 8, 3) := by decide +kernel
theorem d_Comp_emitForm_260 : decode b_Comp_emitForm 260 = .ok (.bipush 16, 2) := by decide +kernel
theorem d_Comp_emitForm_262 : decode b_Comp_emitForm 262 = .ok (.goto 4, 3) := by decide +kernel
theorem d_Comp_emitForm_265 : decode b_Comp_emitForm 265 = .ok (.iload_n 2, 1) := by decide +kernel
theorem d_Comp_emitForm_266 : decode b_Comp_emitForm 266 = .ok (.iload_n 2, 1) := by decide +kernel
theorem d_Comp_emitForm_267 : decode b_Comp_emitForm 267 = .ok (.bipush 17, 2) := by decide +kernel
theorem d_Comp_emitForm_269 : decode b_Comp_emitForm 269 = .ok (.if_icmp .ne 7, 3) := by decide +kernel
theorem d_Comp_emitForm_272 : decode b_Comp_emitForm 272 = .ok (.iload_n 3, 1) := by decide +kernel
theorem d_Comp_emitForm_273 : decode b_Comp_emitForm 273 = .ok (.goto 4, 3) := by decide +kernel
theorem d_Comp_emitForm_276 : decode b_Comp_emitForm 276 = .ok (.iconst 0, 1) := by decide +kernel
theorem d_Comp_emitForm_277 : decode b_Comp_emitForm 277 = .ok (.invokevirtual 41, 3) := by decide +kernel
theorem d_Comp_emitForm_280 : decode b_Comp_emitForm 280 = .ok (.return_, 1) := by decide +kernel
abbrev b_Comp_emitIf : ByteArray := prog_5_method_6_code
abbrev J_Comp_emitIf : MethodName × ByteArray × Nat × Option FieldType := (⟨"FaslDesk$Compiler", "emitIf", "(I)V"⟩, b_Comp_emitIf, 5, none)
theorem d_Comp_emitIf_0 : decode b_Comp_emitIf 0 = .ok (.aload_n 0, 1) := by decide +kernel
theorem d_Comp_emitIf_1 : decode b_Comp_emitIf 1 = .ok (.aload_n 0, 1) := by decide +kernel
theorem d_Comp_emitIf_2 : decode b_Comp_emitIf 2 = .ok (.getfield 9, 3) := by decide +kernel
theorem d_Comp_emitIf_5 : decode b_Comp_emitIf 5 = .ok (.iload_n 1, 1) := by decide +kernel
theorem d_Comp_emitIf_6 : decode b_Comp_emitIf 6 = .ok (.iconst 0, 1) := by decide +kernel
theorem d_Comp_emitIf_7 : decode b_Comp_emitIf 7 = .ok (.invokevirtual 84, 3) := by decide +kernel
theorem d_Comp_emitIf_10 : decode b_Comp_emitIf 10 = .ok (.invokevirtual 45, 3) := by decide +kernel
theorem d_Comp_emitIf_13 : decode b_Comp_emitIf 13 = .ok (.aload_n 0, 1) := by decide +kernel
theorem d_Comp_emitIf_14 : decode b_Comp_emitIf 14 = .ok (.getfield 25, 3) := by decide +kernel
theorem d_Comp_emitIf_17 : decode b_Comp_emitIf 17 = .ok (.getfield 67, 3) := by decide +kernel
theorem d_Comp_emitIf_20 : decode b_Comp_emitIf 20 = .ok (.istore_n 2, 1) := by decide +kernel
theorem d_Comp_emitIf_21 : decode b_Comp_emitIf 21 = .ok (.aload_n 0, 1) := by decide +kernel
theorem d_Comp_emitIf_22 : decode b_Comp_emitIf 22 = .ok (.bipush 14, 2) := by decide +kernel
theorem d_Comp_emitIf_24 : decode b_Comp_emitIf 24 = .ok (.aload_n 0, 1) := by decide +kernel
theorem d_Comp_emitIf_25 : decode b_Comp_emitIf 25 = .ok (.getfield 9, 3) := by decide +kernel
theorem d_Comp_emitIf_28 : decode b_Comp_emitIf 28 = .ok (.getfield 78, 3) := by decide +kernel
theorem d_Comp_emitIf_31 : decode b_Comp_emitIf 31 = .ok (.iload_n 1, 1) := by decide +kernel
theorem d_Comp_emitIf_32 : decode b_Comp_emitIf 32 = .ok (.iaload, 1) := by decide +kernel
theorem d_Comp_emitIf_33 : decode b_Comp_emitIf 33 = .ok (.invokevirtual 41, 3) := by decide +kernel
theorem d_Comp_emitIf_36 : decode b_Comp_emitIf 36 = .ok (.aload_n 0, 1) := by decide +kernel
theorem d_Comp_emitIf_37 : decode b_Comp_emitIf 37 = .ok (.getfield 26, 3) := by decide +kernel
theorem d_Comp_emitIf_40 : decode b_Comp_emitIf 40 = .ok (.istore_n 3, 1) := by decide +kernel
theorem d_Comp_emitIf_41 : decode b_Comp_emitIf 41 = .ok (.aload_n 0, 1) := by decide +kernel
theorem d_Comp_emitIf_42 : decode b_Comp_emitIf 42 = .ok (.aload_n 0, 1) := by decide +kernel
theorem d_Comp_emitIf_43 : decode b_Comp_emitIf 43 = .ok (.getfield 9, 3) := by decide +kernel
theorem d_Comp_emitIf_46 : decode b_Comp_emitIf 46 = .ok (.iload_n 1, 1) := by decide +kernel
theorem d_Comp_emitIf_47 : decode b_Comp_emitIf 47 = .ok (.iconst 1, 1) := by decide +kernel
theorem d_Comp_emitIf_48 : decode b_Comp_emitIf 48 = .ok (.invokevirtual 84, 3) := by decide +kernel
theorem d_Comp_emitIf_51 : decode b_Comp_emitIf 51 = .ok (.invokevirtual 45, 3) := by decide +kernel
theorem d_Comp_emitIf_54 : decode b_Comp_emitIf 54 = .ok (.aload_n 0, 1) := by decide +kernel
theorem d_Comp_emitIf_55 : decode b_Comp_emitIf 55 = .ok (.getfield 25, 3) := by decide +kernel
theorem d_Comp_emitIf_58 : decode b_Comp_emitIf 58 = .ok (.getfield 67, 3) := by decide +kernel
theorem d_Comp_emitIf_61 : decode b_Comp_emitIf 61 = .ok (.istore 4, 2) := by decide +kernel
theorem d_Comp_emitIf_63 : decode b_Comp_emitIf 63 = .ok (.aload_n 0, 1) := by decide +kernel
theorem d_Comp_emitIf_64 : decode b_Comp_emitIf 64 = .ok (.bipush 15, 2) := by decide +kernel
theorem d_Comp_emitIf_66 : decode b_Comp_emitIf 66 = .ok (.iconst 0, 1) := by decide +kernel
theorem d_Comp_emitIf_67 : decode b_Comp_emitIf 67 = .ok (.invokevirtual 41, 3) := by decide +kernel
theorem d_Comp_emitIf_70 : decode b_Comp_emitIf 70 = .ok (.aload_n 0, 1) := by decide +kernel
theorem d_Comp_emitIf_71 : decode b_Comp_emitIf 71 = .ok (.iload_n 2, 1) := by decide +kernel
theorem d_Comp_emitIf_72 : decode b_Comp_emitIf 72 = .ok (.aload_n 0, 1) := by decide +kernel
theorem d_Comp_emitIf_73 : decode b_Comp_emitIf 73 = .ok (.getfield 25, 3) := by decide +kernel
theorem d_Comp_emitIf_76 : decode b_Comp_emitIf 76 = .ok (.getfield 67, 3) := by decide +kernel
theorem d_Comp_emitIf_79 : decode b_Comp_emitIf 79 = .ok (.invokevirtual 93, 3) := by decide +kernel
theorem d_Comp_emitIf_82 : decode b_Comp_emitIf 82 = .ok (.aload_n 0, 1) := by decide +kernel
theorem d_Comp_emitIf_83 : decode b_Comp_emitIf 83 = .ok (.iload_n 3, 1) := by decide +kernel
theorem d_Comp_emitIf_84 : decode b_Comp_emitIf 84 = .ok (.putfield 26, 3) := by decide +kernel
theorem d_Comp_emitIf_87 : decode b_Comp_emitIf 87 = .ok (.aload_n 0, 1) := by decide +kernel
theorem d_Comp_emitIf_88 : decode b_Comp_emitIf 88 = .ok (.aload_n 0, 1) := by decide +kernel
theorem d_Comp_emitIf_89 : decode b_Comp_emitIf 89 = .ok (.getfield 9, 3) := by decide +kernel
theorem d_Comp_emitIf_92 : decode b_Comp_emitIf 92 = .ok (.iload_n 1, 1) := by decide +kernel
theorem d_Comp_emitIf_93 : decode b_Comp_emitIf 93 = .ok (.iconst 2, 1) := by decide +kernel
theorem d_Comp_emitIf_94 : decode b_Comp_emitIf 94 = .ok (.invokevirtual 84, 3) := by decide +kernel
theorem d_Comp_emitIf_97 : decode b_Comp_emitIf 97 = .ok (.invokevirtual 45, 3) := by decide +kernel
theorem d_Comp_emitIf_100 : decode b_Comp_emitIf 100 = .ok (.aload_n 0, 1) := by decide +kernel
theorem d_Comp_emitIf_101 : decode b_Comp_emitIf 101 = .ok (.iload 4, 2) := by decide +kernel
theorem d_Comp_emitIf_103 : decode b_Comp_emitIf 103 = .ok (.aload_n 0, 1) := by decide +kernel
theorem d_Comp_emitIf_104 : decode b_Comp_emitIf 104 = .ok (.getfield 25, 3) := by decide +kernel
theorem d_Comp_emitIf_107 : decode b_Comp_emitIf 107 = .ok (.getfield 67, 3) := by decide +kernel
theorem d_Comp_emitIf_110 : decode b_Comp_emitIf 110 = .ok (.invokevirtual 96, 3) := by decide +kernel
theorem d_Comp_emitIf_113 : decode b_Comp_emitIf 113 = .ok (.return_, 1) := by decide +kernel
abbrev b_Comp_emitTimes : ByteArray := prog_5_method_7_code
abbrev J_Comp_emitTimes : MethodName × ByteArray × Nat × Option FieldType := (⟨"FaslDesk$Compiler", "emitTimes", "(I)V"⟩, b_Comp_emitTimes, 5, none)
theorem d_Comp_emitTimes_0 : decode b_Comp_emitTimes 0 = .ok (.aload_n 0, 1) := by decide +kernel
theorem d_Comp_emitTimes_1 : decode b_Comp_emitTimes 1 = .ok (.getfield 9, 3) := by decide +kernel
theorem d_Comp_emitTimes_4 : decode b_Comp_emitTimes 4 = .ok (.getfield 78, 3) := by decide +kernel
theorem d_Comp_emitTimes_7 : decode b_Comp_emitTimes 7 = .ok (.iload_n 1, 1) := by decide +kernel
theorem d_Comp_emitTimes_8 : decode b_Comp_emitTimes 8 = .ok (.iaload, 1) := by decide +kernel
theorem d_Comp_emitTimes_9 : decode b_Comp_emitTimes 9 = .ok (.istore_n 2, 1) := by decide +kernel
theorem d_Comp_emitTimes_10 : decode b_Comp_emitTimes 10 = .ok (.aload_n 0, 1) := by decide +kernel
theorem d_Comp_emitTimes_11 : decode b_Comp_emitTimes 11 = .ok (.aload_n 0, 1) := by decide +kernel
theorem d_Comp_emitTimes_12 : decode b_Comp_emitTimes 12 = .ok (.getfield 9, 3) := by decide +kernel
theorem d_Comp_emitTimes_15 : decode b_Comp_emitTimes 15 = .ok (.iload_n 1, 1) := by decide +kernel
theorem d_Comp_emitTimes_16 : decode b_Comp_emitTimes 16 = .ok (.iconst 0, 1) := by decide +kernel
theorem d_Comp_emitTimes_17 : decode b_Comp_emitTimes 17 = .ok (.invokevirtual 84, 3) := by decide +kernel
theorem d_Comp_emitTimes_20 : decode b_Comp_emitTimes 20 = .ok (.invokevirtual 45, 3) := by decide +kernel
theorem d_Comp_emitTimes_23 : decode b_Comp_emitTimes 23 = .ok (.aload_n 0, 1) := by decide +kernel
theorem d_Comp_emitTimes_24 : decode b_Comp_emitTimes 24 = .ok (.iconst 0, 1) := by decide +kernel
theorem d_Comp_emitTimes_25 : decode b_Comp_emitTimes 25 = .ok (.bipush 7, 2) := by decide +kernel
theorem d_Comp_emitTimes_27 : decode b_Comp_emitTimes 27 = .ok (.invokevirtual 41, 3) := by decide +kernel
theorem d_Comp_emitTimes_30 : decode b_Comp_emitTimes 30 = .ok (.aload_n 0, 1) := by decide +kernel
theorem d_Comp_emitTimes_31 : decode b_Comp_emitTimes 31 = .ok (.bipush 7, 2) := by decide +kernel
theorem d_Comp_emitTimes_33 : decode b_Comp_emitTimes 33 = .ok (.invokevirtual 99, 3) := by decide +kernel
theorem d_Comp_emitTimes_36 : decode b_Comp_emitTimes 36 = .ok (.aload_n 0, 1) := by decide +kernel
theorem d_Comp_emitTimes_37 : decode b_Comp_emitTimes 37 = .ok (.bipush 13, 2) := by decide +kernel
theorem d_Comp_emitTimes_39 : decode b_Comp_emitTimes 39 = .ok (.iload_n 2, 1) := by decide +kernel
theorem d_Comp_emitTimes_40 : decode b_Comp_emitTimes 40 = .ok (.invokevirtual 41, 3) := by decide +kernel
theorem d_Comp_emitTimes_43 : decode b_Comp_emitTimes 43 = .ok (.aload_n 0, 1) := by decide +kernel
theorem d_Comp_emitTimes_44 : decode b_Comp_emitTimes 44 = .ok (.getfield 25, 3) := by decide +kernel
theorem d_Comp_emitTimes_47 : decode b_Comp_emitTimes 47 = .ok (.getfield 67, 3) := by decide +kernel
theorem d_Comp_emitTimes_50 : decode b_Comp_emitTimes 50 = .ok (.istore_n 3, 1) := by decide +kernel
theorem d_Comp_emitTimes_51 : decode b_Comp_emitTimes 51 = .ok (.aload_n 0, 1) := by decide +kernel
theorem d_Comp_emitTimes_52 : decode b_Comp_emitTimes 52 = .ok (.iconst 1, 1) := by decide +kernel
theorem d_Comp_emitTimes_53 : decode b_Comp_emitTimes 53 = .ok (.iload_n 2, 1) := by decide +kernel
theorem d_Comp_emitTimes_54 : decode b_Comp_emitTimes 54 = .ok (.invokevirtual 41, 3) := by decide +kernel
theorem d_Comp_emitTimes_57 : decode b_Comp_emitTimes 57 = .ok (.aload_n 0, 1) := by decide +kernel
theorem d_Comp_emitTimes_58 : decode b_Comp_emitTimes 58 = .ok (.getfield 25, 3) := by decide +kernel
theorem d_Comp_emitTimes_61 : decode b_Comp_emitTimes 61 = .ok (.getfield 67, 3) := by decide +kernel
theorem d_Comp_emitTimes_64 : decode b_Comp_emitTimes 64 = .ok (.istore 4, 2) := by decide +kernel
theorem d_Comp_emitTimes_66 : decode b_Comp_emitTimes 66 = .ok (.aload_n 0, 1) := by decide +kernel
theorem d_Comp_emitTimes_67 : decode b_Comp_emitTimes 67 = .ok (.bipush 14, 2) := by decide +kernel
theorem d_Comp_emitTimes_69 : decode b_Comp_emitTimes 69 = .ok (.iconst 1, 1) := by decide +kernel
theorem d_Comp_emitTimes_70 : decode b_Comp_emitTimes 70 = .ok (.invokevirtual 41, 3) := by decide +kernel
theorem d_Comp_emitTimes_73 : decode b_Comp_emitTimes 73 = .ok (.aload_n 0, 1) := by decide +kernel
theorem d_Comp_emitTimes_74 : decode b_Comp_emitTimes 74 = .ok (.aload_n 0, 1) := by decide +kernel
theorem d_Comp_emitTimes_75 : decode b_Comp_emitTimes 75 = .ok (.getfield 9, 3) := by decide +kernel
theorem d_Comp_emitTimes_78 : decode b_Comp_emitTimes 78 = .ok (.iload_n 1, 1) := by decide +kernel
theorem d_Comp_emitTimes_79 : decode b_Comp_emitTimes 79 = .ok (.iconst 1, 1) := by decide +kernel
theorem d_Comp_emitTimes_80 : decode b_Comp_emitTimes 80 = .ok (.invokevirtual 84, 3) := by decide +kernel
theorem d_Comp_emitTimes_83 : decode b_Comp_emitTimes 83 = .ok (.invokevirtual 45, 3) := by decide +kernel
theorem d_Comp_emitTimes_86 : decode b_Comp_emitTimes 86 = .ok (.aload_n 0, 1) := by decide +kernel
theorem d_Comp_emitTimes_87 : decode b_Comp_emitTimes 87 = .ok (.bipush 18, 2) := by decide +kernel
theorem d_Comp_emitTimes_89 : decode b_Comp_emitTimes 89 = .ok (.invokevirtual 99, 3) := by decide +kernel
theorem d_Comp_emitTimes_92 : decode b_Comp_emitTimes 92 = .ok (.aload_n 0, 1) := by decide +kernel
theorem d_Comp_emitTimes_93 : decode b_Comp_emitTimes 93 = .ok (.iconst 1, 1) := by decide +kernel
theorem d_Comp_emitTimes_94 : decode b_Comp_emitTimes 94 = .ok (.iload_n 2, 1) := by decide +kernel
theorem d_Comp_emitTimes_95 : decode b_Comp_emitTimes 95 = .ok (.invokevirtual 41, 3) := by decide +kernel
theorem d_Comp_emitTimes_98 : decode b_Comp_emitTimes 98 = .ok (.aload_n 0, 1) := by decide +kernel
theorem d_Comp_emitTimes_99 : decode b_Comp_emitTimes 99 = .ok (.iconst 0, 1) := by decide +kernel
theorem d_Comp_emitTimes_100 : decode b_Comp_emitTimes 100 = .ok (.iconst 1, 1) := by decide +kernel
theorem d_Comp_emitTimes_101 : decode b_Comp_emitTimes 101 = .ok (.invokevirtual 41, 3) := by decide +kernel
theorem d_Comp_emitTimes_104 : decode b_Comp_emitTimes 104 = .ok (.aload_n 0, 1) := by decide +kernel
theorem d_Comp_emitTimes_105 : decode b_Comp_emitTimes 105 = .ok (.iconst 3, 1) := by decide +kernel
theorem d_Comp_emitTimes_106 : decode b_Comp_emitTimes 106 = .ok (.invokevirtual 99, 3) := by decide +kernel
theorem d_Comp_emitTimes_109 : decode b_Comp_emitTimes 109 = .ok (.aload_n 0, 1) := by decide +kernel
theorem d_Comp_emitTimes_110 : decode b_Comp_emitTimes 110 = .ok (.bipush 13, 2) := by decide +kernel
theorem d_Comp_emitTimes_112 : decode b_Comp_emitTimes 112 = .ok (.iload_n 2, 1) := by decide +kernel
theorem d_Comp_emitTimes_113 : decode b_Comp_emitTimes 113 = .ok (.invokevirtual 41, 3) := by decide +kernel
theorem d_Comp_emitTimes_116 : decode b_Comp_emitTimes 116 = .ok (.aload_n 0, 1) := by decide +kernel
theorem d_Comp_emitTimes_117 : decode b_Comp_emitTimes 117 = .ok (.bipush 15, 2) := by decide +kernel
theorem d_Comp_emitTimes_119 : decode b_Comp_emitTimes 119 = .ok (.iload_n 3, 1) := by decide +kernel
theorem d_Comp_emitTimes_120 : decode b_Comp_emitTimes 120 = .ok (.invokevirtual 41, 3) := by decide +kernel
theorem d_Comp_emitTimes_123 : decode b_Comp_emitTimes 123 = .ok (.aload_n 0, 1) := by decide +kernel
theorem d_Comp_emitTimes_124 : decode b_Comp_emitTimes 124 = .ok (.iload 4, 2) := by decide +kernel
theorem d_Comp_emitTimes_126 : decode b_Comp_emitTimes 126 = .ok (.aload_n 0, 1) := by decide +kernel
theorem d_Comp_emitTimes_127 : decode b_Comp_emitTimes 127 = .ok (.getfield 25, 3) := by decide +kernel
theorem d_Comp_emitTimes_130 : decode b_Comp_emitTimes 130 = .ok (.getfield 67, 3) := by decide +kernel
theorem d_Comp_emitTimes_133 : decode b_Comp_emitTimes 133 = .ok (.invokevirtual 93, 3) := by decide +kernel
theorem d_Comp_emitTimes_136 : decode b_Comp_emitTimes 136 = .ok (.aload_n 0, 1) := by decide +kernel
theorem d_Comp_emitTimes_137 : decode b_Comp_emitTimes 137 = .ok (.iconst 0, 1) := by decide +kernel
theorem d_Comp_emitTimes_138 : decode b_Comp_emitTimes 138 = .ok (.iconst 0, 1) := by decide +kernel
theorem d_Comp_emitTimes_139 : decode b_Comp_emitTimes 139 = .ok (.invokevirtual 41, 3) := by decide +kernel
theorem d_Comp_emitTimes_142 : decode b_Comp_emitTimes 142 = .ok (.return_, 1) := by decide +kernel
abbrev b_Comp_setFirst : ByteArray := prog_5_method_8_code
abbrev J_Comp_setFirst : MethodName × ByteArray × Nat × Option FieldType := (⟨"FaslDesk$Compiler", "setFirst", "(II)V"⟩, b_Comp_setFirst, 3, none)
theorem d_Comp_setFirst_0 : decode b_Comp_setFirst 0 = .ok (.iload_n 1, 1) := by decide +kernel
theorem d_Comp_setFirst_1 : decode b_Comp_setFirst 1 = .ok (.aload_n 0, 1) := by decide +kernel
theorem d_Comp_setFirst_2 : decode b_Comp_setFirst 2 = .ok (.getfield 25, 3) := by decide +kernel
theorem d_Comp_setFirst_5 : decode b_Comp_setFirst 5 = .ok (.getfield 67, 3) := by decide +kernel
theorem d_Comp_setFirst_8 : decode b_Comp_setFirst 8 = .ok (.if_icmp .ge 13, 3) := by decide +kernel
theorem d_Comp_setFirst_11 : decode b_Comp_setFirst 11 = .ok (.aload_n 0, 1) := by decide +kernel
theorem d_Comp_setFirst_12 : decode b_Comp_setFirst 12 = .ok (.getfield 25, 3) := by decide +kernel
theorem d_Comp_setFirst_15 : decode b_Comp_setFirst 15 = .ok (.getfield 102, 3) := by decide +kernel
theorem d_Comp_setFirst_18 : decode b_Comp_setFirst 18 = .ok (.iload_n 1, 1) := by decide +kernel
theorem d_Comp_setFirst_19 : decode b_Comp_setFirst 19 = .ok (.iload_n 2, 1) := by decide +kernel
theorem d_Comp_setFirst_20 : decode b_Comp_setFirst 20 = .ok (.iastore, 1) := by decide +kernel
theorem d_Comp_setFirst_21 : decode b_Comp_setFirst 21 = .ok (.return_, 1) := by decide +kernel
abbrev b_Comp_setSecond : ByteArray := prog_5_method_9_code
abbrev J_Comp_setSecond : MethodName × ByteArray × Nat × Option FieldType := (⟨"FaslDesk$Compiler", "setSecond", "(II)V"⟩, b_Comp_setSecond, 3, none)
theorem d_Comp_setSecond_0 : decode b_Comp_setSecond 0 = .ok (.iload_n 1, 1) := by decide +kernel
theorem d_Comp_setSecond_1 : decode b_Comp_setSecond 1 = .ok (.aload_n 0, 1) := by decide +kernel
theorem d_Comp_setSecond_2 : decode b_Comp_setSecond 2 = .ok (.getfield 25, 3) := by decide +kernel
theorem d_Comp_setSecond_5 : decode b_Comp_setSecond 5 = .ok (.getfield 67, 3) := by decide +kernel
theorem d_Comp_setSecond_8 : decode b_Comp_setSecond 8 = .ok (.if_icmp .ge 13, 3) := by decide +kernel
theorem d_Comp_setSecond_11 : decode b_Comp_setSecond 11 = .ok (.aload_n 0, 1) := by decide +kernel
theorem d_Comp_setSecond_12 : decode b_Comp_setSecond 12 = .ok (.getfield 25, 3) := by decide +kernel
theorem d_Comp_setSecond_15 : decode b_Comp_setSecond 15 = .ok (.getfield 105, 3) := by decide +kernel
theorem d_Comp_setSecond_18 : decode b_Comp_setSecond 18 = .ok (.iload_n 1, 1) := by decide +kernel
theorem d_Comp_setSecond_19 : decode b_Comp_setSecond 19 = .ok (.iload_n 2, 1) := by decide +kernel
theorem d_Comp_setSecond_20 : decode b_Comp_setSecond 20 = .ok (.iastore, 1) := by decide +kernel
theorem d_Comp_setSecond_21 : decode b_Comp_setSecond 21 = .ok (.return_, 1) := by decide +kernel
abbrev b_Entry_init : ByteArray := prog_6_method_1_code
abbrev J_Entry_init : MethodName × ByteArray × Nat × Option FieldType := (⟨"FaslDesk$Entry", "<init>", "()V"⟩, b_Entry_init, 1, none)
theorem d_Entry_init_0 : decode b_Entry_init 0 = .ok (.aload_n 0, 1) := by decide +kernel
theorem d_Entry_init_1 : decode b_Entry_init 1 = .ok (.invokespecial 3, 3) := by decide +kernel
theorem d_Entry_init_4 : decode b_Entry_init 4 = .ok (.aload_n 0, 1) := by decide +kernel
theorem d_Entry_init_5 : decode b_Entry_init 5 = .ok (.new 9, 3) := by decide +kernel
theorem d_Entry_init_8 : decode b_Entry_init 8 = .ok (.dup, 1) := by decide +kernel
theorem d_Entry_init_9 : decode b_Entry_init 9 = .ok (.invokespecial 11, 3) := by decide +kernel
theorem d_Entry_init_12 : decode b_Entry_init 12 = .ok (.putfield 12, 3) := by decide +kernel
theorem d_Entry_init_15 : decode b_Entry_init 15 = .ok (.aload_n 0, 1) := by decide +kernel
theorem d_Entry_init_16 : decode b_Entry_init 16 = .ok (.sipush 265, 3) := by decide +kernel
theorem d_Entry_init_19 : decode b_Entry_init 19 = .ok (.newarray .boolean, 2) := by decide +kernel
theorem d_Entry_init_21 : decode b_Entry_init 21 = .ok (.putfield 18, 3) := by decide +kernel
theorem d_Entry_init_24 : decode b_Entry_init 24 = .ok (.aload_n 0, 1) := by decide +kernel
theorem d_Entry_init_25 : decode b_Entry_init 25 = .ok (.sipush 265, 3) := by decide +kernel
theorem d_Entry_init_28 : decode b_Entry_init 28 = .ok (.newarray .int, 2) := by decide +kernel
theorem d_Entry_init_30 : decode b_Entry_init 30 = .ok (.putfield 22, 3) := by decide +kernel
theorem d_Entry_init_33 : decode b_Entry_init 33 = .ok (.return_, 1) := by decide +kernel
abbrev b_Entry_startWith : ByteArray := prog_6_method_2_code
abbrev J_Entry_startWith : MethodName × ByteArray × Nat × Option FieldType := (⟨"FaslDesk$Entry", "startWith", "(I)V"⟩, b_Entry_startWith, 3, none)
theorem d_Entry_startWith_0 : decode b_Entry_startWith 0 = .ok (.aload_n 0, 1) := by decide +kernel
theorem d_Entry_startWith_1 : decode b_Entry_startWith 1 = .ok (.getfield 12, 3) := by decide +kernel
theorem d_Entry_startWith_4 : decode b_Entry_startWith 4 = .ok (.iconst 0, 1) := by decide +kernel
theorem d_Entry_startWith_5 : decode b_Entry_startWith 5 = .ok (.putfield 26, 3) := by decide +kernel
theorem d_Entry_startWith_8 : decode b_Entry_startWith 8 = .ok (.aload_n 0, 1) := by decide +kernel
theorem d_Entry_startWith_9 : decode b_Entry_startWith 9 = .ok (.iload_n 1, 1) := by decide +kernel
theorem d_Entry_startWith_10 : decode b_Entry_startWith 10 = .ok (.putfield 30, 3) := by decide +kernel
theorem d_Entry_startWith_13 : decode b_Entry_startWith 13 = .ok (.aload_n 0, 1) := by decide +kernel
theorem d_Entry_startWith_14 : decode b_Entry_startWith 14 = .ok (.iconst 0, 1) := by decide +kernel
theorem d_Entry_startWith_15 : decode b_Entry_startWith 15 = .ok (.putfield 33, 3) := by decide +kernel
theorem d_Entry_startWith_18 : decode b_Entry_startWith 18 = .ok (.iconst 0, 1) := by decide +kernel
theorem d_Entry_startWith_19 : decode b_Entry_startWith 19 = .ok (.istore_n 2, 1) := by decide +kernel
theorem d_Entry_startWith_20 : decode b_Entry_startWith 20 = .ok (.iload_n 2, 1) := by decide +kernel
theorem d_Entry_startWith_21 : decode b_Entry_startWith 21 = .ok (.sipush 265, 3) := by decide +kernel
theorem d_Entry_startWith_24 : decode b_Entry_startWith 24 = .ok (.if_icmp .ge 16, 3) := by decide +kernel
theorem d_Entry_startWith_27 : decode b_Entry_startWith 27 = .ok (.aload_n 0, 1) := by decide +kernel
theorem d_Entry_startWith_28 : decode b_Entry_startWith 28 = .ok (.getfield 18, 3) := by decide +kernel
theorem d_Entry_startWith_31 : decode b_Entry_startWith 31 = .ok (.iload_n 2, 1) := by decide +kernel
theorem d_Entry_startWith_32 : decode b_Entry_startWith 32 = .ok (.iconst 0, 1) := by decide +kernel
theorem d_Entry_startWith_33 : decode b_Entry_startWith 33 = .ok (.bastore, 1) := by decide +kernel
theorem d_Entry_startWith_34 : decode b_Entry_startWith 34 = .ok (.iinc 2 1, 3) := by decide +kernel
theorem d_Entry_startWith_37 : decode b_Entry_startWith 37 = .ok (.goto (-17), 3) := by decide +kernel
theorem d_Entry_startWith_40 : decode b_Entry_startWith 40 = .ok (.return_, 1) := by decide +kernel
abbrev b_Entry_finishFor : ByteArray := prog_6_method_3_code
abbrev J_Entry_finishFor : MethodName × ByteArray × Nat × Option FieldType := (⟨"FaslDesk$Entry", "finishFor", "(I)V"⟩, b_Entry_finishFor, 2, none)
theorem d_Entry_finishFor_0 : decode b_Entry_finishFor 0 = .ok (.aload_n 0, 1) := by decide +kernel
theorem d_Entry_finishFor_1 : decode b_Entry_finishFor 1 = .ok (.iload_n 1, 1) := by decide +kernel
theorem d_Entry_finishFor_2 : decode b_Entry_finishFor 2 = .ok (.putfield 36, 3) := by decide +kernel
theorem d_Entry_finishFor_5 : decode b_Entry_finishFor 5 = .ok (.aload_n 0, 1) := by decide +kernel
theorem d_Entry_finishFor_6 : decode b_Entry_finishFor 6 = .ok (.iload_n 1, 1) := by decide +kernel
theorem d_Entry_finishFor_7 : decode b_Entry_finishFor 7 = .ok (.putfield 39, 3) := by decide +kernel
theorem d_Entry_finishFor_10 : decode b_Entry_finishFor 10 = .ok (.aload_n 0, 1) := by decide +kernel
theorem d_Entry_finishFor_11 : decode b_Entry_finishFor 11 = .ok (.iconst 0, 1) := by decide +kernel
theorem d_Entry_finishFor_12 : decode b_Entry_finishFor 12 = .ok (.putfield 42, 3) := by decide +kernel
theorem d_Entry_finishFor_15 : decode b_Entry_finishFor 15 = .ok (.aload_n 0, 1) := by decide +kernel
theorem d_Entry_finishFor_16 : decode b_Entry_finishFor 16 = .ok (.invokevirtual 46, 3) := by decide +kernel
theorem d_Entry_finishFor_19 : decode b_Entry_finishFor 19 = .ok (.return_, 1) := by decide +kernel
abbrev b_Entry_makeSeal : ByteArray := prog_6_method_4_code
abbrev J_Entry_makeSeal : MethodName × ByteArray × Nat × Option FieldType := (⟨"FaslDesk$Entry", "makeSeal", "()V"⟩, b_Entry_makeSeal, 1, none)
theorem d_Entry_makeSeal_0 : decode b_Entry_makeSeal 0 = .ok (.aload_n 0, 1) := by decide +kernel
theorem d_Entry_makeSeal_1 : decode b_Entry_makeSeal 1 = .ok (.aload_n 0, 1) := by decide +kernel
theorem d_Entry_makeSeal_2 : decode b_Entry_makeSeal 2 = .ok (.getfield 36, 3) := by decide +kernel
theorem d_Entry_makeSeal_5 : decode b_Entry_makeSeal 5 = .ok (.putfield 49, 3) := by decide +kernel
theorem d_Entry_makeSeal_8 : decode b_Entry_makeSeal 8 = .ok (.aload_n 0, 1) := by decide +kernel
theorem d_Entry_makeSeal_9 : decode b_Entry_makeSeal 9 = .ok (.aload_n 0, 1) := by decide +kernel
theorem d_Entry_makeSeal_10 : decode b_Entry_makeSeal 10 = .ok (.getfield 42, 3) := by decide +kernel
theorem d_Entry_makeSeal_13 : decode b_Entry_makeSeal 13 = .ok (.putfield 52, 3) := by decide +kernel
theorem d_Entry_makeSeal_16 : decode b_Entry_makeSeal 16 = .ok (.aload_n 0, 1) := by decide +kernel
theorem d_Entry_makeSeal_17 : decode b_Entry_makeSeal 17 = .ok (.getfield 12, 3) := by decide +kernel
theorem d_Entry_makeSeal_20 : decode b_Entry_makeSeal 20 = .ok (.getfield 55, 3) := by decide +kernel
theorem d_Entry_makeSeal_23 : decode b_Entry_makeSeal 23 = .ok (.iconst 0, 1) := by decide +kernel
theorem d_Entry_makeSeal_24 : decode b_Entry_makeSeal 24 = .ok (.aload_n 0, 1) := by decide +kernel
theorem d_Entry_makeSeal_25 : decode b_Entry_makeSeal 25 = .ok (.getfield 22, 3) := by decide +kernel
theorem d_Entry_makeSeal_28 : decode b_Entry_makeSeal 28 = .ok (.iconst 0, 1) := by decide +kernel
theorem d_Entry_makeSeal_29 : decode b_Entry_makeSeal 29 = .ok (.aload_n 0, 1) := by decide +kernel
theorem d_Entry_makeSeal_30 : decode b_Entry_makeSeal 30 = .ok (.getfield 12, 3) := by decide +kernel
theorem d_Entry_makeSeal_33 : decode b_Entry_makeSeal 33 = .ok (.getfield 26, 3) := by decide +kernel
theorem d_Entry_makeSeal_36 : decode b_Entry_makeSeal 36 = .ok (.invokestatic 58, 3) := by decide +kernel
theorem d_Entry_makeSeal_39 : decode b_Entry_makeSeal 39 = .ok (.return_, 1) := by decide +kernel
abbrev b_Entry_sealGoes : ByteArray := prog_6_method_5_code
abbrev J_Entry_sealGoes : MethodName × ByteArray × Nat × Option FieldType := (⟨"FaslDesk$Entry", "sealGoes", "()Z"⟩, b_Entry_sealGoes, 3, (some .boolean))
theorem d_Entry_sealGoes_0 : decode b_Entry_sealGoes 0 = .ok (.aload_n 0, 1) := by decide +kernel
theorem d_Entry_sealGoes_1 : decode b_Entry_sealGoes 1 = .ok (.getfield 49, 3) := by decide +kernel
theorem d_Entry_sealGoes_4 : decode b_Entry_sealGoes 4 = .ok (.aload_n 0, 1) := by decide +kernel
theorem d_Entry_sealGoes_5 : decode b_Entry_sealGoes 5 = .ok (.getfield 36, 3) := by decide +kernel
theorem d_Entry_sealGoes_8 : decode b_Entry_sealGoes 8 = .ok (.if_icmp .ne 18, 3) := by decide +kernel
theorem d_Entry_sealGoes_11 : decode b_Entry_sealGoes 11 = .ok (.aload_n 0, 1) := by decide +kernel
theorem d_Entry_sealGoes_12 : decode b_Entry_sealGoes 12 = .ok (.getfield 52, 3) := by decide +kernel
theorem d_Entry_sealGoes_15 : decode b_Entry_sealGoes 15 = .ok (.aload_n 0, 1) := by decide +kernel
theorem d_Entry_sealGoes_16 : decode b_Entry_sealGoes 16 = .ok (.getfield 42, 3) := by decide +kernel
theorem d_Entry_sealGoes_19 : decode b_Entry_sealGoes 19 = .ok (.if_icmp .ne 7, 3) := by decide +kernel
theorem d_Entry_sealGoes_22 : decode b_Entry_sealGoes 22 = .ok (.iconst 1, 1) := by decide +kernel
theorem d_Entry_sealGoes_23 : decode b_Entry_sealGoes 23 = .ok (.goto 4, 3) := by decide +kernel
theorem d_Entry_sealGoes_26 : decode b_Entry_sealGoes 26 = .ok (.iconst 0, 1) := by decide +kernel
theorem d_Entry_sealGoes_27 : decode b_Entry_sealGoes 27 = .ok (.istore_n 1, 1) := by decide +kernel
theorem d_Entry_sealGoes_28 : decode b_Entry_sealGoes 28 = .ok (.iconst 0, 1) := by decide +kernel
theorem d_Entry_sealGoes_29 : decode b_Entry_sealGoes 29 = .ok (.istore_n 2, 1) := by decide +kernel
theorem d_Entry_sealGoes_30 : decode b_Entry_sealGoes 30 = .ok (.iload_n 2, 1) := by decide +kernel
theorem d_Entry_sealGoes_31 : decode b_Entry_sealGoes 31 = .ok (.aload_n 0, 1) := by decide +kernel
theorem d_Entry_sealGoes_32 : decode b_Entry_sealGoes 32 = .ok (.getfield 12, 3) := by decide +kernel
theorem d_Entry_sealGoes_35 : decode b_Entry_sealGoes 35 = .ok (.getfield 26, 3) := by decide +kernel
theorem d_Entry_sealGoes_38 : decode b_Entry_sealGoes 38 = .ok (.if_icmp .ge 37, 3) := by decide +kernel
theorem d_Entry_sealGoes_41 : decode b_Entry_sealGoes 41 = .ok (.iload_n 1, 1) := by decide +kernel
theorem d_Entry_sealGoes_42 : decode b_Entry_sealGoes 42 = .ok (.ifCond .eq 33, 3) := by decide +kernel
theorem d_Entry_sealGoes_45 : decode b_Entry_sealGoes 45 = .ok (.aload_n 0, 1) := by decide +kernel
theorem d_Entry_sealGoes_46 : decode b_Entry_sealGoes 46 = .ok (.getfield 22, 3) := by decide +kernel
theorem d_Entry_sealGoes_49 : decode b_Entry_sealGoes 49 = .ok (.iload_n 2, 1) := by decide +kernel
theorem d_Entry_sealGoes_50 : decode b_Entry_sealGoes 50 = .ok (.iaload, 1) := by decide +kernel
theorem d_Entry_sealGoes_51 : decode b_Entry_sealGoes 51 = .ok (.aload_n 0, 1) := by decide +kernel
theorem d_Entry_sealGoes_52 : decode b_Entry_sealGoes 52 = .ok (.getfield 12, 3) := by decide +kernel
theorem d_Entry_sealGoes_55 : decode b_Entry_sealGoes 55 = .ok (.getfield 55, 3) := by decide +kernel
theorem d_Entry_sealGoes_58 : decode b_Entry_sealGoes 58 = .ok (.iload_n 2, 1) := by decide +kernel
theorem d_Entry_sealGoes_59 : decode b_Entry_sealGoes 59 = .ok (.iaload, 1) := by decide +kernel
theorem d_Entry_sealGoes_60 : decode b_Entry_sealGoes 60 = .ok (.if_icmp .ne 7, 3) := by decide +kernel
theorem d_Entry_sealGoes_63 : decode b_Entry_sealGoes 63 = .ok (.iconst 1, 1) := by decide +kernel
theorem d_Entry_sealGoes_64 : decode b_Entry_sealGoes 64 = .ok (.goto 4, 3) := by decide +kernel
theorem d_Entry_sealGoes_67 : decode b_Entry_sealGoes 67 = .ok (.iconst 0, 1) := by decide +kernel
theorem d_Entry_sealGoes_68 : decode b_Entry_sealGoes 68 = .ok (.istore_n 1, 1) := by decide +kernel
theorem d_Entry_sealGoes_69 : decode b_Entry_sealGoes 69 = .ok (.iinc 2 1, 3) := by decide +kernel
theorem d_Entry_sealGoes_72 : decode b_Entry_sealGoes 72 = .ok (.goto (-42), 3) := by decide +kernel
theorem d_Entry_sealGoes_75 : decode b_Entry_sealGoes 75 = .ok (.iload_n 1, 1) := by decide +kernel
theorem d_Entry_sealGoes_76 : decode b_Entry_sealGoes 76 = .ok (.ireturn, 1) := by decide +kernel
abbrev b_Form_init : ByteArray := prog_7_method_1_code
abbrev J_Form_init : MethodName × ByteArray × Nat × Option FieldType := (⟨"FaslDesk$Form", "<init>", "()V"⟩, b_Form_init, 1, none)
theorem d_Form_init_0 : decode b_Form_init 0 = .ok (.aload_n 0, 1) := by decide +kernel
theorem d_Form_init_1 : decode b_Form_init 1 = .ok (.invokespecial 3, 3) := by decide +kernel
theorem d_Form_init_4 : decode b_Form_init 4 = .ok (.aload_n 0, 1) := by decide +kernel
theorem d_Form_init_5 : decode b_Form_init 5 = .ok (.bipush 40, 2) := by decide +kernel
theorem d_Form_init_7 : decode b_Form_init 7 = .ok (.newarray .int, 2) := by decide +kernel
theorem d_Form_init_9 : decode b_Form_init 9 = .ok (.putfield 9, 3) := by decide +kernel
theorem d_Form_init_12 : decode b_Form_init 12 = .ok (.aload_n 0, 1) := by decide +kernel
theorem d_Form_init_13 : decode b_Form_init 13 = .ok (.bipush 40, 2) := by decide +kernel
theorem d_Form_init_15 : decode b_Form_init 15 = .ok (.newarray .int, 2) := by decide +kernel
theorem d_Form_init_17 : decode b_Form_init 17 = .ok (.putfield 15, 3) := by decide +kernel
theorem d_Form_init_20 : decode b_Form_init 20 = .ok (.aload_n 0, 1) := by decide +kernel
theorem d_Form_init_21 : decode b_Form_init 21 = .ok (.bipush 120, 2) := by decide +kernel
theorem d_Form_init_23 : decode b_Form_init 23 = .ok (.newarray .int, 2) := by decide +kernel
theorem d_Form_init_25 : decode b_Form_init 25 = .ok (.putfield 18, 3) := by decide +kernel
theorem d_Form_init_28 : decode b_Form_init 28 = .ok (.return_, 1) := by decide +kernel
abbrev b_Form_allows : ByteArray := prog_7_method_2_code
abbrev J_Form_allows : MethodName × ByteArray × Nat × Option FieldType := (⟨"FaslDesk$Form", "allows", "(II)Z"⟩, b_Form_allows, 2, (some .boolean))
theorem d_Form_allows_0 : decode b_Form_allows 0 = .ok (.iload_n 0, 1) := by decide +kernel
theorem d_Form_allows_1 : decode b_Form_allows 1 = .ok (.tableswitch 114 1 17 #[83, 114, 114, 114, 114, 114, 114, 114, 114, 114, 114, 114, 91, 98, 83, 98, 106], 83) := by decide +kernel
theorem d_Form_allows_84 : decode b_Form_allows 84 = .ok (.iload_n 1, 1) := by decide +kernel
theorem d_Form_allows_85 : decode b_Form_allows 85 = .ok (.iconst 0, 1) := by decide +kernel
theorem d_Form_allows_86 : decode b_Form_allows 86 = .ok (.bipush 6, 2) := by decide +kernel
theorem d_Form_allows_88 : decode b_Form_allows 88 = .ok (.invokestatic 21, 3) := by decide +kernel
theorem d_Form_allows_91 : decode b_Form_allows 91 = .ok (.ireturn, 1) := by decide +kernel
theorem d_Form_allows_92 : decode b_Form_allows 92 = .ok (.iload_n 1, 1) := by decide +kernel
theorem d_Form_allows_93 : decode b_Form_allows 93 = .ok (.iconst 0, 1) := by decide +kernel
theorem d_Form_allows_94 : decode b_Form_allows 94 = .ok (.iconst 5, 1) := by decide +kernel
theorem d_Form_allows_95 : decode b_Form_allows 95 = .ok (.invokestatic 21, 3) := by decide +kernel
theorem d_Form_allows_98 : decode b_Form_allows 98 = .ok (.ireturn, 1) := by decide +kernel
theorem d_Form_allows_99 : decode b_Form_allows 99 = .ok (.iload_n 1, 1) := by decide +kernel
theorem d_Form_allows_100 : decode b_Form_allows 100 = .ok (.iconst 3, 1) := by decide +kernel
theorem d_Form_allows_101 : decode b_Form_allows 101 = .ok (.bipush 6, 2) := by decide +kernel
theorem d_Form_allows_103 : decode b_Form_allows 103 = .ok (.invokestatic 21, 3) := by decide +kernel
theorem d_Form_allows_106 : decode b_Form_allows 106 = .ok (.ireturn, 1) := by decide +kernel
theorem d_Form_allows_107 : decode b_Form_allows 107 = .ok (.iload_n 1, 1) := by decide +kernel
theorem d_Form_allows_108 : decode b_Form_allows 108 = .ok (.iconst 0, 1) := by decide +kernel
theorem d_Form_allows_109 : decode b_Form_allows 109 = .ok (.bipush 7, 2) := by decide +kernel
theorem d_Form_allows_111 : decode b_Form_allows 111 = .ok (.invokestatic 21, 3) := by decide +kernel
theorem d_Form_allows_114 : decode b_Form_allows 114 = .ok (.ireturn, 1) := by decide +kernel
theorem d_Form_allows_115 : decode b_Form_allows 115 = .ok (.iload_n 0, 1) := by decide +kernel
theorem d_Form_allows_116 : decode b_Form_allows 116 = .ok (.iconst 0, 1) := by decide +kernel
theorem d_Form_allows_117 : decode b_Form_allows 117 = .ok (.bipush 17, 2) := by decide +kernel
theorem d_Form_allows_119 : decode b_Form_allows 119 = .ok (.invokestatic 21, 3) := by decide +kernel
theorem d_Form_allows_122 : decode b_Form_allows 122 = .ok (.ireturn, 1) := by decide +kernel
abbrev b_Form_append : ByteArray := prog_7_method_3_code
abbrev J_Form_append : MethodName × ByteArray × Nat × Option FieldType := (⟨"FaslDesk$Form", "append", "(II)V"⟩, b_Form_append, 3, none)
theorem d_Form_append_0 : decode b_Form_append 0 = .ok (.aload_n 0, 1) := by decide +kernel
theorem d_Form_append_1 : decode b_Form_append 1 = .ok (.getfield 25, 3) := by decide +kernel
theorem d_Form_append_4 : decode b_Form_append 4 = .ok (.bipush 40, 2) := by decide +kernel
theorem d_Form_append_6 : decode b_Form_append 6 = .ok (.if_icmp .ge 33, 3) := by decide +kernel
theorem d_Form_append_9 : decode b_Form_append 9 = .ok (.aload_n 0, 1) := by decide +kernel
theorem d_Form_append_10 : decode b_Form_append 10 = .ok (.getfield 9, 3) := by decide +kernel
theorem d_Form_append_13 : decode b_Form_append 13 = .ok (.aload_n 0, 1) := by decide +kernel
theorem d_Form_append_14 : decode b_Form_append 14 = .ok (.getfield 25, 3) := by decide +kernel
theorem d_Form_append_17 : decode b_Form_append 17 = .ok (.iload_n 1, 1) := by decide +kernel
theorem d_Form_append_18 : decode b_Form_append 18 = .ok (.iastore, 1) := by decide +kernel
theorem d_Form_append_19 : decode b_Form_append 19 = .ok (.aload_n 0, 1) := by decide +kernel
theorem d_Form_append_20 : decode b_Form_append 20 = .ok (.getfield 15, 3) := by decide +kernel
theorem d_Form_append_23 : decode b_Form_append 23 = .ok (.aload_n 0, 1) := by decide +kernel
theorem d_Form_append_24 : decode b_Form_append 24 = .ok (.getfield 25, 3) := by decide +kernel
theorem d_Form_append_27 : decode b_Form_append 27 = .ok (.iload_n 2, 1) := by decide +kernel
theorem d_Form_append_28 : decode b_Form_append 28 = .ok (.iastore, 1) := by decide +kernel
theorem d_Form_append_29 : decode b_Form_append 29 = .ok (.aload_n 0, 1) := by decide +kernel
theorem d_Form_append_30 : decode b_Form_append 30 = .ok (.dup, 1) := by decide +kernel
theorem d_Form_append_31 : decode b_Form_append 31 = .ok (.getfield 25, 3) := by decide +kernel
theorem d_Form_append_34 : decode b_Form_append 34 = .ok (.iconst 1, 1) := by decide +kernel
theorem d_Form_append_35 : decode b_Form_append 35 = .ok (.iadd, 1) := by decide +kernel
theorem d_Form_append_36 : decode b_Form_append 36 = .ok (.putfield 25, 3) := by decide +kernel
theorem d_Form_append_39 : decode b_Form_append 39 = .ok (.return_, 1) := by decide +kernel
abbrev b_Form_becomes : ByteArray := prog_7_method_4_code
abbrev J_Form_becomes : MethodName × ByteArray × Nat × Option FieldType := (⟨"FaslDesk$Form", "becomes", "(LFaslDesk$Form;I)V"⟩, b_Form_becomes, 3, none)
theorem d_Form_becomes_0 : decode b_Form_becomes 0 = .ok (.aload_n 1, 1) := by decide +kernel
theorem d_Form_becomes_1 : decode b_Form_becomes 1 = .ok (.getfield 9, 3) := by decide +kernel
theorem d_Form_becomes_4 : decode b_Form_becomes 4 = .ok (.iconst 0, 1) := by decide +kernel
theorem d_Form_becomes_5 : decode b_Form_becomes 5 = .ok (.aload_n 0, 1) := by decide +kernel
theorem d_Form_becomes_6 : decode b_Form_becomes 6 = .ok (.getfield 9, 3) := by decide +kernel
theorem d_Form_becomes_9 : decode b_Form_becomes 9 = .ok (.iconst 0, 1) := by decide +kernel
theorem d_Form_becomes_10 : decode b_Form_becomes 10 = .ok (.bipush 40, 2) := by decide +kernel
theorem d_Form_becomes_12 : decode b_Form_becomes 12 = .ok (.invokestatic 29, 3) := by decide +kernel
theorem d_Form_becomes_15 : decode b_Form_becomes 15 = .ok (.aload_n 1, 1) := by decide +kernel
theorem d_Form_becomes_16 : decode b_Form_becomes 16 = .ok (.getfield 15, 3) := by decide +kernel
theorem d_Form_becomes_19 : decode b_Form_becomes 19 = .ok (.iconst 0, 1) := by decide +kernel
theorem d_Form_becomes_20 : decode b_Form_becomes 20 = .ok (.aload_n 0, 1) := by decide +kernel
theorem d_Form_becomes_21 : decode b_Form_becomes 21 = .ok (.getfield 15, 3) := by decide +kernel
theorem d_Form_becomes_24 : decode b_Form_becomes 24 = .ok (.iconst 0, 1) := by decide +kernel
theorem d_Form_becomes_25 : decode b_Form_becomes 25 = .ok (.bipush 40, 2) := by decide +kernel
theorem d_Form_becomes_27 : decode b_Form_becomes 27 = .ok (.invokestatic 29, 3) := by decide +kernel
theorem d_Form_becomes_30 : decode b_Form_becomes 30 = .ok (.aload_n 1, 1) := by decide +kernel
theorem d_Form_becomes_31 : decode b_Form_becomes 31 = .ok (.getfield 18, 3) := by decide +kernel
theorem d_Form_becomes_34 : decode b_Form_becomes 34 = .ok (.iconst 0, 1) := by decide +kernel
theorem d_Form_becomes_35 : decode b_Form_becomes 35 = .ok (.aload_n 0, 1) := by decide +kernel
theorem d_Form_becomes_36 : decode b_Form_becomes 36 = .ok (.getfield 18, 3) := by decide +kernel
theorem d_Form_becomes_39 : decode b_Form_becomes 39 = .ok (.iconst 0, 1) := by decide +kernel
theorem d_Form_becomes_40 : decode b_Form_becomes 40 = .ok (.bipush 120, 2) := by decide +kernel
theorem d_Form_becomes_42 : decode b_Form_becomes 42 = .ok (.invokestatic 29, 3) := by decide +kernel
theorem d_Form_becomes_45 : decode b_Form_becomes 45 = .ok (.aload_n 0, 1) := by decide +kernel
theorem d_Form_becomes_46 : decode b_Form_becomes 46 = .ok (.aload_n 1, 1) := by decide +kernel
theorem d_Form_becomes_47 : decode b_Form_becomes 47 = .ok (.getfield 25, 3) := by decide +kernel
theorem d_Form_becomes_50 : decode b_Form_becomes 50 = .ok (.putfield 25, 3) := by decide +kernel
theorem d_Form_becomes_53 : decode b_Form_becomes 53 = .ok (.aload_n 0, 1) := by decide +kernel
theorem d_Form_becomes_54 : decode b_Form_becomes 54 = .ok (.iload_n 2, 1) := by decide +kernel
theorem d_Form_becomes_55 : decode b_Form_becomes 55 = .ok (.putfield 35, 3) := by decide +kernel
theorem d_Form_becomes_58 : decode b_Form_becomes 58 = .ok (.return_, 1) := by decide +kernel
abbrev b_Form_start : ByteArray := prog_7_method_5_code
abbrev J_Form_start : MethodName × ByteArray × Nat × Option FieldType := (⟨"FaslDesk$Form", "start", "(II)I"⟩, b_Form_start, 3, (some .int))
theorem d_Form_start_0 : decode b_Form_start 0 = .ok (.aload_n 0, 1) := by decide +kernel
theorem d_Form_start_1 : decode b_Form_start 1 = .ok (.getfield 18, 3) := by decide +kernel
theorem d_Form_start_4 : decode b_Form_start 4 = .ok (.iload_n 1, 1) := by decide +kernel
theorem d_Form_start_5 : decode b_Form_start 5 = .ok (.iconst 3, 1) := by decide +kernel
theorem d_Form_start_6 : decode b_Form_start 6 = .ok (.imul, 1) := by decide +kernel
theorem d_Form_start_7 : decode b_Form_start 7 = .ok (.iload_n 2, 1) := by decide +kernel
theorem d_Form_start_8 : decode b_Form_start 8 = .ok (.iadd, 1) := by decide +kernel
theorem d_Form_start_9 : decode b_Form_start 9 = .ok (.iaload, 1) := by decide +kernel
theorem d_Form_start_10 : decode b_Form_start 10 = .ok (.ireturn, 1) := by decide +kernel
abbrev b_Form_isOneFormOf : ByteArray := prog_7_method_6_code
abbrev J_Form_isOneFormOf : MethodName × ByteArray × Nat × Option FieldType := (⟨"FaslDesk$Form", "isOneFormOf", "(II)Z"⟩, b_Form_isOneFormOf, 4, (some .boolean))
theorem d_Form_isOneFormOf_0 : decode b_Form_isOneFormOf 0 = .ok (.iconst 1, 1) := by decide +kernel
theorem d_Form_isOneFormOf_1 : decode b_Form_isOneFormOf 1 = .ok (.iload_n 2, 1) := by decide +kernel
theorem d_Form_isOneFormOf_2 : decode b_Form_isOneFormOf 2 = .ok (.ishl, 1) := by decide +kernel
theorem d_Form_isOneFormOf_3 : decode b_Form_isOneFormOf 3 = .ok (.iconst 1, 1) := by decide +kernel
theorem d_Form_isOneFormOf_4 : decode b_Form_isOneFormOf 4 = .ok (.isub, 1) := by decide +kernel
theorem d_Form_isOneFormOf_5 : decode b_Form_isOneFormOf 5 = .ok (.istore_n 3, 1) := by decide +kernel
theorem d_Form_isOneFormOf_6 : decode b_Form_isOneFormOf 6 = .ok (.aload_n 0, 1) := by decide +kernel
theorem d_Form_isOneFormOf_7 : decode b_Form_isOneFormOf 7 = .ok (.iload_n 1, 1) := by decide +kernel
theorem d_Form_isOneFormOf_8 : decode b_Form_isOneFormOf 8 = .ok (.invokevirtual 38, 3) := by decide +kernel
theorem d_Form_isOneFormOf_11 : decode b_Form_isOneFormOf 11 = .ok (.ifCond .eq 22, 3) := by decide +kernel
theorem d_Form_isOneFormOf_14 : decode b_Form_isOneFormOf 14 = .ok (.aload_n 0, 1) := by decide +kernel
theorem d_Form_isOneFormOf_15 : decode b_Form_isOneFormOf 15 = .ok (.iconst 0, 1) := by decide +kernel
theorem d_Form_isOneFormOf_16 : decode b_Form_isOneFormOf 16 = .ok (.iload_n 3, 1) := by decide +kernel
theorem d_Form_isOneFormOf_17 : decode b_Form_isOneFormOf 17 = .ok (.iconst 0, 1) := by decide +kernel
theorem d_Form_isOneFormOf_18 : decode b_Form_isOneFormOf 18 = .ok (.iconst 0, 1) := by decide +kernel
theorem d_Form_isOneFormOf_19 : decode b_Form_isOneFormOf 19 = .ok (.invokevirtual 42, 3) := by decide +kernel
theorem d_Form_isOneFormOf_22 : decode b_Form_isOneFormOf 22 = .ok (.aload_n 0, 1) := by decide +kernel
theorem d_Form_isOneFormOf_23 : decode b_Form_isOneFormOf 23 = .ok (.getfield 25, 3) := by decide +kernel
theorem d_Form_isOneFormOf_26 : decode b_Form_isOneFormOf 26 = .ok (.if_icmp .ne 7, 3) := by decide +kernel
theorem d_Form_isOneFormOf_29 : decode b_Form_isOneFormOf 29 = .ok (.iconst 1, 1) := by decide +kernel
theorem d_Form_isOneFormOf_30 : decode b_Form_isOneFormOf 30 = .ok (.goto 4, 3) := by decide +kernel
theorem d_Form_isOneFormOf_33 : decode b_Form_isOneFormOf 33 = .ok (.iconst 0, 1) := by decide +kernel
theorem d_Form_isOneFormOf_34 : decode b_Form_isOneFormOf 34 = .ok (.ireturn, 1) := by decide +kernel
abbrev b_Form_callsGo : ByteArray := prog_7_method_7_code
abbrev J_Form_callsGo : MethodName × ByteArray × Nat × Option FieldType := (⟨"FaslDesk$Form", "callsGo", "(I)Z"⟩, b_Form_callsGo, 5, (some .boolean))
theorem d_Form_callsGo_0 : decode b_Form_callsGo 0 = .ok (.iconst 0, 1) := by decide +kernel
theorem d_Form_callsGo_1 : decode b_Form_callsGo 1 = .ok (.istore_n 2, 1) := by decide +kernel
theorem d_Form_callsGo_2 : decode b_Form_callsGo 2 = .ok (.iconst 1, 1) := by decide +kernel
theorem d_Form_callsGo_3 : decode b_Form_callsGo 3 = .ok (.istore_n 3, 1) := by decide +kernel
theorem d_Form_callsGo_4 : decode b_Form_callsGo 4 = .ok (.iconst 0, 1) := by decide +kernel
theorem d_Form_callsGo_5 : decode b_Form_callsGo 5 = .ok (.istore 4, 2) := by decide +kernel
theorem d_Form_callsGo_7 : decode b_Form_callsGo 7 = .ok (.iload 4, 2) := by decide +kernel
theorem d_Form_callsGo_9 : decode b_Form_callsGo 9 = .ok (.aload_n 0, 1) := by decide +kernel
theorem d_Form_callsGo_10 : decode b_Form_callsGo 10 = .ok (.getfield 25, 3) := by decide +kernel
theorem d_Form_callsGo_13 : decode b_Form_callsGo 13 = .ok (.if_icmp .ge 45, 3) := by decide +kernel
theorem d_Form_callsGo_16 : decode b_Form_callsGo 16 = .ok (.aload_n 0, 1) := by decide +kernel
theorem d_Form_callsGo_17 : decode b_Form_callsGo 17 = .ok (.getfield 9, 3) := by decide +kernel
theorem d_Form_callsGo_20 : decode b_Form_callsGo 20 = .ok (.iload 4, 2) := by decide +kernel
theorem d_Form_callsGo_22 : decode b_Form_callsGo 22 = .ok (.iaload, 1) := by decide +kernel
theorem d_Form_callsGo_23 : decode b_Form_callsGo 23 = .ok (.bipush 17, 2) := by decide +kernel
theorem d_Form_callsGo_25 : decode b_Form_callsGo 25 = .ok (.if_icmp .ne 27, 3) := by decide +kernel
theorem d_Form_callsGo_28 : decode b_Form_callsGo 28 = .ok (.iinc 2 1, 3) := by decide +kernel
theorem d_Form_callsGo_31 : decode b_Form_callsGo 31 = .ok (.iload_n 3, 1) := by decide +kernel
theorem d_Form_callsGo_32 : decode b_Form_callsGo 32 = .ok (.ifCond .eq 18, 3) := by decide +kernel
theorem d_Form_callsGo_35 : decode b_Form_callsGo 35 = .ok (.aload_n 0, 1) := by decide +kernel
theorem d_Form_callsGo_36 : decode b_Form_callsGo 36 = .ok (.getfield 15, 3) := by decide +kernel
theorem d_Form_callsGo_39 : decode b_Form_callsGo 39 = .ok (.iload 4, 2) := by decide +kernel
theorem d_Form_callsGo_41 : decode b_Form_callsGo 41 = .ok (.iaload, 1) := by decide +kernel
theorem d_Form_callsGo_42 : decode b_Form_callsGo 42 = .ok (.iload_n 1, 1) := by decide +kernel
theorem d_Form_callsGo_43 : decode b_Form_callsGo 43 = .ok (.if_icmp .ge 7, 3) := by decide +kernel
theorem d_Form_callsGo_46 : decode b_Form_callsGo 46 = .ok (.iconst 1, 1) := by decide +kernel
theorem d_Form_callsGo_47 : decode b_Form_callsGo 47 = .ok (.goto 4, 3) := by decide +kernel
theorem d_Form_callsGo_50 : decode b_Form_callsGo 50 = .ok (.iconst 0, 1) := by decide +kernel
theorem d_Form_callsGo_51 : decode b_Form_callsGo 51 = .ok (.istore_n 3, 1) := by decide +kernel
theorem d_Form_callsGo_52 : decode b_Form_callsGo 52 = .ok (.iinc 4 1, 3) := by decide +kernel
theorem d_Form_callsGo_55 : decode b_Form_callsGo 55 = .ok (.goto (-48), 3) := by decide +kernel
theorem d_Form_callsGo_58 : decode b_Form_callsGo 58 = .ok (.iload_n 3, 1) := by decide +kernel
theorem d_Form_callsGo_59 : decode b_Form_callsGo 59 = .ok (.ifCond .eq 12, 3) := by decide +kernel
theorem d_Form_callsGo_62 : decode b_Form_callsGo 62 = .ok (.iload_n 2, 1) := by decide +kernel
theorem d_Form_callsGo_63 : decode b_Form_callsGo 63 = .ok (.iconst 2, 1) := by decide +kernel
theorem d_Form_callsGo_64 : decode b_Form_callsGo 64 = .ok (.if_icmp .gt 7, 3) := by decide +kernel
theorem d_Form_callsGo_67 : decode b_Form_callsGo 67 = .ok (.iconst 1, 1) := by decide +kernel
theorem d_Form_callsGo_68 : decode b_Form_callsGo 68 = .ok (.goto 4, 3) := by decide +kernel
theorem d_Form_callsGo_71 : decode b_Form_callsGo 71 = .ok (.iconst 0, 1) := by decide +kernel
theorem d_Form_callsGo_72 : decode b_Form_callsGo 72 = .ok (.ireturn, 1) := by decide +kernel
abbrev b_Form_endOf : ByteArray := prog_7_method_8_code
abbrev J_Form_endOf : MethodName × ByteArray × Nat × Option FieldType := (⟨"FaslDesk$Form", "endOf", "(IIII)I"⟩, b_Form_endOf, 10, (some .int))
theorem d_Form_endOf_0 : decode b_Form_endOf 0 = .ok (.iload_n 1, 1) := by decide +kernel
theorem d_Form_endOf_1 : decode b_Form_endOf 1 = .ok (.ifCond .lt 23, 3) := by decide +kernel
theorem d_Form_endOf_4 : decode b_Form_endOf 4 = .ok (.iload_n 1, 1) := by decide +kernel
theorem d_Form_endOf_5 : decode b_Form_endOf 5 = .ok (.aload_n 0, 1) := by decide +kernel
theorem d_Form_endOf_6 : decode b_Form_endOf 6 = .ok (.getfield 25, 3) := by decide +kernel
theorem d_Form_endOf_9 : decode b_Form_endOf 9 = .ok (.if_icmp .ge 15, 3) := by decide +kernel
theorem d_Form_endOf_12 : decode b_Form_endOf 12 = .ok (.aload_n 0, 1) := by decide +kernel
theorem d_Form_endOf_13 : decode b_Form_endOf 13 = .ok (.iload_n 1, 1) := by decide +kernel
theorem d_Form_endOf_14 : decode b_Form_endOf 14 = .ok (.iload_n 2, 1) := by decide +kernel
theorem d_Form_endOf_15 : decode b_Form_endOf 15 = .ok (.iload_n 3, 1) := by decide +kernel
theorem d_Form_endOf_16 : decode b_Form_endOf 16 = .ok (.iload 4, 2) := by decide +kernel
theorem d_Form_endOf_18 : decode b_Form_endOf 18 = .ok (.invokevirtual 46, 3) := by decide +kernel
theorem d_Form_endOf_21 : decode b_Form_endOf 21 = .ok (.ifCond .ne 5, 3) := by decide +kernel
theorem d_Form_endOf_24 : decode b_Form_endOf 24 = .ok (.iconst (-1), 1) := by decide +kernel
theorem d_Form_endOf_25 : decode b_Form_endOf 25 = .ok (.ireturn, 1) := by decide +kernel
theorem d_Form_endOf_26 : decode b_Form_endOf 26 = .ok (.aload_n 0, 1) := by decide +kernel
theorem d_Form_endOf_27 : decode b_Form_endOf 27 = .ok (.getfield 9, 3) := by decide +kernel
theorem d_Form_endOf_30 : decode b_Form_endOf 30 = .ok (.iload_n 1, 1) := by decide +kernel
theorem d_Form_endOf_31 : decode b_Form_endOf 31 = .ok (.iaload, 1) := by decide +kernel
theorem d_Form_endOf_32 : decode b_Form_endOf 32 = .ok (.bipush 16, 2) := by decide +kernel
theorem d_Form_endOf_34 : decode b_Form_endOf 34 = .ok (.if_icmp .ne 7, 3) := by decide +kernel
theorem d_Form_endOf_37 : decode b_Form_endOf 37 = .ok (.iconst 1, 1) := by decide +kernel
theorem d_Form_endOf_38 : decode b_Form_endOf 38 = .ok (.goto 4, 3) := by decide +kernel
theorem d_Form_endOf_41 : decode b_Form_endOf 41 = .ok (.iconst 0, 1) := by decide +kernel
theorem d_Form_endOf_42 : decode b_Form_endOf 42 = .ok (.istore 5, 2) := by decide +kernel
theorem d_Form_endOf_44 : decode b_Form_endOf 44 = .ok (.iconst 1, 1) := by decide +kernel
theorem d_Form_endOf_45 : decode b_Form_endOf 45 = .ok (.aload_n 0, 1) := by decide +kernel
theorem d_Form_endOf_46 : decode b_Form_endOf 46 = .ok (.getfield 15, 3) := by decide +kernel
theorem d_Form_endOf_49 : decode b_Form_endOf 49 = .ok (.iload_n 1, 1) := by decide +kernel
theorem d_Form_endOf_50 : decode b_Form_endOf 50 = .ok (.iaload, 1) := by decide +kernel
theorem d_Form_endOf_51 : decode b_Form_endOf 51 = .ok (.ishl, 1) := by decide +kernel
theorem d_Form_endOf_52 : decode b_Form_endOf 52 = .ok (.istore 6, 2) := by decide +kernel
theorem d_Form_endOf_54 : decode b_Form_endOf 54 = .ok (.iload_n 1, 1) := by decide +kernel
theorem d_Form_endOf_55 : decode b_Form_endOf 55 = .ok (.iconst 1, 1) := by decide +kernel
theorem d_Form_endOf_56 : decode b_Form_endOf 56 = .ok (.iadd, 1) := by decide +kernel
theorem d_Form_endOf_57 : decode b_Form_endOf 57 = .ok (.istore 7, 2) := by decide +kernel
theorem d_Form_endOf_59 : decode b_Form_endOf 59 = .ok (.iconst 0, 1) := by decide +kernel
theorem d_Form_endOf_60 : decode b_Form_endOf 60 = .ok (.istore 8, 2) := by decide +kernel
theorem d_Form_endOf_62 : decode b_Form_endOf 62 = .ok (.iload 8, 2) := by decide +kernel
theorem d_Form_endOf_64 : decode b_Form_endOf 64 = .ok (.getstatic 50, 3) := by decide +kernel
theorem d_Form_endOf_67 : decode b_Form_endOf 67 = .ok (.aload_n 0, 1) := by decide +kernel
theorem d_Form_endOf_68 : decode b_Form_endOf 68 = .ok (.getfield 9, 3) := by decide +kernel
theorem d_Form_endOf_71 : decode b_Form_endOf 71 = .ok (.iload_n 1, 1) := by decide +kernel
theorem d_Form_endOf_72 : decode b_Form_endOf 72 = .ok (.iaload, 1) := by decide +kernel
theorem d_Form_endOf_73 : decode b_Form_endOf 73 = .ok (.iaload, 1) := by decide +kernel
theorem d_Form_endOf_74 : decode b_Form_endOf 74 = .ok (.if_icmp .ge 104, 3) := by decide +kernel
theorem d_Form_endOf_77 : decode b_Form_endOf 77 = .ok (.iload 8, 2) := by decide +kernel
theorem d_Form_endOf_79 : decode b_Form_endOf 79 = .ok (.iconst 1, 1) := by decide +kernel
theorem d_Form_endOf_80 : decode b_Form_endOf 80 = .ok (.if_icmp .ne 23, 3) := by decide +kernel
theorem d_Form_endOf_83 : decode b_Form_endOf 83 = .ok (.iload 5, 2) := by decide +kernel
theorem d_Form_endOf_85 : decode b_Form_endOf 85 = .ok (.ifCond .ne 14, 3) := by decide +kernel
theorem d_Form_endOf_88 : decode b_Form_endOf 88 = .ok (.aload_n 0, 1) := by decide +kernel
theorem d_Form_endOf_89 : decode b_Form_endOf 89 = .ok (.getfield 9, 3) := by decide +kernel
theorem d_Form_endOf_92 : decode b_Form_endOf 92 = .ok (.iload_n 1, 1) := by decide +kernel
theorem d_Form_endOf_93 : decode b_Form_endOf 93 = .ok (.iaload, 1) := by decide +kernel
theorem d_Form_endOf_94 : decode b_Form_endOf 94 = .ok (.bipush 14, 2) := by decide +kernel
theorem d_Form_endOf_96 : decode b_Form_endOf 96 = .ok (.if_icmp .ne 7, 3) := by decide +kernel
theorem d_Form_endOf_99 : decode b_Form_endOf 99 = .ok (.iconst 1, 1) := by decide +kernel
theorem d_Form_endOf_100 : decode b_Form_endOf 100 = .ok (.goto 4, 3) := by decide +kernel
theorem d_Form_endOf_103 : decode b_Form_endOf 103 = .ok (.iconst 0, 1) := by decide +kernel
theorem d_Form_endOf_104 : decode b_Form_endOf 104 = .ok (.istore 9, 2) := by decide +kernel
theorem d_Form_endOf_106 : decode b_Form_endOf 106 = .ok (.aload_n 0, 1) := by decide +kernel
theorem d_Form_endOf_107 : decode b_Form_endOf 107 = .ok (.getfield 18, 3) := by decide +kernel
theorem d_Form_endOf_110 : decode b_Form_endOf 110 = .ok (.iload_n 1, 1) := by decide +kernel
theorem d_Form_endOf_111 : decode b_Form_endOf 111 = .ok (.iconst 3, 1) := by decide +kernel
theorem d_Form_endOf_112 : decode b_Form_endOf 112 = .ok (.imul, 1) := by decide +kernel
theorem d_Form_endOf_113 : decode b_Form_endOf 113 = .ok (.iload 8, 2) := by decide +kernel
theorem d_Form_endOf_115 : decode b_Form_endOf 115 = .ok (.iadd, 1) := by decide +kernel
theorem d_Form_endOf_116 : decode b_Form_endOf 116 = .ok (.iload 7, 2) := by decide +kernel
theorem d_Form_endOf_118 : decode b_Form_endOf 118 = .ok (.iastore, 1) := by decide +kernel
theorem d_Form_endOf_119 : decode b_Form_endOf 119 = .ok (.aload_n 0, 1) := by decide +kernel
theorem d_Form_endOf_120 : decode b_Form_endOf 120 = .ok (.iload 7, 2) := by decide +kernel
theorem d_Form_endOf_122 : decode b_Form_endOf 122 = .ok (.iload 9, 2) := by decide +kernel
theorem d_Form_endOf_124 : decode b_Form_endOf 124 = .ok (.ifCond .eq 10, 3) := by decide +kernel
theorem d_Form_endOf_127 : decode b_Form_endOf 127 = .ok (.iload_n 2, 1) := by decide +kernel
theorem d_Form_endOf_128 : decode b_Form_endOf 128 = .ok (.iload 6, 2) := by decide +kernel
theorem d_Form_endOf_130 : decode b_Form_endOf 130 = .ok (.ior, 1) := by decide +kernel
theorem d_Form_endOf_131 : decode b_Form_endOf 131 = .ok (.goto 4, 3) := by decide +kernel
theorem d_Form_endOf_134 : decode b_Form_endOf 134 = .ok (.iload_n 2, 1) := by decide +kernel
theorem d_Form_endOf_135 : decode b_Form_endOf 135 = .ok (.iload 9, 2) := by decide +kernel
theorem d_Form_endOf_137 : decode b_Form_endOf 137 = .ok (.ifCond .eq 15, 3) := by decide +kernel
theorem d_Form_endOf_140 : decode b_Form_endOf 140 = .ok (.iload 5, 2) := by decide +kernel
theorem d_Form_endOf_142 : decode b_Form_endOf 142 = .ok (.ifCond .eq 10, 3) := by decide +kernel
theorem d_Form_endOf_145 : decode b_Form_endOf 145 = .ok (.iload_n 3, 1) := by decide +kernel
theorem d_Form_endOf_146 : decode b_Form_endOf 146 = .ok (.iload 6, 2) := by decide +kernel
theorem d_Form_endOf_148 : decode b_Form_endOf 148 = .ok (.ior, 1) := by decide +kernel
theorem d_Form_endOf_149 : decode b_Form_endOf 149 = .ok (.goto 4, 3) := by decide +kernel
theorem d_Form_endOf_152 : decode b_Form_endOf 152 = .ok (.iload_n 3, 1) := by decide +kernel
theorem d_Form_endOf_153 : decode b_Form_endOf 153 = .ok (.iload 5, 2) := by decide +kernel
theorem d_Form_endOf_155 : decode b_Form_endOf 155 = .ok (.ifCond .eq 10, 3) := by decide +kernel
theorem d_Form_endOf_158 : decode b_Form_endOf 158 = .ok (.iload 4, 2) := by decide +kernel
theorem d_Form_endOf_160 : decode b_Form_endOf 160 = .ok (.iconst 1, 1) := by decide +kernel
theorem d_Form_endOf_161 : decode b_Form_endOf 161 = .ok (.iadd, 1) := by decide +kernel
theorem d_Form_endOf_162 : decode b_Form_endOf 162 = .ok (.goto 5, 3) := by decide +kernel
theorem d_Form_endOf_165 : decode b_Form_endOf 165 = .ok (.iload 4, 2) := by decide +kernel
theorem d_Form_endOf_167 : decode b_Form_endOf 167 = .ok (.invokevirtual 42, 3) := by decide +kernel
theorem d_Form_endOf_170 : decode b_Form_endOf 170 = .ok (.istore 7, 2) := by decide +kernel
theorem d_Form_endOf_172 : decode b_Form_endOf 172 = .ok (.iinc 8 1, 3) := by decide +kernel
theorem d_Form_endOf_175 : decode b_Form_endOf 175 = .ok (.goto (-113), 3) := by decide +kernel
theorem d_Form_endOf_178 : decode b_Form_endOf 178 = .ok (.iload 7, 2) := by decide +kernel
theorem d_Form_endOf_180 : decode b_Form_endOf 180 = .ok (.ireturn, 1) := by decide +kernel
abbrev b_Form_mayStand : ByteArray := prog_7_method_9_code
abbrev J_Form_mayStand : MethodName × ByteArray × Nat × Option FieldType := (⟨"FaslDesk$Form", "mayStand", "(IIII)Z"⟩, b_Form_mayStand, 7, (some .boolean))
theorem d_Form_mayStand_0 : decode b_Form_mayStand 0 = .ok (.iload_n 2, 1) := by decide +kernel
theorem d_Form_mayStand_1 : decode b_Form_mayStand 1 = .ok (.aload_n 0, 1) := by decide +kernel
theorem d_Form_mayStand_2 : decode b_Form_mayStand 2 = .ok (.getfield 15, 3) := by decide +kernel
theorem d_Form_mayStand_5 : decode b_Form_mayStand 5 = .ok (.iload_n 1, 1) := by decide +kernel
theorem d_Form_mayStand_6 : decode b_Form_mayStand 6 = .ok (.iaload, 1) := by decide +kernel
theorem d_Form_mayStand_7 : decode b_Form_mayStand 7 = .ok (.ishr, 1) := by decide +kernel
theorem d_Form_mayStand_8 : decode b_Form_mayStand 8 = .ok (.iconst 1, 1) := by decide +kernel
theorem d_Form_mayStand_9 : decode b_Form_mayStand 9 = .ok (.iand, 1) := by decide +kernel
theorem d_Form_mayStand_10 : decode b_Form_mayStand 10 = .ok (.ifCond .eq 7, 3) := by decide +kernel
theorem d_Form_mayStand_13 : decode b_Form_mayStand 13 = .ok (.iconst 1, 1) := by decide +kernel
theorem d_Form_mayStand_14 : decode b_Form_mayStand 14 = .ok (.goto 4, 3) := by decide +kernel
theorem d_Form_mayStand_17 : decode b_Form_mayStand 17 = .ok (.iconst 0, 1) := by decide +kernel
theorem d_Form_mayStand_18 : decode b_Form_mayStand 18 = .ok (.istore 5, 2) := by decide +kernel
theorem d_Form_mayStand_20 : decode b_Form_mayStand 20 = .ok (.iload_n 3, 1) := by decide +kernel
theorem d_Form_mayStand_21 : decode b_Form_mayStand 21 = .ok (.aload_n 0, 1) := by decide +kernel
theorem d_Form_mayStand_22 : decode b_Form_mayStand 22 = .ok (.getfield 15, 3) := by decide +kernel
theorem d_Form_mayStand_25 : decode b_Form_mayStand 25 = .ok (.iload_n 1, 1) := by decide +kernel
theorem d_Form_mayStand_26 : decode b_Form_mayStand 26 = .ok (.iaload, 1) := by decide +kernel
theorem d_Form_mayStand_27 : decode b_Form_mayStand 27 = .ok (.ishr, 1) := by decide +kernel
theorem d_Form_mayStand_28 : decode b_Form_mayStand 28 = .ok (.iconst 1, 1) := by decide +kernel
theorem d_Form_mayStand_29 : decode b_Form_mayStand 29 = .ok (.iand, 1) := by decide +kernel
theorem d_Form_mayStand_30 : decode b_Form_mayStand 30 = .ok (.ifCond .eq 7, 3) := by decide +kernel
theorem d_Form_mayStand_33 : decode b_Form_mayStand 33 = .ok (.iconst 1, 1) := by decide +kernel
theorem d_Form_mayStand_34 : decode b_Form_mayStand 34 = .ok (.goto 4, 3) := by decide +kernel
theorem d_Form_mayStand_37 : decode b_Form_mayStand 37 = .ok (.iconst 0, 1) := by decide +kernel
theorem d_Form_mayStand_38 : decode b_Form_mayStand 38 = .ok (.istore 6, 2) := by decide +kernel
theorem d_Form_mayStand_40 : decode b_Form_mayStand 40 = .ok (.aload_n 0, 1) := by decide +kernel
theorem d_Form_mayStand_41 : decode b_Form_mayStand 41 = .ok (.getfield 9, 3) := by decide +kernel
theorem d_Form_mayStand_44 : decode b_Form_mayStand 44 = .ok (.iload_n 1, 1) := by decide +kernel
theorem d_Form_mayStand_45 : decode b_Form_mayStand 45 = .ok (.iaload, 1) := by decide +kernel
theorem d_Form_mayStand_46 : decode b_Form_mayStand 46 = .ok (.lookupswitch 108 #[(1, 50), (14, 69), (15, 53), (16, 80), (17, 97)], 50) := by decide +kernel
theorem d_Form_mayStand_96 : decode b_Form_mayStand 96 = .ok (.iload 5, 2) := by decide +kernel
theorem d_Form_mayStand_98 : decode b_Form_mayStand 98 = .ok (.ireturn, 1) := by decide +kernel
theorem d_Form_mayStand_99 : decode b_Form_mayStand 99 = .ok (.iload 5, 2) := by decide +kernel
theorem d_Form_mayStand_101 : decode b_Form_mayStand 101 = .ok (.ifCond .eq 12, 3) := by decide +kernel
theorem d_Form_mayStand_104 : decode b_Form_mayStand 104 = .ok (.iload 6, 2) := by decide +kernel
theorem d_Form_mayStand_106 : decode b_Form_mayStand 106 = .ok (.ifCond .ne 7, 3) := by decide +kernel
theorem d_Form_mayStand_109 : decode b_Form_mayStand 109 = .ok (.iconst 1, 1) := by decide +kernel
theorem d_Form_mayStand_110 : decode b_Form_mayStand 110 = .ok (.goto 4, 3) := by decide +kernel
theorem d_Form_mayStand_113 : decode b_Form_mayStand 113 = .ok (.iconst 0, 1) := by decide +kernel
theorem d_Form_mayStand_114 : decode b_Form_mayStand 114 = .ok (.ireturn, 1) := by decide +kernel
theorem d_Form_mayStand_115 : decode b_Form_mayStand 115 = .ok (.iload 6, 2) := by decide +kernel
theorem d_Form_mayStand_117 : decode b_Form_mayStand 117 = .ok (.ifCond .ne 7, 3) := by decide +kernel
theorem d_Form_mayStand_120 : decode b_Form_mayStand 120 = .ok (.iconst 1, 1) := by decide +kernel
theorem d_Form_mayStand_121 : decode b_Form_mayStand 121 = .ok (.goto 4, 3) := by decide +kernel
theorem d_Form_mayStand_124 : decode b_Form_mayStand 124 = .ok (.iconst 0, 1) := by decide +kernel
theorem d_Form_mayStand_125 : decode b_Form_mayStand 125 = .ok (.ireturn, 1) := by decide +kernel
theorem d_Form_mayStand_126 : decode b_Form_mayStand 126 = .ok (.iload 6, 2) := by decide +kernel
theorem d_Form_mayStand_128 : decode b_Form_mayStand 128 = .ok (.ifCond .ne 13, 3) := by decide +kernel
theorem d_Form_mayStand_131 : decode b_Form_mayStand 131 = .ok (.iload 4, 2) := by decide +kernel
theorem d_Form_mayStand_133 : decode b_Form_mayStand 133 = .ok (.iconst 2, 1) := by decide +kernel
theorem d_Form_mayStand_134 : decode b_Form_mayStand 134 = .ok (.if_icmp .ge 7, 3) := by decide +kernel
theorem d_Form_mayStand_137 : decode b_Form_mayStand 137 = .ok (.iconst 1, 1) := by decide +kernel
theorem d_Form_mayStand_138 : decode b_Form_mayStand 138 = .ok (.goto 4, 3) := by decide +kernel
theorem d_Form_mayStand_141 : decode b_Form_mayStand 141 = .ok (.iconst 0, 1) := by decide +kernel
theorem d_Form_mayStand_142 : decode b_Form_mayStand 142 = .ok (.ireturn, 1) := by decide +kernel
theorem d_Form_mayStand_143 : decode b_Form_mayStand 143 = .ok (.iload 4, 2) := by decide +kernel
theorem d_Form_mayStand_145 : decode b_Form_mayStand 145 = .ok (.ifCond .ne 7, 3) := by decide +kernel
theorem d_Form_mayStand_148 : decode b_Form_mayStand 148 = .ok (.iconst 1, 1) := by decide +kernel
theorem d_Form_mayStand_149 : decode b_Form_mayStand 149 = .ok (.goto 4, 3) := by decide +kernel
theorem d_Form_mayStand_152 : decode b_Form_mayStand 152 = .ok (.iconst 0, 1) := by decide +kernel
theorem d_Form_mayStand_153 : decode b_Form_mayStand 153 = .ok (.ireturn, 1) := by decide +kernel
theorem d_Form_mayStand_154 : decode b_Form_mayStand 154 = .ok (.iconst 1, 1) := by decide +kernel
theorem d_Form_mayStand_155 : decode b_Form_mayStand 155 = .ok (.ireturn, 1) := by decide +kernel
end
section
/-! more decode rows -/
abbrev b_Frame_init : ByteArray := prog_8_method_1_code
abbrev J_Frame_init : MethodName × ByteArray × Nat × Option FieldType := (⟨"FaslDesk$Frame", "<init>", "()V"⟩, b_Frame_init, 1, none)
theorem d_Frame_init_0 : decode b_Frame_init 0 = .ok (.aload_n 0, 1) := by decide +kernel
theorem d_Frame_init_1 : decode b_Frame_init 1 = .ok (.invokespecial 3, 3) := by decide +kernel
theorem d_Frame_init_4 : decode b_Frame_init 4 = .ok (.aload_n 0, 1) := by decide +kernel
theorem d_Frame_init_5 : decode b_Frame_init 5 = .ok (.bipush 7, 2) := by decide +kernel
theorem d_Frame_init_7 : decode b_Frame_init 7 = .ok (.newarray .int, 2) := by decide +kernel
theorem d_Frame_init_9 : decode b_Frame_init 9 = .ok (.putfield 9, 3) := by decide +kernel
theorem d_Frame_init_12 : decode b_Frame_init 12 = .ok (.aload_n 0, 1) := by decide +kernel
theorem d_Frame_init_13 : decode b_Frame_init 13 = .ok (.bipush 42, 2) := by decide +kernel
theorem d_Frame_init_15 : decode b_Frame_init 15 = .ok (.newarray .int, 2) := by decide +kernel
theorem d_Frame_init_17 : decode b_Frame_init 17 = .ok (.putfield 15, 3) := by decide +kernel
theorem d_Frame_init_20 : decode b_Frame_init 20 = .ok (.return_, 1) := by decide +kernel
abbrev b_Frame_begin : ByteArray := prog_8_method_2_code
abbrev J_Frame_begin : MethodName × ByteArray × Nat × Option FieldType := (⟨"FaslDesk$Frame", "begin", "(IIII)V"⟩, b_Frame_begin, 5, none)
theorem d_Frame_begin_0 : decode b_Frame_begin 0 = .ok (.aload_n 0, 1) := by decide +kernel
theorem d_Frame_begin_1 : decode b_Frame_begin 1 = .ok (.getfield 9, 3) := by decide +kernel
theorem d_Frame_begin_4 : decode b_Frame_begin 4 = .ok (.iconst 0, 1) := by decide +kernel
theorem d_Frame_begin_5 : decode b_Frame_begin 5 = .ok (.invokestatic 18, 3) := by decide +kernel
theorem d_Frame_begin_8 : decode b_Frame_begin 8 = .ok (.aload_n 0, 1) := by decide +kernel
theorem d_Frame_begin_9 : decode b_Frame_begin 9 = .ok (.getfield 9, 3) := by decide +kernel
theorem d_Frame_begin_12 : decode b_Frame_begin 12 = .ok (.iconst 0, 1) := by decide +kernel
theorem d_Frame_begin_13 : decode b_Frame_begin 13 = .ok (.iload_n 1, 1) := by decide +kernel
theorem d_Frame_begin_14 : decode b_Frame_begin 14 = .ok (.ifCond .le 7, 3) := by decide +kernel
theorem d_Frame_begin_17 : decode b_Frame_begin 17 = .ok (.iload_n 2, 1) := by decide +kernel
theorem d_Frame_begin_18 : decode b_Frame_begin 18 = .ok (.goto 4, 3) := by decide +kernel
theorem d_Frame_begin_21 : decode b_Frame_begin 21 = .ok (.iconst 0, 1) := by decide +kernel
theorem d_Frame_begin_22 : decode b_Frame_begin 22 = .ok (.iastore, 1) := by decide +kernel
theorem d_Frame_begin_23 : decode b_Frame_begin 23 = .ok (.aload_n 0, 1) := by decide +kernel
theorem d_Frame_begin_24 : decode b_Frame_begin 24 = .ok (.getfield 9, 3) := by decide +kernel
theorem d_Frame_begin_27 : decode b_Frame_begin 27 = .ok (.iconst 1, 1) := by decide +kernel
theorem d_Frame_begin_28 : decode b_Frame_begin 28 = .ok (.iload_n 1, 1) := by decide +kernel
theorem d_Frame_begin_29 : decode b_Frame_begin 29 = .ok (.iconst 1, 1) := by decide +kernel
theorem d_Frame_begin_30 : decode b_Frame_begin 30 = .ok (.if_icmp .le 7, 3) := by decide +kernel
theorem d_Frame_begin_33 : decode b_Frame_begin 33 = .ok (.iload_n 3, 1) := by decide +kernel
theorem d_Frame_begin_34 : decode b_Frame_begin 34 = .ok (.goto 4, 3) := by decide +kernel
theorem d_Frame_begin_37 : decode b_Frame_begin 37 = .ok (.iconst 0, 1) := by decide +kernel
theorem d_Frame_begin_38 : decode b_Frame_begin 38 = .ok (.iastore, 1) := by decide +kernel
theorem d_Frame_begin_39 : decode b_Frame_begin 39 = .ok (.aload_n 0, 1) := by decide +kernel
theorem d_Frame_begin_40 : decode b_Frame_begin 40 = .ok (.getfield 9, 3) := by decide +kernel
theorem d_Frame_begin_43 : decode b_Frame_begin 43 = .ok (.iconst 2, 1) := by decide +kernel
theorem d_Frame_begin_44 : decode b_Frame_begin 44 = .ok (.iload_n 1, 1) := by decide +kernel
theorem d_Frame_begin_45 : decode b_Frame_begin 45 = .ok (.iconst 2, 1) := by decide +kernel
theorem d_Frame_begin_46 : decode b_Frame_begin 46 = .ok (.if_icmp .le 8, 3) := by decide +kernel
theorem d_Frame_begin_49 : decode b_Frame_begin 49 = .ok (.iload 4, 2) := by decide +kernel
theorem d_Frame_begin_51 : decode b_Frame_begin 51 = .ok (.goto 4, 3) := by decide +kernel
theorem d_Frame_begin_54 : decode b_Frame_begin 54 = .ok (.iconst 0, 1) := by decide +kernel
theorem d_Frame_begin_55 : decode b_Frame_begin 55 = .ok (.iastore, 1) := by decide +kernel
theorem d_Frame_begin_56 : decode b_Frame_begin 56 = .ok (.aload_n 0, 1) := by decide +kernel
theorem d_Frame_begin_57 : decode b_Frame_begin 57 = .ok (.iconst 0, 1) := by decide +kernel
theorem d_Frame_begin_58 : decode b_Frame_begin 58 = .ok (.putfield 24, 3) := by decide +kernel
theorem d_Frame_begin_61 : decode b_Frame_begin 61 = .ok (.return_, 1) := by decide +kernel
abbrev b_Frame_push : ByteArray := prog_8_method_3_code
abbrev J_Frame_push : MethodName × ByteArray × Nat × Option FieldType := (⟨"FaslDesk$Frame", "push", "(I)V"⟩, b_Frame_push, 2, none)
theorem d_Frame_push_0 : decode b_Frame_push 0 = .ok (.aload_n 0, 1) := by decide +kernel
theorem d_Frame_push_1 : decode b_Frame_push 1 = .ok (.getfield 24, 3) := by decide +kernel
theorem d_Frame_push_4 : decode b_Frame_push 4 = .ok (.bipush 42, 2) := by decide +kernel
theorem d_Frame_push_6 : decode b_Frame_push 6 = .ok (.if_icmp .ge 23, 3) := by decide +kernel
theorem d_Frame_push_9 : decode b_Frame_push 9 = .ok (.aload_n 0, 1) := by decide +kernel
theorem d_Frame_push_10 : decode b_Frame_push 10 = .ok (.getfield 15, 3) := by decide +kernel
theorem d_Frame_push_13 : decode b_Frame_push 13 = .ok (.aload_n 0, 1) := by decide +kernel
theorem d_Frame_push_14 : decode b_Frame_push 14 = .ok (.getfield 24, 3) := by decide +kernel
theorem d_Frame_push_17 : decode b_Frame_push 17 = .ok (.iload_n 1, 1) := by decide +kernel
theorem d_Frame_push_18 : decode b_Frame_push 18 = .ok (.iastore, 1) := by decide +kernel
theorem d_Frame_push_19 : decode b_Frame_push 19 = .ok (.aload_n 0, 1) := by decide +kernel
theorem d_Frame_push_20 : decode b_Frame_push 20 = .ok (.dup, 1) := by decide +kernel
theorem d_Frame_push_21 : decode b_Frame_push 21 = .ok (.getfield 24, 3) := by decide +kernel
theorem d_Frame_push_24 : decode b_Frame_push 24 = .ok (.iconst 1, 1) := by decide +kernel
theorem d_Frame_push_25 : decode b_Frame_push 25 = .ok (.iadd, 1) := by decide +kernel
theorem d_Frame_push_26 : decode b_Frame_push 26 = .ok (.putfield 24, 3) := by decide +kernel
theorem d_Frame_push_29 : decode b_Frame_push 29 = .ok (.return_, 1) := by decide +kernel
abbrev b_Frame_pop : ByteArray := prog_8_method_4_code
abbrev J_Frame_pop : MethodName × ByteArray × Nat × Option FieldType := (⟨"FaslDesk$Frame", "pop", "()I"⟩, b_Frame_pop, 1, (some .int))
theorem d_Frame_pop_0 : decode b_Frame_pop 0 = .ok (.aload_n 0, 1) := by decide +kernel
theorem d_Frame_pop_1 : decode b_Frame_pop 1 = .ok (.getfield 24, 3) := by decide +kernel
theorem d_Frame_pop_4 : decode b_Frame_pop 4 = .ok (.ifCond .ne 5, 3) := by decide +kernel
theorem d_Frame_pop_7 : decode b_Frame_pop 7 = .ok (.iconst 0, 1) := by decide +kernel
theorem d_Frame_pop_8 : decode b_Frame_pop 8 = .ok (.ireturn, 1) := by decide +kernel
theorem d_Frame_pop_9 : decode b_Frame_pop 9 = .ok (.aload_n 0, 1) := by decide +kernel
theorem d_Frame_pop_10 : decode b_Frame_pop 10 = .ok (.dup, 1) := by decide +kernel
theorem d_Frame_pop_11 : decode b_Frame_pop 11 = .ok (.getfield 24, 3) := by decide +kernel
theorem d_Frame_pop_14 : decode b_Frame_pop 14 = .ok (.iconst 1, 1) := by decide +kernel
theorem d_Frame_pop_15 : decode b_Frame_pop 15 = .ok (.isub, 1) := by decide +kernel
theorem d_Frame_pop_16 : decode b_Frame_pop 16 = .ok (.putfield 24, 3) := by decide +kernel
theorem d_Frame_pop_19 : decode b_Frame_pop 19 = .ok (.aload_n 0, 1) := by decide +kernel
theorem d_Frame_pop_20 : decode b_Frame_pop 20 = .ok (.getfield 15, 3) := by decide +kernel
theorem d_Frame_pop_23 : decode b_Frame_pop 23 = .ok (.aload_n 0, 1) := by decide +kernel
theorem d_Frame_pop_24 : decode b_Frame_pop 24 = .ok (.getfield 24, 3) := by decide +kernel
theorem d_Frame_pop_27 : decode b_Frame_pop 27 = .ok (.iaload, 1) := by decide +kernel
theorem d_Frame_pop_28 : decode b_Frame_pop 28 = .ok (.ireturn, 1) := by decide +kernel
abbrev b_Frame_top : ByteArray := prog_8_method_5_code
abbrev J_Frame_top : MethodName × ByteArray × Nat × Option FieldType := (⟨"FaslDesk$Frame", "top", "()I"⟩, b_Frame_top, 1, (some .int))
theorem d_Frame_top_0 : decode b_Frame_top 0 = .ok (.aload_n 0, 1) := by decide +kernel
theorem d_Frame_top_1 : decode b_Frame_top 1 = .ok (.getfield 24, 3) := by decide +kernel
theorem d_Frame_top_4 : decode b_Frame_top 4 = .ok (.ifCond .ne 7, 3) := by decide +kernel
theorem d_Frame_top_7 : decode b_Frame_top 7 = .ok (.iconst 0, 1) := by decide +kernel
theorem d_Frame_top_8 : decode b_Frame_top 8 = .ok (.goto 14, 3) := by decide +kernel
theorem d_Frame_top_11 : decode b_Frame_top 11 = .ok (.aload_n 0, 1) := by decide +kernel
theorem d_Frame_top_12 : decode b_Frame_top 12 = .ok (.getfield 15, 3) := by decide +kernel
theorem d_Frame_top_15 : decode b_Frame_top 15 = .ok (.aload_n 0, 1) := by decide +kernel
theorem d_Frame_top_16 : decode b_Frame_top 16 = .ok (.getfield 24, 3) := by decide +kernel
theorem d_Frame_top_19 : decode b_Frame_top 19 = .ok (.iconst 1, 1) := by decide +kernel
theorem d_Frame_top_20 : decode b_Frame_top 20 = .ok (.isub, 1) := by decide +kernel
theorem d_Frame_top_21 : decode b_Frame_top 21 = .ok (.iaload, 1) := by decide +kernel
theorem d_Frame_top_22 : decode b_Frame_top 22 = .ok (.ireturn, 1) := by decide +kernel
abbrev b_Image_init : ByteArray := prog_9_method_1_code
abbrev J_Image_init : MethodName × ByteArray × Nat × Option FieldType := (⟨"FaslDesk$Image", "<init>", "()V"⟩, b_Image_init, 2, none)
theorem d_Image_init_0 : decode b_Image_init 0 = .ok (.aload_n 0, 1) := by decide +kernel
theorem d_Image_init_1 : decode b_Image_init 1 = .ok (.invokespecial 3, 3) := by decide +kernel
theorem d_Image_init_4 : decode b_Image_init 4 = .ok (.aload_n 0, 1) := by decide +kernel
theorem d_Image_init_5 : decode b_Image_init 5 = .ok (.bipush 8, 2) := by decide +kernel
theorem d_Image_init_7 : decode b_Image_init 7 = .ok (.anewarray 9, 3) := by decide +kernel
theorem d_Image_init_10 : decode b_Image_init 10 = .ok (.putfield 11, 3) := by decide +kernel
theorem d_Image_init_13 : decode b_Image_init 13 = .ok (.aload_n 0, 1) := by decide +kernel
theorem d_Image_init_14 : decode b_Image_init 14 = .ok (.bipush 8, 2) := by decide +kernel
theorem d_Image_init_16 : decode b_Image_init 16 = .ok (.anewarray 17, 3) := by decide +kernel
theorem d_Image_init_19 : decode b_Image_init 19 = .ok (.putfield 19, 3) := by decide +kernel
theorem d_Image_init_22 : decode b_Image_init 22 = .ok (.iconst 0, 1) := by decide +kernel
theorem d_Image_init_23 : decode b_Image_init 23 = .ok (.istore_n 1, 1) := by decide +kernel
theorem d_Image_init_24 : decode b_Image_init 24 = .ok (.iload_n 1, 1) := by decide +kernel
theorem d_Image_init_25 : decode b_Image_init 25 = .ok (.bipush 8, 2) := by decide +kernel
theorem d_Image_init_27 : decode b_Image_init 27 = .ok (.if_icmp .ge 35, 3) := by decide +kernel
theorem d_Image_init_30 : decode b_Image_init 30 = .ok (.aload_n 0, 1) := by decide +kernel
theorem d_Image_init_31 : decode b_Image_init 31 = .ok (.getfield 11, 3) := by decide +kernel
theorem d_Image_init_34 : decode b_Image_init 34 = .ok (.iload_n 1, 1) := by decide +kernel
theorem d_Image_init_35 : decode b_Image_init 35 = .ok (.new 9, 3) := by decide +kernel
theorem d_Image_init_38 : decode b_Image_init 38 = .ok (.dup, 1) := by decide +kernel
theorem d_Image_init_39 : decode b_Image_init 39 = .ok (.invokespecial 23, 3) := by decide +kernel
theorem d_Image_init_42 : decode b_Image_init 42 = .ok (.aastore, 1) := by decide +kernel
theorem d_Image_init_43 : decode b_Image_init 43 = .ok (.aload_n 0, 1) := by decide +kernel
theorem d_Image_init_44 : decode b_Image_init 44 = .ok (.getfield 19, 3) := by decide +kernel
theorem d_Image_init_47 : decode b_Image_init 47 = .ok (.iload_n 1, 1) := by decide +kernel
theorem d_Image_init_48 : decode b_Image_init 48 = .ok (.new 17, 3) := by decide +kernel
theorem d_Image_init_51 : decode b_Image_init 51 = .ok (.dup, 1) := by decide +kernel
theorem d_Image_init_52 : decode b_Image_init 52 = .ok (.invokespecial 24, 3) := by decide +kernel
theorem d_Image_init_55 : decode b_Image_init 55 = .ok (.aastore, 1) := by decide +kernel
theorem d_Image_init_56 : decode b_Image_init 56 = .ok (.iinc 1 1, 3) := by decide +kernel
theorem d_Image_init_59 : decode b_Image_init 59 = .ok (.goto (-35), 3) := by decide +kernel
theorem d_Image_init_62 : decode b_Image_init 62 = .ok (.return_, 1) := by decide +kernel
abbrev b_Image_has : ByteArray := prog_9_method_2_code
abbrev J_Image_has : MethodName × ByteArray × Nat × Option FieldType := (⟨"FaslDesk$Image", "has", "(I)Z"⟩, b_Image_has, 2, (some .boolean))
theorem d_Image_has_0 : decode b_Image_has 0 = .ok (.iload_n 1, 1) := by decide +kernel
theorem d_Image_has_1 : decode b_Image_has 1 = .ok (.iconst 0, 1) := by decide +kernel
theorem d_Image_has_2 : decode b_Image_has 2 = .ok (.bipush 7, 2) := by decide +kernel
theorem d_Image_has_4 : decode b_Image_has 4 = .ok (.invokestatic 25, 3) := by decide +kernel
theorem d_Image_has_7 : decode b_Image_has 7 = .ok (.ifCond .eq 19, 3) := by decide +kernel
theorem d_Image_has_10 : decode b_Image_has 10 = .ok (.aload_n 0, 1) := by decide +kernel
theorem d_Image_has_11 : decode b_Image_has 11 = .ok (.getfield 11, 3) := by decide +kernel
theorem d_Image_has_14 : decode b_Image_has 14 = .ok (.iload_n 1, 1) := by decide +kernel
theorem d_Image_has_15 : decode b_Image_has 15 = .ok (.aaload, 1) := by decide +kernel
theorem d_Image_has_16 : decode b_Image_has 16 = .ok (.getfield 29, 3) := by decide +kernel
theorem d_Image_has_19 : decode b_Image_has 19 = .ok (.ifCond .le 7, 3) := by decide +kernel
theorem d_Image_has_22 : decode b_Image_has 22 = .ok (.iconst 1, 1) := by decide +kernel
theorem d_Image_has_23 : decode b_Image_has 23 = .ok (.goto 4, 3) := by decide +kernel
theorem d_Image_has_26 : decode b_Image_has 26 = .ok (.iconst 0, 1) := by decide +kernel
theorem d_Image_has_27 : decode b_Image_has 27 = .ok (.ireturn, 1) := by decide +kernel
abbrev b_Image_size : ByteArray := prog_9_method_3_code
abbrev J_Image_size : MethodName × ByteArray × Nat × Option FieldType := (⟨"FaslDesk$Image", "size", "()I"⟩, b_Image_size, 3, (some .int))
theorem d_Image_size_0 : decode b_Image_size 0 = .ok (.iconst 0, 1) := by decide +kernel
theorem d_Image_size_1 : decode b_Image_size 1 = .ok (.istore_n 1, 1) := by decide +kernel
theorem d_Image_size_2 : decode b_Image_size 2 = .ok (.iconst 0, 1) := by decide +kernel
theorem d_Image_size_3 : decode b_Image_size 3 = .ok (.istore_n 2, 1) := by decide +kernel
theorem d_Image_size_4 : decode b_Image_size 4 = .ok (.iload_n 2, 1) := by decide +kernel
theorem d_Image_size_5 : decode b_Image_size 5 = .ok (.bipush 8, 2) := by decide +kernel
theorem d_Image_size_7 : decode b_Image_size 7 = .ok (.if_icmp .ge 20, 3) := by decide +kernel
theorem d_Image_size_10 : decode b_Image_size 10 = .ok (.aload_n 0, 1) := by decide +kernel
theorem d_Image_size_11 : decode b_Image_size 11 = .ok (.iload_n 2, 1) := by decide +kernel
theorem d_Image_size_12 : decode b_Image_size 12 = .ok (.invokevirtual 33, 3) := by decide +kernel
theorem d_Image_size_15 : decode b_Image_size 15 = .ok (.ifCond .eq 6, 3) := by decide +kernel
theorem d_Image_size_18 : decode b_Image_size 18 = .ok (.iinc 1 1, 3) := by decide +kernel
theorem d_Image_size_21 : decode b_Image_size 21 = .ok (.iinc 2 1, 3) := by decide +kernel
theorem d_Image_size_24 : decode b_Image_size 24 = .ok (.goto (-20), 3) := by decide +kernel
theorem d_Image_size_27 : decode b_Image_size 27 = .ok (.iload_n 1, 1) := by decide +kernel
theorem d_Image_size_28 : decode b_Image_size 28 = .ok (.ireturn, 1) := by decide +kernel
abbrev b_Image_remake : ByteArray := prog_9_method_4_code
abbrev J_Image_remake : MethodName × ByteArray × Nat × Option FieldType := (⟨"FaslDesk$Image", "remake", "(LFaslDesk$Archive;)V"⟩, b_Image_remake, 3, none)
theorem d_Image_remake_0 : decode b_Image_remake 0 = .ok (.iconst 0, 1) := by decide +kernel
theorem d_Image_remake_1 : decode b_Image_remake 1 = .ok (.istore_n 2, 1) := by decide +kernel
theorem d_Image_remake_2 : decode b_Image_remake 2 = .ok (.iload_n 2, 1) := by decide +kernel
theorem d_Image_remake_3 : decode b_Image_remake 3 = .ok (.bipush 8, 2) := by decide +kernel
theorem d_Image_remake_5 : decode b_Image_remake 5 = .ok (.if_icmp .ge 19, 3) := by decide +kernel
theorem d_Image_remake_8 : decode b_Image_remake 8 = .ok (.aload_n 0, 1) := by decide +kernel
theorem d_Image_remake_9 : decode b_Image_remake 9 = .ok (.getfield 11, 3) := by decide +kernel
theorem d_Image_remake_12 : decode b_Image_remake 12 = .ok (.iload_n 2, 1) := by decide +kernel
theorem d_Image_remake_13 : decode b_Image_remake 13 = .ok (.aaload, 1) := by decide +kernel
theorem d_Image_remake_14 : decode b_Image_remake 14 = .ok (.iconst 0, 1) := by decide +kernel
theorem d_Image_remake_15 : decode b_Image_remake 15 = .ok (.putfield 29, 3) := by decide +kernel
theorem d_Image_remake_18 : decode b_Image_remake 18 = .ok (.iinc 2 1, 3) := by decide +kernel
theorem d_Image_remake_21 : decode b_Image_remake 21 = .ok (.goto (-19), 3) := by decide +kernel
theorem d_Image_remake_24 : decode b_Image_remake 24 = .ok (.iconst 0, 1) := by decide +kernel
theorem d_Image_remake_25 : decode b_Image_remake 25 = .ok (.istore_n 2, 1) := by decide +kernel
theorem d_Image_remake_26 : decode b_Image_remake 26 = .ok (.iload_n 2, 1) := by decide +kernel
theorem d_Image_remake_27 : decode b_Image_remake 27 = .ok (.aload_n 1, 1) := by decide +kernel
theorem d_Image_remake_28 : decode b_Image_remake 28 = .ok (.getfield 37, 3) := by decide +kernel
theorem d_Image_remake_31 : decode b_Image_remake 31 = .ok (.if_icmp .ge 35, 3) := by decide +kernel
theorem d_Image_remake_34 : decode b_Image_remake 34 = .ok (.aload_n 0, 1) := by decide +kernel
theorem d_Image_remake_35 : decode b_Image_remake 35 = .ok (.getfield 11, 3) := by decide +kernel
theorem d_Image_remake_38 : decode b_Image_remake 38 = .ok (.aload_n 1, 1) := by decide +kernel
theorem d_Image_remake_39 : decode b_Image_remake 39 = .ok (.getfield 42, 3) := by decide +kernel
theorem d_Image_remake_42 : decode b_Image_remake 42 = .ok (.iload_n 2, 1) := by decide +kernel
theorem d_Image_remake_43 : decode b_Image_remake 43 = .ok (.aaload, 1) := by decide +kernel
theorem d_Image_remake_44 : decode b_Image_remake 44 = .ok (.getfield 46, 3) := by decide +kernel
theorem d_Image_remake_47 : decode b_Image_remake 47 = .ok (.aaload, 1) := by decide +kernel
theorem d_Image_remake_48 : decode b_Image_remake 48 = .ok (.aload_n 1, 1) := by decide +kernel
theorem d_Image_remake_49 : decode b_Image_remake 49 = .ok (.getfield 42, 3) := by decide +kernel
theorem d_Image_remake_52 : decode b_Image_remake 52 = .ok (.iload_n 2, 1) := by decide +kernel
theorem d_Image_remake_53 : decode b_Image_remake 53 = .ok (.aaload, 1) := by decide +kernel
theorem d_Image_remake_54 : decode b_Image_remake 54 = .ok (.getfield 51, 3) := by decide +kernel
theorem d_Image_remake_57 : decode b_Image_remake 57 = .ok (.invokevirtual 55, 3) := by decide +kernel
theorem d_Image_remake_60 : decode b_Image_remake 60 = .ok (.iinc 2 1, 3) := by decide +kernel
theorem d_Image_remake_63 : decode b_Image_remake 63 = .ok (.goto (-37), 3) := by decide +kernel
theorem d_Image_remake_66 : decode b_Image_remake 66 = .ok (.return_, 1) := by decide +kernel
abbrev b_Image_answer : ByteArray := prog_9_method_5_code
abbrev J_Image_answer : MethodName × ByteArray × Nat × Option FieldType := (⟨"FaslDesk$Image", "answer", "(IIII)I"⟩, b_Image_answer, 8, (some .int))
theorem d_Image_answer_0 : decode b_Image_answer 0 = .ok (.aload_n 0, 1) := by decide +kernel
theorem d_Image_answer_1 : decode b_Image_answer 1 = .ok (.getfield 11, 3) := by decide +kernel
theorem d_Image_answer_4 : decode b_Image_answer 4 = .ok (.iload_n 1, 1) := by decide +kernel
theorem d_Image_answer_5 : decode b_Image_answer 5 = .ok (.aaload, 1) := by decide +kernel
theorem d_Image_answer_6 : decode b_Image_answer 6 = .ok (.astore 5, 2) := by decide +kernel
theorem d_Image_answer_8 : decode b_Image_answer 8 = .ok (.aload_n 0, 1) := by decide +kernel
theorem d_Image_answer_9 : decode b_Image_answer 9 = .ok (.getfield 19, 3) := by decide +kernel
theorem d_Image_answer_12 : decode b_Image_answer 12 = .ok (.iload_n 1, 1) := by decide +kernel
theorem d_Image_answer_13 : decode b_Image_answer 13 = .ok (.aaload, 1) := by decide +kernel
theorem d_Image_answer_14 : decode b_Image_answer 14 = .ok (.iconst 3, 1) := by decide +kernel
theorem d_Image_answer_15 : decode b_Image_answer 15 = .ok (.iload_n 2, 1) := by decide +kernel
theorem d_Image_answer_16 : decode b_Image_answer 16 = .ok (.iload_n 3, 1) := by decide +kernel
theorem d_Image_answer_17 : decode b_Image_answer 17 = .ok (.iload 4, 2) := by decide +kernel
theorem d_Image_answer_19 : decode b_Image_answer 19 = .ok (.invokevirtual 59, 3) := by decide +kernel
theorem d_Image_answer_22 : decode b_Image_answer 22 = .ok (.iconst 0, 1) := by decide +kernel
theorem d_Image_answer_23 : decode b_Image_answer 23 = .ok (.istore 6, 2) := by decide +kernel
theorem d_Image_answer_25 : decode b_Image_answer 25 = .ok (.iconst 0, 1) := by decide +kernel
theorem d_Image_answer_26 : decode b_Image_answer 26 = .ok (.istore 7, 2) := by decide +kernel
theorem d_Image_answer_28 : decode b_Image_answer 28 = .ok (.iload 7, 2) := by decide +kernel
theorem d_Image_answer_30 : decode b_Image_answer 30 = .ok (.ldc 63, 2) := by decide +kernel
theorem d_Image_answer_32 : decode b_Image_answer 32 = .ok (.if_icmp .ge 41, 3) := by decide +kernel
theorem d_Image_answer_35 : decode b_Image_answer 35 = .ok (.iload 6, 2) := by decide +kernel
theorem d_Image_answer_37 : decode b_Image_answer 37 = .ok (.aload 5, 2) := by decide +kernel
theorem d_Image_answer_39 : decode b_Image_answer 39 = .ok (.getfield 29, 3) := by decide +kernel
theorem d_Image_answer_42 : decode b_Image_answer 42 = .ok (.if_icmp .ge 31, 3) := by decide +kernel
theorem d_Image_answer_45 : decode b_Image_answer 45 = .ok (.aload 5, 2) := by decide +kernel
theorem d_Image_answer_47 : decode b_Image_answer 47 = .ok (.getfield 64, 3) := by decide +kernel
theorem d_Image_answer_50 : decode b_Image_answer 50 = .ok (.iload 6, 2) := by decide +kernel
theorem d_Image_answer_52 : decode b_Image_answer 52 = .ok (.iaload, 1) := by decide +kernel
theorem d_Image_answer_53 : decode b_Image_answer 53 = .ok (.bipush 17, 2) := by decide +kernel
theorem d_Image_answer_55 : decode b_Image_answer 55 = .ok (.if_icmp .eq 18, 3) := by decide +kernel
theorem d_Image_answer_58 : decode b_Image_answer 58 = .ok (.aload_n 0, 1) := by decide +kernel
theorem d_Image_answer_59 : decode b_Image_answer 59 = .ok (.iload_n 1, 1) := by decide +kernel
theorem d_Image_answer_60 : decode b_Image_answer 60 = .ok (.iload 6, 2) := by decide +kernel
theorem d_Image_answer_62 : decode b_Image_answer 62 = .ok (.invokevirtual 68, 3) := by decide +kernel
theorem d_Image_answer_65 : decode b_Image_answer 65 = .ok (.istore 6, 2) := by decide +kernel
theorem d_Image_answer_67 : decode b_Image_answer 67 = .ok (.iinc 7 1, 3) := by decide +kernel
theorem d_Image_answer_70 : decode b_Image_answer 70 = .ok (.goto (-42), 3) := by decide +kernel
theorem d_Image_answer_73 : decode b_Image_answer 73 = .ok (.aload_n 0, 1) := by decide +kernel
theorem d_Image_answer_74 : decode b_Image_answer 74 = .ok (.getfield 19, 3) := by decide +kernel
theorem d_Image_answer_77 : decode b_Image_answer 77 = .ok (.iload_n 1, 1) := by decide +kernel
theorem d_Image_answer_78 : decode b_Image_answer 78 = .ok (.aaload, 1) := by decide +kernel
theorem d_Image_answer_79 : decode b_Image_answer 79 = .ok (.invokevirtual 72, 3) := by decide +kernel
theorem d_Image_answer_82 : decode b_Image_answer 82 = .ok (.ireturn, 1) := by decide +kernel
abbrev b_Image_perform : ByteArray := prog_9_method_6_code
abbrev J_Image_perform : MethodName × ByteArray × Nat × Option FieldType := (⟨"FaslDesk$Image", "perform", "(II)I"⟩, b_Image_perform, 5, (some .int))
theorem d_Image_perform_0 : decode b_Image_perform 0 = .ok (.aload_n 0, 1) := by decide +kernel
theorem d_Image_perform_1 : decode b_Image_perform 1 = .ok (.getfield 19, 3) := by decide +kernel
theorem d_Image_perform_4 : decode b_Image_perform 4 = .ok (.iload_n 1, 1) := by decide +kernel
theorem d_Image_perform_5 : decode b_Image_perform 5 = .ok (.aaload, 1) := by decide +kernel
theorem d_Image_perform_6 : decode b_Image_perform 6 = .ok (.astore_n 3, 1) := by decide +kernel
theorem d_Image_perform_7 : decode b_Image_perform 7 = .ok (.aload_n 0, 1) := by decide +kernel
theorem d_Image_perform_8 : decode b_Image_perform 8 = .ok (.getfield 11, 3) := by decide +kernel
theorem d_Image_perform_11 : decode b_Image_perform 11 = .ok (.iload_n 1, 1) := by decide +kernel
theorem d_Image_perform_12 : decode b_Image_perform 12 = .ok (.aaload, 1) := by decide +kernel
theorem d_Image_perform_13 : decode b_Image_perform 13 = .ok (.getfield 76, 3) := by decide +kernel
theorem d_Image_perform_16 : decode b_Image_perform 16 = .ok (.iload_n 2, 1) := by decide +kernel
theorem d_Image_perform_17 : decode b_Image_perform 17 = .ok (.iaload, 1) := by decide +kernel
theorem d_Image_perform_18 : decode b_Image_perform 18 = .ok (.istore 4, 2) := by decide +kernel
theorem d_Image_perform_20 : decode b_Image_perform 20 = .ok (.aload_n 0, 1) := by decide +kernel
theorem d_Image_perform_21 : decode b_Image_perform 21 = .ok (.getfield 11, 3) := by decide +kernel
theorem d_Image_perform_24 : decode b_Image_perform 24 = .ok (.iload_n 1, 1) := by decide +kernel
theorem d_Image_perform_25 : decode b_Image_perform 25 = .ok (.aaload, 1) := by decide +kernel
theorem d_Image_perform_26 : decode b_Image_perform 26 = .ok (.getfield 64, 3) := by decide +kernel
theorem d_Image_perform_29 : decode b_Image_perform 29 = .ok (.iload_n 2, 1) := by decide +kernel
theorem d_Image_perform_30 : decode b_Image_perform 30 = .ok (.iaload, 1) := by decide +kernel
theorem d_Image_perform_31 : decode b_Image_perform 31 = .ok (.tableswitch 165 0 16 #[81, 90, 165, 165, 165, 165, 165, 165, 165, 165, 165, 165, 165, 104, 118, 148, 151], 81) := by decide +kernel
theorem d_Image_perform_112 : decode b_Image_perform 112 = .ok (.aload_n 3, 1) := by decide +kernel
theorem d_Image_perform_113 : decode b_Image_perform 113 = .ok (.iload 4, 2) := by decide +kernel
theorem d_Image_perform_115 : decode b_Image_perform 115 = .ok (.invokevirtual 79, 3) := by decide +kernel
theorem d_Image_perform_118 : decode b_Image_perform 118 = .ok (.goto 93, 3) := by decide +kernel
theorem d_Image_perform_121 : decode b_Image_perform 121 = .ok (.aload_n 3, 1) := by decide +kernel
theorem d_Image_perform_122 : decode b_Image_perform 122 = .ok (.aload_n 3, 1) := by decide +kernel
theorem d_Image_perform_123 : decode b_Image_perform 123 = .ok (.getfield 83, 3) := by decide +kernel
theorem d_Image_perform_126 : decode b_Image_perform 126 = .ok (.iload 4, 2) := by decide +kernel
theorem d_Image_perform_128 : decode b_Image_perform 128 = .ok (.iaload, 1) := by decide +kernel
theorem d_Image_perform_129 : decode b_Image_perform 129 = .ok (.invokevirtual 79, 3) := by decide +kernel
theorem d_Image_perform_132 : decode b_Image_perform 132 = .ok (.goto 79, 3) := by decide +kernel
theorem d_Image_perform_135 : decode b_Image_perform 135 = .ok (.aload_n 3, 1) := by decide +kernel
theorem d_Image_perform_136 : decode b_Image_perform 136 = .ok (.getfield 83, 3) := by decide +kernel
theorem d_Image_perform_139 : decode b_Image_perform 139 = .ok (.iload 4, 2) := by decide +kernel
theorem d_Image_perform_141 : decode b_Image_perform 141 = .ok (.aload_n 3, 1) := by decide +kernel
theorem d_Image_perform_142 : decode b_Image_perform 142 = .ok (.invokevirtual 72, 3) := by decide +kernel
theorem d_Image_perform_145 : decode b_Image_perform 145 = .ok (.iastore, 1) := by decide +kernel
theorem d_Image_perform_146 : decode b_Image_perform 146 = .ok (.goto 65, 3) := by decide +kernel
theorem d_Image_perform_149 : decode b_Image_perform 149 = .ok (.iload 4, 2) := by decide +kernel
theorem d_Image_perform_151 : decode b_Image_perform 151 = .ok (.aload_n 3, 1) := by decide +kernel
theorem d_Image_perform_152 : decode b_Image_perform 152 = .ok (.invokevirtual 72, 3) := by decide +kernel
theorem d_Image_perform_155 : decode b_Image_perform 155 = .ok (.invokestatic 86, 3) := by decide +kernel
theorem d_Image_perform_158 : decode b_Image_perform 158 = .ok (.ifCond .eq 9, 3) := by decide +kernel
theorem d_Image_perform_161 : decode b_Image_perform 161 = .ok (.iload_n 2, 1) := by decide +kernel
theorem d_Image_perform_162 : decode b_Image_perform 162 = .ok (.iconst 1, 1) := by decide +kernel
theorem d_Image_perform_163 : decode b_Image_perform 163 = .ok (.iadd, 1) := by decide +kernel
theorem d_Image_perform_164 : decode b_Image_perform 164 = .ok (.goto 14, 3) := by decide +kernel
theorem d_Image_perform_167 : decode b_Image_perform 167 = .ok (.aload_n 0, 1) := by decide +kernel
theorem d_Image_perform_168 : decode b_Image_perform 168 = .ok (.getfield 11, 3) := by decide +kernel
theorem d_Image_perform_171 : decode b_Image_perform 171 = .ok (.iload_n 1, 1) := by decide +kernel
theorem d_Image_perform_172 : decode b_Image_perform 172 = .ok (.aaload, 1) := by decide +kernel
theorem d_Image_perform_173 : decode b_Image_perform 173 = .ok (.getfield 92, 3) := by decide +kernel
theorem d_Image_perform_176 : decode b_Image_perform 176 = .ok (.iload_n 2, 1) := by decide +kernel
theorem d_Image_perform_177 : decode b_Image_perform 177 = .ok (.iaload, 1) := by decide +kernel
theorem d_Image_perform_178 : decode b_Image_perform 178 = .ok (.ireturn, 1) := by decide +kernel
theorem d_Image_perform_179 : decode b_Image_perform 179 = .ok (.iload 4, 2) := by decide +kernel
theorem d_Image_perform_181 : decode b_Image_perform 181 = .ok (.ireturn, 1) := by decide +kernel
theorem d_Image_perform_182 : decode b_Image_perform 182 = .ok (.aload_n 3, 1) := by decide +kernel
theorem d_Image_perform_183 : decode b_Image_perform 183 = .ok (.aload_n 0, 1) := by decide +kernel
theorem d_Image_perform_184 : decode b_Image_perform 184 = .ok (.iload_n 1, 1) := by decide +kernel
theorem d_Image_perform_185 : decode b_Image_perform 185 = .ok (.iload 4, 2) := by decide +kernel
theorem d_Image_perform_187 : decode b_Image_perform 187 = .ok (.invokevirtual 95, 3) := by decide +kernel
theorem d_Image_perform_190 : decode b_Image_perform 190 = .ok (.invokevirtual 79, 3) := by decide +kernel
theorem d_Image_perform_193 : decode b_Image_perform 193 = .ok (.goto 18, 3) := by decide +kernel
theorem d_Image_perform_196 : decode b_Image_perform 196 = .ok (.aload_n 0, 1) := by decide +kernel
theorem d_Image_perform_197 : decode b_Image_perform 197 = .ok (.getfield 11, 3) := by decide +kernel
theorem d_Image_perform_200 : decode b_Image_perform 200 = .ok (.iload_n 1, 1) := by decide +kernel
theorem d_Image_perform_201 : decode b_Image_perform 201 = .ok (.aaload, 1) := by decide +kernel
theorem d_Image_perform_202 : decode b_Image_perform 202 = .ok (.getfield 64, 3) := by decide +kernel
theorem d_Image_perform_205 : decode b_Image_perform 205 = .ok (.iload_n 2, 1) := by decide +kernel
theorem d_Image_perform_206 : decode b_Image_perform 206 = .ok (.iaload, 1) := by decide +kernel
theorem d_Image_perform_207 : decode b_Image_perform 207 = .ok (.aload_n 3, 1) := by decide +kernel
theorem d_Image_perform_208 : decode b_Image_perform 208 = .ok (.invokestatic 98, 3) := by decide +kernel
theorem d_Image_perform_211 : decode b_Image_perform 211 = .ok (.iload_n 2, 1) := by decide +kernel
theorem d_Image_perform_212 : decode b_Image_perform 212 = .ok (.iconst 1, 1) := by decide +kernel
theorem d_Image_perform_213 : decode b_Image_perform 213 = .ok (.iadd, 1) := by decide +kernel
theorem d_Image_perform_214 : decode b_Image_perform 214 = .ok (.ireturn, 1) := by decide +kernel
abbrev b_Image_rework : ByteArray := prog_9_method_7_code
abbrev J_Image_rework : MethodName × ByteArray × Nat × Option FieldType := (⟨"FaslDesk$Image", "rework", "(ILFaslDesk$Frame;)V"⟩, b_Image_rework, 4, none)
theorem d_Image_rework_0 : decode b_Image_rework 0 = .ok (.iload_n 0, 1) := by decide +kernel
theorem d_Image_rework_1 : decode b_Image_rework 1 = .ok (.bipush 21, 2) := by decide +kernel
theorem d_Image_rework_3 : decode b_Image_rework 3 = .ok (.if_icmp .ne 4, 3) := by decide +kernel
theorem d_Image_rework_6 : decode b_Image_rework 6 = .ok (.return_, 1) := by decide +kernel
theorem d_Image_rework_7 : decode b_Image_rework 7 = .ok (.aload_n 1, 1) := by decide +kernel
theorem d_Image_rework_8 : decode b_Image_rework 8 = .ok (.invokevirtual 72, 3) := by decide +kernel
theorem d_Image_rework_11 : decode b_Image_rework 11 = .ok (.istore_n 2, 1) := by decide +kernel
theorem d_Image_rework_12 : decode b_Image_rework 12 = .ok (.iload_n 0, 1) := by decide +kernel
theorem d_Image_rework_13 : decode b_Image_rework 13 = .ok (.tableswitch 94 12 20 #[51, 94, 94, 94, 94, 94, 60, 63, 76], 51) := by decide +kernel
theorem d_Image_rework_64 : decode b_Image_rework 64 = .ok (.aload_n 1, 1) := by decide +kernel
theorem d_Image_rework_65 : decode b_Image_rework 65 = .ok (.iload_n 2, 1) := by decide +kernel
theorem d_Image_rework_66 : decode b_Image_rework 66 = .ok (.ineg, 1) := by decide +kernel
theorem d_Image_rework_67 : decode b_Image_rework 67 = .ok (.invokevirtual 79, 3) := by decide +kernel
theorem d_Image_rework_70 : decode b_Image_rework 70 = .ok (.goto 50, 3) := by decide +kernel
theorem d_Image_rework_73 : decode b_Image_rework 73 = .ok (.goto 47, 3) := by decide +kernel
theorem d_Image_rework_76 : decode b_Image_rework 76 = .ok (.aload_n 1, 1) := by decide +kernel
theorem d_Image_rework_77 : decode b_Image_rework 77 = .ok (.iload_n 2, 1) := by decide +kernel
theorem d_Image_rework_78 : decode b_Image_rework 78 = .ok (.invokevirtual 79, 3) := by decide +kernel
theorem d_Image_rework_81 : decode b_Image_rework 81 = .ok (.aload_n 1, 1) := by decide +kernel
theorem d_Image_rework_82 : decode b_Image_rework 82 = .ok (.iload_n 2, 1) := by decide +kernel
theorem d_Image_rework_83 : decode b_Image_rework 83 = .ok (.invokevirtual 79, 3) := by decide +kernel
theorem d_Image_rework_86 : decode b_Image_rework 86 = .ok (.goto 34, 3) := by decide +kernel
theorem d_Image_rework_89 : decode b_Image_rework 89 = .ok (.aload_n 1, 1) := by decide +kernel
theorem d_Image_rework_90 : decode b_Image_rework 90 = .ok (.invokevirtual 72, 3) := by decide +kernel
theorem d_Image_rework_93 : decode b_Image_rework 93 = .ok (.istore_n 3, 1) := by decide +kernel
theorem d_Image_rework_94 : decode b_Image_rework 94 = .ok (.aload_n 1, 1) := by decide +kernel
theorem d_Image_rework_95 : decode b_Image_rework 95 = .ok (.iload_n 2, 1) := by decide +kernel
theorem d_Image_rework_96 : decode b_Image_rework 96 = .ok (.invokevirtual 79, 3) := by decide +kernel
theorem d_Image_rework_99 : decode b_Image_rework 99 = .ok (.aload_n 1, 1) := by decide +kernel
theorem d_Image_rework_100 : decode b_Image_rework 100 = .ok (.iload_n 3, 1) := by decide +kernel
theorem d_Image_rework_101 : decode b_Image_rework 101 = .ok (.invokevirtual 79, 3) := by decide +kernel
theorem d_Image_rework_104 : decode b_Image_rework 104 = .ok (.goto 16, 3) := by decide +kernel
theorem d_Image_rework_107 : decode b_Image_rework 107 = .ok (.aload_n 1, 1) := by decide +kernel
theorem d_Image_rework_108 : decode b_Image_rework 108 = .ok (.iload_n 0, 1) := by decide +kernel
theorem d_Image_rework_109 : decode b_Image_rework 109 = .ok (.aload_n 1, 1) := by decide +kernel
theorem d_Image_rework_110 : decode b_Image_rework 110 = .ok (.invokevirtual 72, 3) := by decide +kernel
theorem d_Image_rework_113 : decode b_Image_rework 113 = .ok (.iload_n 2, 1) := by decide +kernel
theorem d_Image_rework_114 : decode b_Image_rework 114 = .ok (.invokestatic 102, 3) := by decide +kernel
theorem d_Image_rework_117 : decode b_Image_rework 117 = .ok (.invokevirtual 79, 3) := by decide +kernel
theorem d_Image_rework_120 : decode b_Image_rework 120 = .ok (.return_, 1) := by decide +kernel
abbrev b_Image_answerOfLower : ByteArray := prog_9_method_8_code
abbrev J_Image_answerOfLower : MethodName × ByteArray × Nat × Option FieldType := (⟨"FaslDesk$Image", "answerOfLower", "(II)I"⟩, b_Image_answerOfLower, 7, (some .int))
theorem d_Image_answerOfLower_0 : decode b_Image_answerOfLower 0 = .ok (.aload_n 0, 1) := by decide +kernel
theorem d_Image_answerOfLower_1 : decode b_Image_answerOfLower 1 = .ok (.getfield 19, 3) := by decide +kernel
theorem d_Image_answerOfLower_4 : decode b_Image_answerOfLower 4 = .ok (.iload_n 1, 1) := by decide +kernel
theorem d_Image_answerOfLower_5 : decode b_Image_answerOfLower 5 = .ok (.aaload, 1) := by decide +kernel
theorem d_Image_answerOfLower_6 : decode b_Image_answerOfLower 6 = .ok (.astore_n 3, 1) := by decide +kernel
theorem d_Image_answerOfLower_7 : decode b_Image_answerOfLower 7 = .ok (.aload_n 3, 1) := by decide +kernel
theorem d_Image_answerOfLower_8 : decode b_Image_answerOfLower 8 = .ok (.invokevirtual 72, 3) := by decide +kernel
theorem d_Image_answerOfLower_11 : decode b_Image_answerOfLower 11 = .ok (.istore 4, 2) := by decide +kernel
theorem d_Image_answerOfLower_13 : decode b_Image_answerOfLower 13 = .ok (.aload_n 3, 1) := by decide +kernel
theorem d_Image_answerOfLower_14 : decode b_Image_answerOfLower 14 = .ok (.invokevirtual 72, 3) := by decide +kernel
theorem d_Image_answerOfLower_17 : decode b_Image_answerOfLower 17 = .ok (.istore 5, 2) := by decide +kernel
theorem d_Image_answerOfLower_19 : decode b_Image_answerOfLower 19 = .ok (.aload_n 3, 1) := by decide +kernel
theorem d_Image_answerOfLower_20 : decode b_Image_answerOfLower 20 = .ok (.invokevirtual 72, 3) := by decide +kernel
theorem d_Image_answerOfLower_23 : decode b_Image_answerOfLower 23 = .ok (.istore 6, 2) := by decide +kernel
theorem d_Image_answerOfLower_25 : decode b_Image_answerOfLower 25 = .ok (.iload_n 2, 1) := by decide +kernel
theorem d_Image_answerOfLower_26 : decode b_Image_answerOfLower 26 = .ok (.iload_n 1, 1) := by decide +kernel
theorem d_Image_answerOfLower_27 : decode b_Image_answerOfLower 27 = .ok (.if_icmp .ge 11, 3) := by decide +kernel
theorem d_Image_answerOfLower_30 : decode b_Image_answerOfLower 30 = .ok (.aload_n 0, 1) := by decide +kernel
theorem d_Image_answerOfLower_31 : decode b_Image_answerOfLower 31 = .ok (.iload_n 2, 1) := by decide +kernel
theorem d_Image_answerOfLower_32 : decode b_Image_answerOfLower 32 = .ok (.invokevirtual 33, 3) := by decide +kernel
theorem d_Image_answerOfLower_35 : decode b_Image_answerOfLower 35 = .ok (.ifCond .ne 13, 3) := by decide +kernel
theorem d_Image_answerOfLower_38 : decode b_Image_answerOfLower 38 = .ok (.new 106, 3) := by decide +kernel
theorem d_Image_answerOfLower_41 : decode b_Image_answerOfLower 41 = .ok (.dup, 1) := by decide +kernel
theorem d_Image_answerOfLower_42 : decode b_Image_answerOfLower 42 = .ok (.ldc 108, 2) := by decide +kernel
theorem d_Image_answerOfLower_44 : decode b_Image_answerOfLower 44 = .ok (.invokespecial 110, 3) := by decide +kernel
theorem d_Image_answerOfLower_47 : decode b_Image_answerOfLower 47 = .ok (.athrow, 1) := by decide +kernel
theorem d_Image_answerOfLower_48 : decode b_Image_answerOfLower 48 = .ok (.aload_n 0, 1) := by decide +kernel
theorem d_Image_answerOfLower_49 : decode b_Image_answerOfLower 49 = .ok (.iload_n 2, 1) := by decide +kernel
theorem d_Image_answerOfLower_50 : decode b_Image_answerOfLower 50 = .ok (.iload 6, 2) := by decide +kernel
theorem d_Image_answerOfLower_52 : decode b_Image_answerOfLower 52 = .ok (.iload 5, 2) := by decide +kernel
theorem d_Image_answerOfLower_54 : decode b_Image_answerOfLower 54 = .ok (.iload 4, 2) := by decide +kernel
theorem d_Image_answerOfLower_56 : decode b_Image_answerOfLower 56 = .ok (.invokevirtual 113, 3) := by decide +kernel
theorem d_Image_answerOfLower_59 : decode b_Image_answerOfLower 59 = .ok (.ireturn, 1) := by decide +kernel
abbrev b_Interp_init : ByteArray := prog_10_method_1_code
abbrev J_Interp_init : MethodName × ByteArray × Nat × Option FieldType := (⟨"FaslDesk$Interpreter", "<init>", "()V"⟩, b_Interp_init, 2, none)
theorem d_Interp_init_0 : decode b_Interp_init 0 = .ok (.aload_n 0, 1) := by decide +kernel
theorem d_Interp_init_1 : decode b_Interp_init 1 = .ok (.invokespecial 3, 3) := by decide +kernel
theorem d_Interp_init_4 : decode b_Interp_init 4 = .ok (.aload_n 0, 1) := by decide +kernel
theorem d_Interp_init_5 : decode b_Interp_init 5 = .ok (.bipush 8, 2) := by decide +kernel
theorem d_Interp_init_7 : decode b_Interp_init 7 = .ok (.anewarray 9, 3) := by decide +kernel
theorem d_Interp_init_10 : decode b_Interp_init 10 = .ok (.putfield 11, 3) := by decide +kernel
theorem d_Interp_init_13 : decode b_Interp_init 13 = .ok (.aload_n 0, 1) := by decide +kernel
theorem d_Interp_init_14 : decode b_Interp_init 14 = .ok (.bipush 8, 2) := by decide +kernel
theorem d_Interp_init_16 : decode b_Interp_init 16 = .ok (.anewarray 17, 3) := by decide +kernel
theorem d_Interp_init_19 : decode b_Interp_init 19 = .ok (.putfield 19, 3) := by decide +kernel
theorem d_Interp_init_22 : decode b_Interp_init 22 = .ok (.aload_n 0, 1) := by decide +kernel
theorem d_Interp_init_23 : decode b_Interp_init 23 = .ok (.bipush 8, 2) := by decide +kernel
theorem d_Interp_init_25 : decode b_Interp_init 25 = .ok (.anewarray 23, 3) := by decide +kernel
theorem d_Interp_init_28 : decode b_Interp_init 28 = .ok (.putfield 25, 3) := by decide +kernel
theorem d_Interp_init_31 : decode b_Interp_init 31 = .ok (.iconst 0, 1) := by decide +kernel
theorem d_Interp_init_32 : decode b_Interp_init 32 = .ok (.istore_n 1, 1) := by decide +kernel
theorem d_Interp_init_33 : decode b_Interp_init 33 = .ok (.iload_n 1, 1) := by decide +kernel
theorem d_Interp_init_34 : decode b_Interp_init 34 = .ok (.bipush 8, 2) := by decide +kernel
theorem d_Interp_init_36 : decode b_Interp_init 36 = .ok (.if_icmp .ge 48, 3) := by decide +kernel
theorem d_Interp_init_39 : decode b_Interp_init 39 = .ok (.aload_n 0, 1) := by decide +kernel
theorem d_Interp_init_40 : decode b_Interp_init 40 = .ok (.getfield 11, 3) := by decide +kernel
theorem d_Interp_init_43 : decode b_Interp_init 43 = .ok (.iload_n 1, 1) := by decide +kernel
theorem d_Interp_init_44 : decode b_Interp_init 44 = .ok (.new 9, 3) := by decide +kernel
theorem d_Interp_init_47 : decode b_Interp_init 47 = .ok (.dup, 1) := by decide +kernel
theorem d_Interp_init_48 : decode b_Interp_init 48 = .ok (.invokespecial 29, 3) := by decide +kernel
theorem d_Interp_init_51 : decode b_Interp_init 51 = .ok (.aastore, 1) := by decide +kernel
theorem d_Interp_init_52 : decode b_Interp_init 52 = .ok (.aload_n 0, 1) := by decide +kernel
theorem d_Interp_init_53 : decode b_Interp_init 53 = .ok (.getfield 19, 3) := by decide +kernel
theorem d_Interp_init_56 : decode b_Interp_init 56 = .ok (.iload_n 1, 1) := by decide +kernel
theorem d_Interp_init_57 : decode b_Interp_init 57 = .ok (.new 17, 3) := by decide +kernel
theorem d_Interp_init_60 : decode b_Interp_init 60 = .ok (.dup, 1) := by decide +kernel
theorem d_Interp_init_61 : decode b_Interp_init 61 = .ok (.invokespecial 30, 3) := by decide +kernel
theorem d_Interp_init_64 : decode b_Interp_init 64 = .ok (.aastore, 1) := by decide +kernel
theorem d_Interp_init_65 : decode b_Interp_init 65 = .ok (.aload_n 0, 1) := by decide +kernel
theorem d_Interp_init_66 : decode b_Interp_init 66 = .ok (.getfield 25, 3) := by decide +kernel
theorem d_Interp_init_69 : decode b_Interp_init 69 = .ok (.iload_n 1, 1) := by decide +kernel
theorem d_Interp_init_70 : decode b_Interp_init 70 = .ok (.new 23, 3) := by decide +kernel
theorem d_Interp_init_73 : decode b_Interp_init 73 = .ok (.dup, 1) := by decide +kernel
theorem d_Interp_init_74 : decode b_Interp_init 74 = .ok (.invokespecial 31, 3) := by decide +kernel
theorem d_Interp_init_77 : decode b_Interp_init 77 = .ok (.aastore, 1) := by decide +kernel
theorem d_Interp_init_78 : decode b_Interp_init 78 = .ok (.iinc 1 1, 3) := by decide +kernel
theorem d_Interp_init_81 : decode b_Interp_init 81 = .ok (.goto (-48), 3) := by decide +kernel
theorem d_Interp_init_84 : decode b_Interp_init 84 = .ok (.return_, 1) := by decide +kernel
abbrev b_Interp_has : ByteArray := prog_10_method_2_code
abbrev J_Interp_has : MethodName × ByteArray × Nat × Option FieldType := (⟨"FaslDesk$Interpreter", "has", "(I)Z"⟩, b_Interp_has, 2, (some .boolean))
theorem d_Interp_has_0 : decode b_Interp_has 0 = .ok (.iload_n 1, 1) := by decide +kernel
theorem d_Interp_has_1 : decode b_Interp_has 1 = .ok (.iconst 0, 1) := by decide +kernel
theorem d_Interp_has_2 : decode b_Interp_has 2 = .ok (.bipush 7, 2) := by decide +kernel
theorem d_Interp_has_4 : decode b_Interp_has 4 = .ok (.invokestatic 32, 3) := by decide +kernel
theorem d_Interp_has_7 : decode b_Interp_has 7 = .ok (.ifCond .eq 19, 3) := by decide +kernel
theorem d_Interp_has_10 : decode b_Interp_has 10 = .ok (.aload_n 0, 1) := by decide +kernel
theorem d_Interp_has_11 : decode b_Interp_has 11 = .ok (.getfield 11, 3) := by decide +kernel
theorem d_Interp_has_14 : decode b_Interp_has 14 = .ok (.iload_n 1, 1) := by decide +kernel
theorem d_Interp_has_15 : decode b_Interp_has 15 = .ok (.aaload, 1) := by decide +kernel
theorem d_Interp_has_16 : decode b_Interp_has 16 = .ok (.getfield 36, 3) := by decide +kernel
theorem d_Interp_has_19 : decode b_Interp_has 19 = .ok (.ifCond .le 7, 3) := by decide +kernel
theorem d_Interp_has_22 : decode b_Interp_has 22 = .ok (.iconst 1, 1) := by decide +kernel
theorem d_Interp_has_23 : decode b_Interp_has 23 = .ok (.goto 4, 3) := by decide +kernel
theorem d_Interp_has_26 : decode b_Interp_has 26 = .ok (.iconst 0, 1) := by decide +kernel
theorem d_Interp_has_27 : decode b_Interp_has 27 = .ok (.ireturn, 1) := by decide +kernel
abbrev b_Interp_size : ByteArray := prog_10_method_3_code
abbrev J_Interp_size : MethodName × ByteArray × Nat × Option FieldType := (⟨"FaslDesk$Interpreter", "size", "()I"⟩, b_Interp_size, 3, (some .int))
theorem d_Interp_size_0 : decode b_Interp_size 0 = .ok (.iconst 0, 1) := by decide +kernel
theorem d_Interp_size_1 : decode b_Interp_size 1 = .ok (.istore_n 1, 1) := by decide +kernel
theorem d_Interp_size_2 : decode b_Interp_size 2 = .ok (.iconst 0, 1) := by decide +kernel
theorem d_Interp_size_3 : decode b_Interp_size 3 = .ok (.istore_n 2, 1) := by decide +kernel
theorem d_Interp_size_4 : decode b_Interp_size 4 = .ok (.iload_n 2, 1) := by decide +kernel
theorem d_Interp_size_5 : decode b_Interp_size 5 = .ok (.bipush 8, 2) := by decide +kernel
theorem d_Interp_size_7 : decode b_Interp_size 7 = .ok (.if_icmp .ge 20, 3) := by decide +kernel
theorem d_Interp_size_10 : decode b_Interp_size 10 = .ok (.aload_n 0, 1) := by decide +kernel
theorem d_Interp_size_11 : decode b_Interp_size 11 = .ok (.iload_n 2, 1) := by decide +kernel
theorem d_Interp_size_12 : decode b_Interp_size 12 = .ok (.invokevirtual 40, 3) := by decide +kernel
theorem d_Interp_size_15 : decode b_Interp_size 15 = .ok (.ifCond .eq 6, 3) := by decide +kernel
theorem d_Interp_size_18 : decode b_Interp_size 18 = .ok (.iinc 1 1, 3) := by decide +kernel
theorem d_Interp_size_21 : decode b_Interp_size 21 = .ok (.iinc 2 1, 3) := by decide +kernel
theorem d_Interp_size_24 : decode b_Interp_size 24 = .ok (.goto (-20), 3) := by decide +kernel
theorem d_Interp_size_27 : decode b_Interp_size 27 = .ok (.iload_n 1, 1) := by decide +kernel
theorem d_Interp_size_28 : decode b_Interp_size 28 = .ok (.ireturn, 1) := by decide +kernel
abbrev b_Interp_answer : ByteArray := prog_10_method_4_code
abbrev J_Interp_answer : MethodName × ByteArray × Nat × Option FieldType := (⟨"FaslDesk$Interpreter", "answer", "(IIII)I"⟩, b_Interp_answer, 6, (some .int))
theorem d_Interp_answer_0 : decode b_Interp_answer 0 = .ok (.aload_n 0, 1) := by decide +kernel
theorem d_Interp_answer_1 : decode b_Interp_answer 1 = .ok (.iload_n 1, 1) := by decide +kernel
theorem d_Interp_answer_2 : decode b_Interp_answer 2 = .ok (.invokevirtual 40, 3) := by decide +kernel
theorem d_Interp_answer_5 : decode b_Interp_answer 5 = .ok (.ifCond .ne 13, 3) := by decide +kernel
theorem d_Interp_answer_8 : decode b_Interp_answer 8 = .ok (.new 44, 3) := by decide +kernel
theorem d_Interp_answer_11 : decode b_Interp_answer 11 = .ok (.dup, 1) := by decide +kernel
theorem d_Interp_answer_12 : decode b_Interp_answer 12 = .ok (.ldc 46, 2) := by decide +kernel
theorem d_Interp_answer_14 : decode b_Interp_answer 14 = .ok (.invokespecial 48, 3) := by decide +kernel
theorem d_Interp_answer_17 : decode b_Interp_answer 17 = .ok (.athrow, 1) := by decide +kernel
theorem d_Interp_answer_18 : decode b_Interp_answer 18 = .ok (.aload_n 0, 1) := by decide +kernel
theorem d_Interp_answer_19 : decode b_Interp_answer 19 = .ok (.getfield 19, 3) := by decide +kernel
theorem d_Interp_answer_22 : decode b_Interp_answer 22 = .ok (.iload_n 1, 1) := by decide +kernel
theorem d_Interp_answer_23 : decode b_Interp_answer 23 = .ok (.aaload, 1) := by decide +kernel
theorem d_Interp_answer_24 : decode b_Interp_answer 24 = .ok (.aload_n 0, 1) := by decide +kernel
theorem d_Interp_answer_25 : decode b_Interp_answer 25 = .ok (.getfield 11, 3) := by decide +kernel
theorem d_Interp_answer_28 : decode b_Interp_answer 28 = .ok (.iload_n 1, 1) := by decide +kernel
theorem d_Interp_answer_29 : decode b_Interp_answer 29 = .ok (.aaload, 1) := by decide +kernel
theorem d_Interp_answer_30 : decode b_Interp_answer 30 = .ok (.getfield 51, 3) := by decide +kernel
theorem d_Interp_answer_33 : decode b_Interp_answer 33 = .ok (.iload_n 2, 1) := by decide +kernel
theorem d_Interp_answer_34 : decode b_Interp_answer 34 = .ok (.iload_n 3, 1) := by decide +kernel
theorem d_Interp_answer_35 : decode b_Interp_answer 35 = .ok (.iload 4, 2) := by decide +kernel
theorem d_Interp_answer_37 : decode b_Interp_answer 37 = .ok (.invokevirtual 54, 3) := by decide +kernel
theorem d_Interp_answer_40 : decode b_Interp_answer 40 = .ok (.aload_n 0, 1) := by decide +kernel
theorem d_Interp_answer_41 : decode b_Interp_answer 41 = .ok (.getfield 25, 3) := by decide +kernel
theorem d_Interp_answer_44 : decode b_Interp_answer 44 = .ok (.iload_n 1, 1) := by decide +kernel
theorem d_Interp_answer_45 : decode b_Interp_answer 45 = .ok (.aaload, 1) := by decide +kernel
theorem d_Interp_answer_46 : decode b_Interp_answer 46 = .ok (.invokevirtual 58, 3) := by decide +kernel
theorem d_Interp_answer_49 : decode b_Interp_answer 49 = .ok (.iconst 0, 1) := by decide +kernel
theorem d_Interp_answer_50 : decode b_Interp_answer 50 = .ok (.istore 5, 2) := by decide +kernel
theorem d_Interp_answer_52 : decode b_Interp_answer 52 = .ok (.iload 5, 2) := by decide +kernel
theorem d_Interp_answer_54 : decode b_Interp_answer 54 = .ok (.ldc 60, 2) := by decide +kernel
theorem d_Interp_answer_56 : decode b_Interp_answer 56 = .ok (.if_icmp .ge 26, 3) := by decide +kernel
theorem d_Interp_answer_59 : decode b_Interp_answer 59 = .ok (.aload_n 0, 1) := by decide +kernel
theorem d_Interp_answer_60 : decode b_Interp_answer 60 = .ok (.getfield 25, 3) := by decide +kernel
theorem d_Interp_answer_63 : decode b_Interp_answer 63 = .ok (.iload_n 1, 1) := by decide +kernel
theorem d_Interp_answer_64 : decode b_Interp_answer 64 = .ok (.aaload, 1) := by decide +kernel
theorem d_Interp_answer_65 : decode b_Interp_answer 65 = .ok (.invokevirtual 61, 3) := by decide +kernel
theorem d_Interp_answer_68 : decode b_Interp_answer 68 = .ok (.ifCond .ne 14, 3) := by decide +kernel
theorem d_Interp_answer_71 : decode b_Interp_answer 71 = .ok (.aload_n 0, 1) := by decide +kernel
theorem d_Interp_answer_72 : decode b_Interp_answer 72 = .ok (.iload_n 1, 1) := by decide +kernel
theorem d_Interp_answer_73 : decode b_Interp_answer 73 = .ok (.invokevirtual 65, 3) := by decide +kernel
theorem d_Interp_answer_76 : decode b_Interp_answer 76 = .ok (.iinc 5 1, 3) := by decide +kernel
theorem d_Interp_answer_79 : decode b_Interp_answer 79 = .ok (.goto (-27), 3) := by decide +kernel
theorem d_Interp_answer_82 : decode b_Interp_answer 82 = .ok (.aload_n 0, 1) := by decide +kernel
theorem d_Interp_answer_83 : decode b_Interp_answer 83 = .ok (.getfield 19, 3) := by decide +kernel
theorem d_Interp_answer_86 : decode b_Interp_answer 86 = .ok (.iload_n 1, 1) := by decide +kernel
theorem d_Interp_answer_87 : decode b_Interp_answer 87 = .ok (.aaload, 1) := by decide +kernel
theorem d_Interp_answer_88 : decode b_Interp_answer 88 = .ok (.invokevirtual 69, 3) := by decide +kernel
theorem d_Interp_answer_91 : decode b_Interp_answer 91 = .ok (.ireturn, 1) := by decide +kernel
abbrev b_Interp_advance : ByteArray := prog_10_method_5_code
abbrev J_Interp_advance : MethodName × ByteArray × Nat × Option FieldType := (⟨"FaslDesk$Interpreter", "advance", "(I)V"⟩, b_Interp_advance, 6, none)
theorem d_Interp_advance_0 : decode b_Interp_advance 0 = .ok (.aload_n 0, 1) := by decide +kernel
theorem d_Interp_advance_1 : decode b_Interp_advance 1 = .ok (.getfield 11, 3) := by decide +kernel
theorem d_Interp_advance_4 : decode b_Interp_advance 4 = .ok (.iload_n 1, 1) := by decide +kernel
theorem d_Interp_advance_5 : decode b_Interp_advance 5 = .ok (.aaload, 1) := by decide +kernel
theorem d_Interp_advance_6 : decode b_Interp_advance 6 = .ok (.astore_n 2, 1) := by decide +kernel
theorem d_Interp_advance_7 : decode b_Interp_advance 7 = .ok (.aload_n 0, 1) := by decide +kernel
theorem d_Interp_advance_8 : decode b_Interp_advance 8 = .ok (.getfield 25, 3) := by decide +kernel
theorem d_Interp_advance_11 : decode b_Interp_advance 11 = .ok (.iload_n 1, 1) := by decide +kernel
theorem d_Interp_advance_12 : decode b_Interp_advance 12 = .ok (.aaload, 1) := by decide +kernel
theorem d_Interp_advance_13 : decode b_Interp_advance 13 = .ok (.invokevirtual 73, 3) := by decide +kernel
theorem d_Interp_advance_16 : decode b_Interp_advance 16 = .ok (.istore_n 3, 1) := by decide +kernel
theorem d_Interp_advance_17 : decode b_Interp_advance 17 = .ok (.aload_n 0, 1) := by decide +kernel
theorem d_Interp_advance_18 : decode b_Interp_advance 18 = .ok (.getfield 25, 3) := by decide +kernel
theorem d_Interp_advance_21 : decode b_Interp_advance 21 = .ok (.iload_n 1, 1) := by decide +kernel
theorem d_Interp_advance_22 : decode b_Interp_advance 22 = .ok (.aaload, 1) := by decide +kernel
theorem d_Interp_advance_23 : decode b_Interp_advance 23 = .ok (.invokevirtual 76, 3) := by decide +kernel
theorem d_Interp_advance_26 : decode b_Interp_advance 26 = .ok (.istore 4, 2) := by decide +kernel
theorem d_Interp_advance_28 : decode b_Interp_advance 28 = .ok (.aload_n 2, 1) := by decide +kernel
theorem d_Interp_advance_29 : decode b_Interp_advance 29 = .ok (.getfield 79, 3) := by decide +kernel
theorem d_Interp_advance_32 : decode b_Interp_advance 32 = .ok (.iload_n 3, 1) := by decide +kernel
theorem d_Interp_advance_33 : decode b_Interp_advance 33 = .ok (.iaload, 1) := by decide +kernel
theorem d_Interp_advance_34 : decode b_Interp_advance 34 = .ok (.istore 5, 2) := by decide +kernel
theorem d_Interp_advance_36 : decode b_Interp_advance 36 = .ok (.iload 5, 2) := by decide +kernel
theorem d_Interp_advance_38 : decode b_Interp_advance 38 = .ok (.bipush 13, 2) := by decide +kernel
theorem d_Interp_advance_40 : decode b_Interp_advance 40 = .ok (.if_icmp .ne 18, 3) := by decide +kernel
theorem d_Interp_advance_43 : decode b_Interp_advance 43 = .ok (.iload 4, 2) := by decide +kernel
theorem d_Interp_advance_45 : decode b_Interp_advance 45 = .ok (.iconst 1, 1) := by decide +kernel
theorem d_Interp_advance_46 : decode b_Interp_advance 46 = .ok (.if_icmp .ne 12, 3) := by decide +kernel
theorem d_Interp_advance_49 : decode b_Interp_advance 49 = .ok (.aload_n 0, 1) := by decide +kernel
theorem d_Interp_advance_50 : decode b_Interp_advance 50 = .ok (.iload_n 1, 1) := by decide +kernel
theorem d_Interp_advance_51 : decode b_Interp_advance 51 = .ok (.iload_n 3, 1) := by decide +kernel
theorem d_Interp_advance_52 : decode b_Interp_advance 52 = .ok (.invokevirtual 83, 3) := by decide +kernel
theorem d_Interp_advance_55 : decode b_Interp_advance 55 = .ok (.goto 143, 3) := by decide +kernel
theorem d_Interp_advance_58 : decode b_Interp_advance 58 = .ok (.iload 5, 2) := by decide +kernel
theorem d_Interp_advance_60 : decode b_Interp_advance 60 = .ok (.bipush 14, 2) := by decide +kernel
theorem d_Interp_advance_62 : decode b_Interp_advance 62 = .ok (.if_icmp .ne 52, 3) := by decide +kernel
theorem d_Interp_advance_65 : decode b_Interp_advance 65 = .ok (.iload 4, 2) := by decide +kernel
theorem d_Interp_advance_67 : decode b_Interp_advance 67 = .ok (.iconst 1, 1) := by decide +kernel
theorem d_Interp_advance_68 : decode b_Interp_advance 68 = .ok (.if_icmp .ne 46, 3) := by decide +kernel
theorem d_Interp_advance_71 : decode b_Interp_advance 71 = .ok (.aload_n 0, 1) := by decide +kernel
theorem d_Interp_advance_72 : decode b_Interp_advance 72 = .ok (.getfield 19, 3) := by decide +kernel
theorem d_Interp_advance_75 : decode b_Interp_advance 75 = .ok (.iload_n 1, 1) := by decide +kernel
theorem d_Interp_advance_76 : decode b_Interp_advance 76 = .ok (.aaload, 1) := by decide +kernel
theorem d_Interp_advance_77 : decode b_Interp_advance 77 = .ok (.getfield 87, 3) := by decide +kernel
theorem d_Interp_advance_80 : decode b_Interp_advance 80 = .ok (.aload_n 2, 1) := by decide +kernel
theorem d_Interp_advance_81 : decode b_Interp_advance 81 = .ok (.getfield 90, 3) := by decide +kernel
theorem d_Interp_advance_84 : decode b_Interp_advance 84 = .ok (.iload_n 3, 1) := by decide +kernel
theorem d_Interp_advance_85 : decode b_Interp_advance 85 = .ok (.iaload, 1) := by decide +kernel
theorem d_Interp_advance_86 : decode b_Interp_advance 86 = .ok (.aload_n 0, 1) := by decide +kernel
theorem d_Interp_advance_87 : decode b_Interp_advance 87 = .ok (.getfield 19, 3) := by decide +kernel
theorem d_Interp_advance_90 : decode b_Interp_advance 90 = .ok (.iload_n 1, 1) := by decide +kernel
theorem d_Interp_advance_91 : decode b_Interp_advance 91 = .ok (.aaload, 1) := by decide +kernel
theorem d_Interp_advance_92 : decode b_Interp_advance 92 = .ok (.invokevirtual 69, 3) := by decide +kernel
theorem d_Interp_advance_95 : decode b_Interp_advance 95 = .ok (.iastore, 1) := by decide +kernel
theorem d_Interp_advance_96 : decode b_Interp_advance 96 = .ok (.aload_n 0, 1) := by decide +kernel
theorem d_Interp_advance_97 : decode b_Interp_advance 97 = .ok (.getfield 25, 3) := by decide +kernel
theorem d_Interp_advance_100 : decode b_Interp_advance 100 = .ok (.iload_n 1, 1) := by decide +kernel
theorem d_Interp_advance_101 : decode b_Interp_advance 101 = .ok (.aaload, 1) := by decide +kernel
theorem d_Interp_advance_102 : decode b_Interp_advance 102 = .ok (.aload_n 2, 1) := by decide +kernel
theorem d_Interp_advance_103 : decode b_Interp_advance 103 = .ok (.iload_n 3, 1) := by decide +kernel
theorem d_Interp_advance_104 : decode b_Interp_advance 104 = .ok (.iconst 1, 1) := by decide +kernel
theorem d_Interp_advance_105 : decode b_Interp_advance 105 = .ok (.invokevirtual 93, 3) := by decide +kernel
theorem d_Interp_advance_108 : decode b_Interp_advance 108 = .ok (.invokevirtual 97, 3) := by decide +kernel
theorem d_Interp_advance_111 : decode b_Interp_advance 111 = .ok (.goto 87, 3) := by decide +kernel
theorem d_Interp_advance_114 : decode b_Interp_advance 114 = .ok (.iload 5, 2) := by decide +kernel
theorem d_Interp_advance_116 : decode b_Interp_advance 116 = .ok (.bipush 16, 2) := by decide +kernel
theorem d_Interp_advance_118 : decode b_Interp_advance 118 = .ok (.if_icmp .ne 28, 3) := by decide +kernel
theorem d_Interp_advance_121 : decode b_Interp_advance 121 = .ok (.iload 4, 2) := by decide +kernel
theorem d_Interp_advance_123 : decode b_Interp_advance 123 = .ok (.ifCond .le 23, 3) := by decide +kernel
theorem d_Interp_advance_126 : decode b_Interp_advance 126 = .ok (.aload_n 0, 1) := by decide +kernel
theorem d_Interp_advance_127 : decode b_Interp_advance 127 = .ok (.iload_n 1, 1) := by decide +kernel
theorem d_Interp_advance_128 : decode b_Interp_advance 128 = .ok (.iload_n 3, 1) := by decide +kernel
theorem d_Interp_advance_129 : decode b_Interp_advance 129 = .ok (.iload 4, 2) := by decide +kernel
theorem d_Interp_advance_131 : decode b_Interp_advance 131 = .ok (.iconst 1, 1) := by decide +kernel
theorem d_Interp_advance_132 : decode b_Interp_advance 132 = .ok (.if_icmp .ne 7, 3) := by decide +kernel
theorem d_Interp_advance_135 : decode b_Interp_advance 135 = .ok (.iconst 1, 1) := by decide +kernel
theorem d_Interp_advance_136 : decode b_Interp_advance 136 = .ok (.goto 4, 3) := by decide +kernel
theorem d_Interp_advance_139 : decode b_Interp_advance 139 = .ok (.iconst 0, 1) := by decide +kernel
theorem d_Interp_advance_140 : decode b_Interp_advance 140 = .ok (.invokevirtual 100, 3) := by decide +kernel
theorem d_Interp_advance_143 : decode b_Interp_advance 143 = .ok (.goto 55, 3) := by decide +kernel
theorem d_Interp_advance_146 : decode b_Interp_advance 146 = .ok (.iload 4, 2) := by decide +kernel
theorem d_Interp_advance_148 : decode b_Interp_advance 148 = .ok (.getstatic 104, 3) := by decide +kernel
theorem d_Interp_advance_151 : decode b_Interp_advance 151 = .ok (.iload 5, 2) := by decide +kernel
theorem d_Interp_advance_153 : decode b_Interp_advance 153 = .ok (.iaload, 1) := by decide +kernel
theorem d_Interp_advance_154 : decode b_Interp_advance 154 = .ok (.if_icmp .ge 22, 3) := by decide +kernel
theorem d_Interp_advance_157 : decode b_Interp_advance 157 = .ok (.aload_n 0, 1) := by decide +kernel
theorem d_Interp_advance_158 : decode b_Interp_advance 158 = .ok (.getfield 25, 3) := by decide +kernel
theorem d_Interp_advance_161 : decode b_Interp_advance 161 = .ok (.iload_n 1, 1) := by decide +kernel
theorem d_Interp_advance_162 : decode b_Interp_advance 162 = .ok (.aaload, 1) := by decide +kernel
theorem d_Interp_advance_163 : decode b_Interp_advance 163 = .ok (.aload_n 2, 1) := by decide +kernel
theorem d_Interp_advance_164 : decode b_Interp_advance 164 = .ok (.iload_n 3, 1) := by decide +kernel
theorem d_Interp_advance_165 : decode b_Interp_advance 165 = .ok (.iload 4, 2) := by decide +kernel
theorem d_Interp_advance_167 : decode b_Interp_advance 167 = .ok (.invokevirtual 93, 3) := by decide +kernel
theorem d_Interp_advance_170 : decode b_Interp_advance 170 = .ok (.invokevirtual 107, 3) := by decide +kernel
theorem d_Interp_advance_173 : decode b_Interp_advance 173 = .ok (.goto 25, 3) := by decide +kernel
theorem d_Interp_advance_176 : decode b_Interp_advance 176 = .ok (.aload_n 0, 1) := by decide +kernel
theorem d_Interp_advance_177 : decode b_Interp_advance 177 = .ok (.getfield 25, 3) := by decide +kernel
theorem d_Interp_advance_180 : decode b_Interp_advance 180 = .ok (.iload_n 1, 1) := by decide +kernel
theorem d_Interp_advance_181 : decode b_Interp_advance 181 = .ok (.aaload, 1) := by decide +kernel
theorem d_Interp_advance_182 : decode b_Interp_advance 182 = .ok (.invokevirtual 110, 3) := by decide +kernel
theorem d_Interp_advance_185 : decode b_Interp_advance 185 = .ok (.aload_n 0, 1) := by decide +kernel
theorem d_Interp_advance_186 : decode b_Interp_advance 186 = .ok (.iload_n 1, 1) := by decide +kernel
theorem d_Interp_advance_187 : decode b_Interp_advance 187 = .ok (.iload 5, 2) := by decide +kernel
theorem d_Interp_advance_189 : decode b_Interp_advance 189 = .ok (.aload_n 2, 1) := by decide +kernel
theorem d_Interp_advance_190 : decode b_Interp_advance 190 = .ok (.getfield 90, 3) := by decide +kernel
theorem d_Interp_advance_193 : decode b_Interp_advance 193 = .ok (.iload_n 3, 1) := by decide +kernel
theorem d_Interp_advance_194 : decode b_Interp_advance 194 = .ok (.iaload, 1) := by decide +kernel
theorem d_Interp_advance_195 : decode b_Interp_advance 195 = .ok (.invokevirtual 113, 3) := by decide +kernel
theorem d_Interp_advance_198 : decode b_Interp_advance 198 = .ok (.return_, 1) := by decide +kernel
abbrev b_Interp_choose : ByteArray := prog_10_method_6_code
abbrev J_Interp_choose : MethodName × ByteArray × Nat × Option FieldType := (⟨"FaslDesk$Interpreter", "choose", "(II)V"⟩, b_Interp_choose, 4, none)
theorem d_Interp_choose_0 : decode b_Interp_choose 0 = .ok (.aload_n 0, 1) := by decide +kernel
theorem d_Interp_choose_1 : decode b_Interp_choose 1 = .ok (.getfield 11, 3) := by decide +kernel
theorem d_Interp_choose_4 : decode b_Interp_choose 4 = .ok (.iload_n 1, 1) := by decide +kernel
theorem d_Interp_choose_5 : decode b_Interp_choose 5 = .ok (.aaload, 1) := by decide +kernel
theorem d_Interp_choose_6 : decode b_Interp_choose 6 = .ok (.getfield 90, 3) := by decide +kernel
theorem d_Interp_choose_9 : decode b_Interp_choose 9 = .ok (.iload_n 2, 1) := by decide +kernel
theorem d_Interp_choose_10 : decode b_Interp_choose 10 = .ok (.iaload, 1) := by decide +kernel
theorem d_Interp_choose_11 : decode b_Interp_choose 11 = .ok (.aload_n 0, 1) := by decide +kernel
theorem d_Interp_choose_12 : decode b_Interp_choose 12 = .ok (.getfield 19, 3) := by decide +kernel
theorem d_Interp_choose_15 : decode b_Interp_choose 15 = .ok (.iload_n 1, 1) := by decide +kernel
theorem d_Interp_choose_16 : decode b_Interp_choose 16 = .ok (.aaload, 1) := by decide +kernel
theorem d_Interp_choose_17 : decode b_Interp_choose 17 = .ok (.invokevirtual 69, 3) := by decide +kernel
theorem d_Interp_choose_20 : decode b_Interp_choose 20 = .ok (.invokestatic 117, 3) := by decide +kernel
theorem d_Interp_choose_23 : decode b_Interp_choose 23 = .ok (.istore_n 3, 1) := by decide +kernel
theorem d_Interp_choose_24 : decode b_Interp_choose 24 = .ok (.aload_n 0, 1) := by decide +kernel
theorem d_Interp_choose_25 : decode b_Interp_choose 25 = .ok (.getfield 25, 3) := by decide +kernel
theorem d_Interp_choose_28 : decode b_Interp_choose 28 = .ok (.iload_n 1, 1) := by decide +kernel
theorem d_Interp_choose_29 : decode b_Interp_choose 29 = .ok (.aaload, 1) := by decide +kernel
theorem d_Interp_choose_30 : decode b_Interp_choose 30 = .ok (.aload_n 0, 1) := by decide +kernel
theorem d_Interp_choose_31 : decode b_Interp_choose 31 = .ok (.getfield 11, 3) := by decide +kernel
theorem d_Interp_choose_34 : decode b_Interp_choose 34 = .ok (.iload_n 1, 1) := by decide +kernel
theorem d_Interp_choose_35 : decode b_Interp_choose 35 = .ok (.aaload, 1) := by decide +kernel
theorem d_Interp_choose_36 : decode b_Interp_choose 36 = .ok (.iload_n 2, 1) := by decide +kernel
theorem d_Interp_choose_37 : decode b_Interp_choose 37 = .ok (.iload_n 3, 1) := by decide +kernel
theorem d_Interp_choose_38 : decode b_Interp_choose 38 = .ok (.ifCond .eq 7, 3) := by decide +kernel
theorem d_Interp_choose_41 : decode b_Interp_choose 41 = .ok (.iconst 1, 1) := by decide +kernel
theorem d_Interp_choose_42 : decode b_Interp_choose 42 = .ok (.goto 4, 3) := by decide +kernel
theorem d_Interp_choose_45 : decode b_Interp_choose 45 = .ok (.iconst 2, 1) := by decide +kernel
theorem d_Interp_choose_46 : decode b_Interp_choose 46 = .ok (.invokevirtual 93, 3) := by decide +kernel
theorem d_Interp_choose_49 : decode b_Interp_choose 49 = .ok (.invokevirtual 97, 3) := by decide +kernel
theorem d_Interp_choose_52 : decode b_Interp_choose 52 = .ok (.return_, 1) := by decide +kernel
abbrev b_Interp_goRound : ByteArray := prog_10_method_7_code
abbrev J_Interp_goRound : MethodName × ByteArray × Nat × Option FieldType := (⟨"FaslDesk$Interpreter", "goRound", "(IIZ)V"⟩, b_Interp_goRound, 7, none)
theorem d_Interp_goRound_0 : decode b_Interp_goRound 0 = .ok (.aload_n 0, 1) := by decide +kernel
theorem d_Interp_goRound_1 : decode b_Interp_goRound 1 = .ok (.getfield 19, 3) := by decide +kernel
theorem d_Interp_goRound_4 : decode b_Interp_goRound 4 = .ok (.iload_n 1, 1) := by decide +kernel
theorem d_Interp_goRound_5 : decode b_Interp_goRound 5 = .ok (.aaload, 1) := by decide +kernel
theorem d_Interp_goRound_6 : decode b_Interp_goRound 6 = .ok (.getfield 87, 3) := by decide +kernel
theorem d_Interp_goRound_9 : decode b_Interp_goRound 9 = .ok (.astore 4, 2) := by decide +kernel
theorem d_Interp_goRound_11 : decode b_Interp_goRound 11 = .ok (.aload_n 0, 1) := by decide +kernel
theorem d_Interp_goRound_12 : decode b_Interp_goRound 12 = .ok (.getfield 11, 3) := by decide +kernel
theorem d_Interp_goRound_15 : decode b_Interp_goRound 15 = .ok (.iload_n 1, 1) := by decide +kernel
theorem d_Interp_goRound_16 : decode b_Interp_goRound 16 = .ok (.aaload, 1) := by decide +kernel
theorem d_Interp_goRound_17 : decode b_Interp_goRound 17 = .ok (.getfield 90, 3) := by decide +kernel
theorem d_Interp_goRound_20 : decode b_Interp_goRound 20 = .ok (.iload_n 2, 1) := by decide +kernel
theorem d_Interp_goRound_21 : decode b_Interp_goRound 21 = .ok (.iaload, 1) := by decide +kernel
theorem d_Interp_goRound_22 : decode b_Interp_goRound 22 = .ok (.istore 5, 2) := by decide +kernel
theorem d_Interp_goRound_24 : decode b_Interp_goRound 24 = .ok (.aload_n 0, 1) := by decide +kernel
theorem d_Interp_goRound_25 : decode b_Interp_goRound 25 = .ok (.getfield 19, 3) := by decide +kernel
theorem d_Interp_goRound_28 : decode b_Interp_goRound 28 = .ok (.iload_n 1, 1) := by decide +kernel
theorem d_Interp_goRound_29 : decode b_Interp_goRound 29 = .ok (.aaload, 1) := by decide +kernel
theorem d_Interp_goRound_30 : decode b_Interp_goRound 30 = .ok (.invokevirtual 69, 3) := by decide +kernel
theorem d_Interp_goRound_33 : decode b_Interp_goRound 33 = .ok (.istore 6, 2) := by decide +kernel
theorem d_Interp_goRound_35 : decode b_Interp_goRound 35 = .ok (.aload 4, 2) := by decide +kernel
theorem d_Interp_goRound_37 : decode b_Interp_goRound 37 = .ok (.iload 5, 2) := by decide +kernel
theorem d_Interp_goRound_39 : decode b_Interp_goRound 39 = .ok (.iload_n 3, 1) := by decide +kernel
theorem d_Interp_goRound_40 : decode b_Interp_goRound 40 = .ok (.ifCond .eq 11, 3) := by decide +kernel
theorem d_Interp_goRound_43 : decode b_Interp_goRound 43 = .ok (.iload 6, 2) := by decide +kernel
theorem d_Interp_goRound_45 : decode b_Interp_goRound 45 = .ok (.bipush 7, 2) := by decide +kernel
theorem d_Interp_goRound_47 : decode b_Interp_goRound 47 = .ok (.iand, 1) := by decide +kernel
theorem d_Interp_goRound_48 : decode b_Interp_goRound 48 = .ok (.goto 10, 3) := by decide +kernel
theorem d_Interp_goRound_51 : decode b_Interp_goRound 51 = .ok (.aload 4, 2) := by decide +kernel
theorem d_Interp_goRound_53 : decode b_Interp_goRound 53 = .ok (.iload 5, 2) := by decide +kernel
theorem d_Interp_goRound_55 : decode b_Interp_goRound 55 = .ok (.iaload, 1) := by decide +kernel
theorem d_Interp_goRound_56 : decode b_Interp_goRound 56 = .ok (.iconst 1, 1) := by decide +kernel
theorem d_Interp_goRound_57 : decode b_Interp_goRound 57 = .ok (.isub, 1) := by decide +kernel
theorem d_Interp_goRound_58 : decode b_Interp_goRound 58 = .ok (.iastore, 1) := by decide +kernel
theorem d_Interp_goRound_59 : decode b_Interp_goRound 59 = .ok (.aload 4, 2) := by decide +kernel
theorem d_Interp_goRound_61 : decode b_Interp_goRound 61 = .ok (.iload 5, 2) := by decide +kernel
theorem d_Interp_goRound_63 : decode b_Interp_goRound 63 = .ok (.iaload, 1) := by decide +kernel
theorem d_Interp_goRound_64 : decode b_Interp_goRound 64 = .ok (.ifCond .eq 26, 3) := by decide +kernel
theorem d_Interp_goRound_67 : decode b_Interp_goRound 67 = .ok (.aload_n 0, 1) := by decide +kernel
theorem d_Interp_goRound_68 : decode b_Interp_goRound 68 = .ok (.getfield 25, 3) := by decide +kernel
theorem d_Interp_goRound_71 : decode b_Interp_goRound 71 = .ok (.iload_n 1, 1) := by decide +kernel
theorem d_Interp_goRound_72 : decode b_Interp_goRound 72 = .ok (.aaload, 1) := by decide +kernel
theorem d_Interp_goRound_73 : decode b_Interp_goRound 73 = .ok (.aload_n 0, 1) := by decide +kernel
theorem d_Interp_goRound_74 : decode b_Interp_goRound 74 = .ok (.getfield 11, 3) := by decide +kernel
theorem d_Interp_goRound_77 : decode b_Interp_goRound 77 = .ok (.iload_n 1, 1) := by decide +kernel
theorem d_Interp_goRound_78 : decode b_Interp_goRound 78 = .ok (.aaload, 1) := by decide +kernel
theorem d_Interp_goRound_79 : decode b_Interp_goRound 79 = .ok (.iload_n 2, 1) := by decide +kernel
theorem d_Interp_goRound_80 : decode b_Interp_goRound 80 = .ok (.iconst 1, 1) := by decide +kernel
theorem d_Interp_goRound_81 : decode b_Interp_goRound 81 = .ok (.invokevirtual 93, 3) := by decide +kernel
theorem d_Interp_goRound_84 : decode b_Interp_goRound 84 = .ok (.invokevirtual 107, 3) := by decide +kernel
theorem d_Interp_goRound_87 : decode b_Interp_goRound 87 = .ok (.goto 22, 3) := by decide +kernel
theorem d_Interp_goRound_90 : decode b_Interp_goRound 90 = .ok (.aload_n 0, 1) := by decide +kernel
theorem d_Interp_goRound_91 : decode b_Interp_goRound 91 = .ok (.getfield 25, 3) := by decide +kernel
theorem d_Interp_goRound_94 : decode b_Interp_goRound 94 = .ok (.iload_n 1, 1) := by decide +kernel
theorem d_Interp_goRound_95 : decode b_Interp_goRound 95 = .ok (.aaload, 1) := by decide +kernel
theorem d_Interp_goRound_96 : decode b_Interp_goRound 96 = .ok (.invokevirtual 110, 3) := by decide +kernel
theorem d_Interp_goRound_99 : decode b_Interp_goRound 99 = .ok (.aload_n 0, 1) := by decide +kernel
theorem d_Interp_goRound_100 : decode b_Interp_goRound 100 = .ok (.getfield 19, 3) := by decide +kernel
theorem d_Interp_goRound_103 : decode b_Interp_goRound 103 = .ok (.iload_n 1, 1) := by decide +kernel
theorem d_Interp_goRound_104 : decode b_Interp_goRound 104 = .ok (.aaload, 1) := by decide +kernel
theorem d_Interp_goRound_105 : decode b_Interp_goRound 105 = .ok (.iconst 0, 1) := by decide +kernel
theorem d_Interp_goRound_106 : decode b_Interp_goRound 106 = .ok (.invokevirtual 123, 3) := by decide +kernel
theorem d_Interp_goRound_109 : decode b_Interp_goRound 109 = .ok (.return_, 1) := by decide +kernel
end
section
/-! more decode rows -/
abbrev b_Interp_finish : ByteArray := prog_10_method_8_code
abbrev J_Interp_finish : MethodName × ByteArray × Nat × Option FieldType := (⟨"FaslDesk$Interpreter", "finish", "(III)V"⟩, b_Interp_finish, 6, none)
theorem d_Interp_finish_0 : decode b_Interp_finish 0 = .ok (.aload_n 0, 1) := by decide +kernel
theorem d_Interp_finish_1 : decode b_Interp_finish 1 = .ok (.getfield 19, 3) := by decide +kernel
theorem d_Interp_finish_4 : decode b_Interp_finish 4 = .ok (.iload_n 1, 1) := by decide +kernel
theorem d_Interp_finish_5 : decode b_Interp_finish 5 = .ok (.aaload, 1) := by decide +kernel
theorem d_Interp_finish_6 : decode b_Interp_finish 6 = .ok (.astore 4, 2) := by decide +kernel
theorem d_Interp_finish_8 : decode b_Interp_finish 8 = .ok (.iload_n 2, 1) := by decide +kernel
theorem d_Interp_finish_9 : decode b_Interp_finish 9 = .ok (.lookupswitch 118 #[(0, 51), (1, 60), (12, 75), (15, 89), (17, 104)], 51) := by decide +kernel
theorem d_Interp_finish_60 : decode b_Interp_finish 60 = .ok (.aload 4, 2) := by decide +kernel
theorem d_Interp_finish_62 : decode b_Interp_finish 62 = .ok (.iload_n 3, 1) := by decide +kernel
theorem d_Interp_finish_63 : decode b_Interp_finish 63 = .ok (.invokevirtual 123, 3) := by decide +kernel
theorem d_Interp_finish_66 : decode b_Interp_finish 66 = .ok (.goto 84, 3) := by decide +kernel
theorem d_Interp_finish_69 : decode b_Interp_finish 69 = .ok (.aload 4, 2) := by decide +kernel
theorem d_Interp_finish_71 : decode b_Interp_finish 71 = .ok (.aload 4, 2) := by decide +kernel
theorem d_Interp_finish_73 : decode b_Interp_finish 73 = .ok (.getfield 87, 3) := by decide +kernel
theorem d_Interp_finish_76 : decode b_Interp_finish 76 = .ok (.iload_n 3, 1) := by decide +kernel
theorem d_Interp_finish_77 : decode b_Interp_finish 77 = .ok (.iaload, 1) := by decide +kernel
theorem d_Interp_finish_78 : decode b_Interp_finish 78 = .ok (.invokevirtual 123, 3) := by decide +kernel
theorem d_Interp_finish_81 : decode b_Interp_finish 81 = .ok (.goto 69, 3) := by decide +kernel
theorem d_Interp_finish_84 : decode b_Interp_finish 84 = .ok (.aload 4, 2) := by decide +kernel
theorem d_Interp_finish_86 : decode b_Interp_finish 86 = .ok (.aload 4, 2) := by decide +kernel
theorem d_Interp_finish_88 : decode b_Interp_finish 88 = .ok (.invokevirtual 69, 3) := by decide +kernel
theorem d_Interp_finish_91 : decode b_Interp_finish 91 = .ok (.ineg, 1) := by decide +kernel
theorem d_Interp_finish_92 : decode b_Interp_finish 92 = .ok (.invokevirtual 123, 3) := by decide +kernel
theorem d_Interp_finish_95 : decode b_Interp_finish 95 = .ok (.goto 55, 3) := by decide +kernel
theorem d_Interp_finish_98 : decode b_Interp_finish 98 = .ok (.aload 4, 2) := by decide +kernel
theorem d_Interp_finish_100 : decode b_Interp_finish 100 = .ok (.getfield 87, 3) := by decide +kernel
theorem d_Interp_finish_103 : decode b_Interp_finish 103 = .ok (.iload_n 3, 1) := by decide +kernel
theorem d_Interp_finish_104 : decode b_Interp_finish 104 = .ok (.aload 4, 2) := by decide +kernel
theorem d_Interp_finish_106 : decode b_Interp_finish 106 = .ok (.invokevirtual 126, 3) := by decide +kernel
theorem d_Interp_finish_109 : decode b_Interp_finish 109 = .ok (.iastore, 1) := by decide +kernel
theorem d_Interp_finish_110 : decode b_Interp_finish 110 = .ok (.goto 40, 3) := by decide +kernel
theorem d_Interp_finish_113 : decode b_Interp_finish 113 = .ok (.aload 4, 2) := by decide +kernel
theorem d_Interp_finish_115 : decode b_Interp_finish 115 = .ok (.aload_n 0, 1) := by decide +kernel
theorem d_Interp_finish_116 : decode b_Interp_finish 116 = .ok (.iload_n 1, 1) := by decide +kernel
theorem d_Interp_finish_117 : decode b_Interp_finish 117 = .ok (.iload_n 3, 1) := by decide +kernel
theorem d_Interp_finish_118 : decode b_Interp_finish 118 = .ok (.invokevirtual 129, 3) := by decide +kernel
theorem d_Interp_finish_121 : decode b_Interp_finish 121 = .ok (.invokevirtual 123, 3) := by decide +kernel
theorem d_Interp_finish_124 : decode b_Interp_finish 124 = .ok (.goto 26, 3) := by decide +kernel
theorem d_Interp_finish_127 : decode b_Interp_finish 127 = .ok (.aload 4, 2) := by decide +kernel
theorem d_Interp_finish_129 : decode b_Interp_finish 129 = .ok (.invokevirtual 69, 3) := by decide +kernel
theorem d_Interp_finish_132 : decode b_Interp_finish 132 = .ok (.istore 5, 2) := by decide +kernel
theorem d_Interp_finish_134 : decode b_Interp_finish 134 = .ok (.aload 4, 2) := by decide +kernel
theorem d_Interp_finish_136 : decode b_Interp_finish 136 = .ok (.iload_n 2, 1) := by decide +kernel
theorem d_Interp_finish_137 : decode b_Interp_finish 137 = .ok (.aload 4, 2) := by decide +kernel
theorem d_Interp_finish_139 : decode b_Interp_finish 139 = .ok (.invokevirtual 69, 3) := by decide +kernel
theorem d_Interp_finish_142 : decode b_Interp_finish 142 = .ok (.iload 5, 2) := by decide +kernel
theorem d_Interp_finish_144 : decode b_Interp_finish 144 = .ok (.invokestatic 132, 3) := by decide +kernel
theorem d_Interp_finish_147 : decode b_Interp_finish 147 = .ok (.invokevirtual 123, 3) := by decide +kernel
theorem d_Interp_finish_150 : decode b_Interp_finish 150 = .ok (.return_, 1) := by decide +kernel
abbrev b_Interp_answerOfLower : ByteArray := prog_10_method_9_code
abbrev J_Interp_answerOfLower : MethodName × ByteArray × Nat × Option FieldType := (⟨"FaslDesk$Interpreter", "answerOfLower", "(II)I"⟩, b_Interp_answerOfLower, 7, (some .int))
theorem d_Interp_answerOfLower_0 : decode b_Interp_answerOfLower 0 = .ok (.aload_n 0, 1) := by decide +kernel
theorem d_Interp_answerOfLower_1 : decode b_Interp_answerOfLower 1 = .ok (.getfield 19, 3) := by decide +kernel
theorem d_Interp_answerOfLower_4 : decode b_Interp_answerOfLower 4 = .ok (.iload_n 1, 1) := by decide +kernel
theorem d_Interp_answerOfLower_5 : decode b_Interp_answerOfLower 5 = .ok (.aaload, 1) := by decide +kernel
theorem d_Interp_answerOfLower_6 : decode b_Interp_answerOfLower 6 = .ok (.astore_n 3, 1) := by decide +kernel
theorem d_Interp_answerOfLower_7 : decode b_Interp_answerOfLower 7 = .ok (.aload_n 3, 1) := by decide +kernel
theorem d_Interp_answerOfLower_8 : decode b_Interp_answerOfLower 8 = .ok (.invokevirtual 69, 3) := by decide +kernel
theorem d_Interp_answerOfLower_11 : decode b_Interp_answerOfLower 11 = .ok (.istore 4, 2) := by decide +kernel
theorem d_Interp_answerOfLower_13 : decode b_Interp_answerOfLower 13 = .ok (.aload_n 3, 1) := by decide +kernel
theorem d_Interp_answerOfLower_14 : decode b_Interp_answerOfLower 14 = .ok (.invokevirtual 69, 3) := by decide +kernel
theorem d_Interp_answerOfLower_17 : decode b_Interp_answerOfLower 17 = .ok (.istore 5, 2) := by decide +kernel
theorem d_Interp_answerOfLower_19 : decode b_Interp_answerOfLower 19 = .ok (.aload_n 3, 1) := by decide +kernel
theorem d_Interp_answerOfLower_20 : decode b_Interp_answerOfLower 20 = .ok (.invokevirtual 69, 3) := by decide +kernel
theorem d_Interp_answerOfLower_23 : decode b_Interp_answerOfLower 23 = .ok (.istore 6, 2) := by decide +kernel
theorem d_Interp_answerOfLower_25 : decode b_Interp_answerOfLower 25 = .ok (.aload_n 0, 1) := by decide +kernel
theorem d_Interp_answerOfLower_26 : decode b_Interp_answerOfLower 26 = .ok (.iload_n 2, 1) := by decide +kernel
theorem d_Interp_answerOfLower_27 : decode b_Interp_answerOfLower 27 = .ok (.iload_n 1, 1) := by decide +kernel
theorem d_Interp_answerOfLower_28 : decode b_Interp_answerOfLower 28 = .ok (.if_icmp .ge 7, 3) := by decide +kernel
theorem d_Interp_answerOfLower_31 : decode b_Interp_answerOfLower 31 = .ok (.iload_n 2, 1) := by decide +kernel
theorem d_Interp_answerOfLower_32 : decode b_Interp_answerOfLower 32 = .ok (.goto 4, 3) := by decide +kernel
theorem d_Interp_answerOfLower_35 : decode b_Interp_answerOfLower 35 = .ok (.iconst (-1), 1) := by decide +kernel
theorem d_Interp_answerOfLower_36 : decode b_Interp_answerOfLower 36 = .ok (.iload 6, 2) := by decide +kernel
theorem d_Interp_answerOfLower_38 : decode b_Interp_answerOfLower 38 = .ok (.iload 5, 2) := by decide +kernel
theorem d_Interp_answerOfLower_40 : decode b_Interp_answerOfLower 40 = .ok (.iload 4, 2) := by decide +kernel
theorem d_Interp_answerOfLower_42 : decode b_Interp_answerOfLower 42 = .ok (.invokevirtual 136, 3) := by decide +kernel
theorem d_Interp_answerOfLower_45 : decode b_Interp_answerOfLower 45 = .ok (.ireturn, 1) := by decide +kernel
abbrev b_Ints_reckon : ByteArray := prog_11_method_2_code
abbrev J_Ints_reckon : MethodName × ByteArray × Nat × Option FieldType := (⟨"FaslDesk$Ints", "reckon", "(III)I"⟩, b_Ints_reckon, 3, (some .int))
theorem d_Ints_reckon_0 : decode b_Ints_reckon 0 = .ok (.iload_n 0, 1) := by decide +kernel
theorem d_Ints_reckon_1 : decode b_Ints_reckon 1 = .ok (.tableswitch 96 2 10 #[51, 55, 59, 63, 70, 77, 81, 85, 89], 51) := by decide +kernel
theorem d_Ints_reckon_52 : decode b_Ints_reckon 52 = .ok (.iload_n 1, 1) := by decide +kernel
theorem d_Ints_reckon_53 : decode b_Ints_reckon 53 = .ok (.iload_n 2, 1) := by decide +kernel
theorem d_Ints_reckon_54 : decode b_Ints_reckon 54 = .ok (.iadd, 1) := by decide +kernel
theorem d_Ints_reckon_55 : decode b_Ints_reckon 55 = .ok (.ireturn, 1) := by decide +kernel
theorem d_Ints_reckon_56 : decode b_Ints_reckon 56 = .ok (.iload_n 1, 1) := by decide +kernel
theorem d_Ints_reckon_57 : decode b_Ints_reckon 57 = .ok (.iload_n 2, 1) := by decide +kernel
theorem d_Ints_reckon_58 : decode b_Ints_reckon 58 = .ok (.isub, 1) := by decide +kernel
theorem d_Ints_reckon_59 : decode b_Ints_reckon 59 = .ok (.ireturn, 1) := by decide +kernel
theorem d_Ints_reckon_60 : decode b_Ints_reckon 60 = .ok (.iload_n 1, 1) := by decide +kernel
theorem d_Ints_reckon_61 : decode b_Ints_reckon 61 = .ok (.iload_n 2, 1) := by decide +kernel
theorem d_Ints_reckon_62 : decode b_Ints_reckon 62 = .ok (.imul, 1) := by decide +kernel
theorem d_Ints_reckon_63 : decode b_Ints_reckon 63 = .ok (.ireturn, 1) := by decide +kernel
theorem d_Ints_reckon_64 : decode b_Ints_reckon 64 = .ok (.iload_n 1, 1) := by decide +kernel
theorem d_Ints_reckon_65 : decode b_Ints_reckon 65 = .ok (.iload_n 2, 1) := by decide +kernel
theorem d_Ints_reckon_66 : decode b_Ints_reckon 66 = .ok (.invokestatic 7, 3) := by decide +kernel
theorem d_Ints_reckon_69 : decode b_Ints_reckon 69 = .ok (.idiv, 1) := by decide +kernel
theorem d_Ints_reckon_70 : decode b_Ints_reckon 70 = .ok (.ireturn, 1) := by decide +kernel
theorem d_Ints_reckon_71 : decode b_Ints_reckon 71 = .ok (.iload_n 1, 1) := by decide +kernel
theorem d_Ints_reckon_72 : decode b_Ints_reckon 72 = .ok (.iload_n 2, 1) := by decide +kernel
theorem d_Ints_reckon_73 : decode b_Ints_reckon 73 = .ok (.invokestatic 7, 3) := by decide +kernel
theorem d_Ints_reckon_76 : decode b_Ints_reckon 76 = .ok (.irem, 1) := by decide +kernel
theorem d_Ints_reckon_77 : decode b_Ints_reckon 77 = .ok (.ireturn, 1) := by decide +kernel
theorem d_Ints_reckon_78 : decode b_Ints_reckon 78 = .ok (.iload_n 1, 1) := by decide +kernel
theorem d_Ints_reckon_79 : decode b_Ints_reckon 79 = .ok (.iload_n 2, 1) := by decide +kernel
theorem d_Ints_reckon_80 : decode b_Ints_reckon 80 = .ok (.iand, 1) := by decide +kernel
theorem d_Ints_reckon_81 : decode b_Ints_reckon 81 = .ok (.ireturn, 1) := by decide +kernel
theorem d_Ints_reckon_82 : decode b_Ints_reckon 82 = .ok (.iload_n 1, 1) := by decide +kernel
theorem d_Ints_reckon_83 : decode b_Ints_reckon 83 = .ok (.iload_n 2, 1) := by decide +kernel
theorem d_Ints_reckon_84 : decode b_Ints_reckon 84 = .ok (.ior, 1) := by decide +kernel
theorem d_Ints_reckon_85 : decode b_Ints_reckon 85 = .ok (.ireturn, 1) := by decide +kernel
theorem d_Ints_reckon_86 : decode b_Ints_reckon 86 = .ok (.iload_n 1, 1) := by decide +kernel
theorem d_Ints_reckon_87 : decode b_Ints_reckon 87 = .ok (.iload_n 2, 1) := by decide +kernel
theorem d_Ints_reckon_88 : decode b_Ints_reckon 88 = .ok (.ixor, 1) := by decide +kernel
theorem d_Ints_reckon_89 : decode b_Ints_reckon 89 = .ok (.ireturn, 1) := by decide +kernel
theorem d_Ints_reckon_90 : decode b_Ints_reckon 90 = .ok (.iload_n 1, 1) := by decide +kernel
theorem d_Ints_reckon_91 : decode b_Ints_reckon 91 = .ok (.iload_n 2, 1) := by decide +kernel
theorem d_Ints_reckon_92 : decode b_Ints_reckon 92 = .ok (.bipush 31, 2) := by decide +kernel
theorem d_Ints_reckon_94 : decode b_Ints_reckon 94 = .ok (.iand, 1) := by decide +kernel
theorem d_Ints_reckon_95 : decode b_Ints_reckon 95 = .ok (.ishl, 1) := by decide +kernel
theorem d_Ints_reckon_96 : decode b_Ints_reckon 96 = .ok (.ireturn, 1) := by decide +kernel
theorem d_Ints_reckon_97 : decode b_Ints_reckon 97 = .ok (.iload_n 1, 1) := by decide +kernel
theorem d_Ints_reckon_98 : decode b_Ints_reckon 98 = .ok (.iload_n 2, 1) := by decide +kernel
theorem d_Ints_reckon_99 : decode b_Ints_reckon 99 = .ok (.bipush 31, 2) := by decide +kernel
theorem d_Ints_reckon_101 : decode b_Ints_reckon 101 = .ok (.iand, 1) := by decide +kernel
theorem d_Ints_reckon_102 : decode b_Ints_reckon 102 = .ok (.ishr, 1) := by decide +kernel
theorem d_Ints_reckon_103 : decode b_Ints_reckon 103 = .ok (.ireturn, 1) := by decide +kernel
abbrev b_Ints_isAsSaid : ByteArray := prog_11_method_3_code
abbrev J_Ints_isAsSaid : MethodName × ByteArray × Nat × Option FieldType := (⟨"FaslDesk$Ints", "isAsSaid", "(II)Z"⟩, b_Ints_isAsSaid, 2, (some .boolean))
theorem d_Ints_isAsSaid_0 : decode b_Ints_isAsSaid 0 = .ok (.iload_n 0, 1) := by decide +kernel
theorem d_Ints_isAsSaid_1 : decode b_Ints_isAsSaid 1 = .ok (.tableswitch 85 0 4 #[35, 45, 55, 65, 75], 35) := by decide +kernel
theorem d_Ints_isAsSaid_36 : decode b_Ints_isAsSaid 36 = .ok (.iload_n 1, 1) := by decide +kernel
theorem d_Ints_isAsSaid_37 : decode b_Ints_isAsSaid 37 = .ok (.ifCond .ne 7, 3) := by decide +kernel
theorem d_Ints_isAsSaid_40 : decode b_Ints_isAsSaid 40 = .ok (.iconst 1, 1) := by decide +kernel
theorem d_Ints_isAsSaid_41 : decode b_Ints_isAsSaid 41 = .ok (.goto 4, 3) := by decide +kernel
theorem d_Ints_isAsSaid_44 : decode b_Ints_isAsSaid 44 = .ok (.iconst 0, 1) := by decide +kernel
theorem d_Ints_isAsSaid_45 : decode b_Ints_isAsSaid 45 = .ok (.ireturn, 1) := by decide +kernel
theorem d_Ints_isAsSaid_46 : decode b_Ints_isAsSaid 46 = .ok (.iload_n 1, 1) := by decide +kernel
theorem d_Ints_isAsSaid_47 : decode b_Ints_isAsSaid 47 = .ok (.ifCond .eq 7, 3) := by decide +kernel
theorem d_Ints_isAsSaid_50 : decode b_Ints_isAsSaid 50 = .ok (.iconst 1, 1) := by decide +kernel
theorem d_Ints_isAsSaid_51 : decode b_Ints_isAsSaid 51 = .ok (.goto 4, 3) := by decide +kernel
theorem d_Ints_isAsSaid_54 : decode b_Ints_isAsSaid 54 = .ok (.iconst 0, 1) := by decide +kernel
theorem d_Ints_isAsSaid_55 : decode b_Ints_isAsSaid 55 = .ok (.ireturn, 1) := by decide +kernel
theorem d_Ints_isAsSaid_56 : decode b_Ints_isAsSaid 56 = .ok (.iload_n 1, 1) := by decide +kernel
theorem d_Ints_isAsSaid_57 : decode b_Ints_isAsSaid 57 = .ok (.ifCond .ge 7, 3) := by decide +kernel
theorem d_Ints_isAsSaid_60 : decode b_Ints_isAsSaid 60 = .ok (.iconst 1, 1) := by decide +kernel
theorem d_Ints_isAsSaid_61 : decode b_Ints_isAsSaid 61 = .ok (.goto 4, 3) := by decide +kernel
theorem d_Ints_isAsSaid_64 : decode b_Ints_isAsSaid 64 = .ok (.iconst 0, 1) := by decide +kernel
theorem d_Ints_isAsSaid_65 : decode b_Ints_isAsSaid 65 = .ok (.ireturn, 1) := by decide +kernel
theorem d_Ints_isAsSaid_66 : decode b_Ints_isAsSaid 66 = .ok (.iload_n 1, 1) := by decide +kernel
theorem d_Ints_isAsSaid_67 : decode b_Ints_isAsSaid 67 = .ok (.ifCond .lt 7, 3) := by decide +kernel
theorem d_Ints_isAsSaid_70 : decode b_Ints_isAsSaid 70 = .ok (.iconst 1, 1) := by decide +kernel
theorem d_Ints_isAsSaid_71 : decode b_Ints_isAsSaid 71 = .ok (.goto 4, 3) := by decide +kernel
theorem d_Ints_isAsSaid_74 : decode b_Ints_isAsSaid 74 = .ok (.iconst 0, 1) := by decide +kernel
theorem d_Ints_isAsSaid_75 : decode b_Ints_isAsSaid 75 = .ok (.ireturn, 1) := by decide +kernel
theorem d_Ints_isAsSaid_76 : decode b_Ints_isAsSaid 76 = .ok (.iload_n 1, 1) := by decide +kernel
theorem d_Ints_isAsSaid_77 : decode b_Ints_isAsSaid 77 = .ok (.ifCond .le 7, 3) := by decide +kernel
theorem d_Ints_isAsSaid_80 : decode b_Ints_isAsSaid 80 = .ok (.iconst 1, 1) := by decide +kernel
theorem d_Ints_isAsSaid_81 : decode b_Ints_isAsSaid 81 = .ok (.goto 4, 3) := by decide +kernel
theorem d_Ints_isAsSaid_84 : decode b_Ints_isAsSaid 84 = .ok (.iconst 0, 1) := by decide +kernel
theorem d_Ints_isAsSaid_85 : decode b_Ints_isAsSaid 85 = .ok (.ireturn, 1) := by decide +kernel
theorem d_Ints_isAsSaid_86 : decode b_Ints_isAsSaid 86 = .ok (.iload_n 1, 1) := by decide +kernel
theorem d_Ints_isAsSaid_87 : decode b_Ints_isAsSaid 87 = .ok (.ifCond .gt 7, 3) := by decide +kernel
theorem d_Ints_isAsSaid_90 : decode b_Ints_isAsSaid 90 = .ok (.iconst 1, 1) := by decide +kernel
theorem d_Ints_isAsSaid_91 : decode b_Ints_isAsSaid 91 = .ok (.goto 4, 3) := by decide +kernel
theorem d_Ints_isAsSaid_94 : decode b_Ints_isAsSaid 94 = .ok (.iconst 0, 1) := by decide +kernel
theorem d_Ints_isAsSaid_95 : decode b_Ints_isAsSaid 95 = .ok (.ireturn, 1) := by decide +kernel
abbrev b_Ints_divisor : ByteArray := prog_11_method_4_code
abbrev J_Ints_divisor : MethodName × ByteArray × Nat × Option FieldType := (⟨"FaslDesk$Ints", "divisor", "(I)I"⟩, b_Ints_divisor, 1, (some .int))
theorem d_Ints_divisor_0 : decode b_Ints_divisor 0 = .ok (.iload_n 0, 1) := by decide +kernel
theorem d_Ints_divisor_1 : decode b_Ints_divisor 1 = .ok (.ifCond .ne 13, 3) := by decide +kernel
theorem d_Ints_divisor_4 : decode b_Ints_divisor 4 = .ok (.new 13, 3) := by decide +kernel
theorem d_Ints_divisor_7 : decode b_Ints_divisor 7 = .ok (.dup, 1) := by decide +kernel
theorem d_Ints_divisor_8 : decode b_Ints_divisor 8 = .ok (.ldc 15, 2) := by decide +kernel
theorem d_Ints_divisor_10 : decode b_Ints_divisor 10 = .ok (.invokespecial 17, 3) := by decide +kernel
theorem d_Ints_divisor_13 : decode b_Ints_divisor 13 = .ok (.athrow, 1) := by decide +kernel
theorem d_Ints_divisor_14 : decode b_Ints_divisor 14 = .ok (.iload_n 0, 1) := by decide +kernel
theorem d_Ints_divisor_15 : decode b_Ints_divisor 15 = .ok (.ireturn, 1) := by decide +kernel
abbrev b_Opens_init : ByteArray := prog_12_method_1_code
abbrev J_Opens_init : MethodName × ByteArray × Nat × Option FieldType := (⟨"FaslDesk$OpenForms", "<init>", "()V"⟩, b_Opens_init, 1, none)
theorem d_Opens_init_0 : decode b_Opens_init 0 = .ok (.aload_n 0, 1) := by decide +kernel
theorem d_Opens_init_1 : decode b_Opens_init 1 = .ok (.invokespecial 3, 3) := by decide +kernel
theorem d_Opens_init_4 : decode b_Opens_init 4 = .ok (.aload_n 0, 1) := by decide +kernel
theorem d_Opens_init_5 : decode b_Opens_init 5 = .ok (.bipush 40, 2) := by decide +kernel
theorem d_Opens_init_7 : decode b_Opens_init 7 = .ok (.newarray .int, 2) := by decide +kernel
theorem d_Opens_init_9 : decode b_Opens_init 9 = .ok (.putfield 9, 3) := by decide +kernel
theorem d_Opens_init_12 : decode b_Opens_init 12 = .ok (.aload_n 0, 1) := by decide +kernel
theorem d_Opens_init_13 : decode b_Opens_init 13 = .ok (.bipush 40, 2) := by decide +kernel
theorem d_Opens_init_15 : decode b_Opens_init 15 = .ok (.newarray .int, 2) := by decide +kernel
theorem d_Opens_init_17 : decode b_Opens_init 17 = .ok (.putfield 15, 3) := by decide +kernel
theorem d_Opens_init_20 : decode b_Opens_init 20 = .ok (.return_, 1) := by decide +kernel
abbrev b_Opens_begin : ByteArray := prog_12_method_2_code
abbrev J_Opens_begin : MethodName × ByteArray × Nat × Option FieldType := (⟨"FaslDesk$OpenForms", "begin", "()V"⟩, b_Opens_begin, 1, none)
theorem d_Opens_begin_0 : decode b_Opens_begin 0 = .ok (.aload_n 0, 1) := by decide +kernel
theorem d_Opens_begin_1 : decode b_Opens_begin 1 = .ok (.iconst 0, 1) := by decide +kernel
theorem d_Opens_begin_2 : decode b_Opens_begin 2 = .ok (.putfield 18, 3) := by decide +kernel
theorem d_Opens_begin_5 : decode b_Opens_begin 5 = .ok (.aload_n 0, 1) := by decide +kernel
theorem d_Opens_begin_6 : decode b_Opens_begin 6 = .ok (.iconst 0, 1) := by decide +kernel
theorem d_Opens_begin_7 : decode b_Opens_begin 7 = .ok (.invokevirtual 22, 3) := by decide +kernel
theorem d_Opens_begin_10 : decode b_Opens_begin 10 = .ok (.return_, 1) := by decide +kernel
abbrev b_Opens_isEmpty : ByteArray := prog_12_method_3_code
abbrev J_Opens_isEmpty : MethodName × ByteArray × Nat × Option FieldType := (⟨"FaslDesk$OpenForms", "isEmpty", "()Z"⟩, b_Opens_isEmpty, 1, (some .boolean))
theorem d_Opens_isEmpty_0 : decode b_Opens_isEmpty 0 = .ok (.aload_n 0, 1) := by decide +kernel
theorem d_Opens_isEmpty_1 : decode b_Opens_isEmpty 1 = .ok (.getfield 18, 3) := by decide +kernel
theorem d_Opens_isEmpty_4 : decode b_Opens_isEmpty 4 = .ok (.ifCond .ne 7, 3) := by decide +kernel
theorem d_Opens_isEmpty_7 : decode b_Opens_isEmpty 7 = .ok (.iconst 1, 1) := by decide +kernel
theorem d_Opens_isEmpty_8 : decode b_Opens_isEmpty 8 = .ok (.goto 4, 3) := by decide +kernel
theorem d_Opens_isEmpty_11 : decode b_Opens_isEmpty 11 = .ok (.iconst 0, 1) := by decide +kernel
theorem d_Opens_isEmpty_12 : decode b_Opens_isEmpty 12 = .ok (.ireturn, 1) := by decide +kernel
abbrev b_Opens_place : ByteArray := prog_12_method_4_code
abbrev J_Opens_place : MethodName × ByteArray × Nat × Option FieldType := (⟨"FaslDesk$OpenForms", "place", "()I"⟩, b_Opens_place, 1, (some .int))
theorem d_Opens_place_0 : decode b_Opens_place 0 = .ok (.aload_n 0, 1) := by decide +kernel
theorem d_Opens_place_1 : decode b_Opens_place 1 = .ok (.invokevirtual 26, 3) := by decide +kernel
theorem d_Opens_place_4 : decode b_Opens_place 4 = .ok (.ifCond .eq 7, 3) := by decide +kernel
theorem d_Opens_place_7 : decode b_Opens_place 7 = .ok (.iconst 0, 1) := by decide +kernel
theorem d_Opens_place_8 : decode b_Opens_place 8 = .ok (.goto 14, 3) := by decide +kernel
theorem d_Opens_place_11 : decode b_Opens_place 11 = .ok (.aload_n 0, 1) := by decide +kernel
theorem d_Opens_place_12 : decode b_Opens_place 12 = .ok (.getfield 9, 3) := by decide +kernel
theorem d_Opens_place_15 : decode b_Opens_place 15 = .ok (.aload_n 0, 1) := by decide +kernel
theorem d_Opens_place_16 : decode b_Opens_place 16 = .ok (.getfield 18, 3) := by decide +kernel
theorem d_Opens_place_19 : decode b_Opens_place 19 = .ok (.iconst 1, 1) := by decide +kernel
theorem d_Opens_place_20 : decode b_Opens_place 20 = .ok (.isub, 1) := by decide +kernel
theorem d_Opens_place_21 : decode b_Opens_place 21 = .ok (.iaload, 1) := by decide +kernel
theorem d_Opens_place_22 : decode b_Opens_place 22 = .ok (.ireturn, 1) := by decide +kernel
abbrev b_Opens_partsDone : ByteArray := prog_12_method_5_code
abbrev J_Opens_partsDone : MethodName × ByteArray × Nat × Option FieldType := (⟨"FaslDesk$OpenForms", "partsDone", "()I"⟩, b_Opens_partsDone, 1, (some .int))
theorem d_Opens_partsDone_0 : decode b_Opens_partsDone 0 = .ok (.aload_n 0, 1) := by decide +kernel
theorem d_Opens_partsDone_1 : decode b_Opens_partsDone 1 = .ok (.invokevirtual 26, 3) := by decide +kernel
theorem d_Opens_partsDone_4 : decode b_Opens_partsDone 4 = .ok (.ifCond .eq 7, 3) := by decide +kernel
theorem d_Opens_partsDone_7 : decode b_Opens_partsDone 7 = .ok (.iconst 0, 1) := by decide +kernel
theorem d_Opens_partsDone_8 : decode b_Opens_partsDone 8 = .ok (.goto 14, 3) := by decide +kernel
theorem d_Opens_partsDone_11 : decode b_Opens_partsDone 11 = .ok (.aload_n 0, 1) := by decide +kernel
theorem d_Opens_partsDone_12 : decode b_Opens_partsDone 12 = .ok (.getfield 15, 3) := by decide +kernel
theorem d_Opens_partsDone_15 : decode b_Opens_partsDone 15 = .ok (.aload_n 0, 1) := by decide +kernel
theorem d_Opens_partsDone_16 : decode b_Opens_partsDone 16 = .ok (.getfield 18, 3) := by decide +kernel
theorem d_Opens_partsDone_19 : decode b_Opens_partsDone 19 = .ok (.iconst 1, 1) := by decide +kernel
theorem d_Opens_partsDone_20 : decode b_Opens_partsDone 20 = .ok (.isub, 1) := by decide +kernel
theorem d_Opens_partsDone_21 : decode b_Opens_partsDone 21 = .ok (.iaload, 1) := by decide +kernel
theorem d_Opens_partsDone_22 : decode b_Opens_partsDone 22 = .ok (.ireturn, 1) := by decide +kernel
abbrev b_Opens_enterPart : ByteArray := prog_12_method_6_code
abbrev J_Opens_enterPart : MethodName × ByteArray × Nat × Option FieldType := (⟨"FaslDesk$OpenForms", "enterPart", "(I)V"⟩, b_Opens_enterPart, 2, none)
theorem d_Opens_enterPart_0 : decode b_Opens_enterPart 0 = .ok (.aload_n 0, 1) := by decide +kernel
theorem d_Opens_enterPart_1 : decode b_Opens_enterPart 1 = .ok (.invokevirtual 26, 3) := by decide +kernel
theorem d_Opens_enterPart_4 : decode b_Opens_enterPart 4 = .ok (.ifCond .ne 18, 3) := by decide +kernel
theorem d_Opens_enterPart_7 : decode b_Opens_enterPart 7 = .ok (.aload_n 0, 1) := by decide +kernel
theorem d_Opens_enterPart_8 : decode b_Opens_enterPart 8 = .ok (.getfield 15, 3) := by decide +kernel
theorem d_Opens_enterPart_11 : decode b_Opens_enterPart 11 = .ok (.aload_n 0, 1) := by decide +kernel
theorem d_Opens_enterPart_12 : decode b_Opens_enterPart 12 = .ok (.getfield 18, 3) := by decide +kernel
theorem d_Opens_enterPart_15 : decode b_Opens_enterPart 15 = .ok (.iconst 1, 1) := by decide +kernel
theorem d_Opens_enterPart_16 : decode b_Opens_enterPart 16 = .ok (.isub, 1) := by decide +kernel
theorem d_Opens_enterPart_17 : decode b_Opens_enterPart 17 = .ok (.dup2, 1) := by decide +kernel
theorem d_Opens_enterPart_18 : decode b_Opens_enterPart 18 = .ok (.iaload, 1) := by decide +kernel
theorem d_Opens_enterPart_19 : decode b_Opens_enterPart 19 = .ok (.iconst 1, 1) := by decide +kernel
theorem d_Opens_enterPart_20 : decode b_Opens_enterPart 20 = .ok (.iadd, 1) := by decide +kernel
theorem d_Opens_enterPart_21 : decode b_Opens_enterPart 21 = .ok (.iastore, 1) := by decide +kernel
theorem d_Opens_enterPart_22 : decode b_Opens_enterPart 22 = .ok (.aload_n 0, 1) := by decide +kernel
theorem d_Opens_enterPart_23 : decode b_Opens_enterPart 23 = .ok (.iload_n 1, 1) := by decide +kernel
theorem d_Opens_enterPart_24 : decode b_Opens_enterPart 24 = .ok (.invokevirtual 22, 3) := by decide +kernel
theorem d_Opens_enterPart_27 : decode b_Opens_enterPart 27 = .ok (.return_, 1) := by decide +kernel
abbrev b_Opens_leave : ByteArray := prog_12_method_7_code
abbrev J_Opens_leave : MethodName × ByteArray × Nat × Option FieldType := (⟨"FaslDesk$OpenForms", "leave", "()V"⟩, b_Opens_leave, 1, none)
theorem d_Opens_leave_0 : decode b_Opens_leave 0 = .ok (.aload_n 0, 1) := by decide +kernel
theorem d_Opens_leave_1 : decode b_Opens_leave 1 = .ok (.invokevirtual 26, 3) := by decide +kernel
theorem d_Opens_leave_4 : decode b_Opens_leave 4 = .ok (.ifCond .ne 13, 3) := by decide +kernel
theorem d_Opens_leave_7 : decode b_Opens_leave 7 = .ok (.aload_n 0, 1) := by decide +kernel
theorem d_Opens_leave_8 : decode b_Opens_leave 8 = .ok (.dup, 1) := by decide +kernel
theorem d_Opens_leave_9 : decode b_Opens_leave 9 = .ok (.getfield 18, 3) := by decide +kernel
theorem d_Opens_leave_12 : decode b_Opens_leave 12 = .ok (.iconst 1, 1) := by decide +kernel
theorem d_Opens_leave_13 : decode b_Opens_leave 13 = .ok (.isub, 1) := by decide +kernel
theorem d_Opens_leave_14 : decode b_Opens_leave 14 = .ok (.putfield 18, 3) := by decide +kernel
theorem d_Opens_leave_17 : decode b_Opens_leave 17 = .ok (.return_, 1) := by decide +kernel
abbrev b_Opens_goOnAs : ByteArray := prog_12_method_8_code
abbrev J_Opens_goOnAs : MethodName × ByteArray × Nat × Option FieldType := (⟨"FaslDesk$OpenForms", "goOnAs", "(I)V"⟩, b_Opens_goOnAs, 2, none)
theorem d_Opens_goOnAs_0 : decode b_Opens_goOnAs 0 = .ok (.aload_n 0, 1) := by decide +kernel
theorem d_Opens_goOnAs_1 : decode b_Opens_goOnAs 1 = .ok (.invokevirtual 30, 3) := by decide +kernel
theorem d_Opens_goOnAs_4 : decode b_Opens_goOnAs 4 = .ok (.aload_n 0, 1) := by decide +kernel
theorem d_Opens_goOnAs_5 : decode b_Opens_goOnAs 5 = .ok (.iload_n 1, 1) := by decide +kernel
theorem d_Opens_goOnAs_6 : decode b_Opens_goOnAs 6 = .ok (.invokevirtual 22, 3) := by decide +kernel
theorem d_Opens_goOnAs_9 : decode b_Opens_goOnAs 9 = .ok (.return_, 1) := by decide +kernel
abbrev b_Opens_enter : ByteArray := prog_12_method_9_code
abbrev J_Opens_enter : MethodName × ByteArray × Nat × Option FieldType := (⟨"FaslDesk$OpenForms", "enter", "(I)V"⟩, b_Opens_enter, 2, none)
theorem d_Opens_enter_0 : decode b_Opens_enter 0 = .ok (.aload_n 0, 1) := by decide +kernel
theorem d_Opens_enter_1 : decode b_Opens_enter 1 = .ok (.getfield 18, 3) := by decide +kernel
theorem d_Opens_enter_4 : decode b_Opens_enter 4 = .ok (.bipush 40, 2) := by decide +kernel
theorem d_Opens_enter_6 : decode b_Opens_enter 6 = .ok (.if_icmp .ge 33, 3) := by decide +kernel
theorem d_Opens_enter_9 : decode b_Opens_enter 9 = .ok (.aload_n 0, 1) := by decide +kernel
theorem d_Opens_enter_10 : decode b_Opens_enter 10 = .ok (.getfield 9, 3) := by decide +kernel
theorem d_Opens_enter_13 : decode b_Opens_enter 13 = .ok (.aload_n 0, 1) := by decide +kernel
theorem d_Opens_enter_14 : decode b_Opens_enter 14 = .ok (.getfield 18, 3) := by decide +kernel
theorem d_Opens_enter_17 : decode b_Opens_enter 17 = .ok (.iload_n 1, 1) := by decide +kernel
theorem d_Opens_enter_18 : decode b_Opens_enter 18 = .ok (.iastore, 1) := by decide +kernel
theorem d_Opens_enter_19 : decode b_Opens_enter 19 = .ok (.aload_n 0, 1) := by decide +kernel
theorem d_Opens_enter_20 : decode b_Opens_enter 20 = .ok (.getfield 15, 3) := by decide +kernel
theorem d_Opens_enter_23 : decode b_Opens_enter 23 = .ok (.aload_n 0, 1) := by decide +kernel
theorem d_Opens_enter_24 : decode b_Opens_enter 24 = .ok (.getfield 18, 3) := by decide +kernel
theorem d_Opens_enter_27 : decode b_Opens_enter 27 = .ok (.iconst 0, 1) := by decide +kernel
theorem d_Opens_enter_28 : decode b_Opens_enter 28 = .ok (.iastore, 1) := by decide +kernel
theorem d_Opens_enter_29 : decode b_Opens_enter 29 = .ok (.aload_n 0, 1) := by decide +kernel
theorem d_Opens_enter_30 : decode b_Opens_enter 30 = .ok (.dup, 1) := by decide +kernel
theorem d_Opens_enter_31 : decode b_Opens_enter 31 = .ok (.getfield 18, 3) := by decide +kernel
theorem d_Opens_enter_34 : decode b_Opens_enter 34 = .ok (.iconst 1, 1) := by decide +kernel
theorem d_Opens_enter_35 : decode b_Opens_enter 35 = .ok (.iadd, 1) := by decide +kernel
theorem d_Opens_enter_36 : decode b_Opens_enter 36 = .ok (.putfield 18, 3) := by decide +kernel
theorem d_Opens_enter_39 : decode b_Opens_enter 39 = .ok (.return_, 1) := by decide +kernel
abbrev b_Law_interpret : ByteArray := method_3_code
abbrev J_Law_interpret : MethodName × ByteArray × Nat × Option FieldType := (⟨"FaslDeskLaw", "interpret", "(LFaslDesk;IIII[J)I"⟩, b_Law_interpret, 7, (some .int))
theorem d_Law_interpret_0 : decode b_Law_interpret 0 = .ok (.aload 5, 2) := by decide +kernel
theorem d_Law_interpret_2 : decode b_Law_interpret 2 = .ok (.iconst 0, 1) := by decide +kernel
theorem d_Law_interpret_3 : decode b_Law_interpret 3 = .ok (.aload_n 0, 1) := by decide +kernel
theorem d_Law_interpret_4 : decode b_Law_interpret 4 = .ok (.iload_n 1, 1) := by decide +kernel
theorem d_Law_interpret_5 : decode b_Law_interpret 5 = .ok (.iload_n 2, 1) := by decide +kernel
theorem d_Law_interpret_6 : decode b_Law_interpret 6 = .ok (.iload_n 3, 1) := by decide +kernel
theorem d_Law_interpret_7 : decode b_Law_interpret 7 = .ok (.iload 4, 2) := by decide +kernel
theorem d_Law_interpret_9 : decode b_Law_interpret 9 = .ok (.invokevirtual 7, 3) := by decide +kernel
theorem d_Law_interpret_12 : decode b_Law_interpret 12 = .ok (.i2l, 1) := by decide +kernel
theorem d_Law_interpret_13 : decode b_Law_interpret 13 = .ok (.lastore, 1) := by decide +kernel
theorem d_Law_interpret_14 : decode b_Law_interpret 14 = .ok (.goto 11, 3) := by decide +kernel
theorem d_Law_interpret_17 : decode b_Law_interpret 17 = .ok (.astore 6, 2) := by decide +kernel
theorem d_Law_interpret_19 : decode b_Law_interpret 19 = .ok (.iconst 1, 1) := by decide +kernel
theorem d_Law_interpret_20 : decode b_Law_interpret 20 = .ok (.ireturn, 1) := by decide +kernel
theorem d_Law_interpret_21 : decode b_Law_interpret 21 = .ok (.astore 6, 2) := by decide +kernel
theorem d_Law_interpret_23 : decode b_Law_interpret 23 = .ok (.iconst 2, 1) := by decide +kernel
theorem d_Law_interpret_24 : decode b_Law_interpret 24 = .ok (.ireturn, 1) := by decide +kernel
theorem d_Law_interpret_25 : decode b_Law_interpret 25 = .ok (.iconst 0, 1) := by decide +kernel
theorem d_Law_interpret_26 : decode b_Law_interpret 26 = .ok (.ireturn, 1) := by decide +kernel
abbrev b_Law_run : ByteArray := method_4_code
abbrev J_Law_run : MethodName × ByteArray × Nat × Option FieldType := (⟨"FaslDeskLaw", "run", "(LFaslDesk;IIII[J)I"⟩, b_Law_run, 7, (some .int))
theorem d_Law_run_0 : decode b_Law_run 0 = .ok (.aload 5, 2) := by decide +kernel
theorem d_Law_run_2 : decode b_Law_run 2 = .ok (.iconst 0, 1) := by decide +kernel
theorem d_Law_run_3 : decode b_Law_run 3 = .ok (.aload_n 0, 1) := by decide +kernel
theorem d_Law_run_4 : decode b_Law_run 4 = .ok (.iload_n 1, 1) := by decide +kernel
theorem d_Law_run_5 : decode b_Law_run 5 = .ok (.iload_n 2, 1) := by decide +kernel
theorem d_Law_run_6 : decode b_Law_run 6 = .ok (.iload_n 3, 1) := by decide +kernel
theorem d_Law_run_7 : decode b_Law_run 7 = .ok (.iload 4, 2) := by decide +kernel
theorem d_Law_run_9 : decode b_Law_run 9 = .ok (.invokevirtual 17, 3) := by decide +kernel
theorem d_Law_run_12 : decode b_Law_run 12 = .ok (.i2l, 1) := by decide +kernel
theorem d_Law_run_13 : decode b_Law_run 13 = .ok (.lastore, 1) := by decide +kernel
theorem d_Law_run_14 : decode b_Law_run 14 = .ok (.goto 15, 3) := by decide +kernel
theorem d_Law_run_17 : decode b_Law_run 17 = .ok (.astore 6, 2) := by decide +kernel
theorem d_Law_run_19 : decode b_Law_run 19 = .ok (.iconst 1, 1) := by decide +kernel
theorem d_Law_run_20 : decode b_Law_run 20 = .ok (.ireturn, 1) := by decide +kernel
theorem d_Law_run_21 : decode b_Law_run 21 = .ok (.astore 6, 2) := by decide +kernel
theorem d_Law_run_23 : decode b_Law_run 23 = .ok (.iconst 2, 1) := by decide +kernel
theorem d_Law_run_24 : decode b_Law_run 24 = .ok (.ireturn, 1) := by decide +kernel
theorem d_Law_run_25 : decode b_Law_run 25 = .ok (.astore 6, 2) := by decide +kernel
theorem d_Law_run_27 : decode b_Law_run 27 = .ok (.iconst 3, 1) := by decide +kernel
theorem d_Law_run_28 : decode b_Law_run 28 = .ok (.ireturn, 1) := by decide +kernel
theorem d_Law_run_29 : decode b_Law_run 29 = .ok (.iconst 0, 1) := by decide +kernel
theorem d_Law_run_30 : decode b_Law_run 30 = .ok (.ireturn, 1) := by decide +kernel
abbrev b_Law_law : ByteArray := code
abbrev J_Law_law : MethodName × ByteArray × Nat × Option FieldType := (⟨"FaslDeskLaw", "law", "([I)Z"⟩, b_Law_law, 7, (some .boolean))
theorem d_Law_law_0 : decode b_Law_law 0 = .ok (.new 8, 3) := by decide +kernel
theorem d_Law_law_3 : decode b_Law_law 3 = .ok (.dup, 1) := by decide +kernel
theorem d_Law_law_4 : decode b_Law_law 4 = .ok (.invokespecial 22, 3) := by decide +kernel
theorem d_Law_law_7 : decode b_Law_law 7 = .ok (.astore_n 1, 1) := by decide +kernel
theorem d_Law_law_8 : decode b_Law_law 8 = .ok (.new 23, 3) := by decide +kernel
theorem d_Law_law_11 : decode b_Law_law 11 = .ok (.dup, 1) := by decide +kernel
theorem d_Law_law_12 : decode b_Law_law 12 = .ok (.invokespecial 25, 3) := by decide +kernel
theorem d_Law_law_15 : decode b_Law_law 15 = .ok (.astore_n 2, 1) := by decide +kernel
theorem d_Law_law_16 : decode b_Law_law 16 = .ok (.iconst 1, 1) := by decide +kernel
theorem d_Law_law_17 : decode b_Law_law 17 = .ok (.newarray .long, 2) := by decide +kernel
theorem d_Law_law_19 : decode b_Law_law 19 = .ok (.astore_n 3, 1) := by decide +kernel
theorem d_Law_law_20 : decode b_Law_law 20 = .ok (.iconst 0, 1) := by decide +kernel
theorem d_Law_law_21 : decode b_Law_law 21 = .ok (.istore 4, 2) := by decide +kernel
theorem d_Law_law_23 : decode b_Law_law 23 = .ok (.iload 4, 2) := by decide +kernel
theorem d_Law_law_25 : decode b_Law_law 25 = .ok (.aload_n 0, 1) := by decide +kernel
theorem d_Law_law_26 : decode b_Law_law 26 = .ok (.arraylength, 1) := by decide +kernel
theorem d_Law_law_27 : decode b_Law_law 27 = .ok (.iconst 5, 1) := by decide +kernel
theorem d_Law_law_28 : decode b_Law_law 28 = .ok (.isub, 1) := by decide +kernel
theorem d_Law_law_29 : decode b_Law_law 29 = .ok (.if_icmp .gt 624, 3) := by decide +kernel
theorem d_Law_law_32 : decode b_Law_law 32 = .ok (.aload_n 0, 1) := by decide +kernel
theorem d_Law_law_33 : decode b_Law_law 33 = .ok (.iload 4, 2) := by decide +kernel
theorem d_Law_law_35 : decode b_Law_law 35 = .ok (.iaload, 1) := by decide +kernel
theorem d_Law_law_36 : decode b_Law_law 36 = .ok (.bipush 15, 2) := by decide +kernel
theorem d_Law_law_38 : decode b_Law_law 38 = .ok (.iand, 1) := by decide +kernel
theorem d_Law_law_39 : decode b_Law_law 39 = .ok (.tableswitch 608 0 12 #[65, 102, 139, 152, 244, 269, 318, 367, 392, 405, 497, 534, 583], 65) := by decide +kernel
theorem d_Law_law_104 : decode b_Law_law 104 = .ok (.aload_n 1, 1) := by decide +kernel
theorem d_Law_law_105 : decode b_Law_law 105 = .ok (.aload_n 0, 1) := by decide +kernel
theorem d_Law_law_106 : decode b_Law_law 106 = .ok (.iload 4, 2) := by decide +kernel
theorem d_Law_law_108 : decode b_Law_law 108 = .ok (.iconst 1, 1) := by decide +kernel
theorem d_Law_law_109 : decode b_Law_law 109 = .ok (.iadd, 1) := by decide +kernel
theorem d_Law_law_110 : decode b_Law_law 110 = .ok (.iaload, 1) := by decide +kernel
theorem d_Law_law_111 : decode b_Law_law 111 = .ok (.aload_n 0, 1) := by decide +kernel
theorem d_Law_law_112 : decode b_Law_law 112 = .ok (.iload 4, 2) := by decide +kernel
theorem d_Law_law_114 : decode b_Law_law 114 = .ok (.iconst 2, 1) := by decide +kernel
theorem d_Law_law_115 : decode b_Law_law 115 = .ok (.iadd, 1) := by decide +kernel
theorem d_Law_law_116 : decode b_Law_law 116 = .ok (.iaload, 1) := by decide +kernel
theorem d_Law_law_117 : decode b_Law_law 117 = .ok (.invokevirtual 26, 3) := by decide +kernel
theorem d_Law_law_120 : decode b_Law_law 120 = .ok (.aload_n 2, 1) := by decide +kernel
theorem d_Law_law_121 : decode b_Law_law 121 = .ok (.aload_n 0, 1) := by decide +kernel
theorem d_Law_law_122 : decode b_Law_law 122 = .ok (.iload 4, 2) := by decide +kernel
theorem d_Law_law_124 : decode b_Law_law 124 = .ok (.iconst 1, 1) := by decide +kernel
theorem d_Law_law_125 : decode b_Law_law 125 = .ok (.iadd, 1) := by decide +kernel
theorem d_Law_law_126 : decode b_Law_law 126 = .ok (.iaload, 1) := by decide +kernel
theorem d_Law_law_127 : decode b_Law_law 127 = .ok (.aload_n 0, 1) := by decide +kernel
theorem d_Law_law_128 : decode b_Law_law 128 = .ok (.iload 4, 2) := by decide +kernel
theorem d_Law_law_130 : decode b_Law_law 130 = .ok (.iconst 2, 1) := by decide +kernel
theorem d_Law_law_131 : decode b_Law_law 131 = .ok (.iadd, 1) := by decide +kernel
theorem d_Law_law_132 : decode b_Law_law 132 = .ok (.iaload, 1) := by decide +kernel
theorem d_Law_law_133 : decode b_Law_law 133 = .ok (.invokevirtual 30, 3) := by decide +kernel
theorem d_Law_law_136 : decode b_Law_law 136 = .ok (.if_icmp .eq 511, 3) := by decide +kernel
theorem d_Law_law_139 : decode b_Law_law 139 = .ok (.iconst 0, 1) := by decide +kernel
theorem d_Law_law_140 : decode b_Law_law 140 = .ok (.ireturn, 1) := by decide +kernel
theorem d_Law_law_141 : decode b_Law_law 141 = .ok (.aload_n 1, 1) := by decide +kernel
theorem d_Law_law_142 : decode b_Law_law 142 = .ok (.aload_n 0, 1) := by decide +kernel
theorem d_Law_law_143 : decode b_Law_law 143 = .ok (.iload 4, 2) := by decide +kernel
theorem d_Law_law_145 : decode b_Law_law 145 = .ok (.iconst 1, 1) := by decide +kernel
theorem d_Law_law_146 : decode b_Law_law 146 = .ok (.iadd, 1) := by decide +kernel
theorem d_Law_law_147 : decode b_Law_law 147 = .ok (.iaload, 1) := by decide +kernel
theorem d_Law_law_148 : decode b_Law_law 148 = .ok (.aload_n 0, 1) := by decide +kernel
theorem d_Law_law_149 : decode b_Law_law 149 = .ok (.iload 4, 2) := by decide +kernel
theorem d_Law_law_151 : decode b_Law_law 151 = .ok (.iconst 2, 1) := by decide +kernel
theorem d_Law_law_152 : decode b_Law_law 152 = .ok (.iadd, 1) := by decide +kernel
theorem d_Law_law_153 : decode b_Law_law 153 = .ok (.iaload, 1) := by decide +kernel
theorem d_Law_law_154 : decode b_Law_law 154 = .ok (.invokevirtual 31, 3) := by decide +kernel
theorem d_Law_law_157 : decode b_Law_law 157 = .ok (.aload_n 2, 1) := by decide +kernel
theorem d_Law_law_158 : decode b_Law_law 158 = .ok (.aload_n 0, 1) := by decide +kernel
theorem d_Law_law_159 : decode b_Law_law 159 = .ok (.iload 4, 2) := by decide +kernel
theorem d_Law_law_161 : decode b_Law_law 161 = .ok (.iconst 1, 1) := by decide +kernel
theorem d_Law_law_162 : decode b_Law_law 162 = .ok (.iadd, 1) := by decide +kernel
theorem d_Law_law_163 : decode b_Law_law 163 = .ok (.iaload, 1) := by decide +kernel
theorem d_Law_law_164 : decode b_Law_law 164 = .ok (.aload_n 0, 1) := by decide +kernel
theorem d_Law_law_165 : decode b_Law_law 165 = .ok (.iload 4, 2) := by decide +kernel
theorem d_Law_law_167 : decode b_Law_law 167 = .ok (.iconst 2, 1) := by decide +kernel
theorem d_Law_law_168 : decode b_Law_law 168 = .ok (.iadd, 1) := by decide +kernel
theorem d_Law_law_169 : decode b_Law_law 169 = .ok (.iaload, 1) := by decide +kernel
theorem d_Law_law_170 : decode b_Law_law 170 = .ok (.invokevirtual 34, 3) := by decide +kernel
theorem d_Law_law_173 : decode b_Law_law 173 = .ok (.if_icmp .eq 474, 3) := by decide +kernel
theorem d_Law_law_176 : decode b_Law_law 176 = .ok (.iconst 0, 1) := by decide +kernel
theorem d_Law_law_177 : decode b_Law_law 177 = .ok (.ireturn, 1) := by decide +kernel
theorem d_Law_law_178 : decode b_Law_law 178 = .ok (.aload_n 1, 1) := by decide +kernel
theorem d_Law_law_179 : decode b_Law_law 179 = .ok (.invokevirtual 35, 3) := by decide +kernel
theorem d_Law_law_182 : decode b_Law_law 182 = .ok (.aload_n 2, 1) := by decide +kernel
theorem d_Law_law_183 : decode b_Law_law 183 = .ok (.invokevirtual 39, 3) := by decide +kernel
theorem d_Law_law_186 : decode b_Law_law 186 = .ok (.if_icmp .eq 461, 3) := by decide +kernel
theorem d_Law_law_189 : decode b_Law_law 189 = .ok (.iconst 0, 1) := by decide +kernel
theorem d_Law_law_190 : decode b_Law_law 190 = .ok (.ireturn, 1) := by decide +kernel
theorem d_Law_law_191 : decode b_Law_law 191 = .ok (.aload_n 1, 1) := by decide +kernel
theorem d_Law_law_192 : decode b_Law_law 192 = .ok (.aload_n 0, 1) := by decide +kernel
theorem d_Law_law_193 : decode b_Law_law 193 = .ok (.iload 4, 2) := by decide +kernel
theorem d_Law_law_195 : decode b_Law_law 195 = .ok (.iconst 1, 1) := by decide +kernel
theorem d_Law_law_196 : decode b_Law_law 196 = .ok (.iadd, 1) := by decide +kernel
theorem d_Law_law_197 : decode b_Law_law 197 = .ok (.iaload, 1) := by decide +kernel
theorem d_Law_law_198 : decode b_Law_law 198 = .ok (.aload_n 0, 1) := by decide +kernel
theorem d_Law_law_199 : decode b_Law_law 199 = .ok (.iload 4, 2) := by decide +kernel
theorem d_Law_law_201 : decode b_Law_law 201 = .ok (.iconst 2, 1) := by decide +kernel
theorem d_Law_law_202 : decode b_Law_law 202 = .ok (.iadd, 1) := by decide +kernel
theorem d_Law_law_203 : decode b_Law_law 203 = .ok (.iaload, 1) := by decide +kernel
theorem d_Law_law_204 : decode b_Law_law 204 = .ok (.aload_n 0, 1) := by decide +kernel
theorem d_Law_law_205 : decode b_Law_law 205 = .ok (.iload 4, 2) := by decide +kernel
theorem d_Law_law_207 : decode b_Law_law 207 = .ok (.iconst 3, 1) := by decide +kernel
theorem d_Law_law_208 : decode b_Law_law 208 = .ok (.iadd, 1) := by decide +kernel
theorem d_Law_law_209 : decode b_Law_law 209 = .ok (.iaload, 1) := by decide +kernel
theorem d_Law_law_210 : decode b_Law_law 210 = .ok (.aload_n 0, 1) := by decide +kernel
theorem d_Law_law_211 : decode b_Law_law 211 = .ok (.iload 4, 2) := by decide +kernel
theorem d_Law_law_213 : decode b_Law_law 213 = .ok (.iconst 4, 1) := by decide +kernel
theorem d_Law_law_214 : decode b_Law_law 214 = .ok (.iadd, 1) := by decide +kernel
theorem d_Law_law_215 : decode b_Law_law 215 = .ok (.iaload, 1) := by decide +kernel
theorem d_Law_law_216 : decode b_Law_law 216 = .ok (.aload_n 3, 1) := by decide +kernel
theorem d_Law_law_217 : decode b_Law_law 217 = .ok (.invokestatic 40, 3) := by decide +kernel
theorem d_Law_law_220 : decode b_Law_law 220 = .ok (.istore 5, 2) := by decide +kernel
theorem d_Law_law_222 : decode b_Law_law 222 = .ok (.aload_n 2, 1) := by decide +kernel
theorem d_Law_law_223 : decode b_Law_law 223 = .ok (.aload_n 0, 1) := by decide +kernel
theorem d_Law_law_224 : decode b_Law_law 224 = .ok (.iload 4, 2) := by decide +kernel
theorem d_Law_law_226 : decode b_Law_law 226 = .ok (.iconst 1, 1) := by decide +kernel
theorem d_Law_law_227 : decode b_Law_law 227 = .ok (.iadd, 1) := by decide +kernel
theorem d_Law_law_228 : decode b_Law_law 228 = .ok (.iaload, 1) := by decide +kernel
theorem d_Law_law_229 : decode b_Law_law 229 = .ok (.aload_n 0, 1) := by decide +kernel
theorem d_Law_law_230 : decode b_Law_law 230 = .ok (.iload 4, 2) := by decide +kernel
theorem d_Law_law_232 : decode b_Law_law 232 = .ok (.iconst 2, 1) := by decide +kernel
theorem d_Law_law_233 : decode b_Law_law 233 = .ok (.iadd, 1) := by decide +kernel
theorem d_Law_law_234 : decode b_Law_law 234 = .ok (.iaload, 1) := by decide +kernel
theorem d_Law_law_235 : decode b_Law_law 235 = .ok (.aload_n 0, 1) := by decide +kernel
theorem d_Law_law_236 : decode b_Law_law 236 = .ok (.iload 4, 2) := by decide +kernel
theorem d_Law_law_238 : decode b_Law_law 238 = .ok (.iconst 3, 1) := by decide +kernel
theorem d_Law_law_239 : decode b_Law_law 239 = .ok (.iadd, 1) := by decide +kernel
theorem d_Law_law_240 : decode b_Law_law 240 = .ok (.iaload, 1) := by decide +kernel
theorem d_Law_law_241 : decode b_Law_law 241 = .ok (.aload_n 0, 1) := by decide +kernel
theorem d_Law_law_242 : decode b_Law_law 242 = .ok (.iload 4, 2) := by decide +kernel
theorem d_Law_law_244 : decode b_Law_law 244 = .ok (.iconst 4, 1) := by decide +kernel
theorem d_Law_law_245 : decode b_Law_law 245 = .ok (.iadd, 1) := by decide +kernel
theorem d_Law_law_246 : decode b_Law_law 246 = .ok (.iaload, 1) := by decide +kernel
theorem d_Law_law_247 : decode b_Law_law 247 = .ok (.invokevirtual 45, 3) := by decide +kernel
theorem d_Law_law_250 : decode b_Law_law 250 = .ok (.istore 6, 2) := by decide +kernel
theorem d_Law_law_252 : decode b_Law_law 252 = .ok (.aload_n 2, 1) := by decide +kernel
theorem d_Law_law_253 : decode b_Law_law 253 = .ok (.invokevirtual 46, 3) := by decide +kernel
theorem d_Law_law_256 : decode b_Law_law 256 = .ok (.iload 5, 2) := by decide +kernel
theorem d_Law_law_258 : decode b_Law_law 258 = .ok (.if_icmp .eq 5, 3) := by decide +kernel
theorem d_Law_law_261 : decode b_Law_law 261 = .ok (.iconst 0, 1) := by decide +kernel
theorem d_Law_law_262 : decode b_Law_law 262 = .ok (.ireturn, 1) := by decide +kernel
theorem d_Law_law_263 : decode b_Law_law 263 = .ok (.iload 5, 2) := by decide +kernel
theorem d_Law_law_265 : decode b_Law_law 265 = .ok (.ifCond .ne 15, 3) := by decide +kernel
theorem d_Law_law_268 : decode b_Law_law 268 = .ok (.aload_n 3, 1) := by decide +kernel
theorem d_Law_law_269 : decode b_Law_law 269 = .ok (.iconst 0, 1) := by decide +kernel
theorem d_Law_law_270 : decode b_Law_law 270 = .ok (.laload, 1) := by decide +kernel
theorem d_Law_law_271 : decode b_Law_law 271 = .ok (.iload 6, 2) := by decide +kernel
theorem d_Law_law_273 : decode b_Law_law 273 = .ok (.i2l, 1) := by decide +kernel
theorem d_Law_law_274 : decode b_Law_law 274 = .ok (.lcmp, 1) := by decide +kernel
theorem d_Law_law_275 : decode b_Law_law 275 = .ok (.ifCond .eq 5, 3) := by decide +kernel
theorem d_Law_law_278 : decode b_Law_law 278 = .ok (.iconst 0, 1) := by decide +kernel
theorem d_Law_law_279 : decode b_Law_law 279 = .ok (.ireturn, 1) := by decide +kernel
theorem d_Law_law_280 : decode b_Law_law 280 = .ok (.goto 367, 3) := by decide +kernel
theorem d_Law_law_283 : decode b_Law_law 283 = .ok (.aload_n 1, 1) := by decide +kernel
theorem d_Law_law_284 : decode b_Law_law 284 = .ok (.aload_n 0, 1) := by decide +kernel
theorem d_Law_law_285 : decode b_Law_law 285 = .ok (.iload 4, 2) := by decide +kernel
theorem d_Law_law_287 : decode b_Law_law 287 = .ok (.iconst 1, 1) := by decide +kernel
theorem d_Law_law_288 : decode b_Law_law 288 = .ok (.iadd, 1) := by decide +kernel
theorem d_Law_law_289 : decode b_Law_law 289 = .ok (.iaload, 1) := by decide +kernel
theorem d_Law_law_290 : decode b_Law_law 290 = .ok (.invokevirtual 49, 3) := by decide +kernel
theorem d_Law_law_293 : decode b_Law_law 293 = .ok (.aload_n 2, 1) := by decide +kernel
theorem d_Law_law_294 : decode b_Law_law 294 = .ok (.aload_n 0, 1) := by decide +kernel
theorem d_Law_law_295 : decode b_Law_law 295 = .ok (.iload 4, 2) := by decide +kernel
theorem d_Law_law_297 : decode b_Law_law 297 = .ok (.iconst 1, 1) := by decide +kernel
theorem d_Law_law_298 : decode b_Law_law 298 = .ok (.iadd, 1) := by decide +kernel
theorem d_Law_law_299 : decode b_Law_law 299 = .ok (.iaload, 1) := by decide +kernel
theorem d_Law_law_300 : decode b_Law_law 300 = .ok (.invokevirtual 53, 3) := by decide +kernel
theorem d_Law_law_303 : decode b_Law_law 303 = .ok (.if_icmp .eq 344, 3) := by decide +kernel
theorem d_Law_law_306 : decode b_Law_law 306 = .ok (.iconst 0, 1) := by decide +kernel
theorem d_Law_law_307 : decode b_Law_law 307 = .ok (.ireturn, 1) := by decide +kernel
theorem d_Law_law_308 : decode b_Law_law 308 = .ok (.aload_n 1, 1) := by decide +kernel
theorem d_Law_law_309 : decode b_Law_law 309 = .ok (.aload_n 0, 1) := by decide +kernel
theorem d_Law_law_310 : decode b_Law_law 310 = .ok (.iload 4, 2) := by decide +kernel
theorem d_Law_law_312 : decode b_Law_law 312 = .ok (.iconst 1, 1) := by decide +kernel
theorem d_Law_law_313 : decode b_Law_law 313 = .ok (.iadd, 1) := by decide +kernel
theorem d_Law_law_314 : decode b_Law_law 314 = .ok (.iaload, 1) := by decide +kernel
theorem d_Law_law_315 : decode b_Law_law 315 = .ok (.aload_n 0, 1) := by decide +kernel
theorem d_Law_law_316 : decode b_Law_law 316 = .ok (.iload 4, 2) := by decide +kernel
theorem d_Law_law_318 : decode b_Law_law 318 = .ok (.iconst 2, 1) := by decide +kernel
theorem d_Law_law_319 : decode b_Law_law 319 = .ok (.iadd, 1) := by decide +kernel
theorem d_Law_law_320 : decode b_Law_law 320 = .ok (.iaload, 1) := by decide +kernel
theorem d_Law_law_321 : decode b_Law_law 321 = .ok (.aload_n 0, 1) := by decide +kernel
theorem d_Law_law_322 : decode b_Law_law 322 = .ok (.iload 4, 2) := by decide +kernel
theorem d_Law_law_324 : decode b_Law_law 324 = .ok (.iconst 3, 1) := by decide +kernel
theorem d_Law_law_325 : decode b_Law_law 325 = .ok (.iadd, 1) := by decide +kernel
theorem d_Law_law_326 : decode b_Law_law 326 = .ok (.iaload, 1) := by decide +kernel
theorem d_Law_law_327 : decode b_Law_law 327 = .ok (.invokevirtual 54, 3) := by decide +kernel
theorem d_Law_law_330 : decode b_Law_law 330 = .ok (.aload_n 2, 1) := by decide +kernel
theorem d_Law_law_331 : decode b_Law_law 331 = .ok (.aload_n 0, 1) := by decide +kernel
theorem d_Law_law_332 : decode b_Law_law 332 = .ok (.iload 4, 2) := by decide +kernel
theorem d_Law_law_334 : decode b_Law_law 334 = .ok (.iconst 1, 1) := by decide +kernel
theorem d_Law_law_335 : decode b_Law_law 335 = .ok (.iadd, 1) := by decide +kernel
theorem d_Law_law_336 : decode b_Law_law 336 = .ok (.iaload, 1) := by decide +kernel
theorem d_Law_law_337 : decode b_Law_law 337 = .ok (.aload_n 0, 1) := by decide +kernel
theorem d_Law_law_338 : decode b_Law_law 338 = .ok (.iload 4, 2) := by decide +kernel
theorem d_Law_law_340 : decode b_Law_law 340 = .ok (.iconst 2, 1) := by decide +kernel
theorem d_Law_law_341 : decode b_Law_law 341 = .ok (.iadd, 1) := by decide +kernel
theorem d_Law_law_342 : decode b_Law_law 342 = .ok (.iaload, 1) := by decide +kernel
theorem d_Law_law_343 : decode b_Law_law 343 = .ok (.aload_n 0, 1) := by decide +kernel
theorem d_Law_law_344 : decode b_Law_law 344 = .ok (.iload 4, 2) := by decide +kernel
theorem d_Law_law_346 : decode b_Law_law 346 = .ok (.iconst 3, 1) := by decide +kernel
theorem d_Law_law_347 : decode b_Law_law 347 = .ok (.iadd, 1) := by decide +kernel
theorem d_Law_law_348 : decode b_Law_law 348 = .ok (.iaload, 1) := by decide +kernel
theorem d_Law_law_349 : decode b_Law_law 349 = .ok (.invokevirtual 58, 3) := by decide +kernel
theorem d_Law_law_352 : decode b_Law_law 352 = .ok (.if_icmp .eq 295, 3) := by decide +kernel
theorem d_Law_law_355 : decode b_Law_law 355 = .ok (.iconst 0, 1) := by decide +kernel
theorem d_Law_law_356 : decode b_Law_law 356 = .ok (.ireturn, 1) := by decide +kernel
theorem d_Law_law_357 : decode b_Law_law 357 = .ok (.aload_n 1, 1) := by decide +kernel
theorem d_Law_law_358 : decode b_Law_law 358 = .ok (.aload_n 0, 1) := by decide +kernel
theorem d_Law_law_359 : decode b_Law_law 359 = .ok (.iload 4, 2) := by decide +kernel
theorem d_Law_law_361 : decode b_Law_law 361 = .ok (.iconst 1, 1) := by decide +kernel
theorem d_Law_law_362 : decode b_Law_law 362 = .ok (.iadd, 1) := by decide +kernel
theorem d_Law_law_363 : decode b_Law_law 363 = .ok (.iaload, 1) := by decide +kernel
theorem d_Law_law_364 : decode b_Law_law 364 = .ok (.aload_n 0, 1) := by decide +kernel
theorem d_Law_law_365 : decode b_Law_law 365 = .ok (.iload 4, 2) := by decide +kernel
theorem d_Law_law_367 : decode b_Law_law 367 = .ok (.iconst 2, 1) := by decide +kernel
theorem d_Law_law_368 : decode b_Law_law 368 = .ok (.iadd, 1) := by decide +kernel
theorem d_Law_law_369 : decode b_Law_law 369 = .ok (.iaload, 1) := by decide +kernel
theorem d_Law_law_370 : decode b_Law_law 370 = .ok (.aload_n 0, 1) := by decide +kernel
theorem d_Law_law_371 : decode b_Law_law 371 = .ok (.iload 4, 2) := by decide +kernel
theorem d_Law_law_373 : decode b_Law_law 373 = .ok (.iconst 3, 1) := by decide +kernel
theorem d_Law_law_374 : decode b_Law_law 374 = .ok (.iadd, 1) := by decide +kernel
theorem d_Law_law_375 : decode b_Law_law 375 = .ok (.iaload, 1) := by decide +kernel
theorem d_Law_law_376 : decode b_Law_law 376 = .ok (.invokevirtual 59, 3) := by decide +kernel
theorem d_Law_law_379 : decode b_Law_law 379 = .ok (.aload_n 2, 1) := by decide +kernel
theorem d_Law_law_380 : decode b_Law_law 380 = .ok (.aload_n 0, 1) := by decide +kernel
theorem d_Law_law_381 : decode b_Law_law 381 = .ok (.iload 4, 2) := by decide +kernel
theorem d_Law_law_383 : decode b_Law_law 383 = .ok (.iconst 1, 1) := by decide +kernel
theorem d_Law_law_384 : decode b_Law_law 384 = .ok (.iadd, 1) := by decide +kernel
theorem d_Law_law_385 : decode b_Law_law 385 = .ok (.iaload, 1) := by decide +kernel
theorem d_Law_law_386 : decode b_Law_law 386 = .ok (.aload_n 0, 1) := by decide +kernel
theorem d_Law_law_387 : decode b_Law_law 387 = .ok (.iload 4, 2) := by decide +kernel
theorem d_Law_law_389 : decode b_Law_law 389 = .ok (.iconst 2, 1) := by decide +kernel
theorem d_Law_law_390 : decode b_Law_law 390 = .ok (.iadd, 1) := by decide +kernel
theorem d_Law_law_391 : decode b_Law_law 391 = .ok (.iaload, 1) := by decide +kernel
theorem d_Law_law_392 : decode b_Law_law 392 = .ok (.aload_n 0, 1) := by decide +kernel
theorem d_Law_law_393 : decode b_Law_law 393 = .ok (.iload 4, 2) := by decide +kernel
theorem d_Law_law_395 : decode b_Law_law 395 = .ok (.iconst 3, 1) := by decide +kernel
theorem d_Law_law_396 : decode b_Law_law 396 = .ok (.iadd, 1) := by decide +kernel
theorem d_Law_law_397 : decode b_Law_law 397 = .ok (.iaload, 1) := by decide +kernel
theorem d_Law_law_398 : decode b_Law_law 398 = .ok (.invokevirtual 62, 3) := by decide +kernel
theorem d_Law_law_401 : decode b_Law_law 401 = .ok (.if_icmp .eq 246, 3) := by decide +kernel
theorem d_Law_law_404 : decode b_Law_law 404 = .ok (.iconst 0, 1) := by decide +kernel
theorem d_Law_law_405 : decode b_Law_law 405 = .ok (.ireturn, 1) := by decide +kernel
theorem d_Law_law_406 : decode b_Law_law 406 = .ok (.aload_n 1, 1) := by decide +kernel
theorem d_Law_law_407 : decode b_Law_law 407 = .ok (.aload_n 0, 1) := by decide +kernel
theorem d_Law_law_408 : decode b_Law_law 408 = .ok (.iload 4, 2) := by decide +kernel
theorem d_Law_law_410 : decode b_Law_law 410 = .ok (.iconst 1, 1) := by decide +kernel
theorem d_Law_law_411 : decode b_Law_law 411 = .ok (.iadd, 1) := by decide +kernel
theorem d_Law_law_412 : decode b_Law_law 412 = .ok (.iaload, 1) := by decide +kernel
theorem d_Law_law_413 : decode b_Law_law 413 = .ok (.invokevirtual 63, 3) := by decide +kernel
theorem d_Law_law_416 : decode b_Law_law 416 = .ok (.aload_n 2, 1) := by decide +kernel
theorem d_Law_law_417 : decode b_Law_law 417 = .ok (.aload_n 0, 1) := by decide +kernel
theorem d_Law_law_418 : decode b_Law_law 418 = .ok (.iload 4, 2) := by decide +kernel
theorem d_Law_law_420 : decode b_Law_law 420 = .ok (.iconst 1, 1) := by decide +kernel
theorem d_Law_law_421 : decode b_Law_law 421 = .ok (.iadd, 1) := by decide +kernel
theorem d_Law_law_422 : decode b_Law_law 422 = .ok (.iaload, 1) := by decide +kernel
theorem d_Law_law_423 : decode b_Law_law 423 = .ok (.invokevirtual 66, 3) := by decide +kernel
theorem d_Law_law_426 : decode b_Law_law 426 = .ok (.if_icmp .eq 221, 3) := by decide +kernel
theorem d_Law_law_429 : decode b_Law_law 429 = .ok (.iconst 0, 1) := by decide +kernel
theorem d_Law_law_430 : decode b_Law_law 430 = .ok (.ireturn, 1) := by decide +kernel
theorem d_Law_law_431 : decode b_Law_law 431 = .ok (.aload_n 1, 1) := by decide +kernel
theorem d_Law_law_432 : decode b_Law_law 432 = .ok (.invokevirtual 67, 3) := by decide +kernel
theorem d_Law_law_435 : decode b_Law_law 435 = .ok (.aload_n 2, 1) := by decide +kernel
theorem d_Law_law_436 : decode b_Law_law 436 = .ok (.invokevirtual 70, 3) := by decide +kernel
theorem d_Law_law_439 : decode b_Law_law 439 = .ok (.if_icmp .eq 208, 3) := by decide +kernel
theorem d_Law_law_442 : decode b_Law_law 442 = .ok (.iconst 0, 1) := by decide +kernel
theorem d_Law_law_443 : decode b_Law_law 443 = .ok (.ireturn, 1) := by decide +kernel
theorem d_Law_law_444 : decode b_Law_law 444 = .ok (.aload_n 1, 1) := by decide +kernel
theorem d_Law_law_445 : decode b_Law_law 445 = .ok (.aload_n 0, 1) := by decide +kernel
theorem d_Law_law_446 : decode b_Law_law 446 = .ok (.iload 4, 2) := by decide +kernel
theorem d_Law_law_448 : decode b_Law_law 448 = .ok (.iconst 1, 1) := by decide +kernel
theorem d_Law_law_449 : decode b_Law_law 449 = .ok (.iadd, 1) := by decide +kernel
theorem d_Law_law_450 : decode b_Law_law 450 = .ok (.iaload, 1) := by decide +kernel
theorem d_Law_law_451 : decode b_Law_law 451 = .ok (.aload_n 0, 1) := by decide +kernel
theorem d_Law_law_452 : decode b_Law_law 452 = .ok (.iload 4, 2) := by decide +kernel
theorem d_Law_law_454 : decode b_Law_law 454 = .ok (.iconst 2, 1) := by decide +kernel
theorem d_Law_law_455 : decode b_Law_law 455 = .ok (.iadd, 1) := by decide +kernel
theorem d_Law_law_456 : decode b_Law_law 456 = .ok (.iaload, 1) := by decide +kernel
theorem d_Law_law_457 : decode b_Law_law 457 = .ok (.aload_n 0, 1) := by decide +kernel
theorem d_Law_law_458 : decode b_Law_law 458 = .ok (.iload 4, 2) := by decide +kernel
theorem d_Law_law_460 : decode b_Law_law 460 = .ok (.iconst 3, 1) := by decide +kernel
theorem d_Law_law_461 : decode b_Law_law 461 = .ok (.iadd, 1) := by decide +kernel
theorem d_Law_law_462 : decode b_Law_law 462 = .ok (.iaload, 1) := by decide +kernel
theorem d_Law_law_463 : decode b_Law_law 463 = .ok (.aload_n 0, 1) := by decide +kernel
theorem d_Law_law_464 : decode b_Law_law 464 = .ok (.iload 4, 2) := by decide +kernel
theorem d_Law_law_466 : decode b_Law_law 466 = .ok (.iconst 4, 1) := by decide +kernel
theorem d_Law_law_467 : decode b_Law_law 467 = .ok (.iadd, 1) := by decide +kernel
theorem d_Law_law_468 : decode b_Law_law 468 = .ok (.iaload, 1) := by decide +kernel
theorem d_Law_law_469 : decode b_Law_law 469 = .ok (.aload_n 3, 1) := by decide +kernel
theorem d_Law_law_470 : decode b_Law_law 470 = .ok (.invokestatic 71, 3) := by decide +kernel
theorem d_Law_law_473 : decode b_Law_law 473 = .ok (.istore 5, 2) := by decide +kernel
theorem d_Law_law_475 : decode b_Law_law 475 = .ok (.aload_n 2, 1) := by decide +kernel
theorem d_Law_law_476 : decode b_Law_law 476 = .ok (.aload_n 0, 1) := by decide +kernel
theorem d_Law_law_477 : decode b_Law_law 477 = .ok (.iload 4, 2) := by decide +kernel
theorem d_Law_law_479 : decode b_Law_law 479 = .ok (.iconst 1, 1) := by decide +kernel
theorem d_Law_law_480 : decode b_Law_law 480 = .ok (.iadd, 1) := by decide +kernel
theorem d_Law_law_481 : decode b_Law_law 481 = .ok (.iaload, 1) := by decide +kernel
theorem d_Law_law_482 : decode b_Law_law 482 = .ok (.aload_n 0, 1) := by decide +kernel
theorem d_Law_law_483 : decode b_Law_law 483 = .ok (.iload 4, 2) := by decide +kernel
theorem d_Law_law_485 : decode b_Law_law 485 = .ok (.iconst 2, 1) := by decide +kernel
theorem d_Law_law_486 : decode b_Law_law 486 = .ok (.iadd, 1) := by decide +kernel
theorem d_Law_law_487 : decode b_Law_law 487 = .ok (.iaload, 1) := by decide +kernel
theorem d_Law_law_488 : decode b_Law_law 488 = .ok (.aload_n 0, 1) := by decide +kernel
theorem d_Law_law_489 : decode b_Law_law 489 = .ok (.iload 4, 2) := by decide +kernel
theorem d_Law_law_491 : decode b_Law_law 491 = .ok (.iconst 3, 1) := by decide +kernel
theorem d_Law_law_492 : decode b_Law_law 492 = .ok (.iadd, 1) := by decide +kernel
theorem d_Law_law_493 : decode b_Law_law 493 = .ok (.iaload, 1) := by decide +kernel
theorem d_Law_law_494 : decode b_Law_law 494 = .ok (.aload_n 0, 1) := by decide +kernel
theorem d_Law_law_495 : decode b_Law_law 495 = .ok (.iload 4, 2) := by decide +kernel
theorem d_Law_law_497 : decode b_Law_law 497 = .ok (.iconst 4, 1) := by decide +kernel
theorem d_Law_law_498 : decode b_Law_law 498 = .ok (.iadd, 1) := by decide +kernel
theorem d_Law_law_499 : decode b_Law_law 499 = .ok (.iaload, 1) := by decide +kernel
theorem d_Law_law_500 : decode b_Law_law 500 = .ok (.invokevirtual 73, 3) := by decide +kernel
theorem d_Law_law_503 : decode b_Law_law 503 = .ok (.istore 6, 2) := by decide +kernel
theorem d_Law_law_505 : decode b_Law_law 505 = .ok (.aload_n 2, 1) := by decide +kernel
theorem d_Law_law_506 : decode b_Law_law 506 = .ok (.invokevirtual 46, 3) := by decide +kernel
theorem d_Law_law_509 : decode b_Law_law 509 = .ok (.iload 5, 2) := by decide +kernel
theorem d_Law_law_511 : decode b_Law_law 511 = .ok (.if_icmp .eq 5, 3) := by decide +kernel
theorem d_Law_law_514 : decode b_Law_law 514 = .ok (.iconst 0, 1) := by decide +kernel
theorem d_Law_law_515 : decode b_Law_law 515 = .ok (.ireturn, 1) := by decide +kernel
theorem d_Law_law_516 : decode b_Law_law 516 = .ok (.iload 5, 2) := by decide +kernel
theorem d_Law_law_518 : decode b_Law_law 518 = .ok (.ifCond .ne 15, 3) := by decide +kernel
theorem d_Law_law_521 : decode b_Law_law 521 = .ok (.aload_n 3, 1) := by decide +kernel
theorem d_Law_law_522 : decode b_Law_law 522 = .ok (.iconst 0, 1) := by decide +kernel
theorem d_Law_law_523 : decode b_Law_law 523 = .ok (.laload, 1) := by decide +kernel
theorem d_Law_law_524 : decode b_Law_law 524 = .ok (.iload 6, 2) := by decide +kernel
theorem d_Law_law_526 : decode b_Law_law 526 = .ok (.i2l, 1) := by decide +kernel
theorem d_Law_law_527 : decode b_Law_law 527 = .ok (.lcmp, 1) := by decide +kernel
theorem d_Law_law_528 : decode b_Law_law 528 = .ok (.ifCond .eq 5, 3) := by decide +kernel
theorem d_Law_law_531 : decode b_Law_law 531 = .ok (.iconst 0, 1) := by decide +kernel
theorem d_Law_law_532 : decode b_Law_law 532 = .ok (.ireturn, 1) := by decide +kernel
theorem d_Law_law_533 : decode b_Law_law 533 = .ok (.goto 114, 3) := by decide +kernel
theorem d_Law_law_536 : decode b_Law_law 536 = .ok (.aload_n 1, 1) := by decide +kernel
theorem d_Law_law_537 : decode b_Law_law 537 = .ok (.aload_n 0, 1) := by decide +kernel
theorem d_Law_law_538 : decode b_Law_law 538 = .ok (.iload 4, 2) := by decide +kernel
theorem d_Law_law_540 : decode b_Law_law 540 = .ok (.iconst 1, 1) := by decide +kernel
theorem d_Law_law_541 : decode b_Law_law 541 = .ok (.iadd, 1) := by decide +kernel
theorem d_Law_law_542 : decode b_Law_law 542 = .ok (.iaload, 1) := by decide +kernel
theorem d_Law_law_543 : decode b_Law_law 543 = .ok (.aload_n 0, 1) := by decide +kernel
theorem d_Law_law_544 : decode b_Law_law 544 = .ok (.iload 4, 2) := by decide +kernel
theorem d_Law_law_546 : decode b_Law_law 546 = .ok (.iconst 2, 1) := by decide +kernel
theorem d_Law_law_547 : decode b_Law_law 547 = .ok (.iadd, 1) := by decide +kernel
theorem d_Law_law_548 : decode b_Law_law 548 = .ok (.iaload, 1) := by decide +kernel
theorem d_Law_law_549 : decode b_Law_law 549 = .ok (.invokevirtual 74, 3) := by decide +kernel
theorem d_Law_law_552 : decode b_Law_law 552 = .ok (.aload_n 2, 1) := by decide +kernel
theorem d_Law_law_553 : decode b_Law_law 553 = .ok (.aload_n 0, 1) := by decide +kernel
theorem d_Law_law_554 : decode b_Law_law 554 = .ok (.iload 4, 2) := by decide +kernel
theorem d_Law_law_556 : decode b_Law_law 556 = .ok (.iconst 1, 1) := by decide +kernel
theorem d_Law_law_557 : decode b_Law_law 557 = .ok (.iadd, 1) := by decide +kernel
theorem d_Law_law_558 : decode b_Law_law 558 = .ok (.iaload, 1) := by decide +kernel
theorem d_Law_law_559 : decode b_Law_law 559 = .ok (.aload_n 0, 1) := by decide +kernel
theorem d_Law_law_560 : decode b_Law_law 560 = .ok (.iload 4, 2) := by decide +kernel
theorem d_Law_law_562 : decode b_Law_law 562 = .ok (.iconst 2, 1) := by decide +kernel
theorem d_Law_law_563 : decode b_Law_law 563 = .ok (.iadd, 1) := by decide +kernel
theorem d_Law_law_564 : decode b_Law_law 564 = .ok (.iaload, 1) := by decide +kernel
theorem d_Law_law_565 : decode b_Law_law 565 = .ok (.invokevirtual 77, 3) := by decide +kernel
theorem d_Law_law_568 : decode b_Law_law 568 = .ok (.if_icmp .eq 79, 3) := by decide +kernel
theorem d_Law_law_571 : decode b_Law_law 571 = .ok (.iconst 0, 1) := by decide +kernel
theorem d_Law_law_572 : decode b_Law_law 572 = .ok (.ireturn, 1) := by decide +kernel
theorem d_Law_law_573 : decode b_Law_law 573 = .ok (.aload_n 1, 1) := by decide +kernel
theorem d_Law_law_574 : decode b_Law_law 574 = .ok (.aload_n 0, 1) := by decide +kernel
theorem d_Law_law_575 : decode b_Law_law 575 = .ok (.iload 4, 2) := by decide +kernel
theorem d_Law_law_577 : decode b_Law_law 577 = .ok (.iconst 1, 1) := by decide +kernel
theorem d_Law_law_578 : decode b_Law_law 578 = .ok (.iadd, 1) := by decide +kernel
theorem d_Law_law_579 : decode b_Law_law 579 = .ok (.iaload, 1) := by decide +kernel
theorem d_Law_law_580 : decode b_Law_law 580 = .ok (.aload_n 0, 1) := by decide +kernel
theorem d_Law_law_581 : decode b_Law_law 581 = .ok (.iload 4, 2) := by decide +kernel
theorem d_Law_law_583 : decode b_Law_law 583 = .ok (.iconst 2, 1) := by decide +kernel
theorem d_Law_law_584 : decode b_Law_law 584 = .ok (.iadd, 1) := by decide +kernel
theorem d_Law_law_585 : decode b_Law_law 585 = .ok (.iaload, 1) := by decide +kernel
theorem d_Law_law_586 : decode b_Law_law 586 = .ok (.aload_n 0, 1) := by decide +kernel
theorem d_Law_law_587 : decode b_Law_law 587 = .ok (.iload 4, 2) := by decide +kernel
theorem d_Law_law_589 : decode b_Law_law 589 = .ok (.iconst 3, 1) := by decide +kernel
theorem d_Law_law_590 : decode b_Law_law 590 = .ok (.iadd, 1) := by decide +kernel
theorem d_Law_law_591 : decode b_Law_law 591 = .ok (.iaload, 1) := by decide +kernel
theorem d_Law_law_592 : decode b_Law_law 592 = .ok (.invokevirtual 78, 3) := by decide +kernel
theorem d_Law_law_595 : decode b_Law_law 595 = .ok (.aload_n 2, 1) := by decide +kernel
theorem d_Law_law_596 : decode b_Law_law 596 = .ok (.aload_n 0, 1) := by decide +kernel
theorem d_Law_law_597 : decode b_Law_law 597 = .ok (.iload 4, 2) := by decide +kernel
theorem d_Law_law_599 : decode b_Law_law 599 = .ok (.iconst 1, 1) := by decide +kernel
theorem d_Law_law_600 : decode b_Law_law 600 = .ok (.iadd, 1) := by decide +kernel
theorem d_Law_law_601 : decode b_Law_law 601 = .ok (.iaload, 1) := by decide +kernel
theorem d_Law_law_602 : decode b_Law_law 602 = .ok (.aload_n 0, 1) := by decide +kernel
theorem d_Law_law_603 : decode b_Law_law 603 = .ok (.iload 4, 2) := by decide +kernel
theorem d_Law_law_605 : decode b_Law_law 605 = .ok (.iconst 2, 1) := by decide +kernel
theorem d_Law_law_606 : decode b_Law_law 606 = .ok (.iadd, 1) := by decide +kernel
theorem d_Law_law_607 : decode b_Law_law 607 = .ok (.iaload, 1) := by decide +kernel
theorem d_Law_law_608 : decode b_Law_law 608 = .ok (.aload_n 0, 1) := by decide +kernel
theorem d_Law_law_609 : decode b_Law_law 609 = .ok (.iload 4, 2) := by decide +kernel
theorem d_Law_law_611 : decode b_Law_law 611 = .ok (.iconst 3, 1) := by decide +kernel
theorem d_Law_law_612 : decode b_Law_law 612 = .ok (.iadd, 1) := by decide +kernel
theorem d_Law_law_613 : decode b_Law_law 613 = .ok (.iaload, 1) := by decide +kernel
theorem d_Law_law_614 : decode b_Law_law 614 = .ok (.invokevirtual 81, 3) := by decide +kernel
theorem d_Law_law_617 : decode b_Law_law 617 = .ok (.if_icmp .eq 30, 3) := by decide +kernel
theorem d_Law_law_620 : decode b_Law_law 620 = .ok (.iconst 0, 1) := by decide +kernel
theorem d_Law_law_621 : decode b_Law_law 621 = .ok (.ireturn, 1) := by decide +kernel
theorem d_Law_law_622 : decode b_Law_law 622 = .ok (.aload_n 1, 1) := by decide +kernel
theorem d_Law_law_623 : decode b_Law_law 623 = .ok (.aload_n 0, 1) := by decide +kernel
theorem d_Law_law_624 : decode b_Law_law 624 = .ok (.iload 4, 2) := by decide +kernel
theorem d_Law_law_626 : decode b_Law_law 626 = .ok (.iconst 1, 1) := by decide +kernel
theorem d_Law_law_627 : decode b_Law_law 627 = .ok (.iadd, 1) := by decide +kernel
theorem d_Law_law_628 : decode b_Law_law 628 = .ok (.iaload, 1) := by decide +kernel
theorem d_Law_law_629 : decode b_Law_law 629 = .ok (.invokevirtual 82, 3) := by decide +kernel
theorem d_Law_law_632 : decode b_Law_law 632 = .ok (.aload_n 2, 1) := by decide +kernel
theorem d_Law_law_633 : decode b_Law_law 633 = .ok (.aload_n 0, 1) := by decide +kernel
theorem d_Law_law_634 : decode b_Law_law 634 = .ok (.iload 4, 2) := by decide +kernel
theorem d_Law_law_636 : decode b_Law_law 636 = .ok (.iconst 1, 1) := by decide +kernel
theorem d_Law_law_637 : decode b_Law_law 637 = .ok (.iadd, 1) := by decide +kernel
theorem d_Law_law_638 : decode b_Law_law 638 = .ok (.iaload, 1) := by decide +kernel
theorem d_Law_law_639 : decode b_Law_law 639 = .ok (.invokevirtual 85, 3) := by decide +kernel
theorem d_Law_law_642 : decode b_Law_law 642 = .ok (.if_icmp .eq 5, 3) := by decide +kernel
theorem d_Law_law_645 : decode b_Law_law 645 = .ok (.iconst 0, 1) := by decide +kernel
theorem d_Law_law_646 : decode b_Law_law 646 = .ok (.ireturn, 1) := by decide +kernel
theorem d_Law_law_647 : decode b_Law_law 647 = .ok (.iinc 4 5, 3) := by decide +kernel
theorem d_Law_law_650 : decode b_Law_law 650 = .ok (.goto (-627), 3) := by decide +kernel
theorem d_Law_law_653 : decode b_Law_law 653 = .ok (.iconst 1, 1) := by decide +kernel
theorem d_Law_law_654 : decode b_Law_law 654 = .ok (.ireturn, 1) := by decide +kernel
end
section
/-! more decode rows -/
abbrev b_Arrays_fill : ByteArray := prog_23_method_103_code
abbrev J_Arrays_fill : MethodName × ByteArray × Nat × Option FieldType := (⟨"java/util/Arrays", "fill", "([II)V"⟩, b_Arrays_fill, 4, none)
theorem d_Arrays_fill_0 : decode b_Arrays_fill 0 = .ok (.iconst 0, 1) := by decide +kernel
theorem d_Arrays_fill_1 : decode b_Arrays_fill 1 = .ok (.istore_n 2, 1) := by decide +kernel
theorem d_Arrays_fill_2 : decode b_Arrays_fill 2 = .ok (.aload_n 0, 1) := by decide +kernel
theorem d_Arrays_fill_3 : decode b_Arrays_fill 3 = .ok (.arraylength, 1) := by decide +kernel
theorem d_Arrays_fill_4 : decode b_Arrays_fill 4 = .ok (.istore_n 3, 1) := by decide +kernel
theorem d_Arrays_fill_5 : decode b_Arrays_fill 5 = .ok (.iload_n 2, 1) := by decide +kernel
theorem d_Arrays_fill_6 : decode b_Arrays_fill 6 = .ok (.iload_n 3, 1) := by decide +kernel
theorem d_Arrays_fill_7 : decode b_Arrays_fill 7 = .ok (.if_icmp .ge 13, 3) := by decide +kernel
theorem d_Arrays_fill_10 : decode b_Arrays_fill 10 = .ok (.aload_n 0, 1) := by decide +kernel
theorem d_Arrays_fill_11 : decode b_Arrays_fill 11 = .ok (.iload_n 2, 1) := by decide +kernel
theorem d_Arrays_fill_12 : decode b_Arrays_fill 12 = .ok (.iload_n 1, 1) := by decide +kernel
theorem d_Arrays_fill_13 : decode b_Arrays_fill 13 = .ok (.iastore, 1) := by decide +kernel
theorem d_Arrays_fill_14 : decode b_Arrays_fill 14 = .ok (.iinc 2 1, 3) := by decide +kernel
theorem d_Arrays_fill_17 : decode b_Arrays_fill 17 = .ok (.goto (-12), 3) := by decide +kernel
theorem d_Arrays_fill_20 : decode b_Arrays_fill 20 = .ok (.return_, 1) := by decide +kernel
end
section
/-! static facts' forms -/
abbrev xv_J : Type := MethodName × ByteArray × Nat × Option FieldType
def xv_Fd (own : String) (index ci j : Nat) (ty : FieldType) : Prop := ci < xv_nc ∧ j < xv_nf ci ∧ xv_ty ci j = ty ∧ Cond.fieldLink own index (xv_T ci j).1 (xv_T ci j).2.1 (xv_T ci j).2.2.1 ∈ xv_BIG
def xv_mV (J : xv_J) (n : Nat) : Prop := Cond.code J.1 J.2.1 J.2.2.1 J.2.2.2 ∈ xv_BIG ∧ Cond.instanceMethod J.1 ∈ xv_BIG ∧ Cond.selects J.1.cls J.1 J.1 ∈ xv_BIG ∧ Cond.initialized J.1.cls ∈ xv_BIG ∧ (J.1.cls ≠ "java/lang/invoke/MethodHandle" ∧ J.1.cls ≠ "java/lang/invoke/VarHandle" ∧ (parseMethodDescriptor J.1.desc).map (fun d => d.parameters.length) = some n) ∧ J.2.2.1 ≤ 40
def xv_mS (J : xv_J) (n : Nat) : Prop := Cond.code J.1 J.2.1 J.2.2.1 J.2.2.2 ∈ xv_BIG ∧ Cond.static J.1 ∈ xv_BIG ∧ Cond.initialized J.1.cls ∈ xv_BIG ∧ (J.1.cls ≠ "java/lang/invoke/MethodHandle" ∧ J.1.cls ≠ "java/lang/invoke/VarHandle" ∧ (parseMethodDescriptor J.1.desc).map (fun d => d.parameters.length) = some n) ∧ J.2.2.1 ≤ 40
def xv_mI (J : xv_J) (n : Nat) : Prop := Cond.code J.1 J.2.1 J.2.2.1 J.2.2.2 ∈ xv_BIG ∧ Cond.instanceMethod J.1 ∈ xv_BIG ∧ J.1.name = "<init>" ∧ J.2.2.2 = none ∧ Cond.initialized J.1.cls ∈ xv_BIG ∧ (J.1.cls ≠ "java/lang/invoke/MethodHandle" ∧ J.1.cls ≠ "java/lang/invoke/VarHandle" ∧ (parseMethodDescriptor J.1.desc).map (fun d => d.parameters.length) = some n) ∧ J.2.2.1 ≤ 40
end
section
/-! static facts: what fields, links and methods are -/
set_option maxRecDepth 100000 in
theorem f_Desk_10 : xv_Fd "FaslDesk" 10 10 0 (.object "FaslDesk$Form") := ⟨by decide, by decide, by decide +kernel, xv_in 299 rfl rfl⟩
set_option maxRecDepth 100000 in
theorem f_Desk_19 : xv_Fd "FaslDesk" 19 10 1 (.object "FaslDesk$Interpreter") := ⟨by decide, by decide, by decide +kernel, xv_in 300 rfl rfl⟩
set_option maxRecDepth 100000 in
theorem f_Desk_26 : xv_Fd "FaslDesk" 26 10 2 (.object "FaslDesk$Compiler") := ⟨by decide, by decide, by decide +kernel, xv_in 301 rfl rfl⟩
set_option maxRecDepth 100000 in
theorem f_Desk_33 : xv_Fd "FaslDesk" 33 10 3 (.object "FaslDesk$Archive") := ⟨by decide, by decide, by decide +kernel, xv_in 302 rfl rfl⟩
set_option maxRecDepth 100000 in
theorem f_Desk_40 : xv_Fd "FaslDesk" 40 10 4 (.object "FaslDesk$Image") := ⟨by decide, by decide, by decide +kernel, xv_in 303 rfl rfl⟩
set_option maxRecDepth 100000 in
theorem f_Desk_44 : xv_Fd "FaslDesk" 44 10 7 .int := ⟨by decide, by decide, by decide +kernel, xv_in 306 rfl rfl⟩
set_option maxRecDepth 100000 in
theorem f_Desk_52 : xv_Fd "FaslDesk" 52 0 2 .int := ⟨by decide, by decide, by decide +kernel, xv_in 43 rfl rfl⟩
set_option maxRecDepth 100000 in
theorem f_Desk_66 : xv_Fd "FaslDesk" 66 3 0 (.array (.object "FaslDesk$Form")) := ⟨by decide, by decide, by decide +kernel, xv_in 109 rfl rfl⟩
set_option maxRecDepth 100000 in
theorem f_Desk_86 : xv_Fd "FaslDesk" 86 8 0 (.array (.object "FaslDesk$Entry")) := ⟨by decide, by decide, by decide +kernel, xv_in 257 rfl rfl⟩
set_option maxRecDepth 100000 in
theorem f_Desk_127 : xv_Fd "FaslDesk" 127 5 0 (.object "FaslDesk$Code") := ⟨by decide, by decide, by decide +kernel, xv_in 209 rfl rfl⟩
set_option maxRecDepth 100000 in
theorem f_Desk_131 : xv_Fd "FaslDesk" 131 4 0 (.array .int) := ⟨by decide, by decide, by decide +kernel, xv_in 180 rfl rfl⟩
set_option maxRecDepth 100000 in
theorem f_Desk_135 : xv_Fd "FaslDesk" 135 5 1 (.array .boolean) := ⟨by decide, by decide, by decide +kernel, xv_in 213 rfl rfl⟩
set_option maxRecDepth 100000 in
theorem f_Desk_147 : xv_Fd "FaslDesk" 147 10 6 .int := ⟨by decide, by decide, by decide +kernel, xv_in 305 rfl rfl⟩
set_option maxRecDepth 100000 in
theorem f_Desk_150 : xv_Fd "FaslDesk" 150 8 4 .int := ⟨by decide, by decide, by decide +kernel, xv_in 266 rfl rfl⟩
set_option maxRecDepth 100000 in
theorem f_Desk_157 : xv_Fd "FaslDesk" 157 10 5 .int := ⟨by decide, by decide, by decide +kernel, xv_in 304 rfl rfl⟩
set_option maxRecDepth 100000 in
theorem f_Desk_169 : xv_Fd "FaslDesk" 169 5 2 .int := ⟨by decide, by decide, by decide +kernel, xv_in 217 rfl rfl⟩
set_option maxRecDepth 100000 in
theorem f_Desk_172 : xv_Fd "FaslDesk" 172 5 3 .int := ⟨by decide, by decide, by decide +kernel, xv_in 219 rfl rfl⟩
set_option maxRecDepth 100000 in
theorem f_Desk_175 : xv_Fd "FaslDesk" 175 4 3 .int := ⟨by decide, by decide, by decide +kernel, xv_in 196 rfl rfl⟩
set_option maxRecDepth 100000 in
theorem f_Desk_176 : xv_Fd "FaslDesk" 176 5 4 .int := ⟨by decide, by decide, by decide +kernel, xv_in 223 rfl rfl⟩
set_option maxRecDepth 100000 in
theorem f_Desk_179 : xv_Fd "FaslDesk" 179 5 5 .int := ⟨by decide, by decide, by decide +kernel, xv_in 226 rfl rfl⟩
set_option maxRecDepth 100000 in
theorem f_Desk_186 : xv_Fd "FaslDesk" 186 4 1 (.array .int) := ⟨by decide, by decide, by decide +kernel, xv_in 185 rfl rfl⟩
set_option maxRecDepth 100000 in
theorem f_Desk_189 : xv_Fd "FaslDesk" 189 4 2 (.array .int) := ⟨by decide, by decide, by decide +kernel, xv_in 190 rfl rfl⟩
set_option maxRecDepth 100000 in
theorem f_Desk_195 : xv_Fd "FaslDesk" 195 8 1 .int := ⟨by decide, by decide, by decide +kernel, xv_in 260 rfl rfl⟩
set_option maxRecDepth 100000 in
theorem f_Desk_197 : xv_Fd "FaslDesk" 197 8 3 .int := ⟨by decide, by decide, by decide +kernel, xv_in 264 rfl rfl⟩
set_option maxRecDepth 100000 in
theorem f_Desk_201 : xv_Fd "FaslDesk" 201 8 2 .int := ⟨by decide, by decide, by decide +kernel, xv_in 262 rfl rfl⟩
set_option maxRecDepth 100000 in
theorem f_Desk_204 : xv_Fd "FaslDesk" 204 5 6 .boolean := ⟨by decide, by decide, by decide +kernel, xv_in 229 rfl rfl⟩
set_option maxRecDepth 100000 in
theorem f_Arch_11 : xv_Fd "FaslDesk$Archive" 11 8 0 (.array (.object "FaslDesk$Entry")) := ⟨by decide, by decide, by decide +kernel, xv_in 255 rfl rfl⟩
set_option maxRecDepth 100000 in
theorem f_Arch_20 : xv_Fd "FaslDesk$Archive" 20 8 5 (.object "FaslDesk$CodeCheck") := ⟨by decide, by decide, by decide +kernel, xv_in 267 rfl rfl⟩
set_option maxRecDepth 100000 in
theorem f_Arch_25 : xv_Fd "FaslDesk$Archive" 25 8 1 .int := ⟨by decide, by decide, by decide +kernel, xv_in 258 rfl rfl⟩
set_option maxRecDepth 100000 in
theorem f_Arch_29 : xv_Fd "FaslDesk$Archive" 29 5 2 .int := ⟨by decide, by decide, by decide +kernel, xv_in 215 rfl rfl⟩
set_option maxRecDepth 100000 in
theorem f_Arch_38 : xv_Fd "FaslDesk$Archive" 38 8 3 .int := ⟨by decide, by decide, by decide +kernel, xv_in 263 rfl rfl⟩
set_option maxRecDepth 100000 in
theorem f_Arch_41 : xv_Fd "FaslDesk$Archive" 41 8 4 .int := ⟨by decide, by decide, by decide +kernel, xv_in 265 rfl rfl⟩
set_option maxRecDepth 100000 in
theorem f_Arch_44 : xv_Fd "FaslDesk$Archive" 44 8 2 .int := ⟨by decide, by decide, by decide +kernel, xv_in 261 rfl rfl⟩
set_option maxRecDepth 100000 in
theorem f_Arch_65 : xv_Fd "FaslDesk$Archive" 65 5 6 .boolean := ⟨by decide, by decide, by decide +kernel, xv_in 228 rfl rfl⟩
set_option maxRecDepth 100000 in
theorem f_Arch_69 : xv_Fd "FaslDesk$Archive" 69 5 5 .int := ⟨by decide, by decide, by decide +kernel, xv_in 225 rfl rfl⟩
set_option maxRecDepth 100000 in
theorem f_Arch_72 : xv_Fd "FaslDesk$Archive" 72 5 0 (.object "FaslDesk$Code") := ⟨by decide, by decide, by decide +kernel, xv_in 210 rfl rfl⟩
set_option maxRecDepth 100000 in
theorem f_Arch_76 : xv_Fd "FaslDesk$Archive" 76 5 4 .int := ⟨by decide, by decide, by decide +kernel, xv_in 222 rfl rfl⟩
set_option maxRecDepth 100000 in
theorem f_Code_9 : xv_Fd "FaslDesk$Code" 9 4 0 (.array .int) := ⟨by decide, by decide, by decide +kernel, xv_in 176 rfl rfl⟩
set_option maxRecDepth 100000 in
theorem f_Code_15 : xv_Fd "FaslDesk$Code" 15 4 1 (.array .int) := ⟨by decide, by decide, by decide +kernel, xv_in 181 rfl rfl⟩
set_option maxRecDepth 100000 in
theorem f_Code_18 : xv_Fd "FaslDesk$Code" 18 4 2 (.array .int) := ⟨by decide, by decide, by decide +kernel, xv_in 186 rfl rfl⟩
set_option maxRecDepth 100000 in
theorem f_Code_25 : xv_Fd "FaslDesk$Code" 25 4 3 .int := ⟨by decide, by decide, by decide +kernel, xv_in 194 rfl rfl⟩
set_option maxRecDepth 100000 in
theorem f_Check_9 : xv_Fd "FaslDesk$CodeCheck" 9 7 0 (.array .int) := ⟨by decide, by decide, by decide +kernel, xv_in 152 rfl rfl⟩
set_option maxRecDepth 100000 in
theorem f_Check_15 : xv_Fd "FaslDesk$CodeCheck" 15 7 1 (.array .int) := ⟨by decide, by decide, by decide +kernel, xv_in 153 rfl rfl⟩
set_option maxRecDepth 100000 in
theorem f_Check_18 : xv_Fd "FaslDesk$CodeCheck" 18 7 3 (.object "FaslDesk$Code") := ⟨by decide, by decide, by decide +kernel, xv_in 155 rfl rfl⟩
set_option maxRecDepth 100000 in
theorem f_Check_22 : xv_Fd "FaslDesk$CodeCheck" 22 7 2 .int := ⟨by decide, by decide, by decide +kernel, xv_in 154 rfl rfl⟩
set_option maxRecDepth 100000 in
theorem f_Check_26 : xv_Fd "FaslDesk$CodeCheck" 26 4 3 .int := ⟨by decide, by decide, by decide +kernel, xv_in 193 rfl rfl⟩
set_option maxRecDepth 100000 in
theorem f_Check_38 : xv_Fd "FaslDesk$CodeCheck" 38 4 0 (.array .int) := ⟨by decide, by decide, by decide +kernel, xv_in 177 rfl rfl⟩
set_option maxRecDepth 100000 in
theorem f_Check_47 : xv_Fd "FaslDesk$CodeCheck" 47 4 1 (.array .int) := ⟨by decide, by decide, by decide +kernel, xv_in 182 rfl rfl⟩
set_option maxRecDepth 100000 in
theorem f_Check_50 : xv_Fd "FaslDesk$CodeCheck" 50 4 2 (.array .int) := ⟨by decide, by decide, by decide +kernel, xv_in 187 rfl rfl⟩
set_option maxRecDepth 100000 in
theorem f_Comp_9 : xv_Fd "FaslDesk$Compiler" 9 6 0 (.object "FaslDesk$Form") := ⟨by decide, by decide, by decide +kernel, xv_in 125 rfl rfl⟩
set_option maxRecDepth 100000 in
theorem f_Comp_15 : xv_Fd "FaslDesk$Compiler" 15 6 1 (.object "FaslDesk$Entry") := ⟨by decide, by decide, by decide +kernel, xv_in 126 rfl rfl⟩
set_option maxRecDepth 100000 in
theorem f_Comp_19 : xv_Fd "FaslDesk$Compiler" 19 5 0 (.object "FaslDesk$Code") := ⟨by decide, by decide, by decide +kernel, xv_in 207 rfl rfl⟩
set_option maxRecDepth 100000 in
theorem f_Comp_25 : xv_Fd "FaslDesk$Compiler" 25 6 2 (.object "FaslDesk$Code") := ⟨by decide, by decide, by decide +kernel, xv_in 127 rfl rfl⟩
set_option maxRecDepth 100000 in
theorem f_Comp_26 : xv_Fd "FaslDesk$Compiler" 26 6 3 .int := ⟨by decide, by decide, by decide +kernel, xv_in 128 rfl rfl⟩
set_option maxRecDepth 100000 in
theorem f_Comp_30 : xv_Fd "FaslDesk$Compiler" 30 0 3 .int := ⟨by decide, by decide, by decide +kernel, xv_in 47 rfl rfl⟩
set_option maxRecDepth 100000 in
theorem f_Comp_58 : xv_Fd "FaslDesk$Compiler" 58 5 4 .int := ⟨by decide, by decide, by decide +kernel, xv_in 221 rfl rfl⟩
set_option maxRecDepth 100000 in
theorem f_Comp_67 : xv_Fd "FaslDesk$Compiler" 67 4 3 .int := ⟨by decide, by decide, by decide +kernel, xv_in 195 rfl rfl⟩
set_option maxRecDepth 100000 in
theorem f_Comp_70 : xv_Fd "FaslDesk$Compiler" 70 5 1 (.array .boolean) := ⟨by decide, by decide, by decide +kernel, xv_in 212 rfl rfl⟩
set_option maxRecDepth 100000 in
theorem f_Comp_74 : xv_Fd "FaslDesk$Compiler" 74 0 2 .int := ⟨by decide, by decide, by decide +kernel, xv_in 46 rfl rfl⟩
set_option maxRecDepth 100000 in
theorem f_Comp_75 : xv_Fd "FaslDesk$Compiler" 75 0 0 (.array .int) := ⟨by decide, by decide, by decide +kernel, xv_in 38 rfl rfl⟩
set_option maxRecDepth 100000 in
theorem f_Comp_78 : xv_Fd "FaslDesk$Compiler" 78 0 1 (.array .int) := ⟨by decide, by decide, by decide +kernel, xv_in 41 rfl rfl⟩
set_option maxRecDepth 100000 in
theorem f_Comp_102 : xv_Fd "FaslDesk$Compiler" 102 4 1 (.array .int) := ⟨by decide, by decide, by decide +kernel, xv_in 184 rfl rfl⟩
set_option maxRecDepth 100000 in
theorem f_Comp_105 : xv_Fd "FaslDesk$Compiler" 105 4 2 (.array .int) := ⟨by decide, by decide, by decide +kernel, xv_in 189 rfl rfl⟩
set_option maxRecDepth 100000 in
theorem f_Entry_12 : xv_Fd "FaslDesk$Entry" 12 5 0 (.object "FaslDesk$Code") := ⟨by decide, by decide, by decide +kernel, xv_in 206 rfl rfl⟩
set_option maxRecDepth 100000 in
theorem f_Entry_18 : xv_Fd "FaslDesk$Entry" 18 5 1 (.array .boolean) := ⟨by decide, by decide, by decide +kernel, xv_in 211 rfl rfl⟩
set_option maxRecDepth 100000 in
theorem f_Entry_22 : xv_Fd "FaslDesk$Entry" 22 5 7 (.array .int) := ⟨by decide, by decide, by decide +kernel, xv_in 230 rfl rfl⟩
set_option maxRecDepth 100000 in
theorem f_Entry_26 : xv_Fd "FaslDesk$Entry" 26 4 3 .int := ⟨by decide, by decide, by decide +kernel, xv_in 191 rfl rfl⟩
set_option maxRecDepth 100000 in
theorem f_Entry_30 : xv_Fd "FaslDesk$Entry" 30 5 3 .int := ⟨by decide, by decide, by decide +kernel, xv_in 218 rfl rfl⟩
set_option maxRecDepth 100000 in
theorem f_Entry_33 : xv_Fd "FaslDesk$Entry" 33 5 4 .int := ⟨by decide, by decide, by decide +kernel, xv_in 220 rfl rfl⟩
set_option maxRecDepth 100000 in
theorem f_Entry_36 : xv_Fd "FaslDesk$Entry" 36 5 2 .int := ⟨by decide, by decide, by decide +kernel, xv_in 214 rfl rfl⟩
set_option maxRecDepth 100000 in
theorem f_Entry_39 : xv_Fd "FaslDesk$Entry" 39 5 5 .int := ⟨by decide, by decide, by decide +kernel, xv_in 224 rfl rfl⟩
set_option maxRecDepth 100000 in
theorem f_Entry_42 : xv_Fd "FaslDesk$Entry" 42 5 6 .boolean := ⟨by decide, by decide, by decide +kernel, xv_in 227 rfl rfl⟩
set_option maxRecDepth 100000 in
theorem f_Entry_49 : xv_Fd "FaslDesk$Entry" 49 5 8 .int := ⟨by decide, by decide, by decide +kernel, xv_in 231 rfl rfl⟩
set_option maxRecDepth 100000 in
theorem f_Entry_52 : xv_Fd "FaslDesk$Entry" 52 5 9 .boolean := ⟨by decide, by decide, by decide +kernel, xv_in 232 rfl rfl⟩
set_option maxRecDepth 100000 in
theorem f_Entry_55 : xv_Fd "FaslDesk$Entry" 55 4 0 (.array .int) := ⟨by decide, by decide, by decide +kernel, xv_in 178 rfl rfl⟩
set_option maxRecDepth 100000 in
theorem f_Form_9 : xv_Fd "FaslDesk$Form" 9 0 0 (.array .int) := ⟨by decide, by decide, by decide +kernel, xv_in 37 rfl rfl⟩
set_option maxRecDepth 100000 in
theorem f_Form_15 : xv_Fd "FaslDesk$Form" 15 0 1 (.array .int) := ⟨by decide, by decide, by decide +kernel, xv_in 40 rfl rfl⟩
set_option maxRecDepth 100000 in
theorem f_Form_18 : xv_Fd "FaslDesk$Form" 18 0 4 (.array .int) := ⟨by decide, by decide, by decide +kernel, xv_in 50 rfl rfl⟩
set_option maxRecDepth 100000 in
theorem f_Form_25 : xv_Fd "FaslDesk$Form" 25 0 2 .int := ⟨by decide, by decide, by decide +kernel, xv_in 45 rfl rfl⟩
set_option maxRecDepth 100000 in
theorem f_Form_35 : xv_Fd "FaslDesk$Form" 35 0 3 .int := ⟨by decide, by decide, by decide +kernel, xv_in 49 rfl rfl⟩
set_option maxRecDepth 100000 in
theorem f_Frame_9 : xv_Fd "FaslDesk$Frame" 9 1 0 (.array .int) := ⟨by decide, by decide, by decide +kernel, xv_in 81 rfl rfl⟩
set_option maxRecDepth 100000 in
theorem f_Frame_15 : xv_Fd "FaslDesk$Frame" 15 1 1 (.array .int) := ⟨by decide, by decide, by decide +kernel, xv_in 84 rfl rfl⟩
set_option maxRecDepth 100000 in
theorem f_Frame_24 : xv_Fd "FaslDesk$Frame" 24 1 2 .int := ⟨by decide, by decide, by decide +kernel, xv_in 85 rfl rfl⟩
set_option maxRecDepth 100000 in
theorem f_Image_11 : xv_Fd "FaslDesk$Image" 11 9 0 (.array (.object "FaslDesk$Code")) := ⟨by decide, by decide, by decide +kernel, xv_in 292 rfl rfl⟩
set_option maxRecDepth 100000 in
theorem f_Image_19 : xv_Fd "FaslDesk$Image" 19 9 1 (.array (.object "FaslDesk$Frame")) := ⟨by decide, by decide, by decide +kernel, xv_in 293 rfl rfl⟩
set_option maxRecDepth 100000 in
theorem f_Image_29 : xv_Fd "FaslDesk$Image" 29 4 3 .int := ⟨by decide, by decide, by decide +kernel, xv_in 192 rfl rfl⟩
set_option maxRecDepth 100000 in
theorem f_Image_37 : xv_Fd "FaslDesk$Image" 37 8 1 .int := ⟨by decide, by decide, by decide +kernel, xv_in 259 rfl rfl⟩
set_option maxRecDepth 100000 in
theorem f_Image_42 : xv_Fd "FaslDesk$Image" 42 8 0 (.array (.object "FaslDesk$Entry")) := ⟨by decide, by decide, by decide +kernel, xv_in 256 rfl rfl⟩
set_option maxRecDepth 100000 in
theorem f_Image_46 : xv_Fd "FaslDesk$Image" 46 5 2 .int := ⟨by decide, by decide, by decide +kernel, xv_in 216 rfl rfl⟩
set_option maxRecDepth 100000 in
theorem f_Image_51 : xv_Fd "FaslDesk$Image" 51 5 0 (.object "FaslDesk$Code") := ⟨by decide, by decide, by decide +kernel, xv_in 208 rfl rfl⟩
set_option maxRecDepth 100000 in
theorem f_Image_64 : xv_Fd "FaslDesk$Image" 64 4 0 (.array .int) := ⟨by decide, by decide, by decide +kernel, xv_in 179 rfl rfl⟩
set_option maxRecDepth 100000 in
theorem f_Image_76 : xv_Fd "FaslDesk$Image" 76 4 1 (.array .int) := ⟨by decide, by decide, by decide +kernel, xv_in 183 rfl rfl⟩
set_option maxRecDepth 100000 in
theorem f_Image_83 : xv_Fd "FaslDesk$Image" 83 1 0 (.array .int) := ⟨by decide, by decide, by decide +kernel, xv_in 83 rfl rfl⟩
set_option maxRecDepth 100000 in
theorem f_Image_92 : xv_Fd "FaslDesk$Image" 92 4 2 (.array .int) := ⟨by decide, by decide, by decide +kernel, xv_in 188 rfl rfl⟩
set_option maxRecDepth 100000 in
theorem f_Interp_11 : xv_Fd "FaslDesk$Interpreter" 11 3 0 (.array (.object "FaslDesk$Form")) := ⟨by decide, by decide, by decide +kernel, xv_in 108 rfl rfl⟩
set_option maxRecDepth 100000 in
theorem f_Interp_19 : xv_Fd "FaslDesk$Interpreter" 19 3 1 (.array (.object "FaslDesk$Frame")) := ⟨by decide, by decide, by decide +kernel, xv_in 110 rfl rfl⟩
set_option maxRecDepth 100000 in
theorem f_Interp_25 : xv_Fd "FaslDesk$Interpreter" 25 3 2 (.array (.object "FaslDesk$OpenForms")) := ⟨by decide, by decide, by decide +kernel, xv_in 111 rfl rfl⟩
set_option maxRecDepth 100000 in
theorem f_Interp_36 : xv_Fd "FaslDesk$Interpreter" 36 0 2 .int := ⟨by decide, by decide, by decide +kernel, xv_in 44 rfl rfl⟩
set_option maxRecDepth 100000 in
theorem f_Interp_51 : xv_Fd "FaslDesk$Interpreter" 51 0 3 .int := ⟨by decide, by decide, by decide +kernel, xv_in 48 rfl rfl⟩
set_option maxRecDepth 100000 in
theorem f_Interp_79 : xv_Fd "FaslDesk$Interpreter" 79 0 0 (.array .int) := ⟨by decide, by decide, by decide +kernel, xv_in 39 rfl rfl⟩
set_option maxRecDepth 100000 in
theorem f_Interp_87 : xv_Fd "FaslDesk$Interpreter" 87 1 0 (.array .int) := ⟨by decide, by decide, by decide +kernel, xv_in 82 rfl rfl⟩
set_option maxRecDepth 100000 in
theorem f_Interp_90 : xv_Fd "FaslDesk$Interpreter" 90 0 1 (.array .int) := ⟨by decide, by decide, by decide +kernel, xv_in 42 rfl rfl⟩
set_option maxRecDepth 100000 in
theorem f_Opens_9 : xv_Fd "FaslDesk$OpenForms" 9 2 0 (.array .int) := ⟨by decide, by decide, by decide +kernel, xv_in 98 rfl rfl⟩
set_option maxRecDepth 100000 in
theorem f_Opens_15 : xv_Fd "FaslDesk$OpenForms" 15 2 1 (.array .int) := ⟨by decide, by decide, by decide +kernel, xv_in 99 rfl rfl⟩
set_option maxRecDepth 100000 in
theorem f_Opens_18 : xv_Fd "FaslDesk$OpenForms" 18 2 2 .int := ⟨by decide, by decide, by decide +kernel, xv_in 100 rfl rfl⟩
set_option maxRecDepth 100000 in
theorem f_Model_7 : xv_Fd "FaslDeskModel" 7 11 0 (.array .int) := ⟨by decide, by decide, by decide +kernel, xv_in 814 rfl rfl⟩
set_option maxRecDepth 100000 in
theorem f_Model_13 : xv_Fd "FaslDeskModel" 13 11 1 (.array .int) := ⟨by decide, by decide, by decide +kernel, xv_in 815 rfl rfl⟩
set_option maxRecDepth 100000 in
theorem f_Model_16 : xv_Fd "FaslDeskModel" 16 11 2 (.array .int) := ⟨by decide, by decide, by decide +kernel, xv_in 816 rfl rfl⟩
set_option maxRecDepth 100000 in
theorem f_Model_19 : xv_Fd "FaslDeskModel" 19 11 3 (.array .int) := ⟨by decide, by decide, by decide +kernel, xv_in 817 rfl rfl⟩
set_option maxRecDepth 100000 in
theorem f_Model_22 : xv_Fd "FaslDeskModel" 22 11 4 (.array .int) := ⟨by decide, by decide, by decide +kernel, xv_in 818 rfl rfl⟩
set_option maxRecDepth 100000 in
theorem f_Model_25 : xv_Fd "FaslDeskModel" 25 11 5 (.array .int) := ⟨by decide, by decide, by decide +kernel, xv_in 819 rfl rfl⟩
set_option maxRecDepth 100000 in
theorem f_Model_28 : xv_Fd "FaslDeskModel" 28 11 6 (.array .int) := ⟨by decide, by decide, by decide +kernel, xv_in 820 rfl rfl⟩
set_option maxRecDepth 100000 in
theorem f_Model_31 : xv_Fd "FaslDeskModel" 31 11 7 (.array .int) := ⟨by decide, by decide, by decide +kernel, xv_in 821 rfl rfl⟩
set_option maxRecDepth 100000 in
theorem f_Model_34 : xv_Fd "FaslDeskModel" 34 11 8 (.array .int) := ⟨by decide, by decide, by decide +kernel, xv_in 822 rfl rfl⟩
set_option maxRecDepth 100000 in
theorem f_Model_37 : xv_Fd "FaslDeskModel" 37 11 9 (.array .int) := ⟨by decide, by decide, by decide +kernel, xv_in 823 rfl rfl⟩
set_option maxRecDepth 100000 in
theorem f_Model_40 : xv_Fd "FaslDeskModel" 40 11 10 (.array .int) := ⟨by decide, by decide, by decide +kernel, xv_in 824 rfl rfl⟩
set_option maxRecDepth 100000 in
theorem f_Model_43 : xv_Fd "FaslDeskModel" 43 11 11 (.array .int) := ⟨by decide, by decide, by decide +kernel, xv_in 825 rfl rfl⟩
set_option maxRecDepth 100000 in
theorem f_Model_46 : xv_Fd "FaslDeskModel" 46 11 12 (.array .boolean) := ⟨by decide, by decide, by decide +kernel, xv_in 826 rfl rfl⟩
set_option maxRecDepth 100000 in
theorem f_Model_50 : xv_Fd "FaslDeskModel" 50 11 13 (.array .boolean) := ⟨by decide, by decide, by decide +kernel, xv_in 827 rfl rfl⟩
set_option maxRecDepth 100000 in
theorem f_Model_53 : xv_Fd "FaslDeskModel" 53 11 14 (.array .boolean) := ⟨by decide, by decide, by decide +kernel, xv_in 828 rfl rfl⟩
set_option maxRecDepth 100000 in
theorem f_Model_56 : xv_Fd "FaslDeskModel" 56 11 15 (.array .boolean) := ⟨by decide, by decide, by decide +kernel, xv_in 829 rfl rfl⟩
set_option maxRecDepth 100000 in
theorem f_Model_59 : xv_Fd "FaslDeskModel" 59 11 16 (.array .int) := ⟨by decide, by decide, by decide +kernel, xv_in 830 rfl rfl⟩
set_option maxRecDepth 100000 in
theorem f_Model_62 : xv_Fd "FaslDeskModel" 62 11 17 (.array .int) := ⟨by decide, by decide, by decide +kernel, xv_in 831 rfl rfl⟩
set_option maxRecDepth 100000 in
theorem f_Model_65 : xv_Fd "FaslDeskModel" 65 11 18 (.array .int) := ⟨by decide, by decide, by decide +kernel, xv_in 832 rfl rfl⟩
set_option maxRecDepth 100000 in
theorem f_Model_68 : xv_Fd "FaslDeskModel" 68 11 19 (.array .int) := ⟨by decide, by decide, by decide +kernel, xv_in 833 rfl rfl⟩
set_option maxRecDepth 100000 in
theorem f_Model_71 : xv_Fd "FaslDeskModel" 71 11 20 (.array .int) := ⟨by decide, by decide, by decide +kernel, xv_in 834 rfl rfl⟩
set_option maxRecDepth 100000 in
theorem f_Model_74 : xv_Fd "FaslDeskModel" 74 11 21 (.array .int) := ⟨by decide, by decide, by decide +kernel, xv_in 835 rfl rfl⟩
set_option maxRecDepth 100000 in
theorem f_Model_77 : xv_Fd "FaslDeskModel" 77 11 22 (.array .int) := ⟨by decide, by decide, by decide +kernel, xv_in 836 rfl rfl⟩
set_option maxRecDepth 100000 in
theorem f_Model_80 : xv_Fd "FaslDeskModel" 80 11 23 (.array .int) := ⟨by decide, by decide, by decide +kernel, xv_in 837 rfl rfl⟩
set_option maxRecDepth 100000 in
theorem f_Model_83 : xv_Fd "FaslDeskModel" 83 11 24 (.array .int) := ⟨by decide, by decide, by decide +kernel, xv_in 838 rfl rfl⟩
set_option maxRecDepth 100000 in
theorem f_Model_86 : xv_Fd "FaslDeskModel" 86 11 25 (.array .int) := ⟨by decide, by decide, by decide +kernel, xv_in 839 rfl rfl⟩
set_option maxRecDepth 100000 in
theorem f_Model_89 : xv_Fd "FaslDeskModel" 89 11 26 (.array .int) := ⟨by decide, by decide, by decide +kernel, xv_in 840 rfl rfl⟩
set_option maxRecDepth 100000 in
theorem f_Model_92 : xv_Fd "FaslDeskModel" 92 11 27 (.array .int) := ⟨by decide, by decide, by decide +kernel, xv_in 841 rfl rfl⟩
set_option maxRecDepth 100000 in
theorem f_Model_95 : xv_Fd "FaslDeskModel" 95 11 28 (.array .int) := ⟨by decide, by decide, by decide +kernel, xv_in 842 rfl rfl⟩
set_option maxRecDepth 100000 in
theorem f_Model_98 : xv_Fd "FaslDeskModel" 98 11 34 .int := ⟨by decide, by decide, by decide +kernel, xv_in 848 rfl rfl⟩
set_option maxRecDepth 100000 in
theorem f_Model_125 : xv_Fd "FaslDeskModel" 125 11 36 .int := ⟨by decide, by decide, by decide +kernel, xv_in 850 rfl rfl⟩
set_option maxRecDepth 100000 in
theorem f_Model_155 : xv_Fd "FaslDeskModel" 155 11 35 .int := ⟨by decide, by decide, by decide +kernel, xv_in 849 rfl rfl⟩
set_option maxRecDepth 100000 in
theorem f_Model_172 : xv_Fd "FaslDeskModel" 172 11 31 .int := ⟨by decide, by decide, by decide +kernel, xv_in 845 rfl rfl⟩
set_option maxRecDepth 100000 in
theorem f_Model_181 : xv_Fd "FaslDeskModel" 181 11 30 .int := ⟨by decide, by decide, by decide +kernel, xv_in 844 rfl rfl⟩
set_option maxRecDepth 100000 in
theorem f_Model_184 : xv_Fd "FaslDeskModel" 184 11 29 .int := ⟨by decide, by decide, by decide +kernel, xv_in 843 rfl rfl⟩
set_option maxRecDepth 100000 in
theorem f_Model_191 : xv_Fd "FaslDeskModel" 191 11 33 .int := ⟨by decide, by decide, by decide +kernel, xv_in 847 rfl rfl⟩
set_option maxRecDepth 100000 in
theorem f_Model_201 : xv_Fd "FaslDeskModel" 201 11 32 .int := ⟨by decide, by decide, by decide +kernel, xv_in 846 rfl rfl⟩
theorem fin_0_0 : (xv_T 0 0).2.2.2 = true := rfl
theorem fin_0_1 : (xv_T 0 1).2.2.2 = true := rfl
theorem fin_0_2 : (xv_T 0 2).2.2.2 = false := rfl
theorem fin_0_3 : (xv_T 0 3).2.2.2 = false := rfl
theorem fin_0_4 : (xv_T 0 4).2.2.2 = true := rfl
theorem fin_1_0 : (xv_T 1 0).2.2.2 = true := rfl
theorem fin_1_1 : (xv_T 1 1).2.2.2 = true := rfl
theorem fin_1_2 : (xv_T 1 2).2.2.2 = false := rfl
theorem fin_2_0 : (xv_T 2 0).2.2.2 = true := rfl
theorem fin_2_1 : (xv_T 2 1).2.2.2 = true := rfl
theorem fin_2_2 : (xv_T 2 2).2.2.2 = false := rfl
theorem fin_3_0 : (xv_T 3 0).2.2.2 = true := rfl
theorem fin_3_1 : (xv_T 3 1).2.2.2 = true := rfl
theorem fin_3_2 : (xv_T 3 2).2.2.2 = true := rfl
theorem fin_4_0 : (xv_T 4 0).2.2.2 = true := rfl
theorem fin_4_1 : (xv_T 4 1).2.2.2 = true := rfl
theorem fin_4_2 : (xv_T 4 2).2.2.2 = true := rfl
theorem fin_4_3 : (xv_T 4 3).2.2.2 = false := rfl
theorem fin_5_0 : (xv_T 5 0).2.2.2 = true := rfl
theorem fin_5_1 : (xv_T 5 1).2.2.2 = true := rfl
theorem fin_5_2 : (xv_T 5 2).2.2.2 = false := rfl
theorem fin_5_3 : (xv_T 5 3).2.2.2 = false := rfl
theorem fin_5_4 : (xv_T 5 4).2.2.2 = false := rfl
theorem fin_5_5 : (xv_T 5 5).2.2.2 = false := rfl
theorem fin_5_6 : (xv_T 5 6).2.2.2 = false := rfl
theorem fin_5_7 : (xv_T 5 7).2.2.2 = true := rfl
theorem fin_5_8 : (xv_T 5 8).2.2.2 = false := rfl
theorem fin_5_9 : (xv_T 5 9).2.2.2 = false := rfl
theorem fin_6_0 : (xv_T 6 0).2.2.2 = false := rfl
theorem fin_6_1 : (xv_T 6 1).2.2.2 = false := rfl
theorem fin_6_2 : (xv_T 6 2).2.2.2 = false := rfl
theorem fin_6_3 : (xv_T 6 3).2.2.2 = false := rfl
theorem fin_7_0 : (xv_T 7 0).2.2.2 = true := rfl
theorem fin_7_1 : (xv_T 7 1).2.2.2 = true := rfl
theorem fin_7_2 : (xv_T 7 2).2.2.2 = false := rfl
theorem fin_7_3 : (xv_T 7 3).2.2.2 = false := rfl
theorem fin_8_0 : (xv_T 8 0).2.2.2 = true := rfl
theorem fin_8_1 : (xv_T 8 1).2.2.2 = false := rfl
theorem fin_8_2 : (xv_T 8 2).2.2.2 = false := rfl
theorem fin_8_3 : (xv_T 8 3).2.2.2 = false := rfl
theorem fin_8_4 : (xv_T 8 4).2.2.2 = false := rfl
theorem fin_8_5 : (xv_T 8 5).2.2.2 = true := rfl
theorem fin_9_0 : (xv_T 9 0).2.2.2 = true := rfl
theorem fin_9_1 : (xv_T 9 1).2.2.2 = true := rfl
theorem fin_10_0 : (xv_T 10 0).2.2.2 = true := rfl
theorem fin_10_1 : (xv_T 10 1).2.2.2 = true := rfl
theorem fin_10_2 : (xv_T 10 2).2.2.2 = true := rfl
theorem fin_10_3 : (xv_T 10 3).2.2.2 = true := rfl
theorem fin_10_4 : (xv_T 10 4).2.2.2 = true := rfl
theorem fin_10_5 : (xv_T 10 5).2.2.2 = false := rfl
theorem fin_10_6 : (xv_T 10 6).2.2.2 = false := rfl
theorem fin_10_7 : (xv_T 10 7).2.2.2 = false := rfl
theorem fin_11_0 : (xv_T 11 0).2.2.2 = true := rfl
theorem fin_11_1 : (xv_T 11 1).2.2.2 = true := rfl
theorem fin_11_2 : (xv_T 11 2).2.2.2 = true := rfl
theorem fin_11_3 : (xv_T 11 3).2.2.2 = true := rfl
theorem fin_11_4 : (xv_T 11 4).2.2.2 = true := rfl
theorem fin_11_5 : (xv_T 11 5).2.2.2 = true := rfl
theorem fin_11_6 : (xv_T 11 6).2.2.2 = true := rfl
theorem fin_11_7 : (xv_T 11 7).2.2.2 = true := rfl
theorem fin_11_8 : (xv_T 11 8).2.2.2 = true := rfl
theorem fin_11_9 : (xv_T 11 9).2.2.2 = true := rfl
theorem fin_11_10 : (xv_T 11 10).2.2.2 = true := rfl
theorem fin_11_11 : (xv_T 11 11).2.2.2 = true := rfl
theorem fin_11_12 : (xv_T 11 12).2.2.2 = true := rfl
theorem fin_11_13 : (xv_T 11 13).2.2.2 = true := rfl
theorem fin_11_14 : (xv_T 11 14).2.2.2 = true := rfl
theorem fin_11_15 : (xv_T 11 15).2.2.2 = true := rfl
theorem fin_11_16 : (xv_T 11 16).2.2.2 = true := rfl
theorem fin_11_17 : (xv_T 11 17).2.2.2 = true := rfl
theorem fin_11_18 : (xv_T 11 18).2.2.2 = true := rfl
theorem fin_11_19 : (xv_T 11 19).2.2.2 = true := rfl
theorem fin_11_20 : (xv_T 11 20).2.2.2 = true := rfl
theorem fin_11_21 : (xv_T 11 21).2.2.2 = true := rfl
theorem fin_11_22 : (xv_T 11 22).2.2.2 = true := rfl
theorem fin_11_23 : (xv_T 11 23).2.2.2 = true := rfl
theorem fin_11_24 : (xv_T 11 24).2.2.2 = true := rfl
theorem fin_11_25 : (xv_T 11 25).2.2.2 = true := rfl
theorem fin_11_26 : (xv_T 11 26).2.2.2 = true := rfl
theorem fin_11_27 : (xv_T 11 27).2.2.2 = true := rfl
theorem fin_11_28 : (xv_T 11 28).2.2.2 = true := rfl
theorem fin_11_29 : (xv_T 11 29).2.2.2 = false := rfl
theorem fin_11_30 : (xv_T 11 30).2.2.2 = false := rfl
theorem fin_11_31 : (xv_T 11 31).2.2.2 = false := rfl
theorem fin_11_32 : (xv_T 11 32).2.2.2 = false := rfl
theorem fin_11_33 : (xv_T 11 33).2.2.2 = false := rfl
theorem fin_11_34 : (xv_T 11 34).2.2.2 = false := rfl
theorem fin_11_35 : (xv_T 11 35).2.2.2 = false := rfl
theorem fin_11_36 : (xv_T 11 36).2.2.2 = false := rfl
set_option maxRecDepth 100000 in
theorem s_Check_41 : Cond.fieldLink "FaslDesk$CodeCheck" 41 (xv_sC 1) (xv_sn 1) "[I" ∈ xv_BIG := xv_in 537 rfl rfl
set_option maxRecDepth 100000 in
theorem s_Check_44 : Cond.fieldLink "FaslDesk$CodeCheck" 44 (xv_sC 2) (xv_sn 2) "[I" ∈ xv_BIG := xv_in 538 rfl rfl
set_option maxRecDepth 100000 in
theorem s_Comp_51 : Cond.fieldLink "FaslDesk$Compiler" 51 (xv_sC 2) (xv_sn 2) "[I" ∈ xv_BIG := xv_in 401 rfl rfl
set_option maxRecDepth 100000 in
theorem s_Comp_55 : Cond.fieldLink "FaslDesk$Compiler" 55 (xv_sC 1) (xv_sn 1) "[I" ∈ xv_BIG := xv_in 403 rfl rfl
set_option maxRecDepth 100000 in
theorem s_Comp_90 : Cond.fieldLink "FaslDesk$Compiler" 90 (xv_sC 0) (xv_sn 0) "[I" ∈ xv_BIG := xv_in 436 rfl rfl
set_option maxRecDepth 100000 in
theorem s_Form_50 : Cond.fieldLink "FaslDesk$Form" 50 (xv_sC 0) (xv_sn 0) "[I" ∈ xv_BIG := xv_in 359 rfl rfl
set_option maxRecDepth 100000 in
theorem s_Interp_104 : Cond.fieldLink "FaslDesk$Interpreter" 104 (xv_sC 0) (xv_sn 0) "[I" ∈ xv_BIG := xv_in 722 rfl rfl
set_option maxRecDepth 100000 in
theorem l_Desk_1 : Cond.methodLink "FaslDesk" 1 ⟨"java/lang/Object", "<init>", "()V"⟩ ∈ xv_BIG := xv_in 28 rfl rfl
set_option maxRecDepth 100000 in
theorem l_Desk_9 : Cond.methodLinkNest "FaslDesk" 9 ⟨"FaslDesk$Form", "<init>", "()V"⟩ "FaslDesk" ∈ xv_nest := List.mem_of_getElem? (i := 0) rfl
set_option maxRecDepth 100000 in
theorem l_Desk_18 : Cond.methodLink "FaslDesk" 18 ⟨"FaslDesk$Interpreter", "<init>", "()V"⟩ ∈ xv_BIG := xv_in 65 rfl rfl
set_option maxRecDepth 100000 in
theorem l_Desk_25 : Cond.methodLinkNest "FaslDesk" 25 ⟨"FaslDesk$Compiler", "<init>", "()V"⟩ "FaslDesk" ∈ xv_nest := List.mem_of_getElem? (i := 4) rfl
set_option maxRecDepth 100000 in
theorem l_Desk_32 : Cond.methodLink "FaslDesk" 32 ⟨"FaslDesk$Archive", "<init>", "()V"⟩ ∈ xv_BIG := xv_in 140 rfl rfl
set_option maxRecDepth 100000 in
theorem l_Desk_39 : Cond.methodLink "FaslDesk" 39 ⟨"FaslDesk$Image", "<init>", "()V"⟩ ∈ xv_BIG := xv_in 283 rfl rfl
set_option maxRecDepth 100000 in
theorem l_Desk_48 : Cond.methodLink "FaslDesk" 48 ⟨"FaslDesk$Form", "allows", "(II)Z"⟩ ∈ xv_BIG := xv_in 328 rfl rfl
set_option maxRecDepth 100000 in
theorem l_Desk_55 : Cond.methodLink "FaslDesk" 55 ⟨"FaslDesk$Form", "append", "(II)V"⟩ ∈ xv_BIG := xv_in 334 rfl rfl
set_option maxRecDepth 100000 in
theorem l_Desk_59 : Cond.methodLink "FaslDesk" 59 ⟨"FaslDesk", "within", "(III)Z"⟩ ∈ xv_BIG := xv_in 342 rfl rfl
set_option maxRecDepth 100000 in
theorem l_Desk_63 : Cond.methodLink "FaslDesk" 63 ⟨"FaslDesk$Form", "isOneFormOf", "(II)Z"⟩ ∈ xv_BIG := xv_in 343 rfl rfl
set_option maxRecDepth 100000 in
theorem l_Desk_70 : Cond.methodLink "FaslDesk" 70 ⟨"FaslDesk$Form", "becomes", "(LFaslDesk$Form;I)V"⟩ ∈ xv_BIG := xv_in 361 rfl rfl
set_option maxRecDepth 100000 in
theorem l_Desk_74 : Cond.methodLinkNest "FaslDesk" 74 ⟨"FaslDesk$Interpreter", "answer", "(IIII)I"⟩ "FaslDesk" ∈ xv_nest := List.mem_of_getElem? (i := 14) rfl
set_option maxRecDepth 100000 in
theorem l_Desk_78 : Cond.methodLink "FaslDesk" 78 ⟨"FaslDesk$Interpreter", "has", "(I)Z"⟩ ∈ xv_BIG := xv_in 376 rfl rfl
set_option maxRecDepth 100000 in
theorem l_Desk_82 : Cond.methodLink "FaslDesk" 82 ⟨"FaslDesk$Archive", "placeFor", "(I)I"⟩ ∈ xv_BIG := xv_in 381 rfl rfl
set_option maxRecDepth 100000 in
theorem l_Desk_90 : Cond.methodLink "FaslDesk" 90 ⟨"FaslDesk$Compiler", "translate", "(LFaslDesk$Form;LFaslDesk$Entry;)V"⟩ ∈ xv_BIG := xv_in 385 rfl rfl
set_option maxRecDepth 100000 in
theorem l_Desk_94 : Cond.methodLink "FaslDesk" 94 ⟨"FaslDesk$Entry", "finishFor", "(I)V"⟩ ∈ xv_BIG := xv_in 437 rfl rfl
set_option maxRecDepth 100000 in
theorem l_Desk_100 : Cond.methodLink "FaslDesk" 100 ⟨"FaslDesk$Archive", "keepWith", "(I)V"⟩ ∈ xv_BIG := xv_in 446 rfl rfl
set_option maxRecDepth 100000 in
theorem l_Desk_103 : Cond.methodLink "FaslDesk" 103 ⟨"FaslDesk", "damageMagic", "(I)I"⟩ ∈ xv_BIG := xv_in 455 rfl rfl
set_option maxRecDepth 100000 in
theorem l_Desk_106 : Cond.methodLink "FaslDesk" 106 ⟨"FaslDesk", "damageStated", "(I)I"⟩ ∈ xv_BIG := xv_in 459 rfl rfl
set_option maxRecDepth 100000 in
theorem l_Desk_109 : Cond.methodLink "FaslDesk" 109 ⟨"FaslDesk", "damageNumber", "(II)I"⟩ ∈ xv_BIG := xv_in 463 rfl rfl
set_option maxRecDepth 100000 in
theorem l_Desk_113 : Cond.methodLink "FaslDesk" 113 ⟨"FaslDesk", "damageOctet", "(I)I"⟩ ∈ xv_BIG := xv_in 471 rfl rfl
set_option maxRecDepth 100000 in
theorem l_Desk_116 : Cond.methodLink "FaslDesk" 116 ⟨"FaslDesk", "sealAnew", "(I)I"⟩ ∈ xv_BIG := xv_in 475 rfl rfl
set_option maxRecDepth 100000 in
theorem l_Desk_119 : Cond.methodLink "FaslDesk" 119 ⟨"FaslDesk", "hasUnit", "(II)Z"⟩ ∈ xv_BIG := xv_in 484 rfl rfl
set_option maxRecDepth 100000 in
theorem l_Desk_122 : Cond.methodLink "FaslDesk" 122 ⟨"FaslDesk$Code", "forgeable", "(I)Z"⟩ ∈ xv_BIG := xv_in 488 rfl rfl
set_option maxRecDepth 100000 in
theorem l_Desk_139 : Cond.methodLink "FaslDesk" 139 ⟨"FaslDesk$Archive", "has", "(I)Z"⟩ ∈ xv_BIG := xv_in 467 rfl rfl
set_option maxRecDepth 100000 in
theorem l_Desk_140 : Cond.methodLink "FaslDesk" 140 ⟨"FaslDesk$Archive", "remove", "(I)I"⟩ ∈ xv_BIG := xv_in 496 rfl rfl
set_option maxRecDepth 100000 in
theorem l_Desk_143 : Cond.methodLink "FaslDesk" 143 ⟨"FaslDesk$Archive", "findFault", "()I"⟩ ∈ xv_BIG := xv_in 504 rfl rfl
set_option maxRecDepth 100000 in
theorem l_Desk_153 : Cond.methodLink "FaslDesk" 153 ⟨"FaslDesk$Image", "remake", "(LFaslDesk$Archive;)V"⟩ ∈ xv_BIG := xv_in 539 rfl rfl
set_option maxRecDepth 100000 in
theorem l_Desk_160 : Cond.methodLink "FaslDesk" 160 ⟨"FaslDesk$Image", "has", "(I)Z"⟩ ∈ xv_BIG := xv_in 766 rfl rfl
set_option maxRecDepth 100000 in
theorem l_Desk_165 : Cond.methodLink "FaslDesk" 165 ⟨"java/util/NoSuchElementException", "<init>", "(Ljava/lang/String;)V"⟩ ∈ xv_BIG := xv_in 769 rfl rfl
set_option maxRecDepth 100000 in
theorem l_Desk_168 : Cond.methodLinkNest "FaslDesk" 168 ⟨"FaslDesk$Image", "answer", "(IIII)I"⟩ "FaslDesk" ∈ xv_nest := List.mem_of_getElem? (i := 15) rfl
set_option maxRecDepth 100000 in
theorem l_Desk_182 : Cond.methodLink "FaslDesk" 182 ⟨"FaslDesk$Entry", "sealGoes", "()Z"⟩ ∈ xv_BIG := xv_in 552 rfl rfl
set_option maxRecDepth 100000 in
theorem l_Desk_192 : Cond.methodLink "FaslDesk" 192 ⟨"FaslDesk$Interpreter", "size", "()I"⟩ ∈ xv_BIG := xv_in 561 rfl rfl
set_option maxRecDepth 100000 in
theorem l_Desk_200 : Cond.methodLink "FaslDesk" 200 ⟨"FaslDesk$Image", "size", "()I"⟩ ∈ xv_BIG := xv_in 566 rfl rfl
set_option maxRecDepth 100000 in
theorem l_Desk_208 : Cond.methodLink "FaslDesk" 208 ⟨"FaslDesk$Entry", "makeSeal", "()V"⟩ ∈ xv_BIG := xv_in 479 rfl rfl
set_option maxRecDepth 100000 in
theorem l_Arch_3 : Cond.methodLink "FaslDesk$Archive" 3 ⟨"java/lang/Object", "<init>", "()V"⟩ ∈ xv_BIG := xv_in 143 rfl rfl
set_option maxRecDepth 100000 in
theorem l_Arch_19 : Cond.methodLinkNest "FaslDesk$Archive" 19 ⟨"FaslDesk$CodeCheck", "<init>", "()V"⟩ "FaslDesk" ∈ xv_nest := List.mem_of_getElem? (i := 5) rfl
set_option maxRecDepth 100000 in
theorem l_Arch_24 : Cond.methodLinkNest "FaslDesk$Archive" 24 ⟨"FaslDesk$Entry", "<init>", "()V"⟩ "FaslDesk" ∈ xv_nest := List.mem_of_getElem? (i := 6) rfl
set_option maxRecDepth 100000 in
theorem l_Arch_32 : Cond.methodLink "FaslDesk$Archive" 32 ⟨"java/lang/Math", "max", "(II)I"⟩ ∈ xv_BIG := xv_in 450 rfl rfl
set_option maxRecDepth 100000 in
theorem l_Arch_47 : Cond.methodLink "FaslDesk$Archive" 47 ⟨"FaslDesk$Archive", "findOddEntry", "()I"⟩ ∈ xv_BIG := xv_in 508 rfl rfl
set_option maxRecDepth 100000 in
theorem l_Arch_51 : Cond.methodLink "FaslDesk$Archive" 51 ⟨"FaslDesk$Archive", "findOddClass", "()I"⟩ ∈ xv_BIG := xv_in 517 rfl rfl
set_option maxRecDepth 100000 in
theorem l_Arch_54 : Cond.methodLink "FaslDesk$Archive" 54 ⟨"FaslDesk$Archive", "findOddCode", "()I"⟩ ∈ xv_BIG := xv_in 521 rfl rfl
set_option maxRecDepth 100000 in
theorem l_Arch_57 : Cond.methodLink "FaslDesk$Archive" 57 ⟨"FaslDesk$Entry", "sealGoes", "()Z"⟩ ∈ xv_BIG := xv_in 512 rfl rfl
set_option maxRecDepth 100000 in
theorem l_Arch_61 : Cond.methodLink "FaslDesk$Archive" 61 ⟨"FaslDesk$Archive", "placeFor", "(I)I"⟩ ∈ xv_BIG := xv_in 516 rfl rfl
set_option maxRecDepth 100000 in
theorem l_Arch_79 : Cond.methodLink "FaslDesk$Archive" 79 ⟨"FaslDesk$CodeCheck", "goes", "(LFaslDesk$Code;I)Z"⟩ ∈ xv_BIG := xv_in 525 rfl rfl
set_option maxRecDepth 100000 in
theorem l_Code_3 : Cond.methodLink "FaslDesk$Code" 3 ⟨"java/lang/Object", "<init>", "()V"⟩ ∈ xv_BIG := xv_in 175 rfl rfl
set_option maxRecDepth 100000 in
theorem l_Code_21 : Cond.methodLinkNest "FaslDesk$Code" 21 ⟨"FaslDesk", "within", "(III)Z"⟩ "FaslDesk" ∈ xv_nest := List.mem_of_getElem? (i := 12) rfl
set_option maxRecDepth 100000 in
theorem l_Code_29 : Cond.methodLink "FaslDesk$Code" 29 ⟨"java/lang/System", "arraycopy", "(Ljava/lang/Object;ILjava/lang/Object;II)V"⟩ ∈ xv_BIG := xv_in 547 rfl rfl
set_option maxRecDepth 100000 in
theorem l_Check_3 : Cond.methodLink "FaslDesk$CodeCheck" 3 ⟨"java/lang/Object", "<init>", "()V"⟩ ∈ xv_BIG := xv_in 151 rfl rfl
set_option maxRecDepth 100000 in
theorem l_Check_31 : Cond.methodLink "FaslDesk$CodeCheck" 31 ⟨"FaslDesk$CodeCheck", "reach", "(II)Z"⟩ ∈ xv_BIG := xv_in 529 rfl rfl
set_option maxRecDepth 100000 in
theorem l_Check_35 : Cond.methodLink "FaslDesk$CodeCheck" 35 ⟨"FaslDesk$CodeCheck", "passes", "(II)Z"⟩ ∈ xv_BIG := xv_in 533 rfl rfl
set_option maxRecDepth 100000 in
theorem l_Comp_3 : Cond.methodLink "FaslDesk$Compiler" 3 ⟨"java/lang/Object", "<init>", "()V"⟩ ∈ xv_BIG := xv_in 124 rfl rfl
set_option maxRecDepth 100000 in
theorem l_Comp_35 : Cond.methodLink "FaslDesk$Compiler" 35 ⟨"FaslDesk$Entry", "startWith", "(I)V"⟩ ∈ xv_BIG := xv_in 389 rfl rfl
set_option maxRecDepth 100000 in
theorem l_Comp_41 : Cond.methodLink "FaslDesk$Compiler" 41 ⟨"FaslDesk$Compiler", "emit", "(II)V"⟩ ∈ xv_BIG := xv_in 393 rfl rfl
set_option maxRecDepth 100000 in
theorem l_Comp_45 : Cond.methodLink "FaslDesk$Compiler" 45 ⟨"FaslDesk$Compiler", "emitForm", "(I)V"⟩ ∈ xv_BIG := xv_in 408 rfl rfl
set_option maxRecDepth 100000 in
theorem l_Comp_48 : Cond.methodLink "FaslDesk$Compiler" 48 ⟨"FaslDesk$Code", "append", "(II)V"⟩ ∈ xv_BIG := xv_in 397 rfl rfl
set_option maxRecDepth 100000 in
theorem l_Comp_61 : Cond.methodLink "FaslDesk$Compiler" 61 ⟨"java/lang/Math", "max", "(II)I"⟩ ∈ xv_BIG := xv_in 405 rfl rfl
set_option maxRecDepth 100000 in
theorem l_Comp_81 : Cond.methodLink "FaslDesk$Compiler" 81 ⟨"FaslDesk$Compiler", "emitIf", "(I)V"⟩ ∈ xv_BIG := xv_in 412 rfl rfl
set_option maxRecDepth 100000 in
theorem l_Comp_84 : Cond.methodLink "FaslDesk$Compiler" 84 ⟨"FaslDesk$Form", "start", "(II)I"⟩ ∈ xv_BIG := xv_in 416 rfl rfl
set_option maxRecDepth 100000 in
theorem l_Comp_87 : Cond.methodLink "FaslDesk$Compiler" 87 ⟨"FaslDesk$Compiler", "emitTimes", "(I)V"⟩ ∈ xv_BIG := xv_in 428 rfl rfl
set_option maxRecDepth 100000 in
theorem l_Comp_93 : Cond.methodLink "FaslDesk$Compiler" 93 ⟨"FaslDesk$Compiler", "setSecond", "(II)V"⟩ ∈ xv_BIG := xv_in 420 rfl rfl
set_option maxRecDepth 100000 in
theorem l_Comp_96 : Cond.methodLink "FaslDesk$Compiler" 96 ⟨"FaslDesk$Compiler", "setFirst", "(II)V"⟩ ∈ xv_BIG := xv_in 424 rfl rfl
set_option maxRecDepth 100000 in
theorem l_Comp_99 : Cond.methodLink "FaslDesk$Compiler" 99 ⟨"FaslDesk$Compiler", "emitOfTimes", "(I)V"⟩ ∈ xv_BIG := xv_in 432 rfl rfl
set_option maxRecDepth 100000 in
theorem l_Entry_3 : Cond.methodLink "FaslDesk$Entry" 3 ⟨"java/lang/Object", "<init>", "()V"⟩ ∈ xv_BIG := xv_in 169 rfl rfl
set_option maxRecDepth 100000 in
theorem l_Entry_11 : Cond.methodLinkNest "FaslDesk$Entry" 11 ⟨"FaslDesk$Code", "<init>", "()V"⟩ "FaslDesk" ∈ xv_nest := List.mem_of_getElem? (i := 7) rfl
set_option maxRecDepth 100000 in
theorem l_Entry_46 : Cond.methodLink "FaslDesk$Entry" 46 ⟨"FaslDesk$Entry", "makeSeal", "()V"⟩ ∈ xv_BIG := xv_in 441 rfl rfl
set_option maxRecDepth 100000 in
theorem l_Entry_58 : Cond.methodLink "FaslDesk$Entry" 58 ⟨"java/lang/System", "arraycopy", "(Ljava/lang/Object;ILjava/lang/Object;II)V"⟩ ∈ xv_BIG := xv_in 445 rfl rfl
set_option maxRecDepth 100000 in
theorem l_Form_3 : Cond.methodLink "FaslDesk$Form" 3 ⟨"java/lang/Object", "<init>", "()V"⟩ ∈ xv_BIG := xv_in 36 rfl rfl
set_option maxRecDepth 100000 in
theorem l_Form_21 : Cond.methodLinkNest "FaslDesk$Form" 21 ⟨"FaslDesk", "within", "(III)Z"⟩ "FaslDesk" ∈ xv_nest := List.mem_of_getElem? (i := 10) rfl
set_option maxRecDepth 100000 in
theorem l_Form_29 : Cond.methodLink "FaslDesk$Form" 29 ⟨"java/lang/System", "arraycopy", "(Ljava/lang/Object;ILjava/lang/Object;II)V"⟩ ∈ xv_BIG := xv_in 365 rfl rfl
set_option maxRecDepth 100000 in
theorem l_Form_38 : Cond.methodLink "FaslDesk$Form" 38 ⟨"FaslDesk$Form", "callsGo", "(I)Z"⟩ ∈ xv_BIG := xv_in 347 rfl rfl
set_option maxRecDepth 100000 in
theorem l_Form_42 : Cond.methodLink "FaslDesk$Form" 42 ⟨"FaslDesk$Form", "endOf", "(IIII)I"⟩ ∈ xv_BIG := xv_in 351 rfl rfl
set_option maxRecDepth 100000 in
theorem l_Form_46 : Cond.methodLink "FaslDesk$Form" 46 ⟨"FaslDesk$Form", "mayStand", "(IIII)Z"⟩ ∈ xv_BIG := xv_in 355 rfl rfl
set_option maxRecDepth 100000 in
theorem l_Frame_3 : Cond.methodLink "FaslDesk$Frame" 3 ⟨"java/lang/Object", "<init>", "()V"⟩ ∈ xv_BIG := xv_in 80 rfl rfl
set_option maxRecDepth 100000 in
theorem l_Frame_18 : Cond.methodLink "FaslDesk$Frame" 18 ⟨"java/util/Arrays", "fill", "([II)V"⟩ ∈ xv_BIG := xv_in 660 rfl rfl
set_option maxRecDepth 100000 in
theorem l_Image_3 : Cond.methodLink "FaslDesk$Image" 3 ⟨"java/lang/Object", "<init>", "()V"⟩ ∈ xv_BIG := xv_in 286 rfl rfl
set_option maxRecDepth 100000 in
theorem l_Image_23 : Cond.methodLinkNest "FaslDesk$Image" 23 ⟨"FaslDesk$Code", "<init>", "()V"⟩ "FaslDesk" ∈ xv_nest := List.mem_of_getElem? (i := 8) rfl
set_option maxRecDepth 100000 in
theorem l_Image_24 : Cond.methodLinkNest "FaslDesk$Image" 24 ⟨"FaslDesk$Frame", "<init>", "()V"⟩ "FaslDesk" ∈ xv_nest := List.mem_of_getElem? (i := 9) rfl
set_option maxRecDepth 100000 in
theorem l_Image_25 : Cond.methodLinkNest "FaslDesk$Image" 25 ⟨"FaslDesk", "within", "(III)Z"⟩ "FaslDesk" ∈ xv_nest := List.mem_of_getElem? (i := 13) rfl
set_option maxRecDepth 100000 in
theorem l_Image_33 : Cond.methodLink "FaslDesk$Image" 33 ⟨"FaslDesk$Image", "has", "(I)Z"⟩ ∈ xv_BIG := xv_in 570 rfl rfl
set_option maxRecDepth 100000 in
theorem l_Image_55 : Cond.methodLink "FaslDesk$Image" 55 ⟨"FaslDesk$Code", "becomes", "(LFaslDesk$Code;)V"⟩ ∈ xv_BIG := xv_in 543 rfl rfl
set_option maxRecDepth 100000 in
theorem l_Image_59 : Cond.methodLink "FaslDesk$Image" 59 ⟨"FaslDesk$Frame", "begin", "(IIII)V"⟩ ∈ xv_BIG := xv_in 774 rfl rfl
set_option maxRecDepth 100000 in
theorem l_Image_68 : Cond.methodLink "FaslDesk$Image" 68 ⟨"FaslDesk$Image", "perform", "(II)I"⟩ ∈ xv_BIG := xv_in 776 rfl rfl
set_option maxRecDepth 100000 in
theorem l_Image_72 : Cond.methodLink "FaslDesk$Image" 72 ⟨"FaslDesk$Frame", "pop", "()I"⟩ ∈ xv_BIG := xv_in 781 rfl rfl
set_option maxRecDepth 100000 in
theorem l_Image_79 : Cond.methodLink "FaslDesk$Image" 79 ⟨"FaslDesk$Frame", "push", "(I)V"⟩ ∈ xv_BIG := xv_in 780 rfl rfl
set_option maxRecDepth 100000 in
theorem l_Image_86 : Cond.methodLink "FaslDesk$Image" 86 ⟨"FaslDesk$Ints", "isAsSaid", "(II)Z"⟩ ∈ xv_BIG := xv_in 782 rfl rfl
set_option maxRecDepth 100000 in
theorem l_Image_95 : Cond.methodLink "FaslDesk$Image" 95 ⟨"FaslDesk$Image", "answerOfLower", "(II)I"⟩ ∈ xv_BIG := xv_in 783 rfl rfl
set_option maxRecDepth 100000 in
theorem l_Image_98 : Cond.methodLink "FaslDesk$Image" 98 ⟨"FaslDesk$Image", "rework", "(ILFaslDesk$Frame;)V"⟩ ∈ xv_BIG := xv_in 804 rfl rfl
set_option maxRecDepth 100000 in
theorem l_Image_102 : Cond.methodLink "FaslDesk$Image" 102 ⟨"FaslDesk$Ints", "reckon", "(III)I"⟩ ∈ xv_BIG := xv_in 807 rfl rfl
set_option maxRecDepth 100000 in
theorem l_Image_110 : Cond.methodLink "FaslDesk$Image" 110 ⟨"java/lang/IllegalStateException", "<init>", "(Ljava/lang/String;)V"⟩ ∈ xv_BIG := xv_in 797 rfl rfl
set_option maxRecDepth 100000 in
theorem l_Image_113 : Cond.methodLink "FaslDesk$Image" 113 ⟨"FaslDesk$Image", "answer", "(IIII)I"⟩ ∈ xv_BIG := xv_in 803 rfl rfl
set_option maxRecDepth 100000 in
theorem l_Interp_3 : Cond.methodLink "FaslDesk$Interpreter" 3 ⟨"java/lang/Object", "<init>", "()V"⟩ ∈ xv_BIG := xv_in 68 rfl rfl
set_option maxRecDepth 100000 in
theorem l_Interp_29 : Cond.methodLinkNest "FaslDesk$Interpreter" 29 ⟨"FaslDesk$Form", "<init>", "()V"⟩ "FaslDesk" ∈ xv_nest := List.mem_of_getElem? (i := 1) rfl
set_option maxRecDepth 100000 in
theorem l_Interp_30 : Cond.methodLinkNest "FaslDesk$Interpreter" 30 ⟨"FaslDesk$Frame", "<init>", "()V"⟩ "FaslDesk" ∈ xv_nest := List.mem_of_getElem? (i := 2) rfl
set_option maxRecDepth 100000 in
theorem l_Interp_31 : Cond.methodLinkNest "FaslDesk$Interpreter" 31 ⟨"FaslDesk$OpenForms", "<init>", "()V"⟩ "FaslDesk" ∈ xv_nest := List.mem_of_getElem? (i := 3) rfl
set_option maxRecDepth 100000 in
theorem l_Interp_32 : Cond.methodLinkNest "FaslDesk$Interpreter" 32 ⟨"FaslDesk", "within", "(III)Z"⟩ "FaslDesk" ∈ xv_nest := List.mem_of_getElem? (i := 11) rfl
set_option maxRecDepth 100000 in
theorem l_Interp_40 : Cond.methodLink "FaslDesk$Interpreter" 40 ⟨"FaslDesk$Interpreter", "has", "(I)Z"⟩ ∈ xv_BIG := xv_in 565 rfl rfl
set_option maxRecDepth 100000 in
theorem l_Interp_48 : Cond.methodLink "FaslDesk$Interpreter" 48 ⟨"java/util/NoSuchElementException", "<init>", "(Ljava/lang/String;)V"⟩ ∈ xv_BIG := xv_in 630 rfl rfl
set_option maxRecDepth 100000 in
theorem l_Interp_54 : Cond.methodLink "FaslDesk$Interpreter" 54 ⟨"FaslDesk$Frame", "begin", "(IIII)V"⟩ ∈ xv_BIG := xv_in 656 rfl rfl
set_option maxRecDepth 100000 in
theorem l_Interp_58 : Cond.methodLink "FaslDesk$Interpreter" 58 ⟨"FaslDesk$OpenForms", "begin", "()V"⟩ ∈ xv_BIG := xv_in 663 rfl rfl
set_option maxRecDepth 100000 in
theorem l_Interp_61 : Cond.methodLink "FaslDesk$Interpreter" 61 ⟨"FaslDesk$OpenForms", "isEmpty", "()Z"⟩ ∈ xv_BIG := xv_in 672 rfl rfl
set_option maxRecDepth 100000 in
theorem l_Interp_65 : Cond.methodLink "FaslDesk$Interpreter" 65 ⟨"FaslDesk$Interpreter", "advance", "(I)V"⟩ ∈ xv_BIG := xv_in 676 rfl rfl
set_option maxRecDepth 100000 in
theorem l_Interp_69 : Cond.methodLink "FaslDesk$Interpreter" 69 ⟨"FaslDesk$Frame", "pop", "()I"⟩ ∈ xv_BIG := xv_in 693 rfl rfl
set_option maxRecDepth 100000 in
theorem l_Interp_73 : Cond.methodLink "FaslDesk$Interpreter" 73 ⟨"FaslDesk$OpenForms", "place", "()I"⟩ ∈ xv_BIG := xv_in 680 rfl rfl
set_option maxRecDepth 100000 in
theorem l_Interp_76 : Cond.methodLink "FaslDesk$Interpreter" 76 ⟨"FaslDesk$OpenForms", "partsDone", "()I"⟩ ∈ xv_BIG := xv_in 685 rfl rfl
set_option maxRecDepth 100000 in
theorem l_Interp_83 : Cond.methodLink "FaslDesk$Interpreter" 83 ⟨"FaslDesk$Interpreter", "choose", "(II)V"⟩ ∈ xv_BIG := xv_in 689 rfl rfl
set_option maxRecDepth 100000 in
theorem l_Interp_93 : Cond.methodLink "FaslDesk$Interpreter" 93 ⟨"FaslDesk$Form", "start", "(II)I"⟩ ∈ xv_BIG := xv_in 700 rfl rfl
set_option maxRecDepth 100000 in
theorem l_Interp_97 : Cond.methodLink "FaslDesk$Interpreter" 97 ⟨"FaslDesk$OpenForms", "goOnAs", "(I)V"⟩ ∈ xv_BIG := xv_in 701 rfl rfl
set_option maxRecDepth 100000 in
theorem l_Interp_100 : Cond.methodLink "FaslDesk$Interpreter" 100 ⟨"FaslDesk$Interpreter", "goRound", "(IIZ)V"⟩ ∈ xv_BIG := xv_in 709 rfl rfl
set_option maxRecDepth 100000 in
theorem l_Interp_107 : Cond.methodLink "FaslDesk$Interpreter" 107 ⟨"FaslDesk$OpenForms", "enterPart", "(I)V"⟩ ∈ xv_BIG := xv_in 713 rfl rfl
set_option maxRecDepth 100000 in
theorem l_Interp_110 : Cond.methodLink "FaslDesk$Interpreter" 110 ⟨"FaslDesk$OpenForms", "leave", "()V"⟩ ∈ xv_BIG := xv_in 717 rfl rfl
set_option maxRecDepth 100000 in
theorem l_Interp_113 : Cond.methodLink "FaslDesk$Interpreter" 113 ⟨"FaslDesk$Interpreter", "finish", "(III)V"⟩ ∈ xv_BIG := xv_in 723 rfl rfl
set_option maxRecDepth 100000 in
theorem l_Interp_117 : Cond.methodLink "FaslDesk$Interpreter" 117 ⟨"FaslDesk$Ints", "isAsSaid", "(II)Z"⟩ ∈ xv_BIG := xv_in 697 rfl rfl
set_option maxRecDepth 100000 in
theorem l_Interp_123 : Cond.methodLink "FaslDesk$Interpreter" 123 ⟨"FaslDesk$Frame", "push", "(I)V"⟩ ∈ xv_BIG := xv_in 718 rfl rfl
set_option maxRecDepth 100000 in
theorem l_Interp_126 : Cond.methodLink "FaslDesk$Interpreter" 126 ⟨"FaslDesk$Frame", "top", "()I"⟩ ∈ xv_BIG := xv_in 727 rfl rfl
set_option maxRecDepth 100000 in
theorem l_Interp_129 : Cond.methodLink "FaslDesk$Interpreter" 129 ⟨"FaslDesk$Interpreter", "answerOfLower", "(II)I"⟩ ∈ xv_BIG := xv_in 731 rfl rfl
set_option maxRecDepth 100000 in
theorem l_Interp_132 : Cond.methodLink "FaslDesk$Interpreter" 132 ⟨"FaslDesk$Ints", "reckon", "(III)I"⟩ ∈ xv_BIG := xv_in 736 rfl rfl
set_option maxRecDepth 100000 in
theorem l_Interp_136 : Cond.methodLink "FaslDesk$Interpreter" 136 ⟨"FaslDesk$Interpreter", "answer", "(IIII)I"⟩ ∈ xv_BIG := xv_in 735 rfl rfl
set_option maxRecDepth 100000 in
theorem l_Ints_7 : Cond.methodLink "FaslDesk$Ints" 7 ⟨"FaslDesk$Ints", "divisor", "(I)I"⟩ ∈ xv_BIG := xv_in 739 rfl rfl
set_option maxRecDepth 100000 in
theorem l_Ints_17 : Cond.methodLink "FaslDesk$Ints" 17 ⟨"java/lang/ArithmeticException", "<init>", "(Ljava/lang/String;)V"⟩ ∈ xv_BIG := xv_in 752 rfl rfl
set_option maxRecDepth 100000 in
theorem l_Opens_3 : Cond.methodLink "FaslDesk$OpenForms" 3 ⟨"java/lang/Object", "<init>", "()V"⟩ ∈ xv_BIG := xv_in 97 rfl rfl
set_option maxRecDepth 100000 in
theorem l_Opens_22 : Cond.methodLink "FaslDesk$OpenForms" 22 ⟨"FaslDesk$OpenForms", "enter", "(I)V"⟩ ∈ xv_BIG := xv_in 667 rfl rfl
set_option maxRecDepth 100000 in
theorem l_Opens_26 : Cond.methodLink "FaslDesk$OpenForms" 26 ⟨"FaslDesk$OpenForms", "isEmpty", "()Z"⟩ ∈ xv_BIG := xv_in 684 rfl rfl
set_option maxRecDepth 100000 in
theorem l_Opens_30 : Cond.methodLink "FaslDesk$OpenForms" 30 ⟨"FaslDesk$OpenForms", "leave", "()V"⟩ ∈ xv_BIG := xv_in 705 rfl rfl
set_option maxRecDepth 100000 in
theorem l_Law_7 : Cond.methodLink "FaslDeskLaw" 7 ⟨"FaslDesk", "interpret", "(IIII)I"⟩ ∈ xv_BIG := xv_in 580 rfl rfl
set_option maxRecDepth 100000 in
theorem l_Law_17 : Cond.methodLink "FaslDeskLaw" 17 ⟨"FaslDesk", "run", "(IIII)I"⟩ ∈ xv_BIG := xv_in 762 rfl rfl
set_option maxRecDepth 100000 in
theorem l_Law_22 : Cond.methodLink "FaslDeskLaw" 22 ⟨"FaslDesk", "<init>", "()V"⟩ ∈ xv_BIG := xv_in 25 rfl rfl
set_option maxRecDepth 100000 in
theorem l_Law_25 : Cond.methodLink "FaslDeskLaw" 25 ⟨"FaslDeskModel", "<init>", "()V"⟩ ∈ xv_BIG := xv_in 810 rfl rfl
set_option maxRecDepth 100000 in
theorem l_Law_26 : Cond.methodLink "FaslDeskLaw" 26 ⟨"FaslDesk", "token", "(II)I"⟩ ∈ xv_BIG := xv_in 324 rfl rfl
set_option maxRecDepth 100000 in
theorem l_Law_30 : Cond.methodLink "FaslDeskLaw" 30 ⟨"FaslDeskModel", "token", "(II)I"⟩ ∈ xv_BIG := xv_in 926 rfl rfl
set_option maxRecDepth 100000 in
theorem l_Law_31 : Cond.methodLink "FaslDeskLaw" 31 ⟨"FaslDesk", "define", "(II)I"⟩ ∈ xv_BIG := xv_in 338 rfl rfl
set_option maxRecDepth 100000 in
theorem l_Law_34 : Cond.methodLink "FaslDeskLaw" 34 ⟨"FaslDeskModel", "define", "(II)I"⟩ ∈ xv_BIG := xv_in 940 rfl rfl
set_option maxRecDepth 100000 in
theorem l_Law_35 : Cond.methodLink "FaslDeskLaw" 35 ⟨"FaslDesk", "clear", "()I"⟩ ∈ xv_BIG := xv_in 368 rfl rfl
set_option maxRecDepth 100000 in
theorem l_Law_39 : Cond.methodLink "FaslDeskLaw" 39 ⟨"FaslDeskModel", "clear", "()I"⟩ ∈ xv_BIG := xv_in 936 rfl rfl
set_option maxRecDepth 100000 in
theorem l_Law_40 : Cond.methodLink "FaslDeskLaw" 40 ⟨"FaslDeskLaw", "interpret", "(LFaslDesk;IIII[J)I"⟩ ∈ xv_BIG := xv_in 575 rfl rfl
set_option maxRecDepth 100000 in
theorem l_Law_45 : Cond.methodLink "FaslDeskLaw" 45 ⟨"FaslDeskModel", "interpret", "(IIII)I"⟩ ∈ xv_BIG := xv_in 985 rfl rfl
set_option maxRecDepth 100000 in
theorem l_Law_46 : Cond.methodLink "FaslDeskLaw" 46 ⟨"FaslDeskModel", "thrown", "()I"⟩ ∈ xv_BIG := xv_in 1011 rfl rfl
set_option maxRecDepth 100000 in
theorem l_Law_49 : Cond.methodLink "FaslDeskLaw" 49 ⟨"FaslDesk", "compile", "(I)I"⟩ ∈ xv_BIG := xv_in 372 rfl rfl
set_option maxRecDepth 100000 in
theorem l_Law_53 : Cond.methodLink "FaslDeskLaw" 53 ⟨"FaslDeskModel", "compile", "(I)I"⟩ ∈ xv_BIG := xv_in 1015 rfl rfl
set_option maxRecDepth 100000 in
theorem l_Law_54 : Cond.methodLink "FaslDeskLaw" 54 ⟨"FaslDesk", "damage", "(III)I"⟩ ∈ xv_BIG := xv_in 451 rfl rfl
set_option maxRecDepth 100000 in
theorem l_Law_58 : Cond.methodLink "FaslDeskLaw" 58 ⟨"FaslDeskModel", "damage", "(III)I"⟩ ∈ xv_BIG := xv_in 1027 rfl rfl
set_option maxRecDepth 100000 in
theorem l_Law_59 : Cond.methodLink "FaslDeskLaw" 59 ⟨"FaslDesk", "forge", "(III)I"⟩ ∈ xv_BIG := xv_in 480 rfl rfl
set_option maxRecDepth 100000 in
theorem l_Law_62 : Cond.methodLink "FaslDeskLaw" 62 ⟨"FaslDeskModel", "forge", "(III)I"⟩ ∈ xv_BIG := xv_in 1031 rfl rfl
set_option maxRecDepth 100000 in
theorem l_Law_63 : Cond.methodLink "FaslDeskLaw" 63 ⟨"FaslDesk", "drop", "(I)I"⟩ ∈ xv_BIG := xv_in 492 rfl rfl
set_option maxRecDepth 100000 in
theorem l_Law_66 : Cond.methodLink "FaslDeskLaw" 66 ⟨"FaslDeskModel", "drop", "(I)I"⟩ ∈ xv_BIG := xv_in 1038 rfl rfl
set_option maxRecDepth 100000 in
theorem l_Law_67 : Cond.methodLink "FaslDeskLaw" 67 ⟨"FaslDesk", "load", "()I"⟩ ∈ xv_BIG := xv_in 500 rfl rfl
set_option maxRecDepth 100000 in
theorem l_Law_70 : Cond.methodLink "FaslDeskLaw" 70 ⟨"FaslDeskModel", "load", "()I"⟩ ∈ xv_BIG := xv_in 1042 rfl rfl
set_option maxRecDepth 100000 in
theorem l_Law_71 : Cond.methodLink "FaslDeskLaw" 71 ⟨"FaslDeskLaw", "run", "(LFaslDesk;IIII[J)I"⟩ ∈ xv_BIG := xv_in 758 rfl rfl
set_option maxRecDepth 100000 in
theorem l_Law_73 : Cond.methodLink "FaslDeskLaw" 73 ⟨"FaslDeskModel", "run", "(IIII)I"⟩ ∈ xv_BIG := xv_in 1007 rfl rfl
set_option maxRecDepth 100000 in
theorem l_Law_74 : Cond.methodLink "FaslDeskLaw" 74 ⟨"FaslDesk", "entry", "(II)I"⟩ ∈ xv_BIG := xv_in 548 rfl rfl
set_option maxRecDepth 100000 in
theorem l_Law_77 : Cond.methodLink "FaslDeskLaw" 77 ⟨"FaslDeskModel", "entry", "(II)I"⟩ ∈ xv_BIG := xv_in 1054 rfl rfl
set_option maxRecDepth 100000 in
theorem l_Law_78 : Cond.methodLink "FaslDeskLaw" 78 ⟨"FaslDesk", "unit", "(III)I"⟩ ∈ xv_BIG := xv_in 553 rfl rfl
set_option maxRecDepth 100000 in
theorem l_Law_81 : Cond.methodLink "FaslDeskLaw" 81 ⟨"FaslDeskModel", "unit", "(III)I"⟩ ∈ xv_BIG := xv_in 1058 rfl rfl
set_option maxRecDepth 100000 in
theorem l_Law_82 : Cond.methodLink "FaslDeskLaw" 82 ⟨"FaslDesk", "count", "(I)I"⟩ ∈ xv_BIG := xv_in 557 rfl rfl
set_option maxRecDepth 100000 in
theorem l_Law_85 : Cond.methodLink "FaslDeskLaw" 85 ⟨"FaslDeskModel", "count", "(I)I"⟩ ∈ xv_BIG := xv_in 1062 rfl rfl
set_option maxRecDepth 100000 in
theorem l_Model_1 : Cond.methodLink "FaslDeskModel" 1 ⟨"java/lang/Object", "<init>", "()V"⟩ ∈ xv_BIG := xv_in 813 rfl rfl
set_option maxRecDepth 100000 in
theorem l_Model_102 : Cond.methodLink "FaslDeskModel" 102 ⟨"FaslDeskModel", "is", "(III)Z"⟩ ∈ xv_BIG := xv_in 933 rfl rfl
set_option maxRecDepth 100000 in
theorem l_Model_106 : Cond.methodLink "FaslDeskModel" 106 ⟨"FaslDeskModel", "fits", "(II)Z"⟩ ∈ xv_BIG := xv_in 930 rfl rfl
set_option maxRecDepth 100000 in
theorem l_Model_110 : Cond.methodLink "FaslDeskModel" 110 ⟨"FaslDeskModel", "parts", "(I)I"⟩ ∈ xv_BIG := xv_in 948 rfl rfl
set_option maxRecDepth 100000 in
theorem l_Model_114 : Cond.methodLink "FaslDeskModel" 114 ⟨"FaslDeskModel", "relate", "()Z"⟩ ∈ xv_BIG := xv_in 944 rfl rfl
set_option maxRecDepth 100000 in
theorem l_Model_118 : Cond.methodLink "FaslDeskModel" 118 ⟨"FaslDeskModel", "stands", "(III)Z"⟩ ∈ xv_BIG := xv_in 951 rfl rfl
set_option maxRecDepth 100000 in
theorem l_Model_121 : Cond.methodLink "FaslDeskModel" 121 ⟨"FaslDeskModel", "translate", "(I)V"⟩ ∈ xv_BIG := xv_in 955 rfl rfl
set_option maxRecDepth 100000 in
theorem l_Model_128 : Cond.methodLink "FaslDeskModel" 128 ⟨"FaslDeskModel", "put", "(IIII)I"⟩ ∈ xv_BIG := xv_in 959 rfl rfl
set_option maxRecDepth 100000 in
theorem l_Model_132 : Cond.methodLink "FaslDeskModel" 132 ⟨"FaslDeskModel", "behind", "(II)Z"⟩ ∈ xv_BIG := xv_in 963 rfl rfl
set_option maxRecDepth 100000 in
theorem l_Model_135 : Cond.methodLink "FaslDeskModel" 135 ⟨"FaslDeskModel", "measure", "(I)I"⟩ ∈ xv_BIG := xv_in 971 rfl rfl
set_option maxRecDepth 100000 in
theorem l_Model_138 : Cond.methodLink "FaslDeskModel" 138 ⟨"FaslDeskModel", "fix", "(II)V"⟩ ∈ xv_BIG := xv_in 967 rfl rfl
set_option maxRecDepth 100000 in
theorem l_Model_142 : Cond.methodLink "FaslDeskModel" 142 ⟨"FaslDeskModel", "takes", "(I)I"⟩ ∈ xv_BIG := xv_in 975 rfl rfl
set_option maxRecDepth 100000 in
theorem l_Model_145 : Cond.methodLink "FaslDeskModel" 145 ⟨"FaslDeskModel", "puts", "(I)I"⟩ ∈ xv_BIG := xv_in 978 rfl rfl
set_option maxRecDepth 100000 in
theorem l_Model_148 : Cond.methodLink "FaslDeskModel" 148 ⟨"FaslDeskModel", "reach", "(III)Z"⟩ ∈ xv_BIG := xv_in 981 rfl rfl
set_option maxRecDepth 100000 in
theorem l_Model_151 : Cond.methodLink "FaslDeskModel" 151 ⟨"FaslDeskModel", "enter", "(IIIIII)V"⟩ ∈ xv_BIG := xv_in 993 rfl rfl
set_option maxRecDepth 100000 in
theorem l_Model_158 : Cond.methodLink "FaslDeskModel" 158 ⟨"FaslDeskModel", "compute", "(III)I"⟩ ∈ xv_BIG := xv_in 997 rfl rfl
set_option maxRecDepth 100000 in
theorem l_Model_162 : Cond.methodLink "FaslDeskModel" 162 ⟨"FaslDeskModel", "isSo", "(II)Z"⟩ ∈ xv_BIG := xv_in 1000 rfl rfl
set_option maxRecDepth 100000 in
theorem l_Model_165 : Cond.methodLink "FaslDeskModel" 165 ⟨"FaslDeskModel", "simple", "(IIII)I"⟩ ∈ xv_BIG := xv_in 1003 rfl rfl
set_option maxRecDepth 100000 in
theorem l_Model_168 : Cond.methodLink "FaslDeskModel" 168 ⟨"FaslDeskModel", "go", "(IIIII)I"⟩ ∈ xv_BIG := xv_in 989 rfl rfl
set_option maxRecDepth 100000 in
theorem l_Model_175 : Cond.methodLink "FaslDeskModel" 175 ⟨"FaslDeskModel", "copyUnits", "(II)V"⟩ ∈ xv_BIG := xv_in 1019 rfl rfl
set_option maxRecDepth 100000 in
theorem l_Model_178 : Cond.methodLink "FaslDeskModel" 178 ⟨"FaslDeskModel", "seal", "(I)V"⟩ ∈ xv_BIG := xv_in 1023 rfl rfl
set_option maxRecDepth 100000 in
theorem l_Model_187 : Cond.methodLink "FaslDeskModel" 187 ⟨"FaslDeskModel", "isForged", "(I)Z"⟩ ∈ xv_BIG := xv_in 1035 rfl rfl
set_option maxRecDepth 100000 in
theorem l_Model_194 : Cond.methodLink "FaslDeskModel" 194 ⟨"FaslDeskModel", "fault", "(II)I"⟩ ∈ xv_BIG := xv_in 1046 rfl rfl
set_option maxRecDepth 100000 in
theorem l_Model_198 : Cond.methodLink "FaslDeskModel" 198 ⟨"FaslDeskModel", "goes", "(I)Z"⟩ ∈ xv_BIG := xv_in 1050 rfl rfl
set_option maxRecDepth 100000 in
theorem m_Desk_init : xv_mI J_Desk_init 0 := ⟨xv_in 27 rfl rfl, xv_in 26 rfl rfl, rfl, rfl, xv_in 1 rfl rfl, ⟨by decide, by decide, by decide +kernel⟩, by decide⟩
set_option maxRecDepth 100000 in
theorem m_Desk_token : xv_mV J_Desk_token 2 := ⟨xv_in 327 rfl rfl, xv_in 325 rfl rfl, xv_in 326 rfl rfl, xv_in 1 rfl rfl, ⟨by decide, by decide, by decide +kernel⟩, by decide⟩
set_option maxRecDepth 100000 in
theorem m_Desk_define : xv_mV J_Desk_define 2 := ⟨xv_in 341 rfl rfl, xv_in 339 rfl rfl, xv_in 340 rfl rfl, xv_in 1 rfl rfl, ⟨by decide, by decide, by decide +kernel⟩, by decide⟩
set_option maxRecDepth 100000 in
theorem m_Desk_clear : xv_mV J_Desk_clear 0 := ⟨xv_in 371 rfl rfl, xv_in 369 rfl rfl, xv_in 370 rfl rfl, xv_in 1 rfl rfl, ⟨by decide, by decide, by decide +kernel⟩, by decide⟩
set_option maxRecDepth 100000 in
theorem m_Desk_interpret : xv_mV J_Desk_interpret 4 := ⟨xv_in 583 rfl rfl, xv_in 581 rfl rfl, xv_in 582 rfl rfl, xv_in 1 rfl rfl, ⟨by decide, by decide, by decide +kernel⟩, by decide⟩
set_option maxRecDepth 100000 in
theorem m_Desk_compile : xv_mV J_Desk_compile 1 := ⟨xv_in 375 rfl rfl, xv_in 373 rfl rfl, xv_in 374 rfl rfl, xv_in 1 rfl rfl, ⟨by decide, by decide, by decide +kernel⟩, by decide⟩
set_option maxRecDepth 100000 in
theorem m_Desk_damage : xv_mV J_Desk_damage 3 := ⟨xv_in 454 rfl rfl, xv_in 452 rfl rfl, xv_in 453 rfl rfl, xv_in 1 rfl rfl, ⟨by decide, by decide, by decide +kernel⟩, by decide⟩
set_option maxRecDepth 100000 in
theorem m_Desk_forge : xv_mV J_Desk_forge 3 := ⟨xv_in 483 rfl rfl, xv_in 481 rfl rfl, xv_in 482 rfl rfl, xv_in 1 rfl rfl, ⟨by decide, by decide, by decide +kernel⟩, by decide⟩
set_option maxRecDepth 100000 in
theorem m_Desk_drop : xv_mV J_Desk_drop 1 := ⟨xv_in 495 rfl rfl, xv_in 493 rfl rfl, xv_in 494 rfl rfl, xv_in 1 rfl rfl, ⟨by decide, by decide, by decide +kernel⟩, by decide⟩
set_option maxRecDepth 100000 in
theorem m_Desk_load : xv_mV J_Desk_load 0 := ⟨xv_in 503 rfl rfl, xv_in 501 rfl rfl, xv_in 502 rfl rfl, xv_in 1 rfl rfl, ⟨by decide, by decide, by decide +kernel⟩, by decide⟩
set_option maxRecDepth 100000 in
theorem m_Desk_run : xv_mV J_Desk_run 4 := ⟨xv_in 765 rfl rfl, xv_in 763 rfl rfl, xv_in 764 rfl rfl, xv_in 1 rfl rfl, ⟨by decide, by decide, by decide +kernel⟩, by decide⟩
set_option maxRecDepth 100000 in
theorem m_Desk_entry : xv_mV J_Desk_entry 2 := ⟨xv_in 551 rfl rfl, xv_in 549 rfl rfl, xv_in 550 rfl rfl, xv_in 1 rfl rfl, ⟨by decide, by decide, by decide +kernel⟩, by decide⟩
set_option maxRecDepth 100000 in
theorem m_Desk_unit : xv_mV J_Desk_unit 3 := ⟨xv_in 556 rfl rfl, xv_in 554 rfl rfl, xv_in 555 rfl rfl, xv_in 1 rfl rfl, ⟨by decide, by decide, by decide +kernel⟩, by decide⟩
set_option maxRecDepth 100000 in
theorem m_Desk_count : xv_mV J_Desk_count 1 := ⟨xv_in 560 rfl rfl, xv_in 558 rfl rfl, xv_in 559 rfl rfl, xv_in 1 rfl rfl, ⟨by decide, by decide, by decide +kernel⟩, by decide⟩
set_option maxRecDepth 100000 in
theorem m_Desk_damageMagic : xv_mV J_Desk_damageMagic 1 := ⟨xv_in 458 rfl rfl, xv_in 457 rfl rfl, xv_inP 10 rfl rfl, xv_in 1 rfl rfl, ⟨by decide, by decide, by decide +kernel⟩, by decide⟩
set_option maxRecDepth 100000 in
theorem m_Desk_damageStated : xv_mV J_Desk_damageStated 1 := ⟨xv_in 462 rfl rfl, xv_in 461 rfl rfl, xv_inP 11 rfl rfl, xv_in 1 rfl rfl, ⟨by decide, by decide, by decide +kernel⟩, by decide⟩
set_option maxRecDepth 100000 in
theorem m_Desk_damageNumber : xv_mV J_Desk_damageNumber 2 := ⟨xv_in 466 rfl rfl, xv_in 465 rfl rfl, xv_inP 12 rfl rfl, xv_in 1 rfl rfl, ⟨by decide, by decide, by decide +kernel⟩, by decide⟩
set_option maxRecDepth 100000 in
theorem m_Desk_damageOctet : xv_mV J_Desk_damageOctet 1 := ⟨xv_in 474 rfl rfl, xv_in 473 rfl rfl, xv_inP 13 rfl rfl, xv_in 1 rfl rfl, ⟨by decide, by decide, by decide +kernel⟩, by decide⟩
set_option maxRecDepth 100000 in
theorem m_Desk_sealAnew : xv_mV J_Desk_sealAnew 1 := ⟨xv_in 478 rfl rfl, xv_in 477 rfl rfl, xv_inP 14 rfl rfl, xv_in 1 rfl rfl, ⟨by decide, by decide, by decide +kernel⟩, by decide⟩
set_option maxRecDepth 100000 in
theorem m_Desk_hasUnit : xv_mV J_Desk_hasUnit 2 := ⟨xv_in 487 rfl rfl, xv_in 486 rfl rfl, xv_inP 15 rfl rfl, xv_in 1 rfl rfl, ⟨by decide, by decide, by decide +kernel⟩, by decide⟩
set_option maxRecDepth 100000 in
theorem m_Desk_within : xv_mS J_Desk_within 3 := ⟨xv_in 333 rfl rfl, xv_in 332 rfl rfl, xv_in 1 rfl rfl, ⟨by decide, by decide, by decide +kernel⟩, by decide⟩
set_option maxRecDepth 100000 in
theorem m_Model_init : xv_mI J_Model_init 0 := ⟨xv_in 812 rfl rfl, xv_in 811 rfl rfl, rfl, rfl, xv_in 12 rfl rfl, ⟨by decide, by decide, by decide +kernel⟩, by decide⟩
set_option maxRecDepth 100000 in
theorem m_Model_is : xv_mS J_Model_is 3 := ⟨xv_in 935 rfl rfl, xv_in 934 rfl rfl, xv_in 12 rfl rfl, ⟨by decide, by decide, by decide +kernel⟩, by decide⟩
set_option maxRecDepth 100000 in
theorem m_Model_parts : xv_mS J_Model_parts 1 := ⟨xv_in 950 rfl rfl, xv_in 949 rfl rfl, xv_in 12 rfl rfl, ⟨by decide, by decide, by decide +kernel⟩, by decide⟩
set_option maxRecDepth 100000 in
theorem m_Model_fits : xv_mS J_Model_fits 2 := ⟨xv_in 932 rfl rfl, xv_in 931 rfl rfl, xv_in 12 rfl rfl, ⟨by decide, by decide, by decide +kernel⟩, by decide⟩
set_option maxRecDepth 100000 in
theorem m_Model_token : xv_mV J_Model_token 2 := ⟨xv_in 929 rfl rfl, xv_in 927 rfl rfl, xv_in 928 rfl rfl, xv_in 12 rfl rfl, ⟨by decide, by decide, by decide +kernel⟩, by decide⟩
set_option maxRecDepth 100000 in
theorem m_Model_clear : xv_mV J_Model_clear 0 := ⟨xv_in 939 rfl rfl, xv_in 937 rfl rfl, xv_in 938 rfl rfl, xv_in 12 rfl rfl, ⟨by decide, by decide, by decide +kernel⟩, by decide⟩
set_option maxRecDepth 100000 in
theorem m_Model_relate : xv_mV J_Model_relate 0 := ⟨xv_in 947 rfl rfl, xv_in 946 rfl rfl, xv_inP 32 rfl rfl, xv_in 12 rfl rfl, ⟨by decide, by decide, by decide +kernel⟩, by decide⟩
set_option maxRecDepth 100000 in
theorem m_Model_stands : xv_mV J_Model_stands 3 := ⟨xv_in 954 rfl rfl, xv_in 953 rfl rfl, xv_inP 33 rfl rfl, xv_in 12 rfl rfl, ⟨by decide, by decide, by decide +kernel⟩, by decide⟩
set_option maxRecDepth 100000 in
theorem m_Model_define : xv_mV J_Model_define 2 := ⟨xv_in 943 rfl rfl, xv_in 941 rfl rfl, xv_in 942 rfl rfl, xv_in 12 rfl rfl, ⟨by decide, by decide, by decide +kernel⟩, by decide⟩
set_option maxRecDepth 100000 in
theorem m_Model_put : xv_mV J_Model_put 4 := ⟨xv_in 962 rfl rfl, xv_in 961 rfl rfl, xv_inP 35 rfl rfl, xv_in 12 rfl rfl, ⟨by decide, by decide, by decide +kernel⟩, by decide⟩
set_option maxRecDepth 100000 in
theorem m_Model_fix : xv_mV J_Model_fix 2 := ⟨xv_in 970 rfl rfl, xv_in 969 rfl rfl, xv_inP 37 rfl rfl, xv_in 12 rfl rfl, ⟨by decide, by decide, by decide +kernel⟩, by decide⟩
set_option maxRecDepth 100000 in
theorem m_Model_translate : xv_mV J_Model_translate 1 := ⟨xv_in 958 rfl rfl, xv_in 957 rfl rfl, xv_inP 34 rfl rfl, xv_in 12 rfl rfl, ⟨by decide, by decide, by decide +kernel⟩, by decide⟩
set_option maxRecDepth 100000 in
theorem m_Model_behind : xv_mV J_Model_behind 2 := ⟨xv_in 966 rfl rfl, xv_in 965 rfl rfl, xv_inP 36 rfl rfl, xv_in 12 rfl rfl, ⟨by decide, by decide, by decide +kernel⟩, by decide⟩
set_option maxRecDepth 100000 in
theorem m_Model_takes : xv_mS J_Model_takes 1 := ⟨xv_in 977 rfl rfl, xv_in 976 rfl rfl, xv_in 12 rfl rfl, ⟨by decide, by decide, by decide +kernel⟩, by decide⟩
set_option maxRecDepth 100000 in
theorem m_Model_puts : xv_mS J_Model_puts 1 := ⟨xv_in 980 rfl rfl, xv_in 979 rfl rfl, xv_in 12 rfl rfl, ⟨by decide, by decide, by decide +kernel⟩, by decide⟩
set_option maxRecDepth 100000 in
theorem m_Model_measure : xv_mV J_Model_measure 1 := ⟨xv_in 974 rfl rfl, xv_in 973 rfl rfl, xv_inP 38 rfl rfl, xv_in 12 rfl rfl, ⟨by decide, by decide, by decide +kernel⟩, by decide⟩
set_option maxRecDepth 100000 in
theorem m_Model_reach : xv_mV J_Model_reach 3 := ⟨xv_in 984 rfl rfl, xv_in 983 rfl rfl, xv_inP 39 rfl rfl, xv_in 12 rfl rfl, ⟨by decide, by decide, by decide +kernel⟩, by decide⟩
set_option maxRecDepth 100000 in
theorem m_Model_isSo : xv_mS J_Model_isSo 2 := ⟨xv_in 1002 rfl rfl, xv_in 1001 rfl rfl, xv_in 12 rfl rfl, ⟨by decide, by decide, by decide +kernel⟩, by decide⟩
set_option maxRecDepth 100000 in
theorem m_Model_enter : xv_mV J_Model_enter 6 := ⟨xv_in 996 rfl rfl, xv_in 995 rfl rfl, xv_inP 41 rfl rfl, xv_in 12 rfl rfl, ⟨by decide, by decide, by decide +kernel⟩, by decide⟩
set_option maxRecDepth 100000 in
theorem m_Model_go : xv_mV J_Model_go 5 := ⟨xv_in 992 rfl rfl, xv_in 991 rfl rfl, xv_inP 40 rfl rfl, xv_in 12 rfl rfl, ⟨by decide, by decide, by decide +kernel⟩, by decide⟩
set_option maxRecDepth 100000 in
theorem m_Model_compute : xv_mS J_Model_compute 3 := ⟨xv_in 999 rfl rfl, xv_in 998 rfl rfl, xv_in 12 rfl rfl, ⟨by decide, by decide, by decide +kernel⟩, by decide⟩
set_option maxRecDepth 100000 in
theorem m_Model_simple : xv_mV J_Model_simple 4 := ⟨xv_in 1006 rfl rfl, xv_in 1005 rfl rfl, xv_inP 42 rfl rfl, xv_in 12 rfl rfl, ⟨by decide, by decide, by decide +kernel⟩, by decide⟩
set_option maxRecDepth 100000 in
theorem m_Model_interpret : xv_mV J_Model_interpret 4 := ⟨xv_in 988 rfl rfl, xv_in 986 rfl rfl, xv_in 987 rfl rfl, xv_in 12 rfl rfl, ⟨by decide, by decide, by decide +kernel⟩, by decide⟩
set_option maxRecDepth 100000 in
theorem m_Model_run : xv_mV J_Model_run 4 := ⟨xv_in 1010 rfl rfl, xv_in 1008 rfl rfl, xv_in 1009 rfl rfl, xv_in 12 rfl rfl, ⟨by decide, by decide, by decide +kernel⟩, by decide⟩
set_option maxRecDepth 100000 in
theorem m_Model_thrown : xv_mV J_Model_thrown 0 := ⟨xv_in 1014 rfl rfl, xv_in 1012 rfl rfl, xv_in 1013 rfl rfl, xv_in 12 rfl rfl, ⟨by decide, by decide, by decide +kernel⟩, by decide⟩
set_option maxRecDepth 100000 in
theorem m_Model_copyUnits : xv_mV J_Model_copyUnits 2 := ⟨xv_in 1022 rfl rfl, xv_in 1021 rfl rfl, xv_inP 43 rfl rfl, xv_in 12 rfl rfl, ⟨by decide, by decide, by decide +kernel⟩, by decide⟩
set_option maxRecDepth 100000 in
theorem m_Model_seal : xv_mV J_Model_seal 1 := ⟨xv_in 1026 rfl rfl, xv_in 1025 rfl rfl, xv_inP 44 rfl rfl, xv_in 12 rfl rfl, ⟨by decide, by decide, by decide +kernel⟩, by decide⟩
set_option maxRecDepth 100000 in
theorem m_Model_goes : xv_mV J_Model_goes 1 := ⟨xv_in 1053 rfl rfl, xv_in 1052 rfl rfl, xv_inP 46 rfl rfl, xv_in 12 rfl rfl, ⟨by decide, by decide, by decide +kernel⟩, by decide⟩
set_option maxRecDepth 100000 in
theorem m_Model_compile : xv_mV J_Model_compile 1 := ⟨xv_in 1018 rfl rfl, xv_in 1016 rfl rfl, xv_in 1017 rfl rfl, xv_in 12 rfl rfl, ⟨by decide, by decide, by decide +kernel⟩, by decide⟩
set_option maxRecDepth 100000 in
theorem m_Model_damage : xv_mV J_Model_damage 3 := ⟨xv_in 1030 rfl rfl, xv_in 1028 rfl rfl, xv_in 1029 rfl rfl, xv_in 12 rfl rfl, ⟨by decide, by decide, by decide +kernel⟩, by decide⟩
set_option maxRecDepth 100000 in
theorem m_Model_isForged : xv_mS J_Model_isForged 1 := ⟨xv_in 1037 rfl rfl, xv_in 1036 rfl rfl, xv_in 12 rfl rfl, ⟨by decide, by decide, by decide +kernel⟩, by decide⟩
set_option maxRecDepth 100000 in
theorem m_Model_forge : xv_mV J_Model_forge 3 := ⟨xv_in 1034 rfl rfl, xv_in 1032 rfl rfl, xv_in 1033 rfl rfl, xv_in 12 rfl rfl, ⟨by decide, by decide, by decide +kernel⟩, by decide⟩
set_option maxRecDepth 100000 in
theorem m_Model_drop : xv_mV J_Model_drop 1 := ⟨xv_in 1041 rfl rfl, xv_in 1039 rfl rfl, xv_in 1040 rfl rfl, xv_in 12 rfl rfl, ⟨by decide, by decide, by decide +kernel⟩, by decide⟩
set_option maxRecDepth 100000 in
theorem m_Model_fault : xv_mV J_Model_fault 2 := ⟨xv_in 1049 rfl rfl, xv_in 1048 rfl rfl, xv_inP 45 rfl rfl, xv_in 12 rfl rfl, ⟨by decide, by decide, by decide +kernel⟩, by decide⟩
set_option maxRecDepth 100000 in
theorem m_Model_load : xv_mV J_Model_load 0 := ⟨xv_in 1045 rfl rfl, xv_in 1043 rfl rfl, xv_in 1044 rfl rfl, xv_in 12 rfl rfl, ⟨by decide, by decide, by decide +kernel⟩, by decide⟩
set_option maxRecDepth 100000 in
theorem m_Model_entry : xv_mV J_Model_entry 2 := ⟨xv_in 1057 rfl rfl, xv_in 1055 rfl rfl, xv_in 1056 rfl rfl, xv_in 12 rfl rfl, ⟨by decide, by decide, by decide +kernel⟩, by decide⟩
set_option maxRecDepth 100000 in
theorem m_Model_unit : xv_mV J_Model_unit 3 := ⟨xv_in 1061 rfl rfl, xv_in 1059 rfl rfl, xv_in 1060 rfl rfl, xv_in 12 rfl rfl, ⟨by decide, by decide, by decide +kernel⟩, by decide⟩
set_option maxRecDepth 100000 in
theorem m_Model_count : xv_mV J_Model_count 1 := ⟨xv_in 1065 rfl rfl, xv_in 1063 rfl rfl, xv_in 1064 rfl rfl, xv_in 12 rfl rfl, ⟨by decide, by decide, by decide +kernel⟩, by decide⟩
set_option maxRecDepth 100000 in
theorem m_Arch_init : xv_mI J_Arch_init 0 := ⟨xv_in 142 rfl rfl, xv_in 141 rfl rfl, rfl, rfl, xv_in 7 rfl rfl, ⟨by decide, by decide, by decide +kernel⟩, by decide⟩
set_option maxRecDepth 100000 in
theorem m_Arch_has : xv_mV J_Arch_has 1 := ⟨xv_in 470 rfl rfl, xv_in 468 rfl rfl, xv_in 469 rfl rfl, xv_in 7 rfl rfl, ⟨by decide, by decide, by decide +kernel⟩, by decide⟩
set_option maxRecDepth 100000 in
theorem m_Arch_placeFor : xv_mV J_Arch_placeFor 1 := ⟨xv_in 384 rfl rfl, xv_in 382 rfl rfl, xv_in 383 rfl rfl, xv_in 7 rfl rfl, ⟨by decide, by decide, by decide +kernel⟩, by decide⟩
set_option maxRecDepth 100000 in
theorem m_Arch_keepWith : xv_mV J_Arch_keepWith 1 := ⟨xv_in 449 rfl rfl, xv_in 447 rfl rfl, xv_in 448 rfl rfl, xv_in 7 rfl rfl, ⟨by decide, by decide, by decide +kernel⟩, by decide⟩
set_option maxRecDepth 100000 in
theorem m_Arch_remove : xv_mV J_Arch_remove 1 := ⟨xv_in 499 rfl rfl, xv_in 497 rfl rfl, xv_in 498 rfl rfl, xv_in 7 rfl rfl, ⟨by decide, by decide, by decide +kernel⟩, by decide⟩
set_option maxRecDepth 100000 in
theorem m_Arch_findFault : xv_mV J_Arch_findFault 0 := ⟨xv_in 507 rfl rfl, xv_in 505 rfl rfl, xv_in 506 rfl rfl, xv_in 7 rfl rfl, ⟨by decide, by decide, by decide +kernel⟩, by decide⟩
set_option maxRecDepth 100000 in
theorem m_Arch_findOddEntry : xv_mV J_Arch_findOddEntry 0 := ⟨xv_in 511 rfl rfl, xv_in 510 rfl rfl, xv_inP 16 rfl rfl, xv_in 7 rfl rfl, ⟨by decide, by decide, by decide +kernel⟩, by decide⟩
set_option maxRecDepth 100000 in
theorem m_Arch_findOddClass : xv_mV J_Arch_findOddClass 0 := ⟨xv_in 520 rfl rfl, xv_in 519 rfl rfl, xv_inP 17 rfl rfl, xv_in 7 rfl rfl, ⟨by decide, by decide, by decide +kernel⟩, by decide⟩
set_option maxRecDepth 100000 in
theorem m_Arch_findOddCode : xv_mV J_Arch_findOddCode 0 := ⟨xv_in 524 rfl rfl, xv_in 523 rfl rfl, xv_inP 18 rfl rfl, xv_in 7 rfl rfl, ⟨by decide, by decide, by decide +kernel⟩, by decide⟩
set_option maxRecDepth 100000 in
theorem m_Code_init : xv_mI J_Code_init 0 := ⟨xv_in 174 rfl rfl, xv_in 173 rfl rfl, rfl, rfl, xv_in 10 rfl rfl, ⟨by decide, by decide, by decide +kernel⟩, by decide⟩
set_option maxRecDepth 100000 in
theorem m_Code_forgeable : xv_mS J_Code_forgeable 1 := ⟨xv_in 490 rfl rfl, xv_in 489 rfl rfl, xv_in 10 rfl rfl, ⟨by decide, by decide, by decide +kernel⟩, by decide⟩
set_option maxRecDepth 100000 in
theorem m_Code_append : xv_mV J_Code_append 2 := ⟨xv_in 400 rfl rfl, xv_in 398 rfl rfl, xv_in 399 rfl rfl, xv_in 10 rfl rfl, ⟨by decide, by decide, by decide +kernel⟩, by decide⟩
set_option maxRecDepth 100000 in
theorem m_Code_becomes : xv_mV J_Code_becomes 1 := ⟨xv_in 546 rfl rfl, xv_in 544 rfl rfl, xv_in 545 rfl rfl, xv_in 10 rfl rfl, ⟨by decide, by decide, by decide +kernel⟩, by decide⟩
set_option maxRecDepth 100000 in
theorem m_Check_init : xv_mI J_Check_init 0 := ⟨xv_in 150 rfl rfl, xv_in 149 rfl rfl, rfl, rfl, xv_in 8 rfl rfl, ⟨by decide, by decide, by decide +kernel⟩, by decide⟩
set_option maxRecDepth 100000 in
theorem m_Check_goes : xv_mV J_Check_goes 2 := ⟨xv_in 528 rfl rfl, xv_in 526 rfl rfl, xv_in 527 rfl rfl, xv_in 8 rfl rfl, ⟨by decide, by decide, by decide +kernel⟩, by decide⟩
set_option maxRecDepth 100000 in
theorem m_Check_passes : xv_mV J_Check_passes 2 := ⟨xv_in 536 rfl rfl, xv_in 535 rfl rfl, xv_inP 20 rfl rfl, xv_in 8 rfl rfl, ⟨by decide, by decide, by decide +kernel⟩, by decide⟩
set_option maxRecDepth 100000 in
theorem m_Check_reach : xv_mV J_Check_reach 2 := ⟨xv_in 532 rfl rfl, xv_in 531 rfl rfl, xv_inP 19 rfl rfl, xv_in 8 rfl rfl, ⟨by decide, by decide, by decide +kernel⟩, by decide⟩
set_option maxRecDepth 100000 in
theorem m_Comp_init : xv_mI J_Comp_init 0 := ⟨xv_in 123 rfl rfl, xv_in 122 rfl rfl, rfl, rfl, xv_in 6 rfl rfl, ⟨by decide, by decide, by decide +kernel⟩, by decide⟩
set_option maxRecDepth 100000 in
theorem m_Comp_translate : xv_mV J_Comp_translate 2 := ⟨xv_in 388 rfl rfl, xv_in 386 rfl rfl, xv_in 387 rfl rfl, xv_in 6 rfl rfl, ⟨by decide, by decide, by decide +kernel⟩, by decide⟩
set_option maxRecDepth 100000 in
theorem m_Comp_emit : xv_mV J_Comp_emit 2 := ⟨xv_in 396 rfl rfl, xv_in 395 rfl rfl, xv_inP 3 rfl rfl, xv_in 6 rfl rfl, ⟨by decide, by decide, by decide +kernel⟩, by decide⟩
set_option maxRecDepth 100000 in
theorem m_Comp_emitOfTimes : xv_mV J_Comp_emitOfTimes 1 := ⟨xv_in 435 rfl rfl, xv_in 434 rfl rfl, xv_inP 9 rfl rfl, xv_in 6 rfl rfl, ⟨by decide, by decide, by decide +kernel⟩, by decide⟩
set_option maxRecDepth 100000 in
theorem m_Comp_emitForm : xv_mV J_Comp_emitForm 1 := ⟨xv_in 411 rfl rfl, xv_in 410 rfl rfl, xv_inP 4 rfl rfl, xv_in 6 rfl rfl, ⟨by decide, by decide, by decide +kernel⟩, by decide⟩
set_option maxRecDepth 100000 in
theorem m_Comp_emitIf : xv_mV J_Comp_emitIf 1 := ⟨xv_in 415 rfl rfl, xv_in 414 rfl rfl, xv_inP 5 rfl rfl, xv_in 6 rfl rfl, ⟨by decide, by decide, by decide +kernel⟩, by decide⟩
set_option maxRecDepth 100000 in
theorem m_Comp_emitTimes : xv_mV J_Comp_emitTimes 1 := ⟨xv_in 431 rfl rfl, xv_in 430 rfl rfl, xv_inP 8 rfl rfl, xv_in 6 rfl rfl, ⟨by decide, by decide, by decide +kernel⟩, by decide⟩
set_option maxRecDepth 100000 in
theorem m_Comp_setFirst : xv_mV J_Comp_setFirst 2 := ⟨xv_in 427 rfl rfl, xv_in 426 rfl rfl, xv_inP 7 rfl rfl, xv_in 6 rfl rfl, ⟨by decide, by decide, by decide +kernel⟩, by decide⟩
set_option maxRecDepth 100000 in
theorem m_Comp_setSecond : xv_mV J_Comp_setSecond 2 := ⟨xv_in 423 rfl rfl, xv_in 422 rfl rfl, xv_inP 6 rfl rfl, xv_in 6 rfl rfl, ⟨by decide, by decide, by decide +kernel⟩, by decide⟩
set_option maxRecDepth 100000 in
theorem m_Entry_init : xv_mI J_Entry_init 0 := ⟨xv_in 168 rfl rfl, xv_in 167 rfl rfl, rfl, rfl, xv_in 9 rfl rfl, ⟨by decide, by decide, by decide +kernel⟩, by decide⟩
set_option maxRecDepth 100000 in
theorem m_Entry_startWith : xv_mV J_Entry_startWith 1 := ⟨xv_in 392 rfl rfl, xv_in 390 rfl rfl, xv_in 391 rfl rfl, xv_in 9 rfl rfl, ⟨by decide, by decide, by decide +kernel⟩, by decide⟩
set_option maxRecDepth 100000 in
theorem m_Entry_finishFor : xv_mV J_Entry_finishFor 1 := ⟨xv_in 440 rfl rfl, xv_in 438 rfl rfl, xv_in 439 rfl rfl, xv_in 9 rfl rfl, ⟨by decide, by decide, by decide +kernel⟩, by decide⟩
set_option maxRecDepth 100000 in
theorem m_Entry_makeSeal : xv_mV J_Entry_makeSeal 0 := ⟨xv_in 444 rfl rfl, xv_in 442 rfl rfl, xv_in 443 rfl rfl, xv_in 9 rfl rfl, ⟨by decide, by decide, by decide +kernel⟩, by decide⟩
set_option maxRecDepth 100000 in
theorem m_Entry_sealGoes : xv_mV J_Entry_sealGoes 0 := ⟨xv_in 515 rfl rfl, xv_in 513 rfl rfl, xv_in 514 rfl rfl, xv_in 9 rfl rfl, ⟨by decide, by decide, by decide +kernel⟩, by decide⟩
set_option maxRecDepth 100000 in
theorem m_Form_init : xv_mI J_Form_init 0 := ⟨xv_in 35 rfl rfl, xv_in 34 rfl rfl, rfl, rfl, xv_in 2 rfl rfl, ⟨by decide, by decide, by decide +kernel⟩, by decide⟩
set_option maxRecDepth 100000 in
theorem m_Form_allows : xv_mS J_Form_allows 2 := ⟨xv_in 330 rfl rfl, xv_in 329 rfl rfl, xv_in 2 rfl rfl, ⟨by decide, by decide, by decide +kernel⟩, by decide⟩
set_option maxRecDepth 100000 in
theorem m_Form_append : xv_mV J_Form_append 2 := ⟨xv_in 337 rfl rfl, xv_in 335 rfl rfl, xv_in 336 rfl rfl, xv_in 2 rfl rfl, ⟨by decide, by decide, by decide +kernel⟩, by decide⟩
set_option maxRecDepth 100000 in
theorem m_Form_becomes : xv_mV J_Form_becomes 2 := ⟨xv_in 364 rfl rfl, xv_in 362 rfl rfl, xv_in 363 rfl rfl, xv_in 2 rfl rfl, ⟨by decide, by decide, by decide +kernel⟩, by decide⟩
set_option maxRecDepth 100000 in
theorem m_Form_start : xv_mV J_Form_start 2 := ⟨xv_in 419 rfl rfl, xv_in 417 rfl rfl, xv_in 418 rfl rfl, xv_in 2 rfl rfl, ⟨by decide, by decide, by decide +kernel⟩, by decide⟩
set_option maxRecDepth 100000 in
theorem m_Form_isOneFormOf : xv_mV J_Form_isOneFormOf 2 := ⟨xv_in 346 rfl rfl, xv_in 344 rfl rfl, xv_in 345 rfl rfl, xv_in 2 rfl rfl, ⟨by decide, by decide, by decide +kernel⟩, by decide⟩
set_option maxRecDepth 100000 in
theorem m_Form_callsGo : xv_mV J_Form_callsGo 1 := ⟨xv_in 350 rfl rfl, xv_in 349 rfl rfl, xv_inP 0 rfl rfl, xv_in 2 rfl rfl, ⟨by decide, by decide, by decide +kernel⟩, by decide⟩
set_option maxRecDepth 100000 in
theorem m_Form_endOf : xv_mV J_Form_endOf 4 := ⟨xv_in 354 rfl rfl, xv_in 353 rfl rfl, xv_inP 1 rfl rfl, xv_in 2 rfl rfl, ⟨by decide, by decide, by decide +kernel⟩, by decide⟩
set_option maxRecDepth 100000 in
theorem m_Form_mayStand : xv_mV J_Form_mayStand 4 := ⟨xv_in 358 rfl rfl, xv_in 357 rfl rfl, xv_inP 2 rfl rfl, xv_in 2 rfl rfl, ⟨by decide, by decide, by decide +kernel⟩, by decide⟩
set_option maxRecDepth 100000 in
theorem m_Frame_init : xv_mI J_Frame_init 0 := ⟨xv_in 79 rfl rfl, xv_in 78 rfl rfl, rfl, rfl, xv_in 4 rfl rfl, ⟨by decide, by decide, by decide +kernel⟩, by decide⟩
set_option maxRecDepth 100000 in
theorem m_Frame_begin : xv_mV J_Frame_begin 4 := ⟨xv_in 659 rfl rfl, xv_in 657 rfl rfl, xv_in 658 rfl rfl, xv_in 4 rfl rfl, ⟨by decide, by decide, by decide +kernel⟩, by decide⟩
set_option maxRecDepth 100000 in
theorem m_Frame_push : xv_mV J_Frame_push 1 := ⟨xv_in 721 rfl rfl, xv_in 719 rfl rfl, xv_in 720 rfl rfl, xv_in 4 rfl rfl, ⟨by decide, by decide, by decide +kernel⟩, by decide⟩
set_option maxRecDepth 100000 in
theorem m_Frame_pop : xv_mV J_Frame_pop 0 := ⟨xv_in 696 rfl rfl, xv_in 694 rfl rfl, xv_in 695 rfl rfl, xv_in 4 rfl rfl, ⟨by decide, by decide, by decide +kernel⟩, by decide⟩
set_option maxRecDepth 100000 in
theorem m_Frame_top : xv_mV J_Frame_top 0 := ⟨xv_in 730 rfl rfl, xv_in 728 rfl rfl, xv_in 729 rfl rfl, xv_in 4 rfl rfl, ⟨by decide, by decide, by decide +kernel⟩, by decide⟩
set_option maxRecDepth 100000 in
theorem m_Image_init : xv_mI J_Image_init 0 := ⟨xv_in 285 rfl rfl, xv_in 284 rfl rfl, rfl, rfl, xv_in 11 rfl rfl, ⟨by decide, by decide, by decide +kernel⟩, by decide⟩
set_option maxRecDepth 100000 in
theorem m_Image_has : xv_mV J_Image_has 1 := ⟨xv_in 573 rfl rfl, xv_in 571 rfl rfl, xv_in 572 rfl rfl, xv_in 11 rfl rfl, ⟨by decide, by decide, by decide +kernel⟩, by decide⟩
set_option maxRecDepth 100000 in
theorem m_Image_size : xv_mV J_Image_size 0 := ⟨xv_in 569 rfl rfl, xv_in 567 rfl rfl, xv_in 568 rfl rfl, xv_in 11 rfl rfl, ⟨by decide, by decide, by decide +kernel⟩, by decide⟩
set_option maxRecDepth 100000 in
theorem m_Image_remake : xv_mV J_Image_remake 1 := ⟨xv_in 542 rfl rfl, xv_in 540 rfl rfl, xv_in 541 rfl rfl, xv_in 11 rfl rfl, ⟨by decide, by decide, by decide +kernel⟩, by decide⟩
set_option maxRecDepth 100000 in
theorem m_Image_answer : xv_mV J_Image_answer 4 := ⟨xv_in 773 rfl rfl, xv_in 772 rfl rfl, xv_inP 29 rfl rfl, xv_in 11 rfl rfl, ⟨by decide, by decide, by decide +kernel⟩, by decide⟩
set_option maxRecDepth 100000 in
theorem m_Image_perform : xv_mV J_Image_perform 2 := ⟨xv_in 779 rfl rfl, xv_in 778 rfl rfl, xv_inP 30 rfl rfl, xv_in 11 rfl rfl, ⟨by decide, by decide, by decide +kernel⟩, by decide⟩
set_option maxRecDepth 100000 in
theorem m_Image_rework : xv_mS J_Image_rework 2 := ⟨xv_in 806 rfl rfl, xv_in 805 rfl rfl, xv_in 11 rfl rfl, ⟨by decide, by decide, by decide +kernel⟩, by decide⟩
set_option maxRecDepth 100000 in
theorem m_Image_answerOfLower : xv_mV J_Image_answerOfLower 2 := ⟨xv_in 786 rfl rfl, xv_in 785 rfl rfl, xv_inP 31 rfl rfl, xv_in 11 rfl rfl, ⟨by decide, by decide, by decide +kernel⟩, by decide⟩
set_option maxRecDepth 100000 in
theorem m_Interp_init : xv_mI J_Interp_init 0 := ⟨xv_in 67 rfl rfl, xv_in 66 rfl rfl, rfl, rfl, xv_in 3 rfl rfl, ⟨by decide, by decide, by decide +kernel⟩, by decide⟩
set_option maxRecDepth 100000 in
theorem m_Interp_has : xv_mV J_Interp_has 1 := ⟨xv_in 379 rfl rfl, xv_in 377 rfl rfl, xv_in 378 rfl rfl, xv_in 3 rfl rfl, ⟨by decide, by decide, by decide +kernel⟩, by decide⟩
set_option maxRecDepth 100000 in
theorem m_Interp_size : xv_mV J_Interp_size 0 := ⟨xv_in 564 rfl rfl, xv_in 562 rfl rfl, xv_in 563 rfl rfl, xv_in 3 rfl rfl, ⟨by decide, by decide, by decide +kernel⟩, by decide⟩
set_option maxRecDepth 100000 in
theorem m_Interp_answer : xv_mV J_Interp_answer 4 := ⟨xv_in 587 rfl rfl, xv_in 586 rfl rfl, xv_inP 21 rfl rfl, xv_in 3 rfl rfl, ⟨by decide, by decide, by decide +kernel⟩, by decide⟩
set_option maxRecDepth 100000 in
theorem m_Interp_advance : xv_mV J_Interp_advance 1 := ⟨xv_in 679 rfl rfl, xv_in 678 rfl rfl, xv_inP 24 rfl rfl, xv_in 3 rfl rfl, ⟨by decide, by decide, by decide +kernel⟩, by decide⟩
set_option maxRecDepth 100000 in
theorem m_Interp_choose : xv_mV J_Interp_choose 2 := ⟨xv_in 692 rfl rfl, xv_in 691 rfl rfl, xv_inP 25 rfl rfl, xv_in 3 rfl rfl, ⟨by decide, by decide, by decide +kernel⟩, by decide⟩
set_option maxRecDepth 100000 in
theorem m_Interp_goRound : xv_mV J_Interp_goRound 3 := ⟨xv_in 712 rfl rfl, xv_in 711 rfl rfl, xv_inP 26 rfl rfl, xv_in 3 rfl rfl, ⟨by decide, by decide, by decide +kernel⟩, by decide⟩
set_option maxRecDepth 100000 in
theorem m_Interp_finish : xv_mV J_Interp_finish 3 := ⟨xv_in 726 rfl rfl, xv_in 725 rfl rfl, xv_inP 27 rfl rfl, xv_in 3 rfl rfl, ⟨by decide, by decide, by decide +kernel⟩, by decide⟩
set_option maxRecDepth 100000 in
theorem m_Interp_answerOfLower : xv_mV J_Interp_answerOfLower 2 := ⟨xv_in 734 rfl rfl, xv_in 733 rfl rfl, xv_inP 28 rfl rfl, xv_in 3 rfl rfl, ⟨by decide, by decide, by decide +kernel⟩, by decide⟩
set_option maxRecDepth 100000 in
theorem m_Ints_reckon : xv_mS J_Ints_reckon 3 := ⟨xv_in 738 rfl rfl, xv_in 737 rfl rfl, xv_in 19 rfl rfl, ⟨by decide, by decide, by decide +kernel⟩, by decide⟩
set_option maxRecDepth 100000 in
theorem m_Ints_isAsSaid : xv_mS J_Ints_isAsSaid 2 := ⟨xv_in 699 rfl rfl, xv_in 698 rfl rfl, xv_in 19 rfl rfl, ⟨by decide, by decide, by decide +kernel⟩, by decide⟩
set_option maxRecDepth 100000 in
theorem m_Ints_divisor : xv_mS J_Ints_divisor 1 := ⟨xv_in 741 rfl rfl, xv_in 740 rfl rfl, xv_in 19 rfl rfl, ⟨by decide, by decide, by decide +kernel⟩, by decide⟩
set_option maxRecDepth 100000 in
theorem m_Opens_init : xv_mI J_Opens_init 0 := ⟨xv_in 96 rfl rfl, xv_in 95 rfl rfl, rfl, rfl, xv_in 5 rfl rfl, ⟨by decide, by decide, by decide +kernel⟩, by decide⟩
set_option maxRecDepth 100000 in
theorem m_Opens_begin : xv_mV J_Opens_begin 0 := ⟨xv_in 666 rfl rfl, xv_in 664 rfl rfl, xv_in 665 rfl rfl, xv_in 5 rfl rfl, ⟨by decide, by decide, by decide +kernel⟩, by decide⟩
set_option maxRecDepth 100000 in
theorem m_Opens_isEmpty : xv_mV J_Opens_isEmpty 0 := ⟨xv_in 675 rfl rfl, xv_in 673 rfl rfl, xv_in 674 rfl rfl, xv_in 5 rfl rfl, ⟨by decide, by decide, by decide +kernel⟩, by decide⟩
set_option maxRecDepth 100000 in
theorem m_Opens_place : xv_mV J_Opens_place 0 := ⟨xv_in 683 rfl rfl, xv_in 681 rfl rfl, xv_in 682 rfl rfl, xv_in 5 rfl rfl, ⟨by decide, by decide, by decide +kernel⟩, by decide⟩
set_option maxRecDepth 100000 in
theorem m_Opens_partsDone : xv_mV J_Opens_partsDone 0 := ⟨xv_in 688 rfl rfl, xv_in 686 rfl rfl, xv_in 687 rfl rfl, xv_in 5 rfl rfl, ⟨by decide, by decide, by decide +kernel⟩, by decide⟩
set_option maxRecDepth 100000 in
theorem m_Opens_enterPart : xv_mV J_Opens_enterPart 1 := ⟨xv_in 716 rfl rfl, xv_in 714 rfl rfl, xv_in 715 rfl rfl, xv_in 5 rfl rfl, ⟨by decide, by decide, by decide +kernel⟩, by decide⟩
set_option maxRecDepth 100000 in
theorem m_Opens_leave : xv_mV J_Opens_leave 0 := ⟨xv_in 708 rfl rfl, xv_in 706 rfl rfl, xv_in 707 rfl rfl, xv_in 5 rfl rfl, ⟨by decide, by decide, by decide +kernel⟩, by decide⟩
set_option maxRecDepth 100000 in
theorem m_Opens_goOnAs : xv_mV J_Opens_goOnAs 1 := ⟨xv_in 704 rfl rfl, xv_in 702 rfl rfl, xv_in 703 rfl rfl, xv_in 5 rfl rfl, ⟨by decide, by decide, by decide +kernel⟩, by decide⟩
set_option maxRecDepth 100000 in
theorem m_Opens_enter : xv_mV J_Opens_enter 1 := ⟨xv_in 670 rfl rfl, xv_in 669 rfl rfl, xv_inP 23 rfl rfl, xv_in 5 rfl rfl, ⟨by decide, by decide, by decide +kernel⟩, by decide⟩
set_option maxRecDepth 100000 in
theorem m_Arrays_fill : xv_mS J_Arrays_fill 2 := ⟨xv_in 662 rfl rfl, xv_in 661 rfl rfl, xv_in 18 rfl rfl, ⟨by decide, by decide, by decide +kernel⟩, by decide⟩
end
section
/-! MEMORY: an abstract memory: how many cells and slots; of a cell its kind (0 none; ci + 1 an object of the class with number ci; 100 int[], 101 boolean[], 102 long[], 103 and on arrays of references), its length, its ints, references (numbers of cells), longs -/
abbrev xv_M : Type := (Nat × Nat) × (Nat → Nat) × (Nat → Nat) × (Nat → Nat → Int32) × (Nat → Nat → Option Nat) × (Nat → Nat → Int64)
def xv_N (u : xv_M) : Nat := u.1.1
def xv_S (u : xv_M) : Nat := u.1.2
def xv_k (u : xv_M) (a : Nat) : Nat := u.2.1 a
def xv_l (u : xv_M) (a : Nat) : Nat := u.2.2.1 a
def xv_i (u : xv_M) (a j : Nat) : Int32 := u.2.2.2.1 a j
def xv_r (u : xv_M) (a j : Nat) : Option Nat := u.2.2.2.2.1 a j
def xv_g (u : xv_M) (a j : Nat) : Int64 := u.2.2.2.2.2 a j
def xv_mk (N S : Nat) (k l : Nat → Nat) (i : Nat → Nat → Int32) (r : Nat → Nat → Option Nat) (g : Nat → Nat → Int64) : xv_M := ((N, S), k, l, i, r, g)
def xv_si (u : xv_M) (a j : Nat) (v : Int32) : xv_M := xv_mk (xv_N u) (xv_S u) (xv_k u) (xv_l u) (fun b q => if b = a ∧ q = j then v else xv_i u b q) (xv_r u) (xv_g u)
def xv_sr (u : xv_M) (a j : Nat) (v : Option Nat) : xv_M := xv_mk (xv_N u) (xv_S u) (xv_k u) (xv_l u) (xv_i u) (fun b q => if b = a ∧ q = j then v else xv_r u b q) (xv_g u)
def xv_sg (u : xv_M) (a j : Nat) (v : Int64) : xv_M := xv_mk (xv_N u) (xv_S u) (xv_k u) (xv_l u) (xv_i u) (xv_r u) (fun b q => if b = a ∧ q = j then v else xv_g u b q)
/-- a whole row of ints anew -/
def xv_sw (u : xv_M) (a : Nat) (f : Nat → Int32) : xv_M := xv_mk (xv_N u) (xv_S u) (xv_k u) (xv_l u) (fun b q => if b = a then f q else xv_i u b q) (xv_r u) (xv_g u)
/-- a new cell: kind, length, slots -/
def xv_nw (u : xv_M) (k n sl : Nat) : xv_M := xv_mk (xv_N u + 1) (xv_S u + sl) (fun b => if b = xv_N u then k else xv_k u b) (fun b => if b = xv_N u then n else xv_l u b) (fun b q => if b = xv_N u then 0 else xv_i u b q) (fun b q => if b = xv_N u then none else xv_r u b q) (fun b q => if b = xv_N u then 0 else xv_g u b q)
def xv_wf (u : xv_M) : Prop := ∀ a, xv_k u a ≠ 0 → a < xv_N u
/-- base, external arrays, array classes, classes and slots, the script's length and ints -/
abbrev xv_G : Type := Nat × (Nat → Nat) × (Nat → ClassId) × va_G × Nat × (Nat → Int32)
def xv_B (G : xv_G) : Nat := G.1
def xv_ex (G : xv_G) : Nat → Nat := G.2.1
def xv_cA (G : xv_G) : Nat → ClassId := G.2.2.1
def xv_dG (G : xv_G) : va_G := G.2.2.2.1
def xv_A (G : xv_G) : Nat → Prop := fun q => xv_B G ≤ q
def xv_cv (G : xv_G) (v : Value) : Value := match v with
  | .ref a => .ref (xv_B G + a)
  | .retAddr k => .ref (xv_ex G k)
  | w => w
def xv_rq (G : xv_G) (r : Option Nat) : Option Nat := r.map (fun b => xv_B G + b)
def xv_fv (G : xv_G) (u : xv_M) (a ci j : Nat) : Value := if xv_rf ci j = true then va_rf (xv_rq G (xv_r u a j)) else .int (xv_i u a j)
def xv_fs (G : xv_G) (u : xv_M) (a ci : Nat) : List Value := (List.range (xv_nf ci)).map (xv_fv G u a ci)
def xv_ar (G : xv_G) (u : xv_M) (a k : Nat) : vp_A := (xv_l u a, if k < 102 then .inl (xv_i u a) else if k = 102 then .inr (.inl (xv_g u a)) else .inr (.inr (.inr (.inr (fun j => xv_rq G (xv_r u a j))))))
def xv_E (G : xv_G) (u : xv_M) (a : Nat) : va_E := if xv_k u a < 100 then .inr (xv_k u a - 1, xv_fs G u a (xv_k u a - 1)) else .inl (xv_cA G (xv_k u a - 100), xv_ar G u a (xv_k u a))
def xv_ws (G : xv_G) (u : xv_M) : va_W := (List.range (xv_N u)).map (fun a => (xv_B G + a, xv_E G u a))
theorem xv_ws_get {G : xv_G} {u : xv_M} {a : Nat} (h : a < xv_N u) : (xv_ws G u)[a]? = some (xv_B G + a, xv_E G u a) := by
  unfold xv_ws
  rw [List.getElem?_map, List.getElem?_range h]
  rfl
theorem xv_ws_inv {G : xv_G} {u : xv_M} {k : Nat} {q : Nat × va_E} (h : (xv_ws G u)[k]? = some q) : k < xv_N u ∧ q = (xv_B G + k, xv_E G u k) := by
  have hk : k < xv_N u := by
    have := (List.getElem?_eq_some_iff.mp h).1
    simpa [xv_ws] using this
  rw [xv_ws_get hk] at h
  exact ⟨hk, (Option.some.inj h).symm⟩
theorem xv_ws_set {G : xv_G} {u w : xv_M} {a : Nat} {e : va_E} (hN : xv_N w = xv_N u) (he : xv_E G w a = e) (ho : ∀ b, b ≠ a → xv_E G w b = xv_E G u b) : (xv_ws G u).set a (xv_B G + a, e) = xv_ws G w := by
  apply List.ext_getElem?
  intro k
  rw [List.getElem?_set]
  by_cases hk : k < xv_N u
  · have hk' : k < xv_N w := by rw [hN]; exact hk
    rw [xv_ws_get hk', xv_ws_get hk]
    by_cases ha : a = k
    · subst ha
      have hl : a < (xv_ws G u).length := by simpa [xv_ws] using hk
      simp [hl, he]
    · rw [if_neg ha, ho k (fun q => ha q.symm)]
  · have h1 : (xv_ws G u)[k]? = none := by
      apply List.getElem?_eq_none
      simpa [xv_ws] using hk
    have h2 : (xv_ws G w)[k]? = none := by
      apply List.getElem?_eq_none
      simpa [xv_ws, hN] using hk
    have h3 : ¬ k < (xv_ws G u).length := by simpa [xv_ws] using hk
    rw [h1, h2]
    by_cases ha : a = k
    · subst ha; simp [h3]
    · rw [if_neg ha]
theorem xv_ws_push {G : xv_G} {u w : xv_M} {e : va_E} (hN : xv_N w = xv_N u + 1) (he : xv_E G w (xv_N u) = e) (ho : ∀ b, b < xv_N u → xv_E G w b = xv_E G u b) : xv_ws G u ++ [(xv_B G + xv_N u, e)] = xv_ws G w := by
  unfold xv_ws
  rw [hN, List.range_succ, List.map_append]
  congr 1
  · apply List.map_congr_left
    intro b hb
    rw [ho b (List.mem_range.mp hb)]
  · simp [he]
theorem xv_D (G : xv_G) (u : xv_M) : va_D (xv_A G) (xv_ws G u) := by
  refine ⟨fun i j p q hp hq h => ?_, fun k q hq => ?_⟩
  · obtain ⟨-, rfl⟩ := xv_ws_inv hp
    obtain ⟨-, rfl⟩ := xv_ws_inv hq
    have h : xv_B G + i = xv_B G + j := h
    omega
  · obtain ⟨-, rfl⟩ := xv_ws_inv hq
    exact Nat.le_add_right _ _
theorem xv_E_obj {G : xv_G} {u : xv_M} {a ci : Nat} (hk : xv_k u a = ci + 1) (hc : ci < 99) : xv_E G u a = .inr (ci, xv_fs G u a ci) := by
  unfold xv_E
  rw [if_pos (by omega), hk]
  rfl
theorem xv_E_arr {G : xv_G} {u : xv_M} {a t : Nat} (hk : xv_k u a = 100 + t) : xv_E G u a = .inl (xv_cA G t, xv_ar G u a (100 + t)) := by
  unfold xv_E
  rw [if_neg (by omega), hk, Nat.add_sub_cancel_left]
theorem xv_E_int {G : xv_G} {u : xv_M} {a t : Nat} (hk : xv_k u a = 100 + t) (ht : t < 2) : xv_E G u a = .inl (xv_cA G t, xv_l u a, .inl (xv_i u a)) := by
  rw [xv_E_arr hk]
  unfold xv_ar
  rw [if_pos (by omega)]
theorem xv_E_long {G : xv_G} {u : xv_M} {a : Nat} (hk : xv_k u a = 102) : xv_E G u a = .inl (xv_cA G 2, xv_l u a, .inr (.inl (xv_g u a))) := by
  rw [xv_E_arr (t := 2) hk]
  rfl
theorem xv_E_ref {G : xv_G} {u : xv_M} {a t : Nat} (hk : xv_k u a = 103 + t) : xv_E G u a = .inl (xv_cA G (3 + t), xv_l u a, .inr (.inr (.inr (.inr (fun j => xv_rq G (xv_r u a j)))))) := by
  rw [xv_E_arr (t := 3 + t) (by omega)]
  unfold xv_ar
  rw [if_neg (by omega), if_neg (by omega)]
theorem xv_fs_get {G : xv_G} {u : xv_M} {a ci j : Nat} (h : j < xv_nf ci) : (xv_fs G u a ci)[j]? = some (xv_fv G u a ci j) := by
  unfold xv_fs
  rw [List.getElem?_map, List.getElem?_range h]
  rfl
theorem xv_fs_len (G : xv_G) (u : xv_M) (a ci : Nat) : (xv_fs G u a ci).length = xv_nf ci := by simp [xv_fs]
theorem xv_fs_set {G : xv_G} {u w : xv_M} {a ci j : Nat} {v : Value} (hv : xv_fv G w a ci j = v) (ho : ∀ q, q ≠ j → xv_fv G w a ci q = xv_fv G u a ci q) : (xv_fs G u a ci).set j v = xv_fs G w a ci := by
  apply List.ext_getElem?
  intro k
  rw [List.getElem?_set]
  by_cases hk : k < xv_nf ci
  · rw [xv_fs_get hk, xv_fs_get hk]
    by_cases ha : j = k
    · subst ha
      rw [if_pos rfl, if_pos (by rw [xv_fs_len]; exact hk), hv]
    · rw [if_neg ha, ho k (fun q => ha q.symm)]
  · have h1 : (xv_fs G u a ci)[k]? = none := by
      apply List.getElem?_eq_none
      rw [xv_fs_len]; omega
    have h2 : (xv_fs G w a ci)[k]? = none := by
      apply List.getElem?_eq_none
      rw [xv_fs_len]; omega
    have h3 : ¬ k < (xv_fs G u a ci).length := by rw [xv_fs_len]; exact hk
    rw [h1, h2]
    by_cases ha : j = k
    · subst ha; rw [if_pos rfl, if_neg h3]
    · rw [if_neg ha]
/-! what a cell is after a change elsewhere -/
theorem xv_E_congr {G : xv_G} {u w : xv_M} {b : Nat} (hk : xv_k w b = xv_k u b) (hl : xv_l w b = xv_l u b) (hi : xv_i w b = xv_i u b) (hr : xv_r w b = xv_r u b) (hg : xv_g w b = xv_g u b) : xv_E G w b = xv_E G u b := by
  have hfs : ∀ ci, xv_fs G w b ci = xv_fs G u b ci := by
    intro ci
    unfold xv_fs xv_fv
    rw [hi, hr]
  have har : ∀ k, xv_ar G w b k = xv_ar G u b k := by
    intro k
    unfold xv_ar
    rw [hi, hr, hg, hl]
  unfold xv_E
  rw [hk, hfs, har]
theorem xv_si_E {G : xv_G} {u : xv_M} {a j b : Nat} {v : Int32} (h : b ≠ a) : xv_E G (xv_si u a j v) b = xv_E G u b :=
  xv_E_congr rfl rfl (funext fun q => if_neg (fun z => h z.1)) rfl rfl
theorem xv_sr_E {G : xv_G} {u : xv_M} {a j b : Nat} {v : Option Nat} (h : b ≠ a) : xv_E G (xv_sr u a j v) b = xv_E G u b :=
  xv_E_congr rfl rfl rfl (funext fun q => if_neg (fun z => h z.1)) rfl
theorem xv_sg_E {G : xv_G} {u : xv_M} {a j b : Nat} {v : Int64} (h : b ≠ a) : xv_E G (xv_sg u a j v) b = xv_E G u b :=
  xv_E_congr rfl rfl rfl rfl (funext fun q => if_neg (fun z => h z.1))
theorem xv_sw_E {G : xv_G} {u : xv_M} {a b : Nat} {f : Nat → Int32} (h : b ≠ a) : xv_E G (xv_sw u a f) b = xv_E G u b :=
  xv_E_congr rfl rfl (funext fun q => if_neg h) rfl rfl
theorem xv_nw_E {G : xv_G} {u : xv_M} {k n sl b : Nat} (h : b < xv_N u) : xv_E G (xv_nw u k n sl) b = xv_E G u b := by
  have hb : b ≠ xv_N u := by omega
  exact xv_E_congr (if_neg hb) (if_neg hb) (funext fun q => if_neg hb) (funext fun q => if_neg hb) (funext fun q => if_neg hb)
theorem xv_wf_si {u : xv_M} {a j : Nat} {v : Int32} (h : xv_wf u) : xv_wf (xv_si u a j v) := h
theorem xv_wf_sr {u : xv_M} {a j : Nat} {v : Option Nat} (h : xv_wf u) : xv_wf (xv_sr u a j v) := h
theorem xv_wf_sg {u : xv_M} {a j : Nat} {v : Int64} (h : xv_wf u) : xv_wf (xv_sg u a j v) := h
theorem xv_wf_sw {u : xv_M} {a : Nat} {f : Nat → Int32} (h : xv_wf u) : xv_wf (xv_sw u a f) := h
theorem xv_wf_nw {u : xv_M} {k n sl : Nat} (h : xv_wf u) : xv_wf (xv_nw u k n sl) := by
  intro b hb
  show b < xv_N u + 1
  by_cases hq : b = xv_N u
  · omega
  · have hb' : xv_k u b ≠ 0 := by
      have : xv_k (xv_nw u k n sl) b = xv_k u b := if_neg hq
      rw [this] at hb; exact hb
    have := h b hb'
    omega
end
section
/-! constant facts -/
def xv_isN (w : Cond) : Bool := match w with
  | .methodLinkNest .. => true
  | .fieldLinkNest .. => true
  | _ => false
theorem xv_Nwarm {w : Cond} {u U : State} (h : xv_isN w = true) (hW : u.WarmedH U.vm) (hz : va_Nw w u) : va_Nw w U := by
  cases w <;> first | exact va_Nw.warmM hW hz | exact va_Nw.warmF hW hz | (exfalso; revert h; simp [xv_isN])
def xv_tys (G : xv_G) : List (ClassId × FieldType) := [(xv_cA G 0, .int), (xv_cA G 1, .boolean), (xv_cA G 2, .long), (xv_cA G 3, .object "FaslDesk$Form"), (xv_cA G 4, .object "FaslDesk$Frame"), (xv_cA G 5, .object "FaslDesk$OpenForms"), (xv_cA G 6, .object "FaslDesk$Entry"), (xv_cA G 7, .object "FaslDesk$Code")]
theorem xv_tys_at {G : xv_G} {t : Nat} {C : String} (h : xv_ra[t]? = some C) : (xv_tys G)[3 + t]? = some (xv_cA G (3 + t), .object C) := by
  have ht : t < 5 := (List.getElem?_eq_some_iff.mp h).1
  rcases (by omega : t = 0 ∨ t = 1 ∨ t = 2 ∨ t = 3 ∨ t = 4) with rfl | rfl | rfl | rfl | rfl <;> (cases h; rfl)
theorem xv_nest_ok : ∀ w ∈ xv_nest, xv_isN w = true := by decide +kernel
/-! what a throw needs -/
def xNo (w : Cond) : Bool := match w with
  | .isRef _ => false
  | .laysStatic .. => false
  | _ => true
def xv_sites : List (String × Nat × String) := [("FaslDesk$Ints", 17, "java/lang/ArithmeticException"), ("FaslDesk$Interpreter", 48, "java/util/NoSuchElementException"), ("FaslDesk", 165, "java/util/NoSuchElementException"), ("FaslDesk$Image", 110, "java/lang/IllegalStateException")]
def xv_names : List String := ["java/lang/RuntimeException", "java/lang/Exception"]
def xv_thw : List Cond := xv_sites.flatMap (fun q => (Bundle.ownAtoms q.1 q.2.1 q.2.2 xv_names).filter xNo)
def xv_strs : List (String × Nat × String) := [("FaslDesk$Ints", 15, "ZERO"), ("FaslDesk$Interpreter", 46, "the FUNCTION has no form"), ("FaslDesk", 163, "the IMAGE has no such FUNCTION"), ("FaslDesk$Image", 108, "the IMAGE does not have what a CALL leads to")]
set_option maxRecDepth 100000 in
theorem xv_thw_ok : ∀ w ∈ xv_thw, w.onTables = true ∧ w.keepsFace = true := by decide +kernel
theorem xv_tmove {w : Cond} {u U : State} (h1 : w.onTables = true) (h2 : w.keepsFace = true) (hW : u.WarmedH U.vm) (h : va_Nw w u) : va_Nw w U := va_tabs h1 (rfl : (u.setVm U.vm).vm = U.vm) (Cond.rides hW.wide h2 h)
/-- a static field's place, out of A -/
def xv_SL (C n d : String) (A : Nat → Prop) (U : State) (H : Heap) : Prop := ∃ (c : ClassId) (k : Class) (i : Nat) (f : Field) (a : Nat) (cell : Cell), (U.vm.findClass C = some c ∧ U.fieldFound? C n d = some (c, k, i, f) ∧ f.isStatic = true ∧ k.statics = some a ∧ cell.vm.isStatics = true ∧ cell.cls = c ∧ f.slot < cell.slots.size ∧ k.staticTypes[f.slot]? = some f.type) ∧ H[a]? = some cell ∧ ¬ A a
theorem xv_SL_moved {C n d : String} {A : Nat → Prop} {u U : State} {H H1 : Heap} (hvm : u.vm.Alike U.vm) (hq : ∀ a : Nat, a < H.size → ¬ A a → H1[a]? = H[a]?) (h : xv_SL C n d A u H) : xv_SL C n d A U H1 := by
  obtain ⟨c, k, i, f, a, cell, ⟨h1, h2, h3, h4, h5, h6, h7, h8⟩, h9, h10⟩ := h
  obtain ⟨k', hi', he⟩ := State.fieldFound?_setVm hvm h2
  exact ⟨c, k', i, f, a, cell, ⟨by rw [hvm.findClass]; exact h1, hi', h3, by rw [he]; exact h4, h5, h6, h7, by rw [he]; exact h8⟩, by rw [hq a (Array.getElem?_eq_some_iff.mp h9).1 h10]; exact h9, h10⟩
theorem xv_SL_word {C n d : String} {A : Nat → Prop} {U : State} {args : Array Value} (h : xv_SL C n d A U U.heap) : (Cond.laysStatic C n d).before args U = true := by
  obtain ⟨c, k, i, f, a, cell, ⟨h1, h2, h3, h4, h5, h6, h7, h8⟩, h9, h10⟩ := h
  show (Cond.laysStatic C n d).holds args U none U [] = true
  exact Cond.laysStatic_of h1 h2 h3 h4 h9 h5 h6 h7 h8
theorem xv_SL_of {C n d : String} {A : Nat → Prop} {s : State} {args : Array Value} (hl : (Cond.laysStatic C n d).before args s = true) (hA : ∀ a : Nat, a < s.heap.size → ¬ A a) : xv_SL C n d A s s.heap := by
  obtain ⟨c, k, i, f, a, cell, h1, h2, h3, h4, h5, h6, h7, h8, h9⟩ := Cond.laysStatic_spec hl
  exact ⟨c, k, i, f, a, cell, ⟨h1, h2, h3, h4, h6, h7, h8, h9⟩, h5, hA a (Array.getElem?_eq_some_iff.mp h5).1⟩
theorem xv_isR {C n d : String} {A : Nat → Prop} {s : State} {args : Array Value} (h : va_Zq C n d A s s.heap) : (Cond.isRef (.static C n d)).before args s = true := by
  rcases h with h | ⟨t, h⟩
  · obtain ⟨cf, kf, fi, f, a, cell, h1, h2, h3, h4, h5, h6, h7, -⟩ := h
    have he : (Term.static C n d).eval args s none [] s = some .null := by
      simp [Term.eval, State.fieldNamed?, h1, h2, h4, h5, h6, h7]
    simp [Cond.before, Cond.holds, Cond.value, he]
  · obtain ⟨cf, kf, fi, f, a, cell, h1, h2, h3, h4, h5, h6, h7, -⟩ := h
    have he : (Term.static C n d).eval args s none [] s = some (.ref t) := by
      simp [Term.eval, State.fieldNamed?, h1, h2, h4, h5, h6, h7]
    simp [Cond.before, Cond.holds, Cond.value, he]
def xv_Th (G : xv_G) (U : State) (H : Heap) : Prop := (∀ w ∈ xv_thw, va_Nw w U) ∧ (va_Zq Bundle.tN "UNASSIGNED_STACK" Bundle.steD (xv_A G) U H ∧ xv_SL Bundle.tN "UNASSIGNED_STACK" Bundle.steD (xv_A G) U H) ∧ (va_Zq Bundle.tN "SUPPRESSED_SENTINEL" Bundle.listD (xv_A G) U H ∧ xv_SL Bundle.tN "SUPPRESSED_SENTINEL" Bundle.listD (xv_A G) U H) ∧ ∀ q ∈ xv_strs, ∃ sa, vk_R q.1 q.2.1 q.2.2 sa U
theorem xv_Th_moved {G : xv_G} {u U : State} {H H1 : Heap} (hW : u.WarmedH U.vm) (h : xv_Th G u H) (hq : ∀ q : Nat, q < H.size → ¬ xv_A G q → H1[q]? = H[q]?) : xv_Th G U H1 := by
  obtain ⟨h1, ⟨h2, h3⟩, ⟨h4, h5⟩, h6⟩ := h
  refine ⟨fun w hw => xv_tmove (xv_thw_ok w hw).1 (xv_thw_ok w hw).2 hW (h1 w hw), ⟨(va_Zq.moved hW.alike h2).kept hq, xv_SL_moved hW.alike hq h3⟩, ⟨(va_Zq.moved hW.alike h4).kept hq, xv_SL_moved hW.alike hq h5⟩, fun q hq' => ?_⟩
  obtain ⟨sa, h⟩ := h6 q hq'
  exact ⟨sa, vk_R.warm hW h⟩
def xv_K (G : xv_G) (U : State) (H : Heap) : Prop :=
  va_K (xv_dG G) xv_cl (xv_tys G) U ∧ (∀ w ∈ xv_nest, va_Nw w U) ∧
  (∀ k, k < xv_ns → va_Z (xv_sC k) (xv_sn k) "[I" (.ref (xv_ex G k)) (xv_A G) U H ∧ va_T .int (xv_ex G k) (xv_sN k) (fun j => .int (xv_sf k j)) (xv_A G) U H) ∧
  (va_X (xv_ex G 9) G.2.2.2.2.1 G.2.2.2.2.2 U H ∧ xv_ex G 9 < H.size ∧ ¬ xv_A G (xv_ex G 9)) ∧ (∀ C ∈ xv_ra, va_AO C U) ∧ xv_B G ≤ H.size ∧ xv_Th G U H
theorem xv_K_moved {G : xv_G} {u U : State} {H H1 : Heap} (hW : u.WarmedH U.vm) (h : xv_K G u H) (hz : H.size ≤ H1.size) (hq : ∀ q : Nat, q < H.size → ¬ xv_A G q → H1[q]? = H[q]?) : xv_K G U H1 := by
  obtain ⟨h1, h2, h3, ⟨h4, h5, h6⟩, h8, h7, h9⟩ := h
  refine ⟨va_K.moved hW.alike h1, fun w hw => xv_Nwarm (xv_nest_ok w hw) hW (h2 w hw), fun k hk => ⟨(va_Z.moved hW.alike (h3 k hk).1).kept hq, (va_T.moved hW.alike (h3 k hk).2).kept hq⟩, ⟨(va_X.moved hW.alike h4).kept (hq _ h5 h6), Nat.lt_of_lt_of_le h5 hz, h6⟩, fun C hC => va_AO.moved hW.alike (h8 C hC), Nat.le_trans h7 hz, xv_Th_moved hW h9 hq⟩
end
section
/-! THE JUDGEMENT: xv_X sc d J pc lv st u n s P: the method J at pc, with locals lv, operand stack st and memory u, in d frames, comes to its end: with an outcome and a memory of n cells and s slots for which P holds -/
/-- a launch without stack traces -/
def xv_L (l : Launch) : Prop := ∀ e : Env, l.admits e → e.platform.stackTraces = false
abbrev xv_O : Type := Option Value ⊕ (Nat × Nat)
abbrev xv_P : Type := xv_O → xv_M → Prop
def xv_rm (d mc ms : Nat) : Room := { frames := d, cells := mc, slots := ms, locals := 60 * d }
def xv_w (J : xv_J) : List Cond := .code J.1 J.2.1 J.2.2.1 J.2.2.2 :: xv_BIG
def xv_lo (G : xv_G) (ls : Array Slot) (n : Nat) (lv : List (Option Value)) : Prop := ls.size = n ∧ lv_wf ls ∧ ∀ (i : Nat) (v : Value), lv[i]? = some (some v) → ls[i]? = some (.val (xv_cv G v))
def xv_rt (ret : Option FieldType) (v : Option Value) (i : Instr) : Prop :=
  (ret = some .int ∧ i = .ireturn ∧ ∃ x : Int32, v = some (.int x)) ∨ (ret = some .boolean ∧ i = .ireturn ∧ ∃ x : Int32, v = some (.int x) ∧ x &&& 1 = x) ∨ (ret = none ∧ i = .return_ ∧ v = none) ∨ (((∃ n, ret = some (.object n)) ∨ ∃ t, ret = some (.array t)) ∧ i = .areturn ∧ ∃ a : Nat, v = some (.ref a))
def xv_fin (p : Program) (l : Launch) (e : Env) (R : Room) (s : State) (m : MethodId) (args : Array Value) (below : List Frame) (meth : Method) (c : Code) (J : xv_J) (G : xv_G) (N0 S0 n1 s1 : Nat) (P : xv_P) (Q : State → Prop) : Prop :=
  (∀ (v : Option Value) (w : xv_M) (pc : Nat) (ls : Array Slot) (i : Instr) (H : Heap) (locs : List Loc), P (.inl v) w → xv_N w ≤ n1 → xv_S w ≤ s1 → xv_rt J.2.2.2 v i → decode J.2.1 pc = .ok (i, 1) → va_P (xv_dG G) xv_cl (xv_ws G w) H → xv_wf w → va_S (xv_A G) s.heap H locs → W p l e R s m args below meth c H locs (xv_N w - N0) (xv_S w - S0) Q (F0 m pc ls ((v.map (xv_cv G)).toList))) ∧
  (∀ (k a : Nat) (w : xv_M) (U : State) (locs : List Loc), P (.inr (k, a)) w → xv_N w ≤ n1 → xv_S w ≤ s1 → xv_k w a = k + 1 → va_P (xv_dG G) xv_cl (xv_ws G w) U.heap → xv_wf w → va_S (xv_A G) s.heap U.heap locs → U.status = .running → Ended U below (.threw (xv_B G + a)) → s.WarmedH U.vm → s.sameButNew ({ U with vm := s.vm } : State) locs (xv_N w - N0) (xv_S w - S0) → Q U)
def xv_at (sc : Nat × (Nat → Int32)) (d : Nat) (J : xv_J) (n1 s1 : Nat) (P : xv_P) (p : Program) (l : Launch) (e : Env) (R : Room) (s : State) (m : MethodId) (args : Array Value) (below : List Frame) (meth : Method) (c : Code) (G : xv_G) (N0 S0 : Nat) (Q : State → Prop) : Prop :=
  p.tables.exec = Jvm.exec ∧ c.code = J.2.1 ∧ meth.sig.returnType = J.2.2.2 ∧ c.maxLocals = J.2.2.1 ∧ s.vm.findClass J.1.cls = some m.cls ∧ (∀ w ∈ xv_BIG, w.before args s = true) ∧ meth.locks = false ∧ meth.name = J.1.name ∧ xv_K G s s.heap ∧ (d ≤ R.frames ∧ 60 * d ≤ R.locals ∧ n1 - N0 ≤ R.cells ∧ s1 - S0 ≤ R.slots) ∧ s.heap.size = xv_B G + N0 ∧ (G.2.2.2.2 = sc ∧ xv_L l ∧ c.exceptionTable.isEmpty = true) ∧ xv_fin p l e R s m args below meth c J G N0 S0 n1 s1 P Q
def xv_X (sc : Nat × (Nat → Int32)) (d : Nat) (J : xv_J) (pc : Nat) (lv : List (Option Value)) (st : List Value) (u : xv_M) (n1 s1 : Nat) (P : xv_P) : Prop :=
  ∀ (p : Program) (l : Launch) (e : Env) (R : Room) (s : State) (m : MethodId) (args : Array Value) (below : List Frame) (meth : Method) (c : Code) (G : xv_G) (N0 S0 : Nat) (Q : State → Prop) (H : Heap) (locs : List Loc) (ls : Array Slot),
    xv_at sc d J n1 s1 P p l e R s m args below meth c G N0 S0 Q → xv_lo G ls J.2.2.1 lv → va_P (xv_dG G) xv_cl (xv_ws G u) H → xv_wf u → va_S (xv_A G) s.heap H locs → N0 ≤ xv_N u → S0 ≤ xv_S u →
    W p l e R s m args below meth c H locs (xv_N u - N0) (xv_S u - S0) Q (F0 m pc ls (st.map (xv_cv G)))
def xv_q (n1 s1 : Nat) (P : xv_P) : xv_P := fun o w => P o w ∧ xv_N w = n1 ∧ xv_S w = s1
/-! locals -/
theorem xv_cat (G : xv_G) (v : Value) : (xv_cv G v).category = v.category := by cases v <;> rfl
def xv_c2 (lv : List (Option Value)) (i : Nat) : Bool := match i with
  | 0 => true
  | z + 1 => match lv.getD z none with
    | some v => !(v.category == 2)
    | none => true
def xv_al (G : xv_G) (lv : List (Option Value)) : List (Nat × Value) := (List.range lv.length).filterMap (fun i => match lv[i]? with
  | some (some v) => some (i, xv_cv G v)
  | _ => none)
theorem xv_al_mem {G : xv_G} {lv : List (Option Value)} {q : Nat × Value} : q ∈ xv_al G lv ↔ ∃ v, lv[q.1]? = some (some v) ∧ q.2 = xv_cv G v := by
  unfold xv_al
  rw [List.mem_filterMap]
  constructor
  · rintro ⟨i, hi, h⟩
    cases hl : lv[i]? with
    | none => rw [hl] at h; cases h
    | some z =>
      cases z with
      | none => rw [hl] at h; cases h
      | some v =>
        rw [hl] at h
        cases h
        exact ⟨v, hl, rfl⟩
  · rintro ⟨v, h1, h2⟩
    refine ⟨q.1, List.mem_range.mpr (List.getElem?_eq_some_iff.mp h1).1, ?_⟩
    rw [h1]
    obtain ⟨a, b⟩ := q
    cases h2
    rfl
theorem xv_al_at {G : xv_G} {lv : List (Option Value)} {i : Nat} {v : Value} (h : lv[i]? = some (some v)) : ∃ k : Nat, (xv_al G lv)[k]? = some (i, xv_cv G v) :=
  List.getElem?_of_mem (xv_al_mem.mpr ⟨v, h, rfl⟩)
theorem xv_lo_has {G : xv_G} {ls : Array Slot} {n : Nat} {lv : List (Option Value)} (h : xv_lo G ls n lv) : lv_has ls n (xv_al G lv) := by
  refine ⟨h.1, h.2.1, fun q hq => ?_⟩
  obtain ⟨v, h1, h2⟩ := xv_al_mem.mp hq
  rw [h2]
  exact h.2.2 _ _ h1
theorem xv_lo_put {G : xv_G} {ls ls' : Array Slot} {n i : Nat} {lv : List (Option Value)} {v : Value} (_ : xv_lo G ls n lv) (_ : i < n) (h2 : xv_c2 lv i = true) (h' : lv_has ls' n ((i, xv_cv G v) :: (xv_al G lv).filter (fun q => !(q.1 == i) && !(q.1 + 1 == i && q.2.category == 2)))) : xv_lo G ls' n (lv.set i (some v)) := by
  refine ⟨h'.1, h'.2.1, fun j z hz => ?_⟩
  rw [List.getElem?_set] at hz
  by_cases hj : i = j
  · subst hj
    rw [if_pos rfl] at hz
    split at hz
    · cases hz
      exact h'.2.2 (i, xv_cv G v) List.mem_cons_self
    · cases hz
  · rw [if_neg hj] at hz
    refine h'.2.2 (j, xv_cv G z) (List.mem_cons_of_mem _ (List.mem_filter.mpr ⟨xv_al_mem.mpr ⟨z, hz, rfl⟩, ?_⟩))
    have e1 : (j == i) = false := by simpa using (fun q => hj q.symm)
    show (!(j == i) && !(j + 1 == i && (xv_cv G z).category == 2)) = true
    rw [e1, xv_cat]
    cases hi : i with
    | zero => simp
    | succ y =>
      by_cases hy : j = y
      · subst hy
        rw [hi] at h2
        have h3 : lv.getD j none = some z := by
          rw [List.getD_eq_getElem?_getD, hz]
          rfl
        simp only [xv_c2, h3] at h2
        simpa using h2
      · have : ¬ (j + 1 = y + 1) := by omega
        simp [this]
        omega
end
section
/-! RULES: a rule an instruction -/
theorem xv_iconst {sc : Nat × (Nat → Int32)} {d : Nat} {J : xv_J} {pc : Nat} {lv : List (Option Value)} {st : List Value} {u : xv_M} {n1 s1 : Nat} {P : xv_P} {n : Int} (v : Int32) (hdg : decode J.2.1 pc = .ok (.iconst n, 1)) (hv : Int32.ofInt n = v) (k : xv_X sc d J (pc + 1) lv (.int v :: st) u n1 s1 P) : xv_X sc d J pc lv st u n1 s1 P := fun p l e R s m args below meth c G N0 S0 Q H locs ls A0 lo hP wf hS hN hZ => lv_iconst A0.1 A0.2.1 hdg hv (k p l e R s m args below meth c G N0 S0 Q H locs ls A0 lo hP wf hS hN hZ)
theorem xv_bipush {sc : Nat × (Nat → Int32)} {d : Nat} {J : xv_J} {pc : Nat} {lv : List (Option Value)} {st : List Value} {u : xv_M} {n1 s1 : Nat} {P : xv_P} {n : Int} (v : Int32) (hdg : decode J.2.1 pc = .ok (.bipush n, 2)) (hv : (Int8.ofInt n).toInt32 = v) (k : xv_X sc d J (pc + 2) lv (.int v :: st) u n1 s1 P) : xv_X sc d J pc lv st u n1 s1 P := fun p l e R s m args below meth c G N0 S0 Q H locs ls A0 lo hP wf hS hN hZ => lv_bipush A0.1 A0.2.1 hdg hv (k p l e R s m args below meth c G N0 S0 Q H locs ls A0 lo hP wf hS hN hZ)
theorem xv_sipush {sc : Nat × (Nat → Int32)} {d : Nat} {J : xv_J} {pc : Nat} {lv : List (Option Value)} {st : List Value} {u : xv_M} {n1 s1 : Nat} {P : xv_P} {n : Int} (v : Int32) (hdg : decode J.2.1 pc = .ok (.sipush n, 3)) (hv : (Int16.ofInt n).toInt32 = v) (k : xv_X sc d J (pc + 3) lv (.int v :: st) u n1 s1 P) : xv_X sc d J pc lv st u n1 s1 P := fun p l e R s m args below meth c G N0 S0 Q H locs ls A0 lo hP wf hS hN hZ => lv_sipush A0.1 A0.2.1 hdg hv (k p l e R s m args below meth c G N0 S0 Q H locs ls A0 lo hP wf hS hN hZ)
theorem xv_ldc {sc : Nat × (Nat → Int32)} {d : Nat} {J : xv_J} {pc : Nat} {lv : List (Option Value)} {st : List Value} {u : xv_M} {n1 s1 : Nat} {P : xv_P} {index : Nat} (v : Int32) (hdg : decode J.2.1 pc = .ok (.ldc index, 2)) (hw : Jvm.Cond.constant J.1.cls index v ∈ xv_BIG) (k : xv_X sc d J (pc + 2) lv (.int v :: st) u n1 s1 P) : xv_X sc d J pc lv st u n1 s1 P := fun p l e R s m args below meth c G N0 S0 Q H locs ls A0 lo hP wf hS hN hZ => lv_ldc A0.1 A0.2.1 A0.2.2.2.2.1 (A0.2.2.2.2.2.1 _ hw) hdg (k p l e R s m args below meth c G N0 S0 Q H locs ls A0 lo hP wf hS hN hZ)
theorem xv_iload_n {sc : Nat × (Nat → Int32)} {d : Nat} {J : xv_J} {pc : Nat} {lv : List (Option Value)} {st : List Value} {u : xv_M} {n1 s1 : Nat} {P : xv_P} {kk : Fin 4} {i : Nat} {x : Int32} (hdg : decode J.2.1 pc = .ok (.iload_n kk, 1)) (hi : (kk : Nat) = i) (hl : lv[i]? = some (some (.int x))) (k : xv_X sc d J (pc + 1) lv (.int x :: st) u n1 s1 P) : xv_X sc d J pc lv st u n1 s1 P := fun p l e R s m args below meth c G N0 S0 Q H locs ls A0 lo hP wf hS hN hZ => lv_iload_n A0.1 A0.2.1 hdg hi (lo.2.2 i _ hl) (k p l e R s m args below meth c G N0 S0 Q H locs ls A0 lo hP wf hS hN hZ)
theorem xv_iload {sc : Nat × (Nat → Int32)} {d : Nat} {J : xv_J} {pc : Nat} {lv : List (Option Value)} {st : List Value} {u : xv_M} {n1 s1 : Nat} {P : xv_P} {i : Nat} {x : Int32} (hdg : decode J.2.1 pc = .ok (.iload i, 2)) (hl : lv[i]? = some (some (.int x))) (k : xv_X sc d J (pc + 2) lv (.int x :: st) u n1 s1 P) : xv_X sc d J pc lv st u n1 s1 P := fun p l e R s m args below meth c G N0 S0 Q H locs ls A0 lo hP wf hS hN hZ => lv_iload A0.1 A0.2.1 hdg (lo.2.2 i _ hl) (k p l e R s m args below meth c G N0 S0 Q H locs ls A0 lo hP wf hS hN hZ)
theorem xv_aload_n {sc : Nat × (Nat → Int32)} {d : Nat} {J : xv_J} {pc : Nat} {lv : List (Option Value)} {st : List Value} {u : xv_M} {n1 s1 : Nat} {P : xv_P} {kk : Fin 4} {i : Nat} {x : Nat} (hdg : decode J.2.1 pc = .ok (.aload_n kk, 1)) (hi : (kk : Nat) = i) (hl : lv[i]? = some (some (.ref x))) (k : xv_X sc d J (pc + 1) lv (.ref x :: st) u n1 s1 P) : xv_X sc d J pc lv st u n1 s1 P := fun p l e R s m args below meth c G N0 S0 Q H locs ls A0 lo hP wf hS hN hZ => lv_aload_n A0.1 A0.2.1 hdg hi (lo.2.2 i _ hl) (k p l e R s m args below meth c G N0 S0 Q H locs ls A0 lo hP wf hS hN hZ)
theorem xv_aload {sc : Nat × (Nat → Int32)} {d : Nat} {J : xv_J} {pc : Nat} {lv : List (Option Value)} {st : List Value} {u : xv_M} {n1 s1 : Nat} {P : xv_P} {i : Nat} {x : Nat} (hdg : decode J.2.1 pc = .ok (.aload i, 2)) (hl : lv[i]? = some (some (.ref x))) (k : xv_X sc d J (pc + 2) lv (.ref x :: st) u n1 s1 P) : xv_X sc d J pc lv st u n1 s1 P := fun p l e R s m args below meth c G N0 S0 Q H locs ls A0 lo hP wf hS hN hZ => lv_aload A0.1 A0.2.1 hdg (lo.2.2 i _ hl) (k p l e R s m args below meth c G N0 S0 Q H locs ls A0 lo hP wf hS hN hZ)
theorem xv_lload_n {sc : Nat × (Nat → Int32)} {d : Nat} {J : xv_J} {pc : Nat} {lv : List (Option Value)} {st : List Value} {u : xv_M} {n1 s1 : Nat} {P : xv_P} {kk : Fin 4} {i : Nat} {x : Int64} (hdg : decode J.2.1 pc = .ok (.lload_n kk, 1)) (hi : (kk : Nat) = i) (hl : lv[i]? = some (some (.long x))) (k : xv_X sc d J (pc + 1) lv (.long x :: st) u n1 s1 P) : xv_X sc d J pc lv st u n1 s1 P := fun p l e R s m args below meth c G N0 S0 Q H locs ls A0 lo hP wf hS hN hZ => lv_lload_n A0.1 A0.2.1 hdg hi (lo.2.2 i _ hl) (k p l e R s m args below meth c G N0 S0 Q H locs ls A0 lo hP wf hS hN hZ)
theorem xv_lload {sc : Nat × (Nat → Int32)} {d : Nat} {J : xv_J} {pc : Nat} {lv : List (Option Value)} {st : List Value} {u : xv_M} {n1 s1 : Nat} {P : xv_P} {i : Nat} {x : Int64} (hdg : decode J.2.1 pc = .ok (.lload i, 2)) (hl : lv[i]? = some (some (.long x))) (k : xv_X sc d J (pc + 2) lv (.long x :: st) u n1 s1 P) : xv_X sc d J pc lv st u n1 s1 P := fun p l e R s m args below meth c G N0 S0 Q H locs ls A0 lo hP wf hS hN hZ => lv_lload A0.1 A0.2.1 hdg (lo.2.2 i _ hl) (k p l e R s m args below meth c G N0 S0 Q H locs ls A0 lo hP wf hS hN hZ)
theorem xv_aloadE_n {sc : Nat × (Nat → Int32)} {d : Nat} {J : xv_J} {pc : Nat} {lv : List (Option Value)} {st : List Value} {u : xv_M} {n1 s1 : Nat} {P : xv_P} {kk : Fin 4} {i x : Nat} (hdg : decode J.2.1 pc = .ok (.aload_n kk, 1)) (hi : (kk : Nat) = i) (hl : lv[i]? = some (some (.retAddr x))) (k : xv_X sc d J (pc + 1) lv (.retAddr x :: st) u n1 s1 P) : xv_X sc d J pc lv st u n1 s1 P := fun p l e R s m args below meth c G N0 S0 Q H locs ls A0 lo hP wf hS hN hZ => lv_aload_n A0.1 A0.2.1 hdg hi (lo.2.2 i _ hl) (k p l e R s m args below meth c G N0 S0 Q H locs ls A0 lo hP wf hS hN hZ)
theorem xv_lconst {sc : Nat × (Nat → Int32)} {d : Nat} {J : xv_J} {pc : Nat} {lv : List (Option Value)} {st : List Value} {u : xv_M} {n1 s1 : Nat} {P : xv_P} {n : Fin 2} (v : Int64) (hdg : decode J.2.1 pc = .ok (.lconst n, 1)) (hv : Int64.ofNat (n : Nat) = v) (k : xv_X sc d J (pc + 1) lv (.long v :: st) u n1 s1 P) : xv_X sc d J pc lv st u n1 s1 P := fun p l e R s m args below meth c G N0 S0 Q H locs ls A0 lo hP wf hS hN hZ => lv_lconst A0.1 A0.2.1 hdg hv (k p l e R s m args below meth c G N0 S0 Q H locs ls A0 lo hP wf hS hN hZ)
theorem xv_iadd {sc : Nat × (Nat → Int32)} {d : Nat} {J : xv_J} {pc : Nat} {lv : List (Option Value)} {st : List Value} {u : xv_M} {n1 s1 : Nat} {P : xv_P} {x y : Int32} (hdg : decode J.2.1 pc = .ok (.iadd, 1))  (k : xv_X sc d J (pc + 1) lv (.int (x + y) :: st) u n1 s1 P) : xv_X sc d J pc lv (.int y :: .int x :: st) u n1 s1 P := fun p l e R s m args below meth c G N0 S0 Q H locs ls A0 lo hP wf hS hN hZ => lv_iadd A0.1 A0.2.1 hdg (k p l e R s m args below meth c G N0 S0 Q H locs ls A0 lo hP wf hS hN hZ)
theorem xv_isub {sc : Nat × (Nat → Int32)} {d : Nat} {J : xv_J} {pc : Nat} {lv : List (Option Value)} {st : List Value} {u : xv_M} {n1 s1 : Nat} {P : xv_P} {x y : Int32} (hdg : decode J.2.1 pc = .ok (.isub, 1))  (k : xv_X sc d J (pc + 1) lv (.int (x - y) :: st) u n1 s1 P) : xv_X sc d J pc lv (.int y :: .int x :: st) u n1 s1 P := fun p l e R s m args below meth c G N0 S0 Q H locs ls A0 lo hP wf hS hN hZ => lv_isub A0.1 A0.2.1 hdg (k p l e R s m args below meth c G N0 S0 Q H locs ls A0 lo hP wf hS hN hZ)
theorem xv_imul {sc : Nat × (Nat → Int32)} {d : Nat} {J : xv_J} {pc : Nat} {lv : List (Option Value)} {st : List Value} {u : xv_M} {n1 s1 : Nat} {P : xv_P} {x y : Int32} (hdg : decode J.2.1 pc = .ok (.imul, 1))  (k : xv_X sc d J (pc + 1) lv (.int (x * y) :: st) u n1 s1 P) : xv_X sc d J pc lv (.int y :: .int x :: st) u n1 s1 P := fun p l e R s m args below meth c G N0 S0 Q H locs ls A0 lo hP wf hS hN hZ => lv_imul A0.1 A0.2.1 hdg (k p l e R s m args below meth c G N0 S0 Q H locs ls A0 lo hP wf hS hN hZ)
theorem xv_iand {sc : Nat × (Nat → Int32)} {d : Nat} {J : xv_J} {pc : Nat} {lv : List (Option Value)} {st : List Value} {u : xv_M} {n1 s1 : Nat} {P : xv_P} {x y : Int32} (hdg : decode J.2.1 pc = .ok (.iand, 1))  (k : xv_X sc d J (pc + 1) lv (.int (x &&& y) :: st) u n1 s1 P) : xv_X sc d J pc lv (.int y :: .int x :: st) u n1 s1 P := fun p l e R s m args below meth c G N0 S0 Q H locs ls A0 lo hP wf hS hN hZ => lv_iand A0.1 A0.2.1 hdg (k p l e R s m args below meth c G N0 S0 Q H locs ls A0 lo hP wf hS hN hZ)
theorem xv_ior {sc : Nat × (Nat → Int32)} {d : Nat} {J : xv_J} {pc : Nat} {lv : List (Option Value)} {st : List Value} {u : xv_M} {n1 s1 : Nat} {P : xv_P} {x y : Int32} (hdg : decode J.2.1 pc = .ok (.ior, 1))  (k : xv_X sc d J (pc + 1) lv (.int (x ||| y) :: st) u n1 s1 P) : xv_X sc d J pc lv (.int y :: .int x :: st) u n1 s1 P := fun p l e R s m args below meth c G N0 S0 Q H locs ls A0 lo hP wf hS hN hZ => lv_ior A0.1 A0.2.1 hdg (k p l e R s m args below meth c G N0 S0 Q H locs ls A0 lo hP wf hS hN hZ)
theorem xv_ixor {sc : Nat × (Nat → Int32)} {d : Nat} {J : xv_J} {pc : Nat} {lv : List (Option Value)} {st : List Value} {u : xv_M} {n1 s1 : Nat} {P : xv_P} {x y : Int32} (hdg : decode J.2.1 pc = .ok (.ixor, 1))  (k : xv_X sc d J (pc + 1) lv (.int (x ^^^ y) :: st) u n1 s1 P) : xv_X sc d J pc lv (.int y :: .int x :: st) u n1 s1 P := fun p l e R s m args below meth c G N0 S0 Q H locs ls A0 lo hP wf hS hN hZ => lv_ixor A0.1 A0.2.1 hdg (k p l e R s m args below meth c G N0 S0 Q H locs ls A0 lo hP wf hS hN hZ)
theorem xv_ishl {sc : Nat × (Nat → Int32)} {d : Nat} {J : xv_J} {pc : Nat} {lv : List (Option Value)} {st : List Value} {u : xv_M} {n1 s1 : Nat} {P : xv_P} {x y : Int32} (hdg : decode J.2.1 pc = .ok (.ishl, 1))  (k : xv_X sc d J (pc + 1) lv (.int (x <<< (y &&& 31)) :: st) u n1 s1 P) : xv_X sc d J pc lv (.int y :: .int x :: st) u n1 s1 P := fun p l e R s m args below meth c G N0 S0 Q H locs ls A0 lo hP wf hS hN hZ => lv_ishl A0.1 A0.2.1 hdg (k p l e R s m args below meth c G N0 S0 Q H locs ls A0 lo hP wf hS hN hZ)
theorem xv_ishr {sc : Nat × (Nat → Int32)} {d : Nat} {J : xv_J} {pc : Nat} {lv : List (Option Value)} {st : List Value} {u : xv_M} {n1 s1 : Nat} {P : xv_P} {x y : Int32} (hdg : decode J.2.1 pc = .ok (.ishr, 1))  (k : xv_X sc d J (pc + 1) lv (.int (x >>> (y &&& 31)) :: st) u n1 s1 P) : xv_X sc d J pc lv (.int y :: .int x :: st) u n1 s1 P := fun p l e R s m args below meth c G N0 S0 Q H locs ls A0 lo hP wf hS hN hZ => lv_ishr A0.1 A0.2.1 hdg (k p l e R s m args below meth c G N0 S0 Q H locs ls A0 lo hP wf hS hN hZ)
theorem xv_idiv {sc : Nat × (Nat → Int32)} {d : Nat} {J : xv_J} {pc : Nat} {lv : List (Option Value)} {st : List Value} {u : xv_M} {n1 s1 : Nat} {P : xv_P} {x y : Int32} (hdg : decode J.2.1 pc = .ok (.idiv, 1)) (hne : ¬ y = 0) (k : xv_X sc d J (pc + 1) lv (.int (x / y) :: st) u n1 s1 P) : xv_X sc d J pc lv (.int y :: .int x :: st) u n1 s1 P := fun p l e R s m args below meth c G N0 S0 Q H locs ls A0 lo hP wf hS hN hZ => lv_idiv A0.1 A0.2.1 hdg hne (k p l e R s m args below meth c G N0 S0 Q H locs ls A0 lo hP wf hS hN hZ)
theorem xv_irem {sc : Nat × (Nat → Int32)} {d : Nat} {J : xv_J} {pc : Nat} {lv : List (Option Value)} {st : List Value} {u : xv_M} {n1 s1 : Nat} {P : xv_P} {x y : Int32} (hdg : decode J.2.1 pc = .ok (.irem, 1)) (hne : ¬ y = 0) (k : xv_X sc d J (pc + 1) lv (.int (x - x / y * y) :: st) u n1 s1 P) : xv_X sc d J pc lv (.int y :: .int x :: st) u n1 s1 P := fun p l e R s m args below meth c G N0 S0 Q H locs ls A0 lo hP wf hS hN hZ => lv_irem A0.1 A0.2.1 hdg hne (k p l e R s m args below meth c G N0 S0 Q H locs ls A0 lo hP wf hS hN hZ)
theorem xv_ineg {sc : Nat × (Nat → Int32)} {d : Nat} {J : xv_J} {pc : Nat} {lv : List (Option Value)} {st : List Value} {u : xv_M} {n1 s1 : Nat} {P : xv_P} {x : Int32} (hdg : decode J.2.1 pc = .ok (.ineg, 1))  (k : xv_X sc d J (pc + 1) lv (.int (-x) :: st) u n1 s1 P) : xv_X sc d J pc lv (.int x :: st) u n1 s1 P := fun p l e R s m args below meth c G N0 S0 Q H locs ls A0 lo hP wf hS hN hZ => lv_ineg A0.1 A0.2.1 hdg (k p l e R s m args below meth c G N0 S0 Q H locs ls A0 lo hP wf hS hN hZ)
theorem xv_i2l {sc : Nat × (Nat → Int32)} {d : Nat} {J : xv_J} {pc : Nat} {lv : List (Option Value)} {st : List Value} {u : xv_M} {n1 s1 : Nat} {P : xv_P} {x : Int32} (hdg : decode J.2.1 pc = .ok (.i2l, 1))  (k : xv_X sc d J (pc + 1) lv (.long x.toInt64 :: st) u n1 s1 P) : xv_X sc d J pc lv (.int x :: st) u n1 s1 P := fun p l e R s m args below meth c G N0 S0 Q H locs ls A0 lo hP wf hS hN hZ => lv_i2l A0.1 A0.2.1 hdg rfl (k p l e R s m args below meth c G N0 S0 Q H locs ls A0 lo hP wf hS hN hZ)
theorem xv_dup_int {sc : Nat × (Nat → Int32)} {d : Nat} {J : xv_J} {pc : Nat} {lv : List (Option Value)} {st : List Value} {u : xv_M} {n1 s1 : Nat} {P : xv_P} {x : Int32} (hdg : decode J.2.1 pc = .ok (.dup, 1))  (k : xv_X sc d J (pc + 1) lv (.int x :: .int x :: st) u n1 s1 P) : xv_X sc d J pc lv (.int x :: st) u n1 s1 P := fun p l e R s m args below meth c G N0 S0 Q H locs ls A0 lo hP wf hS hN hZ => lv_dup A0.1 A0.2.1 hdg rfl (k p l e R s m args below meth c G N0 S0 Q H locs ls A0 lo hP wf hS hN hZ)
theorem xv_pop_int {sc : Nat × (Nat → Int32)} {d : Nat} {J : xv_J} {pc : Nat} {lv : List (Option Value)} {st : List Value} {u : xv_M} {n1 s1 : Nat} {P : xv_P} {x : Int32} (hdg : decode J.2.1 pc = .ok (.pop, 1))  (k : xv_X sc d J (pc + 1) lv st u n1 s1 P) : xv_X sc d J pc lv (.int x :: st) u n1 s1 P := fun p l e R s m args below meth c G N0 S0 Q H locs ls A0 lo hP wf hS hN hZ => lv_pop A0.1 A0.2.1 hdg rfl (k p l e R s m args below meth c G N0 S0 Q H locs ls A0 lo hP wf hS hN hZ)
theorem xv_dup_ref {sc : Nat × (Nat → Int32)} {d : Nat} {J : xv_J} {pc : Nat} {lv : List (Option Value)} {st : List Value} {u : xv_M} {n1 s1 : Nat} {P : xv_P} {x : Nat} (hdg : decode J.2.1 pc = .ok (.dup, 1))  (k : xv_X sc d J (pc + 1) lv (.ref x :: .ref x :: st) u n1 s1 P) : xv_X sc d J pc lv (.ref x :: st) u n1 s1 P := fun p l e R s m args below meth c G N0 S0 Q H locs ls A0 lo hP wf hS hN hZ => lv_dup A0.1 A0.2.1 hdg rfl (k p l e R s m args below meth c G N0 S0 Q H locs ls A0 lo hP wf hS hN hZ)
theorem xv_pop_ref {sc : Nat × (Nat → Int32)} {d : Nat} {J : xv_J} {pc : Nat} {lv : List (Option Value)} {st : List Value} {u : xv_M} {n1 s1 : Nat} {P : xv_P} {x : Nat} (hdg : decode J.2.1 pc = .ok (.pop, 1))  (k : xv_X sc d J (pc + 1) lv st u n1 s1 P) : xv_X sc d J pc lv (.ref x :: st) u n1 s1 P := fun p l e R s m args below meth c G N0 S0 Q H locs ls A0 lo hP wf hS hN hZ => lv_pop A0.1 A0.2.1 hdg rfl (k p l e R s m args below meth c G N0 S0 Q H locs ls A0 lo hP wf hS hN hZ)
theorem xv_dup_x1 {sc : Nat × (Nat → Int32)} {d : Nat} {J : xv_J} {pc : Nat} {lv : List (Option Value)} {st : List Value} {u : xv_M} {n1 s1 : Nat} {P : xv_P} {x y : Int32} (hdg : decode J.2.1 pc = .ok (.dup_x1, 1))  (k : xv_X sc d J (pc + 1) lv (.int x :: .int y :: .int x :: st) u n1 s1 P) : xv_X sc d J pc lv (.int x :: .int y :: st) u n1 s1 P := fun p l e R s m args below meth c G N0 S0 Q H locs ls A0 lo hP wf hS hN hZ => lv_dup_x1 A0.1 A0.2.1 hdg rfl rfl (k p l e R s m args below meth c G N0 S0 Q H locs ls A0 lo hP wf hS hN hZ)
theorem xv_dup_x1r {sc : Nat × (Nat → Int32)} {d : Nat} {J : xv_J} {pc : Nat} {lv : List (Option Value)} {st : List Value} {u : xv_M} {n1 s1 : Nat} {P : xv_P} {x : Int32} {y : Nat} (hdg : decode J.2.1 pc = .ok (.dup_x1, 1))  (k : xv_X sc d J (pc + 1) lv (.int x :: .ref y :: .int x :: st) u n1 s1 P) : xv_X sc d J pc lv (.int x :: .ref y :: st) u n1 s1 P := fun p l e R s m args below meth c G N0 S0 Q H locs ls A0 lo hP wf hS hN hZ => lv_dup_x1 A0.1 A0.2.1 hdg rfl rfl (k p l e R s m args below meth c G N0 S0 Q H locs ls A0 lo hP wf hS hN hZ)
theorem xv_dup2 {sc : Nat × (Nat → Int32)} {d : Nat} {J : xv_J} {pc : Nat} {lv : List (Option Value)} {st : List Value} {u : xv_M} {n1 s1 : Nat} {P : xv_P} {y : Nat} {i : Int32} (hdg : decode J.2.1 pc = .ok (.dup2, 1))  (k : xv_X sc d J (pc + 1) lv (.int i :: .ref y :: .int i :: .ref y :: st) u n1 s1 P) : xv_X sc d J pc lv (.int i :: .ref y :: st) u n1 s1 P := fun p l e R s m args below meth c G N0 S0 Q H locs ls A0 lo hP wf hS hN hZ => lv_dup2_11 A0.1 A0.2.1 hdg rfl rfl (k p l e R s m args below meth c G N0 S0 Q H locs ls A0 lo hP wf hS hN hZ)
theorem xv_if_eq {sc : Nat × (Nat → Int32)} {d : Nat} {J : xv_J} {pc : Nat} {lv : List (Option Value)} {st : List Value} {u : xv_M} {n1 s1 : Nat} {P : xv_P} {x : Int32} {off : Int} (tgt : Nat) (hdg : decode J.2.1 pc = .ok (.ifCond .eq off, 3)) (ht : (pc : Int) + off = (tgt : Int)) (kt : x = 0 → xv_X sc d J tgt lv st u n1 s1 P) (kf : ¬ x = 0 → xv_X sc d J (pc + 3) lv st u n1 s1 P) : xv_X sc d J pc lv (.int x :: st) u n1 s1 P := fun p l e R s m args below meth c G N0 S0 Q H locs ls A0 lo hP wf hS hN hZ => lv_if_eq A0.1 A0.2.1 hdg ht (fun q => kt q p l e R s m args below meth c G N0 S0 Q H locs ls A0 lo hP wf hS hN hZ) (fun q => kf q p l e R s m args below meth c G N0 S0 Q H locs ls A0 lo hP wf hS hN hZ)
theorem xv_icmp_eq {sc : Nat × (Nat → Int32)} {d : Nat} {J : xv_J} {pc : Nat} {lv : List (Option Value)} {st : List Value} {u : xv_M} {n1 s1 : Nat} {P : xv_P} {x y : Int32} {off : Int} (tgt : Nat) (hdg : decode J.2.1 pc = .ok (.if_icmp .eq off, 3)) (ht : (pc : Int) + off = (tgt : Int)) (kt : x = y → xv_X sc d J tgt lv st u n1 s1 P) (kf : ¬ x = y → xv_X sc d J (pc + 3) lv st u n1 s1 P) : xv_X sc d J pc lv (.int y :: .int x :: st) u n1 s1 P := fun p l e R s m args below meth c G N0 S0 Q H locs ls A0 lo hP wf hS hN hZ => lv_icmp_eq A0.1 A0.2.1 hdg ht (fun q => kt q p l e R s m args below meth c G N0 S0 Q H locs ls A0 lo hP wf hS hN hZ) (fun q => kf q p l e R s m args below meth c G N0 S0 Q H locs ls A0 lo hP wf hS hN hZ)
theorem xv_if_ne {sc : Nat × (Nat → Int32)} {d : Nat} {J : xv_J} {pc : Nat} {lv : List (Option Value)} {st : List Value} {u : xv_M} {n1 s1 : Nat} {P : xv_P} {x : Int32} {off : Int} (tgt : Nat) (hdg : decode J.2.1 pc = .ok (.ifCond .ne off, 3)) (ht : (pc : Int) + off = (tgt : Int)) (kt : ¬ x = 0 → xv_X sc d J tgt lv st u n1 s1 P) (kf : x = 0 → xv_X sc d J (pc + 3) lv st u n1 s1 P) : xv_X sc d J pc lv (.int x :: st) u n1 s1 P := fun p l e R s m args below meth c G N0 S0 Q H locs ls A0 lo hP wf hS hN hZ => lv_if_ne A0.1 A0.2.1 hdg ht (fun q => kt q p l e R s m args below meth c G N0 S0 Q H locs ls A0 lo hP wf hS hN hZ) (fun q => kf q p l e R s m args below meth c G N0 S0 Q H locs ls A0 lo hP wf hS hN hZ)
theorem xv_icmp_ne {sc : Nat × (Nat → Int32)} {d : Nat} {J : xv_J} {pc : Nat} {lv : List (Option Value)} {st : List Value} {u : xv_M} {n1 s1 : Nat} {P : xv_P} {x y : Int32} {off : Int} (tgt : Nat) (hdg : decode J.2.1 pc = .ok (.if_icmp .ne off, 3)) (ht : (pc : Int) + off = (tgt : Int)) (kt : ¬ x = y → xv_X sc d J tgt lv st u n1 s1 P) (kf : x = y → xv_X sc d J (pc + 3) lv st u n1 s1 P) : xv_X sc d J pc lv (.int y :: .int x :: st) u n1 s1 P := fun p l e R s m args below meth c G N0 S0 Q H locs ls A0 lo hP wf hS hN hZ => lv_icmp_ne A0.1 A0.2.1 hdg ht (fun q => kt q p l e R s m args below meth c G N0 S0 Q H locs ls A0 lo hP wf hS hN hZ) (fun q => kf q p l e R s m args below meth c G N0 S0 Q H locs ls A0 lo hP wf hS hN hZ)
theorem xv_if_lt {sc : Nat × (Nat → Int32)} {d : Nat} {J : xv_J} {pc : Nat} {lv : List (Option Value)} {st : List Value} {u : xv_M} {n1 s1 : Nat} {P : xv_P} {x : Int32} {off : Int} (tgt : Nat) (hdg : decode J.2.1 pc = .ok (.ifCond .lt off, 3)) (ht : (pc : Int) + off = (tgt : Int)) (kt : x < 0 → xv_X sc d J tgt lv st u n1 s1 P) (kf : ¬ x < 0 → xv_X sc d J (pc + 3) lv st u n1 s1 P) : xv_X sc d J pc lv (.int x :: st) u n1 s1 P := fun p l e R s m args below meth c G N0 S0 Q H locs ls A0 lo hP wf hS hN hZ => lv_if_lt A0.1 A0.2.1 hdg ht (fun q => kt q p l e R s m args below meth c G N0 S0 Q H locs ls A0 lo hP wf hS hN hZ) (fun q => kf q p l e R s m args below meth c G N0 S0 Q H locs ls A0 lo hP wf hS hN hZ)
theorem xv_icmp_lt {sc : Nat × (Nat → Int32)} {d : Nat} {J : xv_J} {pc : Nat} {lv : List (Option Value)} {st : List Value} {u : xv_M} {n1 s1 : Nat} {P : xv_P} {x y : Int32} {off : Int} (tgt : Nat) (hdg : decode J.2.1 pc = .ok (.if_icmp .lt off, 3)) (ht : (pc : Int) + off = (tgt : Int)) (kt : x < y → xv_X sc d J tgt lv st u n1 s1 P) (kf : ¬ x < y → xv_X sc d J (pc + 3) lv st u n1 s1 P) : xv_X sc d J pc lv (.int y :: .int x :: st) u n1 s1 P := fun p l e R s m args below meth c G N0 S0 Q H locs ls A0 lo hP wf hS hN hZ => lv_icmp_lt A0.1 A0.2.1 hdg ht (fun q => kt q p l e R s m args below meth c G N0 S0 Q H locs ls A0 lo hP wf hS hN hZ) (fun q => kf q p l e R s m args below meth c G N0 S0 Q H locs ls A0 lo hP wf hS hN hZ)
theorem xv_if_ge {sc : Nat × (Nat → Int32)} {d : Nat} {J : xv_J} {pc : Nat} {lv : List (Option Value)} {st : List Value} {u : xv_M} {n1 s1 : Nat} {P : xv_P} {x : Int32} {off : Int} (tgt : Nat) (hdg : decode J.2.1 pc = .ok (.ifCond .ge off, 3)) (ht : (pc : Int) + off = (tgt : Int)) (kt : 0 ≤ x → xv_X sc d J tgt lv st u n1 s1 P) (kf : ¬ 0 ≤ x → xv_X sc d J (pc + 3) lv st u n1 s1 P) : xv_X sc d J pc lv (.int x :: st) u n1 s1 P := fun p l e R s m args below meth c G N0 S0 Q H locs ls A0 lo hP wf hS hN hZ => lv_if_ge A0.1 A0.2.1 hdg ht (fun q => kt q p l e R s m args below meth c G N0 S0 Q H locs ls A0 lo hP wf hS hN hZ) (fun q => kf q p l e R s m args below meth c G N0 S0 Q H locs ls A0 lo hP wf hS hN hZ)
theorem xv_icmp_ge {sc : Nat × (Nat → Int32)} {d : Nat} {J : xv_J} {pc : Nat} {lv : List (Option Value)} {st : List Value} {u : xv_M} {n1 s1 : Nat} {P : xv_P} {x y : Int32} {off : Int} (tgt : Nat) (hdg : decode J.2.1 pc = .ok (.if_icmp .ge off, 3)) (ht : (pc : Int) + off = (tgt : Int)) (kt : y ≤ x → xv_X sc d J tgt lv st u n1 s1 P) (kf : ¬ y ≤ x → xv_X sc d J (pc + 3) lv st u n1 s1 P) : xv_X sc d J pc lv (.int y :: .int x :: st) u n1 s1 P := fun p l e R s m args below meth c G N0 S0 Q H locs ls A0 lo hP wf hS hN hZ => lv_icmp_ge A0.1 A0.2.1 hdg ht (fun q => kt q p l e R s m args below meth c G N0 S0 Q H locs ls A0 lo hP wf hS hN hZ) (fun q => kf q p l e R s m args below meth c G N0 S0 Q H locs ls A0 lo hP wf hS hN hZ)
theorem xv_if_gt {sc : Nat × (Nat → Int32)} {d : Nat} {J : xv_J} {pc : Nat} {lv : List (Option Value)} {st : List Value} {u : xv_M} {n1 s1 : Nat} {P : xv_P} {x : Int32} {off : Int} (tgt : Nat) (hdg : decode J.2.1 pc = .ok (.ifCond .gt off, 3)) (ht : (pc : Int) + off = (tgt : Int)) (kt : 0 < x → xv_X sc d J tgt lv st u n1 s1 P) (kf : ¬ 0 < x → xv_X sc d J (pc + 3) lv st u n1 s1 P) : xv_X sc d J pc lv (.int x :: st) u n1 s1 P := fun p l e R s m args below meth c G N0 S0 Q H locs ls A0 lo hP wf hS hN hZ => lv_if_gt A0.1 A0.2.1 hdg ht (fun q => kt q p l e R s m args below meth c G N0 S0 Q H locs ls A0 lo hP wf hS hN hZ) (fun q => kf q p l e R s m args below meth c G N0 S0 Q H locs ls A0 lo hP wf hS hN hZ)
theorem xv_icmp_gt {sc : Nat × (Nat → Int32)} {d : Nat} {J : xv_J} {pc : Nat} {lv : List (Option Value)} {st : List Value} {u : xv_M} {n1 s1 : Nat} {P : xv_P} {x y : Int32} {off : Int} (tgt : Nat) (hdg : decode J.2.1 pc = .ok (.if_icmp .gt off, 3)) (ht : (pc : Int) + off = (tgt : Int)) (kt : y < x → xv_X sc d J tgt lv st u n1 s1 P) (kf : ¬ y < x → xv_X sc d J (pc + 3) lv st u n1 s1 P) : xv_X sc d J pc lv (.int y :: .int x :: st) u n1 s1 P := fun p l e R s m args below meth c G N0 S0 Q H locs ls A0 lo hP wf hS hN hZ => lv_icmp_gt A0.1 A0.2.1 hdg ht (fun q => kt q p l e R s m args below meth c G N0 S0 Q H locs ls A0 lo hP wf hS hN hZ) (fun q => kf q p l e R s m args below meth c G N0 S0 Q H locs ls A0 lo hP wf hS hN hZ)
theorem xv_if_le {sc : Nat × (Nat → Int32)} {d : Nat} {J : xv_J} {pc : Nat} {lv : List (Option Value)} {st : List Value} {u : xv_M} {n1 s1 : Nat} {P : xv_P} {x : Int32} {off : Int} (tgt : Nat) (hdg : decode J.2.1 pc = .ok (.ifCond .le off, 3)) (ht : (pc : Int) + off = (tgt : Int)) (kt : x ≤ 0 → xv_X sc d J tgt lv st u n1 s1 P) (kf : ¬ x ≤ 0 → xv_X sc d J (pc + 3) lv st u n1 s1 P) : xv_X sc d J pc lv (.int x :: st) u n1 s1 P := fun p l e R s m args below meth c G N0 S0 Q H locs ls A0 lo hP wf hS hN hZ => lv_if_le A0.1 A0.2.1 hdg ht (fun q => kt q p l e R s m args below meth c G N0 S0 Q H locs ls A0 lo hP wf hS hN hZ) (fun q => kf q p l e R s m args below meth c G N0 S0 Q H locs ls A0 lo hP wf hS hN hZ)
theorem xv_icmp_le {sc : Nat × (Nat → Int32)} {d : Nat} {J : xv_J} {pc : Nat} {lv : List (Option Value)} {st : List Value} {u : xv_M} {n1 s1 : Nat} {P : xv_P} {x y : Int32} {off : Int} (tgt : Nat) (hdg : decode J.2.1 pc = .ok (.if_icmp .le off, 3)) (ht : (pc : Int) + off = (tgt : Int)) (kt : x ≤ y → xv_X sc d J tgt lv st u n1 s1 P) (kf : ¬ x ≤ y → xv_X sc d J (pc + 3) lv st u n1 s1 P) : xv_X sc d J pc lv (.int y :: .int x :: st) u n1 s1 P := fun p l e R s m args below meth c G N0 S0 Q H locs ls A0 lo hP wf hS hN hZ => lv_icmp_le A0.1 A0.2.1 hdg ht (fun q => kt q p l e R s m args below meth c G N0 S0 Q H locs ls A0 lo hP wf hS hN hZ) (fun q => kf q p l e R s m args below meth c G N0 S0 Q H locs ls A0 lo hP wf hS hN hZ)
theorem xv_goto {sc : Nat × (Nat → Int32)} {d : Nat} {J : xv_J} {pc : Nat} {lv : List (Option Value)} {st : List Value} {u : xv_M} {n1 s1 : Nat} {P : xv_P} {off : Int} (tgt : Nat) (hdg : decode J.2.1 pc = .ok (.goto off, 3)) (ht : (pc : Int) + off = (tgt : Int)) (k : xv_X sc d J tgt lv st u n1 s1 P) : xv_X sc d J pc lv st u n1 s1 P := fun p l e R s m args below meth c G N0 S0 Q H locs ls A0 lo hP wf hS hN hZ => lv_goto A0.1 A0.2.1 hdg ht (k p l e R s m args below meth c G N0 S0 Q H locs ls A0 lo hP wf hS hN hZ)
theorem xv_tableOut {sc : Nat × (Nat → Int32)} {d : Nat} {J : xv_J} {pc : Nat} {lv : List (Option Value)} {st : List Value} {u : xv_M} {n1 s1 : Nat} {P : xv_P} {dflt lo hi : Int} {offs : Array Int} {len : Nat} {x : Int32} (tgt : Nat) (hdg : decode J.2.1 pc = .ok (.tableswitch dflt lo hi offs, len)) (h : x.toInt < lo ∨ hi < x.toInt) (ht : (pc : Int) + dflt = (tgt : Int)) (k : xv_X sc d J tgt lv st u n1 s1 P) : xv_X sc d J pc lv (.int x :: st) u n1 s1 P := fun p l e R s m args below meth c G N0 S0 Q H locs ls A0 lo hP wf hS hN hZ => lv_tableOut A0.1 A0.2.1 hdg h ht (k p l e R s m args below meth c G N0 S0 Q H locs ls A0 lo hP wf hS hN hZ)
theorem xv_tableIn {sc : Nat × (Nat → Int32)} {d : Nat} {J : xv_J} {pc : Nat} {lv : List (Option Value)} {st : List Value} {u : xv_M} {n1 s1 : Nat} {P : xv_P} {dflt lo hi : Int} {offs : Array Int} {len : Nat} {x : Int32} {off : Int} (tgt : Nat) (hdg : decode J.2.1 pc = .ok (.tableswitch dflt lo hi offs, len)) (h1 : ¬ x.toInt < lo) (h2 : ¬ hi < x.toInt) (ho : offs[(x.toInt - lo).toNat]? = some off) (ht : (pc : Int) + off = (tgt : Int)) (k : xv_X sc d J tgt lv st u n1 s1 P) : xv_X sc d J pc lv (.int x :: st) u n1 s1 P := fun p l e R s m args below meth c G N0 S0 Q H locs ls A0 lo hP wf hS hN hZ => lv_tableIn A0.1 A0.2.1 hdg h1 h2 ho ht (k p l e R s m args below meth c G N0 S0 Q H locs ls A0 lo hP wf hS hN hZ)
theorem xv_lookup {sc : Nat × (Nat → Int32)} {d : Nat} {J : xv_J} {pc : Nat} {lv : List (Option Value)} {st : List Value} {u : xv_M} {n1 s1 : Nat} {P : xv_P} {dflt : Int} {ps : Array (Int × Int)} {len : Nat} {x : Int32} {off : Int} (tgt : Nat) (hdg : decode J.2.1 pc = .ok (.lookupswitch dflt ps, len)) (hp : (ps.toList.zip (ps.toList.drop 1)).all (fun (a, next) => a.1 < next.1) = true) (ho : Op.lookupswitch.offset ps.toList dflt x.toInt = off) (ht : (pc : Int) + off = (tgt : Int)) (k : xv_X sc d J tgt lv st u n1 s1 P) : xv_X sc d J pc lv (.int x :: st) u n1 s1 P := fun p l e R s m args below meth c G N0 S0 Q H locs ls A0 lo hP wf hS hN hZ => lv_lookup A0.1 A0.2.1 hdg hp ho ht (k p l e R s m args below meth c G N0 S0 Q H locs ls A0 lo hP wf hS hN hZ)
theorem xv_istoreG_n {sc : Nat × (Nat → Int32)} {d : Nat} {J : xv_J} {pc : Nat} {lv : List (Option Value)} {st : List Value} {u : xv_M} {n1 s1 : Nat} {P : xv_P} {kk : Fin 4} {i : Nat} {x : Int32} (hdg : decode J.2.1 pc = .ok (.istore_n kk, 1)) (hi : (kk : Nat) = i) (hn : i < J.2.2.1) (h2 : xv_c2 lv i = true) (k : xv_X sc d J (pc + 1) (lv.set i (some (.int x))) st u n1 s1 P) : xv_X sc d J pc lv (.int x :: st) u n1 s1 P := by
  intro p l e R s m args below meth c G N0 S0 Q H locs ls A0 lo hP wf hS hN hZ
  refine lv_istore_n A0.1 A0.2.1 hdg hi (xv_lo_has lo) hn rfl (fun ls' h' => ?_)
  exact k p l e R s m args below meth c G N0 S0 Q H locs ls' A0 (xv_lo_put lo hn h2 h') hP wf hS hN hZ
theorem xv_istoreG {sc : Nat × (Nat → Int32)} {d : Nat} {J : xv_J} {pc : Nat} {lv : List (Option Value)} {st : List Value} {u : xv_M} {n1 s1 : Nat} {P : xv_P} {i : Nat} {x : Int32} (hdg : decode J.2.1 pc = .ok (.istore i, 2)) (hn : i < J.2.2.1) (h2 : xv_c2 lv i = true) (k : xv_X sc d J (pc + 2) (lv.set i (some (.int x))) st u n1 s1 P) : xv_X sc d J pc lv (.int x :: st) u n1 s1 P := by
  intro p l e R s m args below meth c G N0 S0 Q H locs ls A0 lo hP wf hS hN hZ
  refine lv_istore A0.1 A0.2.1 hdg (xv_lo_has lo) hn rfl (fun ls' h' => ?_)
  exact k p l e R s m args below meth c G N0 S0 Q H locs ls' A0 (xv_lo_put lo hn h2 h') hP wf hS hN hZ
theorem xv_astoreG_n {sc : Nat × (Nat → Int32)} {d : Nat} {J : xv_J} {pc : Nat} {lv : List (Option Value)} {st : List Value} {u : xv_M} {n1 s1 : Nat} {P : xv_P} {kk : Fin 4} {i : Nat} {x : Nat} (hdg : decode J.2.1 pc = .ok (.astore_n kk, 1)) (hi : (kk : Nat) = i) (hn : i < J.2.2.1) (h2 : xv_c2 lv i = true) (k : xv_X sc d J (pc + 1) (lv.set i (some (.ref x))) st u n1 s1 P) : xv_X sc d J pc lv (.ref x :: st) u n1 s1 P := by
  intro p l e R s m args below meth c G N0 S0 Q H locs ls A0 lo hP wf hS hN hZ
  refine lv_astore_n A0.1 A0.2.1 hdg hi (xv_lo_has lo) hn rfl (fun ls' h' => ?_)
  exact k p l e R s m args below meth c G N0 S0 Q H locs ls' A0 (xv_lo_put lo hn h2 h') hP wf hS hN hZ
theorem xv_astoreG {sc : Nat × (Nat → Int32)} {d : Nat} {J : xv_J} {pc : Nat} {lv : List (Option Value)} {st : List Value} {u : xv_M} {n1 s1 : Nat} {P : xv_P} {i : Nat} {x : Nat} (hdg : decode J.2.1 pc = .ok (.astore i, 2)) (hn : i < J.2.2.1) (h2 : xv_c2 lv i = true) (k : xv_X sc d J (pc + 2) (lv.set i (some (.ref x))) st u n1 s1 P) : xv_X sc d J pc lv (.ref x :: st) u n1 s1 P := by
  intro p l e R s m args below meth c G N0 S0 Q H locs ls A0 lo hP wf hS hN hZ
  refine lv_astore A0.1 A0.2.1 hdg (xv_lo_has lo) hn rfl (fun ls' h' => ?_)
  exact k p l e R s m args below meth c G N0 S0 Q H locs ls' A0 (xv_lo_put lo hn h2 h') hP wf hS hN hZ
theorem xv_iincG {sc : Nat × (Nat → Int32)} {d : Nat} {J : xv_J} {pc : Nat} {lv : List (Option Value)} {st : List Value} {u : xv_M} {n1 s1 : Nat} {P : xv_P} {i : Nat} {n : Int} {x : Int32} (v : Int32) (hdg : decode J.2.1 pc = .ok (.iinc i n, 3)) (hl : lv[i]? = some (some (.int x))) (hv : x + Int32.ofInt n = v) (hn : i < J.2.2.1) (h2 : xv_c2 lv i = true) (k : xv_X sc d J (pc + 3) (lv.set i (some (.int v))) st u n1 s1 P) : xv_X sc d J pc lv st u n1 s1 P := by
  intro p l e R s m args below meth c G N0 S0 Q H locs ls A0 lo hP wf hS hN hZ
  obtain ⟨q, hq⟩ := xv_al_at (G := G) hl
  refine lv_iinc A0.1 A0.2.1 hdg (xv_lo_has lo) hq hv hn rfl (fun ls' h' => ?_)
  exact k p l e R s m args below meth c G N0 S0 Q H locs ls' A0 (xv_lo_put (v := .int v) lo hn h2 h') hP wf hS hN hZ
theorem xv_istore_0 {sc : Nat × (Nat → Int32)} {d : Nat} {J : xv_J} {pc : Nat} {a0 : Option Value} {t : List (Option Value)} {st : List Value} {u : xv_M} {n1 s1 : Nat} {P : xv_P} {x : Int32} (hdg : decode J.2.1 pc = .ok (.istore_n 0, 1)) (hn : 0 < J.2.2.1)  (k : xv_X sc d J (pc + 1) (some (.int x) :: t) st u n1 s1 P) : xv_X sc d J pc (a0 :: t) (.int x :: st) u n1 s1 P := xv_istoreG_n hdg rfl hn rfl k
theorem xv_astore_0 {sc : Nat × (Nat → Int32)} {d : Nat} {J : xv_J} {pc : Nat} {a0 : Option Value} {t : List (Option Value)} {st : List Value} {u : xv_M} {n1 s1 : Nat} {P : xv_P} {x : Nat} (hdg : decode J.2.1 pc = .ok (.astore_n 0, 1)) (hn : 0 < J.2.2.1)  (k : xv_X sc d J (pc + 1) (some (.ref x) :: t) st u n1 s1 P) : xv_X sc d J pc (a0 :: t) (.ref x :: st) u n1 s1 P := xv_astoreG_n hdg rfl hn rfl k
theorem xv_iinc_0 {sc : Nat × (Nat → Int32)} {d : Nat} {J : xv_J} {pc : Nat}  {t : List (Option Value)} {st : List Value} {u : xv_M} {n1 s1 : Nat} {P : xv_P} {n : Int} {x : Int32} (v : Int32) (hdg : decode J.2.1 pc = .ok (.iinc 0 n, 3)) (hv : x + Int32.ofInt n = v) (hn : 0 < J.2.2.1)  (k : xv_X sc d J (pc + 3) (some (.int v) :: t) st u n1 s1 P) : xv_X sc d J pc (some (.int x) :: t) st u n1 s1 P := xv_iincG v hdg rfl hv hn rfl k
theorem xv_istore_1 {sc : Nat × (Nat → Int32)} {d : Nat} {J : xv_J} {pc : Nat} {a0 a1 : Option Value} {t : List (Option Value)} {st : List Value} {u : xv_M} {n1 s1 : Nat} {P : xv_P} {x : Int32} (hdg : decode J.2.1 pc = .ok (.istore_n 1, 1)) (hn : 1 < J.2.2.1) (h2 : xv_c2 [a0] 1 = true) (k : xv_X sc d J (pc + 1) (a0 :: some (.int x) :: t) st u n1 s1 P) : xv_X sc d J pc (a0 :: a1 :: t) (.int x :: st) u n1 s1 P := xv_istoreG_n hdg rfl hn h2 k
theorem xv_astore_1 {sc : Nat × (Nat → Int32)} {d : Nat} {J : xv_J} {pc : Nat} {a0 a1 : Option Value} {t : List (Option Value)} {st : List Value} {u : xv_M} {n1 s1 : Nat} {P : xv_P} {x : Nat} (hdg : decode J.2.1 pc = .ok (.astore_n 1, 1)) (hn : 1 < J.2.2.1) (h2 : xv_c2 [a0] 1 = true) (k : xv_X sc d J (pc + 1) (a0 :: some (.ref x) :: t) st u n1 s1 P) : xv_X sc d J pc (a0 :: a1 :: t) (.ref x :: st) u n1 s1 P := xv_astoreG_n hdg rfl hn h2 k
theorem xv_iinc_1 {sc : Nat × (Nat → Int32)} {d : Nat} {J : xv_J} {pc : Nat} {a0 : Option Value} {t : List (Option Value)} {st : List Value} {u : xv_M} {n1 s1 : Nat} {P : xv_P} {n : Int} {x : Int32} (v : Int32) (hdg : decode J.2.1 pc = .ok (.iinc 1 n, 3)) (hv : x + Int32.ofInt n = v) (hn : 1 < J.2.2.1) (h2 : xv_c2 [a0] 1 = true) (k : xv_X sc d J (pc + 3) (a0 :: some (.int v) :: t) st u n1 s1 P) : xv_X sc d J pc (a0 :: some (.int x) :: t) st u n1 s1 P := xv_iincG v hdg rfl hv hn h2 k
theorem xv_istore_2 {sc : Nat × (Nat → Int32)} {d : Nat} {J : xv_J} {pc : Nat} {a0 a1 a2 : Option Value} {t : List (Option Value)} {st : List Value} {u : xv_M} {n1 s1 : Nat} {P : xv_P} {x : Int32} (hdg : decode J.2.1 pc = .ok (.istore_n 2, 1)) (hn : 2 < J.2.2.1) (h2 : xv_c2 [a0, a1] 2 = true) (k : xv_X sc d J (pc + 1) (a0 :: a1 :: some (.int x) :: t) st u n1 s1 P) : xv_X sc d J pc (a0 :: a1 :: a2 :: t) (.int x :: st) u n1 s1 P := xv_istoreG_n hdg rfl hn h2 k
theorem xv_astore_2 {sc : Nat × (Nat → Int32)} {d : Nat} {J : xv_J} {pc : Nat} {a0 a1 a2 : Option Value} {t : List (Option Value)} {st : List Value} {u : xv_M} {n1 s1 : Nat} {P : xv_P} {x : Nat} (hdg : decode J.2.1 pc = .ok (.astore_n 2, 1)) (hn : 2 < J.2.2.1) (h2 : xv_c2 [a0, a1] 2 = true) (k : xv_X sc d J (pc + 1) (a0 :: a1 :: some (.ref x) :: t) st u n1 s1 P) : xv_X sc d J pc (a0 :: a1 :: a2 :: t) (.ref x :: st) u n1 s1 P := xv_astoreG_n hdg rfl hn h2 k
theorem xv_iinc_2 {sc : Nat × (Nat → Int32)} {d : Nat} {J : xv_J} {pc : Nat} {a0 a1 : Option Value} {t : List (Option Value)} {st : List Value} {u : xv_M} {n1 s1 : Nat} {P : xv_P} {n : Int} {x : Int32} (v : Int32) (hdg : decode J.2.1 pc = .ok (.iinc 2 n, 3)) (hv : x + Int32.ofInt n = v) (hn : 2 < J.2.2.1) (h2 : xv_c2 [a0, a1] 2 = true) (k : xv_X sc d J (pc + 3) (a0 :: a1 :: some (.int v) :: t) st u n1 s1 P) : xv_X sc d J pc (a0 :: a1 :: some (.int x) :: t) st u n1 s1 P := xv_iincG v hdg rfl hv hn h2 k
theorem xv_istore_3 {sc : Nat × (Nat → Int32)} {d : Nat} {J : xv_J} {pc : Nat} {a0 a1 a2 a3 : Option Value} {t : List (Option Value)} {st : List Value} {u : xv_M} {n1 s1 : Nat} {P : xv_P} {x : Int32} (hdg : decode J.2.1 pc = .ok (.istore_n 3, 1)) (hn : 3 < J.2.2.1) (h2 : xv_c2 [a0, a1, a2] 3 = true) (k : xv_X sc d J (pc + 1) (a0 :: a1 :: a2 :: some (.int x) :: t) st u n1 s1 P) : xv_X sc d J pc (a0 :: a1 :: a2 :: a3 :: t) (.int x :: st) u n1 s1 P := xv_istoreG_n hdg rfl hn h2 k
theorem xv_astore_3 {sc : Nat × (Nat → Int32)} {d : Nat} {J : xv_J} {pc : Nat} {a0 a1 a2 a3 : Option Value} {t : List (Option Value)} {st : List Value} {u : xv_M} {n1 s1 : Nat} {P : xv_P} {x : Nat} (hdg : decode J.2.1 pc = .ok (.astore_n 3, 1)) (hn : 3 < J.2.2.1) (h2 : xv_c2 [a0, a1, a2] 3 = true) (k : xv_X sc d J (pc + 1) (a0 :: a1 :: a2 :: some (.ref x) :: t) st u n1 s1 P) : xv_X sc d J pc (a0 :: a1 :: a2 :: a3 :: t) (.ref x :: st) u n1 s1 P := xv_astoreG_n hdg rfl hn h2 k
theorem xv_iinc_3 {sc : Nat × (Nat → Int32)} {d : Nat} {J : xv_J} {pc : Nat} {a0 a1 a2 : Option Value} {t : List (Option Value)} {st : List Value} {u : xv_M} {n1 s1 : Nat} {P : xv_P} {n : Int} {x : Int32} (v : Int32) (hdg : decode J.2.1 pc = .ok (.iinc 3 n, 3)) (hv : x + Int32.ofInt n = v) (hn : 3 < J.2.2.1) (h2 : xv_c2 [a0, a1, a2] 3 = true) (k : xv_X sc d J (pc + 3) (a0 :: a1 :: a2 :: some (.int v) :: t) st u n1 s1 P) : xv_X sc d J pc (a0 :: a1 :: a2 :: some (.int x) :: t) st u n1 s1 P := xv_iincG v hdg rfl hv hn h2 k
theorem xv_istore_4 {sc : Nat × (Nat → Int32)} {d : Nat} {J : xv_J} {pc : Nat} {a0 a1 a2 a3 a4 : Option Value} {t : List (Option Value)} {st : List Value} {u : xv_M} {n1 s1 : Nat} {P : xv_P} {x : Int32} (hdg : decode J.2.1 pc = .ok (.istore 4, 2)) (hn : 4 < J.2.2.1) (h2 : xv_c2 [a0, a1, a2, a3] 4 = true) (k : xv_X sc d J (pc + 2) (a0 :: a1 :: a2 :: a3 :: some (.int x) :: t) st u n1 s1 P) : xv_X sc d J pc (a0 :: a1 :: a2 :: a3 :: a4 :: t) (.int x :: st) u n1 s1 P := xv_istoreG hdg hn h2 k
theorem xv_astore_4 {sc : Nat × (Nat → Int32)} {d : Nat} {J : xv_J} {pc : Nat} {a0 a1 a2 a3 a4 : Option Value} {t : List (Option Value)} {st : List Value} {u : xv_M} {n1 s1 : Nat} {P : xv_P} {x : Nat} (hdg : decode J.2.1 pc = .ok (.astore 4, 2)) (hn : 4 < J.2.2.1) (h2 : xv_c2 [a0, a1, a2, a3] 4 = true) (k : xv_X sc d J (pc + 2) (a0 :: a1 :: a2 :: a3 :: some (.ref x) :: t) st u n1 s1 P) : xv_X sc d J pc (a0 :: a1 :: a2 :: a3 :: a4 :: t) (.ref x :: st) u n1 s1 P := xv_astoreG hdg hn h2 k
theorem xv_iinc_4 {sc : Nat × (Nat → Int32)} {d : Nat} {J : xv_J} {pc : Nat} {a0 a1 a2 a3 : Option Value} {t : List (Option Value)} {st : List Value} {u : xv_M} {n1 s1 : Nat} {P : xv_P} {n : Int} {x : Int32} (v : Int32) (hdg : decode J.2.1 pc = .ok (.iinc 4 n, 3)) (hv : x + Int32.ofInt n = v) (hn : 4 < J.2.2.1) (h2 : xv_c2 [a0, a1, a2, a3] 4 = true) (k : xv_X sc d J (pc + 3) (a0 :: a1 :: a2 :: a3 :: some (.int v) :: t) st u n1 s1 P) : xv_X sc d J pc (a0 :: a1 :: a2 :: a3 :: some (.int x) :: t) st u n1 s1 P := xv_iincG v hdg rfl hv hn h2 k
theorem xv_istore_5 {sc : Nat × (Nat → Int32)} {d : Nat} {J : xv_J} {pc : Nat} {a0 a1 a2 a3 a4 a5 : Option Value} {t : List (Option Value)} {st : List Value} {u : xv_M} {n1 s1 : Nat} {P : xv_P} {x : Int32} (hdg : decode J.2.1 pc = .ok (.istore 5, 2)) (hn : 5 < J.2.2.1) (h2 : xv_c2 [a0, a1, a2, a3, a4] 5 = true) (k : xv_X sc d J (pc + 2) (a0 :: a1 :: a2 :: a3 :: a4 :: some (.int x) :: t) st u n1 s1 P) : xv_X sc d J pc (a0 :: a1 :: a2 :: a3 :: a4 :: a5 :: t) (.int x :: st) u n1 s1 P := xv_istoreG hdg hn h2 k
theorem xv_astore_5 {sc : Nat × (Nat → Int32)} {d : Nat} {J : xv_J} {pc : Nat} {a0 a1 a2 a3 a4 a5 : Option Value} {t : List (Option Value)} {st : List Value} {u : xv_M} {n1 s1 : Nat} {P : xv_P} {x : Nat} (hdg : decode J.2.1 pc = .ok (.astore 5, 2)) (hn : 5 < J.2.2.1) (h2 : xv_c2 [a0, a1, a2, a3, a4] 5 = true) (k : xv_X sc d J (pc + 2) (a0 :: a1 :: a2 :: a3 :: a4 :: some (.ref x) :: t) st u n1 s1 P) : xv_X sc d J pc (a0 :: a1 :: a2 :: a3 :: a4 :: a5 :: t) (.ref x :: st) u n1 s1 P := xv_astoreG hdg hn h2 k
theorem xv_iinc_5 {sc : Nat × (Nat → Int32)} {d : Nat} {J : xv_J} {pc : Nat} {a0 a1 a2 a3 a4 : Option Value} {t : List (Option Value)} {st : List Value} {u : xv_M} {n1 s1 : Nat} {P : xv_P} {n : Int} {x : Int32} (v : Int32) (hdg : decode J.2.1 pc = .ok (.iinc 5 n, 3)) (hv : x + Int32.ofInt n = v) (hn : 5 < J.2.2.1) (h2 : xv_c2 [a0, a1, a2, a3, a4] 5 = true) (k : xv_X sc d J (pc + 3) (a0 :: a1 :: a2 :: a3 :: a4 :: some (.int v) :: t) st u n1 s1 P) : xv_X sc d J pc (a0 :: a1 :: a2 :: a3 :: a4 :: some (.int x) :: t) st u n1 s1 P := xv_iincG v hdg rfl hv hn h2 k
theorem xv_istore_6 {sc : Nat × (Nat → Int32)} {d : Nat} {J : xv_J} {pc : Nat} {a0 a1 a2 a3 a4 a5 a6 : Option Value} {t : List (Option Value)} {st : List Value} {u : xv_M} {n1 s1 : Nat} {P : xv_P} {x : Int32} (hdg : decode J.2.1 pc = .ok (.istore 6, 2)) (hn : 6 < J.2.2.1) (h2 : xv_c2 [a0, a1, a2, a3, a4, a5] 6 = true) (k : xv_X sc d J (pc + 2) (a0 :: a1 :: a2 :: a3 :: a4 :: a5 :: some (.int x) :: t) st u n1 s1 P) : xv_X sc d J pc (a0 :: a1 :: a2 :: a3 :: a4 :: a5 :: a6 :: t) (.int x :: st) u n1 s1 P := xv_istoreG hdg hn h2 k
theorem xv_astore_6 {sc : Nat × (Nat → Int32)} {d : Nat} {J : xv_J} {pc : Nat} {a0 a1 a2 a3 a4 a5 a6 : Option Value} {t : List (Option Value)} {st : List Value} {u : xv_M} {n1 s1 : Nat} {P : xv_P} {x : Nat} (hdg : decode J.2.1 pc = .ok (.astore 6, 2)) (hn : 6 < J.2.2.1) (h2 : xv_c2 [a0, a1, a2, a3, a4, a5] 6 = true) (k : xv_X sc d J (pc + 2) (a0 :: a1 :: a2 :: a3 :: a4 :: a5 :: some (.ref x) :: t) st u n1 s1 P) : xv_X sc d J pc (a0 :: a1 :: a2 :: a3 :: a4 :: a5 :: a6 :: t) (.ref x :: st) u n1 s1 P := xv_astoreG hdg hn h2 k
theorem xv_iinc_6 {sc : Nat × (Nat → Int32)} {d : Nat} {J : xv_J} {pc : Nat} {a0 a1 a2 a3 a4 a5 : Option Value} {t : List (Option Value)} {st : List Value} {u : xv_M} {n1 s1 : Nat} {P : xv_P} {n : Int} {x : Int32} (v : Int32) (hdg : decode J.2.1 pc = .ok (.iinc 6 n, 3)) (hv : x + Int32.ofInt n = v) (hn : 6 < J.2.2.1) (h2 : xv_c2 [a0, a1, a2, a3, a4, a5] 6 = true) (k : xv_X sc d J (pc + 3) (a0 :: a1 :: a2 :: a3 :: a4 :: a5 :: some (.int v) :: t) st u n1 s1 P) : xv_X sc d J pc (a0 :: a1 :: a2 :: a3 :: a4 :: a5 :: some (.int x) :: t) st u n1 s1 P := xv_iincG v hdg rfl hv hn h2 k
theorem xv_istore_7 {sc : Nat × (Nat → Int32)} {d : Nat} {J : xv_J} {pc : Nat} {a0 a1 a2 a3 a4 a5 a6 a7 : Option Value} {t : List (Option Value)} {st : List Value} {u : xv_M} {n1 s1 : Nat} {P : xv_P} {x : Int32} (hdg : decode J.2.1 pc = .ok (.istore 7, 2)) (hn : 7 < J.2.2.1) (h2 : xv_c2 [a0, a1, a2, a3, a4, a5, a6] 7 = true) (k : xv_X sc d J (pc + 2) (a0 :: a1 :: a2 :: a3 :: a4 :: a5 :: a6 :: some (.int x) :: t) st u n1 s1 P) : xv_X sc d J pc (a0 :: a1 :: a2 :: a3 :: a4 :: a5 :: a6 :: a7 :: t) (.int x :: st) u n1 s1 P := xv_istoreG hdg hn h2 k
theorem xv_astore_7 {sc : Nat × (Nat → Int32)} {d : Nat} {J : xv_J} {pc : Nat} {a0 a1 a2 a3 a4 a5 a6 a7 : Option Value} {t : List (Option Value)} {st : List Value} {u : xv_M} {n1 s1 : Nat} {P : xv_P} {x : Nat} (hdg : decode J.2.1 pc = .ok (.astore 7, 2)) (hn : 7 < J.2.2.1) (h2 : xv_c2 [a0, a1, a2, a3, a4, a5, a6] 7 = true) (k : xv_X sc d J (pc + 2) (a0 :: a1 :: a2 :: a3 :: a4 :: a5 :: a6 :: some (.ref x) :: t) st u n1 s1 P) : xv_X sc d J pc (a0 :: a1 :: a2 :: a3 :: a4 :: a5 :: a6 :: a7 :: t) (.ref x :: st) u n1 s1 P := xv_astoreG hdg hn h2 k
theorem xv_iinc_7 {sc : Nat × (Nat → Int32)} {d : Nat} {J : xv_J} {pc : Nat} {a0 a1 a2 a3 a4 a5 a6 : Option Value} {t : List (Option Value)} {st : List Value} {u : xv_M} {n1 s1 : Nat} {P : xv_P} {n : Int} {x : Int32} (v : Int32) (hdg : decode J.2.1 pc = .ok (.iinc 7 n, 3)) (hv : x + Int32.ofInt n = v) (hn : 7 < J.2.2.1) (h2 : xv_c2 [a0, a1, a2, a3, a4, a5, a6] 7 = true) (k : xv_X sc d J (pc + 3) (a0 :: a1 :: a2 :: a3 :: a4 :: a5 :: a6 :: some (.int v) :: t) st u n1 s1 P) : xv_X sc d J pc (a0 :: a1 :: a2 :: a3 :: a4 :: a5 :: a6 :: some (.int x) :: t) st u n1 s1 P := xv_iincG v hdg rfl hv hn h2 k
theorem xv_istore_8 {sc : Nat × (Nat → Int32)} {d : Nat} {J : xv_J} {pc : Nat} {a0 a1 a2 a3 a4 a5 a6 a7 a8 : Option Value} {t : List (Option Value)} {st : List Value} {u : xv_M} {n1 s1 : Nat} {P : xv_P} {x : Int32} (hdg : decode J.2.1 pc = .ok (.istore 8, 2)) (hn : 8 < J.2.2.1) (h2 : xv_c2 [a0, a1, a2, a3, a4, a5, a6, a7] 8 = true) (k : xv_X sc d J (pc + 2) (a0 :: a1 :: a2 :: a3 :: a4 :: a5 :: a6 :: a7 :: some (.int x) :: t) st u n1 s1 P) : xv_X sc d J pc (a0 :: a1 :: a2 :: a3 :: a4 :: a5 :: a6 :: a7 :: a8 :: t) (.int x :: st) u n1 s1 P := xv_istoreG hdg hn h2 k
theorem xv_astore_8 {sc : Nat × (Nat → Int32)} {d : Nat} {J : xv_J} {pc : Nat} {a0 a1 a2 a3 a4 a5 a6 a7 a8 : Option Value} {t : List (Option Value)} {st : List Value} {u : xv_M} {n1 s1 : Nat} {P : xv_P} {x : Nat} (hdg : decode J.2.1 pc = .ok (.astore 8, 2)) (hn : 8 < J.2.2.1) (h2 : xv_c2 [a0, a1, a2, a3, a4, a5, a6, a7] 8 = true) (k : xv_X sc d J (pc + 2) (a0 :: a1 :: a2 :: a3 :: a4 :: a5 :: a6 :: a7 :: some (.ref x) :: t) st u n1 s1 P) : xv_X sc d J pc (a0 :: a1 :: a2 :: a3 :: a4 :: a5 :: a6 :: a7 :: a8 :: t) (.ref x :: st) u n1 s1 P := xv_astoreG hdg hn h2 k
theorem xv_iinc_8 {sc : Nat × (Nat → Int32)} {d : Nat} {J : xv_J} {pc : Nat} {a0 a1 a2 a3 a4 a5 a6 a7 : Option Value} {t : List (Option Value)} {st : List Value} {u : xv_M} {n1 s1 : Nat} {P : xv_P} {n : Int} {x : Int32} (v : Int32) (hdg : decode J.2.1 pc = .ok (.iinc 8 n, 3)) (hv : x + Int32.ofInt n = v) (hn : 8 < J.2.2.1) (h2 : xv_c2 [a0, a1, a2, a3, a4, a5, a6, a7] 8 = true) (k : xv_X sc d J (pc + 3) (a0 :: a1 :: a2 :: a3 :: a4 :: a5 :: a6 :: a7 :: some (.int v) :: t) st u n1 s1 P) : xv_X sc d J pc (a0 :: a1 :: a2 :: a3 :: a4 :: a5 :: a6 :: a7 :: some (.int x) :: t) st u n1 s1 P := xv_iincG v hdg rfl hv hn h2 k
theorem xv_istore_9 {sc : Nat × (Nat → Int32)} {d : Nat} {J : xv_J} {pc : Nat} {a0 a1 a2 a3 a4 a5 a6 a7 a8 a9 : Option Value} {t : List (Option Value)} {st : List Value} {u : xv_M} {n1 s1 : Nat} {P : xv_P} {x : Int32} (hdg : decode J.2.1 pc = .ok (.istore 9, 2)) (hn : 9 < J.2.2.1) (h2 : xv_c2 [a0, a1, a2, a3, a4, a5, a6, a7, a8] 9 = true) (k : xv_X sc d J (pc + 2) (a0 :: a1 :: a2 :: a3 :: a4 :: a5 :: a6 :: a7 :: a8 :: some (.int x) :: t) st u n1 s1 P) : xv_X sc d J pc (a0 :: a1 :: a2 :: a3 :: a4 :: a5 :: a6 :: a7 :: a8 :: a9 :: t) (.int x :: st) u n1 s1 P := xv_istoreG hdg hn h2 k
theorem xv_astore_9 {sc : Nat × (Nat → Int32)} {d : Nat} {J : xv_J} {pc : Nat} {a0 a1 a2 a3 a4 a5 a6 a7 a8 a9 : Option Value} {t : List (Option Value)} {st : List Value} {u : xv_M} {n1 s1 : Nat} {P : xv_P} {x : Nat} (hdg : decode J.2.1 pc = .ok (.astore 9, 2)) (hn : 9 < J.2.2.1) (h2 : xv_c2 [a0, a1, a2, a3, a4, a5, a6, a7, a8] 9 = true) (k : xv_X sc d J (pc + 2) (a0 :: a1 :: a2 :: a3 :: a4 :: a5 :: a6 :: a7 :: a8 :: some (.ref x) :: t) st u n1 s1 P) : xv_X sc d J pc (a0 :: a1 :: a2 :: a3 :: a4 :: a5 :: a6 :: a7 :: a8 :: a9 :: t) (.ref x :: st) u n1 s1 P := xv_astoreG hdg hn h2 k
theorem xv_iinc_9 {sc : Nat × (Nat → Int32)} {d : Nat} {J : xv_J} {pc : Nat} {a0 a1 a2 a3 a4 a5 a6 a7 a8 : Option Value} {t : List (Option Value)} {st : List Value} {u : xv_M} {n1 s1 : Nat} {P : xv_P} {n : Int} {x : Int32} (v : Int32) (hdg : decode J.2.1 pc = .ok (.iinc 9 n, 3)) (hv : x + Int32.ofInt n = v) (hn : 9 < J.2.2.1) (h2 : xv_c2 [a0, a1, a2, a3, a4, a5, a6, a7, a8] 9 = true) (k : xv_X sc d J (pc + 3) (a0 :: a1 :: a2 :: a3 :: a4 :: a5 :: a6 :: a7 :: a8 :: some (.int v) :: t) st u n1 s1 P) : xv_X sc d J pc (a0 :: a1 :: a2 :: a3 :: a4 :: a5 :: a6 :: a7 :: a8 :: some (.int x) :: t) st u n1 s1 P := xv_iincG v hdg rfl hv hn h2 k
theorem xv_istore_10 {sc : Nat × (Nat → Int32)} {d : Nat} {J : xv_J} {pc : Nat} {a0 a1 a2 a3 a4 a5 a6 a7 a8 a9 a10 : Option Value} {t : List (Option Value)} {st : List Value} {u : xv_M} {n1 s1 : Nat} {P : xv_P} {x : Int32} (hdg : decode J.2.1 pc = .ok (.istore 10, 2)) (hn : 10 < J.2.2.1) (h2 : xv_c2 [a0, a1, a2, a3, a4, a5, a6, a7, a8, a9] 10 = true) (k : xv_X sc d J (pc + 2) (a0 :: a1 :: a2 :: a3 :: a4 :: a5 :: a6 :: a7 :: a8 :: a9 :: some (.int x) :: t) st u n1 s1 P) : xv_X sc d J pc (a0 :: a1 :: a2 :: a3 :: a4 :: a5 :: a6 :: a7 :: a8 :: a9 :: a10 :: t) (.int x :: st) u n1 s1 P := xv_istoreG hdg hn h2 k
theorem xv_astore_10 {sc : Nat × (Nat → Int32)} {d : Nat} {J : xv_J} {pc : Nat} {a0 a1 a2 a3 a4 a5 a6 a7 a8 a9 a10 : Option Value} {t : List (Option Value)} {st : List Value} {u : xv_M} {n1 s1 : Nat} {P : xv_P} {x : Nat} (hdg : decode J.2.1 pc = .ok (.astore 10, 2)) (hn : 10 < J.2.2.1) (h2 : xv_c2 [a0, a1, a2, a3, a4, a5, a6, a7, a8, a9] 10 = true) (k : xv_X sc d J (pc + 2) (a0 :: a1 :: a2 :: a3 :: a4 :: a5 :: a6 :: a7 :: a8 :: a9 :: some (.ref x) :: t) st u n1 s1 P) : xv_X sc d J pc (a0 :: a1 :: a2 :: a3 :: a4 :: a5 :: a6 :: a7 :: a8 :: a9 :: a10 :: t) (.ref x :: st) u n1 s1 P := xv_astoreG hdg hn h2 k
theorem xv_iinc_10 {sc : Nat × (Nat → Int32)} {d : Nat} {J : xv_J} {pc : Nat} {a0 a1 a2 a3 a4 a5 a6 a7 a8 a9 : Option Value} {t : List (Option Value)} {st : List Value} {u : xv_M} {n1 s1 : Nat} {P : xv_P} {n : Int} {x : Int32} (v : Int32) (hdg : decode J.2.1 pc = .ok (.iinc 10 n, 3)) (hv : x + Int32.ofInt n = v) (hn : 10 < J.2.2.1) (h2 : xv_c2 [a0, a1, a2, a3, a4, a5, a6, a7, a8, a9] 10 = true) (k : xv_X sc d J (pc + 3) (a0 :: a1 :: a2 :: a3 :: a4 :: a5 :: a6 :: a7 :: a8 :: a9 :: some (.int v) :: t) st u n1 s1 P) : xv_X sc d J pc (a0 :: a1 :: a2 :: a3 :: a4 :: a5 :: a6 :: a7 :: a8 :: a9 :: some (.int x) :: t) st u n1 s1 P := xv_iincG v hdg rfl hv hn h2 k
theorem xv_istore_11 {sc : Nat × (Nat → Int32)} {d : Nat} {J : xv_J} {pc : Nat} {a0 a1 a2 a3 a4 a5 a6 a7 a8 a9 a10 a11 : Option Value} {t : List (Option Value)} {st : List Value} {u : xv_M} {n1 s1 : Nat} {P : xv_P} {x : Int32} (hdg : decode J.2.1 pc = .ok (.istore 11, 2)) (hn : 11 < J.2.2.1) (h2 : xv_c2 [a0, a1, a2, a3, a4, a5, a6, a7, a8, a9, a10] 11 = true) (k : xv_X sc d J (pc + 2) (a0 :: a1 :: a2 :: a3 :: a4 :: a5 :: a6 :: a7 :: a8 :: a9 :: a10 :: some (.int x) :: t) st u n1 s1 P) : xv_X sc d J pc (a0 :: a1 :: a2 :: a3 :: a4 :: a5 :: a6 :: a7 :: a8 :: a9 :: a10 :: a11 :: t) (.int x :: st) u n1 s1 P := xv_istoreG hdg hn h2 k
theorem xv_astore_11 {sc : Nat × (Nat → Int32)} {d : Nat} {J : xv_J} {pc : Nat} {a0 a1 a2 a3 a4 a5 a6 a7 a8 a9 a10 a11 : Option Value} {t : List (Option Value)} {st : List Value} {u : xv_M} {n1 s1 : Nat} {P : xv_P} {x : Nat} (hdg : decode J.2.1 pc = .ok (.astore 11, 2)) (hn : 11 < J.2.2.1) (h2 : xv_c2 [a0, a1, a2, a3, a4, a5, a6, a7, a8, a9, a10] 11 = true) (k : xv_X sc d J (pc + 2) (a0 :: a1 :: a2 :: a3 :: a4 :: a5 :: a6 :: a7 :: a8 :: a9 :: a10 :: some (.ref x) :: t) st u n1 s1 P) : xv_X sc d J pc (a0 :: a1 :: a2 :: a3 :: a4 :: a5 :: a6 :: a7 :: a8 :: a9 :: a10 :: a11 :: t) (.ref x :: st) u n1 s1 P := xv_astoreG hdg hn h2 k
theorem xv_iinc_11 {sc : Nat × (Nat → Int32)} {d : Nat} {J : xv_J} {pc : Nat} {a0 a1 a2 a3 a4 a5 a6 a7 a8 a9 a10 : Option Value} {t : List (Option Value)} {st : List Value} {u : xv_M} {n1 s1 : Nat} {P : xv_P} {n : Int} {x : Int32} (v : Int32) (hdg : decode J.2.1 pc = .ok (.iinc 11 n, 3)) (hv : x + Int32.ofInt n = v) (hn : 11 < J.2.2.1) (h2 : xv_c2 [a0, a1, a2, a3, a4, a5, a6, a7, a8, a9, a10] 11 = true) (k : xv_X sc d J (pc + 3) (a0 :: a1 :: a2 :: a3 :: a4 :: a5 :: a6 :: a7 :: a8 :: a9 :: a10 :: some (.int v) :: t) st u n1 s1 P) : xv_X sc d J pc (a0 :: a1 :: a2 :: a3 :: a4 :: a5 :: a6 :: a7 :: a8 :: a9 :: a10 :: some (.int x) :: t) st u n1 s1 P := xv_iincG v hdg rfl hv hn h2 k
theorem xv_istore_12 {sc : Nat × (Nat → Int32)} {d : Nat} {J : xv_J} {pc : Nat} {a0 a1 a2 a3 a4 a5 a6 a7 a8 a9 a10 a11 a12 : Option Value} {t : List (Option Value)} {st : List Value} {u : xv_M} {n1 s1 : Nat} {P : xv_P} {x : Int32} (hdg : decode J.2.1 pc = .ok (.istore 12, 2)) (hn : 12 < J.2.2.1) (h2 : xv_c2 [a0, a1, a2, a3, a4, a5, a6, a7, a8, a9, a10, a11] 12 = true) (k : xv_X sc d J (pc + 2) (a0 :: a1 :: a2 :: a3 :: a4 :: a5 :: a6 :: a7 :: a8 :: a9 :: a10 :: a11 :: some (.int x) :: t) st u n1 s1 P) : xv_X sc d J pc (a0 :: a1 :: a2 :: a3 :: a4 :: a5 :: a6 :: a7 :: a8 :: a9 :: a10 :: a11 :: a12 :: t) (.int x :: st) u n1 s1 P := xv_istoreG hdg hn h2 k
theorem xv_astore_12 {sc : Nat × (Nat → Int32)} {d : Nat} {J : xv_J} {pc : Nat} {a0 a1 a2 a3 a4 a5 a6 a7 a8 a9 a10 a11 a12 : Option Value} {t : List (Option Value)} {st : List Value} {u : xv_M} {n1 s1 : Nat} {P : xv_P} {x : Nat} (hdg : decode J.2.1 pc = .ok (.astore 12, 2)) (hn : 12 < J.2.2.1) (h2 : xv_c2 [a0, a1, a2, a3, a4, a5, a6, a7, a8, a9, a10, a11] 12 = true) (k : xv_X sc d J (pc + 2) (a0 :: a1 :: a2 :: a3 :: a4 :: a5 :: a6 :: a7 :: a8 :: a9 :: a10 :: a11 :: some (.ref x) :: t) st u n1 s1 P) : xv_X sc d J pc (a0 :: a1 :: a2 :: a3 :: a4 :: a5 :: a6 :: a7 :: a8 :: a9 :: a10 :: a11 :: a12 :: t) (.ref x :: st) u n1 s1 P := xv_astoreG hdg hn h2 k
theorem xv_iinc_12 {sc : Nat × (Nat → Int32)} {d : Nat} {J : xv_J} {pc : Nat} {a0 a1 a2 a3 a4 a5 a6 a7 a8 a9 a10 a11 : Option Value} {t : List (Option Value)} {st : List Value} {u : xv_M} {n1 s1 : Nat} {P : xv_P} {n : Int} {x : Int32} (v : Int32) (hdg : decode J.2.1 pc = .ok (.iinc 12 n, 3)) (hv : x + Int32.ofInt n = v) (hn : 12 < J.2.2.1) (h2 : xv_c2 [a0, a1, a2, a3, a4, a5, a6, a7, a8, a9, a10, a11] 12 = true) (k : xv_X sc d J (pc + 3) (a0 :: a1 :: a2 :: a3 :: a4 :: a5 :: a6 :: a7 :: a8 :: a9 :: a10 :: a11 :: some (.int v) :: t) st u n1 s1 P) : xv_X sc d J pc (a0 :: a1 :: a2 :: a3 :: a4 :: a5 :: a6 :: a7 :: a8 :: a9 :: a10 :: a11 :: some (.int x) :: t) st u n1 s1 P := xv_iincG v hdg rfl hv hn h2 k
theorem xv_istore_13 {sc : Nat × (Nat → Int32)} {d : Nat} {J : xv_J} {pc : Nat} {a0 a1 a2 a3 a4 a5 a6 a7 a8 a9 a10 a11 a12 a13 : Option Value} {t : List (Option Value)} {st : List Value} {u : xv_M} {n1 s1 : Nat} {P : xv_P} {x : Int32} (hdg : decode J.2.1 pc = .ok (.istore 13, 2)) (hn : 13 < J.2.2.1) (h2 : xv_c2 [a0, a1, a2, a3, a4, a5, a6, a7, a8, a9, a10, a11, a12] 13 = true) (k : xv_X sc d J (pc + 2) (a0 :: a1 :: a2 :: a3 :: a4 :: a5 :: a6 :: a7 :: a8 :: a9 :: a10 :: a11 :: a12 :: some (.int x) :: t) st u n1 s1 P) : xv_X sc d J pc (a0 :: a1 :: a2 :: a3 :: a4 :: a5 :: a6 :: a7 :: a8 :: a9 :: a10 :: a11 :: a12 :: a13 :: t) (.int x :: st) u n1 s1 P := xv_istoreG hdg hn h2 k
theorem xv_astore_13 {sc : Nat × (Nat → Int32)} {d : Nat} {J : xv_J} {pc : Nat} {a0 a1 a2 a3 a4 a5 a6 a7 a8 a9 a10 a11 a12 a13 : Option Value} {t : List (Option Value)} {st : List Value} {u : xv_M} {n1 s1 : Nat} {P : xv_P} {x : Nat} (hdg : decode J.2.1 pc = .ok (.astore 13, 2)) (hn : 13 < J.2.2.1) (h2 : xv_c2 [a0, a1, a2, a3, a4, a5, a6, a7, a8, a9, a10, a11, a12] 13 = true) (k : xv_X sc d J (pc + 2) (a0 :: a1 :: a2 :: a3 :: a4 :: a5 :: a6 :: a7 :: a8 :: a9 :: a10 :: a11 :: a12 :: some (.ref x) :: t) st u n1 s1 P) : xv_X sc d J pc (a0 :: a1 :: a2 :: a3 :: a4 :: a5 :: a6 :: a7 :: a8 :: a9 :: a10 :: a11 :: a12 :: a13 :: t) (.ref x :: st) u n1 s1 P := xv_astoreG hdg hn h2 k
theorem xv_iinc_13 {sc : Nat × (Nat → Int32)} {d : Nat} {J : xv_J} {pc : Nat} {a0 a1 a2 a3 a4 a5 a6 a7 a8 a9 a10 a11 a12 : Option Value} {t : List (Option Value)} {st : List Value} {u : xv_M} {n1 s1 : Nat} {P : xv_P} {n : Int} {x : Int32} (v : Int32) (hdg : decode J.2.1 pc = .ok (.iinc 13 n, 3)) (hv : x + Int32.ofInt n = v) (hn : 13 < J.2.2.1) (h2 : xv_c2 [a0, a1, a2, a3, a4, a5, a6, a7, a8, a9, a10, a11, a12] 13 = true) (k : xv_X sc d J (pc + 3) (a0 :: a1 :: a2 :: a3 :: a4 :: a5 :: a6 :: a7 :: a8 :: a9 :: a10 :: a11 :: a12 :: some (.int v) :: t) st u n1 s1 P) : xv_X sc d J pc (a0 :: a1 :: a2 :: a3 :: a4 :: a5 :: a6 :: a7 :: a8 :: a9 :: a10 :: a11 :: a12 :: some (.int x) :: t) st u n1 s1 P := xv_iincG v hdg rfl hv hn h2 k
theorem xv_istore_14 {sc : Nat × (Nat → Int32)} {d : Nat} {J : xv_J} {pc : Nat} {a0 a1 a2 a3 a4 a5 a6 a7 a8 a9 a10 a11 a12 a13 a14 : Option Value} {t : List (Option Value)} {st : List Value} {u : xv_M} {n1 s1 : Nat} {P : xv_P} {x : Int32} (hdg : decode J.2.1 pc = .ok (.istore 14, 2)) (hn : 14 < J.2.2.1) (h2 : xv_c2 [a0, a1, a2, a3, a4, a5, a6, a7, a8, a9, a10, a11, a12, a13] 14 = true) (k : xv_X sc d J (pc + 2) (a0 :: a1 :: a2 :: a3 :: a4 :: a5 :: a6 :: a7 :: a8 :: a9 :: a10 :: a11 :: a12 :: a13 :: some (.int x) :: t) st u n1 s1 P) : xv_X sc d J pc (a0 :: a1 :: a2 :: a3 :: a4 :: a5 :: a6 :: a7 :: a8 :: a9 :: a10 :: a11 :: a12 :: a13 :: a14 :: t) (.int x :: st) u n1 s1 P := xv_istoreG hdg hn h2 k
theorem xv_astore_14 {sc : Nat × (Nat → Int32)} {d : Nat} {J : xv_J} {pc : Nat} {a0 a1 a2 a3 a4 a5 a6 a7 a8 a9 a10 a11 a12 a13 a14 : Option Value} {t : List (Option Value)} {st : List Value} {u : xv_M} {n1 s1 : Nat} {P : xv_P} {x : Nat} (hdg : decode J.2.1 pc = .ok (.astore 14, 2)) (hn : 14 < J.2.2.1) (h2 : xv_c2 [a0, a1, a2, a3, a4, a5, a6, a7, a8, a9, a10, a11, a12, a13] 14 = true) (k : xv_X sc d J (pc + 2) (a0 :: a1 :: a2 :: a3 :: a4 :: a5 :: a6 :: a7 :: a8 :: a9 :: a10 :: a11 :: a12 :: a13 :: some (.ref x) :: t) st u n1 s1 P) : xv_X sc d J pc (a0 :: a1 :: a2 :: a3 :: a4 :: a5 :: a6 :: a7 :: a8 :: a9 :: a10 :: a11 :: a12 :: a13 :: a14 :: t) (.ref x :: st) u n1 s1 P := xv_astoreG hdg hn h2 k
theorem xv_iinc_14 {sc : Nat × (Nat → Int32)} {d : Nat} {J : xv_J} {pc : Nat} {a0 a1 a2 a3 a4 a5 a6 a7 a8 a9 a10 a11 a12 a13 : Option Value} {t : List (Option Value)} {st : List Value} {u : xv_M} {n1 s1 : Nat} {P : xv_P} {n : Int} {x : Int32} (v : Int32) (hdg : decode J.2.1 pc = .ok (.iinc 14 n, 3)) (hv : x + Int32.ofInt n = v) (hn : 14 < J.2.2.1) (h2 : xv_c2 [a0, a1, a2, a3, a4, a5, a6, a7, a8, a9, a10, a11, a12, a13] 14 = true) (k : xv_X sc d J (pc + 3) (a0 :: a1 :: a2 :: a3 :: a4 :: a5 :: a6 :: a7 :: a8 :: a9 :: a10 :: a11 :: a12 :: a13 :: some (.int v) :: t) st u n1 s1 P) : xv_X sc d J pc (a0 :: a1 :: a2 :: a3 :: a4 :: a5 :: a6 :: a7 :: a8 :: a9 :: a10 :: a11 :: a12 :: a13 :: some (.int x) :: t) st u n1 s1 P := xv_iincG v hdg rfl hv hn h2 k
theorem xv_istore_15 {sc : Nat × (Nat → Int32)} {d : Nat} {J : xv_J} {pc : Nat} {a0 a1 a2 a3 a4 a5 a6 a7 a8 a9 a10 a11 a12 a13 a14 a15 : Option Value} {t : List (Option Value)} {st : List Value} {u : xv_M} {n1 s1 : Nat} {P : xv_P} {x : Int32} (hdg : decode J.2.1 pc = .ok (.istore 15, 2)) (hn : 15 < J.2.2.1) (h2 : xv_c2 [a0, a1, a2, a3, a4, a5, a6, a7, a8, a9, a10, a11, a12, a13, a14] 15 = true) (k : xv_X sc d J (pc + 2) (a0 :: a1 :: a2 :: a3 :: a4 :: a5 :: a6 :: a7 :: a8 :: a9 :: a10 :: a11 :: a12 :: a13 :: a14 :: some (.int x) :: t) st u n1 s1 P) : xv_X sc d J pc (a0 :: a1 :: a2 :: a3 :: a4 :: a5 :: a6 :: a7 :: a8 :: a9 :: a10 :: a11 :: a12 :: a13 :: a14 :: a15 :: t) (.int x :: st) u n1 s1 P := xv_istoreG hdg hn h2 k
theorem xv_astore_15 {sc : Nat × (Nat → Int32)} {d : Nat} {J : xv_J} {pc : Nat} {a0 a1 a2 a3 a4 a5 a6 a7 a8 a9 a10 a11 a12 a13 a14 a15 : Option Value} {t : List (Option Value)} {st : List Value} {u : xv_M} {n1 s1 : Nat} {P : xv_P} {x : Nat} (hdg : decode J.2.1 pc = .ok (.astore 15, 2)) (hn : 15 < J.2.2.1) (h2 : xv_c2 [a0, a1, a2, a3, a4, a5, a6, a7, a8, a9, a10, a11, a12, a13, a14] 15 = true) (k : xv_X sc d J (pc + 2) (a0 :: a1 :: a2 :: a3 :: a4 :: a5 :: a6 :: a7 :: a8 :: a9 :: a10 :: a11 :: a12 :: a13 :: a14 :: some (.ref x) :: t) st u n1 s1 P) : xv_X sc d J pc (a0 :: a1 :: a2 :: a3 :: a4 :: a5 :: a6 :: a7 :: a8 :: a9 :: a10 :: a11 :: a12 :: a13 :: a14 :: a15 :: t) (.ref x :: st) u n1 s1 P := xv_astoreG hdg hn h2 k
theorem xv_iinc_15 {sc : Nat × (Nat → Int32)} {d : Nat} {J : xv_J} {pc : Nat} {a0 a1 a2 a3 a4 a5 a6 a7 a8 a9 a10 a11 a12 a13 a14 : Option Value} {t : List (Option Value)} {st : List Value} {u : xv_M} {n1 s1 : Nat} {P : xv_P} {n : Int} {x : Int32} (v : Int32) (hdg : decode J.2.1 pc = .ok (.iinc 15 n, 3)) (hv : x + Int32.ofInt n = v) (hn : 15 < J.2.2.1) (h2 : xv_c2 [a0, a1, a2, a3, a4, a5, a6, a7, a8, a9, a10, a11, a12, a13, a14] 15 = true) (k : xv_X sc d J (pc + 3) (a0 :: a1 :: a2 :: a3 :: a4 :: a5 :: a6 :: a7 :: a8 :: a9 :: a10 :: a11 :: a12 :: a13 :: a14 :: some (.int v) :: t) st u n1 s1 P) : xv_X sc d J pc (a0 :: a1 :: a2 :: a3 :: a4 :: a5 :: a6 :: a7 :: a8 :: a9 :: a10 :: a11 :: a12 :: a13 :: a14 :: some (.int x) :: t) st u n1 s1 P := xv_iincG v hdg rfl hv hn h2 k
end
section
/-! fields, arrays, new cells -/
theorem xv_cl_at {ci : Nat} (h : ci < xv_nc) : xv_cl[ci]? = some (xv_nm ci, xv_T ci, xv_nf ci) := by
  have hl : ci < xv_cl.length := h
  unfold xv_nm xv_T xv_nf
  rw [List.getD_eq_getElem?_getD, List.getElem?_eq_getElem hl]
  rfl
section HEAP
variable {sc : Nat × (Nat → Int32)} {d : Nat} {J : xv_J} {pc : Nat} {lv : List (Option Value)} {st : List Value} {u : xv_M} {n1 s1 : Nat} {P : xv_P}
theorem xv_he {G : xv_G} {u : xv_M} {a ci : Nat} (wf : xv_wf u) (hc : ci < xv_nc) (hk : xv_k u a = ci + 1) : (xv_ws G u)[a]? = some (xv_B G + a, .inr (ci, xv_fs G u a ci)) := by
  rw [xv_ws_get (wf a (by omega)), xv_E_obj hk (Nat.lt_of_lt_of_le hc xv_nc_le)]
theorem xv_getI {a ci j index : Nat} {ty : FieldType} (hdg : decode J.2.1 pc = .ok (.getfield index, 3)) (hF : xv_Fd J.1.cls index ci j ty) (hr : ty.isReference = false) (hk : xv_k u a = ci + 1) (k : xv_X sc d J (pc + 3) lv (.int (xv_i u a j) :: st) u n1 s1 P) : xv_X sc d J pc lv (.ref a :: st) u n1 s1 P := by
  intro p l e R s m args below meth c G N0 S0 Q H locs ls A0 lo hP wf hS hN hZ
  obtain ⟨hc, hj, hty, hl⟩ := hF
  refine va_get (D := xv_dG G) (ci := ci) (C := xv_nm ci) (T := xv_T ci) (N := xv_nf ci) (v := .int (xv_i u a j)) A0.1 A0.2.1 A0.2.2.2.2.2.1 (xv_cls ci hc).1 A0.2.2.2.2.1 A0.2.2.2.2.2.2.2.2.1.1 hP a (xv_he wf hc hk) (xv_cl_at hc) j hj (A0.2.2.2.2.2.1 _ hl) (fun _ h => h) ?_ hdg (k p l e R s m args below meth c G N0 S0 Q H locs ls A0 lo hP wf hS hN hZ)
  rw [xv_fs_get hj]
  unfold xv_fv xv_rf
  rw [hty, if_neg (by rw [hr]; decide)]
theorem xv_getR {a b ci j index : Nat} {ty : FieldType} (hdg : decode J.2.1 pc = .ok (.getfield index, 3)) (hF : xv_Fd J.1.cls index ci j ty) (hr : ty.isReference = true) (hk : xv_k u a = ci + 1) (hb : xv_r u a j = some b) (k : xv_X sc d J (pc + 3) lv (.ref b :: st) u n1 s1 P) : xv_X sc d J pc lv (.ref a :: st) u n1 s1 P := by
  intro p l e R s m args below meth c G N0 S0 Q H locs ls A0 lo hP wf hS hN hZ
  obtain ⟨hc, hj, hty, hl⟩ := hF
  refine va_get (D := xv_dG G) (ci := ci) (C := xv_nm ci) (T := xv_T ci) (N := xv_nf ci) (v := .ref (xv_B G + b)) A0.1 A0.2.1 A0.2.2.2.2.2.1 (xv_cls ci hc).1 A0.2.2.2.2.1 A0.2.2.2.2.2.2.2.2.1.1 hP a (xv_he wf hc hk) (xv_cl_at hc) j hj (A0.2.2.2.2.2.1 _ hl) (fun _ h => h) ?_ hdg (k p l e R s m args below meth c G N0 S0 Q H locs ls A0 lo hP wf hS hN hZ)
  rw [xv_fs_get hj]
  unfold xv_fv xv_rf
  rw [hty, if_pos hr, hb]
  rfl
def xv_okI (ty : FieldType) (x : Int32) : Prop := ty = .int ∨ (ty = .boolean ∧ (x = 0 ∨ x = 1))
theorem xv_okI_nar {ty : FieldType} {x : Int32} (h : xv_okI ty x) : narrow ty (.int x) = .int x ∧ fits ty (.int x) = true ∧ ty.isReference = false := by
  rcases h with rfl | ⟨rfl, rfl | rfl⟩
  · exact ⟨rfl, rfl, rfl⟩
  · exact ⟨rfl, rfl, rfl⟩
  · exact ⟨rfl, rfl, rfl⟩
theorem xv_ws_si {G : xv_G} {a ci j : Nat} {x : Int32} (hc : ci < xv_nc) (hk : xv_k u a = ci + 1) (hr : xv_rf ci j = false) : (xv_ws G u).set a (xv_B G + a, .inr (ci, (xv_fs G u a ci).set j (.int x))) = xv_ws G (xv_si u a j x) := by
  refine xv_ws_set rfl ?_ (fun b hb => xv_si_E hb)
  rw [xv_E_obj (u := xv_si u a j x) hk (Nat.lt_of_lt_of_le hc xv_nc_le)]
  congr 2
  refine (xv_fs_set ?_ (fun q hq => ?_)).symm
  · unfold xv_fv
    rw [if_neg (by rw [hr]; decide)]
    simp [xv_i, xv_si, xv_mk]
  · unfold xv_fv
    have e : xv_i (xv_si u a j x) a q = xv_i u a q := if_neg (fun z => hq z.2)
    rw [e]
    rfl
theorem xv_ws_sr {G : xv_G} {a ci j : Nat} {x : Option Nat} (hc : ci < xv_nc) (hk : xv_k u a = ci + 1) (hr : xv_rf ci j = true) : (xv_ws G u).set a (xv_B G + a, .inr (ci, (xv_fs G u a ci).set j (va_rf (xv_rq G x)))) = xv_ws G (xv_sr u a j x) := by
  refine xv_ws_set rfl ?_ (fun b hb => xv_sr_E hb)
  rw [xv_E_obj (u := xv_sr u a j x) hk (Nat.lt_of_lt_of_le hc xv_nc_le)]
  congr 2
  refine (xv_fs_set ?_ (fun q hq => ?_)).symm
  · unfold xv_fv
    rw [if_pos hr]
    simp [xv_r, xv_sr, xv_mk]
  · unfold xv_fv
    have e : xv_r (xv_sr u a j x) a q = xv_r u a q := if_neg (fun z => hq z.2)
    rw [e]
    rfl
theorem xv_putI {a ci j index : Nat} {ty : FieldType} {x : Int32} (hdg : decode J.2.1 pc = .ok (.putfield index, 3)) (hF : xv_Fd J.1.cls index ci j ty) (hx : xv_okI ty x) (hfin : (xv_T ci j).2.2.2 = false) (hk : xv_k u a = ci + 1) (k : xv_X sc d J (pc + 3) lv st (xv_si u a j x) n1 s1 P) : xv_X sc d J pc lv (.int x :: .ref a :: st) u n1 s1 P := by
  intro p l e R s m args below meth c G N0 S0 Q H locs ls A0 lo hP wf hS hN hZ
  obtain ⟨hc, hj, hty, hl⟩ := hF
  obtain ⟨g1, g2, g3⟩ := xv_okI_nar hx
  refine va_put (D := xv_dG G) (ci := ci) (C := xv_nm ci) (T := xv_T ci) (N := xv_nf ci) (v := .int x) (ty := ty) A0.1 A0.2.1 A0.2.2.2.2.2.1 (xv_cls ci hc).1 (xv_ty ci) (xv_cls ci hc).2.1 (xv_cls ci hc).2.2 A0.2.2.2.2.1 A0.2.2.2.2.2.2.2.2.1.1 hP (xv_D G u) hS a (xv_he wf hc hk) (xv_cl_at hc) j hj (A0.2.2.2.2.2.1 _ hl) (fun _ h => h) hfin (by rw [(xv_cls ci hc).2.1 j hj, hty]) g1 g2 (by rw [xv_fs_len]; exact hj) hdg (fun H1 locs1 hP1 _ hS1 => ?_)
  rw [xv_ws_si hc hk (by unfold xv_rf; rw [hty]; exact g3)] at hP1
  exact k p l e R s m args below meth c G N0 S0 Q H1 locs1 ls A0 lo hP1 (xv_wf_si wf) hS1 hN hZ
theorem xv_putIF {a ci j index : Nat} {ty : FieldType} {x : Int32} (hdg : decode J.2.1 pc = .ok (.putfield index, 3)) (hF : xv_Fd J.1.cls index ci j ty) (hx : xv_okI ty x) (hfin : (xv_T ci j).2.2.2 = true) (hin : J.1.name = "<init>") (hde : (xv_T ci j).1 = J.1.cls) (hk : xv_k u a = ci + 1) (k : xv_X sc d J (pc + 3) lv st (xv_si u a j x) n1 s1 P) : xv_X sc d J pc lv (.int x :: .ref a :: st) u n1 s1 P := by
  intro p l e R s m args below meth c G N0 S0 Q H locs ls A0 lo hP wf hS hN hZ
  obtain ⟨hc, hj, hty, hl⟩ := hF
  obtain ⟨g1, g2, g3⟩ := xv_okI_nar hx
  refine va_putF (D := xv_dG G) (ci := ci) (C := xv_nm ci) (T := xv_T ci) (N := xv_nf ci) (v := .int x) (ty := ty) A0.1 A0.2.1 A0.2.2.2.2.2.1 (xv_cls ci hc).1 (xv_ty ci) (xv_cls ci hc).2.1 (xv_cls ci hc).2.2 A0.2.2.2.2.1 A0.2.2.2.2.2.2.2.2.1.1 hP (xv_D G u) hS a (xv_he wf hc hk) (xv_cl_at hc) j hj (A0.2.2.2.2.2.1 _ hl) (fun _ h => h) hfin (A0.2.2.2.2.2.2.2.1.trans hin) hde (by rw [(xv_cls ci hc).2.1 j hj, hty]) g1 g2 (by rw [xv_fs_len]; exact hj) hdg (fun H1 locs1 hP1 _ hS1 => ?_)
  rw [xv_ws_si hc hk (by unfold xv_rf; rw [hty]; exact g3)] at hP1
  exact k p l e R s m args below meth c G N0 S0 Q H1 locs1 ls A0 lo hP1 (xv_wf_si wf) hS1 hN hZ
theorem xv_isRef {ty : FieldType} {b : Nat} (h : ty.isReference = true) : narrow ty (.ref b) = .ref b ∧ fits ty (.ref b) = true := by
  cases ty <;> first | exact ⟨rfl, rfl⟩ | cases h
theorem xv_putR {a b ci j index : Nat} {ty : FieldType} (hdg : decode J.2.1 pc = .ok (.putfield index, 3)) (hF : xv_Fd J.1.cls index ci j ty) (hr : ty.isReference = true) (hfin : (xv_T ci j).2.2.2 = false) (hk : xv_k u a = ci + 1) (k : xv_X sc d J (pc + 3) lv st (xv_sr u a j (some b)) n1 s1 P) : xv_X sc d J pc lv (.ref b :: .ref a :: st) u n1 s1 P := by
  intro p l e R s m args below meth c G N0 S0 Q H locs ls A0 lo hP wf hS hN hZ
  obtain ⟨hc, hj, hty, hl⟩ := hF
  obtain ⟨g1, g2⟩ := xv_isRef (b := xv_B G + b) hr
  refine va_put (D := xv_dG G) (ci := ci) (C := xv_nm ci) (T := xv_T ci) (N := xv_nf ci) (v := .ref (xv_B G + b)) (ty := ty) A0.1 A0.2.1 A0.2.2.2.2.2.1 (xv_cls ci hc).1 (xv_ty ci) (xv_cls ci hc).2.1 (xv_cls ci hc).2.2 A0.2.2.2.2.1 A0.2.2.2.2.2.2.2.2.1.1 hP (xv_D G u) hS a (xv_he wf hc hk) (xv_cl_at hc) j hj (A0.2.2.2.2.2.1 _ hl) (fun _ h => h) hfin (by rw [(xv_cls ci hc).2.1 j hj, hty]) g1 g2 (by rw [xv_fs_len]; exact hj) hdg (fun H1 locs1 hP1 _ hS1 => ?_)
  have ee := xv_ws_sr (G := G) (x := some b) (j := j) hc hk (by unfold xv_rf; rw [hty]; exact hr)
  rw [show va_rf (xv_rq G (some b)) = Value.ref (xv_B G + b) from rfl] at ee
  rw [ee] at hP1
  exact k p l e R s m args below meth c G N0 S0 Q H1 locs1 ls A0 lo hP1 (xv_wf_sr wf) hS1 hN hZ
theorem xv_putRF {a b ci j index : Nat} {ty : FieldType} (hdg : decode J.2.1 pc = .ok (.putfield index, 3)) (hF : xv_Fd J.1.cls index ci j ty) (hr : ty.isReference = true) (hfin : (xv_T ci j).2.2.2 = true) (hin : J.1.name = "<init>") (hde : (xv_T ci j).1 = J.1.cls) (hk : xv_k u a = ci + 1) (k : xv_X sc d J (pc + 3) lv st (xv_sr u a j (some b)) n1 s1 P) : xv_X sc d J pc lv (.ref b :: .ref a :: st) u n1 s1 P := by
  intro p l e R s m args below meth c G N0 S0 Q H locs ls A0 lo hP wf hS hN hZ
  obtain ⟨hc, hj, hty, hl⟩ := hF
  obtain ⟨g1, g2⟩ := xv_isRef (b := xv_B G + b) hr
  refine va_putF (D := xv_dG G) (ci := ci) (C := xv_nm ci) (T := xv_T ci) (N := xv_nf ci) (v := .ref (xv_B G + b)) (ty := ty) A0.1 A0.2.1 A0.2.2.2.2.2.1 (xv_cls ci hc).1 (xv_ty ci) (xv_cls ci hc).2.1 (xv_cls ci hc).2.2 A0.2.2.2.2.1 A0.2.2.2.2.2.2.2.2.1.1 hP (xv_D G u) hS a (xv_he wf hc hk) (xv_cl_at hc) j hj (A0.2.2.2.2.2.1 _ hl) (fun _ h => h) hfin (A0.2.2.2.2.2.2.2.1.trans hin) hde (by rw [(xv_cls ci hc).2.1 j hj, hty]) g1 g2 (by rw [xv_fs_len]; exact hj) hdg (fun H1 locs1 hP1 _ hS1 => ?_)
  have ee := xv_ws_sr (G := G) (x := some b) (j := j) hc hk (by unfold xv_rf; rw [hty]; exact hr)
  rw [show va_rf (xv_rq G (some b)) = Value.ref (xv_B G + b) from rfl] at ee
  rw [ee] at hP1
  exact k p l e R s m args below meth c G N0 S0 Q H1 locs1 ls A0 lo hP1 (xv_wf_sr wf) hS1 hN hZ
/-! arrays -/
theorem xv_hi {G : xv_G} {u : xv_M} {a t : Nat} (wf : xv_wf u) (ht : t < 2) (hk : xv_k u a = 100 + t) : (xv_ws G u)[a]? = some (xv_B G + a, .inl (xv_cA G t, xv_l u a, .inl (xv_i u a))) := by
  rw [xv_ws_get (wf a (by omega)), xv_E_int hk ht]
theorem xv_ald {a : Nat} {x : Int32} (hdg : decode J.2.1 pc = .ok (.iaload, 1)) (hk : xv_k u a = 100) (hin : vp_in x (xv_l u a)) (k : xv_X sc d J (pc + 1) lv (.int (xv_i u a x.toNatClampNeg) :: st) u n1 s1 P) : xv_X sc d J pc lv (.int x :: .ref a :: st) u n1 s1 P := by
  intro p l e R s m args below meth c G N0 S0 Q H locs ls A0 lo hP wf hS hN hZ
  exact va_iald A0.1 A0.2.1 A0.2.2.2.2.2.2.2.2.1.1 hP a 0 (xv_hi (t := 0) wf (by omega) hk) rfl hin hdg (k p l e R s m args below meth c G N0 S0 Q H locs ls A0 lo hP wf hS hN hZ)
theorem xv_zald {a : Nat} {x : Int32} (hdg : decode J.2.1 pc = .ok (.baload, 1)) (hk : xv_k u a = 101) (hin : vp_in x (xv_l u a)) (k : xv_X sc d J (pc + 1) lv (.int (xv_i u a x.toNatClampNeg) :: st) u n1 s1 P) : xv_X sc d J pc lv (.int x :: .ref a :: st) u n1 s1 P := by
  intro p l e R s m args below meth c G N0 S0 Q H locs ls A0 lo hP wf hS hN hZ
  exact va_zald A0.1 A0.2.1 A0.2.2.2.2.2.2.2.2.1.1 hP a 1 (xv_hi (t := 1) wf (by omega) hk) rfl hin hdg (k p l e R s m args below meth c G N0 S0 Q H locs ls A0 lo hP wf hS hN hZ)
theorem xv_ws_ai {G : xv_G} {a t j : Nat} {x : Int32} (ht : t < 2) (hk : xv_k u a = 100 + t) : (xv_ws G u).set a (xv_B G + a, .inl (xv_cA G t, xv_l u a, .inl (upd (xv_i u a) j x))) = xv_ws G (xv_si u a j x) := by
  refine xv_ws_set rfl ?_ (fun b hb => xv_si_E hb)
  rw [xv_E_int (u := xv_si u a j x) hk ht]
  have ef : xv_i (xv_si u a j x) a = upd (xv_i u a) j x := by
    funext q
    by_cases hq : q = j
    · subst hq
      simp [xv_i, xv_si, xv_mk, upd]
    · have e : xv_i (xv_si u a j x) a q = xv_i u a q := if_neg (fun z => hq z.2)
      rw [e]
      simp [upd, hq]
  rw [ef]
  rfl
theorem xv_ast {a : Nat} {x y : Int32} (hdg : decode J.2.1 pc = .ok (.iastore, 1)) (hk : xv_k u a = 100) (hin : vp_in x (xv_l u a)) (k : xv_X sc d J (pc + 1) lv st (xv_si u a x.toNatClampNeg y) n1 s1 P) : xv_X sc d J pc lv (.int y :: .int x :: .ref a :: st) u n1 s1 P := by
  intro p l e R s m args below meth c G N0 S0 Q H locs ls A0 lo hP wf hS hN hZ
  refine va_iast A0.1 A0.2.1 A0.2.2.2.2.2.2.2.2.1.1 hP (xv_D G u) hS a 0 (xv_hi (t := 0) wf (by omega) hk) rfl hin hdg (fun H1 locs1 hP1 _ hS1 => ?_)
  rw [xv_ws_ai (t := 0) (by omega) hk] at hP1
  exact k p l e R s m args below meth c G N0 S0 Q H1 locs1 ls A0 lo hP1 (xv_wf_si wf) hS1 hN hZ
theorem xv_zast {a : Nat} {x y : Int32} (hdg : decode J.2.1 pc = .ok (.bastore, 1)) (hk : xv_k u a = 101) (hin : vp_in x (xv_l u a)) (hy : vp_nar .boolean y = y) (k : xv_X sc d J (pc + 1) lv st (xv_si u a x.toNatClampNeg y) n1 s1 P) : xv_X sc d J pc lv (.int y :: .int x :: .ref a :: st) u n1 s1 P := by
  intro p l e R s m args below meth c G N0 S0 Q H locs ls A0 lo hP wf hS hN hZ
  refine va_zast A0.1 A0.2.1 A0.2.2.2.2.2.2.2.2.1.1 hP (xv_D G u) hS a 1 (xv_hi (t := 1) wf (by omega) hk) rfl hin hdg (fun H1 locs1 hP1 _ hS1 => ?_)
  rw [hy, xv_ws_ai (t := 1) (by omega) hk] at hP1
  exact k p l e R s m args below meth c G N0 S0 Q H1 locs1 ls A0 lo hP1 (xv_wf_si wf) hS1 hN hZ
theorem xv_hr {G : xv_G} {u : xv_M} {a t : Nat} (wf : xv_wf u) (hk : xv_k u a = 103 + t) : (xv_ws G u)[a]? = some (xv_B G + a, .inl (xv_cA G (3 + t), xv_l u a, .inr (.inr (.inr (.inr (fun j => xv_rq G (xv_r u a j))))))) := by
  rw [xv_ws_get (wf a (by omega)), xv_E_ref hk]
theorem xv_aald {a b t : Nat} {C : String} {x : Int32} (hdg : decode J.2.1 pc = .ok (.aaload, 1)) (hk : xv_k u a = 103 + t) (ht : xv_ra[t]? = some C) (hin : vp_in x (xv_l u a)) (hb : xv_r u a x.toNatClampNeg = some b) (k : xv_X sc d J (pc + 1) lv (.ref b :: st) u n1 s1 P) : xv_X sc d J pc lv (.int x :: .ref a :: st) u n1 s1 P := by
  intro p l e R s m args below meth c G N0 S0 Q H locs ls A0 lo hP wf hS hN hZ
  refine va_aldq A0.1 A0.2.1 A0.2.2.2.2.2.2.2.2.1.1 hP a (3 + t) (C := C) (xv_hr wf hk) (xv_tys_at ht) hin hdg ?_
  rw [hb]
  exact k p l e R s m args below meth c G N0 S0 Q H locs ls A0 lo hP wf hS hN hZ
theorem xv_aast {a b t ci : Nat} {x : Int32} (hdg : decode J.2.1 pc = .ok (.aastore, 1)) (hk : xv_k u a = 103 + t) (hc : ci < xv_nc) (ht : xv_ra[t]? = some (xv_nm ci)) (hin : vp_in x (xv_l u a)) (hb : xv_k u b = ci + 1) (k : xv_X sc d J (pc + 1) lv st (xv_sr u a x.toNatClampNeg (some b)) n1 s1 P) : xv_X sc d J pc lv (.ref b :: .int x :: .ref a :: st) u n1 s1 P := by
  intro p l e R s m args below meth c G N0 S0 Q H locs ls A0 lo hP wf hS hN hZ
  refine va_astq A0.1 A0.2.1 A0.2.2.2.2.2.2.2.2.1.1 hP (xv_D G u) hS a (3 + t) b ci (r := (xv_nm ci, xv_T ci, xv_nf ci)) (xv_hr wf hk) (xv_tys_at ht) (xv_he wf hc hb) (xv_cl_at hc) hin hdg (fun H1 locs1 hP1 _ hS1 => ?_)
  have e1 : (xv_ws G u).set a (xv_B G + a, .inl (xv_cA G (3 + t), xv_l u a, .inr (.inr (.inr (.inr (va_up (fun j => xv_rq G (xv_r u a j)) x.toNatClampNeg (some (xv_B G + b)))))))) = xv_ws G (xv_sr u a x.toNatClampNeg (some b)) := by
    refine xv_ws_set rfl ?_ (fun q hq => xv_sr_E hq)
    rw [xv_E_ref (u := xv_sr u a x.toNatClampNeg (some b)) hk]
    have ef : (fun j => xv_rq G (xv_r (xv_sr u a x.toNatClampNeg (some b)) a j)) = va_up (fun j => xv_rq G (xv_r u a j)) x.toNatClampNeg (some (xv_B G + b)) := by
      funext q
      by_cases hq : q = x.toNatClampNeg
      · subst hq
        simp [xv_r, xv_sr, xv_mk, va_up, xv_rq]
      · have e : xv_r (xv_sr u a x.toNatClampNeg (some b)) a q = xv_r u a q := if_neg (fun z => hq z.2)
        rw [e]
        simp [va_up, hq]
    rw [ef]
    rfl
  rw [e1] at hP1
  exact k p l e R s m args below meth c G N0 S0 Q H1 locs1 ls A0 lo hP1 (xv_wf_sr wf) hS1 hN hZ
theorem xv_alen {a t : Nat} {v : Int32} {ty : FieldType} (hdg : decode J.2.1 pc = .ok (.arraylength, 1)) (hk : xv_k u a = 100 + t) (ht : ∀ G : xv_G, (xv_tys G)[t]? = some (xv_cA G t, ty)) (hv : Int32.ofNat (xv_l u a) = v) (k : xv_X sc d J (pc + 1) lv (.int v :: st) u n1 s1 P) : xv_X sc d J pc lv (.ref a :: st) u n1 s1 P := by
  intro p l e R s m args below meth c G N0 S0 Q H locs ls A0 lo hP wf hS hN hZ
  exact va_alen A0.1 A0.2.1 A0.2.2.2.2.2.2.2.2.1.1 hP a t (by rw [xv_ws_get (wf a (by omega)), xv_E_arr hk]) (ht G) hv hdg (k p l e R s m args below meth c G N0 S0 Q H locs ls A0 lo hP wf hS hN hZ)
/-! static tables, the script -/
theorem xv_gets {q index : Nat} (hdg : decode J.2.1 pc = .ok (.getstatic index, 3)) (hq : q < xv_ns) (hl : Cond.fieldLink J.1.cls index (xv_sC q) (xv_sn q) "[I" ∈ xv_BIG) (k : xv_X sc d J (pc + 3) lv (.retAddr q :: st) u n1 s1 P) : xv_X sc d J pc lv st u n1 s1 P := by
  intro p l e R s m args below meth c G N0 S0 Q H locs ls A0 lo hP wf hS hN hZ
  exact va_gets A0.1 A0.2.1 (A0.2.2.2.2.2.2.2.2.1.2.2.1 q hq).1 hS A0.2.2.2.2.1 (A0.2.2.2.2.2.1 _ hl) (fun _ h => h) hdg (k p l e R s m args below meth c G N0 S0 Q H locs ls A0 lo hP wf hS hN hZ)
theorem xv_aldS {q : Nat} {x : Int32} (hdg : decode J.2.1 pc = .ok (.iaload, 1)) (hq : q < xv_ns) (hin : vp_in x (xv_sN q)) (k : xv_X sc d J (pc + 1) lv (.int (xv_sf q x.toNatClampNeg) :: st) u n1 s1 P) : xv_X sc d J pc lv (.int x :: .retAddr q :: st) u n1 s1 P := by
  intro p l e R s m args below meth c G N0 S0 Q H locs ls A0 lo hP wf hS hN hZ
  exact va_ti A0.1 A0.2.1 (A0.2.2.2.2.2.2.2.2.1.2.2.1 q hq).2 hS hin rfl hdg (k p l e R s m args below meth c G N0 S0 Q H locs ls A0 lo hP wf hS hN hZ)
theorem xv_sld {x : Int32} (hdg : decode J.2.1 pc = .ok (.iaload, 1)) (hin : vp_in x sc.1) (k : xv_X sc d J (pc + 1) lv (.int (sc.2 x.toNatClampNeg) :: st) u n1 s1 P) : xv_X sc d J pc lv (.int x :: .retAddr 9 :: st) u n1 s1 P := by
  intro p l e R s m args below meth c G N0 S0 Q H locs ls A0 lo hP wf hS hN hZ
  have hsc : G.2.2.2.2 = sc := A0.2.2.2.2.2.2.2.2.2.2.2.1.1
  have hX := A0.2.2.2.2.2.2.2.2.1.2.2.2.1
  subst hsc
  exact va_sld A0.1 A0.2.1 hX.1 hX.2.1 hX.2.2 hS hin hdg (k p l e R s m args below meth c G N0 S0 Q H locs ls A0 lo hP wf hS hN hZ)
theorem xv_slen (hdg : decode J.2.1 pc = .ok (.arraylength, 1)) (k : xv_X sc d J (pc + 1) lv (.int (Int32.ofNat sc.1) :: st) u n1 s1 P) : xv_X sc d J pc lv (.retAddr 9 :: st) u n1 s1 P := by
  intro p l e R s m args below meth c G N0 S0 Q H locs ls A0 lo hP wf hS hN hZ
  have hsc : G.2.2.2.2 = sc := A0.2.2.2.2.2.2.2.2.2.2.2.1.1
  have hX := A0.2.2.2.2.2.2.2.2.1.2.2.2.1
  subst hsc
  exact va_slen A0.1 A0.2.1 hX.1 hX.2.1 hX.2.2 hS hdg (k p l e R s m args below meth c G N0 S0 Q H locs ls A0 lo hP wf hS hN hZ)
end HEAP
end
section
/-! new cells, contracts, calls -/
section NEWC
variable {p : Program} {l : Launch} {e : Env} {R : Room} {s : State} {m : MethodId} {args : Array Value} {below : List Frame} {meth : Method} {c : Code} {H : Heap} {locs : List Loc} {cells slots : Nat} {Q Q' : State → Prop}
theorem xv_Wsz {g : JFrame} (k : H.size ≤ s.heap.size + cells → W p l e R s m args below meth c H locs cells slots Q g) : W p l e R s m args below meth c H locs cells slots Q g :=
  fun T hT X => k (by rw [← hT]; exact X.heapSize) T hT X
theorem xv_Wmono {g : JFrame} (h : ∀ t, Q t → Q' t) (k : W p l e R s m args below meth c H locs cells slots Q g) : W p l e R s m args below meth c H locs cells slots Q' g := by
  intro T hT X
  obtain ⟨t, a, b⟩ := k T hT X
  exact ⟨t, a, h t b⟩
theorem xv_sz {G : xv_G} {u : xv_M} {N0 : Nat} (hs : s.heap.size = xv_B G + N0) (hN : N0 ≤ xv_N u) (hP : va_P (xv_dG G) xv_cl (xv_ws G u) H) (hS : va_S (xv_A G) s.heap H locs) (hle : H.size ≤ s.heap.size + (xv_N u - N0)) : H.size = xv_B G + xv_N u := by
  have h1 : xv_B G + xv_N u ≤ H.size := by
    by_cases h0 : xv_N u = 0
    · have := hS.1
      omega
    · have h2 : xv_N u - 1 < xv_N u := by omega
      have h3 := (hP _ _ (xv_ws_get h2)).lt
      have h3 : xv_B G + (xv_N u - 1) < H.size := h3
      omega
  omega
end NEWC
section NEWR
variable {sc : Nat × (Nat → Int32)} {d : Nat} {J : xv_J} {pc : Nat} {lv : List (Option Value)} {st : List Value} {u : xv_M} {n1 s1 : Nat} {P : xv_P}
theorem xv_pushed {G : xv_G} {H H1 : Heap} {s : State} {locs : List Loc} {u w : xv_M} {e : va_E} (hsz : H.size = xv_B G + xv_N u) (hP : va_P (xv_dG G) xv_cl (xv_ws G u) H) (o1 : ∀ q, q < xv_B G + xv_N u → H1[q]? = H[q]?) (h1 : va_at (xv_dG G) xv_cl (xv_B G + xv_N u, e) H1) (hN : xv_N w = xv_N u + 1) (he : xv_E G w (xv_N u) = e) (ho : ∀ b, b < xv_N u → xv_E G w b = xv_E G u b) : va_P (xv_dG G) xv_cl (xv_ws G w) H1 := by
  rw [← xv_ws_push (G := G) (u := u) (e := e) hN he ho]
  refine (hP.kept (fun k x hx => o1 x.1 (by have := (hP k x hx).lt; omega))).app (fun k x hx => ?_)
  have hz : k < 1 := (List.getElem?_eq_some_iff.mp hx).1
  rw [show k = 0 by omega] at hx
  cases hx
  exact h1
theorem xv_pushS {G : xv_G} {H H1 : Heap} {s : State} {locs : List Loc} {n : Nat} (hS : va_S (xv_A G) s.heap H locs) (hsz : H.size = n) (z1 : H1.size = n + 1) (o1 : ∀ q, q < n → H1[q]? = H[q]?) : va_S (xv_A G) s.heap H1 locs :=
  ⟨Nat.le_trans hS.1 (by omega), fun x h1 h2 => (o1 x (by have := hS.1; omega)).trans (hS.2.1 x h1 h2), hS.2.2⟩
theorem xv_newO {ci index sl : Nat} (hdg : decode J.2.1 pc = .ok (.new index, 3)) (hc : ci < xv_nc) (hl : Cond.classLink J.1.cls index (xv_nm ci) ∈ xv_BIG) (hi : Cond.instantiable (xv_nm ci) sl ∈ xv_BIG) (hn : Cond.initialized (xv_nm ci) ∈ xv_BIG) (h1 : xv_N u + 1 ≤ n1) (h2 : xv_S u + sl ≤ s1)
    (k : xv_X sc d J (pc + 3) lv (.ref (xv_N u) :: st) (xv_nw u (ci + 1) 0 sl) n1 s1 P) : xv_X sc d J pc lv st u n1 s1 P := by
  intro p l e R s m args below meth c G N0 S0 Q H locs ls A0 lo hP wf hS hN hZ
  refine xv_Wsz fun hle => ?_
  have hA := id A0
  obtain ⟨hx, hb, -, -, hown, hts, -, -, hK, hR, hs, -⟩ := hA
  have hsz := xv_sz hs hN hP hS hle
  have hKn := hK.1.1 ci _ (xv_cl_at hc)
  refine W.newcK (h := xv_B G + xv_N u) (g := F0 m pc ls (st.map (xv_cv G))) hx hb hown (hts _ hl) (hts _ hi) (hts _ hn) rfl hdg (by omega) (by omega) hKn.2.1 hsz fun H1 kC hkC e1 z1 o1 => ?_
  refine W.cs (cells' := xv_N (xv_nw u (ci + 1) 0 sl) - N0) (slots' := xv_S (xv_nw u (ci + 1) 0 sl) - S0) (by show _ = xv_N u + 1 - N0; omega) (by show _ = xv_S u + sl - S0; omega) ?_
  refine k p l e R s m args below meth c G N0 S0 Q H1 locs ls A0 lo ?_ (xv_wf_nw wf) (xv_pushS hS hsz z1 o1) (by show N0 ≤ xv_N u + 1; omega) (by show S0 ≤ xv_S u + sl; omega)
  have hk : xv_k (xv_nw u (ci + 1) 0 sl) (xv_N u) = ci + 1 := if_pos rfl
  refine xv_pushed (s := s) (locs := locs) hsz hP o1 ?_ rfl (xv_E_obj hk (Nat.lt_of_lt_of_le hc xv_nc_le)) (fun b hb => xv_nw_E hb)
  refine ⟨_, xv_cl_at hc, (u_born (xv_ty ci) hts (xv_cls ci hc).1 hKn hkC e1 (xv_cls ci hc).2.1).to (fun j hj => ?_)⟩
  show _ = (xv_fs G (xv_nw u (ci + 1) 0 sl) (xv_N u) ci).getD j .null
  rw [List.getD_eq_getElem?_getD, xv_fs_get hj]
  have hd := xv_cls4 ci hc j hj
  show defaultValue (xv_ty ci j) = xv_fv G (xv_nw u (ci + 1) 0 sl) (xv_N u) ci j
  unfold xv_fv
  rw [hd]
  have er : xv_r (xv_nw u (ci + 1) 0 sl) (xv_N u) j = none := if_pos rfl
  have ei : xv_i (xv_nw u (ci + 1) 0 sl) (xv_N u) j = 0 := if_pos rfl
  rw [er, ei]
  rfl
theorem xv_newI {n : Int32} {N' : Nat} (hdg : decode J.2.1 pc = .ok (.newarray .int, 2)) (hw : Cond.arrayClass .int ∈ xv_BIG) (hn : ¬ n < 0) (hN' : n.toNatClampNeg = N') (hb' : N' ≤ 100000) (h1 : xv_N u + 1 ≤ n1) (h2 : xv_S u + N' ≤ s1)
    (k : xv_X sc d J (pc + 2) lv (.ref (xv_N u) :: st) (xv_nw u 100 N' N') n1 s1 P) : xv_X sc d J pc lv (.int n :: st) u n1 s1 P := by
  intro p l e R s m args below meth c G N0 S0 Q H locs ls A0 lo hP wf hS hN hZ
  refine xv_Wsz fun hle => ?_
  have hA := id A0
  obtain ⟨hx, hb, -, -, hown, hts, -, -, hK, hR, hs, -⟩ := hA
  have hsz := xv_sz hs hN hP hS hle
  refine va_newaK (atype := .int) (N := N') (h := xv_B G + xv_N u) (g := F0 m pc ls (.int n :: st.map (xv_cv G))) hx hb (hts _ hw) rfl hdg rfl hn hN' (by show N' * 4 ≤ 536870912; omega) (by omega) (by omega) hsz fun H1 cA e1 z1 o1 hAr hNm => ?_
  refine W.cs (cells' := xv_N (xv_nw u 100 N' N') - N0) (slots' := xv_S (xv_nw u 100 N' N') - S0) (by show _ = xv_N u + 1 - N0; omega) (by show _ = xv_S u + N' - S0; omega) ?_
  refine k p l e R s m args below meth c G N0 S0 Q H1 locs ls A0 lo ?_ (xv_wf_nw wf) (xv_pushS hS hsz z1 o1) (by show N0 ≤ xv_N u + 1; omega) (by show S0 ≤ xv_S u + N'; omega)
  have hk : xv_k (xv_nw u 100 N' N') (xv_N u) = 100 + 0 := if_pos rfl
  have hcA : cA = xv_cA G 0 := Option.some.inj (hNm.symm.trans (hK.1.2 0 _ rfl).2)
  refine xv_pushed (s := s) (locs := locs) hsz hP o1 ?_ rfl (xv_E_int hk (by omega)) (fun b hb => xv_nw_E hb)
  show H1[xv_B G + xv_N u]? = some (vp_cell _ _)
  rw [vp_cell_i, e1, hcA]
  have el : xv_l (xv_nw u 100 N' N') (xv_N u) = N' := if_pos rfl
  have ei : xv_i (xv_nw u 100 N' N') (xv_N u) = fun _ => 0 := funext fun q => if_pos rfl
  rw [el, ei]
  rfl
theorem xv_newZ {n : Int32} {N' : Nat} (hdg : decode J.2.1 pc = .ok (.newarray .boolean, 2)) (hw : Cond.arrayClass .boolean ∈ xv_BIG) (hn : ¬ n < 0) (hN' : n.toNatClampNeg = N') (hb' : N' ≤ 100000) (h1 : xv_N u + 1 ≤ n1) (h2 : xv_S u + N' ≤ s1)
    (k : xv_X sc d J (pc + 2) lv (.ref (xv_N u) :: st) (xv_nw u 101 N' N') n1 s1 P) : xv_X sc d J pc lv (.int n :: st) u n1 s1 P := by
  intro p l e R s m args below meth c G N0 S0 Q H locs ls A0 lo hP wf hS hN hZ
  refine xv_Wsz fun hle => ?_
  have hA := id A0
  obtain ⟨hx, hb, -, -, hown, hts, -, -, hK, hR, hs, -⟩ := hA
  have hsz := xv_sz hs hN hP hS hle
  refine va_newaK (atype := .boolean) (N := N') (h := xv_B G + xv_N u) (g := F0 m pc ls (.int n :: st.map (xv_cv G))) hx hb (hts _ hw) rfl hdg rfl hn hN' (by show N' * 1 ≤ 536870912; omega) (by omega) (by omega) hsz fun H1 cA e1 z1 o1 hAr hNm => ?_
  refine W.cs (cells' := xv_N (xv_nw u 101 N' N') - N0) (slots' := xv_S (xv_nw u 101 N' N') - S0) (by show _ = xv_N u + 1 - N0; omega) (by show _ = xv_S u + N' - S0; omega) ?_
  refine k p l e R s m args below meth c G N0 S0 Q H1 locs ls A0 lo ?_ (xv_wf_nw wf) (xv_pushS hS hsz z1 o1) (by show N0 ≤ xv_N u + 1; omega) (by show S0 ≤ xv_S u + N'; omega)
  have hk : xv_k (xv_nw u 101 N' N') (xv_N u) = 100 + 1 := if_pos rfl
  have hcA : cA = xv_cA G 1 := Option.some.inj (hNm.symm.trans (hK.1.2 1 _ rfl).2)
  refine xv_pushed (s := s) (locs := locs) hsz hP o1 ?_ rfl (xv_E_int hk (by omega)) (fun b hb => xv_nw_E hb)
  show H1[xv_B G + xv_N u]? = some (vp_cell _ _)
  rw [vp_cell_i, e1, hcA]
  have el : xv_l (xv_nw u 101 N' N') (xv_N u) = N' := if_pos rfl
  have ei : xv_i (xv_nw u 101 N' N') (xv_N u) = fun _ => 0 := funext fun q => if_pos rfl
  rw [el, ei]
  rfl
theorem xv_newR {n : Int32} {N' t index : Nat} {C : String} (hdg : decode J.2.1 pc = .ok (.anewarray index, 3)) (ht : xv_ra[t]? = some C) (hl : Cond.classLink J.1.cls index C ∈ xv_BIG) (hn : ¬ n < 0) (hN' : n.toNatClampNeg = N') (hb' : N' ≤ 100000) (h1 : xv_N u + 1 ≤ n1) (h2 : xv_S u + N' ≤ s1)
    (k : xv_X sc d J (pc + 3) lv (.ref (xv_N u) :: st) (xv_nw u (103 + t) N' N') n1 s1 P) : xv_X sc d J pc lv (.int n :: st) u n1 s1 P := by
  intro p l e R s m args below meth c G N0 S0 Q H locs ls A0 lo hP wf hS hN hZ
  refine xv_Wsz fun hle => ?_
  have hA := id A0
  obtain ⟨hx, hb, -, -, hown, hts, -, -, hK, hR, hs, -⟩ := hA
  have hsz := xv_sz hs hN hP hS hle
  have hAO := hK.2.2.2.2.1 C (List.mem_of_getElem? ht)
  subst hN'
  refine W.anew (g := F0 m pc ls (.int n :: st.map (xv_cv G))) hx hb hown (hts _ hl) (va_AO.use hAO) rfl hdg rfl hn (by omega) (by omega) (by omega) fun cA kA comp f1 f2 f3 f4 => ?_
  generalize hH1 : H.push ({ cls := cA, slots := Array.replicate n.toNatClampNeg .null, vm := .none } : Cell) = H1
  have z1 : H1.size = xv_B G + xv_N u + 1 := by rw [← hH1, Array.size_push, hsz]
  have e1 : H1[xv_B G + xv_N u]? = some (arrV cA n.toNatClampNeg (fun _ => .null)) := by rw [← hH1, ← hsz, Array.getElem?_push_size, ← arrV_new]
  have o1 : ∀ q : Nat, q < xv_B G + xv_N u → H1[q]? = H[q]? := fun q hq => by rw [← hH1, Array.getElem?_push, if_neg (by omega)]
  rw [hsz]
  refine W.cs (cells' := xv_N (xv_nw u (103 + t) n.toNatClampNeg n.toNatClampNeg) - N0) (slots' := xv_S (xv_nw u (103 + t) n.toNatClampNeg n.toNatClampNeg) - S0) (by show _ = xv_N u + 1 - N0; omega) (by show _ = xv_S u + n.toNatClampNeg - S0; omega) ?_
  refine k p l e R s m args below meth c G N0 S0 Q H1 locs ls A0 lo ?_ (xv_wf_nw wf) (xv_pushS hS hsz z1 o1) (by show N0 ≤ xv_N u + 1; omega) (by show S0 ≤ xv_S u + n.toNatClampNeg; omega)
  have hk : xv_k (xv_nw u (103 + t) n.toNatClampNeg n.toNatClampNeg) (xv_N u) = 103 + t := if_pos rfl
  obtain ⟨kA', comp', g1, g2, g3, g4⟩ := (hK.1.2 (3 + t) _ (xv_tys_at ht)).2
  have hcA : cA = xv_cA G (3 + t) := Option.some.inj (f1.symm.trans g4)
  refine xv_pushed (s := s) (locs := locs) hsz hP o1 ?_ rfl (xv_E_ref hk) (fun b hb => xv_nw_E hb)
  show H1[xv_B G + xv_N u]? = some (vp_cell _ _)
  rw [vp_cell_q, e1, hcA]
  have el : xv_l (xv_nw u (103 + t) n.toNatClampNeg n.toNatClampNeg) (xv_N u) = n.toNatClampNeg := if_pos rfl
  have er : ∀ j, xv_r (xv_nw u (103 + t) n.toNatClampNeg n.toNatClampNeg) (xv_N u) j = none := fun q => if_pos rfl
  simp only [el, er]
  rfl
theorem xv_obj {a idx : Nat} (hdg : decode J.2.1 pc = .ok (.invokespecial idx, 3)) (h1 : Cond.methodLink J.1.cls idx Lib.objectInit ∈ xv_BIG) (h2 : Cond.instanceMethod Lib.objectInit ∈ xv_BIG) (h3 : Cond.code Lib.objectInit ⟨#[0xb1]⟩ 1 none ∈ xv_BIG) (hd : 1 ≤ d) (hst : (st.map fun v => v.category).sum ≤ 8) (k : xv_X sc d J (pc + 3) lv st u n1 s1 P) : xv_X sc d J pc lv (.ref a :: st) u n1 s1 P := by
  intro p l e R s m args below meth c G N0 S0 Q H locs ls A0 lo hP wf hS hN hZ
  have hA := id A0
  obtain ⟨hx, hb, -, hml, hown, hts, -, -, hK, hR, hs, -⟩ := hA
  refine W.objInit (g := F0 m pc ls (.ref (xv_B G + a) :: st.map (xv_cv G))) hx hb hown (hts _ h1) (hts _ h2) (hts _ h3) rfl (by rw [hml]; exact lo.1) rfl hdg (by omega) ?_ (k p l e R s m args below meth c G N0 S0 Q H locs ls A0 lo hP wf hS hN hZ)
  show 2 * 0 + _ + 12 ≤ _
  have : ((st.map (xv_cv G)).map fun v => v.category) = st.map fun v => v.category := by
    rw [List.map_map]
    exact List.map_congr_left (fun v _ => xv_cat G v)
  rw [this]
  omega
end NEWR
/-! contracts -/
def xv_Pc (G : xv_G) (as : List Value) (u : xv_M) : Array Value → State → Prop := fun v U => v = (as.map (xv_cv G)).toArray ∧ U.heap.size = xv_B G + xv_N u ∧ va_P (xv_dG G) xv_cl (xv_ws G u) U.heap ∧ xv_wf u ∧ xv_K G U U.heap
def xv_oc (G : xv_G) (o : xv_O) (oc : Outcome) (w : xv_M) : Prop := match o with
  | .inl v => oc = .returned (v.map (xv_cv G))
  | .inr q => oc = .threw (xv_B G + q.2) ∧ xv_k w q.2 = q.1 + 1
def xv_Qb (G : xv_G) (n1 s1 : Nat) (P : xv_P) : Array Value → State → Outcome → State → Prop := fun _ st oc t => ∃ (o : xv_O) (w : xv_M), P o w ∧ xv_N w = n1 ∧ xv_S w = s1 ∧ xv_wf w ∧ va_P (xv_dG G) xv_cl (xv_ws G w) t.heap ∧ va_F (xv_A G) st t ∧ xv_oc G o oc w
def xv_Qx (G : xv_G) (n1 s1 : Nat) (P : xv_P) (mc ms : Nat) : Array Value → State → Outcome → State → Prop := fun a st oc t => xv_Qb G n1 s1 P a st oc t ∧ ∃ L : List Loc, (st.WarmedH t.vm ∧ st.sameButNew ({ t with vm := st.vm } : State) L mc ms) ∧ ∀ q ∈ L, xv_A G q.base
def xv_C (sc : Nat × (Nat → Int32)) (d : Nat) (J : xv_J) (as : List Value) (u : xv_M) (n1 s1 : Nat) (P : xv_P) : Prop :=
  xv_N u ≤ n1 ∧ xv_S u ≤ s1 ∧ ∀ (l : Launch) (G : xv_G), G.2.2.2.2 = sc → xv_L l → MetFree l J.1 (headSpec (xv_w J) (xv_rm d (n1 - xv_N u) (s1 - xv_S u))) (xv_Pc G as u) (fun _ _ _ _ _ => True) (xv_Qx G n1 s1 P (n1 - xv_N u) (s1 - xv_S u))
theorem xv_blind (G : xv_G) (as : List Value) (u : xv_M) : FrameBlind (xv_Pc G as u) := by
  intro a U g mk h
  obtain ⟨h1, h2, h3, h4, h5⟩ := h
  exact ⟨h1, h2, h3, h4, xv_K_moved (u := U) (U := U.calling g mk a) (State.WarmedH.refl U) h5 (Nat.le_refl _) (fun _ _ _ => rfl)⟩
end
section
theorem xv_lo_entry {G : xv_G} {as : List Value} {n : Nat} (hc : ∀ v ∈ as, v.category = 1) (hn : as.length ≤ n) : xv_lo G ((lg_sl (as.map (xv_cv G)) ++ List.replicate (n - (lg_sl (as.map (xv_cv G))).length) Slot.unset).toArray) n (as.map some ++ List.replicate (n - as.length) none) := by
  have e : ∀ l : List Value, (∀ v ∈ l, v.category = 1) → lg_sl l = l.map Slot.val := by
    intro l hl
    induction l with
    | nil => rfl
    | cons v t ih =>
      have h1 : v.category = 1 := hl v List.mem_cons_self
      have h2 := ih (fun w hw => hl w (List.mem_cons_of_mem _ hw))
      unfold lg_sl at h2 ⊢
      rw [List.flatMap_cons, h2, h1]
      rfl
  have hc' : ∀ v ∈ as.map (xv_cv G), v.category = 1 := by
    intro v hv
    obtain ⟨w, hw, rfl⟩ := List.mem_map.mp hv
    rw [xv_cat]
    exact hc w hw
  have e1 := e _ hc'
  have hlen : (lg_sl (as.map (xv_cv G))).length = as.length := by rw [e1]; simp
  have hl := lv_entry (as.map (xv_cv G)) (n := n) (by rw [hlen]; exact hn)
  refine ⟨hl.1, hl.2.1, fun i v hv => ?_⟩
  have hi : i < as.length := by
    apply Nat.lt_of_not_le
    intro q
    rw [List.getElem?_append_right (by simpa using q)] at hv
    rw [List.getElem?_replicate] at hv
    split at hv
    · cases hv
    · cases hv
  rw [List.getElem?_append_left (by simpa using hi), List.getElem?_map] at hv
  rw [e1]
  have hg : as[i]? = some v := by
    cases hq : as[i]? with
    | none => rw [hq] at hv; cases hv
    | some z => rw [hq] at hv; cases hv; rfl
  show ((as.map (xv_cv G)).map Slot.val ++ _).toArray[i]? = _
  rw [List.getElem?_toArray, List.getElem?_append_left (by simpa using hi), List.getElem?_map, List.getElem?_map, hg]
  rfl
theorem xv_sum_cv (G : xv_G) (st : List Value) : (((st.map (xv_cv G)).map fun v => v.category)).sum = (st.map fun v => v.category).sum := by
  rw [List.map_map]
  congr 1
  exact List.map_congr_left (fun v _ => xv_cat G v)
/-- a method's contract out of its walk -/
theorem xv_C_of {sc : Nat × (Nat → Int32)} {d : Nat} {J : xv_J} {as : List Value} {u : xv_M} {n1 s1 : Nat} {P : xv_P} (hpl : plainName J.1.cls = true) (hn : xv_N u ≤ n1) (hs : xv_S u ≤ s1) (hc : ∀ v ∈ as, v.category = 1) (hl : as.length ≤ J.2.2.1)
    (h : xv_X sc d J 0 (as.map some ++ List.replicate (J.2.2.1 - as.length) none) [] u n1 s1 (xv_q n1 s1 P)) : xv_C sc d J as u n1 s1 P := by
  refine ⟨hn, hs, fun l G hG hL => ?_⟩
  refine MetFree.of_bodyS (code := J.2.1) (maxLocals := J.2.2.1) (ret := J.2.2.2) hpl ?_ ?_
  · intro args s m hp hnm
    obtain ⟨meth, c, h1, h2, h3, h4, h5, h6, -, -⟩ := Cond.code_spec hnm (atoms_spec (ws := xv_w J) hp _ List.mem_cons_self)
    exact ⟨meth, c, h1, h2, h3, h4, h5, h6⟩
  · intro p e s m args below meth c s₁ B hml hP _
    obtain ⟨rfl, hsz, hPP, wf, hK⟩ := hP
    have hh0 : s₁.heap = s.heap := by rw [B.state]; rfl
    have hts := atoms_spec (ws := xv_w J) B.pre
    have hown : s.vm.findClass J.1.cls = some m.cls := findClass_of_methodNamed B.named
    have hnam : meth.name = J.1.name := (name_of_methodNamed B.named B.method).1
    have X0 := Stand.of_body B
    have hex : c.exceptionTable.isEmpty = true := by
      obtain ⟨meth', c', h1, h2, -, -, -, -, h7, -⟩ := Cond.code_spec B.named (hts _ List.mem_cons_self)
      cases B.method.symm.trans h1
      cases X0.code.symm.trans h2
      exact h7
    have hfin : xv_fin p l e (headSpec (xv_w J) (xv_rm d (n1 - xv_N u) (s1 - xv_S u))).room s m (as.map (xv_cv G)).toArray below meth c J G (xv_N u) (xv_S u) n1 s1 (xv_q n1 s1 P) (fun t => ∃ o, t.status = .running ∧ Ended t below o ∧ xv_Qx G n1 s1 P (n1 - xv_N u) (s1 - xv_S u) (as.map (xv_cv G)).toArray s o t) := by
      refine ⟨fun v w pc ls i H locs hPo _ _ hrt hdg hPH wf hS => ?_, fun k a w U locs hPo _ _ hk hPH wf hS hrun hend hW hsame => ?_⟩
      · obtain ⟨hPo, hn1, hs1⟩ := hPo
        rw [hn1, hs1]
        have key : ∀ t : State, t.heap = H → s.WarmedH t.vm → xv_Qb G n1 s1 P (as.map (xv_cv G)).toArray s (.returned (v.map (xv_cv G))) t := fun t ht hW => ⟨.inl v, w, hPo, hn1, hs1, wf, by rw [ht]; exact hPH, hS.F ht, rfl⟩
        have fin : ∀ t : State, MQ below (xv_Qb G n1 s1 P) (as.map (xv_cv G)).toArray s (n1 - xv_N u) (s1 - xv_S u) (xv_A G) t → ∃ o, t.status = .running ∧ Ended t below o ∧ xv_Qx G n1 s1 P (n1 - xv_N u) (s1 - xv_S u) (as.map (xv_cv G)).toArray s o t := by
          rintro t ⟨o, h1, h2, h3, L, ⟨-, h4, h5⟩, h6⟩
          exact ⟨o, h1, h2, h3, L, ⟨h4, h5⟩, h6⟩
        refine xv_Wmono fin ?_
        rcases hrt with ⟨hr, rfl, x, rfl⟩ | ⟨hr, rfl, x, rfl, hx⟩ | ⟨hr, rfl, rfl⟩ | ⟨hr, rfl, a, rfl⟩
        · exact W.iret B.exec B.bytes (B.returns.trans hr) key hS.2.2 hdg B.notSynchronized
        · exact W.zret B.exec B.bytes (B.returns.trans hr) (by show Value.int (x &&& 1) = _; rw [hx]) key hS.2.2 hdg B.notSynchronized
        · exact W.vret B.exec B.bytes (B.returns.trans hr) key hS.2.2 hdg B.notSynchronized
        · rcases hr with ⟨nm, hr⟩ | ⟨t, hr⟩
          · exact W.aret B.exec B.bytes (B.returns.trans hr) (Or.inl ⟨nm, rfl⟩) (Or.inr ⟨_, rfl⟩) key hS.2.2 hdg B.notSynchronized
          · exact W.aret B.exec B.bytes (B.returns.trans hr) (Or.inr ⟨t, rfl⟩) (Or.inr ⟨_, rfl⟩) key hS.2.2 hdg B.notSynchronized
      · obtain ⟨hPo, hn1, hs1⟩ := hPo
        rw [hn1, hs1] at hsame
        exact ⟨.threw (xv_B G + a), hrun, hend, ⟨.inr (k, a), w, hPo, hn1, hs1, wf, hPH, ⟨hS.1, hS.2.1⟩, rfl, hk⟩, locs, ⟨hW, hsame⟩, hS.2.2⟩
    have hsub : ∀ a b : Nat, a - a = 0 := fun a _ => Nat.sub_self a
    rw [lg_entry_eq]
    obtain ⟨t, a1, o, b1, b2, b3⟩ := h p l e (headSpec (xv_w J) (xv_rm d (n1 - xv_N u) (s1 - xv_S u))).room s m (as.map (xv_cv G)).toArray below meth c G (xv_N u) (xv_S u) _ s.heap [] _
      ⟨B.exec, B.bytes, B.returns, hml, hown, fun w hw => hts w (List.mem_cons_of_mem _ hw), B.notSynchronized, hnam, hK, ⟨Nat.le_refl _, Nat.le_refl _, Nat.le_refl _, Nat.le_refl _⟩, hsz, ⟨hG, hL, hex⟩, hfin⟩
      (xv_lo_entry hc hl) hPP wf va_S.rf (Nat.le_refl _) (Nat.le_refl _) s₁ hh0 (by rw [Nat.sub_self, Nat.sub_self]; exact X0)
    exact ⟨t, o, a1, b1, b2, b3⟩
def xv_Qr (G : xv_G) (n1 s1 : Nat) (P : xv_P) : Array Value → State → Outcome → State → Prop := fun _ st oc t => ∃ (v : Option Value) (w : xv_M), P (.inl v) w ∧ xv_N w = n1 ∧ xv_S w = s1 ∧ xv_wf w ∧ va_P (xv_dG G) xv_cl (xv_ws G w) t.heap ∧ va_F (xv_A G) st t ∧ oc = .returned (v.map (xv_cv G))
theorem xv_met {sc : Nat × (Nat → Int32)} {d : Nat} {J : xv_J} {as : List Value} {u : xv_M} {n1 s1 : Nat} {P : xv_P} (h : xv_C sc d J as u n1 s1 P) (hP : ∀ o w, P o w → ∃ v, o = .inl v) (l : Launch) (G : xv_G) (hG : G.2.2.2.2 = sc) (hL : xv_L l) : Met l J.1 (xv_w J) (xv_rm d (n1 - xv_N u) (s1 - xv_S u)) (xv_Pc G as u) (xv_Qr G n1 s1 P) (n1 - xv_N u) (s1 - xv_S u) (xv_A G) := by
  intro p e ha hc hk s m args below hf happ hPc hK
  obtain ⟨n, o, h1, h2, h3, ⟨o', w, g1, g2, g3, g4, g5, g6, g7⟩, L, ⟨g8, g9⟩, g10⟩ := h.2.2 l G hG hL p e ha hc hk s m args below hf happ hPc hK
  obtain ⟨v, rfl⟩ := hP _ _ g1
  have g7 : o = .returned (v.map (xv_cv G)) := g7
  exact ⟨n, o, h1, h2, h3, ⟨v, w, g1, g2, g3, g4, g5, g6, g7⟩, L, ⟨⟨_, g7⟩, g8, g9⟩, g10⟩
section CALLS
variable {p : Program} {l : Launch} {e : Env} {R : Room} {s : State} {m : MethodId} {args : Array Value} {below : List Frame} {meth : Method} {c : Code} {H : Heap} {locs : List Loc} {cells slots : Nat} {Q : State → Prop}
theorem xv_back {G : xv_G} {n2 s2 mc ms pc : Nat} {P1 : xv_P} {ls : Array Slot} {st0 rest : List Value} {a : Array Value} (hr : va_Run p l e R s m args below meth c H locs cells slots mc ms (F0 m pc ls st0) rest (xv_Qr G n2 s2 P1 a) (xv_A G)) (hS : va_S (xv_A G) s.heap H locs)
    (kk : ∀ (v : Option Value) (w : xv_M) (H1 : Heap) (locs1 : List Loc), P1 (.inl v) w → xv_N w = n2 → xv_S w = s2 → xv_wf w → va_P (xv_dG G) xv_cl (xv_ws G w) H1 → va_S (xv_A G) s.heap H1 locs1 → W p l e R s m args below meth c H1 locs1 (cells + mc) (slots + ms) Q (F0 m (pc + 3) ls ((v.map (xv_cv G)).toList ++ rest))) : W p l e R s m args below meth c H locs cells slots Q (F0 m pc ls st0) := by
  intro T hT X
  obtain ⟨v, st₀, t, T', L, h0, X', hL, e1, e2, ⟨v', w, g1, g2, g3, g4, g5, ⟨hz, hk⟩, g7⟩, st⟩ := hr T hT X
  cases g7
  rw [h0] at hz hk
  obtain ⟨t2, a1, b1⟩ := kk v' w T'.heap (locs ++ L) g1 g2 g3 g4 (by rw [e1]; exact g5)
    ⟨Nat.le_trans hS.1 (by rw [e1]; exact hz), fun q h1 h2 => by rw [e1, hk q (Nat.lt_of_lt_of_le h1 hS.1) h2]; exact hS.2.1 q h1 h2, fun q hq => by
      rcases List.mem_append.mp hq with h | h
      · exact hS.2.2 q h
      · exact hL q h⟩ T' rfl X'
  exact ⟨t2, st t2 a1, b1⟩
end CALLS
theorem xv_goodw {J : xv_J} (h : Cond.code J.1 J.2.1 J.2.2.1 J.2.2.2 ∈ xv_BIG) : GoodIn xv_BIG (xv_w J) := by
  intro w hw
  rcases List.mem_cons.mp hw with rfl | hw
  · exact xv_good _ h
  · exact xv_good _ hw
section CALLR
variable {sc : Nat × (Nat → Int32)} {d d1 : Nat} {J J1 : xv_J} {pc : Nat} {lv : List (Option Value)} {st as : List Value} {u : xv_M} {n1 s1 n2 s2 : Nat} {P P1 : xv_P}
/-- the callee's start, as the caller stands -/
theorem xv_pre {G : xv_G} {s U : State} {H : Heap} {locs : List Loc} {as : List Value} {u : xv_M} (hsz : H.size = xv_B G + xv_N u) (hP : va_P (xv_dG G) xv_cl (xv_ws G u) H) (wf : xv_wf u) (hK : xv_K G s s.heap) (hS : va_S (xv_A G) s.heap H locs) (hU : U.heap = H) (hW : s.WarmedH U.vm) : xv_Pc G as u (as.map (xv_cv G)).toArray U :=
  ⟨rfl, by rw [hU]; exact hsz, by rw [hU]; exact hP, wf, by rw [hU]; exact xv_K_moved hW hK hS.1 hS.2.1⟩
end CALLR
/-! ends, forgetting, calls by their number of arguments -/
def xv_pi (p : Int32 → xv_M → Prop) : xv_P := fun o w => ∃ r : Int32, o = .inl (some (.int r)) ∧ p r w
def xv_pv (p : xv_M → Prop) : xv_P := fun o w => o = .inl none ∧ p w
def xv_pr (p : Nat → xv_M → Prop) : xv_P := fun o w => ∃ r : Nat, o = .inl (some (.ref r)) ∧ p r w
def xv_px (k : Nat) (p : Nat → xv_M → Prop) : xv_P := fun o w => ∃ a : Nat, o = .inr (k, a) ∧ p a w
theorem xv_pi_l {p : Int32 → xv_M → Prop} : ∀ o w, xv_pi p o w → ∃ v, o = .inl v := fun _ _ h => by obtain ⟨r, h, -⟩ := h; exact ⟨_, h⟩
theorem xv_pv_l {p : xv_M → Prop} : ∀ o w, xv_pv p o w → ∃ v, o = .inl v := fun _ _ h => ⟨_, h.1⟩
theorem xv_pr_l {p : Nat → xv_M → Prop} : ∀ o w, xv_pr p o w → ∃ v, o = .inl v := fun _ _ h => by obtain ⟨r, h, -⟩ := h; exact ⟨_, h⟩
section ENDS
variable {sc : Nat × (Nat → Int32)} {d d1 : Nat} {J J1 : xv_J} {pc : Nat} {lv : List (Option Value)} {st as : List Value} {u : xv_M} {n1 s1 n2 s2 : Nat} {P P1 : xv_P}
theorem xv_reti {x : Int32} (hdg : decode J.2.1 pc = .ok (.ireturn, 1)) (hret : J.2.2.2 = some .int) (hn : xv_N u ≤ n1) (hs : xv_S u ≤ s1) (hp : P (.inl (some (.int x))) u) : xv_X sc d J pc lv [.int x] u n1 s1 P := by
  intro p l e R s m args below meth c G N0 S0 Q H locs ls A0 lo hP wf hS hN hZ
  have h := A0.2.2.2.2.2.2.2.2.2.2.2.2.1 (some (.int x)) u pc ls .ireturn H locs hp hn hs (Or.inl ⟨hret, rfl, x, rfl⟩) hdg hP wf hS
  exact h
theorem xv_retz {x : Int32} (hdg : decode J.2.1 pc = .ok (.ireturn, 1)) (hret : J.2.2.2 = some .boolean) (hx : x &&& 1 = x) (hn : xv_N u ≤ n1) (hs : xv_S u ≤ s1) (hp : P (.inl (some (.int x))) u) : xv_X sc d J pc lv [.int x] u n1 s1 P := by
  intro p l e R s m args below meth c G N0 S0 Q H locs ls A0 lo hP wf hS hN hZ
  have h := A0.2.2.2.2.2.2.2.2.2.2.2.2.1 (some (.int x)) u pc ls .ireturn H locs hp hn hs (Or.inr (Or.inl ⟨hret, rfl, x, rfl, hx⟩)) hdg hP wf hS
  exact h
theorem xv_retv (hdg : decode J.2.1 pc = .ok (.return_, 1)) (hret : J.2.2.2 = none) (hn : xv_N u ≤ n1) (hs : xv_S u ≤ s1) (hp : P (.inl none) u) : xv_X sc d J pc lv [] u n1 s1 P := by
  intro p l e R s m args below meth c G N0 S0 Q H locs ls A0 lo hP wf hS hN hZ
  have h := A0.2.2.2.2.2.2.2.2.2.2.2.2.1 none u pc ls .return_ H locs hp hn hs (Or.inr (Or.inr (Or.inl ⟨hret, rfl, rfl⟩))) hdg hP wf hS
  exact h
theorem xv_reta {x : Nat} (hdg : decode J.2.1 pc = .ok (.areturn, 1)) (hret : (∃ n, J.2.2.2 = some (.object n)) ∨ ∃ t, J.2.2.2 = some (.array t)) (hn : xv_N u ≤ n1) (hs : xv_S u ≤ s1) (hp : P (.inl (some (.ref x))) u) : xv_X sc d J pc lv [.ref x] u n1 s1 P := by
  intro p l e R s m args below meth c G N0 S0 Q H locs ls A0 lo hP wf hS hN hZ
  have h := A0.2.2.2.2.2.2.2.2.2.2.2.2.1 (some (.ref x)) u pc ls .areturn H locs hp hn hs (Or.inr (Or.inr (Or.inr ⟨hret, rfl, x, rfl⟩))) hdg hP wf hS
  exact h
theorem xv_wk {lv' : List (Option Value)} (h : ∀ (i : Nat) (v : Value), lv'[i]? = some (some v) → lv[i]? = some (some v)) (k : xv_X sc d J pc lv' st u n1 s1 P) : xv_X sc d J pc lv st u n1 s1 P := fun p l e R s m args below meth c G N0 S0 Q H locs ls A0 lo hP wf hS hN hZ => k p l e R s m args below meth c G N0 S0 Q H locs ls A0 ⟨lo.1, lo.2.1, fun i v hv => lo.2.2 i v (h i v hv)⟩ hP wf hS hN hZ
theorem xv_pick {lv' : List (Option Value)} (hl : lv'.length = lv.length) (h : ∀ i, i < lv.length → lv'.getD i none = none ∨ lv'.getD i none = lv.getD i none) (k : xv_X sc d J pc lv' st u n1 s1 P) : xv_X sc d J pc lv st u n1 s1 P := by
  refine xv_wk (fun i v hv => ?_) k
  have hi : i < lv'.length := (List.getElem?_eq_some_iff.mp hv).1
  have e1 : lv'.getD i none = some v := by rw [List.getD_eq_getElem?_getD, hv]; rfl
  rcases h i (by omega) with h | h
  · rw [e1] at h; cases h
  · rw [e1] at h
    rw [List.getElem?_eq_getElem (by omega)]
    rw [List.getD_eq_getElem?_getD, List.getElem?_eq_getElem (by omega)] at h
    exact congrArg some h.symm
theorem xv_post {P' : xv_P} (h : ∀ o w, P' o w → P o w) (k : xv_X sc d J pc lv st u n1 s1 P') : xv_X sc d J pc lv st u n1 s1 P := by
  intro p l e R s m args below meth c G N0 S0 Q H locs ls A0 lo hP wf hS hN hZ
  refine k p l e R s m args below meth c G N0 S0 Q H locs ls ?_ lo hP wf hS hN hZ
  obtain ⟨a1, a2, a3, a4, a5, a6, a7, a8, a9, a10, a11, a12, a13⟩ := A0
  exact ⟨a1, a2, a3, a4, a5, a6, a7, a8, a9, a10, a11, a12, fun v w pc ls i H locs q => a13.1 v w pc ls i H locs (h _ _ q), fun k a w U locs q => a13.2 k a w U locs (h _ _ q)⟩
theorem xv_no_0 {a0 : Option Value} {t : List (Option Value)} (k : xv_X sc d J pc (none :: t) st u n1 s1 P) : xv_X sc d J pc (a0 :: t) st u n1 s1 P := by
  refine xv_wk (fun i v hv => ?_) k
  by_cases hi : i = 0
  · subst hi; cases hv
  · have e : (none :: t) = (a0 :: t).set 0 none := rfl
    rw [e, List.getElem?_set, if_neg (fun q => hi q.symm)] at hv
    exact hv
theorem xv_no_1 {a0 a1 : Option Value} {t : List (Option Value)} (k : xv_X sc d J pc (a0 :: none :: t) st u n1 s1 P) : xv_X sc d J pc (a0 :: a1 :: t) st u n1 s1 P := by
  refine xv_wk (fun i v hv => ?_) k
  by_cases hi : i = 1
  · subst hi; cases hv
  · have e : (a0 :: none :: t) = (a0 :: a1 :: t).set 1 none := rfl
    rw [e, List.getElem?_set, if_neg (fun q => hi q.symm)] at hv
    exact hv
theorem xv_no_2 {a0 a1 a2 : Option Value} {t : List (Option Value)} (k : xv_X sc d J pc (a0 :: a1 :: none :: t) st u n1 s1 P) : xv_X sc d J pc (a0 :: a1 :: a2 :: t) st u n1 s1 P := by
  refine xv_wk (fun i v hv => ?_) k
  by_cases hi : i = 2
  · subst hi; cases hv
  · have e : (a0 :: a1 :: none :: t) = (a0 :: a1 :: a2 :: t).set 2 none := rfl
    rw [e, List.getElem?_set, if_neg (fun q => hi q.symm)] at hv
    exact hv
theorem xv_no_3 {a0 a1 a2 a3 : Option Value} {t : List (Option Value)} (k : xv_X sc d J pc (a0 :: a1 :: a2 :: none :: t) st u n1 s1 P) : xv_X sc d J pc (a0 :: a1 :: a2 :: a3 :: t) st u n1 s1 P := by
  refine xv_wk (fun i v hv => ?_) k
  by_cases hi : i = 3
  · subst hi; cases hv
  · have e : (a0 :: a1 :: a2 :: none :: t) = (a0 :: a1 :: a2 :: a3 :: t).set 3 none := rfl
    rw [e, List.getElem?_set, if_neg (fun q => hi q.symm)] at hv
    exact hv
theorem xv_no_4 {a0 a1 a2 a3 a4 : Option Value} {t : List (Option Value)} (k : xv_X sc d J pc (a0 :: a1 :: a2 :: a3 :: none :: t) st u n1 s1 P) : xv_X sc d J pc (a0 :: a1 :: a2 :: a3 :: a4 :: t) st u n1 s1 P := by
  refine xv_wk (fun i v hv => ?_) k
  by_cases hi : i = 4
  · subst hi; cases hv
  · have e : (a0 :: a1 :: a2 :: a3 :: none :: t) = (a0 :: a1 :: a2 :: a3 :: a4 :: t).set 4 none := rfl
    rw [e, List.getElem?_set, if_neg (fun q => hi q.symm)] at hv
    exact hv
theorem xv_no_5 {a0 a1 a2 a3 a4 a5 : Option Value} {t : List (Option Value)} (k : xv_X sc d J pc (a0 :: a1 :: a2 :: a3 :: a4 :: none :: t) st u n1 s1 P) : xv_X sc d J pc (a0 :: a1 :: a2 :: a3 :: a4 :: a5 :: t) st u n1 s1 P := by
  refine xv_wk (fun i v hv => ?_) k
  by_cases hi : i = 5
  · subst hi; cases hv
  · have e : (a0 :: a1 :: a2 :: a3 :: a4 :: none :: t) = (a0 :: a1 :: a2 :: a3 :: a4 :: a5 :: t).set 5 none := rfl
    rw [e, List.getElem?_set, if_neg (fun q => hi q.symm)] at hv
    exact hv
theorem xv_no_6 {a0 a1 a2 a3 a4 a5 a6 : Option Value} {t : List (Option Value)} (k : xv_X sc d J pc (a0 :: a1 :: a2 :: a3 :: a4 :: a5 :: none :: t) st u n1 s1 P) : xv_X sc d J pc (a0 :: a1 :: a2 :: a3 :: a4 :: a5 :: a6 :: t) st u n1 s1 P := by
  refine xv_wk (fun i v hv => ?_) k
  by_cases hi : i = 6
  · subst hi; cases hv
  · have e : (a0 :: a1 :: a2 :: a3 :: a4 :: a5 :: none :: t) = (a0 :: a1 :: a2 :: a3 :: a4 :: a5 :: a6 :: t).set 6 none := rfl
    rw [e, List.getElem?_set, if_neg (fun q => hi q.symm)] at hv
    exact hv
theorem xv_no_7 {a0 a1 a2 a3 a4 a5 a6 a7 : Option Value} {t : List (Option Value)} (k : xv_X sc d J pc (a0 :: a1 :: a2 :: a3 :: a4 :: a5 :: a6 :: none :: t) st u n1 s1 P) : xv_X sc d J pc (a0 :: a1 :: a2 :: a3 :: a4 :: a5 :: a6 :: a7 :: t) st u n1 s1 P := by
  refine xv_wk (fun i v hv => ?_) k
  by_cases hi : i = 7
  · subst hi; cases hv
  · have e : (a0 :: a1 :: a2 :: a3 :: a4 :: a5 :: a6 :: none :: t) = (a0 :: a1 :: a2 :: a3 :: a4 :: a5 :: a6 :: a7 :: t).set 7 none := rfl
    rw [e, List.getElem?_set, if_neg (fun q => hi q.symm)] at hv
    exact hv
theorem xv_no_8 {a0 a1 a2 a3 a4 a5 a6 a7 a8 : Option Value} {t : List (Option Value)} (k : xv_X sc d J pc (a0 :: a1 :: a2 :: a3 :: a4 :: a5 :: a6 :: a7 :: none :: t) st u n1 s1 P) : xv_X sc d J pc (a0 :: a1 :: a2 :: a3 :: a4 :: a5 :: a6 :: a7 :: a8 :: t) st u n1 s1 P := by
  refine xv_wk (fun i v hv => ?_) k
  by_cases hi : i = 8
  · subst hi; cases hv
  · have e : (a0 :: a1 :: a2 :: a3 :: a4 :: a5 :: a6 :: a7 :: none :: t) = (a0 :: a1 :: a2 :: a3 :: a4 :: a5 :: a6 :: a7 :: a8 :: t).set 8 none := rfl
    rw [e, List.getElem?_set, if_neg (fun q => hi q.symm)] at hv
    exact hv
theorem xv_no_9 {a0 a1 a2 a3 a4 a5 a6 a7 a8 a9 : Option Value} {t : List (Option Value)} (k : xv_X sc d J pc (a0 :: a1 :: a2 :: a3 :: a4 :: a5 :: a6 :: a7 :: a8 :: none :: t) st u n1 s1 P) : xv_X sc d J pc (a0 :: a1 :: a2 :: a3 :: a4 :: a5 :: a6 :: a7 :: a8 :: a9 :: t) st u n1 s1 P := by
  refine xv_wk (fun i v hv => ?_) k
  by_cases hi : i = 9
  · subst hi; cases hv
  · have e : (a0 :: a1 :: a2 :: a3 :: a4 :: a5 :: a6 :: a7 :: a8 :: none :: t) = (a0 :: a1 :: a2 :: a3 :: a4 :: a5 :: a6 :: a7 :: a8 :: a9 :: t).set 9 none := rfl
    rw [e, List.getElem?_set, if_neg (fun q => hi q.symm)] at hv
    exact hv
theorem xv_no_10 {a0 a1 a2 a3 a4 a5 a6 a7 a8 a9 a10 : Option Value} {t : List (Option Value)} (k : xv_X sc d J pc (a0 :: a1 :: a2 :: a3 :: a4 :: a5 :: a6 :: a7 :: a8 :: a9 :: none :: t) st u n1 s1 P) : xv_X sc d J pc (a0 :: a1 :: a2 :: a3 :: a4 :: a5 :: a6 :: a7 :: a8 :: a9 :: a10 :: t) st u n1 s1 P := by
  refine xv_wk (fun i v hv => ?_) k
  by_cases hi : i = 10
  · subst hi; cases hv
  · have e : (a0 :: a1 :: a2 :: a3 :: a4 :: a5 :: a6 :: a7 :: a8 :: a9 :: none :: t) = (a0 :: a1 :: a2 :: a3 :: a4 :: a5 :: a6 :: a7 :: a8 :: a9 :: a10 :: t).set 10 none := rfl
    rw [e, List.getElem?_set, if_neg (fun q => hi q.symm)] at hv
    exact hv
theorem xv_no_11 {a0 a1 a2 a3 a4 a5 a6 a7 a8 a9 a10 a11 : Option Value} {t : List (Option Value)} (k : xv_X sc d J pc (a0 :: a1 :: a2 :: a3 :: a4 :: a5 :: a6 :: a7 :: a8 :: a9 :: a10 :: none :: t) st u n1 s1 P) : xv_X sc d J pc (a0 :: a1 :: a2 :: a3 :: a4 :: a5 :: a6 :: a7 :: a8 :: a9 :: a10 :: a11 :: t) st u n1 s1 P := by
  refine xv_wk (fun i v hv => ?_) k
  by_cases hi : i = 11
  · subst hi; cases hv
  · have e : (a0 :: a1 :: a2 :: a3 :: a4 :: a5 :: a6 :: a7 :: a8 :: a9 :: a10 :: none :: t) = (a0 :: a1 :: a2 :: a3 :: a4 :: a5 :: a6 :: a7 :: a8 :: a9 :: a10 :: a11 :: t).set 11 none := rfl
    rw [e, List.getElem?_set, if_neg (fun q => hi q.symm)] at hv
    exact hv
theorem xv_no_12 {a0 a1 a2 a3 a4 a5 a6 a7 a8 a9 a10 a11 a12 : Option Value} {t : List (Option Value)} (k : xv_X sc d J pc (a0 :: a1 :: a2 :: a3 :: a4 :: a5 :: a6 :: a7 :: a8 :: a9 :: a10 :: a11 :: none :: t) st u n1 s1 P) : xv_X sc d J pc (a0 :: a1 :: a2 :: a3 :: a4 :: a5 :: a6 :: a7 :: a8 :: a9 :: a10 :: a11 :: a12 :: t) st u n1 s1 P := by
  refine xv_wk (fun i v hv => ?_) k
  by_cases hi : i = 12
  · subst hi; cases hv
  · have e : (a0 :: a1 :: a2 :: a3 :: a4 :: a5 :: a6 :: a7 :: a8 :: a9 :: a10 :: a11 :: none :: t) = (a0 :: a1 :: a2 :: a3 :: a4 :: a5 :: a6 :: a7 :: a8 :: a9 :: a10 :: a11 :: a12 :: t).set 12 none := rfl
    rw [e, List.getElem?_set, if_neg (fun q => hi q.symm)] at hv
    exact hv
theorem xv_no_13 {a0 a1 a2 a3 a4 a5 a6 a7 a8 a9 a10 a11 a12 a13 : Option Value} {t : List (Option Value)} (k : xv_X sc d J pc (a0 :: a1 :: a2 :: a3 :: a4 :: a5 :: a6 :: a7 :: a8 :: a9 :: a10 :: a11 :: a12 :: none :: t) st u n1 s1 P) : xv_X sc d J pc (a0 :: a1 :: a2 :: a3 :: a4 :: a5 :: a6 :: a7 :: a8 :: a9 :: a10 :: a11 :: a12 :: a13 :: t) st u n1 s1 P := by
  refine xv_wk (fun i v hv => ?_) k
  by_cases hi : i = 13
  · subst hi; cases hv
  · have e : (a0 :: a1 :: a2 :: a3 :: a4 :: a5 :: a6 :: a7 :: a8 :: a9 :: a10 :: a11 :: a12 :: none :: t) = (a0 :: a1 :: a2 :: a3 :: a4 :: a5 :: a6 :: a7 :: a8 :: a9 :: a10 :: a11 :: a12 :: a13 :: t).set 13 none := rfl
    rw [e, List.getElem?_set, if_neg (fun q => hi q.symm)] at hv
    exact hv
theorem xv_retiq {x : Int32} (hdg : decode J.2.1 pc = .ok (.ireturn, 1)) (hret : J.2.2.2 = some .int) (hn : xv_N u = n1) (hs : xv_S u = s1) (hp : P (.inl (some (.int x))) u) : xv_X sc d J pc lv [.int x] u n1 s1 (xv_q n1 s1 P) := xv_reti hdg hret (Nat.le_of_eq hn) (Nat.le_of_eq hs) ⟨hp, hn, hs⟩
theorem xv_retzq {x : Int32} (hdg : decode J.2.1 pc = .ok (.ireturn, 1)) (hret : J.2.2.2 = some .boolean) (hx : x &&& 1 = x) (hn : xv_N u = n1) (hs : xv_S u = s1) (hp : P (.inl (some (.int x))) u) : xv_X sc d J pc lv [.int x] u n1 s1 (xv_q n1 s1 P) := xv_retz hdg hret hx (Nat.le_of_eq hn) (Nat.le_of_eq hs) ⟨hp, hn, hs⟩
theorem xv_retvq (hdg : decode J.2.1 pc = .ok (.return_, 1)) (hret : J.2.2.2 = none) (hn : xv_N u = n1) (hs : xv_S u = s1) (hp : P (.inl (none)) u) : xv_X sc d J pc lv [] u n1 s1 (xv_q n1 s1 P) := xv_retv hdg hret (Nat.le_of_eq hn) (Nat.le_of_eq hs) ⟨hp, hn, hs⟩
theorem xv_retaq {x : Nat} (hdg : decode J.2.1 pc = .ok (.areturn, 1)) (hret : (∃ n, J.2.2.2 = some (.object n)) ∨ ∃ t, J.2.2.2 = some (.array t)) (hn : xv_N u = n1) (hs : xv_S u = s1) (hp : P (.inl (some (.ref x))) u) : xv_X sc d J pc lv [.ref x] u n1 s1 (xv_q n1 s1 P) := xv_reta hdg hret (Nat.le_of_eq hn) (Nat.le_of_eq hs) ⟨hp, hn, hs⟩
end ENDS
section CALLG
variable {sc : Nat × (Nat → Int32)} {d d1 : Nat} {J J1 : xv_J} {pc : Nat} {lv : List (Option Value)} {st as : List Value} {u : xv_M} {n1 s1 n2 s2 : Nat} {P P1 : xv_P}
theorem xv_stk (G : xv_G) (as : List Value) (b : Nat) (st : List Value) : (as.reverse ++ .ref b :: st).map (xv_cv G) = (as.map (xv_cv G)).reverse ++ .ref (xv_B G + b) :: st.map (xv_cv G) := by
  rw [List.map_append, List.map_reverse]
  rfl
theorem xv_stkS (G : xv_G) (as : List Value) (st : List Value) : (as.reverse ++ st).map (xv_cv G) = (as.map (xv_cv G)).reverse ++ st.map (xv_cv G) := by
  rw [List.map_append, List.map_reverse]
theorem xv_callV {b ci index n : Nat} (hM : xv_C sc d1 J1 (.ref b :: as) u n2 s2 P1) (hr : ∀ o w, P1 o w → ∃ v, o = .inl v) (hm : xv_mV J1 n) (hl : Cond.methodLink J.1.cls index J1.1 ∈ xv_BIG) (hn : as.length = n) (hd : d1 + 1 ≤ d) (hc : ci < xv_nc) (hci : xv_nm ci = J1.1.cls) (hk : xv_k u b = ci + 1) (hst : (st.map fun v => v.category).sum ≤ 8) (hdg : decode J.2.1 pc = .ok (.invokevirtual index, 3)) (hw : n2 ≤ n1 ∧ s2 ≤ s1)
    (k : ∀ v w, P1 (.inl v) w → xv_N w = n2 → xv_S w = s2 → xv_X sc d J (pc + 3) lv (v.toList ++ st) w n1 s1 P) : xv_X sc d J pc lv (as.reverse ++ .ref b :: st) u n1 s1 P := by
  intro p l e R s m args below meth c G N0 S0 Q H locs ls A0 lo hP wf hS hN hZ
  refine xv_Wsz fun hle => ?_
  have hA := id A0
  obtain ⟨hx, hb, -, hml, hown, hts, -, -, hK, hR, hs, ⟨hG, hL, -⟩, -⟩ := hA
  have hsz := xv_sz hs hN hP hS hle
  obtain ⟨m1, m2, m3, m4, m5, m6⟩ := hm
  have hcw : CallB R s args J.1.cls index J1.1 J1.2.1 J1.2.2.1 J1.2.2.2 (xv_w J1) (xv_rm d1 (n2 - xv_N u) (s2 - xv_S u)) (n2 - xv_N u) (s2 - xv_S u) n ∧ (Cond.instanceMethod J1.1).before args s = true ∧ (Cond.selects J1.1.cls J1.1 J1.1).before args s = true := ⟨callB_of n hts (xv_goodw m1) rfl rfl rfl (hts _ m4) (hts _ hl) m5 ⟨by show d1 + 1 ≤ _; omega, by show 8 + (J1.2.2.1 + 11) + 60 * d1 ≤ _; omega⟩, hts _ m2, hts _ m3⟩
  have hrun := va_runV (b := xv_B G + b) (C := J1.1.cls) (As := as.map (xv_cv G)) (rest := st.map (xv_cv G)) (g := F0 m pc ls ((as.reverse ++ .ref b :: st).map (xv_cv G))) (H := H) (locs := locs) (cells := xv_N u - N0) (slots := xv_S u - S0) (l := l) (p := p) (e := e) (below := below) (meth := meth) ⟨hx, hb, hml, hown, hts⟩ (xv_met hM hr l G hG hL) hcw
    ⟨xv_blind G _ u, by
      obtain ⟨cell, c1, c2, c3⟩ := va_recv hK.1 hP (xv_cl_at hc) (xv_he wf hc hk)
      exact ⟨cell, c1, c2, by rw [← hci]; exact c3⟩, fun U hU hW => xv_pre hsz hP wf hK hS hU hW⟩ rfl (by rw [List.length_map]; exact hn) lo.1 (xv_stk G as b st) (by show 2 * 0 + _ ≤ 8; rw [xv_sum_cv]; omega) hdg (by have := hM.1; have := hM.2.1; omega)
  refine xv_back hrun hS (fun v w H1 locs1 g1 g2 g3 g4 g5 g6 => ?_)
  have h1 := hM.1
  have h2 := hM.2.1
  refine W.cs (cells' := xv_N w - N0) (slots' := xv_S w - S0) (by omega) (by omega) ?_
  have ee : (v.map (xv_cv G)).toList ++ st.map (xv_cv G) = (v.toList ++ st).map (xv_cv G) := by cases v <;> rfl
  rw [ee]
  exact k v w g1 g2 g3 p l e R s m args below meth c G N0 S0 Q H1 locs1 ls A0 lo g5 g4 g6 (by omega) (by omega)
theorem xv_callVN {b ci index n : Nat} {host : String} (hM : xv_C sc d1 J1 (.ref b :: as) u n2 s2 P1) (hr : ∀ o w, P1 o w → ∃ v, o = .inl v) (hm : xv_mV J1 n) (hl : Cond.methodLinkNest J.1.cls index J1.1 host ∈ xv_nest) (hn : as.length = n) (hd : d1 + 1 ≤ d) (hc : ci < xv_nc) (hci : xv_nm ci = J1.1.cls) (hk : xv_k u b = ci + 1) (hst : (st.map fun v => v.category).sum ≤ 8) (hdg : decode J.2.1 pc = .ok (.invokevirtual index, 3)) (hw : n2 ≤ n1 ∧ s2 ≤ s1)
    (k : ∀ v w, P1 (.inl v) w → xv_N w = n2 → xv_S w = s2 → xv_X sc d J (pc + 3) lv (v.toList ++ st) w n1 s1 P) : xv_X sc d J pc lv (as.reverse ++ .ref b :: st) u n1 s1 P := by
  intro p l e R s m args below meth c G N0 S0 Q H locs ls A0 lo hP wf hS hN hZ
  refine xv_Wsz fun hle => ?_
  have hA := id A0
  obtain ⟨hx, hb, -, hml, hown, hts, -, -, hK, hR, hs, ⟨hG, hL, -⟩, -⟩ := hA
  have hsz := xv_sz hs hN hP hS hle
  obtain ⟨m1, m2, m3, m4, m5, m6⟩ := hm
  have hcw : va_CN R s args J.1.cls index J1.1 host J1.2.1 J1.2.2.1 J1.2.2.2 (xv_w J1) (xv_rm d1 (n2 - xv_N u) (s2 - xv_S u)) (n2 - xv_N u) (s2 - xv_S u) n ∧ (Cond.instanceMethod J1.1).before args s = true ∧ (Cond.selects J1.1.cls J1.1 J1.1).before args s = true := ⟨va_cnB n hts (xv_goodw m1) rfl rfl rfl (hK.2.1 _ hl) (hts _ m4) m5 ⟨by show d1 + 1 ≤ _; omega, by show 8 + (J1.2.2.1 + 11) + 60 * d1 ≤ _; omega⟩, hts _ m2, hts _ m3⟩
  have hrun := va_runVN (b := xv_B G + b) (C := J1.1.cls) (As := as.map (xv_cv G)) (rest := st.map (xv_cv G)) (g := F0 m pc ls ((as.reverse ++ .ref b :: st).map (xv_cv G))) (H := H) (locs := locs) (cells := xv_N u - N0) (slots := xv_S u - S0) (l := l) (p := p) (e := e) (below := below) (meth := meth) ⟨hx, hb, hml, hown, hts⟩ (xv_met hM hr l G hG hL) hcw
    ⟨xv_blind G _ u, by
      obtain ⟨cell, c1, c2, c3⟩ := va_recv hK.1 hP (xv_cl_at hc) (xv_he wf hc hk)
      exact ⟨cell, c1, c2, by rw [← hci]; exact c3⟩, fun U hU hW => xv_pre hsz hP wf hK hS hU hW⟩ rfl (by rw [List.length_map]; exact hn) lo.1 (xv_stk G as b st) (by show 2 * 0 + _ ≤ 8; rw [xv_sum_cv]; omega) hdg (by have := hM.1; have := hM.2.1; omega)
  refine xv_back hrun hS (fun v w H1 locs1 g1 g2 g3 g4 g5 g6 => ?_)
  have h1 := hM.1
  have h2 := hM.2.1
  refine W.cs (cells' := xv_N w - N0) (slots' := xv_S w - S0) (by omega) (by omega) ?_
  have ee : (v.map (xv_cv G)).toList ++ st.map (xv_cv G) = (v.toList ++ st).map (xv_cv G) := by cases v <;> rfl
  rw [ee]
  exact k v w g1 g2 g3 p l e R s m args below meth c G N0 S0 Q H1 locs1 ls A0 lo g5 g4 g6 (by omega) (by omega)
theorem xv_callS {index n : Nat} (hM : xv_C sc d1 J1 as u n2 s2 P1) (hr : ∀ o w, P1 o w → ∃ v, o = .inl v) (hm : xv_mS J1 n) (hl : Cond.methodLink J.1.cls index J1.1 ∈ xv_BIG) (hn : as.length = n) (hd : d1 + 1 ≤ d) (hst : (st.map fun v => v.category).sum ≤ 8) (hdg : decode J.2.1 pc = .ok (.invokestatic index, 3)) (hw : n2 ≤ n1 ∧ s2 ≤ s1)
    (k : ∀ v w, P1 (.inl v) w → xv_N w = n2 → xv_S w = s2 → xv_X sc d J (pc + 3) lv (v.toList ++ st) w n1 s1 P) : xv_X sc d J pc lv (as.reverse ++ st) u n1 s1 P := by
  intro p l e R s m args below meth c G N0 S0 Q H locs ls A0 lo hP wf hS hN hZ
  refine xv_Wsz fun hle => ?_
  have hA := id A0
  obtain ⟨hx, hb, -, hml, hown, hts, -, -, hK, hR, hs, ⟨hG, hL, -⟩, -⟩ := hA
  have hsz := xv_sz hs hN hP hS hle
  obtain ⟨m1, m2, m4, m5, m6⟩ := hm
  have hcw : CallB R s args J.1.cls index J1.1 J1.2.1 J1.2.2.1 J1.2.2.2 (xv_w J1) (xv_rm d1 (n2 - xv_N u) (s2 - xv_S u)) (n2 - xv_N u) (s2 - xv_S u) n ∧ (Cond.static J1.1).before args s = true := ⟨callB_of n hts (xv_goodw m1) rfl rfl rfl (hts _ m4) (hts _ hl) m5 ⟨by show d1 + 1 ≤ _; omega, by show 8 + (J1.2.2.1 + 11) + 60 * d1 ≤ _; omega⟩, hts _ m2⟩
  have hrun := va_runS (As := as.map (xv_cv G)) (rest := st.map (xv_cv G)) (g := F0 m pc ls ((as.reverse ++ st).map (xv_cv G))) (H := H) (locs := locs) (cells := xv_N u - N0) (slots := xv_S u - S0) (l := l) (p := p) (e := e) (below := below) (meth := meth) ⟨hx, hb, hml, hown, hts⟩ (xv_met hM hr l G hG hL) hcw
    ⟨xv_blind G _ u, fun U hU hW => xv_pre hsz hP wf hK hS hU hW⟩ rfl (by rw [List.length_map]; exact hn) lo.1 (xv_stkS G as st) (by show 2 * 0 + _ ≤ 8; rw [xv_sum_cv]; omega) hdg (by have := hM.1; have := hM.2.1; omega)
  refine xv_back hrun hS (fun v w H1 locs1 g1 g2 g3 g4 g5 g6 => ?_)
  have h1 := hM.1
  have h2 := hM.2.1
  refine W.cs (cells' := xv_N w - N0) (slots' := xv_S w - S0) (by omega) (by omega) ?_
  have ee : (v.map (xv_cv G)).toList ++ st.map (xv_cv G) = (v.toList ++ st).map (xv_cv G) := by cases v <;> rfl
  rw [ee]
  exact k v w g1 g2 g3 p l e R s m args below meth c G N0 S0 Q H1 locs1 ls A0 lo g5 g4 g6 (by omega) (by omega)
theorem xv_callSN {index n : Nat} {host : String} (hM : xv_C sc d1 J1 as u n2 s2 P1) (hr : ∀ o w, P1 o w → ∃ v, o = .inl v) (hm : xv_mS J1 n) (hl : Cond.methodLinkNest J.1.cls index J1.1 host ∈ xv_nest) (hn : as.length = n) (hd : d1 + 1 ≤ d) (hst : (st.map fun v => v.category).sum ≤ 8) (hdg : decode J.2.1 pc = .ok (.invokestatic index, 3)) (hw : n2 ≤ n1 ∧ s2 ≤ s1)
    (k : ∀ v w, P1 (.inl v) w → xv_N w = n2 → xv_S w = s2 → xv_X sc d J (pc + 3) lv (v.toList ++ st) w n1 s1 P) : xv_X sc d J pc lv (as.reverse ++ st) u n1 s1 P := by
  intro p l e R s m args below meth c G N0 S0 Q H locs ls A0 lo hP wf hS hN hZ
  refine xv_Wsz fun hle => ?_
  have hA := id A0
  obtain ⟨hx, hb, -, hml, hown, hts, -, -, hK, hR, hs, ⟨hG, hL, -⟩, -⟩ := hA
  have hsz := xv_sz hs hN hP hS hle
  obtain ⟨m1, m2, m4, m5, m6⟩ := hm
  have hcw : va_CN R s args J.1.cls index J1.1 host J1.2.1 J1.2.2.1 J1.2.2.2 (xv_w J1) (xv_rm d1 (n2 - xv_N u) (s2 - xv_S u)) (n2 - xv_N u) (s2 - xv_S u) n ∧ (Cond.static J1.1).before args s = true ∧ True := ⟨va_cnB n hts (xv_goodw m1) rfl rfl rfl (hK.2.1 _ hl) (hts _ m4) m5 ⟨by show d1 + 1 ≤ _; omega, by show 8 + (J1.2.2.1 + 11) + 60 * d1 ≤ _; omega⟩, hts _ m2, trivial⟩
  have hrun := va_runSN (As := as.map (xv_cv G)) (rest := st.map (xv_cv G)) (g := F0 m pc ls ((as.reverse ++ st).map (xv_cv G))) (H := H) (locs := locs) (cells := xv_N u - N0) (slots := xv_S u - S0) (l := l) (p := p) (e := e) (below := below) (meth := meth) ⟨hx, hb, hml, hown, hts⟩ (xv_met hM hr l G hG hL) hcw
    ⟨xv_blind G _ u, fun U hU hW => xv_pre hsz hP wf hK hS hU hW⟩ rfl (by rw [List.length_map]; exact hn) lo.1 (xv_stkS G as st) (by show 2 * 0 + _ ≤ 8; rw [xv_sum_cv]; omega) hdg (by have := hM.1; have := hM.2.1; omega)
  refine xv_back hrun hS (fun v w H1 locs1 g1 g2 g3 g4 g5 g6 => ?_)
  have h1 := hM.1
  have h2 := hM.2.1
  refine W.cs (cells' := xv_N w - N0) (slots' := xv_S w - S0) (by omega) (by omega) ?_
  have ee : (v.map (xv_cv G)).toList ++ st.map (xv_cv G) = (v.toList ++ st).map (xv_cv G) := by cases v <;> rfl
  rw [ee]
  exact k v w g1 g2 g3 p l e R s m args below meth c G N0 S0 Q H1 locs1 ls A0 lo g5 g4 g6 (by omega) (by omega)
theorem xv_callI {b index n : Nat} (hM : xv_C sc d1 J1 (.ref b :: as) u n2 s2 P1) (hr : ∀ o w, P1 o w → ∃ v, o = .inl v) (hm : xv_mI J1 n) (hl : Cond.methodLink J.1.cls index J1.1 ∈ xv_BIG) (hn : as.length = n) (hd : d1 + 1 ≤ d) (hst : (st.map fun v => v.category).sum ≤ 8) (hdg : decode J.2.1 pc = .ok (.invokespecial index, 3)) (hw : n2 ≤ n1 ∧ s2 ≤ s1)
    (k : ∀ v w, P1 (.inl v) w → xv_N w = n2 → xv_S w = s2 → xv_X sc d J (pc + 3) lv (v.toList ++ st) w n1 s1 P) : xv_X sc d J pc lv (as.reverse ++ .ref b :: st) u n1 s1 P := by
  intro p l e R s m args below meth c G N0 S0 Q H locs ls A0 lo hP wf hS hN hZ
  refine xv_Wsz fun hle => ?_
  have hA := id A0
  obtain ⟨hx, hb, -, hml, hown, hts, -, -, hK, hR, hs, ⟨hG, hL, -⟩, -⟩ := hA
  have hsz := xv_sz hs hN hP hS hle
  obtain ⟨m1, m2, m3, m0, m4, m5, m6⟩ := hm
  have m1' : Cond.code J1.1 J1.2.1 J1.2.2.1 none ∈ xv_BIG := by rw [← m0]; exact m1
  have hwe : xv_w J1 = Cond.code J1.1 J1.2.1 J1.2.2.1 none :: xv_BIG := by unfold xv_w; rw [m0]
  have hcw : CallB R s args J.1.cls index J1.1 J1.2.1 J1.2.2.1 none (xv_w J1) (xv_rm d1 (n2 - xv_N u) (s2 - xv_S u)) (n2 - xv_N u) (s2 - xv_S u) n ∧ J1.1.name = "<init>" ∧ (Cond.instanceMethod J1.1).before args s = true := ⟨callB_of n hts (xv_goodw m1) hwe rfl rfl (hts _ m4) (hts _ hl) m5 ⟨by show d1 + 1 ≤ _; omega, by show 8 + (J1.2.2.1 + 11) + 60 * d1 ≤ _; omega⟩, m3, hts _ m2⟩
  have hrun := va_runI (b := xv_B G + b) (As := as.map (xv_cv G)) (rest := st.map (xv_cv G)) (g := F0 m pc ls ((as.reverse ++ .ref b :: st).map (xv_cv G))) (H := H) (locs := locs) (cells := xv_N u - N0) (slots := xv_S u - S0) (l := l) (p := p) (e := e) (below := below) (meth := meth) ⟨hx, hb, hml, hown, hts⟩ (xv_met hM hr l G hG hL) hcw
    ⟨xv_blind G _ u, fun U hU hW => xv_pre hsz hP wf hK hS hU hW⟩ rfl (by rw [List.length_map]; exact hn) lo.1 (xv_stk G as b st) (by show 2 * 0 + _ ≤ 8; rw [xv_sum_cv]; omega) hdg (by have := hM.1; have := hM.2.1; omega)
  refine xv_back hrun hS (fun v w H1 locs1 g1 g2 g3 g4 g5 g6 => ?_)
  have h1 := hM.1
  have h2 := hM.2.1
  refine W.cs (cells' := xv_N w - N0) (slots' := xv_S w - S0) (by omega) (by omega) ?_
  have ee : (v.map (xv_cv G)).toList ++ st.map (xv_cv G) = (v.toList ++ st).map (xv_cv G) := by cases v <;> rfl
  rw [ee]
  exact k v w g1 g2 g3 p l e R s m args below meth c G N0 S0 Q H1 locs1 ls A0 lo g5 g4 g6 (by omega) (by omega)
theorem xv_callIN {b index n : Nat} {host : String} (hM : xv_C sc d1 J1 (.ref b :: as) u n2 s2 P1) (hr : ∀ o w, P1 o w → ∃ v, o = .inl v) (hm : xv_mI J1 n) (hl : Cond.methodLinkNest J.1.cls index J1.1 host ∈ xv_nest) (hn : as.length = n) (hd : d1 + 1 ≤ d) (hst : (st.map fun v => v.category).sum ≤ 8) (hdg : decode J.2.1 pc = .ok (.invokespecial index, 3)) (hw : n2 ≤ n1 ∧ s2 ≤ s1)
    (k : ∀ v w, P1 (.inl v) w → xv_N w = n2 → xv_S w = s2 → xv_X sc d J (pc + 3) lv (v.toList ++ st) w n1 s1 P) : xv_X sc d J pc lv (as.reverse ++ .ref b :: st) u n1 s1 P := by
  intro p l e R s m args below meth c G N0 S0 Q H locs ls A0 lo hP wf hS hN hZ
  refine xv_Wsz fun hle => ?_
  have hA := id A0
  obtain ⟨hx, hb, -, hml, hown, hts, -, -, hK, hR, hs, ⟨hG, hL, -⟩, -⟩ := hA
  have hsz := xv_sz hs hN hP hS hle
  obtain ⟨m1, m2, m3, m0, m4, m5, m6⟩ := hm
  have m1' : Cond.code J1.1 J1.2.1 J1.2.2.1 none ∈ xv_BIG := by rw [← m0]; exact m1
  have hwe : xv_w J1 = Cond.code J1.1 J1.2.1 J1.2.2.1 none :: xv_BIG := by unfold xv_w; rw [m0]
  have hcw : va_CN R s args J.1.cls index J1.1 host J1.2.1 J1.2.2.1 none (xv_w J1) (xv_rm d1 (n2 - xv_N u) (s2 - xv_S u)) (n2 - xv_N u) (s2 - xv_S u) n ∧ J1.1.name = "<init>" ∧ (Cond.instanceMethod J1.1).before args s = true := ⟨va_cnB n hts (xv_goodw m1) hwe rfl rfl (hK.2.1 _ hl) (hts _ m4) m5 ⟨by show d1 + 1 ≤ _; omega, by show 8 + (J1.2.2.1 + 11) + 60 * d1 ≤ _; omega⟩, m3, hts _ m2⟩
  have hrun := va_runIN (b := xv_B G + b) (As := as.map (xv_cv G)) (rest := st.map (xv_cv G)) (g := F0 m pc ls ((as.reverse ++ .ref b :: st).map (xv_cv G))) (H := H) (locs := locs) (cells := xv_N u - N0) (slots := xv_S u - S0) (l := l) (p := p) (e := e) (below := below) (meth := meth) ⟨hx, hb, hml, hown, hts⟩ (xv_met hM hr l G hG hL) hcw
    ⟨xv_blind G _ u, fun U hU hW => xv_pre hsz hP wf hK hS hU hW⟩ rfl (by rw [List.length_map]; exact hn) lo.1 (xv_stk G as b st) (by show 2 * 0 + _ ≤ 8; rw [xv_sum_cv]; omega) hdg (by have := hM.1; have := hM.2.1; omega)
  refine xv_back hrun hS (fun v w H1 locs1 g1 g2 g3 g4 g5 g6 => ?_)
  have h1 := hM.1
  have h2 := hM.2.1
  refine W.cs (cells' := xv_N w - N0) (slots' := xv_S w - S0) (by omega) (by omega) ?_
  have ee : (v.map (xv_cv G)).toList ++ st.map (xv_cv G) = (v.toList ++ st).map (xv_cv G) := by cases v <;> rfl
  rw [ee]
  exact k v w g1 g2 g3 p l e R s m args below meth c G N0 S0 Q H1 locs1 ls A0 lo g5 g4 g6 (by omega) (by omega)
end CALLG
section CALLA
variable {sc : Nat × (Nat → Int32)} {d d1 : Nat} {J J1 : xv_J} {pc : Nat} {lv : List (Option Value)} {st as : List Value} {u : xv_M} {n1 s1 n2 s2 : Nat} {P P1 : xv_P}
theorem xv_cV0i {b ci index : Nat} {p1 : Int32 → xv_M → Prop} (hM : xv_C sc d1 J1 [.ref b] u n2 s2 (xv_pi p1)) (hm : xv_mV J1 0) (hl : Cond.methodLink J.1.cls index J1.1 ∈ xv_BIG) (hdg : decode J.2.1 pc = .ok (.invokevirtual index, 3)) (hd : d1 + 1 ≤ d) (hc : ci < xv_nc) (hci : xv_nm ci = J1.1.cls) (hk : xv_k u b = ci + 1) (hst : (st.map fun v => v.category).sum ≤ 8) (hw : n2 ≤ n1 ∧ s2 ≤ s1) (k : ∀ (r : Int32) (w : xv_M), p1 r w → xv_N w = n2 → xv_S w = s2 → xv_X sc d J (pc + 3) lv (.int r :: st) w n1 s1 P) : xv_X sc d J pc lv (.ref b :: st) u n1 s1 P := xv_callV (as := []) hM xv_pi_l hm hl rfl hd hc hci hk hst hdg hw (fun v w g1 g2 g3 => by obtain ⟨r, hr, hp⟩ := g1; cases hr; exact k r w hp g2 g3)
theorem xv_cV0v {b ci index : Nat} {p1 : xv_M → Prop} (hM : xv_C sc d1 J1 [.ref b] u n2 s2 (xv_pv p1)) (hm : xv_mV J1 0) (hl : Cond.methodLink J.1.cls index J1.1 ∈ xv_BIG) (hdg : decode J.2.1 pc = .ok (.invokevirtual index, 3)) (hd : d1 + 1 ≤ d) (hc : ci < xv_nc) (hci : xv_nm ci = J1.1.cls) (hk : xv_k u b = ci + 1) (hst : (st.map fun v => v.category).sum ≤ 8) (hw : n2 ≤ n1 ∧ s2 ≤ s1) (k : ∀ w : xv_M, p1 w → xv_N w = n2 → xv_S w = s2 → xv_X sc d J (pc + 3) lv st w n1 s1 P) : xv_X sc d J pc lv (.ref b :: st) u n1 s1 P := xv_callV (as := []) hM xv_pv_l hm hl rfl hd hc hci hk hst hdg hw (fun v w g1 g2 g3 => by obtain ⟨hr, hp⟩ := g1; cases hr; exact k w hp g2 g3)
theorem xv_cV0r {b ci index : Nat} {p1 : Nat → xv_M → Prop} (hM : xv_C sc d1 J1 [.ref b] u n2 s2 (xv_pr p1)) (hm : xv_mV J1 0) (hl : Cond.methodLink J.1.cls index J1.1 ∈ xv_BIG) (hdg : decode J.2.1 pc = .ok (.invokevirtual index, 3)) (hd : d1 + 1 ≤ d) (hc : ci < xv_nc) (hci : xv_nm ci = J1.1.cls) (hk : xv_k u b = ci + 1) (hst : (st.map fun v => v.category).sum ≤ 8) (hw : n2 ≤ n1 ∧ s2 ≤ s1) (k : ∀ (r : Nat) (w : xv_M), p1 r w → xv_N w = n2 → xv_S w = s2 → xv_X sc d J (pc + 3) lv (.ref r :: st) w n1 s1 P) : xv_X sc d J pc lv (.ref b :: st) u n1 s1 P := xv_callV (as := []) hM xv_pr_l hm hl rfl hd hc hci hk hst hdg hw (fun v w g1 g2 g3 => by obtain ⟨r, hr, hp⟩ := g1; cases hr; exact k r w hp g2 g3)
theorem xv_cV1i {b ci index : Nat} {x1 : Value} {p1 : Int32 → xv_M → Prop} (hM : xv_C sc d1 J1 [.ref b, x1] u n2 s2 (xv_pi p1)) (hm : xv_mV J1 1) (hl : Cond.methodLink J.1.cls index J1.1 ∈ xv_BIG) (hdg : decode J.2.1 pc = .ok (.invokevirtual index, 3)) (hd : d1 + 1 ≤ d) (hc : ci < xv_nc) (hci : xv_nm ci = J1.1.cls) (hk : xv_k u b = ci + 1) (hst : (st.map fun v => v.category).sum ≤ 8) (hw : n2 ≤ n1 ∧ s2 ≤ s1) (k : ∀ (r : Int32) (w : xv_M), p1 r w → xv_N w = n2 → xv_S w = s2 → xv_X sc d J (pc + 3) lv (.int r :: st) w n1 s1 P) : xv_X sc d J pc lv (x1 :: .ref b :: st) u n1 s1 P := xv_callV (as := [x1]) hM xv_pi_l hm hl rfl hd hc hci hk hst hdg hw (fun v w g1 g2 g3 => by obtain ⟨r, hr, hp⟩ := g1; cases hr; exact k r w hp g2 g3)
theorem xv_cV1v {b ci index : Nat} {x1 : Value} {p1 : xv_M → Prop} (hM : xv_C sc d1 J1 [.ref b, x1] u n2 s2 (xv_pv p1)) (hm : xv_mV J1 1) (hl : Cond.methodLink J.1.cls index J1.1 ∈ xv_BIG) (hdg : decode J.2.1 pc = .ok (.invokevirtual index, 3)) (hd : d1 + 1 ≤ d) (hc : ci < xv_nc) (hci : xv_nm ci = J1.1.cls) (hk : xv_k u b = ci + 1) (hst : (st.map fun v => v.category).sum ≤ 8) (hw : n2 ≤ n1 ∧ s2 ≤ s1) (k : ∀ w : xv_M, p1 w → xv_N w = n2 → xv_S w = s2 → xv_X sc d J (pc + 3) lv st w n1 s1 P) : xv_X sc d J pc lv (x1 :: .ref b :: st) u n1 s1 P := xv_callV (as := [x1]) hM xv_pv_l hm hl rfl hd hc hci hk hst hdg hw (fun v w g1 g2 g3 => by obtain ⟨hr, hp⟩ := g1; cases hr; exact k w hp g2 g3)
theorem xv_cV1r {b ci index : Nat} {x1 : Value} {p1 : Nat → xv_M → Prop} (hM : xv_C sc d1 J1 [.ref b, x1] u n2 s2 (xv_pr p1)) (hm : xv_mV J1 1) (hl : Cond.methodLink J.1.cls index J1.1 ∈ xv_BIG) (hdg : decode J.2.1 pc = .ok (.invokevirtual index, 3)) (hd : d1 + 1 ≤ d) (hc : ci < xv_nc) (hci : xv_nm ci = J1.1.cls) (hk : xv_k u b = ci + 1) (hst : (st.map fun v => v.category).sum ≤ 8) (hw : n2 ≤ n1 ∧ s2 ≤ s1) (k : ∀ (r : Nat) (w : xv_M), p1 r w → xv_N w = n2 → xv_S w = s2 → xv_X sc d J (pc + 3) lv (.ref r :: st) w n1 s1 P) : xv_X sc d J pc lv (x1 :: .ref b :: st) u n1 s1 P := xv_callV (as := [x1]) hM xv_pr_l hm hl rfl hd hc hci hk hst hdg hw (fun v w g1 g2 g3 => by obtain ⟨r, hr, hp⟩ := g1; cases hr; exact k r w hp g2 g3)
theorem xv_cV2i {b ci index : Nat} {x1 x2 : Value} {p1 : Int32 → xv_M → Prop} (hM : xv_C sc d1 J1 [.ref b, x1, x2] u n2 s2 (xv_pi p1)) (hm : xv_mV J1 2) (hl : Cond.methodLink J.1.cls index J1.1 ∈ xv_BIG) (hdg : decode J.2.1 pc = .ok (.invokevirtual index, 3)) (hd : d1 + 1 ≤ d) (hc : ci < xv_nc) (hci : xv_nm ci = J1.1.cls) (hk : xv_k u b = ci + 1) (hst : (st.map fun v => v.category).sum ≤ 8) (hw : n2 ≤ n1 ∧ s2 ≤ s1) (k : ∀ (r : Int32) (w : xv_M), p1 r w → xv_N w = n2 → xv_S w = s2 → xv_X sc d J (pc + 3) lv (.int r :: st) w n1 s1 P) : xv_X sc d J pc lv (x2 :: x1 :: .ref b :: st) u n1 s1 P := xv_callV (as := [x1, x2]) hM xv_pi_l hm hl rfl hd hc hci hk hst hdg hw (fun v w g1 g2 g3 => by obtain ⟨r, hr, hp⟩ := g1; cases hr; exact k r w hp g2 g3)
theorem xv_cV2v {b ci index : Nat} {x1 x2 : Value} {p1 : xv_M → Prop} (hM : xv_C sc d1 J1 [.ref b, x1, x2] u n2 s2 (xv_pv p1)) (hm : xv_mV J1 2) (hl : Cond.methodLink J.1.cls index J1.1 ∈ xv_BIG) (hdg : decode J.2.1 pc = .ok (.invokevirtual index, 3)) (hd : d1 + 1 ≤ d) (hc : ci < xv_nc) (hci : xv_nm ci = J1.1.cls) (hk : xv_k u b = ci + 1) (hst : (st.map fun v => v.category).sum ≤ 8) (hw : n2 ≤ n1 ∧ s2 ≤ s1) (k : ∀ w : xv_M, p1 w → xv_N w = n2 → xv_S w = s2 → xv_X sc d J (pc + 3) lv st w n1 s1 P) : xv_X sc d J pc lv (x2 :: x1 :: .ref b :: st) u n1 s1 P := xv_callV (as := [x1, x2]) hM xv_pv_l hm hl rfl hd hc hci hk hst hdg hw (fun v w g1 g2 g3 => by obtain ⟨hr, hp⟩ := g1; cases hr; exact k w hp g2 g3)
theorem xv_cV2r {b ci index : Nat} {x1 x2 : Value} {p1 : Nat → xv_M → Prop} (hM : xv_C sc d1 J1 [.ref b, x1, x2] u n2 s2 (xv_pr p1)) (hm : xv_mV J1 2) (hl : Cond.methodLink J.1.cls index J1.1 ∈ xv_BIG) (hdg : decode J.2.1 pc = .ok (.invokevirtual index, 3)) (hd : d1 + 1 ≤ d) (hc : ci < xv_nc) (hci : xv_nm ci = J1.1.cls) (hk : xv_k u b = ci + 1) (hst : (st.map fun v => v.category).sum ≤ 8) (hw : n2 ≤ n1 ∧ s2 ≤ s1) (k : ∀ (r : Nat) (w : xv_M), p1 r w → xv_N w = n2 → xv_S w = s2 → xv_X sc d J (pc + 3) lv (.ref r :: st) w n1 s1 P) : xv_X sc d J pc lv (x2 :: x1 :: .ref b :: st) u n1 s1 P := xv_callV (as := [x1, x2]) hM xv_pr_l hm hl rfl hd hc hci hk hst hdg hw (fun v w g1 g2 g3 => by obtain ⟨r, hr, hp⟩ := g1; cases hr; exact k r w hp g2 g3)
theorem xv_cV3i {b ci index : Nat} {x1 x2 x3 : Value} {p1 : Int32 → xv_M → Prop} (hM : xv_C sc d1 J1 [.ref b, x1, x2, x3] u n2 s2 (xv_pi p1)) (hm : xv_mV J1 3) (hl : Cond.methodLink J.1.cls index J1.1 ∈ xv_BIG) (hdg : decode J.2.1 pc = .ok (.invokevirtual index, 3)) (hd : d1 + 1 ≤ d) (hc : ci < xv_nc) (hci : xv_nm ci = J1.1.cls) (hk : xv_k u b = ci + 1) (hst : (st.map fun v => v.category).sum ≤ 8) (hw : n2 ≤ n1 ∧ s2 ≤ s1) (k : ∀ (r : Int32) (w : xv_M), p1 r w → xv_N w = n2 → xv_S w = s2 → xv_X sc d J (pc + 3) lv (.int r :: st) w n1 s1 P) : xv_X sc d J pc lv (x3 :: x2 :: x1 :: .ref b :: st) u n1 s1 P := xv_callV (as := [x1, x2, x3]) hM xv_pi_l hm hl rfl hd hc hci hk hst hdg hw (fun v w g1 g2 g3 => by obtain ⟨r, hr, hp⟩ := g1; cases hr; exact k r w hp g2 g3)
theorem xv_cV3v {b ci index : Nat} {x1 x2 x3 : Value} {p1 : xv_M → Prop} (hM : xv_C sc d1 J1 [.ref b, x1, x2, x3] u n2 s2 (xv_pv p1)) (hm : xv_mV J1 3) (hl : Cond.methodLink J.1.cls index J1.1 ∈ xv_BIG) (hdg : decode J.2.1 pc = .ok (.invokevirtual index, 3)) (hd : d1 + 1 ≤ d) (hc : ci < xv_nc) (hci : xv_nm ci = J1.1.cls) (hk : xv_k u b = ci + 1) (hst : (st.map fun v => v.category).sum ≤ 8) (hw : n2 ≤ n1 ∧ s2 ≤ s1) (k : ∀ w : xv_M, p1 w → xv_N w = n2 → xv_S w = s2 → xv_X sc d J (pc + 3) lv st w n1 s1 P) : xv_X sc d J pc lv (x3 :: x2 :: x1 :: .ref b :: st) u n1 s1 P := xv_callV (as := [x1, x2, x3]) hM xv_pv_l hm hl rfl hd hc hci hk hst hdg hw (fun v w g1 g2 g3 => by obtain ⟨hr, hp⟩ := g1; cases hr; exact k w hp g2 g3)
theorem xv_cV3r {b ci index : Nat} {x1 x2 x3 : Value} {p1 : Nat → xv_M → Prop} (hM : xv_C sc d1 J1 [.ref b, x1, x2, x3] u n2 s2 (xv_pr p1)) (hm : xv_mV J1 3) (hl : Cond.methodLink J.1.cls index J1.1 ∈ xv_BIG) (hdg : decode J.2.1 pc = .ok (.invokevirtual index, 3)) (hd : d1 + 1 ≤ d) (hc : ci < xv_nc) (hci : xv_nm ci = J1.1.cls) (hk : xv_k u b = ci + 1) (hst : (st.map fun v => v.category).sum ≤ 8) (hw : n2 ≤ n1 ∧ s2 ≤ s1) (k : ∀ (r : Nat) (w : xv_M), p1 r w → xv_N w = n2 → xv_S w = s2 → xv_X sc d J (pc + 3) lv (.ref r :: st) w n1 s1 P) : xv_X sc d J pc lv (x3 :: x2 :: x1 :: .ref b :: st) u n1 s1 P := xv_callV (as := [x1, x2, x3]) hM xv_pr_l hm hl rfl hd hc hci hk hst hdg hw (fun v w g1 g2 g3 => by obtain ⟨r, hr, hp⟩ := g1; cases hr; exact k r w hp g2 g3)
theorem xv_cV4i {b ci index : Nat} {x1 x2 x3 x4 : Value} {p1 : Int32 → xv_M → Prop} (hM : xv_C sc d1 J1 [.ref b, x1, x2, x3, x4] u n2 s2 (xv_pi p1)) (hm : xv_mV J1 4) (hl : Cond.methodLink J.1.cls index J1.1 ∈ xv_BIG) (hdg : decode J.2.1 pc = .ok (.invokevirtual index, 3)) (hd : d1 + 1 ≤ d) (hc : ci < xv_nc) (hci : xv_nm ci = J1.1.cls) (hk : xv_k u b = ci + 1) (hst : (st.map fun v => v.category).sum ≤ 8) (hw : n2 ≤ n1 ∧ s2 ≤ s1) (k : ∀ (r : Int32) (w : xv_M), p1 r w → xv_N w = n2 → xv_S w = s2 → xv_X sc d J (pc + 3) lv (.int r :: st) w n1 s1 P) : xv_X sc d J pc lv (x4 :: x3 :: x2 :: x1 :: .ref b :: st) u n1 s1 P := xv_callV (as := [x1, x2, x3, x4]) hM xv_pi_l hm hl rfl hd hc hci hk hst hdg hw (fun v w g1 g2 g3 => by obtain ⟨r, hr, hp⟩ := g1; cases hr; exact k r w hp g2 g3)
theorem xv_cV4v {b ci index : Nat} {x1 x2 x3 x4 : Value} {p1 : xv_M → Prop} (hM : xv_C sc d1 J1 [.ref b, x1, x2, x3, x4] u n2 s2 (xv_pv p1)) (hm : xv_mV J1 4) (hl : Cond.methodLink J.1.cls index J1.1 ∈ xv_BIG) (hdg : decode J.2.1 pc = .ok (.invokevirtual index, 3)) (hd : d1 + 1 ≤ d) (hc : ci < xv_nc) (hci : xv_nm ci = J1.1.cls) (hk : xv_k u b = ci + 1) (hst : (st.map fun v => v.category).sum ≤ 8) (hw : n2 ≤ n1 ∧ s2 ≤ s1) (k : ∀ w : xv_M, p1 w → xv_N w = n2 → xv_S w = s2 → xv_X sc d J (pc + 3) lv st w n1 s1 P) : xv_X sc d J pc lv (x4 :: x3 :: x2 :: x1 :: .ref b :: st) u n1 s1 P := xv_callV (as := [x1, x2, x3, x4]) hM xv_pv_l hm hl rfl hd hc hci hk hst hdg hw (fun v w g1 g2 g3 => by obtain ⟨hr, hp⟩ := g1; cases hr; exact k w hp g2 g3)
theorem xv_cV4r {b ci index : Nat} {x1 x2 x3 x4 : Value} {p1 : Nat → xv_M → Prop} (hM : xv_C sc d1 J1 [.ref b, x1, x2, x3, x4] u n2 s2 (xv_pr p1)) (hm : xv_mV J1 4) (hl : Cond.methodLink J.1.cls index J1.1 ∈ xv_BIG) (hdg : decode J.2.1 pc = .ok (.invokevirtual index, 3)) (hd : d1 + 1 ≤ d) (hc : ci < xv_nc) (hci : xv_nm ci = J1.1.cls) (hk : xv_k u b = ci + 1) (hst : (st.map fun v => v.category).sum ≤ 8) (hw : n2 ≤ n1 ∧ s2 ≤ s1) (k : ∀ (r : Nat) (w : xv_M), p1 r w → xv_N w = n2 → xv_S w = s2 → xv_X sc d J (pc + 3) lv (.ref r :: st) w n1 s1 P) : xv_X sc d J pc lv (x4 :: x3 :: x2 :: x1 :: .ref b :: st) u n1 s1 P := xv_callV (as := [x1, x2, x3, x4]) hM xv_pr_l hm hl rfl hd hc hci hk hst hdg hw (fun v w g1 g2 g3 => by obtain ⟨r, hr, hp⟩ := g1; cases hr; exact k r w hp g2 g3)
theorem xv_cV5i {b ci index : Nat} {x1 x2 x3 x4 x5 : Value} {p1 : Int32 → xv_M → Prop} (hM : xv_C sc d1 J1 [.ref b, x1, x2, x3, x4, x5] u n2 s2 (xv_pi p1)) (hm : xv_mV J1 5) (hl : Cond.methodLink J.1.cls index J1.1 ∈ xv_BIG) (hdg : decode J.2.1 pc = .ok (.invokevirtual index, 3)) (hd : d1 + 1 ≤ d) (hc : ci < xv_nc) (hci : xv_nm ci = J1.1.cls) (hk : xv_k u b = ci + 1) (hst : (st.map fun v => v.category).sum ≤ 8) (hw : n2 ≤ n1 ∧ s2 ≤ s1) (k : ∀ (r : Int32) (w : xv_M), p1 r w → xv_N w = n2 → xv_S w = s2 → xv_X sc d J (pc + 3) lv (.int r :: st) w n1 s1 P) : xv_X sc d J pc lv (x5 :: x4 :: x3 :: x2 :: x1 :: .ref b :: st) u n1 s1 P := xv_callV (as := [x1, x2, x3, x4, x5]) hM xv_pi_l hm hl rfl hd hc hci hk hst hdg hw (fun v w g1 g2 g3 => by obtain ⟨r, hr, hp⟩ := g1; cases hr; exact k r w hp g2 g3)
theorem xv_cV5v {b ci index : Nat} {x1 x2 x3 x4 x5 : Value} {p1 : xv_M → Prop} (hM : xv_C sc d1 J1 [.ref b, x1, x2, x3, x4, x5] u n2 s2 (xv_pv p1)) (hm : xv_mV J1 5) (hl : Cond.methodLink J.1.cls index J1.1 ∈ xv_BIG) (hdg : decode J.2.1 pc = .ok (.invokevirtual index, 3)) (hd : d1 + 1 ≤ d) (hc : ci < xv_nc) (hci : xv_nm ci = J1.1.cls) (hk : xv_k u b = ci + 1) (hst : (st.map fun v => v.category).sum ≤ 8) (hw : n2 ≤ n1 ∧ s2 ≤ s1) (k : ∀ w : xv_M, p1 w → xv_N w = n2 → xv_S w = s2 → xv_X sc d J (pc + 3) lv st w n1 s1 P) : xv_X sc d J pc lv (x5 :: x4 :: x3 :: x2 :: x1 :: .ref b :: st) u n1 s1 P := xv_callV (as := [x1, x2, x3, x4, x5]) hM xv_pv_l hm hl rfl hd hc hci hk hst hdg hw (fun v w g1 g2 g3 => by obtain ⟨hr, hp⟩ := g1; cases hr; exact k w hp g2 g3)
theorem xv_cV5r {b ci index : Nat} {x1 x2 x3 x4 x5 : Value} {p1 : Nat → xv_M → Prop} (hM : xv_C sc d1 J1 [.ref b, x1, x2, x3, x4, x5] u n2 s2 (xv_pr p1)) (hm : xv_mV J1 5) (hl : Cond.methodLink J.1.cls index J1.1 ∈ xv_BIG) (hdg : decode J.2.1 pc = .ok (.invokevirtual index, 3)) (hd : d1 + 1 ≤ d) (hc : ci < xv_nc) (hci : xv_nm ci = J1.1.cls) (hk : xv_k u b = ci + 1) (hst : (st.map fun v => v.category).sum ≤ 8) (hw : n2 ≤ n1 ∧ s2 ≤ s1) (k : ∀ (r : Nat) (w : xv_M), p1 r w → xv_N w = n2 → xv_S w = s2 → xv_X sc d J (pc + 3) lv (.ref r :: st) w n1 s1 P) : xv_X sc d J pc lv (x5 :: x4 :: x3 :: x2 :: x1 :: .ref b :: st) u n1 s1 P := xv_callV (as := [x1, x2, x3, x4, x5]) hM xv_pr_l hm hl rfl hd hc hci hk hst hdg hw (fun v w g1 g2 g3 => by obtain ⟨r, hr, hp⟩ := g1; cases hr; exact k r w hp g2 g3)
theorem xv_cVN0i {b ci index : Nat} {host : String} {p1 : Int32 → xv_M → Prop} (hM : xv_C sc d1 J1 [.ref b] u n2 s2 (xv_pi p1)) (hm : xv_mV J1 0) (hl : Cond.methodLinkNest J.1.cls index J1.1 host ∈ xv_nest) (hdg : decode J.2.1 pc = .ok (.invokevirtual index, 3)) (hd : d1 + 1 ≤ d) (hc : ci < xv_nc) (hci : xv_nm ci = J1.1.cls) (hk : xv_k u b = ci + 1) (hst : (st.map fun v => v.category).sum ≤ 8) (hw : n2 ≤ n1 ∧ s2 ≤ s1) (k : ∀ (r : Int32) (w : xv_M), p1 r w → xv_N w = n2 → xv_S w = s2 → xv_X sc d J (pc + 3) lv (.int r :: st) w n1 s1 P) : xv_X sc d J pc lv (.ref b :: st) u n1 s1 P := xv_callVN (as := []) hM xv_pi_l hm hl rfl hd hc hci hk hst hdg hw (fun v w g1 g2 g3 => by obtain ⟨r, hr, hp⟩ := g1; cases hr; exact k r w hp g2 g3)
theorem xv_cVN0v {b ci index : Nat} {host : String} {p1 : xv_M → Prop} (hM : xv_C sc d1 J1 [.ref b] u n2 s2 (xv_pv p1)) (hm : xv_mV J1 0) (hl : Cond.methodLinkNest J.1.cls index J1.1 host ∈ xv_nest) (hdg : decode J.2.1 pc = .ok (.invokevirtual index, 3)) (hd : d1 + 1 ≤ d) (hc : ci < xv_nc) (hci : xv_nm ci = J1.1.cls) (hk : xv_k u b = ci + 1) (hst : (st.map fun v => v.category).sum ≤ 8) (hw : n2 ≤ n1 ∧ s2 ≤ s1) (k : ∀ w : xv_M, p1 w → xv_N w = n2 → xv_S w = s2 → xv_X sc d J (pc + 3) lv st w n1 s1 P) : xv_X sc d J pc lv (.ref b :: st) u n1 s1 P := xv_callVN (as := []) hM xv_pv_l hm hl rfl hd hc hci hk hst hdg hw (fun v w g1 g2 g3 => by obtain ⟨hr, hp⟩ := g1; cases hr; exact k w hp g2 g3)
theorem xv_cVN0r {b ci index : Nat} {host : String} {p1 : Nat → xv_M → Prop} (hM : xv_C sc d1 J1 [.ref b] u n2 s2 (xv_pr p1)) (hm : xv_mV J1 0) (hl : Cond.methodLinkNest J.1.cls index J1.1 host ∈ xv_nest) (hdg : decode J.2.1 pc = .ok (.invokevirtual index, 3)) (hd : d1 + 1 ≤ d) (hc : ci < xv_nc) (hci : xv_nm ci = J1.1.cls) (hk : xv_k u b = ci + 1) (hst : (st.map fun v => v.category).sum ≤ 8) (hw : n2 ≤ n1 ∧ s2 ≤ s1) (k : ∀ (r : Nat) (w : xv_M), p1 r w → xv_N w = n2 → xv_S w = s2 → xv_X sc d J (pc + 3) lv (.ref r :: st) w n1 s1 P) : xv_X sc d J pc lv (.ref b :: st) u n1 s1 P := xv_callVN (as := []) hM xv_pr_l hm hl rfl hd hc hci hk hst hdg hw (fun v w g1 g2 g3 => by obtain ⟨r, hr, hp⟩ := g1; cases hr; exact k r w hp g2 g3)
theorem xv_cVN1i {b ci index : Nat} {host : String} {x1 : Value} {p1 : Int32 → xv_M → Prop} (hM : xv_C sc d1 J1 [.ref b, x1] u n2 s2 (xv_pi p1)) (hm : xv_mV J1 1) (hl : Cond.methodLinkNest J.1.cls index J1.1 host ∈ xv_nest) (hdg : decode J.2.1 pc = .ok (.invokevirtual index, 3)) (hd : d1 + 1 ≤ d) (hc : ci < xv_nc) (hci : xv_nm ci = J1.1.cls) (hk : xv_k u b = ci + 1) (hst : (st.map fun v => v.category).sum ≤ 8) (hw : n2 ≤ n1 ∧ s2 ≤ s1) (k : ∀ (r : Int32) (w : xv_M), p1 r w → xv_N w = n2 → xv_S w = s2 → xv_X sc d J (pc + 3) lv (.int r :: st) w n1 s1 P) : xv_X sc d J pc lv (x1 :: .ref b :: st) u n1 s1 P := xv_callVN (as := [x1]) hM xv_pi_l hm hl rfl hd hc hci hk hst hdg hw (fun v w g1 g2 g3 => by obtain ⟨r, hr, hp⟩ := g1; cases hr; exact k r w hp g2 g3)
theorem xv_cVN1v {b ci index : Nat} {host : String} {x1 : Value} {p1 : xv_M → Prop} (hM : xv_C sc d1 J1 [.ref b, x1] u n2 s2 (xv_pv p1)) (hm : xv_mV J1 1) (hl : Cond.methodLinkNest J.1.cls index J1.1 host ∈ xv_nest) (hdg : decode J.2.1 pc = .ok (.invokevirtual index, 3)) (hd : d1 + 1 ≤ d) (hc : ci < xv_nc) (hci : xv_nm ci = J1.1.cls) (hk : xv_k u b = ci + 1) (hst : (st.map fun v => v.category).sum ≤ 8) (hw : n2 ≤ n1 ∧ s2 ≤ s1) (k : ∀ w : xv_M, p1 w → xv_N w = n2 → xv_S w = s2 → xv_X sc d J (pc + 3) lv st w n1 s1 P) : xv_X sc d J pc lv (x1 :: .ref b :: st) u n1 s1 P := xv_callVN (as := [x1]) hM xv_pv_l hm hl rfl hd hc hci hk hst hdg hw (fun v w g1 g2 g3 => by obtain ⟨hr, hp⟩ := g1; cases hr; exact k w hp g2 g3)
theorem xv_cVN1r {b ci index : Nat} {host : String} {x1 : Value} {p1 : Nat → xv_M → Prop} (hM : xv_C sc d1 J1 [.ref b, x1] u n2 s2 (xv_pr p1)) (hm : xv_mV J1 1) (hl : Cond.methodLinkNest J.1.cls index J1.1 host ∈ xv_nest) (hdg : decode J.2.1 pc = .ok (.invokevirtual index, 3)) (hd : d1 + 1 ≤ d) (hc : ci < xv_nc) (hci : xv_nm ci = J1.1.cls) (hk : xv_k u b = ci + 1) (hst : (st.map fun v => v.category).sum ≤ 8) (hw : n2 ≤ n1 ∧ s2 ≤ s1) (k : ∀ (r : Nat) (w : xv_M), p1 r w → xv_N w = n2 → xv_S w = s2 → xv_X sc d J (pc + 3) lv (.ref r :: st) w n1 s1 P) : xv_X sc d J pc lv (x1 :: .ref b :: st) u n1 s1 P := xv_callVN (as := [x1]) hM xv_pr_l hm hl rfl hd hc hci hk hst hdg hw (fun v w g1 g2 g3 => by obtain ⟨r, hr, hp⟩ := g1; cases hr; exact k r w hp g2 g3)
theorem xv_cVN2i {b ci index : Nat} {host : String} {x1 x2 : Value} {p1 : Int32 → xv_M → Prop} (hM : xv_C sc d1 J1 [.ref b, x1, x2] u n2 s2 (xv_pi p1)) (hm : xv_mV J1 2) (hl : Cond.methodLinkNest J.1.cls index J1.1 host ∈ xv_nest) (hdg : decode J.2.1 pc = .ok (.invokevirtual index, 3)) (hd : d1 + 1 ≤ d) (hc : ci < xv_nc) (hci : xv_nm ci = J1.1.cls) (hk : xv_k u b = ci + 1) (hst : (st.map fun v => v.category).sum ≤ 8) (hw : n2 ≤ n1 ∧ s2 ≤ s1) (k : ∀ (r : Int32) (w : xv_M), p1 r w → xv_N w = n2 → xv_S w = s2 → xv_X sc d J (pc + 3) lv (.int r :: st) w n1 s1 P) : xv_X sc d J pc lv (x2 :: x1 :: .ref b :: st) u n1 s1 P := xv_callVN (as := [x1, x2]) hM xv_pi_l hm hl rfl hd hc hci hk hst hdg hw (fun v w g1 g2 g3 => by obtain ⟨r, hr, hp⟩ := g1; cases hr; exact k r w hp g2 g3)
theorem xv_cVN2v {b ci index : Nat} {host : String} {x1 x2 : Value} {p1 : xv_M → Prop} (hM : xv_C sc d1 J1 [.ref b, x1, x2] u n2 s2 (xv_pv p1)) (hm : xv_mV J1 2) (hl : Cond.methodLinkNest J.1.cls index J1.1 host ∈ xv_nest) (hdg : decode J.2.1 pc = .ok (.invokevirtual index, 3)) (hd : d1 + 1 ≤ d) (hc : ci < xv_nc) (hci : xv_nm ci = J1.1.cls) (hk : xv_k u b = ci + 1) (hst : (st.map fun v => v.category).sum ≤ 8) (hw : n2 ≤ n1 ∧ s2 ≤ s1) (k : ∀ w : xv_M, p1 w → xv_N w = n2 → xv_S w = s2 → xv_X sc d J (pc + 3) lv st w n1 s1 P) : xv_X sc d J pc lv (x2 :: x1 :: .ref b :: st) u n1 s1 P := xv_callVN (as := [x1, x2]) hM xv_pv_l hm hl rfl hd hc hci hk hst hdg hw (fun v w g1 g2 g3 => by obtain ⟨hr, hp⟩ := g1; cases hr; exact k w hp g2 g3)
theorem xv_cVN2r {b ci index : Nat} {host : String} {x1 x2 : Value} {p1 : Nat → xv_M → Prop} (hM : xv_C sc d1 J1 [.ref b, x1, x2] u n2 s2 (xv_pr p1)) (hm : xv_mV J1 2) (hl : Cond.methodLinkNest J.1.cls index J1.1 host ∈ xv_nest) (hdg : decode J.2.1 pc = .ok (.invokevirtual index, 3)) (hd : d1 + 1 ≤ d) (hc : ci < xv_nc) (hci : xv_nm ci = J1.1.cls) (hk : xv_k u b = ci + 1) (hst : (st.map fun v => v.category).sum ≤ 8) (hw : n2 ≤ n1 ∧ s2 ≤ s1) (k : ∀ (r : Nat) (w : xv_M), p1 r w → xv_N w = n2 → xv_S w = s2 → xv_X sc d J (pc + 3) lv (.ref r :: st) w n1 s1 P) : xv_X sc d J pc lv (x2 :: x1 :: .ref b :: st) u n1 s1 P := xv_callVN (as := [x1, x2]) hM xv_pr_l hm hl rfl hd hc hci hk hst hdg hw (fun v w g1 g2 g3 => by obtain ⟨r, hr, hp⟩ := g1; cases hr; exact k r w hp g2 g3)
theorem xv_cVN3i {b ci index : Nat} {host : String} {x1 x2 x3 : Value} {p1 : Int32 → xv_M → Prop} (hM : xv_C sc d1 J1 [.ref b, x1, x2, x3] u n2 s2 (xv_pi p1)) (hm : xv_mV J1 3) (hl : Cond.methodLinkNest J.1.cls index J1.1 host ∈ xv_nest) (hdg : decode J.2.1 pc = .ok (.invokevirtual index, 3)) (hd : d1 + 1 ≤ d) (hc : ci < xv_nc) (hci : xv_nm ci = J1.1.cls) (hk : xv_k u b = ci + 1) (hst : (st.map fun v => v.category).sum ≤ 8) (hw : n2 ≤ n1 ∧ s2 ≤ s1) (k : ∀ (r : Int32) (w : xv_M), p1 r w → xv_N w = n2 → xv_S w = s2 → xv_X sc d J (pc + 3) lv (.int r :: st) w n1 s1 P) : xv_X sc d J pc lv (x3 :: x2 :: x1 :: .ref b :: st) u n1 s1 P := xv_callVN (as := [x1, x2, x3]) hM xv_pi_l hm hl rfl hd hc hci hk hst hdg hw (fun v w g1 g2 g3 => by obtain ⟨r, hr, hp⟩ := g1; cases hr; exact k r w hp g2 g3)
theorem xv_cVN3v {b ci index : Nat} {host : String} {x1 x2 x3 : Value} {p1 : xv_M → Prop} (hM : xv_C sc d1 J1 [.ref b, x1, x2, x3] u n2 s2 (xv_pv p1)) (hm : xv_mV J1 3) (hl : Cond.methodLinkNest J.1.cls index J1.1 host ∈ xv_nest) (hdg : decode J.2.1 pc = .ok (.invokevirtual index, 3)) (hd : d1 + 1 ≤ d) (hc : ci < xv_nc) (hci : xv_nm ci = J1.1.cls) (hk : xv_k u b = ci + 1) (hst : (st.map fun v => v.category).sum ≤ 8) (hw : n2 ≤ n1 ∧ s2 ≤ s1) (k : ∀ w : xv_M, p1 w → xv_N w = n2 → xv_S w = s2 → xv_X sc d J (pc + 3) lv st w n1 s1 P) : xv_X sc d J pc lv (x3 :: x2 :: x1 :: .ref b :: st) u n1 s1 P := xv_callVN (as := [x1, x2, x3]) hM xv_pv_l hm hl rfl hd hc hci hk hst hdg hw (fun v w g1 g2 g3 => by obtain ⟨hr, hp⟩ := g1; cases hr; exact k w hp g2 g3)
theorem xv_cVN3r {b ci index : Nat} {host : String} {x1 x2 x3 : Value} {p1 : Nat → xv_M → Prop} (hM : xv_C sc d1 J1 [.ref b, x1, x2, x3] u n2 s2 (xv_pr p1)) (hm : xv_mV J1 3) (hl : Cond.methodLinkNest J.1.cls index J1.1 host ∈ xv_nest) (hdg : decode J.2.1 pc = .ok (.invokevirtual index, 3)) (hd : d1 + 1 ≤ d) (hc : ci < xv_nc) (hci : xv_nm ci = J1.1.cls) (hk : xv_k u b = ci + 1) (hst : (st.map fun v => v.category).sum ≤ 8) (hw : n2 ≤ n1 ∧ s2 ≤ s1) (k : ∀ (r : Nat) (w : xv_M), p1 r w → xv_N w = n2 → xv_S w = s2 → xv_X sc d J (pc + 3) lv (.ref r :: st) w n1 s1 P) : xv_X sc d J pc lv (x3 :: x2 :: x1 :: .ref b :: st) u n1 s1 P := xv_callVN (as := [x1, x2, x3]) hM xv_pr_l hm hl rfl hd hc hci hk hst hdg hw (fun v w g1 g2 g3 => by obtain ⟨r, hr, hp⟩ := g1; cases hr; exact k r w hp g2 g3)
theorem xv_cVN4i {b ci index : Nat} {host : String} {x1 x2 x3 x4 : Value} {p1 : Int32 → xv_M → Prop} (hM : xv_C sc d1 J1 [.ref b, x1, x2, x3, x4] u n2 s2 (xv_pi p1)) (hm : xv_mV J1 4) (hl : Cond.methodLinkNest J.1.cls index J1.1 host ∈ xv_nest) (hdg : decode J.2.1 pc = .ok (.invokevirtual index, 3)) (hd : d1 + 1 ≤ d) (hc : ci < xv_nc) (hci : xv_nm ci = J1.1.cls) (hk : xv_k u b = ci + 1) (hst : (st.map fun v => v.category).sum ≤ 8) (hw : n2 ≤ n1 ∧ s2 ≤ s1) (k : ∀ (r : Int32) (w : xv_M), p1 r w → xv_N w = n2 → xv_S w = s2 → xv_X sc d J (pc + 3) lv (.int r :: st) w n1 s1 P) : xv_X sc d J pc lv (x4 :: x3 :: x2 :: x1 :: .ref b :: st) u n1 s1 P := xv_callVN (as := [x1, x2, x3, x4]) hM xv_pi_l hm hl rfl hd hc hci hk hst hdg hw (fun v w g1 g2 g3 => by obtain ⟨r, hr, hp⟩ := g1; cases hr; exact k r w hp g2 g3)
theorem xv_cVN4v {b ci index : Nat} {host : String} {x1 x2 x3 x4 : Value} {p1 : xv_M → Prop} (hM : xv_C sc d1 J1 [.ref b, x1, x2, x3, x4] u n2 s2 (xv_pv p1)) (hm : xv_mV J1 4) (hl : Cond.methodLinkNest J.1.cls index J1.1 host ∈ xv_nest) (hdg : decode J.2.1 pc = .ok (.invokevirtual index, 3)) (hd : d1 + 1 ≤ d) (hc : ci < xv_nc) (hci : xv_nm ci = J1.1.cls) (hk : xv_k u b = ci + 1) (hst : (st.map fun v => v.category).sum ≤ 8) (hw : n2 ≤ n1 ∧ s2 ≤ s1) (k : ∀ w : xv_M, p1 w → xv_N w = n2 → xv_S w = s2 → xv_X sc d J (pc + 3) lv st w n1 s1 P) : xv_X sc d J pc lv (x4 :: x3 :: x2 :: x1 :: .ref b :: st) u n1 s1 P := xv_callVN (as := [x1, x2, x3, x4]) hM xv_pv_l hm hl rfl hd hc hci hk hst hdg hw (fun v w g1 g2 g3 => by obtain ⟨hr, hp⟩ := g1; cases hr; exact k w hp g2 g3)
theorem xv_cVN4r {b ci index : Nat} {host : String} {x1 x2 x3 x4 : Value} {p1 : Nat → xv_M → Prop} (hM : xv_C sc d1 J1 [.ref b, x1, x2, x3, x4] u n2 s2 (xv_pr p1)) (hm : xv_mV J1 4) (hl : Cond.methodLinkNest J.1.cls index J1.1 host ∈ xv_nest) (hdg : decode J.2.1 pc = .ok (.invokevirtual index, 3)) (hd : d1 + 1 ≤ d) (hc : ci < xv_nc) (hci : xv_nm ci = J1.1.cls) (hk : xv_k u b = ci + 1) (hst : (st.map fun v => v.category).sum ≤ 8) (hw : n2 ≤ n1 ∧ s2 ≤ s1) (k : ∀ (r : Nat) (w : xv_M), p1 r w → xv_N w = n2 → xv_S w = s2 → xv_X sc d J (pc + 3) lv (.ref r :: st) w n1 s1 P) : xv_X sc d J pc lv (x4 :: x3 :: x2 :: x1 :: .ref b :: st) u n1 s1 P := xv_callVN (as := [x1, x2, x3, x4]) hM xv_pr_l hm hl rfl hd hc hci hk hst hdg hw (fun v w g1 g2 g3 => by obtain ⟨r, hr, hp⟩ := g1; cases hr; exact k r w hp g2 g3)
theorem xv_cVN5i {b ci index : Nat} {host : String} {x1 x2 x3 x4 x5 : Value} {p1 : Int32 → xv_M → Prop} (hM : xv_C sc d1 J1 [.ref b, x1, x2, x3, x4, x5] u n2 s2 (xv_pi p1)) (hm : xv_mV J1 5) (hl : Cond.methodLinkNest J.1.cls index J1.1 host ∈ xv_nest) (hdg : decode J.2.1 pc = .ok (.invokevirtual index, 3)) (hd : d1 + 1 ≤ d) (hc : ci < xv_nc) (hci : xv_nm ci = J1.1.cls) (hk : xv_k u b = ci + 1) (hst : (st.map fun v => v.category).sum ≤ 8) (hw : n2 ≤ n1 ∧ s2 ≤ s1) (k : ∀ (r : Int32) (w : xv_M), p1 r w → xv_N w = n2 → xv_S w = s2 → xv_X sc d J (pc + 3) lv (.int r :: st) w n1 s1 P) : xv_X sc d J pc lv (x5 :: x4 :: x3 :: x2 :: x1 :: .ref b :: st) u n1 s1 P := xv_callVN (as := [x1, x2, x3, x4, x5]) hM xv_pi_l hm hl rfl hd hc hci hk hst hdg hw (fun v w g1 g2 g3 => by obtain ⟨r, hr, hp⟩ := g1; cases hr; exact k r w hp g2 g3)
theorem xv_cVN5v {b ci index : Nat} {host : String} {x1 x2 x3 x4 x5 : Value} {p1 : xv_M → Prop} (hM : xv_C sc d1 J1 [.ref b, x1, x2, x3, x4, x5] u n2 s2 (xv_pv p1)) (hm : xv_mV J1 5) (hl : Cond.methodLinkNest J.1.cls index J1.1 host ∈ xv_nest) (hdg : decode J.2.1 pc = .ok (.invokevirtual index, 3)) (hd : d1 + 1 ≤ d) (hc : ci < xv_nc) (hci : xv_nm ci = J1.1.cls) (hk : xv_k u b = ci + 1) (hst : (st.map fun v => v.category).sum ≤ 8) (hw : n2 ≤ n1 ∧ s2 ≤ s1) (k : ∀ w : xv_M, p1 w → xv_N w = n2 → xv_S w = s2 → xv_X sc d J (pc + 3) lv st w n1 s1 P) : xv_X sc d J pc lv (x5 :: x4 :: x3 :: x2 :: x1 :: .ref b :: st) u n1 s1 P := xv_callVN (as := [x1, x2, x3, x4, x5]) hM xv_pv_l hm hl rfl hd hc hci hk hst hdg hw (fun v w g1 g2 g3 => by obtain ⟨hr, hp⟩ := g1; cases hr; exact k w hp g2 g3)
theorem xv_cVN5r {b ci index : Nat} {host : String} {x1 x2 x3 x4 x5 : Value} {p1 : Nat → xv_M → Prop} (hM : xv_C sc d1 J1 [.ref b, x1, x2, x3, x4, x5] u n2 s2 (xv_pr p1)) (hm : xv_mV J1 5) (hl : Cond.methodLinkNest J.1.cls index J1.1 host ∈ xv_nest) (hdg : decode J.2.1 pc = .ok (.invokevirtual index, 3)) (hd : d1 + 1 ≤ d) (hc : ci < xv_nc) (hci : xv_nm ci = J1.1.cls) (hk : xv_k u b = ci + 1) (hst : (st.map fun v => v.category).sum ≤ 8) (hw : n2 ≤ n1 ∧ s2 ≤ s1) (k : ∀ (r : Nat) (w : xv_M), p1 r w → xv_N w = n2 → xv_S w = s2 → xv_X sc d J (pc + 3) lv (.ref r :: st) w n1 s1 P) : xv_X sc d J pc lv (x5 :: x4 :: x3 :: x2 :: x1 :: .ref b :: st) u n1 s1 P := xv_callVN (as := [x1, x2, x3, x4, x5]) hM xv_pr_l hm hl rfl hd hc hci hk hst hdg hw (fun v w g1 g2 g3 => by obtain ⟨r, hr, hp⟩ := g1; cases hr; exact k r w hp g2 g3)
theorem xv_cS0i {index : Nat} {p1 : Int32 → xv_M → Prop} (hM : xv_C sc d1 J1 [] u n2 s2 (xv_pi p1)) (hm : xv_mS J1 0) (hl : Cond.methodLink J.1.cls index J1.1 ∈ xv_BIG) (hdg : decode J.2.1 pc = .ok (.invokestatic index, 3)) (hd : d1 + 1 ≤ d) (hst : (st.map fun v => v.category).sum ≤ 8) (hw : n2 ≤ n1 ∧ s2 ≤ s1) (k : ∀ (r : Int32) (w : xv_M), p1 r w → xv_N w = n2 → xv_S w = s2 → xv_X sc d J (pc + 3) lv (.int r :: st) w n1 s1 P) : xv_X sc d J pc lv (st) u n1 s1 P := xv_callS (as := []) hM xv_pi_l hm hl rfl hd hst hdg hw (fun v w g1 g2 g3 => by obtain ⟨r, hr, hp⟩ := g1; cases hr; exact k r w hp g2 g3)
theorem xv_cS0v {index : Nat} {p1 : xv_M → Prop} (hM : xv_C sc d1 J1 [] u n2 s2 (xv_pv p1)) (hm : xv_mS J1 0) (hl : Cond.methodLink J.1.cls index J1.1 ∈ xv_BIG) (hdg : decode J.2.1 pc = .ok (.invokestatic index, 3)) (hd : d1 + 1 ≤ d) (hst : (st.map fun v => v.category).sum ≤ 8) (hw : n2 ≤ n1 ∧ s2 ≤ s1) (k : ∀ w : xv_M, p1 w → xv_N w = n2 → xv_S w = s2 → xv_X sc d J (pc + 3) lv st w n1 s1 P) : xv_X sc d J pc lv (st) u n1 s1 P := xv_callS (as := []) hM xv_pv_l hm hl rfl hd hst hdg hw (fun v w g1 g2 g3 => by obtain ⟨hr, hp⟩ := g1; cases hr; exact k w hp g2 g3)
theorem xv_cS0r {index : Nat} {p1 : Nat → xv_M → Prop} (hM : xv_C sc d1 J1 [] u n2 s2 (xv_pr p1)) (hm : xv_mS J1 0) (hl : Cond.methodLink J.1.cls index J1.1 ∈ xv_BIG) (hdg : decode J.2.1 pc = .ok (.invokestatic index, 3)) (hd : d1 + 1 ≤ d) (hst : (st.map fun v => v.category).sum ≤ 8) (hw : n2 ≤ n1 ∧ s2 ≤ s1) (k : ∀ (r : Nat) (w : xv_M), p1 r w → xv_N w = n2 → xv_S w = s2 → xv_X sc d J (pc + 3) lv (.ref r :: st) w n1 s1 P) : xv_X sc d J pc lv (st) u n1 s1 P := xv_callS (as := []) hM xv_pr_l hm hl rfl hd hst hdg hw (fun v w g1 g2 g3 => by obtain ⟨r, hr, hp⟩ := g1; cases hr; exact k r w hp g2 g3)
theorem xv_cS1i {index : Nat} {x1 : Value} {p1 : Int32 → xv_M → Prop} (hM : xv_C sc d1 J1 [x1] u n2 s2 (xv_pi p1)) (hm : xv_mS J1 1) (hl : Cond.methodLink J.1.cls index J1.1 ∈ xv_BIG) (hdg : decode J.2.1 pc = .ok (.invokestatic index, 3)) (hd : d1 + 1 ≤ d) (hst : (st.map fun v => v.category).sum ≤ 8) (hw : n2 ≤ n1 ∧ s2 ≤ s1) (k : ∀ (r : Int32) (w : xv_M), p1 r w → xv_N w = n2 → xv_S w = s2 → xv_X sc d J (pc + 3) lv (.int r :: st) w n1 s1 P) : xv_X sc d J pc lv (x1 :: st) u n1 s1 P := xv_callS (as := [x1]) hM xv_pi_l hm hl rfl hd hst hdg hw (fun v w g1 g2 g3 => by obtain ⟨r, hr, hp⟩ := g1; cases hr; exact k r w hp g2 g3)
theorem xv_cS1v {index : Nat} {x1 : Value} {p1 : xv_M → Prop} (hM : xv_C sc d1 J1 [x1] u n2 s2 (xv_pv p1)) (hm : xv_mS J1 1) (hl : Cond.methodLink J.1.cls index J1.1 ∈ xv_BIG) (hdg : decode J.2.1 pc = .ok (.invokestatic index, 3)) (hd : d1 + 1 ≤ d) (hst : (st.map fun v => v.category).sum ≤ 8) (hw : n2 ≤ n1 ∧ s2 ≤ s1) (k : ∀ w : xv_M, p1 w → xv_N w = n2 → xv_S w = s2 → xv_X sc d J (pc + 3) lv st w n1 s1 P) : xv_X sc d J pc lv (x1 :: st) u n1 s1 P := xv_callS (as := [x1]) hM xv_pv_l hm hl rfl hd hst hdg hw (fun v w g1 g2 g3 => by obtain ⟨hr, hp⟩ := g1; cases hr; exact k w hp g2 g3)
theorem xv_cS1r {index : Nat} {x1 : Value} {p1 : Nat → xv_M → Prop} (hM : xv_C sc d1 J1 [x1] u n2 s2 (xv_pr p1)) (hm : xv_mS J1 1) (hl : Cond.methodLink J.1.cls index J1.1 ∈ xv_BIG) (hdg : decode J.2.1 pc = .ok (.invokestatic index, 3)) (hd : d1 + 1 ≤ d) (hst : (st.map fun v => v.category).sum ≤ 8) (hw : n2 ≤ n1 ∧ s2 ≤ s1) (k : ∀ (r : Nat) (w : xv_M), p1 r w → xv_N w = n2 → xv_S w = s2 → xv_X sc d J (pc + 3) lv (.ref r :: st) w n1 s1 P) : xv_X sc d J pc lv (x1 :: st) u n1 s1 P := xv_callS (as := [x1]) hM xv_pr_l hm hl rfl hd hst hdg hw (fun v w g1 g2 g3 => by obtain ⟨r, hr, hp⟩ := g1; cases hr; exact k r w hp g2 g3)
theorem xv_cS2i {index : Nat} {x1 x2 : Value} {p1 : Int32 → xv_M → Prop} (hM : xv_C sc d1 J1 [x1, x2] u n2 s2 (xv_pi p1)) (hm : xv_mS J1 2) (hl : Cond.methodLink J.1.cls index J1.1 ∈ xv_BIG) (hdg : decode J.2.1 pc = .ok (.invokestatic index, 3)) (hd : d1 + 1 ≤ d) (hst : (st.map fun v => v.category).sum ≤ 8) (hw : n2 ≤ n1 ∧ s2 ≤ s1) (k : ∀ (r : Int32) (w : xv_M), p1 r w → xv_N w = n2 → xv_S w = s2 → xv_X sc d J (pc + 3) lv (.int r :: st) w n1 s1 P) : xv_X sc d J pc lv (x2 :: x1 :: st) u n1 s1 P := xv_callS (as := [x1, x2]) hM xv_pi_l hm hl rfl hd hst hdg hw (fun v w g1 g2 g3 => by obtain ⟨r, hr, hp⟩ := g1; cases hr; exact k r w hp g2 g3)
theorem xv_cS2v {index : Nat} {x1 x2 : Value} {p1 : xv_M → Prop} (hM : xv_C sc d1 J1 [x1, x2] u n2 s2 (xv_pv p1)) (hm : xv_mS J1 2) (hl : Cond.methodLink J.1.cls index J1.1 ∈ xv_BIG) (hdg : decode J.2.1 pc = .ok (.invokestatic index, 3)) (hd : d1 + 1 ≤ d) (hst : (st.map fun v => v.category).sum ≤ 8) (hw : n2 ≤ n1 ∧ s2 ≤ s1) (k : ∀ w : xv_M, p1 w → xv_N w = n2 → xv_S w = s2 → xv_X sc d J (pc + 3) lv st w n1 s1 P) : xv_X sc d J pc lv (x2 :: x1 :: st) u n1 s1 P := xv_callS (as := [x1, x2]) hM xv_pv_l hm hl rfl hd hst hdg hw (fun v w g1 g2 g3 => by obtain ⟨hr, hp⟩ := g1; cases hr; exact k w hp g2 g3)
theorem xv_cS2r {index : Nat} {x1 x2 : Value} {p1 : Nat → xv_M → Prop} (hM : xv_C sc d1 J1 [x1, x2] u n2 s2 (xv_pr p1)) (hm : xv_mS J1 2) (hl : Cond.methodLink J.1.cls index J1.1 ∈ xv_BIG) (hdg : decode J.2.1 pc = .ok (.invokestatic index, 3)) (hd : d1 + 1 ≤ d) (hst : (st.map fun v => v.category).sum ≤ 8) (hw : n2 ≤ n1 ∧ s2 ≤ s1) (k : ∀ (r : Nat) (w : xv_M), p1 r w → xv_N w = n2 → xv_S w = s2 → xv_X sc d J (pc + 3) lv (.ref r :: st) w n1 s1 P) : xv_X sc d J pc lv (x2 :: x1 :: st) u n1 s1 P := xv_callS (as := [x1, x2]) hM xv_pr_l hm hl rfl hd hst hdg hw (fun v w g1 g2 g3 => by obtain ⟨r, hr, hp⟩ := g1; cases hr; exact k r w hp g2 g3)
theorem xv_cS3i {index : Nat} {x1 x2 x3 : Value} {p1 : Int32 → xv_M → Prop} (hM : xv_C sc d1 J1 [x1, x2, x3] u n2 s2 (xv_pi p1)) (hm : xv_mS J1 3) (hl : Cond.methodLink J.1.cls index J1.1 ∈ xv_BIG) (hdg : decode J.2.1 pc = .ok (.invokestatic index, 3)) (hd : d1 + 1 ≤ d) (hst : (st.map fun v => v.category).sum ≤ 8) (hw : n2 ≤ n1 ∧ s2 ≤ s1) (k : ∀ (r : Int32) (w : xv_M), p1 r w → xv_N w = n2 → xv_S w = s2 → xv_X sc d J (pc + 3) lv (.int r :: st) w n1 s1 P) : xv_X sc d J pc lv (x3 :: x2 :: x1 :: st) u n1 s1 P := xv_callS (as := [x1, x2, x3]) hM xv_pi_l hm hl rfl hd hst hdg hw (fun v w g1 g2 g3 => by obtain ⟨r, hr, hp⟩ := g1; cases hr; exact k r w hp g2 g3)
theorem xv_cS3v {index : Nat} {x1 x2 x3 : Value} {p1 : xv_M → Prop} (hM : xv_C sc d1 J1 [x1, x2, x3] u n2 s2 (xv_pv p1)) (hm : xv_mS J1 3) (hl : Cond.methodLink J.1.cls index J1.1 ∈ xv_BIG) (hdg : decode J.2.1 pc = .ok (.invokestatic index, 3)) (hd : d1 + 1 ≤ d) (hst : (st.map fun v => v.category).sum ≤ 8) (hw : n2 ≤ n1 ∧ s2 ≤ s1) (k : ∀ w : xv_M, p1 w → xv_N w = n2 → xv_S w = s2 → xv_X sc d J (pc + 3) lv st w n1 s1 P) : xv_X sc d J pc lv (x3 :: x2 :: x1 :: st) u n1 s1 P := xv_callS (as := [x1, x2, x3]) hM xv_pv_l hm hl rfl hd hst hdg hw (fun v w g1 g2 g3 => by obtain ⟨hr, hp⟩ := g1; cases hr; exact k w hp g2 g3)
theorem xv_cS3r {index : Nat} {x1 x2 x3 : Value} {p1 : Nat → xv_M → Prop} (hM : xv_C sc d1 J1 [x1, x2, x3] u n2 s2 (xv_pr p1)) (hm : xv_mS J1 3) (hl : Cond.methodLink J.1.cls index J1.1 ∈ xv_BIG) (hdg : decode J.2.1 pc = .ok (.invokestatic index, 3)) (hd : d1 + 1 ≤ d) (hst : (st.map fun v => v.category).sum ≤ 8) (hw : n2 ≤ n1 ∧ s2 ≤ s1) (k : ∀ (r : Nat) (w : xv_M), p1 r w → xv_N w = n2 → xv_S w = s2 → xv_X sc d J (pc + 3) lv (.ref r :: st) w n1 s1 P) : xv_X sc d J pc lv (x3 :: x2 :: x1 :: st) u n1 s1 P := xv_callS (as := [x1, x2, x3]) hM xv_pr_l hm hl rfl hd hst hdg hw (fun v w g1 g2 g3 => by obtain ⟨r, hr, hp⟩ := g1; cases hr; exact k r w hp g2 g3)
theorem xv_cS4i {index : Nat} {x1 x2 x3 x4 : Value} {p1 : Int32 → xv_M → Prop} (hM : xv_C sc d1 J1 [x1, x2, x3, x4] u n2 s2 (xv_pi p1)) (hm : xv_mS J1 4) (hl : Cond.methodLink J.1.cls index J1.1 ∈ xv_BIG) (hdg : decode J.2.1 pc = .ok (.invokestatic index, 3)) (hd : d1 + 1 ≤ d) (hst : (st.map fun v => v.category).sum ≤ 8) (hw : n2 ≤ n1 ∧ s2 ≤ s1) (k : ∀ (r : Int32) (w : xv_M), p1 r w → xv_N w = n2 → xv_S w = s2 → xv_X sc d J (pc + 3) lv (.int r :: st) w n1 s1 P) : xv_X sc d J pc lv (x4 :: x3 :: x2 :: x1 :: st) u n1 s1 P := xv_callS (as := [x1, x2, x3, x4]) hM xv_pi_l hm hl rfl hd hst hdg hw (fun v w g1 g2 g3 => by obtain ⟨r, hr, hp⟩ := g1; cases hr; exact k r w hp g2 g3)
theorem xv_cS4v {index : Nat} {x1 x2 x3 x4 : Value} {p1 : xv_M → Prop} (hM : xv_C sc d1 J1 [x1, x2, x3, x4] u n2 s2 (xv_pv p1)) (hm : xv_mS J1 4) (hl : Cond.methodLink J.1.cls index J1.1 ∈ xv_BIG) (hdg : decode J.2.1 pc = .ok (.invokestatic index, 3)) (hd : d1 + 1 ≤ d) (hst : (st.map fun v => v.category).sum ≤ 8) (hw : n2 ≤ n1 ∧ s2 ≤ s1) (k : ∀ w : xv_M, p1 w → xv_N w = n2 → xv_S w = s2 → xv_X sc d J (pc + 3) lv st w n1 s1 P) : xv_X sc d J pc lv (x4 :: x3 :: x2 :: x1 :: st) u n1 s1 P := xv_callS (as := [x1, x2, x3, x4]) hM xv_pv_l hm hl rfl hd hst hdg hw (fun v w g1 g2 g3 => by obtain ⟨hr, hp⟩ := g1; cases hr; exact k w hp g2 g3)
theorem xv_cS4r {index : Nat} {x1 x2 x3 x4 : Value} {p1 : Nat → xv_M → Prop} (hM : xv_C sc d1 J1 [x1, x2, x3, x4] u n2 s2 (xv_pr p1)) (hm : xv_mS J1 4) (hl : Cond.methodLink J.1.cls index J1.1 ∈ xv_BIG) (hdg : decode J.2.1 pc = .ok (.invokestatic index, 3)) (hd : d1 + 1 ≤ d) (hst : (st.map fun v => v.category).sum ≤ 8) (hw : n2 ≤ n1 ∧ s2 ≤ s1) (k : ∀ (r : Nat) (w : xv_M), p1 r w → xv_N w = n2 → xv_S w = s2 → xv_X sc d J (pc + 3) lv (.ref r :: st) w n1 s1 P) : xv_X sc d J pc lv (x4 :: x3 :: x2 :: x1 :: st) u n1 s1 P := xv_callS (as := [x1, x2, x3, x4]) hM xv_pr_l hm hl rfl hd hst hdg hw (fun v w g1 g2 g3 => by obtain ⟨r, hr, hp⟩ := g1; cases hr; exact k r w hp g2 g3)
theorem xv_cS5i {index : Nat} {x1 x2 x3 x4 x5 : Value} {p1 : Int32 → xv_M → Prop} (hM : xv_C sc d1 J1 [x1, x2, x3, x4, x5] u n2 s2 (xv_pi p1)) (hm : xv_mS J1 5) (hl : Cond.methodLink J.1.cls index J1.1 ∈ xv_BIG) (hdg : decode J.2.1 pc = .ok (.invokestatic index, 3)) (hd : d1 + 1 ≤ d) (hst : (st.map fun v => v.category).sum ≤ 8) (hw : n2 ≤ n1 ∧ s2 ≤ s1) (k : ∀ (r : Int32) (w : xv_M), p1 r w → xv_N w = n2 → xv_S w = s2 → xv_X sc d J (pc + 3) lv (.int r :: st) w n1 s1 P) : xv_X sc d J pc lv (x5 :: x4 :: x3 :: x2 :: x1 :: st) u n1 s1 P := xv_callS (as := [x1, x2, x3, x4, x5]) hM xv_pi_l hm hl rfl hd hst hdg hw (fun v w g1 g2 g3 => by obtain ⟨r, hr, hp⟩ := g1; cases hr; exact k r w hp g2 g3)
theorem xv_cS5v {index : Nat} {x1 x2 x3 x4 x5 : Value} {p1 : xv_M → Prop} (hM : xv_C sc d1 J1 [x1, x2, x3, x4, x5] u n2 s2 (xv_pv p1)) (hm : xv_mS J1 5) (hl : Cond.methodLink J.1.cls index J1.1 ∈ xv_BIG) (hdg : decode J.2.1 pc = .ok (.invokestatic index, 3)) (hd : d1 + 1 ≤ d) (hst : (st.map fun v => v.category).sum ≤ 8) (hw : n2 ≤ n1 ∧ s2 ≤ s1) (k : ∀ w : xv_M, p1 w → xv_N w = n2 → xv_S w = s2 → xv_X sc d J (pc + 3) lv st w n1 s1 P) : xv_X sc d J pc lv (x5 :: x4 :: x3 :: x2 :: x1 :: st) u n1 s1 P := xv_callS (as := [x1, x2, x3, x4, x5]) hM xv_pv_l hm hl rfl hd hst hdg hw (fun v w g1 g2 g3 => by obtain ⟨hr, hp⟩ := g1; cases hr; exact k w hp g2 g3)
theorem xv_cS5r {index : Nat} {x1 x2 x3 x4 x5 : Value} {p1 : Nat → xv_M → Prop} (hM : xv_C sc d1 J1 [x1, x2, x3, x4, x5] u n2 s2 (xv_pr p1)) (hm : xv_mS J1 5) (hl : Cond.methodLink J.1.cls index J1.1 ∈ xv_BIG) (hdg : decode J.2.1 pc = .ok (.invokestatic index, 3)) (hd : d1 + 1 ≤ d) (hst : (st.map fun v => v.category).sum ≤ 8) (hw : n2 ≤ n1 ∧ s2 ≤ s1) (k : ∀ (r : Nat) (w : xv_M), p1 r w → xv_N w = n2 → xv_S w = s2 → xv_X sc d J (pc + 3) lv (.ref r :: st) w n1 s1 P) : xv_X sc d J pc lv (x5 :: x4 :: x3 :: x2 :: x1 :: st) u n1 s1 P := xv_callS (as := [x1, x2, x3, x4, x5]) hM xv_pr_l hm hl rfl hd hst hdg hw (fun v w g1 g2 g3 => by obtain ⟨r, hr, hp⟩ := g1; cases hr; exact k r w hp g2 g3)
theorem xv_cSN0i {index : Nat} {host : String} {p1 : Int32 → xv_M → Prop} (hM : xv_C sc d1 J1 [] u n2 s2 (xv_pi p1)) (hm : xv_mS J1 0) (hl : Cond.methodLinkNest J.1.cls index J1.1 host ∈ xv_nest) (hdg : decode J.2.1 pc = .ok (.invokestatic index, 3)) (hd : d1 + 1 ≤ d) (hst : (st.map fun v => v.category).sum ≤ 8) (hw : n2 ≤ n1 ∧ s2 ≤ s1) (k : ∀ (r : Int32) (w : xv_M), p1 r w → xv_N w = n2 → xv_S w = s2 → xv_X sc d J (pc + 3) lv (.int r :: st) w n1 s1 P) : xv_X sc d J pc lv (st) u n1 s1 P := xv_callSN (as := []) hM xv_pi_l hm hl rfl hd hst hdg hw (fun v w g1 g2 g3 => by obtain ⟨r, hr, hp⟩ := g1; cases hr; exact k r w hp g2 g3)
theorem xv_cSN0v {index : Nat} {host : String} {p1 : xv_M → Prop} (hM : xv_C sc d1 J1 [] u n2 s2 (xv_pv p1)) (hm : xv_mS J1 0) (hl : Cond.methodLinkNest J.1.cls index J1.1 host ∈ xv_nest) (hdg : decode J.2.1 pc = .ok (.invokestatic index, 3)) (hd : d1 + 1 ≤ d) (hst : (st.map fun v => v.category).sum ≤ 8) (hw : n2 ≤ n1 ∧ s2 ≤ s1) (k : ∀ w : xv_M, p1 w → xv_N w = n2 → xv_S w = s2 → xv_X sc d J (pc + 3) lv st w n1 s1 P) : xv_X sc d J pc lv (st) u n1 s1 P := xv_callSN (as := []) hM xv_pv_l hm hl rfl hd hst hdg hw (fun v w g1 g2 g3 => by obtain ⟨hr, hp⟩ := g1; cases hr; exact k w hp g2 g3)
theorem xv_cSN0r {index : Nat} {host : String} {p1 : Nat → xv_M → Prop} (hM : xv_C sc d1 J1 [] u n2 s2 (xv_pr p1)) (hm : xv_mS J1 0) (hl : Cond.methodLinkNest J.1.cls index J1.1 host ∈ xv_nest) (hdg : decode J.2.1 pc = .ok (.invokestatic index, 3)) (hd : d1 + 1 ≤ d) (hst : (st.map fun v => v.category).sum ≤ 8) (hw : n2 ≤ n1 ∧ s2 ≤ s1) (k : ∀ (r : Nat) (w : xv_M), p1 r w → xv_N w = n2 → xv_S w = s2 → xv_X sc d J (pc + 3) lv (.ref r :: st) w n1 s1 P) : xv_X sc d J pc lv (st) u n1 s1 P := xv_callSN (as := []) hM xv_pr_l hm hl rfl hd hst hdg hw (fun v w g1 g2 g3 => by obtain ⟨r, hr, hp⟩ := g1; cases hr; exact k r w hp g2 g3)
theorem xv_cSN1i {index : Nat} {host : String} {x1 : Value} {p1 : Int32 → xv_M → Prop} (hM : xv_C sc d1 J1 [x1] u n2 s2 (xv_pi p1)) (hm : xv_mS J1 1) (hl : Cond.methodLinkNest J.1.cls index J1.1 host ∈ xv_nest) (hdg : decode J.2.1 pc = .ok (.invokestatic index, 3)) (hd : d1 + 1 ≤ d) (hst : (st.map fun v => v.category).sum ≤ 8) (hw : n2 ≤ n1 ∧ s2 ≤ s1) (k : ∀ (r : Int32) (w : xv_M), p1 r w → xv_N w = n2 → xv_S w = s2 → xv_X sc d J (pc + 3) lv (.int r :: st) w n1 s1 P) : xv_X sc d J pc lv (x1 :: st) u n1 s1 P := xv_callSN (as := [x1]) hM xv_pi_l hm hl rfl hd hst hdg hw (fun v w g1 g2 g3 => by obtain ⟨r, hr, hp⟩ := g1; cases hr; exact k r w hp g2 g3)
theorem xv_cSN1v {index : Nat} {host : String} {x1 : Value} {p1 : xv_M → Prop} (hM : xv_C sc d1 J1 [x1] u n2 s2 (xv_pv p1)) (hm : xv_mS J1 1) (hl : Cond.methodLinkNest J.1.cls index J1.1 host ∈ xv_nest) (hdg : decode J.2.1 pc = .ok (.invokestatic index, 3)) (hd : d1 + 1 ≤ d) (hst : (st.map fun v => v.category).sum ≤ 8) (hw : n2 ≤ n1 ∧ s2 ≤ s1) (k : ∀ w : xv_M, p1 w → xv_N w = n2 → xv_S w = s2 → xv_X sc d J (pc + 3) lv st w n1 s1 P) : xv_X sc d J pc lv (x1 :: st) u n1 s1 P := xv_callSN (as := [x1]) hM xv_pv_l hm hl rfl hd hst hdg hw (fun v w g1 g2 g3 => by obtain ⟨hr, hp⟩ := g1; cases hr; exact k w hp g2 g3)
theorem xv_cSN1r {index : Nat} {host : String} {x1 : Value} {p1 : Nat → xv_M → Prop} (hM : xv_C sc d1 J1 [x1] u n2 s2 (xv_pr p1)) (hm : xv_mS J1 1) (hl : Cond.methodLinkNest J.1.cls index J1.1 host ∈ xv_nest) (hdg : decode J.2.1 pc = .ok (.invokestatic index, 3)) (hd : d1 + 1 ≤ d) (hst : (st.map fun v => v.category).sum ≤ 8) (hw : n2 ≤ n1 ∧ s2 ≤ s1) (k : ∀ (r : Nat) (w : xv_M), p1 r w → xv_N w = n2 → xv_S w = s2 → xv_X sc d J (pc + 3) lv (.ref r :: st) w n1 s1 P) : xv_X sc d J pc lv (x1 :: st) u n1 s1 P := xv_callSN (as := [x1]) hM xv_pr_l hm hl rfl hd hst hdg hw (fun v w g1 g2 g3 => by obtain ⟨r, hr, hp⟩ := g1; cases hr; exact k r w hp g2 g3)
theorem xv_cSN2i {index : Nat} {host : String} {x1 x2 : Value} {p1 : Int32 → xv_M → Prop} (hM : xv_C sc d1 J1 [x1, x2] u n2 s2 (xv_pi p1)) (hm : xv_mS J1 2) (hl : Cond.methodLinkNest J.1.cls index J1.1 host ∈ xv_nest) (hdg : decode J.2.1 pc = .ok (.invokestatic index, 3)) (hd : d1 + 1 ≤ d) (hst : (st.map fun v => v.category).sum ≤ 8) (hw : n2 ≤ n1 ∧ s2 ≤ s1) (k : ∀ (r : Int32) (w : xv_M), p1 r w → xv_N w = n2 → xv_S w = s2 → xv_X sc d J (pc + 3) lv (.int r :: st) w n1 s1 P) : xv_X sc d J pc lv (x2 :: x1 :: st) u n1 s1 P := xv_callSN (as := [x1, x2]) hM xv_pi_l hm hl rfl hd hst hdg hw (fun v w g1 g2 g3 => by obtain ⟨r, hr, hp⟩ := g1; cases hr; exact k r w hp g2 g3)
theorem xv_cSN2v {index : Nat} {host : String} {x1 x2 : Value} {p1 : xv_M → Prop} (hM : xv_C sc d1 J1 [x1, x2] u n2 s2 (xv_pv p1)) (hm : xv_mS J1 2) (hl : Cond.methodLinkNest J.1.cls index J1.1 host ∈ xv_nest) (hdg : decode J.2.1 pc = .ok (.invokestatic index, 3)) (hd : d1 + 1 ≤ d) (hst : (st.map fun v => v.category).sum ≤ 8) (hw : n2 ≤ n1 ∧ s2 ≤ s1) (k : ∀ w : xv_M, p1 w → xv_N w = n2 → xv_S w = s2 → xv_X sc d J (pc + 3) lv st w n1 s1 P) : xv_X sc d J pc lv (x2 :: x1 :: st) u n1 s1 P := xv_callSN (as := [x1, x2]) hM xv_pv_l hm hl rfl hd hst hdg hw (fun v w g1 g2 g3 => by obtain ⟨hr, hp⟩ := g1; cases hr; exact k w hp g2 g3)
theorem xv_cSN2r {index : Nat} {host : String} {x1 x2 : Value} {p1 : Nat → xv_M → Prop} (hM : xv_C sc d1 J1 [x1, x2] u n2 s2 (xv_pr p1)) (hm : xv_mS J1 2) (hl : Cond.methodLinkNest J.1.cls index J1.1 host ∈ xv_nest) (hdg : decode J.2.1 pc = .ok (.invokestatic index, 3)) (hd : d1 + 1 ≤ d) (hst : (st.map fun v => v.category).sum ≤ 8) (hw : n2 ≤ n1 ∧ s2 ≤ s1) (k : ∀ (r : Nat) (w : xv_M), p1 r w → xv_N w = n2 → xv_S w = s2 → xv_X sc d J (pc + 3) lv (.ref r :: st) w n1 s1 P) : xv_X sc d J pc lv (x2 :: x1 :: st) u n1 s1 P := xv_callSN (as := [x1, x2]) hM xv_pr_l hm hl rfl hd hst hdg hw (fun v w g1 g2 g3 => by obtain ⟨r, hr, hp⟩ := g1; cases hr; exact k r w hp g2 g3)
theorem xv_cSN3i {index : Nat} {host : String} {x1 x2 x3 : Value} {p1 : Int32 → xv_M → Prop} (hM : xv_C sc d1 J1 [x1, x2, x3] u n2 s2 (xv_pi p1)) (hm : xv_mS J1 3) (hl : Cond.methodLinkNest J.1.cls index J1.1 host ∈ xv_nest) (hdg : decode J.2.1 pc = .ok (.invokestatic index, 3)) (hd : d1 + 1 ≤ d) (hst : (st.map fun v => v.category).sum ≤ 8) (hw : n2 ≤ n1 ∧ s2 ≤ s1) (k : ∀ (r : Int32) (w : xv_M), p1 r w → xv_N w = n2 → xv_S w = s2 → xv_X sc d J (pc + 3) lv (.int r :: st) w n1 s1 P) : xv_X sc d J pc lv (x3 :: x2 :: x1 :: st) u n1 s1 P := xv_callSN (as := [x1, x2, x3]) hM xv_pi_l hm hl rfl hd hst hdg hw (fun v w g1 g2 g3 => by obtain ⟨r, hr, hp⟩ := g1; cases hr; exact k r w hp g2 g3)
theorem xv_cSN3v {index : Nat} {host : String} {x1 x2 x3 : Value} {p1 : xv_M → Prop} (hM : xv_C sc d1 J1 [x1, x2, x3] u n2 s2 (xv_pv p1)) (hm : xv_mS J1 3) (hl : Cond.methodLinkNest J.1.cls index J1.1 host ∈ xv_nest) (hdg : decode J.2.1 pc = .ok (.invokestatic index, 3)) (hd : d1 + 1 ≤ d) (hst : (st.map fun v => v.category).sum ≤ 8) (hw : n2 ≤ n1 ∧ s2 ≤ s1) (k : ∀ w : xv_M, p1 w → xv_N w = n2 → xv_S w = s2 → xv_X sc d J (pc + 3) lv st w n1 s1 P) : xv_X sc d J pc lv (x3 :: x2 :: x1 :: st) u n1 s1 P := xv_callSN (as := [x1, x2, x3]) hM xv_pv_l hm hl rfl hd hst hdg hw (fun v w g1 g2 g3 => by obtain ⟨hr, hp⟩ := g1; cases hr; exact k w hp g2 g3)
theorem xv_cSN3r {index : Nat} {host : String} {x1 x2 x3 : Value} {p1 : Nat → xv_M → Prop} (hM : xv_C sc d1 J1 [x1, x2, x3] u n2 s2 (xv_pr p1)) (hm : xv_mS J1 3) (hl : Cond.methodLinkNest J.1.cls index J1.1 host ∈ xv_nest) (hdg : decode J.2.1 pc = .ok (.invokestatic index, 3)) (hd : d1 + 1 ≤ d) (hst : (st.map fun v => v.category).sum ≤ 8) (hw : n2 ≤ n1 ∧ s2 ≤ s1) (k : ∀ (r : Nat) (w : xv_M), p1 r w → xv_N w = n2 → xv_S w = s2 → xv_X sc d J (pc + 3) lv (.ref r :: st) w n1 s1 P) : xv_X sc d J pc lv (x3 :: x2 :: x1 :: st) u n1 s1 P := xv_callSN (as := [x1, x2, x3]) hM xv_pr_l hm hl rfl hd hst hdg hw (fun v w g1 g2 g3 => by obtain ⟨r, hr, hp⟩ := g1; cases hr; exact k r w hp g2 g3)
theorem xv_cSN4i {index : Nat} {host : String} {x1 x2 x3 x4 : Value} {p1 : Int32 → xv_M → Prop} (hM : xv_C sc d1 J1 [x1, x2, x3, x4] u n2 s2 (xv_pi p1)) (hm : xv_mS J1 4) (hl : Cond.methodLinkNest J.1.cls index J1.1 host ∈ xv_nest) (hdg : decode J.2.1 pc = .ok (.invokestatic index, 3)) (hd : d1 + 1 ≤ d) (hst : (st.map fun v => v.category).sum ≤ 8) (hw : n2 ≤ n1 ∧ s2 ≤ s1) (k : ∀ (r : Int32) (w : xv_M), p1 r w → xv_N w = n2 → xv_S w = s2 → xv_X sc d J (pc + 3) lv (.int r :: st) w n1 s1 P) : xv_X sc d J pc lv (x4 :: x3 :: x2 :: x1 :: st) u n1 s1 P := xv_callSN (as := [x1, x2, x3, x4]) hM xv_pi_l hm hl rfl hd hst hdg hw (fun v w g1 g2 g3 => by obtain ⟨r, hr, hp⟩ := g1; cases hr; exact k r w hp g2 g3)
theorem xv_cSN4v {index : Nat} {host : String} {x1 x2 x3 x4 : Value} {p1 : xv_M → Prop} (hM : xv_C sc d1 J1 [x1, x2, x3, x4] u n2 s2 (xv_pv p1)) (hm : xv_mS J1 4) (hl : Cond.methodLinkNest J.1.cls index J1.1 host ∈ xv_nest) (hdg : decode J.2.1 pc = .ok (.invokestatic index, 3)) (hd : d1 + 1 ≤ d) (hst : (st.map fun v => v.category).sum ≤ 8) (hw : n2 ≤ n1 ∧ s2 ≤ s1) (k : ∀ w : xv_M, p1 w → xv_N w = n2 → xv_S w = s2 → xv_X sc d J (pc + 3) lv st w n1 s1 P) : xv_X sc d J pc lv (x4 :: x3 :: x2 :: x1 :: st) u n1 s1 P := xv_callSN (as := [x1, x2, x3, x4]) hM xv_pv_l hm hl rfl hd hst hdg hw (fun v w g1 g2 g3 => by obtain ⟨hr, hp⟩ := g1; cases hr; exact k w hp g2 g3)
theorem xv_cSN4r {index : Nat} {host : String} {x1 x2 x3 x4 : Value} {p1 : Nat → xv_M → Prop} (hM : xv_C sc d1 J1 [x1, x2, x3, x4] u n2 s2 (xv_pr p1)) (hm : xv_mS J1 4) (hl : Cond.methodLinkNest J.1.cls index J1.1 host ∈ xv_nest) (hdg : decode J.2.1 pc = .ok (.invokestatic index, 3)) (hd : d1 + 1 ≤ d) (hst : (st.map fun v => v.category).sum ≤ 8) (hw : n2 ≤ n1 ∧ s2 ≤ s1) (k : ∀ (r : Nat) (w : xv_M), p1 r w → xv_N w = n2 → xv_S w = s2 → xv_X sc d J (pc + 3) lv (.ref r :: st) w n1 s1 P) : xv_X sc d J pc lv (x4 :: x3 :: x2 :: x1 :: st) u n1 s1 P := xv_callSN (as := [x1, x2, x3, x4]) hM xv_pr_l hm hl rfl hd hst hdg hw (fun v w g1 g2 g3 => by obtain ⟨r, hr, hp⟩ := g1; cases hr; exact k r w hp g2 g3)
theorem xv_cSN5i {index : Nat} {host : String} {x1 x2 x3 x4 x5 : Value} {p1 : Int32 → xv_M → Prop} (hM : xv_C sc d1 J1 [x1, x2, x3, x4, x5] u n2 s2 (xv_pi p1)) (hm : xv_mS J1 5) (hl : Cond.methodLinkNest J.1.cls index J1.1 host ∈ xv_nest) (hdg : decode J.2.1 pc = .ok (.invokestatic index, 3)) (hd : d1 + 1 ≤ d) (hst : (st.map fun v => v.category).sum ≤ 8) (hw : n2 ≤ n1 ∧ s2 ≤ s1) (k : ∀ (r : Int32) (w : xv_M), p1 r w → xv_N w = n2 → xv_S w = s2 → xv_X sc d J (pc + 3) lv (.int r :: st) w n1 s1 P) : xv_X sc d J pc lv (x5 :: x4 :: x3 :: x2 :: x1 :: st) u n1 s1 P := xv_callSN (as := [x1, x2, x3, x4, x5]) hM xv_pi_l hm hl rfl hd hst hdg hw (fun v w g1 g2 g3 => by obtain ⟨r, hr, hp⟩ := g1; cases hr; exact k r w hp g2 g3)
theorem xv_cSN5v {index : Nat} {host : String} {x1 x2 x3 x4 x5 : Value} {p1 : xv_M → Prop} (hM : xv_C sc d1 J1 [x1, x2, x3, x4, x5] u n2 s2 (xv_pv p1)) (hm : xv_mS J1 5) (hl : Cond.methodLinkNest J.1.cls index J1.1 host ∈ xv_nest) (hdg : decode J.2.1 pc = .ok (.invokestatic index, 3)) (hd : d1 + 1 ≤ d) (hst : (st.map fun v => v.category).sum ≤ 8) (hw : n2 ≤ n1 ∧ s2 ≤ s1) (k : ∀ w : xv_M, p1 w → xv_N w = n2 → xv_S w = s2 → xv_X sc d J (pc + 3) lv st w n1 s1 P) : xv_X sc d J pc lv (x5 :: x4 :: x3 :: x2 :: x1 :: st) u n1 s1 P := xv_callSN (as := [x1, x2, x3, x4, x5]) hM xv_pv_l hm hl rfl hd hst hdg hw (fun v w g1 g2 g3 => by obtain ⟨hr, hp⟩ := g1; cases hr; exact k w hp g2 g3)
theorem xv_cSN5r {index : Nat} {host : String} {x1 x2 x3 x4 x5 : Value} {p1 : Nat → xv_M → Prop} (hM : xv_C sc d1 J1 [x1, x2, x3, x4, x5] u n2 s2 (xv_pr p1)) (hm : xv_mS J1 5) (hl : Cond.methodLinkNest J.1.cls index J1.1 host ∈ xv_nest) (hdg : decode J.2.1 pc = .ok (.invokestatic index, 3)) (hd : d1 + 1 ≤ d) (hst : (st.map fun v => v.category).sum ≤ 8) (hw : n2 ≤ n1 ∧ s2 ≤ s1) (k : ∀ (r : Nat) (w : xv_M), p1 r w → xv_N w = n2 → xv_S w = s2 → xv_X sc d J (pc + 3) lv (.ref r :: st) w n1 s1 P) : xv_X sc d J pc lv (x5 :: x4 :: x3 :: x2 :: x1 :: st) u n1 s1 P := xv_callSN (as := [x1, x2, x3, x4, x5]) hM xv_pr_l hm hl rfl hd hst hdg hw (fun v w g1 g2 g3 => by obtain ⟨r, hr, hp⟩ := g1; cases hr; exact k r w hp g2 g3)
theorem xv_cI0v {b index : Nat} {p1 : xv_M → Prop} (hM : xv_C sc d1 J1 [.ref b] u n2 s2 (xv_pv p1)) (hm : xv_mI J1 0) (hl : Cond.methodLink J.1.cls index J1.1 ∈ xv_BIG) (hdg : decode J.2.1 pc = .ok (.invokespecial index, 3)) (hd : d1 + 1 ≤ d) (hst : (st.map fun v => v.category).sum ≤ 8) (hw : n2 ≤ n1 ∧ s2 ≤ s1) (k : ∀ w : xv_M, p1 w → xv_N w = n2 → xv_S w = s2 → xv_X sc d J (pc + 3) lv st w n1 s1 P) : xv_X sc d J pc lv (.ref b :: st) u n1 s1 P := xv_callI (as := []) hM xv_pv_l hm hl rfl hd hst hdg hw (fun v w g1 g2 g3 => by obtain ⟨hr, hp⟩ := g1; cases hr; exact k w hp g2 g3)
theorem xv_cI1v {b index : Nat} {x1 : Value} {p1 : xv_M → Prop} (hM : xv_C sc d1 J1 [.ref b, x1] u n2 s2 (xv_pv p1)) (hm : xv_mI J1 1) (hl : Cond.methodLink J.1.cls index J1.1 ∈ xv_BIG) (hdg : decode J.2.1 pc = .ok (.invokespecial index, 3)) (hd : d1 + 1 ≤ d) (hst : (st.map fun v => v.category).sum ≤ 8) (hw : n2 ≤ n1 ∧ s2 ≤ s1) (k : ∀ w : xv_M, p1 w → xv_N w = n2 → xv_S w = s2 → xv_X sc d J (pc + 3) lv st w n1 s1 P) : xv_X sc d J pc lv (x1 :: .ref b :: st) u n1 s1 P := xv_callI (as := [x1]) hM xv_pv_l hm hl rfl hd hst hdg hw (fun v w g1 g2 g3 => by obtain ⟨hr, hp⟩ := g1; cases hr; exact k w hp g2 g3)
theorem xv_cI2v {b index : Nat} {x1 x2 : Value} {p1 : xv_M → Prop} (hM : xv_C sc d1 J1 [.ref b, x1, x2] u n2 s2 (xv_pv p1)) (hm : xv_mI J1 2) (hl : Cond.methodLink J.1.cls index J1.1 ∈ xv_BIG) (hdg : decode J.2.1 pc = .ok (.invokespecial index, 3)) (hd : d1 + 1 ≤ d) (hst : (st.map fun v => v.category).sum ≤ 8) (hw : n2 ≤ n1 ∧ s2 ≤ s1) (k : ∀ w : xv_M, p1 w → xv_N w = n2 → xv_S w = s2 → xv_X sc d J (pc + 3) lv st w n1 s1 P) : xv_X sc d J pc lv (x2 :: x1 :: .ref b :: st) u n1 s1 P := xv_callI (as := [x1, x2]) hM xv_pv_l hm hl rfl hd hst hdg hw (fun v w g1 g2 g3 => by obtain ⟨hr, hp⟩ := g1; cases hr; exact k w hp g2 g3)
theorem xv_cI3v {b index : Nat} {x1 x2 x3 : Value} {p1 : xv_M → Prop} (hM : xv_C sc d1 J1 [.ref b, x1, x2, x3] u n2 s2 (xv_pv p1)) (hm : xv_mI J1 3) (hl : Cond.methodLink J.1.cls index J1.1 ∈ xv_BIG) (hdg : decode J.2.1 pc = .ok (.invokespecial index, 3)) (hd : d1 + 1 ≤ d) (hst : (st.map fun v => v.category).sum ≤ 8) (hw : n2 ≤ n1 ∧ s2 ≤ s1) (k : ∀ w : xv_M, p1 w → xv_N w = n2 → xv_S w = s2 → xv_X sc d J (pc + 3) lv st w n1 s1 P) : xv_X sc d J pc lv (x3 :: x2 :: x1 :: .ref b :: st) u n1 s1 P := xv_callI (as := [x1, x2, x3]) hM xv_pv_l hm hl rfl hd hst hdg hw (fun v w g1 g2 g3 => by obtain ⟨hr, hp⟩ := g1; cases hr; exact k w hp g2 g3)
theorem xv_cI4v {b index : Nat} {x1 x2 x3 x4 : Value} {p1 : xv_M → Prop} (hM : xv_C sc d1 J1 [.ref b, x1, x2, x3, x4] u n2 s2 (xv_pv p1)) (hm : xv_mI J1 4) (hl : Cond.methodLink J.1.cls index J1.1 ∈ xv_BIG) (hdg : decode J.2.1 pc = .ok (.invokespecial index, 3)) (hd : d1 + 1 ≤ d) (hst : (st.map fun v => v.category).sum ≤ 8) (hw : n2 ≤ n1 ∧ s2 ≤ s1) (k : ∀ w : xv_M, p1 w → xv_N w = n2 → xv_S w = s2 → xv_X sc d J (pc + 3) lv st w n1 s1 P) : xv_X sc d J pc lv (x4 :: x3 :: x2 :: x1 :: .ref b :: st) u n1 s1 P := xv_callI (as := [x1, x2, x3, x4]) hM xv_pv_l hm hl rfl hd hst hdg hw (fun v w g1 g2 g3 => by obtain ⟨hr, hp⟩ := g1; cases hr; exact k w hp g2 g3)
theorem xv_cI5v {b index : Nat} {x1 x2 x3 x4 x5 : Value} {p1 : xv_M → Prop} (hM : xv_C sc d1 J1 [.ref b, x1, x2, x3, x4, x5] u n2 s2 (xv_pv p1)) (hm : xv_mI J1 5) (hl : Cond.methodLink J.1.cls index J1.1 ∈ xv_BIG) (hdg : decode J.2.1 pc = .ok (.invokespecial index, 3)) (hd : d1 + 1 ≤ d) (hst : (st.map fun v => v.category).sum ≤ 8) (hw : n2 ≤ n1 ∧ s2 ≤ s1) (k : ∀ w : xv_M, p1 w → xv_N w = n2 → xv_S w = s2 → xv_X sc d J (pc + 3) lv st w n1 s1 P) : xv_X sc d J pc lv (x5 :: x4 :: x3 :: x2 :: x1 :: .ref b :: st) u n1 s1 P := xv_callI (as := [x1, x2, x3, x4, x5]) hM xv_pv_l hm hl rfl hd hst hdg hw (fun v w g1 g2 g3 => by obtain ⟨hr, hp⟩ := g1; cases hr; exact k w hp g2 g3)
theorem xv_cIN0v {b index : Nat} {host : String} {p1 : xv_M → Prop} (hM : xv_C sc d1 J1 [.ref b] u n2 s2 (xv_pv p1)) (hm : xv_mI J1 0) (hl : Cond.methodLinkNest J.1.cls index J1.1 host ∈ xv_nest) (hdg : decode J.2.1 pc = .ok (.invokespecial index, 3)) (hd : d1 + 1 ≤ d) (hst : (st.map fun v => v.category).sum ≤ 8) (hw : n2 ≤ n1 ∧ s2 ≤ s1) (k : ∀ w : xv_M, p1 w → xv_N w = n2 → xv_S w = s2 → xv_X sc d J (pc + 3) lv st w n1 s1 P) : xv_X sc d J pc lv (.ref b :: st) u n1 s1 P := xv_callIN (as := []) hM xv_pv_l hm hl rfl hd hst hdg hw (fun v w g1 g2 g3 => by obtain ⟨hr, hp⟩ := g1; cases hr; exact k w hp g2 g3)
theorem xv_cIN1v {b index : Nat} {host : String} {x1 : Value} {p1 : xv_M → Prop} (hM : xv_C sc d1 J1 [.ref b, x1] u n2 s2 (xv_pv p1)) (hm : xv_mI J1 1) (hl : Cond.methodLinkNest J.1.cls index J1.1 host ∈ xv_nest) (hdg : decode J.2.1 pc = .ok (.invokespecial index, 3)) (hd : d1 + 1 ≤ d) (hst : (st.map fun v => v.category).sum ≤ 8) (hw : n2 ≤ n1 ∧ s2 ≤ s1) (k : ∀ w : xv_M, p1 w → xv_N w = n2 → xv_S w = s2 → xv_X sc d J (pc + 3) lv st w n1 s1 P) : xv_X sc d J pc lv (x1 :: .ref b :: st) u n1 s1 P := xv_callIN (as := [x1]) hM xv_pv_l hm hl rfl hd hst hdg hw (fun v w g1 g2 g3 => by obtain ⟨hr, hp⟩ := g1; cases hr; exact k w hp g2 g3)
theorem xv_cIN2v {b index : Nat} {host : String} {x1 x2 : Value} {p1 : xv_M → Prop} (hM : xv_C sc d1 J1 [.ref b, x1, x2] u n2 s2 (xv_pv p1)) (hm : xv_mI J1 2) (hl : Cond.methodLinkNest J.1.cls index J1.1 host ∈ xv_nest) (hdg : decode J.2.1 pc = .ok (.invokespecial index, 3)) (hd : d1 + 1 ≤ d) (hst : (st.map fun v => v.category).sum ≤ 8) (hw : n2 ≤ n1 ∧ s2 ≤ s1) (k : ∀ w : xv_M, p1 w → xv_N w = n2 → xv_S w = s2 → xv_X sc d J (pc + 3) lv st w n1 s1 P) : xv_X sc d J pc lv (x2 :: x1 :: .ref b :: st) u n1 s1 P := xv_callIN (as := [x1, x2]) hM xv_pv_l hm hl rfl hd hst hdg hw (fun v w g1 g2 g3 => by obtain ⟨hr, hp⟩ := g1; cases hr; exact k w hp g2 g3)
theorem xv_cIN3v {b index : Nat} {host : String} {x1 x2 x3 : Value} {p1 : xv_M → Prop} (hM : xv_C sc d1 J1 [.ref b, x1, x2, x3] u n2 s2 (xv_pv p1)) (hm : xv_mI J1 3) (hl : Cond.methodLinkNest J.1.cls index J1.1 host ∈ xv_nest) (hdg : decode J.2.1 pc = .ok (.invokespecial index, 3)) (hd : d1 + 1 ≤ d) (hst : (st.map fun v => v.category).sum ≤ 8) (hw : n2 ≤ n1 ∧ s2 ≤ s1) (k : ∀ w : xv_M, p1 w → xv_N w = n2 → xv_S w = s2 → xv_X sc d J (pc + 3) lv st w n1 s1 P) : xv_X sc d J pc lv (x3 :: x2 :: x1 :: .ref b :: st) u n1 s1 P := xv_callIN (as := [x1, x2, x3]) hM xv_pv_l hm hl rfl hd hst hdg hw (fun v w g1 g2 g3 => by obtain ⟨hr, hp⟩ := g1; cases hr; exact k w hp g2 g3)
theorem xv_cIN4v {b index : Nat} {host : String} {x1 x2 x3 x4 : Value} {p1 : xv_M → Prop} (hM : xv_C sc d1 J1 [.ref b, x1, x2, x3, x4] u n2 s2 (xv_pv p1)) (hm : xv_mI J1 4) (hl : Cond.methodLinkNest J.1.cls index J1.1 host ∈ xv_nest) (hdg : decode J.2.1 pc = .ok (.invokespecial index, 3)) (hd : d1 + 1 ≤ d) (hst : (st.map fun v => v.category).sum ≤ 8) (hw : n2 ≤ n1 ∧ s2 ≤ s1) (k : ∀ w : xv_M, p1 w → xv_N w = n2 → xv_S w = s2 → xv_X sc d J (pc + 3) lv st w n1 s1 P) : xv_X sc d J pc lv (x4 :: x3 :: x2 :: x1 :: .ref b :: st) u n1 s1 P := xv_callIN (as := [x1, x2, x3, x4]) hM xv_pv_l hm hl rfl hd hst hdg hw (fun v w g1 g2 g3 => by obtain ⟨hr, hp⟩ := g1; cases hr; exact k w hp g2 g3)
theorem xv_cIN5v {b index : Nat} {host : String} {x1 x2 x3 x4 x5 : Value} {p1 : xv_M → Prop} (hM : xv_C sc d1 J1 [.ref b, x1, x2, x3, x4, x5] u n2 s2 (xv_pv p1)) (hm : xv_mI J1 5) (hl : Cond.methodLinkNest J.1.cls index J1.1 host ∈ xv_nest) (hdg : decode J.2.1 pc = .ok (.invokespecial index, 3)) (hd : d1 + 1 ≤ d) (hst : (st.map fun v => v.category).sum ≤ 8) (hw : n2 ≤ n1 ∧ s2 ≤ s1) (k : ∀ w : xv_M, p1 w → xv_N w = n2 → xv_S w = s2 → xv_X sc d J (pc + 3) lv st w n1 s1 P) : xv_X sc d J pc lv (x5 :: x4 :: x3 :: x2 :: x1 :: .ref b :: st) u n1 s1 P := xv_callIN (as := [x1, x2, x3, x4, x5]) hM xv_pv_l hm hl rfl hd hst hdg hw (fun v w g1 g2 g3 => by obtain ⟨hr, hp⟩ := g1; cases hr; exact k w hp g2 g3)
end CALLA
end
section
/-! Math.max, System.arraycopy -/
section MORE
variable {sc : Nat × (Nat → Int32)} {d : Nat} {J : xv_J} {pc : Nat} {lv : List (Option Value)} {st : List Value} {u : xv_M} {n1 s1 : Nat} {P : xv_P}
theorem xv_max {index : Nat} {x y : Int32} (hdg : decode J.2.1 pc = .ok (.invokestatic index, 3)) (h1 : Cond.methodLink J.1.cls index Lib.Math.max.name ∈ xv_BIG) (h2 : Cond.static Lib.Math.max.name ∈ xv_BIG) (h3 : Cond.initialized "java/lang/Math" ∈ xv_BIG) (h4 : Cond.code Lib.Math.max.name Lib.Math.max.code 2 (some .int) ∈ xv_BIG) (hd : 1 ≤ d) (hst : (st.map fun v => v.category).sum ≤ 8) (hn : xv_N u ≤ n1 ∧ xv_S u ≤ s1)
    (k : xv_X sc d J (pc + 3) lv (.int (if x < y then y else x) :: st) u n1 s1 P) : xv_X sc d J pc lv (.int y :: .int x :: st) u n1 s1 P := by
  intro p l e R s m args below meth c G N0 S0 Q H locs ls A0 lo hP wf hS hN hZ
  have hA := id A0
  obtain ⟨hx, hb, -, hml, hown, hts, -, -, hK, hR, hs, -⟩ := hA
  exact va_mmax hx hb (by rw [hml]; exact lo.1.symm) hown (hts _ h1) (hts _ h2) (hts _ h3) (hts _ h4) (by omega) (by rw [xv_sum_cv]; omega) (by omega) (by omega) hdg (k p l e R s m args below meth c G N0 S0 Q H locs ls A0 lo hP wf hS hN hZ)
theorem xv_nfw : nativeFrameWords "java/lang/System" "arraycopy" 5 + 11 ≤ 50 := by decide +kernel
theorem xv_copy {a b index : Nat} {sp dp n : Int32} (hdg : decode J.2.1 pc = .ok (.invokestatic index, 3)) (h1 : Cond.methodLink J.1.cls index arraycopyName ∈ xv_BIG) (h2 : Cond.native arraycopyName ∈ xv_BIG) (h3 : Cond.static arraycopyName ∈ xv_BIG) (h4 : Cond.initialized "java/lang/System" ∈ xv_BIG) (hd : 1 ≤ d) (hst : (st.map fun v => v.category).sum ≤ 8)
    (ha : xv_k u a = 100) (hb' : xv_k u b = 100) (g1 : ¬ sp < 0) (g2 : ¬ dp < 0) (g3 : ¬ n < 0) (g4 : sp.toNatClampNeg + n.toNatClampNeg ≤ xv_l u a) (g5 : dp.toNatClampNeg + n.toNatClampNeg ≤ xv_l u b)
    (k : xv_X sc d J (pc + 3) lv st (xv_sw u b (va_cpy (xv_i u a) (xv_i u b) sp.toNatClampNeg dp.toNatClampNeg n.toNatClampNeg)) n1 s1 P) : xv_X sc d J pc lv (.int n :: .int dp :: .ref b :: .int sp :: .ref a :: st) u n1 s1 P := by
  intro p l e R s m args below meth c G N0 S0 Q H locs ls A0 lo hP wf hS hN hZ
  have hA := id A0
  obtain ⟨hx, hb, -, hml, hown, hts, -, -, hK, hR, hs, -⟩ := hA
  have hw := xv_nfw
  refine va_copyi (ty := .int) hx hb (by rw [hml]; exact lo.1.symm) hown (hts _ h1) (hts _ h2) (hts _ h3) (hts _ h4) hK.1 hP (xv_D G u) hS a b 0 0 (xv_hi (t := 0) wf (by omega) ha) (xv_hi (t := 0) wf (by omega) hb') rfl rfl rfl g1 g2 g3 g4 g5 (fun i _ => rfl) (by omega) (by rw [xv_sum_cv]; omega) hdg (fun H1 locs1 hP1 _ hS1 => ?_)
  have e1 : (xv_ws G u).set b (xv_B G + b, .inl (xv_cA G 0, xv_l u b, .inl (va_cpy (xv_i u a) (xv_i u b) sp.toNatClampNeg dp.toNatClampNeg n.toNatClampNeg))) = xv_ws G (xv_sw u b (va_cpy (xv_i u a) (xv_i u b) sp.toNatClampNeg dp.toNatClampNeg n.toNatClampNeg)) := by
    refine xv_ws_set rfl ?_ (fun q hq => xv_sw_E hq)
    rw [xv_E_int (t := 0) (u := xv_sw u b (va_cpy (xv_i u a) (xv_i u b) sp.toNatClampNeg dp.toNatClampNeg n.toNatClampNeg)) hb' (by omega)]
    have ef : xv_i (xv_sw u b (va_cpy (xv_i u a) (xv_i u b) sp.toNatClampNeg dp.toNatClampNeg n.toNatClampNeg)) b = va_cpy (xv_i u a) (xv_i u b) sp.toNatClampNeg dp.toNatClampNeg n.toNatClampNeg := by
      funext q
      exact if_pos rfl
    rw [ef]
    rfl
  rw [e1] at hP1
  exact k p l e R s m args below meth c G N0 S0 Q H1 locs1 ls A0 lo hP1 (xv_wf_sw wf) hS1 hN hZ
end MORE
end
section
/-! pure rows on memories -/
theorem xv_ne {u : xv_M} {a b i j : Nat} (h1 : xv_k u a = i) (h2 : xv_k u b = j) (h : i ≠ j) : a ≠ b := fun e => h (by rw [← h1, ← h2, e])
theorem xv_si_ne {u : xv_M} {a j b q : Nat} {v : Int32} (h : b ≠ a) : xv_i (xv_si u a j v) b q = xv_i u b q := if_neg (fun z => h z.1)
theorem xv_si_nj {u : xv_M} {a j b q : Nat} {v : Int32} (h : q ≠ j) : xv_i (xv_si u a j v) b q = xv_i u b q := if_neg (fun z => h z.2)
theorem xv_si_eq {u : xv_M} {a j : Nat} {v : Int32} : xv_i (xv_si u a j v) a j = v := if_pos ⟨rfl, rfl⟩
theorem xv_sw_ne {u : xv_M} {a b q : Nat} {f : Nat → Int32} (h : b ≠ a) : xv_i (xv_sw u a f) b q = xv_i u b q := if_neg h
theorem xv_sw_eq {u : xv_M} {a q : Nat} {f : Nat → Int32} : xv_i (xv_sw u a f) a q = f q := if_pos rfl
theorem xv_cat1 {l : List Value} (h : l.all (fun v => v.category == 1) = true) : ∀ v ∈ l, v.category = 1 := fun v hv => by
  have := List.all_eq_true.mp h v hv
  simpa using this
/-! switches -/
theorem xv_tableTo {sc : Nat × (Nat → Int32)} {d : Nat} {J : xv_J} {pc : Nat} {lv : List (Option Value)} {st : List Value} {u : xv_M} {n1 s1 : Nat} {P : xv_P} {dflt lo hi : Int} {offs : Array Int} {len : Nat} {x : Int32} (tgt : Nat) (ks : List Int) (hdg : decode J.2.1 pc = .ok (.tableswitch dflt lo hi offs, len)) (hd : (pc : Int) + dflt = (tgt : Int)) (hs : lo + offs.size = hi + 1)
    (hc : (List.range offs.size).all (fun i => decide ((pc : Int) + offs.getD i 0 = (tgt : Int)) || ks.contains (lo + i)) = true) (hx : ∀ k ∈ ks, ¬ x.toInt = k) (k : xv_X sc d J tgt lv st u n1 s1 P) : xv_X sc d J pc lv (.int x :: st) u n1 s1 P := by
  by_cases h1 : x.toInt < lo
  · exact xv_tableOut tgt hdg (Or.inl h1) hd k
  · by_cases h2 : hi < x.toInt
    · exact xv_tableOut tgt hdg (Or.inr h2) hd k
    · have hi' : (x.toInt - lo).toNat < offs.size := by omega
      have h3 := List.all_eq_true.mp hc _ (List.mem_range.mpr hi')
      have e1 : lo + ((x.toInt - lo).toNat : Int) = x.toInt := by omega
      rw [e1] at h3
      have h4 : ¬ ks.contains x.toInt = true := fun q => hx _ (List.contains_iff_mem.mp q) rfl
      have h5 : (pc : Int) + offs.getD (x.toInt - lo).toNat 0 = (tgt : Int) := by
        rcases Bool.or_eq_true_iff.mp h3 with h3 | h3
        · exact of_decide_eq_true h3
        · exact absurd h3 h4
      refine xv_tableIn (off := offs.getD (x.toInt - lo).toNat 0) tgt hdg h1 h2 ?_ h5 k
      rw [Array.getD_eq_getD_getElem?, Array.getElem?_eq_getElem hi']
      rfl
/-! within -/
def xw (v l m : Int32) : Int32 := if l ≤ v ∧ v ≤ m then 1 else 0
theorem xw_and (v l m : Int32) : xw v l m &&& 1 = xw v l m := by unfold xw; split <;> decide
theorem c_Desk_within {sc : Nat × (Nat → Int32)} {u : xv_M} {v l m : Int32} : xv_C sc 0 J_Desk_within [.int v, .int l, .int m] u (xv_N u) (xv_S u) (xv_pi (fun r w => r = xw v l m ∧ w = u)) := by
  refine xv_C_of (by decide) (Nat.le_refl _) (Nat.le_refl _) (xv_cat1 rfl) (Nat.le_of_ble_eq_true rfl) ?_
  show xv_X sc 0 J_Desk_within 0 [some (.int v), some (.int l), some (.int m)] [] u (xv_N u) (xv_S u) _
  refine xv_iload_n (pc := 0) d_Desk_within_0 rfl rfl ?_
  refine xv_iload_n (pc := 1) d_Desk_within_1 rfl rfl ?_
  refine xv_icmp_lt (pc := 2) 14 d_Desk_within_2 (by decide) (fun h2 => ?_) (fun h2 => ?_)
  · refine xv_iconst (pc := 14) 0 d_Desk_within_14 (by decide) ?_
    exact xv_retzq (pc := 15) d_Desk_within_15 rfl (by decide) rfl rfl ⟨_, rfl, by unfold xw; rw [if_neg (fun q => absurd h2 (Int32.not_lt.mpr q.1))], rfl⟩
  · refine xv_iload_n (pc := 5) d_Desk_within_5 rfl rfl ?_
    refine xv_iload_n (pc := 6) d_Desk_within_6 rfl rfl ?_
    refine xv_icmp_gt (pc := 7) 14 d_Desk_within_7 (by decide) (fun h7 => ?_) (fun h7 => ?_)
    · refine xv_iconst (pc := 14) 0 d_Desk_within_14 (by decide) ?_
      exact xv_retzq (pc := 15) d_Desk_within_15 rfl (by decide) rfl rfl ⟨_, rfl, by unfold xw; rw [if_neg (fun q => absurd h7 (Int32.not_lt.mpr q.2))], rfl⟩
    · refine xv_iconst (pc := 10) 1 d_Desk_within_10 (by decide) ?_
      refine xv_goto (pc := 11) 15 d_Desk_within_11 (by decide) ?_
      exact xv_retzq (pc := 15) d_Desk_within_15 rfl (by decide) rfl rfl ⟨_, rfl, by unfold xw; rw [if_pos ⟨Int32.not_lt.mp h2, Int32.not_lt.mp h7⟩], rfl⟩
end
section
/-! throwing -/
section THROW
variable {p : Program} {l : Launch} {e : Env} {R : Room} {s : State} {m : MethodId} {args : Array Value} {below : List Frame} {meth : Method} {c : Code} {locs : List Loc} {cells slots : Nat}
/-- the walk seen from where it stands: as if it had begun there -/
theorem xv_anew {T : State} (X : Stand p l e R s m args below meth c T locs cells slots) {R' : Room} (hf : R'.frames ≤ R.frames) (hl : R'.locals ≤ R.locals) (hc : cells + R'.cells ≤ R.cells) (hs : slots + R'.slots ≤ R.slots) :
    Stand p l e R' ((T.setVm s.vm).setFrames (.invoking m args :: below)) m args below meth c T [] 0 0 := by
  have htop : (T.setVm s.vm).topJava?.isSome := X.here.top
  have hF : ((T.setVm s.vm).setFrames (.invoking m args :: below)).frames = .invoking m args :: below := State.frames_setFrames _ (State.cur_lt_of_top htop)
  obtain ⟨g₀, hg0⟩ := Option.isSome_iff_exists.mp htop
  obtain ⟨r, hr⟩ := State.topJava?_eq_some.mp hg0
  have hlim : e.platform.stackLimits (T.setVm s.vm).me = e.platform.stackLimits s.me := X.limits
  have hbyt : (T.setVm s.vm).me.stackBytes = s.me.stackBytes := X.bytes
  have hnil : T.heap.toList.drop T.heap.size = [] := List.drop_eq_nil_of_le (Nat.le_of_eq Array.length_toList)
  refine ⟨X.admits, X.cas, X.clock, hF, ?_, X.hears, X.method, X.code, X.here, X.tail, X.warmed, by rw [State.stackLimits_setFrames]; rfl, by rw [State.stackBytes_setFrames]; rfl, ?_⟩
  · have h := X.room
    have hU : ((T.setVm s.vm).setFrames (.invoking m args :: below)).localsInUse = s.localsInUse := by
      rw [State.localsInUse_invoking hF (meth := meth) (c := c) X.method X.code, State.localsInUse_invoking X.frames X.method X.code]
    simp only [State.hasRoom, Bool.and_eq_true, decide_eq_true_eq] at h ⊢
    obtain ⟨⟨⟨⟨h1, h2, h3, h4, h5, h6⟩, h7⟩, h8⟩, h9⟩ := h
    rw [X.frames, List.length_cons] at h2 h3
    have q1 := X.heapSize
    have q2 := X.used
    simp only [hF, hU, List.length_cons, State.stackLimits_setFrames, State.stackBytes_setFrames, hlim, hbyt]
    refine ⟨⟨⟨⟨by omega, by omega, by omega, by omega, by omega, h6⟩, ?_⟩, ?_⟩, X.book⟩
    · show T.heap.size + R'.cells ≤ e.platform.maxCells
      omega
    · show T.slotsUsed + R'.slots ≤ e.platform.maxSlots
      omega
  · refine ⟨?_, Nat.le_refl _, Nat.le_refl _, ?_, ?_, fun a c9 h9 => ⟨c9, h9, rfl, rfl, fun _ _ => rfl⟩⟩
    · obtain ⟨t, ht, -⟩ := State.frames_cons hr
      show T.setVm s.vm = { ((T.setVm s.vm).setFrames (.invoking m args :: below)).setFrames (T.setVm s.vm).frames with heap := T.heap, slotsUsed := T.slotsUsed }
      rw [State.setFrames_setFrames, State.setFrames_self ht]
      rfl
    · show T.slotsUsed = T.slotsUsed + ((T.heap.toList.drop T.heap.size).map (·.slots.size)).sum
      rw [hnil]
      rfl
    · show ((T.heap.toList.drop T.heap.size).map (·.slots.size)).sum ≤ 0
      rw [hnil]
      exact Nat.le_refl _
theorem xv_old {U : State} {k n : Nat} (h : s.sameButNew ({ U with vm := s.vm } : State) [] k n) : s.heap.size ≤ U.heap.size ∧ ∀ q : Nat, q < s.heap.size → U.heap[q]? = s.heap[q]? := by
  obtain ⟨-, h2, -, -, -, h6⟩ := h
  refine ⟨h2, fun q hq => ?_⟩
  obtain ⟨c9, e1, e2, e3, e4⟩ := h6 q _ (Array.getElem?_eq_getElem hq)
  have hs : c9.slots = (s.heap[q]).slots := Array.ext_getElem? fun i => e4 i (fun hm => nomatch hm)
  have h9 : c9 = s.heap[q] := by
    rw [hs] at e2
    exact e2
  have e5 : U.heap[q]? = some c9 := e1
  rw [e5, h9, Array.getElem?_eq_getElem hq]
end THROW
theorem xv_atoms {G : xv_G} {U : State} {args : Array Value} {own cls : String} {ic : Nat} (hT : xv_Th G U U.heap) (hs : (own, ic, cls) ∈ xv_sites) : ∀ w ∈ Bundle.ownAtoms own ic cls xv_names, w.before args U = true := by
  obtain ⟨h1, ⟨h2, h3⟩, ⟨h4, h5⟩, -⟩ := hT
  intro w hw
  by_cases hn : xNo w = true
  · have hm : w ∈ xv_thw := List.mem_flatMap.mpr ⟨_, hs, List.mem_filter.mpr ⟨hw, hn⟩⟩
    exact va_Nw.use (xv_thw_ok w hm).1 (h1 w hm)
  · have key : ∀ w ∈ Bundle.ownAtoms own ic cls xv_names, xNo w = false → w = .isRef (.static Bundle.tN "UNASSIGNED_STACK" Bundle.steD) ∨ w = .isRef (.static Bundle.tN "SUPPRESSED_SENTINEL" Bundle.listD) ∨ w = .laysStatic Bundle.tN "UNASSIGNED_STACK" Bundle.steD ∨ w = .laysStatic Bundle.tN "SUPPRESSED_SENTINEL" Bundle.listD := by
      have : ∀ q ∈ xv_sites, ∀ w ∈ Bundle.ownAtoms q.1 q.2.1 q.2.2 xv_names, xNo w = false → w = .isRef (.static Bundle.tN "UNASSIGNED_STACK" Bundle.steD) ∨ w = .isRef (.static Bundle.tN "SUPPRESSED_SENTINEL" Bundle.listD) ∨ w = .laysStatic Bundle.tN "UNASSIGNED_STACK" Bundle.steD ∨ w = .laysStatic Bundle.tN "SUPPRESSED_SENTINEL" Bundle.listD := by decide +kernel
      exact this _ hs
    have hf : xNo w = false := by cases h : xNo w <;> first | rfl | exact absurd h hn
    rcases key w hw hf with rfl | rfl | rfl | rfl
    · exact xv_isR h2
    · exact xv_isR h4
    · exact xv_SL_word h3
    · exact xv_SL_word h5
set_option maxHeartbeats 1000000 in
theorem xv_throw {sc : Nat × (Nat → Int32)} {d : Nat} {J : xv_J} {pc : Nat} {lv : List (Option Value)} {st : List Value} {u : xv_M} {n1 s1 : Nat} {P : xv_P} {k ic ik is : Nat} {text : String} (hk : k < xv_nc) (hnf : xv_nf k = 0) (hsite : (J.1.cls, ic, xv_nm k) ∈ xv_sites) (hstr : (J.1.cls, is, text) ∈ xv_strs) (hl : Cond.classLink J.1.cls ik (xv_nm k) ∈ xv_BIG) (hi : Cond.initialized (xv_nm k) ∈ xv_BIG) (hins : Cond.instantiable (xv_nm k) 6 ∈ xv_BIG) (hfit : Bundle.fit (xv_nm k) = true)
    (d0 : decode J.2.1 pc = .ok (.new ik, 3)) (d3 : decode J.2.1 (pc + 3) = .ok (.dup, 1)) (d4 : decode J.2.1 (pc + 4) = .ok (.ldc is, 2)) (d6 : decode J.2.1 (pc + 6) = .ok (.invokespecial ic, 3)) (d9 : decode J.2.1 (pc + 9) = .ok (.athrow, 1))
    (hd : 6 ≤ d) (hst : (st.map fun v => v.category).sum ≤ 8) (hN1 : xv_N u + 1 ≤ n1) (hS1 : xv_S u + 6 ≤ s1) (hp : P (.inr (k, xv_N u)) (xv_nw u (k + 1) 0 6)) : xv_X sc d J pc lv st u n1 s1 P := by
  intro p l e R s m args below meth c G N0 S0 Q H locs ls A0 lo hP wf hS hN hZ
  refine xv_Wsz fun hle => ?_
  have hA := id A0
  obtain ⟨hexec, hb, -, hml, hown, hts, hlocks, -, hK, hR, hs, ⟨-, hL, hex⟩, hfin⟩ := hA
  have hsz := xv_sz hs hN hP hS hle
  intro T hT X
  have htr : e.platform.stackTraces = false := hL e X.admits
  have Y := xv_anew X (R' := { frames := R.frames, locals := R.locals, cells := 1, slots := 6 }) (Nat.le_refl _) (Nat.le_refl _) (by show xv_N u - N0 + 1 ≤ _; omega) (by show xv_S u - S0 + 6 ≤ _; omega)
  obtain ⟨s', hA'⟩ : ∃ z, z = (T.setVm s.vm).setFrames (.invoking m args :: below) := ⟨_, rfl⟩
  rw [← hA'] at Y
  have hvm : s'.vm = s.vm := by rw [hA']; rfl
  have hhp : s'.heap = H := by rw [hA']; exact hT
  have hW0 : s.WarmedH s'.vm := by rw [hvm]; exact State.WarmedH.refl s
  have hTh : xv_Th G s' s'.heap := by rw [hhp]; exact xv_Th_moved hW0 hK.2.2.2.2.2.2 hS.2.1
  have hat : ∀ w ∈ Bundle.ownAtoms J.1.cls ic (xv_nm k) xv_names, w.before args s' = true := xv_atoms hTh hsite
  obtain ⟨sa, hsa⟩ := hTh.2.2.2 _ hstr
  have hown' : s'.vm.findClass J.1.cls = some m.cls := by rw [hvm]; exact hown
  have wd : ∀ w ∈ xv_BIG, w.before args s' = true := fun w hw => word_at hW0 (xv_good w hw).2 (hts w hw)
  obtain ⟨vm₁, cX, kX, hfX, hkX, -, -, X₁, st1⟩ := Y.newCold hexec (own := J.1.cls) (C := xv_nm k) (index := ik) (n := 6) hown' (wd _ hl) (wd _ hins) (wd _ hi)
    (g := F0 m pc ls (st.map (xv_cv G))) rfl (by rw [hb]; exact d0) (Nat.le_refl _) (Nat.le_refl _)
  generalize hT1 : (T.setVm vm₁).pushCell { cls := cX, slots := kX.instanceTypes.map defaultValue, vm := .none } = T1 at X₁ st1
  have hcat : (Value.ref T.heap.size).category = 1 := rfl
  have hcellA : T1.heap[T.heap.size]? = some (freshCell cX kX) := by rw [← hT1]; exact State.heap_pushCell_size _ _
  have d3' : decode c.code (pc + 3) = .ok (.dup, 1) := by rw [hb]; exact d3
  have d4' : decode c.code (pc + 4) = .ok (.ldc is, 2) := by rw [hb]; exact d4
  have hsum := xv_sum_cv G st
  obtain ⟨U, hsteps, hrun, hend, hW, hsame, ce, hce, hO⟩ := X₁.ctorThrowS hexec htr (own := J.1.cls) (cls := xv_nm k) (names := xv_names) (ic := ic) hown' hfit (by decide +kernel) hat (fun x hx => nomatch hx) hfX hkX hcellA (by rw [hhp, hT]; exact Nat.le_refl _) (msg := .ref sa) rfl
    (g := { method := m, pc := pc + 6, locals := ls, stack := .ref sa :: .ref T.heap.size :: .ref T.heap.size :: st.map (xv_cv G), locked := none }) rfl (by rw [hml]; exact lo.1) rfl rfl (rest := st.map (xv_cv G)) rfl
    (by rw [hb]; exact d6) (by rw [hb]; exact d9) (fun x hx => by
      have h0 : c.exceptionTable = #[] := Array.isEmpty_iff.mp hex
      rw [h0] at hx
      exact nomatch hx) (by show 2 + 3 < R.frames; omega) (by
      simp only [List.map_cons, List.sum_cons, hcat]
      show 2 * 0 + _ + (13 * (2 + 1) + 42) ≤ R.locals
      omega) hlocks
  obtain ⟨f1, f2⟩ := xv_old hsame
  rw [hhp] at f1 f2
  have hWs : s.WarmedH U.vm := State.WarmedH.trans hW0 hW
  have hTs : T.heap.size = xv_B G + xv_N u := by rw [hT]; exact hsz
  rw [hTs] at hend hce
  have hcl : ce.cls = (xv_dG G).1 k := by
    have h9 := hO.cls
    rw [hvm] at h9
    exact Option.some.inj (h9.symm.trans (hK.1.1 k _ (xv_cl_at hk)).2.1)
  have hkk : xv_k (xv_nw u (k + 1) 0 6) (xv_N u) = k + 1 := if_pos rfl
  have hPU : va_P (xv_dG G) xv_cl (xv_ws G (xv_nw u (k + 1) 0 6)) U.heap := by
    refine xv_pushed (s := s) (locs := locs) hsz hP (fun q hq => f2 q (by rw [hsz]; exact hq)) ?_ rfl (xv_E_obj hkk (Nat.lt_of_lt_of_le hk xv_nc_le)) (fun b hb => xv_nw_E hb)
    exact ⟨_, xv_cl_at hk, ce, hce, hcl, hO.vm, fun j hj => absurd (show j < 0 by rw [← hnf]; exact hj) (Nat.not_lt_zero j)⟩
  have hall : s.sameButNew ({ U with vm := s.vm } : State) locs (xv_N (xv_nw u (k + 1) 0 6) - N0) (xv_S (xv_nw u (k + 1) 0 6) - S0) := by
    subst hA'
    obtain ⟨e1, e2⟩ := hsame
    rw [State.setFrames_setFrames] at e1
    have h2 : (T.setVm s.vm).sameButNew ({ U with vm := s.vm } : State) [] (0 + 1) (0 + 6) := ⟨e1, e2⟩
    have h3 := X.same.trans h2
    rw [List.append_nil] at h3
    exact h3.mono (by show _ ≤ xv_N u + 1 - N0; omega) (by show _ ≤ xv_S u + 6 - S0; omega)
  refine ⟨U, st1 _ ?_, hfin.2 k (xv_N u) _ U locs hp hN1 hS1 hkk hPU (xv_wf_nw wf) ⟨Nat.le_trans hS.1 f1, fun q h1 h2 => by rw [f2 q (Nat.lt_of_lt_of_le h1 hS.1)]; exact hS.2.1 q h1 h2, hS.2.2⟩ hrun hend hWs hall⟩
  show Steps p.tables e below (T1.setTop { method := m, pc := pc + 3, locals := ls, stack := .ref T.heap.size :: st.map (xv_cv G), locked := none }) _
  jvm_step X₁.here [X₁.here.top, hexec, d3', Value.category]
  exact X₁.ldcString hexec (own := J.1.cls) (text := text) (index := is) (a := sa) hown' hsa.1 hsa.2
    (g := { method := m, pc := pc + 4, locals := ls, stack := .ref T.heap.size :: .ref T.heap.size :: st.map (xv_cv G), locked := none }) rfl d4' _ hsteps
end
