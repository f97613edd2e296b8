section
-- ===== PART A: goes FIRST, ahead of the names: the tables' words, and 'selects' of the private methods out of them =====
/-- a private method of a class that the tables say can be made, by its rows of tables_1 -/
def lw_okq (q : MethodName × Nat) : Prop := (q.1.cls ≠ "java/lang/invoke/MethodHandle" ∧ q.1.cls ≠ "java/lang/invoke/VarHandle") ∧ Cond.instantiable q.1.cls q.2 ∈ tables_1 ∧ Cond.privateMethod q.1 ∈ tables_1 ∧ Cond.instanceMethod q.1 ∈ tables_1
theorem lw_p0 : lw_okq (⟨"FaslDesk$Form", "callsGo", "(I)Z"⟩, 5) := ⟨⟨by decide +kernel, by decide +kernel⟩, List.mem_of_getElem? (i := 32) (by decide +kernel), List.mem_of_getElem? (i := 348) (by decide +kernel), List.mem_of_getElem? (i := 349) (by decide +kernel)⟩
theorem lw_p1 : lw_okq (⟨"FaslDesk$Form", "endOf", "(IIII)I"⟩, 5) := ⟨⟨by decide +kernel, by decide +kernel⟩, List.mem_of_getElem? (i := 32) (by decide +kernel), List.mem_of_getElem? (i := 352) (by decide +kernel), List.mem_of_getElem? (i := 353) (by decide +kernel)⟩
theorem lw_p2 : lw_okq (⟨"FaslDesk$Form", "mayStand", "(IIII)Z"⟩, 5) := ⟨⟨by decide +kernel, by decide +kernel⟩, List.mem_of_getElem? (i := 32) (by decide +kernel), List.mem_of_getElem? (i := 356) (by decide +kernel), List.mem_of_getElem? (i := 357) (by decide +kernel)⟩
theorem lw_p3 : lw_okq (⟨"FaslDesk$Compiler", "emit", "(II)V"⟩, 4) := ⟨⟨by decide +kernel, by decide +kernel⟩, List.mem_of_getElem? (i := 120) (by decide +kernel), List.mem_of_getElem? (i := 394) (by decide +kernel), List.mem_of_getElem? (i := 395) (by decide +kernel)⟩
theorem lw_p4 : lw_okq (⟨"FaslDesk$Compiler", "emitForm", "(I)V"⟩, 4) := ⟨⟨by decide +kernel, by decide +kernel⟩, List.mem_of_getElem? (i := 120) (by decide +kernel), List.mem_of_getElem? (i := 409) (by decide +kernel), List.mem_of_getElem? (i := 410) (by decide +kernel)⟩
theorem lw_p5 : lw_okq (⟨"FaslDesk$Compiler", "emitIf", "(I)V"⟩, 4) := ⟨⟨by decide +kernel, by decide +kernel⟩, List.mem_of_getElem? (i := 120) (by decide +kernel), List.mem_of_getElem? (i := 413) (by decide +kernel), List.mem_of_getElem? (i := 414) (by decide +kernel)⟩
theorem lw_p6 : lw_okq (⟨"FaslDesk$Compiler", "setSecond", "(II)V"⟩, 4) := ⟨⟨by decide +kernel, by decide +kernel⟩, List.mem_of_getElem? (i := 120) (by decide +kernel), List.mem_of_getElem? (i := 421) (by decide +kernel), List.mem_of_getElem? (i := 422) (by decide +kernel)⟩
theorem lw_p7 : lw_okq (⟨"FaslDesk$Compiler", "setFirst", "(II)V"⟩, 4) := ⟨⟨by decide +kernel, by decide +kernel⟩, List.mem_of_getElem? (i := 120) (by decide +kernel), List.mem_of_getElem? (i := 425) (by decide +kernel), List.mem_of_getElem? (i := 426) (by decide +kernel)⟩
theorem lw_p8 : lw_okq (⟨"FaslDesk$Compiler", "emitTimes", "(I)V"⟩, 4) := ⟨⟨by decide +kernel, by decide +kernel⟩, List.mem_of_getElem? (i := 120) (by decide +kernel), List.mem_of_getElem? (i := 429) (by decide +kernel), List.mem_of_getElem? (i := 430) (by decide +kernel)⟩
theorem lw_p9 : lw_okq (⟨"FaslDesk$Compiler", "emitOfTimes", "(I)V"⟩, 4) := ⟨⟨by decide +kernel, by decide +kernel⟩, List.mem_of_getElem? (i := 120) (by decide +kernel), List.mem_of_getElem? (i := 433) (by decide +kernel), List.mem_of_getElem? (i := 434) (by decide +kernel)⟩
theorem lw_p10 : lw_okq (⟨"FaslDesk", "damageMagic", "(I)I"⟩, 8) := ⟨⟨by decide +kernel, by decide +kernel⟩, List.mem_of_getElem? (i := 24) (by decide +kernel), List.mem_of_getElem? (i := 456) (by decide +kernel), List.mem_of_getElem? (i := 457) (by decide +kernel)⟩
theorem lw_p11 : lw_okq (⟨"FaslDesk", "damageStated", "(I)I"⟩, 8) := ⟨⟨by decide +kernel, by decide +kernel⟩, List.mem_of_getElem? (i := 24) (by decide +kernel), List.mem_of_getElem? (i := 460) (by decide +kernel), List.mem_of_getElem? (i := 461) (by decide +kernel)⟩
theorem lw_p12 : lw_okq (⟨"FaslDesk", "damageNumber", "(II)I"⟩, 8) := ⟨⟨by decide +kernel, by decide +kernel⟩, List.mem_of_getElem? (i := 24) (by decide +kernel), List.mem_of_getElem? (i := 464) (by decide +kernel), List.mem_of_getElem? (i := 465) (by decide +kernel)⟩
theorem lw_p13 : lw_okq (⟨"FaslDesk", "damageOctet", "(I)I"⟩, 8) := ⟨⟨by decide +kernel, by decide +kernel⟩, List.mem_of_getElem? (i := 24) (by decide +kernel), List.mem_of_getElem? (i := 472) (by decide +kernel), List.mem_of_getElem? (i := 473) (by decide +kernel)⟩
theorem lw_p14 : lw_okq (⟨"FaslDesk", "sealAnew", "(I)I"⟩, 8) := ⟨⟨by decide +kernel, by decide +kernel⟩, List.mem_of_getElem? (i := 24) (by decide +kernel), List.mem_of_getElem? (i := 476) (by decide +kernel), List.mem_of_getElem? (i := 477) (by decide +kernel)⟩
theorem lw_p15 : lw_okq (⟨"FaslDesk", "hasUnit", "(II)Z"⟩, 8) := ⟨⟨by decide +kernel, by decide +kernel⟩, List.mem_of_getElem? (i := 24) (by decide +kernel), List.mem_of_getElem? (i := 485) (by decide +kernel), List.mem_of_getElem? (i := 486) (by decide +kernel)⟩
def lw_privs_1 : List (MethodName × Nat) := [(⟨"FaslDesk$Form", "callsGo", "(I)Z"⟩, 5), (⟨"FaslDesk$Form", "endOf", "(IIII)I"⟩, 5), (⟨"FaslDesk$Form", "mayStand", "(IIII)Z"⟩, 5), (⟨"FaslDesk$Compiler", "emit", "(II)V"⟩, 4), (⟨"FaslDesk$Compiler", "emitForm", "(I)V"⟩, 4), (⟨"FaslDesk$Compiler", "emitIf", "(I)V"⟩, 4), (⟨"FaslDesk$Compiler", "setSecond", "(II)V"⟩, 4), (⟨"FaslDesk$Compiler", "setFirst", "(II)V"⟩, 4), (⟨"FaslDesk$Compiler", "emitTimes", "(I)V"⟩, 4), (⟨"FaslDesk$Compiler", "emitOfTimes", "(I)V"⟩, 4), (⟨"FaslDesk", "damageMagic", "(I)I"⟩, 8), (⟨"FaslDesk", "damageStated", "(I)I"⟩, 8), (⟨"FaslDesk", "damageNumber", "(II)I"⟩, 8), (⟨"FaslDesk", "damageOctet", "(I)I"⟩, 8), (⟨"FaslDesk", "sealAnew", "(I)I"⟩, 8), (⟨"FaslDesk", "hasUnit", "(II)Z"⟩, 8)]
theorem lw_r1 : ∀ q ∈ lw_privs_1, lw_okq q := List.forall_mem_cons.mpr ⟨lw_p0, List.forall_mem_cons.mpr ⟨lw_p1, List.forall_mem_cons.mpr ⟨lw_p2, List.forall_mem_cons.mpr ⟨lw_p3, List.forall_mem_cons.mpr ⟨lw_p4, List.forall_mem_cons.mpr ⟨lw_p5, List.forall_mem_cons.mpr ⟨lw_p6, List.forall_mem_cons.mpr ⟨lw_p7, List.forall_mem_cons.mpr ⟨lw_p8, List.forall_mem_cons.mpr ⟨lw_p9, List.forall_mem_cons.mpr ⟨lw_p10, List.forall_mem_cons.mpr ⟨lw_p11, List.forall_mem_cons.mpr ⟨lw_p12, List.forall_mem_cons.mpr ⟨lw_p13, List.forall_mem_cons.mpr ⟨lw_p14, List.forall_mem_cons.mpr ⟨lw_p15, fun _ h => absurd h List.not_mem_nil⟩⟩⟩⟩⟩⟩⟩⟩⟩⟩⟩⟩⟩⟩⟩⟩
theorem lw_p16 : lw_okq (⟨"FaslDesk$Archive", "findOddEntry", "()I"⟩, 6) := ⟨⟨by decide +kernel, by decide +kernel⟩, List.mem_of_getElem? (i := 139) (by decide +kernel), List.mem_of_getElem? (i := 509) (by decide +kernel), List.mem_of_getElem? (i := 510) (by decide +kernel)⟩
theorem lw_p17 : lw_okq (⟨"FaslDesk$Archive", "findOddClass", "()I"⟩, 6) := ⟨⟨by decide +kernel, by decide +kernel⟩, List.mem_of_getElem? (i := 139) (by decide +kernel), List.mem_of_getElem? (i := 518) (by decide +kernel), List.mem_of_getElem? (i := 519) (by decide +kernel)⟩
theorem lw_p18 : lw_okq (⟨"FaslDesk$Archive", "findOddCode", "()I"⟩, 6) := ⟨⟨by decide +kernel, by decide +kernel⟩, List.mem_of_getElem? (i := 139) (by decide +kernel), List.mem_of_getElem? (i := 522) (by decide +kernel), List.mem_of_getElem? (i := 523) (by decide +kernel)⟩
theorem lw_p19 : lw_okq (⟨"FaslDesk$CodeCheck", "reach", "(II)Z"⟩, 4) := ⟨⟨by decide +kernel, by decide +kernel⟩, List.mem_of_getElem? (i := 147) (by decide +kernel), List.mem_of_getElem? (i := 530) (by decide +kernel), List.mem_of_getElem? (i := 531) (by decide +kernel)⟩
theorem lw_p20 : lw_okq (⟨"FaslDesk$CodeCheck", "passes", "(II)Z"⟩, 4) := ⟨⟨by decide +kernel, by decide +kernel⟩, List.mem_of_getElem? (i := 147) (by decide +kernel), List.mem_of_getElem? (i := 534) (by decide +kernel), List.mem_of_getElem? (i := 535) (by decide +kernel)⟩
theorem lw_p21 : lw_okq (⟨"FaslDesk$Interpreter", "answer", "(IIII)I"⟩, 3) := ⟨⟨by decide +kernel, by decide +kernel⟩, List.mem_of_getElem? (i := 64) (by decide +kernel), List.mem_of_getElem? (i := 585) (by decide +kernel), List.mem_of_getElem? (i := 586) (by decide +kernel)⟩
theorem lw_p22 : lw_okq (⟨"java/lang/Throwable", "fillInStackTrace", "(I)Ljava/lang/Throwable;"⟩, 6) := ⟨⟨by decide +kernel, by decide +kernel⟩, List.mem_of_getElem? (i := 627) (by decide +kernel), List.mem_of_getElem? (i := 625) (by decide +kernel), List.mem_of_getElem? (i := 626) (by decide +kernel)⟩
theorem lw_p23 : lw_okq (⟨"FaslDesk$OpenForms", "enter", "(I)V"⟩, 3) := ⟨⟨by decide +kernel, by decide +kernel⟩, List.mem_of_getElem? (i := 93) (by decide +kernel), List.mem_of_getElem? (i := 668) (by decide +kernel), List.mem_of_getElem? (i := 669) (by decide +kernel)⟩
theorem lw_p24 : lw_okq (⟨"FaslDesk$Interpreter", "advance", "(I)V"⟩, 3) := ⟨⟨by decide +kernel, by decide +kernel⟩, List.mem_of_getElem? (i := 64) (by decide +kernel), List.mem_of_getElem? (i := 677) (by decide +kernel), List.mem_of_getElem? (i := 678) (by decide +kernel)⟩
theorem lw_p25 : lw_okq (⟨"FaslDesk$Interpreter", "choose", "(II)V"⟩, 3) := ⟨⟨by decide +kernel, by decide +kernel⟩, List.mem_of_getElem? (i := 64) (by decide +kernel), List.mem_of_getElem? (i := 690) (by decide +kernel), List.mem_of_getElem? (i := 691) (by decide +kernel)⟩
theorem lw_p26 : lw_okq (⟨"FaslDesk$Interpreter", "goRound", "(IIZ)V"⟩, 3) := ⟨⟨by decide +kernel, by decide +kernel⟩, List.mem_of_getElem? (i := 64) (by decide +kernel), List.mem_of_getElem? (i := 710) (by decide +kernel), List.mem_of_getElem? (i := 711) (by decide +kernel)⟩
theorem lw_p27 : lw_okq (⟨"FaslDesk$Interpreter", "finish", "(III)V"⟩, 3) := ⟨⟨by decide +kernel, by decide +kernel⟩, List.mem_of_getElem? (i := 64) (by decide +kernel), List.mem_of_getElem? (i := 724) (by decide +kernel), List.mem_of_getElem? (i := 725) (by decide +kernel)⟩
theorem lw_p28 : lw_okq (⟨"FaslDesk$Interpreter", "answerOfLower", "(II)I"⟩, 3) := ⟨⟨by decide +kernel, by decide +kernel⟩, List.mem_of_getElem? (i := 64) (by decide +kernel), List.mem_of_getElem? (i := 732) (by decide +kernel), List.mem_of_getElem? (i := 733) (by decide +kernel)⟩
theorem lw_p29 : lw_okq (⟨"FaslDesk$Image", "answer", "(IIII)I"⟩, 2) := ⟨⟨by decide +kernel, by decide +kernel⟩, List.mem_of_getElem? (i := 282) (by decide +kernel), List.mem_of_getElem? (i := 771) (by decide +kernel), List.mem_of_getElem? (i := 772) (by decide +kernel)⟩
theorem lw_p30 : lw_okq (⟨"FaslDesk$Image", "perform", "(II)I"⟩, 2) := ⟨⟨by decide +kernel, by decide +kernel⟩, List.mem_of_getElem? (i := 282) (by decide +kernel), List.mem_of_getElem? (i := 777) (by decide +kernel), List.mem_of_getElem? (i := 778) (by decide +kernel)⟩
theorem lw_p31 : lw_okq (⟨"FaslDesk$Image", "answerOfLower", "(II)I"⟩, 2) := ⟨⟨by decide +kernel, by decide +kernel⟩, List.mem_of_getElem? (i := 282) (by decide +kernel), List.mem_of_getElem? (i := 784) (by decide +kernel), List.mem_of_getElem? (i := 785) (by decide +kernel)⟩
def lw_privs_2 : List (MethodName × Nat) := [(⟨"FaslDesk$Archive", "findOddEntry", "()I"⟩, 6), (⟨"FaslDesk$Archive", "findOddClass", "()I"⟩, 6), (⟨"FaslDesk$Archive", "findOddCode", "()I"⟩, 6), (⟨"FaslDesk$CodeCheck", "reach", "(II)Z"⟩, 4), (⟨"FaslDesk$CodeCheck", "passes", "(II)Z"⟩, 4), (⟨"FaslDesk$Interpreter", "answer", "(IIII)I"⟩, 3), (⟨"java/lang/Throwable", "fillInStackTrace", "(I)Ljava/lang/Throwable;"⟩, 6), (⟨"FaslDesk$OpenForms", "enter", "(I)V"⟩, 3), (⟨"FaslDesk$Interpreter", "advance", "(I)V"⟩, 3), (⟨"FaslDesk$Interpreter", "choose", "(II)V"⟩, 3), (⟨"FaslDesk$Interpreter", "goRound", "(IIZ)V"⟩, 3), (⟨"FaslDesk$Interpreter", "finish", "(III)V"⟩, 3), (⟨"FaslDesk$Interpreter", "answerOfLower", "(II)I"⟩, 3), (⟨"FaslDesk$Image", "answer", "(IIII)I"⟩, 2), (⟨"FaslDesk$Image", "perform", "(II)I"⟩, 2), (⟨"FaslDesk$Image", "answerOfLower", "(II)I"⟩, 2)]
theorem lw_r2 : ∀ q ∈ lw_privs_2, lw_okq q := List.forall_mem_cons.mpr ⟨lw_p16, List.forall_mem_cons.mpr ⟨lw_p17, List.forall_mem_cons.mpr ⟨lw_p18, List.forall_mem_cons.mpr ⟨lw_p19, List.forall_mem_cons.mpr ⟨lw_p20, List.forall_mem_cons.mpr ⟨lw_p21, List.forall_mem_cons.mpr ⟨lw_p22, List.forall_mem_cons.mpr ⟨lw_p23, List.forall_mem_cons.mpr ⟨lw_p24, List.forall_mem_cons.mpr ⟨lw_p25, List.forall_mem_cons.mpr ⟨lw_p26, List.forall_mem_cons.mpr ⟨lw_p27, List.forall_mem_cons.mpr ⟨lw_p28, List.forall_mem_cons.mpr ⟨lw_p29, List.forall_mem_cons.mpr ⟨lw_p30, List.forall_mem_cons.mpr ⟨lw_p31, fun _ h => absurd h List.not_mem_nil⟩⟩⟩⟩⟩⟩⟩⟩⟩⟩⟩⟩⟩⟩⟩⟩
theorem lw_p32 : lw_okq (⟨"FaslDeskModel", "relate", "()Z"⟩, 37) := ⟨⟨by decide +kernel, by decide +kernel⟩, List.mem_of_getElem? (i := 809) (by decide +kernel), List.mem_of_getElem? (i := 945) (by decide +kernel), List.mem_of_getElem? (i := 946) (by decide +kernel)⟩
theorem lw_p33 : lw_okq (⟨"FaslDeskModel", "stands", "(III)Z"⟩, 37) := ⟨⟨by decide +kernel, by decide +kernel⟩, List.mem_of_getElem? (i := 809) (by decide +kernel), List.mem_of_getElem? (i := 952) (by decide +kernel), List.mem_of_getElem? (i := 953) (by decide +kernel)⟩
theorem lw_p34 : lw_okq (⟨"FaslDeskModel", "translate", "(I)V"⟩, 37) := ⟨⟨by decide +kernel, by decide +kernel⟩, List.mem_of_getElem? (i := 809) (by decide +kernel), List.mem_of_getElem? (i := 956) (by decide +kernel), List.mem_of_getElem? (i := 957) (by decide +kernel)⟩
theorem lw_p35 : lw_okq (⟨"FaslDeskModel", "put", "(IIII)I"⟩, 37) := ⟨⟨by decide +kernel, by decide +kernel⟩, List.mem_of_getElem? (i := 809) (by decide +kernel), List.mem_of_getElem? (i := 960) (by decide +kernel), List.mem_of_getElem? (i := 961) (by decide +kernel)⟩
theorem lw_p36 : lw_okq (⟨"FaslDeskModel", "behind", "(II)Z"⟩, 37) := ⟨⟨by decide +kernel, by decide +kernel⟩, List.mem_of_getElem? (i := 809) (by decide +kernel), List.mem_of_getElem? (i := 964) (by decide +kernel), List.mem_of_getElem? (i := 965) (by decide +kernel)⟩
theorem lw_p37 : lw_okq (⟨"FaslDeskModel", "fix", "(II)V"⟩, 37) := ⟨⟨by decide +kernel, by decide +kernel⟩, List.mem_of_getElem? (i := 809) (by decide +kernel), List.mem_of_getElem? (i := 968) (by decide +kernel), List.mem_of_getElem? (i := 969) (by decide +kernel)⟩
theorem lw_p38 : lw_okq (⟨"FaslDeskModel", "measure", "(I)I"⟩, 37) := ⟨⟨by decide +kernel, by decide +kernel⟩, List.mem_of_getElem? (i := 809) (by decide +kernel), List.mem_of_getElem? (i := 972) (by decide +kernel), List.mem_of_getElem? (i := 973) (by decide +kernel)⟩
theorem lw_p39 : lw_okq (⟨"FaslDeskModel", "reach", "(III)Z"⟩, 37) := ⟨⟨by decide +kernel, by decide +kernel⟩, List.mem_of_getElem? (i := 809) (by decide +kernel), List.mem_of_getElem? (i := 982) (by decide +kernel), List.mem_of_getElem? (i := 983) (by decide +kernel)⟩
theorem lw_p40 : lw_okq (⟨"FaslDeskModel", "go", "(IIIII)I"⟩, 37) := ⟨⟨by decide +kernel, by decide +kernel⟩, List.mem_of_getElem? (i := 809) (by decide +kernel), List.mem_of_getElem? (i := 990) (by decide +kernel), List.mem_of_getElem? (i := 991) (by decide +kernel)⟩
theorem lw_p41 : lw_okq (⟨"FaslDeskModel", "enter", "(IIIIII)V"⟩, 37) := ⟨⟨by decide +kernel, by decide +kernel⟩, List.mem_of_getElem? (i := 809) (by decide +kernel), List.mem_of_getElem? (i := 994) (by decide +kernel), List.mem_of_getElem? (i := 995) (by decide +kernel)⟩
theorem lw_p42 : lw_okq (⟨"FaslDeskModel", "simple", "(IIII)I"⟩, 37) := ⟨⟨by decide +kernel, by decide +kernel⟩, List.mem_of_getElem? (i := 809) (by decide +kernel), List.mem_of_getElem? (i := 1004) (by decide +kernel), List.mem_of_getElem? (i := 1005) (by decide +kernel)⟩
theorem lw_p43 : lw_okq (⟨"FaslDeskModel", "copyUnits", "(II)V"⟩, 37) := ⟨⟨by decide +kernel, by decide +kernel⟩, List.mem_of_getElem? (i := 809) (by decide +kernel), List.mem_of_getElem? (i := 1020) (by decide +kernel), List.mem_of_getElem? (i := 1021) (by decide +kernel)⟩
theorem lw_p44 : lw_okq (⟨"FaslDeskModel", "seal", "(I)V"⟩, 37) := ⟨⟨by decide +kernel, by decide +kernel⟩, List.mem_of_getElem? (i := 809) (by decide +kernel), List.mem_of_getElem? (i := 1024) (by decide +kernel), List.mem_of_getElem? (i := 1025) (by decide +kernel)⟩
theorem lw_p45 : lw_okq (⟨"FaslDeskModel", "fault", "(II)I"⟩, 37) := ⟨⟨by decide +kernel, by decide +kernel⟩, List.mem_of_getElem? (i := 809) (by decide +kernel), List.mem_of_getElem? (i := 1047) (by decide +kernel), List.mem_of_getElem? (i := 1048) (by decide +kernel)⟩
theorem lw_p46 : lw_okq (⟨"FaslDeskModel", "goes", "(I)Z"⟩, 37) := ⟨⟨by decide +kernel, by decide +kernel⟩, List.mem_of_getElem? (i := 809) (by decide +kernel), List.mem_of_getElem? (i := 1051) (by decide +kernel), List.mem_of_getElem? (i := 1052) (by decide +kernel)⟩
def lw_privs_3 : List (MethodName × Nat) := [(⟨"FaslDeskModel", "relate", "()Z"⟩, 37), (⟨"FaslDeskModel", "stands", "(III)Z"⟩, 37), (⟨"FaslDeskModel", "translate", "(I)V"⟩, 37), (⟨"FaslDeskModel", "put", "(IIII)I"⟩, 37), (⟨"FaslDeskModel", "behind", "(II)Z"⟩, 37), (⟨"FaslDeskModel", "fix", "(II)V"⟩, 37), (⟨"FaslDeskModel", "measure", "(I)I"⟩, 37), (⟨"FaslDeskModel", "reach", "(III)Z"⟩, 37), (⟨"FaslDeskModel", "go", "(IIIII)I"⟩, 37), (⟨"FaslDeskModel", "enter", "(IIIIII)V"⟩, 37), (⟨"FaslDeskModel", "simple", "(IIII)I"⟩, 37), (⟨"FaslDeskModel", "copyUnits", "(II)V"⟩, 37), (⟨"FaslDeskModel", "seal", "(I)V"⟩, 37), (⟨"FaslDeskModel", "fault", "(II)I"⟩, 37), (⟨"FaslDeskModel", "goes", "(I)Z"⟩, 37)]
theorem lw_r3 : ∀ q ∈ lw_privs_3, lw_okq q := List.forall_mem_cons.mpr ⟨lw_p32, List.forall_mem_cons.mpr ⟨lw_p33, List.forall_mem_cons.mpr ⟨lw_p34, List.forall_mem_cons.mpr ⟨lw_p35, List.forall_mem_cons.mpr ⟨lw_p36, List.forall_mem_cons.mpr ⟨lw_p37, List.forall_mem_cons.mpr ⟨lw_p38, List.forall_mem_cons.mpr ⟨lw_p39, List.forall_mem_cons.mpr ⟨lw_p40, List.forall_mem_cons.mpr ⟨lw_p41, List.forall_mem_cons.mpr ⟨lw_p42, List.forall_mem_cons.mpr ⟨lw_p43, List.forall_mem_cons.mpr ⟨lw_p44, List.forall_mem_cons.mpr ⟨lw_p45, List.forall_mem_cons.mpr ⟨lw_p46, fun _ h => absurd h List.not_mem_nil⟩⟩⟩⟩⟩⟩⟩⟩⟩⟩⟩⟩⟩⟩⟩
def lw_privs : List (MethodName × Nat) := lw_privs_1 ++ (lw_privs_2 ++ (lw_privs_3))
def lw_tbl : List Cond := k2_sels lw_privs ++ tables_1
theorem lw_privs_ok : ∀ q ∈ lw_privs, lw_okq q := by
  show ∀ q ∈ lw_privs_1 ++ (lw_privs_2 ++ (lw_privs_3)), lw_okq q
  exact List.forall_mem_append.mpr ⟨lw_r1, List.forall_mem_append.mpr ⟨lw_r2, lw_r3⟩⟩
end
section
/-! words, classes, names -/
def xv_BIG : List Cond := lw_tbl.filter goodWord
theorem xv_in (k : Nat) {w : Cond} (h : tables_1[k]? = some w) (g : goodWord w = true) : w ∈ xv_BIG := List.mem_filter.mpr ⟨List.mem_append_right _ (List.mem_of_getElem? h), g⟩
theorem xv_inP (k : Nat) {w : Cond} (h : (k2_sels lw_privs)[k]? = some w) (g : goodWord w = true) : w ∈ xv_BIG := List.mem_filter.mpr ⟨List.mem_append_left _ (List.mem_of_getElem? h), g⟩
theorem xv_good (w : Cond) (h : w ∈ xv_BIG) : w ∈ xv_BIG ∧ ((w.onTables && w.keeps) = true ∨ ∃ ty, w = .arrayClass ty) := ⟨h, good_of_word (List.mem_filter.mp h).2⟩
def xv_nest : List Cond := [(Jvm.Cond.methodLinkNest "FaslDesk" (9 : Nat) ({ cls := "FaslDesk$Form", name := "<init>", desc := "()V" } : Jvm.MethodName) "FaslDesk"), (Jvm.Cond.methodLinkNest "FaslDesk$Interpreter" (29 : Nat) ({ cls := "FaslDesk$Form", name := "<init>", desc := "()V" } : Jvm.MethodName) "FaslDesk"), (Jvm.Cond.methodLinkNest "FaslDesk$Interpreter" (30 : Nat) ({ cls := "FaslDesk$Frame", name := "<init>", desc := "()V" } : Jvm.MethodName) "FaslDesk"), (Jvm.Cond.methodLinkNest "FaslDesk$Interpreter" (31 : Nat) ({ cls := "FaslDesk$OpenForms", name := "<init>", desc := "()V" } : Jvm.MethodName) "FaslDesk"), (Jvm.Cond.methodLinkNest "FaslDesk" (25 : Nat) ({ cls := "FaslDesk$Compiler", name := "<init>", desc := "()V" } : Jvm.MethodName) "FaslDesk"), (Jvm.Cond.methodLinkNest "FaslDesk$Archive" (19 : Nat) ({ cls := "FaslDesk$CodeCheck", name := "<init>", desc := "()V" } : Jvm.MethodName) "FaslDesk"), (Jvm.Cond.methodLinkNest "FaslDesk$Archive" (24 : Nat) ({ cls := "FaslDesk$Entry", name := "<init>", desc := "()V" } : Jvm.MethodName) "FaslDesk"), (Jvm.Cond.methodLinkNest "FaslDesk$Entry" (11 : Nat) ({ cls := "FaslDesk$Code", name := "<init>", desc := "()V" } : Jvm.MethodName) "FaslDesk"), (Jvm.Cond.methodLinkNest "FaslDesk$Image" (23 : Nat) ({ cls := "FaslDesk$Code", name := "<init>", desc := "()V" } : Jvm.MethodName) "FaslDesk"), (Jvm.Cond.methodLinkNest "FaslDesk$Image" (24 : Nat) ({ cls := "FaslDesk$Frame", name := "<init>", desc := "()V" } : Jvm.MethodName) "FaslDesk"), (Jvm.Cond.methodLinkNest "FaslDesk$Form" (21 : Nat) ({ cls := "FaslDesk", name := "within", desc := "(III)Z" } : Jvm.MethodName) "FaslDesk"), (Jvm.Cond.methodLinkNest "FaslDesk$Interpreter" (32 : Nat) ({ cls := "FaslDesk", name := "within", desc := "(III)Z" } : Jvm.MethodName) "FaslDesk"), (Jvm.Cond.methodLinkNest "FaslDesk$Code" (21 : Nat) ({ cls := "FaslDesk", name := "within", desc := "(III)Z" } : Jvm.MethodName) "FaslDesk"), (Jvm.Cond.methodLinkNest "FaslDesk$Image" (25 : Nat) ({ cls := "FaslDesk", name := "within", desc := "(III)Z" } : Jvm.MethodName) "FaslDesk"), (Jvm.Cond.methodLinkNest "FaslDesk" (74 : Nat) ({ cls := "FaslDesk$Interpreter", name := "answer", desc := "(IIII)I" } : Jvm.MethodName) "FaslDesk"), (Jvm.Cond.methodLinkNest "FaslDesk" (168 : Nat) ({ cls := "FaslDesk$Image", name := "answer", desc := "(IIII)I" } : Jvm.MethodName) "FaslDesk")]
def xv_ra : List String := ["FaslDesk$Form", "FaslDesk$Frame", "FaslDesk$OpenForms", "FaslDesk$Entry", "FaslDesk$Code"]
def xv_T0 : u_T := fun k => match k with
  | 0 => ("FaslDesk$Form", "op", "[I", true)
  | 1 => ("FaslDesk$Form", "a", "[I", true)
  | 2 => ("FaslDesk$Form", "length", "I", false)
  | 3 => ("FaslDesk$Form", "parameters", "I", false)
  | _ => ("FaslDesk$Form", "starts", "[I", true)
def xv_T1 : u_T := fun k => match k with
  | 0 => ("FaslDesk$Frame", "variables", "[I", true)
  | 1 => ("FaslDesk$Frame", "values", "[I", true)
  | _ => ("FaslDesk$Frame", "size", "I", false)
def xv_T2 : u_T := fun k => match k with
  | 0 => ("FaslDesk$OpenForms", "places", "[I", true)
  | 1 => ("FaslDesk$OpenForms", "parts", "[I", true)
  | _ => ("FaslDesk$OpenForms", "size", "I", false)
def xv_T3 : u_T := fun k => match k with
  | 0 => ("FaslDesk$Interpreter", "forms", "[LFaslDesk$Form;", true)
  | 1 => ("FaslDesk$Interpreter", "frames", "[LFaslDesk$Frame;", true)
  | _ => ("FaslDesk$Interpreter", "opens", "[LFaslDesk$OpenForms;", true)
def xv_T4 : u_T := fun k => match k with
  | 0 => ("FaslDesk$Code", "op", "[I", true)
  | 1 => ("FaslDesk$Code", "first", "[I", true)
  | 2 => ("FaslDesk$Code", "second", "[I", true)
  | _ => ("FaslDesk$Code", "length", "I", false)
def xv_T5 : u_T := fun k => match k with
  | 0 => ("FaslDesk$Entry", "code", "LFaslDesk$Code;", true)
  | 1 => ("FaslDesk$Entry", "ofTimes", "[Z", true)
  | 2 => ("FaslDesk$Entry", "number", "I", false)
  | 3 => ("FaslDesk$Entry", "parameters", "I", false)
  | 4 => ("FaslDesk$Entry", "stack", "I", false)
  | 5 => ("FaslDesk$Entry", "namedFor", "I", false)
  | 6 => ("FaslDesk$Entry", "octetChanged", "Z", false)
  | 7 => ("FaslDesk$Entry", "sealedOps", "[I", true)
  | 8 => ("FaslDesk$Entry", "sealedNumber", "I", false)
  | _ => ("FaslDesk$Entry", "sealedOctet", "Z", false)
def xv_T6 : u_T := fun k => match k with
  | 0 => ("FaslDesk$Compiler", "form", "LFaslDesk$Form;", false)
  | 1 => ("FaslDesk$Compiler", "target", "LFaslDesk$Entry;", false)
  | 2 => ("FaslDesk$Compiler", "code", "LFaslDesk$Code;", false)
  | _ => ("FaslDesk$Compiler", "height", "I", false)
def xv_T7 : u_T := fun k => match k with
  | 0 => ("FaslDesk$CodeCheck", "heights", "[I", true)
  | 1 => ("FaslDesk$CodeCheck", "reached", "[I", true)
  | 2 => ("FaslDesk$CodeCheck", "reachedSize", "I", false)
  | _ => ("FaslDesk$CodeCheck", "code", "LFaslDesk$Code;", false)
def xv_T8 : u_T := fun k => match k with
  | 0 => ("FaslDesk$Archive", "entries", "[LFaslDesk$Entry;", true)
  | 1 => ("FaslDesk$Archive", "size", "I", false)
  | 2 => ("FaslDesk$Archive", "magic", "I", false)
  | 3 => ("FaslDesk$Archive", "stated", "I", false)
  | 4 => ("FaslDesk$Archive", "faultAt", "I", false)
  | _ => ("FaslDesk$Archive", "codeCheck", "LFaslDesk$CodeCheck;", true)
def xv_T9 : u_T := fun k => match k with
  | 0 => ("FaslDesk$Image", "codes", "[LFaslDesk$Code;", true)
  | _ => ("FaslDesk$Image", "frames", "[LFaslDesk$Frame;", true)
def xv_T10 : u_T := fun k => match k with
  | 0 => ("FaslDesk", "draft", "LFaslDesk$Form;", true)
  | 1 => ("FaslDesk", "interpreter", "LFaslDesk$Interpreter;", true)
  | 2 => ("FaslDesk", "compiler", "LFaslDesk$Compiler;", true)
  | 3 => ("FaslDesk", "archive", "LFaslDesk$Archive;", true)
  | 4 => ("FaslDesk", "image", "LFaslDesk$Image;", true)
  | 5 => ("FaslDesk", "imagesMade", "I", false)
  | 6 => ("FaslDesk", "faultsFound", "I", false)
  | _ => ("FaslDesk", "latestFaultAt", "I", false)
def xv_T11 : u_T := fun k => match k with
  | 0 => ("FaslDeskModel", "op", "[I", true)
  | 1 => ("FaslDeskModel", "arg", "[I", true)
  | 2 => ("FaslDeskModel", "length", "[I", true)
  | 3 => ("FaslDeskModel", "params", "[I", true)
  | 4 => ("FaslDeskModel", "up", "[I", true)
  | 5 => ("FaslDeskModel", "part", "[I", true)
  | 6 => ("FaslDeskModel", "uOp", "[I", true)
  | 7 => ("FaslDeskModel", "uA", "[I", true)
  | 8 => ("FaslDeskModel", "uB", "[I", true)
  | 9 => ("FaslDeskModel", "many", "[I", true)
  | 10 => ("FaslDeskModel", "most", "[I", true)
  | 11 => ("FaslDeskModel", "way", "[I", true)
  | 12 => ("FaslDeskModel", "fixed", "[Z", true)
  | 13 => ("FaslDeskModel", "image", "[Z", true)
  | 14 => ("FaslDeskModel", "octet", "[Z", true)
  | 15 => ("FaslDeskModel", "sealOctet", "[Z", true)
  | 16 => ("FaslDeskModel", "number", "[I", true)
  | 17 => ("FaslDeskModel", "eParams", "[I", true)
  | 18 => ("FaslDeskModel", "named", "[I", true)
  | 19 => ("FaslDeskModel", "sealNumber", "[I", true)
  | 20 => ("FaslDeskModel", "sealOp", "[I", true)
  | 21 => ("FaslDeskModel", "iParams", "[I", true)
  | 22 => ("FaslDeskModel", "stack", "[I", true)
  | 23 => ("FaslDeskModel", "local", "[I", true)
  | 24 => ("FaslDeskModel", "at", "[I", true)
  | 25 => ("FaslDeskModel", "who", "[I", true)
  | 26 => ("FaslDeskModel", "open", "[I", true)
  | 27 => ("FaslDeskModel", "stage", "[I", true)
  | 28 => ("FaslDeskModel", "patch", "[I", true)
  | 29 => ("FaslDeskModel", "magic", "I", false)
  | 30 => ("FaslDeskModel", "claimed", "I", false)
  | 31 => ("FaslDeskModel", "entries", "I", false)
  | 32 => ("FaslDeskModel", "images", "I", false)
  | 33 => ("FaslDeskModel", "faults", "I", false)
  | 34 => ("FaslDeskModel", "faultEntry", "I", false)
  | 35 => ("FaslDeskModel", "thrown", "I", false)
  | _ => ("FaslDeskModel", "units", "I", false)
def xv_Tx : u_T := fun _ => ("", "", "", false)
def xv_cl : List vw_C := [("FaslDesk$Form", xv_T0, 5), ("FaslDesk$Frame", xv_T1, 3), ("FaslDesk$OpenForms", xv_T2, 3), ("FaslDesk$Interpreter", xv_T3, 3), ("FaslDesk$Code", xv_T4, 4), ("FaslDesk$Entry", xv_T5, 10), ("FaslDesk$Compiler", xv_T6, 4), ("FaslDesk$CodeCheck", xv_T7, 4), ("FaslDesk$Archive", xv_T8, 6), ("FaslDesk$Image", xv_T9, 2), ("FaslDesk", xv_T10, 8), ("FaslDeskModel", xv_T11, 37), ("java/util/NoSuchElementException", xv_Tx, 0), ("java/lang/ArithmeticException", xv_Tx, 0), ("java/lang/IllegalStateException", xv_Tx, 0)]
abbrev xv_nc : Nat := 15
theorem xv_nc_le : xv_nc ≤ 99 := by decide
def xv_nm (ci : Nat) : String := (xv_cl.getD ci ("", xv_Tx, 0)).1
def xv_T (ci : Nat) : u_T := (xv_cl.getD ci ("", xv_Tx, 0)).2.1
def xv_nf (ci : Nat) : Nat := (xv_cl.getD ci ("", xv_Tx, 0)).2.2
def xv_ty (ci j : Nat) : FieldType := (parseFieldDescriptor (xv_T ci j).2.2.1).getD .int
def xv_rf (ci j : Nat) : Bool := (xv_ty ci j).isReference
set_option maxRecDepth 100000 in
theorem xv_cw0 : ∀ w ∈ u_ws (xv_nm 0) (xv_T 0) (xv_nf 0), w ∈ xv_BIG := by
  intro w hw
  obtain ⟨k, hk, rfl⟩ := List.mem_map.mp hw
  have hk : k < 5 := List.mem_range.mp hk
  rcases (by omega : k = 0 ∨ k = 1 ∨ k = 2 ∨ k = 3 ∨ k = 4) with rfl | rfl | rfl | rfl | rfl
  · exact xv_in 51 rfl rfl
  · exact xv_in 53 rfl rfl
  · exact xv_in 55 rfl rfl
  · exact xv_in 57 rfl rfl
  · exact xv_in 59 rfl rfl
set_option maxRecDepth 100000 in
theorem xv_cw1 : ∀ w ∈ u_ws (xv_nm 1) (xv_T 1) (xv_nf 1), w ∈ xv_BIG := by
  intro w hw
  obtain ⟨k, hk, rfl⟩ := List.mem_map.mp hw
  have hk : k < 3 := List.mem_range.mp hk
  rcases (by omega : k = 0 ∨ k = 1 ∨ k = 2) with rfl | rfl | rfl
  · exact xv_in 86 rfl rfl
  · exact xv_in 88 rfl rfl
  · exact xv_in 90 rfl rfl
set_option maxRecDepth 100000 in
theorem xv_cw2 : ∀ w ∈ u_ws (xv_nm 2) (xv_T 2) (xv_nf 2), w ∈ xv_BIG := by
  intro w hw
  obtain ⟨k, hk, rfl⟩ := List.mem_map.mp hw
  have hk : k < 3 := List.mem_range.mp hk
  rcases (by omega : k = 0 ∨ k = 1 ∨ k = 2) with rfl | rfl | rfl
  · exact xv_in 101 rfl rfl
  · exact xv_in 103 rfl rfl
  · exact xv_in 105 rfl rfl
set_option maxRecDepth 100000 in
theorem xv_cw3 : ∀ w ∈ u_ws (xv_nm 3) (xv_T 3) (xv_nf 3), w ∈ xv_BIG := by
  intro w hw
  obtain ⟨k, hk, rfl⟩ := List.mem_map.mp hw
  have hk : k < 3 := List.mem_range.mp hk
  rcases (by omega : k = 0 ∨ k = 1 ∨ k = 2) with rfl | rfl | rfl
  · exact xv_in 112 rfl rfl
  · exact xv_in 114 rfl rfl
  · exact xv_in 116 rfl rfl
set_option maxRecDepth 100000 in
theorem xv_cw4 : ∀ w ∈ u_ws (xv_nm 4) (xv_T 4) (xv_nf 4), w ∈ xv_BIG := by
  intro w hw
  obtain ⟨k, hk, rfl⟩ := List.mem_map.mp hw
  have hk : k < 4 := List.mem_range.mp hk
  rcases (by omega : k = 0 ∨ k = 1 ∨ k = 2 ∨ k = 3) with rfl | rfl | rfl | rfl
  · exact xv_in 197 rfl rfl
  · exact xv_in 199 rfl rfl
  · exact xv_in 201 rfl rfl
  · exact xv_in 203 rfl rfl
set_option maxRecDepth 100000 in
theorem xv_cw5 : ∀ w ∈ u_ws (xv_nm 5) (xv_T 5) (xv_nf 5), w ∈ xv_BIG := by
  intro w hw
  obtain ⟨k, hk, rfl⟩ := List.mem_map.mp hw
  have hk : k < 10 := List.mem_range.mp hk
  rcases (by omega : k = 0 ∨ k = 1 ∨ k = 2 ∨ k = 3 ∨ k = 4 ∨ k = 5 ∨ k = 6 ∨ k = 7 ∨ k = 8 ∨ k = 9) with rfl | rfl | rfl | rfl | rfl | rfl | rfl | rfl | rfl | rfl
  · exact xv_in 233 rfl rfl
  · exact xv_in 235 rfl rfl
  · exact xv_in 237 rfl rfl
  · exact xv_in 239 rfl rfl
  · exact xv_in 241 rfl rfl
  · exact xv_in 243 rfl rfl
  · exact xv_in 245 rfl rfl
  · exact xv_in 247 rfl rfl
  · exact xv_in 249 rfl rfl
  · exact xv_in 251 rfl rfl
set_option maxRecDepth 100000 in
theorem xv_cw6 : ∀ w ∈ u_ws (xv_nm 6) (xv_T 6) (xv_nf 6), w ∈ xv_BIG := by
  intro w hw
  obtain ⟨k, hk, rfl⟩ := List.mem_map.mp hw
  have hk : k < 4 := List.mem_range.mp hk
  rcases (by omega : k = 0 ∨ k = 1 ∨ k = 2 ∨ k = 3) with rfl | rfl | rfl | rfl
  · exact xv_in 129 rfl rfl
  · exact xv_in 131 rfl rfl
  · exact xv_in 133 rfl rfl
  · exact xv_in 135 rfl rfl
set_option maxRecDepth 100000 in
theorem xv_cw7 : ∀ w ∈ u_ws (xv_nm 7) (xv_T 7) (xv_nf 7), w ∈ xv_BIG := by
  intro w hw
  obtain ⟨k, hk, rfl⟩ := List.mem_map.mp hw
  have hk : k < 4 := List.mem_range.mp hk
  rcases (by omega : k = 0 ∨ k = 1 ∨ k = 2 ∨ k = 3) with rfl | rfl | rfl | rfl
  · exact xv_in 156 rfl rfl
  · exact xv_in 158 rfl rfl
  · exact xv_in 160 rfl rfl
  · exact xv_in 162 rfl rfl
set_option maxRecDepth 100000 in
theorem xv_cw8 : ∀ w ∈ u_ws (xv_nm 8) (xv_T 8) (xv_nf 8), w ∈ xv_BIG := by
  intro w hw
  obtain ⟨k, hk, rfl⟩ := List.mem_map.mp hw
  have hk : k < 6 := List.mem_range.mp hk
  rcases (by omega : k = 0 ∨ k = 1 ∨ k = 2 ∨ k = 3 ∨ k = 4 ∨ k = 5) with rfl | rfl | rfl | rfl | rfl | rfl
  · exact xv_in 268 rfl rfl
  · exact xv_in 270 rfl rfl
  · exact xv_in 272 rfl rfl
  · exact xv_in 274 rfl rfl
  · exact xv_in 276 rfl rfl
  · exact xv_in 278 rfl rfl
set_option maxRecDepth 100000 in
theorem xv_cw9 : ∀ w ∈ u_ws (xv_nm 9) (xv_T 9) (xv_nf 9), w ∈ xv_BIG := by
  intro w hw
  obtain ⟨k, hk, rfl⟩ := List.mem_map.mp hw
  have hk : k < 2 := List.mem_range.mp hk
  rcases (by omega : k = 0 ∨ k = 1) with rfl | rfl
  · exact xv_in 294 rfl rfl
  · exact xv_in 296 rfl rfl
set_option maxRecDepth 100000 in
theorem xv_cw10 : ∀ w ∈ u_ws (xv_nm 10) (xv_T 10) (xv_nf 10), w ∈ xv_BIG := by
  intro w hw
  obtain ⟨k, hk, rfl⟩ := List.mem_map.mp hw
  have hk : k < 8 := List.mem_range.mp hk
  rcases (by omega : k = 0 ∨ k = 1 ∨ k = 2 ∨ k = 3 ∨ k = 4 ∨ k = 5 ∨ k = 6 ∨ k = 7) with rfl | rfl | rfl | rfl | rfl | rfl | rfl | rfl
  · exact xv_in 307 rfl rfl
  · exact xv_in 309 rfl rfl
  · exact xv_in 311 rfl rfl
  · exact xv_in 313 rfl rfl
  · exact xv_in 315 rfl rfl
  · exact xv_in 317 rfl rfl
  · exact xv_in 319 rfl rfl
  · exact xv_in 321 rfl rfl
set_option maxRecDepth 100000 in
theorem xv_cw11 : ∀ w ∈ u_ws (xv_nm 11) (xv_T 11) (xv_nf 11), w ∈ xv_BIG := by
  intro w hw
  obtain ⟨k, hk, rfl⟩ := List.mem_map.mp hw
  have hk : k < 37 := List.mem_range.mp hk
  rcases (by omega : k = 0 ∨ k = 1 ∨ k = 2 ∨ k = 3 ∨ k = 4 ∨ k = 5 ∨ k = 6 ∨ k = 7 ∨ k = 8 ∨ k = 9 ∨ k = 10 ∨ k = 11 ∨ k = 12 ∨ k = 13 ∨ k = 14 ∨ k = 15 ∨ k = 16 ∨ k = 17 ∨ k = 18 ∨ k = 19 ∨ k = 20 ∨ k = 21 ∨ k = 22 ∨ k = 23 ∨ k = 24 ∨ k = 25 ∨ k = 26 ∨ k = 27 ∨ k = 28 ∨ k = 29 ∨ k = 30 ∨ k = 31 ∨ k = 32 ∨ k = 33 ∨ k = 34 ∨ k = 35 ∨ k = 36) with rfl | rfl | rfl | rfl | rfl | rfl | rfl | rfl | rfl | rfl | rfl | rfl | rfl | rfl | rfl | rfl | rfl | rfl | rfl | rfl | rfl | rfl | rfl | rfl | rfl | rfl | rfl | rfl | rfl | rfl | rfl | rfl | rfl | rfl | rfl | rfl | rfl
  · exact xv_in 851 rfl rfl
  · exact xv_in 853 rfl rfl
  · exact xv_in 855 rfl rfl
  · exact xv_in 857 rfl rfl
  · exact xv_in 859 rfl rfl
  · exact xv_in 861 rfl rfl
  · exact xv_in 863 rfl rfl
  · exact xv_in 865 rfl rfl
  · exact xv_in 867 rfl rfl
  · exact xv_in 869 rfl rfl
  · exact xv_in 871 rfl rfl
  · exact xv_in 873 rfl rfl
  · exact xv_in 875 rfl rfl
  · exact xv_in 877 rfl rfl
  · exact xv_in 879 rfl rfl
  · exact xv_in 881 rfl rfl
  · exact xv_in 883 rfl rfl
  · exact xv_in 885 rfl rfl
  · exact xv_in 887 rfl rfl
  · exact xv_in 889 rfl rfl
  · exact xv_in 891 rfl rfl
  · exact xv_in 893 rfl rfl
  · exact xv_in 895 rfl rfl
  · exact xv_in 897 rfl rfl
  · exact xv_in 899 rfl rfl
  · exact xv_in 901 rfl rfl
  · exact xv_in 903 rfl rfl
  · exact xv_in 905 rfl rfl
  · exact xv_in 907 rfl rfl
  · exact xv_in 909 rfl rfl
  · exact xv_in 911 rfl rfl
  · exact xv_in 913 rfl rfl
  · exact xv_in 915 rfl rfl
  · exact xv_in 917 rfl rfl
  · exact xv_in 919 rfl rfl
  · exact xv_in 921 rfl rfl
  · exact xv_in 923 rfl rfl
set_option maxRecDepth 100000 in
theorem xv_cls (ci : Nat) (hc : ci < xv_nc) : (∀ w ∈ u_ws (xv_nm ci) (xv_T ci) (xv_nf ci), w ∈ xv_BIG) ∧ (∀ k, k < xv_nf ci → parseFieldDescriptor (xv_T ci k).2.2.1 = some (xv_ty ci k)) ∧ (∀ a, a < xv_nf ci → ∀ b, b < xv_nf ci → a ≠ b → (xv_T ci a).2.1 ≠ (xv_T ci b).2.1) := by
  rcases (by unfold xv_nc at hc; omega : ci = 0 ∨ ci = 1 ∨ ci = 2 ∨ ci = 3 ∨ ci = 4 ∨ ci = 5 ∨ ci = 6 ∨ ci = 7 ∨ ci = 8 ∨ ci = 9 ∨ ci = 10 ∨ ci = 11 ∨ ci = 12 ∨ ci = 13 ∨ ci = 14) with rfl | rfl | rfl | rfl | rfl | rfl | rfl | rfl | rfl | rfl | rfl | rfl | rfl | rfl | rfl
  · exact ⟨xv_cw0, by decide +kernel, by decide +kernel⟩
  · exact ⟨xv_cw1, by decide +kernel, by decide +kernel⟩
  · exact ⟨xv_cw2, by decide +kernel, by decide +kernel⟩
  · exact ⟨xv_cw3, by decide +kernel, by decide +kernel⟩
  · exact ⟨xv_cw4, by decide +kernel, by decide +kernel⟩
  · exact ⟨xv_cw5, by decide +kernel, by decide +kernel⟩
  · exact ⟨xv_cw6, by decide +kernel, by decide +kernel⟩
  · exact ⟨xv_cw7, by decide +kernel, by decide +kernel⟩
  · exact ⟨xv_cw8, by decide +kernel, by decide +kernel⟩
  · exact ⟨xv_cw9, by decide +kernel, by decide +kernel⟩
  · exact ⟨xv_cw10, by decide +kernel, by decide +kernel⟩
  · exact ⟨xv_cw11, by decide +kernel, by decide +kernel⟩
  · exact ⟨by decide +kernel, by decide +kernel, by decide +kernel⟩
  · exact ⟨by decide +kernel, by decide +kernel, by decide +kernel⟩
  · exact ⟨by decide +kernel, by decide +kernel, by decide +kernel⟩
theorem xv_cls4 (ci : Nat) (hc : ci < xv_nc) : ∀ j, j < xv_nf ci → defaultValue (xv_ty ci j) = if xv_rf ci j = true then Value.null else Value.int 0 := by
  rcases (by unfold xv_nc at hc; omega : ci = 0 ∨ ci = 1 ∨ ci = 2 ∨ ci = 3 ∨ ci = 4 ∨ ci = 5 ∨ ci = 6 ∨ ci = 7 ∨ ci = 8 ∨ ci = 9 ∨ ci = 10 ∨ ci = 11 ∨ ci = 12 ∨ ci = 13 ∨ ci = 14) with rfl | rfl | rfl | rfl | rfl | rfl | rfl | rfl | rfl | rfl | rfl | rfl | rfl | rfl | rfl
  · decide +kernel
  · decide +kernel
  · decide +kernel
  · decide +kernel
  · decide +kernel
  · decide +kernel
  · decide +kernel
  · decide +kernel
  · decide +kernel
  · decide +kernel
  · decide +kernel
  · decide +kernel
  · decide +kernel
  · decide +kernel
  · decide +kernel
abbrev xv_ns : Nat := 3
def xv_sC (k : Nat) : String := match k with
  | 0 => "FaslDesk$Form"
  | 1 => "FaslDesk$Code"
  | _ => "FaslDesk$Code"
def xv_sn (k : Nat) : String := match k with
  | 0 => "PARTS"
  | 1 => "TAKES"
  | _ => "LEAVES"
def xv_sL (k : Nat) : List Int32 := match k with
  | 0 => [0, 0, 2, 2, 2, 2, 2, 2, 2, 2, 2, 2, 1, 3, 2, 1, 2, 3]
  | 1 => [0, 0, 2, 2, 2, 2, 2, 2, 2, 2, 2, 2, 1, 1, 1, 0, 3, 1, 1, 1, 2, 0]
  | _ => [1, 1, 1, 1, 1, 1, 1, 1, 1, 1, 1, 1, 1, 0, 0, 0, 1, 0, 0, 2, 2, 0]
def xv_sN (k : Nat) : Nat := (xv_sL k).length
def xv_sf (k j : Nat) : Int32 := (xv_sL k).getD j 0
end
section
/-! MEMORY: an abstract memory: how many cells and slots; of a cell its kind (0 none; ci + 1 an object of the class with number ci; 100 int[], 101 boolean[], 102 long[], 103 and on arrays of references), its length, its ints, references (numbers of cells), longs -/
abbrev xv_M : Type := (Nat × Nat) × (Nat → Nat) × (Nat → Nat) × (Nat → Nat → Int32) × (Nat → Nat → Option Nat) × (Nat → Nat → Int64)
def xv_N (u : xv_M) : Nat := u.1.1
def xv_S (u : xv_M) : Nat := u.1.2
def xv_k (u : xv_M) (a : Nat) : Nat := u.2.1 a
def xv_l (u : xv_M) (a : Nat) : Nat := u.2.2.1 a
def xv_i (u : xv_M) (a j : Nat) : Int32 := u.2.2.2.1 a j
def xv_r (u : xv_M) (a j : Nat) : Option Nat := u.2.2.2.2.1 a j
def xv_g (u : xv_M) (a j : Nat) : Int64 := u.2.2.2.2.2 a j
def xv_mk (N S : Nat) (k l : Nat → Nat) (i : Nat → Nat → Int32) (r : Nat → Nat → Option Nat) (g : Nat → Nat → Int64) : xv_M := ((N, S), k, l, i, r, g)
def xv_si (u : xv_M) (a j : Nat) (v : Int32) : xv_M := xv_mk (xv_N u) (xv_S u) (xv_k u) (xv_l u) (fun b q => if b = a ∧ q = j then v else xv_i u b q) (xv_r u) (xv_g u)
def xv_sr (u : xv_M) (a j : Nat) (v : Option Nat) : xv_M := xv_mk (xv_N u) (xv_S u) (xv_k u) (xv_l u) (xv_i u) (fun b q => if b = a ∧ q = j then v else xv_r u b q) (xv_g u)
def xv_sg (u : xv_M) (a j : Nat) (v : Int64) : xv_M := xv_mk (xv_N u) (xv_S u) (xv_k u) (xv_l u) (xv_i u) (xv_r u) (fun b q => if b = a ∧ q = j then v else xv_g u b q)
/-- a whole row of ints anew -/
def xv_sw (u : xv_M) (a : Nat) (f : Nat → Int32) : xv_M := xv_mk (xv_N u) (xv_S u) (xv_k u) (xv_l u) (fun b q => if b = a then f q else xv_i u b q) (xv_r u) (xv_g u)
/-- a new cell: kind, length, slots -/
def xv_nw (u : xv_M) (k n sl : Nat) : xv_M := xv_mk (xv_N u + 1) (xv_S u + sl) (fun b => if b = xv_N u then k else xv_k u b) (fun b => if b = xv_N u then n else xv_l u b) (fun b q => if b = xv_N u then 0 else xv_i u b q) (fun b q => if b = xv_N u then none else xv_r u b q) (fun b q => if b = xv_N u then 0 else xv_g u b q)
def xv_wf (u : xv_M) : Prop := ∀ a, xv_k u a ≠ 0 → a < xv_N u
/-- base, external arrays, array classes, classes and slots, the script's length and ints -/
abbrev xv_G : Type := Nat × (Nat → Nat) × (Nat → ClassId) × va_G × Nat × (Nat → Int32)
def xv_B (G : xv_G) : Nat := G.1
def xv_ex (G : xv_G) : Nat → Nat := G.2.1
def xv_cA (G : xv_G) : Nat → ClassId := G.2.2.1
def xv_dG (G : xv_G) : va_G := G.2.2.2.1
def xv_A (G : xv_G) : Nat → Prop := fun q => xv_B G ≤ q
def xv_cv (G : xv_G) (v : Value) : Value := match v with
  | .ref a => .ref (xv_B G + a)
  | .retAddr k => .ref (xv_ex G k)
  | w => w
def xv_rq (G : xv_G) (r : Option Nat) : Option Nat := r.map (fun b => xv_B G + b)
def xv_fv (G : xv_G) (u : xv_M) (a ci j : Nat) : Value := if xv_rf ci j = true then va_rf (xv_rq G (xv_r u a j)) else .int (xv_i u a j)
def xv_fs (G : xv_G) (u : xv_M) (a ci : Nat) : List Value := (List.range (xv_nf ci)).map (xv_fv G u a ci)
def xv_ar (G : xv_G) (u : xv_M) (a k : Nat) : vp_A := (xv_l u a, if k < 102 then .inl (xv_i u a) else if k = 102 then .inr (.inl (xv_g u a)) else .inr (.inr (.inr (.inr (fun j => xv_rq G (xv_r u a j))))))
def xv_E (G : xv_G) (u : xv_M) (a : Nat) : va_E := if xv_k u a < 100 then .inr (xv_k u a - 1, xv_fs G u a (xv_k u a - 1)) else .inl (xv_cA G (xv_k u a - 100), xv_ar G u a (xv_k u a))
def xv_ws (G : xv_G) (u : xv_M) : va_W := (List.range (xv_N u)).map (fun a => (xv_B G + a, xv_E G u a))
theorem xv_ws_get {G : xv_G} {u : xv_M} {a : Nat} (h : a < xv_N u) : (xv_ws G u)[a]? = some (xv_B G + a, xv_E G u a) := by
  unfold xv_ws
  rw [List.getElem?_map, List.getElem?_range h]
  rfl
theorem xv_ws_inv {G : xv_G} {u : xv_M} {k : Nat} {q : Nat × va_E} (h : (xv_ws G u)[k]? = some q) : k < xv_N u ∧ q = (xv_B G + k, xv_E G u k) := by
  have hk : k < xv_N u := by
    have := (List.getElem?_eq_some_iff.mp h).1
    simpa [xv_ws] using this
  rw [xv_ws_get hk] at h
  exact ⟨hk, (Option.some.inj h).symm⟩
theorem xv_ws_set {G : xv_G} {u w : xv_M} {a : Nat} {e : va_E} (hN : xv_N w = xv_N u) (he : xv_E G w a = e) (ho : ∀ b, b ≠ a → xv_E G w b = xv_E G u b) : (xv_ws G u).set a (xv_B G + a, e) = xv_ws G w := by
  apply List.ext_getElem?
  intro k
  rw [List.getElem?_set]
  by_cases hk : k < xv_N u
  · have hk' : k < xv_N w := by rw [hN]; exact hk
    rw [xv_ws_get hk', xv_ws_get hk]
    by_cases ha : a = k
    · subst ha
      have hl : a < (xv_ws G u).length := by simpa [xv_ws] using hk
      simp [hl, he]
    · rw [if_neg ha, ho k (fun q => ha q.symm)]
  · have h1 : (xv_ws G u)[k]? = none := by
      apply List.getElem?_eq_none
      simpa [xv_ws] using hk
    have h2 : (xv_ws G w)[k]? = none := by
      apply List.getElem?_eq_none
      simpa [xv_ws, hN] using hk
    have h3 : ¬ k < (xv_ws G u).length := by simpa [xv_ws] using hk
    rw [h1, h2]
    by_cases ha : a = k
    · subst ha; simp [h3]
    · rw [if_neg ha]
theorem xv_ws_push {G : xv_G} {u w : xv_M} {e : va_E} (hN : xv_N w = xv_N u + 1) (he : xv_E G w (xv_N u) = e) (ho : ∀ b, b < xv_N u → xv_E G w b = xv_E G u b) : xv_ws G u ++ [(xv_B G + xv_N u, e)] = xv_ws G w := by
  unfold xv_ws
  rw [hN, List.range_succ, List.map_append]
  congr 1
  · apply List.map_congr_left
    intro b hb
    rw [ho b (List.mem_range.mp hb)]
  · simp [he]
theorem xv_D (G : xv_G) (u : xv_M) : va_D (xv_A G) (xv_ws G u) := by
  refine ⟨fun i j p q hp hq h => ?_, fun k q hq => ?_⟩
  · obtain ⟨-, rfl⟩ := xv_ws_inv hp
    obtain ⟨-, rfl⟩ := xv_ws_inv hq
    have h : xv_B G + i = xv_B G + j := h
    omega
  · obtain ⟨-, rfl⟩ := xv_ws_inv hq
    exact Nat.le_add_right _ _
theorem xv_E_obj {G : xv_G} {u : xv_M} {a ci : Nat} (hk : xv_k u a = ci + 1) (hc : ci < 99) : xv_E G u a = .inr (ci, xv_fs G u a ci) := by
  unfold xv_E
  rw [if_pos (by omega), hk]
  rfl
theorem xv_E_arr {G : xv_G} {u : xv_M} {a t : Nat} (hk : xv_k u a = 100 + t) : xv_E G u a = .inl (xv_cA G t, xv_ar G u a (100 + t)) := by
  unfold xv_E
  rw [if_neg (by omega), hk, Nat.add_sub_cancel_left]
theorem xv_E_int {G : xv_G} {u : xv_M} {a t : Nat} (hk : xv_k u a = 100 + t) (ht : t < 2) : xv_E G u a = .inl (xv_cA G t, xv_l u a, .inl (xv_i u a)) := by
  rw [xv_E_arr hk]
  unfold xv_ar
  rw [if_pos (by omega)]
theorem xv_E_long {G : xv_G} {u : xv_M} {a : Nat} (hk : xv_k u a = 102) : xv_E G u a = .inl (xv_cA G 2, xv_l u a, .inr (.inl (xv_g u a))) := by
  rw [xv_E_arr (t := 2) hk]
  rfl
theorem xv_E_ref {G : xv_G} {u : xv_M} {a t : Nat} (hk : xv_k u a = 103 + t) : xv_E G u a = .inl (xv_cA G (3 + t), xv_l u a, .inr (.inr (.inr (.inr (fun j => xv_rq G (xv_r u a j)))))) := by
  rw [xv_E_arr (t := 3 + t) (by omega)]
  unfold xv_ar
  rw [if_neg (by omega), if_neg (by omega)]
theorem xv_fs_get {G : xv_G} {u : xv_M} {a ci j : Nat} (h : j < xv_nf ci) : (xv_fs G u a ci)[j]? = some (xv_fv G u a ci j) := by
  unfold xv_fs
  rw [List.getElem?_map, List.getElem?_range h]
  rfl
theorem xv_fs_len (G : xv_G) (u : xv_M) (a ci : Nat) : (xv_fs G u a ci).length = xv_nf ci := by simp [xv_fs]
theorem xv_fs_set {G : xv_G} {u w : xv_M} {a ci j : Nat} {v : Value} (hv : xv_fv G w a ci j = v) (ho : ∀ q, q ≠ j → xv_fv G w a ci q = xv_fv G u a ci q) : (xv_fs G u a ci).set j v = xv_fs G w a ci := by
  apply List.ext_getElem?
  intro k
  rw [List.getElem?_set]
  by_cases hk : k < xv_nf ci
  · rw [xv_fs_get hk, xv_fs_get hk]
    by_cases ha : j = k
    · subst ha
      rw [if_pos rfl, if_pos (by rw [xv_fs_len]; exact hk), hv]
    · rw [if_neg ha, ho k (fun q => ha q.symm)]
  · have h1 : (xv_fs G u a ci)[k]? = none := by
      apply List.getElem?_eq_none
      rw [xv_fs_len]; omega
    have h2 : (xv_fs G w a ci)[k]? = none := by
      apply List.getElem?_eq_none
      rw [xv_fs_len]; omega
    have h3 : ¬ k < (xv_fs G u a ci).length := by rw [xv_fs_len]; exact hk
    rw [h1, h2]
    by_cases ha : j = k
    · subst ha; rw [if_pos rfl, if_neg h3]
    · rw [if_neg ha]
/-! what a cell is after a change elsewhere -/
theorem xv_E_congr {G : xv_G} {u w : xv_M} {b : Nat} (hk : xv_k w b = xv_k u b) (hl : xv_l w b = xv_l u b) (hi : xv_i w b = xv_i u b) (hr : xv_r w b = xv_r u b) (hg : xv_g w b = xv_g u b) : xv_E G w b = xv_E G u b := by
  have hfs : ∀ ci, xv_fs G w b ci = xv_fs G u b ci := by
    intro ci
    unfold xv_fs xv_fv
    rw [hi, hr]
  have har : ∀ k, xv_ar G w b k = xv_ar G u b k := by
    intro k
    unfold xv_ar
    rw [hi, hr, hg, hl]
  unfold xv_E
  rw [hk, hfs, har]
theorem xv_si_E {G : xv_G} {u : xv_M} {a j b : Nat} {v : Int32} (h : b ≠ a) : xv_E G (xv_si u a j v) b = xv_E G u b :=
  xv_E_congr rfl rfl (funext fun q => if_neg (fun z => h z.1)) rfl rfl
theorem xv_sr_E {G : xv_G} {u : xv_M} {a j b : Nat} {v : Option Nat} (h : b ≠ a) : xv_E G (xv_sr u a j v) b = xv_E G u b :=
  xv_E_congr rfl rfl rfl (funext fun q => if_neg (fun z => h z.1)) rfl
theorem xv_sg_E {G : xv_G} {u : xv_M} {a j b : Nat} {v : Int64} (h : b ≠ a) : xv_E G (xv_sg u a j v) b = xv_E G u b :=
  xv_E_congr rfl rfl rfl rfl (funext fun q => if_neg (fun z => h z.1))
theorem xv_sw_E {G : xv_G} {u : xv_M} {a b : Nat} {f : Nat → Int32} (h : b ≠ a) : xv_E G (xv_sw u a f) b = xv_E G u b :=
  xv_E_congr rfl rfl (funext fun q => if_neg h) rfl rfl
theorem xv_nw_E {G : xv_G} {u : xv_M} {k n sl b : Nat} (h : b < xv_N u) : xv_E G (xv_nw u k n sl) b = xv_E G u b := by
  have hb : b ≠ xv_N u := by omega
  exact xv_E_congr (if_neg hb) (if_neg hb) (funext fun q => if_neg hb) (funext fun q => if_neg hb) (funext fun q => if_neg hb)
theorem xv_wf_si {u : xv_M} {a j : Nat} {v : Int32} (h : xv_wf u) : xv_wf (xv_si u a j v) := h
theorem xv_wf_sr {u : xv_M} {a j : Nat} {v : Option Nat} (h : xv_wf u) : xv_wf (xv_sr u a j v) := h
theorem xv_wf_sg {u : xv_M} {a j : Nat} {v : Int64} (h : xv_wf u) : xv_wf (xv_sg u a j v) := h
theorem xv_wf_sw {u : xv_M} {a : Nat} {f : Nat → Int32} (h : xv_wf u) : xv_wf (xv_sw u a f) := h
theorem xv_wf_nw {u : xv_M} {k n sl : Nat} (h : xv_wf u) : xv_wf (xv_nw u k n sl) := by
  intro b hb
  show b < xv_N u + 1
  by_cases hq : b = xv_N u
  · omega
  · have hb' : xv_k u b ≠ 0 := by
      have : xv_k (xv_nw u k n sl) b = xv_k u b := if_neg hq
      rw [this] at hb; exact hb
    have := h b hb'
    omega
end
section
/-! constant facts -/
def xv_isN (w : Cond) : Bool := match w with
  | .methodLinkNest .. => true
  | .fieldLinkNest .. => true
  | _ => false
theorem xv_Nwarm {w : Cond} {u U : State} (h : xv_isN w = true) (hW : u.WarmedH U.vm) (hz : va_Nw w u) : va_Nw w U := by
  cases w <;> first | exact va_Nw.warmM hW hz | exact va_Nw.warmF hW hz | (exfalso; revert h; simp [xv_isN])
def xv_tys (G : xv_G) : List (ClassId × FieldType) := [(xv_cA G 0, .int), (xv_cA G 1, .boolean), (xv_cA G 2, .long), (xv_cA G 3, .object "FaslDesk$Form"), (xv_cA G 4, .object "FaslDesk$Frame"), (xv_cA G 5, .object "FaslDesk$OpenForms"), (xv_cA G 6, .object "FaslDesk$Entry"), (xv_cA G 7, .object "FaslDesk$Code")]
theorem xv_tys_at {G : xv_G} {t : Nat} {C : String} (h : xv_ra[t]? = some C) : (xv_tys G)[3 + t]? = some (xv_cA G (3 + t), .object C) := by
  have ht : t < 5 := (List.getElem?_eq_some_iff.mp h).1
  rcases (by omega : t = 0 ∨ t = 1 ∨ t = 2 ∨ t = 3 ∨ t = 4) with rfl | rfl | rfl | rfl | rfl <;> (cases h; rfl)
theorem xv_nest_ok : ∀ w ∈ xv_nest, xv_isN w = true := by decide +kernel
def xv_K (G : xv_G) (U : State) (H : Heap) : Prop :=
  va_K (xv_dG G) xv_cl (xv_tys G) U ∧ (∀ w ∈ xv_nest, va_Nw w U) ∧
  (∀ k, k < xv_ns → va_Z (xv_sC k) (xv_sn k) "[I" (.ref (xv_ex G k)) (xv_A G) U H ∧ va_T .int (xv_ex G k) (xv_sN k) (fun j => .int (xv_sf k j)) (xv_A G) U H) ∧
  (va_X (xv_ex G 9) G.2.2.2.2.1 G.2.2.2.2.2 U H ∧ xv_ex G 9 < H.size ∧ ¬ xv_A G (xv_ex G 9)) ∧ (∀ C ∈ xv_ra, va_AO C U) ∧ xv_B G ≤ H.size
theorem xv_K_moved {G : xv_G} {u U : State} {H H1 : Heap} (hW : u.WarmedH U.vm) (h : xv_K G u H) (hz : H.size ≤ H1.size) (hq : ∀ q : Nat, q < H.size → ¬ xv_A G q → H1[q]? = H[q]?) : xv_K G U H1 := by
  obtain ⟨h1, h2, h3, ⟨h4, h5, h6⟩, h8, h7⟩ := h
  refine ⟨va_K.moved hW.alike h1, fun w hw => xv_Nwarm (xv_nest_ok w hw) hW (h2 w hw), fun k hk => ⟨(va_Z.moved hW.alike (h3 k hk).1).kept hq, (va_T.moved hW.alike (h3 k hk).2).kept hq⟩, ⟨(va_X.moved hW.alike h4).kept (hq _ h5 h6), Nat.lt_of_lt_of_le h5 hz, h6⟩, fun C hC => va_AO.moved hW.alike (h8 C hC), Nat.le_trans h7 hz⟩
end
section
/-! THE JUDGEMENT: xv_X sc d J pc lv st u n s P: the method J at pc, with locals lv, operand stack st and memory u, in d frames, comes to its end: with an outcome and a memory of n cells and s slots for which P holds -/
/-- a launch without stack traces -/
def xv_L (l : Launch) : Prop := ∀ e : Env, l.admits e → e.platform.stackTraces = false
abbrev xv_J : Type := MethodName × ByteArray × Nat × Option FieldType
abbrev xv_O : Type := Option Value ⊕ (Nat × Nat)
abbrev xv_P : Type := xv_O → xv_M → Prop
def xv_rm (d mc ms : Nat) : Room := { frames := d, cells := mc, slots := ms, locals := 60 * d }
def xv_w (J : xv_J) : List Cond := .code J.1 J.2.1 J.2.2.1 J.2.2.2 :: xv_BIG
def xv_lo (G : xv_G) (ls : Array Slot) (n : Nat) (lv : List (Option Value)) : Prop := ls.size = n ∧ lv_wf ls ∧ ∀ (i : Nat) (v : Value), lv[i]? = some (some v) → ls[i]? = some (.val (xv_cv G v))
def xv_rt (ret : Option FieldType) (v : Option Value) (i : Instr) : Prop :=
  (ret = some .int ∧ i = .ireturn ∧ ∃ x : Int32, v = some (.int x)) ∨ (ret = some .boolean ∧ i = .ireturn ∧ ∃ x : Int32, v = some (.int x) ∧ x &&& 1 = x) ∨ (ret = none ∧ i = .return_ ∧ v = none) ∨ (((∃ n, ret = some (.object n)) ∨ ∃ t, ret = some (.array t)) ∧ i = .areturn ∧ ∃ a : Nat, v = some (.ref a))
def xv_fin (p : Program) (l : Launch) (e : Env) (R : Room) (s : State) (m : MethodId) (args : Array Value) (below : List Frame) (meth : Method) (c : Code) (J : xv_J) (G : xv_G) (N0 S0 n1 s1 : Nat) (P : xv_P) (Q : State → Prop) : Prop :=
  (∀ (v : Option Value) (w : xv_M) (pc : Nat) (ls : Array Slot) (i : Instr) (H : Heap) (locs : List Loc), P (.inl v) w → xv_N w ≤ n1 → xv_S w ≤ s1 → xv_rt J.2.2.2 v i → decode J.2.1 pc = .ok (i, 1) → va_P (xv_dG G) xv_cl (xv_ws G w) H → xv_wf w → va_S (xv_A G) s.heap H locs → W p l e R s m args below meth c H locs (xv_N w - N0) (xv_S w - S0) Q (F0 m pc ls ((v.map (xv_cv G)).toList))) ∧
  (∀ (k a : Nat) (w : xv_M) (T : State) (locs : List Loc), P (.inr (k, a)) w → xv_N w ≤ n1 → xv_S w ≤ s1 → xv_k w a = k + 1 → va_P (xv_dG G) xv_cl (xv_ws G w) T.heap → xv_wf w → va_S (xv_A G) s.heap T.heap locs → Stand p l e R s m args below meth c T locs (xv_N w - N0) (xv_S w - S0) → Q (T.setFrames (.throwing (xv_B G + a) :: below)))
def xv_at (sc : Nat × (Nat → Int32)) (d : Nat) (J : xv_J) (n1 s1 : Nat) (P : xv_P) (p : Program) (l : Launch) (e : Env) (R : Room) (s : State) (m : MethodId) (args : Array Value) (below : List Frame) (meth : Method) (c : Code) (G : xv_G) (N0 S0 : Nat) (Q : State → Prop) : Prop :=
  p.tables.exec = Jvm.exec ∧ c.code = J.2.1 ∧ meth.sig.returnType = J.2.2.2 ∧ c.maxLocals = J.2.2.1 ∧ s.vm.findClass J.1.cls = some m.cls ∧ (∀ w ∈ xv_BIG, w.before args s = true) ∧ meth.locks = false ∧ meth.name = J.1.name ∧ xv_K G s s.heap ∧ (d ≤ R.frames ∧ 60 * d ≤ R.locals ∧ n1 - N0 ≤ R.cells ∧ s1 - S0 ≤ R.slots) ∧ s.heap.size = xv_B G + N0 ∧ (G.2.2.2.2 = sc ∧ xv_L l ∧ c.exceptionTable.isEmpty = true) ∧ xv_fin p l e R s m args below meth c J G N0 S0 n1 s1 P Q
def xv_X (sc : Nat × (Nat → Int32)) (d : Nat) (J : xv_J) (pc : Nat) (lv : List (Option Value)) (st : List Value) (u : xv_M) (n1 s1 : Nat) (P : xv_P) : Prop :=
  ∀ (p : Program) (l : Launch) (e : Env) (R : Room) (s : State) (m : MethodId) (args : Array Value) (below : List Frame) (meth : Method) (c : Code) (G : xv_G) (N0 S0 : Nat) (Q : State → Prop) (H : Heap) (locs : List Loc) (ls : Array Slot),
    xv_at sc d J n1 s1 P p l e R s m args below meth c G N0 S0 Q → xv_lo G ls J.2.2.1 lv → va_P (xv_dG G) xv_cl (xv_ws G u) H → xv_wf u → va_S (xv_A G) s.heap H locs → N0 ≤ xv_N u → S0 ≤ xv_S u →
    W p l e R s m args below meth c H locs (xv_N u - N0) (xv_S u - S0) Q (F0 m pc ls (st.map (xv_cv G)))
def xv_q (n1 s1 : Nat) (P : xv_P) : xv_P := fun o w => P o w ∧ xv_N w = n1 ∧ xv_S w = s1
/-! locals -/
theorem xv_cat (G : xv_G) (v : Value) : (xv_cv G v).category = v.category := by cases v <;> rfl
def xv_c2 (lv : List (Option Value)) (i : Nat) : Bool := match i with
  | 0 => true
  | z + 1 => match lv.getD z none with
    | some v => !(v.category == 2)
    | none => true
def xv_al (G : xv_G) (lv : List (Option Value)) : List (Nat × Value) := (List.range lv.length).filterMap (fun i => match lv[i]? with
  | some (some v) => some (i, xv_cv G v)
  | _ => none)
theorem xv_al_mem {G : xv_G} {lv : List (Option Value)} {q : Nat × Value} : q ∈ xv_al G lv ↔ ∃ v, lv[q.1]? = some (some v) ∧ q.2 = xv_cv G v := by
  unfold xv_al
  rw [List.mem_filterMap]
  constructor
  · rintro ⟨i, hi, h⟩
    cases hl : lv[i]? with
    | none => rw [hl] at h; cases h
    | some z =>
      cases z with
      | none => rw [hl] at h; cases h
      | some v =>
        rw [hl] at h
        cases h
        exact ⟨v, hl, rfl⟩
  · rintro ⟨v, h1, h2⟩
    refine ⟨q.1, List.mem_range.mpr (List.getElem?_eq_some_iff.mp h1).1, ?_⟩
    rw [h1]
    obtain ⟨a, b⟩ := q
    cases h2
    rfl
theorem xv_al_at {G : xv_G} {lv : List (Option Value)} {i : Nat} {v : Value} (h : lv[i]? = some (some v)) : ∃ k : Nat, (xv_al G lv)[k]? = some (i, xv_cv G v) :=
  List.getElem?_of_mem (xv_al_mem.mpr ⟨v, h, rfl⟩)
theorem xv_lo_has {G : xv_G} {ls : Array Slot} {n : Nat} {lv : List (Option Value)} (h : xv_lo G ls n lv) : lv_has ls n (xv_al G lv) := by
  refine ⟨h.1, h.2.1, fun q hq => ?_⟩
  obtain ⟨v, h1, h2⟩ := xv_al_mem.mp hq
  rw [h2]
  exact h.2.2 _ _ h1
theorem xv_lo_put {G : xv_G} {ls ls' : Array Slot} {n i : Nat} {lv : List (Option Value)} {v : Value} (_ : xv_lo G ls n lv) (_ : i < n) (h2 : xv_c2 lv i = true) (h' : lv_has ls' n ((i, xv_cv G v) :: (xv_al G lv).filter (fun q => !(q.1 == i) && !(q.1 + 1 == i && q.2.category == 2)))) : xv_lo G ls' n (lv.set i (some v)) := by
  refine ⟨h'.1, h'.2.1, fun j z hz => ?_⟩
  rw [List.getElem?_set] at hz
  by_cases hj : i = j
  · subst hj
    rw [if_pos rfl] at hz
    split at hz
    · cases hz
      exact h'.2.2 (i, xv_cv G v) List.mem_cons_self
    · cases hz
  · rw [if_neg hj] at hz
    refine h'.2.2 (j, xv_cv G z) (List.mem_cons_of_mem _ (List.mem_filter.mpr ⟨xv_al_mem.mpr ⟨z, hz, rfl⟩, ?_⟩))
    have e1 : (j == i) = false := by simpa using (fun q => hj q.symm)
    show (!(j == i) && !(j + 1 == i && (xv_cv G z).category == 2)) = true
    rw [e1, xv_cat]
    cases hi : i with
    | zero => simp
    | succ y =>
      by_cases hy : j = y
      · subst hy
        rw [hi] at h2
        have h3 : lv.getD j none = some z := by
          rw [List.getD_eq_getElem?_getD, hz]
          rfl
        simp only [xv_c2, h3] at h2
        simpa using h2
      · have : ¬ (j + 1 = y + 1) := by omega
        simp [this]
        omega
end
section
/-! RULES: a rule an instruction -/
theorem xv_iconst {sc : Nat × (Nat → Int32)} {d : Nat} {J : xv_J} {pc : Nat} {lv : List (Option Value)} {st : List Value} {u : xv_M} {n1 s1 : Nat} {P : xv_P} {n : Int} (v : Int32) (hdg : decode J.2.1 pc = .ok (.iconst n, 1)) (hv : Int32.ofInt n = v) (k : xv_X sc d J (pc + 1) lv (.int v :: st) u n1 s1 P) : xv_X sc d J pc lv st u n1 s1 P := fun p l e R s m args below meth c G N0 S0 Q H locs ls A0 lo hP wf hS hN hZ => lv_iconst A0.1 A0.2.1 hdg hv (k p l e R s m args below meth c G N0 S0 Q H locs ls A0 lo hP wf hS hN hZ)
theorem xv_bipush {sc : Nat × (Nat → Int32)} {d : Nat} {J : xv_J} {pc : Nat} {lv : List (Option Value)} {st : List Value} {u : xv_M} {n1 s1 : Nat} {P : xv_P} {n : Int} (v : Int32) (hdg : decode J.2.1 pc = .ok (.bipush n, 2)) (hv : (Int8.ofInt n).toInt32 = v) (k : xv_X sc d J (pc + 2) lv (.int v :: st) u n1 s1 P) : xv_X sc d J pc lv st u n1 s1 P := fun p l e R s m args below meth c G N0 S0 Q H locs ls A0 lo hP wf hS hN hZ => lv_bipush A0.1 A0.2.1 hdg hv (k p l e R s m args below meth c G N0 S0 Q H locs ls A0 lo hP wf hS hN hZ)
theorem xv_sipush {sc : Nat × (Nat → Int32)} {d : Nat} {J : xv_J} {pc : Nat} {lv : List (Option Value)} {st : List Value} {u : xv_M} {n1 s1 : Nat} {P : xv_P} {n : Int} (v : Int32) (hdg : decode J.2.1 pc = .ok (.sipush n, 3)) (hv : (Int16.ofInt n).toInt32 = v) (k : xv_X sc d J (pc + 3) lv (.int v :: st) u n1 s1 P) : xv_X sc d J pc lv st u n1 s1 P := fun p l e R s m args below meth c G N0 S0 Q H locs ls A0 lo hP wf hS hN hZ => lv_sipush A0.1 A0.2.1 hdg hv (k p l e R s m args below meth c G N0 S0 Q H locs ls A0 lo hP wf hS hN hZ)
theorem xv_ldc {sc : Nat × (Nat → Int32)} {d : Nat} {J : xv_J} {pc : Nat} {lv : List (Option Value)} {st : List Value} {u : xv_M} {n1 s1 : Nat} {P : xv_P} {index : Nat} (v : Int32) (hdg : decode J.2.1 pc = .ok (.ldc index, 2)) (hw : Jvm.Cond.constant J.1.cls index v ∈ xv_BIG) (k : xv_X sc d J (pc + 2) lv (.int v :: st) u n1 s1 P) : xv_X sc d J pc lv st u n1 s1 P := fun p l e R s m args below meth c G N0 S0 Q H locs ls A0 lo hP wf hS hN hZ => lv_ldc A0.1 A0.2.1 A0.2.2.2.2.1 (A0.2.2.2.2.2.1 _ hw) hdg (k p l e R s m args below meth c G N0 S0 Q H locs ls A0 lo hP wf hS hN hZ)
theorem xv_iload_n {sc : Nat × (Nat → Int32)} {d : Nat} {J : xv_J} {pc : Nat} {lv : List (Option Value)} {st : List Value} {u : xv_M} {n1 s1 : Nat} {P : xv_P} {kk : Fin 4} {i : Nat} {x : Int32} (hdg : decode J.2.1 pc = .ok (.iload_n kk, 1)) (hi : (kk : Nat) = i) (hl : lv[i]? = some (some (.int x))) (k : xv_X sc d J (pc + 1) lv (.int x :: st) u n1 s1 P) : xv_X sc d J pc lv st u n1 s1 P := fun p l e R s m args below meth c G N0 S0 Q H locs ls A0 lo hP wf hS hN hZ => lv_iload_n A0.1 A0.2.1 hdg hi (lo.2.2 i _ hl) (k p l e R s m args below meth c G N0 S0 Q H locs ls A0 lo hP wf hS hN hZ)
theorem xv_iload {sc : Nat × (Nat → Int32)} {d : Nat} {J : xv_J} {pc : Nat} {lv : List (Option Value)} {st : List Value} {u : xv_M} {n1 s1 : Nat} {P : xv_P} {i : Nat} {x : Int32} (hdg : decode J.2.1 pc = .ok (.iload i, 2)) (hl : lv[i]? = some (some (.int x))) (k : xv_X sc d J (pc + 2) lv (.int x :: st) u n1 s1 P) : xv_X sc d J pc lv st u n1 s1 P := fun p l e R s m args below meth c G N0 S0 Q H locs ls A0 lo hP wf hS hN hZ => lv_iload A0.1 A0.2.1 hdg (lo.2.2 i _ hl) (k p l e R s m args below meth c G N0 S0 Q H locs ls A0 lo hP wf hS hN hZ)
theorem xv_aload_n {sc : Nat × (Nat → Int32)} {d : Nat} {J : xv_J} {pc : Nat} {lv : List (Option Value)} {st : List Value} {u : xv_M} {n1 s1 : Nat} {P : xv_P} {kk : Fin 4} {i : Nat} {x : Nat} (hdg : decode J.2.1 pc = .ok (.aload_n kk, 1)) (hi : (kk : Nat) = i) (hl : lv[i]? = some (some (.ref x))) (k : xv_X sc d J (pc + 1) lv (.ref x :: st) u n1 s1 P) : xv_X sc d J pc lv st u n1 s1 P := fun p l e R s m args below meth c G N0 S0 Q H locs ls A0 lo hP wf hS hN hZ => lv_aload_n A0.1 A0.2.1 hdg hi (lo.2.2 i _ hl) (k p l e R s m args below meth c G N0 S0 Q H locs ls A0 lo hP wf hS hN hZ)
theorem xv_aload {sc : Nat × (Nat → Int32)} {d : Nat} {J : xv_J} {pc : Nat} {lv : List (Option Value)} {st : List Value} {u : xv_M} {n1 s1 : Nat} {P : xv_P} {i : Nat} {x : Nat} (hdg : decode J.2.1 pc = .ok (.aload i, 2)) (hl : lv[i]? = some (some (.ref x))) (k : xv_X sc d J (pc + 2) lv (.ref x :: st) u n1 s1 P) : xv_X sc d J pc lv st u n1 s1 P := fun p l e R s m args below meth c G N0 S0 Q H locs ls A0 lo hP wf hS hN hZ => lv_aload A0.1 A0.2.1 hdg (lo.2.2 i _ hl) (k p l e R s m args below meth c G N0 S0 Q H locs ls A0 lo hP wf hS hN hZ)
theorem xv_lload_n {sc : Nat × (Nat → Int32)} {d : Nat} {J : xv_J} {pc : Nat} {lv : List (Option Value)} {st : List Value} {u : xv_M} {n1 s1 : Nat} {P : xv_P} {kk : Fin 4} {i : Nat} {x : Int64} (hdg : decode J.2.1 pc = .ok (.lload_n kk, 1)) (hi : (kk : Nat) = i) (hl : lv[i]? = some (some (.long x))) (k : xv_X sc d J (pc + 1) lv (.long x :: st) u n1 s1 P) : xv_X sc d J pc lv st u n1 s1 P := fun p l e R s m args below meth c G N0 S0 Q H locs ls A0 lo hP wf hS hN hZ => lv_lload_n A0.1 A0.2.1 hdg hi (lo.2.2 i _ hl) (k p l e R s m args below meth c G N0 S0 Q H locs ls A0 lo hP wf hS hN hZ)
theorem xv_lload {sc : Nat × (Nat → Int32)} {d : Nat} {J : xv_J} {pc : Nat} {lv : List (Option Value)} {st : List Value} {u : xv_M} {n1 s1 : Nat} {P : xv_P} {i : Nat} {x : Int64} (hdg : decode J.2.1 pc = .ok (.lload i, 2)) (hl : lv[i]? = some (some (.long x))) (k : xv_X sc d J (pc + 2) lv (.long x :: st) u n1 s1 P) : xv_X sc d J pc lv st u n1 s1 P := fun p l e R s m args below meth c G N0 S0 Q H locs ls A0 lo hP wf hS hN hZ => lv_lload A0.1 A0.2.1 hdg (lo.2.2 i _ hl) (k p l e R s m args below meth c G N0 S0 Q H locs ls A0 lo hP wf hS hN hZ)
theorem xv_aloadE_n {sc : Nat × (Nat → Int32)} {d : Nat} {J : xv_J} {pc : Nat} {lv : List (Option Value)} {st : List Value} {u : xv_M} {n1 s1 : Nat} {P : xv_P} {kk : Fin 4} {i x : Nat} (hdg : decode J.2.1 pc = .ok (.aload_n kk, 1)) (hi : (kk : Nat) = i) (hl : lv[i]? = some (some (.retAddr x))) (k : xv_X sc d J (pc + 1) lv (.retAddr x :: st) u n1 s1 P) : xv_X sc d J pc lv st u n1 s1 P := fun p l e R s m args below meth c G N0 S0 Q H locs ls A0 lo hP wf hS hN hZ => lv_aload_n A0.1 A0.2.1 hdg hi (lo.2.2 i _ hl) (k p l e R s m args below meth c G N0 S0 Q H locs ls A0 lo hP wf hS hN hZ)
theorem xv_lconst {sc : Nat × (Nat → Int32)} {d : Nat} {J : xv_J} {pc : Nat} {lv : List (Option Value)} {st : List Value} {u : xv_M} {n1 s1 : Nat} {P : xv_P} {n : Fin 2} (v : Int64) (hdg : decode J.2.1 pc = .ok (.lconst n, 1)) (hv : Int64.ofNat (n : Nat) = v) (k : xv_X sc d J (pc + 1) lv (.long v :: st) u n1 s1 P) : xv_X sc d J pc lv st u n1 s1 P := fun p l e R s m args below meth c G N0 S0 Q H locs ls A0 lo hP wf hS hN hZ => lv_lconst A0.1 A0.2.1 hdg hv (k p l e R s m args below meth c G N0 S0 Q H locs ls A0 lo hP wf hS hN hZ)
theorem xv_iadd {sc : Nat × (Nat → Int32)} {d : Nat} {J : xv_J} {pc : Nat} {lv : List (Option Value)} {st : List Value} {u : xv_M} {n1 s1 : Nat} {P : xv_P} {x y : Int32} (hdg : decode J.2.1 pc = .ok (.iadd, 1))  (k : xv_X sc d J (pc + 1) lv (.int (x + y) :: st) u n1 s1 P) : xv_X sc d J pc lv (.int y :: .int x :: st) u n1 s1 P := fun p l e R s m args below meth c G N0 S0 Q H locs ls A0 lo hP wf hS hN hZ => lv_iadd A0.1 A0.2.1 hdg (k p l e R s m args below meth c G N0 S0 Q H locs ls A0 lo hP wf hS hN hZ)
theorem xv_isub {sc : Nat × (Nat → Int32)} {d : Nat} {J : xv_J} {pc : Nat} {lv : List (Option Value)} {st : List Value} {u : xv_M} {n1 s1 : Nat} {P : xv_P} {x y : Int32} (hdg : decode J.2.1 pc = .ok (.isub, 1))  (k : xv_X sc d J (pc + 1) lv (.int (x - y) :: st) u n1 s1 P) : xv_X sc d J pc lv (.int y :: .int x :: st) u n1 s1 P := fun p l e R s m args below meth c G N0 S0 Q H locs ls A0 lo hP wf hS hN hZ => lv_isub A0.1 A0.2.1 hdg (k p l e R s m args below meth c G N0 S0 Q H locs ls A0 lo hP wf hS hN hZ)
theorem xv_imul {sc : Nat × (Nat → Int32)} {d : Nat} {J : xv_J} {pc : Nat} {lv : List (Option Value)} {st : List Value} {u : xv_M} {n1 s1 : Nat} {P : xv_P} {x y : Int32} (hdg : decode J.2.1 pc = .ok (.imul, 1))  (k : xv_X sc d J (pc + 1) lv (.int (x * y) :: st) u n1 s1 P) : xv_X sc d J pc lv (.int y :: .int x :: st) u n1 s1 P := fun p l e R s m args below meth c G N0 S0 Q H locs ls A0 lo hP wf hS hN hZ => lv_imul A0.1 A0.2.1 hdg (k p l e R s m args below meth c G N0 S0 Q H locs ls A0 lo hP wf hS hN hZ)
theorem xv_iand {sc : Nat × (Nat → Int32)} {d : Nat} {J : xv_J} {pc : Nat} {lv : List (Option Value)} {st : List Value} {u : xv_M} {n1 s1 : Nat} {P : xv_P} {x y : Int32} (hdg : decode J.2.1 pc = .ok (.iand, 1))  (k : xv_X sc d J (pc + 1) lv (.int (x &&& y) :: st) u n1 s1 P) : xv_X sc d J pc lv (.int y :: .int x :: st) u n1 s1 P := fun p l e R s m args below meth c G N0 S0 Q H locs ls A0 lo hP wf hS hN hZ => lv_iand A0.1 A0.2.1 hdg (k p l e R s m args below meth c G N0 S0 Q H locs ls A0 lo hP wf hS hN hZ)
theorem xv_ior {sc : Nat × (Nat → Int32)} {d : Nat} {J : xv_J} {pc : Nat} {lv : List (Option Value)} {st : List Value} {u : xv_M} {n1 s1 : Nat} {P : xv_P} {x y : Int32} (hdg : decode J.2.1 pc = .ok (.ior, 1))  (k : xv_X sc d J (pc + 1) lv (.int (x ||| y) :: st) u n1 s1 P) : xv_X sc d J pc lv (.int y :: .int x :: st) u n1 s1 P := fun p l e R s m args below meth c G N0 S0 Q H locs ls A0 lo hP wf hS hN hZ => lv_ior A0.1 A0.2.1 hdg (k p l e R s m args below meth c G N0 S0 Q H locs ls A0 lo hP wf hS hN hZ)
theorem xv_ixor {sc : Nat × (Nat → Int32)} {d : Nat} {J : xv_J} {pc : Nat} {lv : List (Option Value)} {st : List Value} {u : xv_M} {n1 s1 : Nat} {P : xv_P} {x y : Int32} (hdg : decode J.2.1 pc = .ok (.ixor, 1))  (k : xv_X sc d J (pc + 1) lv (.int (x ^^^ y) :: st) u n1 s1 P) : xv_X sc d J pc lv (.int y :: .int x :: st) u n1 s1 P := fun p l e R s m args below meth c G N0 S0 Q H locs ls A0 lo hP wf hS hN hZ => lv_ixor A0.1 A0.2.1 hdg (k p l e R s m args below meth c G N0 S0 Q H locs ls A0 lo hP wf hS hN hZ)
theorem xv_ishl {sc : Nat × (Nat → Int32)} {d : Nat} {J : xv_J} {pc : Nat} {lv : List (Option Value)} {st : List Value} {u : xv_M} {n1 s1 : Nat} {P : xv_P} {x y : Int32} (hdg : decode J.2.1 pc = .ok (.ishl, 1))  (k : xv_X sc d J (pc + 1) lv (.int (x <<< (y &&& 31)) :: st) u n1 s1 P) : xv_X sc d J pc lv (.int y :: .int x :: st) u n1 s1 P := fun p l e R s m args below meth c G N0 S0 Q H locs ls A0 lo hP wf hS hN hZ => lv_ishl A0.1 A0.2.1 hdg (k p l e R s m args below meth c G N0 S0 Q H locs ls A0 lo hP wf hS hN hZ)
theorem xv_ishr {sc : Nat × (Nat → Int32)} {d : Nat} {J : xv_J} {pc : Nat} {lv : List (Option Value)} {st : List Value} {u : xv_M} {n1 s1 : Nat} {P : xv_P} {x y : Int32} (hdg : decode J.2.1 pc = .ok (.ishr, 1))  (k : xv_X sc d J (pc + 1) lv (.int (x >>> (y &&& 31)) :: st) u n1 s1 P) : xv_X sc d J pc lv (.int y :: .int x :: st) u n1 s1 P := fun p l e R s m args below meth c G N0 S0 Q H locs ls A0 lo hP wf hS hN hZ => lv_ishr A0.1 A0.2.1 hdg (k p l e R s m args below meth c G N0 S0 Q H locs ls A0 lo hP wf hS hN hZ)
theorem xv_idiv {sc : Nat × (Nat → Int32)} {d : Nat} {J : xv_J} {pc : Nat} {lv : List (Option Value)} {st : List Value} {u : xv_M} {n1 s1 : Nat} {P : xv_P} {x y : Int32} (hdg : decode J.2.1 pc = .ok (.idiv, 1)) (hne : ¬ y = 0) (k : xv_X sc d J (pc + 1) lv (.int (x / y) :: st) u n1 s1 P) : xv_X sc d J pc lv (.int y :: .int x :: st) u n1 s1 P := fun p l e R s m args below meth c G N0 S0 Q H locs ls A0 lo hP wf hS hN hZ => lv_idiv A0.1 A0.2.1 hdg hne (k p l e R s m args below meth c G N0 S0 Q H locs ls A0 lo hP wf hS hN hZ)
theorem xv_irem {sc : Nat × (Nat → Int32)} {d : Nat} {J : xv_J} {pc : Nat} {lv : List (Option Value)} {st : List Value} {u : xv_M} {n1 s1 : Nat} {P : xv_P} {x y : Int32} (hdg : decode J.2.1 pc = .ok (.irem, 1)) (hne : ¬ y = 0) (k : xv_X sc d J (pc + 1) lv (.int (x - x / y * y) :: st) u n1 s1 P) : xv_X sc d J pc lv (.int y :: .int x :: st) u n1 s1 P := fun p l e R s m args below meth c G N0 S0 Q H locs ls A0 lo hP wf hS hN hZ => lv_irem A0.1 A0.2.1 hdg hne (k p l e R s m args below meth c G N0 S0 Q H locs ls A0 lo hP wf hS hN hZ)
theorem xv_ineg {sc : Nat × (Nat → Int32)} {d : Nat} {J : xv_J} {pc : Nat} {lv : List (Option Value)} {st : List Value} {u : xv_M} {n1 s1 : Nat} {P : xv_P} {x : Int32} (hdg : decode J.2.1 pc = .ok (.ineg, 1))  (k : xv_X sc d J (pc + 1) lv (.int (-x) :: st) u n1 s1 P) : xv_X sc d J pc lv (.int x :: st) u n1 s1 P := fun p l e R s m args below meth c G N0 S0 Q H locs ls A0 lo hP wf hS hN hZ => lv_ineg A0.1 A0.2.1 hdg (k p l e R s m args below meth c G N0 S0 Q H locs ls A0 lo hP wf hS hN hZ)
theorem xv_i2l {sc : Nat × (Nat → Int32)} {d : Nat} {J : xv_J} {pc : Nat} {lv : List (Option Value)} {st : List Value} {u : xv_M} {n1 s1 : Nat} {P : xv_P} {x : Int32} (hdg : decode J.2.1 pc = .ok (.i2l, 1))  (k : xv_X sc d J (pc + 1) lv (.long x.toInt64 :: st) u n1 s1 P) : xv_X sc d J pc lv (.int x :: st) u n1 s1 P := fun p l e R s m args below meth c G N0 S0 Q H locs ls A0 lo hP wf hS hN hZ => lv_i2l A0.1 A0.2.1 hdg rfl (k p l e R s m args below meth c G N0 S0 Q H locs ls A0 lo hP wf hS hN hZ)
theorem xv_dup_int {sc : Nat × (Nat → Int32)} {d : Nat} {J : xv_J} {pc : Nat} {lv : List (Option Value)} {st : List Value} {u : xv_M} {n1 s1 : Nat} {P : xv_P} {x : Int32} (hdg : decode J.2.1 pc = .ok (.dup, 1))  (k : xv_X sc d J (pc + 1) lv (.int x :: .int x :: st) u n1 s1 P) : xv_X sc d J pc lv (.int x :: st) u n1 s1 P := fun p l e R s m args below meth c G N0 S0 Q H locs ls A0 lo hP wf hS hN hZ => lv_dup A0.1 A0.2.1 hdg rfl (k p l e R s m args below meth c G N0 S0 Q H locs ls A0 lo hP wf hS hN hZ)
theorem xv_pop_int {sc : Nat × (Nat → Int32)} {d : Nat} {J : xv_J} {pc : Nat} {lv : List (Option Value)} {st : List Value} {u : xv_M} {n1 s1 : Nat} {P : xv_P} {x : Int32} (hdg : decode J.2.1 pc = .ok (.pop, 1))  (k : xv_X sc d J (pc + 1) lv st u n1 s1 P) : xv_X sc d J pc lv (.int x :: st) u n1 s1 P := fun p l e R s m args below meth c G N0 S0 Q H locs ls A0 lo hP wf hS hN hZ => lv_pop A0.1 A0.2.1 hdg rfl (k p l e R s m args below meth c G N0 S0 Q H locs ls A0 lo hP wf hS hN hZ)
theorem xv_dup_ref {sc : Nat × (Nat → Int32)} {d : Nat} {J : xv_J} {pc : Nat} {lv : List (Option Value)} {st : List Value} {u : xv_M} {n1 s1 : Nat} {P : xv_P} {x : Nat} (hdg : decode J.2.1 pc = .ok (.dup, 1))  (k : xv_X sc d J (pc + 1) lv (.ref x :: .ref x :: st) u n1 s1 P) : xv_X sc d J pc lv (.ref x :: st) u n1 s1 P := fun p l e R s m args below meth c G N0 S0 Q H locs ls A0 lo hP wf hS hN hZ => lv_dup A0.1 A0.2.1 hdg rfl (k p l e R s m args below meth c G N0 S0 Q H locs ls A0 lo hP wf hS hN hZ)
theorem xv_pop_ref {sc : Nat × (Nat → Int32)} {d : Nat} {J : xv_J} {pc : Nat} {lv : List (Option Value)} {st : List Value} {u : xv_M} {n1 s1 : Nat} {P : xv_P} {x : Nat} (hdg : decode J.2.1 pc = .ok (.pop, 1))  (k : xv_X sc d J (pc + 1) lv st u n1 s1 P) : xv_X sc d J pc lv (.ref x :: st) u n1 s1 P := fun p l e R s m args below meth c G N0 S0 Q H locs ls A0 lo hP wf hS hN hZ => lv_pop A0.1 A0.2.1 hdg rfl (k p l e R s m args below meth c G N0 S0 Q H locs ls A0 lo hP wf hS hN hZ)
theorem xv_dup_x1 {sc : Nat × (Nat → Int32)} {d : Nat} {J : xv_J} {pc : Nat} {lv : List (Option Value)} {st : List Value} {u : xv_M} {n1 s1 : Nat} {P : xv_P} {x y : Int32} (hdg : decode J.2.1 pc = .ok (.dup_x1, 1))  (k : xv_X sc d J (pc + 1) lv (.int x :: .int y :: .int x :: st) u n1 s1 P) : xv_X sc d J pc lv (.int x :: .int y :: st) u n1 s1 P := fun p l e R s m args below meth c G N0 S0 Q H locs ls A0 lo hP wf hS hN hZ => lv_dup_x1 A0.1 A0.2.1 hdg rfl rfl (k p l e R s m args below meth c G N0 S0 Q H locs ls A0 lo hP wf hS hN hZ)
theorem xv_dup_x1r {sc : Nat × (Nat → Int32)} {d : Nat} {J : xv_J} {pc : Nat} {lv : List (Option Value)} {st : List Value} {u : xv_M} {n1 s1 : Nat} {P : xv_P} {x : Int32} {y : Nat} (hdg : decode J.2.1 pc = .ok (.dup_x1, 1))  (k : xv_X sc d J (pc + 1) lv (.int x :: .ref y :: .int x :: st) u n1 s1 P) : xv_X sc d J pc lv (.int x :: .ref y :: st) u n1 s1 P := fun p l e R s m args below meth c G N0 S0 Q H locs ls A0 lo hP wf hS hN hZ => lv_dup_x1 A0.1 A0.2.1 hdg rfl rfl (k p l e R s m args below meth c G N0 S0 Q H locs ls A0 lo hP wf hS hN hZ)
theorem xv_dup2 {sc : Nat × (Nat → Int32)} {d : Nat} {J : xv_J} {pc : Nat} {lv : List (Option Value)} {st : List Value} {u : xv_M} {n1 s1 : Nat} {P : xv_P} {y : Nat} {i : Int32} (hdg : decode J.2.1 pc = .ok (.dup2, 1))  (k : xv_X sc d J (pc + 1) lv (.int i :: .ref y :: .int i :: .ref y :: st) u n1 s1 P) : xv_X sc d J pc lv (.int i :: .ref y :: st) u n1 s1 P := fun p l e R s m args below meth c G N0 S0 Q H locs ls A0 lo hP wf hS hN hZ => lv_dup2_11 A0.1 A0.2.1 hdg rfl rfl (k p l e R s m args below meth c G N0 S0 Q H locs ls A0 lo hP wf hS hN hZ)
theorem xv_if_eq {sc : Nat × (Nat → Int32)} {d : Nat} {J : xv_J} {pc : Nat} {lv : List (Option Value)} {st : List Value} {u : xv_M} {n1 s1 : Nat} {P : xv_P} {x : Int32} {off : Int} (tgt : Nat) (hdg : decode J.2.1 pc = .ok (.ifCond .eq off, 3)) (ht : (pc : Int) + off = (tgt : Int)) (kt : x = 0 → xv_X sc d J tgt lv st u n1 s1 P) (kf : ¬ x = 0 → xv_X sc d J (pc + 3) lv st u n1 s1 P) : xv_X sc d J pc lv (.int x :: st) u n1 s1 P := fun p l e R s m args below meth c G N0 S0 Q H locs ls A0 lo hP wf hS hN hZ => lv_if_eq A0.1 A0.2.1 hdg ht (fun q => kt q p l e R s m args below meth c G N0 S0 Q H locs ls A0 lo hP wf hS hN hZ) (fun q => kf q p l e R s m args below meth c G N0 S0 Q H locs ls A0 lo hP wf hS hN hZ)
theorem xv_icmp_eq {sc : Nat × (Nat → Int32)} {d : Nat} {J : xv_J} {pc : Nat} {lv : List (Option Value)} {st : List Value} {u : xv_M} {n1 s1 : Nat} {P : xv_P} {x y : Int32} {off : Int} (tgt : Nat) (hdg : decode J.2.1 pc = .ok (.if_icmp .eq off, 3)) (ht : (pc : Int) + off = (tgt : Int)) (kt : x = y → xv_X sc d J tgt lv st u n1 s1 P) (kf : ¬ x = y → xv_X sc d J (pc + 3) lv st u n1 s1 P) : xv_X sc d J pc lv (.int y :: .int x :: st) u n1 s1 P := fun p l e R s m args below meth c G N0 S0 Q H locs ls A0 lo hP wf hS hN hZ => lv_icmp_eq A0.1 A0.2.1 hdg ht (fun q => kt q p l e R s m args below meth c G N0 S0 Q H locs ls A0 lo hP wf hS hN hZ) (fun q => kf q p l e R s m args below meth c G N0 S0 Q H locs ls A0 lo hP wf hS hN hZ)
theorem xv_if_ne {sc : Nat × (Nat → Int32)} {d : Nat} {J : xv_J} {pc : Nat} {lv : List (Option Value)} {st : List Value} {u : xv_M} {n1 s1 : Nat} {P : xv_P} {x : Int32} {off : Int} (tgt : Nat) (hdg : decode J.2.1 pc = .ok (.ifCond .ne off, 3)) (ht : (pc : Int) + off = (tgt : Int)) (kt : ¬ x = 0 → xv_X sc d J tgt lv st u n1 s1 P) (kf : x = 0 → xv_X sc d J (pc + 3) lv st u n1 s1 P) : xv_X sc d J pc lv (.int x :: st) u n1 s1 P := fun p l e R s m args below meth c G N0 S0 Q H locs ls A0 lo hP wf hS hN hZ => lv_if_ne A0.1 A0.2.1 hdg ht (fun q => kt q p l e R s m args below meth c G N0 S0 Q H locs ls A0 lo hP wf hS hN hZ) (fun q => kf q p l e R s m args below meth c G N0 S0 Q H locs ls A0 lo hP wf hS hN hZ)
theorem xv_icmp_ne {sc : Nat × (Nat → Int32)} {d : Nat} {J : xv_J} {pc : Nat} {lv : List (Option Value)} {st : List Value} {u : xv_M} {n1 s1 : Nat} {P : xv_P} {x y : Int32} {off : Int} (tgt : Nat) (hdg : decode J.2.1 pc = .ok (.if_icmp .ne off, 3)) (ht : (pc : Int) + off = (tgt : Int)) (kt : ¬ x = y → xv_X sc d J tgt lv st u n1 s1 P) (kf : x = y → xv_X sc d J (pc + 3) lv st u n1 s1 P) : xv_X sc d J pc lv (.int y :: .int x :: st) u n1 s1 P := fun p l e R s m args below meth c G N0 S0 Q H locs ls A0 lo hP wf hS hN hZ => lv_icmp_ne A0.1 A0.2.1 hdg ht (fun q => kt q p l e R s m args below meth c G N0 S0 Q H locs ls A0 lo hP wf hS hN hZ) (fun q => kf q p l e R s m args below meth c G N0 S0 Q H locs ls A0 lo hP wf hS hN hZ)
theorem xv_if_lt {sc : Nat × (Nat → Int32)} {d : Nat} {J : xv_J} {pc : Nat} {lv : List (Option Value)} {st : List Value} {u : xv_M} {n1 s1 : Nat} {P : xv_P} {x : Int32} {off : Int} (tgt : Nat) (hdg : decode J.2.1 pc = .ok (.ifCond .lt off, 3)) (ht : (pc : Int) + off = (tgt : Int)) (kt : x < 0 → xv_X sc d J tgt lv st u n1 s1 P) (kf : ¬ x < 0 → xv_X sc d J (pc + 3) lv st u n1 s1 P) : xv_X sc d J pc lv (.int x :: st) u n1 s1 P := fun p l e R s m args below meth c G N0 S0 Q H locs ls A0 lo hP wf hS hN hZ => lv_if_lt A0.1 A0.2.1 hdg ht (fun q => kt q p l e R s m args below meth c G N0 S0 Q H locs ls A0 lo hP wf hS hN hZ) (fun q => kf q p l e R s m args below meth c G N0 S0 Q H locs ls A0 lo hP wf hS hN hZ)
theorem xv_icmp_lt {sc : Nat × (Nat → Int32)} {d : Nat} {J : xv_J} {pc : Nat} {lv : List (Option Value)} {st : List Value} {u : xv_M} {n1 s1 : Nat} {P : xv_P} {x y : Int32} {off : Int} (tgt : Nat) (hdg : decode J.2.1 pc = .ok (.if_icmp .lt off, 3)) (ht : (pc : Int) + off = (tgt : Int)) (kt : x < y → xv_X sc d J tgt lv st u n1 s1 P) (kf : ¬ x < y → xv_X sc d J (pc + 3) lv st u n1 s1 P) : xv_X sc d J pc lv (.int y :: .int x :: st) u n1 s1 P := fun p l e R s m args below meth c G N0 S0 Q H locs ls A0 lo hP wf hS hN hZ => lv_icmp_lt A0.1 A0.2.1 hdg ht (fun q => kt q p l e R s m args below meth c G N0 S0 Q H locs ls A0 lo hP wf hS hN hZ) (fun q => kf q p l e R s m args below meth c G N0 S0 Q H locs ls A0 lo hP wf hS hN hZ)
theorem xv_if_ge {sc : Nat × (Nat → Int32)} {d : Nat} {J : xv_J} {pc : Nat} {lv : List (Option Value)} {st : List Value} {u : xv_M} {n1 s1 : Nat} {P : xv_P} {x : Int32} {off : Int} (tgt : Nat) (hdg : decode J.2.1 pc = .ok (.ifCond .ge off, 3)) (ht : (pc : Int) + off = (tgt : Int)) (kt : 0 ≤ x → xv_X sc d J tgt lv st u n1 s1 P) (kf : ¬ 0 ≤ x → xv_X sc d J (pc + 3) lv st u n1 s1 P) : xv_X sc d J pc lv (.int x :: st) u n1 s1 P := fun p l e R s m args below meth c G N0 S0 Q H locs ls A0 lo hP wf hS hN hZ => lv_if_ge A0.1 A0.2.1 hdg ht (fun q => kt q p l e R s m args below meth c G N0 S0 Q H locs ls A0 lo hP wf hS hN hZ) (fun q => kf q p l e R s m args below meth c G N0 S0 Q H locs ls A0 lo hP wf hS hN hZ)
theorem xv_icmp_ge {sc : Nat × (Nat → Int32)} {d : Nat} {J : xv_J} {pc : Nat} {lv : List (Option Value)} {st : List Value} {u : xv_M} {n1 s1 : Nat} {P : xv_P} {x y : Int32} {off : Int} (tgt : Nat) (hdg : decode J.2.1 pc = .ok (.if_icmp .ge off, 3)) (ht : (pc : Int) + off = (tgt : Int)) (kt : y ≤ x → xv_X sc d J tgt lv st u n1 s1 P) (kf : ¬ y ≤ x → xv_X sc d J (pc + 3) lv st u n1 s1 P) : xv_X sc d J pc lv (.int y :: .int x :: st) u n1 s1 P := fun p l e R s m args below meth c G N0 S0 Q H locs ls A0 lo hP wf hS hN hZ => lv_icmp_ge A0.1 A0.2.1 hdg ht (fun q => kt q p l e R s m args below meth c G N0 S0 Q H locs ls A0 lo hP wf hS hN hZ) (fun q => kf q p l e R s m args below meth c G N0 S0 Q H locs ls A0 lo hP wf hS hN hZ)
theorem xv_if_gt {sc : Nat × (Nat → Int32)} {d : Nat} {J : xv_J} {pc : Nat} {lv : List (Option Value)} {st : List Value} {u : xv_M} {n1 s1 : Nat} {P : xv_P} {x : Int32} {off : Int} (tgt : Nat) (hdg : decode J.2.1 pc = .ok (.ifCond .gt off, 3)) (ht : (pc : Int) + off = (tgt : Int)) (kt : 0 < x → xv_X sc d J tgt lv st u n1 s1 P) (kf : ¬ 0 < x → xv_X sc d J (pc + 3) lv st u n1 s1 P) : xv_X sc d J pc lv (.int x :: st) u n1 s1 P := fun p l e R s m args below meth c G N0 S0 Q H locs ls A0 lo hP wf hS hN hZ => lv_if_gt A0.1 A0.2.1 hdg ht (fun q => kt q p l e R s m args below meth c G N0 S0 Q H locs ls A0 lo hP wf hS hN hZ) (fun q => kf q p l e R s m args below meth c G N0 S0 Q H locs ls A0 lo hP wf hS hN hZ)
theorem xv_icmp_gt {sc : Nat × (Nat → Int32)} {d : Nat} {J : xv_J} {pc : Nat} {lv : List (Option Value)} {st : List Value} {u : xv_M} {n1 s1 : Nat} {P : xv_P} {x y : Int32} {off : Int} (tgt : Nat) (hdg : decode J.2.1 pc = .ok (.if_icmp .gt off, 3)) (ht : (pc : Int) + off = (tgt : Int)) (kt : y < x → xv_X sc d J tgt lv st u n1 s1 P) (kf : ¬ y < x → xv_X sc d J (pc + 3) lv st u n1 s1 P) : xv_X sc d J pc lv (.int y :: .int x :: st) u n1 s1 P := fun p l e R s m args below meth c G N0 S0 Q H locs ls A0 lo hP wf hS hN hZ => lv_icmp_gt A0.1 A0.2.1 hdg ht (fun q => kt q p l e R s m args below meth c G N0 S0 Q H locs ls A0 lo hP wf hS hN hZ) (fun q => kf q p l e R s m args below meth c G N0 S0 Q H locs ls A0 lo hP wf hS hN hZ)
theorem xv_if_le {sc : Nat × (Nat → Int32)} {d : Nat} {J : xv_J} {pc : Nat} {lv : List (Option Value)} {st : List Value} {u : xv_M} {n1 s1 : Nat} {P : xv_P} {x : Int32} {off : Int} (tgt : Nat) (hdg : decode J.2.1 pc = .ok (.ifCond .le off, 3)) (ht : (pc : Int) + off = (tgt : Int)) (kt : x ≤ 0 → xv_X sc d J tgt lv st u n1 s1 P) (kf : ¬ x ≤ 0 → xv_X sc d J (pc + 3) lv st u n1 s1 P) : xv_X sc d J pc lv (.int x :: st) u n1 s1 P := fun p l e R s m args below meth c G N0 S0 Q H locs ls A0 lo hP wf hS hN hZ => lv_if_le A0.1 A0.2.1 hdg ht (fun q => kt q p l e R s m args below meth c G N0 S0 Q H locs ls A0 lo hP wf hS hN hZ) (fun q => kf q p l e R s m args below meth c G N0 S0 Q H locs ls A0 lo hP wf hS hN hZ)
theorem xv_icmp_le {sc : Nat × (Nat → Int32)} {d : Nat} {J : xv_J} {pc : Nat} {lv : List (Option Value)} {st : List Value} {u : xv_M} {n1 s1 : Nat} {P : xv_P} {x y : Int32} {off : Int} (tgt : Nat) (hdg : decode J.2.1 pc = .ok (.if_icmp .le off, 3)) (ht : (pc : Int) + off = (tgt : Int)) (kt : x ≤ y → xv_X sc d J tgt lv st u n1 s1 P) (kf : ¬ x ≤ y → xv_X sc d J (pc + 3) lv st u n1 s1 P) : xv_X sc d J pc lv (.int y :: .int x :: st) u n1 s1 P := fun p l e R s m args below meth c G N0 S0 Q H locs ls A0 lo hP wf hS hN hZ => lv_icmp_le A0.1 A0.2.1 hdg ht (fun q => kt q p l e R s m args below meth c G N0 S0 Q H locs ls A0 lo hP wf hS hN hZ) (fun q => kf q p l e R s m args below meth c G N0 S0 Q H locs ls A0 lo hP wf hS hN hZ)
theorem xv_goto {sc : Nat × (Nat → Int32)} {d : Nat} {J : xv_J} {pc : Nat} {lv : List (Option Value)} {st : List Value} {u : xv_M} {n1 s1 : Nat} {P : xv_P} {off : Int} (tgt : Nat) (hdg : decode J.2.1 pc = .ok (.goto off, 3)) (ht : (pc : Int) + off = (tgt : Int)) (k : xv_X sc d J tgt lv st u n1 s1 P) : xv_X sc d J pc lv st u n1 s1 P := fun p l e R s m args below meth c G N0 S0 Q H locs ls A0 lo hP wf hS hN hZ => lv_goto A0.1 A0.2.1 hdg ht (k p l e R s m args below meth c G N0 S0 Q H locs ls A0 lo hP wf hS hN hZ)
theorem xv_tableOut {sc : Nat × (Nat → Int32)} {d : Nat} {J : xv_J} {pc : Nat} {lv : List (Option Value)} {st : List Value} {u : xv_M} {n1 s1 : Nat} {P : xv_P} {dflt lo hi : Int} {offs : Array Int} {len : Nat} {x : Int32} (tgt : Nat) (hdg : decode J.2.1 pc = .ok (.tableswitch dflt lo hi offs, len)) (h : x.toInt < lo ∨ hi < x.toInt) (ht : (pc : Int) + dflt = (tgt : Int)) (k : xv_X sc d J tgt lv st u n1 s1 P) : xv_X sc d J pc lv (.int x :: st) u n1 s1 P := fun p l e R s m args below meth c G N0 S0 Q H locs ls A0 lo hP wf hS hN hZ => lv_tableOut A0.1 A0.2.1 hdg h ht (k p l e R s m args below meth c G N0 S0 Q H locs ls A0 lo hP wf hS hN hZ)
theorem xv_tableIn {sc : Nat × (Nat → Int32)} {d : Nat} {J : xv_J} {pc : Nat} {lv : List (Option Value)} {st : List Value} {u : xv_M} {n1 s1 : Nat} {P : xv_P} {dflt lo hi : Int} {offs : Array Int} {len : Nat} {x : Int32} {off : Int} (tgt : Nat) (hdg : decode J.2.1 pc = .ok (.tableswitch dflt lo hi offs, len)) (h1 : ¬ x.toInt < lo) (h2 : ¬ hi < x.toInt) (ho : offs[(x.toInt - lo).toNat]? = some off) (ht : (pc : Int) + off = (tgt : Int)) (k : xv_X sc d J tgt lv st u n1 s1 P) : xv_X sc d J pc lv (.int x :: st) u n1 s1 P := fun p l e R s m args below meth c G N0 S0 Q H locs ls A0 lo hP wf hS hN hZ => lv_tableIn A0.1 A0.2.1 hdg h1 h2 ho ht (k p l e R s m args below meth c G N0 S0 Q H locs ls A0 lo hP wf hS hN hZ)
theorem xv_lookup {sc : Nat × (Nat → Int32)} {d : Nat} {J : xv_J} {pc : Nat} {lv : List (Option Value)} {st : List Value} {u : xv_M} {n1 s1 : Nat} {P : xv_P} {dflt : Int} {ps : Array (Int × Int)} {len : Nat} {x : Int32} {off : Int} (tgt : Nat) (hdg : decode J.2.1 pc = .ok (.lookupswitch dflt ps, len)) (hp : (ps.toList.zip (ps.toList.drop 1)).all (fun (a, next) => a.1 < next.1) = true) (ho : Op.lookupswitch.offset ps.toList dflt x.toInt = off) (ht : (pc : Int) + off = (tgt : Int)) (k : xv_X sc d J tgt lv st u n1 s1 P) : xv_X sc d J pc lv (.int x :: st) u n1 s1 P := fun p l e R s m args below meth c G N0 S0 Q H locs ls A0 lo hP wf hS hN hZ => lv_lookup A0.1 A0.2.1 hdg hp ho ht (k p l e R s m args below meth c G N0 S0 Q H locs ls A0 lo hP wf hS hN hZ)
theorem xv_istoreG_n {sc : Nat × (Nat → Int32)} {d : Nat} {J : xv_J} {pc : Nat} {lv : List (Option Value)} {st : List Value} {u : xv_M} {n1 s1 : Nat} {P : xv_P} {kk : Fin 4} {i : Nat} {x : Int32} (hdg : decode J.2.1 pc = .ok (.istore_n kk, 1)) (hi : (kk : Nat) = i) (hn : i < J.2.2.1) (h2 : xv_c2 lv i = true) (k : xv_X sc d J (pc + 1) (lv.set i (some (.int x))) st u n1 s1 P) : xv_X sc d J pc lv (.int x :: st) u n1 s1 P := by
  intro p l e R s m args below meth c G N0 S0 Q H locs ls A0 lo hP wf hS hN hZ
  refine lv_istore_n A0.1 A0.2.1 hdg hi (xv_lo_has lo) hn rfl (fun ls' h' => ?_)
  exact k p l e R s m args below meth c G N0 S0 Q H locs ls' A0 (xv_lo_put lo hn h2 h') hP wf hS hN hZ
theorem xv_istoreG {sc : Nat × (Nat → Int32)} {d : Nat} {J : xv_J} {pc : Nat} {lv : List (Option Value)} {st : List Value} {u : xv_M} {n1 s1 : Nat} {P : xv_P} {i : Nat} {x : Int32} (hdg : decode J.2.1 pc = .ok (.istore i, 2)) (hn : i < J.2.2.1) (h2 : xv_c2 lv i = true) (k : xv_X sc d J (pc + 2) (lv.set i (some (.int x))) st u n1 s1 P) : xv_X sc d J pc lv (.int x :: st) u n1 s1 P := by
  intro p l e R s m args below meth c G N0 S0 Q H locs ls A0 lo hP wf hS hN hZ
  refine lv_istore A0.1 A0.2.1 hdg (xv_lo_has lo) hn rfl (fun ls' h' => ?_)
  exact k p l e R s m args below meth c G N0 S0 Q H locs ls' A0 (xv_lo_put lo hn h2 h') hP wf hS hN hZ
theorem xv_astoreG_n {sc : Nat × (Nat → Int32)} {d : Nat} {J : xv_J} {pc : Nat} {lv : List (Option Value)} {st : List Value} {u : xv_M} {n1 s1 : Nat} {P : xv_P} {kk : Fin 4} {i : Nat} {x : Nat} (hdg : decode J.2.1 pc = .ok (.astore_n kk, 1)) (hi : (kk : Nat) = i) (hn : i < J.2.2.1) (h2 : xv_c2 lv i = true) (k : xv_X sc d J (pc + 1) (lv.set i (some (.ref x))) st u n1 s1 P) : xv_X sc d J pc lv (.ref x :: st) u n1 s1 P := by
  intro p l e R s m args below meth c G N0 S0 Q H locs ls A0 lo hP wf hS hN hZ
  refine lv_astore_n A0.1 A0.2.1 hdg hi (xv_lo_has lo) hn rfl (fun ls' h' => ?_)
  exact k p l e R s m args below meth c G N0 S0 Q H locs ls' A0 (xv_lo_put lo hn h2 h') hP wf hS hN hZ
theorem xv_astoreG {sc : Nat × (Nat → Int32)} {d : Nat} {J : xv_J} {pc : Nat} {lv : List (Option Value)} {st : List Value} {u : xv_M} {n1 s1 : Nat} {P : xv_P} {i : Nat} {x : Nat} (hdg : decode J.2.1 pc = .ok (.astore i, 2)) (hn : i < J.2.2.1) (h2 : xv_c2 lv i = true) (k : xv_X sc d J (pc + 2) (lv.set i (some (.ref x))) st u n1 s1 P) : xv_X sc d J pc lv (.ref x :: st) u n1 s1 P := by
  intro p l e R s m args below meth c G N0 S0 Q H locs ls A0 lo hP wf hS hN hZ
  refine lv_astore A0.1 A0.2.1 hdg (xv_lo_has lo) hn rfl (fun ls' h' => ?_)
  exact k p l e R s m args below meth c G N0 S0 Q H locs ls' A0 (xv_lo_put lo hn h2 h') hP wf hS hN hZ
theorem xv_iincG {sc : Nat × (Nat → Int32)} {d : Nat} {J : xv_J} {pc : Nat} {lv : List (Option Value)} {st : List Value} {u : xv_M} {n1 s1 : Nat} {P : xv_P} {i : Nat} {n : Int} {x : Int32} (v : Int32) (hdg : decode J.2.1 pc = .ok (.iinc i n, 3)) (hl : lv[i]? = some (some (.int x))) (hv : x + Int32.ofInt n = v) (hn : i < J.2.2.1) (h2 : xv_c2 lv i = true) (k : xv_X sc d J (pc + 3) (lv.set i (some (.int v))) st u n1 s1 P) : xv_X sc d J pc lv st u n1 s1 P := by
  intro p l e R s m args below meth c G N0 S0 Q H locs ls A0 lo hP wf hS hN hZ
  obtain ⟨q, hq⟩ := xv_al_at (G := G) hl
  refine lv_iinc A0.1 A0.2.1 hdg (xv_lo_has lo) hq hv hn rfl (fun ls' h' => ?_)
  exact k p l e R s m args below meth c G N0 S0 Q H locs ls' A0 (xv_lo_put (v := .int v) lo hn h2 h') hP wf hS hN hZ
theorem xv_istore_0 {sc : Nat × (Nat → Int32)} {d : Nat} {J : xv_J} {pc : Nat} {a0 : Option Value} {t : List (Option Value)} {st : List Value} {u : xv_M} {n1 s1 : Nat} {P : xv_P} {x : Int32} (hdg : decode J.2.1 pc = .ok (.istore_n 0, 1)) (hn : 0 < J.2.2.1)  (k : xv_X sc d J (pc + 1) (some (.int x) :: t) st u n1 s1 P) : xv_X sc d J pc (a0 :: t) (.int x :: st) u n1 s1 P := xv_istoreG_n hdg rfl hn rfl k
theorem xv_astore_0 {sc : Nat × (Nat → Int32)} {d : Nat} {J : xv_J} {pc : Nat} {a0 : Option Value} {t : List (Option Value)} {st : List Value} {u : xv_M} {n1 s1 : Nat} {P : xv_P} {x : Nat} (hdg : decode J.2.1 pc = .ok (.astore_n 0, 1)) (hn : 0 < J.2.2.1)  (k : xv_X sc d J (pc + 1) (some (.ref x) :: t) st u n1 s1 P) : xv_X sc d J pc (a0 :: t) (.ref x :: st) u n1 s1 P := xv_astoreG_n hdg rfl hn rfl k
theorem xv_iinc_0 {sc : Nat × (Nat → Int32)} {d : Nat} {J : xv_J} {pc : Nat}  {t : List (Option Value)} {st : List Value} {u : xv_M} {n1 s1 : Nat} {P : xv_P} {n : Int} {x : Int32} (v : Int32) (hdg : decode J.2.1 pc = .ok (.iinc 0 n, 3)) (hv : x + Int32.ofInt n = v) (hn : 0 < J.2.2.1)  (k : xv_X sc d J (pc + 3) (some (.int v) :: t) st u n1 s1 P) : xv_X sc d J pc (some (.int x) :: t) st u n1 s1 P := xv_iincG v hdg rfl hv hn rfl k
theorem xv_istore_1 {sc : Nat × (Nat → Int32)} {d : Nat} {J : xv_J} {pc : Nat} {a0 a1 : Option Value} {t : List (Option Value)} {st : List Value} {u : xv_M} {n1 s1 : Nat} {P : xv_P} {x : Int32} (hdg : decode J.2.1 pc = .ok (.istore_n 1, 1)) (hn : 1 < J.2.2.1) (h2 : xv_c2 [a0] 1 = true) (k : xv_X sc d J (pc + 1) (a0 :: some (.int x) :: t) st u n1 s1 P) : xv_X sc d J pc (a0 :: a1 :: t) (.int x :: st) u n1 s1 P := xv_istoreG_n hdg rfl hn h2 k
theorem xv_astore_1 {sc : Nat × (Nat → Int32)} {d : Nat} {J : xv_J} {pc : Nat} {a0 a1 : Option Value} {t : List (Option Value)} {st : List Value} {u : xv_M} {n1 s1 : Nat} {P : xv_P} {x : Nat} (hdg : decode J.2.1 pc = .ok (.astore_n 1, 1)) (hn : 1 < J.2.2.1) (h2 : xv_c2 [a0] 1 = true) (k : xv_X sc d J (pc + 1) (a0 :: some (.ref x) :: t) st u n1 s1 P) : xv_X sc d J pc (a0 :: a1 :: t) (.ref x :: st) u n1 s1 P := xv_astoreG_n hdg rfl hn h2 k
theorem xv_iinc_1 {sc : Nat × (Nat → Int32)} {d : Nat} {J : xv_J} {pc : Nat} {a0 : Option Value} {t : List (Option Value)} {st : List Value} {u : xv_M} {n1 s1 : Nat} {P : xv_P} {n : Int} {x : Int32} (v : Int32) (hdg : decode J.2.1 pc = .ok (.iinc 1 n, 3)) (hv : x + Int32.ofInt n = v) (hn : 1 < J.2.2.1) (h2 : xv_c2 [a0] 1 = true) (k : xv_X sc d J (pc + 3) (a0 :: some (.int v) :: t) st u n1 s1 P) : xv_X sc d J pc (a0 :: some (.int x) :: t) st u n1 s1 P := xv_iincG v hdg rfl hv hn h2 k
theorem xv_istore_2 {sc : Nat × (Nat → Int32)} {d : Nat} {J : xv_J} {pc : Nat} {a0 a1 a2 : Option Value} {t : List (Option Value)} {st : List Value} {u : xv_M} {n1 s1 : Nat} {P : xv_P} {x : Int32} (hdg : decode J.2.1 pc = .ok (.istore_n 2, 1)) (hn : 2 < J.2.2.1) (h2 : xv_c2 [a0, a1] 2 = true) (k : xv_X sc d J (pc + 1) (a0 :: a1 :: some (.int x) :: t) st u n1 s1 P) : xv_X sc d J pc (a0 :: a1 :: a2 :: t) (.int x :: st) u n1 s1 P := xv_istoreG_n hdg rfl hn h2 k
theorem xv_astore_2 {sc : Nat × (Nat → Int32)} {d : Nat} {J : xv_J} {pc : Nat} {a0 a1 a2 : Option Value} {t : List (Option Value)} {st : List Value} {u : xv_M} {n1 s1 : Nat} {P : xv_P} {x : Nat} (hdg : decode J.2.1 pc = .ok (.astore_n 2, 1)) (hn : 2 < J.2.2.1) (h2 : xv_c2 [a0, a1] 2 = true) (k : xv_X sc d J (pc + 1) (a0 :: a1 :: some (.ref x) :: t) st u n1 s1 P) : xv_X sc d J pc (a0 :: a1 :: a2 :: t) (.ref x :: st) u n1 s1 P := xv_astoreG_n hdg rfl hn h2 k
theorem xv_iinc_2 {sc : Nat × (Nat → Int32)} {d : Nat} {J : xv_J} {pc : Nat} {a0 a1 : Option Value} {t : List (Option Value)} {st : List Value} {u : xv_M} {n1 s1 : Nat} {P : xv_P} {n : Int} {x : Int32} (v : Int32) (hdg : decode J.2.1 pc = .ok (.iinc 2 n, 3)) (hv : x + Int32.ofInt n = v) (hn : 2 < J.2.2.1) (h2 : xv_c2 [a0, a1] 2 = true) (k : xv_X sc d J (pc + 3) (a0 :: a1 :: some (.int v) :: t) st u n1 s1 P) : xv_X sc d J pc (a0 :: a1 :: some (.int x) :: t) st u n1 s1 P := xv_iincG v hdg rfl hv hn h2 k
theorem xv_istore_3 {sc : Nat × (Nat → Int32)} {d : Nat} {J : xv_J} {pc : Nat} {a0 a1 a2 a3 : Option Value} {t : List (Option Value)} {st : List Value} {u : xv_M} {n1 s1 : Nat} {P : xv_P} {x : Int32} (hdg : decode J.2.1 pc = .ok (.istore_n 3, 1)) (hn : 3 < J.2.2.1) (h2 : xv_c2 [a0, a1, a2] 3 = true) (k : xv_X sc d J (pc + 1) (a0 :: a1 :: a2 :: some (.int x) :: t) st u n1 s1 P) : xv_X sc d J pc (a0 :: a1 :: a2 :: a3 :: t) (.int x :: st) u n1 s1 P := xv_istoreG_n hdg rfl hn h2 k
theorem xv_astore_3 {sc : Nat × (Nat → Int32)} {d : Nat} {J : xv_J} {pc : Nat} {a0 a1 a2 a3 : Option Value} {t : List (Option Value)} {st : List Value} {u : xv_M} {n1 s1 : Nat} {P : xv_P} {x : Nat} (hdg : decode J.2.1 pc = .ok (.astore_n 3, 1)) (hn : 3 < J.2.2.1) (h2 : xv_c2 [a0, a1, a2] 3 = true) (k : xv_X sc d J (pc + 1) (a0 :: a1 :: a2 :: some (.ref x) :: t) st u n1 s1 P) : xv_X sc d J pc (a0 :: a1 :: a2 :: a3 :: t) (.ref x :: st) u n1 s1 P := xv_astoreG_n hdg rfl hn h2 k
theorem xv_iinc_3 {sc : Nat × (Nat → Int32)} {d : Nat} {J : xv_J} {pc : Nat} {a0 a1 a2 : Option Value} {t : List (Option Value)} {st : List Value} {u : xv_M} {n1 s1 : Nat} {P : xv_P} {n : Int} {x : Int32} (v : Int32) (hdg : decode J.2.1 pc = .ok (.iinc 3 n, 3)) (hv : x + Int32.ofInt n = v) (hn : 3 < J.2.2.1) (h2 : xv_c2 [a0, a1, a2] 3 = true) (k : xv_X sc d J (pc + 3) (a0 :: a1 :: a2 :: some (.int v) :: t) st u n1 s1 P) : xv_X sc d J pc (a0 :: a1 :: a2 :: some (.int x) :: t) st u n1 s1 P := xv_iincG v hdg rfl hv hn h2 k
theorem xv_istore_4 {sc : Nat × (Nat → Int32)} {d : Nat} {J : xv_J} {pc : Nat} {a0 a1 a2 a3 a4 : Option Value} {t : List (Option Value)} {st : List Value} {u : xv_M} {n1 s1 : Nat} {P : xv_P} {x : Int32} (hdg : decode J.2.1 pc = .ok (.istore 4, 2)) (hn : 4 < J.2.2.1) (h2 : xv_c2 [a0, a1, a2, a3] 4 = true) (k : xv_X sc d J (pc + 2) (a0 :: a1 :: a2 :: a3 :: some (.int x) :: t) st u n1 s1 P) : xv_X sc d J pc (a0 :: a1 :: a2 :: a3 :: a4 :: t) (.int x :: st) u n1 s1 P := xv_istoreG hdg hn h2 k
theorem xv_astore_4 {sc : Nat × (Nat → Int32)} {d : Nat} {J : xv_J} {pc : Nat} {a0 a1 a2 a3 a4 : Option Value} {t : List (Option Value)} {st : List Value} {u : xv_M} {n1 s1 : Nat} {P : xv_P} {x : Nat} (hdg : decode J.2.1 pc = .ok (.astore 4, 2)) (hn : 4 < J.2.2.1) (h2 : xv_c2 [a0, a1, a2, a3] 4 = true) (k : xv_X sc d J (pc + 2) (a0 :: a1 :: a2 :: a3 :: some (.ref x) :: t) st u n1 s1 P) : xv_X sc d J pc (a0 :: a1 :: a2 :: a3 :: a4 :: t) (.ref x :: st) u n1 s1 P := xv_astoreG hdg hn h2 k
theorem xv_iinc_4 {sc : Nat × (Nat → Int32)} {d : Nat} {J : xv_J} {pc : Nat} {a0 a1 a2 a3 : Option Value} {t : List (Option Value)} {st : List Value} {u : xv_M} {n1 s1 : Nat} {P : xv_P} {n : Int} {x : Int32} (v : Int32) (hdg : decode J.2.1 pc = .ok (.iinc 4 n, 3)) (hv : x + Int32.ofInt n = v) (hn : 4 < J.2.2.1) (h2 : xv_c2 [a0, a1, a2, a3] 4 = true) (k : xv_X sc d J (pc + 3) (a0 :: a1 :: a2 :: a3 :: some (.int v) :: t) st u n1 s1 P) : xv_X sc d J pc (a0 :: a1 :: a2 :: a3 :: some (.int x) :: t) st u n1 s1 P := xv_iincG v hdg rfl hv hn h2 k
theorem xv_istore_5 {sc : Nat × (Nat → Int32)} {d : Nat} {J : xv_J} {pc : Nat} {a0 a1 a2 a3 a4 a5 : Option Value} {t : List (Option Value)} {st : List Value} {u : xv_M} {n1 s1 : Nat} {P : xv_P} {x : Int32} (hdg : decode J.2.1 pc = .ok (.istore 5, 2)) (hn : 5 < J.2.2.1) (h2 : xv_c2 [a0, a1, a2, a3, a4] 5 = true) (k : xv_X sc d J (pc + 2) (a0 :: a1 :: a2 :: a3 :: a4 :: some (.int x) :: t) st u n1 s1 P) : xv_X sc d J pc (a0 :: a1 :: a2 :: a3 :: a4 :: a5 :: t) (.int x :: st) u n1 s1 P := xv_istoreG hdg hn h2 k
theorem xv_astore_5 {sc : Nat × (Nat → Int32)} {d : Nat} {J : xv_J} {pc : Nat} {a0 a1 a2 a3 a4 a5 : Option Value} {t : List (Option Value)} {st : List Value} {u : xv_M} {n1 s1 : Nat} {P : xv_P} {x : Nat} (hdg : decode J.2.1 pc = .ok (.astore 5, 2)) (hn : 5 < J.2.2.1) (h2 : xv_c2 [a0, a1, a2, a3, a4] 5 = true) (k : xv_X sc d J (pc + 2) (a0 :: a1 :: a2 :: a3 :: a4 :: some (.ref x) :: t) st u n1 s1 P) : xv_X sc d J pc (a0 :: a1 :: a2 :: a3 :: a4 :: a5 :: t) (.ref x :: st) u n1 s1 P := xv_astoreG hdg hn h2 k
theorem xv_iinc_5 {sc : Nat × (Nat → Int32)} {d : Nat} {J : xv_J} {pc : Nat} {a0 a1 a2 a3 a4 : Option Value} {t : List (Option Value)} {st : List Value} {u : xv_M} {n1 s1 : Nat} {P : xv_P} {n : Int} {x : Int32} (v : Int32) (hdg : decode J.2.1 pc = .ok (.iinc 5 n, 3)) (hv : x + Int32.ofInt n = v) (hn : 5 < J.2.2.1) (h2 : xv_c2 [a0, a1, a2, a3, a4] 5 = true) (k : xv_X sc d J (pc + 3) (a0 :: a1 :: a2 :: a3 :: a4 :: some (.int v) :: t) st u n1 s1 P) : xv_X sc d J pc (a0 :: a1 :: a2 :: a3 :: a4 :: some (.int x) :: t) st u n1 s1 P := xv_iincG v hdg rfl hv hn h2 k
theorem xv_istore_6 {sc : Nat × (Nat → Int32)} {d : Nat} {J : xv_J} {pc : Nat} {a0 a1 a2 a3 a4 a5 a6 : Option Value} {t : List (Option Value)} {st : List Value} {u : xv_M} {n1 s1 : Nat} {P : xv_P} {x : Int32} (hdg : decode J.2.1 pc = .ok (.istore 6, 2)) (hn : 6 < J.2.2.1) (h2 : xv_c2 [a0, a1, a2, a3, a4, a5] 6 = true) (k : xv_X sc d J (pc + 2) (a0 :: a1 :: a2 :: a3 :: a4 :: a5 :: some (.int x) :: t) st u n1 s1 P) : xv_X sc d J pc (a0 :: a1 :: a2 :: a3 :: a4 :: a5 :: a6 :: t) (.int x :: st) u n1 s1 P := xv_istoreG hdg hn h2 k
theorem xv_astore_6 {sc : Nat × (Nat → Int32)} {d : Nat} {J : xv_J} {pc : Nat} {a0 a1 a2 a3 a4 a5 a6 : Option Value} {t : List (Option Value)} {st : List Value} {u : xv_M} {n1 s1 : Nat} {P : xv_P} {x : Nat} (hdg : decode J.2.1 pc = .ok (.astore 6, 2)) (hn : 6 < J.2.2.1) (h2 : xv_c2 [a0, a1, a2, a3, a4, a5] 6 = true) (k : xv_X sc d J (pc + 2) (a0 :: a1 :: a2 :: a3 :: a4 :: a5 :: some (.ref x) :: t) st u n1 s1 P) : xv_X sc d J pc (a0 :: a1 :: a2 :: a3 :: a4 :: a5 :: a6 :: t) (.ref x :: st) u n1 s1 P := xv_astoreG hdg hn h2 k
theorem xv_iinc_6 {sc : Nat × (Nat → Int32)} {d : Nat} {J : xv_J} {pc : Nat} {a0 a1 a2 a3 a4 a5 : Option Value} {t : List (Option Value)} {st : List Value} {u : xv_M} {n1 s1 : Nat} {P : xv_P} {n : Int} {x : Int32} (v : Int32) (hdg : decode J.2.1 pc = .ok (.iinc 6 n, 3)) (hv : x + Int32.ofInt n = v) (hn : 6 < J.2.2.1) (h2 : xv_c2 [a0, a1, a2, a3, a4, a5] 6 = true) (k : xv_X sc d J (pc + 3) (a0 :: a1 :: a2 :: a3 :: a4 :: a5 :: some (.int v) :: t) st u n1 s1 P) : xv_X sc d J pc (a0 :: a1 :: a2 :: a3 :: a4 :: a5 :: some (.int x) :: t) st u n1 s1 P := xv_iincG v hdg rfl hv hn h2 k
theorem xv_istore_7 {sc : Nat × (Nat → Int32)} {d : Nat} {J : xv_J} {pc : Nat} {a0 a1 a2 a3 a4 a5 a6 a7 : Option Value} {t : List (Option Value)} {st : List Value} {u : xv_M} {n1 s1 : Nat} {P : xv_P} {x : Int32} (hdg : decode J.2.1 pc = .ok (.istore 7, 2)) (hn : 7 < J.2.2.1) (h2 : xv_c2 [a0, a1, a2, a3, a4, a5, a6] 7 = true) (k : xv_X sc d J (pc + 2) (a0 :: a1 :: a2 :: a3 :: a4 :: a5 :: a6 :: some (.int x) :: t) st u n1 s1 P) : xv_X sc d J pc (a0 :: a1 :: a2 :: a3 :: a4 :: a5 :: a6 :: a7 :: t) (.int x :: st) u n1 s1 P := xv_istoreG hdg hn h2 k
theorem xv_astore_7 {sc : Nat × (Nat → Int32)} {d : Nat} {J : xv_J} {pc : Nat} {a0 a1 a2 a3 a4 a5 a6 a7 : Option Value} {t : List (Option Value)} {st : List Value} {u : xv_M} {n1 s1 : Nat} {P : xv_P} {x : Nat} (hdg : decode J.2.1 pc = .ok (.astore 7, 2)) (hn : 7 < J.2.2.1) (h2 : xv_c2 [a0, a1, a2, a3, a4, a5, a6] 7 = true) (k : xv_X sc d J (pc + 2) (a0 :: a1 :: a2 :: a3 :: a4 :: a5 :: a6 :: some (.ref x) :: t) st u n1 s1 P) : xv_X sc d J pc (a0 :: a1 :: a2 :: a3 :: a4 :: a5 :: a6 :: a7 :: t) (.ref x :: st) u n1 s1 P := xv_astoreG hdg hn h2 k
theorem xv_iinc_7 {sc : Nat × (Nat → Int32)} {d : Nat} {J : xv_J} {pc : Nat} {a0 a1 a2 a3 a4 a5 a6 : Option Value} {t : List (Option Value)} {st : List Value} {u : xv_M} {n1 s1 : Nat} {P : xv_P} {n : Int} {x : Int32} (v : Int32) (hdg : decode J.2.1 pc = .ok (.iinc 7 n, 3)) (hv : x + Int32.ofInt n = v) (hn : 7 < J.2.2.1) (h2 : xv_c2 [a0, a1, a2, a3, a4, a5, a6] 7 = true) (k : xv_X sc d J (pc + 3) (a0 :: a1 :: a2 :: a3 :: a4 :: a5 :: a6 :: some (.int v) :: t) st u n1 s1 P) : xv_X sc d J pc (a0 :: a1 :: a2 :: a3 :: a4 :: a5 :: a6 :: some (.int x) :: t) st u n1 s1 P := xv_iincG v hdg rfl hv hn h2 k
theorem xv_istore_8 {sc : Nat × (Nat → Int32)} {d : Nat} {J : xv_J} {pc : Nat} {a0 a1 a2 a3 a4 a5 a6 a7 a8 : Option Value} {t : List (Option Value)} {st : List Value} {u : xv_M} {n1 s1 : Nat} {P : xv_P} {x : Int32} (hdg : decode J.2.1 pc = .ok (.istore 8, 2)) (hn : 8 < J.2.2.1) (h2 : xv_c2 [a0, a1, a2, a3, a4, a5, a6, a7] 8 = true) (k : xv_X sc d J (pc + 2) (a0 :: a1 :: a2 :: a3 :: a4 :: a5 :: a6 :: a7 :: some (.int x) :: t) st u n1 s1 P) : xv_X sc d J pc (a0 :: a1 :: a2 :: a3 :: a4 :: a5 :: a6 :: a7 :: a8 :: t) (.int x :: st) u n1 s1 P := xv_istoreG hdg hn h2 k
theorem xv_astore_8 {sc : Nat × (Nat → Int32)} {d : Nat} {J : xv_J} {pc : Nat} {a0 a1 a2 a3 a4 a5 a6 a7 a8 : Option Value} {t : List (Option Value)} {st : List Value} {u : xv_M} {n1 s1 : Nat} {P : xv_P} {x : Nat} (hdg : decode J.2.1 pc = .ok (.astore 8, 2)) (hn : 8 < J.2.2.1) (h2 : xv_c2 [a0, a1, a2, a3, a4, a5, a6, a7] 8 = true) (k : xv_X sc d J (pc + 2) (a0 :: a1 :: a2 :: a3 :: a4 :: a5 :: a6 :: a7 :: some (.ref x) :: t) st u n1 s1 P) : xv_X sc d J pc (a0 :: a1 :: a2 :: a3 :: a4 :: a5 :: a6 :: a7 :: a8 :: t) (.ref x :: st) u n1 s1 P := xv_astoreG hdg hn h2 k
theorem xv_iinc_8 {sc : Nat × (Nat → Int32)} {d : Nat} {J : xv_J} {pc : Nat} {a0 a1 a2 a3 a4 a5 a6 a7 : Option Value} {t : List (Option Value)} {st : List Value} {u : xv_M} {n1 s1 : Nat} {P : xv_P} {n : Int} {x : Int32} (v : Int32) (hdg : decode J.2.1 pc = .ok (.iinc 8 n, 3)) (hv : x + Int32.ofInt n = v) (hn : 8 < J.2.2.1) (h2 : xv_c2 [a0, a1, a2, a3, a4, a5, a6, a7] 8 = true) (k : xv_X sc d J (pc + 3) (a0 :: a1 :: a2 :: a3 :: a4 :: a5 :: a6 :: a7 :: some (.int v) :: t) st u n1 s1 P) : xv_X sc d J pc (a0 :: a1 :: a2 :: a3 :: a4 :: a5 :: a6 :: a7 :: some (.int x) :: t) st u n1 s1 P := xv_iincG v hdg rfl hv hn h2 k
theorem xv_istore_9 {sc : Nat × (Nat → Int32)} {d : Nat} {J : xv_J} {pc : Nat} {a0 a1 a2 a3 a4 a5 a6 a7 a8 a9 : Option Value} {t : List (Option Value)} {st : List Value} {u : xv_M} {n1 s1 : Nat} {P : xv_P} {x : Int32} (hdg : decode J.2.1 pc = .ok (.istore 9, 2)) (hn : 9 < J.2.2.1) (h2 : xv_c2 [a0, a1, a2, a3, a4, a5, a6, a7, a8] 9 = true) (k : xv_X sc d J (pc + 2) (a0 :: a1 :: a2 :: a3 :: a4 :: a5 :: a6 :: a7 :: a8 :: some (.int x) :: t) st u n1 s1 P) : xv_X sc d J pc (a0 :: a1 :: a2 :: a3 :: a4 :: a5 :: a6 :: a7 :: a8 :: a9 :: t) (.int x :: st) u n1 s1 P := xv_istoreG hdg hn h2 k
theorem xv_astore_9 {sc : Nat × (Nat → Int32)} {d : Nat} {J : xv_J} {pc : Nat} {a0 a1 a2 a3 a4 a5 a6 a7 a8 a9 : Option Value} {t : List (Option Value)} {st : List Value} {u : xv_M} {n1 s1 : Nat} {P : xv_P} {x : Nat} (hdg : decode J.2.1 pc = .ok (.astore 9, 2)) (hn : 9 < J.2.2.1) (h2 : xv_c2 [a0, a1, a2, a3, a4, a5, a6, a7, a8] 9 = true) (k : xv_X sc d J (pc + 2) (a0 :: a1 :: a2 :: a3 :: a4 :: a5 :: a6 :: a7 :: a8 :: some (.ref x) :: t) st u n1 s1 P) : xv_X sc d J pc (a0 :: a1 :: a2 :: a3 :: a4 :: a5 :: a6 :: a7 :: a8 :: a9 :: t) (.ref x :: st) u n1 s1 P := xv_astoreG hdg hn h2 k
theorem xv_iinc_9 {sc : Nat × (Nat → Int32)} {d : Nat} {J : xv_J} {pc : Nat} {a0 a1 a2 a3 a4 a5 a6 a7 a8 : Option Value} {t : List (Option Value)} {st : List Value} {u : xv_M} {n1 s1 : Nat} {P : xv_P} {n : Int} {x : Int32} (v : Int32) (hdg : decode J.2.1 pc = .ok (.iinc 9 n, 3)) (hv : x + Int32.ofInt n = v) (hn : 9 < J.2.2.1) (h2 : xv_c2 [a0, a1, a2, a3, a4, a5, a6, a7, a8] 9 = true) (k : xv_X sc d J (pc + 3) (a0 :: a1 :: a2 :: a3 :: a4 :: a5 :: a6 :: a7 :: a8 :: some (.int v) :: t) st u n1 s1 P) : xv_X sc d J pc (a0 :: a1 :: a2 :: a3 :: a4 :: a5 :: a6 :: a7 :: a8 :: some (.int x) :: t) st u n1 s1 P := xv_iincG v hdg rfl hv hn h2 k
theorem xv_istore_10 {sc : Nat × (Nat → Int32)} {d : Nat} {J : xv_J} {pc : Nat} {a0 a1 a2 a3 a4 a5 a6 a7 a8 a9 a10 : Option Value} {t : List (Option Value)} {st : List Value} {u : xv_M} {n1 s1 : Nat} {P : xv_P} {x : Int32} (hdg : decode J.2.1 pc = .ok (.istore 10, 2)) (hn : 10 < J.2.2.1) (h2 : xv_c2 [a0, a1, a2, a3, a4, a5, a6, a7, a8, a9] 10 = true) (k : xv_X sc d J (pc + 2) (a0 :: a1 :: a2 :: a3 :: a4 :: a5 :: a6 :: a7 :: a8 :: a9 :: some (.int x) :: t) st u n1 s1 P) : xv_X sc d J pc (a0 :: a1 :: a2 :: a3 :: a4 :: a5 :: a6 :: a7 :: a8 :: a9 :: a10 :: t) (.int x :: st) u n1 s1 P := xv_istoreG hdg hn h2 k
theorem xv_astore_10 {sc : Nat × (Nat → Int32)} {d : Nat} {J : xv_J} {pc : Nat} {a0 a1 a2 a3 a4 a5 a6 a7 a8 a9 a10 : Option Value} {t : List (Option Value)} {st : List Value} {u : xv_M} {n1 s1 : Nat} {P : xv_P} {x : Nat} (hdg : decode J.2.1 pc = .ok (.astore 10, 2)) (hn : 10 < J.2.2.1) (h2 : xv_c2 [a0, a1, a2, a3, a4, a5, a6, a7, a8, a9] 10 = true) (k : xv_X sc d J (pc + 2) (a0 :: a1 :: a2 :: a3 :: a4 :: a5 :: a6 :: a7 :: a8 :: a9 :: some (.ref x) :: t) st u n1 s1 P) : xv_X sc d J pc (a0 :: a1 :: a2 :: a3 :: a4 :: a5 :: a6 :: a7 :: a8 :: a9 :: a10 :: t) (.ref x :: st) u n1 s1 P := xv_astoreG hdg hn h2 k
theorem xv_iinc_10 {sc : Nat × (Nat → Int32)} {d : Nat} {J : xv_J} {pc : Nat} {a0 a1 a2 a3 a4 a5 a6 a7 a8 a9 : Option Value} {t : List (Option Value)} {st : List Value} {u : xv_M} {n1 s1 : Nat} {P : xv_P} {n : Int} {x : Int32} (v : Int32) (hdg : decode J.2.1 pc = .ok (.iinc 10 n, 3)) (hv : x + Int32.ofInt n = v) (hn : 10 < J.2.2.1) (h2 : xv_c2 [a0, a1, a2, a3, a4, a5, a6, a7, a8, a9] 10 = true) (k : xv_X sc d J (pc + 3) (a0 :: a1 :: a2 :: a3 :: a4 :: a5 :: a6 :: a7 :: a8 :: a9 :: some (.int v) :: t) st u n1 s1 P) : xv_X sc d J pc (a0 :: a1 :: a2 :: a3 :: a4 :: a5 :: a6 :: a7 :: a8 :: a9 :: some (.int x) :: t) st u n1 s1 P := xv_iincG v hdg rfl hv hn h2 k
theorem xv_istore_11 {sc : Nat × (Nat → Int32)} {d : Nat} {J : xv_J} {pc : Nat} {a0 a1 a2 a3 a4 a5 a6 a7 a8 a9 a10 a11 : Option Value} {t : List (Option Value)} {st : List Value} {u : xv_M} {n1 s1 : Nat} {P : xv_P} {x : Int32} (hdg : decode J.2.1 pc = .ok (.istore 11, 2)) (hn : 11 < J.2.2.1) (h2 : xv_c2 [a0, a1, a2, a3, a4, a5, a6, a7, a8, a9, a10] 11 = true) (k : xv_X sc d J (pc + 2) (a0 :: a1 :: a2 :: a3 :: a4 :: a5 :: a6 :: a7 :: a8 :: a9 :: a10 :: some (.int x) :: t) st u n1 s1 P) : xv_X sc d J pc (a0 :: a1 :: a2 :: a3 :: a4 :: a5 :: a6 :: a7 :: a8 :: a9 :: a10 :: a11 :: t) (.int x :: st) u n1 s1 P := xv_istoreG hdg hn h2 k
theorem xv_astore_11 {sc : Nat × (Nat → Int32)} {d : Nat} {J : xv_J} {pc : Nat} {a0 a1 a2 a3 a4 a5 a6 a7 a8 a9 a10 a11 : Option Value} {t : List (Option Value)} {st : List Value} {u : xv_M} {n1 s1 : Nat} {P : xv_P} {x : Nat} (hdg : decode J.2.1 pc = .ok (.astore 11, 2)) (hn : 11 < J.2.2.1) (h2 : xv_c2 [a0, a1, a2, a3, a4, a5, a6, a7, a8, a9, a10] 11 = true) (k : xv_X sc d J (pc + 2) (a0 :: a1 :: a2 :: a3 :: a4 :: a5 :: a6 :: a7 :: a8 :: a9 :: a10 :: some (.ref x) :: t) st u n1 s1 P) : xv_X sc d J pc (a0 :: a1 :: a2 :: a3 :: a4 :: a5 :: a6 :: a7 :: a8 :: a9 :: a10 :: a11 :: t) (.ref x :: st) u n1 s1 P := xv_astoreG hdg hn h2 k
theorem xv_iinc_11 {sc : Nat × (Nat → Int32)} {d : Nat} {J : xv_J} {pc : Nat} {a0 a1 a2 a3 a4 a5 a6 a7 a8 a9 a10 : Option Value} {t : List (Option Value)} {st : List Value} {u : xv_M} {n1 s1 : Nat} {P : xv_P} {n : Int} {x : Int32} (v : Int32) (hdg : decode J.2.1 pc = .ok (.iinc 11 n, 3)) (hv : x + Int32.ofInt n = v) (hn : 11 < J.2.2.1) (h2 : xv_c2 [a0, a1, a2, a3, a4, a5, a6, a7, a8, a9, a10] 11 = true) (k : xv_X sc d J (pc + 3) (a0 :: a1 :: a2 :: a3 :: a4 :: a5 :: a6 :: a7 :: a8 :: a9 :: a10 :: some (.int v) :: t) st u n1 s1 P) : xv_X sc d J pc (a0 :: a1 :: a2 :: a3 :: a4 :: a5 :: a6 :: a7 :: a8 :: a9 :: a10 :: some (.int x) :: t) st u n1 s1 P := xv_iincG v hdg rfl hv hn h2 k
theorem xv_istore_12 {sc : Nat × (Nat → Int32)} {d : Nat} {J : xv_J} {pc : Nat} {a0 a1 a2 a3 a4 a5 a6 a7 a8 a9 a10 a11 a12 : Option Value} {t : List (Option Value)} {st : List Value} {u : xv_M} {n1 s1 : Nat} {P : xv_P} {x : Int32} (hdg : decode J.2.1 pc = .ok (.istore 12, 2)) (hn : 12 < J.2.2.1) (h2 : xv_c2 [a0, a1, a2, a3, a4, a5, a6, a7, a8, a9, a10, a11] 12 = true) (k : xv_X sc d J (pc + 2) (a0 :: a1 :: a2 :: a3 :: a4 :: a5 :: a6 :: a7 :: a8 :: a9 :: a10 :: a11 :: some (.int x) :: t) st u n1 s1 P) : xv_X sc d J pc (a0 :: a1 :: a2 :: a3 :: a4 :: a5 :: a6 :: a7 :: a8 :: a9 :: a10 :: a11 :: a12 :: t) (.int x :: st) u n1 s1 P := xv_istoreG hdg hn h2 k
theorem xv_astore_12 {sc : Nat × (Nat → Int32)} {d : Nat} {J : xv_J} {pc : Nat} {a0 a1 a2 a3 a4 a5 a6 a7 a8 a9 a10 a11 a12 : Option Value} {t : List (Option Value)} {st : List Value} {u : xv_M} {n1 s1 : Nat} {P : xv_P} {x : Nat} (hdg : decode J.2.1 pc = .ok (.astore 12, 2)) (hn : 12 < J.2.2.1) (h2 : xv_c2 [a0, a1, a2, a3, a4, a5, a6, a7, a8, a9, a10, a11] 12 = true) (k : xv_X sc d J (pc + 2) (a0 :: a1 :: a2 :: a3 :: a4 :: a5 :: a6 :: a7 :: a8 :: a9 :: a10 :: a11 :: some (.ref x) :: t) st u n1 s1 P) : xv_X sc d J pc (a0 :: a1 :: a2 :: a3 :: a4 :: a5 :: a6 :: a7 :: a8 :: a9 :: a10 :: a11 :: a12 :: t) (.ref x :: st) u n1 s1 P := xv_astoreG hdg hn h2 k
theorem xv_iinc_12 {sc : Nat × (Nat → Int32)} {d : Nat} {J : xv_J} {pc : Nat} {a0 a1 a2 a3 a4 a5 a6 a7 a8 a9 a10 a11 : Option Value} {t : List (Option Value)} {st : List Value} {u : xv_M} {n1 s1 : Nat} {P : xv_P} {n : Int} {x : Int32} (v : Int32) (hdg : decode J.2.1 pc = .ok (.iinc 12 n, 3)) (hv : x + Int32.ofInt n = v) (hn : 12 < J.2.2.1) (h2 : xv_c2 [a0, a1, a2, a3, a4, a5, a6, a7, a8, a9, a10, a11] 12 = true) (k : xv_X sc d J (pc + 3) (a0 :: a1 :: a2 :: a3 :: a4 :: a5 :: a6 :: a7 :: a8 :: a9 :: a10 :: a11 :: some (.int v) :: t) st u n1 s1 P) : xv_X sc d J pc (a0 :: a1 :: a2 :: a3 :: a4 :: a5 :: a6 :: a7 :: a8 :: a9 :: a10 :: a11 :: some (.int x) :: t) st u n1 s1 P := xv_iincG v hdg rfl hv hn h2 k
theorem xv_istore_13 {sc : Nat × (Nat → Int32)} {d : Nat} {J : xv_J} {pc : Nat} {a0 a1 a2 a3 a4 a5 a6 a7 a8 a9 a10 a11 a12 a13 : Option Value} {t : List (Option Value)} {st : List Value} {u : xv_M} {n1 s1 : Nat} {P : xv_P} {x : Int32} (hdg : decode J.2.1 pc = .ok (.istore 13, 2)) (hn : 13 < J.2.2.1) (h2 : xv_c2 [a0, a1, a2, a3, a4, a5, a6, a7, a8, a9, a10, a11, a12] 13 = true) (k : xv_X sc d J (pc + 2) (a0 :: a1 :: a2 :: a3 :: a4 :: a5 :: a6 :: a7 :: a8 :: a9 :: a10 :: a11 :: a12 :: some (.int x) :: t) st u n1 s1 P) : xv_X sc d J pc (a0 :: a1 :: a2 :: a3 :: a4 :: a5 :: a6 :: a7 :: a8 :: a9 :: a10 :: a11 :: a12 :: a13 :: t) (.int x :: st) u n1 s1 P := xv_istoreG hdg hn h2 k
theorem xv_astore_13 {sc : Nat × (Nat → Int32)} {d : Nat} {J : xv_J} {pc : Nat} {a0 a1 a2 a3 a4 a5 a6 a7 a8 a9 a10 a11 a12 a13 : Option Value} {t : List (Option Value)} {st : List Value} {u : xv_M} {n1 s1 : Nat} {P : xv_P} {x : Nat} (hdg : decode J.2.1 pc = .ok (.astore 13, 2)) (hn : 13 < J.2.2.1) (h2 : xv_c2 [a0, a1, a2, a3, a4, a5, a6, a7, a8, a9, a10, a11, a12] 13 = true) (k : xv_X sc d J (pc + 2) (a0 :: a1 :: a2 :: a3 :: a4 :: a5 :: a6 :: a7 :: a8 :: a9 :: a10 :: a11 :: a12 :: some (.ref x) :: t) st u n1 s1 P) : xv_X sc d J pc (a0 :: a1 :: a2 :: a3 :: a4 :: a5 :: a6 :: a7 :: a8 :: a9 :: a10 :: a11 :: a12 :: a13 :: t) (.ref x :: st) u n1 s1 P := xv_astoreG hdg hn h2 k
theorem xv_iinc_13 {sc : Nat × (Nat → Int32)} {d : Nat} {J : xv_J} {pc : Nat} {a0 a1 a2 a3 a4 a5 a6 a7 a8 a9 a10 a11 a12 : Option Value} {t : List (Option Value)} {st : List Value} {u : xv_M} {n1 s1 : Nat} {P : xv_P} {n : Int} {x : Int32} (v : Int32) (hdg : decode J.2.1 pc = .ok (.iinc 13 n, 3)) (hv : x + Int32.ofInt n = v) (hn : 13 < J.2.2.1) (h2 : xv_c2 [a0, a1, a2, a3, a4, a5, a6, a7, a8, a9, a10, a11, a12] 13 = true) (k : xv_X sc d J (pc + 3) (a0 :: a1 :: a2 :: a3 :: a4 :: a5 :: a6 :: a7 :: a8 :: a9 :: a10 :: a11 :: a12 :: some (.int v) :: t) st u n1 s1 P) : xv_X sc d J pc (a0 :: a1 :: a2 :: a3 :: a4 :: a5 :: a6 :: a7 :: a8 :: a9 :: a10 :: a11 :: a12 :: some (.int x) :: t) st u n1 s1 P := xv_iincG v hdg rfl hv hn h2 k
theorem xv_istore_14 {sc : Nat × (Nat → Int32)} {d : Nat} {J : xv_J} {pc : Nat} {a0 a1 a2 a3 a4 a5 a6 a7 a8 a9 a10 a11 a12 a13 a14 : Option Value} {t : List (Option Value)} {st : List Value} {u : xv_M} {n1 s1 : Nat} {P : xv_P} {x : Int32} (hdg : decode J.2.1 pc = .ok (.istore 14, 2)) (hn : 14 < J.2.2.1) (h2 : xv_c2 [a0, a1, a2, a3, a4, a5, a6, a7, a8, a9, a10, a11, a12, a13] 14 = true) (k : xv_X sc d J (pc + 2) (a0 :: a1 :: a2 :: a3 :: a4 :: a5 :: a6 :: a7 :: a8 :: a9 :: a10 :: a11 :: a12 :: a13 :: some (.int x) :: t) st u n1 s1 P) : xv_X sc d J pc (a0 :: a1 :: a2 :: a3 :: a4 :: a5 :: a6 :: a7 :: a8 :: a9 :: a10 :: a11 :: a12 :: a13 :: a14 :: t) (.int x :: st) u n1 s1 P := xv_istoreG hdg hn h2 k
theorem xv_astore_14 {sc : Nat × (Nat → Int32)} {d : Nat} {J : xv_J} {pc : Nat} {a0 a1 a2 a3 a4 a5 a6 a7 a8 a9 a10 a11 a12 a13 a14 : Option Value} {t : List (Option Value)} {st : List Value} {u : xv_M} {n1 s1 : Nat} {P : xv_P} {x : Nat} (hdg : decode J.2.1 pc = .ok (.astore 14, 2)) (hn : 14 < J.2.2.1) (h2 : xv_c2 [a0, a1, a2, a3, a4, a5, a6, a7, a8, a9, a10, a11, a12, a13] 14 = true) (k : xv_X sc d J (pc + 2) (a0 :: a1 :: a2 :: a3 :: a4 :: a5 :: a6 :: a7 :: a8 :: a9 :: a10 :: a11 :: a12 :: a13 :: some (.ref x) :: t) st u n1 s1 P) : xv_X sc d J pc (a0 :: a1 :: a2 :: a3 :: a4 :: a5 :: a6 :: a7 :: a8 :: a9 :: a10 :: a11 :: a12 :: a13 :: a14 :: t) (.ref x :: st) u n1 s1 P := xv_astoreG hdg hn h2 k
theorem xv_iinc_14 {sc : Nat × (Nat → Int32)} {d : Nat} {J : xv_J} {pc : Nat} {a0 a1 a2 a3 a4 a5 a6 a7 a8 a9 a10 a11 a12 a13 : Option Value} {t : List (Option Value)} {st : List Value} {u : xv_M} {n1 s1 : Nat} {P : xv_P} {n : Int} {x : Int32} (v : Int32) (hdg : decode J.2.1 pc = .ok (.iinc 14 n, 3)) (hv : x + Int32.ofInt n = v) (hn : 14 < J.2.2.1) (h2 : xv_c2 [a0, a1, a2, a3, a4, a5, a6, a7, a8, a9, a10, a11, a12, a13] 14 = true) (k : xv_X sc d J (pc + 3) (a0 :: a1 :: a2 :: a3 :: a4 :: a5 :: a6 :: a7 :: a8 :: a9 :: a10 :: a11 :: a12 :: a13 :: some (.int v) :: t) st u n1 s1 P) : xv_X sc d J pc (a0 :: a1 :: a2 :: a3 :: a4 :: a5 :: a6 :: a7 :: a8 :: a9 :: a10 :: a11 :: a12 :: a13 :: some (.int x) :: t) st u n1 s1 P := xv_iincG v hdg rfl hv hn h2 k
theorem xv_istore_15 {sc : Nat × (Nat → Int32)} {d : Nat} {J : xv_J} {pc : Nat} {a0 a1 a2 a3 a4 a5 a6 a7 a8 a9 a10 a11 a12 a13 a14 a15 : Option Value} {t : List (Option Value)} {st : List Value} {u : xv_M} {n1 s1 : Nat} {P : xv_P} {x : Int32} (hdg : decode J.2.1 pc = .ok (.istore 15, 2)) (hn : 15 < J.2.2.1) (h2 : xv_c2 [a0, a1, a2, a3, a4, a5, a6, a7, a8, a9, a10, a11, a12, a13, a14] 15 = true) (k : xv_X sc d J (pc + 2) (a0 :: a1 :: a2 :: a3 :: a4 :: a5 :: a6 :: a7 :: a8 :: a9 :: a10 :: a11 :: a12 :: a13 :: a14 :: some (.int x) :: t) st u n1 s1 P) : xv_X sc d J pc (a0 :: a1 :: a2 :: a3 :: a4 :: a5 :: a6 :: a7 :: a8 :: a9 :: a10 :: a11 :: a12 :: a13 :: a14 :: a15 :: t) (.int x :: st) u n1 s1 P := xv_istoreG hdg hn h2 k
theorem xv_astore_15 {sc : Nat × (Nat → Int32)} {d : Nat} {J : xv_J} {pc : Nat} {a0 a1 a2 a3 a4 a5 a6 a7 a8 a9 a10 a11 a12 a13 a14 a15 : Option Value} {t : List (Option Value)} {st : List Value} {u : xv_M} {n1 s1 : Nat} {P : xv_P} {x : Nat} (hdg : decode J.2.1 pc = .ok (.astore 15, 2)) (hn : 15 < J.2.2.1) (h2 : xv_c2 [a0, a1, a2, a3, a4, a5, a6, a7, a8, a9, a10, a11, a12, a13, a14] 15 = true) (k : xv_X sc d J (pc + 2) (a0 :: a1 :: a2 :: a3 :: a4 :: a5 :: a6 :: a7 :: a8 :: a9 :: a10 :: a11 :: a12 :: a13 :: a14 :: some (.ref x) :: t) st u n1 s1 P) : xv_X sc d J pc (a0 :: a1 :: a2 :: a3 :: a4 :: a5 :: a6 :: a7 :: a8 :: a9 :: a10 :: a11 :: a12 :: a13 :: a14 :: a15 :: t) (.ref x :: st) u n1 s1 P := xv_astoreG hdg hn h2 k
theorem xv_iinc_15 {sc : Nat × (Nat → Int32)} {d : Nat} {J : xv_J} {pc : Nat} {a0 a1 a2 a3 a4 a5 a6 a7 a8 a9 a10 a11 a12 a13 a14 : Option Value} {t : List (Option Value)} {st : List Value} {u : xv_M} {n1 s1 : Nat} {P : xv_P} {n : Int} {x : Int32} (v : Int32) (hdg : decode J.2.1 pc = .ok (.iinc 15 n, 3)) (hv : x + Int32.ofInt n = v) (hn : 15 < J.2.2.1) (h2 : xv_c2 [a0, a1, a2, a3, a4, a5, a6, a7, a8, a9, a10, a11, a12, a13, a14] 15 = true) (k : xv_X sc d J (pc + 3) (a0 :: a1 :: a2 :: a3 :: a4 :: a5 :: a6 :: a7 :: a8 :: a9 :: a10 :: a11 :: a12 :: a13 :: a14 :: some (.int v) :: t) st u n1 s1 P) : xv_X sc d J pc (a0 :: a1 :: a2 :: a3 :: a4 :: a5 :: a6 :: a7 :: a8 :: a9 :: a10 :: a11 :: a12 :: a13 :: a14 :: some (.int x) :: t) st u n1 s1 P := xv_iincG v hdg rfl hv hn h2 k
end
section
/-! fields, arrays, new cells -/
def xv_Fd (own : String) (index ci j : Nat) (ty : FieldType) : Prop := ci < xv_nc ∧ j < xv_nf ci ∧ xv_ty ci j = ty ∧ Cond.fieldLink own index (xv_T ci j).1 (xv_T ci j).2.1 (xv_T ci j).2.2.1 ∈ xv_BIG
theorem xv_cl_at {ci : Nat} (h : ci < xv_nc) : xv_cl[ci]? = some (xv_nm ci, xv_T ci, xv_nf ci) := by
  have hl : ci < xv_cl.length := h
  unfold xv_nm xv_T xv_nf
  rw [List.getD_eq_getElem?_getD, List.getElem?_eq_getElem hl]
  rfl
section HEAP
variable {sc : Nat × (Nat → Int32)} {d : Nat} {J : xv_J} {pc : Nat} {lv : List (Option Value)} {st : List Value} {u : xv_M} {n1 s1 : Nat} {P : xv_P}
theorem xv_he {G : xv_G} {u : xv_M} {a ci : Nat} (wf : xv_wf u) (hc : ci < xv_nc) (hk : xv_k u a = ci + 1) : (xv_ws G u)[a]? = some (xv_B G + a, .inr (ci, xv_fs G u a ci)) := by
  rw [xv_ws_get (wf a (by omega)), xv_E_obj hk (Nat.lt_of_lt_of_le hc xv_nc_le)]
theorem xv_getI {a ci j index : Nat} {ty : FieldType} (hdg : decode J.2.1 pc = .ok (.getfield index, 3)) (hF : xv_Fd J.1.cls index ci j ty) (hr : ty.isReference = false) (hk : xv_k u a = ci + 1) (k : xv_X sc d J (pc + 3) lv (.int (xv_i u a j) :: st) u n1 s1 P) : xv_X sc d J pc lv (.ref a :: st) u n1 s1 P := by
  intro p l e R s m args below meth c G N0 S0 Q H locs ls A0 lo hP wf hS hN hZ
  obtain ⟨hc, hj, hty, hl⟩ := hF
  refine va_get (D := xv_dG G) (ci := ci) (C := xv_nm ci) (T := xv_T ci) (N := xv_nf ci) (v := .int (xv_i u a j)) A0.1 A0.2.1 A0.2.2.2.2.2.1 (xv_cls ci hc).1 A0.2.2.2.2.1 A0.2.2.2.2.2.2.2.2.1.1 hP a (xv_he wf hc hk) (xv_cl_at hc) j hj (A0.2.2.2.2.2.1 _ hl) (fun _ h => h) ?_ hdg (k p l e R s m args below meth c G N0 S0 Q H locs ls A0 lo hP wf hS hN hZ)
  rw [xv_fs_get hj]
  unfold xv_fv xv_rf
  rw [hty, if_neg (by rw [hr]; decide)]
theorem xv_getR {a b ci j index : Nat} {ty : FieldType} (hdg : decode J.2.1 pc = .ok (.getfield index, 3)) (hF : xv_Fd J.1.cls index ci j ty) (hr : ty.isReference = true) (hk : xv_k u a = ci + 1) (hb : xv_r u a j = some b) (k : xv_X sc d J (pc + 3) lv (.ref b :: st) u n1 s1 P) : xv_X sc d J pc lv (.ref a :: st) u n1 s1 P := by
  intro p l e R s m args below meth c G N0 S0 Q H locs ls A0 lo hP wf hS hN hZ
  obtain ⟨hc, hj, hty, hl⟩ := hF
  refine va_get (D := xv_dG G) (ci := ci) (C := xv_nm ci) (T := xv_T ci) (N := xv_nf ci) (v := .ref (xv_B G + b)) A0.1 A0.2.1 A0.2.2.2.2.2.1 (xv_cls ci hc).1 A0.2.2.2.2.1 A0.2.2.2.2.2.2.2.2.1.1 hP a (xv_he wf hc hk) (xv_cl_at hc) j hj (A0.2.2.2.2.2.1 _ hl) (fun _ h => h) ?_ hdg (k p l e R s m args below meth c G N0 S0 Q H locs ls A0 lo hP wf hS hN hZ)
  rw [xv_fs_get hj]
  unfold xv_fv xv_rf
  rw [hty, if_pos hr, hb]
  rfl
def xv_okI (ty : FieldType) (x : Int32) : Prop := ty = .int ∨ (ty = .boolean ∧ (x = 0 ∨ x = 1))
theorem xv_okI_nar {ty : FieldType} {x : Int32} (h : xv_okI ty x) : narrow ty (.int x) = .int x ∧ fits ty (.int x) = true ∧ ty.isReference = false := by
  rcases h with rfl | ⟨rfl, rfl | rfl⟩
  · exact ⟨rfl, rfl, rfl⟩
  · exact ⟨rfl, rfl, rfl⟩
  · exact ⟨rfl, rfl, rfl⟩
theorem xv_ws_si {G : xv_G} {a ci j : Nat} {x : Int32} (hc : ci < xv_nc) (hk : xv_k u a = ci + 1) (hr : xv_rf ci j = false) : (xv_ws G u).set a (xv_B G + a, .inr (ci, (xv_fs G u a ci).set j (.int x))) = xv_ws G (xv_si u a j x) := by
  refine xv_ws_set rfl ?_ (fun b hb => xv_si_E hb)
  rw [xv_E_obj (u := xv_si u a j x) hk (Nat.lt_of_lt_of_le hc xv_nc_le)]
  congr 2
  refine (xv_fs_set ?_ (fun q hq => ?_)).symm
  · unfold xv_fv
    rw [if_neg (by rw [hr]; decide)]
    simp [xv_i, xv_si, xv_mk]
  · unfold xv_fv
    have e : xv_i (xv_si u a j x) a q = xv_i u a q := if_neg (fun z => hq z.2)
    rw [e]
    rfl
theorem xv_ws_sr {G : xv_G} {a ci j : Nat} {x : Option Nat} (hc : ci < xv_nc) (hk : xv_k u a = ci + 1) (hr : xv_rf ci j = true) : (xv_ws G u).set a (xv_B G + a, .inr (ci, (xv_fs G u a ci).set j (va_rf (xv_rq G x)))) = xv_ws G (xv_sr u a j x) := by
  refine xv_ws_set rfl ?_ (fun b hb => xv_sr_E hb)
  rw [xv_E_obj (u := xv_sr u a j x) hk (Nat.lt_of_lt_of_le hc xv_nc_le)]
  congr 2
  refine (xv_fs_set ?_ (fun q hq => ?_)).symm
  · unfold xv_fv
    rw [if_pos hr]
    simp [xv_r, xv_sr, xv_mk]
  · unfold xv_fv
    have e : xv_r (xv_sr u a j x) a q = xv_r u a q := if_neg (fun z => hq z.2)
    rw [e]
    rfl
theorem xv_putI {a ci j index : Nat} {ty : FieldType} {x : Int32} (hdg : decode J.2.1 pc = .ok (.putfield index, 3)) (hF : xv_Fd J.1.cls index ci j ty) (hx : xv_okI ty x) (hfin : (xv_T ci j).2.2.2 = false) (hk : xv_k u a = ci + 1) (k : xv_X sc d J (pc + 3) lv st (xv_si u a j x) n1 s1 P) : xv_X sc d J pc lv (.int x :: .ref a :: st) u n1 s1 P := by
  intro p l e R s m args below meth c G N0 S0 Q H locs ls A0 lo hP wf hS hN hZ
  obtain ⟨hc, hj, hty, hl⟩ := hF
  obtain ⟨g1, g2, g3⟩ := xv_okI_nar hx
  refine va_put (D := xv_dG G) (ci := ci) (C := xv_nm ci) (T := xv_T ci) (N := xv_nf ci) (v := .int x) (ty := ty) A0.1 A0.2.1 A0.2.2.2.2.2.1 (xv_cls ci hc).1 (xv_ty ci) (xv_cls ci hc).2.1 (xv_cls ci hc).2.2 A0.2.2.2.2.1 A0.2.2.2.2.2.2.2.2.1.1 hP (xv_D G u) hS a (xv_he wf hc hk) (xv_cl_at hc) j hj (A0.2.2.2.2.2.1 _ hl) (fun _ h => h) hfin (by rw [(xv_cls ci hc).2.1 j hj, hty]) g1 g2 (by rw [xv_fs_len]; exact hj) hdg (fun H1 locs1 hP1 _ hS1 => ?_)
  rw [xv_ws_si hc hk (by unfold xv_rf; rw [hty]; exact g3)] at hP1
  exact k p l e R s m args below meth c G N0 S0 Q H1 locs1 ls A0 lo hP1 (xv_wf_si wf) hS1 hN hZ
theorem xv_putIF {a ci j index : Nat} {ty : FieldType} {x : Int32} (hdg : decode J.2.1 pc = .ok (.putfield index, 3)) (hF : xv_Fd J.1.cls index ci j ty) (hx : xv_okI ty x) (hfin : (xv_T ci j).2.2.2 = true) (hin : J.1.name = "<init>") (hde : (xv_T ci j).1 = J.1.cls) (hk : xv_k u a = ci + 1) (k : xv_X sc d J (pc + 3) lv st (xv_si u a j x) n1 s1 P) : xv_X sc d J pc lv (.int x :: .ref a :: st) u n1 s1 P := by
  intro p l e R s m args below meth c G N0 S0 Q H locs ls A0 lo hP wf hS hN hZ
  obtain ⟨hc, hj, hty, hl⟩ := hF
  obtain ⟨g1, g2, g3⟩ := xv_okI_nar hx
  refine va_putF (D := xv_dG G) (ci := ci) (C := xv_nm ci) (T := xv_T ci) (N := xv_nf ci) (v := .int x) (ty := ty) A0.1 A0.2.1 A0.2.2.2.2.2.1 (xv_cls ci hc).1 (xv_ty ci) (xv_cls ci hc).2.1 (xv_cls ci hc).2.2 A0.2.2.2.2.1 A0.2.2.2.2.2.2.2.2.1.1 hP (xv_D G u) hS a (xv_he wf hc hk) (xv_cl_at hc) j hj (A0.2.2.2.2.2.1 _ hl) (fun _ h => h) hfin (A0.2.2.2.2.2.2.2.1.trans hin) hde (by rw [(xv_cls ci hc).2.1 j hj, hty]) g1 g2 (by rw [xv_fs_len]; exact hj) hdg (fun H1 locs1 hP1 _ hS1 => ?_)
  rw [xv_ws_si hc hk (by unfold xv_rf; rw [hty]; exact g3)] at hP1
  exact k p l e R s m args below meth c G N0 S0 Q H1 locs1 ls A0 lo hP1 (xv_wf_si wf) hS1 hN hZ
theorem xv_isRef {ty : FieldType} {b : Nat} (h : ty.isReference = true) : narrow ty (.ref b) = .ref b ∧ fits ty (.ref b) = true := by
  cases ty <;> first | exact ⟨rfl, rfl⟩ | cases h
theorem xv_putR {a b ci j index : Nat} {ty : FieldType} (hdg : decode J.2.1 pc = .ok (.putfield index, 3)) (hF : xv_Fd J.1.cls index ci j ty) (hr : ty.isReference = true) (hfin : (xv_T ci j).2.2.2 = false) (hk : xv_k u a = ci + 1) (k : xv_X sc d J (pc + 3) lv st (xv_sr u a j (some b)) n1 s1 P) : xv_X sc d J pc lv (.ref b :: .ref a :: st) u n1 s1 P := by
  intro p l e R s m args below meth c G N0 S0 Q H locs ls A0 lo hP wf hS hN hZ
  obtain ⟨hc, hj, hty, hl⟩ := hF
  obtain ⟨g1, g2⟩ := xv_isRef (b := xv_B G + b) hr
  refine va_put (D := xv_dG G) (ci := ci) (C := xv_nm ci) (T := xv_T ci) (N := xv_nf ci) (v := .ref (xv_B G + b)) (ty := ty) A0.1 A0.2.1 A0.2.2.2.2.2.1 (xv_cls ci hc).1 (xv_ty ci) (xv_cls ci hc).2.1 (xv_cls ci hc).2.2 A0.2.2.2.2.1 A0.2.2.2.2.2.2.2.2.1.1 hP (xv_D G u) hS a (xv_he wf hc hk) (xv_cl_at hc) j hj (A0.2.2.2.2.2.1 _ hl) (fun _ h => h) hfin (by rw [(xv_cls ci hc).2.1 j hj, hty]) g1 g2 (by rw [xv_fs_len]; exact hj) hdg (fun H1 locs1 hP1 _ hS1 => ?_)
  have e := xv_ws_sr (G := G) (x := some b) (j := j) hc hk (by unfold xv_rf; rw [hty]; exact hr)
  rw [show va_rf (xv_rq G (some b)) = Value.ref (xv_B G + b) from rfl] at e
  rw [e] at hP1
  exact k p l e R s m args below meth c G N0 S0 Q H1 locs1 ls A0 lo hP1 (xv_wf_sr wf) hS1 hN hZ
theorem xv_putRF {a b ci j index : Nat} {ty : FieldType} (hdg : decode J.2.1 pc = .ok (.putfield index, 3)) (hF : xv_Fd J.1.cls index ci j ty) (hr : ty.isReference = true) (hfin : (xv_T ci j).2.2.2 = true) (hin : J.1.name = "<init>") (hde : (xv_T ci j).1 = J.1.cls) (hk : xv_k u a = ci + 1) (k : xv_X sc d J (pc + 3) lv st (xv_sr u a j (some b)) n1 s1 P) : xv_X sc d J pc lv (.ref b :: .ref a :: st) u n1 s1 P := by
  intro p l e R s m args below meth c G N0 S0 Q H locs ls A0 lo hP wf hS hN hZ
  obtain ⟨hc, hj, hty, hl⟩ := hF
  obtain ⟨g1, g2⟩ := xv_isRef (b := xv_B G + b) hr
  refine va_putF (D := xv_dG G) (ci := ci) (C := xv_nm ci) (T := xv_T ci) (N := xv_nf ci) (v := .ref (xv_B G + b)) (ty := ty) A0.1 A0.2.1 A0.2.2.2.2.2.1 (xv_cls ci hc).1 (xv_ty ci) (xv_cls ci hc).2.1 (xv_cls ci hc).2.2 A0.2.2.2.2.1 A0.2.2.2.2.2.2.2.2.1.1 hP (xv_D G u) hS a (xv_he wf hc hk) (xv_cl_at hc) j hj (A0.2.2.2.2.2.1 _ hl) (fun _ h => h) hfin (A0.2.2.2.2.2.2.2.1.trans hin) hde (by rw [(xv_cls ci hc).2.1 j hj, hty]) g1 g2 (by rw [xv_fs_len]; exact hj) hdg (fun H1 locs1 hP1 _ hS1 => ?_)
  have e := xv_ws_sr (G := G) (x := some b) (j := j) hc hk (by unfold xv_rf; rw [hty]; exact hr)
  rw [show va_rf (xv_rq G (some b)) = Value.ref (xv_B G + b) from rfl] at e
  rw [e] at hP1
  exact k p l e R s m args below meth c G N0 S0 Q H1 locs1 ls A0 lo hP1 (xv_wf_sr wf) hS1 hN hZ
/-! arrays -/
theorem xv_hi {G : xv_G} {u : xv_M} {a t : Nat} (wf : xv_wf u) (ht : t < 2) (hk : xv_k u a = 100 + t) : (xv_ws G u)[a]? = some (xv_B G + a, .inl (xv_cA G t, xv_l u a, .inl (xv_i u a))) := by
  rw [xv_ws_get (wf a (by omega)), xv_E_int hk ht]
theorem xv_ald {a : Nat} {x : Int32} (hdg : decode J.2.1 pc = .ok (.iaload, 1)) (hk : xv_k u a = 100) (hin : vp_in x (xv_l u a)) (k : xv_X sc d J (pc + 1) lv (.int (xv_i u a x.toNatClampNeg) :: st) u n1 s1 P) : xv_X sc d J pc lv (.int x :: .ref a :: st) u n1 s1 P := by
  intro p l e R s m args below meth c G N0 S0 Q H locs ls A0 lo hP wf hS hN hZ
  exact va_iald A0.1 A0.2.1 A0.2.2.2.2.2.2.2.2.1.1 hP a 0 (xv_hi (t := 0) wf (by omega) hk) rfl hin hdg (k p l e R s m args below meth c G N0 S0 Q H locs ls A0 lo hP wf hS hN hZ)
theorem xv_zald {a : Nat} {x : Int32} (hdg : decode J.2.1 pc = .ok (.baload, 1)) (hk : xv_k u a = 101) (hin : vp_in x (xv_l u a)) (k : xv_X sc d J (pc + 1) lv (.int (xv_i u a x.toNatClampNeg) :: st) u n1 s1 P) : xv_X sc d J pc lv (.int x :: .ref a :: st) u n1 s1 P := by
  intro p l e R s m args below meth c G N0 S0 Q H locs ls A0 lo hP wf hS hN hZ
  exact va_zald A0.1 A0.2.1 A0.2.2.2.2.2.2.2.2.1.1 hP a 1 (xv_hi (t := 1) wf (by omega) hk) rfl hin hdg (k p l e R s m args below meth c G N0 S0 Q H locs ls A0 lo hP wf hS hN hZ)
theorem xv_ws_ai {G : xv_G} {a t j : Nat} {x : Int32} (ht : t < 2) (hk : xv_k u a = 100 + t) : (xv_ws G u).set a (xv_B G + a, .inl (xv_cA G t, xv_l u a, .inl (upd (xv_i u a) j x))) = xv_ws G (xv_si u a j x) := by
  refine xv_ws_set rfl ?_ (fun b hb => xv_si_E hb)
  rw [xv_E_int (u := xv_si u a j x) hk ht]
  congr 4
  funext q
  by_cases hq : q = j
  · subst hq
    simp [xv_i, xv_si, xv_mk, upd]
  · have e : xv_i (xv_si u a j x) a q = xv_i u a q := if_neg (fun z => hq z.2)
    rw [e]
    simp [upd, hq]
theorem xv_ast {a : Nat} {x y : Int32} (hdg : decode J.2.1 pc = .ok (.iastore, 1)) (hk : xv_k u a = 100) (hin : vp_in x (xv_l u a)) (k : xv_X sc d J (pc + 1) lv st (xv_si u a x.toNatClampNeg y) n1 s1 P) : xv_X sc d J pc lv (.int y :: .int x :: .ref a :: st) u n1 s1 P := by
  intro p l e R s m args below meth c G N0 S0 Q H locs ls A0 lo hP wf hS hN hZ
  refine va_iast A0.1 A0.2.1 A0.2.2.2.2.2.2.2.2.1.1 hP (xv_D G u) hS a 0 (xv_hi (t := 0) wf (by omega) hk) rfl hin hdg (fun H1 locs1 hP1 _ hS1 => ?_)
  rw [xv_ws_ai (t := 0) (by omega) hk] at hP1
  exact k p l e R s m args below meth c G N0 S0 Q H1 locs1 ls A0 lo hP1 (xv_wf_si wf) hS1 hN hZ
theorem xv_zast {a : Nat} {x y : Int32} (hdg : decode J.2.1 pc = .ok (.bastore, 1)) (hk : xv_k u a = 101) (hin : vp_in x (xv_l u a)) (hy : vp_nar .boolean y = y) (k : xv_X sc d J (pc + 1) lv st (xv_si u a x.toNatClampNeg y) n1 s1 P) : xv_X sc d J pc lv (.int y :: .int x :: .ref a :: st) u n1 s1 P := by
  intro p l e R s m args below meth c G N0 S0 Q H locs ls A0 lo hP wf hS hN hZ
  refine va_zast A0.1 A0.2.1 A0.2.2.2.2.2.2.2.2.1.1 hP (xv_D G u) hS a 1 (xv_hi (t := 1) wf (by omega) hk) rfl hin hdg (fun H1 locs1 hP1 _ hS1 => ?_)
  rw [hy, xv_ws_ai (t := 1) (by omega) hk] at hP1
  exact k p l e R s m args below meth c G N0 S0 Q H1 locs1 ls A0 lo hP1 (xv_wf_si wf) hS1 hN hZ
theorem xv_hr {G : xv_G} {u : xv_M} {a t : Nat} (wf : xv_wf u) (hk : xv_k u a = 103 + t) : (xv_ws G u)[a]? = some (xv_B G + a, .inl (xv_cA G (3 + t), xv_l u a, .inr (.inr (.inr (.inr (fun j => xv_rq G (xv_r u a j))))))) := by
  rw [xv_ws_get (wf a (by omega)), xv_E_ref hk]
theorem xv_aald {a b t : Nat} {C : String} {x : Int32} (hdg : decode J.2.1 pc = .ok (.aaload, 1)) (hk : xv_k u a = 103 + t) (ht : xv_ra[t]? = some C) (hin : vp_in x (xv_l u a)) (hb : xv_r u a x.toNatClampNeg = some b) (k : xv_X sc d J (pc + 1) lv (.ref b :: st) u n1 s1 P) : xv_X sc d J pc lv (.int x :: .ref a :: st) u n1 s1 P := by
  intro p l e R s m args below meth c G N0 S0 Q H locs ls A0 lo hP wf hS hN hZ
  refine va_aldq A0.1 A0.2.1 A0.2.2.2.2.2.2.2.2.1.1 hP a (3 + t) (C := C) (xv_hr wf hk) (xv_tys_at ht) hin hdg ?_
  rw [hb]
  exact k p l e R s m args below meth c G N0 S0 Q H locs ls A0 lo hP wf hS hN hZ
theorem xv_aast {a b t ci : Nat} {x : Int32} (hdg : decode J.2.1 pc = .ok (.aastore, 1)) (hk : xv_k u a = 103 + t) (hc : ci < xv_nc) (ht : xv_ra[t]? = some (xv_nm ci)) (hin : vp_in x (xv_l u a)) (hb : xv_k u b = ci + 1) (k : xv_X sc d J (pc + 1) lv st (xv_sr u a x.toNatClampNeg (some b)) n1 s1 P) : xv_X sc d J pc lv (.ref b :: .int x :: .ref a :: st) u n1 s1 P := by
  intro p l e R s m args below meth c G N0 S0 Q H locs ls A0 lo hP wf hS hN hZ
  refine va_astq A0.1 A0.2.1 A0.2.2.2.2.2.2.2.2.1.1 hP (xv_D G u) hS a (3 + t) b ci (r := (xv_nm ci, xv_T ci, xv_nf ci)) (xv_hr wf hk) (xv_tys_at ht) (xv_he wf hc hb) (xv_cl_at hc) hin hdg (fun H1 locs1 hP1 _ hS1 => ?_)
  have e1 : (xv_ws G u).set a (xv_B G + a, .inl (xv_cA G (3 + t), xv_l u a, .inr (.inr (.inr (.inr (va_up (fun j => xv_rq G (xv_r u a j)) x.toNatClampNeg (some (xv_B G + b)))))))) = xv_ws G (xv_sr u a x.toNatClampNeg (some b)) := by
    refine xv_ws_set rfl ?_ (fun q hq => xv_sr_E hq)
    rw [xv_E_ref (u := xv_sr u a x.toNatClampNeg (some b)) hk]
    congr 7
    funext q
    by_cases hq : q = x.toNatClampNeg
    · subst hq
      simp [xv_r, xv_sr, xv_mk, va_up, xv_rq]
    · have e : xv_r (xv_sr u a x.toNatClampNeg (some b)) a q = xv_r u a q := if_neg (fun z => hq z.2)
      rw [e]
      simp [va_up, hq]
  rw [e1] at hP1
  exact k p l e R s m args below meth c G N0 S0 Q H1 locs1 ls A0 lo hP1 (xv_wf_sr wf) hS1 hN hZ
theorem xv_alen {a t : Nat} {v : Int32} {ty : FieldType} (hdg : decode J.2.1 pc = .ok (.arraylength, 1)) (hk : xv_k u a = 100 + t) (ht : ∀ G : xv_G, (xv_tys G)[t]? = some (xv_cA G t, ty)) (hv : Int32.ofNat (xv_l u a) = v) (k : xv_X sc d J (pc + 1) lv (.int v :: st) u n1 s1 P) : xv_X sc d J pc lv (.ref a :: st) u n1 s1 P := by
  intro p l e R s m args below meth c G N0 S0 Q H locs ls A0 lo hP wf hS hN hZ
  exact va_alen A0.1 A0.2.1 A0.2.2.2.2.2.2.2.2.1.1 hP a t (by rw [xv_ws_get (wf a (by omega)), xv_E_arr hk]) (ht G) hv hdg (k p l e R s m args below meth c G N0 S0 Q H locs ls A0 lo hP wf hS hN hZ)
/-! static tables, the script -/
theorem xv_gets {q index : Nat} (hdg : decode J.2.1 pc = .ok (.getstatic index, 3)) (hq : q < xv_ns) (hl : Cond.fieldLink J.1.cls index (xv_sC q) (xv_sn q) "[I" ∈ xv_BIG) (k : xv_X sc d J (pc + 3) lv (.retAddr q :: st) u n1 s1 P) : xv_X sc d J pc lv st u n1 s1 P := by
  intro p l e R s m args below meth c G N0 S0 Q H locs ls A0 lo hP wf hS hN hZ
  exact va_gets A0.1 A0.2.1 (A0.2.2.2.2.2.2.2.2.1.2.2.1 q hq).1 hS A0.2.2.2.2.1 (A0.2.2.2.2.2.1 _ hl) (fun _ h => h) hdg (k p l e R s m args below meth c G N0 S0 Q H locs ls A0 lo hP wf hS hN hZ)
theorem xv_aldS {q : Nat} {x : Int32} (hdg : decode J.2.1 pc = .ok (.iaload, 1)) (hq : q < xv_ns) (hin : vp_in x (xv_sN q)) (k : xv_X sc d J (pc + 1) lv (.int (xv_sf q x.toNatClampNeg) :: st) u n1 s1 P) : xv_X sc d J pc lv (.int x :: .retAddr q :: st) u n1 s1 P := by
  intro p l e R s m args below meth c G N0 S0 Q H locs ls A0 lo hP wf hS hN hZ
  exact va_ti A0.1 A0.2.1 (A0.2.2.2.2.2.2.2.2.1.2.2.1 q hq).2 hS hin rfl hdg (k p l e R s m args below meth c G N0 S0 Q H locs ls A0 lo hP wf hS hN hZ)
theorem xv_sld {x : Int32} (hdg : decode J.2.1 pc = .ok (.iaload, 1)) (hin : vp_in x sc.1) (k : xv_X sc d J (pc + 1) lv (.int (sc.2 x.toNatClampNeg) :: st) u n1 s1 P) : xv_X sc d J pc lv (.int x :: .retAddr 9 :: st) u n1 s1 P := by
  intro p l e R s m args below meth c G N0 S0 Q H locs ls A0 lo hP wf hS hN hZ
  have hsc : G.2.2.2.2 = sc := A0.2.2.2.2.2.2.2.2.2.2.2.1.1
  have hX := A0.2.2.2.2.2.2.2.2.1.2.2.2.1
  subst hsc
  exact va_sld A0.1 A0.2.1 hX.1 hX.2.1 hX.2.2 hS hin hdg (k p l e R s m args below meth c G N0 S0 Q H locs ls A0 lo hP wf hS hN hZ)
theorem xv_slen (hdg : decode J.2.1 pc = .ok (.arraylength, 1)) (k : xv_X sc d J (pc + 1) lv (.int (Int32.ofNat sc.1) :: st) u n1 s1 P) : xv_X sc d J pc lv (.retAddr 9 :: st) u n1 s1 P := by
  intro p l e R s m args below meth c G N0 S0 Q H locs ls A0 lo hP wf hS hN hZ
  have hsc : G.2.2.2.2 = sc := A0.2.2.2.2.2.2.2.2.2.2.2.1.1
  have hX := A0.2.2.2.2.2.2.2.2.1.2.2.2.1
  subst hsc
  exact va_slen A0.1 A0.2.1 hX.1 hX.2.1 hX.2.2 hS hdg (k p l e R s m args below meth c G N0 S0 Q H locs ls A0 lo hP wf hS hN hZ)
end HEAP
end
