section
-- ===== PART A: goes FIRST, ahead of the names: the tables' words, and 'selects' of the private methods out of them =====
/-- a private method of a class that the tables say can be made, by its rows of tables_1 -/
def lw_okq (q : MethodName × Nat) : Prop := (q.1.cls ≠ "java/lang/invoke/MethodHandle" ∧ q.1.cls ≠ "java/lang/invoke/VarHandle") ∧ Cond.instantiable q.1.cls q.2 ∈ tables_1 ∧ Cond.privateMethod q.1 ∈ tables_1 ∧ Cond.instanceMethod q.1 ∈ tables_1
theorem lw_p0 : lw_okq (⟨"FaslDesk$Form", "callsGo", "(I)Z"⟩, 5) := ⟨⟨by decide +kernel, by decide +kernel⟩, List.mem_of_getElem? (i := 32) (by decide +kernel), List.mem_of_getElem? (i := 348) (by decide +kernel), List.mem_of_getElem? (i := 349) (by decide +kernel)⟩
theorem lw_p1 : lw_okq (⟨"FaslDesk$Form", "endOf", "(IIII)I"⟩, 5) := ⟨⟨by decide +kernel, by decide +kernel⟩, List.mem_of_getElem? (i := 32) (by decide +kernel), List.mem_of_getElem? (i := 352) (by decide +kernel), List.mem_of_getElem? (i := 353) (by decide +kernel)⟩
theorem lw_p2 : lw_okq (⟨"FaslDesk$Form", "mayStand", "(IIII)Z"⟩, 5) := ⟨⟨by decide +kernel, by decide +kernel⟩, List.mem_of_getElem? (i := 32) (by decide +kernel), List.mem_of_getElem? (i := 356) (by decide +kernel), List.mem_of_getElem? (i := 357) (by decide +kernel)⟩
theorem lw_p3 : lw_okq (⟨"FaslDesk$Compiler", "emit", "(II)V"⟩, 4) := ⟨⟨by decide +kernel, by decide +kernel⟩, List.mem_of_getElem? (i := 120) (by decide +kernel), List.mem_of_getElem? (i := 394) (by decide +kernel), List.mem_of_getElem? (i := 395) (by decide +kernel)⟩
theorem lw_p4 : lw_okq (⟨"FaslDesk$Compiler", "emitForm", "(I)V"⟩, 4) := ⟨⟨by decide +kernel, by decide +kernel⟩, List.mem_of_getElem? (i := 120) (by decide +kernel), List.mem_of_getElem? (i := 409) (by decide +kernel), List.mem_of_getElem? (i := 410) (by decide +kernel)⟩
theorem lw_p5 : lw_okq (⟨"FaslDesk$Compiler", "emitIf", "(I)V"⟩, 4) := ⟨⟨by decide +kernel, by decide +kernel⟩, List.mem_of_getElem? (i := 120) (by decide +kernel), List.mem_of_getElem? (i := 413) (by decide +kernel), List.mem_of_getElem? (i := 414) (by decide +kernel)⟩
theorem lw_p6 : lw_okq (⟨"FaslDesk$Compiler", "setSecond", "(II)V"⟩, 4) := ⟨⟨by decide +kernel, by decide +kernel⟩, List.mem_of_getElem? (i := 120) (by decide +kernel), List.mem_of_getElem? (i := 421) (by decide +kernel), List.mem_of_getElem? (i := 422) (by decide +kernel)⟩
theorem lw_p7 : lw_okq (⟨"FaslDesk$Compiler", "setFirst", "(II)V"⟩, 4) := ⟨⟨by decide +kernel, by decide +kernel⟩, List.mem_of_getElem? (i := 120) (by decide +kernel), List.mem_of_getElem? (i := 425) (by decide +kernel), List.mem_of_getElem? (i := 426) (by decide +kernel)⟩
theorem lw_p8 : lw_okq (⟨"FaslDesk$Compiler", "emitTimes", "(I)V"⟩, 4) := ⟨⟨by decide +kernel, by decide +kernel⟩, List.mem_of_getElem? (i := 120) (by decide +kernel), List.mem_of_getElem? (i := 429) (by decide +kernel), List.mem_of_getElem? (i := 430) (by decide +kernel)⟩
theorem lw_p9 : lw_okq (⟨"FaslDesk$Compiler", "emitOfTimes", "(I)V"⟩, 4) := ⟨⟨by decide +kernel, by decide +kernel⟩, List.mem_of_getElem? (i := 120) (by decide +kernel), List.mem_of_getElem? (i := 433) (by decide +kernel), List.mem_of_getElem? (i := 434) (by decide +kernel)⟩
theorem lw_p10 : lw_okq (⟨"FaslDesk", "damageMagic", "(I)I"⟩, 8) := ⟨⟨by decide +kernel, by decide +kernel⟩, List.mem_of_getElem? (i := 24) (by decide +kernel), List.mem_of_getElem? (i := 456) (by decide +kernel), List.mem_of_getElem? (i := 457) (by decide +kernel)⟩
theorem lw_p11 : lw_okq (⟨"FaslDesk", "damageStated", "(I)I"⟩, 8) := ⟨⟨by decide +kernel, by decide +kernel⟩, List.mem_of_getElem? (i := 24) (by decide +kernel), List.mem_of_getElem? (i := 460) (by decide +kernel), List.mem_of_getElem? (i := 461) (by decide +kernel)⟩
theorem lw_p12 : lw_okq (⟨"FaslDesk", "damageNumber", "(II)I"⟩, 8) := ⟨⟨by decide +kernel, by decide +kernel⟩, List.mem_of_getElem? (i := 24) (by decide +kernel), List.mem_of_getElem? (i := 464) (by decide +kernel), List.mem_of_getElem? (i := 465) (by decide +kernel)⟩
theorem lw_p13 : lw_okq (⟨"FaslDesk", "damageOctet", "(I)I"⟩, 8) := ⟨⟨by decide +kernel, by decide +kernel⟩, List.mem_of_getElem? (i := 24) (by decide +kernel), List.mem_of_getElem? (i := 472) (by decide +kernel), List.mem_of_getElem? (i := 473) (by decide +kernel)⟩
theorem lw_p14 : lw_okq (⟨"FaslDesk", "sealAnew", "(I)I"⟩, 8) := ⟨⟨by decide +kernel, by decide +kernel⟩, List.mem_of_getElem? (i := 24) (by decide +kernel), List.mem_of_getElem? (i := 476) (by decide +kernel), List.mem_of_getElem? (i := 477) (by decide +kernel)⟩
theorem lw_p15 : lw_okq (⟨"FaslDesk", "hasUnit", "(II)Z"⟩, 8) := ⟨⟨by decide +kernel, by decide +kernel⟩, List.mem_of_getElem? (i := 24) (by decide +kernel), List.mem_of_getElem? (i := 485) (by decide +kernel), List.mem_of_getElem? (i := 486) (by decide +kernel)⟩
def lw_privs_1 : List (MethodName × Nat) := [(⟨"FaslDesk$Form", "callsGo", "(I)Z"⟩, 5), (⟨"FaslDesk$Form", "endOf", "(IIII)I"⟩, 5), (⟨"FaslDesk$Form", "mayStand", "(IIII)Z"⟩, 5), (⟨"FaslDesk$Compiler", "emit", "(II)V"⟩, 4), (⟨"FaslDesk$Compiler", "emitForm", "(I)V"⟩, 4), (⟨"FaslDesk$Compiler", "emitIf", "(I)V"⟩, 4), (⟨"FaslDesk$Compiler", "setSecond", "(II)V"⟩, 4), (⟨"FaslDesk$Compiler", "setFirst", "(II)V"⟩, 4), (⟨"FaslDesk$Compiler", "emitTimes", "(I)V"⟩, 4), (⟨"FaslDesk$Compiler", "emitOfTimes", "(I)V"⟩, 4), (⟨"FaslDesk", "damageMagic", "(I)I"⟩, 8), (⟨"FaslDesk", "damageStated", "(I)I"⟩, 8), (⟨"FaslDesk", "damageNumber", "(II)I"⟩, 8), (⟨"FaslDesk", "damageOctet", "(I)I"⟩, 8), (⟨"FaslDesk", "sealAnew", "(I)I"⟩, 8), (⟨"FaslDesk", "hasUnit", "(II)Z"⟩, 8)]
theorem lw_r1 : ∀ q ∈ lw_privs_1, lw_okq q := List.forall_mem_cons.mpr ⟨lw_p0, List.forall_mem_cons.mpr ⟨lw_p1, List.forall_mem_cons.mpr ⟨lw_p2, List.forall_mem_cons.mpr ⟨lw_p3, List.forall_mem_cons.mpr ⟨lw_p4, List.forall_mem_cons.mpr ⟨lw_p5, List.forall_mem_cons.mpr ⟨lw_p6, List.forall_mem_cons.mpr ⟨lw_p7, List.forall_mem_cons.mpr ⟨lw_p8, List.forall_mem_cons.mpr ⟨lw_p9, List.forall_mem_cons.mpr ⟨lw_p10, List.forall_mem_cons.mpr ⟨lw_p11, List.forall_mem_cons.mpr ⟨lw_p12, List.forall_mem_cons.mpr ⟨lw_p13, List.forall_mem_cons.mpr ⟨lw_p14, List.forall_mem_cons.mpr ⟨lw_p15, fun _ h => absurd h List.not_mem_nil⟩⟩⟩⟩⟩⟩⟩⟩⟩⟩⟩⟩⟩⟩⟩⟩
theorem lw_p16 : lw_okq (⟨"FaslDesk$Archive", "findOddEntry", "()I"⟩, 6) := ⟨⟨by decide +kernel, by decide +kernel⟩, List.mem_of_getElem? (i := 139) (by decide +kernel), List.mem_of_getElem? (i := 509) (by decide +kernel), List.mem_of_getElem? (i := 510) (by decide +kernel)⟩
theorem lw_p17 : lw_okq (⟨"FaslDesk$Archive", "findOddClass", "()I"⟩, 6) := ⟨⟨by decide +kernel, by decide +kernel⟩, List.mem_of_getElem? (i := 139) (by decide +kernel), List.mem_of_getElem? (i := 518) (by decide +kernel), List.mem_of_getElem? (i := 519) (by decide +kernel)⟩
theorem lw_p18 : lw_okq (⟨"FaslDesk$Archive", "findOddCode", "()I"⟩, 6) := ⟨⟨by decide +kernel, by decide +kernel⟩, List.mem_of_getElem? (i := 139) (by decide +kernel), List.mem_of_getElem? (i := 522) (by decide +kernel), List.mem_of_getElem? (i := 523) (by decide +kernel)⟩
theorem lw_p19 : lw_okq (⟨"FaslDesk$CodeCheck", "reach", "(II)Z"⟩, 4) := ⟨⟨by decide +kernel, by decide +kernel⟩, List.mem_of_getElem? (i := 147) (by decide +kernel), List.mem_of_getElem? (i := 530) (by decide +kernel), List.mem_of_getElem? (i := 531) (by decide +kernel)⟩
theorem lw_p20 : lw_okq (⟨"FaslDesk$CodeCheck", "passes", "(II)Z"⟩, 4) := ⟨⟨by decide +kernel, by decide +kernel⟩, List.mem_of_getElem? (i := 147) (by decide +kernel), List.mem_of_getElem? (i := 534) (by decide +kernel), List.mem_of_getElem? (i := 535) (by decide +kernel)⟩
theorem lw_p21 : lw_okq (⟨"FaslDesk$Interpreter", "answer", "(IIII)I"⟩, 3) := ⟨⟨by decide +kernel, by decide +kernel⟩, List.mem_of_getElem? (i := 64) (by decide +kernel), List.mem_of_getElem? (i := 585) (by decide +kernel), List.mem_of_getElem? (i := 586) (by decide +kernel)⟩
theorem lw_p22 : lw_okq (⟨"java/lang/Throwable", "fillInStackTrace", "(I)Ljava/lang/Throwable;"⟩, 6) := ⟨⟨by decide +kernel, by decide +kernel⟩, List.mem_of_getElem? (i := 627) (by decide +kernel), List.mem_of_getElem? (i := 625) (by decide +kernel), List.mem_of_getElem? (i := 626) (by decide +kernel)⟩
theorem lw_p23 : lw_okq (⟨"FaslDesk$OpenForms", "enter", "(I)V"⟩, 3) := ⟨⟨by decide +kernel, by decide +kernel⟩, List.mem_of_getElem? (i := 93) (by decide +kernel), List.mem_of_getElem? (i := 668) (by decide +kernel), List.mem_of_getElem? (i := 669) (by decide +kernel)⟩
theorem lw_p24 : lw_okq (⟨"FaslDesk$Interpreter", "advance", "(I)V"⟩, 3) := ⟨⟨by decide +kernel, by decide +kernel⟩, List.mem_of_getElem? (i := 64) (by decide +kernel), List.mem_of_getElem? (i := 677) (by decide +kernel), List.mem_of_getElem? (i := 678) (by decide +kernel)⟩
theorem lw_p25 : lw_okq (⟨"FaslDesk$Interpreter", "choose", "(II)V"⟩, 3) := ⟨⟨by decide +kernel, by decide +kernel⟩, List.mem_of_getElem? (i := 64) (by decide +kernel), List.mem_of_getElem? (i := 690) (by decide +kernel), List.mem_of_getElem? (i := 691) (by decide +kernel)⟩
theorem lw_p26 : lw_okq (⟨"FaslDesk$Interpreter", "goRound", "(IIZ)V"⟩, 3) := ⟨⟨by decide +kernel, by decide +kernel⟩, List.mem_of_getElem? (i := 64) (by decide +kernel), List.mem_of_getElem? (i := 710) (by decide +kernel), List.mem_of_getElem? (i := 711) (by decide +kernel)⟩
theorem lw_p27 : lw_okq (⟨"FaslDesk$Interpreter", "finish", "(III)V"⟩, 3) := ⟨⟨by decide +kernel, by decide +kernel⟩, List.mem_of_getElem? (i := 64) (by decide +kernel), List.mem_of_getElem? (i := 724) (by decide +kernel), List.mem_of_getElem? (i := 725) (by decide +kernel)⟩
theorem lw_p28 : lw_okq (⟨"FaslDesk$Interpreter", "answerOfLower", "(II)I"⟩, 3) := ⟨⟨by decide +kernel, by decide +kernel⟩, List.mem_of_getElem? (i := 64) (by decide +kernel), List.mem_of_getElem? (i := 732) (by decide +kernel), List.mem_of_getElem? (i := 733) (by decide +kernel)⟩
theorem lw_p29 : lw_okq (⟨"FaslDesk$Image", "answer", "(IIII)I"⟩, 2) := ⟨⟨by decide +kernel, by decide +kernel⟩, List.mem_of_getElem? (i := 282) (by decide +kernel), List.mem_of_getElem? (i := 771) (by decide +kernel), List.mem_of_getElem? (i := 772) (by decide +kernel)⟩
theorem lw_p30 : lw_okq (⟨"FaslDesk$Image", "perform", "(II)I"⟩, 2) := ⟨⟨by decide +kernel, by decide +kernel⟩, List.mem_of_getElem? (i := 282) (by decide +kernel), List.mem_of_getElem? (i := 777) (by decide +kernel), List.mem_of_getElem? (i := 778) (by decide +kernel)⟩
theorem lw_p31 : lw_okq (⟨"FaslDesk$Image", "answerOfLower", "(II)I"⟩, 2) := ⟨⟨by decide +kernel, by decide +kernel⟩, List.mem_of_getElem? (i := 282) (by decide +kernel), List.mem_of_getElem? (i := 784) (by decide +kernel), List.mem_of_getElem? (i := 785) (by decide +kernel)⟩
def lw_privs_2 : List (MethodName × Nat) := [(⟨"FaslDesk$Archive", "findOddEntry", "()I"⟩, 6), (⟨"FaslDesk$Archive", "findOddClass", "()I"⟩, 6), (⟨"FaslDesk$Archive", "findOddCode", "()I"⟩, 6), (⟨"FaslDesk$CodeCheck", "reach", "(II)Z"⟩, 4), (⟨"FaslDesk$CodeCheck", "passes", "(II)Z"⟩, 4), (⟨"FaslDesk$Interpreter", "answer", "(IIII)I"⟩, 3), (⟨"java/lang/Throwable", "fillInStackTrace", "(I)Ljava/lang/Throwable;"⟩, 6), (⟨"FaslDesk$OpenForms", "enter", "(I)V"⟩, 3), (⟨"FaslDesk$Interpreter", "advance", "(I)V"⟩, 3), (⟨"FaslDesk$Interpreter", "choose", "(II)V"⟩, 3), (⟨"FaslDesk$Interpreter", "goRound", "(IIZ)V"⟩, 3), (⟨"FaslDesk$Interpreter", "finish", "(III)V"⟩, 3), (⟨"FaslDesk$Interpreter", "answerOfLower", "(II)I"⟩, 3), (⟨"FaslDesk$Image", "answer", "(IIII)I"⟩, 2), (⟨"FaslDesk$Image", "perform", "(II)I"⟩, 2), (⟨"FaslDesk$Image", "answerOfLower", "(II)I"⟩, 2)]
theorem lw_r2 : ∀ q ∈ lw_privs_2, lw_okq q := List.forall_mem_cons.mpr ⟨lw_p16, List.forall_mem_cons.mpr ⟨lw_p17, List.forall_mem_cons.mpr ⟨lw_p18, List.forall_mem_cons.mpr ⟨lw_p19, List.forall_mem_cons.mpr ⟨lw_p20, List.forall_mem_cons.mpr ⟨lw_p21, List.forall_mem_cons.mpr ⟨lw_p22, List.forall_mem_cons.mpr ⟨lw_p23, List.forall_mem_cons.mpr ⟨lw_p24, List.forall_mem_cons.mpr ⟨lw_p25, List.forall_mem_cons.mpr ⟨lw_p26, List.forall_mem_cons.mpr ⟨lw_p27, List.forall_mem_cons.mpr ⟨lw_p28, List.forall_mem_cons.mpr ⟨lw_p29, List.forall_mem_cons.mpr ⟨lw_p30, List.forall_mem_cons.mpr ⟨lw_p31, fun _ h => absurd h List.not_mem_nil⟩⟩⟩⟩⟩⟩⟩⟩⟩⟩⟩⟩⟩⟩⟩⟩
theorem lw_p32 : lw_okq (⟨"FaslDeskModel", "relate", "()Z"⟩, 37) := ⟨⟨by decide +kernel, by decide +kernel⟩, List.mem_of_getElem? (i := 809) (by decide +kernel), List.mem_of_getElem? (i := 945) (by decide +kernel), List.mem_of_getElem? (i := 946) (by decide +kernel)⟩
theorem lw_p33 : lw_okq (⟨"FaslDeskModel", "stands", "(III)Z"⟩, 37) := ⟨⟨by decide +kernel, by decide +kernel⟩, List.mem_of_getElem? (i := 809) (by decide +kernel), List.mem_of_getElem? (i := 952) (by decide +kernel), List.mem_of_getElem? (i := 953) (by decide +kernel)⟩
theorem lw_p34 : lw_okq (⟨"FaslDeskModel", "translate", "(I)V"⟩, 37) := ⟨⟨by decide +kernel, by decide +kernel⟩, List.mem_of_getElem? (i := 809) (by decide +kernel), List.mem_of_getElem? (i := 956) (by decide +kernel), List.mem_of_getElem? (i := 957) (by decide +kernel)⟩
theorem lw_p35 : lw_okq (⟨"FaslDeskModel", "put", "(IIII)I"⟩, 37) := ⟨⟨by decide +kernel, by decide +kernel⟩, List.mem_of_getElem? (i := 809) (by decide +kernel), List.mem_of_getElem? (i := 960) (by decide +kernel), List.mem_of_getElem? (i := 961) (by decide +kernel)⟩
theorem lw_p36 : lw_okq (⟨"FaslDeskModel", "behind", "(II)Z"⟩, 37) := ⟨⟨by decide +kernel, by decide +kernel⟩, List.mem_of_getElem? (i := 809) (by decide +kernel), List.mem_of_getElem? (i := 964) (by decide +kernel), List.mem_of_getElem? (i := 965) (by decide +kernel)⟩
theorem lw_p37 : lw_okq (⟨"FaslDeskModel", "fix", "(II)V"⟩, 37) := ⟨⟨by decide +kernel, by decide +kernel⟩, List.mem_of_getElem? (i := 809) (by decide +kernel), List.mem_of_getElem? (i := 968) (by decide +kernel), List.mem_of_getElem? (i := 969) (by decide +kernel)⟩
theorem lw_p38 : lw_okq (⟨"FaslDeskModel", "measure", "(I)I"⟩, 37) := ⟨⟨by decide +kernel, by decide +kernel⟩, List.mem_of_getElem? (i := 809) (by decide +kernel), List.mem_of_getElem? (i := 972) (by decide +kernel), List.mem_of_getElem? (i := 973) (by decide +kernel)⟩
theorem lw_p39 : lw_okq (⟨"FaslDeskModel", "reach", "(III)Z"⟩, 37) := ⟨⟨by decide +kernel, by decide +kernel⟩, List.mem_of_getElem? (i := 809) (by decide +kernel), List.mem_of_getElem? (i := 982) (by decide +kernel), List.mem_of_getElem? (i := 983) (by decide +kernel)⟩
theorem lw_p40 : lw_okq (⟨"FaslDeskModel", "go", "(IIIII)I"⟩, 37) := ⟨⟨by decide +kernel, by decide +kernel⟩, List.mem_of_getElem? (i := 809) (by decide +kernel), List.mem_of_getElem? (i := 990) (by decide +kernel), List.mem_of_getElem? (i := 991) (by decide +kernel)⟩
theorem lw_p41 : lw_okq (⟨"FaslDeskModel", "enter", "(IIIIII)V"⟩, 37) := ⟨⟨by decide +kernel, by decide +kernel⟩, List.mem_of_getElem? (i := 809) (by decide +kernel), List.mem_of_getElem? (i := 994) (by decide +kernel), List.mem_of_getElem? (i := 995) (by decide +kernel)⟩
theorem lw_p42 : lw_okq (⟨"FaslDeskModel", "simple", "(IIII)I"⟩, 37) := ⟨⟨by decide +kernel, by decide +kernel⟩, List.mem_of_getElem? (i := 809) (by decide +kernel), List.mem_of_getElem? (i := 1004) (by decide +kernel), List.mem_of_getElem? (i := 1005) (by decide +kernel)⟩
theorem lw_p43 : lw_okq (⟨"FaslDeskModel", "copyUnits", "(II)V"⟩, 37) := ⟨⟨by decide +kernel, by decide +kernel⟩, List.mem_of_getElem? (i := 809) (by decide +kernel), List.mem_of_getElem? (i := 1020) (by decide +kernel), List.mem_of_getElem? (i := 1021) (by decide +kernel)⟩
theorem lw_p44 : lw_okq (⟨"FaslDeskModel", "seal", "(I)V"⟩, 37) := ⟨⟨by decide +kernel, by decide +kernel⟩, List.mem_of_getElem? (i := 809) (by decide +kernel), List.mem_of_getElem? (i := 1024) (by decide +kernel), List.mem_of_getElem? (i := 1025) (by decide +kernel)⟩
theorem lw_p45 : lw_okq (⟨"FaslDeskModel", "fault", "(II)I"⟩, 37) := ⟨⟨by decide +kernel, by decide +kernel⟩, List.mem_of_getElem? (i := 809) (by decide +kernel), List.mem_of_getElem? (i := 1047) (by decide +kernel), List.mem_of_getElem? (i := 1048) (by decide +kernel)⟩
theorem lw_p46 : lw_okq (⟨"FaslDeskModel", "goes", "(I)Z"⟩, 37) := ⟨⟨by decide +kernel, by decide +kernel⟩, List.mem_of_getElem? (i := 809) (by decide +kernel), List.mem_of_getElem? (i := 1051) (by decide +kernel), List.mem_of_getElem? (i := 1052) (by decide +kernel)⟩
def lw_privs_3 : List (MethodName × Nat) := [(⟨"FaslDeskModel", "relate", "()Z"⟩, 37), (⟨"FaslDeskModel", "stands", "(III)Z"⟩, 37), (⟨"FaslDeskModel", "translate", "(I)V"⟩, 37), (⟨"FaslDeskModel", "put", "(IIII)I"⟩, 37), (⟨"FaslDeskModel", "behind", "(II)Z"⟩, 37), (⟨"FaslDeskModel", "fix", "(II)V"⟩, 37), (⟨"FaslDeskModel", "measure", "(I)I"⟩, 37), (⟨"FaslDeskModel", "reach", "(III)Z"⟩, 37), (⟨"FaslDeskModel", "go", "(IIIII)I"⟩, 37), (⟨"FaslDeskModel", "enter", "(IIIIII)V"⟩, 37), (⟨"FaslDeskModel", "simple", "(IIII)I"⟩, 37), (⟨"FaslDeskModel", "copyUnits", "(II)V"⟩, 37), (⟨"FaslDeskModel", "seal", "(I)V"⟩, 37), (⟨"FaslDeskModel", "fault", "(II)I"⟩, 37), (⟨"FaslDeskModel", "goes", "(I)Z"⟩, 37)]
theorem lw_r3 : ∀ q ∈ lw_privs_3, lw_okq q := List.forall_mem_cons.mpr ⟨lw_p32, List.forall_mem_cons.mpr ⟨lw_p33, List.forall_mem_cons.mpr ⟨lw_p34, List.forall_mem_cons.mpr ⟨lw_p35, List.forall_mem_cons.mpr ⟨lw_p36, List.forall_mem_cons.mpr ⟨lw_p37, List.forall_mem_cons.mpr ⟨lw_p38, List.forall_mem_cons.mpr ⟨lw_p39, List.forall_mem_cons.mpr ⟨lw_p40, List.forall_mem_cons.mpr ⟨lw_p41, List.forall_mem_cons.mpr ⟨lw_p42, List.forall_mem_cons.mpr ⟨lw_p43, List.forall_mem_cons.mpr ⟨lw_p44, List.forall_mem_cons.mpr ⟨lw_p45, List.forall_mem_cons.mpr ⟨lw_p46, fun _ h => absurd h List.not_mem_nil⟩⟩⟩⟩⟩⟩⟩⟩⟩⟩⟩⟩⟩⟩⟩
def lw_privs : List (MethodName × Nat) := lw_privs_1 ++ (lw_privs_2 ++ (lw_privs_3))
def lw_tbl : List Cond := k2_sels lw_privs ++ tables_1
theorem lw_privs_ok : ∀ q ∈ lw_privs, lw_okq q := by
  show ∀ q ∈ lw_privs_1 ++ (lw_privs_2 ++ (lw_privs_3)), lw_okq q
  exact List.forall_mem_append.mpr ⟨lw_r1, List.forall_mem_append.mpr ⟨lw_r2, lw_r3⟩⟩
end
section
/-! words, classes, names -/
def xv_BIG : List Cond := lw_tbl.filter goodWord
theorem xv_in (k : Nat) {w : Cond} (h : tables_1[k]? = some w) (g : goodWord w = true) : w ∈ xv_BIG := List.mem_filter.mpr ⟨List.mem_append_right _ (List.mem_of_getElem? h), g⟩
theorem xv_inP (k : Nat) {w : Cond} (h : (k2_sels lw_privs)[k]? = some w) (g : goodWord w = true) : w ∈ xv_BIG := List.mem_filter.mpr ⟨List.mem_append_left _ (List.mem_of_getElem? h), g⟩
theorem xv_good (w : Cond) (h : w ∈ xv_BIG) : w ∈ xv_BIG ∧ ((w.onTables && w.keeps) = true ∨ ∃ ty, w = .arrayClass ty) := ⟨h, good_of_word (List.mem_filter.mp h).2⟩
def xv_nest : List Cond := [(Jvm.Cond.methodLinkNest "FaslDesk" (9 : Nat) ({ cls := "FaslDesk$Form", name := "<init>", desc := "()V" } : Jvm.MethodName) "FaslDesk"), (Jvm.Cond.methodLinkNest "FaslDesk$Interpreter" (29 : Nat) ({ cls := "FaslDesk$Form", name := "<init>", desc := "()V" } : Jvm.MethodName) "FaslDesk"), (Jvm.Cond.methodLinkNest "FaslDesk$Interpreter" (30 : Nat) ({ cls := "FaslDesk$Frame", name := "<init>", desc := "()V" } : Jvm.MethodName) "FaslDesk"), (Jvm.Cond.methodLinkNest "FaslDesk$Interpreter" (31 : Nat) ({ cls := "FaslDesk$OpenForms", name := "<init>", desc := "()V" } : Jvm.MethodName) "FaslDesk"), (Jvm.Cond.methodLinkNest "FaslDesk" (25 : Nat) ({ cls := "FaslDesk$Compiler", name := "<init>", desc := "()V" } : Jvm.MethodName) "FaslDesk"), (Jvm.Cond.methodLinkNest "FaslDesk$Archive" (19 : Nat) ({ cls := "FaslDesk$CodeCheck", name := "<init>", desc := "()V" } : Jvm.MethodName) "FaslDesk"), (Jvm.Cond.methodLinkNest "FaslDesk$Archive" (24 : Nat) ({ cls := "FaslDesk$Entry", name := "<init>", desc := "()V" } : Jvm.MethodName) "FaslDesk"), (Jvm.Cond.methodLinkNest "FaslDesk$Entry" (11 : Nat) ({ cls := "FaslDesk$Code", name := "<init>", desc := "()V" } : Jvm.MethodName) "FaslDesk"), (Jvm.Cond.methodLinkNest "FaslDesk$Image" (23 : Nat) ({ cls := "FaslDesk$Code", name := "<init>", desc := "()V" } : Jvm.MethodName) "FaslDesk"), (Jvm.Cond.methodLinkNest "FaslDesk$Image" (24 : Nat) ({ cls := "FaslDesk$Frame", name := "<init>", desc := "()V" } : Jvm.MethodName) "FaslDesk"), (Jvm.Cond.methodLinkNest "FaslDesk$Form" (21 : Nat) ({ cls := "FaslDesk", name := "within", desc := "(III)Z" } : Jvm.MethodName) "FaslDesk"), (Jvm.Cond.methodLinkNest "FaslDesk$Interpreter" (32 : Nat) ({ cls := "FaslDesk", name := "within", desc := "(III)Z" } : Jvm.MethodName) "FaslDesk"), (Jvm.Cond.methodLinkNest "FaslDesk$Code" (21 : Nat) ({ cls := "FaslDesk", name := "within", desc := "(III)Z" } : Jvm.MethodName) "FaslDesk"), (Jvm.Cond.methodLinkNest "FaslDesk$Image" (25 : Nat) ({ cls := "FaslDesk", name := "within", desc := "(III)Z" } : Jvm.MethodName) "FaslDesk"), (Jvm.Cond.methodLinkNest "FaslDesk" (74 : Nat) ({ cls := "FaslDesk$Interpreter", name := "answer", desc := "(IIII)I" } : Jvm.MethodName) "FaslDesk"), (Jvm.Cond.methodLinkNest "FaslDesk" (168 : Nat) ({ cls := "FaslDesk$Image", name := "answer", desc := "(IIII)I" } : Jvm.MethodName) "FaslDesk")]
def xv_ra : List String := ["FaslDesk$Form", "FaslDesk$Frame", "FaslDesk$OpenForms", "FaslDesk$Entry", "FaslDesk$Code"]
def xv_T0 : u_T := fun k => match k with
  | 0 => ("FaslDesk$Form", "op", "[I", true)
  | 1 => ("FaslDesk$Form", "a", "[I", true)
  | 2 => ("FaslDesk$Form", "length", "I", false)
  | 3 => ("FaslDesk$Form", "parameters", "I", false)
  | _ => ("FaslDesk$Form", "starts", "[I", true)
def xv_T1 : u_T := fun k => match k with
  | 0 => ("FaslDesk$Frame", "variables", "[I", true)
  | 1 => ("FaslDesk$Frame", "values", "[I", true)
  | _ => ("FaslDesk$Frame", "size", "I", false)
def xv_T2 : u_T := fun k => match k with
  | 0 => ("FaslDesk$OpenForms", "places", "[I", true)
  | 1 => ("FaslDesk$OpenForms", "parts", "[I", true)
  | _ => ("FaslDesk$OpenForms", "size", "I", false)
def xv_T3 : u_T := fun k => match k with
  | 0 => ("FaslDesk$Interpreter", "forms", "[LFaslDesk$Form;", true)
  | 1 => ("FaslDesk$Interpreter", "frames", "[LFaslDesk$Frame;", true)
  | _ => ("FaslDesk$Interpreter", "opens", "[LFaslDesk$OpenForms;", true)
def xv_T4 : u_T := fun k => match k with
  | 0 => ("FaslDesk$Code", "op", "[I", true)
  | 1 => ("FaslDesk$Code", "first", "[I", true)
  | 2 => ("FaslDesk$Code", "second", "[I", true)
  | _ => ("FaslDesk$Code", "length", "I", false)
def xv_T5 : u_T := fun k => match k with
  | 0 => ("FaslDesk$Entry", "code", "LFaslDesk$Code;", true)
  | 1 => ("FaslDesk$Entry", "ofTimes", "[Z", true)
  | 2 => ("FaslDesk$Entry", "number", "I", false)
  | 3 => ("FaslDesk$Entry", "parameters", "I", false)
  | 4 => ("FaslDesk$Entry", "stack", "I", false)
  | 5 => ("FaslDesk$Entry", "namedFor", "I", false)
  | 6 => ("FaslDesk$Entry", "octetChanged", "Z", false)
  | 7 => ("FaslDesk$Entry", "sealedOps", "[I", true)
  | 8 => ("FaslDesk$Entry", "sealedNumber", "I", false)
  | _ => ("FaslDesk$Entry", "sealedOctet", "Z", false)
def xv_T6 : u_T := fun k => match k with
  | 0 => ("FaslDesk$Compiler", "form", "LFaslDesk$Form;", false)
  | 1 => ("FaslDesk$Compiler", "target", "LFaslDesk$Entry;", false)
  | 2 => ("FaslDesk$Compiler", "code", "LFaslDesk$Code;", false)
  | _ => ("FaslDesk$Compiler", "height", "I", false)
def xv_T7 : u_T := fun k => match k with
  | 0 => ("FaslDesk$CodeCheck", "heights", "[I", true)
  | 1 => ("FaslDesk$CodeCheck", "reached", "[I", true)
  | 2 => ("FaslDesk$CodeCheck", "reachedSize", "I", false)
  | _ => ("FaslDesk$CodeCheck", "code", "LFaslDesk$Code;", false)
def xv_T8 : u_T := fun k => match k with
  | 0 => ("FaslDesk$Archive", "entries", "[LFaslDesk$Entry;", true)
  | 1 => ("FaslDesk$Archive", "size", "I", false)
  | 2 => ("FaslDesk$Archive", "magic", "I", false)
  | 3 => ("FaslDesk$Archive", "stated", "I", false)
  | 4 => ("FaslDesk$Archive", "faultAt", "I", false)
  | _ => ("FaslDesk$Archive", "codeCheck", "LFaslDesk$CodeCheck;", true)
def xv_T9 : u_T := fun k => match k with
  | 0 => ("FaslDesk$Image", "codes", "[LFaslDesk$Code;", true)
  | _ => ("FaslDesk$Image", "frames", "[LFaslDesk$Frame;", true)
def xv_T10 : u_T := fun k => match k with
  | 0 => ("FaslDesk", "draft", "LFaslDesk$Form;", true)
  | 1 => ("FaslDesk", "interpreter", "LFaslDesk$Interpreter;", true)
  | 2 => ("FaslDesk", "compiler", "LFaslDesk$Compiler;", true)
  | 3 => ("FaslDesk", "archive", "LFaslDesk$Archive;", true)
  | 4 => ("FaslDesk", "image", "LFaslDesk$Image;", true)
  | 5 => ("FaslDesk", "imagesMade", "I", false)
  | 6 => ("FaslDesk", "faultsFound", "I", false)
  | _ => ("FaslDesk", "latestFaultAt", "I", false)
def xv_T11 : u_T := fun k => match k with
  | 0 => ("FaslDeskModel", "op", "[I", true)
  | 1 => ("FaslDeskModel", "arg", "[I", true)
  | 2 => ("FaslDeskModel", "length", "[I", true)
  | 3 => ("FaslDeskModel", "params", "[I", true)
  | 4 => ("FaslDeskModel", "up", "[I", true)
  | 5 => ("FaslDeskModel", "part", "[I", true)
  | 6 => ("FaslDeskModel", "uOp", "[I", true)
  | 7 => ("FaslDeskModel", "uA", "[I", true)
  | 8 => ("FaslDeskModel", "uB", "[I", true)
  | 9 => ("FaslDeskModel", "many", "[I", true)
  | 10 => ("FaslDeskModel", "most", "[I", true)
  | 11 => ("FaslDeskModel", "way", "[I", true)
  | 12 => ("FaslDeskModel", "fixed", "[Z", true)
  | 13 => ("FaslDeskModel", "image", "[Z", true)
  | 14 => ("FaslDeskModel", "octet", "[Z", true)
  | 15 => ("FaslDeskModel", "sealOctet", "[Z", true)
  | 16 => ("FaslDeskModel", "number", "[I", true)
  | 17 => ("FaslDeskModel", "eParams", "[I", true)
  | 18 => ("FaslDeskModel", "named", "[I", true)
  | 19 => ("FaslDeskModel", "sealNumber", "[I", true)
  | 20 => ("FaslDeskModel", "sealOp", "[I", true)
  | 21 => ("FaslDeskModel", "iParams", "[I", true)
  | 22 => ("FaslDeskModel", "stack", "[I", true)
  | 23 => ("FaslDeskModel", "local", "[I", true)
  | 24 => ("FaslDeskModel", "at", "[I", true)
  | 25 => ("FaslDeskModel", "who", "[I", true)
  | 26 => ("FaslDeskModel", "open", "[I", true)
  | 27 => ("FaslDeskModel", "stage", "[I", true)
  | 28 => ("FaslDeskModel", "patch", "[I", true)
  | 29 => ("FaslDeskModel", "magic", "I", false)
  | 30 => ("FaslDeskModel", "claimed", "I", false)
  | 31 => ("FaslDeskModel", "entries", "I", false)
  | 32 => ("FaslDeskModel", "images", "I", false)
  | 33 => ("FaslDeskModel", "faults", "I", false)
  | 34 => ("FaslDeskModel", "faultEntry", "I", false)
  | 35 => ("FaslDeskModel", "thrown", "I", false)
  | _ => ("FaslDeskModel", "units", "I", false)
def xv_Tx : u_T := fun _ => ("", "", "", false)
def xv_cl : List vw_C := [("FaslDesk$Form", xv_T0, 5), ("FaslDesk$Frame", xv_T1, 3), ("FaslDesk$OpenForms", xv_T2, 3), ("FaslDesk$Interpreter", xv_T3, 3), ("FaslDesk$Code", xv_T4, 4), ("FaslDesk$Entry", xv_T5, 10), ("FaslDesk$Compiler", xv_T6, 4), ("FaslDesk$CodeCheck", xv_T7, 4), ("FaslDesk$Archive", xv_T8, 6), ("FaslDesk$Image", xv_T9, 2), ("FaslDesk", xv_T10, 8), ("FaslDeskModel", xv_T11, 37), ("java/util/NoSuchElementException", xv_Tx, 0), ("java/lang/ArithmeticException", xv_Tx, 0), ("java/lang/IllegalStateException", xv_Tx, 0)]
abbrev xv_nc : Nat := 15
theorem xv_nc_le : xv_nc ≤ 99 := by decide
def xv_nm (ci : Nat) : String := (xv_cl.getD ci ("", xv_Tx, 0)).1
def xv_T (ci : Nat) : u_T := (xv_cl.getD ci ("", xv_Tx, 0)).2.1
def xv_nf (ci : Nat) : Nat := (xv_cl.getD ci ("", xv_Tx, 0)).2.2
def xv_ty (ci j : Nat) : FieldType := (parseFieldDescriptor (xv_T ci j).2.2.1).getD .int
def xv_rf (ci j : Nat) : Bool := (xv_ty ci j).isReference
set_option maxRecDepth 100000 in
theorem xv_cw0 : ∀ w ∈ u_ws (xv_nm 0) (xv_T 0) (xv_nf 0), w ∈ xv_BIG := by
  intro w hw
  obtain ⟨k, hk, rfl⟩ := List.mem_map.mp hw
  have hk : k < 5 := List.mem_range.mp hk
  rcases (by omega : k = 0 ∨ k = 1 ∨ k = 2 ∨ k = 3 ∨ k = 4) with rfl | rfl | rfl | rfl | rfl
  · exact xv_in 51 rfl rfl
  · exact xv_in 53 rfl rfl
  · exact xv_in 55 rfl rfl
  · exact xv_in 57 rfl rfl
  · exact xv_in 59 rfl rfl
set_option maxRecDepth 100000 in
theorem xv_cw1 : ∀ w ∈ u_ws (xv_nm 1) (xv_T 1) (xv_nf 1), w ∈ xv_BIG := by
  intro w hw
  obtain ⟨k, hk, rfl⟩ := List.mem_map.mp hw
  have hk : k < 3 := List.mem_range.mp hk
  rcases (by omega : k = 0 ∨ k = 1 ∨ k = 2) with rfl | rfl | rfl
  · exact xv_in 86 rfl rfl
  · exact xv_in 88 rfl rfl
  · exact xv_in 90 rfl rfl
set_option maxRecDepth 100000 in
theorem xv_cw2 : ∀ w ∈ u_ws (xv_nm 2) (xv_T 2) (xv_nf 2), w ∈ xv_BIG := by
  intro w hw
  obtain ⟨k, hk, rfl⟩ := List.mem_map.mp hw
  have hk : k < 3 := List.mem_range.mp hk
  rcases (by omega : k = 0 ∨ k = 1 ∨ k = 2) with rfl | rfl | rfl
  · exact xv_in 101 rfl rfl
  · exact xv_in 103 rfl rfl
  · exact xv_in 105 rfl rfl
set_option maxRecDepth 100000 in
theorem xv_cw3 : ∀ w ∈ u_ws (xv_nm 3) (xv_T 3) (xv_nf 3), w ∈ xv_BIG := by
  intro w hw
  obtain ⟨k, hk, rfl⟩ := List.mem_map.mp hw
  have hk : k < 3 := List.mem_range.mp hk
  rcases (by omega : k = 0 ∨ k = 1 ∨ k = 2) with rfl | rfl | rfl
  · exact xv_in 112 rfl rfl
  · exact xv_in 114 rfl rfl
  · exact xv_in 116 rfl rfl
set_option maxRecDepth 100000 in
theorem xv_cw4 : ∀ w ∈ u_ws (xv_nm 4) (xv_T 4) (xv_nf 4), w ∈ xv_BIG := by
  intro w hw
  obtain ⟨k, hk, rfl⟩ := List.mem_map.mp hw
  have hk : k < 4 := List.mem_range.mp hk
  rcases (by omega : k = 0 ∨ k = 1 ∨ k = 2 ∨ k = 3) with rfl | rfl | rfl | rfl
  · exact xv_in 197 rfl rfl
  · exact xv_in 199 rfl rfl
  · exact xv_in 201 rfl rfl
  · exact xv_in 203 rfl rfl
set_option maxRecDepth 100000 in
theorem xv_cw5 : ∀ w ∈ u_ws (xv_nm 5) (xv_T 5) (xv_nf 5), w ∈ xv_BIG := by
  intro w hw
  obtain ⟨k, hk, rfl⟩ := List.mem_map.mp hw
  have hk : k < 10 := List.mem_range.mp hk
  rcases (by omega : k = 0 ∨ k = 1 ∨ k = 2 ∨ k = 3 ∨ k = 4 ∨ k = 5 ∨ k = 6 ∨ k = 7 ∨ k = 8 ∨ k = 9) with rfl | rfl | rfl | rfl | rfl | rfl | rfl | rfl | rfl | rfl
  · exact xv_in 233 rfl rfl
  · exact xv_in 235 rfl rfl
  · exact xv_in 237 rfl rfl
  · exact xv_in 239 rfl rfl
  · exact xv_in 241 rfl rfl
  · exact xv_in 243 rfl rfl
  · exact xv_in 245 rfl rfl
  · exact xv_in 247 rfl rfl
  · exact xv_in 249 rfl rfl
  · exact xv_in 251 rfl rfl
set_option maxRecDepth 100000 in
theorem xv_cw6 : ∀ w ∈ u_ws (xv_nm 6) (xv_T 6) (xv_nf 6), w ∈ xv_BIG := by
  intro w hw
  obtain ⟨k, hk, rfl⟩ := List.mem_map.mp hw
  have hk : k < 4 := List.mem_range.mp hk
  rcases (by omega : k = 0 ∨ k = 1 ∨ k = 2 ∨ k = 3) with rfl | rfl | rfl | rfl
  · exact xv_in 129 rfl rfl
  · exact xv_in 131 rfl rfl
  · exact xv_in 133 rfl rfl
  · exact xv_in 135 rfl rfl
set_option maxRecDepth 100000 in
theorem xv_cw7 : ∀ w ∈ u_ws (xv_nm 7) (xv_T 7) (xv_nf 7), w ∈ xv_BIG := by
  intro w hw
  obtain ⟨k, hk, rfl⟩ := List.mem_map.mp hw
  have hk : k < 4 := List.mem_range.mp hk
  rcases (by omega : k = 0 ∨ k = 1 ∨ k = 2 ∨ k = 3) with rfl | rfl | rfl | rfl
  · exact xv_in 156 rfl rfl
  · exact xv_in 158 rfl rfl
  · exact xv_in 160 rfl rfl
  · exact xv_in 162 rfl rfl
set_option maxRecDepth 100000 in
theorem xv_cw8 : ∀ w ∈ u_ws (xv_nm 8) (xv_T 8) (xv_nf 8), w ∈ xv_BIG := by
  intro w hw
  obtain ⟨k, hk, rfl⟩ := List.mem_map.mp hw
  have hk : k < 6 := List.mem_range.mp hk
  rcases (by omega : k = 0 ∨ k = 1 ∨ k = 2 ∨ k = 3 ∨ k = 4 ∨ k = 5) with rfl | rfl | rfl | rfl | rfl | rfl
  · exact xv_in 268 rfl rfl
  · exact xv_in 270 rfl rfl
  · exact xv_in 272 rfl rfl
  · exact xv_in 274 rfl rfl
  · exact xv_in 276 rfl rfl
  · exact xv_in 278 rfl rfl
set_option maxRecDepth 100000 in
theorem xv_cw9 : ∀ w ∈ u_ws (xv_nm 9) (xv_T 9) (xv_nf 9), w ∈ xv_BIG := by
  intro w hw
  obtain ⟨k, hk, rfl⟩ := List.mem_map.mp hw
  have hk : k < 2 := List.mem_range.mp hk
  rcases (by omega : k = 0 ∨ k = 1) with rfl | rfl
  · exact xv_in 294 rfl rfl
  · exact xv_in 296 rfl rfl
set_option maxRecDepth 100000 in
theorem xv_cw10 : ∀ w ∈ u_ws (xv_nm 10) (xv_T 10) (xv_nf 10), w ∈ xv_BIG := by
  intro w hw
  obtain ⟨k, hk, rfl⟩ := List.mem_map.mp hw
  have hk : k < 8 := List.mem_range.mp hk
  rcases (by omega : k = 0 ∨ k = 1 ∨ k = 2 ∨ k = 3 ∨ k = 4 ∨ k = 5 ∨ k = 6 ∨ k = 7) with rfl | rfl | rfl | rfl | rfl | rfl | rfl | rfl
  · exact xv_in 307 rfl rfl
  · exact xv_in 309 rfl rfl
  · exact xv_in 311 rfl rfl
  · exact xv_in 313 rfl rfl
  · exact xv_in 315 rfl rfl
  · exact xv_in 317 rfl rfl
  · exact xv_in 319 rfl rfl
  · exact xv_in 321 rfl rfl
set_option maxRecDepth 100000 in
theorem xv_cw11 : ∀ w ∈ u_ws (xv_nm 11) (xv_T 11) (xv_nf 11), w ∈ xv_BIG := by
  intro w hw
  obtain ⟨k, hk, rfl⟩ := List.mem_map.mp hw
  have hk : k < 37 := List.mem_range.mp hk
  rcases (by omega : k = 0 ∨ k = 1 ∨ k = 2 ∨ k = 3 ∨ k = 4 ∨ k = 5 ∨ k = 6 ∨ k = 7 ∨ k = 8 ∨ k = 9 ∨ k = 10 ∨ k = 11 ∨ k = 12 ∨ k = 13 ∨ k = 14 ∨ k = 15 ∨ k = 16 ∨ k = 17 ∨ k = 18 ∨ k = 19 ∨ k = 20 ∨ k = 21 ∨ k = 22 ∨ k = 23 ∨ k = 24 ∨ k = 25 ∨ k = 26 ∨ k = 27 ∨ k = 28 ∨ k = 29 ∨ k = 30 ∨ k = 31 ∨ k = 32 ∨ k = 33 ∨ k = 34 ∨ k = 35 ∨ k = 36) with rfl | rfl | rfl | rfl | rfl | rfl | rfl | rfl | rfl | rfl | rfl | rfl | rfl | rfl | rfl | rfl | rfl | rfl | rfl | rfl | rfl | rfl | rfl | rfl | rfl | rfl | rfl | rfl | rfl | rfl | rfl | rfl | rfl | rfl | rfl | rfl | rfl
  · exact xv_in 851 rfl rfl
  · exact xv_in 853 rfl rfl
  · exact xv_in 855 rfl rfl
  · exact xv_in 857 rfl rfl
  · exact xv_in 859 rfl rfl
  · exact xv_in 861 rfl rfl
  · exact xv_in 863 rfl rfl
  · exact xv_in 865 rfl rfl
  · exact xv_in 867 rfl rfl
  · exact xv_in 869 rfl rfl
  · exact xv_in 871 rfl rfl
  · exact xv_in 873 rfl rfl
  · exact xv_in 875 rfl rfl
  · exact xv_in 877 rfl rfl
  · exact xv_in 879 rfl rfl
  · exact xv_in 881 rfl rfl
  · exact xv_in 883 rfl rfl
  · exact xv_in 885 rfl rfl
  · exact xv_in 887 rfl rfl
  · exact xv_in 889 rfl rfl
  · exact xv_in 891 rfl rfl
  · exact xv_in 893 rfl rfl
  · exact xv_in 895 rfl rfl
  · exact xv_in 897 rfl rfl
  · exact xv_in 899 rfl rfl
  · exact xv_in 901 rfl rfl
  · exact xv_in 903 rfl rfl
  · exact xv_in 905 rfl rfl
  · exact xv_in 907 rfl rfl
  · exact xv_in 909 rfl rfl
  · exact xv_in 911 rfl rfl
  · exact xv_in 913 rfl rfl
  · exact xv_in 915 rfl rfl
  · exact xv_in 917 rfl rfl
  · exact xv_in 919 rfl rfl
  · exact xv_in 921 rfl rfl
  · exact xv_in 923 rfl rfl
set_option maxRecDepth 100000 in
theorem xv_cls (ci : Nat) (hc : ci < xv_nc) : (∀ w ∈ u_ws (xv_nm ci) (xv_T ci) (xv_nf ci), w ∈ xv_BIG) ∧ (∀ k, k < xv_nf ci → parseFieldDescriptor (xv_T ci k).2.2.1 = some (xv_ty ci k)) ∧ (∀ a, a < xv_nf ci → ∀ b, b < xv_nf ci → a ≠ b → (xv_T ci a).2.1 ≠ (xv_T ci b).2.1) := by
  rcases (by unfold xv_nc at hc; omega : ci = 0 ∨ ci = 1 ∨ ci = 2 ∨ ci = 3 ∨ ci = 4 ∨ ci = 5 ∨ ci = 6 ∨ ci = 7 ∨ ci = 8 ∨ ci = 9 ∨ ci = 10 ∨ ci = 11 ∨ ci = 12 ∨ ci = 13 ∨ ci = 14) with rfl | rfl | rfl | rfl | rfl | rfl | rfl | rfl | rfl | rfl | rfl | rfl | rfl | rfl | rfl
  · exact ⟨xv_cw0, by decide +kernel, by decide +kernel⟩
  · exact ⟨xv_cw1, by decide +kernel, by decide +kernel⟩
  · exact ⟨xv_cw2, by decide +kernel, by decide +kernel⟩
  · exact ⟨xv_cw3, by decide +kernel, by decide +kernel⟩
  · exact ⟨xv_cw4, by decide +kernel, by decide +kernel⟩
  · exact ⟨xv_cw5, by decide +kernel, by decide +kernel⟩
  · exact ⟨xv_cw6, by decide +kernel, by decide +kernel⟩
  · exact ⟨xv_cw7, by decide +kernel, by decide +kernel⟩
  · exact ⟨xv_cw8, by decide +kernel, by decide +kernel⟩
  · exact ⟨xv_cw9, by decide +kernel, by decide +kernel⟩
  · exact ⟨xv_cw10, by decide +kernel, by decide +kernel⟩
  · exact ⟨xv_cw11, by decide +kernel, by decide +kernel⟩
  · exact ⟨by decide +kernel, by decide +kernel, by decide +kernel⟩
  · exact ⟨by decide +kernel, by decide +kernel, by decide +kernel⟩
  · exact ⟨by decide +kernel, by decide +kernel, by decide +kernel⟩
theorem xv_cls4 (ci : Nat) (hc : ci < xv_nc) : ∀ j, j < xv_nf ci → defaultValue (xv_ty ci j) = if xv_rf ci j = true then Value.null else Value.int 0 := by
  rcases (by unfold xv_nc at hc; omega : ci = 0 ∨ ci = 1 ∨ ci = 2 ∨ ci = 3 ∨ ci = 4 ∨ ci = 5 ∨ ci = 6 ∨ ci = 7 ∨ ci = 8 ∨ ci = 9 ∨ ci = 10 ∨ ci = 11 ∨ ci = 12 ∨ ci = 13 ∨ ci = 14) with rfl | rfl | rfl | rfl | rfl | rfl | rfl | rfl | rfl | rfl | rfl | rfl | rfl | rfl | rfl
  · decide +kernel
  · decide +kernel
  · decide +kernel
  · decide +kernel
  · decide +kernel
  · decide +kernel
  · decide +kernel
  · decide +kernel
  · decide +kernel
  · decide +kernel
  · decide +kernel
  · decide +kernel
  · decide +kernel
  · decide +kernel
  · decide +kernel
abbrev xv_ns : Nat := 3
def xv_sC (k : Nat) : String := match k with
  | 0 => "FaslDesk$Form"
  | 1 => "FaslDesk$Code"
  | _ => "FaslDesk$Code"
def xv_sn (k : Nat) : String := match k with
  | 0 => "PARTS"
  | 1 => "TAKES"
  | _ => "LEAVES"
def xv_sL (k : Nat) : List Int32 := match k with
  | 0 => [0, 0, 2, 2, 2, 2, 2, 2, 2, 2, 2, 2, 1, 3, 2, 1, 2, 3]
  | 1 => [0, 0, 2, 2, 2, 2, 2, 2, 2, 2, 2, 2, 1, 1, 1, 0, 3, 1, 1, 1, 2, 0]
  | _ => [1, 1, 1, 1, 1, 1, 1, 1, 1, 1, 1, 1, 1, 0, 0, 0, 1, 0, 0, 2, 2, 0]
def xv_sN (k : Nat) : Nat := (xv_sL k).length
def xv_sf (k j : Nat) : Int32 := (xv_sL k).getD j 0
end
section
/-! MEMORY: an abstract memory: how many cells and slots; of a cell its kind (0 none; ci + 1 an object of the class with number ci; 100 int[], 101 boolean[], 102 long[], 103 and on arrays of references), its length, its ints, references (numbers of cells), longs -/
abbrev xv_M : Type := (Nat × Nat) × (Nat → Nat) × (Nat → Nat) × (Nat → Nat → Int32) × (Nat → Nat → Option Nat) × (Nat → Nat → Int64)
def xv_N (u : xv_M) : Nat := u.1.1
def xv_S (u : xv_M) : Nat := u.1.2
def xv_k (u : xv_M) (a : Nat) : Nat := u.2.1 a
def xv_l (u : xv_M) (a : Nat) : Nat := u.2.2.1 a
def xv_i (u : xv_M) (a j : Nat) : Int32 := u.2.2.2.1 a j
def xv_r (u : xv_M) (a j : Nat) : Option Nat := u.2.2.2.2.1 a j
def xv_g (u : xv_M) (a j : Nat) : Int64 := u.2.2.2.2.2 a j
def xv_mk (N S : Nat) (k l : Nat → Nat) (i : Nat → Nat → Int32) (r : Nat → Nat → Option Nat) (g : Nat → Nat → Int64) : xv_M := ((N, S), k, l, i, r, g)
def xv_si (u : xv_M) (a j : Nat) (v : Int32) : xv_M := xv_mk (xv_N u) (xv_S u) (xv_k u) (xv_l u) (fun b q => if b = a ∧ q = j then v else xv_i u b q) (xv_r u) (xv_g u)
def xv_sr (u : xv_M) (a j : Nat) (v : Option Nat) : xv_M := xv_mk (xv_N u) (xv_S u) (xv_k u) (xv_l u) (xv_i u) (fun b q => if b = a ∧ q = j then v else xv_r u b q) (xv_g u)
def xv_sg (u : xv_M) (a j : Nat) (v : Int64) : xv_M := xv_mk (xv_N u) (xv_S u) (xv_k u) (xv_l u) (xv_i u) (xv_r u) (fun b q => if b = a ∧ q = j then v else xv_g u b q)
/-- a whole row of ints anew -/
def xv_sw (u : xv_M) (a : Nat) (f : Nat → Int32) : xv_M := xv_mk (xv_N u) (xv_S u) (xv_k u) (xv_l u) (fun b q => if b = a then f q else xv_i u b q) (xv_r u) (xv_g u)
/-- a new cell: kind, length, slots -/
def xv_nw (u : xv_M) (k n sl : Nat) : xv_M := xv_mk (xv_N u + 1) (xv_S u + sl) (fun b => if b = xv_N u then k else xv_k u b) (fun b => if b = xv_N u then n else xv_l u b) (fun b q => if b = xv_N u then 0 else xv_i u b q) (fun b q => if b = xv_N u then none else xv_r u b q) (fun b q => if b = xv_N u then 0 else xv_g u b q)
def xv_wf (u : xv_M) : Prop := ∀ a, xv_k u a ≠ 0 → a < xv_N u
/-- base, external arrays, array classes, classes and slots, the script's length and ints -/
abbrev xv_G : Type := Nat × (Nat → Nat) × (Nat → ClassId) × va_G × Nat × (Nat → Int32)
def xv_B (G : xv_G) : Nat := G.1
def xv_ex (G : xv_G) : Nat → Nat := G.2.1
def xv_cA (G : xv_G) : Nat → ClassId := G.2.2.1
def xv_dG (G : xv_G) : va_G := G.2.2.2.1
def xv_A (G : xv_G) : Nat → Prop := fun q => xv_B G ≤ q
def xv_cv (G : xv_G) (v : Value) : Value := match v with
  | .ref a => .ref (xv_B G + a)
  | .retAddr k => .ref (xv_ex G k)
  | w => w
def xv_rq (G : xv_G) (r : Option Nat) : Option Nat := r.map (fun b => xv_B G + b)
def xv_fv (G : xv_G) (u : xv_M) (a ci j : Nat) : Value := if xv_rf ci j = true then va_rf (xv_rq G (xv_r u a j)) else .int (xv_i u a j)
def xv_fs (G : xv_G) (u : xv_M) (a ci : Nat) : List Value := (List.range (xv_nf ci)).map (xv_fv G u a ci)
def xv_ar (G : xv_G) (u : xv_M) (a k : Nat) : vp_A := (xv_l u a, if k < 102 then .inl (xv_i u a) else if k = 102 then .inr (.inl (xv_g u a)) else .inr (.inr (.inr (.inr (fun j => xv_rq G (xv_r u a j))))))
def xv_E (G : xv_G) (u : xv_M) (a : Nat) : va_E := if xv_k u a < 100 then .inr (xv_k u a - 1, xv_fs G u a (xv_k u a - 1)) else .inl (xv_cA G (xv_k u a - 100), xv_ar G u a (xv_k u a))
def xv_ws (G : xv_G) (u : xv_M) : va_W := (List.range (xv_N u)).map (fun a => (xv_B G + a, xv_E G u a))
theorem xv_ws_get {G : xv_G} {u : xv_M} {a : Nat} (h : a < xv_N u) : (xv_ws G u)[a]? = some (xv_B G + a, xv_E G u a) := by
  unfold xv_ws
  rw [List.getElem?_map, List.getElem?_range h]
  rfl
theorem xv_ws_inv {G : xv_G} {u : xv_M} {k : Nat} {q : Nat × va_E} (h : (xv_ws G u)[k]? = some q) : k < xv_N u ∧ q = (xv_B G + k, xv_E G u k) := by
  have hk : k < xv_N u := by
    have := (List.getElem?_eq_some_iff.mp h).1
    simpa [xv_ws] using this
  rw [xv_ws_get hk] at h
  exact ⟨hk, (Option.some.inj h).symm⟩
theorem xv_ws_set {G : xv_G} {u w : xv_M} {a : Nat} {e : va_E} (hN : xv_N w = xv_N u) (he : xv_E G w a = e) (ho : ∀ b, b ≠ a → xv_E G w b = xv_E G u b) : (xv_ws G u).set a (xv_B G + a, e) = xv_ws G w := by
  apply List.ext_getElem?
  intro k
  rw [List.getElem?_set]
  by_cases hk : k < xv_N u
  · have hk' : k < xv_N w := by rw [hN]; exact hk
    rw [xv_ws_get hk', xv_ws_get hk]
    by_cases ha : a = k
    · subst ha
      have hl : a < (xv_ws G u).length := by simpa [xv_ws] using hk
      simp [hl, he]
    · rw [if_neg ha, ho k (fun q => ha q.symm)]
  · have h1 : (xv_ws G u)[k]? = none := by
      apply List.getElem?_eq_none
      simpa [xv_ws] using hk
    have h2 : (xv_ws G w)[k]? = none := by
      apply List.getElem?_eq_none
      simpa [xv_ws, hN] using hk
    have h3 : ¬ k < (xv_ws G u).length := by simpa [xv_ws] using hk
    rw [h1, h2]
    by_cases ha : a = k
    · subst ha; simp [h3]
    · rw [if_neg ha]
theorem xv_ws_push {G : xv_G} {u w : xv_M} {e : va_E} (hN : xv_N w = xv_N u + 1) (he : xv_E G w (xv_N u) = e) (ho : ∀ b, b < xv_N u → xv_E G w b = xv_E G u b) : xv_ws G u ++ [(xv_B G + xv_N u, e)] = xv_ws G w := by
  unfold xv_ws
  rw [hN, List.range_succ, List.map_append]
  congr 1
  · apply List.map_congr_left
    intro b hb
    rw [ho b (List.mem_range.mp hb)]
  · simp [he]
theorem xv_D (G : xv_G) (u : xv_M) : va_D (xv_A G) (xv_ws G u) := by
  refine ⟨fun i j p q hp hq h => ?_, fun k q hq => ?_⟩
  · obtain ⟨-, rfl⟩ := xv_ws_inv hp
    obtain ⟨-, rfl⟩ := xv_ws_inv hq
    have h : xv_B G + i = xv_B G + j := h
    omega
  · obtain ⟨-, rfl⟩ := xv_ws_inv hq
    exact Nat.le_add_right _ _
theorem xv_E_obj {G : xv_G} {u : xv_M} {a ci : Nat} (hk : xv_k u a = ci + 1) (hc : ci < 99) : xv_E G u a = .inr (ci, xv_fs G u a ci) := by
  unfold xv_E
  rw [if_pos (by omega), hk]
  rfl
theorem xv_E_arr {G : xv_G} {u : xv_M} {a t : Nat} (hk : xv_k u a = 100 + t) : xv_E G u a = .inl (xv_cA G t, xv_ar G u a (100 + t)) := by
  unfold xv_E
  rw [if_neg (by omega), hk, Nat.add_sub_cancel_left]
theorem xv_E_int {G : xv_G} {u : xv_M} {a t : Nat} (hk : xv_k u a = 100 + t) (ht : t < 2) : xv_E G u a = .inl (xv_cA G t, xv_l u a, .inl (xv_i u a)) := by
  rw [xv_E_arr hk]
  unfold xv_ar
  rw [if_pos (by omega)]
theorem xv_E_long {G : xv_G} {u : xv_M} {a : Nat} (hk : xv_k u a = 102) : xv_E G u a = .inl (xv_cA G 2, xv_l u a, .inr (.inl (xv_g u a))) := by
  rw [xv_E_arr (t := 2) hk]
  rfl
theorem xv_E_ref {G : xv_G} {u : xv_M} {a t : Nat} (hk : xv_k u a = 103 + t) : xv_E G u a = .inl (xv_cA G (3 + t), xv_l u a, .inr (.inr (.inr (.inr (fun j => xv_rq G (xv_r u a j)))))) := by
  rw [xv_E_arr (t := 3 + t) (by omega)]
  unfold xv_ar
  rw [if_neg (by omega), if_neg (by omega)]
theorem xv_fs_get {G : xv_G} {u : xv_M} {a ci j : Nat} (h : j < xv_nf ci) : (xv_fs G u a ci)[j]? = some (xv_fv G u a ci j) := by
  unfold xv_fs
  rw [List.getElem?_map, List.getElem?_range h]
  rfl
theorem xv_fs_len (G : xv_G) (u : xv_M) (a ci : Nat) : (xv_fs G u a ci).length = xv_nf ci := by simp [xv_fs]
theorem xv_fs_set {G : xv_G} {u w : xv_M} {a ci j : Nat} {v : Value} (hv : xv_fv G w a ci j = v) (ho : ∀ q, q ≠ j → xv_fv G w a ci q = xv_fv G u a ci q) : (xv_fs G u a ci).set j v = xv_fs G w a ci := by
  apply List.ext_getElem?
  intro k
  rw [List.getElem?_set]
  by_cases hk : k < xv_nf ci
  · rw [xv_fs_get hk, xv_fs_get hk]
    by_cases ha : j = k
    · subst ha
      rw [if_pos rfl, if_pos (by rw [xv_fs_len]; exact hk), hv]
    · rw [if_neg ha, ho k (fun q => ha q.symm)]
  · have h1 : (xv_fs G u a ci)[k]? = none := by
      apply List.getElem?_eq_none
      rw [xv_fs_len]; omega
    have h2 : (xv_fs G w a ci)[k]? = none := by
      apply List.getElem?_eq_none
      rw [xv_fs_len]; omega
    have h3 : ¬ k < (xv_fs G u a ci).length := by rw [xv_fs_len]; exact hk
    rw [h1, h2]
    by_cases ha : j = k
    · subst ha; rw [if_pos rfl, if_neg h3]
    · rw [if_neg ha]
/-! what a cell is after a change elsewhere -/
theorem xv_E_congr {G : xv_G} {u w : xv_M} {b : Nat} (hk : xv_k w b = xv_k u b) (hl : xv_l w b = xv_l u b) (hi : xv_i w b = xv_i u b) (hr : xv_r w b = xv_r u b) (hg : xv_g w b = xv_g u b) : xv_E G w b = xv_E G u b := by
  have hfs : ∀ ci, xv_fs G w b ci = xv_fs G u b ci := by
    intro ci
    unfold xv_fs xv_fv
    rw [hi, hr]
  have har : ∀ k, xv_ar G w b k = xv_ar G u b k := by
    intro k
    unfold xv_ar
    rw [hi, hr, hg, hl]
  unfold xv_E
  rw [hk, hfs, har]
theorem xv_si_E {G : xv_G} {u : xv_M} {a j b : Nat} {v : Int32} (h : b ≠ a) : xv_E G (xv_si u a j v) b = xv_E G u b :=
  xv_E_congr rfl rfl (funext fun q => if_neg (fun z => h z.1)) rfl rfl
theorem xv_sr_E {G : xv_G} {u : xv_M} {a j b : Nat} {v : Option Nat} (h : b ≠ a) : xv_E G (xv_sr u a j v) b = xv_E G u b :=
  xv_E_congr rfl rfl rfl (funext fun q => if_neg (fun z => h z.1)) rfl
theorem xv_sg_E {G : xv_G} {u : xv_M} {a j b : Nat} {v : Int64} (h : b ≠ a) : xv_E G (xv_sg u a j v) b = xv_E G u b :=
  xv_E_congr rfl rfl rfl rfl (funext fun q => if_neg (fun z => h z.1))
theorem xv_sw_E {G : xv_G} {u : xv_M} {a b : Nat} {f : Nat → Int32} (h : b ≠ a) : xv_E G (xv_sw u a f) b = xv_E G u b :=
  xv_E_congr rfl rfl (funext fun q => if_neg h) rfl rfl
theorem xv_nw_E {G : xv_G} {u : xv_M} {k n sl b : Nat} (h : b < xv_N u) : xv_E G (xv_nw u k n sl) b = xv_E G u b := by
  have hb : b ≠ xv_N u := by omega
  exact xv_E_congr (if_neg hb) (if_neg hb) (funext fun q => if_neg hb) (funext fun q => if_neg hb) (funext fun q => if_neg hb)
theorem xv_wf_si {u : xv_M} {a j : Nat} {v : Int32} (h : xv_wf u) : xv_wf (xv_si u a j v) := h
theorem xv_wf_sr {u : xv_M} {a j : Nat} {v : Option Nat} (h : xv_wf u) : xv_wf (xv_sr u a j v) := h
theorem xv_wf_sg {u : xv_M} {a j : Nat} {v : Int64} (h : xv_wf u) : xv_wf (xv_sg u a j v) := h
theorem xv_wf_sw {u : xv_M} {a : Nat} {f : Nat → Int32} (h : xv_wf u) : xv_wf (xv_sw u a f) := h
theorem xv_wf_nw {u : xv_M} {k n sl : Nat} (h : xv_wf u) : xv_wf (xv_nw u k n sl) := by
  intro b hb
  show b < xv_N u + 1
  by_cases hq : b = xv_N u
  · omega
  · have hb' : xv_k u b ≠ 0 := by
      have : xv_k (xv_nw u k n sl) b = xv_k u b := if_neg hq
      rw [this] at hb; exact hb
    have := h b hb'
    omega
end
section
/-! constant facts -/
def xv_isN (w : Cond) : Bool := match w with
  | .methodLinkNest .. => true
  | .fieldLinkNest .. => true
  | _ => false
theorem xv_Nwarm {w : Cond} {u U : State} (h : xv_isN w = true) (hW : u.WarmedH U.vm) (hz : va_Nw w u) : va_Nw w U := by
  cases w <;> first | exact va_Nw.warmM hW hz | exact va_Nw.warmF hW hz | (exfalso; revert h; simp [xv_isN])
def xv_tys (G : xv_G) : List (ClassId × FieldType) := [(xv_cA G 0, .int), (xv_cA G 1, .boolean), (xv_cA G 2, .long), (xv_cA G 3, .object "FaslDesk$Form"), (xv_cA G 4, .object "FaslDesk$Frame"), (xv_cA G 5, .object "FaslDesk$OpenForms"), (xv_cA G 6, .object "FaslDesk$Entry"), (xv_cA G 7, .object "FaslDesk$Code")]
theorem xv_tys_at {G : xv_G} {t : Nat} {C : String} (h : xv_ra[t]? = some C) : (xv_tys G)[3 + t]? = some (xv_cA G (3 + t), .object C) := by
  have ht : t < 5 := (List.getElem?_eq_some_iff.mp h).1
  rcases (by omega : t = 0 ∨ t = 1 ∨ t = 2 ∨ t = 3 ∨ t = 4) with rfl | rfl | rfl | rfl | rfl <;> (cases h; rfl)
theorem xv_nest_ok : ∀ w ∈ xv_nest, xv_isN w = true := by decide +kernel
def xv_K (G : xv_G) (U : State) (H : Heap) : Prop :=
  va_K (xv_dG G) xv_cl (xv_tys G) U ∧ (∀ w ∈ xv_nest, va_Nw w U) ∧
  (∀ k, k < xv_ns → va_Z (xv_sC k) (xv_sn k) "[I" (.ref (xv_ex G k)) (xv_A G) U H ∧ va_T .int (xv_ex G k) (xv_sN k) (fun j => .int (xv_sf k j)) (xv_A G) U H) ∧
  (va_X (xv_ex G 9) G.2.2.2.2.1 G.2.2.2.2.2 U H ∧ xv_ex G 9 < H.size ∧ ¬ xv_A G (xv_ex G 9)) ∧ (∀ C ∈ xv_ra, va_AO C U) ∧ xv_B G ≤ H.size
theorem xv_K_moved {G : xv_G} {u U : State} {H H1 : Heap} (hW : u.WarmedH U.vm) (h : xv_K G u H) (hz : H.size ≤ H1.size) (hq : ∀ q : Nat, q < H.size → ¬ xv_A G q → H1[q]? = H[q]?) : xv_K G U H1 := by
  obtain ⟨h1, h2, h3, ⟨h4, h5, h6⟩, h8, h7⟩ := h
  refine ⟨va_K.moved hW.alike h1, fun w hw => xv_Nwarm (xv_nest_ok w hw) hW (h2 w hw), fun k hk => ⟨(va_Z.moved hW.alike (h3 k hk).1).kept hq, (va_T.moved hW.alike (h3 k hk).2).kept hq⟩, ⟨(va_X.moved hW.alike h4).kept (hq _ h5 h6), Nat.lt_of_lt_of_le h5 hz, h6⟩, fun C hC => va_AO.moved hW.alike (h8 C hC), Nat.le_trans h7 hz⟩
end
section
/-! THE JUDGEMENT: xv_X sc d J pc lv st u n s P: the method J at pc, with locals lv, operand stack st and memory u, in d frames, comes to its end: with an outcome and a memory of n cells and s slots for which P holds -/
/-- a launch without stack traces -/
def xv_L (l : Launch) : Prop := ∀ e : Env, l.admits e → e.platform.stackTraces = false
abbrev xv_J : Type := MethodName × ByteArray × Nat × Option FieldType
abbrev xv_O : Type := Option Value ⊕ (Nat × Nat)
abbrev xv_P : Type := xv_O → xv_M → Prop
def xv_rm (d mc ms : Nat) : Room := { frames := d, cells := mc, slots := ms, locals := 60 * d }
def xv_w (J : xv_J) : List Cond := .code J.1 J.2.1 J.2.2.1 J.2.2.2 :: xv_BIG
def xv_lo (G : xv_G) (ls : Array Slot) (n : Nat) (lv : List (Option Value)) : Prop := ls.size = n ∧ lv_wf ls ∧ ∀ (i : Nat) (v : Value), lv[i]? = some (some v) → ls[i]? = some (.val (xv_cv G v))
def xv_rt (ret : Option FieldType) (v : Option Value) (i : Instr) : Prop :=
  (ret = some .int ∧ i = .ireturn ∧ ∃ x : Int32, v = some (.int x)) ∨ (ret = some .boolean ∧ i = .ireturn ∧ ∃ x : Int32, v = some (.int x) ∧ x &&& 1 = x) ∨ (ret = none ∧ i = .return_ ∧ v = none) ∨ (((∃ n, ret = some (.object n)) ∨ ∃ t, ret = some (.array t)) ∧ i = .areturn ∧ ∃ a : Nat, v = some (.ref a))
def xv_fin (p : Program) (l : Launch) (e : Env) (R : Room) (s : State) (m : MethodId) (args : Array Value) (below : List Frame) (meth : Method) (c : Code) (J : xv_J) (G : xv_G) (N0 S0 n1 s1 : Nat) (P : xv_P) (Q : State → Prop) : Prop :=
  (∀ (v : Option Value) (w : xv_M) (pc : Nat) (ls : Array Slot) (i : Instr) (H : Heap) (locs : List Loc), P (.inl v) w → xv_N w ≤ n1 → xv_S w ≤ s1 → xv_rt J.2.2.2 v i → decode J.2.1 pc = .ok (i, 1) → va_P (xv_dG G) xv_cl (xv_ws G w) H → xv_wf w → va_S (xv_A G) s.heap H locs → W p l e R s m args below meth c H locs (xv_N w - N0) (xv_S w - S0) Q (F0 m pc ls ((v.map (xv_cv G)).toList))) ∧
  (∀ (k a : Nat) (w : xv_M) (T : State) (locs : List Loc), P (.inr (k, a)) w → xv_N w ≤ n1 → xv_S w ≤ s1 → xv_k w a = k + 1 → va_P (xv_dG G) xv_cl (xv_ws G w) T.heap → xv_wf w → va_S (xv_A G) s.heap T.heap locs → Stand p l e R s m args below meth c T locs (xv_N w - N0) (xv_S w - S0) → Q (T.setFrames (.throwing (xv_B G + a) :: below)))
def xv_at (sc : Nat × (Nat → Int32)) (d : Nat) (J : xv_J) (n1 s1 : Nat) (P : xv_P) (p : Program) (l : Launch) (e : Env) (R : Room) (s : State) (m : MethodId) (args : Array Value) (below : List Frame) (meth : Method) (c : Code) (G : xv_G) (N0 S0 : Nat) (Q : State → Prop) : Prop :=
  p.tables.exec = Jvm.exec ∧ c.code = J.2.1 ∧ meth.sig.returnType = J.2.2.2 ∧ c.maxLocals = J.2.2.1 ∧ s.vm.findClass J.1.cls = some m.cls ∧ (∀ w ∈ xv_BIG, w.before args s = true) ∧ meth.locks = false ∧ meth.name = J.1.name ∧ xv_K G s s.heap ∧ (d ≤ R.frames ∧ 60 * d ≤ R.locals ∧ n1 - N0 ≤ R.cells ∧ s1 - S0 ≤ R.slots) ∧ s.heap.size = xv_B G + N0 ∧ (G.2.2.2.2 = sc ∧ xv_L l ∧ c.exceptionTable.isEmpty = true) ∧ xv_fin p l e R s m args below meth c J G N0 S0 n1 s1 P Q
def xv_X (sc : Nat × (Nat → Int32)) (d : Nat) (J : xv_J) (pc : Nat) (lv : List (Option Value)) (st : List Value) (u : xv_M) (n1 s1 : Nat) (P : xv_P) : Prop :=
  ∀ (p : Program) (l : Launch) (e : Env) (R : Room) (s : State) (m : MethodId) (args : Array Value) (below : List Frame) (meth : Method) (c : Code) (G : xv_G) (N0 S0 : Nat) (Q : State → Prop) (H : Heap) (locs : List Loc) (ls : Array Slot),
    xv_at sc d J n1 s1 P p l e R s m args below meth c G N0 S0 Q → xv_lo G ls J.2.2.1 lv → va_P (xv_dG G) xv_cl (xv_ws G u) H → xv_wf u → va_S (xv_A G) s.heap H locs → N0 ≤ xv_N u → S0 ≤ xv_S u →
    W p l e R s m args below meth c H locs (xv_N u - N0) (xv_S u - S0) Q (F0 m pc ls (st.map (xv_cv G)))
def xv_q (n1 s1 : Nat) (P : xv_P) : xv_P := fun o w => P o w ∧ xv_N w = n1 ∧ xv_S w = s1
/-! locals -/
theorem xv_cat (G : xv_G) (v : Value) : (xv_cv G v).category = v.category := by cases v <;> rfl
def xv_c2 (lv : List (Option Value)) (i : Nat) : Bool := match i with
  | 0 => true
  | z + 1 => match lv.getD z none with
    | some v => !(v.category == 2)
    | none => true
def xv_al (G : xv_G) (lv : List (Option Value)) : List (Nat × Value) := (List.range lv.length).filterMap (fun i => match lv[i]? with
  | some (some v) => some (i, xv_cv G v)
  | _ => none)
theorem xv_al_mem {G : xv_G} {lv : List (Option Value)} {q : Nat × Value} : q ∈ xv_al G lv ↔ ∃ v, lv[q.1]? = some (some v) ∧ q.2 = xv_cv G v := by
  unfold xv_al
  rw [List.mem_filterMap]
  constructor
  · rintro ⟨i, hi, h⟩
    cases hl : lv[i]? with
    | none => rw [hl] at h; cases h
    | some z =>
      cases z with
      | none => rw [hl] at h; cases h
      | some v =>
        rw [hl] at h
        cases h
        exact ⟨v, hl, rfl⟩
  · rintro ⟨v, h1, h2⟩
    refine ⟨q.1, List.mem_range.mpr (List.getElem?_eq_some_iff.mp h1).1, ?_⟩
    rw [h1]
    obtain ⟨a, b⟩ := q
    cases h2
    rfl
theorem xv_al_at {G : xv_G} {lv : List (Option Value)} {i : Nat} {v : Value} (h : lv[i]? = some (some v)) : ∃ k : Nat, (xv_al G lv)[k]? = some (i, xv_cv G v) :=
  List.getElem?_of_mem (xv_al_mem.mpr ⟨v, h, rfl⟩)
theorem xv_lo_has {G : xv_G} {ls : Array Slot} {n : Nat} {lv : List (Option Value)} (h : xv_lo G ls n lv) : lv_has ls n (xv_al G lv) := by
  refine ⟨h.1, h.2.1, fun q hq => ?_⟩
  obtain ⟨v, h1, h2⟩ := xv_al_mem.mp hq
  rw [h2]
  exact h.2.2 _ _ h1
theorem xv_lo_put {G : xv_G} {ls ls' : Array Slot} {n i : Nat} {lv : List (Option Value)} {v : Value} (_ : xv_lo G ls n lv) (_ : i < n) (h2 : xv_c2 lv i = true) (h' : lv_has ls' n ((i, xv_cv G v) :: (xv_al G lv).filter (fun q => !(q.1 == i) && !(q.1 + 1 == i && q.2.category == 2)))) : xv_lo G ls' n (lv.set i (some v)) := by
  refine ⟨h'.1, h'.2.1, fun j z hz => ?_⟩
  rw [List.getElem?_set] at hz
  by_cases hj : i = j
  · subst hj
    rw [if_pos rfl] at hz
    split at hz
    · cases hz
      exact h'.2.2 (i, xv_cv G v) List.mem_cons_self
    · cases hz
  · rw [if_neg hj] at hz
    refine h'.2.2 (j, xv_cv G z) (List.mem_cons_of_mem _ (List.mem_filter.mpr ⟨xv_al_mem.mpr ⟨z, hz, rfl⟩, ?_⟩))
    have e1 : (j == i) = false := by simpa using (fun q => hj q.symm)
    show (!(j == i) && !(j + 1 == i && (xv_cv G z).category == 2)) = true
    rw [e1, xv_cat]
    cases hi : i with
    | zero => simp
    | succ y =>
      by_cases hy : j = y
      · subst hy
        rw [hi] at h2
        have h3 : lv.getD j none = some z := by
          rw [List.getD_eq_getElem?_getD, hz]
          rfl
        simp only [xv_c2, h3] at h2
        simpa using h2
      · have : ¬ (j + 1 = y + 1) := by omega
        simp [this]
        omega
end
section
/-! RULES: a rule an instruction -/
theorem xv_iconst {sc : Nat × (Nat → Int32)} {d : Nat} {J : xv_J} {pc : Nat} {lv : List (Option Value)} {st : List Value} {u : xv_M} {n1 s1 : Nat} {P : xv_P} {n : Int} (v : Int32) (hdg : decode J.2.1 pc = .ok (.iconst n, 1)) (hv : Int32.ofInt n = v) (k : xv_X sc d J (pc + 1) lv (.int v :: st) u n1 s1 P) : xv_X sc d J pc lv st u n1 s1 P := fun p l e R s m args below meth c G N0 S0 Q H locs ls A0 lo hP wf hS hN hZ => lv_iconst A0.1 A0.2.1 hdg hv (k p l e R s m args below meth c G N0 S0 Q H locs ls A0 lo hP wf hS hN hZ)
theorem xv_bipush {sc : Nat × (Nat → Int32)} {d : Nat} {J : xv_J} {pc : Nat} {lv : List (Option Value)} {st : List Value} {u : xv_M} {n1 s1 : Nat} {P : xv_P} {n : Int} (v : Int32) (hdg : decode J.2.1 pc = .ok (.bipush n, 2)) (hv : (Int8.ofInt n).toInt32 = v) (k : xv_X sc d J (pc + 2) lv (.int v :: st) u n1 s1 P) : xv_X sc d J pc lv st u n1 s1 P := fun p l e R s m args below meth c G N0 S0 Q H locs ls A0 lo hP wf hS hN hZ => lv_bipush A0.1 A0.2.1 hdg hv (k p l e R s m args below meth c G N0 S0 Q H locs ls A0 lo hP wf hS hN hZ)
theorem xv_sipush {sc : Nat × (Nat → Int32)} {d : Nat} {J : xv_J} {pc : Nat} {lv : List (Option Value)} {st : List Value} {u : xv_M} {n1 s1 : Nat} {P : xv_P} {n : Int} (v : Int32) (hdg : decode J.2.1 pc = .ok (.sipush n, 3)) (hv : (Int16.ofInt n).toInt32 = v) (k : xv_X sc d J (pc + 3) lv (.int v :: st) u n1 s1 P) : xv_X sc d J pc lv st u n1 s1 P := fun p l e R s m args below meth c G N0 S0 Q H locs ls A0 lo hP wf hS hN hZ => lv_sipush A0.1 A0.2.1 hdg hv (k p l e R s m args below meth c G N0 S0 Q H locs ls A0 lo hP wf hS hN hZ)
theorem xv_ldc {sc : Nat × (Nat → Int32)} {d : Nat} {J : xv_J} {pc : Nat} {lv : List (Option Value)} {st : List Value} {u : xv_M} {n1 s1 : Nat} {P : xv_P} {index : Nat} (v : Int32) (hdg : decode J.2.1 pc = .ok (.ldc index, 2)) (hw : Jvm.Cond.constant J.1.cls index v ∈ xv_BIG) (k : xv_X sc d J (pc + 2) lv (.int v :: st) u n1 s1 P) : xv_X sc d J pc lv st u n1 s1 P := fun p l e R s m args below meth c G N0 S0 Q H locs ls A0 lo hP wf hS hN hZ => lv_ldc A0.1 A0.2.1 A0.2.2.2.2.1 (A0.2.2.2.2.2.1 _ hw) hdg (k p l e R s m args below meth c G N0 S0 Q H locs ls A0 lo hP wf hS hN hZ)
theorem xv_iload_n {sc : Nat × (Nat → Int32)} {d : Nat} {J : xv_J} {pc : Nat} {lv : List (Option Value)} {st : List Value} {u : xv_M} {n1 s1 : Nat} {P : xv_P} {kk : Fin 4} {i : Nat} {x : Int32} (hdg : decode J.2.1 pc = .ok (.iload_n kk, 1)) (hi : (kk : Nat) = i) (hl : lv[i]? = some (some (.int x))) (k : xv_X sc d J (pc + 1) lv (.int x :: st) u n1 s1 P) : xv_X sc d J pc lv st u n1 s1 P := fun p l e R s m args below meth c G N0 S0 Q H locs ls A0 lo hP wf hS hN hZ => lv_iload_n A0.1 A0.2.1 hdg hi (lo.2.2 i _ hl) (k p l e R s m args below meth c G N0 S0 Q H locs ls A0 lo hP wf hS hN hZ)
theorem xv_iload {sc : Nat × (Nat → Int32)} {d : Nat} {J : xv_J} {pc : Nat} {lv : List (Option Value)} {st : List Value} {u : xv_M} {n1 s1 : Nat} {P : xv_P} {i : Nat} {x : Int32} (hdg : decode J.2.1 pc = .ok (.iload i, 2)) (hl : lv[i]? = some (some (.int x))) (k : xv_X sc d J (pc + 2) lv (.int x :: st) u n1 s1 P) : xv_X sc d J pc lv st u n1 s1 P := fun p l e R s m args below meth c G N0 S0 Q H locs ls A0 lo hP wf hS hN hZ => lv_iload A0.1 A0.2.1 hdg (lo.2.2 i _ hl) (k p l e R s m args below meth c G N0 S0 Q H locs ls A0 lo hP wf hS hN hZ)
theorem xv_aload_n {sc : Nat × (Nat → Int32)} {d : Nat} {J : xv_J} {pc : Nat} {lv : List (Option Value)} {st : List Value} {u : xv_M} {n1 s1 : Nat} {P : xv_P} {kk : Fin 4} {i : Nat} {x : Nat} (hdg : decode J.2.1 pc = .ok (.aload_n kk, 1)) (hi : (kk : Nat) = i) (hl : lv[i]? = some (some (.ref x))) (k : xv_X sc d J (pc + 1) lv (.ref x :: st) u n1 s1 P) : xv_X sc d J pc lv st u n1 s1 P := fun p l e R s m args below meth c G N0 S0 Q H locs ls A0 lo hP wf hS hN hZ => lv_aload_n A0.1 A0.2.1 hdg hi (lo.2.2 i _ hl) (k p l e R s m args below meth c G N0 S0 Q H locs ls A0 lo hP wf hS hN hZ)
theorem xv_aload {sc : Nat × (Nat → Int32)} {d : Nat} {J : xv_J} {pc : Nat} {lv : List (Option Value)} {st : List Value} {u : xv_M} {n1 s1 : Nat} {P : xv_P} {i : Nat} {x : Nat} (hdg : decode J.2.1 pc = .ok (.aload i, 2)) (hl : lv[i]? = some (some (.ref x))) (k : xv_X sc d J (pc + 2) lv (.ref x :: st) u n1 s1 P) : xv_X sc d J pc lv st u n1 s1 P := fun p l e R s m args below meth c G N0 S0 Q H locs ls A0 lo hP wf hS hN hZ => lv_aload A0.1 A0.2.1 hdg (lo.2.2 i _ hl) (k p l e R s m args below meth c G N0 S0 Q H locs ls A0 lo hP wf hS hN hZ)
theorem xv_lload_n {sc : Nat × (Nat → Int32)} {d : Nat} {J : xv_J} {pc : Nat} {lv : List (Option Value)} {st : List Value} {u : xv_M} {n1 s1 : Nat} {P : xv_P} {kk : Fin 4} {i : Nat} {x : Int64} (hdg : decode J.2.1 pc = .ok (.lload_n kk, 1)) (hi : (kk : Nat) = i) (hl : lv[i]? = some (some (.long x))) (k : xv_X sc d J (pc + 1) lv (.long x :: st) u n1 s1 P) : xv_X sc d J pc lv st u n1 s1 P := fun p l e R s m args below meth c G N0 S0 Q H locs ls A0 lo hP wf hS hN hZ => lv_lload_n A0.1 A0.2.1 hdg hi (lo.2.2 i _ hl) (k p l e R s m args below meth c G N0 S0 Q H locs ls A0 lo hP wf hS hN hZ)
theorem xv_lload {sc : Nat × (Nat → Int32)} {d : Nat} {J : xv_J} {pc : Nat} {lv : List (Option Value)} {st : List Value} {u : xv_M} {n1 s1 : Nat} {P : xv_P} {i : Nat} {x : Int64} (hdg : decode J.2.1 pc = .ok (.lload i, 2)) (hl : lv[i]? = some (some (.long x))) (k : xv_X sc d J (pc + 2) lv (.long x :: st) u n1 s1 P) : xv_X sc d J pc lv st u n1 s1 P := fun p l e R s m args below meth c G N0 S0 Q H locs ls A0 lo hP wf hS hN hZ => lv_lload A0.1 A0.2.1 hdg (lo.2.2 i _ hl) (k p l e R s m args below meth c G N0 S0 Q H locs ls A0 lo hP wf hS hN hZ)
theorem xv_aloadE_n {sc : Nat × (Nat → Int32)} {d : Nat} {J : xv_J} {pc : Nat} {lv : List (Option Value)} {st : List Value} {u : xv_M} {n1 s1 : Nat} {P : xv_P} {kk : Fin 4} {i x : Nat} (hdg : decode J.2.1 pc = .ok (.aload_n kk, 1)) (hi : (kk : Nat) = i) (hl : lv[i]? = some (some (.retAddr x))) (k : xv_X sc d J (pc + 1) lv (.retAddr x :: st) u n1 s1 P) : xv_X sc d J pc lv st u n1 s1 P := fun p l e R s m args below meth c G N0 S0 Q H locs ls A0 lo hP wf hS hN hZ => lv_aload_n A0.1 A0.2.1 hdg hi (lo.2.2 i _ hl) (k p l e R s m args below meth c G N0 S0 Q H locs ls A0 lo hP wf hS hN hZ)
theorem xv_lconst {sc : Nat × (Nat → Int32)} {d : Nat} {J : xv_J} {pc : Nat} {lv : List (Option Value)} {st : List Value} {u : xv_M} {n1 s1 : Nat} {P : xv_P} {n : Fin 2} (v : Int64) (hdg : decode J.2.1 pc = .ok (.lconst n, 1)) (hv : Int64.ofNat (n : Nat) = v) (k : xv_X sc d J (pc + 1) lv (.long v :: st) u n1 s1 P) : xv_X sc d J pc lv st u n1 s1 P := fun p l e R s m args below meth c G N0 S0 Q H locs ls A0 lo hP wf hS hN hZ => lv_lconst A0.1 A0.2.1 hdg hv (k p l e R s m args below meth c G N0 S0 Q H locs ls A0 lo hP wf hS hN hZ)
theorem xv_iadd {sc : Nat × (Nat → Int32)} {d : Nat} {J : xv_J} {pc : Nat} {lv : List (Option Value)} {st : List Value} {u : xv_M} {n1 s1 : Nat} {P : xv_P} {x y : Int32} (hdg : decode J.2.1 pc = .ok (.iadd, 1))  (k : xv_X sc d J (pc + 1) lv (.int (x + y) :: st) u n1 s1 P) : xv_X sc d J pc lv (.int y :: .int x :: st) u n1 s1 P := fun p l e R s m args below meth c G N0 S0 Q H locs ls A0 lo hP wf hS hN hZ => lv_iadd A0.1 A0.2.1 hdg (k p l e R s m args below meth c G N0 S0 Q H locs ls A0 lo hP wf hS hN hZ)
theorem xv_isub {sc : Nat × (Nat → Int32)} {d : Nat} {J : xv_J} {pc : Nat} {lv : List (Option Value)} {st : List Value} {u : xv_M} {n1 s1 : Nat} {P : xv_P} {x y : Int32} (hdg : decode J.2.1 pc = .ok (.isub, 1))  (k : xv_X sc d J (pc + 1) lv (.int (x - y) :: st) u n1 s1 P) : xv_X sc d J pc lv (.int y :: .int x :: st) u n1 s1 P := fun p l e R s m args below meth c G N0 S0 Q H locs ls A0 lo hP wf hS hN hZ => lv_isub A0.1 A0.2.1 hdg (k p l e R s m args below meth c G N0 S0 Q H locs ls A0 lo hP wf hS hN hZ)
theorem xv_imul {sc : Nat × (Nat → Int32)} {d : Nat} {J : xv_J} {pc : Nat} {lv : List (Option Value)} {st : List Value} {u : xv_M} {n1 s1 : Nat} {P : xv_P} {x y : Int32} (hdg : decode J.2.1 pc = .ok (.imul, 1))  (k : xv_X sc d J (pc + 1) lv (.int (x * y) :: st) u n1 s1 P) : xv_X sc d J pc lv (.int y :: .int x :: st) u n1 s1 P := fun p l e R s m args below meth c G N0 S0 Q H locs ls A0 lo hP wf hS hN hZ => lv_imul A0.1 A0.2.1 hdg (k p l e R s m args below meth c G N0 S0 Q H locs ls A0 lo hP wf hS hN hZ)
theorem xv_iand {sc : Nat × (Nat → Int32)} {d : Nat} {J : xv_J} {pc : Nat} {lv : List (Option Value)} {st : List Value} {u : xv_M} {n1 s1 : Nat} {P : xv_P} {x y : Int32} (hdg : decode J.2.1 pc = .ok (.iand, 1))  (k : xv_X sc d J (pc + 1) lv (.int (x &&& y) :: st) u n1 s1 P) : xv_X sc d J pc lv (.int y :: .int x :: st) u n1 s1 P := fun p l e R s m args below meth c G N0 S0 Q H locs ls A0 lo hP wf hS hN hZ => lv_iand A0.1 A0.2.1 hdg (k p l e R s m args below meth c G N0 S0 Q H locs ls A0 lo hP wf hS hN hZ)
theorem xv_ior {sc : Nat × (Nat → Int32)} {d : Nat} {J : xv_J} {pc : Nat} {lv : List (Option Value)} {st : List Value} {u : xv_M} {n1 s1 : Nat} {P : xv_P} {x y : Int32} (hdg : decode J.2.1 pc = .ok (.ior, 1))  (k : xv_X sc d J (pc + 1) lv (.int (x ||| y) :: st) u n1 s1 P) : xv_X sc d J pc lv (.int y :: .int x :: st) u n1 s1 P := fun p l e R s m args below meth c G N0 S0 Q H locs ls A0 lo hP wf hS hN hZ => lv_ior A0.1 A0.2.1 hdg (k p l e R s m args below meth c G N0 S0 Q H locs ls A0 lo hP wf hS hN hZ)
theorem xv_ixor {sc : Nat × (Nat → Int32)} {d : Nat} {J : xv_J} {pc : Nat} {lv : List (Option Value)} {st : List Value} {u : xv_M} {n1 s1 : Nat} {P : xv_P} {x y : Int32} (hdg : decode J.2.1 pc = .ok (.ixor, 1))  (k : xv_X sc d J (pc + 1) lv (.int (x ^^^ y) :: st) u n1 s1 P) : xv_X sc d J pc lv (.int y :: .int x :: st) u n1 s1 P := fun p l e R s m args below meth c G N0 S0 Q H locs ls A0 lo hP wf hS hN hZ => lv_ixor A0.1 A0.2.1 hdg (k p l e R s m args below meth c G N0 S0 Q H locs ls A0 lo hP wf hS hN hZ)
theorem xv_ishl {sc : Nat × (Nat → Int32)} {d : Nat} {J : xv_J} {pc : Nat} {lv : List (Option Value)} {st : List Value} {u : xv_M} {n1 s1 : Nat} {P : xv_P} {x y : Int32} (hdg : decode J.2.1 pc = .ok (.ishl, 1))  (k : xv_X sc d J (pc + 1) lv (.int (x <<< (y &&& 31)) :: st) u n1 s1 P) : xv_X sc d J pc lv (.int y :: .int x :: st) u n1 s1 P := fun p l e R s m args below meth c G N0 S0 Q H locs ls A0 lo hP wf hS hN hZ => lv_ishl A0.1 A0.2.1 hdg (k p l e R s m args below meth c G N0 S0 Q H locs ls A0 lo hP wf hS hN hZ)
theorem xv_ishr {sc : Nat × (Nat → Int32)} {d : Nat} {J : xv_J} {pc : Nat} {lv : List (Option Value)} {st : List Value} {u : xv_M} {n1 s1 : Nat} {P : xv_P} {x y : Int32} (hdg : decode J.2.1 pc = .ok (.ishr, 1))  (k : xv_X sc d J (pc + 1) lv (.int (x >>> (y &&& 31)) :: st) u n1 s1 P) : xv_X sc d J pc lv (.int y :: .int x :: st) u n1 s1 P := fun p l e R s m args below meth c G N0 S0 Q H locs ls A0 lo hP wf hS hN hZ => lv_ishr A0.1 A0.2.1 hdg (k p l e R s m args below meth c G N0 S0 Q H locs ls A0 lo hP wf hS hN hZ)
theorem xv_idiv {sc : Nat × (Nat → Int32)} {d : Nat} {J : xv_J} {pc : Nat} {lv : List (Option Value)} {st : List Value} {u : xv_M} {n1 s1 : Nat} {P : xv_P} {x y : Int32} (hdg : decode J.2.1 pc = .ok (.idiv, 1)) (hne : ¬ y = 0) (k : xv_X sc d J (pc + 1) lv (.int (x / y) :: st) u n1 s1 P) : xv_X sc d J pc lv (.int y :: .int x :: st) u n1 s1 P := fun p l e R s m args below meth c G N0 S0 Q H locs ls A0 lo hP wf hS hN hZ => lv_idiv A0.1 A0.2.1 hdg hne (k p l e R s m args below meth c G N0 S0 Q H locs ls A0 lo hP wf hS hN hZ)
theorem xv_irem {sc : Nat × (Nat → Int32)} {d : Nat} {J : xv_J} {pc : Nat} {lv : List (Option Value)} {st : List Value} {u : xv_M} {n1 s1 : Nat} {P : xv_P} {x y : Int32} (hdg : decode J.2.1 pc = .ok (.irem, 1)) (hne : ¬ y = 0) (k : xv_X sc d J (pc + 1) lv (.int (x - x / y * y) :: st) u n1 s1 P) : xv_X sc d J pc lv (.int y :: .int x :: st) u n1 s1 P := fun p l e R s m args below meth c G N0 S0 Q H locs ls A0 lo hP wf hS hN hZ => lv_irem A0.1 A0.2.1 hdg hne (k p l e R s m args below meth c G N0 S0 Q H locs ls A0 lo hP wf hS hN hZ)
theorem xv_ineg {sc : Nat × (Nat → Int32)} {d : Nat} {J : xv_J} {pc : Nat} {lv : List (Option Value)} {st : List Value} {u : xv_M} {n1 s1 : Nat} {P : xv_P} {x : Int32} (hdg : decode J.2.1 pc = .ok (.ineg, 1))  (k : xv_X sc d J (pc + 1) lv (.int (-x) :: st) u n1 s1 P) : xv_X sc d J pc lv (.int x :: st) u n1 s1 P := fun p l e R s m args below meth c G N0 S0 Q H locs ls A0 lo hP wf hS hN hZ => lv_ineg A0.1 A0.2.1 hdg (k p l e R s m args below meth c G N0 S0 Q H locs ls A0 lo hP wf hS hN hZ)
theorem xv_i2l {sc : Nat × (Nat → Int32)} {d : Nat} {J : xv_J} {pc : Nat} {lv : List (Option Value)} {st : List Value} {u : xv_M} {n1 s1 : Nat} {P : xv_P} {x : Int32} (hdg : decode J.2.1 pc = .ok (.i2l, 1))  (k : xv_X sc d J (pc + 1) lv (.long x.toInt64 :: st) u n1 s1 P) : xv_X sc d J pc lv (.int x :: st) u n1 s1 P := fun p l e R s m args below meth c G N0 S0 Q H locs ls A0 lo hP wf hS hN hZ => lv_i2l A0.1 A0.2.1 hdg rfl (k p l e R s m args below meth c G N0 S0 Q H locs ls A0 lo hP wf hS hN hZ)
theorem xv_dup_int {sc : Nat × (Nat → Int32)} {d : Nat} {J : xv_J} {pc : Nat} {lv : List (Option Value)} {st : List Value} {u : xv_M} {n1 s1 : Nat} {P : xv_P} {x : Int32} (hdg : decode J.2.1 pc = .ok (.dup, 1))  (k : xv_X sc d J (pc + 1) lv (.int x :: .int x :: st) u n1 s1 P) : xv_X sc d J pc lv (.int x :: st) u n1 s1 P := fun p l e R s m args below meth c G N0 S0 Q H locs ls A0 lo hP wf hS hN hZ => lv_dup A0.1 A0.2.1 hdg rfl (k p l e R s m args below meth c G N0 S0 Q H locs ls A0 lo hP wf hS hN hZ)
theorem xv_pop_int {sc : Nat × (Nat → Int32)} {d : Nat} {J : xv_J} {pc : Nat} {lv : List (Option Value)} {st : List Value} {u : xv_M} {n1 s1 : Nat} {P : xv_P} {x : Int32} (hdg : decode J.2.1 pc = .ok (.pop, 1))  (k : xv_X sc d J (pc + 1) lv st u n1 s1 P) : xv_X sc d J pc lv (.int x :: st) u n1 s1 P := fun p l e R s m args below meth c G N0 S0 Q H locs ls A0 lo hP wf hS hN hZ => lv_pop A0.1 A0.2.1 hdg rfl (k p l e R s m args below meth c G N0 S0 Q H locs ls A0 lo hP wf hS hN hZ)
theorem xv_dup_ref {sc : Nat × (Nat → Int32)} {d : Nat} {J : xv_J} {pc : Nat} {lv : List (Option Value)} {st : List Value} {u : xv_M} {n1 s1 : Nat} {P : xv_P} {x : Nat} (hdg : decode J.2.1 pc = .ok (.dup, 1))  (k : xv_X sc d J (pc + 1) lv (.ref x :: .ref x :: st) u n1 s1 P) : xv_X sc d J pc lv (.ref x :: st) u n1 s1 P := fun p l e R s m args below meth c G N0 S0 Q H locs ls A0 lo hP wf hS hN hZ => lv_dup A0.1 A0.2.1 hdg rfl (k p l e R s m args below meth c G N0 S0 Q H locs ls A0 lo hP wf hS hN hZ)
theorem xv_pop_ref {sc : Nat × (Nat → Int32)} {d : Nat} {J : xv_J} {pc : Nat} {lv : List (Option Value)} {st : List Value} {u : xv_M} {n1 s1 : Nat} {P : xv_P} {x : Nat} (hdg : decode J.2.1 pc = .ok (.pop, 1))  (k : xv_X sc d J (pc + 1) lv st u n1 s1 P) : xv_X sc d J pc lv (.ref x :: st) u n1 s1 P := fun p l e R s m args below meth c G N0 S0 Q H locs ls A0 lo hP wf hS hN hZ => lv_pop A0.1 A0.2.1 hdg rfl (k p l e R s m args below meth c G N0 S0 Q H locs ls A0 lo hP wf hS hN hZ)
theorem xv_dup_x1 {sc : Nat × (Nat → Int32)} {d : Nat} {J : xv_J} {pc : Nat} {lv : List (Option Value)} {st : List Value} {u : xv_M} {n1 s1 : Nat} {P : xv_P} {x y : Int32} (hdg : decode J.2.1 pc = .ok (.dup_x1, 1))  (k : xv_X sc d J (pc + 1) lv (.int x :: .int y :: .int x :: st) u n1 s1 P) : xv_X sc d J pc lv (.int x :: .int y :: st) u n1 s1 P := fun p l e R s m args below meth c G N0 S0 Q H locs ls A0 lo hP wf hS hN hZ => lv_dup_x1 A0.1 A0.2.1 hdg rfl rfl (k p l e R s m args below meth c G N0 S0 Q H locs ls A0 lo hP wf hS hN hZ)
theorem xv_dup_x1r {sc : Nat × (Nat → Int32)} {d : Nat} {J : xv_J} {pc : Nat} {lv : List (Option Value)} {st : List Value} {u : xv_M} {n1 s1 : Nat} {P : xv_P} {x : Int32} {y : Nat} (hdg : decode J.2.1 pc = .ok (.dup_x1, 1))  (k : xv_X sc d J (pc + 1) lv (.int x :: .ref y :: .int x :: st) u n1 s1 P) : xv_X sc d J pc lv (.int x :: .ref y :: st) u n1 s1 P := fun p l e R s m args below meth c G N0 S0 Q H locs ls A0 lo hP wf hS hN hZ => lv_dup_x1 A0.1 A0.2.1 hdg rfl rfl (k p l e R s m args below meth c G N0 S0 Q H locs ls A0 lo hP wf hS hN hZ)
theorem xv_dup2 {sc : Nat × (Nat → Int32)} {d : Nat} {J : xv_J} {pc : Nat} {lv : List (Option Value)} {st : List Value} {u : xv_M} {n1 s1 : Nat} {P : xv_P} {y : Nat} {i : Int32} (hdg : decode J.2.1 pc = .ok (.dup2, 1))  (k : xv_X sc d J (pc + 1) lv (.int i :: .ref y :: .int i :: .ref y :: st) u n1 s1 P) : xv_X sc d J pc lv (.int i :: .ref y :: st) u n1 s1 P := fun p l e R s m args below meth c G N0 S0 Q H locs ls A0 lo hP wf hS hN hZ => lv_dup2_11 A0.1 A0.2.1 hdg rfl rfl (k p l e R s m args below meth c G N0 S0 Q H locs ls A0 lo hP wf hS hN hZ)
theorem xv_if_eq {sc : Nat × (Nat → Int32)} {d : Nat} {J : xv_J} {pc : Nat} {lv : List (Option Value)} {st : List Value} {u : xv_M} {n1 s1 : Nat} {P : xv_P} {x : Int32} {off : Int} (tgt : Nat) (hdg : decode J.2.1 pc = .ok (.ifCond .eq off, 3)) (ht : (pc : Int) + off = (tgt : Int)) (kt : x = 0 → xv_X sc d J tgt lv st u n1 s1 P) (kf : ¬ x = 0 → xv_X sc d J (pc + 3) lv st u n1 s1 P) : xv_X sc d J pc lv (.int x :: st) u n1 s1 P := fun p l e R s m args below meth c G N0 S0 Q H locs ls A0 lo hP wf hS hN hZ => lv_if_eq A0.1 A0.2.1 hdg ht (fun q => kt q p l e R s m args below meth c G N0 S0 Q H locs ls A0 lo hP wf hS hN hZ) (fun q => kf q p l e R s m args below meth c G N0 S0 Q H locs ls A0 lo hP wf hS hN hZ)
theorem xv_icmp_eq {sc : Nat × (Nat → Int32)} {d : Nat} {J : xv_J} {pc : Nat} {lv : List (Option Value)} {st : List Value} {u : xv_M} {n1 s1 : Nat} {P : xv_P} {x y : Int32} {off : Int} (tgt : Nat) (hdg : decode J.2.1 pc = .ok (.if_icmp .eq off, 3)) (ht : (pc : Int) + off = (tgt : Int)) (kt : x = y → xv_X sc d J tgt lv st u n1 s1 P) (kf : ¬ x = y → xv_X sc d J (pc + 3) lv st u n1 s1 P) : xv_X sc d J pc lv (.int y :: .int x :: st) u n1 s1 P := fun p l e R s m args below meth c G N0 S0 Q H locs ls A0 lo hP wf hS hN hZ => lv_icmp_eq A0.1 A0.2.1 hdg ht (fun q => kt q p l e R s m args below meth c G N0 S0 Q H locs ls A0 lo hP wf hS hN hZ) (fun q => kf q p l e R s m args below meth c G N0 S0 Q H locs ls A0 lo hP wf hS hN hZ)
theorem xv_if_ne {sc : Nat × (Nat → Int32)} {d : Nat} {J : xv_J} {pc : Nat} {lv : List (Option Value)} {st : List Value} {u : xv_M} {n1 s1 : Nat} {P : xv_P} {x : Int32} {off : Int} (tgt : Nat) (hdg : decode J.2.1 pc = .ok (.ifCond .ne off, 3)) (ht : (pc : Int) + off = (tgt : Int)) (kt : ¬ x = 0 → xv_X sc d J tgt lv st u n1 s1 P) (kf : x = 0 → xv_X sc d J (pc + 3) lv st u n1 s1 P) : xv_X sc d J pc lv (.int x :: st) u n1 s1 P := fun p l e R s m args below meth c G N0 S0 Q H locs ls A0 lo hP wf hS hN hZ => lv_if_ne A0.1 A0.2.1 hdg ht (fun q => kt q p l e R s m args below meth c G N0 S0 Q H locs ls A0 lo hP wf hS hN hZ) (fun q => kf q p l e R s m args below meth c G N0 S0 Q H locs ls A0 lo hP wf hS hN hZ)
theorem xv_icmp_ne {sc : Nat × (Nat → Int32)} {d : Nat} {J : xv_J} {pc : Nat} {lv : List (Option Value)} {st : List Value} {u : xv_M} {n1 s1 : Nat} {P : xv_P} {x y : Int32} {off : Int} (tgt : Nat) (hdg : decode J.2.1 pc = .ok (.if_icmp .ne off, 3)) (ht : (pc : Int) + off = (tgt : Int)) (kt : ¬ x = y → xv_X sc d J tgt lv st u n1 s1 P) (kf : x = y → xv_X sc d J (pc + 3) lv st u n1 s1 P) : xv_X sc d J pc lv (.int y :: .int x :: st) u n1 s1 P := fun p l e R s m args below meth c G N0 S0 Q H locs ls A0 lo hP wf hS hN hZ => lv_icmp_ne A0.1 A0.2.1 hdg ht (fun q => kt q p l e R s m args below meth c G N0 S0 Q H locs ls A0 lo hP wf hS hN hZ) (fun q => kf q p l e R s m args below meth c G N0 S0 Q H locs ls A0 lo hP wf hS hN hZ)
theorem xv_if_lt {sc : Nat × (Nat → Int32)} {d : Nat} {J : xv_J} {pc : Nat} {lv : List (Option Value)} {st : List Value} {u : xv_M} {n1 s1 : Nat} {P : xv_P} {x : Int32} {off : Int} (tgt : Nat) (hdg : decode J.2.1 pc = .ok (.ifCond .lt off, 3)) (ht : (pc : Int) + off = (tgt : Int)) (kt : x < 0 → xv_X sc d J tgt lv st u n1 s1 P) (kf : ¬ x < 0 → xv_X sc d J (pc + 3) lv st u n1 s1 P) : xv_X sc d J pc lv (.int x :: st) u n1 s1 P := fun p l e R s m args below meth c G N0 S0 Q H locs ls A0 lo hP wf hS hN hZ => lv_if_lt A0.1 A0.2.1 hdg ht (fun q => kt q p l e R s m args below meth c G N0 S0 Q H locs ls A0 lo hP wf hS hN hZ) (fun q => kf q p l e R s m args below meth c G N0 S0 Q H locs ls A0 lo hP wf hS hN hZ)
theorem xv_icmp_lt {sc : Nat × (Nat → Int32)} {d : Nat} {J : xv_J} {pc : Nat} {lv : List (Option Value)} {st : List Value} {u : xv_M} {n1 s1 : Nat} {P : xv_P} {x y : Int32} {off : Int} (tgt : Nat) (hdg : decode J.2.1 pc = .ok (.if_icmp .lt off, 3)) (ht : (pc : Int) + off = (tgt : Int)) (kt : x < y → xv_X sc d J tgt lv st u n1 s1 P) (kf : ¬ x < y → xv_X sc d J (pc + 3) lv st u n1 s1 P) : xv_X sc d J pc lv (.int y :: .int x :: st) u n1 s1 P := fun p l e R s m args below meth c G N0 S0 Q H locs ls A0 lo hP wf hS hN hZ => lv_icmp_lt A0.1 A0.2.1 hdg ht (fun q => kt q p l e R s m args below meth c G N0 S0 Q H locs ls A0 lo hP wf hS hN hZ) (fun q => kf q p l e R s m args below meth c G N0 S0 Q H locs ls A0 lo hP wf hS hN hZ)
theorem xv_if_ge {sc : Nat × (Nat → Int32)} {d : Nat} {J : xv_J} {pc : Nat} {lv : List (Option Value)} {st : List Value} {u : xv_M} {n1 s1 : Nat} {P : xv_P} {x : Int32} {off : Int} (tgt : Nat) (hdg : decode J.2.1 pc = .ok (.ifCond .ge off, 3)) (ht : (pc : Int) + off = (tgt : Int)) (kt : 0 ≤ x → xv_X sc d J tgt lv st u n1 s1 P) (kf : ¬ 0 ≤ x → xv_X sc d J (pc + 3) lv st u n1 s1 P) : xv_X sc d J pc lv (.int x :: st) u n1 s1 P := fun p l e R s m args below meth c G N0 S0 Q H locs ls A0 lo hP wf hS hN hZ => lv_if_ge A0.1 A0.2.1 hdg ht (fun q => kt q p l e R s m args below meth c G N0 S0 Q H locs ls A0 lo hP wf hS hN hZ) (fun q => kf q p l e R s m args below meth c G N0 S0 Q H locs ls A0 lo hP wf hS hN hZ)
theorem xv_icmp_ge {sc : Nat × (Nat → Int32)} {d : Nat} {J : xv_J} {pc : Nat} {lv : List (Option Value)} {st : List Value} {u : xv_M} {n1 s1 : Nat} {P : xv_P} {x y : Int32} {off : Int} (tgt : Nat) (hdg : decode J.2.1 pc = .ok (.if_icmp .ge off, 3)) (ht : (pc : Int) + off = (tgt : Int)) (kt : y ≤ x → xv_X sc d J tgt lv st u n1 s1 P) (kf : ¬ y ≤ x → xv_X sc d J (pc + 3) lv st u n1 s1 P) : xv_X sc d J pc lv (.int y :: .int x :: st) u n1 s1 P := fun p l e R s m args below meth c G N0 S0 Q H locs ls A0 lo hP wf hS hN hZ => lv_icmp_ge A0.1 A0.2.1 hdg ht (fun q => kt q p l e R s m args below meth c G N0 S0 Q H locs ls A0 lo hP wf hS hN hZ) (fun q => kf q p l e R s m args below meth c G N0 S0 Q H locs ls A0 lo hP wf hS hN hZ)
theorem xv_if_gt {sc : Nat × (Nat → Int32)} {d : Nat} {J : xv_J} {pc : Nat} {lv : List (Option Value)} {st : List Value} {u : xv_M} {n1 s1 : Nat} {P : xv_P} {x : Int32} {off : Int} (tgt : Nat) (hdg : decode J.2.1 pc = .ok (.ifCond .gt off, 3)) (ht : (pc : Int) + off = (tgt : Int)) (kt : 0 < x → xv_X sc d J tgt lv st u n1 s1 P) (kf : ¬ 0 < x → xv_X sc d J (pc + 3) lv st u n1 s1 P) : xv_X sc d J pc lv (.int x :: st) u n1 s1 P := fun p l e R s m args below meth c G N0 S0 Q H locs ls A0 lo hP wf hS hN hZ => lv_if_gt A0.1 A0.2.1 hdg ht (fun q => kt q p l e R s m args below meth c G N0 S0 Q H locs ls A0 lo hP wf hS hN hZ) (fun q => kf q p l e R s m args below meth c G N0 S0 Q H locs ls A0 lo hP wf hS hN hZ)
theorem xv_icmp_gt {sc : Nat × (Nat → Int32)} {d : Nat} {J : xv_J} {pc : Nat} {lv : List (Option Value)} {st : List Value} {u : xv_M} {n1 s1 : Nat} {P : xv_P} {x y : Int32} {off : Int} (tgt : Nat) (hdg : decode J.2.1 pc = .ok (.if_icmp .gt off, 3)) (ht : (pc : Int) + off = (tgt : Int)) (kt : y < x → xv_X sc d J tgt lv st u n1 s1 P) (kf : ¬ y < x → xv_X sc d J (pc + 3) lv st u n1 s1 P) : xv_X sc d J pc lv (.int y :: .int x :: st) u n1 s1 P := fun p l e R s m args below meth c G N0 S0 Q H locs ls A0 lo hP wf hS hN hZ => lv_icmp_gt A0.1 A0.2.1 hdg ht (fun q => kt q p l e R s m args below meth c G N0 S0 Q H locs ls A0 lo hP wf hS hN hZ) (fun q => kf q p l e R s m args below meth c G N0 S0 Q H locs ls A0 lo hP wf hS hN hZ)
theorem xv_if_le {sc : Nat × (Nat → Int32)} {d : Nat} {J : xv_J} {pc : Nat} {lv : List (Option Value)} {st : List Value} {u : xv_M} {n1 s1 : Nat} {P : xv_P} {x : Int32} {off : Int} (tgt : Nat) (hdg : decode J.2.1 pc = .ok (.ifCond .le off, 3)) (ht : (pc : Int) + off = (tgt : Int)) (kt : x ≤ 0 → xv_X sc d J tgt lv st u n1 s1 P) (kf : ¬ x ≤ 0 → xv_X sc d J (pc + 3) lv st u n1 s1 P) : xv_X sc d J pc lv (.int x :: st) u n1 s1 P := fun p l e R s m args below meth c G N0 S0 Q H locs ls A0 lo hP wf hS hN hZ => lv_if_le A0.1 A0.2.1 hdg ht (fun q => kt q p l e R s m args below meth c G N0 S0 Q H locs ls A0 lo hP wf hS hN hZ) (fun q => kf q p l e R s m args below meth c G N0 S0 Q H locs ls A0 lo hP wf hS hN hZ)
theorem xv_icmp_le {sc : Nat × (Nat → Int32)} {d : Nat} {J : xv_J} {pc : Nat} {lv : List (Option Value)} {st : List Value} {u : xv_M} {n1 s1 : Nat} {P : xv_P} {x y : Int32} {off : Int} (tgt : Nat) (hdg : decode J.2.1 pc = .ok (.if_icmp .le off, 3)) (ht : (pc : Int) + off = (tgt : Int)) (kt : x ≤ y → xv_X sc d J tgt lv st u n1 s1 P) (kf : ¬ x ≤ y → xv_X sc d J (pc + 3) lv st u n1 s1 P) : xv_X sc d J pc lv (.int y :: .int x :: st) u n1 s1 P := fun p l e R s m args below meth c G N0 S0 Q H locs ls A0 lo hP wf hS hN hZ => lv_icmp_le A0.1 A0.2.1 hdg ht (fun q => kt q p l e R s m args below meth c G N0 S0 Q H locs ls A0 lo hP wf hS hN hZ) (fun q => kf q p l e R s m args below meth c G N0 S0 Q H locs ls A0 lo hP wf hS hN hZ)
theorem xv_goto {sc : Nat × (Nat → Int32)} {d : Nat} {J : xv_J} {pc : Nat} {lv : List (Option Value)} {st : List Value} {u : xv_M} {n1 s1 : Nat} {P : xv_P} {off : Int} (tgt : Nat) (hdg : decode J.2.1 pc = .ok (.goto off, 3)) (ht : (pc : Int) + off = (tgt : Int)) (k : xv_X sc d J tgt lv st u n1 s1 P) : xv_X sc d J pc lv st u n1 s1 P := fun p l e R s m args below meth c G N0 S0 Q H locs ls A0 lo hP wf hS hN hZ => lv_goto A0.1 A0.2.1 hdg ht (k p l e R s m args below meth c G N0 S0 Q H locs ls A0 lo hP wf hS hN hZ)
theorem xv_tableOut {sc : Nat × (Nat → Int32)} {d : Nat} {J : xv_J} {pc : Nat} {lv : List (Option Value)} {st : List Value} {u : xv_M} {n1 s1 : Nat} {P : xv_P} {dflt lo hi : Int} {offs : Array Int} {len : Nat} {x : Int32} (tgt : Nat) (hdg : decode J.2.1 pc = .ok (.tableswitch dflt lo hi offs, len)) (h : x.toInt < lo ∨ hi < x.toInt) (ht : (pc : Int) + dflt = (tgt : Int)) (k : xv_X sc d J tgt lv st u n1 s1 P) : xv_X sc d J pc lv (.int x :: st) u n1 s1 P := fun p l e R s m args below meth c G N0 S0 Q H locs ls A0 lo hP wf hS hN hZ => lv_tableOut A0.1 A0.2.1 hdg h ht (k p l e R s m args below meth c G N0 S0 Q H locs ls A0 lo hP wf hS hN hZ)
theorem xv_tableIn {sc : Nat × (Nat → Int32)} {d : Nat} {J : xv_J} {pc : Nat} {lv : List (Option Value)} {st : List Value} {u : xv_M} {n1 s1 : Nat} {P : xv_P} {dflt lo hi : Int} {offs : Array Int} {len : Nat} {x : Int32} {off : Int} (tgt : Nat) (hdg : decode J.2.1 pc = .ok (.tableswitch dflt lo hi offs, len)) (h1 : ¬ x.toInt < lo) (h2 : ¬ hi < x.toInt) (ho : offs[(x.toInt - lo).toNat]? = some off) (ht : (pc : Int) + off = (tgt : Int)) (k : xv_X sc d J tgt lv st u n1 s1 P) : xv_X sc d J pc lv (.int x :: st) u n1 s1 P := fun p l e R s m args below meth c G N0 S0 Q H locs ls A0 lo hP wf hS hN hZ => lv_tableIn A0.1 A0.2.1 hdg h1 h2 ho ht (k p l e R s m args below meth c G N0 S0 Q H locs ls A0 lo hP wf hS hN hZ)
theorem xv_lookup {sc : Nat × (Nat → Int32)} {d : Nat} {J : xv_J} {pc : Nat} {lv : List (Option Value)} {st : List Value} {u : xv_M} {n1 s1 : Nat} {P : xv_P} {dflt : Int} {ps : Array (Int × Int)} {len : Nat} {x : Int32} {off : Int} (tgt : Nat) (hdg : decode J.2.1 pc = .ok (.lookupswitch dflt ps, len)) (hp : (ps.toList.zip (ps.toList.drop 1)).all (fun (a, next) => a.1 < next.1) = true) (ho : Op.lookupswitch.offset ps.toList dflt x.toInt = off) (ht : (pc : Int) + off = (tgt : Int)) (k : xv_X sc d J tgt lv st u n1 s1 P) : xv_X sc d J pc lv (.int x :: st) u n1 s1 P := fun p l e R s m args below meth c G N0 S0 Q H locs ls A0 lo hP wf hS hN hZ => lv_lookup A0.1 A0.2.1 hdg hp ho ht (k p l e R s m args below meth c G N0 S0 Q H locs ls A0 lo hP wf hS hN hZ)
theorem xv_istoreG_n {sc : Nat × (Nat → Int32)} {d : Nat} {J : xv_J} {pc : Nat} {lv : List (Option Value)} {st : List Value} {u : xv_M} {n1 s1 : Nat} {P : xv_P} {kk : Fin 4} {i : Nat} {x : Int32} (hdg : decode J.2.1 pc = .ok (.istore_n kk, 1)) (hi : (kk : Nat) = i) (hn : i < J.2.2.1) (h2 : xv_c2 lv i = true) (k : xv_X sc d J (pc + 1) (lv.set i (some (.int x))) st u n1 s1 P) : xv_X sc d J pc lv (.int x :: st) u n1 s1 P := by
  intro p l e R s m args below meth c G N0 S0 Q H locs ls A0 lo hP wf hS hN hZ
  refine lv_istore_n A0.1 A0.2.1 hdg hi (xv_lo_has lo) hn rfl (fun ls' h' => ?_)
  exact k p l e R s m args below meth c G N0 S0 Q H locs ls' A0 (xv_lo_put lo hn h2 h') hP wf hS hN hZ
theorem xv_istoreG {sc : Nat × (Nat → Int32)} {d : Nat} {J : xv_J} {pc : Nat} {lv : List (Option Value)} {st : List Value} {u : xv_M} {n1 s1 : Nat} {P : xv_P} {i : Nat} {x : Int32} (hdg : decode J.2.1 pc = .ok (.istore i, 2)) (hn : i < J.2.2.1) (h2 : xv_c2 lv i = true) (k : xv_X sc d J (pc + 2) (lv.set i (some (.int x))) st u n1 s1 P) : xv_X sc d J pc lv (.int x :: st) u n1 s1 P := by
  intro p l e R s m args below meth c G N0 S0 Q H locs ls A0 lo hP wf hS hN hZ
  refine lv_istore A0.1 A0.2.1 hdg (xv_lo_has lo) hn rfl (fun ls' h' => ?_)
  exact k p l e R s m args below meth c G N0 S0 Q H locs ls' A0 (xv_lo_put lo hn h2 h') hP wf hS hN hZ
theorem xv_astoreG_n {sc : Nat × (Nat → Int32)} {d : Nat} {J : xv_J} {pc : Nat} {lv : List (Option Value)} {st : List Value} {u : xv_M} {n1 s1 : Nat} {P : xv_P} {kk : Fin 4} {i : Nat} {x : Nat} (hdg : decode J.2.1 pc = .ok (.astore_n kk, 1)) (hi : (kk : Nat) = i) (hn : i < J.2.2.1) (h2 : xv_c2 lv i = true) (k : xv_X sc d J (pc + 1) (lv.set i (some (.ref x))) st u n1 s1 P) : xv_X sc d J pc lv (.ref x :: st) u n1 s1 P := by
  intro p l e R s m args below meth c G N0 S0 Q H locs ls A0 lo hP wf hS hN hZ
  refine lv_astore_n A0.1 A0.2.1 hdg hi (xv_lo_has lo) hn rfl (fun ls' h' => ?_)
  exact k p l e R s m args below meth c G N0 S0 Q H locs ls' A0 (xv_lo_put lo hn h2 h') hP wf hS hN hZ
theorem xv_astoreG {sc : Nat × (Nat → Int32)} {d : Nat} {J : xv_J} {pc : Nat} {lv : List (Option Value)} {st : List Value} {u : xv_M} {n1 s1 : Nat} {P : xv_P} {i : Nat} {x : Nat} (hdg : decode J.2.1 pc = .ok (.astore i, 2)) (hn : i < J.2.2.1) (h2 : xv_c2 lv i = true) (k : xv_X sc d J (pc + 2) (lv.set i (some (.ref x))) st u n1 s1 P) : xv_X sc d J pc lv (.ref x :: st) u n1 s1 P := by
  intro p l e R s m args below meth c G N0 S0 Q H locs ls A0 lo hP wf hS hN hZ
  refine lv_astore A0.1 A0.2.1 hdg (xv_lo_has lo) hn rfl (fun ls' h' => ?_)
  exact k p l e R s m args below meth c G N0 S0 Q H locs ls' A0 (xv_lo_put lo hn h2 h') hP wf hS hN hZ
theorem xv_iincG {sc : Nat × (Nat → Int32)} {d : Nat} {J : xv_J} {pc : Nat} {lv : List (Option Value)} {st : List Value} {u : xv_M} {n1 s1 : Nat} {P : xv_P} {i : Nat} {n : Int} {x : Int32} (v : Int32) (hdg : decode J.2.1 pc = .ok (.iinc i n, 3)) (hl : lv[i]? = some (some (.int x))) (hv : x + Int32.ofInt n = v) (hn : i < J.2.2.1) (h2 : xv_c2 lv i = true) (k : xv_X sc d J (pc + 3) (lv.set i (some (.int v))) st u n1 s1 P) : xv_X sc d J pc lv st u n1 s1 P := by
  intro p l e R s m args below meth c G N0 S0 Q H locs ls A0 lo hP wf hS hN hZ
  obtain ⟨q, hq⟩ := xv_al_at (G := G) hl
  refine lv_iinc A0.1 A0.2.1 hdg (xv_lo_has lo) hq hv hn rfl (fun ls' h' => ?_)
  exact k p l e R s m args below meth c G N0 S0 Q H locs ls' A0 (xv_lo_put (v := .int v) lo hn h2 h') hP wf hS hN hZ
theorem xv_istore_0 {sc : Nat × (Nat → Int32)} {d : Nat} {J : xv_J} {pc : Nat} {a0 : Option Value} {t : List (Option Value)} {st : List Value} {u : xv_M} {n1 s1 : Nat} {P : xv_P} {x : Int32} (hdg : decode J.2.1 pc = .ok (.istore_n 0, 1)) (hn : 0 < J.2.2.1)  (k : xv_X sc d J (pc + 1) (some (.int x) :: t) st u n1 s1 P) : xv_X sc d J pc (a0 :: t) (.int x :: st) u n1 s1 P := xv_istoreG_n hdg rfl hn rfl k
theorem xv_astore_0 {sc : Nat × (Nat → Int32)} {d : Nat} {J : xv_J} {pc : Nat} {a0 : Option Value} {t : List (Option Value)} {st : List Value} {u : xv_M} {n1 s1 : Nat} {P : xv_P} {x : Nat} (hdg : decode J.2.1 pc = .ok (.astore_n 0, 1)) (hn : 0 < J.2.2.1)  (k : xv_X sc d J (pc + 1) (some (.ref x) :: t) st u n1 s1 P) : xv_X sc d J pc (a0 :: t) (.ref x :: st) u n1 s1 P := xv_astoreG_n hdg rfl hn rfl k
theorem xv_iinc_0 {sc : Nat × (Nat → Int32)} {d : Nat} {J : xv_J} {pc : Nat}  {t : List (Option Value)} {st : List Value} {u : xv_M} {n1 s1 : Nat} {P : xv_P} {n : Int} {x : Int32} (v : Int32) (hdg : decode J.2.1 pc = .ok (.iinc 0 n, 3)) (hv : x + Int32.ofInt n = v) (hn : 0 < J.2.2.1)  (k : xv_X sc d J (pc + 3) (some (.int v) :: t) st u n1 s1 P) : xv_X sc d J pc (some (.int x) :: t) st u n1 s1 P := xv_iincG v hdg rfl hv hn rfl k
theorem xv_istore_1 {sc : Nat × (Nat → Int32)} {d : Nat} {J : xv_J} {pc : Nat} {a0 a1 : Option Value} {t : List (Option Value)} {st : List Value} {u : xv_M} {n1 s1 : Nat} {P : xv_P} {x : Int32} (hdg : decode J.2.1 pc = .ok (.istore_n 1, 1)) (hn : 1 < J.2.2.1) (h2 : xv_c2 [a0] 1 = true) (k : xv_X sc d J (pc + 1) (a0 :: some (.int x) :: t) st u n1 s1 P) : xv_X sc d J pc (a0 :: a1 :: t) (.int x :: st) u n1 s1 P := xv_istoreG_n hdg rfl hn h2 k
theorem xv_astore_1 {sc : Nat × (Nat → Int32)} {d : Nat} {J : xv_J} {pc : Nat} {a0 a1 : Option Value} {t : List (Option Value)} {st : List Value} {u : xv_M} {n1 s1 : Nat} {P : xv_P} {x : Nat} (hdg : decode J.2.1 pc = .ok (.astore_n 1, 1)) (hn : 1 < J.2.2.1) (h2 : xv_c2 [a0] 1 = true) (k : xv_X sc d J (pc + 1) (a0 :: some (.ref x) :: t) st u n1 s1 P) : xv_X sc d J pc (a0 :: a1 :: t) (.ref x :: st) u n1 s1 P := xv_astoreG_n hdg rfl hn h2 k
theorem xv_iinc_1 {sc : Nat × (Nat → Int32)} {d : Nat} {J : xv_J} {pc : Nat} {a0 : Option Value} {t : List (Option Value)} {st : List Value} {u : xv_M} {n1 s1 : Nat} {P : xv_P} {n : Int} {x : Int32} (v : Int32) (hdg : decode J.2.1 pc = .ok (.iinc 1 n, 3)) (hv : x + Int32.ofInt n = v) (hn : 1 < J.2.2.1) (h2 : xv_c2 [a0] 1 = true) (k : xv_X sc d J (pc + 3) (a0 :: some (.int v) :: t) st u n1 s1 P) : xv_X sc d J pc (a0 :: some (.int x) :: t) st u n1 s1 P := xv_iincG v hdg rfl hv hn h2 k
theorem xv_istore_2 {sc : Nat × (Nat → Int32)} {d : Nat} {J : xv_J} {pc : Nat} {a0 a1 a2 : Option Value} {t : List (Option Value)} {st : List Value} {u : xv_M} {n1 s1 : Nat} {P : xv_P} {x : Int32} (hdg : decode J.2.1 pc = .ok (.istore_n 2, 1)) (hn : 2 < J.2.2.1) (h2 : xv_c2 [a0, a1] 2 = true) (k : xv_X sc d J (pc + 1) (a0 :: a1 :: some (.int x) :: t) st u n1 s1 P) : xv_X sc d J pc (a0 :: a1 :: a2 :: t) (.int x :: st) u n1 s1 P := xv_istoreG_n hdg rfl hn h2 k
theorem xv_astore_2 {sc : Nat × (Nat → Int32)} {d : Nat} {J : xv_J} {pc : Nat} {a0 a1 a2 : Option Value} {t : List (Option Value)} {st : List Value} {u : xv_M} {n1 s1 : Nat} {P : xv_P} {x : Nat} (hdg : decode J.2.1 pc = .ok (.astore_n 2, 1)) (hn : 2 < J.2.2.1) (h2 : xv_c2 [a0, a1] 2 = true) (k : xv_X sc d J (pc + 1) (a0 :: a1 :: some (.ref x) :: t) st u n1 s1 P) : xv_X sc d J pc (a0 :: a1 :: a2 :: t) (.ref x :: st) u n1 s1 P := xv_astoreG_n hdg rfl hn h2 k
theorem xv_iinc_2 {sc : Nat × (Nat → Int32)} {d : Nat} {J : xv_J} {pc : Nat} {a0 a1 : Option Value} {t : List (Option Value)} {st : List Value} {u : xv_M} {n1 s1 : Nat} {P : xv_P} {n : Int} {x : Int32} (v : Int32) (hdg : decode J.2.1 pc = .ok (.iinc 2 n, 3)) (hv : x + Int32.ofInt n = v) (hn : 2 < J.2.2.1) (h2 : xv_c2 [a0, a1] 2 = true) (k : xv_X sc d J (pc + 3) (a0 :: a1 :: some (.int v) :: t) st u n1 s1 P) : xv_X sc d J pc (a0 :: a1 :: some (.int x) :: t) st u n1 s1 P := xv_iincG v hdg rfl hv hn h2 k
theorem xv_istore_3 {sc : Nat × (Nat → Int32)} {d : Nat} {J : xv_J} {pc : Nat} {a0 a1 a2 a3 : Option Value} {t : List (Option Value)} {st : List Value} {u : xv_M} {n1 s1 : Nat} {P : xv_P} {x : Int32} (hdg : decode J.2.1 pc = .ok (.istore_n 3, 1)) (hn : 3 < J.2.2.1) (h2 : xv_c2 [a0, a1, a2] 3 = true) (k : xv_X sc d J (pc + 1) (a0 :: a1 :: a2 :: some (.int x) :: t) st u n1 s1 P) : xv_X sc d J pc (a0 :: a1 :: a2 :: a3 :: t) (.int x :: st) u n1 s1 P := xv_istoreG_n hdg rfl hn h2 k
theorem xv_astore_3 {sc : Nat × (Nat → Int32)} {d : Nat} {J : xv_J} {pc : Nat} {a0 a1 a2 a3 : Option Value} {t : List (Option Value)} {st : List Value} {u : xv_M} {n1 s1 : Nat} {P : xv_P} {x : Nat} (hdg : decode J.2.1 pc = .ok (.astore_n 3, 1)) (hn : 3 < J.2.2.1) (h2 : xv_c2 [a0, a1, a2] 3 = true) (k : xv_X sc d J (pc + 1) (a0 :: a1 :: a2 :: some (.ref x) :: t) st u n1 s1 P) : xv_X sc d J pc (a0 :: a1 :: a2 :: a3 :: t) (.ref x :: st) u n1 s1 P := xv_astoreG_n hdg rfl hn h2 k
theorem xv_iinc_3 {sc : Nat × (Nat → Int32)} {d : Nat} {J : xv_J} {pc : Nat} {a0 a1 a2 : Option Value} {t : List (Option Value)} {st : List Value} {u : xv_M} {n1 s1 : Nat} {P : xv_P} {n : Int} {x : Int32} (v : Int32) (hdg : decode J.2.1 pc = .ok (.iinc 3 n, 3)) (hv : x + Int32.ofInt n = v) (hn : 3 < J.2.2.1) (h2 : xv_c2 [a0, a1, a2] 3 = true) (k : xv_X sc d J (pc + 3) (a0 :: a1 :: a2 :: some (.int v) :: t) st u n1 s1 P) : xv_X sc d J pc (a0 :: a1 :: a2 :: some (.int x) :: t) st u n1 s1 P := xv_iincG v hdg rfl hv hn h2 k
theorem xv_istore_4 {sc : Nat × (Nat → Int32)} {d : Nat} {J : xv_J} {pc : Nat} {a0 a1 a2 a3 a4 : Option Value} {t : List (Option Value)} {st : List Value} {u : xv_M} {n1 s1 : Nat} {P : xv_P} {x : Int32} (hdg : decode J.2.1 pc = .ok (.istore 4, 2)) (hn : 4 < J.2.2.1) (h2 : xv_c2 [a0, a1, a2, a3] 4 = true) (k : xv_X sc d J (pc + 2) (a0 :: a1 :: a2 :: a3 :: some (.int x) :: t) st u n1 s1 P) : xv_X sc d J pc (a0 :: a1 :: a2 :: a3 :: a4 :: t) (.int x :: st) u n1 s1 P := xv_istoreG hdg hn h2 k
theorem xv_astore_4 {sc : Nat × (Nat → Int32)} {d : Nat} {J : xv_J} {pc : Nat} {a0 a1 a2 a3 a4 : Option Value} {t : List (Option Value)} {st : List Value} {u : xv_M} {n1 s1 : Nat} {P : xv_P} {x : Nat} (hdg : decode J.2.1 pc = .ok (.astore 4, 2)) (hn : 4 < J.2.2.1) (h2 : xv_c2 [a0, a1, a2, a3] 4 = true) (k : xv_X sc d J (pc + 2) (a0 :: a1 :: a2 :: a3 :: some (.ref x) :: t) st u n1 s1 P) : xv_X sc d J pc (a0 :: a1 :: a2 :: a3 :: a4 :: t) (.ref x :: st) u n1 s1 P := xv_astoreG hdg hn h2 k
theorem xv_iinc_4 {sc : Nat × (Nat → Int32)} {d : Nat} {J : xv_J} {pc : Nat} {a0 a1 a2 a3 : Option Value} {t : List (Option Value)} {st : List Value} {u : xv_M} {n1 s1 : Nat} {P : xv_P} {n : Int} {x : Int32} (v : Int32) (hdg : decode J.2.1 pc = .ok (.iinc 4 n, 3)) (hv : x + Int32.ofInt n = v) (hn : 4 < J.2.2.1) (h2 : xv_c2 [a0, a1, a2, a3] 4 = true) (k : xv_X sc d J (pc + 3) (a0 :: a1 :: a2 :: a3 :: some (.int v) :: t) st u n1 s1 P) : xv_X sc d J pc (a0 :: a1 :: a2 :: a3 :: some (.int x) :: t) st u n1 s1 P := xv_iincG v hdg rfl hv hn h2 k
theorem xv_istore_5 {sc : Nat × (Nat → Int32)} {d : Nat} {J : xv_J} {pc : Nat} {a0 a1 a2 a3 a4 a5 : Option Value} {t : List (Option Value)} {st : List Value} {u : xv_M} {n1 s1 : Nat} {P : xv_P} {x : Int32} (hdg : decode J.2.1 pc = .ok (.istore 5, 2)) (hn : 5 < J.2.2.1) (h2 : xv_c2 [a0, a1, a2, a3, a4] 5 = true) (k : xv_X sc d J (pc + 2) (a0 :: a1 :: a2 :: a3 :: a4 :: some (.int x) :: t) st u n1 s1 P) : xv_X sc d J pc (a0 :: a1 :: a2 :: a3 :: a4 :: a5 :: t) (.int x :: st) u n1 s1 P := xv_istoreG hdg hn h2 k
theorem xv_astore_5 {sc : Nat × (Nat → Int32)} {d : Nat} {J : xv_J} {pc : Nat} {a0 a1 a2 a3 a4 a5 : Option Value} {t : List (Option Value)} {st : List Value} {u : xv_M} {n1 s1 : Nat} {P : xv_P} {x : Nat} (hdg : decode J.2.1 pc = .ok (.astore 5, 2)) (hn : 5 < J.2.2.1) (h2 : xv_c2 [a0, a1, a2, a3, a4] 5 = true) (k : xv_X sc d J (pc + 2) (a0 :: a1 :: a2 :: a3 :: a4 :: some (.ref x) :: t) st u n1 s1 P) : xv_X sc d J pc (a0 :: a1 :: a2 :: a3 :: a4 :: a5 :: t) (.ref x :: st) u n1 s1 P := xv_astoreG hdg hn h2 k
theorem xv_iinc_5 {sc : Nat × (Nat → Int32)} {d : Nat} {J : xv_J} {pc : Nat} {a0 a1 a2 a3 a4 : Option Value} {t : List (Option Value)} {st : List Value} {u : xv_M} {n1 s1 : Nat} {P : xv_P} {n : Int} {x : Int32} (v : Int32) (hdg : decode J.2.1 pc = .ok (.iinc 5 n, 3)) (hv : x + Int32.ofInt n = v) (hn : 5 < J.2.2.1) (h2 : xv_c2 [a0, a1, a2, a3, a4] 5 = true) (k : xv_X sc d J (pc + 3) (a0 :: a1 :: a2 :: a3 :: a4 :: some (.int v) :: t) st u n1 s1 P) : xv_X sc d J pc (a0 :: a1 :: a2 :: a3 :: a4 :: some (.int x) :: t) st u n1 s1 P := xv_iincG v hdg rfl hv hn h2 k
theorem xv_istore_6 {sc : Nat × (Nat → Int32)} {d : Nat} {J : xv_J} {pc : Nat} {a0 a1 a2 a3 a4 a5 a6 : Option Value} {t : List (Option Value)} {st : List Value} {u : xv_M} {n1 s1 : Nat} {P : xv_P} {x : Int32} (hdg : decode J.2.1 pc = .ok (.istore 6, 2)) (hn : 6 < J.2.2.1) (h2 : xv_c2 [a0, a1, a2, a3, a4, a5] 6 = true) (k : xv_X sc d J (pc + 2) (a0 :: a1 :: a2 :: a3 :: a4 :: a5 :: some (.int x) :: t) st u n1 s1 P) : xv_X sc d J pc (a0 :: a1 :: a2 :: a3 :: a4 :: a5 :: a6 :: t) (.int x :: st) u n1 s1 P := xv_istoreG hdg hn h2 k
theorem xv_astore_6 {sc : Nat × (Nat → Int32)} {d : Nat} {J : xv_J} {pc : Nat} {a0 a1 a2 a3 a4 a5 a6 : Option Value} {t : List (Option Value)} {st : List Value} {u : xv_M} {n1 s1 : Nat} {P : xv_P} {x : Nat} (hdg : decode J.2.1 pc = .ok (.astore 6, 2)) (hn : 6 < J.2.2.1) (h2 : xv_c2 [a0, a1, a2, a3, a4, a5] 6 = true) (k : xv_X sc d J (pc + 2) (a0 :: a1 :: a2 :: a3 :: a4 :: a5 :: some (.ref x) :: t) st u n1 s1 P) : xv_X sc d J pc (a0 :: a1 :: a2 :: a3 :: a4 :: a5 :: a6 :: t) (.ref x :: st) u n1 s1 P := xv_astoreG hdg hn h2 k
theorem xv_iinc_6 {sc : Nat × (Nat → Int32)} {d : Nat} {J : xv_J} {pc : Nat} {a0 a1 a2 a3 a4 a5 : Option Value} {t : List (Option Value)} {st : List Value} {u : xv_M} {n1 s1 : Nat} {P : xv_P} {n : Int} {x : Int32} (v : Int32) (hdg : decode J.2.1 pc = .ok (.iinc 6 n, 3)) (hv : x + Int32.ofInt n = v) (hn : 6 < J.2.2.1) (h2 : xv_c2 [a0, a1, a2, a3, a4, a5] 6 = true) (k : xv_X sc d J (pc + 3) (a0 :: a1 :: a2 :: a3 :: a4 :: a5 :: some (.int v) :: t) st u n1 s1 P) : xv_X sc d J pc (a0 :: a1 :: a2 :: a3 :: a4 :: a5 :: some (.int x) :: t) st u n1 s1 P := xv_iincG v hdg rfl hv hn h2 k
theorem xv_istore_7 {sc : Nat × (Nat → Int32)} {d : Nat} {J : xv_J} {pc : Nat} {a0 a1 a2 a3 a4 a5 a6 a7 : Option Value} {t : List (Option Value)} {st : List Value} {u : xv_M} {n1 s1 : Nat} {P : xv_P} {x : Int32} (hdg : decode J.2.1 pc = .ok (.istore 7, 2)) (hn : 7 < J.2.2.1) (h2 : xv_c2 [a0, a1, a2, a3, a4, a5, a6] 7 = true) (k : xv_X sc d J (pc + 2) (a0 :: a1 :: a2 :: a3 :: a4 :: a5 :: a6 :: some (.int x) :: t) st u n1 s1 P) : xv_X sc d J pc (a0 :: a1 :: a2 :: a3 :: a4 :: a5 :: a6 :: a7 :: t) (.int x :: st) u n1 s1 P := xv_istoreG hdg hn h2 k
theorem xv_astore_7 {sc : Nat × (Nat → Int32)} {d : Nat} {J : xv_J} {pc : Nat} {a0 a1 a2 a3 a4 a5 a6 a7 : Option Value} {t : List (Option Value)} {st : List Value} {u : xv_M} {n1 s1 : Nat} {P : xv_P} {x : Nat} (hdg : decode J.2.1 pc = .ok (.astore 7, 2)) (hn : 7 < J.2.2.1) (h2 : xv_c2 [a0, a1, a2, a3, a4, a5, a6] 7 = true) (k : xv_X sc d J (pc + 2) (a0 :: a1 :: a2 :: a3 :: a4 :: a5 :: a6 :: some (.ref x) :: t) st u n1 s1 P) : xv_X sc d J pc (a0 :: a1 :: a2 :: a3 :: a4 :: a5 :: a6 :: a7 :: t) (.ref x :: st) u n1 s1 P := xv_astoreG hdg hn h2 k
theorem xv_iinc_7 {sc : Nat × (Nat → Int32)} {d : Nat} {J : xv_J} {pc : Nat} {a0 a1 a2 a3 a4 a5 a6 : Option Value} {t : List (Option Value)} {st : List Value} {u : xv_M} {n1 s1 : Nat} {P : xv_P} {n : Int} {x : Int32} (v : Int32) (hdg : decode J.2.1 pc = .ok (.iinc 7 n, 3)) (hv : x + Int32.ofInt n = v) (hn : 7 < J.2.2.1) (h2 : xv_c2 [a0, a1, a2, a3, a4, a5, a6] 7 = true) (k : xv_X sc d J (pc + 3) (a0 :: a1 :: a2 :: a3 :: a4 :: a5 :: a6 :: some (.int v) :: t) st u n1 s1 P) : xv_X sc d J pc (a0 :: a1 :: a2 :: a3 :: a4 :: a5 :: a6 :: some (.int x) :: t) st u n1 s1 P := xv_iincG v hdg rfl hv hn h2 k
theorem xv_istore_8 {sc : Nat × (Nat → Int32)} {d : Nat} {J : xv_J} {pc : Nat} {a0 a1 a2 a3 a4 a5 a6 a7 a8 : Option Value} {t : List (Option Value)} {st : List Value} {u : xv_M} {n1 s1 : Nat} {P : xv_P} {x : Int32} (hdg : decode J.2.1 pc = .ok (.istore 8, 2)) (hn : 8 < J.2.2.1) (h2 : xv_c2 [a0, a1, a2, a3, a4, a5, a6, a7] 8 = true) (k : xv_X sc d J (pc + 2) (a0 :: a1 :: a2 :: a3 :: a4 :: a5 :: a6 :: a7 :: some (.int x) :: t) st u n1 s1 P) : xv_X sc d J pc (a0 :: a1 :: a2 :: a3 :: a4 :: a5 :: a6 :: a7 :: a8 :: t) (.int x :: st) u n1 s1 P := xv_istoreG hdg hn h2 k
theorem xv_astore_8 {sc : Nat × (Nat → Int32)} {d : Nat} {J : xv_J} {pc : Nat} {a0 a1 a2 a3 a4 a5 a6 a7 a8 : Option Value} {t : List (Option Value)} {st : List Value} {u : xv_M} {n1 s1 : Nat} {P : xv_P} {x : Nat} (hdg : decode J.2.1 pc = .ok (.astore 8, 2)) (hn : 8 < J.2.2.1) (h2 : xv_c2 [a0, a1, a2, a3, a4, a5, a6, a7] 8 = true) (k : xv_X sc d J (pc + 2) (a0 :: a1 :: a2 :: a3 :: a4 :: a5 :: a6 :: a7 :: some (.ref x) :: t) st u n1 s1 P) : xv_X sc d J pc (a0 :: a1 :: a2 :: a3 :: a4 :: a5 :: a6 :: a7 :: a8 :: t) (.ref x :: st) u n1 s1 P := xv_astoreG hdg hn h2 k
theorem xv_iinc_8 {sc : Nat × (Nat → Int32)} {d : Nat} {J : xv_J} {pc : Nat} {a0 a1 a2 a3 a4 a5 a6 a7 : Option Value} {t : List (Option Value)} {st : List Value} {u : xv_M} {n1 s1 : Nat} {P : xv_P} {n : Int} {x : Int32} (v : Int32) (hdg : decode J.2.1 pc = .ok (.iinc 8 n, 3)) (hv : x + Int32.ofInt n = v) (hn : 8 < J.2.2.1) (h2 : xv_c2 [a0, a1, a2, a3, a4, a5, a6, a7] 8 = true) (k : xv_X sc d J (pc + 3) (a0 :: a1 :: a2 :: a3 :: a4 :: a5 :: a6 :: a7 :: some (.int v) :: t) st u n1 s1 P) : xv_X sc d J pc (a0 :: a1 :: a2 :: a3 :: a4 :: a5 :: a6 :: a7 :: some (.int x) :: t) st u n1 s1 P := xv_iincG v hdg rfl hv hn h2 k
theorem xv_istore_9 {sc : Nat × (Nat → Int32)} {d : Nat} {J : xv_J} {pc : Nat} {a0 a1 a2 a3 a4 a5 a6 a7 a8 a9 : Option Value} {t : List (Option Value)} {st : List Value} {u : xv_M} {n1 s1 : Nat} {P : xv_P} {x : Int32} (hdg : decode J.2.1 pc = .ok (.istore 9, 2)) (hn : 9 < J.2.2.1) (h2 : xv_c2 [a0, a1, a2, a3, a4, a5, a6, a7, a8] 9 = true) (k : xv_X sc d J (pc + 2) (a0 :: a1 :: a2 :: a3 :: a4 :: a5 :: a6 :: a7 :: a8 :: some (.int x) :: t) st u n1 s1 P) : xv_X sc d J pc (a0 :: a1 :: a2 :: a3 :: a4 :: a5 :: a6 :: a7 :: a8 :: a9 :: t) (.int x :: st) u n1 s1 P := xv_istoreG hdg hn h2 k
theorem xv_astore_9 {sc : Nat × (Nat → Int32)} {d : Nat} {J : xv_J} {pc : Nat} {a0 a1 a2 a3 a4 a5 a6 a7 a8 a9 : Option Value} {t : List (Option Value)} {st : List Value} {u : xv_M} {n1 s1 : Nat} {P : xv_P} {x : Nat} (hdg : decode J.2.1 pc = .ok (.astore 9, 2)) (hn : 9 < J.2.2.1) (h2 : xv_c2 [a0, a1, a2, a3, a4, a5, a6, a7, a8] 9 = true) (k : xv_X sc d J (pc + 2) (a0 :: a1 :: a2 :: a3 :: a4 :: a5 :: a6 :: a7 :: a8 :: some (.ref x) :: t) st u n1 s1 P) : xv_X sc d J pc (a0 :: a1 :: a2 :: a3 :: a4 :: a5 :: a6 :: a7 :: a8 :: a9 :: t) (.ref x :: st) u n1 s1 P := xv_astoreG hdg hn h2 k
theorem xv_iinc_9 {sc : Nat × (Nat → Int32)} {d : Nat} {J : xv_J} {pc : Nat} {a0 a1 a2 a3 a4 a5 a6 a7 a8 : Option Value} {t : List (Option Value)} {st : List Value} {u : xv_M} {n1 s1 : Nat} {P : xv_P} {n : Int} {x : Int32} (v : Int32) (hdg : decode J.2.1 pc = .ok (.iinc 9 n, 3)) (hv : x + Int32.ofInt n = v) (hn : 9 < J.2.2.1) (h2 : xv_c2 [a0, a1, a2, a3, a4, a5, a6, a7, a8] 9 = true) (k : xv_X sc d J (pc + 3) (a0 :: a1 :: a2 :: a3 :: a4 :: a5 :: a6 :: a7 :: a8 :: some (.int v) :: t) st u n1 s1 P) : xv_X sc d J pc (a0 :: a1 :: a2 :: a3 :: a4 :: a5 :: a6 :: a7 :: a8 :: some (.int x) :: t) st u n1 s1 P := xv_iincG v hdg rfl hv hn h2 k
theorem xv_istore_10 {sc : Nat × (Nat → Int32)} {d : Nat} {J : xv_J} {pc : Nat} {a0 a1 a2 a3 a4 a5 a6 a7 a8 a9 a10 : Option Value} {t : List (Option Value)} {st : List Value} {u : xv_M} {n1 s1 : Nat} {P : xv_P} {x : Int32} (hdg : decode J.2.1 pc = .ok (.istore 10, 2)) (hn : 10 < J.2.2.1) (h2 : xv_c2 [a0, a1, a2, a3, a4, a5, a6, a7, a8, a9] 10 = true) (k : xv_X sc d J (pc + 2) (a0 :: a1 :: a2 :: a3 :: a4 :: a5 :: a6 :: a7 :: a8 :: a9 :: some (.int x) :: t) st u n1 s1 P) : xv_X sc d J pc (a0 :: a1 :: a2 :: a3 :: a4 :: a5 :: a6 :: a7 :: a8 :: a9 :: a10 :: t) (.int x :: st) u n1 s1 P := xv_istoreG hdg hn h2 k
theorem xv_astore_10 {sc : Nat × (Nat → Int32)} {d : Nat} {J : xv_J} {pc : Nat} {a0 a1 a2 a3 a4 a5 a6 a7 a8 a9 a10 : Option Value} {t : List (Option Value)} {st : List Value} {u : xv_M} {n1 s1 : Nat} {P : xv_P} {x : Nat} (hdg : decode J.2.1 pc = .ok (.astore 10, 2)) (hn : 10 < J.2.2.1) (h2 : xv_c2 [a0, a1, a2, a3, a4, a5, a6, a7, a8, a9] 10 = true) (k : xv_X sc d J (pc + 2) (a0 :: a1 :: a2 :: a3 :: a4 :: a5 :: a6 :: a7 :: a8 :: a9 :: some (.ref x) :: t) st u n1 s1 P) : xv_X sc d J pc (a0 :: a1 :: a2 :: a3 :: a4 :: a5 :: a6 :: a7 :: a8 :: a9 :: a10 :: t) (.ref x :: st) u n1 s1 P := xv_astoreG hdg hn h2 k
theorem xv_iinc_10 {sc : Nat × (Nat → Int32)} {d : Nat} {J : xv_J} {pc : Nat} {a0 a1 a2 a3 a4 a5 a6 a7 a8 a9 : Option Value} {t : List (Option Value)} {st : List Value} {u : xv_M} {n1 s1 : Nat} {P : xv_P} {n : Int} {x : Int32} (v : Int32) (hdg : decode J.2.1 pc = .ok (.iinc 10 n, 3)) (hv : x + Int32.ofInt n = v) (hn : 10 < J.2.2.1) (h2 : xv_c2 [a0, a1, a2, a3, a4, a5, a6, a7, a8, a9] 10 = true) (k : xv_X sc d J (pc + 3) (a0 :: a1 :: a2 :: a3 :: a4 :: a5 :: a6 :: a7 :: a8 :: a9 :: some (.int v) :: t) st u n1 s1 P) : xv_X sc d J pc (a0 :: a1 :: a2 :: a3 :: a4 :: a5 :: a6 :: a7 :: a8 :: a9 :: some (.int x) :: t) st u n1 s1 P := xv_iincG v hdg rfl hv hn h2 k
theorem xv_istore_11 {sc : Nat × (Nat → Int32)} {d : Nat} {J : xv_J} {pc : Nat} {a0 a1 a2 a3 a4 a5 a6 a7 a8 a9 a10 a11 : Option Value} {t : List (Option Value)} {st : List Value} {u : xv_M} {n1 s1 : Nat} {P : xv_P} {x : Int32} (hdg : decode J.2.1 pc = .ok (.istore 11, 2)) (hn : 11 < J.2.2.1) (h2 : xv_c2 [a0, a1, a2, a3, a4, a5, a6, a7, a8, a9, a10] 11 = true) (k : xv_X sc d J (pc + 2) (a0 :: a1 :: a2 :: a3 :: a4 :: a5 :: a6 :: a7 :: a8 :: a9 :: a10 :: some (.int x) :: t) st u n1 s1 P) : xv_X sc d J pc (a0 :: a1 :: a2 :: a3 :: a4 :: a5 :: a6 :: a7 :: a8 :: a9 :: a10 :: a11 :: t) (.int x :: st) u n1 s1 P := xv_istoreG hdg hn h2 k
theorem xv_astore_11 {sc : Nat × (Nat → Int32)} {d : Nat} {J : xv_J} {pc : Nat} {a0 a1 a2 a3 a4 a5 a6 a7 a8 a9 a10 a11 : Option Value} {t : List (Option Value)} {st : List Value} {u : xv_M} {n1 s1 : Nat} {P : xv_P} {x : Nat} (hdg : decode J.2.1 pc = .ok (.astore 11, 2)) (hn : 11 < J.2.2.1) (h2 : xv_c2 [a0, a1, a2, a3, a4, a5, a6, a7, a8, a9, a10] 11 = true) (k : xv_X sc d J (pc + 2) (a0 :: a1 :: a2 :: a3 :: a4 :: a5 :: a6 :: a7 :: a8 :: a9 :: a10 :: some (.ref x) :: t) st u n1 s1 P) : xv_X sc d J pc (a0 :: a1 :: a2 :: a3 :: a4 :: a5 :: a6 :: a7 :: a8 :: a9 :: a10 :: a11 :: t) (.ref x :: st) u n1 s1 P := xv_astoreG hdg hn h2 k
theorem xv_iinc_11 {sc : Nat × (Nat → Int32)} {d : Nat} {J : xv_J} {pc : Nat} {a0 a1 a2 a3 a4 a5 a6 a7 a8 a9 a10 : Option Value} {t : List (Option Value)} {st : List Value} {u : xv_M} {n1 s1 : Nat} {P : xv_P} {n : Int} {x : Int32} (v : Int32) (hdg : decode J.2.1 pc = .ok (.iinc 11 n, 3)) (hv : x + Int32.ofInt n = v) (hn : 11 < J.2.2.1) (h2 : xv_c2 [a0, a1, a2, a3, a4, a5, a6, a7, a8, a9, a10] 11 = true) (k : xv_X sc d J (pc + 3) (a0 :: a1 :: a2 :: a3 :: a4 :: a5 :: a6 :: a7 :: a8 :: a9 :: a10 :: some (.int v) :: t) st u n1 s1 P) : xv_X sc d J pc (a0 :: a1 :: a2 :: a3 :: a4 :: a5 :: a6 :: a7 :: a8 :: a9 :: a10 :: some (.int x) :: t) st u n1 s1 P := xv_iincG v hdg rfl hv hn h2 k
theorem xv_istore_12 {sc : Nat × (Nat → Int32)} {d : Nat} {J : xv_J} {pc : Nat} {a0 a1 a2 a3 a4 a5 a6 a7 a8 a9 a10 a11 a12 : Option Value} {t : List (Option Value)} {st : List Value} {u : xv_M} {n1 s1 : Nat} {P : xv_P} {x : Int32} (hdg : decode J.2.1 pc = .ok (.istore 12, 2)) (hn : 12 < J.2.2.1) (h2 : xv_c2 [a0, a1, a2, a3, a4, a5, a6, a7, a8, a9, a10, a11] 12 = true) (k : xv_X sc d J (pc + 2) (a0 :: a1 :: a2 :: a3 :: a4 :: a5 :: a6 :: a7 :: a8 :: a9 :: a10 :: a11 :: some (.int x) :: t) st u n1 s1 P) : xv_X sc d J pc (a0 :: a1 :: a2 :: a3 :: a4 :: a5 :: a6 :: a7 :: a8 :: a9 :: a10 :: a11 :: a12 :: t) (.int x :: st) u n1 s1 P := xv_istoreG hdg hn h2 k
theorem xv_astore_12 {sc : Nat × (Nat → Int32)} {d : Nat} {J : xv_J} {pc : Nat} {a0 a1 a2 a3 a4 a5 a6 a7 a8 a9 a10 a11 a12 : Option Value} {t : List (Option Value)} {st : List Value} {u : xv_M} {n1 s1 : Nat} {P : xv_P} {x : Nat} (hdg : decode J.2.1 pc = .ok (.astore 12, 2)) (hn : 12 < J.2.2.1) (h2 : xv_c2 [a0, a1, a2, a3, a4, a5, a6, a7, a8, a9, a10, a11] 12 = true) (k : xv_X sc d J (pc + 2) (a0 :: a1 :: a2 :: a3 :: a4 :: a5 :: a6 :: a7 :: a8 :: a9 :: a10 :: a11 :: some (.ref x) :: t) st u n1 s1 P) : xv_X sc d J pc (a0 :: a1 :: a2 :: a3 :: a4 :: a5 :: a6 :: a7 :: a8 :: a9 :: a10 :: a11 :: a12 :: t) (.ref x :: st) u n1 s1 P := xv_astoreG hdg hn h2 k
theorem xv_iinc_12 {sc : Nat × (Nat → Int32)} {d : Nat} {J : xv_J} {pc : Nat} {a0 a1 a2 a3 a4 a5 a6 a7 a8 a9 a10 a11 : Option Value} {t : List (Option Value)} {st : List Value} {u : xv_M} {n1 s1 : Nat} {P : xv_P} {n : Int} {x : Int32} (v : Int32) (hdg : decode J.2.1 pc = .ok (.iinc 12 n, 3)) (hv : x + Int32.ofInt n = v) (hn : 12 < J.2.2.1) (h2 : xv_c2 [a0, a1, a2, a3, a4, a5, a6, a7, a8, a9, a10, a11] 12 = true) (k : xv_X sc d J (pc + 3) (a0 :: a1 :: a2 :: a3 :: a4 :: a5 :: a6 :: a7 :: a8 :: a9 :: a10 :: a11 :: some (.int v) :: t) st u n1 s1 P) : xv_X sc d J pc (a0 :: a1 :: a2 :: a3 :: a4 :: a5 :: a6 :: a7 :: a8 :: a9 :: a10 :: a11 :: some (.int x) :: t) st u n1 s1 P := xv_iincG v hdg rfl hv hn h2 k
theorem xv_istore_13 {sc : Nat × (Nat → Int32)} {d : Nat} {J : xv_J} {pc : Nat} {a0 a1 a2 a3 a4 a5 a6 a7 a8 a9 a10 a11 a12 a13 : Option Value} {t : List (Option Value)} {st : List Value} {u : xv_M} {n1 s1 : Nat} {P : xv_P} {x : Int32} (hdg : decode J.2.1 pc = .ok (.istore 13, 2)) (hn : 13 < J.2.2.1) (h2 : xv_c2 [a0, a1, a2, a3, a4, a5, a6, a7, a8, a9, a10, a11, a12] 13 = true) (k : xv_X sc d J (pc + 2) (a0 :: a1 :: a2 :: a3 :: a4 :: a5 :: a6 :: a7 :: a8 :: a9 :: a10 :: a11 :: a12 :: some (.int x) :: t) st u n1 s1 P) : xv_X sc d J pc (a0 :: a1 :: a2 :: a3 :: a4 :: a5 :: a6 :: a7 :: a8 :: a9 :: a10 :: a11 :: a12 :: a13 :: t) (.int x :: st) u n1 s1 P := xv_istoreG hdg hn h2 k
theorem xv_astore_13 {sc : Nat × (Nat → Int32)} {d : Nat} {J : xv_J} {pc : Nat} {a0 a1 a2 a3 a4 a5 a6 a7 a8 a9 a10 a11 a12 a13 : Option Value} {t : List (Option Value)} {st : List Value} {u : xv_M} {n1 s1 : Nat} {P : xv_P} {x : Nat} (hdg : decode J.2.1 pc = .ok (.astore 13, 2)) (hn : 13 < J.2.2.1) (h2 : xv_c2 [a0, a1, a2, a3, a4, a5, a6, a7, a8, a9, a10, a11, a12] 13 = true) (k : xv_X sc d J (pc + 2) (a0 :: a1 :: a2 :: a3 :: a4 :: a5 :: a6 :: a7 :: a8 :: a9 :: a10 :: a11 :: a12 :: some (.ref x) :: t) st u n1 s1 P) : xv_X sc d J pc (a0 :: a1 :: a2 :: a3 :: a4 :: a5 :: a6 :: a7 :: a8 :: a9 :: a10 :: a11 :: a12 :: a13 :: t) (.ref x :: st) u n1 s1 P := xv_astoreG hdg hn h2 k
theorem xv_iinc_13 {sc : Nat × (Nat → Int32)} {d : Nat} {J : xv_J} {pc : Nat} {a0 a1 a2 a3 a4 a5 a6 a7 a8 a9 a10 a11 a12 : Option Value} {t : List (Option Value)} {st : List Value} {u : xv_M} {n1 s1 : Nat} {P : xv_P} {n : Int} {x : Int32} (v : Int32) (hdg : decode J.2.1 pc = .ok (.iinc 13 n, 3)) (hv : x + Int32.ofInt n = v) (hn : 13 < J.2.2.1) (h2 : xv_c2 [a0, a1, a2, a3, a4, a5, a6, a7, a8, a9, a10, a11, a12] 13 = true) (k : xv_X sc d J (pc + 3) (a0 :: a1 :: a2 :: a3 :: a4 :: a5 :: a6 :: a7 :: a8 :: a9 :: a10 :: a11 :: a12 :: some (.int v) :: t) st u n1 s1 P) : xv_X sc d J pc (a0 :: a1 :: a2 :: a3 :: a4 :: a5 :: a6 :: a7 :: a8 :: a9 :: a10 :: a11 :: a12 :: some (.int x) :: t) st u n1 s1 P := xv_iincG v hdg rfl hv hn h2 k
theorem xv_istore_14 {sc : Nat × (Nat → Int32)} {d : Nat} {J : xv_J} {pc : Nat} {a0 a1 a2 a3 a4 a5 a6 a7 a8 a9 a10 a11 a12 a13 a14 : Option Value} {t : List (Option Value)} {st : List Value} {u : xv_M} {n1 s1 : Nat} {P : xv_P} {x : Int32} (hdg : decode J.2.1 pc = .ok (.istore 14, 2)) (hn : 14 < J.2.2.1) (h2 : xv_c2 [a0, a1, a2, a3, a4, a5, a6, a7, a8, a9, a10, a11, a12, a13] 14 = true) (k : xv_X sc d J (pc + 2) (a0 :: a1 :: a2 :: a3 :: a4 :: a5 :: a6 :: a7 :: a8 :: a9 :: a10 :: a11 :: a12 :: a13 :: some (.int x) :: t) st u n1 s1 P) : xv_X sc d J pc (a0 :: a1 :: a2 :: a3 :: a4 :: a5 :: a6 :: a7 :: a8 :: a9 :: a10 :: a11 :: a12 :: a13 :: a14 :: t) (.int x :: st) u n1 s1 P := xv_istoreG hdg hn h2 k
theorem xv_astore_14 {sc : Nat × (Nat → Int32)} {d : Nat} {J : xv_J} {pc : Nat} {a0 a1 a2 a3 a4 a5 a6 a7 a8 a9 a10 a11 a12 a13 a14 : Option Value} {t : List (Option Value)} {st : List Value} {u : xv_M} {n1 s1 : Nat} {P : xv_P} {x : Nat} (hdg : decode J.2.1 pc = .ok (.astore 14, 2)) (hn : 14 < J.2.2.1) (h2 : xv_c2 [a0, a1, a2, a3, a4, a5, a6, a7, a8, a9, a10, a11, a12, a13] 14 = true) (k : xv_X sc d J (pc + 2) (a0 :: a1 :: a2 :: a3 :: a4 :: a5 :: a6 :: a7 :: a8 :: a9 :: a10 :: a11 :: a12 :: a13 :: some (.ref x) :: t) st u n1 s1 P) : xv_X sc d J pc (a0 :: a1 :: a2 :: a3 :: a4 :: a5 :: a6 :: a7 :: a8 :: a9 :: a10 :: a11 :: a12 :: a13 :: a14 :: t) (.ref x :: st) u n1 s1 P := xv_astoreG hdg hn h2 k
theorem xv_iinc_14 {sc : Nat × (Nat → Int32)} {d : Nat} {J : xv_J} {pc : Nat} {a0 a1 a2 a3 a4 a5 a6 a7 a8 a9 a10 a11 a12 a13 : Option Value} {t : List (Option Value)} {st : List Value} {u : xv_M} {n1 s1 : Nat} {P : xv_P} {n : Int} {x : Int32} (v : Int32) (hdg : decode J.2.1 pc = .ok (.iinc 14 n, 3)) (hv : x + Int32.ofInt n = v) (hn : 14 < J.2.2.1) (h2 : xv_c2 [a0, a1, a2, a3, a4, a5, a6, a7, a8, a9, a10, a11, a12, a13] 14 = true) (k : xv_X sc d J (pc + 3) (a0 :: a1 :: a2 :: a3 :: a4 :: a5 :: a6 :: a7 :: a8 :: a9 :: a10 :: a11 :: a12 :: a13 :: some (.int v) :: t) st u n1 s1 P) : xv_X sc d J pc (a0 :: a1 :: a2 :: a3 :: a4 :: a5 :: a6 :: a7 :: a8 :: a9 :: a10 :: a11 :: a12 :: a13 :: some (.int x) :: t) st u n1 s1 P := xv_iincG v hdg rfl hv hn h2 k
theorem xv_istore_15 {sc : Nat × (Nat → Int32)} {d : Nat} {J : xv_J} {pc : Nat} {a0 a1 a2 a3 a4 a5 a6 a7 a8 a9 a10 a11 a12 a13 a14 a15 : Option Value} {t : List (Option Value)} {st : List Value} {u : xv_M} {n1 s1 : Nat} {P : xv_P} {x : Int32} (hdg : decode J.2.1 pc = .ok (.istore 15, 2)) (hn : 15 < J.2.2.1) (h2 : xv_c2 [a0, a1, a2, a3, a4, a5, a6, a7, a8, a9, a10, a11, a12, a13, a14] 15 = true) (k : xv_X sc d J (pc + 2) (a0 :: a1 :: a2 :: a3 :: a4 :: a5 :: a6 :: a7 :: a8 :: a9 :: a10 :: a11 :: a12 :: a13 :: a14 :: some (.int x) :: t) st u n1 s1 P) : xv_X sc d J pc (a0 :: a1 :: a2 :: a3 :: a4 :: a5 :: a6 :: a7 :: a8 :: a9 :: a10 :: a11 :: a12 :: a13 :: a14 :: a15 :: t) (.int x :: st) u n1 s1 P := xv_istoreG hdg hn h2 k
theorem xv_astore_15 {sc : Nat × (Nat → Int32)} {d : Nat} {J : xv_J} {pc : Nat} {a0 a1 a2 a3 a4 a5 a6 a7 a8 a9 a10 a11 a12 a13 a14 a15 : Option Value} {t : List (Option Value)} {st : List Value} {u : xv_M} {n1 s1 : Nat} {P : xv_P} {x : Nat} (hdg : decode J.2.1 pc = .ok (.astore 15, 2)) (hn : 15 < J.2.2.1) (h2 : xv_c2 [a0, a1, a2, a3, a4, a5, a6, a7, a8, a9, a10, a11, a12, a13, a14] 15 = true) (k : xv_X sc d J (pc + 2) (a0 :: a1 :: a2 :: a3 :: a4 :: a5 :: a6 :: a7 :: a8 :: a9 :: a10 :: a11 :: a12 :: a13 :: a14 :: some (.ref x) :: t) st u n1 s1 P) : xv_X sc d J pc (a0 :: a1 :: a2 :: a3 :: a4 :: a5 :: a6 :: a7 :: a8 :: a9 :: a10 :: a11 :: a12 :: a13 :: a14 :: a15 :: t) (.ref x :: st) u n1 s1 P := xv_astoreG hdg hn h2 k
theorem xv_iinc_15 {sc : Nat × (Nat → Int32)} {d : Nat} {J : xv_J} {pc : Nat} {a0 a1 a2 a3 a4 a5 a6 a7 a8 a9 a10 a11 a12 a13 a14 : Option Value} {t : List (Option Value)} {st : List Value} {u : xv_M} {n1 s1 : Nat} {P : xv_P} {n : Int} {x : Int32} (v : Int32) (hdg : decode J.2.1 pc = .ok (.iinc 15 n, 3)) (hv : x + Int32.ofInt n = v) (hn : 15 < J.2.2.1) (h2 : xv_c2 [a0, a1, a2, a3, a4, a5, a6, a7, a8, a9, a10, a11, a12, a13, a14] 15 = true) (k : xv_X sc d J (pc + 3) (a0 :: a1 :: a2 :: a3 :: a4 :: a5 :: a6 :: a7 :: a8 :: a9 :: a10 :: a11 :: a12 :: a13 :: a14 :: some (.int v) :: t) st u n1 s1 P) : xv_X sc d J pc (a0 :: a1 :: a2 :: a3 :: a4 :: a5 :: a6 :: a7 :: a8 :: a9 :: a10 :: a11 :: a12 :: a13 :: a14 :: some (.int x) :: t) st u n1 s1 P := xv_iincG v hdg rfl hv hn h2 k
end
section
/-! fields, arrays, new cells -/
def xv_Fd (own : String) (index ci j : Nat) (ty : FieldType) : Prop := ci < xv_nc ∧ j < xv_nf ci ∧ xv_ty ci j = ty ∧ Cond.fieldLink own index (xv_T ci j).1 (xv_T ci j).2.1 (xv_T ci j).2.2.1 ∈ xv_BIG
theorem xv_cl_at {ci : Nat} (h : ci < xv_nc) : xv_cl[ci]? = some (xv_nm ci, xv_T ci, xv_nf ci) := by
  have hl : ci < xv_cl.length := h
  unfold xv_nm xv_T xv_nf
  rw [List.getD_eq_getElem?_getD, List.getElem?_eq_getElem hl]
  rfl
section HEAP
variable {sc : Nat × (Nat → Int32)} {d : Nat} {J : xv_J} {pc : Nat} {lv : List (Option Value)} {st : List Value} {u : xv_M} {n1 s1 : Nat} {P : xv_P}
theorem xv_he {G : xv_G} {u : xv_M} {a ci : Nat} (wf : xv_wf u) (hc : ci < xv_nc) (hk : xv_k u a = ci + 1) : (xv_ws G u)[a]? = some (xv_B G + a, .inr (ci, xv_fs G u a ci)) := by
  rw [xv_ws_get (wf a (by omega)), xv_E_obj hk (Nat.lt_of_lt_of_le hc xv_nc_le)]
theorem xv_getI {a ci j index : Nat} {ty : FieldType} (hdg : decode J.2.1 pc = .ok (.getfield index, 3)) (hF : xv_Fd J.1.cls index ci j ty) (hr : ty.isReference = false) (hk : xv_k u a = ci + 1) (k : xv_X sc d J (pc + 3) lv (.int (xv_i u a j) :: st) u n1 s1 P) : xv_X sc d J pc lv (.ref a :: st) u n1 s1 P := by
  intro p l e R s m args below meth c G N0 S0 Q H locs ls A0 lo hP wf hS hN hZ
  obtain ⟨hc, hj, hty, hl⟩ := hF
  refine va_get (D := xv_dG G) (ci := ci) (C := xv_nm ci) (T := xv_T ci) (N := xv_nf ci) (v := .int (xv_i u a j)) A0.1 A0.2.1 A0.2.2.2.2.2.1 (xv_cls ci hc).1 A0.2.2.2.2.1 A0.2.2.2.2.2.2.2.2.1.1 hP a (xv_he wf hc hk) (xv_cl_at hc) j hj (A0.2.2.2.2.2.1 _ hl) (fun _ h => h) ?_ hdg (k p l e R s m args below meth c G N0 S0 Q H locs ls A0 lo hP wf hS hN hZ)
  rw [xv_fs_get hj]
  unfold xv_fv xv_rf
  rw [hty, if_neg (by rw [hr]; decide)]
theorem xv_getR {a b ci j index : Nat} {ty : FieldType} (hdg : decode J.2.1 pc = .ok (.getfield index, 3)) (hF : xv_Fd J.1.cls index ci j ty) (hr : ty.isReference = true) (hk : xv_k u a = ci + 1) (hb : xv_r u a j = some b) (k : xv_X sc d J (pc + 3) lv (.ref b :: st) u n1 s1 P) : xv_X sc d J pc lv (.ref a :: st) u n1 s1 P := by
  intro p l e R s m args below meth c G N0 S0 Q H locs ls A0 lo hP wf hS hN hZ
  obtain ⟨hc, hj, hty, hl⟩ := hF
  refine va_get (D := xv_dG G) (ci := ci) (C := xv_nm ci) (T := xv_T ci) (N := xv_nf ci) (v := .ref (xv_B G + b)) A0.1 A0.2.1 A0.2.2.2.2.2.1 (xv_cls ci hc).1 A0.2.2.2.2.1 A0.2.2.2.2.2.2.2.2.1.1 hP a (xv_he wf hc hk) (xv_cl_at hc) j hj (A0.2.2.2.2.2.1 _ hl) (fun _ h => h) ?_ hdg (k p l e R s m args below meth c G N0 S0 Q H locs ls A0 lo hP wf hS hN hZ)
  rw [xv_fs_get hj]
  unfold xv_fv xv_rf
  rw [hty, if_pos hr, hb]
  rfl
def xv_okI (ty : FieldType) (x : Int32) : Prop := ty = .int ∨ (ty = .boolean ∧ (x = 0 ∨ x = 1))
theorem xv_okI_nar {ty : FieldType} {x : Int32} (h : xv_okI ty x) : narrow ty (.int x) = .int x ∧ fits ty (.int x) = true ∧ ty.isReference = false := by
  rcases h with rfl | ⟨rfl, rfl | rfl⟩
  · exact ⟨rfl, rfl, rfl⟩
  · exact ⟨rfl, rfl, rfl⟩
  · exact ⟨rfl, rfl, rfl⟩
theorem xv_ws_si {G : xv_G} {a ci j : Nat} {x : Int32} (hc : ci < xv_nc) (hk : xv_k u a = ci + 1) (hr : xv_rf ci j = false) : (xv_ws G u).set a (xv_B G + a, .inr (ci, (xv_fs G u a ci).set j (.int x))) = xv_ws G (xv_si u a j x) := by
  refine xv_ws_set rfl ?_ (fun b hb => xv_si_E hb)
  rw [xv_E_obj (u := xv_si u a j x) hk (Nat.lt_of_lt_of_le hc xv_nc_le)]
  congr 2
  refine (xv_fs_set ?_ (fun q hq => ?_)).symm
  · unfold xv_fv
    rw [if_neg (by rw [hr]; decide)]
    simp [xv_i, xv_si, xv_mk]
  · unfold xv_fv
    have e : xv_i (xv_si u a j x) a q = xv_i u a q := if_neg (fun z => hq z.2)
    rw [e]
    rfl
theorem xv_ws_sr {G : xv_G} {a ci j : Nat} {x : Option Nat} (hc : ci < xv_nc) (hk : xv_k u a = ci + 1) (hr : xv_rf ci j = true) : (xv_ws G u).set a (xv_B G + a, .inr (ci, (xv_fs G u a ci).set j (va_rf (xv_rq G x)))) = xv_ws G (xv_sr u a j x) := by
  refine xv_ws_set rfl ?_ (fun b hb => xv_sr_E hb)
  rw [xv_E_obj (u := xv_sr u a j x) hk (Nat.lt_of_lt_of_le hc xv_nc_le)]
  congr 2
  refine (xv_fs_set ?_ (fun q hq => ?_)).symm
  · unfold xv_fv
    rw [if_pos hr]
    simp [xv_r, xv_sr, xv_mk]
  · unfold xv_fv
    have e : xv_r (xv_sr u a j x) a q = xv_r u a q := if_neg (fun z => hq z.2)
    rw [e]
    rfl
theorem xv_putI {a ci j index : Nat} {ty : FieldType} {x : Int32} (hdg : decode J.2.1 pc = .ok (.putfield index, 3)) (hF : xv_Fd J.1.cls index ci j ty) (hx : xv_okI ty x) (hfin : (xv_T ci j).2.2.2 = false) (hk : xv_k u a = ci + 1) (k : xv_X sc d J (pc + 3) lv st (xv_si u a j x) n1 s1 P) : xv_X sc d J pc lv (.int x :: .ref a :: st) u n1 s1 P := by
  intro p l e R s m args below meth c G N0 S0 Q H locs ls A0 lo hP wf hS hN hZ
  obtain ⟨hc, hj, hty, hl⟩ := hF
  obtain ⟨g1, g2, g3⟩ := xv_okI_nar hx
  refine va_put (D := xv_dG G) (ci := ci) (C := xv_nm ci) (T := xv_T ci) (N := xv_nf ci) (v := .int x) (ty := ty) A0.1 A0.2.1 A0.2.2.2.2.2.1 (xv_cls ci hc).1 (xv_ty ci) (xv_cls ci hc).2.1 (xv_cls ci hc).2.2 A0.2.2.2.2.1 A0.2.2.2.2.2.2.2.2.1.1 hP (xv_D G u) hS a (xv_he wf hc hk) (xv_cl_at hc) j hj (A0.2.2.2.2.2.1 _ hl) (fun _ h => h) hfin (by rw [(xv_cls ci hc).2.1 j hj, hty]) g1 g2 (by rw [xv_fs_len]; exact hj) hdg (fun H1 locs1 hP1 _ hS1 => ?_)
  rw [xv_ws_si hc hk (by unfold xv_rf; rw [hty]; exact g3)] at hP1
  exact k p l e R s m args below meth c G N0 S0 Q H1 locs1 ls A0 lo hP1 (xv_wf_si wf) hS1 hN hZ
theorem xv_putIF {a ci j index : Nat} {ty : FieldType} {x : Int32} (hdg : decode J.2.1 pc = .ok (.putfield index, 3)) (hF : xv_Fd J.1.cls index ci j ty) (hx : xv_okI ty x) (hfin : (xv_T ci j).2.2.2 = true) (hin : J.1.name = "<init>") (hde : (xv_T ci j).1 = J.1.cls) (hk : xv_k u a = ci + 1) (k : xv_X sc d J (pc + 3) lv st (xv_si u a j x) n1 s1 P) : xv_X sc d J pc lv (.int x :: .ref a :: st) u n1 s1 P := by
  intro p l e R s m args below meth c G N0 S0 Q H locs ls A0 lo hP wf hS hN hZ
  obtain ⟨hc, hj, hty, hl⟩ := hF
  obtain ⟨g1, g2, g3⟩ := xv_okI_nar hx
  refine va_putF (D := xv_dG G) (ci := ci) (C := xv_nm ci) (T := xv_T ci) (N := xv_nf ci) (v := .int x) (ty := ty) A0.1 A0.2.1 A0.2.2.2.2.2.1 (xv_cls ci hc).1 (xv_ty ci) (xv_cls ci hc).2.1 (xv_cls ci hc).2.2 A0.2.2.2.2.1 A0.2.2.2.2.2.2.2.2.1.1 hP (xv_D G u) hS a (xv_he wf hc hk) (xv_cl_at hc) j hj (A0.2.2.2.2.2.1 _ hl) (fun _ h => h) hfin (A0.2.2.2.2.2.2.2.1.trans hin) hde (by rw [(xv_cls ci hc).2.1 j hj, hty]) g1 g2 (by rw [xv_fs_len]; exact hj) hdg (fun H1 locs1 hP1 _ hS1 => ?_)
  rw [xv_ws_si hc hk (by unfold xv_rf; rw [hty]; exact g3)] at hP1
  exact k p l e R s m args below meth c G N0 S0 Q H1 locs1 ls A0 lo hP1 (xv_wf_si wf) hS1 hN hZ
theorem xv_isRef {ty : FieldType} {b : Nat} (h : ty.isReference = true) : narrow ty (.ref b) = .ref b ∧ fits ty (.ref b) = true := by
  cases ty <;> first | exact ⟨rfl, rfl⟩ | cases h
theorem xv_putR {a b ci j index : Nat} {ty : FieldType} (hdg : decode J.2.1 pc = .ok (.putfield index, 3)) (hF : xv_Fd J.1.cls index ci j ty) (hr : ty.isReference = true) (hfin : (xv_T ci j).2.2.2 = false) (hk : xv_k u a = ci + 1) (k : xv_X sc d J (pc + 3) lv st (xv_sr u a j (some b)) n1 s1 P) : xv_X sc d J pc lv (.ref b :: .ref a :: st) u n1 s1 P := by
  intro p l e R s m args below meth c G N0 S0 Q H locs ls A0 lo hP wf hS hN hZ
  obtain ⟨hc, hj, hty, hl⟩ := hF
  obtain ⟨g1, g2⟩ := xv_isRef (b := xv_B G + b) hr
  refine va_put (D := xv_dG G) (ci := ci) (C := xv_nm ci) (T := xv_T ci) (N := xv_nf ci) (v := .ref (xv_B G + b)) (ty := ty) A0.1 A0.2.1 A0.2.2.2.2.2.1 (xv_cls ci hc).1 (xv_ty ci) (xv_cls ci hc).2.1 (xv_cls ci hc).2.2 A0.2.2.2.2.1 A0.2.2.2.2.2.2.2.2.1.1 hP (xv_D G u) hS a (xv_he wf hc hk) (xv_cl_at hc) j hj (A0.2.2.2.2.2.1 _ hl) (fun _ h => h) hfin (by rw [(xv_cls ci hc).2.1 j hj, hty]) g1 g2 (by rw [xv_fs_len]; exact hj) hdg (fun H1 locs1 hP1 _ hS1 => ?_)
  have ee := xv_ws_sr (G := G) (x := some b) (j := j) hc hk (by unfold xv_rf; rw [hty]; exact hr)
  rw [show va_rf (xv_rq G (some b)) = Value.ref (xv_B G + b) from rfl] at ee
  rw [ee] at hP1
  exact k p l e R s m args below meth c G N0 S0 Q H1 locs1 ls A0 lo hP1 (xv_wf_sr wf) hS1 hN hZ
theorem xv_putRF {a b ci j index : Nat} {ty : FieldType} (hdg : decode J.2.1 pc = .ok (.putfield index, 3)) (hF : xv_Fd J.1.cls index ci j ty) (hr : ty.isReference = true) (hfin : (xv_T ci j).2.2.2 = true) (hin : J.1.name = "<init>") (hde : (xv_T ci j).1 = J.1.cls) (hk : xv_k u a = ci + 1) (k : xv_X sc d J (pc + 3) lv st (xv_sr u a j (some b)) n1 s1 P) : xv_X sc d J pc lv (.ref b :: .ref a :: st) u n1 s1 P := by
  intro p l e R s m args below meth c G N0 S0 Q H locs ls A0 lo hP wf hS hN hZ
  obtain ⟨hc, hj, hty, hl⟩ := hF
  obtain ⟨g1, g2⟩ := xv_isRef (b := xv_B G + b) hr
  refine va_putF (D := xv_dG G) (ci := ci) (C := xv_nm ci) (T := xv_T ci) (N := xv_nf ci) (v := .ref (xv_B G + b)) (ty := ty) A0.1 A0.2.1 A0.2.2.2.2.2.1 (xv_cls ci hc).1 (xv_ty ci) (xv_cls ci hc).2.1 (xv_cls ci hc).2.2 A0.2.2.2.2.1 A0.2.2.2.2.2.2.2.2.1.1 hP (xv_D G u) hS a (xv_he wf hc hk) (xv_cl_at hc) j hj (A0.2.2.2.2.2.1 _ hl) (fun _ h => h) hfin (A0.2.2.2.2.2.2.2.1.trans hin) hde (by rw [(xv_cls ci hc).2.1 j hj, hty]) g1 g2 (by rw [xv_fs_len]; exact hj) hdg (fun H1 locs1 hP1 _ hS1 => ?_)
  have ee := xv_ws_sr (G := G) (x := some b) (j := j) hc hk (by unfold xv_rf; rw [hty]; exact hr)
  rw [show va_rf (xv_rq G (some b)) = Value.ref (xv_B G + b) from rfl] at ee
  rw [ee] at hP1
  exact k p l e R s m args below meth c G N0 S0 Q H1 locs1 ls A0 lo hP1 (xv_wf_sr wf) hS1 hN hZ
/-! arrays -/
theorem xv_hi {G : xv_G} {u : xv_M} {a t : Nat} (wf : xv_wf u) (ht : t < 2) (hk : xv_k u a = 100 + t) : (xv_ws G u)[a]? = some (xv_B G + a, .inl (xv_cA G t, xv_l u a, .inl (xv_i u a))) := by
  rw [xv_ws_get (wf a (by omega)), xv_E_int hk ht]
theorem xv_ald {a : Nat} {x : Int32} (hdg : decode J.2.1 pc = .ok (.iaload, 1)) (hk : xv_k u a = 100) (hin : vp_in x (xv_l u a)) (k : xv_X sc d J (pc + 1) lv (.int (xv_i u a x.toNatClampNeg) :: st) u n1 s1 P) : xv_X sc d J pc lv (.int x :: .ref a :: st) u n1 s1 P := by
  intro p l e R s m args below meth c G N0 S0 Q H locs ls A0 lo hP wf hS hN hZ
  exact va_iald A0.1 A0.2.1 A0.2.2.2.2.2.2.2.2.1.1 hP a 0 (xv_hi (t := 0) wf (by omega) hk) rfl hin hdg (k p l e R s m args below meth c G N0 S0 Q H locs ls A0 lo hP wf hS hN hZ)
theorem xv_zald {a : Nat} {x : Int32} (hdg : decode J.2.1 pc = .ok (.baload, 1)) (hk : xv_k u a = 101) (hin : vp_in x (xv_l u a)) (k : xv_X sc d J (pc + 1) lv (.int (xv_i u a x.toNatClampNeg) :: st) u n1 s1 P) : xv_X sc d J pc lv (.int x :: .ref a :: st) u n1 s1 P := by
  intro p l e R s m args below meth c G N0 S0 Q H locs ls A0 lo hP wf hS hN hZ
  exact va_zald A0.1 A0.2.1 A0.2.2.2.2.2.2.2.2.1.1 hP a 1 (xv_hi (t := 1) wf (by omega) hk) rfl hin hdg (k p l e R s m args below meth c G N0 S0 Q H locs ls A0 lo hP wf hS hN hZ)
theorem xv_ws_ai {G : xv_G} {a t j : Nat} {x : Int32} (ht : t < 2) (hk : xv_k u a = 100 + t) : (xv_ws G u).set a (xv_B G + a, .inl (xv_cA G t, xv_l u a, .inl (upd (xv_i u a) j x))) = xv_ws G (xv_si u a j x) := by
  refine xv_ws_set rfl ?_ (fun b hb => xv_si_E hb)
  rw [xv_E_int (u := xv_si u a j x) hk ht]
  have ef : xv_i (xv_si u a j x) a = upd (xv_i u a) j x := by
    funext q
    by_cases hq : q = j
    · subst hq
      simp [xv_i, xv_si, xv_mk, upd]
    · have e : xv_i (xv_si u a j x) a q = xv_i u a q := if_neg (fun z => hq z.2)
      rw [e]
      simp [upd, hq]
  rw [ef]
  rfl
theorem xv_ast {a : Nat} {x y : Int32} (hdg : decode J.2.1 pc = .ok (.iastore, 1)) (hk : xv_k u a = 100) (hin : vp_in x (xv_l u a)) (k : xv_X sc d J (pc + 1) lv st (xv_si u a x.toNatClampNeg y) n1 s1 P) : xv_X sc d J pc lv (.int y :: .int x :: .ref a :: st) u n1 s1 P := by
  intro p l e R s m args below meth c G N0 S0 Q H locs ls A0 lo hP wf hS hN hZ
  refine va_iast A0.1 A0.2.1 A0.2.2.2.2.2.2.2.2.1.1 hP (xv_D G u) hS a 0 (xv_hi (t := 0) wf (by omega) hk) rfl hin hdg (fun H1 locs1 hP1 _ hS1 => ?_)
  rw [xv_ws_ai (t := 0) (by omega) hk] at hP1
  exact k p l e R s m args below meth c G N0 S0 Q H1 locs1 ls A0 lo hP1 (xv_wf_si wf) hS1 hN hZ
theorem xv_zast {a : Nat} {x y : Int32} (hdg : decode J.2.1 pc = .ok (.bastore, 1)) (hk : xv_k u a = 101) (hin : vp_in x (xv_l u a)) (hy : vp_nar .boolean y = y) (k : xv_X sc d J (pc + 1) lv st (xv_si u a x.toNatClampNeg y) n1 s1 P) : xv_X sc d J pc lv (.int y :: .int x :: .ref a :: st) u n1 s1 P := by
  intro p l e R s m args below meth c G N0 S0 Q H locs ls A0 lo hP wf hS hN hZ
  refine va_zast A0.1 A0.2.1 A0.2.2.2.2.2.2.2.2.1.1 hP (xv_D G u) hS a 1 (xv_hi (t := 1) wf (by omega) hk) rfl hin hdg (fun H1 locs1 hP1 _ hS1 => ?_)
  rw [hy, xv_ws_ai (t := 1) (by omega) hk] at hP1
  exact k p l e R s m args below meth c G N0 S0 Q H1 locs1 ls A0 lo hP1 (xv_wf_si wf) hS1 hN hZ
theorem xv_hr {G : xv_G} {u : xv_M} {a t : Nat} (wf : xv_wf u) (hk : xv_k u a = 103 + t) : (xv_ws G u)[a]? = some (xv_B G + a, .inl (xv_cA G (3 + t), xv_l u a, .inr (.inr (.inr (.inr (fun j => xv_rq G (xv_r u a j))))))) := by
  rw [xv_ws_get (wf a (by omega)), xv_E_ref hk]
theorem xv_aald {a b t : Nat} {C : String} {x : Int32} (hdg : decode J.2.1 pc = .ok (.aaload, 1)) (hk : xv_k u a = 103 + t) (ht : xv_ra[t]? = some C) (hin : vp_in x (xv_l u a)) (hb : xv_r u a x.toNatClampNeg = some b) (k : xv_X sc d J (pc + 1) lv (.ref b :: st) u n1 s1 P) : xv_X sc d J pc lv (.int x :: .ref a :: st) u n1 s1 P := by
  intro p l e R s m args below meth c G N0 S0 Q H locs ls A0 lo hP wf hS hN hZ
  refine va_aldq A0.1 A0.2.1 A0.2.2.2.2.2.2.2.2.1.1 hP a (3 + t) (C := C) (xv_hr wf hk) (xv_tys_at ht) hin hdg ?_
  rw [hb]
  exact k p l e R s m args below meth c G N0 S0 Q H locs ls A0 lo hP wf hS hN hZ
theorem xv_aast {a b t ci : Nat} {x : Int32} (hdg : decode J.2.1 pc = .ok (.aastore, 1)) (hk : xv_k u a = 103 + t) (hc : ci < xv_nc) (ht : xv_ra[t]? = some (xv_nm ci)) (hin : vp_in x (xv_l u a)) (hb : xv_k u b = ci + 1) (k : xv_X sc d J (pc + 1) lv st (xv_sr u a x.toNatClampNeg (some b)) n1 s1 P) : xv_X sc d J pc lv (.ref b :: .int x :: .ref a :: st) u n1 s1 P := by
  intro p l e R s m args below meth c G N0 S0 Q H locs ls A0 lo hP wf hS hN hZ
  refine va_astq A0.1 A0.2.1 A0.2.2.2.2.2.2.2.2.1.1 hP (xv_D G u) hS a (3 + t) b ci (r := (xv_nm ci, xv_T ci, xv_nf ci)) (xv_hr wf hk) (xv_tys_at ht) (xv_he wf hc hb) (xv_cl_at hc) hin hdg (fun H1 locs1 hP1 _ hS1 => ?_)
  have e1 : (xv_ws G u).set a (xv_B G + a, .inl (xv_cA G (3 + t), xv_l u a, .inr (.inr (.inr (.inr (va_up (fun j => xv_rq G (xv_r u a j)) x.toNatClampNeg (some (xv_B G + b)))))))) = xv_ws G (xv_sr u a x.toNatClampNeg (some b)) := by
    refine xv_ws_set rfl ?_ (fun q hq => xv_sr_E hq)
    rw [xv_E_ref (u := xv_sr u a x.toNatClampNeg (some b)) hk]
    have ef : (fun j => xv_rq G (xv_r (xv_sr u a x.toNatClampNeg (some b)) a j)) = va_up (fun j => xv_rq G (xv_r u a j)) x.toNatClampNeg (some (xv_B G + b)) := by
      funext q
      by_cases hq : q = x.toNatClampNeg
      · subst hq
        simp [xv_r, xv_sr, xv_mk, va_up, xv_rq]
      · have e : xv_r (xv_sr u a x.toNatClampNeg (some b)) a q = xv_r u a q := if_neg (fun z => hq z.2)
        rw [e]
        simp [va_up, hq]
    rw [ef]
    rfl
  rw [e1] at hP1
  exact k p l e R s m args below meth c G N0 S0 Q H1 locs1 ls A0 lo hP1 (xv_wf_sr wf) hS1 hN hZ
theorem xv_alen {a t : Nat} {v : Int32} {ty : FieldType} (hdg : decode J.2.1 pc = .ok (.arraylength, 1)) (hk : xv_k u a = 100 + t) (ht : ∀ G : xv_G, (xv_tys G)[t]? = some (xv_cA G t, ty)) (hv : Int32.ofNat (xv_l u a) = v) (k : xv_X sc d J (pc + 1) lv (.int v :: st) u n1 s1 P) : xv_X sc d J pc lv (.ref a :: st) u n1 s1 P := by
  intro p l e R s m args below meth c G N0 S0 Q H locs ls A0 lo hP wf hS hN hZ
  exact va_alen A0.1 A0.2.1 A0.2.2.2.2.2.2.2.2.1.1 hP a t (by rw [xv_ws_get (wf a (by omega)), xv_E_arr hk]) (ht G) hv hdg (k p l e R s m args below meth c G N0 S0 Q H locs ls A0 lo hP wf hS hN hZ)
/-! static tables, the script -/
theorem xv_gets {q index : Nat} (hdg : decode J.2.1 pc = .ok (.getstatic index, 3)) (hq : q < xv_ns) (hl : Cond.fieldLink J.1.cls index (xv_sC q) (xv_sn q) "[I" ∈ xv_BIG) (k : xv_X sc d J (pc + 3) lv (.retAddr q :: st) u n1 s1 P) : xv_X sc d J pc lv st u n1 s1 P := by
  intro p l e R s m args below meth c G N0 S0 Q H locs ls A0 lo hP wf hS hN hZ
  exact va_gets A0.1 A0.2.1 (A0.2.2.2.2.2.2.2.2.1.2.2.1 q hq).1 hS A0.2.2.2.2.1 (A0.2.2.2.2.2.1 _ hl) (fun _ h => h) hdg (k p l e R s m args below meth c G N0 S0 Q H locs ls A0 lo hP wf hS hN hZ)
theorem xv_aldS {q : Nat} {x : Int32} (hdg : decode J.2.1 pc = .ok (.iaload, 1)) (hq : q < xv_ns) (hin : vp_in x (xv_sN q)) (k : xv_X sc d J (pc + 1) lv (.int (xv_sf q x.toNatClampNeg) :: st) u n1 s1 P) : xv_X sc d J pc lv (.int x :: .retAddr q :: st) u n1 s1 P := by
  intro p l e R s m args below meth c G N0 S0 Q H locs ls A0 lo hP wf hS hN hZ
  exact va_ti A0.1 A0.2.1 (A0.2.2.2.2.2.2.2.2.1.2.2.1 q hq).2 hS hin rfl hdg (k p l e R s m args below meth c G N0 S0 Q H locs ls A0 lo hP wf hS hN hZ)
theorem xv_sld {x : Int32} (hdg : decode J.2.1 pc = .ok (.iaload, 1)) (hin : vp_in x sc.1) (k : xv_X sc d J (pc + 1) lv (.int (sc.2 x.toNatClampNeg) :: st) u n1 s1 P) : xv_X sc d J pc lv (.int x :: .retAddr 9 :: st) u n1 s1 P := by
  intro p l e R s m args below meth c G N0 S0 Q H locs ls A0 lo hP wf hS hN hZ
  have hsc : G.2.2.2.2 = sc := A0.2.2.2.2.2.2.2.2.2.2.2.1.1
  have hX := A0.2.2.2.2.2.2.2.2.1.2.2.2.1
  subst hsc
  exact va_sld A0.1 A0.2.1 hX.1 hX.2.1 hX.2.2 hS hin hdg (k p l e R s m args below meth c G N0 S0 Q H locs ls A0 lo hP wf hS hN hZ)
theorem xv_slen (hdg : decode J.2.1 pc = .ok (.arraylength, 1)) (k : xv_X sc d J (pc + 1) lv (.int (Int32.ofNat sc.1) :: st) u n1 s1 P) : xv_X sc d J pc lv (.retAddr 9 :: st) u n1 s1 P := by
  intro p l e R s m args below meth c G N0 S0 Q H locs ls A0 lo hP wf hS hN hZ
  have hsc : G.2.2.2.2 = sc := A0.2.2.2.2.2.2.2.2.2.2.2.1.1
  have hX := A0.2.2.2.2.2.2.2.2.1.2.2.2.1
  subst hsc
  exact va_slen A0.1 A0.2.1 hX.1 hX.2.1 hX.2.2 hS hdg (k p l e R s m args below meth c G N0 S0 Q H locs ls A0 lo hP wf hS hN hZ)
end HEAP
end
section
/-! new cells, contracts, calls -/
section NEWC
variable {p : Program} {l : Launch} {e : Env} {R : Room} {s : State} {m : MethodId} {args : Array Value} {below : List Frame} {meth : Method} {c : Code} {H : Heap} {locs : List Loc} {cells slots : Nat} {Q Q' : State → Prop}
theorem xv_Wsz {g : JFrame} (k : H.size ≤ s.heap.size + cells → W p l e R s m args below meth c H locs cells slots Q g) : W p l e R s m args below meth c H locs cells slots Q g :=
  fun T hT X => k (by rw [← hT]; exact X.heapSize) T hT X
theorem xv_Wmono {g : JFrame} (h : ∀ t, Q t → Q' t) (k : W p l e R s m args below meth c H locs cells slots Q g) : W p l e R s m args below meth c H locs cells slots Q' g := by
  intro T hT X
  obtain ⟨t, a, b⟩ := k T hT X
  exact ⟨t, a, h t b⟩
theorem xv_sz {G : xv_G} {u : xv_M} {N0 : Nat} (hs : s.heap.size = xv_B G + N0) (hN : N0 ≤ xv_N u) (hP : va_P (xv_dG G) xv_cl (xv_ws G u) H) (hS : va_S (xv_A G) s.heap H locs) (hle : H.size ≤ s.heap.size + (xv_N u - N0)) : H.size = xv_B G + xv_N u := by
  have h1 : xv_B G + xv_N u ≤ H.size := by
    by_cases h0 : xv_N u = 0
    · have := hS.1
      omega
    · have h2 : xv_N u - 1 < xv_N u := by omega
      have h3 := (hP _ _ (xv_ws_get h2)).lt
      have h3 : xv_B G + (xv_N u - 1) < H.size := h3
      omega
  omega
end NEWC
section NEWR
variable {sc : Nat × (Nat → Int32)} {d : Nat} {J : xv_J} {pc : Nat} {lv : List (Option Value)} {st : List Value} {u : xv_M} {n1 s1 : Nat} {P : xv_P}
theorem xv_pushed {G : xv_G} {H H1 : Heap} {s : State} {locs : List Loc} {u w : xv_M} {e : va_E} (hsz : H.size = xv_B G + xv_N u) (hP : va_P (xv_dG G) xv_cl (xv_ws G u) H) (o1 : ∀ q, q < xv_B G + xv_N u → H1[q]? = H[q]?) (h1 : va_at (xv_dG G) xv_cl (xv_B G + xv_N u, e) H1) (hN : xv_N w = xv_N u + 1) (he : xv_E G w (xv_N u) = e) (ho : ∀ b, b < xv_N u → xv_E G w b = xv_E G u b) : va_P (xv_dG G) xv_cl (xv_ws G w) H1 := by
  rw [← xv_ws_push (G := G) (u := u) (e := e) hN he ho]
  refine (hP.kept (fun k x hx => o1 x.1 (by have := (hP k x hx).lt; omega))).app (fun k x hx => ?_)
  have hz : k < 1 := (List.getElem?_eq_some_iff.mp hx).1
  rw [show k = 0 by omega] at hx
  cases hx
  exact h1
theorem xv_pushS {G : xv_G} {H H1 : Heap} {s : State} {locs : List Loc} {n : Nat} (hS : va_S (xv_A G) s.heap H locs) (hsz : H.size = n) (z1 : H1.size = n + 1) (o1 : ∀ q, q < n → H1[q]? = H[q]?) : va_S (xv_A G) s.heap H1 locs :=
  ⟨Nat.le_trans hS.1 (by omega), fun x h1 h2 => (o1 x (by have := hS.1; omega)).trans (hS.2.1 x h1 h2), hS.2.2⟩
theorem xv_newO {ci index sl : Nat} (hdg : decode J.2.1 pc = .ok (.new index, 3)) (hc : ci < xv_nc) (hl : Cond.classLink J.1.cls index (xv_nm ci) ∈ xv_BIG) (hi : Cond.instantiable (xv_nm ci) sl ∈ xv_BIG) (hn : Cond.initialized (xv_nm ci) ∈ xv_BIG) (h1 : xv_N u + 1 ≤ n1) (h2 : xv_S u + sl ≤ s1)
    (k : xv_X sc d J (pc + 3) lv (.ref (xv_N u) :: st) (xv_nw u (ci + 1) 0 sl) n1 s1 P) : xv_X sc d J pc lv st u n1 s1 P := by
  intro p l e R s m args below meth c G N0 S0 Q H locs ls A0 lo hP wf hS hN hZ
  refine xv_Wsz fun hle => ?_
  have hA := id A0
  obtain ⟨hx, hb, -, -, hown, hts, -, -, hK, hR, hs, -⟩ := hA
  have hsz := xv_sz hs hN hP hS hle
  have hKn := hK.1.1 ci _ (xv_cl_at hc)
  refine W.newcK (h := xv_B G + xv_N u) (g := F0 m pc ls (st.map (xv_cv G))) hx hb hown (hts _ hl) (hts _ hi) (hts _ hn) rfl hdg (by omega) (by omega) hKn.2.1 hsz fun H1 kC hkC e1 z1 o1 => ?_
  refine W.cs (cells' := xv_N (xv_nw u (ci + 1) 0 sl) - N0) (slots' := xv_S (xv_nw u (ci + 1) 0 sl) - S0) (by show _ = xv_N u + 1 - N0; omega) (by show _ = xv_S u + sl - S0; omega) ?_
  refine k p l e R s m args below meth c G N0 S0 Q H1 locs ls A0 lo ?_ (xv_wf_nw wf) (xv_pushS hS hsz z1 o1) (by show N0 ≤ xv_N u + 1; omega) (by show S0 ≤ xv_S u + sl; omega)
  have hk : xv_k (xv_nw u (ci + 1) 0 sl) (xv_N u) = ci + 1 := if_pos rfl
  refine xv_pushed (s := s) (locs := locs) hsz hP o1 ?_ rfl (xv_E_obj hk (Nat.lt_of_lt_of_le hc xv_nc_le)) (fun b hb => xv_nw_E hb)
  refine ⟨_, xv_cl_at hc, (u_born (xv_ty ci) hts (xv_cls ci hc).1 hKn hkC e1 (xv_cls ci hc).2.1).to (fun j hj => ?_)⟩
  show _ = (xv_fs G (xv_nw u (ci + 1) 0 sl) (xv_N u) ci).getD j .null
  rw [List.getD_eq_getElem?_getD, xv_fs_get hj]
  have hd := xv_cls4 ci hc j hj
  show defaultValue (xv_ty ci j) = xv_fv G (xv_nw u (ci + 1) 0 sl) (xv_N u) ci j
  unfold xv_fv
  rw [hd]
  have er : xv_r (xv_nw u (ci + 1) 0 sl) (xv_N u) j = none := if_pos rfl
  have ei : xv_i (xv_nw u (ci + 1) 0 sl) (xv_N u) j = 0 := if_pos rfl
  rw [er, ei]
  rfl
theorem xv_newI {n : Int32} {N' : Nat} (hdg : decode J.2.1 pc = .ok (.newarray .int, 2)) (hw : Cond.arrayClass .int ∈ xv_BIG) (hn : ¬ n < 0) (hN' : n.toNatClampNeg = N') (hb' : N' ≤ 100000) (h1 : xv_N u + 1 ≤ n1) (h2 : xv_S u + N' ≤ s1)
    (k : xv_X sc d J (pc + 2) lv (.ref (xv_N u) :: st) (xv_nw u 100 N' N') n1 s1 P) : xv_X sc d J pc lv (.int n :: st) u n1 s1 P := by
  intro p l e R s m args below meth c G N0 S0 Q H locs ls A0 lo hP wf hS hN hZ
  refine xv_Wsz fun hle => ?_
  have hA := id A0
  obtain ⟨hx, hb, -, -, hown, hts, -, -, hK, hR, hs, -⟩ := hA
  have hsz := xv_sz hs hN hP hS hle
  refine va_newaK (atype := .int) (N := N') (h := xv_B G + xv_N u) (g := F0 m pc ls (.int n :: st.map (xv_cv G))) hx hb (hts _ hw) rfl hdg rfl hn hN' (by show N' * 4 ≤ 536870912; omega) (by omega) (by omega) hsz fun H1 cA e1 z1 o1 hAr hNm => ?_
  refine W.cs (cells' := xv_N (xv_nw u 100 N' N') - N0) (slots' := xv_S (xv_nw u 100 N' N') - S0) (by show _ = xv_N u + 1 - N0; omega) (by show _ = xv_S u + N' - S0; omega) ?_
  refine k p l e R s m args below meth c G N0 S0 Q H1 locs ls A0 lo ?_ (xv_wf_nw wf) (xv_pushS hS hsz z1 o1) (by show N0 ≤ xv_N u + 1; omega) (by show S0 ≤ xv_S u + N'; omega)
  have hk : xv_k (xv_nw u 100 N' N') (xv_N u) = 100 + 0 := if_pos rfl
  have hcA : cA = xv_cA G 0 := Option.some.inj (hNm.symm.trans (hK.1.2 0 _ rfl).2)
  refine xv_pushed (s := s) (locs := locs) hsz hP o1 ?_ rfl (xv_E_int hk (by omega)) (fun b hb => xv_nw_E hb)
  show H1[xv_B G + xv_N u]? = some (vp_cell _ _)
  rw [vp_cell_i, e1, hcA]
  have el : xv_l (xv_nw u 100 N' N') (xv_N u) = N' := if_pos rfl
  have ei : xv_i (xv_nw u 100 N' N') (xv_N u) = fun _ => 0 := funext fun q => if_pos rfl
  rw [el, ei]
  rfl
theorem xv_newZ {n : Int32} {N' : Nat} (hdg : decode J.2.1 pc = .ok (.newarray .boolean, 2)) (hw : Cond.arrayClass .boolean ∈ xv_BIG) (hn : ¬ n < 0) (hN' : n.toNatClampNeg = N') (hb' : N' ≤ 100000) (h1 : xv_N u + 1 ≤ n1) (h2 : xv_S u + N' ≤ s1)
    (k : xv_X sc d J (pc + 2) lv (.ref (xv_N u) :: st) (xv_nw u 101 N' N') n1 s1 P) : xv_X sc d J pc lv (.int n :: st) u n1 s1 P := by
  intro p l e R s m args below meth c G N0 S0 Q H locs ls A0 lo hP wf hS hN hZ
  refine xv_Wsz fun hle => ?_
  have hA := id A0
  obtain ⟨hx, hb, -, -, hown, hts, -, -, hK, hR, hs, -⟩ := hA
  have hsz := xv_sz hs hN hP hS hle
  refine va_newaK (atype := .boolean) (N := N') (h := xv_B G + xv_N u) (g := F0 m pc ls (.int n :: st.map (xv_cv G))) hx hb (hts _ hw) rfl hdg rfl hn hN' (by show N' * 1 ≤ 536870912; omega) (by omega) (by omega) hsz fun H1 cA e1 z1 o1 hAr hNm => ?_
  refine W.cs (cells' := xv_N (xv_nw u 101 N' N') - N0) (slots' := xv_S (xv_nw u 101 N' N') - S0) (by show _ = xv_N u + 1 - N0; omega) (by show _ = xv_S u + N' - S0; omega) ?_
  refine k p l e R s m args below meth c G N0 S0 Q H1 locs ls A0 lo ?_ (xv_wf_nw wf) (xv_pushS hS hsz z1 o1) (by show N0 ≤ xv_N u + 1; omega) (by show S0 ≤ xv_S u + N'; omega)
  have hk : xv_k (xv_nw u 101 N' N') (xv_N u) = 100 + 1 := if_pos rfl
  have hcA : cA = xv_cA G 1 := Option.some.inj (hNm.symm.trans (hK.1.2 1 _ rfl).2)
  refine xv_pushed (s := s) (locs := locs) hsz hP o1 ?_ rfl (xv_E_int hk (by omega)) (fun b hb => xv_nw_E hb)
  show H1[xv_B G + xv_N u]? = some (vp_cell _ _)
  rw [vp_cell_i, e1, hcA]
  have el : xv_l (xv_nw u 101 N' N') (xv_N u) = N' := if_pos rfl
  have ei : xv_i (xv_nw u 101 N' N') (xv_N u) = fun _ => 0 := funext fun q => if_pos rfl
  rw [el, ei]
  rfl
theorem xv_newR {n : Int32} {N' t index : Nat} {C : String} (hdg : decode J.2.1 pc = .ok (.anewarray index, 3)) (ht : xv_ra[t]? = some C) (hl : Cond.classLink J.1.cls index C ∈ xv_BIG) (hn : ¬ n < 0) (hN' : n.toNatClampNeg = N') (hb' : N' ≤ 100000) (h1 : xv_N u + 1 ≤ n1) (h2 : xv_S u + N' ≤ s1)
    (k : xv_X sc d J (pc + 3) lv (.ref (xv_N u) :: st) (xv_nw u (103 + t) N' N') n1 s1 P) : xv_X sc d J pc lv (.int n :: st) u n1 s1 P := by
  intro p l e R s m args below meth c G N0 S0 Q H locs ls A0 lo hP wf hS hN hZ
  refine xv_Wsz fun hle => ?_
  have hA := id A0
  obtain ⟨hx, hb, -, -, hown, hts, -, -, hK, hR, hs, -⟩ := hA
  have hsz := xv_sz hs hN hP hS hle
  have hAO := hK.2.2.2.2.1 C (List.mem_of_getElem? ht)
  subst hN'
  refine W.anew (g := F0 m pc ls (.int n :: st.map (xv_cv G))) hx hb hown (hts _ hl) (va_AO.use hAO) rfl hdg rfl hn (by omega) (by omega) (by omega) fun cA kA comp f1 f2 f3 f4 => ?_
  generalize hH1 : H.push ({ cls := cA, slots := Array.replicate n.toNatClampNeg .null, vm := .none } : Cell) = H1
  have z1 : H1.size = xv_B G + xv_N u + 1 := by rw [← hH1, Array.size_push, hsz]
  have e1 : H1[xv_B G + xv_N u]? = some (arrV cA n.toNatClampNeg (fun _ => .null)) := by rw [← hH1, ← hsz, Array.getElem?_push_size, ← arrV_new]
  have o1 : ∀ q : Nat, q < xv_B G + xv_N u → H1[q]? = H[q]? := fun q hq => by rw [← hH1, Array.getElem?_push, if_neg (by omega)]
  rw [hsz]
  refine W.cs (cells' := xv_N (xv_nw u (103 + t) n.toNatClampNeg n.toNatClampNeg) - N0) (slots' := xv_S (xv_nw u (103 + t) n.toNatClampNeg n.toNatClampNeg) - S0) (by show _ = xv_N u + 1 - N0; omega) (by show _ = xv_S u + n.toNatClampNeg - S0; omega) ?_
  refine k p l e R s m args below meth c G N0 S0 Q H1 locs ls A0 lo ?_ (xv_wf_nw wf) (xv_pushS hS hsz z1 o1) (by show N0 ≤ xv_N u + 1; omega) (by show S0 ≤ xv_S u + n.toNatClampNeg; omega)
  have hk : xv_k (xv_nw u (103 + t) n.toNatClampNeg n.toNatClampNeg) (xv_N u) = 103 + t := if_pos rfl
  obtain ⟨kA', comp', g1, g2, g3, g4⟩ := (hK.1.2 (3 + t) _ (xv_tys_at ht)).2
  have hcA : cA = xv_cA G (3 + t) := Option.some.inj (f1.symm.trans g4)
  refine xv_pushed (s := s) (locs := locs) hsz hP o1 ?_ rfl (xv_E_ref hk) (fun b hb => xv_nw_E hb)
  show H1[xv_B G + xv_N u]? = some (vp_cell _ _)
  rw [vp_cell_q, e1, hcA]
  have el : xv_l (xv_nw u (103 + t) n.toNatClampNeg n.toNatClampNeg) (xv_N u) = n.toNatClampNeg := if_pos rfl
  have er : ∀ j, xv_r (xv_nw u (103 + t) n.toNatClampNeg n.toNatClampNeg) (xv_N u) j = none := fun q => if_pos rfl
  simp only [el, er]
  rfl
theorem xv_obj {a idx : Nat} (hdg : decode J.2.1 pc = .ok (.invokespecial idx, 3)) (h1 : Cond.methodLink J.1.cls idx Lib.objectInit ∈ xv_BIG) (h2 : Cond.instanceMethod Lib.objectInit ∈ xv_BIG) (h3 : Cond.code Lib.objectInit ⟨#[0xb1]⟩ 1 none ∈ xv_BIG) (hd : 1 ≤ d) (hst : (st.map fun v => v.category).sum ≤ 8) (k : xv_X sc d J (pc + 3) lv st u n1 s1 P) : xv_X sc d J pc lv (.ref a :: st) u n1 s1 P := by
  intro p l e R s m args below meth c G N0 S0 Q H locs ls A0 lo hP wf hS hN hZ
  have hA := id A0
  obtain ⟨hx, hb, -, hml, hown, hts, -, -, hK, hR, hs, -⟩ := hA
  refine W.objInit (g := F0 m pc ls (.ref (xv_B G + a) :: st.map (xv_cv G))) hx hb hown (hts _ h1) (hts _ h2) (hts _ h3) rfl (by rw [hml]; exact lo.1) rfl hdg (by omega) ?_ (k p l e R s m args below meth c G N0 S0 Q H locs ls A0 lo hP wf hS hN hZ)
  show 2 * 0 + _ + 12 ≤ _
  have : ((st.map (xv_cv G)).map fun v => v.category) = st.map fun v => v.category := by
    rw [List.map_map]
    exact List.map_congr_left (fun v _ => xv_cat G v)
  rw [this]
  omega
end NEWR
/-! contracts -/
def xv_Pc (G : xv_G) (as : List Value) (u : xv_M) : Array Value → State → Prop := fun v U => v = (as.map (xv_cv G)).toArray ∧ U.heap.size = xv_B G + xv_N u ∧ va_P (xv_dG G) xv_cl (xv_ws G u) U.heap ∧ xv_wf u ∧ xv_K G U U.heap
def xv_oc (G : xv_G) (o : xv_O) (oc : Outcome) (w : xv_M) : Prop := match o with
  | .inl v => oc = .returned (v.map (xv_cv G))
  | .inr q => oc = .threw (xv_B G + q.2) ∧ xv_k w q.2 = q.1 + 1
def xv_Qb (G : xv_G) (n1 s1 : Nat) (P : xv_P) : Array Value → State → Outcome → State → Prop := fun _ st oc t => ∃ (o : xv_O) (w : xv_M), P o w ∧ xv_N w = n1 ∧ xv_S w = s1 ∧ xv_wf w ∧ va_P (xv_dG G) xv_cl (xv_ws G w) t.heap ∧ va_F (xv_A G) st t ∧ xv_oc G o oc w
def xv_Qx (G : xv_G) (n1 s1 : Nat) (P : xv_P) (mc ms : Nat) : Array Value → State → Outcome → State → Prop := fun a st oc t => xv_Qb G n1 s1 P a st oc t ∧ ∃ L : List Loc, (st.WarmedH t.vm ∧ st.sameButNew ({ t with vm := st.vm } : State) L mc ms) ∧ ∀ q ∈ L, xv_A G q.base
def xv_C (sc : Nat × (Nat → Int32)) (d : Nat) (J : xv_J) (as : List Value) (u : xv_M) (n1 s1 : Nat) (P : xv_P) : Prop :=
  xv_N u ≤ n1 ∧ xv_S u ≤ s1 ∧ ∀ (l : Launch) (G : xv_G), G.2.2.2.2 = sc → xv_L l → MetFree l J.1 (headSpec (xv_w J) (xv_rm d (n1 - xv_N u) (s1 - xv_S u))) (xv_Pc G as u) (fun _ _ _ _ _ => True) (xv_Qx G n1 s1 P (n1 - xv_N u) (s1 - xv_S u))
theorem xv_blind (G : xv_G) (as : List Value) (u : xv_M) : FrameBlind (xv_Pc G as u) := by
  intro a U g mk h
  obtain ⟨h1, h2, h3, h4, h5⟩ := h
  exact ⟨h1, h2, h3, h4, xv_K_moved (u := U) (U := U.calling g mk a) (State.WarmedH.refl U) h5 (Nat.le_refl _) (fun _ _ _ => rfl)⟩
end
section
theorem xv_thrown {p : Program} {l : Launch} {e : Env} {R : Room} {s : State} {m : MethodId} {args : Array Value} {below : List Frame} {meth : Method} {c : Code} {T : State} {locs : List Loc} {G : xv_G} {n1 s1 mc ms k a : Nat} {P : xv_P} {w : xv_M} {as : Array Value} (X : Stand p l e R s m args below meth c T locs mc ms) (hPo : P (.inr (k, a)) w) (hn : xv_N w = n1) (hs : xv_S w = s1) (wf : xv_wf w) (hPH : va_P (xv_dG G) xv_cl (xv_ws G w) T.heap) (hS : va_S (xv_A G) s.heap T.heap locs) (hk : xv_k w a = k + 1) :
    ∃ o, (T.setFrames (.throwing (xv_B G + a) :: below)).status = .running ∧ Ended (T.setFrames (.throwing (xv_B G + a) :: below)) below o ∧ xv_Qx G n1 s1 P mc ms as s o (T.setFrames (.throwing (xv_B G + a) :: below)) := by
  obtain ⟨g₀, hfr⟩ := X.frames_eq
  exact ⟨.threw (xv_B G + a), X.here.running, State.frames_setFrames _ (State.cur_lt_of_frames hfr), ⟨.inr (k, a), w, hPo, hn, hs, wf, hPH, ⟨hS.1, hS.2.1⟩, rfl, hk⟩, locs, ⟨(X.ends _).1, (X.ends _).2⟩, hS.2.2⟩
theorem xv_lo_entry {G : xv_G} {as : List Value} {n : Nat} (hc : ∀ v ∈ as, v.category = 1) (hn : as.length ≤ n) : xv_lo G ((lg_sl (as.map (xv_cv G)) ++ List.replicate (n - (lg_sl (as.map (xv_cv G))).length) Slot.unset).toArray) n (as.map some ++ List.replicate (n - as.length) none) := by
  have e : ∀ l : List Value, (∀ v ∈ l, v.category = 1) → lg_sl l = l.map Slot.val := by
    intro l hl
    induction l with
    | nil => rfl
    | cons v t ih =>
      have h1 : v.category = 1 := hl v List.mem_cons_self
      have h2 := ih (fun w hw => hl w (List.mem_cons_of_mem _ hw))
      unfold lg_sl at h2 ⊢
      rw [List.flatMap_cons, h2, h1]
      rfl
  have hc' : ∀ v ∈ as.map (xv_cv G), v.category = 1 := by
    intro v hv
    obtain ⟨w, hw, rfl⟩ := List.mem_map.mp hv
    rw [xv_cat]
    exact hc w hw
  have e1 := e _ hc'
  have hlen : (lg_sl (as.map (xv_cv G))).length = as.length := by rw [e1]; simp
  have hl := lv_entry (as.map (xv_cv G)) (n := n) (by rw [hlen]; exact hn)
  refine ⟨hl.1, hl.2.1, fun i v hv => ?_⟩
  have hi : i < as.length := by
    apply Nat.lt_of_not_le
    intro q
    rw [List.getElem?_append_right (by simpa using q)] at hv
    rw [List.getElem?_replicate] at hv
    split at hv
    · cases hv
    · cases hv
  rw [List.getElem?_append_left (by simpa using hi), List.getElem?_map] at hv
  rw [e1]
  have hg : as[i]? = some v := by
    cases hq : as[i]? with
    | none => rw [hq] at hv; cases hv
    | some z => rw [hq] at hv; cases hv; rfl
  show ((as.map (xv_cv G)).map Slot.val ++ _).toArray[i]? = _
  rw [List.getElem?_toArray, List.getElem?_append_left (by simpa using hi), List.getElem?_map, List.getElem?_map, hg]
  rfl
theorem xv_sum_cv (G : xv_G) (st : List Value) : (((st.map (xv_cv G)).map fun v => v.category)).sum = (st.map fun v => v.category).sum := by
  rw [List.map_map]
  congr 1
  exact List.map_congr_left (fun v _ => xv_cat G v)
/-- a method's contract out of its walk -/
theorem xv_C_of {sc : Nat × (Nat → Int32)} {d : Nat} {J : xv_J} {as : List Value} {u : xv_M} {n1 s1 : Nat} {P : xv_P} (hpl : plainName J.1.cls = true) (hn : xv_N u ≤ n1) (hs : xv_S u ≤ s1) (hc : ∀ v ∈ as, v.category = 1) (hl : as.length ≤ J.2.2.1)
    (h : xv_X sc d J 0 (as.map some ++ List.replicate (J.2.2.1 - as.length) none) [] u n1 s1 (xv_q n1 s1 P)) : xv_C sc d J as u n1 s1 P := by
  refine ⟨hn, hs, fun l G hG hL => ?_⟩
  refine MetFree.of_bodyS (code := J.2.1) (maxLocals := J.2.2.1) (ret := J.2.2.2) hpl ?_ ?_
  · intro args s m hp hnm
    obtain ⟨meth, c, h1, h2, h3, h4, h5, h6, -, -⟩ := Cond.code_spec hnm (atoms_spec (ws := xv_w J) hp _ List.mem_cons_self)
    exact ⟨meth, c, h1, h2, h3, h4, h5, h6⟩
  · intro p e s m args below meth c s₁ B hml hP _
    obtain ⟨rfl, hsz, hPP, wf, hK⟩ := hP
    have hh0 : s₁.heap = s.heap := by rw [B.state]; rfl
    have hts := atoms_spec (ws := xv_w J) B.pre
    have hown : s.vm.findClass J.1.cls = some m.cls := findClass_of_methodNamed B.named
    have hnam : meth.name = J.1.name := (name_of_methodNamed B.named B.method).1
    have X0 := Stand.of_body B
    have hex : c.exceptionTable.isEmpty = true := by
      obtain ⟨meth', c', h1, h2, -, -, -, -, h7, -⟩ := Cond.code_spec B.named (hts _ List.mem_cons_self)
      cases B.method.symm.trans h1
      cases X0.code.symm.trans h2
      exact h7
    have hfin : xv_fin p l e (headSpec (xv_w J) (xv_rm d (n1 - xv_N u) (s1 - xv_S u))).room s m (as.map (xv_cv G)).toArray below meth c J G (xv_N u) (xv_S u) n1 s1 (xv_q n1 s1 P) (fun t => ∃ o, t.status = .running ∧ Ended t below o ∧ xv_Qx G n1 s1 P (n1 - xv_N u) (s1 - xv_S u) (as.map (xv_cv G)).toArray s o t) := by
      refine ⟨fun v w pc ls i H locs hPo _ _ hrt hdg hPH wf hS => ?_, fun k a w T locs hPo _ _ hk hPH wf hS X => ?_⟩
      · obtain ⟨hPo, hn1, hs1⟩ := hPo
        rw [hn1, hs1]
        have key : ∀ t : State, t.heap = H → s.WarmedH t.vm → xv_Qb G n1 s1 P (as.map (xv_cv G)).toArray s (.returned (v.map (xv_cv G))) t := fun t ht hW => ⟨.inl v, w, hPo, hn1, hs1, wf, by rw [ht]; exact hPH, hS.F ht, rfl⟩
        have fin : ∀ t : State, MQ below (xv_Qb G n1 s1 P) (as.map (xv_cv G)).toArray s (n1 - xv_N u) (s1 - xv_S u) (xv_A G) t → ∃ o, t.status = .running ∧ Ended t below o ∧ xv_Qx G n1 s1 P (n1 - xv_N u) (s1 - xv_S u) (as.map (xv_cv G)).toArray s o t := by
          rintro t ⟨o, h1, h2, h3, L, ⟨-, h4, h5⟩, h6⟩
          exact ⟨o, h1, h2, h3, L, ⟨h4, h5⟩, h6⟩
        refine xv_Wmono fin ?_
        rcases hrt with ⟨hr, rfl, x, rfl⟩ | ⟨hr, rfl, x, rfl, hx⟩ | ⟨hr, rfl, rfl⟩ | ⟨hr, rfl, a, rfl⟩
        · exact W.iret B.exec B.bytes (B.returns.trans hr) key hS.2.2 hdg B.notSynchronized
        · exact W.zret B.exec B.bytes (B.returns.trans hr) (by show Value.int (x &&& 1) = _; rw [hx]) key hS.2.2 hdg B.notSynchronized
        · exact W.vret B.exec B.bytes (B.returns.trans hr) key hS.2.2 hdg B.notSynchronized
        · rcases hr with ⟨nm, hr⟩ | ⟨t, hr⟩
          · exact W.aret B.exec B.bytes (B.returns.trans hr) (Or.inl ⟨nm, rfl⟩) (Or.inr ⟨_, rfl⟩) key hS.2.2 hdg B.notSynchronized
          · exact W.aret B.exec B.bytes (B.returns.trans hr) (Or.inr ⟨t, rfl⟩) (Or.inr ⟨_, rfl⟩) key hS.2.2 hdg B.notSynchronized
      · obtain ⟨hPo, hn1, hs1⟩ := hPo
        rw [hn1, hs1] at X
        exact xv_thrown X hPo hn1 hs1 wf hPH hS hk
    have hsub : ∀ a b : Nat, a - a = 0 := fun a _ => Nat.sub_self a
    rw [lg_entry_eq]
    obtain ⟨t, a1, o, b1, b2, b3⟩ := h p l e (headSpec (xv_w J) (xv_rm d (n1 - xv_N u) (s1 - xv_S u))).room s m (as.map (xv_cv G)).toArray below meth c G (xv_N u) (xv_S u) _ s.heap [] _
      ⟨B.exec, B.bytes, B.returns, hml, hown, fun w hw => hts w (List.mem_cons_of_mem _ hw), B.notSynchronized, hnam, hK, ⟨Nat.le_refl _, Nat.le_refl _, Nat.le_refl _, Nat.le_refl _⟩, hsz, ⟨hG, hL, hex⟩, hfin⟩
      (xv_lo_entry hc hl) hPP wf va_S.rf (Nat.le_refl _) (Nat.le_refl _) s₁ hh0 (by rw [Nat.sub_self, Nat.sub_self]; exact X0)
    exact ⟨t, o, a1, b1, b2, b3⟩
def xv_Qr (G : xv_G) (n1 s1 : Nat) (P : xv_P) : Array Value → State → Outcome → State → Prop := fun _ st oc t => ∃ (v : Option Value) (w : xv_M), P (.inl v) w ∧ xv_N w = n1 ∧ xv_S w = s1 ∧ xv_wf w ∧ va_P (xv_dG G) xv_cl (xv_ws G w) t.heap ∧ va_F (xv_A G) st t ∧ oc = .returned (v.map (xv_cv G))
theorem xv_met {sc : Nat × (Nat → Int32)} {d : Nat} {J : xv_J} {as : List Value} {u : xv_M} {n1 s1 : Nat} {P : xv_P} (h : xv_C sc d J as u n1 s1 P) (hP : ∀ o w, P o w → ∃ v, o = .inl v) (l : Launch) (G : xv_G) (hG : G.2.2.2.2 = sc) (hL : xv_L l) : Met l J.1 (xv_w J) (xv_rm d (n1 - xv_N u) (s1 - xv_S u)) (xv_Pc G as u) (xv_Qr G n1 s1 P) (n1 - xv_N u) (s1 - xv_S u) (xv_A G) := by
  intro p e ha hc hk s m args below hf happ hPc hK
  obtain ⟨n, o, h1, h2, h3, ⟨o', w, g1, g2, g3, g4, g5, g6, g7⟩, L, ⟨g8, g9⟩, g10⟩ := h.2.2 l G hG hL p e ha hc hk s m args below hf happ hPc hK
  obtain ⟨v, rfl⟩ := hP _ _ g1
  have g7 : o = .returned (v.map (xv_cv G)) := g7
  exact ⟨n, o, h1, h2, h3, ⟨v, w, g1, g2, g3, g4, g5, g6, g7⟩, L, ⟨⟨_, g7⟩, g8, g9⟩, g10⟩
section CALLS
variable {p : Program} {l : Launch} {e : Env} {R : Room} {s : State} {m : MethodId} {args : Array Value} {below : List Frame} {meth : Method} {c : Code} {H : Heap} {locs : List Loc} {cells slots : Nat} {Q : State → Prop}
theorem xv_back {G : xv_G} {n2 s2 mc ms pc : Nat} {P1 : xv_P} {ls : Array Slot} {st0 rest : List Value} {a : Array Value} (hr : va_Run p l e R s m args below meth c H locs cells slots mc ms (F0 m pc ls st0) rest (xv_Qr G n2 s2 P1 a) (xv_A G)) (hS : va_S (xv_A G) s.heap H locs)
    (kk : ∀ (v : Option Value) (w : xv_M) (H1 : Heap) (locs1 : List Loc), P1 (.inl v) w → xv_N w = n2 → xv_S w = s2 → xv_wf w → va_P (xv_dG G) xv_cl (xv_ws G w) H1 → va_S (xv_A G) s.heap H1 locs1 → W p l e R s m args below meth c H1 locs1 (cells + mc) (slots + ms) Q (F0 m (pc + 3) ls ((v.map (xv_cv G)).toList ++ rest))) : W p l e R s m args below meth c H locs cells slots Q (F0 m pc ls st0) := by
  intro T hT X
  obtain ⟨v, st₀, t, T', L, h0, X', hL, e1, e2, ⟨v', w, g1, g2, g3, g4, g5, ⟨hz, hk⟩, g7⟩, st⟩ := hr T hT X
  cases g7
  rw [h0] at hz hk
  obtain ⟨t2, a1, b1⟩ := kk v' w T'.heap (locs ++ L) g1 g2 g3 g4 (by rw [e1]; exact g5)
    ⟨Nat.le_trans hS.1 (by rw [e1]; exact hz), fun q h1 h2 => by rw [e1, hk q (Nat.lt_of_lt_of_le h1 hS.1) h2]; exact hS.2.1 q h1 h2, fun q hq => by
      rcases List.mem_append.mp hq with h | h
      · exact hS.2.2 q h
      · exact hL q h⟩ T' rfl X'
  exact ⟨t2, st t2 a1, b1⟩
end CALLS
def xv_mV (J : xv_J) (n : Nat) : Prop := Cond.code J.1 J.2.1 J.2.2.1 J.2.2.2 ∈ xv_BIG ∧ Cond.instanceMethod J.1 ∈ xv_BIG ∧ Cond.selects J.1.cls J.1 J.1 ∈ xv_BIG ∧ Cond.initialized J.1.cls ∈ xv_BIG ∧ (J.1.cls ≠ "java/lang/invoke/MethodHandle" ∧ J.1.cls ≠ "java/lang/invoke/VarHandle" ∧ (parseMethodDescriptor J.1.desc).map (fun d => d.parameters.length) = some n) ∧ J.2.2.1 ≤ 40
def xv_mS (J : xv_J) (n : Nat) : Prop := Cond.code J.1 J.2.1 J.2.2.1 J.2.2.2 ∈ xv_BIG ∧ Cond.static J.1 ∈ xv_BIG ∧ Cond.initialized J.1.cls ∈ xv_BIG ∧ (J.1.cls ≠ "java/lang/invoke/MethodHandle" ∧ J.1.cls ≠ "java/lang/invoke/VarHandle" ∧ (parseMethodDescriptor J.1.desc).map (fun d => d.parameters.length) = some n) ∧ J.2.2.1 ≤ 40
def xv_mI (J : xv_J) (n : Nat) : Prop := Cond.code J.1 J.2.1 J.2.2.1 J.2.2.2 ∈ xv_BIG ∧ Cond.instanceMethod J.1 ∈ xv_BIG ∧ J.1.name = "<init>" ∧ J.2.2.2 = none ∧ Cond.initialized J.1.cls ∈ xv_BIG ∧ (J.1.cls ≠ "java/lang/invoke/MethodHandle" ∧ J.1.cls ≠ "java/lang/invoke/VarHandle" ∧ (parseMethodDescriptor J.1.desc).map (fun d => d.parameters.length) = some n) ∧ J.2.2.1 ≤ 40
theorem xv_goodw {J : xv_J} (h : Cond.code J.1 J.2.1 J.2.2.1 J.2.2.2 ∈ xv_BIG) : GoodIn xv_BIG (xv_w J) := by
  intro w hw
  rcases List.mem_cons.mp hw with rfl | hw
  · exact xv_good _ h
  · exact xv_good _ hw
section CALLR
variable {sc : Nat × (Nat → Int32)} {d d1 : Nat} {J J1 : xv_J} {pc : Nat} {lv : List (Option Value)} {st as : List Value} {u : xv_M} {n1 s1 n2 s2 : Nat} {P P1 : xv_P}
/-- the callee's start, as the caller stands -/
theorem xv_pre {G : xv_G} {s U : State} {H : Heap} {locs : List Loc} {as : List Value} {u : xv_M} (hsz : H.size = xv_B G + xv_N u) (hP : va_P (xv_dG G) xv_cl (xv_ws G u) H) (wf : xv_wf u) (hK : xv_K G s s.heap) (hS : va_S (xv_A G) s.heap H locs) (hU : U.heap = H) (hW : s.WarmedH U.vm) : xv_Pc G as u (as.map (xv_cv G)).toArray U :=
  ⟨rfl, by rw [hU]; exact hsz, by rw [hU]; exact hP, wf, by rw [hU]; exact xv_K_moved hW hK hS.1 hS.2.1⟩
end CALLR
/-! ends, forgetting, calls by their number of arguments -/
def xv_pi (p : Int32 → xv_M → Prop) : xv_P := fun o w => ∃ r : Int32, o = .inl (some (.int r)) ∧ p r w
def xv_pv (p : xv_M → Prop) : xv_P := fun o w => o = .inl none ∧ p w
def xv_pr (p : Nat → xv_M → Prop) : xv_P := fun o w => ∃ r : Nat, o = .inl (some (.ref r)) ∧ p r w
def xv_px (k : Nat) (p : Nat → xv_M → Prop) : xv_P := fun o w => ∃ a : Nat, o = .inr (k, a) ∧ p a w
theorem xv_pi_l {p : Int32 → xv_M → Prop} : ∀ o w, xv_pi p o w → ∃ v, o = .inl v := fun _ _ h => by obtain ⟨r, h, -⟩ := h; exact ⟨_, h⟩
theorem xv_pv_l {p : xv_M → Prop} : ∀ o w, xv_pv p o w → ∃ v, o = .inl v := fun _ _ h => ⟨_, h.1⟩
theorem xv_pr_l {p : Nat → xv_M → Prop} : ∀ o w, xv_pr p o w → ∃ v, o = .inl v := fun _ _ h => by obtain ⟨r, h, -⟩ := h; exact ⟨_, h⟩
section ENDS
variable {sc : Nat × (Nat → Int32)} {d d1 : Nat} {J J1 : xv_J} {pc : Nat} {lv : List (Option Value)} {st as : List Value} {u : xv_M} {n1 s1 n2 s2 : Nat} {P P1 : xv_P}
theorem xv_reti {x : Int32} (hdg : decode J.2.1 pc = .ok (.ireturn, 1)) (hret : J.2.2.2 = some .int) (hn : xv_N u ≤ n1) (hs : xv_S u ≤ s1) (hp : P (.inl (some (.int x))) u) : xv_X sc d J pc lv [.int x] u n1 s1 P := by
  intro p l e R s m args below meth c G N0 S0 Q H locs ls A0 lo hP wf hS hN hZ
  have h := A0.2.2.2.2.2.2.2.2.2.2.2.2.1 (some (.int x)) u pc ls .ireturn H locs hp hn hs (Or.inl ⟨hret, rfl, x, rfl⟩) hdg hP wf hS
  exact h
theorem xv_retz {x : Int32} (hdg : decode J.2.1 pc = .ok (.ireturn, 1)) (hret : J.2.2.2 = some .boolean) (hx : x &&& 1 = x) (hn : xv_N u ≤ n1) (hs : xv_S u ≤ s1) (hp : P (.inl (some (.int x))) u) : xv_X sc d J pc lv [.int x] u n1 s1 P := by
  intro p l e R s m args below meth c G N0 S0 Q H locs ls A0 lo hP wf hS hN hZ
  have h := A0.2.2.2.2.2.2.2.2.2.2.2.2.1 (some (.int x)) u pc ls .ireturn H locs hp hn hs (Or.inr (Or.inl ⟨hret, rfl, x, rfl, hx⟩)) hdg hP wf hS
  exact h
theorem xv_retv (hdg : decode J.2.1 pc = .ok (.return_, 1)) (hret : J.2.2.2 = none) (hn : xv_N u ≤ n1) (hs : xv_S u ≤ s1) (hp : P (.inl none) u) : xv_X sc d J pc lv [] u n1 s1 P := by
  intro p l e R s m args below meth c G N0 S0 Q H locs ls A0 lo hP wf hS hN hZ
  have h := A0.2.2.2.2.2.2.2.2.2.2.2.2.1 none u pc ls .return_ H locs hp hn hs (Or.inr (Or.inr (Or.inl ⟨hret, rfl, rfl⟩))) hdg hP wf hS
  exact h
theorem xv_reta {x : Nat} (hdg : decode J.2.1 pc = .ok (.areturn, 1)) (hret : (∃ n, J.2.2.2 = some (.object n)) ∨ ∃ t, J.2.2.2 = some (.array t)) (hn : xv_N u ≤ n1) (hs : xv_S u ≤ s1) (hp : P (.inl (some (.ref x))) u) : xv_X sc d J pc lv [.ref x] u n1 s1 P := by
  intro p l e R s m args below meth c G N0 S0 Q H locs ls A0 lo hP wf hS hN hZ
  have h := A0.2.2.2.2.2.2.2.2.2.2.2.2.1 (some (.ref x)) u pc ls .areturn H locs hp hn hs (Or.inr (Or.inr (Or.inr ⟨hret, rfl, x, rfl⟩))) hdg hP wf hS
  exact h
theorem xv_wk {lv' : List (Option Value)} (h : ∀ (i : Nat) (v : Value), lv'[i]? = some (some v) → lv[i]? = some (some v)) (k : xv_X sc d J pc lv' st u n1 s1 P) : xv_X sc d J pc lv st u n1 s1 P := fun p l e R s m args below meth c G N0 S0 Q H locs ls A0 lo hP wf hS hN hZ => k p l e R s m args below meth c G N0 S0 Q H locs ls A0 ⟨lo.1, lo.2.1, fun i v hv => lo.2.2 i v (h i v hv)⟩ hP wf hS hN hZ
theorem xv_pick {lv' : List (Option Value)} (hl : lv'.length = lv.length) (h : ∀ i, i < lv.length → lv'.getD i none = none ∨ lv'.getD i none = lv.getD i none) (k : xv_X sc d J pc lv' st u n1 s1 P) : xv_X sc d J pc lv st u n1 s1 P := by
  refine xv_wk (fun i v hv => ?_) k
  have hi : i < lv'.length := (List.getElem?_eq_some_iff.mp hv).1
  have e1 : lv'.getD i none = some v := by rw [List.getD_eq_getElem?_getD, hv]; rfl
  rcases h i (by omega) with h | h
  · rw [e1] at h; cases h
  · rw [e1] at h
    rw [List.getElem?_eq_getElem (by omega)]
    rw [List.getD_eq_getElem?_getD, List.getElem?_eq_getElem (by omega)] at h
    exact congrArg some h.symm
theorem xv_post {P' : xv_P} (h : ∀ o w, P' o w → P o w) (k : xv_X sc d J pc lv st u n1 s1 P') : xv_X sc d J pc lv st u n1 s1 P := by
  intro p l e R s m args below meth c G N0 S0 Q H locs ls A0 lo hP wf hS hN hZ
  refine k p l e R s m args below meth c G N0 S0 Q H locs ls ?_ lo hP wf hS hN hZ
  obtain ⟨a1, a2, a3, a4, a5, a6, a7, a8, a9, a10, a11, a12, a13⟩ := A0
  exact ⟨a1, a2, a3, a4, a5, a6, a7, a8, a9, a10, a11, a12, fun v w pc ls i H locs q => a13.1 v w pc ls i H locs (h _ _ q), fun k a w T locs q => a13.2 k a w T locs (h _ _ q)⟩
theorem xv_no_0 {a0 : Option Value} {t : List (Option Value)} (k : xv_X sc d J pc (none :: t) st u n1 s1 P) : xv_X sc d J pc (a0 :: t) st u n1 s1 P := by
  refine xv_wk (fun i v hv => ?_) k
  by_cases hi : i = 0
  · subst hi; cases hv
  · have e : (none :: t) = (a0 :: t).set 0 none := rfl
    rw [e, List.getElem?_set, if_neg (fun q => hi q.symm)] at hv
    exact hv
theorem xv_no_1 {a0 a1 : Option Value} {t : List (Option Value)} (k : xv_X sc d J pc (a0 :: none :: t) st u n1 s1 P) : xv_X sc d J pc (a0 :: a1 :: t) st u n1 s1 P := by
  refine xv_wk (fun i v hv => ?_) k
  by_cases hi : i = 1
  · subst hi; cases hv
  · have e : (a0 :: none :: t) = (a0 :: a1 :: t).set 1 none := rfl
    rw [e, List.getElem?_set, if_neg (fun q => hi q.symm)] at hv
    exact hv
theorem xv_no_2 {a0 a1 a2 : Option Value} {t : List (Option Value)} (k : xv_X sc d J pc (a0 :: a1 :: none :: t) st u n1 s1 P) : xv_X sc d J pc (a0 :: a1 :: a2 :: t) st u n1 s1 P := by
  refine xv_wk (fun i v hv => ?_) k
  by_cases hi : i = 2
  · subst hi; cases hv
  · have e : (a0 :: a1 :: none :: t) = (a0 :: a1 :: a2 :: t).set 2 none := rfl
    rw [e, List.getElem?_set, if_neg (fun q => hi q.symm)] at hv
    exact hv
theorem xv_no_3 {a0 a1 a2 a3 : Option Value} {t : List (Option Value)} (k : xv_X sc d J pc (a0 :: a1 :: a2 :: none :: t) st u n1 s1 P) : xv_X sc d J pc (a0 :: a1 :: a2 :: a3 :: t) st u n1 s1 P := by
  refine xv_wk (fun i v hv => ?_) k
  by_cases hi : i = 3
  · subst hi; cases hv
  · have e : (a0 :: a1 :: a2 :: none :: t) = (a0 :: a1 :: a2 :: a3 :: t).set 3 none := rfl
    rw [e, List.getElem?_set, if_neg (fun q => hi q.symm)] at hv
    exact hv
theorem xv_no_4 {a0 a1 a2 a3 a4 : Option Value} {t : List (Option Value)} (k : xv_X sc d J pc (a0 :: a1 :: a2 :: a3 :: none :: t) st u n1 s1 P) : xv_X sc d J pc (a0 :: a1 :: a2 :: a3 :: a4 :: t) st u n1 s1 P := by
  refine xv_wk (fun i v hv => ?_) k
  by_cases hi : i = 4
  · subst hi; cases hv
  · have e : (a0 :: a1 :: a2 :: a3 :: none :: t) = (a0 :: a1 :: a2 :: a3 :: a4 :: t).set 4 none := rfl
    rw [e, List.getElem?_set, if_neg (fun q => hi q.symm)] at hv
    exact hv
theorem xv_no_5 {a0 a1 a2 a3 a4 a5 : Option Value} {t : List (Option Value)} (k : xv_X sc d J pc (a0 :: a1 :: a2 :: a3 :: a4 :: none :: t) st u n1 s1 P) : xv_X sc d J pc (a0 :: a1 :: a2 :: a3 :: a4 :: a5 :: t) st u n1 s1 P := by
  refine xv_wk (fun i v hv => ?_) k
  by_cases hi : i = 5
  · subst hi; cases hv
  · have e : (a0 :: a1 :: a2 :: a3 :: a4 :: none :: t) = (a0 :: a1 :: a2 :: a3 :: a4 :: a5 :: t).set 5 none := rfl
    rw [e, List.getElem?_set, if_neg (fun q => hi q.symm)] at hv
    exact hv
theorem xv_no_6 {a0 a1 a2 a3 a4 a5 a6 : Option Value} {t : List (Option Value)} (k : xv_X sc d J pc (a0 :: a1 :: a2 :: a3 :: a4 :: a5 :: none :: t) st u n1 s1 P) : xv_X sc d J pc (a0 :: a1 :: a2 :: a3 :: a4 :: a5 :: a6 :: t) st u n1 s1 P := by
  refine xv_wk (fun i v hv => ?_) k
  by_cases hi : i = 6
  · subst hi; cases hv
  · have e : (a0 :: a1 :: a2 :: a3 :: a4 :: a5 :: none :: t) = (a0 :: a1 :: a2 :: a3 :: a4 :: a5 :: a6 :: t).set 6 none := rfl
    rw [e, List.getElem?_set, if_neg (fun q => hi q.symm)] at hv
    exact hv
theorem xv_no_7 {a0 a1 a2 a3 a4 a5 a6 a7 : Option Value} {t : List (Option Value)} (k : xv_X sc d J pc (a0 :: a1 :: a2 :: a3 :: a4 :: a5 :: a6 :: none :: t) st u n1 s1 P) : xv_X sc d J pc (a0 :: a1 :: a2 :: a3 :: a4 :: a5 :: a6 :: a7 :: t) st u n1 s1 P := by
  refine xv_wk (fun i v hv => ?_) k
  by_cases hi : i = 7
  · subst hi; cases hv
  · have e : (a0 :: a1 :: a2 :: a3 :: a4 :: a5 :: a6 :: none :: t) = (a0 :: a1 :: a2 :: a3 :: a4 :: a5 :: a6 :: a7 :: t).set 7 none := rfl
    rw [e, List.getElem?_set, if_neg (fun q => hi q.symm)] at hv
    exact hv
theorem xv_no_8 {a0 a1 a2 a3 a4 a5 a6 a7 a8 : Option Value} {t : List (Option Value)} (k : xv_X sc d J pc (a0 :: a1 :: a2 :: a3 :: a4 :: a5 :: a6 :: a7 :: none :: t) st u n1 s1 P) : xv_X sc d J pc (a0 :: a1 :: a2 :: a3 :: a4 :: a5 :: a6 :: a7 :: a8 :: t) st u n1 s1 P := by
  refine xv_wk (fun i v hv => ?_) k
  by_cases hi : i = 8
  · subst hi; cases hv
  · have e : (a0 :: a1 :: a2 :: a3 :: a4 :: a5 :: a6 :: a7 :: none :: t) = (a0 :: a1 :: a2 :: a3 :: a4 :: a5 :: a6 :: a7 :: a8 :: t).set 8 none := rfl
    rw [e, List.getElem?_set, if_neg (fun q => hi q.symm)] at hv
    exact hv
theorem xv_no_9 {a0 a1 a2 a3 a4 a5 a6 a7 a8 a9 : Option Value} {t : List (Option Value)} (k : xv_X sc d J pc (a0 :: a1 :: a2 :: a3 :: a4 :: a5 :: a6 :: a7 :: a8 :: none :: t) st u n1 s1 P) : xv_X sc d J pc (a0 :: a1 :: a2 :: a3 :: a4 :: a5 :: a6 :: a7 :: a8 :: a9 :: t) st u n1 s1 P := by
  refine xv_wk (fun i v hv => ?_) k
  by_cases hi : i = 9
  · subst hi; cases hv
  · have e : (a0 :: a1 :: a2 :: a3 :: a4 :: a5 :: a6 :: a7 :: a8 :: none :: t) = (a0 :: a1 :: a2 :: a3 :: a4 :: a5 :: a6 :: a7 :: a8 :: a9 :: t).set 9 none := rfl
    rw [e, List.getElem?_set, if_neg (fun q => hi q.symm)] at hv
    exact hv
theorem xv_no_10 {a0 a1 a2 a3 a4 a5 a6 a7 a8 a9 a10 : Option Value} {t : List (Option Value)} (k : xv_X sc d J pc (a0 :: a1 :: a2 :: a3 :: a4 :: a5 :: a6 :: a7 :: a8 :: a9 :: none :: t) st u n1 s1 P) : xv_X sc d J pc (a0 :: a1 :: a2 :: a3 :: a4 :: a5 :: a6 :: a7 :: a8 :: a9 :: a10 :: t) st u n1 s1 P := by
  refine xv_wk (fun i v hv => ?_) k
  by_cases hi : i = 10
  · subst hi; cases hv
  · have e : (a0 :: a1 :: a2 :: a3 :: a4 :: a5 :: a6 :: a7 :: a8 :: a9 :: none :: t) = (a0 :: a1 :: a2 :: a3 :: a4 :: a5 :: a6 :: a7 :: a8 :: a9 :: a10 :: t).set 10 none := rfl
    rw [e, List.getElem?_set, if_neg (fun q => hi q.symm)] at hv
    exact hv
theorem xv_no_11 {a0 a1 a2 a3 a4 a5 a6 a7 a8 a9 a10 a11 : Option Value} {t : List (Option Value)} (k : xv_X sc d J pc (a0 :: a1 :: a2 :: a3 :: a4 :: a5 :: a6 :: a7 :: a8 :: a9 :: a10 :: none :: t) st u n1 s1 P) : xv_X sc d J pc (a0 :: a1 :: a2 :: a3 :: a4 :: a5 :: a6 :: a7 :: a8 :: a9 :: a10 :: a11 :: t) st u n1 s1 P := by
  refine xv_wk (fun i v hv => ?_) k
  by_cases hi : i = 11
  · subst hi; cases hv
  · have e : (a0 :: a1 :: a2 :: a3 :: a4 :: a5 :: a6 :: a7 :: a8 :: a9 :: a10 :: none :: t) = (a0 :: a1 :: a2 :: a3 :: a4 :: a5 :: a6 :: a7 :: a8 :: a9 :: a10 :: a11 :: t).set 11 none := rfl
    rw [e, List.getElem?_set, if_neg (fun q => hi q.symm)] at hv
    exact hv
theorem xv_no_12 {a0 a1 a2 a3 a4 a5 a6 a7 a8 a9 a10 a11 a12 : Option Value} {t : List (Option Value)} (k : xv_X sc d J pc (a0 :: a1 :: a2 :: a3 :: a4 :: a5 :: a6 :: a7 :: a8 :: a9 :: a10 :: a11 :: none :: t) st u n1 s1 P) : xv_X sc d J pc (a0 :: a1 :: a2 :: a3 :: a4 :: a5 :: a6 :: a7 :: a8 :: a9 :: a10 :: a11 :: a12 :: t) st u n1 s1 P := by
  refine xv_wk (fun i v hv => ?_) k
  by_cases hi : i = 12
  · subst hi; cases hv
  · have e : (a0 :: a1 :: a2 :: a3 :: a4 :: a5 :: a6 :: a7 :: a8 :: a9 :: a10 :: a11 :: none :: t) = (a0 :: a1 :: a2 :: a3 :: a4 :: a5 :: a6 :: a7 :: a8 :: a9 :: a10 :: a11 :: a12 :: t).set 12 none := rfl
    rw [e, List.getElem?_set, if_neg (fun q => hi q.symm)] at hv
    exact hv
theorem xv_no_13 {a0 a1 a2 a3 a4 a5 a6 a7 a8 a9 a10 a11 a12 a13 : Option Value} {t : List (Option Value)} (k : xv_X sc d J pc (a0 :: a1 :: a2 :: a3 :: a4 :: a5 :: a6 :: a7 :: a8 :: a9 :: a10 :: a11 :: a12 :: none :: t) st u n1 s1 P) : xv_X sc d J pc (a0 :: a1 :: a2 :: a3 :: a4 :: a5 :: a6 :: a7 :: a8 :: a9 :: a10 :: a11 :: a12 :: a13 :: t) st u n1 s1 P := by
  refine xv_wk (fun i v hv => ?_) k
  by_cases hi : i = 13
  · subst hi; cases hv
  · have e : (a0 :: a1 :: a2 :: a3 :: a4 :: a5 :: a6 :: a7 :: a8 :: a9 :: a10 :: a11 :: a12 :: none :: t) = (a0 :: a1 :: a2 :: a3 :: a4 :: a5 :: a6 :: a7 :: a8 :: a9 :: a10 :: a11 :: a12 :: a13 :: t).set 13 none := rfl
    rw [e, List.getElem?_set, if_neg (fun q => hi q.symm)] at hv
    exact hv
theorem xv_retiq {x : Int32} (hdg : decode J.2.1 pc = .ok (.ireturn, 1)) (hret : J.2.2.2 = some .int) (hn : xv_N u = n1) (hs : xv_S u = s1) (hp : P (.inl (some (.int x))) u) : xv_X sc d J pc lv [.int x] u n1 s1 (xv_q n1 s1 P) := xv_reti hdg hret (Nat.le_of_eq hn) (Nat.le_of_eq hs) ⟨hp, hn, hs⟩
theorem xv_retzq {x : Int32} (hdg : decode J.2.1 pc = .ok (.ireturn, 1)) (hret : J.2.2.2 = some .boolean) (hx : x &&& 1 = x) (hn : xv_N u = n1) (hs : xv_S u = s1) (hp : P (.inl (some (.int x))) u) : xv_X sc d J pc lv [.int x] u n1 s1 (xv_q n1 s1 P) := xv_retz hdg hret hx (Nat.le_of_eq hn) (Nat.le_of_eq hs) ⟨hp, hn, hs⟩
theorem xv_retvq (hdg : decode J.2.1 pc = .ok (.return_, 1)) (hret : J.2.2.2 = none) (hn : xv_N u = n1) (hs : xv_S u = s1) (hp : P (.inl (none)) u) : xv_X sc d J pc lv [] u n1 s1 (xv_q n1 s1 P) := xv_retv hdg hret (Nat.le_of_eq hn) (Nat.le_of_eq hs) ⟨hp, hn, hs⟩
theorem xv_retaq {x : Nat} (hdg : decode J.2.1 pc = .ok (.areturn, 1)) (hret : (∃ n, J.2.2.2 = some (.object n)) ∨ ∃ t, J.2.2.2 = some (.array t)) (hn : xv_N u = n1) (hs : xv_S u = s1) (hp : P (.inl (some (.ref x))) u) : xv_X sc d J pc lv [.ref x] u n1 s1 (xv_q n1 s1 P) := xv_reta hdg hret (Nat.le_of_eq hn) (Nat.le_of_eq hs) ⟨hp, hn, hs⟩
end ENDS
section CALLG
variable {sc : Nat × (Nat → Int32)} {d d1 : Nat} {J J1 : xv_J} {pc : Nat} {lv : List (Option Value)} {st as : List Value} {u : xv_M} {n1 s1 n2 s2 : Nat} {P P1 : xv_P}
theorem xv_stk (G : xv_G) (as : List Value) (b : Nat) (st : List Value) : (as.reverse ++ .ref b :: st).map (xv_cv G) = (as.map (xv_cv G)).reverse ++ .ref (xv_B G + b) :: st.map (xv_cv G) := by
  rw [List.map_append, List.map_reverse]
  rfl
theorem xv_stkS (G : xv_G) (as : List Value) (st : List Value) : (as.reverse ++ st).map (xv_cv G) = (as.map (xv_cv G)).reverse ++ st.map (xv_cv G) := by
  rw [List.map_append, List.map_reverse]
theorem xv_callV {b ci index n : Nat} (hM : xv_C sc d1 J1 (.ref b :: as) u n2 s2 P1) (hr : ∀ o w, P1 o w → ∃ v, o = .inl v) (hm : xv_mV J1 n) (hl : Cond.methodLink J.1.cls index J1.1 ∈ xv_BIG) (hn : as.length = n) (hd : d1 + 1 ≤ d) (hc : ci < xv_nc) (hci : xv_nm ci = J1.1.cls) (hk : xv_k u b = ci + 1) (hst : (st.map fun v => v.category).sum ≤ 8) (hdg : decode J.2.1 pc = .ok (.invokevirtual index, 3)) (hw : n2 ≤ n1 ∧ s2 ≤ s1)
    (k : ∀ v w, P1 (.inl v) w → xv_N w = n2 → xv_S w = s2 → xv_X sc d J (pc + 3) lv (v.toList ++ st) w n1 s1 P) : xv_X sc d J pc lv (as.reverse ++ .ref b :: st) u n1 s1 P := by
  intro p l e R s m args below meth c G N0 S0 Q H locs ls A0 lo hP wf hS hN hZ
  refine xv_Wsz fun hle => ?_
  have hA := id A0
  obtain ⟨hx, hb, -, hml, hown, hts, -, -, hK, hR, hs, ⟨hG, hL, -⟩, -⟩ := hA
  have hsz := xv_sz hs hN hP hS hle
  obtain ⟨m1, m2, m3, m4, m5, m6⟩ := hm
  have hcw : CallB R s args J.1.cls index J1.1 J1.2.1 J1.2.2.1 J1.2.2.2 (xv_w J1) (xv_rm d1 (n2 - xv_N u) (s2 - xv_S u)) (n2 - xv_N u) (s2 - xv_S u) n ∧ (Cond.instanceMethod J1.1).before args s = true ∧ (Cond.selects J1.1.cls J1.1 J1.1).before args s = true := ⟨callB_of n hts (xv_goodw m1) rfl rfl rfl (hts _ m4) (hts _ hl) m5 ⟨by show d1 + 1 ≤ _; omega, by show 8 + (J1.2.2.1 + 11) + 60 * d1 ≤ _; omega⟩, hts _ m2, hts _ m3⟩
  have hrun := va_runV (b := xv_B G + b) (C := J1.1.cls) (As := as.map (xv_cv G)) (rest := st.map (xv_cv G)) (g := F0 m pc ls ((as.reverse ++ .ref b :: st).map (xv_cv G))) (H := H) (locs := locs) (cells := xv_N u - N0) (slots := xv_S u - S0) (l := l) (p := p) (e := e) (below := below) (meth := meth) ⟨hx, hb, hml, hown, hts⟩ (xv_met hM hr l G hG hL) hcw
    ⟨xv_blind G _ u, by
      obtain ⟨cell, c1, c2, c3⟩ := va_recv hK.1 hP (xv_cl_at hc) (xv_he wf hc hk)
      exact ⟨cell, c1, c2, by rw [← hci]; exact c3⟩, fun U hU hW => xv_pre hsz hP wf hK hS hU hW⟩ rfl (by rw [List.length_map]; exact hn) lo.1 (xv_stk G as b st) (by show 2 * 0 + _ ≤ 8; rw [xv_sum_cv]; omega) hdg (by have := hM.1; have := hM.2.1; omega)
  refine xv_back hrun hS (fun v w H1 locs1 g1 g2 g3 g4 g5 g6 => ?_)
  have h1 := hM.1
  have h2 := hM.2.1
  refine W.cs (cells' := xv_N w - N0) (slots' := xv_S w - S0) (by omega) (by omega) ?_
  have ee : (v.map (xv_cv G)).toList ++ st.map (xv_cv G) = (v.toList ++ st).map (xv_cv G) := by cases v <;> rfl
  rw [ee]
  exact k v w g1 g2 g3 p l e R s m args below meth c G N0 S0 Q H1 locs1 ls A0 lo g5 g4 g6 (by omega) (by omega)
theorem xv_callVN {b ci index n : Nat} {host : String} (hM : xv_C sc d1 J1 (.ref b :: as) u n2 s2 P1) (hr : ∀ o w, P1 o w → ∃ v, o = .inl v) (hm : xv_mV J1 n) (hl : Cond.methodLinkNest J.1.cls index J1.1 host ∈ xv_nest) (hn : as.length = n) (hd : d1 + 1 ≤ d) (hc : ci < xv_nc) (hci : xv_nm ci = J1.1.cls) (hk : xv_k u b = ci + 1) (hst : (st.map fun v => v.category).sum ≤ 8) (hdg : decode J.2.1 pc = .ok (.invokevirtual index, 3)) (hw : n2 ≤ n1 ∧ s2 ≤ s1)
    (k : ∀ v w, P1 (.inl v) w → xv_N w = n2 → xv_S w = s2 → xv_X sc d J (pc + 3) lv (v.toList ++ st) w n1 s1 P) : xv_X sc d J pc lv (as.reverse ++ .ref b :: st) u n1 s1 P := by
  intro p l e R s m args below meth c G N0 S0 Q H locs ls A0 lo hP wf hS hN hZ
  refine xv_Wsz fun hle => ?_
  have hA := id A0
  obtain ⟨hx, hb, -, hml, hown, hts, -, -, hK, hR, hs, ⟨hG, hL, -⟩, -⟩ := hA
  have hsz := xv_sz hs hN hP hS hle
  obtain ⟨m1, m2, m3, m4, m5, m6⟩ := hm
  have hcw : va_CN R s args J.1.cls index J1.1 host J1.2.1 J1.2.2.1 J1.2.2.2 (xv_w J1) (xv_rm d1 (n2 - xv_N u) (s2 - xv_S u)) (n2 - xv_N u) (s2 - xv_S u) n ∧ (Cond.instanceMethod J1.1).before args s = true ∧ (Cond.selects J1.1.cls J1.1 J1.1).before args s = true := ⟨va_cnB n hts (xv_goodw m1) rfl rfl rfl (hK.2.1 _ hl) (hts _ m4) m5 ⟨by show d1 + 1 ≤ _; omega, by show 8 + (J1.2.2.1 + 11) + 60 * d1 ≤ _; omega⟩, hts _ m2, hts _ m3⟩
  have hrun := va_runVN (b := xv_B G + b) (C := J1.1.cls) (As := as.map (xv_cv G)) (rest := st.map (xv_cv G)) (g := F0 m pc ls ((as.reverse ++ .ref b :: st).map (xv_cv G))) (H := H) (locs := locs) (cells := xv_N u - N0) (slots := xv_S u - S0) (l := l) (p := p) (e := e) (below := below) (meth := meth) ⟨hx, hb, hml, hown, hts⟩ (xv_met hM hr l G hG hL) hcw
    ⟨xv_blind G _ u, by
      obtain ⟨cell, c1, c2, c3⟩ := va_recv hK.1 hP (xv_cl_at hc) (xv_he wf hc hk)
      exact ⟨cell, c1, c2, by rw [← hci]; exact c3⟩, fun U hU hW => xv_pre hsz hP wf hK hS hU hW⟩ rfl (by rw [List.length_map]; exact hn) lo.1 (xv_stk G as b st) (by show 2 * 0 + _ ≤ 8; rw [xv_sum_cv]; omega) hdg (by have := hM.1; have := hM.2.1; omega)
  refine xv_back hrun hS (fun v w H1 locs1 g1 g2 g3 g4 g5 g6 => ?_)
  have h1 := hM.1
  have h2 := hM.2.1
  refine W.cs (cells' := xv_N w - N0) (slots' := xv_S w - S0) (by omega) (by omega) ?_
  have ee : (v.map (xv_cv G)).toList ++ st.map (xv_cv G) = (v.toList ++ st).map (xv_cv G) := by cases v <;> rfl
  rw [ee]
  exact k v w g1 g2 g3 p l e R s m args below meth c G N0 S0 Q H1 locs1 ls A0 lo g5 g4 g6 (by omega) (by omega)
theorem xv_callS {index n : Nat} (hM : xv_C sc d1 J1 as u n2 s2 P1) (hr : ∀ o w, P1 o w → ∃ v, o = .inl v) (hm : xv_mS J1 n) (hl : Cond.methodLink J.1.cls index J1.1 ∈ xv_BIG) (hn : as.length = n) (hd : d1 + 1 ≤ d) (hst : (st.map fun v => v.category).sum ≤ 8) (hdg : decode J.2.1 pc = .ok (.invokestatic index, 3)) (hw : n2 ≤ n1 ∧ s2 ≤ s1)
    (k : ∀ v w, P1 (.inl v) w → xv_N w = n2 → xv_S w = s2 → xv_X sc d J (pc + 3) lv (v.toList ++ st) w n1 s1 P) : xv_X sc d J pc lv (as.reverse ++ st) u n1 s1 P := by
  intro p l e R s m args below meth c G N0 S0 Q H locs ls A0 lo hP wf hS hN hZ
  refine xv_Wsz fun hle => ?_
  have hA := id A0
  obtain ⟨hx, hb, -, hml, hown, hts, -, -, hK, hR, hs, ⟨hG, hL, -⟩, -⟩ := hA
  have hsz := xv_sz hs hN hP hS hle
  obtain ⟨m1, m2, m4, m5, m6⟩ := hm
  have hcw : CallB R s args J.1.cls index J1.1 J1.2.1 J1.2.2.1 J1.2.2.2 (xv_w J1) (xv_rm d1 (n2 - xv_N u) (s2 - xv_S u)) (n2 - xv_N u) (s2 - xv_S u) n ∧ (Cond.static J1.1).before args s = true := ⟨callB_of n hts (xv_goodw m1) rfl rfl rfl (hts _ m4) (hts _ hl) m5 ⟨by show d1 + 1 ≤ _; omega, by show 8 + (J1.2.2.1 + 11) + 60 * d1 ≤ _; omega⟩, hts _ m2⟩
  have hrun := va_runS (As := as.map (xv_cv G)) (rest := st.map (xv_cv G)) (g := F0 m pc ls ((as.reverse ++ st).map (xv_cv G))) (H := H) (locs := locs) (cells := xv_N u - N0) (slots := xv_S u - S0) (l := l) (p := p) (e := e) (below := below) (meth := meth) ⟨hx, hb, hml, hown, hts⟩ (xv_met hM hr l G hG hL) hcw
    ⟨xv_blind G _ u, fun U hU hW => xv_pre hsz hP wf hK hS hU hW⟩ rfl (by rw [List.length_map]; exact hn) lo.1 (xv_stkS G as st) (by show 2 * 0 + _ ≤ 8; rw [xv_sum_cv]; omega) hdg (by have := hM.1; have := hM.2.1; omega)
  refine xv_back hrun hS (fun v w H1 locs1 g1 g2 g3 g4 g5 g6 => ?_)
  have h1 := hM.1
  have h2 := hM.2.1
  refine W.cs (cells' := xv_N w - N0) (slots' := xv_S w - S0) (by omega) (by omega) ?_
  have ee : (v.map (xv_cv G)).toList ++ st.map (xv_cv G) = (v.toList ++ st).map (xv_cv G) := by cases v <;> rfl
  rw [ee]
  exact k v w g1 g2 g3 p l e R s m args below meth c G N0 S0 Q H1 locs1 ls A0 lo g5 g4 g6 (by omega) (by omega)
theorem xv_callSN {index n : Nat} {host : String} (hM : xv_C sc d1 J1 as u n2 s2 P1) (hr : ∀ o w, P1 o w → ∃ v, o = .inl v) (hm : xv_mS J1 n) (hl : Cond.methodLinkNest J.1.cls index J1.1 host ∈ xv_nest) (hn : as.length = n) (hd : d1 + 1 ≤ d) (hst : (st.map fun v => v.category).sum ≤ 8) (hdg : decode J.2.1 pc = .ok (.invokestatic index, 3)) (hw : n2 ≤ n1 ∧ s2 ≤ s1)
    (k : ∀ v w, P1 (.inl v) w → xv_N w = n2 → xv_S w = s2 → xv_X sc d J (pc + 3) lv (v.toList ++ st) w n1 s1 P) : xv_X sc d J pc lv (as.reverse ++ st) u n1 s1 P := by
  intro p l e R s m args below meth c G N0 S0 Q H locs ls A0 lo hP wf hS hN hZ
  refine xv_Wsz fun hle => ?_
  have hA := id A0
  obtain ⟨hx, hb, -, hml, hown, hts, -, -, hK, hR, hs, ⟨hG, hL, -⟩, -⟩ := hA
  have hsz := xv_sz hs hN hP hS hle
  obtain ⟨m1, m2, m4, m5, m6⟩ := hm
  have hcw : va_CN R s args J.1.cls index J1.1 host J1.2.1 J1.2.2.1 J1.2.2.2 (xv_w J1) (xv_rm d1 (n2 - xv_N u) (s2 - xv_S u)) (n2 - xv_N u) (s2 - xv_S u) n ∧ (Cond.static J1.1).before args s = true ∧ True := ⟨va_cnB n hts (xv_goodw m1) rfl rfl rfl (hK.2.1 _ hl) (hts _ m4) m5 ⟨by show d1 + 1 ≤ _; omega, by show 8 + (J1.2.2.1 + 11) + 60 * d1 ≤ _; omega⟩, hts _ m2, trivial⟩
  have hrun := va_runSN (As := as.map (xv_cv G)) (rest := st.map (xv_cv G)) (g := F0 m pc ls ((as.reverse ++ st).map (xv_cv G))) (H := H) (locs := locs) (cells := xv_N u - N0) (slots := xv_S u - S0) (l := l) (p := p) (e := e) (below := below) (meth := meth) ⟨hx, hb, hml, hown, hts⟩ (xv_met hM hr l G hG hL) hcw
    ⟨xv_blind G _ u, fun U hU hW => xv_pre hsz hP wf hK hS hU hW⟩ rfl (by rw [List.length_map]; exact hn) lo.1 (xv_stkS G as st) (by show 2 * 0 + _ ≤ 8; rw [xv_sum_cv]; omega) hdg (by have := hM.1; have := hM.2.1; omega)
  refine xv_back hrun hS (fun v w H1 locs1 g1 g2 g3 g4 g5 g6 => ?_)
  have h1 := hM.1
  have h2 := hM.2.1
  refine W.cs (cells' := xv_N w - N0) (slots' := xv_S w - S0) (by omega) (by omega) ?_
  have ee : (v.map (xv_cv G)).toList ++ st.map (xv_cv G) = (v.toList ++ st).map (xv_cv G) := by cases v <;> rfl
  rw [ee]
  exact k v w g1 g2 g3 p l e R s m args below meth c G N0 S0 Q H1 locs1 ls A0 lo g5 g4 g6 (by omega) (by omega)
theorem xv_callI {b index n : Nat} (hM : xv_C sc d1 J1 (.ref b :: as) u n2 s2 P1) (hr : ∀ o w, P1 o w → ∃ v, o = .inl v) (hm : xv_mI J1 n) (hl : Cond.methodLink J.1.cls index J1.1 ∈ xv_BIG) (hn : as.length = n) (hd : d1 + 1 ≤ d) (hst : (st.map fun v => v.category).sum ≤ 8) (hdg : decode J.2.1 pc = .ok (.invokespecial index, 3)) (hw : n2 ≤ n1 ∧ s2 ≤ s1)
    (k : ∀ v w, P1 (.inl v) w → xv_N w = n2 → xv_S w = s2 → xv_X sc d J (pc + 3) lv (v.toList ++ st) w n1 s1 P) : xv_X sc d J pc lv (as.reverse ++ .ref b :: st) u n1 s1 P := by
  intro p l e R s m args below meth c G N0 S0 Q H locs ls A0 lo hP wf hS hN hZ
  refine xv_Wsz fun hle => ?_
  have hA := id A0
  obtain ⟨hx, hb, -, hml, hown, hts, -, -, hK, hR, hs, ⟨hG, hL, -⟩, -⟩ := hA
  have hsz := xv_sz hs hN hP hS hle
  obtain ⟨m1, m2, m3, m0, m4, m5, m6⟩ := hm
  have m1' : Cond.code J1.1 J1.2.1 J1.2.2.1 none ∈ xv_BIG := by rw [← m0]; exact m1
  have hwe : xv_w J1 = Cond.code J1.1 J1.2.1 J1.2.2.1 none :: xv_BIG := by unfold xv_w; rw [m0]
  have hcw : CallB R s args J.1.cls index J1.1 J1.2.1 J1.2.2.1 none (xv_w J1) (xv_rm d1 (n2 - xv_N u) (s2 - xv_S u)) (n2 - xv_N u) (s2 - xv_S u) n ∧ J1.1.name = "<init>" ∧ (Cond.instanceMethod J1.1).before args s = true := ⟨callB_of n hts (xv_goodw m1) hwe rfl rfl (hts _ m4) (hts _ hl) m5 ⟨by show d1 + 1 ≤ _; omega, by show 8 + (J1.2.2.1 + 11) + 60 * d1 ≤ _; omega⟩, m3, hts _ m2⟩
  have hrun := va_runI (b := xv_B G + b) (As := as.map (xv_cv G)) (rest := st.map (xv_cv G)) (g := F0 m pc ls ((as.reverse ++ .ref b :: st).map (xv_cv G))) (H := H) (locs := locs) (cells := xv_N u - N0) (slots := xv_S u - S0) (l := l) (p := p) (e := e) (below := below) (meth := meth) ⟨hx, hb, hml, hown, hts⟩ (xv_met hM hr l G hG hL) hcw
    ⟨xv_blind G _ u, fun U hU hW => xv_pre hsz hP wf hK hS hU hW⟩ rfl (by rw [List.length_map]; exact hn) lo.1 (xv_stk G as b st) (by show 2 * 0 + _ ≤ 8; rw [xv_sum_cv]; omega) hdg (by have := hM.1; have := hM.2.1; omega)
  refine xv_back hrun hS (fun v w H1 locs1 g1 g2 g3 g4 g5 g6 => ?_)
  have h1 := hM.1
  have h2 := hM.2.1
  refine W.cs (cells' := xv_N w - N0) (slots' := xv_S w - S0) (by omega) (by omega) ?_
  have ee : (v.map (xv_cv G)).toList ++ st.map (xv_cv G) = (v.toList ++ st).map (xv_cv G) := by cases v <;> rfl
  rw [ee]
  exact k v w g1 g2 g3 p l e R s m args below meth c G N0 S0 Q H1 locs1 ls A0 lo g5 g4 g6 (by omega) (by omega)
theorem xv_callIN {b index n : Nat} {host : String} (hM : xv_C sc d1 J1 (.ref b :: as) u n2 s2 P1) (hr : ∀ o w, P1 o w → ∃ v, o = .inl v) (hm : xv_mI J1 n) (hl : Cond.methodLinkNest J.1.cls index J1.1 host ∈ xv_nest) (hn : as.length = n) (hd : d1 + 1 ≤ d) (hst : (st.map fun v => v.category).sum ≤ 8) (hdg : decode J.2.1 pc = .ok (.invokespecial index, 3)) (hw : n2 ≤ n1 ∧ s2 ≤ s1)
    (k : ∀ v w, P1 (.inl v) w → xv_N w = n2 → xv_S w = s2 → xv_X sc d J (pc + 3) lv (v.toList ++ st) w n1 s1 P) : xv_X sc d J pc lv (as.reverse ++ .ref b :: st) u n1 s1 P := by
  intro p l e R s m args below meth c G N0 S0 Q H locs ls A0 lo hP wf hS hN hZ
  refine xv_Wsz fun hle => ?_
  have hA := id A0
  obtain ⟨hx, hb, -, hml, hown, hts, -, -, hK, hR, hs, ⟨hG, hL, -⟩, -⟩ := hA
  have hsz := xv_sz hs hN hP hS hle
  obtain ⟨m1, m2, m3, m0, m4, m5, m6⟩ := hm
  have m1' : Cond.code J1.1 J1.2.1 J1.2.2.1 none ∈ xv_BIG := by rw [← m0]; exact m1
  have hwe : xv_w J1 = Cond.code J1.1 J1.2.1 J1.2.2.1 none :: xv_BIG := by unfold xv_w; rw [m0]
  have hcw : va_CN R s args J.1.cls index J1.1 host J1.2.1 J1.2.2.1 none (xv_w J1) (xv_rm d1 (n2 - xv_N u) (s2 - xv_S u)) (n2 - xv_N u) (s2 - xv_S u) n ∧ J1.1.name = "<init>" ∧ (Cond.instanceMethod J1.1).before args s = true := ⟨va_cnB n hts (xv_goodw m1) hwe rfl rfl (hK.2.1 _ hl) (hts _ m4) m5 ⟨by show d1 + 1 ≤ _; omega, by show 8 + (J1.2.2.1 + 11) + 60 * d1 ≤ _; omega⟩, m3, hts _ m2⟩
  have hrun := va_runIN (b := xv_B G + b) (As := as.map (xv_cv G)) (rest := st.map (xv_cv G)) (g := F0 m pc ls ((as.reverse ++ .ref b :: st).map (xv_cv G))) (H := H) (locs := locs) (cells := xv_N u - N0) (slots := xv_S u - S0) (l := l) (p := p) (e := e) (below := below) (meth := meth) ⟨hx, hb, hml, hown, hts⟩ (xv_met hM hr l G hG hL) hcw
    ⟨xv_blind G _ u, fun U hU hW => xv_pre hsz hP wf hK hS hU hW⟩ rfl (by rw [List.length_map]; exact hn) lo.1 (xv_stk G as b st) (by show 2 * 0 + _ ≤ 8; rw [xv_sum_cv]; omega) hdg (by have := hM.1; have := hM.2.1; omega)
  refine xv_back hrun hS (fun v w H1 locs1 g1 g2 g3 g4 g5 g6 => ?_)
  have h1 := hM.1
  have h2 := hM.2.1
  refine W.cs (cells' := xv_N w - N0) (slots' := xv_S w - S0) (by omega) (by omega) ?_
  have ee : (v.map (xv_cv G)).toList ++ st.map (xv_cv G) = (v.toList ++ st).map (xv_cv G) := by cases v <;> rfl
  rw [ee]
  exact k v w g1 g2 g3 p l e R s m args below meth c G N0 S0 Q H1 locs1 ls A0 lo g5 g4 g6 (by omega) (by omega)
end CALLG
section CALLA
variable {sc : Nat × (Nat → Int32)} {d d1 : Nat} {J J1 : xv_J} {pc : Nat} {lv : List (Option Value)} {st as : List Value} {u : xv_M} {n1 s1 n2 s2 : Nat} {P P1 : xv_P}
theorem xv_cV0i {b ci index : Nat} {p1 : Int32 → xv_M → Prop} (hM : xv_C sc d1 J1 [.ref b] u n2 s2 (xv_pi p1)) (hm : xv_mV J1 0) (hl : Cond.methodLink J.1.cls index J1.1 ∈ xv_BIG) (hdg : decode J.2.1 pc = .ok (.invokevirtual index, 3)) (hd : d1 + 1 ≤ d) (hc : ci < xv_nc) (hci : xv_nm ci = J1.1.cls) (hk : xv_k u b = ci + 1) (hst : (st.map fun v => v.category).sum ≤ 8) (hw : n2 ≤ n1 ∧ s2 ≤ s1) (k : ∀ (r : Int32) (w : xv_M), p1 r w → xv_N w = n2 → xv_S w = s2 → xv_X sc d J (pc + 3) lv (.int r :: st) w n1 s1 P) : xv_X sc d J pc lv (.ref b :: st) u n1 s1 P := xv_callV (as := []) hM xv_pi_l hm hl rfl hd hc hci hk hst hdg hw (fun v w g1 g2 g3 => by obtain ⟨r, hr, hp⟩ := g1; cases hr; exact k r w hp g2 g3)
theorem xv_cV0v {b ci index : Nat} {p1 : xv_M → Prop} (hM : xv_C sc d1 J1 [.ref b] u n2 s2 (xv_pv p1)) (hm : xv_mV J1 0) (hl : Cond.methodLink J.1.cls index J1.1 ∈ xv_BIG) (hdg : decode J.2.1 pc = .ok (.invokevirtual index, 3)) (hd : d1 + 1 ≤ d) (hc : ci < xv_nc) (hci : xv_nm ci = J1.1.cls) (hk : xv_k u b = ci + 1) (hst : (st.map fun v => v.category).sum ≤ 8) (hw : n2 ≤ n1 ∧ s2 ≤ s1) (k : ∀ w : xv_M, p1 w → xv_N w = n2 → xv_S w = s2 → xv_X sc d J (pc + 3) lv st w n1 s1 P) : xv_X sc d J pc lv (.ref b :: st) u n1 s1 P := xv_callV (as := []) hM xv_pv_l hm hl rfl hd hc hci hk hst hdg hw (fun v w g1 g2 g3 => by obtain ⟨hr, hp⟩ := g1; cases hr; exact k w hp g2 g3)
theorem xv_cV0r {b ci index : Nat} {p1 : Nat → xv_M → Prop} (hM : xv_C sc d1 J1 [.ref b] u n2 s2 (xv_pr p1)) (hm : xv_mV J1 0) (hl : Cond.methodLink J.1.cls index J1.1 ∈ xv_BIG) (hdg : decode J.2.1 pc = .ok (.invokevirtual index, 3)) (hd : d1 + 1 ≤ d) (hc : ci < xv_nc) (hci : xv_nm ci = J1.1.cls) (hk : xv_k u b = ci + 1) (hst : (st.map fun v => v.category).sum ≤ 8) (hw : n2 ≤ n1 ∧ s2 ≤ s1) (k : ∀ (r : Nat) (w : xv_M), p1 r w → xv_N w = n2 → xv_S w = s2 → xv_X sc d J (pc + 3) lv (.ref r :: st) w n1 s1 P) : xv_X sc d J pc lv (.ref b :: st) u n1 s1 P := xv_callV (as := []) hM xv_pr_l hm hl rfl hd hc hci hk hst hdg hw (fun v w g1 g2 g3 => by obtain ⟨r, hr, hp⟩ := g1; cases hr; exact k r w hp g2 g3)
theorem xv_cV1i {b ci index : Nat} {x1 : Value} {p1 : Int32 → xv_M → Prop} (hM : xv_C sc d1 J1 [.ref b, x1] u n2 s2 (xv_pi p1)) (hm : xv_mV J1 1) (hl : Cond.methodLink J.1.cls index J1.1 ∈ xv_BIG) (hdg : decode J.2.1 pc = .ok (.invokevirtual index, 3)) (hd : d1 + 1 ≤ d) (hc : ci < xv_nc) (hci : xv_nm ci = J1.1.cls) (hk : xv_k u b = ci + 1) (hst : (st.map fun v => v.category).sum ≤ 8) (hw : n2 ≤ n1 ∧ s2 ≤ s1) (k : ∀ (r : Int32) (w : xv_M), p1 r w → xv_N w = n2 → xv_S w = s2 → xv_X sc d J (pc + 3) lv (.int r :: st) w n1 s1 P) : xv_X sc d J pc lv (x1 :: .ref b :: st) u n1 s1 P := xv_callV (as := [x1]) hM xv_pi_l hm hl rfl hd hc hci hk hst hdg hw (fun v w g1 g2 g3 => by obtain ⟨r, hr, hp⟩ := g1; cases hr; exact k r w hp g2 g3)
theorem xv_cV1v {b ci index : Nat} {x1 : Value} {p1 : xv_M → Prop} (hM : xv_C sc d1 J1 [.ref b, x1] u n2 s2 (xv_pv p1)) (hm : xv_mV J1 1) (hl : Cond.methodLink J.1.cls index J1.1 ∈ xv_BIG) (hdg : decode J.2.1 pc = .ok (.invokevirtual index, 3)) (hd : d1 + 1 ≤ d) (hc : ci < xv_nc) (hci : xv_nm ci = J1.1.cls) (hk : xv_k u b = ci + 1) (hst : (st.map fun v => v.category).sum ≤ 8) (hw : n2 ≤ n1 ∧ s2 ≤ s1) (k : ∀ w : xv_M, p1 w → xv_N w = n2 → xv_S w = s2 → xv_X sc d J (pc + 3) lv st w n1 s1 P) : xv_X sc d J pc lv (x1 :: .ref b :: st) u n1 s1 P := xv_callV (as := [x1]) hM xv_pv_l hm hl rfl hd hc hci hk hst hdg hw (fun v w g1 g2 g3 => by obtain ⟨hr, hp⟩ := g1; cases hr; exact k w hp g2 g3)
theorem xv_cV1r {b ci index : Nat} {x1 : Value} {p1 : Nat → xv_M → Prop} (hM : xv_C sc d1 J1 [.ref b, x1] u n2 s2 (xv_pr p1)) (hm : xv_mV J1 1) (hl : Cond.methodLink J.1.cls index J1.1 ∈ xv_BIG) (hdg : decode J.2.1 pc = .ok (.invokevirtual index, 3)) (hd : d1 + 1 ≤ d) (hc : ci < xv_nc) (hci : xv_nm ci = J1.1.cls) (hk : xv_k u b = ci + 1) (hst : (st.map fun v => v.category).sum ≤ 8) (hw : n2 ≤ n1 ∧ s2 ≤ s1) (k : ∀ (r : Nat) (w : xv_M), p1 r w → xv_N w = n2 → xv_S w = s2 → xv_X sc d J (pc + 3) lv (.ref r :: st) w n1 s1 P) : xv_X sc d J pc lv (x1 :: .ref b :: st) u n1 s1 P := xv_callV (as := [x1]) hM xv_pr_l hm hl rfl hd hc hci hk hst hdg hw (fun v w g1 g2 g3 => by obtain ⟨r, hr, hp⟩ := g1; cases hr; exact k r w hp g2 g3)
theorem xv_cV2i {b ci index : Nat} {x1 x2 : Value} {p1 : Int32 → xv_M → Prop} (hM : xv_C sc d1 J1 [.ref b, x1, x2] u n2 s2 (xv_pi p1)) (hm : xv_mV J1 2) (hl : Cond.methodLink J.1.cls index J1.1 ∈ xv_BIG) (hdg : decode J.2.1 pc = .ok (.invokevirtual index, 3)) (hd : d1 + 1 ≤ d) (hc : ci < xv_nc) (hci : xv_nm ci = J1.1.cls) (hk : xv_k u b = ci + 1) (hst : (st.map fun v => v.category).sum ≤ 8) (hw : n2 ≤ n1 ∧ s2 ≤ s1) (k : ∀ (r : Int32) (w : xv_M), p1 r w → xv_N w = n2 → xv_S w = s2 → xv_X sc d J (pc + 3) lv (.int r :: st) w n1 s1 P) : xv_X sc d J pc lv (x2 :: x1 :: .ref b :: st) u n1 s1 P := xv_callV (as := [x1, x2]) hM xv_pi_l hm hl rfl hd hc hci hk hst hdg hw (fun v w g1 g2 g3 => by obtain ⟨r, hr, hp⟩ := g1; cases hr; exact k r w hp g2 g3)
theorem xv_cV2v {b ci index : Nat} {x1 x2 : Value} {p1 : xv_M → Prop} (hM : xv_C sc d1 J1 [.ref b, x1, x2] u n2 s2 (xv_pv p1)) (hm : xv_mV J1 2) (hl : Cond.methodLink J.1.cls index J1.1 ∈ xv_BIG) (hdg : decode J.2.1 pc = .ok (.invokevirtual index, 3)) (hd : d1 + 1 ≤ d) (hc : ci < xv_nc) (hci : xv_nm ci = J1.1.cls) (hk : xv_k u b = ci + 1) (hst : (st.map fun v => v.category).sum ≤ 8) (hw : n2 ≤ n1 ∧ s2 ≤ s1) (k : ∀ w : xv_M, p1 w → xv_N w = n2 → xv_S w = s2 → xv_X sc d J (pc + 3) lv st w n1 s1 P) : xv_X sc d J pc lv (x2 :: x1 :: .ref b :: st) u n1 s1 P := xv_callV (as := [x1, x2]) hM xv_pv_l hm hl rfl hd hc hci hk hst hdg hw (fun v w g1 g2 g3 => by obtain ⟨hr, hp⟩ := g1; cases hr; exact k w hp g2 g3)
theorem xv_cV2r {b ci index : Nat} {x1 x2 : Value} {p1 : Nat → xv_M → Prop} (hM : xv_C sc d1 J1 [.ref b, x1, x2] u n2 s2 (xv_pr p1)) (hm : xv_mV J1 2) (hl : Cond.methodLink J.1.cls index J1.1 ∈ xv_BIG) (hdg : decode J.2.1 pc = .ok (.invokevirtual index, 3)) (hd : d1 + 1 ≤ d) (hc : ci < xv_nc) (hci : xv_nm ci = J1.1.cls) (hk : xv_k u b = ci + 1) (hst : (st.map fun v => v.category).sum ≤ 8) (hw : n2 ≤ n1 ∧ s2 ≤ s1) (k : ∀ (r : Nat) (w : xv_M), p1 r w → xv_N w = n2 → xv_S w = s2 → xv_X sc d J (pc + 3) lv (.ref r :: st) w n1 s1 P) : xv_X sc d J pc lv (x2 :: x1 :: .ref b :: st) u n1 s1 P := xv_callV (as := [x1, x2]) hM xv_pr_l hm hl rfl hd hc hci hk hst hdg hw (fun v w g1 g2 g3 => by obtain ⟨r, hr, hp⟩ := g1; cases hr; exact k r w hp g2 g3)
theorem xv_cV3i {b ci index : Nat} {x1 x2 x3 : Value} {p1 : Int32 → xv_M → Prop} (hM : xv_C sc d1 J1 [.ref b, x1, x2, x3] u n2 s2 (xv_pi p1)) (hm : xv_mV J1 3) (hl : Cond.methodLink J.1.cls index J1.1 ∈ xv_BIG) (hdg : decode J.2.1 pc = .ok (.invokevirtual index, 3)) (hd : d1 + 1 ≤ d) (hc : ci < xv_nc) (hci : xv_nm ci = J1.1.cls) (hk : xv_k u b = ci + 1) (hst : (st.map fun v => v.category).sum ≤ 8) (hw : n2 ≤ n1 ∧ s2 ≤ s1) (k : ∀ (r : Int32) (w : xv_M), p1 r w → xv_N w = n2 → xv_S w = s2 → xv_X sc d J (pc + 3) lv (.int r :: st) w n1 s1 P) : xv_X sc d J pc lv (x3 :: x2 :: x1 :: .ref b :: st) u n1 s1 P := xv_callV (as := [x1, x2, x3]) hM xv_pi_l hm hl rfl hd hc hci hk hst hdg hw (fun v w g1 g2 g3 => by obtain ⟨r, hr, hp⟩ := g1; cases hr; exact k r w hp g2 g3)
theorem xv_cV3v {b ci index : Nat} {x1 x2 x3 : Value} {p1 : xv_M → Prop} (hM : xv_C sc d1 J1 [.ref b, x1, x2, x3] u n2 s2 (xv_pv p1)) (hm : xv_mV J1 3) (hl : Cond.methodLink J.1.cls index J1.1 ∈ xv_BIG) (hdg : decode J.2.1 pc = .ok (.invokevirtual index, 3)) (hd : d1 + 1 ≤ d) (hc : ci < xv_nc) (hci : xv_nm ci = J1.1.cls) (hk : xv_k u b = ci + 1) (hst : (st.map fun v => v.category).sum ≤ 8) (hw : n2 ≤ n1 ∧ s2 ≤ s1) (k : ∀ w : xv_M, p1 w → xv_N w = n2 → xv_S w = s2 → xv_X sc d J (pc + 3) lv st w n1 s1 P) : xv_X sc d J pc lv (x3 :: x2 :: x1 :: .ref b :: st) u n1 s1 P := xv_callV (as := [x1, x2, x3]) hM xv_pv_l hm hl rfl hd hc hci hk hst hdg hw (fun v w g1 g2 g3 => by obtain ⟨hr, hp⟩ := g1; cases hr; exact k w hp g2 g3)
theorem xv_cV3r {b ci index : Nat} {x1 x2 x3 : Value} {p1 : Nat → xv_M → Prop} (hM : xv_C sc d1 J1 [.ref b, x1, x2, x3] u n2 s2 (xv_pr p1)) (hm : xv_mV J1 3) (hl : Cond.methodLink J.1.cls index J1.1 ∈ xv_BIG) (hdg : decode J.2.1 pc = .ok (.invokevirtual index, 3)) (hd : d1 + 1 ≤ d) (hc : ci < xv_nc) (hci : xv_nm ci = J1.1.cls) (hk : xv_k u b = ci + 1) (hst : (st.map fun v => v.category).sum ≤ 8) (hw : n2 ≤ n1 ∧ s2 ≤ s1) (k : ∀ (r : Nat) (w : xv_M), p1 r w → xv_N w = n2 → xv_S w = s2 → xv_X sc d J (pc + 3) lv (.ref r :: st) w n1 s1 P) : xv_X sc d J pc lv (x3 :: x2 :: x1 :: .ref b :: st) u n1 s1 P := xv_callV (as := [x1, x2, x3]) hM xv_pr_l hm hl rfl hd hc hci hk hst hdg hw (fun v w g1 g2 g3 => by obtain ⟨r, hr, hp⟩ := g1; cases hr; exact k r w hp g2 g3)
theorem xv_cV4i {b ci index : Nat} {x1 x2 x3 x4 : Value} {p1 : Int32 → xv_M → Prop} (hM : xv_C sc d1 J1 [.ref b, x1, x2, x3, x4] u n2 s2 (xv_pi p1)) (hm : xv_mV J1 4) (hl : Cond.methodLink J.1.cls index J1.1 ∈ xv_BIG) (hdg : decode J.2.1 pc = .ok (.invokevirtual index, 3)) (hd : d1 + 1 ≤ d) (hc : ci < xv_nc) (hci : xv_nm ci = J1.1.cls) (hk : xv_k u b = ci + 1) (hst : (st.map fun v => v.category).sum ≤ 8) (hw : n2 ≤ n1 ∧ s2 ≤ s1) (k : ∀ (r : Int32) (w : xv_M), p1 r w → xv_N w = n2 → xv_S w = s2 → xv_X sc d J (pc + 3) lv (.int r :: st) w n1 s1 P) : xv_X sc d J pc lv (x4 :: x3 :: x2 :: x1 :: .ref b :: st) u n1 s1 P := xv_callV (as := [x1, x2, x3, x4]) hM xv_pi_l hm hl rfl hd hc hci hk hst hdg hw (fun v w g1 g2 g3 => by obtain ⟨r, hr, hp⟩ := g1; cases hr; exact k r w hp g2 g3)
theorem xv_cV4v {b ci index : Nat} {x1 x2 x3 x4 : Value} {p1 : xv_M → Prop} (hM : xv_C sc d1 J1 [.ref b, x1, x2, x3, x4] u n2 s2 (xv_pv p1)) (hm : xv_mV J1 4) (hl : Cond.methodLink J.1.cls index J1.1 ∈ xv_BIG) (hdg : decode J.2.1 pc = .ok (.invokevirtual index, 3)) (hd : d1 + 1 ≤ d) (hc : ci < xv_nc) (hci : xv_nm ci = J1.1.cls) (hk : xv_k u b = ci + 1) (hst : (st.map fun v => v.category).sum ≤ 8) (hw : n2 ≤ n1 ∧ s2 ≤ s1) (k : ∀ w : xv_M, p1 w → xv_N w = n2 → xv_S w = s2 → xv_X sc d J (pc + 3) lv st w n1 s1 P) : xv_X sc d J pc lv (x4 :: x3 :: x2 :: x1 :: .ref b :: st) u n1 s1 P := xv_callV (as := [x1, x2, x3, x4]) hM xv_pv_l hm hl rfl hd hc hci hk hst hdg hw (fun v w g1 g2 g3 => by obtain ⟨hr, hp⟩ := g1; cases hr; exact k w hp g2 g3)
theorem xv_cV4r {b ci index : Nat} {x1 x2 x3 x4 : Value} {p1 : Nat → xv_M → Prop} (hM : xv_C sc d1 J1 [.ref b, x1, x2, x3, x4] u n2 s2 (xv_pr p1)) (hm : xv_mV J1 4) (hl : Cond.methodLink J.1.cls index J1.1 ∈ xv_BIG) (hdg : decode J.2.1 pc = .ok (.invokevirtual index, 3)) (hd : d1 + 1 ≤ d) (hc : ci < xv_nc) (hci : xv_nm ci = J1.1.cls) (hk : xv_k u b = ci + 1) (hst : (st.map fun v => v.category).sum ≤ 8) (hw : n2 ≤ n1 ∧ s2 ≤ s1) (k : ∀ (r : Nat) (w : xv_M), p1 r w → xv_N w = n2 → xv_S w = s2 → xv_X sc d J (pc + 3) lv (.ref r :: st) w n1 s1 P) : xv_X sc d J pc lv (x4 :: x3 :: x2 :: x1 :: .ref b :: st) u n1 s1 P := xv_callV (as := [x1, x2, x3, x4]) hM xv_pr_l hm hl rfl hd hc hci hk hst hdg hw (fun v w g1 g2 g3 => by obtain ⟨r, hr, hp⟩ := g1; cases hr; exact k r w hp g2 g3)
theorem xv_cV5i {b ci index : Nat} {x1 x2 x3 x4 x5 : Value} {p1 : Int32 → xv_M → Prop} (hM : xv_C sc d1 J1 [.ref b, x1, x2, x3, x4, x5] u n2 s2 (xv_pi p1)) (hm : xv_mV J1 5) (hl : Cond.methodLink J.1.cls index J1.1 ∈ xv_BIG) (hdg : decode J.2.1 pc = .ok (.invokevirtual index, 3)) (hd : d1 + 1 ≤ d) (hc : ci < xv_nc) (hci : xv_nm ci = J1.1.cls) (hk : xv_k u b = ci + 1) (hst : (st.map fun v => v.category).sum ≤ 8) (hw : n2 ≤ n1 ∧ s2 ≤ s1) (k : ∀ (r : Int32) (w : xv_M), p1 r w → xv_N w = n2 → xv_S w = s2 → xv_X sc d J (pc + 3) lv (.int r :: st) w n1 s1 P) : xv_X sc d J pc lv (x5 :: x4 :: x3 :: x2 :: x1 :: .ref b :: st) u n1 s1 P := xv_callV (as := [x1, x2, x3, x4, x5]) hM xv_pi_l hm hl rfl hd hc hci hk hst hdg hw (fun v w g1 g2 g3 => by obtain ⟨r, hr, hp⟩ := g1; cases hr; exact k r w hp g2 g3)
theorem xv_cV5v {b ci index : Nat} {x1 x2 x3 x4 x5 : Value} {p1 : xv_M → Prop} (hM : xv_C sc d1 J1 [.ref b, x1, x2, x3, x4, x5] u n2 s2 (xv_pv p1)) (hm : xv_mV J1 5) (hl : Cond.methodLink J.1.cls index J1.1 ∈ xv_BIG) (hdg : decode J.2.1 pc = .ok (.invokevirtual index, 3)) (hd : d1 + 1 ≤ d) (hc : ci < xv_nc) (hci : xv_nm ci = J1.1.cls) (hk : xv_k u b = ci + 1) (hst : (st.map fun v => v.category).sum ≤ 8) (hw : n2 ≤ n1 ∧ s2 ≤ s1) (k : ∀ w : xv_M, p1 w → xv_N w = n2 → xv_S w = s2 → xv_X sc d J (pc + 3) lv st w n1 s1 P) : xv_X sc d J pc lv (x5 :: x4 :: x3 :: x2 :: x1 :: .ref b :: st) u n1 s1 P := xv_callV (as := [x1, x2, x3, x4, x5]) hM xv_pv_l hm hl rfl hd hc hci hk hst hdg hw (fun v w g1 g2 g3 => by obtain ⟨hr, hp⟩ := g1; cases hr; exact k w hp g2 g3)
theorem xv_cV5r {b ci index : Nat} {x1 x2 x3 x4 x5 : Value} {p1 : Nat → xv_M → Prop} (hM : xv_C sc d1 J1 [.ref b, x1, x2, x3, x4, x5] u n2 s2 (xv_pr p1)) (hm : xv_mV J1 5) (hl : Cond.methodLink J.1.cls index J1.1 ∈ xv_BIG) (hdg : decode J.2.1 pc = .ok (.invokevirtual index, 3)) (hd : d1 + 1 ≤ d) (hc : ci < xv_nc) (hci : xv_nm ci = J1.1.cls) (hk : xv_k u b = ci + 1) (hst : (st.map fun v => v.category).sum ≤ 8) (hw : n2 ≤ n1 ∧ s2 ≤ s1) (k : ∀ (r : Nat) (w : xv_M), p1 r w → xv_N w = n2 → xv_S w = s2 → xv_X sc d J (pc + 3) lv (.ref r :: st) w n1 s1 P) : xv_X sc d J pc lv (x5 :: x4 :: x3 :: x2 :: x1 :: .ref b :: st) u n1 s1 P := xv_callV (as := [x1, x2, x3, x4, x5]) hM xv_pr_l hm hl rfl hd hc hci hk hst hdg hw (fun v w g1 g2 g3 => by obtain ⟨r, hr, hp⟩ := g1; cases hr; exact k r w hp g2 g3)
theorem xv_cVN0i {b ci index : Nat} {host : String} {p1 : Int32 → xv_M → Prop} (hM : xv_C sc d1 J1 [.ref b] u n2 s2 (xv_pi p1)) (hm : xv_mV J1 0) (hl : Cond.methodLinkNest J.1.cls index J1.1 host ∈ xv_nest) (hdg : decode J.2.1 pc = .ok (.invokevirtual index, 3)) (hd : d1 + 1 ≤ d) (hc : ci < xv_nc) (hci : xv_nm ci = J1.1.cls) (hk : xv_k u b = ci + 1) (hst : (st.map fun v => v.category).sum ≤ 8) (hw : n2 ≤ n1 ∧ s2 ≤ s1) (k : ∀ (r : Int32) (w : xv_M), p1 r w → xv_N w = n2 → xv_S w = s2 → xv_X sc d J (pc + 3) lv (.int r :: st) w n1 s1 P) : xv_X sc d J pc lv (.ref b :: st) u n1 s1 P := xv_callVN (as := []) hM xv_pi_l hm hl rfl hd hc hci hk hst hdg hw (fun v w g1 g2 g3 => by obtain ⟨r, hr, hp⟩ := g1; cases hr; exact k r w hp g2 g3)
theorem xv_cVN0v {b ci index : Nat} {host : String} {p1 : xv_M → Prop} (hM : xv_C sc d1 J1 [.ref b] u n2 s2 (xv_pv p1)) (hm : xv_mV J1 0) (hl : Cond.methodLinkNest J.1.cls index J1.1 host ∈ xv_nest) (hdg : decode J.2.1 pc = .ok (.invokevirtual index, 3)) (hd : d1 + 1 ≤ d) (hc : ci < xv_nc) (hci : xv_nm ci = J1.1.cls) (hk : xv_k u b = ci + 1) (hst : (st.map fun v => v.category).sum ≤ 8) (hw : n2 ≤ n1 ∧ s2 ≤ s1) (k : ∀ w : xv_M, p1 w → xv_N w = n2 → xv_S w = s2 → xv_X sc d J (pc + 3) lv st w n1 s1 P) : xv_X sc d J pc lv (.ref b :: st) u n1 s1 P := xv_callVN (as := []) hM xv_pv_l hm hl rfl hd hc hci hk hst hdg hw (fun v w g1 g2 g3 => by obtain ⟨hr, hp⟩ := g1; cases hr; exact k w hp g2 g3)
theorem xv_cVN0r {b ci index : Nat} {host : String} {p1 : Nat → xv_M → Prop} (hM : xv_C sc d1 J1 [.ref b] u n2 s2 (xv_pr p1)) (hm : xv_mV J1 0) (hl : Cond.methodLinkNest J.1.cls index J1.1 host ∈ xv_nest) (hdg : decode J.2.1 pc = .ok (.invokevirtual index, 3)) (hd : d1 + 1 ≤ d) (hc : ci < xv_nc) (hci : xv_nm ci = J1.1.cls) (hk : xv_k u b = ci + 1) (hst : (st.map fun v => v.category).sum ≤ 8) (hw : n2 ≤ n1 ∧ s2 ≤ s1) (k : ∀ (r : Nat) (w : xv_M), p1 r w → xv_N w = n2 → xv_S w = s2 → xv_X sc d J (pc + 3) lv (.ref r :: st) w n1 s1 P) : xv_X sc d J pc lv (.ref b :: st) u n1 s1 P := xv_callVN (as := []) hM xv_pr_l hm hl rfl hd hc hci hk hst hdg hw (fun v w g1 g2 g3 => by obtain ⟨r, hr, hp⟩ := g1; cases hr; exact k r w hp g2 g3)
theorem xv_cVN1i {b ci index : Nat} {host : String} {x1 : Value} {p1 : Int32 → xv_M → Prop} (hM : xv_C sc d1 J1 [.ref b, x1] u n2 s2 (xv_pi p1)) (hm : xv_mV J1 1) (hl : Cond.methodLinkNest J.1.cls index J1.1 host ∈ xv_nest) (hdg : decode J.2.1 pc = .ok (.invokevirtual index, 3)) (hd : d1 + 1 ≤ d) (hc : ci < xv_nc) (hci : xv_nm ci = J1.1.cls) (hk : xv_k u b = ci + 1) (hst : (st.map fun v => v.category).sum ≤ 8) (hw : n2 ≤ n1 ∧ s2 ≤ s1) (k : ∀ (r : Int32) (w : xv_M), p1 r w → xv_N w = n2 → xv_S w = s2 → xv_X sc d J (pc + 3) lv (.int r :: st) w n1 s1 P) : xv_X sc d J pc lv (x1 :: .ref b :: st) u n1 s1 P := xv_callVN (as := [x1]) hM xv_pi_l hm hl rfl hd hc hci hk hst hdg hw (fun v w g1 g2 g3 => by obtain ⟨r, hr, hp⟩ := g1; cases hr; exact k r w hp g2 g3)
theorem xv_cVN1v {b ci index : Nat} {host : String} {x1 : Value} {p1 : xv_M → Prop} (hM : xv_C sc d1 J1 [.ref b, x1] u n2 s2 (xv_pv p1)) (hm : xv_mV J1 1) (hl : Cond.methodLinkNest J.1.cls index J1.1 host ∈ xv_nest) (hdg : decode J.2.1 pc = .ok (.invokevirtual index, 3)) (hd : d1 + 1 ≤ d) (hc : ci < xv_nc) (hci : xv_nm ci = J1.1.cls) (hk : xv_k u b = ci + 1) (hst : (st.map fun v => v.category).sum ≤ 8) (hw : n2 ≤ n1 ∧ s2 ≤ s1) (k : ∀ w : xv_M, p1 w → xv_N w = n2 → xv_S w = s2 → xv_X sc d J (pc + 3) lv st w n1 s1 P) : xv_X sc d J pc lv (x1 :: .ref b :: st) u n1 s1 P := xv_callVN (as := [x1]) hM xv_pv_l hm hl rfl hd hc hci hk hst hdg hw (fun v w g1 g2 g3 => by obtain ⟨hr, hp⟩ := g1; cases hr; exact k w hp g2 g3)
theorem xv_cVN1r {b ci index : Nat} {host : String} {x1 : Value} {p1 : Nat → xv_M → Prop} (hM : xv_C sc d1 J1 [.ref b, x1] u n2 s2 (xv_pr p1)) (hm : xv_mV J1 1) (hl : Cond.methodLinkNest J.1.cls index J1.1 host ∈ xv_nest) (hdg : decode J.2.1 pc = .ok (.invokevirtual index, 3)) (hd : d1 + 1 ≤ d) (hc : ci < xv_nc) (hci : xv_nm ci = J1.1.cls) (hk : xv_k u b = ci + 1) (hst : (st.map fun v => v.category).sum ≤ 8) (hw : n2 ≤ n1 ∧ s2 ≤ s1) (k : ∀ (r : Nat) (w : xv_M), p1 r w → xv_N w = n2 → xv_S w = s2 → xv_X sc d J (pc + 3) lv (.ref r :: st) w n1 s1 P) : xv_X sc d J pc lv (x1 :: .ref b :: st) u n1 s1 P := xv_callVN (as := [x1]) hM xv_pr_l hm hl rfl hd hc hci hk hst hdg hw (fun v w g1 g2 g3 => by obtain ⟨r, hr, hp⟩ := g1; cases hr; exact k r w hp g2 g3)
theorem xv_cVN2i {b ci index : Nat} {host : String} {x1 x2 : Value} {p1 : Int32 → xv_M → Prop} (hM : xv_C sc d1 J1 [.ref b, x1, x2] u n2 s2 (xv_pi p1)) (hm : xv_mV J1 2) (hl : Cond.methodLinkNest J.1.cls index J1.1 host ∈ xv_nest) (hdg : decode J.2.1 pc = .ok (.invokevirtual index, 3)) (hd : d1 + 1 ≤ d) (hc : ci < xv_nc) (hci : xv_nm ci = J1.1.cls) (hk : xv_k u b = ci + 1) (hst : (st.map fun v => v.category).sum ≤ 8) (hw : n2 ≤ n1 ∧ s2 ≤ s1) (k : ∀ (r : Int32) (w : xv_M), p1 r w → xv_N w = n2 → xv_S w = s2 → xv_X sc d J (pc + 3) lv (.int r :: st) w n1 s1 P) : xv_X sc d J pc lv (x2 :: x1 :: .ref b :: st) u n1 s1 P := xv_callVN (as := [x1, x2]) hM xv_pi_l hm hl rfl hd hc hci hk hst hdg hw (fun v w g1 g2 g3 => by obtain ⟨r, hr, hp⟩ := g1; cases hr; exact k r w hp g2 g3)
theorem xv_cVN2v {b ci index : Nat} {host : String} {x1 x2 : Value} {p1 : xv_M → Prop} (hM : xv_C sc d1 J1 [.ref b, x1, x2] u n2 s2 (xv_pv p1)) (hm : xv_mV J1 2) (hl : Cond.methodLinkNest J.1.cls index J1.1 host ∈ xv_nest) (hdg : decode J.2.1 pc = .ok (.invokevirtual index, 3)) (hd : d1 + 1 ≤ d) (hc : ci < xv_nc) (hci : xv_nm ci = J1.1.cls) (hk : xv_k u b = ci + 1) (hst : (st.map fun v => v.category).sum ≤ 8) (hw : n2 ≤ n1 ∧ s2 ≤ s1) (k : ∀ w : xv_M, p1 w → xv_N w = n2 → xv_S w = s2 → xv_X sc d J (pc + 3) lv st w n1 s1 P) : xv_X sc d J pc lv (x2 :: x1 :: .ref b :: st) u n1 s1 P := xv_callVN (as := [x1, x2]) hM xv_pv_l hm hl rfl hd hc hci hk hst hdg hw (fun v w g1 g2 g3 => by obtain ⟨hr, hp⟩ := g1; cases hr; exact k w hp g2 g3)
theorem xv_cVN2r {b ci index : Nat} {host : String} {x1 x2 : Value} {p1 : Nat → xv_M → Prop} (hM : xv_C sc d1 J1 [.ref b, x1, x2] u n2 s2 (xv_pr p1)) (hm : xv_mV J1 2) (hl : Cond.methodLinkNest J.1.cls index J1.1 host ∈ xv_nest) (hdg : decode J.2.1 pc = .ok (.invokevirtual index, 3)) (hd : d1 + 1 ≤ d) (hc : ci < xv_nc) (hci : xv_nm ci = J1.1.cls) (hk : xv_k u b = ci + 1) (hst : (st.map fun v => v.category).sum ≤ 8) (hw : n2 ≤ n1 ∧ s2 ≤ s1) (k : ∀ (r : Nat) (w : xv_M), p1 r w → xv_N w = n2 → xv_S w = s2 → xv_X sc d J (pc + 3) lv (.ref r :: st) w n1 s1 P) : xv_X sc d J pc lv (x2 :: x1 :: .ref b :: st) u n1 s1 P := xv_callVN (as := [x1, x2]) hM xv_pr_l hm hl rfl hd hc hci hk hst hdg hw (fun v w g1 g2 g3 => by obtain ⟨r, hr, hp⟩ := g1; cases hr; exact k r w hp g2 g3)
theorem xv_cVN3i {b ci index : Nat} {host : String} {x1 x2 x3 : Value} {p1 : Int32 → xv_M → Prop} (hM : xv_C sc d1 J1 [.ref b, x1, x2, x3] u n2 s2 (xv_pi p1)) (hm : xv_mV J1 3) (hl : Cond.methodLinkNest J.1.cls index J1.1 host ∈ xv_nest) (hdg : decode J.2.1 pc = .ok (.invokevirtual index, 3)) (hd : d1 + 1 ≤ d) (hc : ci < xv_nc) (hci : xv_nm ci = J1.1.cls) (hk : xv_k u b = ci + 1) (hst : (st.map fun v => v.category).sum ≤ 8) (hw : n2 ≤ n1 ∧ s2 ≤ s1) (k : ∀ (r : Int32) (w : xv_M), p1 r w → xv_N w = n2 → xv_S w = s2 → xv_X sc d J (pc + 3) lv (.int r :: st) w n1 s1 P) : xv_X sc d J pc lv (x3 :: x2 :: x1 :: .ref b :: st) u n1 s1 P := xv_callVN (as := [x1, x2, x3]) hM xv_pi_l hm hl rfl hd hc hci hk hst hdg hw (fun v w g1 g2 g3 => by obtain ⟨r, hr, hp⟩ := g1; cases hr; exact k r w hp g2 g3)
theorem xv_cVN3v {b ci index : Nat} {host : String} {x1 x2 x3 : Value} {p1 : xv_M → Prop} (hM : xv_C sc d1 J1 [.ref b, x1, x2, x3] u n2 s2 (xv_pv p1)) (hm : xv_mV J1 3) (hl : Cond.methodLinkNest J.1.cls index J1.1 host ∈ xv_nest) (hdg : decode J.2.1 pc = .ok (.invokevirtual index, 3)) (hd : d1 + 1 ≤ d) (hc : ci < xv_nc) (hci : xv_nm ci = J1.1.cls) (hk : xv_k u b = ci + 1) (hst : (st.map fun v => v.category).sum ≤ 8) (hw : n2 ≤ n1 ∧ s2 ≤ s1) (k : ∀ w : xv_M, p1 w → xv_N w = n2 → xv_S w = s2 → xv_X sc d J (pc + 3) lv st w n1 s1 P) : xv_X sc d J pc lv (x3 :: x2 :: x1 :: .ref b :: st) u n1 s1 P := xv_callVN (as := [x1, x2, x3]) hM xv_pv_l hm hl rfl hd hc hci hk hst hdg hw (fun v w g1 g2 g3 => by obtain ⟨hr, hp⟩ := g1; cases hr; exact k w hp g2 g3)
theorem xv_cVN3r {b ci index : Nat} {host : String} {x1 x2 x3 : Value} {p1 : Nat → xv_M → Prop} (hM : xv_C sc d1 J1 [.ref b, x1, x2, x3] u n2 s2 (xv_pr p1)) (hm : xv_mV J1 3) (hl : Cond.methodLinkNest J.1.cls index J1.1 host ∈ xv_nest) (hdg : decode J.2.1 pc = .ok (.invokevirtual index, 3)) (hd : d1 + 1 ≤ d) (hc : ci < xv_nc) (hci : xv_nm ci = J1.1.cls) (hk : xv_k u b = ci + 1) (hst : (st.map fun v => v.category).sum ≤ 8) (hw : n2 ≤ n1 ∧ s2 ≤ s1) (k : ∀ (r : Nat) (w : xv_M), p1 r w → xv_N w = n2 → xv_S w = s2 → xv_X sc d J (pc + 3) lv (.ref r :: st) w n1 s1 P) : xv_X sc d J pc lv (x3 :: x2 :: x1 :: .ref b :: st) u n1 s1 P := xv_callVN (as := [x1, x2, x3]) hM xv_pr_l hm hl rfl hd hc hci hk hst hdg hw (fun v w g1 g2 g3 => by obtain ⟨r, hr, hp⟩ := g1; cases hr; exact k r w hp g2 g3)
theorem xv_cVN4i {b ci index : Nat} {host : String} {x1 x2 x3 x4 : Value} {p1 : Int32 → xv_M → Prop} (hM : xv_C sc d1 J1 [.ref b, x1, x2, x3, x4] u n2 s2 (xv_pi p1)) (hm : xv_mV J1 4) (hl : Cond.methodLinkNest J.1.cls index J1.1 host ∈ xv_nest) (hdg : decode J.2.1 pc = .ok (.invokevirtual index, 3)) (hd : d1 + 1 ≤ d) (hc : ci < xv_nc) (hci : xv_nm ci = J1.1.cls) (hk : xv_k u b = ci + 1) (hst : (st.map fun v => v.category).sum ≤ 8) (hw : n2 ≤ n1 ∧ s2 ≤ s1) (k : ∀ (r : Int32) (w : xv_M), p1 r w → xv_N w = n2 → xv_S w = s2 → xv_X sc d J (pc + 3) lv (.int r :: st) w n1 s1 P) : xv_X sc d J pc lv (x4 :: x3 :: x2 :: x1 :: .ref b :: st) u n1 s1 P := xv_callVN (as := [x1, x2, x3, x4]) hM xv_pi_l hm hl rfl hd hc hci hk hst hdg hw (fun v w g1 g2 g3 => by obtain ⟨r, hr, hp⟩ := g1; cases hr; exact k r w hp g2 g3)
theorem xv_cVN4v {b ci index : Nat} {host : String} {x1 x2 x3 x4 : Value} {p1 : xv_M → Prop} (hM : xv_C sc d1 J1 [.ref b, x1, x2, x3, x4] u n2 s2 (xv_pv p1)) (hm : xv_mV J1 4) (hl : Cond.methodLinkNest J.1.cls index J1.1 host ∈ xv_nest) (hdg : decode J.2.1 pc = .ok (.invokevirtual index, 3)) (hd : d1 + 1 ≤ d) (hc : ci < xv_nc) (hci : xv_nm ci = J1.1.cls) (hk : xv_k u b = ci + 1) (hst : (st.map fun v => v.category).sum ≤ 8) (hw : n2 ≤ n1 ∧ s2 ≤ s1) (k : ∀ w : xv_M, p1 w → xv_N w = n2 → xv_S w = s2 → xv_X sc d J (pc + 3) lv st w n1 s1 P) : xv_X sc d J pc lv (x4 :: x3 :: x2 :: x1 :: .ref b :: st) u n1 s1 P := xv_callVN (as := [x1, x2, x3, x4]) hM xv_pv_l hm hl rfl hd hc hci hk hst hdg hw (fun v w g1 g2 g3 => by obtain ⟨hr, hp⟩ := g1; cases hr; exact k w hp g2 g3)
theorem xv_cVN4r {b ci index : Nat} {host : String} {x1 x2 x3 x4 : Value} {p1 : Nat → xv_M → Prop} (hM : xv_C sc d1 J1 [.ref b, x1, x2, x3, x4] u n2 s2 (xv_pr p1)) (hm : xv_mV J1 4) (hl : Cond.methodLinkNest J.1.cls index J1.1 host ∈ xv_nest) (hdg : decode J.2.1 pc = .ok (.invokevirtual index, 3)) (hd : d1 + 1 ≤ d) (hc : ci < xv_nc) (hci : xv_nm ci = J1.1.cls) (hk : xv_k u b = ci + 1) (hst : (st.map fun v => v.category).sum ≤ 8) (hw : n2 ≤ n1 ∧ s2 ≤ s1) (k : ∀ (r : Nat) (w : xv_M), p1 r w → xv_N w = n2 → xv_S w = s2 → xv_X sc d J (pc + 3) lv (.ref r :: st) w n1 s1 P) : xv_X sc d J pc lv (x4 :: x3 :: x2 :: x1 :: .ref b :: st) u n1 s1 P := xv_callVN (as := [x1, x2, x3, x4]) hM xv_pr_l hm hl rfl hd hc hci hk hst hdg hw (fun v w g1 g2 g3 => by obtain ⟨r, hr, hp⟩ := g1; cases hr; exact k r w hp g2 g3)
theorem xv_cVN5i {b ci index : Nat} {host : String} {x1 x2 x3 x4 x5 : Value} {p1 : Int32 → xv_M → Prop} (hM : xv_C sc d1 J1 [.ref b, x1, x2, x3, x4, x5] u n2 s2 (xv_pi p1)) (hm : xv_mV J1 5) (hl : Cond.methodLinkNest J.1.cls index J1.1 host ∈ xv_nest) (hdg : decode J.2.1 pc = .ok (.invokevirtual index, 3)) (hd : d1 + 1 ≤ d) (hc : ci < xv_nc) (hci : xv_nm ci = J1.1.cls) (hk : xv_k u b = ci + 1) (hst : (st.map fun v => v.category).sum ≤ 8) (hw : n2 ≤ n1 ∧ s2 ≤ s1) (k : ∀ (r : Int32) (w : xv_M), p1 r w → xv_N w = n2 → xv_S w = s2 → xv_X sc d J (pc + 3) lv (.int r :: st) w n1 s1 P) : xv_X sc d J pc lv (x5 :: x4 :: x3 :: x2 :: x1 :: .ref b :: st) u n1 s1 P := xv_callVN (as := [x1, x2, x3, x4, x5]) hM xv_pi_l hm hl rfl hd hc hci hk hst hdg hw (fun v w g1 g2 g3 => by obtain ⟨r, hr, hp⟩ := g1; cases hr; exact k r w hp g2 g3)
theorem xv_cVN5v {b ci index : Nat} {host : String} {x1 x2 x3 x4 x5 : Value} {p1 : xv_M → Prop} (hM : xv_C sc d1 J1 [.ref b, x1, x2, x3, x4, x5] u n2 s2 (xv_pv p1)) (hm : xv_mV J1 5) (hl : Cond.methodLinkNest J.1.cls index J1.1 host ∈ xv_nest) (hdg : decode J.2.1 pc = .ok (.invokevirtual index, 3)) (hd : d1 + 1 ≤ d) (hc : ci < xv_nc) (hci : xv_nm ci = J1.1.cls) (hk : xv_k u b = ci + 1) (hst : (st.map fun v => v.category).sum ≤ 8) (hw : n2 ≤ n1 ∧ s2 ≤ s1) (k : ∀ w : xv_M, p1 w → xv_N w = n2 → xv_S w = s2 → xv_X sc d J (pc + 3) lv st w n1 s1 P) : xv_X sc d J pc lv (x5 :: x4 :: x3 :: x2 :: x1 :: .ref b :: st) u n1 s1 P := xv_callVN (as := [x1, x2, x3, x4, x5]) hM xv_pv_l hm hl rfl hd hc hci hk hst hdg hw (fun v w g1 g2 g3 => by obtain ⟨hr, hp⟩ := g1; cases hr; exact k w hp g2 g3)
theorem xv_cVN5r {b ci index : Nat} {host : String} {x1 x2 x3 x4 x5 : Value} {p1 : Nat → xv_M → Prop} (hM : xv_C sc d1 J1 [.ref b, x1, x2, x3, x4, x5] u n2 s2 (xv_pr p1)) (hm : xv_mV J1 5) (hl : Cond.methodLinkNest J.1.cls index J1.1 host ∈ xv_nest) (hdg : decode J.2.1 pc = .ok (.invokevirtual index, 3)) (hd : d1 + 1 ≤ d) (hc : ci < xv_nc) (hci : xv_nm ci = J1.1.cls) (hk : xv_k u b = ci + 1) (hst : (st.map fun v => v.category).sum ≤ 8) (hw : n2 ≤ n1 ∧ s2 ≤ s1) (k : ∀ (r : Nat) (w : xv_M), p1 r w → xv_N w = n2 → xv_S w = s2 → xv_X sc d J (pc + 3) lv (.ref r :: st) w n1 s1 P) : xv_X sc d J pc lv (x5 :: x4 :: x3 :: x2 :: x1 :: .ref b :: st) u n1 s1 P := xv_callVN (as := [x1, x2, x3, x4, x5]) hM xv_pr_l hm hl rfl hd hc hci hk hst hdg hw (fun v w g1 g2 g3 => by obtain ⟨r, hr, hp⟩ := g1; cases hr; exact k r w hp g2 g3)
theorem xv_cS0i {index : Nat} {p1 : Int32 → xv_M → Prop} (hM : xv_C sc d1 J1 [] u n2 s2 (xv_pi p1)) (hm : xv_mS J1 0) (hl : Cond.methodLink J.1.cls index J1.1 ∈ xv_BIG) (hdg : decode J.2.1 pc = .ok (.invokestatic index, 3)) (hd : d1 + 1 ≤ d) (hst : (st.map fun v => v.category).sum ≤ 8) (hw : n2 ≤ n1 ∧ s2 ≤ s1) (k : ∀ (r : Int32) (w : xv_M), p1 r w → xv_N w = n2 → xv_S w = s2 → xv_X sc d J (pc + 3) lv (.int r :: st) w n1 s1 P) : xv_X sc d J pc lv (st) u n1 s1 P := xv_callS (as := []) hM xv_pi_l hm hl rfl hd hst hdg hw (fun v w g1 g2 g3 => by obtain ⟨r, hr, hp⟩ := g1; cases hr; exact k r w hp g2 g3)
theorem xv_cS0v {index : Nat} {p1 : xv_M → Prop} (hM : xv_C sc d1 J1 [] u n2 s2 (xv_pv p1)) (hm : xv_mS J1 0) (hl : Cond.methodLink J.1.cls index J1.1 ∈ xv_BIG) (hdg : decode J.2.1 pc = .ok (.invokestatic index, 3)) (hd : d1 + 1 ≤ d) (hst : (st.map fun v => v.category).sum ≤ 8) (hw : n2 ≤ n1 ∧ s2 ≤ s1) (k : ∀ w : xv_M, p1 w → xv_N w = n2 → xv_S w = s2 → xv_X sc d J (pc + 3) lv st w n1 s1 P) : xv_X sc d J pc lv (st) u n1 s1 P := xv_callS (as := []) hM xv_pv_l hm hl rfl hd hst hdg hw (fun v w g1 g2 g3 => by obtain ⟨hr, hp⟩ := g1; cases hr; exact k w hp g2 g3)
theorem xv_cS0r {index : Nat} {p1 : Nat → xv_M → Prop} (hM : xv_C sc d1 J1 [] u n2 s2 (xv_pr p1)) (hm : xv_mS J1 0) (hl : Cond.methodLink J.1.cls index J1.1 ∈ xv_BIG) (hdg : decode J.2.1 pc = .ok (.invokestatic index, 3)) (hd : d1 + 1 ≤ d) (hst : (st.map fun v => v.category).sum ≤ 8) (hw : n2 ≤ n1 ∧ s2 ≤ s1) (k : ∀ (r : Nat) (w : xv_M), p1 r w → xv_N w = n2 → xv_S w = s2 → xv_X sc d J (pc + 3) lv (.ref r :: st) w n1 s1 P) : xv_X sc d J pc lv (st) u n1 s1 P := xv_callS (as := []) hM xv_pr_l hm hl rfl hd hst hdg hw (fun v w g1 g2 g3 => by obtain ⟨r, hr, hp⟩ := g1; cases hr; exact k r w hp g2 g3)
theorem xv_cS1i {index : Nat} {x1 : Value} {p1 : Int32 → xv_M → Prop} (hM : xv_C sc d1 J1 [x1] u n2 s2 (xv_pi p1)) (hm : xv_mS J1 1) (hl : Cond.methodLink J.1.cls index J1.1 ∈ xv_BIG) (hdg : decode J.2.1 pc = .ok (.invokestatic index, 3)) (hd : d1 + 1 ≤ d) (hst : (st.map fun v => v.category).sum ≤ 8) (hw : n2 ≤ n1 ∧ s2 ≤ s1) (k : ∀ (r : Int32) (w : xv_M), p1 r w → xv_N w = n2 → xv_S w = s2 → xv_X sc d J (pc + 3) lv (.int r :: st) w n1 s1 P) : xv_X sc d J pc lv (x1 :: st) u n1 s1 P := xv_callS (as := [x1]) hM xv_pi_l hm hl rfl hd hst hdg hw (fun v w g1 g2 g3 => by obtain ⟨r, hr, hp⟩ := g1; cases hr; exact k r w hp g2 g3)
theorem xv_cS1v {index : Nat} {x1 : Value} {p1 : xv_M → Prop} (hM : xv_C sc d1 J1 [x1] u n2 s2 (xv_pv p1)) (hm : xv_mS J1 1) (hl : Cond.methodLink J.1.cls index J1.1 ∈ xv_BIG) (hdg : decode J.2.1 pc = .ok (.invokestatic index, 3)) (hd : d1 + 1 ≤ d) (hst : (st.map fun v => v.category).sum ≤ 8) (hw : n2 ≤ n1 ∧ s2 ≤ s1) (k : ∀ w : xv_M, p1 w → xv_N w = n2 → xv_S w = s2 → xv_X sc d J (pc + 3) lv st w n1 s1 P) : xv_X sc d J pc lv (x1 :: st) u n1 s1 P := xv_callS (as := [x1]) hM xv_pv_l hm hl rfl hd hst hdg hw (fun v w g1 g2 g3 => by obtain ⟨hr, hp⟩ := g1; cases hr; exact k w hp g2 g3)
theorem xv_cS1r {index : Nat} {x1 : Value} {p1 : Nat → xv_M → Prop} (hM : xv_C sc d1 J1 [x1] u n2 s2 (xv_pr p1)) (hm : xv_mS J1 1) (hl : Cond.methodLink J.1.cls index J1.1 ∈ xv_BIG) (hdg : decode J.2.1 pc = .ok (.invokestatic index, 3)) (hd : d1 + 1 ≤ d) (hst : (st.map fun v => v.category).sum ≤ 8) (hw : n2 ≤ n1 ∧ s2 ≤ s1) (k : ∀ (r : Nat) (w : xv_M), p1 r w → xv_N w = n2 → xv_S w = s2 → xv_X sc d J (pc + 3) lv (.ref r :: st) w n1 s1 P) : xv_X sc d J pc lv (x1 :: st) u n1 s1 P := xv_callS (as := [x1]) hM xv_pr_l hm hl rfl hd hst hdg hw (fun v w g1 g2 g3 => by obtain ⟨r, hr, hp⟩ := g1; cases hr; exact k r w hp g2 g3)
theorem xv_cS2i {index : Nat} {x1 x2 : Value} {p1 : Int32 → xv_M → Prop} (hM : xv_C sc d1 J1 [x1, x2] u n2 s2 (xv_pi p1)) (hm : xv_mS J1 2) (hl : Cond.methodLink J.1.cls index J1.1 ∈ xv_BIG) (hdg : decode J.2.1 pc = .ok (.invokestatic index, 3)) (hd : d1 + 1 ≤ d) (hst : (st.map fun v => v.category).sum ≤ 8) (hw : n2 ≤ n1 ∧ s2 ≤ s1) (k : ∀ (r : Int32) (w : xv_M), p1 r w → xv_N w = n2 → xv_S w = s2 → xv_X sc d J (pc + 3) lv (.int r :: st) w n1 s1 P) : xv_X sc d J pc lv (x2 :: x1 :: st) u n1 s1 P := xv_callS (as := [x1, x2]) hM xv_pi_l hm hl rfl hd hst hdg hw (fun v w g1 g2 g3 => by obtain ⟨r, hr, hp⟩ := g1; cases hr; exact k r w hp g2 g3)
theorem xv_cS2v {index : Nat} {x1 x2 : Value} {p1 : xv_M → Prop} (hM : xv_C sc d1 J1 [x1, x2] u n2 s2 (xv_pv p1)) (hm : xv_mS J1 2) (hl : Cond.methodLink J.1.cls index J1.1 ∈ xv_BIG) (hdg : decode J.2.1 pc = .ok (.invokestatic index, 3)) (hd : d1 + 1 ≤ d) (hst : (st.map fun v => v.category).sum ≤ 8) (hw : n2 ≤ n1 ∧ s2 ≤ s1) (k : ∀ w : xv_M, p1 w → xv_N w = n2 → xv_S w = s2 → xv_X sc d J (pc + 3) lv st w n1 s1 P) : xv_X sc d J pc lv (x2 :: x1 :: st) u n1 s1 P := xv_callS (as := [x1, x2]) hM xv_pv_l hm hl rfl hd hst hdg hw (fun v w g1 g2 g3 => by obtain ⟨hr, hp⟩ := g1; cases hr; exact k w hp g2 g3)
theorem xv_cS2r {index : Nat} {x1 x2 : Value} {p1 : Nat → xv_M → Prop} (hM : xv_C sc d1 J1 [x1, x2] u n2 s2 (xv_pr p1)) (hm : xv_mS J1 2) (hl : Cond.methodLink J.1.cls index J1.1 ∈ xv_BIG) (hdg : decode J.2.1 pc = .ok (.invokestatic index, 3)) (hd : d1 + 1 ≤ d) (hst : (st.map fun v => v.category).sum ≤ 8) (hw : n2 ≤ n1 ∧ s2 ≤ s1) (k : ∀ (r : Nat) (w : xv_M), p1 r w → xv_N w = n2 → xv_S w = s2 → xv_X sc d J (pc + 3) lv (.ref r :: st) w n1 s1 P) : xv_X sc d J pc lv (x2 :: x1 :: st) u n1 s1 P := xv_callS (as := [x1, x2]) hM xv_pr_l hm hl rfl hd hst hdg hw (fun v w g1 g2 g3 => by obtain ⟨r, hr, hp⟩ := g1; cases hr; exact k r w hp g2 g3)
theorem xv_cS3i {index : Nat} {x1 x2 x3 : Value} {p1 : Int32 → xv_M → Prop} (hM : xv_C sc d1 J1 [x1, x2, x3] u n2 s2 (xv_pi p1)) (hm : xv_mS J1 3) (hl : Cond.methodLink J.1.cls index J1.1 ∈ xv_BIG) (hdg : decode J.2.1 pc = .ok (.invokestatic index, 3)) (hd : d1 + 1 ≤ d) (hst : (st.map fun v => v.category).sum ≤ 8) (hw : n2 ≤ n1 ∧ s2 ≤ s1) (k : ∀ (r : Int32) (w : xv_M), p1 r w → xv_N w = n2 → xv_S w = s2 → xv_X sc d J (pc + 3) lv (.int r :: st) w n1 s1 P) : xv_X sc d J pc lv (x3 :: x2 :: x1 :: st) u n1 s1 P := xv_callS (as := [x1, x2, x3]) hM xv_pi_l hm hl rfl hd hst hdg hw (fun v w g1 g2 g3 => by obtain ⟨r, hr, hp⟩ := g1; cases hr; exact k r w hp g2 g3)
theorem xv_cS3v {index : Nat} {x1 x2 x3 : Value} {p1 : xv_M → Prop} (hM : xv_C sc d1 J1 [x1, x2, x3] u n2 s2 (xv_pv p1)) (hm : xv_mS J1 3) (hl : Cond.methodLink J.1.cls index J1.1 ∈ xv_BIG) (hdg : decode J.2.1 pc = .ok (.invokestatic index, 3)) (hd : d1 + 1 ≤ d) (hst : (st.map fun v => v.category).sum ≤ 8) (hw : n2 ≤ n1 ∧ s2 ≤ s1) (k : ∀ w : xv_M, p1 w → xv_N w = n2 → xv_S w = s2 → xv_X sc d J (pc + 3) lv st w n1 s1 P) : xv_X sc d J pc lv (x3 :: x2 :: x1 :: st) u n1 s1 P := xv_callS (as := [x1, x2, x3]) hM xv_pv_l hm hl rfl hd hst hdg hw (fun v w g1 g2 g3 => by obtain ⟨hr, hp⟩ := g1; cases hr; exact k w hp g2 g3)
theorem xv_cS3r {index : Nat} {x1 x2 x3 : Value} {p1 : Nat → xv_M → Prop} (hM : xv_C sc d1 J1 [x1, x2, x3] u n2 s2 (xv_pr p1)) (hm : xv_mS J1 3) (hl : Cond.methodLink J.1.cls index J1.1 ∈ xv_BIG) (hdg : decode J.2.1 pc = .ok (.invokestatic index, 3)) (hd : d1 + 1 ≤ d) (hst : (st.map fun v => v.category).sum ≤ 8) (hw : n2 ≤ n1 ∧ s2 ≤ s1) (k : ∀ (r : Nat) (w : xv_M), p1 r w → xv_N w = n2 → xv_S w = s2 → xv_X sc d J (pc + 3) lv (.ref r :: st) w n1 s1 P) : xv_X sc d J pc lv (x3 :: x2 :: x1 :: st) u n1 s1 P := xv_callS (as := [x1, x2, x3]) hM xv_pr_l hm hl rfl hd hst hdg hw (fun v w g1 g2 g3 => by obtain ⟨r, hr, hp⟩ := g1; cases hr; exact k r w hp g2 g3)
theorem xv_cS4i {index : Nat} {x1 x2 x3 x4 : Value} {p1 : Int32 → xv_M → Prop} (hM : xv_C sc d1 J1 [x1, x2, x3, x4] u n2 s2 (xv_pi p1)) (hm : xv_mS J1 4) (hl : Cond.methodLink J.1.cls index J1.1 ∈ xv_BIG) (hdg : decode J.2.1 pc = .ok (.invokestatic index, 3)) (hd : d1 + 1 ≤ d) (hst : (st.map fun v => v.category).sum ≤ 8) (hw : n2 ≤ n1 ∧ s2 ≤ s1) (k : ∀ (r : Int32) (w : xv_M), p1 r w → xv_N w = n2 → xv_S w = s2 → xv_X sc d J (pc + 3) lv (.int r :: st) w n1 s1 P) : xv_X sc d J pc lv (x4 :: x3 :: x2 :: x1 :: st) u n1 s1 P := xv_callS (as := [x1, x2, x3, x4]) hM xv_pi_l hm hl rfl hd hst hdg hw (fun v w g1 g2 g3 => by obtain ⟨r, hr, hp⟩ := g1; cases hr; exact k r w hp g2 g3)
theorem xv_cS4v {index : Nat} {x1 x2 x3 x4 : Value} {p1 : xv_M → Prop} (hM : xv_C sc d1 J1 [x1, x2, x3, x4] u n2 s2 (xv_pv p1)) (hm : xv_mS J1 4) (hl : Cond.methodLink J.1.cls index J1.1 ∈ xv_BIG) (hdg : decode J.2.1 pc = .ok (.invokestatic index, 3)) (hd : d1 + 1 ≤ d) (hst : (st.map fun v => v.category).sum ≤ 8) (hw : n2 ≤ n1 ∧ s2 ≤ s1) (k : ∀ w : xv_M, p1 w → xv_N w = n2 → xv_S w = s2 → xv_X sc d J (pc + 3) lv st w n1 s1 P) : xv_X sc d J pc lv (x4 :: x3 :: x2 :: x1 :: st) u n1 s1 P := xv_callS (as := [x1, x2, x3, x4]) hM xv_pv_l hm hl rfl hd hst hdg hw (fun v w g1 g2 g3 => by obtain ⟨hr, hp⟩ := g1; cases hr; exact k w hp g2 g3)
theorem xv_cS4r {index : Nat} {x1 x2 x3 x4 : Value} {p1 : Nat → xv_M → Prop} (hM : xv_C sc d1 J1 [x1, x2, x3, x4] u n2 s2 (xv_pr p1)) (hm : xv_mS J1 4) (hl : Cond.methodLink J.1.cls index J1.1 ∈ xv_BIG) (hdg : decode J.2.1 pc = .ok (.invokestatic index, 3)) (hd : d1 + 1 ≤ d) (hst : (st.map fun v => v.category).sum ≤ 8) (hw : n2 ≤ n1 ∧ s2 ≤ s1) (k : ∀ (r : Nat) (w : xv_M), p1 r w → xv_N w = n2 → xv_S w = s2 → xv_X sc d J (pc + 3) lv (.ref r :: st) w n1 s1 P) : xv_X sc d J pc lv (x4 :: x3 :: x2 :: x1 :: st) u n1 s1 P := xv_callS (as := [x1, x2, x3, x4]) hM xv_pr_l hm hl rfl hd hst hdg hw (fun v w g1 g2 g3 => by obtain ⟨r, hr, hp⟩ := g1; cases hr; exact k r w hp g2 g3)
theorem xv_cS5i {index : Nat} {x1 x2 x3 x4 x5 : Value} {p1 : Int32 → xv_M → Prop} (hM : xv_C sc d1 J1 [x1, x2, x3, x4, x5] u n2 s2 (xv_pi p1)) (hm : xv_mS J1 5) (hl : Cond.methodLink J.1.cls index J1.1 ∈ xv_BIG) (hdg : decode J.2.1 pc = .ok (.invokestatic index, 3)) (hd : d1 + 1 ≤ d) (hst : (st.map fun v => v.category).sum ≤ 8) (hw : n2 ≤ n1 ∧ s2 ≤ s1) (k : ∀ (r : Int32) (w : xv_M), p1 r w → xv_N w = n2 → xv_S w = s2 → xv_X sc d J (pc + 3) lv (.int r :: st) w n1 s1 P) : xv_X sc d J pc lv (x5 :: x4 :: x3 :: x2 :: x1 :: st) u n1 s1 P := xv_callS (as := [x1, x2, x3, x4, x5]) hM xv_pi_l hm hl rfl hd hst hdg hw (fun v w g1 g2 g3 => by obtain ⟨r, hr, hp⟩ := g1; cases hr; exact k r w hp g2 g3)
theorem xv_cS5v {index : Nat} {x1 x2 x3 x4 x5 : Value} {p1 : xv_M → Prop} (hM : xv_C sc d1 J1 [x1, x2, x3, x4, x5] u n2 s2 (xv_pv p1)) (hm : xv_mS J1 5) (hl : Cond.methodLink J.1.cls index J1.1 ∈ xv_BIG) (hdg : decode J.2.1 pc = .ok (.invokestatic index, 3)) (hd : d1 + 1 ≤ d) (hst : (st.map fun v => v.category).sum ≤ 8) (hw : n2 ≤ n1 ∧ s2 ≤ s1) (k : ∀ w : xv_M, p1 w → xv_N w = n2 → xv_S w = s2 → xv_X sc d J (pc + 3) lv st w n1 s1 P) : xv_X sc d J pc lv (x5 :: x4 :: x3 :: x2 :: x1 :: st) u n1 s1 P := xv_callS (as := [x1, x2, x3, x4, x5]) hM xv_pv_l hm hl rfl hd hst hdg hw (fun v w g1 g2 g3 => by obtain ⟨hr, hp⟩ := g1; cases hr; exact k w hp g2 g3)
theorem xv_cS5r {index : Nat} {x1 x2 x3 x4 x5 : Value} {p1 : Nat → xv_M → Prop} (hM : xv_C sc d1 J1 [x1, x2, x3, x4, x5] u n2 s2 (xv_pr p1)) (hm : xv_mS J1 5) (hl : Cond.methodLink J.1.cls index J1.1 ∈ xv_BIG) (hdg : decode J.2.1 pc = .ok (.invokestatic index, 3)) (hd : d1 + 1 ≤ d) (hst : (st.map fun v => v.category).sum ≤ 8) (hw : n2 ≤ n1 ∧ s2 ≤ s1) (k : ∀ (r : Nat) (w : xv_M), p1 r w → xv_N w = n2 → xv_S w = s2 → xv_X sc d J (pc + 3) lv (.ref r :: st) w n1 s1 P) : xv_X sc d J pc lv (x5 :: x4 :: x3 :: x2 :: x1 :: st) u n1 s1 P := xv_callS (as := [x1, x2, x3, x4, x5]) hM xv_pr_l hm hl rfl hd hst hdg hw (fun v w g1 g2 g3 => by obtain ⟨r, hr, hp⟩ := g1; cases hr; exact k r w hp g2 g3)
theorem xv_cSN0i {index : Nat} {host : String} {p1 : Int32 → xv_M → Prop} (hM : xv_C sc d1 J1 [] u n2 s2 (xv_pi p1)) (hm : xv_mS J1 0) (hl : Cond.methodLinkNest J.1.cls index J1.1 host ∈ xv_nest) (hdg : decode J.2.1 pc = .ok (.invokestatic index, 3)) (hd : d1 + 1 ≤ d) (hst : (st.map fun v => v.category).sum ≤ 8) (hw : n2 ≤ n1 ∧ s2 ≤ s1) (k : ∀ (r : Int32) (w : xv_M), p1 r w → xv_N w = n2 → xv_S w = s2 → xv_X sc d J (pc + 3) lv (.int r :: st) w n1 s1 P) : xv_X sc d J pc lv (st) u n1 s1 P := xv_callSN (as := []) hM xv_pi_l hm hl rfl hd hst hdg hw (fun v w g1 g2 g3 => by obtain ⟨r, hr, hp⟩ := g1; cases hr; exact k r w hp g2 g3)
theorem xv_cSN0v {index : Nat} {host : String} {p1 : xv_M → Prop} (hM : xv_C sc d1 J1 [] u n2 s2 (xv_pv p1)) (hm : xv_mS J1 0) (hl : Cond.methodLinkNest J.1.cls index J1.1 host ∈ xv_nest) (hdg : decode J.2.1 pc = .ok (.invokestatic index, 3)) (hd : d1 + 1 ≤ d) (hst : (st.map fun v => v.category).sum ≤ 8) (hw : n2 ≤ n1 ∧ s2 ≤ s1) (k : ∀ w : xv_M, p1 w → xv_N w = n2 → xv_S w = s2 → xv_X sc d J (pc + 3) lv st w n1 s1 P) : xv_X sc d J pc lv (st) u n1 s1 P := xv_callSN (as := []) hM xv_pv_l hm hl rfl hd hst hdg hw (fun v w g1 g2 g3 => by obtain ⟨hr, hp⟩ := g1; cases hr; exact k w hp g2 g3)
theorem xv_cSN0r {index : Nat} {host : String} {p1 : Nat → xv_M → Prop} (hM : xv_C sc d1 J1 [] u n2 s2 (xv_pr p1)) (hm : xv_mS J1 0) (hl : Cond.methodLinkNest J.1.cls index J1.1 host ∈ xv_nest) (hdg : decode J.2.1 pc = .ok (.invokestatic index, 3)) (hd : d1 + 1 ≤ d) (hst : (st.map fun v => v.category).sum ≤ 8) (hw : n2 ≤ n1 ∧ s2 ≤ s1) (k : ∀ (r : Nat) (w : xv_M), p1 r w → xv_N w = n2 → xv_S w = s2 → xv_X sc d J (pc + 3) lv (.ref r :: st) w n1 s1 P) : xv_X sc d J pc lv (st) u n1 s1 P := xv_callSN (as := []) hM xv_pr_l hm hl rfl hd hst hdg hw (fun v w g1 g2 g3 => by obtain ⟨r, hr, hp⟩ := g1; cases hr; exact k r w hp g2 g3)
theorem xv_cSN1i {index : Nat} {host : String} {x1 : Value} {p1 : Int32 → xv_M → Prop} (hM : xv_C sc d1 J1 [x1] u n2 s2 (xv_pi p1)) (hm : xv_mS J1 1) (hl : Cond.methodLinkNest J.1.cls index J1.1 host ∈ xv_nest) (hdg : decode J.2.1 pc = .ok (.invokestatic index, 3)) (hd : d1 + 1 ≤ d) (hst : (st.map fun v => v.category).sum ≤ 8) (hw : n2 ≤ n1 ∧ s2 ≤ s1) (k : ∀ (r : Int32) (w : xv_M), p1 r w → xv_N w = n2 → xv_S w = s2 → xv_X sc d J (pc + 3) lv (.int r :: st) w n1 s1 P) : xv_X sc d J pc lv (x1 :: st) u n1 s1 P := xv_callSN (as := [x1]) hM xv_pi_l hm hl rfl hd hst hdg hw (fun v w g1 g2 g3 => by obtain ⟨r, hr, hp⟩ := g1; cases hr; exact k r w hp g2 g3)
theorem xv_cSN1v {index : Nat} {host : String} {x1 : Value} {p1 : xv_M → Prop} (hM : xv_C sc d1 J1 [x1] u n2 s2 (xv_pv p1)) (hm : xv_mS J1 1) (hl : Cond.methodLinkNest J.1.cls index J1.1 host ∈ xv_nest) (hdg : decode J.2.1 pc = .ok (.invokestatic index, 3)) (hd : d1 + 1 ≤ d) (hst : (st.map fun v => v.category).sum ≤ 8) (hw : n2 ≤ n1 ∧ s2 ≤ s1) (k : ∀ w : xv_M, p1 w → xv_N w = n2 → xv_S w = s2 → xv_X sc d J (pc + 3) lv st w n1 s1 P) : xv_X sc d J pc lv (x1 :: st) u n1 s1 P := xv_callSN (as := [x1]) hM xv_pv_l hm hl rfl hd hst hdg hw (fun v w g1 g2 g3 => by obtain ⟨hr, hp⟩ := g1; cases hr; exact k w hp g2 g3)
theorem xv_cSN1r {index : Nat} {host : String} {x1 : Value} {p1 : Nat → xv_M → Prop} (hM : xv_C sc d1 J1 [x1] u n2 s2 (xv_pr p1)) (hm : xv_mS J1 1) (hl : Cond.methodLinkNest J.1.cls index J1.1 host ∈ xv_nest) (hdg : decode J.2.1 pc = .ok (.invokestatic index, 3)) (hd : d1 + 1 ≤ d) (hst : (st.map fun v => v.category).sum ≤ 8) (hw : n2 ≤ n1 ∧ s2 ≤ s1) (k : ∀ (r : Nat) (w : xv_M), p1 r w → xv_N w = n2 → xv_S w = s2 → xv_X sc d J (pc + 3) lv (.ref r :: st) w n1 s1 P) : xv_X sc d J pc lv (x1 :: st) u n1 s1 P := xv_callSN (as := [x1]) hM xv_pr_l hm hl rfl hd hst hdg hw (fun v w g1 g2 g3 => by obtain ⟨r, hr, hp⟩ := g1; cases hr; exact k r w hp g2 g3)
theorem xv_cSN2i {index : Nat} {host : String} {x1 x2 : Value} {p1 : Int32 → xv_M → Prop} (hM : xv_C sc d1 J1 [x1, x2] u n2 s2 (xv_pi p1)) (hm : xv_mS J1 2) (hl : Cond.methodLinkNest J.1.cls index J1.1 host ∈ xv_nest) (hdg : decode J.2.1 pc = .ok (.invokestatic index, 3)) (hd : d1 + 1 ≤ d) (hst : (st.map fun v => v.category).sum ≤ 8) (hw : n2 ≤ n1 ∧ s2 ≤ s1) (k : ∀ (r : Int32) (w : xv_M), p1 r w → xv_N w = n2 → xv_S w = s2 → xv_X sc d J (pc + 3) lv (.int r :: st) w n1 s1 P) : xv_X sc d J pc lv (x2 :: x1 :: st) u n1 s1 P := xv_callSN (as := [x1, x2]) hM xv_pi_l hm hl rfl hd hst hdg hw (fun v w g1 g2 g3 => by obtain ⟨r, hr, hp⟩ := g1; cases hr; exact k r w hp g2 g3)
theorem xv_cSN2v {index : Nat} {host : String} {x1 x2 : Value} {p1 : xv_M → Prop} (hM : xv_C sc d1 J1 [x1, x2] u n2 s2 (xv_pv p1)) (hm : xv_mS J1 2) (hl : Cond.methodLinkNest J.1.cls index J1.1 host ∈ xv_nest) (hdg : decode J.2.1 pc = .ok (.invokestatic index, 3)) (hd : d1 + 1 ≤ d) (hst : (st.map fun v => v.category).sum ≤ 8) (hw : n2 ≤ n1 ∧ s2 ≤ s1) (k : ∀ w : xv_M, p1 w → xv_N w = n2 → xv_S w = s2 → xv_X sc d J (pc + 3) lv st w n1 s1 P) : xv_X sc d J pc lv (x2 :: x1 :: st) u n1 s1 P := xv_callSN (as := [x1, x2]) hM xv_pv_l hm hl rfl hd hst hdg hw (fun v w g1 g2 g3 => by obtain ⟨hr, hp⟩ := g1; cases hr; exact k w hp g2 g3)
theorem xv_cSN2r {index : Nat} {host : String} {x1 x2 : Value} {p1 : Nat → xv_M → Prop} (hM : xv_C sc d1 J1 [x1, x2] u n2 s2 (xv_pr p1)) (hm : xv_mS J1 2) (hl : Cond.methodLinkNest J.1.cls index J1.1 host ∈ xv_nest) (hdg : decode J.2.1 pc = .ok (.invokestatic index, 3)) (hd : d1 + 1 ≤ d) (hst : (st.map fun v => v.category).sum ≤ 8) (hw : n2 ≤ n1 ∧ s2 ≤ s1) (k : ∀ (r : Nat) (w : xv_M), p1 r w → xv_N w = n2 → xv_S w = s2 → xv_X sc d J (pc + 3) lv (.ref r :: st) w n1 s1 P) : xv_X sc d J pc lv (x2 :: x1 :: st) u n1 s1 P := xv_callSN (as := [x1, x2]) hM xv_pr_l hm hl rfl hd hst hdg hw (fun v w g1 g2 g3 => by obtain ⟨r, hr, hp⟩ := g1; cases hr; exact k r w hp g2 g3)
theorem xv_cSN3i {index : Nat} {host : String} {x1 x2 x3 : Value} {p1 : Int32 → xv_M → Prop} (hM : xv_C sc d1 J1 [x1, x2, x3] u n2 s2 (xv_pi p1)) (hm : xv_mS J1 3) (hl : Cond.methodLinkNest J.1.cls index J1.1 host ∈ xv_nest) (hdg : decode J.2.1 pc = .ok (.invokestatic index, 3)) (hd : d1 + 1 ≤ d) (hst : (st.map fun v => v.category).sum ≤ 8) (hw : n2 ≤ n1 ∧ s2 ≤ s1) (k : ∀ (r : Int32) (w : xv_M), p1 r w → xv_N w = n2 → xv_S w = s2 → xv_X sc d J (pc + 3) lv (.int r :: st) w n1 s1 P) : xv_X sc d J pc lv (x3 :: x2 :: x1 :: st) u n1 s1 P := xv_callSN (as := [x1, x2, x3]) hM xv_pi_l hm hl rfl hd hst hdg hw (fun v w g1 g2 g3 => by obtain ⟨r, hr, hp⟩ := g1; cases hr; exact k r w hp g2 g3)
theorem xv_cSN3v {index : Nat} {host : String} {x1 x2 x3 : Value} {p1 : xv_M → Prop} (hM : xv_C sc d1 J1 [x1, x2, x3] u n2 s2 (xv_pv p1)) (hm : xv_mS J1 3) (hl : Cond.methodLinkNest J.1.cls index J1.1 host ∈ xv_nest) (hdg : decode J.2.1 pc = .ok (.invokestatic index, 3)) (hd : d1 + 1 ≤ d) (hst : (st.map fun v => v.category).sum ≤ 8) (hw : n2 ≤ n1 ∧ s2 ≤ s1) (k : ∀ w : xv_M, p1 w → xv_N w = n2 → xv_S w = s2 → xv_X sc d J (pc + 3) lv st w n1 s1 P) : xv_X sc d J pc lv (x3 :: x2 :: x1 :: st) u n1 s1 P := xv_callSN (as := [x1, x2, x3]) hM xv_pv_l hm hl rfl hd hst hdg hw (fun v w g1 g2 g3 => by obtain ⟨hr, hp⟩ := g1; cases hr; exact k w hp g2 g3)
theorem xv_cSN3r {index : Nat} {host : String} {x1 x2 x3 : Value} {p1 : Nat → xv_M → Prop} (hM : xv_C sc d1 J1 [x1, x2, x3] u n2 s2 (xv_pr p1)) (hm : xv_mS J1 3) (hl : Cond.methodLinkNest J.1.cls index J1.1 host ∈ xv_nest) (hdg : decode J.2.1 pc = .ok (.invokestatic index, 3)) (hd : d1 + 1 ≤ d) (hst : (st.map fun v => v.category).sum ≤ 8) (hw : n2 ≤ n1 ∧ s2 ≤ s1) (k : ∀ (r : Nat) (w : xv_M), p1 r w → xv_N w = n2 → xv_S w = s2 → xv_X sc d J (pc + 3) lv (.ref r :: st) w n1 s1 P) : xv_X sc d J pc lv (x3 :: x2 :: x1 :: st) u n1 s1 P := xv_callSN (as := [x1, x2, x3]) hM xv_pr_l hm hl rfl hd hst hdg hw (fun v w g1 g2 g3 => by obtain ⟨r, hr, hp⟩ := g1; cases hr; exact k r w hp g2 g3)
theorem xv_cSN4i {index : Nat} {host : String} {x1 x2 x3 x4 : Value} {p1 : Int32 → xv_M → Prop} (hM : xv_C sc d1 J1 [x1, x2, x3, x4] u n2 s2 (xv_pi p1)) (hm : xv_mS J1 4) (hl : Cond.methodLinkNest J.1.cls index J1.1 host ∈ xv_nest) (hdg : decode J.2.1 pc = .ok (.invokestatic index, 3)) (hd : d1 + 1 ≤ d) (hst : (st.map fun v => v.category).sum ≤ 8) (hw : n2 ≤ n1 ∧ s2 ≤ s1) (k : ∀ (r : Int32) (w : xv_M), p1 r w → xv_N w = n2 → xv_S w = s2 → xv_X sc d J (pc + 3) lv (.int r :: st) w n1 s1 P) : xv_X sc d J pc lv (x4 :: x3 :: x2 :: x1 :: st) u n1 s1 P := xv_callSN (as := [x1, x2, x3, x4]) hM xv_pi_l hm hl rfl hd hst hdg hw (fun v w g1 g2 g3 => by obtain ⟨r, hr, hp⟩ := g1; cases hr; exact k r w hp g2 g3)
theorem xv_cSN4v {index : Nat} {host : String} {x1 x2 x3 x4 : Value} {p1 : xv_M → Prop} (hM : xv_C sc d1 J1 [x1, x2, x3, x4] u n2 s2 (xv_pv p1)) (hm : xv_mS J1 4) (hl : Cond.methodLinkNest J.1.cls index J1.1 host ∈ xv_nest) (hdg : decode J.2.1 pc = .ok (.invokestatic index, 3)) (hd : d1 + 1 ≤ d) (hst : (st.map fun v => v.category).sum ≤ 8) (hw : n2 ≤ n1 ∧ s2 ≤ s1) (k : ∀ w : xv_M, p1 w → xv_N w = n2 → xv_S w = s2 → xv_X sc d J (pc + 3) lv st w n1 s1 P) : xv_X sc d J pc lv (x4 :: x3 :: x2 :: x1 :: st) u n1 s1 P := xv_callSN (as := [x1, x2, x3, x4]) hM xv_pv_l hm hl rfl hd hst hdg hw (fun v w g1 g2 g3 => by obtain ⟨hr, hp⟩ := g1; cases hr; exact k w hp g2 g3)
theorem xv_cSN4r {index : Nat} {host : String} {x1 x2 x3 x4 : Value} {p1 : Nat → xv_M → Prop} (hM : xv_C sc d1 J1 [x1, x2, x3, x4] u n2 s2 (xv_pr p1)) (hm : xv_mS J1 4) (hl : Cond.methodLinkNest J.1.cls index J1.1 host ∈ xv_nest) (hdg : decode J.2.1 pc = .ok (.invokestatic index, 3)) (hd : d1 + 1 ≤ d) (hst : (st.map fun v => v.category).sum ≤ 8) (hw : n2 ≤ n1 ∧ s2 ≤ s1) (k : ∀ (r : Nat) (w : xv_M), p1 r w → xv_N w = n2 → xv_S w = s2 → xv_X sc d J (pc + 3) lv (.ref r :: st) w n1 s1 P) : xv_X sc d J pc lv (x4 :: x3 :: x2 :: x1 :: st) u n1 s1 P := xv_callSN (as := [x1, x2, x3, x4]) hM xv_pr_l hm hl rfl hd hst hdg hw (fun v w g1 g2 g3 => by obtain ⟨r, hr, hp⟩ := g1; cases hr; exact k r w hp g2 g3)
theorem xv_cSN5i {index : Nat} {host : String} {x1 x2 x3 x4 x5 : Value} {p1 : Int32 → xv_M → Prop} (hM : xv_C sc d1 J1 [x1, x2, x3, x4, x5] u n2 s2 (xv_pi p1)) (hm : xv_mS J1 5) (hl : Cond.methodLinkNest J.1.cls index J1.1 host ∈ xv_nest) (hdg : decode J.2.1 pc = .ok (.invokestatic index, 3)) (hd : d1 + 1 ≤ d) (hst : (st.map fun v => v.category).sum ≤ 8) (hw : n2 ≤ n1 ∧ s2 ≤ s1) (k : ∀ (r : Int32) (w : xv_M), p1 r w → xv_N w = n2 → xv_S w = s2 → xv_X sc d J (pc + 3) lv (.int r :: st) w n1 s1 P) : xv_X sc d J pc lv (x5 :: x4 :: x3 :: x2 :: x1 :: st) u n1 s1 P := xv_callSN (as := [x1, x2, x3, x4, x5]) hM xv_pi_l hm hl rfl hd hst hdg hw (fun v w g1 g2 g3 => by obtain ⟨r, hr, hp⟩ := g1; cases hr; exact k r w hp g2 g3)
theorem xv_cSN5v {index : Nat} {host : String} {x1 x2 x3 x4 x5 : Value} {p1 : xv_M → Prop} (hM : xv_C sc d1 J1 [x1, x2, x3, x4, x5] u n2 s2 (xv_pv p1)) (hm : xv_mS J1 5) (hl : Cond.methodLinkNest J.1.cls index J1.1 host ∈ xv_nest) (hdg : decode J.2.1 pc = .ok (.invokestatic index, 3)) (hd : d1 + 1 ≤ d) (hst : (st.map fun v => v.category).sum ≤ 8) (hw : n2 ≤ n1 ∧ s2 ≤ s1) (k : ∀ w : xv_M, p1 w → xv_N w = n2 → xv_S w = s2 → xv_X sc d J (pc + 3) lv st w n1 s1 P) : xv_X sc d J pc lv (x5 :: x4 :: x3 :: x2 :: x1 :: st) u n1 s1 P := xv_callSN (as := [x1, x2, x3, x4, x5]) hM xv_pv_l hm hl rfl hd hst hdg hw (fun v w g1 g2 g3 => by obtain ⟨hr, hp⟩ := g1; cases hr; exact k w hp g2 g3)
theorem xv_cSN5r {index : Nat} {host : String} {x1 x2 x3 x4 x5 : Value} {p1 : Nat → xv_M → Prop} (hM : xv_C sc d1 J1 [x1, x2, x3, x4, x5] u n2 s2 (xv_pr p1)) (hm : xv_mS J1 5) (hl : Cond.methodLinkNest J.1.cls index J1.1 host ∈ xv_nest) (hdg : decode J.2.1 pc = .ok (.invokestatic index, 3)) (hd : d1 + 1 ≤ d) (hst : (st.map fun v => v.category).sum ≤ 8) (hw : n2 ≤ n1 ∧ s2 ≤ s1) (k : ∀ (r : Nat) (w : xv_M), p1 r w → xv_N w = n2 → xv_S w = s2 → xv_X sc d J (pc + 3) lv (.ref r :: st) w n1 s1 P) : xv_X sc d J pc lv (x5 :: x4 :: x3 :: x2 :: x1 :: st) u n1 s1 P := xv_callSN (as := [x1, x2, x3, x4, x5]) hM xv_pr_l hm hl rfl hd hst hdg hw (fun v w g1 g2 g3 => by obtain ⟨r, hr, hp⟩ := g1; cases hr; exact k r w hp g2 g3)
theorem xv_cI0v {b index : Nat} {p1 : xv_M → Prop} (hM : xv_C sc d1 J1 [.ref b] u n2 s2 (xv_pv p1)) (hm : xv_mI J1 0) (hl : Cond.methodLink J.1.cls index J1.1 ∈ xv_BIG) (hdg : decode J.2.1 pc = .ok (.invokespecial index, 3)) (hd : d1 + 1 ≤ d) (hst : (st.map fun v => v.category).sum ≤ 8) (hw : n2 ≤ n1 ∧ s2 ≤ s1) (k : ∀ w : xv_M, p1 w → xv_N w = n2 → xv_S w = s2 → xv_X sc d J (pc + 3) lv st w n1 s1 P) : xv_X sc d J pc lv (.ref b :: st) u n1 s1 P := xv_callI (as := []) hM xv_pv_l hm hl rfl hd hst hdg hw (fun v w g1 g2 g3 => by obtain ⟨hr, hp⟩ := g1; cases hr; exact k w hp g2 g3)
theorem xv_cI1v {b index : Nat} {x1 : Value} {p1 : xv_M → Prop} (hM : xv_C sc d1 J1 [.ref b, x1] u n2 s2 (xv_pv p1)) (hm : xv_mI J1 1) (hl : Cond.methodLink J.1.cls index J1.1 ∈ xv_BIG) (hdg : decode J.2.1 pc = .ok (.invokespecial index, 3)) (hd : d1 + 1 ≤ d) (hst : (st.map fun v => v.category).sum ≤ 8) (hw : n2 ≤ n1 ∧ s2 ≤ s1) (k : ∀ w : xv_M, p1 w → xv_N w = n2 → xv_S w = s2 → xv_X sc d J (pc + 3) lv st w n1 s1 P) : xv_X sc d J pc lv (x1 :: .ref b :: st) u n1 s1 P := xv_callI (as := [x1]) hM xv_pv_l hm hl rfl hd hst hdg hw (fun v w g1 g2 g3 => by obtain ⟨hr, hp⟩ := g1; cases hr; exact k w hp g2 g3)
theorem xv_cI2v {b index : Nat} {x1 x2 : Value} {p1 : xv_M → Prop} (hM : xv_C sc d1 J1 [.ref b, x1, x2] u n2 s2 (xv_pv p1)) (hm : xv_mI J1 2) (hl : Cond.methodLink J.1.cls index J1.1 ∈ xv_BIG) (hdg : decode J.2.1 pc = .ok (.invokespecial index, 3)) (hd : d1 + 1 ≤ d) (hst : (st.map fun v => v.category).sum ≤ 8) (hw : n2 ≤ n1 ∧ s2 ≤ s1) (k : ∀ w : xv_M, p1 w → xv_N w = n2 → xv_S w = s2 → xv_X sc d J (pc + 3) lv st w n1 s1 P) : xv_X sc d J pc lv (x2 :: x1 :: .ref b :: st) u n1 s1 P := xv_callI (as := [x1, x2]) hM xv_pv_l hm hl rfl hd hst hdg hw (fun v w g1 g2 g3 => by obtain ⟨hr, hp⟩ := g1; cases hr; exact k w hp g2 g3)
theorem xv_cI3v {b index : Nat} {x1 x2 x3 : Value} {p1 : xv_M → Prop} (hM : xv_C sc d1 J1 [.ref b, x1, x2, x3] u n2 s2 (xv_pv p1)) (hm : xv_mI J1 3) (hl : Cond.methodLink J.1.cls index J1.1 ∈ xv_BIG) (hdg : decode J.2.1 pc = .ok (.invokespecial index, 3)) (hd : d1 + 1 ≤ d) (hst : (st.map fun v => v.category).sum ≤ 8) (hw : n2 ≤ n1 ∧ s2 ≤ s1) (k : ∀ w : xv_M, p1 w → xv_N w = n2 → xv_S w = s2 → xv_X sc d J (pc + 3) lv st w n1 s1 P) : xv_X sc d J pc lv (x3 :: x2 :: x1 :: .ref b :: st) u n1 s1 P := xv_callI (as := [x1, x2, x3]) hM xv_pv_l hm hl rfl hd hst hdg hw (fun v w g1 g2 g3 => by obtain ⟨hr, hp⟩ := g1; cases hr; exact k w hp g2 g3)
theorem xv_cI4v {b index : Nat} {x1 x2 x3 x4 : Value} {p1 : xv_M → Prop} (hM : xv_C sc d1 J1 [.ref b, x1, x2, x3, x4] u n2 s2 (xv_pv p1)) (hm : xv_mI J1 4) (hl : Cond.methodLink J.1.cls index J1.1 ∈ xv_BIG) (hdg : decode J.2.1 pc = .ok (.invokespecial index, 3)) (hd : d1 + 1 ≤ d) (hst : (st.map fun v => v.category).sum ≤ 8) (hw : n2 ≤ n1 ∧ s2 ≤ s1) (k : ∀ w : xv_M, p1 w → xv_N w = n2 → xv_S w = s2 → xv_X sc d J (pc + 3) lv st w n1 s1 P) : xv_X sc d J pc lv (x4 :: x3 :: x2 :: x1 :: .ref b :: st) u n1 s1 P := xv_callI (as := [x1, x2, x3, x4]) hM xv_pv_l hm hl rfl hd hst hdg hw (fun v w g1 g2 g3 => by obtain ⟨hr, hp⟩ := g1; cases hr; exact k w hp g2 g3)
theorem xv_cI5v {b index : Nat} {x1 x2 x3 x4 x5 : Value} {p1 : xv_M → Prop} (hM : xv_C sc d1 J1 [.ref b, x1, x2, x3, x4, x5] u n2 s2 (xv_pv p1)) (hm : xv_mI J1 5) (hl : Cond.methodLink J.1.cls index J1.1 ∈ xv_BIG) (hdg : decode J.2.1 pc = .ok (.invokespecial index, 3)) (hd : d1 + 1 ≤ d) (hst : (st.map fun v => v.category).sum ≤ 8) (hw : n2 ≤ n1 ∧ s2 ≤ s1) (k : ∀ w : xv_M, p1 w → xv_N w = n2 → xv_S w = s2 → xv_X sc d J (pc + 3) lv st w n1 s1 P) : xv_X sc d J pc lv (x5 :: x4 :: x3 :: x2 :: x1 :: .ref b :: st) u n1 s1 P := xv_callI (as := [x1, x2, x3, x4, x5]) hM xv_pv_l hm hl rfl hd hst hdg hw (fun v w g1 g2 g3 => by obtain ⟨hr, hp⟩ := g1; cases hr; exact k w hp g2 g3)
theorem xv_cIN0v {b index : Nat} {host : String} {p1 : xv_M → Prop} (hM : xv_C sc d1 J1 [.ref b] u n2 s2 (xv_pv p1)) (hm : xv_mI J1 0) (hl : Cond.methodLinkNest J.1.cls index J1.1 host ∈ xv_nest) (hdg : decode J.2.1 pc = .ok (.invokespecial index, 3)) (hd : d1 + 1 ≤ d) (hst : (st.map fun v => v.category).sum ≤ 8) (hw : n2 ≤ n1 ∧ s2 ≤ s1) (k : ∀ w : xv_M, p1 w → xv_N w = n2 → xv_S w = s2 → xv_X sc d J (pc + 3) lv st w n1 s1 P) : xv_X sc d J pc lv (.ref b :: st) u n1 s1 P := xv_callIN (as := []) hM xv_pv_l hm hl rfl hd hst hdg hw (fun v w g1 g2 g3 => by obtain ⟨hr, hp⟩ := g1; cases hr; exact k w hp g2 g3)
theorem xv_cIN1v {b index : Nat} {host : String} {x1 : Value} {p1 : xv_M → Prop} (hM : xv_C sc d1 J1 [.ref b, x1] u n2 s2 (xv_pv p1)) (hm : xv_mI J1 1) (hl : Cond.methodLinkNest J.1.cls index J1.1 host ∈ xv_nest) (hdg : decode J.2.1 pc = .ok (.invokespecial index, 3)) (hd : d1 + 1 ≤ d) (hst : (st.map fun v => v.category).sum ≤ 8) (hw : n2 ≤ n1 ∧ s2 ≤ s1) (k : ∀ w : xv_M, p1 w → xv_N w = n2 → xv_S w = s2 → xv_X sc d J (pc + 3) lv st w n1 s1 P) : xv_X sc d J pc lv (x1 :: .ref b :: st) u n1 s1 P := xv_callIN (as := [x1]) hM xv_pv_l hm hl rfl hd hst hdg hw (fun v w g1 g2 g3 => by obtain ⟨hr, hp⟩ := g1; cases hr; exact k w hp g2 g3)
theorem xv_cIN2v {b index : Nat} {host : String} {x1 x2 : Value} {p1 : xv_M → Prop} (hM : xv_C sc d1 J1 [.ref b, x1, x2] u n2 s2 (xv_pv p1)) (hm : xv_mI J1 2) (hl : Cond.methodLinkNest J.1.cls index J1.1 host ∈ xv_nest) (hdg : decode J.2.1 pc = .ok (.invokespecial index, 3)) (hd : d1 + 1 ≤ d) (hst : (st.map fun v => v.category).sum ≤ 8) (hw : n2 ≤ n1 ∧ s2 ≤ s1) (k : ∀ w : xv_M, p1 w → xv_N w = n2 → xv_S w = s2 → xv_X sc d J (pc + 3) lv st w n1 s1 P) : xv_X sc d J pc lv (x2 :: x1 :: .ref b :: st) u n1 s1 P := xv_callIN (as := [x1, x2]) hM xv_pv_l hm hl rfl hd hst hdg hw (fun v w g1 g2 g3 => by obtain ⟨hr, hp⟩ := g1; cases hr; exact k w hp g2 g3)
theorem xv_cIN3v {b index : Nat} {host : String} {x1 x2 x3 : Value} {p1 : xv_M → Prop} (hM : xv_C sc d1 J1 [.ref b, x1, x2, x3] u n2 s2 (xv_pv p1)) (hm : xv_mI J1 3) (hl : Cond.methodLinkNest J.1.cls index J1.1 host ∈ xv_nest) (hdg : decode J.2.1 pc = .ok (.invokespecial index, 3)) (hd : d1 + 1 ≤ d) (hst : (st.map fun v => v.category).sum ≤ 8) (hw : n2 ≤ n1 ∧ s2 ≤ s1) (k : ∀ w : xv_M, p1 w → xv_N w = n2 → xv_S w = s2 → xv_X sc d J (pc + 3) lv st w n1 s1 P) : xv_X sc d J pc lv (x3 :: x2 :: x1 :: .ref b :: st) u n1 s1 P := xv_callIN (as := [x1, x2, x3]) hM xv_pv_l hm hl rfl hd hst hdg hw (fun v w g1 g2 g3 => by obtain ⟨hr, hp⟩ := g1; cases hr; exact k w hp g2 g3)
theorem xv_cIN4v {b index : Nat} {host : String} {x1 x2 x3 x4 : Value} {p1 : xv_M → Prop} (hM : xv_C sc d1 J1 [.ref b, x1, x2, x3, x4] u n2 s2 (xv_pv p1)) (hm : xv_mI J1 4) (hl : Cond.methodLinkNest J.1.cls index J1.1 host ∈ xv_nest) (hdg : decode J.2.1 pc = .ok (.invokespecial index, 3)) (hd : d1 + 1 ≤ d) (hst : (st.map fun v => v.category).sum ≤ 8) (hw : n2 ≤ n1 ∧ s2 ≤ s1) (k : ∀ w : xv_M, p1 w → xv_N w = n2 → xv_S w = s2 → xv_X sc d J (pc + 3) lv st w n1 s1 P) : xv_X sc d J pc lv (x4 :: x3 :: x2 :: x1 :: .ref b :: st) u n1 s1 P := xv_callIN (as := [x1, x2, x3, x4]) hM xv_pv_l hm hl rfl hd hst hdg hw (fun v w g1 g2 g3 => by obtain ⟨hr, hp⟩ := g1; cases hr; exact k w hp g2 g3)
theorem xv_cIN5v {b index : Nat} {host : String} {x1 x2 x3 x4 x5 : Value} {p1 : xv_M → Prop} (hM : xv_C sc d1 J1 [.ref b, x1, x2, x3, x4, x5] u n2 s2 (xv_pv p1)) (hm : xv_mI J1 5) (hl : Cond.methodLinkNest J.1.cls index J1.1 host ∈ xv_nest) (hdg : decode J.2.1 pc = .ok (.invokespecial index, 3)) (hd : d1 + 1 ≤ d) (hst : (st.map fun v => v.category).sum ≤ 8) (hw : n2 ≤ n1 ∧ s2 ≤ s1) (k : ∀ w : xv_M, p1 w → xv_N w = n2 → xv_S w = s2 → xv_X sc d J (pc + 3) lv st w n1 s1 P) : xv_X sc d J pc lv (x5 :: x4 :: x3 :: x2 :: x1 :: .ref b :: st) u n1 s1 P := xv_callIN (as := [x1, x2, x3, x4, x5]) hM xv_pv_l hm hl rfl hd hst hdg hw (fun v w g1 g2 g3 => by obtain ⟨hr, hp⟩ := g1; cases hr; exact k w hp g2 g3)
end CALLA
end
