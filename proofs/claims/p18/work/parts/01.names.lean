-- ===== PART A: goes FIRST, ahead of the names: the tables' words, and 'selects' of the private methods out of them =====
/-- a private method of a class that the tables say can be made, by its rows of tables_1 -/
def lw_okq (q : MethodName × Nat) : Prop := (q.1.cls ≠ "java/lang/invoke/MethodHandle" ∧ q.1.cls ≠ "java/lang/invoke/VarHandle") ∧ Cond.instantiable q.1.cls q.2 ∈ tables_1 ∧ Cond.privateMethod q.1 ∈ tables_1 ∧ Cond.instanceMethod q.1 ∈ tables_1
theorem lw_p0 : lw_okq (⟨"WhoBacks", "shelfAt", "(I)LWhoBacks$Shelf;"⟩, 8) := ⟨⟨by decide +kernel, by decide +kernel⟩, List.mem_of_getElem? (i := 20) (by decide +kernel), List.mem_of_getElem? (i := 347) (by decide +kernel), List.mem_of_getElem? (i := 348) (by decide +kernel)⟩
theorem lw_p1 : lw_okq (⟨"WhoBacks$Reader", "readStatement", "()V"⟩, 8) := ⟨⟨by decide +kernel, by decide +kernel⟩, List.mem_of_getElem? (i := 224) (by decide +kernel), List.mem_of_getElem? (i := 375) (by decide +kernel), List.mem_of_getElem? (i := 376) (by decide +kernel)⟩
theorem lw_p2 : lw_okq (⟨"WhoBacks$Reader", "next", "()I"⟩, 8) := ⟨⟨by decide +kernel, by decide +kernel⟩, List.mem_of_getElem? (i := 224) (by decide +kernel), List.mem_of_getElem? (i := 379) (by decide +kernel), List.mem_of_getElem? (i := 380) (by decide +kernel)⟩
theorem lw_p3 : lw_okq (⟨"WhoBacks$Reader", "readPiece", "()V"⟩, 8) := ⟨⟨by decide +kernel, by decide +kernel⟩, List.mem_of_getElem? (i := 224) (by decide +kernel), List.mem_of_getElem? (i := 383) (by decide +kernel), List.mem_of_getElem? (i := 384) (by decide +kernel)⟩
theorem lw_p4 : lw_okq (⟨"WhoBacks$Reader", "digit", "()I"⟩, 8) := ⟨⟨by decide +kernel, by decide +kernel⟩, List.mem_of_getElem? (i := 224) (by decide +kernel), List.mem_of_getElem? (i := 387) (by decide +kernel), List.mem_of_getElem? (i := 388) (by decide +kernel)⟩
theorem lw_p5 : lw_okq (⟨"WhoBacks$Reader", "skips", "(I)Z"⟩, 8) := ⟨⟨by decide +kernel, by decide +kernel⟩, List.mem_of_getElem? (i := 224) (by decide +kernel), List.mem_of_getElem? (i := 391) (by decide +kernel), List.mem_of_getElem? (i := 392) (by decide +kernel)⟩
theorem lw_p6 : lw_okq (⟨"WhoBacks$Reader", "readPair", "()V"⟩, 8) := ⟨⟨by decide +kernel, by decide +kernel⟩, List.mem_of_getElem? (i := 224) (by decide +kernel), List.mem_of_getElem? (i := 395) (by decide +kernel), List.mem_of_getElem? (i := 396) (by decide +kernel)⟩
theorem lw_p7 : lw_okq (⟨"WhoBacks$Reader", "want", "(I)V"⟩, 8) := ⟨⟨by decide +kernel, by decide +kernel⟩, List.mem_of_getElem? (i := 224) (by decide +kernel), List.mem_of_getElem? (i := 399) (by decide +kernel), List.mem_of_getElem? (i := 400) (by decide +kernel)⟩
theorem lw_p8 : lw_okq (⟨"WhoBacks$Reader", "readCart", "()V"⟩, 8) := ⟨⟨by decide +kernel, by decide +kernel⟩, List.mem_of_getElem? (i := 224) (by decide +kernel), List.mem_of_getElem? (i := 403) (by decide +kernel), List.mem_of_getElem? (i := 404) (by decide +kernel)⟩
theorem lw_p9 : lw_okq (⟨"WhoBacks$Reader", "number", "()I"⟩, 8) := ⟨⟨by decide +kernel, by decide +kernel⟩, List.mem_of_getElem? (i := 224) (by decide +kernel), List.mem_of_getElem? (i := 407) (by decide +kernel), List.mem_of_getElem? (i := 408) (by decide +kernel)⟩
theorem lw_p10 : lw_okq (⟨"WhoBacks$Reader", "hasDigit", "()Z"⟩, 8) := ⟨⟨by decide +kernel, by decide +kernel⟩, List.mem_of_getElem? (i := 224) (by decide +kernel), List.mem_of_getElem? (i := 411) (by decide +kernel), List.mem_of_getElem? (i := 412) (by decide +kernel)⟩
theorem lw_p11 : lw_okq (⟨"WhoBacks$Reader", "fulfil", "(LWhoBacks$Traffic;)Z"⟩, 8) := ⟨⟨by decide +kernel, by decide +kernel⟩, List.mem_of_getElem? (i := 224) (by decide +kernel), List.mem_of_getElem? (i := 415) (by decide +kernel), List.mem_of_getElem? (i := 416) (by decide +kernel)⟩
theorem lw_p12 : lw_okq (⟨"WhoBacks", "cannotRun", "()Z"⟩, 8) := ⟨⟨by decide +kernel, by decide +kernel⟩, List.mem_of_getElem? (i := 20) (by decide +kernel), List.mem_of_getElem? (i := 484) (by decide +kernel), List.mem_of_getElem? (i := 485) (by decide +kernel)⟩
theorem lw_p13 : lw_okq (⟨"WhoBacks$Traffic", "comeOn", "(LWhoBacks$Cart;)V"⟩, 11) := ⟨⟨by decide +kernel, by decide +kernel⟩, List.mem_of_getElem? (i := 28) (by decide +kernel), List.mem_of_getElem? (i := 504) (by decide +kernel), List.mem_of_getElem? (i := 505) (by decide +kernel)⟩
theorem lw_p14 : lw_okq (⟨"WhoBacks$Traffic", "ownEnd", "(LWhoBacks$Cart;)I"⟩, 11) := ⟨⟨by decide +kernel, by decide +kernel⟩, List.mem_of_getElem? (i := 28) (by decide +kernel), List.mem_of_getElem? (i := 508) (by decide +kernel), List.mem_of_getElem? (i := 509) (by decide +kernel)⟩
theorem lw_p15 : lw_okq (⟨"WhoBacks$Traffic", "backUp", "(LWhoBacks$Cart;)V"⟩, 11) := ⟨⟨by decide +kernel, by decide +kernel⟩, List.mem_of_getElem? (i := 28) (by decide +kernel), List.mem_of_getElem? (i := 516) (by decide +kernel), List.mem_of_getElem? (i := 517) (by decide +kernel)⟩
def lw_privs_1 : List (MethodName × Nat) := [(⟨"WhoBacks", "shelfAt", "(I)LWhoBacks$Shelf;"⟩, 8), (⟨"WhoBacks$Reader", "readStatement", "()V"⟩, 8), (⟨"WhoBacks$Reader", "next", "()I"⟩, 8), (⟨"WhoBacks$Reader", "readPiece", "()V"⟩, 8), (⟨"WhoBacks$Reader", "digit", "()I"⟩, 8), (⟨"WhoBacks$Reader", "skips", "(I)Z"⟩, 8), (⟨"WhoBacks$Reader", "readPair", "()V"⟩, 8), (⟨"WhoBacks$Reader", "want", "(I)V"⟩, 8), (⟨"WhoBacks$Reader", "readCart", "()V"⟩, 8), (⟨"WhoBacks$Reader", "number", "()I"⟩, 8), (⟨"WhoBacks$Reader", "hasDigit", "()Z"⟩, 8), (⟨"WhoBacks$Reader", "fulfil", "(LWhoBacks$Traffic;)Z"⟩, 8), (⟨"WhoBacks", "cannotRun", "()Z"⟩, 8), (⟨"WhoBacks$Traffic", "comeOn", "(LWhoBacks$Cart;)V"⟩, 11), (⟨"WhoBacks$Traffic", "ownEnd", "(LWhoBacks$Cart;)I"⟩, 11), (⟨"WhoBacks$Traffic", "backUp", "(LWhoBacks$Cart;)V"⟩, 11)]
theorem lw_r1 : ∀ q ∈ lw_privs_1, lw_okq q := List.forall_mem_cons.mpr ⟨lw_p0, List.forall_mem_cons.mpr ⟨lw_p1, List.forall_mem_cons.mpr ⟨lw_p2, List.forall_mem_cons.mpr ⟨lw_p3, List.forall_mem_cons.mpr ⟨lw_p4, List.forall_mem_cons.mpr ⟨lw_p5, List.forall_mem_cons.mpr ⟨lw_p6, List.forall_mem_cons.mpr ⟨lw_p7, List.forall_mem_cons.mpr ⟨lw_p8, List.forall_mem_cons.mpr ⟨lw_p9, List.forall_mem_cons.mpr ⟨lw_p10, List.forall_mem_cons.mpr ⟨lw_p11, List.forall_mem_cons.mpr ⟨lw_p12, List.forall_mem_cons.mpr ⟨lw_p13, List.forall_mem_cons.mpr ⟨lw_p14, List.forall_mem_cons.mpr ⟨lw_p15, fun _ h => absurd h List.not_mem_nil⟩⟩⟩⟩⟩⟩⟩⟩⟩⟩⟩⟩⟩⟩⟩⟩
theorem lw_p16 : lw_okq (⟨"WhoBacks$Traffic", "hasRoom", "(I)Z"⟩, 11) := ⟨⟨by decide +kernel, by decide +kernel⟩, List.mem_of_getElem? (i := 28) (by decide +kernel), List.mem_of_getElem? (i := 529) (by decide +kernel), List.mem_of_getElem? (i := 530) (by decide +kernel)⟩
theorem lw_p17 : lw_okq (⟨"WhoBacks$Traffic", "step", "(LWhoBacks$Cart;I)V"⟩, 11) := ⟨⟨by decide +kernel, by decide +kernel⟩, List.mem_of_getElem? (i := 28) (by decide +kernel), List.mem_of_getElem? (i := 534) (by decide +kernel), List.mem_of_getElem? (i := 535) (by decide +kernel)⟩
theorem lw_p18 : lw_okq (⟨"WhoBacks$Traffic", "letOneBehindBack", "(LWhoBacks$Cart;I)V"⟩, 11) := ⟨⟨by decide +kernel, by decide +kernel⟩, List.mem_of_getElem? (i := 28) (by decide +kernel), List.mem_of_getElem? (i := 538) (by decide +kernel), List.mem_of_getElem? (i := 539) (by decide +kernel)⟩
theorem lw_p19 : lw_okq (⟨"WhoBacks$Traffic", "goOn", "(ILWhoBacks$Cart;)V"⟩, 11) := ⟨⟨by decide +kernel, by decide +kernel⟩, List.mem_of_getElem? (i := 28) (by decide +kernel), List.mem_of_getElem? (i := 546) (by decide +kernel), List.mem_of_getElem? (i := 547) (by decide +kernel)⟩
theorem lw_p20 : lw_okq (⟨"WhoBacks$Traffic", "isHourOf", "(LWhoBacks$Cart;I)Z"⟩, 11) := ⟨⟨by decide +kernel, by decide +kernel⟩, List.mem_of_getElem? (i := 28) (by decide +kernel), List.mem_of_getElem? (i := 562) (by decide +kernel), List.mem_of_getElem? (i := 563) (by decide +kernel)⟩
theorem lw_p21 : lw_okq (⟨"WhoBacks$Traffic", "isQuiet", "(LWhoBacks$Cart;II)Z"⟩, 11) := ⟨⟨by decide +kernel, by decide +kernel⟩, List.mem_of_getElem? (i := 28) (by decide +kernel), List.mem_of_getElem? (i := 569) (by decide +kernel), List.mem_of_getElem? (i := 570) (by decide +kernel)⟩
theorem lw_p22 : lw_okq (⟨"WhoBacks$Traffic", "meet", "(ILWhoBacks$Cart;I)V"⟩, 11) := ⟨⟨by decide +kernel, by decide +kernel⟩, List.mem_of_getElem? (i := 28) (by decide +kernel), List.mem_of_getElem? (i := 581) (by decide +kernel), List.mem_of_getElem? (i := 582) (by decide +kernel)⟩
theorem lw_p23 : lw_okq (⟨"WhoBacks$Traffic", "noteMeeting", "(II)V"⟩, 11) := ⟨⟨by decide +kernel, by decide +kernel⟩, List.mem_of_getElem? (i := 28) (by decide +kernel), List.mem_of_getElem? (i := 585) (by decide +kernel), List.mem_of_getElem? (i := 586) (by decide +kernel)⟩
theorem lw_p24 : lw_okq (⟨"WhoBacks$Traffic", "wayBack", "(LWhoBacks$Cart;)I"⟩, 11) := ⟨⟨by decide +kernel, by decide +kernel⟩, List.mem_of_getElem? (i := 28) (by decide +kernel), List.mem_of_getElem? (i := 598) (by decide +kernel), List.mem_of_getElem? (i := 599) (by decide +kernel)⟩
theorem lw_p25 : lw_okq (⟨"WhoBacks$Traffic", "goal", "(LWhoBacks$Cart;)I"⟩, 11) := ⟨⟨by decide +kernel, by decide +kernel⟩, List.mem_of_getElem? (i := 28) (by decide +kernel), List.mem_of_getElem? (i := 609) (by decide +kernel), List.mem_of_getElem? (i := 610) (by decide +kernel)⟩
theorem lw_p26 : lw_okq (⟨"WhoBacks", "costInMind", "()I"⟩, 8) := ⟨⟨by decide +kernel, by decide +kernel⟩, List.mem_of_getElem? (i := 20) (by decide +kernel), List.mem_of_getElem? (i := 670) (by decide +kernel), List.mem_of_getElem? (i := 671) (by decide +kernel)⟩
theorem lw_p27 : lw_okq (⟨"WhoBacks", "ruleAllInMind", "(II)V"⟩, 8) := ⟨⟨by decide +kernel, by decide +kernel⟩, List.mem_of_getElem? (i := 20) (by decide +kernel), List.mem_of_getElem? (i := 705) (by decide +kernel), List.mem_of_getElem? (i := 706) (by decide +kernel)⟩
theorem lw_p28 : lw_okq (⟨"WhoBacks$Passing", "reach", "(III)V"⟩, 8) := ⟨⟨by decide +kernel, by decide +kernel⟩, List.mem_of_getElem? (i := 286) (by decide +kernel), List.mem_of_getElem? (i := 754) (by decide +kernel), List.mem_of_getElem? (i := 755) (by decide +kernel)⟩
theorem lw_p29 : lw_okq (⟨"WhoBacks$Passing", "tryMoves", "(II)V"⟩, 8) := ⟨⟨by decide +kernel, by decide +kernel⟩, List.mem_of_getElem? (i := 286) (by decide +kernel), List.mem_of_getElem? (i := 758) (by decide +kernel), List.mem_of_getElem? (i := 759) (by decide +kernel)⟩
theorem lw_p30 : lw_okq (⟨"WhoBacks$Passing", "comeBack", "(IIII)V"⟩, 8) := ⟨⟨by decide +kernel, by decide +kernel⟩, List.mem_of_getElem? (i := 286) (by decide +kernel), List.mem_of_getElem? (i := 774) (by decide +kernel), List.mem_of_getElem? (i := 775) (by decide +kernel)⟩
theorem lw_p31 : lw_okq (⟨"java/lang/Throwable", "fillInStackTrace", "(I)Ljava/lang/Throwable;"⟩, 6) := ⟨⟨by decide +kernel, by decide +kernel⟩, List.mem_of_getElem? (i := 886) (by decide +kernel), List.mem_of_getElem? (i := 884) (by decide +kernel), List.mem_of_getElem? (i := 885) (by decide +kernel)⟩
def lw_privs_2 : List (MethodName × Nat) := [(⟨"WhoBacks$Traffic", "hasRoom", "(I)Z"⟩, 11), (⟨"WhoBacks$Traffic", "step", "(LWhoBacks$Cart;I)V"⟩, 11), (⟨"WhoBacks$Traffic", "letOneBehindBack", "(LWhoBacks$Cart;I)V"⟩, 11), (⟨"WhoBacks$Traffic", "goOn", "(ILWhoBacks$Cart;)V"⟩, 11), (⟨"WhoBacks$Traffic", "isHourOf", "(LWhoBacks$Cart;I)Z"⟩, 11), (⟨"WhoBacks$Traffic", "isQuiet", "(LWhoBacks$Cart;II)Z"⟩, 11), (⟨"WhoBacks$Traffic", "meet", "(ILWhoBacks$Cart;I)V"⟩, 11), (⟨"WhoBacks$Traffic", "noteMeeting", "(II)V"⟩, 11), (⟨"WhoBacks$Traffic", "wayBack", "(LWhoBacks$Cart;)I"⟩, 11), (⟨"WhoBacks$Traffic", "goal", "(LWhoBacks$Cart;)I"⟩, 11), (⟨"WhoBacks", "costInMind", "()I"⟩, 8), (⟨"WhoBacks", "ruleAllInMind", "(II)V"⟩, 8), (⟨"WhoBacks$Passing", "reach", "(III)V"⟩, 8), (⟨"WhoBacks$Passing", "tryMoves", "(II)V"⟩, 8), (⟨"WhoBacks$Passing", "comeBack", "(IIII)V"⟩, 8), (⟨"java/lang/Throwable", "fillInStackTrace", "(I)Ljava/lang/Throwable;"⟩, 6)]
theorem lw_r2 : ∀ q ∈ lw_privs_2, lw_okq q := List.forall_mem_cons.mpr ⟨lw_p16, List.forall_mem_cons.mpr ⟨lw_p17, List.forall_mem_cons.mpr ⟨lw_p18, List.forall_mem_cons.mpr ⟨lw_p19, List.forall_mem_cons.mpr ⟨lw_p20, List.forall_mem_cons.mpr ⟨lw_p21, List.forall_mem_cons.mpr ⟨lw_p22, List.forall_mem_cons.mpr ⟨lw_p23, List.forall_mem_cons.mpr ⟨lw_p24, List.forall_mem_cons.mpr ⟨lw_p25, List.forall_mem_cons.mpr ⟨lw_p26, List.forall_mem_cons.mpr ⟨lw_p27, List.forall_mem_cons.mpr ⟨lw_p28, List.forall_mem_cons.mpr ⟨lw_p29, List.forall_mem_cons.mpr ⟨lw_p30, List.forall_mem_cons.mpr ⟨lw_p31, fun _ h => absurd h List.not_mem_nil⟩⟩⟩⟩⟩⟩⟩⟩⟩⟩⟩⟩⟩⟩⟩⟩
theorem lw_p32 : lw_okq (⟨"WhoBacksModel", "wrongRow", "(II)I"⟩, 24) := ⟨⟨by decide +kernel, by decide +kernel⟩, List.mem_of_getElem? (i := 958) (by decide +kernel), List.mem_of_getElem? (i := 1041) (by decide +kernel), List.mem_of_getElem? (i := 1042) (by decide +kernel)⟩
theorem lw_p33 : lw_okq (⟨"WhoBacksModel", "readsStatement", "()Z"⟩, 24) := ⟨⟨by decide +kernel, by decide +kernel⟩, List.mem_of_getElem? (i := 958) (by decide +kernel), List.mem_of_getElem? (i := 1052) (by decide +kernel), List.mem_of_getElem? (i := 1053) (by decide +kernel)⟩
theorem lw_p34 : lw_okq (⟨"WhoBacksModel", "here", "()I"⟩, 24) := ⟨⟨by decide +kernel, by decide +kernel⟩, List.mem_of_getElem? (i := 958) (by decide +kernel), List.mem_of_getElem? (i := 1056) (by decide +kernel), List.mem_of_getElem? (i := 1057) (by decide +kernel)⟩
theorem lw_p35 : lw_okq (⟨"WhoBacksModel", "readsDigit", "()Z"⟩, 24) := ⟨⟨by decide +kernel, by decide +kernel⟩, List.mem_of_getElem? (i := 958) (by decide +kernel), List.mem_of_getElem? (i := 1060) (by decide +kernel), List.mem_of_getElem? (i := 1061) (by decide +kernel)⟩
theorem lw_p36 : lw_okq (⟨"WhoBacksModel", "isDigit", "()Z"⟩, 24) := ⟨⟨by decide +kernel, by decide +kernel⟩, List.mem_of_getElem? (i := 958) (by decide +kernel), List.mem_of_getElem? (i := 1064) (by decide +kernel), List.mem_of_getElem? (i := 1065) (by decide +kernel)⟩
theorem lw_p37 : lw_okq (⟨"WhoBacksModel", "takes", "(I)Z"⟩, 24) := ⟨⟨by decide +kernel, by decide +kernel⟩, List.mem_of_getElem? (i := 958) (by decide +kernel), List.mem_of_getElem? (i := 1070) (by decide +kernel), List.mem_of_getElem? (i := 1071) (by decide +kernel)⟩
theorem lw_p38 : lw_okq (⟨"WhoBacksModel", "readsNumber", "()Z"⟩, 24) := ⟨⟨by decide +kernel, by decide +kernel⟩, List.mem_of_getElem? (i := 958) (by decide +kernel), List.mem_of_getElem? (i := 1074) (by decide +kernel), List.mem_of_getElem? (i := 1075) (by decide +kernel)⟩
theorem lw_p39 : lw_okq (⟨"WhoBacksModel", "comes", "(I)Z"⟩, 24) := ⟨⟨by decide +kernel, by decide +kernel⟩, List.mem_of_getElem? (i := 958) (by decide +kernel), List.mem_of_getElem? (i := 1078) (by decide +kernel), List.mem_of_getElem? (i := 1079) (by decide +kernel)⟩
theorem lw_p40 : lw_okq (⟨"WhoBacksModel", "isPiece", "(I)Z"⟩, 24) := ⟨⟨by decide +kernel, by decide +kernel⟩, List.mem_of_getElem? (i := 958) (by decide +kernel), List.mem_of_getElem? (i := 1094) (by decide +kernel), List.mem_of_getElem? (i := 1095) (by decide +kernel)⟩
theorem lw_p41 : lw_okq (⟨"WhoBacksModel", "isCart", "(I)Z"⟩, 24) := ⟨⟨by decide +kernel, by decide +kernel⟩, List.mem_of_getElem? (i := 958) (by decide +kernel), List.mem_of_getElem? (i := 1110) (by decide +kernel), List.mem_of_getElem? (i := 1111) (by decide +kernel)⟩
theorem lw_p42 : lw_okq (⟨"WhoBacksModel", "wrongRule", "(I)I"⟩, 24) := ⟨⟨by decide +kernel, by decide +kernel⟩, List.mem_of_getElem? (i := 958) (by decide +kernel), List.mem_of_getElem? (i := 1132) (by decide +kernel), List.mem_of_getElem? (i := 1133) (by decide +kernel)⟩
theorem lw_p43 : lw_okq (⟨"WhoBacksModel", "isEmpty", "()Z"⟩, 24) := ⟨⟨by decide +kernel, by decide +kernel⟩, List.mem_of_getElem? (i := 958) (by decide +kernel), List.mem_of_getElem? (i := 1141) (by decide +kernel), List.mem_of_getElem? (i := 1142) (by decide +kernel)⟩
theorem lw_p44 : lw_okq (⟨"WhoBacksModel", "minute", "([I)V"⟩, 24) := ⟨⟨by decide +kernel, by decide +kernel⟩, List.mem_of_getElem? (i := 958) (by decide +kernel), List.mem_of_getElem? (i := 1154) (by decide +kernel), List.mem_of_getElem? (i := 1155) (by decide +kernel)⟩
theorem lw_p45 : lw_okq (⟨"WhoBacksModel", "acts", "([II)V"⟩, 24) := ⟨⟨by decide +kernel, by decide +kernel⟩, List.mem_of_getElem? (i := 958) (by decide +kernel), List.mem_of_getElem? (i := 1158) (by decide +kernel), List.mem_of_getElem? (i := 1159) (by decide +kernel)⟩
theorem lw_p46 : lw_okq (⟨"WhoBacksModel", "goesBack", "([II)V"⟩, 24) := ⟨⟨by decide +kernel, by decide +kernel⟩, List.mem_of_getElem? (i := 958) (by decide +kernel), List.mem_of_getElem? (i := 1171) (by decide +kernel), List.mem_of_getElem? (i := 1172) (by decide +kernel)⟩
theorem lw_p47 : lw_okq (⟨"WhoBacksModel", "goesOn", "([II)V"⟩, 24) := ⟨⟨by decide +kernel, by decide +kernel⟩, List.mem_of_getElem? (i := 958) (by decide +kernel), List.mem_of_getElem? (i := 1187) (by decide +kernel), List.mem_of_getElem? (i := 1188) (by decide +kernel)⟩
def lw_privs_3 : List (MethodName × Nat) := [(⟨"WhoBacksModel", "wrongRow", "(II)I"⟩, 24), (⟨"WhoBacksModel", "readsStatement", "()Z"⟩, 24), (⟨"WhoBacksModel", "here", "()I"⟩, 24), (⟨"WhoBacksModel", "readsDigit", "()Z"⟩, 24), (⟨"WhoBacksModel", "isDigit", "()Z"⟩, 24), (⟨"WhoBacksModel", "takes", "(I)Z"⟩, 24), (⟨"WhoBacksModel", "readsNumber", "()Z"⟩, 24), (⟨"WhoBacksModel", "comes", "(I)Z"⟩, 24), (⟨"WhoBacksModel", "isPiece", "(I)Z"⟩, 24), (⟨"WhoBacksModel", "isCart", "(I)Z"⟩, 24), (⟨"WhoBacksModel", "wrongRule", "(I)I"⟩, 24), (⟨"WhoBacksModel", "isEmpty", "()Z"⟩, 24), (⟨"WhoBacksModel", "minute", "([I)V"⟩, 24), (⟨"WhoBacksModel", "acts", "([II)V"⟩, 24), (⟨"WhoBacksModel", "goesBack", "([II)V"⟩, 24), (⟨"WhoBacksModel", "goesOn", "([II)V"⟩, 24)]
theorem lw_r3 : ∀ q ∈ lw_privs_3, lw_okq q := List.forall_mem_cons.mpr ⟨lw_p32, List.forall_mem_cons.mpr ⟨lw_p33, List.forall_mem_cons.mpr ⟨lw_p34, List.forall_mem_cons.mpr ⟨lw_p35, List.forall_mem_cons.mpr ⟨lw_p36, List.forall_mem_cons.mpr ⟨lw_p37, List.forall_mem_cons.mpr ⟨lw_p38, List.forall_mem_cons.mpr ⟨lw_p39, List.forall_mem_cons.mpr ⟨lw_p40, List.forall_mem_cons.mpr ⟨lw_p41, List.forall_mem_cons.mpr ⟨lw_p42, List.forall_mem_cons.mpr ⟨lw_p43, List.forall_mem_cons.mpr ⟨lw_p44, List.forall_mem_cons.mpr ⟨lw_p45, List.forall_mem_cons.mpr ⟨lw_p46, List.forall_mem_cons.mpr ⟨lw_p47, fun _ h => absurd h List.not_mem_nil⟩⟩⟩⟩⟩⟩⟩⟩⟩⟩⟩⟩⟩⟩⟩⟩
theorem lw_p48 : lw_okq (⟨"WhoBacksModel", "leastOf", "(I)I"⟩, 24) := ⟨⟨by decide +kernel, by decide +kernel⟩, List.mem_of_getElem? (i := 958) (by decide +kernel), List.mem_of_getElem? (i := 1246) (by decide +kernel), List.mem_of_getElem? (i := 1247) (by decide +kernel)⟩
theorem lw_p49 : lw_okq (⟨"WhoBacksModel", "opens", "()V"⟩, 24) := ⟨⟨by decide +kernel, by decide +kernel⟩, List.mem_of_getElem? (i := 958) (by decide +kernel), List.mem_of_getElem? (i := 1256) (by decide +kernel), List.mem_of_getElem? (i := 1257) (by decide +kernel)⟩
theorem lw_p50 : lw_okq (⟨"WhoBacksModel", "costs", "()I"⟩, 24) := ⟨⟨by decide +kernel, by decide +kernel⟩, List.mem_of_getElem? (i := 958) (by decide +kernel), List.mem_of_getElem? (i := 1260) (by decide +kernel), List.mem_of_getElem? (i := 1261) (by decide +kernel)⟩
theorem lw_p51 : lw_okq (⟨"WhoBacksModel", "costBy", "(II)I"⟩, 24) := ⟨⟨by decide +kernel, by decide +kernel⟩, List.mem_of_getElem? (i := 958) (by decide +kernel), List.mem_of_getElem? (i := 1280) (by decide +kernel), List.mem_of_getElem? (i := 1281) (by decide +kernel)⟩
theorem lw_p52 : lw_okq (⟨"WhoBacksModel", "allBy", "(II)V"⟩, 24) := ⟨⟨by decide +kernel, by decide +kernel⟩, List.mem_of_getElem? (i := 958) (by decide +kernel), List.mem_of_getElem? (i := 1284) (by decide +kernel), List.mem_of_getElem? (i := 1285) (by decide +kernel)⟩
theorem lw_p53 : lw_okq (⟨"WhoBacksModel", "rowsOf", "(IIIII)I"⟩, 24) := ⟨⟨by decide +kernel, by decide +kernel⟩, List.mem_of_getElem? (i := 958) (by decide +kernel), List.mem_of_getElem? (i := 1329) (by decide +kernel), List.mem_of_getElem? (i := 1330) (by decide +kernel)⟩
theorem lw_p54 : lw_okq (⟨"WhoBacksModel", "reaches", "(IIIII)V"⟩, 24) := ⟨⟨by decide +kernel, by decide +kernel⟩, List.mem_of_getElem? (i := 958) (by decide +kernel), List.mem_of_getElem? (i := 1333) (by decide +kernel), List.mem_of_getElem? (i := 1334) (by decide +kernel)⟩
def lw_privs_4 : List (MethodName × Nat) := [(⟨"WhoBacksModel", "leastOf", "(I)I"⟩, 24), (⟨"WhoBacksModel", "opens", "()V"⟩, 24), (⟨"WhoBacksModel", "costs", "()I"⟩, 24), (⟨"WhoBacksModel", "costBy", "(II)I"⟩, 24), (⟨"WhoBacksModel", "allBy", "(II)V"⟩, 24), (⟨"WhoBacksModel", "rowsOf", "(IIIII)I"⟩, 24), (⟨"WhoBacksModel", "reaches", "(IIIII)V"⟩, 24)]
theorem lw_r4 : ∀ q ∈ lw_privs_4, lw_okq q := List.forall_mem_cons.mpr ⟨lw_p48, List.forall_mem_cons.mpr ⟨lw_p49, List.forall_mem_cons.mpr ⟨lw_p50, List.forall_mem_cons.mpr ⟨lw_p51, List.forall_mem_cons.mpr ⟨lw_p52, List.forall_mem_cons.mpr ⟨lw_p53, List.forall_mem_cons.mpr ⟨lw_p54, fun _ h => absurd h List.not_mem_nil⟩⟩⟩⟩⟩⟩⟩
def lw_privs : List (MethodName × Nat) := lw_privs_1 ++ (lw_privs_2 ++ (lw_privs_3 ++ (lw_privs_4)))
def lw_tbl : List Cond := k2_sels lw_privs ++ tables_1
theorem lw_privs_ok : ∀ q ∈ lw_privs, lw_okq q := by
  show ∀ q ∈ lw_privs_1 ++ (lw_privs_2 ++ (lw_privs_3 ++ (lw_privs_4))), lw_okq q
  exact List.forall_mem_append.mpr ⟨lw_r1, List.forall_mem_append.mpr ⟨lw_r2, List.forall_mem_append.mpr ⟨lw_r3, lw_r4⟩⟩⟩
def RX0 : String := "WhoBacks$Cart"
def TX0 : u_T := fun k => match k with
  | 0 => ("WhoBacks$Cart", "up", "Z", false)
  | 1 => ("WhoBacks$Cart", "loaded", "Z", false)
  | 2 => ("WhoBacks$Cart", "start", "I", false)
  | 3 => ("WhoBacks$Cart", "backs", "I", false)
  | 4 => ("WhoBacks$Cart", "worth", "I", false)
  | 5 => ("WhoBacks$Cart", "late", "I", false)
  | 6 => ("WhoBacks$Cart", "spot", "I", false)
  | 7 => ("WhoBacks$Cart", "backing", "Z", false)
  | 8 => ("WhoBacks$Cart", "gaveWay", "Z", false)
  | 9 => ("WhoBacks$Cart", "left", "I", false)
  | 10 => ("WhoBacks$Cart", "backed", "I", false)
  | _ => ("WhoBacks$Cart", "waited", "I", false)
def tyX0 : Nat → FieldType := fun k => match k with
  | 0 => .boolean
  | 1 => .boolean
  | 2 => .int
  | 3 => .int
  | 4 => .int
  | 5 => .int
  | 6 => .int
  | 7 => .boolean
  | 8 => .boolean
  | 9 => .int
  | 10 => .int
  | _ => .int
theorem nmX0 : ∀ a, a < 12 → ∀ b, b < 12 → a ≠ b → (TX0 a).2.1 ≠ (TX0 b).2.1 := by decide +kernel
theorem tyX0_ok : ∀ k, k < 12 → parseFieldDescriptor (TX0 k).2.2.1 = some (tyX0 k) := by decide +kernel
abbrev cX0_init : ByteArray := prog_2_method_1_code
def yX0_init : MethodName := ⟨RX0, "<init>", "()V"⟩
abbrev cX0_copyFrom : ByteArray := prog_2_method_2_code
def yX0_copyFrom : MethodName := ⟨RX0, "copyFrom", "(LWhoBacks$Cart;)V"⟩
abbrev cX0_beginAnew : ByteArray := prog_2_method_3_code
def yX0_beginAnew : MethodName := ⟨RX0, "beginAnew", "()V"⟩
abbrev cX0_beginBacking : ByteArray := prog_2_method_4_code
def yX0_beginBacking : MethodName := ⟨RX0, "beginBacking", "()V"⟩
abbrev cX0_spotAhead : ByteArray := prog_2_method_5_code
def yX0_spotAhead : MethodName := ⟨RX0, "spotAhead", "()I"⟩
abbrev cX0_spotBehind : ByteArray := prog_2_method_6_code
def yX0_spotBehind : MethodName := ⟨RX0, "spotBehind", "()I"⟩
abbrev cX0_isSlowOn : ByteArray := prog_2_method_7_code
def yX0_isSlowOn : MethodName := ⟨RX0, "isSlowOn", "(I)Z"⟩
def RX1 : String := "WhoBacks$Least"
def TX1 : u_T := fun k => match k with
  | 0 => ("WhoBacks$Least", "key", "I", false)
  | _ => ("WhoBacks$Least", "cost", "I", false)
def tyX1 : Nat → FieldType := fun k => match k with
  | 0 => .int
  | _ => .int
theorem nmX1 : ∀ a, a < 2 → ∀ b, b < 2 → a ≠ b → (TX1 a).2.1 ≠ (TX1 b).2.1 := by decide +kernel
theorem tyX1_ok : ∀ k, k < 2 → parseFieldDescriptor (TX1 k).2.2.1 = some (tyX1 k) := by decide +kernel
abbrev cX1_init : ByteArray := prog_3_method_1_code
def yX1_init : MethodName := ⟨RX1, "<init>", "()V"⟩
abbrev cX1_begin : ByteArray := prog_3_method_2_code
def yX1_begin : MethodName := ⟨RX1, "begin", "()V"⟩
abbrev cX1_offer : ByteArray := prog_3_method_3_code
def yX1_offer : MethodName := ⟨RX1, "offer", "(II)V"⟩
def RX2 : String := "WhoBacks$Passing"
def TX2 : u_T := fun k => match k with
  | 0 => ("WhoBacks$Passing", "moves", "[I", true)
  | 1 => ("WhoBacks$Passing", "found", "[I", true)
  | 2 => ("WhoBacks$Passing", "foundCount", "I", false)
  | 3 => ("WhoBacks$Passing", "fromOne", "I", false)
  | 4 => ("WhoBacks$Passing", "fromOther", "I", false)
  | 5 => ("WhoBacks$Passing", "roomAside", "I", false)
  | 6 => ("WhoBacks$Passing", "roomOne", "I", false)
  | _ => ("WhoBacks$Passing", "roomOther", "I", false)
def tyX2 : Nat → FieldType := fun k => match k with
  | 0 => .array .int
  | 1 => .array .int
  | 2 => .int
  | 3 => .int
  | 4 => .int
  | 5 => .int
  | 6 => .int
  | _ => .int
theorem nmX2 : ∀ a, a < 8 → ∀ b, b < 8 → a ≠ b → (TX2 a).2.1 ≠ (TX2 b).2.1 := by decide +kernel
theorem tyX2_ok : ∀ k, k < 8 → parseFieldDescriptor (TX2 k).2.2.1 = some (tyX2 k) := by decide +kernel
abbrev cX2_init : ByteArray := prog_4_method_1_code
def yX2_init : MethodName := ⟨RX2, "<init>", "()V"⟩
abbrev cX2_leastMoves : ByteArray := prog_4_method_2_code
def yX2_leastMoves : MethodName := ⟨RX2, "leastMoves", "(IIIII)I"⟩
abbrev cX2_reach : ByteArray := prog_4_method_3_code
def yX2_reach : MethodName := ⟨RX2, "reach", "(III)V"⟩
abbrev cX2_tryMoves : ByteArray := prog_4_method_4_code
def yX2_tryMoves : MethodName := ⟨RX2, "tryMoves", "(II)V"⟩
abbrev cX2_comeBack : ByteArray := prog_4_method_5_code
def yX2_comeBack : MethodName := ⟨RX2, "comeBack", "(IIII)V"⟩
abbrev cX2_lengthOf : ByteArray := prog_4_method_6_code
def yX2_lengthOf : MethodName := ⟨RX2, "lengthOf", "(I)I"⟩
abbrev cX2_without : ByteArray := prog_4_method_7_code
def yX2_without : MethodName := ⟨RX2, "without", "(II)I"⟩
def RX3 : String := "WhoBacks$Reader"
def TX3 : u_T := fun k => match k with
  | 0 => ("WhoBacks$Reader", "text", "LWhoBacks$Shelf;", false)
  | 1 => ("WhoBacks$Reader", "at", "I", false)
  | 2 => ("WhoBacks$Reader", "broken", "Z", false)
  | 3 => ("WhoBacks$Reader", "letter", "I", false)
  | 4 => ("WhoBacks$Reader", "first", "I", false)
  | 5 => ("WhoBacks$Reader", "second", "I", false)
  | 6 => ("WhoBacks$Reader", "third", "I", false)
  | _ => ("WhoBacks$Reader", "loaded", "Z", false)
def tyX3 : Nat → FieldType := fun k => match k with
  | 0 => .object "WhoBacks$Shelf"
  | 1 => .int
  | 2 => .boolean
  | 3 => .int
  | 4 => .int
  | 5 => .int
  | 6 => .int
  | _ => .boolean
theorem nmX3 : ∀ a, a < 8 → ∀ b, b < 8 → a ≠ b → (TX3 a).2.1 ≠ (TX3 b).2.1 := by decide +kernel
theorem tyX3_ok : ∀ k, k < 8 → parseFieldDescriptor (TX3 k).2.2.1 = some (tyX3 k) := by decide +kernel
abbrev cX3_init : ByteArray := prog_5_method_1_code
def yX3_init : MethodName := ⟨RX3, "<init>", "()V"⟩
abbrev cX3_read : ByteArray := prog_5_method_2_code
def yX3_read : MethodName := ⟨RX3, "read", "(LWhoBacks$Shelf;LWhoBacks$Traffic;)I"⟩
abbrev cX3_readStatement : ByteArray := prog_5_method_3_code
def yX3_readStatement : MethodName := ⟨RX3, "readStatement", "()V"⟩
abbrev cX3_readPiece : ByteArray := prog_5_method_4_code
def yX3_readPiece : MethodName := ⟨RX3, "readPiece", "()V"⟩
abbrev cX3_readPair : ByteArray := prog_5_method_5_code
def yX3_readPair : MethodName := ⟨RX3, "readPair", "()V"⟩
abbrev cX3_readCart : ByteArray := prog_5_method_6_code
def yX3_readCart : MethodName := ⟨RX3, "readCart", "()V"⟩
abbrev cX3_next : ByteArray := prog_5_method_7_code
def yX3_next : MethodName := ⟨RX3, "next", "()I"⟩
abbrev cX3_skips : ByteArray := prog_5_method_8_code
def yX3_skips : MethodName := ⟨RX3, "skips", "(I)Z"⟩
abbrev cX3_want : ByteArray := prog_5_method_9_code
def yX3_want : MethodName := ⟨RX3, "want", "(I)V"⟩
abbrev cX3_hasDigit : ByteArray := prog_5_method_10_code
def yX3_hasDigit : MethodName := ⟨RX3, "hasDigit", "()Z"⟩
abbrev cX3_digit : ByteArray := prog_5_method_11_code
def yX3_digit : MethodName := ⟨RX3, "digit", "()I"⟩
abbrev cX3_number : ByteArray := prog_5_method_12_code
def yX3_number : MethodName := ⟨RX3, "number", "()I"⟩
abbrev cX3_fulfil : ByteArray := prog_5_method_13_code
def yX3_fulfil : MethodName := ⟨RX3, "fulfil", "(LWhoBacks$Traffic;)Z"⟩
def RX4 : String := "WhoBacks$Road"
def TX4 : u_T := fun k => match k with
  | 0 => ("WhoBacks$Road", "pieces", "I", false)
  | 1 => ("WhoBacks$Road", "end", "I", false)
  | 2 => ("WhoBacks$Road", "steps", "[I", true)
  | 3 => ("WhoBacks$Road", "hill", "[I", true)
  | 4 => ("WhoBacks$Road", "villageOf", "[I", true)
  | 5 => ("WhoBacks$Road", "roomOf", "[I", true)
  | 6 => ("WhoBacks$Road", "first", "[I", true)
  | 7 => ("WhoBacks$Road", "placeAt", "[I", true)
  | 8 => ("WhoBacks$Road", "pieceAbove", "[I", true)
  | 9 => ("WhoBacks$Road", "toLower", "[I", true)
  | 10 => ("WhoBacks$Road", "toUpper", "[I", true)
  | 11 => ("WhoBacks$Road", "kind", "[I", true)
  | _ => ("WhoBacks$Road", "figure", "[I", true)
def tyX4 : Nat → FieldType := fun k => match k with
  | 0 => .int
  | 1 => .int
  | 2 => .array .int
  | 3 => .array .int
  | 4 => .array .int
  | 5 => .array .int
  | 6 => .array .int
  | 7 => .array .int
  | 8 => .array .int
  | 9 => .array .int
  | 10 => .array .int
  | 11 => .array .int
  | _ => .array .int
theorem nmX4 : ∀ a, a < 13 → ∀ b, b < 13 → a ≠ b → (TX4 a).2.1 ≠ (TX4 b).2.1 := by decide +kernel
theorem tyX4_ok : ∀ k, k < 13 → parseFieldDescriptor (TX4 k).2.2.1 = some (tyX4 k) := by decide +kernel
abbrev cX4_init : ByteArray := prog_6_method_1_code
def yX4_init : MethodName := ⟨RX4, "<init>", "()V"⟩
abbrev cX4_copyFrom : ByteArray := prog_6_method_2_code
def yX4_copyFrom : MethodName := ⟨RX4, "copyFrom", "(LWhoBacks$Road;)V"⟩
abbrev cX4_addPiece : ByteArray := prog_6_method_3_code
def yX4_addPiece : MethodName := ⟨RX4, "addPiece", "(II)Z"⟩
abbrev cX4_isBetween : ByteArray := prog_6_method_4_code
def yX4_isBetween : MethodName := ⟨RX4, "isBetween", "(I)Z"⟩
abbrev cX4_tellRoom : ByteArray := prog_6_method_5_code
def yX4_tellRoom : MethodName := ⟨RX4, "tellRoom", "(II)Z"⟩
abbrev cX4_tellVillage : ByteArray := prog_6_method_6_code
def yX4_tellVillage : MethodName := ⟨RX4, "tellVillage", "(II)Z"⟩
abbrev cX4_tellRule : ByteArray := prog_6_method_7_code
def yX4_tellRule : MethodName := ⟨RX4, "tellRule", "(III)Z"⟩
abbrev cX4_allRoom : ByteArray := prog_6_method_8_code
def yX4_allRoom : MethodName := ⟨RX4, "allRoom", "()I"⟩
abbrev cX4_isSpot : ByteArray := prog_6_method_9_code
def yX4_isSpot : MethodName := ⟨RX4, "isSpot", "(I)Z"⟩
abbrev cX4_placeOf : ByteArray := prog_6_method_10_code
def yX4_placeOf : MethodName := ⟨RX4, "placeOf", "(I)I"⟩
abbrev cX4_hillOf : ByteArray := prog_6_method_11_code
def yX4_hillOf : MethodName := ⟨RX4, "hillOf", "(I)I"⟩
abbrev cX4_villageBy : ByteArray := prog_6_method_12_code
def yX4_villageBy : MethodName := ⟨RX4, "villageBy", "(I)I"⟩
abbrev cX4_spotOfPlace : ByteArray := prog_6_method_13_code
def yX4_spotOfPlace : MethodName := ⟨RX4, "spotOfPlace", "(I)I"⟩
def RX5 : String := "WhoBacks$Shelf"
def TX5 : u_T := fun k => match k with
  | 0 => ("WhoBacks$Shelf", "holds", "I", false)
  | 1 => ("WhoBacks$Shelf", "kind", "I", false)
  | 2 => ("WhoBacks$Shelf", "figure", "I", false)
  | 3 => ("WhoBacks$Shelf", "sort", "I", false)
  | 4 => ("WhoBacks$Shelf", "size", "I", false)
  | _ => ("WhoBacks$Shelf", "values", "[I", true)
def tyX5 : Nat → FieldType := fun k => match k with
  | 0 => .int
  | 1 => .int
  | 2 => .int
  | 3 => .int
  | 4 => .int
  | _ => .array .int
theorem nmX5 : ∀ a, a < 6 → ∀ b, b < 6 → a ≠ b → (TX5 a).2.1 ≠ (TX5 b).2.1 := by decide +kernel
theorem tyX5_ok : ∀ k, k < 6 → parseFieldDescriptor (TX5 k).2.2.1 = some (tyX5 k) := by decide +kernel
abbrev cX5_init : ByteArray := prog_7_method_1_code
def yX5_init : MethodName := ⟨RX5, "<init>", "()V"⟩
abbrev cX5_becomeRow : ByteArray := prog_7_method_2_code
def yX5_becomeRow : MethodName := ⟨RX5, "becomeRow", "(II)V"⟩
abbrev cX5_holdsBytes : ByteArray := prog_7_method_3_code
def yX5_holdsBytes : MethodName := ⟨RX5, "holdsBytes", "()Z"⟩
abbrev cX5_hasElement : ByteArray := prog_7_method_4_code
def yX5_hasElement : MethodName := ⟨RX5, "hasElement", "(I)Z"⟩
abbrev cX5_hasElements : ByteArray := prog_7_method_5_code
def yX5_hasElements : MethodName := ⟨RX5, "hasElements", "(II)Z"⟩
abbrev cX5_isWithin : ByteArray := prog_7_method_6_code
def yX5_isWithin : MethodName := ⟨RX5, "isWithin", "(II)Z"⟩
abbrev cX5_lowestBits : ByteArray := prog_7_method_7_code
def yX5_lowestBits : MethodName := ⟨RX5, "lowestBits", "(I)I"⟩
abbrev cX5_leastNumber : ByteArray := prog_7_method_8_code
def yX5_leastNumber : MethodName := ⟨RX5, "leastNumber", "()I"⟩
def RX6 : String := "WhoBacks$Traffic"
def TX6 : u_T := fun k => match k with
  | 0 => ("WhoBacks$Traffic", "road", "LWhoBacks$Road;", true)
  | 1 => ("WhoBacks$Traffic", "carts", "[LWhoBacks$Cart;", true)
  | 2 => ("WhoBacks$Traffic", "count", "I", false)
  | 3 => ("WhoBacks$Traffic", "minute", "I", false)
  | 4 => ("WhoBacks$Traffic", "still", "I", false)
  | 5 => ("WhoBacks$Traffic", "meetings", "I", false)
  | 6 => ("WhoBacks$Traffic", "stepped", "Z", false)
  | 7 => ("WhoBacks$Traffic", "on", "[I", true)
  | 8 => ("WhoBacks$Traffic", "watchedOne", "I", false)
  | 9 => ("WhoBacks$Traffic", "watchedOther", "I", false)
  | _ => ("WhoBacks$Traffic", "watchedMinute", "I", false)
def tyX6 : Nat → FieldType := fun k => match k with
  | 0 => .object "WhoBacks$Road"
  | 1 => .array (.object "WhoBacks$Cart")
  | 2 => .int
  | 3 => .int
  | 4 => .int
  | 5 => .int
  | 6 => .boolean
  | 7 => .array .int
  | 8 => .int
  | 9 => .int
  | _ => .int
theorem nmX6 : ∀ a, a < 11 → ∀ b, b < 11 → a ≠ b → (TX6 a).2.1 ≠ (TX6 b).2.1 := by decide +kernel
theorem tyX6_ok : ∀ k, k < 11 → parseFieldDescriptor (TX6 k).2.2.1 = some (tyX6 k) := by decide +kernel
abbrev cX6_init : ByteArray := prog_8_method_1_code
def yX6_init : MethodName := ⟨RX6, "<init>", "()V"⟩
abbrev cX6_copyFrom : ByteArray := prog_8_method_2_code
def yX6_copyFrom : MethodName := ⟨RX6, "copyFrom", "(LWhoBacks$Traffic;)V"⟩
abbrev cX6_addCart : ByteArray := prog_8_method_3_code
def yX6_addCart : MethodName := ⟨RX6, "addCart", "(ZIIZI)Z"⟩
abbrev cX6_cartAt : ByteArray := prog_8_method_4_code
def yX6_cartAt : MethodName := ⟨RX6, "cartAt", "(I)LWhoBacks$Cart;"⟩
abbrev cX6_watch : ByteArray := prog_8_method_5_code
def yX6_watch : MethodName := ⟨RX6, "watch", "(II)V"⟩
abbrev cX6_beginAnew : ByteArray := prog_8_method_6_code
def yX6_beginAnew : MethodName := ⟨RX6, "beginAnew", "()V"⟩
abbrev cX6_howMany : ByteArray := prog_8_method_7_code
def yX6_howMany : MethodName := ⟨RX6, "howMany", "(I)I"⟩
abbrev cX6_allBacked : ByteArray := prog_8_method_8_code
def yX6_allBacked : MethodName := ⟨RX6, "allBacked", "()I"⟩
abbrev cX6_allWaited : ByteArray := prog_8_method_9_code
def yX6_allWaited : MethodName := ⟨RX6, "allWaited", "()I"⟩
abbrev cX6_allWorth : ByteArray := prog_8_method_10_code
def yX6_allWorth : MethodName := ⟨RX6, "allWorth", "()I"⟩
abbrev cX6_stands : ByteArray := prog_8_method_11_code
def yX6_stands : MethodName := ⟨RX6, "stands", "()Z"⟩
abbrev cX6_isEnded : ByteArray := prog_8_method_12_code
def yX6_isEnded : MethodName := ⟨RX6, "isEnded", "()Z"⟩
abbrev cX6_cost : ByteArray := prog_8_method_13_code
def yX6_cost : MethodName := ⟨RX6, "cost", "()I"⟩
abbrev cX6_passMinute : ByteArray := prog_8_method_14_code
def yX6_passMinute : MethodName := ⟨RX6, "passMinute", "()V"⟩
abbrev cX6_comeOn : ByteArray := prog_8_method_15_code
def yX6_comeOn : MethodName := ⟨RX6, "comeOn", "(LWhoBacks$Cart;)V"⟩
abbrev cX6_ownEnd : ByteArray := prog_8_method_16_code
def yX6_ownEnd : MethodName := ⟨RX6, "ownEnd", "(LWhoBacks$Cart;)I"⟩
abbrev cX6_goal : ByteArray := prog_8_method_17_code
def yX6_goal : MethodName := ⟨RX6, "goal", "(LWhoBacks$Cart;)I"⟩
abbrev cX6_backUp : ByteArray := prog_8_method_18_code
def yX6_backUp : MethodName := ⟨RX6, "backUp", "(LWhoBacks$Cart;)V"⟩
abbrev cX6_letOneBehindBack : ByteArray := prog_8_method_19_code
def yX6_letOneBehindBack : MethodName := ⟨RX6, "letOneBehindBack", "(LWhoBacks$Cart;I)V"⟩
abbrev cX6_goOn : ByteArray := prog_8_method_20_code
def yX6_goOn : MethodName := ⟨RX6, "goOn", "(ILWhoBacks$Cart;)V"⟩
abbrev cX6_hasRoom : ByteArray := prog_8_method_21_code
def yX6_hasRoom : MethodName := ⟨RX6, "hasRoom", "(I)Z"⟩
abbrev cX6_step : ByteArray := prog_8_method_22_code
def yX6_step : MethodName := ⟨RX6, "step", "(LWhoBacks$Cart;I)V"⟩
abbrev cX6_pieceAhead : ByteArray := prog_8_method_23_code
def yX6_pieceAhead : MethodName := ⟨RX6, "pieceAhead", "(LWhoBacks$Cart;)I"⟩
abbrev cX6_letsIn : ByteArray := prog_8_method_24_code
def yX6_letsIn : MethodName := ⟨RX6, "letsIn", "(LWhoBacks$Cart;)Z"⟩
abbrev cX6_isHourOf : ByteArray := prog_8_method_25_code
def yX6_isHourOf : MethodName := ⟨RX6, "isHourOf", "(LWhoBacks$Cart;I)Z"⟩
abbrev cX6_isQuiet : ByteArray := prog_8_method_26_code
def yX6_isQuiet : MethodName := ⟨RX6, "isQuiet", "(LWhoBacks$Cart;II)Z"⟩
abbrev cX6_meet : ByteArray := prog_8_method_27_code
def yX6_meet : MethodName := ⟨RX6, "meet", "(ILWhoBacks$Cart;I)V"⟩
abbrev cX6_noteMeeting : ByteArray := prog_8_method_28_code
def yX6_noteMeeting : MethodName := ⟨RX6, "noteMeeting", "(II)V"⟩
abbrev cX6_backerOf : ByteArray := prog_8_method_29_code
def yX6_backerOf : MethodName := ⟨RX6, "backerOf", "(IIII)I"⟩
abbrev cX6_preference : ByteArray := prog_8_method_30_code
def yX6_preference : MethodName := ⟨RX6, "preference", "(LWhoBacks$Cart;LWhoBacks$Cart;III)I"⟩
abbrev cX6_wayBack : ByteArray := prog_8_method_31_code
def yX6_wayBack : MethodName := ⟨RX6, "wayBack", "(LWhoBacks$Cart;)I"⟩
def RX7 : String := "WhoBacks"
def TX7 : u_T := fun k => match k with
  | 0 => ("WhoBacks", "now", "LWhoBacks$Traffic;", true)
  | 1 => ("WhoBacks", "kept", "LWhoBacks$Traffic;", true)
  | 2 => ("WhoBacks", "mind", "LWhoBacks$Traffic;", true)
  | 3 => ("WhoBacks", "hasImage", "Z", false)
  | 4 => ("WhoBacks", "shelves", "[LWhoBacks$Shelf;", true)
  | 5 => ("WhoBacks", "least", "LWhoBacks$Least;", true)
  | 6 => ("WhoBacks", "reader", "LWhoBacks$Reader;", true)
  | _ => ("WhoBacks", "passing", "LWhoBacks$Passing;", true)
def tyX7 : Nat → FieldType := fun k => match k with
  | 0 => .object "WhoBacks$Traffic"
  | 1 => .object "WhoBacks$Traffic"
  | 2 => .object "WhoBacks$Traffic"
  | 3 => .boolean
  | 4 => .array (.object "WhoBacks$Shelf")
  | 5 => .object "WhoBacks$Least"
  | 6 => .object "WhoBacks$Reader"
  | _ => .object "WhoBacks$Passing"
theorem nmX7 : ∀ a, a < 8 → ∀ b, b < 8 → a ≠ b → (TX7 a).2.1 ≠ (TX7 b).2.1 := by decide +kernel
theorem tyX7_ok : ∀ k, k < 8 → parseFieldDescriptor (TX7 k).2.2.1 = some (tyX7 k) := by decide +kernel
abbrev cX7_init : ByteArray := prog_1_method_1_code
def yX7_init : MethodName := ⟨RX7, "<init>", "()V"⟩
abbrev cX7_road : ByteArray := prog_1_method_2_code
def yX7_road : MethodName := ⟨RX7, "road", "(I)I"⟩
abbrev cX7_piece : ByteArray := prog_1_method_3_code
def yX7_piece : MethodName := ⟨RX7, "piece", "(II)I"⟩
abbrev cX7_room : ByteArray := prog_1_method_4_code
def yX7_room : MethodName := ⟨RX7, "room", "(I)I"⟩
abbrev cX7_cart : ByteArray := prog_1_method_5_code
def yX7_cart : MethodName := ⟨RX7, "cart", "(II)I"⟩
abbrev cX7_backs : ByteArray := prog_1_method_6_code
def yX7_backs : MethodName := ⟨RX7, "backs", "(II)I"⟩
abbrev cX7_village : ByteArray := prog_1_method_7_code
def yX7_village : MethodName := ⟨RX7, "village", "(II)I"⟩
abbrev cX7_rule : ByteArray := prog_1_method_8_code
def yX7_rule : MethodName := ⟨RX7, "rule", "(II)I"⟩
abbrev cX7_go : ByteArray := prog_1_method_9_code
def yX7_go : MethodName := ⟨RX7, "go", "(I)I"⟩
abbrev cX7_anew : ByteArray := prog_1_method_10_code
def yX7_anew : MethodName := ⟨RX7, "anew", "()I"⟩
abbrev cX7_where : ByteArray := prog_1_method_11_code
def yX7_where : MethodName := ⟨RX7, "where", "(II)I"⟩
abbrev cX7_state : ByteArray := prog_1_method_12_code
def yX7_state : MethodName := ⟨RX7, "state", "(I)I"⟩
abbrev cX7_enters : ByteArray := prog_1_method_13_code
def yX7_enters : MethodName := ⟨RX7, "enters", "(I)I"⟩
abbrev cX7_yields : ByteArray := prog_1_method_14_code
def yX7_yields : MethodName := ⟨RX7, "yields", "(III)I"⟩
abbrev cX7_judge : ByteArray := prog_1_method_15_code
def yX7_judge : MethodName := ⟨RX7, "judge", "(II)I"⟩
abbrev cX7_run : ByteArray := prog_1_method_16_code
def yX7_run : MethodName := ⟨RX7, "run", "(II)I"⟩
abbrev cX7_ever : ByteArray := prog_1_method_17_code
def yX7_ever : MethodName := ⟨RX7, "ever", "(I)I"⟩
abbrev cX7_best : ByteArray := prog_1_method_18_code
def yX7_best : MethodName := ⟨RX7, "best", "(I)I"⟩
abbrev cX7_more : ByteArray := prog_1_method_19_code
def yX7_more : MethodName := ⟨RX7, "more", "(I)I"⟩
abbrev cX7_fit : ByteArray := prog_1_method_20_code
def yX7_fit : MethodName := ⟨RX7, "fit", "(II)I"⟩
abbrev cX7_shortest : ByteArray := prog_1_method_21_code
def yX7_shortest : MethodName := ⟨RX7, "shortest", "()I"⟩
abbrev cX7_hours : ByteArray := prog_1_method_22_code
def yX7_hours : MethodName := ⟨RX7, "hours", "(I)I"⟩
abbrev cX7_stubborn : ByteArray := prog_1_method_23_code
def yX7_stubborn : MethodName := ⟨RX7, "stubborn", "(I)I"⟩
abbrev cX7_heard : ByteArray := prog_1_method_24_code
def yX7_heard : MethodName := ⟨RX7, "heard", "(I)I"⟩
abbrev cX7_days : ByteArray := prog_1_method_25_code
def yX7_days : MethodName := ⟨RX7, "days", "(III)I"⟩
abbrev cX7_met : ByteArray := prog_1_method_26_code
def yX7_met : MethodName := ⟨RX7, "met", "(II)I"⟩
abbrev cX7_rows : ByteArray := prog_1_method_27_code
def yX7_rows : MethodName := ⟨RX7, "rows", "(IIIII)I"⟩
abbrev cX7_aside : ByteArray := prog_1_method_28_code
def yX7_aside : MethodName := ⟨RX7, "aside", "(IIII)I"⟩
abbrev cX7_image : ByteArray := prog_1_method_29_code
def yX7_image : MethodName := ⟨RX7, "image", "()I"⟩
abbrev cX7_restore : ByteArray := prog_1_method_30_code
def yX7_restore : MethodName := ⟨RX7, "restore", "()I"⟩
abbrev cX7_count : ByteArray := prog_1_method_31_code
def yX7_count : MethodName := ⟨RX7, "count", "(I)I"⟩
abbrev cX7_keep : ByteArray := prog_1_method_32_code
def yX7_keep : MethodName := ⟨RX7, "keep", "(IIII)I"⟩
abbrev cX7_row : ByteArray := prog_1_method_33_code
def yX7_row : MethodName := ⟨RX7, "row", "(III)I"⟩
abbrev cX7_put : ByteArray := prog_1_method_34_code
def yX7_put : MethodName := ⟨RX7, "put", "(III)I"⟩
abbrev cX7_element : ByteArray := prog_1_method_35_code
def yX7_element : MethodName := ⟨RX7, "element", "(II)J"⟩
abbrev cX7_copy : ByteArray := prog_1_method_36_code
def yX7_copy : MethodName := ⟨RX7, "copy", "(IIIII)I"⟩
abbrev cX7_words : ByteArray := prog_1_method_37_code
def yX7_words : MethodName := ⟨RX7, "words", "(I)I"⟩
abbrev cX7_toss : ByteArray := prog_1_method_38_code
def yX7_toss : MethodName := ⟨RX7, "toss", "(I)I"⟩
abbrev cX7_shelfAt : ByteArray := prog_1_method_39_code
def yX7_shelfAt : MethodName := ⟨RX7, "shelfAt", "(I)LWhoBacks$Shelf;"⟩
abbrev cX7_cannotRun : ByteArray := prog_1_method_40_code
def yX7_cannotRun : MethodName := ⟨RX7, "cannotRun", "()Z"⟩
abbrev cX7_costInMind : ByteArray := prog_1_method_41_code
def yX7_costInMind : MethodName := ⟨RX7, "costInMind", "()I"⟩
abbrev cX7_ruleAllInMind : ByteArray := prog_1_method_42_code
def yX7_ruleAllInMind : MethodName := ⟨RX7, "ruleAllInMind", "(II)V"⟩
abbrev cX7_areRows : ByteArray := prog_1_method_43_code
def yX7_areRows : MethodName := ⟨RX7, "areRows", "(IIII)Z"⟩
abbrev cX7_wordsOf : ByteArray := prog_1_method_44_code
def yX7_wordsOf : MethodName := ⟨RX7, "wordsOf", "(II)I"⟩
abbrev cX7_throwFailure : ByteArray := prog_1_method_45_code
def yX7_throwFailure : MethodName := ⟨RX7, "throwFailure", "(II)V"⟩
def RX8 : String := "WhoBacksModel"
def TX8 : u_T := fun k => match k with
  | 0 => ("WhoBacksModel", "s", "[I", true)
  | 1 => ("WhoBacksModel", "image", "[I", true)
  | 2 => ("WhoBacksModel", "mind", "[I", true)
  | 3 => ("WhoBacksModel", "read", "[I", true)
  | 4 => ("WhoBacksModel", "kept", "[I", true)
  | 5 => ("WhoBacksModel", "sort", "[I", true)
  | 6 => ("WhoBacksModel", "size", "[I", true)
  | 7 => ("WhoBacksModel", "element", "[I", true)
  | 8 => ("WhoBacksModel", "keptKind", "[I", true)
  | 9 => ("WhoBacksModel", "keptFigure", "[I", true)
  | 10 => ("WhoBacksModel", "hasImage", "Z", false)
  | 11 => ("WhoBacksModel", "thrown", "I", false)
  | 12 => ("WhoBacksModel", "pos", "I", false)
  | 13 => ("WhoBacksModel", "base", "I", false)
  | 14 => ("WhoBacksModel", "end", "I", false)
  | 15 => ("WhoBacksModel", "told", "I", false)
  | 16 => ("WhoBacksModel", "numbers", "[I", true)
  | 17 => ("WhoBacksModel", "asked", "I", false)
  | 18 => ("WhoBacksModel", "otherAsked", "I", false)
  | 19 => ("WhoBacksModel", "firstMet", "I", false)
  | 20 => ("WhoBacksModel", "stepped", "Z", false)
  | 21 => ("WhoBacksModel", "far", "[I", true)
  | 22 => ("WhoBacksModel", "queue", "[I", true)
  | _ => ("WhoBacksModel", "queued", "I", false)
def tyX8 : Nat → FieldType := fun k => match k with
  | 0 => .array .int
  | 1 => .array .int
  | 2 => .array .int
  | 3 => .array .int
  | 4 => .array .int
  | 5 => .array .int
  | 6 => .array .int
  | 7 => .array .int
  | 8 => .array .int
  | 9 => .array .int
  | 10 => .boolean
  | 11 => .int
  | 12 => .int
  | 13 => .int
  | 14 => .int
  | 15 => .int
  | 16 => .array .int
  | 17 => .int
  | 18 => .int
  | 19 => .int
  | 20 => .boolean
  | 21 => .array .int
  | 22 => .array .int
  | _ => .int
theorem nmX8 : ∀ a, a < 24 → ∀ b, b < 24 → a ≠ b → (TX8 a).2.1 ≠ (TX8 b).2.1 := by decide +kernel
theorem tyX8_ok : ∀ k, k < 24 → parseFieldDescriptor (TX8 k).2.2.1 = some (tyX8 k) := by decide +kernel
abbrev cX8_init : ByteArray := prog_10_method_1_code
def yX8_init : MethodName := ⟨RX8, "<init>", "()V"⟩
abbrev cX8_isIn : ByteArray := prog_10_method_3_code
def yX8_isIn : MethodName := ⟨RX8, "isIn", "(JJJ)Z"⟩
abbrev cX8_isPiece : ByteArray := prog_10_method_4_code
def yX8_isPiece : MethodName := ⟨RX8, "isPiece", "(I)Z"⟩
abbrev cX8_isCart : ByteArray := prog_10_method_5_code
def yX8_isCart : MethodName := ⟨RX8, "isCart", "(I)Z"⟩
abbrev cX8_isShelf : ByteArray := prog_10_method_6_code
def yX8_isShelf : MethodName := ⟨RX8, "isShelf", "(I)Z"⟩
abbrev cX8_isVillage : ByteArray := prog_10_method_7_code
def yX8_isVillage : MethodName := ⟨RX8, "isVillage", "(I)Z"⟩
abbrev cX8_get : ByteArray := prog_10_method_8_code
def yX8_get : MethodName := ⟨RX8, "get", "([III)I"⟩
abbrev cX8_puts : ByteArray := prog_10_method_9_code
def yX8_puts : MethodName := ⟨RX8, "puts", "([IIII)V"⟩
abbrev cX8_here : ByteArray := prog_10_method_11_code
def yX8_here : MethodName := ⟨RX8, "here", "()I"⟩
abbrev cX8_isDigit : ByteArray := prog_10_method_12_code
def yX8_isDigit : MethodName := ⟨RX8, "isDigit", "()Z"⟩
abbrev cX8_takes : ByteArray := prog_10_method_13_code
def yX8_takes : MethodName := ⟨RX8, "takes", "(I)Z"⟩
abbrev cX8_readsDigit : ByteArray := prog_10_method_14_code
def yX8_readsDigit : MethodName := ⟨RX8, "readsDigit", "()Z"⟩
abbrev cX8_readsNumber : ByteArray := prog_10_method_15_code
def yX8_readsNumber : MethodName := ⟨RX8, "readsNumber", "()Z"⟩
abbrev cX8_readsStatement : ByteArray := prog_10_method_16_code
def yX8_readsStatement : MethodName := ⟨RX8, "readsStatement", "()Z"⟩
abbrev cX8_comes : ByteArray := prog_10_method_17_code
def yX8_comes : MethodName := ⟨RX8, "comes", "(I)Z"⟩
abbrev cX8_begins : ByteArray := prog_10_method_18_code
def yX8_begins : MethodName := ⟨RX8, "begins", "([II)V"⟩
abbrev cX8_wrongRow : ByteArray := prog_10_method_19_code
def yX8_wrongRow : MethodName := ⟨RX8, "wrongRow", "(II)I"⟩
abbrev cX8_road : ByteArray := prog_10_method_20_code
def yX8_road : MethodName := ⟨RX8, "road", "(I)I"⟩
abbrev cX8_spotOf : ByteArray := prog_10_method_21_code
def yX8_spotOf : MethodName := ⟨RX8, "spotOf", "([II)I"⟩
abbrev cX8_endOf : ByteArray := prog_10_method_22_code
def yX8_endOf : MethodName := ⟨RX8, "endOf", "([I)I"⟩
abbrev cX8_piece : ByteArray := prog_10_method_23_code
def yX8_piece : MethodName := ⟨RX8, "piece", "(II)I"⟩
abbrev cX8_room : ByteArray := prog_10_method_24_code
def yX8_room : MethodName := ⟨RX8, "room", "(I)I"⟩
abbrev cX8_cart : ByteArray := prog_10_method_25_code
def yX8_cart : MethodName := ⟨RX8, "cart", "(II)I"⟩
abbrev cX8_backs : ByteArray := prog_10_method_26_code
def yX8_backs : MethodName := ⟨RX8, "backs", "(II)I"⟩
abbrev cX8_village : ByteArray := prog_10_method_27_code
def yX8_village : MethodName := ⟨RX8, "village", "(II)I"⟩
abbrev cX8_wrongRule : ByteArray := prog_10_method_28_code
def yX8_wrongRule : MethodName := ⟨RX8, "wrongRule", "(I)I"⟩
abbrev cX8_rule : ByteArray := prog_10_method_29_code
def yX8_rule : MethodName := ⟨RX8, "rule", "(II)I"⟩
abbrev cX8_placeAt : ByteArray := prog_10_method_30_code
def yX8_placeAt : MethodName := ⟨RX8, "placeAt", "([II)I"⟩
abbrev cX8_isOn : ByteArray := prog_10_method_31_code
def yX8_isOn : MethodName := ⟨RX8, "isOn", "([II)Z"⟩
abbrev cX8_goal : ByteArray := prog_10_method_32_code
def yX8_goal : MethodName := ⟨RX8, "goal", "([II)I"⟩
abbrev cX8_origin : ByteArray := prog_10_method_33_code
def yX8_origin : MethodName := ⟨RX8, "origin", "([II)I"⟩
abbrev cX8_cartsAt : ByteArray := prog_10_method_34_code
def yX8_cartsAt : MethodName := ⟨RX8, "cartsAt", "([II)I"⟩
abbrev cX8_hasRoom : ByteArray := prog_10_method_35_code
def yX8_hasRoom : MethodName := ⟨RX8, "hasRoom", "([II)Z"⟩
abbrev cX8_pieceFrom : ByteArray := prog_10_method_36_code
def yX8_pieceFrom : MethodName := ⟨RX8, "pieceFrom", "([III)I"⟩
abbrev cX8_kindOf : ByteArray := prog_10_method_37_code
def yX8_kindOf : MethodName := ⟨RX8, "kindOf", "([II)I"⟩
abbrev cX8_entersBy : ByteArray := prog_10_method_38_code
def yX8_entersBy : MethodName := ⟨RX8, "entersBy", "([III)Z"⟩
abbrev cX8_behind : ByteArray := prog_10_method_39_code
def yX8_behind : MethodName := ⟨RX8, "behind", "([II)I"⟩
abbrev cX8_falls : ByteArray := prog_10_method_40_code
def yX8_falls : MethodName := ⟨RX8, "falls", "([III)I"⟩
abbrev cX8_toldBy : ByteArray := prog_10_method_41_code
def yX8_toldBy : MethodName := ⟨RX8, "toldBy", "([IIIII)I"⟩
abbrev cX8_backsOf : ByteArray := prog_10_method_42_code
def yX8_backsOf : MethodName := ⟨RX8, "backsOf", "([IIIII)I"⟩
abbrev cX8_backs_ : ByteArray := prog_10_method_43_code
def yX8_backs_ : MethodName := ⟨RX8, "backs", "([II)V"⟩
abbrev cX8_goesBack : ByteArray := prog_10_method_44_code
def yX8_goesBack : MethodName := ⟨RX8, "goesBack", "([II)V"⟩
abbrev cX8_goesOn : ByteArray := prog_10_method_45_code
def yX8_goesOn : MethodName := ⟨RX8, "goesOn", "([II)V"⟩
abbrev cX8_acts : ByteArray := prog_10_method_46_code
def yX8_acts : MethodName := ⟨RX8, "acts", "([II)V"⟩
abbrev cX8_minute : ByteArray := prog_10_method_47_code
def yX8_minute : MethodName := ⟨RX8, "minute", "([I)V"⟩
abbrev cX8_doneOf : ByteArray := prog_10_method_48_code
def yX8_doneOf : MethodName := ⟨RX8, "doneOf", "([I)I"⟩
abbrev cX8_stands : ByteArray := prog_10_method_49_code
def yX8_stands : MethodName := ⟨RX8, "stands", "([I)Z"⟩
abbrev cX8_isEnded : ByteArray := prog_10_method_50_code
def yX8_isEnded : MethodName := ⟨RX8, "isEnded", "([I)Z"⟩
abbrev cX8_isEmpty : ByteArray := prog_10_method_51_code
def yX8_isEmpty : MethodName := ⟨RX8, "isEmpty", "()Z"⟩
abbrev cX8_go : ByteArray := prog_10_method_52_code
def yX8_go : MethodName := ⟨RX8, "go", "(I)I"⟩
abbrev cX8_anews : ByteArray := prog_10_method_53_code
def yX8_anews : MethodName := ⟨RX8, "anews", "([I)V"⟩
abbrev cX8_anew : ByteArray := prog_10_method_54_code
def yX8_anew : MethodName := ⟨RX8, "anew", "()I"⟩
abbrev cX8_where : ByteArray := prog_10_method_55_code
def yX8_where : MethodName := ⟨RX8, "where", "(II)I"⟩
abbrev cX8_allOf : ByteArray := prog_10_method_56_code
def yX8_allOf : MethodName := ⟨RX8, "allOf", "([II)I"⟩
abbrev cX8_state : ByteArray := prog_10_method_57_code
def yX8_state : MethodName := ⟨RX8, "state", "(I)I"⟩
abbrev cX8_enters : ByteArray := prog_10_method_58_code
def yX8_enters : MethodName := ⟨RX8, "enters", "(I)I"⟩
abbrev cX8_yields : ByteArray := prog_10_method_59_code
def yX8_yields : MethodName := ⟨RX8, "yields", "(III)I"⟩
abbrev cX8_leastOf : ByteArray := prog_10_method_60_code
def yX8_leastOf : MethodName := ⟨RX8, "leastOf", "(I)I"⟩
abbrev cX8_judge : ByteArray := prog_10_method_61_code
def yX8_judge : MethodName := ⟨RX8, "judge", "(II)I"⟩
abbrev cX8_opens : ByteArray := prog_10_method_62_code
def yX8_opens : MethodName := ⟨RX8, "opens", "()V"⟩
abbrev cX8_allBy : ByteArray := prog_10_method_63_code
def yX8_allBy : MethodName := ⟨RX8, "allBy", "(II)V"⟩
abbrev cX8_costs : ByteArray := prog_10_method_64_code
def yX8_costs : MethodName := ⟨RX8, "costs", "()I"⟩
abbrev cX8_run : ByteArray := prog_10_method_65_code
def yX8_run : MethodName := ⟨RX8, "run", "(II)I"⟩
abbrev cX8_ever : ByteArray := prog_10_method_66_code
def yX8_ever : MethodName := ⟨RX8, "ever", "(I)I"⟩
abbrev cX8_best : ByteArray := prog_10_method_67_code
def yX8_best : MethodName := ⟨RX8, "best", "(I)I"⟩
abbrev cX8_more : ByteArray := prog_10_method_68_code
def yX8_more : MethodName := ⟨RX8, "more", "(I)I"⟩
abbrev cX8_costBy : ByteArray := prog_10_method_69_code
def yX8_costBy : MethodName := ⟨RX8, "costBy", "(II)I"⟩
abbrev cX8_fit : ByteArray := prog_10_method_70_code
def yX8_fit : MethodName := ⟨RX8, "fit", "(II)I"⟩
abbrev cX8_wordsBy : ByteArray := prog_10_method_71_code
def yX8_wordsBy : MethodName := ⟨RX8, "wordsBy", "(II)I"⟩
abbrev cX8_shortest : ByteArray := prog_10_method_72_code
def yX8_shortest : MethodName := ⟨RX8, "shortest", "()I"⟩
abbrev cX8_hours : ByteArray := prog_10_method_73_code
def yX8_hours : MethodName := ⟨RX8, "hours", "(I)I"⟩
abbrev cX8_stubborn : ByteArray := prog_10_method_74_code
def yX8_stubborn : MethodName := ⟨RX8, "stubborn", "(I)I"⟩
abbrev cX8_heard : ByteArray := prog_10_method_75_code
def yX8_heard : MethodName := ⟨RX8, "heard", "(I)I"⟩
abbrev cX8_days : ByteArray := prog_10_method_76_code
def yX8_days : MethodName := ⟨RX8, "days", "(III)I"⟩
abbrev cX8_met : ByteArray := prog_10_method_77_code
def yX8_met : MethodName := ⟨RX8, "met", "(II)I"⟩
abbrev cX8_manyOf : ByteArray := prog_10_method_78_code
def yX8_manyOf : MethodName := ⟨RX8, "manyOf", "(I)I"⟩
abbrev cX8_reaches : ByteArray := prog_10_method_79_code
def yX8_reaches : MethodName := ⟨RX8, "reaches", "(IIIII)V"⟩
abbrev cX8_rowsOf : ByteArray := prog_10_method_80_code
def yX8_rowsOf : MethodName := ⟨RX8, "rowsOf", "(IIIII)I"⟩
abbrev cX8_isRows : ByteArray := prog_10_method_81_code
def yX8_isRows : MethodName := ⟨RX8, "isRows", "(IIII)Z"⟩
abbrev cX8_rows : ByteArray := prog_10_method_82_code
def yX8_rows : MethodName := ⟨RX8, "rows", "(IIIII)I"⟩
abbrev cX8_aside : ByteArray := prog_10_method_83_code
def yX8_aside : MethodName := ⟨RX8, "aside", "(IIII)I"⟩
abbrev cX8_image : ByteArray := prog_10_method_84_code
def yX8_image : MethodName := ⟨RX8, "image", "()I"⟩
abbrev cX8_restore : ByteArray := prog_10_method_85_code
def yX8_restore : MethodName := ⟨RX8, "restore", "()I"⟩
abbrev cX8_count : ByteArray := prog_10_method_86_code
def yX8_count : MethodName := ⟨RX8, "count", "(I)I"⟩
abbrev cX8_keep : ByteArray := prog_10_method_87_code
def yX8_keep : MethodName := ⟨RX8, "keep", "(IIII)I"⟩
abbrev cX8_row : ByteArray := prog_10_method_88_code
def yX8_row : MethodName := ⟨RX8, "row", "(III)I"⟩
abbrev cX8_put : ByteArray := prog_10_method_89_code
def yX8_put : MethodName := ⟨RX8, "put", "(III)I"⟩
abbrev cX8_element : ByteArray := prog_10_method_90_code
def yX8_element : MethodName := ⟨RX8, "element", "(II)J"⟩
abbrev cX8_copy : ByteArray := prog_10_method_91_code
def yX8_copy : MethodName := ⟨RX8, "copy", "(IIIII)I"⟩
abbrev cX8_words : ByteArray := prog_10_method_92_code
def yX8_words : MethodName := ⟨RX8, "words", "(I)I"⟩
abbrev cX8_toss : ByteArray := prog_10_method_93_code
def yX8_toss : MethodName := ⟨RX8, "toss", "(I)I"⟩
def RJ6 : String := "java/lang/Integer"
def TJ6 : u_T := fun k => match k with
  | _ => ("", "", "", false)
def tyJ6 : Nat → FieldType := fun k => match k with
  | _ => .int
theorem nmJ6 : ∀ a, a < 0 → ∀ b, b < 0 → a ≠ b → (TJ6 a).2.1 ≠ (TJ6 b).2.1 := by decide +kernel
theorem tyJ6_ok : ∀ k, k < 0 → parseFieldDescriptor (TJ6 k).2.2.1 = some (tyJ6 k) := by decide +kernel
abbrev cJ6_bitCount_0f7a4 : ByteArray := prog_14_method_49_code
def yJ6_bitCount_0f7a4 : MethodName := ⟨RJ6, "bitCount", "(I)I"⟩
def RJ9 : String := "java/lang/Math"
def TJ9 : u_T := fun k => match k with
  | _ => ("", "", "", false)
def tyJ9 : Nat → FieldType := fun k => match k with
  | _ => .int
theorem nmJ9 : ∀ a, a < 0 → ∀ b, b < 0 → a ≠ b → (TJ9 a).2.1 ≠ (TJ9 b).2.1 := by decide +kernel
theorem tyJ9_ok : ∀ k, k < 0 → parseFieldDescriptor (TJ9 k).2.2.1 = some (tyJ9 k) := by decide +kernel
abbrev cJ9_max_7cf53 : ByteArray := prog_15_method_65_code
def yJ9_max_7cf53 : MethodName := ⟨RJ9, "max", "(II)I"⟩
abbrev cJ9_min_7cf53 : ByteArray := prog_15_method_69_code
def yJ9_min_7cf53 : MethodName := ⟨RJ9, "min", "(II)I"⟩
def RJ0 : String := "java/lang/String"
def TJ0 : u_T := fun k => match k with
  | _ => ("", "", "", false)
def tyJ0 : Nat → FieldType := fun k => match k with
  | _ => .int
theorem nmJ0 : ∀ a, a < 0 → ∀ b, b < 0 → a ≠ b → (TJ0 a).2.1 ≠ (TJ0 b).2.1 := by decide +kernel
theorem tyJ0_ok : ∀ k, k < 0 → parseFieldDescriptor (TJ0 k).2.2.1 = some (tyJ0 k) := by decide +kernel
def RJ10 : String := "java/lang/System"
def TJ10 : u_T := fun k => match k with
  | _ => ("", "", "", false)
def tyJ10 : Nat → FieldType := fun k => match k with
  | _ => .int
theorem nmJ10 : ∀ a, a < 0 → ∀ b, b < 0 → a ≠ b → (TJ10 a).2.1 ≠ (TJ10 b).2.1 := by decide +kernel
theorem tyJ10_ok : ∀ k, k < 0 → parseFieldDescriptor (TJ10 k).2.2.1 = some (tyJ10 k) := by decide +kernel
def RL : String := "WhoBacksLaw"
abbrev cL_element : ByteArray := method_3_code
def yL_element : MethodName := ⟨RL, "element", "(LWhoBacks;II[J)I"⟩
abbrev cL_law : ByteArray := code
def yL_law : MethodName := ⟨RL, "law", "([I)Z"⟩
abbrev vwCl : List vw_C := [(RX0, TX0, 12), (RX1, TX1, 2), (RX2, TX2, 8), (RX3, TX3, 8), (RX4, TX4, 13), (RX5, TX5, 6), (RX6, TX6, 11), (RX7, TX7, 8), (RX8, TX8, 24)]
