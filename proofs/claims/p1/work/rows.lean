section
-- ===== PART A: goes FIRST, ahead of the names: the tables' words, and 'selects' of the private methods out of them =====
/-- a private method of a class that the tables say can be made, by its rows of tables_1 -/
def lw_okq (q : MethodName × Nat) : Prop := (q.1.cls ≠ "java/lang/invoke/MethodHandle" ∧ q.1.cls ≠ "java/lang/invoke/VarHandle") ∧ Cond.instantiable q.1.cls q.2 ∈ tables_1 ∧ Cond.privateMethod q.1 ∈ tables_1 ∧ Cond.instanceMethod q.1 ∈ tables_1
theorem lw_p0 : lw_okq (⟨"WhoBacks", "shelfAt", "(I)LWhoBacks$Shelf;"⟩, 8) := ⟨⟨by decide +kernel, by decide +kernel⟩, List.mem_of_getElem? (i := 20) (by decide +kernel), List.mem_of_getElem? (i := 347) (by decide +kernel), List.mem_of_getElem? (i := 348) (by decide +kernel)⟩
theorem lw_p1 : lw_okq (⟨"WhoBacks$Reader", "readStatement", "()V"⟩, 8) := ⟨⟨by decide +kernel, by decide +kernel⟩, List.mem_of_getElem? (i := 224) (by decide +kernel), List.mem_of_getElem? (i := 375) (by decide +kernel), List.mem_of_getElem? (i := 376) (by decide +kernel)⟩
theorem lw_p2 : lw_okq (⟨"WhoBacks$Reader", "next", "()I"⟩, 8) := ⟨⟨by decide +kernel, by decide +kernel⟩, List.mem_of_getElem? (i := 224) (by decide +kernel), List.mem_of_getElem? (i := 379) (by decide +kernel), List.mem_of_getElem? (i := 380) (by decide +kernel)⟩
theorem lw_p3 : lw_okq (⟨"WhoBacks$Reader", "readPiece", "()V"⟩, 8) := ⟨⟨by decide +kernel, by decide +kernel⟩, List.mem_of_getElem? (i := 224) (by decide +kernel), List.mem_of_getElem? (i := 383) (by decide +kernel), List.mem_of_getElem? (i := 384) (by decide +kernel)⟩
theorem lw_p4 : lw_okq (⟨"WhoBacks$Reader", "digit", "()I"⟩, 8) := ⟨⟨by decide +kernel, by decide +kernel⟩, List.mem_of_getElem? (i := 224) (by decide +kernel), List.mem_of_getElem? (i := 387) (by decide +kernel), List.mem_of_getElem? (i := 388) (by decide +kernel)⟩
theorem lw_p5 : lw_okq (⟨"WhoBacks$Reader", "skips", "(I)Z"⟩, 8) := ⟨⟨by decide +kernel, by decide +kernel⟩, List.mem_of_getElem? (i := 224) (by decide +kernel), List.mem_of_getElem? (i := 391) (by decide +kernel), List.mem_of_getElem? (i := 392) (by decide +kernel)⟩
theorem lw_p6 : lw_okq (⟨"WhoBacks$Reader", "readPair", "()V"⟩, 8) := ⟨⟨by decide +kernel, by decide +kernel⟩, List.mem_of_getElem? (i := 224) (by decide +kernel), List.mem_of_getElem? (i := 395) (by decide +kernel), List.mem_of_getElem? (i := 396) (by decide +kernel)⟩
theorem lw_p7 : lw_okq (⟨"WhoBacks$Reader", "want", "(I)V"⟩, 8) := ⟨⟨by decide +kernel, by decide +kernel⟩, List.mem_of_getElem? (i := 224) (by decide +kernel), List.mem_of_getElem? (i := 399) (by decide +kernel), List.mem_of_getElem? (i := 400) (by decide +kernel)⟩
theorem lw_p8 : lw_okq (⟨"WhoBacks$Reader", "readCart", "()V"⟩, 8) := ⟨⟨by decide +kernel, by decide +kernel⟩, List.mem_of_getElem? (i := 224) (by decide +kernel), List.mem_of_getElem? (i := 403) (by decide +kernel), List.mem_of_getElem? (i := 404) (by decide +kernel)⟩
theorem lw_p9 : lw_okq (⟨"WhoBacks$Reader", "number", "()I"⟩, 8) := ⟨⟨by decide +kernel, by decide +kernel⟩, List.mem_of_getElem? (i := 224) (by decide +kernel), List.mem_of_getElem? (i := 407) (by decide +kernel), List.mem_of_getElem? (i := 408) (by decide +kernel)⟩
theorem lw_p10 : lw_okq (⟨"WhoBacks$Reader", "hasDigit", "()Z"⟩, 8) := ⟨⟨by decide +kernel, by decide +kernel⟩, List.mem_of_getElem? (i := 224) (by decide +kernel), List.mem_of_getElem? (i := 411) (by decide +kernel), List.mem_of_getElem? (i := 412) (by decide +kernel)⟩
theorem lw_p11 : lw_okq (⟨"WhoBacks$Reader", "fulfil", "(LWhoBacks$Traffic;)Z"⟩, 8) := ⟨⟨by decide +kernel, by decide +kernel⟩, List.mem_of_getElem? (i := 224) (by decide +kernel), List.mem_of_getElem? (i := 415) (by decide +kernel), List.mem_of_getElem? (i := 416) (by decide +kernel)⟩
theorem lw_p12 : lw_okq (⟨"WhoBacks", "cannotRun", "()Z"⟩, 8) := ⟨⟨by decide +kernel, by decide +kernel⟩, List.mem_of_getElem? (i := 20) (by decide +kernel), List.mem_of_getElem? (i := 484) (by decide +kernel), List.mem_of_getElem? (i := 485) (by decide +kernel)⟩
theorem lw_p13 : lw_okq (⟨"WhoBacks$Traffic", "comeOn", "(LWhoBacks$Cart;)V"⟩, 11) := ⟨⟨by decide +kernel, by decide +kernel⟩, List.mem_of_getElem? (i := 28) (by decide +kernel), List.mem_of_getElem? (i := 504) (by decide +kernel), List.mem_of_getElem? (i := 505) (by decide +kernel)⟩
theorem lw_p14 : lw_okq (⟨"WhoBacks$Traffic", "ownEnd", "(LWhoBacks$Cart;)I"⟩, 11) := ⟨⟨by decide +kernel, by decide +kernel⟩, List.mem_of_getElem? (i := 28) (by decide +kernel), List.mem_of_getElem? (i := 508) (by decide +kernel), List.mem_of_getElem? (i := 509) (by decide +kernel)⟩
theorem lw_p15 : lw_okq (⟨"WhoBacks$Traffic", "backUp", "(LWhoBacks$Cart;)V"⟩, 11) := ⟨⟨by decide +kernel, by decide +kernel⟩, List.mem_of_getElem? (i := 28) (by decide +kernel), List.mem_of_getElem? (i := 516) (by decide +kernel), List.mem_of_getElem? (i := 517) (by decide +kernel)⟩
def lw_privs_1 : List (MethodName × Nat) := [(⟨"WhoBacks", "shelfAt", "(I)LWhoBacks$Shelf;"⟩, 8), (⟨"WhoBacks$Reader", "readStatement", "()V"⟩, 8), (⟨"WhoBacks$Reader", "next", "()I"⟩, 8), (⟨"WhoBacks$Reader", "readPiece", "()V"⟩, 8), (⟨"WhoBacks$Reader", "digit", "()I"⟩, 8), (⟨"WhoBacks$Reader", "skips", "(I)Z"⟩, 8), (⟨"WhoBacks$Reader", "readPair", "()V"⟩, 8), (⟨"WhoBacks$Reader", "want", "(I)V"⟩, 8), (⟨"WhoBacks$Reader", "readCart", "()V"⟩, 8), (⟨"WhoBacks$Reader", "number", "()I"⟩, 8), (⟨"WhoBacks$Reader", "hasDigit", "()Z"⟩, 8), (⟨"WhoBacks$Reader", "fulfil", "(LWhoBacks$Traffic;)Z"⟩, 8), (⟨"WhoBacks", "cannotRun", "()Z"⟩, 8), (⟨"WhoBacks$Traffic", "comeOn", "(LWhoBacks$Cart;)V"⟩, 11), (⟨"WhoBacks$Traffic", "ownEnd", "(LWhoBacks$Cart;)I"⟩, 11), (⟨"WhoBacks$Traffic", "backUp", "(LWhoBacks$Cart;)V"⟩, 11)]
theorem lw_r1 : ∀ q ∈ lw_privs_1, lw_okq q := List.forall_mem_cons.mpr ⟨lw_p0, List.forall_mem_cons.mpr ⟨lw_p1, List.forall_mem_cons.mpr ⟨lw_p2, List.forall_mem_cons.mpr ⟨lw_p3, List.forall_mem_cons.mpr ⟨lw_p4, List.forall_mem_cons.mpr ⟨lw_p5, List.forall_mem_cons.mpr ⟨lw_p6, List.forall_mem_cons.mpr ⟨lw_p7, List.forall_mem_cons.mpr ⟨lw_p8, List.forall_mem_cons.mpr ⟨lw_p9, List.forall_mem_cons.mpr ⟨lw_p10, List.forall_mem_cons.mpr ⟨lw_p11, List.forall_mem_cons.mpr ⟨lw_p12, List.forall_mem_cons.mpr ⟨lw_p13, List.forall_mem_cons.mpr ⟨lw_p14, List.forall_mem_cons.mpr ⟨lw_p15, fun _ h => absurd h List.not_mem_nil⟩⟩⟩⟩⟩⟩⟩⟩⟩⟩⟩⟩⟩⟩⟩⟩
theorem lw_p16 : lw_okq (⟨"WhoBacks$Traffic", "hasRoom", "(I)Z"⟩, 11) := ⟨⟨by decide +kernel, by decide +kernel⟩, List.mem_of_getElem? (i := 28) (by decide +kernel), List.mem_of_getElem? (i := 529) (by decide +kernel), List.mem_of_getElem? (i := 530) (by decide +kernel)⟩
theorem lw_p17 : lw_okq (⟨"WhoBacks$Traffic", "step", "(LWhoBacks$Cart;I)V"⟩, 11) := ⟨⟨by decide +kernel, by decide +kernel⟩, List.mem_of_getElem? (i := 28) (by decide +kernel), List.mem_of_getElem? (i := 534) (by decide +kernel), List.mem_of_getElem? (i := 535) (by decide +kernel)⟩
theorem lw_p18 : lw_okq (⟨"WhoBacks$Traffic", "letOneBehindBack", "(LWhoBacks$Cart;I)V"⟩, 11) := ⟨⟨by decide +kernel, by decide +kernel⟩, List.mem_of_getElem? (i := 28) (by decide +kernel), List.mem_of_getElem? (i := 538) (by decide +kernel), List.mem_of_getElem? (i := 539) (by decide +kernel)⟩
theorem lw_p19 : lw_okq (⟨"WhoBacks$Traffic", "goOn", "(ILWhoBacks$Cart;)V"⟩, 11) := ⟨⟨by decide +kernel, by decide +kernel⟩, List.mem_of_getElem? (i := 28) (by decide +kernel), List.mem_of_getElem? (i := 546) (by decide +kernel), List.mem_of_getElem? (i := 547) (by decide +kernel)⟩
theorem lw_p20 : lw_okq (⟨"WhoBacks$Traffic", "isHourOf", "(LWhoBacks$Cart;I)Z"⟩, 11) := ⟨⟨by decide +kernel, by decide +kernel⟩, List.mem_of_getElem? (i := 28) (by decide +kernel), List.mem_of_getElem? (i := 562) (by decide +kernel), List.mem_of_getElem? (i := 563) (by decide +kernel)⟩
theorem lw_p21 : lw_okq (⟨"WhoBacks$Traffic", "isQuiet", "(LWhoBacks$Cart;II)Z"⟩, 11) := ⟨⟨by decide +kernel, by decide +kernel⟩, List.mem_of_getElem? (i := 28) (by decide +kernel), List.mem_of_getElem? (i := 569) (by decide +kernel), List.mem_of_getElem? (i := 570) (by decide +kernel)⟩
theorem lw_p22 : lw_okq (⟨"WhoBacks$Traffic", "meet", "(ILWhoBacks$Cart;I)V"⟩, 11) := ⟨⟨by decide +kernel, by decide +kernel⟩, List.mem_of_getElem? (i := 28) (by decide +kernel), List.mem_of_getElem? (i := 581) (by decide +kernel), List.mem_of_getElem? (i := 582) (by decide +kernel)⟩
theorem lw_p23 : lw_okq (⟨"WhoBacks$Traffic", "noteMeeting", "(II)V"⟩, 11) := ⟨⟨by decide +kernel, by decide +kernel⟩, List.mem_of_getElem? (i := 28) (by decide +kernel), List.mem_of_getElem? (i := 585) (by decide +kernel), List.mem_of_getElem? (i := 586) (by decide +kernel)⟩
theorem lw_p24 : lw_okq (⟨"WhoBacks$Traffic", "wayBack", "(LWhoBacks$Cart;)I"⟩, 11) := ⟨⟨by decide +kernel, by decide +kernel⟩, List.mem_of_getElem? (i := 28) (by decide +kernel), List.mem_of_getElem? (i := 598) (by decide +kernel), List.mem_of_getElem? (i := 599) (by decide +kernel)⟩
theorem lw_p25 : lw_okq (⟨"WhoBacks$Traffic", "goal", "(LWhoBacks$Cart;)I"⟩, 11) := ⟨⟨by decide +kernel, by decide +kernel⟩, List.mem_of_getElem? (i := 28) (by decide +kernel), List.mem_of_getElem? (i := 609) (by decide +kernel), List.mem_of_getElem? (i := 610) (by decide +kernel)⟩
theorem lw_p26 : lw_okq (⟨"WhoBacks", "costInMind", "()I"⟩, 8) := ⟨⟨by decide +kernel, by decide +kernel⟩, List.mem_of_getElem? (i := 20) (by decide +kernel), List.mem_of_getElem? (i := 670) (by decide +kernel), List.mem_of_getElem? (i := 671) (by decide +kernel)⟩
theorem lw_p27 : lw_okq (⟨"WhoBacks", "ruleAllInMind", "(II)V"⟩, 8) := ⟨⟨by decide +kernel, by decide +kernel⟩, List.mem_of_getElem? (i := 20) (by decide +kernel), List.mem_of_getElem? (i := 705) (by decide +kernel), List.mem_of_getElem? (i := 706) (by decide +kernel)⟩
theorem lw_p28 : lw_okq (⟨"WhoBacks$Passing", "reach", "(III)V"⟩, 8) := ⟨⟨by decide +kernel, by decide +kernel⟩, List.mem_of_getElem? (i := 286) (by decide +kernel), List.mem_of_getElem? (i := 754) (by decide +kernel), List.mem_of_getElem? (i := 755) (by decide +kernel)⟩
theorem lw_p29 : lw_okq (⟨"WhoBacks$Passing", "tryMoves", "(II)V"⟩, 8) := ⟨⟨by decide +kernel, by decide +kernel⟩, List.mem_of_getElem? (i := 286) (by decide +kernel), List.mem_of_getElem? (i := 758) (by decide +kernel), List.mem_of_getElem? (i := 759) (by decide +kernel)⟩
theorem lw_p30 : lw_okq (⟨"WhoBacks$Passing", "comeBack", "(IIII)V"⟩, 8) := ⟨⟨by decide +kernel, by decide +kernel⟩, List.mem_of_getElem? (i := 286) (by decide +kernel), List.mem_of_getElem? (i := 774) (by decide +kernel), List.mem_of_getElem? (i := 775) (by decide +kernel)⟩
theorem lw_p31 : lw_okq (⟨"java/lang/Throwable", "fillInStackTrace", "(I)Ljava/lang/Throwable;"⟩, 6) := ⟨⟨by decide +kernel, by decide +kernel⟩, List.mem_of_getElem? (i := 886) (by decide +kernel), List.mem_of_getElem? (i := 884) (by decide +kernel), List.mem_of_getElem? (i := 885) (by decide +kernel)⟩
def lw_privs_2 : List (MethodName × Nat) := [(⟨"WhoBacks$Traffic", "hasRoom", "(I)Z"⟩, 11), (⟨"WhoBacks$Traffic", "step", "(LWhoBacks$Cart;I)V"⟩, 11), (⟨"WhoBacks$Traffic", "letOneBehindBack", "(LWhoBacks$Cart;I)V"⟩, 11), (⟨"WhoBacks$Traffic", "goOn", "(ILWhoBacks$Cart;)V"⟩, 11), (⟨"WhoBacks$Traffic", "isHourOf", "(LWhoBacks$Cart;I)Z"⟩, 11), (⟨"WhoBacks$Traffic", "isQuiet", "(LWhoBacks$Cart;II)Z"⟩, 11), (⟨"WhoBacks$Traffic", "meet", "(ILWhoBacks$Cart;I)V"⟩, 11), (⟨"WhoBacks$Traffic", "noteMeeting", "(II)V"⟩, 11), (⟨"WhoBacks$Traffic", "wayBack", "(LWhoBacks$Cart;)I"⟩, 11), (⟨"WhoBacks$Traffic", "goal", "(LWhoBacks$Cart;)I"⟩, 11), (⟨"WhoBacks", "costInMind", "()I"⟩, 8), (⟨"WhoBacks", "ruleAllInMind", "(II)V"⟩, 8), (⟨"WhoBacks$Passing", "reach", "(III)V"⟩, 8), (⟨"WhoBacks$Passing", "tryMoves", "(II)V"⟩, 8), (⟨"WhoBacks$Passing", "comeBack", "(IIII)V"⟩, 8), (⟨"java/lang/Throwable", "fillInStackTrace", "(I)Ljava/lang/Throwable;"⟩, 6)]
theorem lw_r2 : ∀ q ∈ lw_privs_2, lw_okq q := List.forall_mem_cons.mpr ⟨lw_p16, List.forall_mem_cons.mpr ⟨lw_p17, List.forall_mem_cons.mpr ⟨lw_p18, List.forall_mem_cons.mpr ⟨lw_p19, List.forall_mem_cons.mpr ⟨lw_p20, List.forall_mem_cons.mpr ⟨lw_p21, List.forall_mem_cons.mpr ⟨lw_p22, List.forall_mem_cons.mpr ⟨lw_p23, List.forall_mem_cons.mpr ⟨lw_p24, List.forall_mem_cons.mpr ⟨lw_p25, List.forall_mem_cons.mpr ⟨lw_p26, List.forall_mem_cons.mpr ⟨lw_p27, List.forall_mem_cons.mpr ⟨lw_p28, List.forall_mem_cons.mpr ⟨lw_p29, List.forall_mem_cons.mpr ⟨lw_p30, List.forall_mem_cons.mpr ⟨lw_p31, fun _ h => absurd h List.not_mem_nil⟩⟩⟩⟩⟩⟩⟩⟩⟩⟩⟩⟩⟩⟩⟩⟩
theorem lw_p32 : lw_okq (⟨"WhoBacksModel", "wrongRow", "(II)I"⟩, 24) := ⟨⟨by decide +kernel, by decide +kernel⟩, List.mem_of_getElem? (i := 958) (by decide +kernel), List.mem_of_getElem? (i := 1045) (by decide +kernel), List.mem_of_getElem? (i := 1046) (by decide +kernel)⟩
theorem lw_p33 : lw_okq (⟨"WhoBacksModel", "readsStatement", "()Z"⟩, 24) := ⟨⟨by decide +kernel, by decide +kernel⟩, List.mem_of_getElem? (i := 958) (by decide +kernel), List.mem_of_getElem? (i := 1056) (by decide +kernel), List.mem_of_getElem? (i := 1057) (by decide +kernel)⟩
theorem lw_p34 : lw_okq (⟨"WhoBacksModel", "here", "()I"⟩, 24) := ⟨⟨by decide +kernel, by decide +kernel⟩, List.mem_of_getElem? (i := 958) (by decide +kernel), List.mem_of_getElem? (i := 1060) (by decide +kernel), List.mem_of_getElem? (i := 1061) (by decide +kernel)⟩
theorem lw_p35 : lw_okq (⟨"WhoBacksModel", "readsDigit", "()Z"⟩, 24) := ⟨⟨by decide +kernel, by decide +kernel⟩, List.mem_of_getElem? (i := 958) (by decide +kernel), List.mem_of_getElem? (i := 1064) (by decide +kernel), List.mem_of_getElem? (i := 1065) (by decide +kernel)⟩
theorem lw_p36 : lw_okq (⟨"WhoBacksModel", "isDigit", "()Z"⟩, 24) := ⟨⟨by decide +kernel, by decide +kernel⟩, List.mem_of_getElem? (i := 958) (by decide +kernel), List.mem_of_getElem? (i := 1068) (by decide +kernel), List.mem_of_getElem? (i := 1069) (by decide +kernel)⟩
theorem lw_p37 : lw_okq (⟨"WhoBacksModel", "takes", "(I)Z"⟩, 24) := ⟨⟨by decide +kernel, by decide +kernel⟩, List.mem_of_getElem? (i := 958) (by decide +kernel), List.mem_of_getElem? (i := 1074) (by decide +kernel), List.mem_of_getElem? (i := 1075) (by decide +kernel)⟩
theorem lw_p38 : lw_okq (⟨"WhoBacksModel", "readsNumber", "()Z"⟩, 24) := ⟨⟨by decide +kernel, by decide +kernel⟩, List.mem_of_getElem? (i := 958) (by decide +kernel), List.mem_of_getElem? (i := 1078) (by decide +kernel), List.mem_of_getElem? (i := 1079) (by decide +kernel)⟩
theorem lw_p39 : lw_okq (⟨"WhoBacksModel", "comes", "(I)Z"⟩, 24) := ⟨⟨by decide +kernel, by decide +kernel⟩, List.mem_of_getElem? (i := 958) (by decide +kernel), List.mem_of_getElem? (i := 1082) (by decide +kernel), List.mem_of_getElem? (i := 1083) (by decide +kernel)⟩
theorem lw_p40 : lw_okq (⟨"WhoBacksModel", "isPiece", "(I)Z"⟩, 24) := ⟨⟨by decide +kernel, by decide +kernel⟩, List.mem_of_getElem? (i := 958) (by decide +kernel), List.mem_of_getElem? (i := 1098) (by decide +kernel), List.mem_of_getElem? (i := 1099) (by decide +kernel)⟩
theorem lw_p41 : lw_okq (⟨"WhoBacksModel", "isCart", "(I)Z"⟩, 24) := ⟨⟨by decide +kernel, by decide +kernel⟩, List.mem_of_getElem? (i := 958) (by decide +kernel), List.mem_of_getElem? (i := 1114) (by decide +kernel), List.mem_of_getElem? (i := 1115) (by decide +kernel)⟩
theorem lw_p42 : lw_okq (⟨"WhoBacksModel", "wrongRule", "(I)I"⟩, 24) := ⟨⟨by decide +kernel, by decide +kernel⟩, List.mem_of_getElem? (i := 958) (by decide +kernel), List.mem_of_getElem? (i := 1136) (by decide +kernel), List.mem_of_getElem? (i := 1137) (by decide +kernel)⟩
theorem lw_p43 : lw_okq (⟨"WhoBacksModel", "isEmpty", "()Z"⟩, 24) := ⟨⟨by decide +kernel, by decide +kernel⟩, List.mem_of_getElem? (i := 958) (by decide +kernel), List.mem_of_getElem? (i := 1145) (by decide +kernel), List.mem_of_getElem? (i := 1146) (by decide +kernel)⟩
theorem lw_p44 : lw_okq (⟨"WhoBacksModel", "minute", "([I)V"⟩, 24) := ⟨⟨by decide +kernel, by decide +kernel⟩, List.mem_of_getElem? (i := 958) (by decide +kernel), List.mem_of_getElem? (i := 1158) (by decide +kernel), List.mem_of_getElem? (i := 1159) (by decide +kernel)⟩
theorem lw_p45 : lw_okq (⟨"WhoBacksModel", "acts", "([II)V"⟩, 24) := ⟨⟨by decide +kernel, by decide +kernel⟩, List.mem_of_getElem? (i := 958) (by decide +kernel), List.mem_of_getElem? (i := 1162) (by decide +kernel), List.mem_of_getElem? (i := 1163) (by decide +kernel)⟩
theorem lw_p46 : lw_okq (⟨"WhoBacksModel", "goesBack", "([II)V"⟩, 24) := ⟨⟨by decide +kernel, by decide +kernel⟩, List.mem_of_getElem? (i := 958) (by decide +kernel), List.mem_of_getElem? (i := 1175) (by decide +kernel), List.mem_of_getElem? (i := 1176) (by decide +kernel)⟩
theorem lw_p47 : lw_okq (⟨"WhoBacksModel", "goesOn", "([II)V"⟩, 24) := ⟨⟨by decide +kernel, by decide +kernel⟩, List.mem_of_getElem? (i := 958) (by decide +kernel), List.mem_of_getElem? (i := 1191) (by decide +kernel), List.mem_of_getElem? (i := 1192) (by decide +kernel)⟩
def lw_privs_3 : List (MethodName × Nat) := [(⟨"WhoBacksModel", "wrongRow", "(II)I"⟩, 24), (⟨"WhoBacksModel", "readsStatement", "()Z"⟩, 24), (⟨"WhoBacksModel", "here", "()I"⟩, 24), (⟨"WhoBacksModel", "readsDigit", "()Z"⟩, 24), (⟨"WhoBacksModel", "isDigit", "()Z"⟩, 24), (⟨"WhoBacksModel", "takes", "(I)Z"⟩, 24), (⟨"WhoBacksModel", "readsNumber", "()Z"⟩, 24), (⟨"WhoBacksModel", "comes", "(I)Z"⟩, 24), (⟨"WhoBacksModel", "isPiece", "(I)Z"⟩, 24), (⟨"WhoBacksModel", "isCart", "(I)Z"⟩, 24), (⟨"WhoBacksModel", "wrongRule", "(I)I"⟩, 24), (⟨"WhoBacksModel", "isEmpty", "()Z"⟩, 24), (⟨"WhoBacksModel", "minute", "([I)V"⟩, 24), (⟨"WhoBacksModel", "acts", "([II)V"⟩, 24), (⟨"WhoBacksModel", "goesBack", "([II)V"⟩, 24), (⟨"WhoBacksModel", "goesOn", "([II)V"⟩, 24)]
theorem lw_r3 : ∀ q ∈ lw_privs_3, lw_okq q := List.forall_mem_cons.mpr ⟨lw_p32, List.forall_mem_cons.mpr ⟨lw_p33, List.forall_mem_cons.mpr ⟨lw_p34, List.forall_mem_cons.mpr ⟨lw_p35, List.forall_mem_cons.mpr ⟨lw_p36, List.forall_mem_cons.mpr ⟨lw_p37, List.forall_mem_cons.mpr ⟨lw_p38, List.forall_mem_cons.mpr ⟨lw_p39, List.forall_mem_cons.mpr ⟨lw_p40, List.forall_mem_cons.mpr ⟨lw_p41, List.forall_mem_cons.mpr ⟨lw_p42, List.forall_mem_cons.mpr ⟨lw_p43, List.forall_mem_cons.mpr ⟨lw_p44, List.forall_mem_cons.mpr ⟨lw_p45, List.forall_mem_cons.mpr ⟨lw_p46, List.forall_mem_cons.mpr ⟨lw_p47, fun _ h => absurd h List.not_mem_nil⟩⟩⟩⟩⟩⟩⟩⟩⟩⟩⟩⟩⟩⟩⟩⟩
theorem lw_p48 : lw_okq (⟨"WhoBacksModel", "leastOf", "(I)I"⟩, 24) := ⟨⟨by decide +kernel, by decide +kernel⟩, List.mem_of_getElem? (i := 958) (by decide +kernel), List.mem_of_getElem? (i := 1250) (by decide +kernel), List.mem_of_getElem? (i := 1251) (by decide +kernel)⟩
theorem lw_p49 : lw_okq (⟨"WhoBacksModel", "opens", "()V"⟩, 24) := ⟨⟨by decide +kernel, by decide +kernel⟩, List.mem_of_getElem? (i := 958) (by decide +kernel), List.mem_of_getElem? (i := 1260) (by decide +kernel), List.mem_of_getElem? (i := 1261) (by decide +kernel)⟩
theorem lw_p50 : lw_okq (⟨"WhoBacksModel", "costs", "()I"⟩, 24) := ⟨⟨by decide +kernel, by decide +kernel⟩, List.mem_of_getElem? (i := 958) (by decide +kernel), List.mem_of_getElem? (i := 1264) (by decide +kernel), List.mem_of_getElem? (i := 1265) (by decide +kernel)⟩
theorem lw_p51 : lw_okq (⟨"WhoBacksModel", "costBy", "(II)I"⟩, 24) := ⟨⟨by decide +kernel, by decide +kernel⟩, List.mem_of_getElem? (i := 958) (by decide +kernel), List.mem_of_getElem? (i := 1284) (by decide +kernel), List.mem_of_getElem? (i := 1285) (by decide +kernel)⟩
theorem lw_p52 : lw_okq (⟨"WhoBacksModel", "allBy", "(II)V"⟩, 24) := ⟨⟨by decide +kernel, by decide +kernel⟩, List.mem_of_getElem? (i := 958) (by decide +kernel), List.mem_of_getElem? (i := 1288) (by decide +kernel), List.mem_of_getElem? (i := 1289) (by decide +kernel)⟩
theorem lw_p53 : lw_okq (⟨"WhoBacksModel", "rowsOf", "(IIIII)I"⟩, 24) := ⟨⟨by decide +kernel, by decide +kernel⟩, List.mem_of_getElem? (i := 958) (by decide +kernel), List.mem_of_getElem? (i := 1333) (by decide +kernel), List.mem_of_getElem? (i := 1334) (by decide +kernel)⟩
theorem lw_p54 : lw_okq (⟨"WhoBacksModel", "reaches", "(IIIII)V"⟩, 24) := ⟨⟨by decide +kernel, by decide +kernel⟩, List.mem_of_getElem? (i := 958) (by decide +kernel), List.mem_of_getElem? (i := 1337) (by decide +kernel), List.mem_of_getElem? (i := 1338) (by decide +kernel)⟩
def lw_privs_4 : List (MethodName × Nat) := [(⟨"WhoBacksModel", "leastOf", "(I)I"⟩, 24), (⟨"WhoBacksModel", "opens", "()V"⟩, 24), (⟨"WhoBacksModel", "costs", "()I"⟩, 24), (⟨"WhoBacksModel", "costBy", "(II)I"⟩, 24), (⟨"WhoBacksModel", "allBy", "(II)V"⟩, 24), (⟨"WhoBacksModel", "rowsOf", "(IIIII)I"⟩, 24), (⟨"WhoBacksModel", "reaches", "(IIIII)V"⟩, 24)]
theorem lw_r4 : ∀ q ∈ lw_privs_4, lw_okq q := List.forall_mem_cons.mpr ⟨lw_p48, List.forall_mem_cons.mpr ⟨lw_p49, List.forall_mem_cons.mpr ⟨lw_p50, List.forall_mem_cons.mpr ⟨lw_p51, List.forall_mem_cons.mpr ⟨lw_p52, List.forall_mem_cons.mpr ⟨lw_p53, List.forall_mem_cons.mpr ⟨lw_p54, fun _ h => absurd h List.not_mem_nil⟩⟩⟩⟩⟩⟩⟩
def lw_privs : List (MethodName × Nat) := lw_privs_1 ++ (lw_privs_2 ++ (lw_privs_3 ++ (lw_privs_4)))
def lw_tbl : List Cond := k2_sels lw_privs ++ tables_1
theorem lw_privs_ok : ∀ q ∈ lw_privs, lw_okq q := by
  show ∀ q ∈ lw_privs_1 ++ (lw_privs_2 ++ (lw_privs_3 ++ (lw_privs_4))), lw_okq q
  exact List.forall_mem_append.mpr ⟨lw_r1, List.forall_mem_append.mpr ⟨lw_r2, List.forall_mem_append.mpr ⟨lw_r3, lw_r4⟩⟩⟩
def RX0 : String := "WhoBacks$Cart"
def TX0 : u_T := fun k => match k with
  | 0 => ("WhoBacks$Cart", "up", "Z", false)
  | 1 => ("WhoBacks$Cart", "loaded", "Z", false)
  | 2 => ("WhoBacks$Cart", "start", "I", false)
  | 3 => ("WhoBacks$Cart", "backs", "I", false)
  | 4 => ("WhoBacks$Cart", "worth", "I", false)
  | 5 => ("WhoBacks$Cart", "late", "I", false)
  | 6 => ("WhoBacks$Cart", "spot", "I", false)
  | 7 => ("WhoBacks$Cart", "backing", "Z", false)
  | 8 => ("WhoBacks$Cart", "gaveWay", "Z", false)
  | 9 => ("WhoBacks$Cart", "left", "I", false)
  | 10 => ("WhoBacks$Cart", "backed", "I", false)
  | _ => ("WhoBacks$Cart", "waited", "I", false)
def tyX0 : Nat → FieldType := fun k => match k with
  | 0 => .boolean
  | 1 => .boolean
  | 2 => .int
  | 3 => .int
  | 4 => .int
  | 5 => .int
  | 6 => .int
  | 7 => .boolean
  | 8 => .boolean
  | 9 => .int
  | 10 => .int
  | _ => .int
theorem nmX0 : ∀ a, a < 12 → ∀ b, b < 12 → a ≠ b → (TX0 a).2.1 ≠ (TX0 b).2.1 := by decide +kernel
theorem tyX0_ok : ∀ k, k < 12 → parseFieldDescriptor (TX0 k).2.2.1 = some (tyX0 k) := by decide +kernel
abbrev cX0_init : ByteArray := prog_2_method_1_code
def yX0_init : MethodName := ⟨RX0, "<init>", "()V"⟩
abbrev cX0_copyFrom : ByteArray := prog_2_method_2_code
def yX0_copyFrom : MethodName := ⟨RX0, "copyFrom", "(LWhoBacks$Cart;)V"⟩
abbrev cX0_beginAnew : ByteArray := prog_2_method_3_code
def yX0_beginAnew : MethodName := ⟨RX0, "beginAnew", "()V"⟩
abbrev cX0_beginBacking : ByteArray := prog_2_method_4_code
def yX0_beginBacking : MethodName := ⟨RX0, "beginBacking", "()V"⟩
abbrev cX0_spotAhead : ByteArray := prog_2_method_5_code
def yX0_spotAhead : MethodName := ⟨RX0, "spotAhead", "()I"⟩
abbrev cX0_spotBehind : ByteArray := prog_2_method_6_code
def yX0_spotBehind : MethodName := ⟨RX0, "spotBehind", "()I"⟩
abbrev cX0_isSlowOn : ByteArray := prog_2_method_7_code
def yX0_isSlowOn : MethodName := ⟨RX0, "isSlowOn", "(I)Z"⟩
def RX1 : String := "WhoBacks$Least"
def TX1 : u_T := fun k => match k with
  | 0 => ("WhoBacks$Least", "key", "I", false)
  | _ => ("WhoBacks$Least", "cost", "I", false)
def tyX1 : Nat → FieldType := fun k => match k with
  | 0 => .int
  | _ => .int
theorem nmX1 : ∀ a, a < 2 → ∀ b, b < 2 → a ≠ b → (TX1 a).2.1 ≠ (TX1 b).2.1 := by decide +kernel
theorem tyX1_ok : ∀ k, k < 2 → parseFieldDescriptor (TX1 k).2.2.1 = some (tyX1 k) := by decide +kernel
abbrev cX1_init : ByteArray := prog_3_method_1_code
def yX1_init : MethodName := ⟨RX1, "<init>", "()V"⟩
abbrev cX1_begin : ByteArray := prog_3_method_2_code
def yX1_begin : MethodName := ⟨RX1, "begin", "()V"⟩
abbrev cX1_offer : ByteArray := prog_3_method_3_code
def yX1_offer : MethodName := ⟨RX1, "offer", "(II)V"⟩
def RX2 : String := "WhoBacks$Passing"
def TX2 : u_T := fun k => match k with
  | 0 => ("WhoBacks$Passing", "moves", "[I", true)
  | 1 => ("WhoBacks$Passing", "found", "[I", true)
  | 2 => ("WhoBacks$Passing", "foundCount", "I", false)
  | 3 => ("WhoBacks$Passing", "fromOne", "I", false)
  | 4 => ("WhoBacks$Passing", "fromOther", "I", false)
  | 5 => ("WhoBacks$Passing", "roomAside", "I", false)
  | 6 => ("WhoBacks$Passing", "roomOne", "I", false)
  | _ => ("WhoBacks$Passing", "roomOther", "I", false)
def tyX2 : Nat → FieldType := fun k => match k with
  | 0 => .array .int
  | 1 => .array .int
  | 2 => .int
  | 3 => .int
  | 4 => .int
  | 5 => .int
  | 6 => .int
  | _ => .int
theorem nmX2 : ∀ a, a < 8 → ∀ b, b < 8 → a ≠ b → (TX2 a).2.1 ≠ (TX2 b).2.1 := by decide +kernel
theorem tyX2_ok : ∀ k, k < 8 → parseFieldDescriptor (TX2 k).2.2.1 = some (tyX2 k) := by decide +kernel
abbrev cX2_init : ByteArray := prog_4_method_1_code
def yX2_init : MethodName := ⟨RX2, "<init>", "()V"⟩
abbrev cX2_leastMoves : ByteArray := prog_4_method_2_code
def yX2_leastMoves : MethodName := ⟨RX2, "leastMoves", "(IIIII)I"⟩
abbrev cX2_reach : ByteArray := prog_4_method_3_code
def yX2_reach : MethodName := ⟨RX2, "reach", "(III)V"⟩
abbrev cX2_tryMoves : ByteArray := prog_4_method_4_code
def yX2_tryMoves : MethodName := ⟨RX2, "tryMoves", "(II)V"⟩
abbrev cX2_comeBack : ByteArray := prog_4_method_5_code
def yX2_comeBack : MethodName := ⟨RX2, "comeBack", "(IIII)V"⟩
abbrev cX2_lengthOf : ByteArray := prog_4_method_6_code
def yX2_lengthOf : MethodName := ⟨RX2, "lengthOf", "(I)I"⟩
abbrev cX2_without : ByteArray := prog_4_method_7_code
def yX2_without : MethodName := ⟨RX2, "without", "(II)I"⟩
def RX3 : String := "WhoBacks$Reader"
def TX3 : u_T := fun k => match k with
  | 0 => ("WhoBacks$Reader", "text", "LWhoBacks$Shelf;", false)
  | 1 => ("WhoBacks$Reader", "at", "I", false)
  | 2 => ("WhoBacks$Reader", "broken", "Z", false)
  | 3 => ("WhoBacks$Reader", "letter", "I", false)
  | 4 => ("WhoBacks$Reader", "first", "I", false)
  | 5 => ("WhoBacks$Reader", "second", "I", false)
  | 6 => ("WhoBacks$Reader", "third", "I", false)
  | _ => ("WhoBacks$Reader", "loaded", "Z", false)
def tyX3 : Nat → FieldType := fun k => match k with
  | 0 => .object "WhoBacks$Shelf"
  | 1 => .int
  | 2 => .boolean
  | 3 => .int
  | 4 => .int
  | 5 => .int
  | 6 => .int
  | _ => .boolean
theorem nmX3 : ∀ a, a < 8 → ∀ b, b < 8 → a ≠ b → (TX3 a).2.1 ≠ (TX3 b).2.1 := by decide +kernel
theorem tyX3_ok : ∀ k, k < 8 → parseFieldDescriptor (TX3 k).2.2.1 = some (tyX3 k) := by decide +kernel
abbrev cX3_init : ByteArray := prog_5_method_1_code
def yX3_init : MethodName := ⟨RX3, "<init>", "()V"⟩
abbrev cX3_read : ByteArray := prog_5_method_2_code
def yX3_read : MethodName := ⟨RX3, "read", "(LWhoBacks$Shelf;LWhoBacks$Traffic;)I"⟩
abbrev cX3_readStatement : ByteArray := prog_5_method_3_code
def yX3_readStatement : MethodName := ⟨RX3, "readStatement", "()V"⟩
abbrev cX3_readPiece : ByteArray := prog_5_method_4_code
def yX3_readPiece : MethodName := ⟨RX3, "readPiece", "()V"⟩
abbrev cX3_readPair : ByteArray := prog_5_method_5_code
def yX3_readPair : MethodName := ⟨RX3, "readPair", "()V"⟩
abbrev cX3_readCart : ByteArray := prog_5_method_6_code
def yX3_readCart : MethodName := ⟨RX3, "readCart", "()V"⟩
abbrev cX3_next : ByteArray := prog_5_method_7_code
def yX3_next : MethodName := ⟨RX3, "next", "()I"⟩
abbrev cX3_skips : ByteArray := prog_5_method_8_code
def yX3_skips : MethodName := ⟨RX3, "skips", "(I)Z"⟩
abbrev cX3_want : ByteArray := prog_5_method_9_code
def yX3_want : MethodName := ⟨RX3, "want", "(I)V"⟩
abbrev cX3_hasDigit : ByteArray := prog_5_method_10_code
def yX3_hasDigit : MethodName := ⟨RX3, "hasDigit", "()Z"⟩
abbrev cX3_digit : ByteArray := prog_5_method_11_code
def yX3_digit : MethodName := ⟨RX3, "digit", "()I"⟩
abbrev cX3_number : ByteArray := prog_5_method_12_code
def yX3_number : MethodName := ⟨RX3, "number", "()I"⟩
abbrev cX3_fulfil : ByteArray := prog_5_method_13_code
def yX3_fulfil : MethodName := ⟨RX3, "fulfil", "(LWhoBacks$Traffic;)Z"⟩
def RX4 : String := "WhoBacks$Road"
def TX4 : u_T := fun k => match k with
  | 0 => ("WhoBacks$Road", "pieces", "I", false)
  | 1 => ("WhoBacks$Road", "end", "I", false)
  | 2 => ("WhoBacks$Road", "steps", "[I", true)
  | 3 => ("WhoBacks$Road", "hill", "[I", true)
  | 4 => ("WhoBacks$Road", "villageOf", "[I", true)
  | 5 => ("WhoBacks$Road", "roomOf", "[I", true)
  | 6 => ("WhoBacks$Road", "first", "[I", true)
  | 7 => ("WhoBacks$Road", "placeAt", "[I", true)
  | 8 => ("WhoBacks$Road", "pieceAbove", "[I", true)
  | 9 => ("WhoBacks$Road", "toLower", "[I", true)
  | 10 => ("WhoBacks$Road", "toUpper", "[I", true)
  | 11 => ("WhoBacks$Road", "kind", "[I", true)
  | _ => ("WhoBacks$Road", "figure", "[I", true)
def tyX4 : Nat → FieldType := fun k => match k with
  | 0 => .int
  | 1 => .int
  | 2 => .array .int
  | 3 => .array .int
  | 4 => .array .int
  | 5 => .array .int
  | 6 => .array .int
  | 7 => .array .int
  | 8 => .array .int
  | 9 => .array .int
  | 10 => .array .int
  | 11 => .array .int
  | _ => .array .int
theorem nmX4 : ∀ a, a < 13 → ∀ b, b < 13 → a ≠ b → (TX4 a).2.1 ≠ (TX4 b).2.1 := by decide +kernel
theorem tyX4_ok : ∀ k, k < 13 → parseFieldDescriptor (TX4 k).2.2.1 = some (tyX4 k) := by decide +kernel
abbrev cX4_init : ByteArray := prog_6_method_1_code
def yX4_init : MethodName := ⟨RX4, "<init>", "()V"⟩
abbrev cX4_copyFrom : ByteArray := prog_6_method_2_code
def yX4_copyFrom : MethodName := ⟨RX4, "copyFrom", "(LWhoBacks$Road;)V"⟩
abbrev cX4_addPiece : ByteArray := prog_6_method_3_code
def yX4_addPiece : MethodName := ⟨RX4, "addPiece", "(II)Z"⟩
abbrev cX4_isBetween : ByteArray := prog_6_method_4_code
def yX4_isBetween : MethodName := ⟨RX4, "isBetween", "(I)Z"⟩
abbrev cX4_tellRoom : ByteArray := prog_6_method_5_code
def yX4_tellRoom : MethodName := ⟨RX4, "tellRoom", "(II)Z"⟩
abbrev cX4_tellVillage : ByteArray := prog_6_method_6_code
def yX4_tellVillage : MethodName := ⟨RX4, "tellVillage", "(II)Z"⟩
abbrev cX4_tellRule : ByteArray := prog_6_method_7_code
def yX4_tellRule : MethodName := ⟨RX4, "tellRule", "(III)Z"⟩
abbrev cX4_allRoom : ByteArray := prog_6_method_8_code
def yX4_allRoom : MethodName := ⟨RX4, "allRoom", "()I"⟩
abbrev cX4_isSpot : ByteArray := prog_6_method_9_code
def yX4_isSpot : MethodName := ⟨RX4, "isSpot", "(I)Z"⟩
abbrev cX4_placeOf : ByteArray := prog_6_method_10_code
def yX4_placeOf : MethodName := ⟨RX4, "placeOf", "(I)I"⟩
abbrev cX4_hillOf : ByteArray := prog_6_method_11_code
def yX4_hillOf : MethodName := ⟨RX4, "hillOf", "(I)I"⟩
abbrev cX4_villageBy : ByteArray := prog_6_method_12_code
def yX4_villageBy : MethodName := ⟨RX4, "villageBy", "(I)I"⟩
abbrev cX4_spotOfPlace : ByteArray := prog_6_method_13_code
def yX4_spotOfPlace : MethodName := ⟨RX4, "spotOfPlace", "(I)I"⟩
def RX5 : String := "WhoBacks$Shelf"
def TX5 : u_T := fun k => match k with
  | 0 => ("WhoBacks$Shelf", "holds", "I", false)
  | 1 => ("WhoBacks$Shelf", "kind", "I", false)
  | 2 => ("WhoBacks$Shelf", "figure", "I", false)
  | 3 => ("WhoBacks$Shelf", "sort", "I", false)
  | 4 => ("WhoBacks$Shelf", "size", "I", false)
  | _ => ("WhoBacks$Shelf", "values", "[I", true)
def tyX5 : Nat → FieldType := fun k => match k with
  | 0 => .int
  | 1 => .int
  | 2 => .int
  | 3 => .int
  | 4 => .int
  | _ => .array .int
theorem nmX5 : ∀ a, a < 6 → ∀ b, b < 6 → a ≠ b → (TX5 a).2.1 ≠ (TX5 b).2.1 := by decide +kernel
theorem tyX5_ok : ∀ k, k < 6 → parseFieldDescriptor (TX5 k).2.2.1 = some (tyX5 k) := by decide +kernel
abbrev cX5_init : ByteArray := prog_7_method_1_code
def yX5_init : MethodName := ⟨RX5, "<init>", "()V"⟩
abbrev cX5_becomeRow : ByteArray := prog_7_method_2_code
def yX5_becomeRow : MethodName := ⟨RX5, "becomeRow", "(II)V"⟩
abbrev cX5_holdsBytes : ByteArray := prog_7_method_3_code
def yX5_holdsBytes : MethodName := ⟨RX5, "holdsBytes", "()Z"⟩
abbrev cX5_hasElement : ByteArray := prog_7_method_4_code
def yX5_hasElement : MethodName := ⟨RX5, "hasElement", "(I)Z"⟩
abbrev cX5_hasElements : ByteArray := prog_7_method_5_code
def yX5_hasElements : MethodName := ⟨RX5, "hasElements", "(II)Z"⟩
abbrev cX5_isWithin : ByteArray := prog_7_method_6_code
def yX5_isWithin : MethodName := ⟨RX5, "isWithin", "(II)Z"⟩
abbrev cX5_lowestBits : ByteArray := prog_7_method_7_code
def yX5_lowestBits : MethodName := ⟨RX5, "lowestBits", "(I)I"⟩
abbrev cX5_leastNumber : ByteArray := prog_7_method_8_code
def yX5_leastNumber : MethodName := ⟨RX5, "leastNumber", "()I"⟩
def RX6 : String := "WhoBacks$Traffic"
def TX6 : u_T := fun k => match k with
  | 0 => ("WhoBacks$Traffic", "road", "LWhoBacks$Road;", true)
  | 1 => ("WhoBacks$Traffic", "carts", "[LWhoBacks$Cart;", true)
  | 2 => ("WhoBacks$Traffic", "count", "I", false)
  | 3 => ("WhoBacks$Traffic", "minute", "I", false)
  | 4 => ("WhoBacks$Traffic", "still", "I", false)
  | 5 => ("WhoBacks$Traffic", "meetings", "I", false)
  | 6 => ("WhoBacks$Traffic", "stepped", "Z", false)
  | 7 => ("WhoBacks$Traffic", "on", "[I", true)
  | 8 => ("WhoBacks$Traffic", "watchedOne", "I", false)
  | 9 => ("WhoBacks$Traffic", "watchedOther", "I", false)
  | _ => ("WhoBacks$Traffic", "watchedMinute", "I", false)
def tyX6 : Nat → FieldType := fun k => match k with
  | 0 => .object "WhoBacks$Road"
  | 1 => .array (.object "WhoBacks$Cart")
  | 2 => .int
  | 3 => .int
  | 4 => .int
  | 5 => .int
  | 6 => .boolean
  | 7 => .array .int
  | 8 => .int
  | 9 => .int
  | _ => .int
theorem nmX6 : ∀ a, a < 11 → ∀ b, b < 11 → a ≠ b → (TX6 a).2.1 ≠ (TX6 b).2.1 := by decide +kernel
theorem tyX6_ok : ∀ k, k < 11 → parseFieldDescriptor (TX6 k).2.2.1 = some (tyX6 k) := by decide +kernel
abbrev cX6_init : ByteArray := prog_8_method_1_code
def yX6_init : MethodName := ⟨RX6, "<init>", "()V"⟩
abbrev cX6_copyFrom : ByteArray := prog_8_method_2_code
def yX6_copyFrom : MethodName := ⟨RX6, "copyFrom", "(LWhoBacks$Traffic;)V"⟩
abbrev cX6_addCart : ByteArray := prog_8_method_3_code
def yX6_addCart : MethodName := ⟨RX6, "addCart", "(ZIIZI)Z"⟩
abbrev cX6_cartAt : ByteArray := prog_8_method_4_code
def yX6_cartAt : MethodName := ⟨RX6, "cartAt", "(I)LWhoBacks$Cart;"⟩
abbrev cX6_watch : ByteArray := prog_8_method_5_code
def yX6_watch : MethodName := ⟨RX6, "watch", "(II)V"⟩
abbrev cX6_beginAnew : ByteArray := prog_8_method_6_code
def yX6_beginAnew : MethodName := ⟨RX6, "beginAnew", "()V"⟩
abbrev cX6_howMany : ByteArray := prog_8_method_7_code
def yX6_howMany : MethodName := ⟨RX6, "howMany", "(I)I"⟩
abbrev cX6_allBacked : ByteArray := prog_8_method_8_code
def yX6_allBacked : MethodName := ⟨RX6, "allBacked", "()I"⟩
abbrev cX6_allWaited : ByteArray := prog_8_method_9_code
def yX6_allWaited : MethodName := ⟨RX6, "allWaited", "()I"⟩
abbrev cX6_allWorth : ByteArray := prog_8_method_10_code
def yX6_allWorth : MethodName := ⟨RX6, "allWorth", "()I"⟩
abbrev cX6_stands : ByteArray := prog_8_method_11_code
def yX6_stands : MethodName := ⟨RX6, "stands", "()Z"⟩
abbrev cX6_isEnded : ByteArray := prog_8_method_12_code
def yX6_isEnded : MethodName := ⟨RX6, "isEnded", "()Z"⟩
abbrev cX6_cost : ByteArray := prog_8_method_13_code
def yX6_cost : MethodName := ⟨RX6, "cost", "()I"⟩
abbrev cX6_passMinute : ByteArray := prog_8_method_14_code
def yX6_passMinute : MethodName := ⟨RX6, "passMinute", "()V"⟩
abbrev cX6_comeOn : ByteArray := prog_8_method_15_code
def yX6_comeOn : MethodName := ⟨RX6, "comeOn", "(LWhoBacks$Cart;)V"⟩
abbrev cX6_ownEnd : ByteArray := prog_8_method_16_code
def yX6_ownEnd : MethodName := ⟨RX6, "ownEnd", "(LWhoBacks$Cart;)I"⟩
abbrev cX6_goal : ByteArray := prog_8_method_17_code
def yX6_goal : MethodName := ⟨RX6, "goal", "(LWhoBacks$Cart;)I"⟩
abbrev cX6_backUp : ByteArray := prog_8_method_18_code
def yX6_backUp : MethodName := ⟨RX6, "backUp", "(LWhoBacks$Cart;)V"⟩
abbrev cX6_letOneBehindBack : ByteArray := prog_8_method_19_code
def yX6_letOneBehindBack : MethodName := ⟨RX6, "letOneBehindBack", "(LWhoBacks$Cart;I)V"⟩
abbrev cX6_goOn : ByteArray := prog_8_method_20_code
def yX6_goOn : MethodName := ⟨RX6, "goOn", "(ILWhoBacks$Cart;)V"⟩
abbrev cX6_hasRoom : ByteArray := prog_8_method_21_code
def yX6_hasRoom : MethodName := ⟨RX6, "hasRoom", "(I)Z"⟩
abbrev cX6_step : ByteArray := prog_8_method_22_code
def yX6_step : MethodName := ⟨RX6, "step", "(LWhoBacks$Cart;I)V"⟩
abbrev cX6_pieceAhead : ByteArray := prog_8_method_23_code
def yX6_pieceAhead : MethodName := ⟨RX6, "pieceAhead", "(LWhoBacks$Cart;)I"⟩
abbrev cX6_letsIn : ByteArray := prog_8_method_24_code
def yX6_letsIn : MethodName := ⟨RX6, "letsIn", "(LWhoBacks$Cart;)Z"⟩
abbrev cX6_isHourOf : ByteArray := prog_8_method_25_code
def yX6_isHourOf : MethodName := ⟨RX6, "isHourOf", "(LWhoBacks$Cart;I)Z"⟩
abbrev cX6_isQuiet : ByteArray := prog_8_method_26_code
def yX6_isQuiet : MethodName := ⟨RX6, "isQuiet", "(LWhoBacks$Cart;II)Z"⟩
abbrev cX6_meet : ByteArray := prog_8_method_27_code
def yX6_meet : MethodName := ⟨RX6, "meet", "(ILWhoBacks$Cart;I)V"⟩
abbrev cX6_noteMeeting : ByteArray := prog_8_method_28_code
def yX6_noteMeeting : MethodName := ⟨RX6, "noteMeeting", "(II)V"⟩
abbrev cX6_backerOf : ByteArray := prog_8_method_29_code
def yX6_backerOf : MethodName := ⟨RX6, "backerOf", "(IIII)I"⟩
abbrev cX6_preference : ByteArray := prog_8_method_30_code
def yX6_preference : MethodName := ⟨RX6, "preference", "(LWhoBacks$Cart;LWhoBacks$Cart;III)I"⟩
abbrev cX6_wayBack : ByteArray := prog_8_method_31_code
def yX6_wayBack : MethodName := ⟨RX6, "wayBack", "(LWhoBacks$Cart;)I"⟩
def RX7 : String := "WhoBacks"
def TX7 : u_T := fun k => match k with
  | 0 => ("WhoBacks", "now", "LWhoBacks$Traffic;", true)
  | 1 => ("WhoBacks", "kept", "LWhoBacks$Traffic;", true)
  | 2 => ("WhoBacks", "mind", "LWhoBacks$Traffic;", true)
  | 3 => ("WhoBacks", "hasImage", "Z", false)
  | 4 => ("WhoBacks", "shelves", "[LWhoBacks$Shelf;", true)
  | 5 => ("WhoBacks", "least", "LWhoBacks$Least;", true)
  | 6 => ("WhoBacks", "reader", "LWhoBacks$Reader;", true)
  | _ => ("WhoBacks", "passing", "LWhoBacks$Passing;", true)
def tyX7 : Nat → FieldType := fun k => match k with
  | 0 => .object "WhoBacks$Traffic"
  | 1 => .object "WhoBacks$Traffic"
  | 2 => .object "WhoBacks$Traffic"
  | 3 => .boolean
  | 4 => .array (.object "WhoBacks$Shelf")
  | 5 => .object "WhoBacks$Least"
  | 6 => .object "WhoBacks$Reader"
  | _ => .object "WhoBacks$Passing"
theorem nmX7 : ∀ a, a < 8 → ∀ b, b < 8 → a ≠ b → (TX7 a).2.1 ≠ (TX7 b).2.1 := by decide +kernel
theorem tyX7_ok : ∀ k, k < 8 → parseFieldDescriptor (TX7 k).2.2.1 = some (tyX7 k) := by decide +kernel
abbrev cX7_init : ByteArray := prog_1_method_1_code
def yX7_init : MethodName := ⟨RX7, "<init>", "()V"⟩
abbrev cX7_road : ByteArray := prog_1_method_2_code
def yX7_road : MethodName := ⟨RX7, "road", "(I)I"⟩
abbrev cX7_piece : ByteArray := prog_1_method_3_code
def yX7_piece : MethodName := ⟨RX7, "piece", "(II)I"⟩
abbrev cX7_room : ByteArray := prog_1_method_4_code
def yX7_room : MethodName := ⟨RX7, "room", "(I)I"⟩
abbrev cX7_cart : ByteArray := prog_1_method_5_code
def yX7_cart : MethodName := ⟨RX7, "cart", "(II)I"⟩
abbrev cX7_backs : ByteArray := prog_1_method_6_code
def yX7_backs : MethodName := ⟨RX7, "backs", "(II)I"⟩
abbrev cX7_village : ByteArray := prog_1_method_7_code
def yX7_village : MethodName := ⟨RX7, "village", "(II)I"⟩
abbrev cX7_rule : ByteArray := prog_1_method_8_code
def yX7_rule : MethodName := ⟨RX7, "rule", "(II)I"⟩
abbrev cX7_go : ByteArray := prog_1_method_9_code
def yX7_go : MethodName := ⟨RX7, "go", "(I)I"⟩
abbrev cX7_anew : ByteArray := prog_1_method_10_code
def yX7_anew : MethodName := ⟨RX7, "anew", "()I"⟩
abbrev cX7_where : ByteArray := prog_1_method_11_code
def yX7_where : MethodName := ⟨RX7, "where", "(II)I"⟩
abbrev cX7_state : ByteArray := prog_1_method_12_code
def yX7_state : MethodName := ⟨RX7, "state", "(I)I"⟩
abbrev cX7_enters : ByteArray := prog_1_method_13_code
def yX7_enters : MethodName := ⟨RX7, "enters", "(I)I"⟩
abbrev cX7_yields : ByteArray := prog_1_method_14_code
def yX7_yields : MethodName := ⟨RX7, "yields", "(III)I"⟩
abbrev cX7_judge : ByteArray := prog_1_method_15_code
def yX7_judge : MethodName := ⟨RX7, "judge", "(II)I"⟩
abbrev cX7_run : ByteArray := prog_1_method_16_code
def yX7_run : MethodName := ⟨RX7, "run", "(II)I"⟩
abbrev cX7_ever : ByteArray := prog_1_method_17_code
def yX7_ever : MethodName := ⟨RX7, "ever", "(I)I"⟩
abbrev cX7_best : ByteArray := prog_1_method_18_code
def yX7_best : MethodName := ⟨RX7, "best", "(I)I"⟩
abbrev cX7_more : ByteArray := prog_1_method_19_code
def yX7_more : MethodName := ⟨RX7, "more", "(I)I"⟩
abbrev cX7_fit : ByteArray := prog_1_method_20_code
def yX7_fit : MethodName := ⟨RX7, "fit", "(II)I"⟩
abbrev cX7_shortest : ByteArray := prog_1_method_21_code
def yX7_shortest : MethodName := ⟨RX7, "shortest", "()I"⟩
abbrev cX7_hours : ByteArray := prog_1_method_22_code
def yX7_hours : MethodName := ⟨RX7, "hours", "(I)I"⟩
abbrev cX7_stubborn : ByteArray := prog_1_method_23_code
def yX7_stubborn : MethodName := ⟨RX7, "stubborn", "(I)I"⟩
abbrev cX7_heard : ByteArray := prog_1_method_24_code
def yX7_heard : MethodName := ⟨RX7, "heard", "(I)I"⟩
abbrev cX7_days : ByteArray := prog_1_method_25_code
def yX7_days : MethodName := ⟨RX7, "days", "(III)I"⟩
abbrev cX7_met : ByteArray := prog_1_method_26_code
def yX7_met : MethodName := ⟨RX7, "met", "(II)I"⟩
abbrev cX7_rows : ByteArray := prog_1_method_27_code
def yX7_rows : MethodName := ⟨RX7, "rows", "(IIIII)I"⟩
abbrev cX7_aside : ByteArray := prog_1_method_28_code
def yX7_aside : MethodName := ⟨RX7, "aside", "(IIII)I"⟩
abbrev cX7_image : ByteArray := prog_1_method_29_code
def yX7_image : MethodName := ⟨RX7, "image", "()I"⟩
abbrev cX7_restore : ByteArray := prog_1_method_30_code
def yX7_restore : MethodName := ⟨RX7, "restore", "()I"⟩
abbrev cX7_count : ByteArray := prog_1_method_31_code
def yX7_count : MethodName := ⟨RX7, "count", "(I)I"⟩
abbrev cX7_keep : ByteArray := prog_1_method_32_code
def yX7_keep : MethodName := ⟨RX7, "keep", "(IIII)I"⟩
abbrev cX7_row : ByteArray := prog_1_method_33_code
def yX7_row : MethodName := ⟨RX7, "row", "(III)I"⟩
abbrev cX7_put : ByteArray := prog_1_method_34_code
def yX7_put : MethodName := ⟨RX7, "put", "(III)I"⟩
abbrev cX7_element : ByteArray := prog_1_method_35_code
def yX7_element : MethodName := ⟨RX7, "element", "(II)J"⟩
abbrev cX7_copy : ByteArray := prog_1_method_36_code
def yX7_copy : MethodName := ⟨RX7, "copy", "(IIIII)I"⟩
abbrev cX7_words : ByteArray := prog_1_method_37_code
def yX7_words : MethodName := ⟨RX7, "words", "(I)I"⟩
abbrev cX7_toss : ByteArray := prog_1_method_38_code
def yX7_toss : MethodName := ⟨RX7, "toss", "(I)I"⟩
abbrev cX7_shelfAt : ByteArray := prog_1_method_39_code
def yX7_shelfAt : MethodName := ⟨RX7, "shelfAt", "(I)LWhoBacks$Shelf;"⟩
abbrev cX7_cannotRun : ByteArray := prog_1_method_40_code
def yX7_cannotRun : MethodName := ⟨RX7, "cannotRun", "()Z"⟩
abbrev cX7_costInMind : ByteArray := prog_1_method_41_code
def yX7_costInMind : MethodName := ⟨RX7, "costInMind", "()I"⟩
abbrev cX7_ruleAllInMind : ByteArray := prog_1_method_42_code
def yX7_ruleAllInMind : MethodName := ⟨RX7, "ruleAllInMind", "(II)V"⟩
abbrev cX7_areRows : ByteArray := prog_1_method_43_code
def yX7_areRows : MethodName := ⟨RX7, "areRows", "(IIII)Z"⟩
abbrev cX7_wordsOf : ByteArray := prog_1_method_44_code
def yX7_wordsOf : MethodName := ⟨RX7, "wordsOf", "(II)I"⟩
abbrev cX7_throwFailure : ByteArray := prog_1_method_45_code
def yX7_throwFailure : MethodName := ⟨RX7, "throwFailure", "(II)V"⟩
def RX8 : String := "WhoBacksModel"
def TX8 : u_T := fun k => match k with
  | 0 => ("WhoBacksModel", "s", "[I", true)
  | 1 => ("WhoBacksModel", "image", "[I", true)
  | 2 => ("WhoBacksModel", "mind", "[I", true)
  | 3 => ("WhoBacksModel", "read", "[I", true)
  | 4 => ("WhoBacksModel", "kept", "[I", true)
  | 5 => ("WhoBacksModel", "sort", "[I", true)
  | 6 => ("WhoBacksModel", "size", "[I", true)
  | 7 => ("WhoBacksModel", "element", "[I", true)
  | 8 => ("WhoBacksModel", "keptKind", "[I", true)
  | 9 => ("WhoBacksModel", "keptFigure", "[I", true)
  | 10 => ("WhoBacksModel", "hasImage", "Z", false)
  | 11 => ("WhoBacksModel", "thrown", "I", false)
  | 12 => ("WhoBacksModel", "pos", "I", false)
  | 13 => ("WhoBacksModel", "base", "I", false)
  | 14 => ("WhoBacksModel", "end", "I", false)
  | 15 => ("WhoBacksModel", "told", "I", false)
  | 16 => ("WhoBacksModel", "numbers", "[I", true)
  | 17 => ("WhoBacksModel", "asked", "I", false)
  | 18 => ("WhoBacksModel", "otherAsked", "I", false)
  | 19 => ("WhoBacksModel", "firstMet", "I", false)
  | 20 => ("WhoBacksModel", "stepped", "Z", false)
  | 21 => ("WhoBacksModel", "far", "[I", true)
  | 22 => ("WhoBacksModel", "queue", "[I", true)
  | _ => ("WhoBacksModel", "queued", "I", false)
def tyX8 : Nat → FieldType := fun k => match k with
  | 0 => .array .int
  | 1 => .array .int
  | 2 => .array .int
  | 3 => .array .int
  | 4 => .array .int
  | 5 => .array .int
  | 6 => .array .int
  | 7 => .array .int
  | 8 => .array .int
  | 9 => .array .int
  | 10 => .boolean
  | 11 => .int
  | 12 => .int
  | 13 => .int
  | 14 => .int
  | 15 => .int
  | 16 => .array .int
  | 17 => .int
  | 18 => .int
  | 19 => .int
  | 20 => .boolean
  | 21 => .array .int
  | 22 => .array .int
  | _ => .int
theorem nmX8 : ∀ a, a < 24 → ∀ b, b < 24 → a ≠ b → (TX8 a).2.1 ≠ (TX8 b).2.1 := by decide +kernel
theorem tyX8_ok : ∀ k, k < 24 → parseFieldDescriptor (TX8 k).2.2.1 = some (tyX8 k) := by decide +kernel
abbrev cX8_init : ByteArray := prog_10_method_1_code
def yX8_init : MethodName := ⟨RX8, "<init>", "()V"⟩
abbrev cX8_thrown : ByteArray := prog_10_method_2_code
def yX8_thrown : MethodName := ⟨RX8, "thrown", "()I"⟩
abbrev cX8_isIn : ByteArray := prog_10_method_3_code
def yX8_isIn : MethodName := ⟨RX8, "isIn", "(JJJ)Z"⟩
abbrev cX8_isPiece : ByteArray := prog_10_method_4_code
def yX8_isPiece : MethodName := ⟨RX8, "isPiece", "(I)Z"⟩
abbrev cX8_isCart : ByteArray := prog_10_method_5_code
def yX8_isCart : MethodName := ⟨RX8, "isCart", "(I)Z"⟩
abbrev cX8_isShelf : ByteArray := prog_10_method_6_code
def yX8_isShelf : MethodName := ⟨RX8, "isShelf", "(I)Z"⟩
abbrev cX8_isVillage : ByteArray := prog_10_method_7_code
def yX8_isVillage : MethodName := ⟨RX8, "isVillage", "(I)Z"⟩
abbrev cX8_get : ByteArray := prog_10_method_8_code
def yX8_get : MethodName := ⟨RX8, "get", "([III)I"⟩
abbrev cX8_puts : ByteArray := prog_10_method_9_code
def yX8_puts : MethodName := ⟨RX8, "puts", "([IIII)V"⟩
abbrev cX8_here : ByteArray := prog_10_method_11_code
def yX8_here : MethodName := ⟨RX8, "here", "()I"⟩
abbrev cX8_isDigit : ByteArray := prog_10_method_12_code
def yX8_isDigit : MethodName := ⟨RX8, "isDigit", "()Z"⟩
abbrev cX8_takes : ByteArray := prog_10_method_13_code
def yX8_takes : MethodName := ⟨RX8, "takes", "(I)Z"⟩
abbrev cX8_readsDigit : ByteArray := prog_10_method_14_code
def yX8_readsDigit : MethodName := ⟨RX8, "readsDigit", "()Z"⟩
abbrev cX8_readsNumber : ByteArray := prog_10_method_15_code
def yX8_readsNumber : MethodName := ⟨RX8, "readsNumber", "()Z"⟩
abbrev cX8_readsStatement : ByteArray := prog_10_method_16_code
def yX8_readsStatement : MethodName := ⟨RX8, "readsStatement", "()Z"⟩
abbrev cX8_comes : ByteArray := prog_10_method_17_code
def yX8_comes : MethodName := ⟨RX8, "comes", "(I)Z"⟩
abbrev cX8_begins : ByteArray := prog_10_method_18_code
def yX8_begins : MethodName := ⟨RX8, "begins", "([II)V"⟩
abbrev cX8_wrongRow : ByteArray := prog_10_method_19_code
def yX8_wrongRow : MethodName := ⟨RX8, "wrongRow", "(II)I"⟩
abbrev cX8_road : ByteArray := prog_10_method_20_code
def yX8_road : MethodName := ⟨RX8, "road", "(I)I"⟩
abbrev cX8_spotOf : ByteArray := prog_10_method_21_code
def yX8_spotOf : MethodName := ⟨RX8, "spotOf", "([II)I"⟩
abbrev cX8_endOf : ByteArray := prog_10_method_22_code
def yX8_endOf : MethodName := ⟨RX8, "endOf", "([I)I"⟩
abbrev cX8_piece : ByteArray := prog_10_method_23_code
def yX8_piece : MethodName := ⟨RX8, "piece", "(II)I"⟩
abbrev cX8_room : ByteArray := prog_10_method_24_code
def yX8_room : MethodName := ⟨RX8, "room", "(I)I"⟩
abbrev cX8_cart : ByteArray := prog_10_method_25_code
def yX8_cart : MethodName := ⟨RX8, "cart", "(II)I"⟩
abbrev cX8_backs : ByteArray := prog_10_method_26_code
def yX8_backs : MethodName := ⟨RX8, "backs", "(II)I"⟩
abbrev cX8_village : ByteArray := prog_10_method_27_code
def yX8_village : MethodName := ⟨RX8, "village", "(II)I"⟩
abbrev cX8_wrongRule : ByteArray := prog_10_method_28_code
def yX8_wrongRule : MethodName := ⟨RX8, "wrongRule", "(I)I"⟩
abbrev cX8_rule : ByteArray := prog_10_method_29_code
def yX8_rule : MethodName := ⟨RX8, "rule", "(II)I"⟩
abbrev cX8_placeAt : ByteArray := prog_10_method_30_code
def yX8_placeAt : MethodName := ⟨RX8, "placeAt", "([II)I"⟩
abbrev cX8_isOn : ByteArray := prog_10_method_31_code
def yX8_isOn : MethodName := ⟨RX8, "isOn", "([II)Z"⟩
abbrev cX8_goal : ByteArray := prog_10_method_32_code
def yX8_goal : MethodName := ⟨RX8, "goal", "([II)I"⟩
abbrev cX8_origin : ByteArray := prog_10_method_33_code
def yX8_origin : MethodName := ⟨RX8, "origin", "([II)I"⟩
abbrev cX8_cartsAt : ByteArray := prog_10_method_34_code
def yX8_cartsAt : MethodName := ⟨RX8, "cartsAt", "([II)I"⟩
abbrev cX8_hasRoom : ByteArray := prog_10_method_35_code
def yX8_hasRoom : MethodName := ⟨RX8, "hasRoom", "([II)Z"⟩
abbrev cX8_pieceFrom : ByteArray := prog_10_method_36_code
def yX8_pieceFrom : MethodName := ⟨RX8, "pieceFrom", "([III)I"⟩
abbrev cX8_kindOf : ByteArray := prog_10_method_37_code
def yX8_kindOf : MethodName := ⟨RX8, "kindOf", "([II)I"⟩
abbrev cX8_entersBy : ByteArray := prog_10_method_38_code
def yX8_entersBy : MethodName := ⟨RX8, "entersBy", "([III)Z"⟩
abbrev cX8_behind : ByteArray := prog_10_method_39_code
def yX8_behind : MethodName := ⟨RX8, "behind", "([II)I"⟩
abbrev cX8_falls : ByteArray := prog_10_method_40_code
def yX8_falls : MethodName := ⟨RX8, "falls", "([III)I"⟩
abbrev cX8_toldBy : ByteArray := prog_10_method_41_code
def yX8_toldBy : MethodName := ⟨RX8, "toldBy", "([IIIII)I"⟩
abbrev cX8_backsOf : ByteArray := prog_10_method_42_code
def yX8_backsOf : MethodName := ⟨RX8, "backsOf", "([IIIII)I"⟩
abbrev cX8_backs_ : ByteArray := prog_10_method_43_code
def yX8_backs_ : MethodName := ⟨RX8, "backs", "([II)V"⟩
abbrev cX8_goesBack : ByteArray := prog_10_method_44_code
def yX8_goesBack : MethodName := ⟨RX8, "goesBack", "([II)V"⟩
abbrev cX8_goesOn : ByteArray := prog_10_method_45_code
def yX8_goesOn : MethodName := ⟨RX8, "goesOn", "([II)V"⟩
abbrev cX8_acts : ByteArray := prog_10_method_46_code
def yX8_acts : MethodName := ⟨RX8, "acts", "([II)V"⟩
abbrev cX8_minute : ByteArray := prog_10_method_47_code
def yX8_minute : MethodName := ⟨RX8, "minute", "([I)V"⟩
abbrev cX8_doneOf : ByteArray := prog_10_method_48_code
def yX8_doneOf : MethodName := ⟨RX8, "doneOf", "([I)I"⟩
abbrev cX8_stands : ByteArray := prog_10_method_49_code
def yX8_stands : MethodName := ⟨RX8, "stands", "([I)Z"⟩
abbrev cX8_isEnded : ByteArray := prog_10_method_50_code
def yX8_isEnded : MethodName := ⟨RX8, "isEnded", "([I)Z"⟩
abbrev cX8_isEmpty : ByteArray := prog_10_method_51_code
def yX8_isEmpty : MethodName := ⟨RX8, "isEmpty", "()Z"⟩
abbrev cX8_go : ByteArray := prog_10_method_52_code
def yX8_go : MethodName := ⟨RX8, "go", "(I)I"⟩
abbrev cX8_anews : ByteArray := prog_10_method_53_code
def yX8_anews : MethodName := ⟨RX8, "anews", "([I)V"⟩
abbrev cX8_anew : ByteArray := prog_10_method_54_code
def yX8_anew : MethodName := ⟨RX8, "anew", "()I"⟩
abbrev cX8_where : ByteArray := prog_10_method_55_code
def yX8_where : MethodName := ⟨RX8, "where", "(II)I"⟩
abbrev cX8_allOf : ByteArray := prog_10_method_56_code
def yX8_allOf : MethodName := ⟨RX8, "allOf", "([II)I"⟩
abbrev cX8_state : ByteArray := prog_10_method_57_code
def yX8_state : MethodName := ⟨RX8, "state", "(I)I"⟩
abbrev cX8_enters : ByteArray := prog_10_method_58_code
def yX8_enters : MethodName := ⟨RX8, "enters", "(I)I"⟩
abbrev cX8_yields : ByteArray := prog_10_method_59_code
def yX8_yields : MethodName := ⟨RX8, "yields", "(III)I"⟩
abbrev cX8_leastOf : ByteArray := prog_10_method_60_code
def yX8_leastOf : MethodName := ⟨RX8, "leastOf", "(I)I"⟩
abbrev cX8_judge : ByteArray := prog_10_method_61_code
def yX8_judge : MethodName := ⟨RX8, "judge", "(II)I"⟩
abbrev cX8_opens : ByteArray := prog_10_method_62_code
def yX8_opens : MethodName := ⟨RX8, "opens", "()V"⟩
abbrev cX8_allBy : ByteArray := prog_10_method_63_code
def yX8_allBy : MethodName := ⟨RX8, "allBy", "(II)V"⟩
abbrev cX8_costs : ByteArray := prog_10_method_64_code
def yX8_costs : MethodName := ⟨RX8, "costs", "()I"⟩
abbrev cX8_run : ByteArray := prog_10_method_65_code
def yX8_run : MethodName := ⟨RX8, "run", "(II)I"⟩
abbrev cX8_ever : ByteArray := prog_10_method_66_code
def yX8_ever : MethodName := ⟨RX8, "ever", "(I)I"⟩
abbrev cX8_best : ByteArray := prog_10_method_67_code
def yX8_best : MethodName := ⟨RX8, "best", "(I)I"⟩
abbrev cX8_more : ByteArray := prog_10_method_68_code
def yX8_more : MethodName := ⟨RX8, "more", "(I)I"⟩
abbrev cX8_costBy : ByteArray := prog_10_method_69_code
def yX8_costBy : MethodName := ⟨RX8, "costBy", "(II)I"⟩
abbrev cX8_fit : ByteArray := prog_10_method_70_code
def yX8_fit : MethodName := ⟨RX8, "fit", "(II)I"⟩
abbrev cX8_wordsBy : ByteArray := prog_10_method_71_code
def yX8_wordsBy : MethodName := ⟨RX8, "wordsBy", "(II)I"⟩
abbrev cX8_shortest : ByteArray := prog_10_method_72_code
def yX8_shortest : MethodName := ⟨RX8, "shortest", "()I"⟩
abbrev cX8_hours : ByteArray := prog_10_method_73_code
def yX8_hours : MethodName := ⟨RX8, "hours", "(I)I"⟩
abbrev cX8_stubborn : ByteArray := prog_10_method_74_code
def yX8_stubborn : MethodName := ⟨RX8, "stubborn", "(I)I"⟩
abbrev cX8_heard : ByteArray := prog_10_method_75_code
def yX8_heard : MethodName := ⟨RX8, "heard", "(I)I"⟩
abbrev cX8_days : ByteArray := prog_10_method_76_code
def yX8_days : MethodName := ⟨RX8, "days", "(III)I"⟩
abbrev cX8_met : ByteArray := prog_10_method_77_code
def yX8_met : MethodName := ⟨RX8, "met", "(II)I"⟩
abbrev cX8_manyOf : ByteArray := prog_10_method_78_code
def yX8_manyOf : MethodName := ⟨RX8, "manyOf", "(I)I"⟩
abbrev cX8_reaches : ByteArray := prog_10_method_79_code
def yX8_reaches : MethodName := ⟨RX8, "reaches", "(IIIII)V"⟩
abbrev cX8_rowsOf : ByteArray := prog_10_method_80_code
def yX8_rowsOf : MethodName := ⟨RX8, "rowsOf", "(IIIII)I"⟩
abbrev cX8_isRows : ByteArray := prog_10_method_81_code
def yX8_isRows : MethodName := ⟨RX8, "isRows", "(IIII)Z"⟩
abbrev cX8_rows : ByteArray := prog_10_method_82_code
def yX8_rows : MethodName := ⟨RX8, "rows", "(IIIII)I"⟩
abbrev cX8_aside : ByteArray := prog_10_method_83_code
def yX8_aside : MethodName := ⟨RX8, "aside", "(IIII)I"⟩
abbrev cX8_image : ByteArray := prog_10_method_84_code
def yX8_image : MethodName := ⟨RX8, "image", "()I"⟩
abbrev cX8_restore : ByteArray := prog_10_method_85_code
def yX8_restore : MethodName := ⟨RX8, "restore", "()I"⟩
abbrev cX8_count : ByteArray := prog_10_method_86_code
def yX8_count : MethodName := ⟨RX8, "count", "(I)I"⟩
abbrev cX8_keep : ByteArray := prog_10_method_87_code
def yX8_keep : MethodName := ⟨RX8, "keep", "(IIII)I"⟩
abbrev cX8_row : ByteArray := prog_10_method_88_code
def yX8_row : MethodName := ⟨RX8, "row", "(III)I"⟩
abbrev cX8_put : ByteArray := prog_10_method_89_code
def yX8_put : MethodName := ⟨RX8, "put", "(III)I"⟩
abbrev cX8_element : ByteArray := prog_10_method_90_code
def yX8_element : MethodName := ⟨RX8, "element", "(II)J"⟩
abbrev cX8_copy : ByteArray := prog_10_method_91_code
def yX8_copy : MethodName := ⟨RX8, "copy", "(IIIII)I"⟩
abbrev cX8_words : ByteArray := prog_10_method_92_code
def yX8_words : MethodName := ⟨RX8, "words", "(I)I"⟩
abbrev cX8_toss : ByteArray := prog_10_method_93_code
def yX8_toss : MethodName := ⟨RX8, "toss", "(I)I"⟩
def RJ6 : String := "java/lang/Integer"
def TJ6 : u_T := fun k => match k with
  | _ => ("", "", "", false)
def tyJ6 : Nat → FieldType := fun k => match k with
  | _ => .int
theorem nmJ6 : ∀ a, a < 0 → ∀ b, b < 0 → a ≠ b → (TJ6 a).2.1 ≠ (TJ6 b).2.1 := by decide +kernel
theorem tyJ6_ok : ∀ k, k < 0 → parseFieldDescriptor (TJ6 k).2.2.1 = some (tyJ6 k) := by decide +kernel
abbrev cJ6_bitCount_0f7a4 : ByteArray := prog_14_method_49_code
def yJ6_bitCount_0f7a4 : MethodName := ⟨RJ6, "bitCount", "(I)I"⟩
def RJ9 : String := "java/lang/Math"
def TJ9 : u_T := fun k => match k with
  | _ => ("", "", "", false)
def tyJ9 : Nat → FieldType := fun k => match k with
  | _ => .int
theorem nmJ9 : ∀ a, a < 0 → ∀ b, b < 0 → a ≠ b → (TJ9 a).2.1 ≠ (TJ9 b).2.1 := by decide +kernel
theorem tyJ9_ok : ∀ k, k < 0 → parseFieldDescriptor (TJ9 k).2.2.1 = some (tyJ9 k) := by decide +kernel
abbrev cJ9_max_7cf53 : ByteArray := prog_15_method_65_code
def yJ9_max_7cf53 : MethodName := ⟨RJ9, "max", "(II)I"⟩
abbrev cJ9_min_7cf53 : ByteArray := prog_15_method_69_code
def yJ9_min_7cf53 : MethodName := ⟨RJ9, "min", "(II)I"⟩
def RJ0 : String := "java/lang/String"
def TJ0 : u_T := fun k => match k with
  | _ => ("", "", "", false)
def tyJ0 : Nat → FieldType := fun k => match k with
  | _ => .int
theorem nmJ0 : ∀ a, a < 0 → ∀ b, b < 0 → a ≠ b → (TJ0 a).2.1 ≠ (TJ0 b).2.1 := by decide +kernel
theorem tyJ0_ok : ∀ k, k < 0 → parseFieldDescriptor (TJ0 k).2.2.1 = some (tyJ0 k) := by decide +kernel
def RJ10 : String := "java/lang/System"
def TJ10 : u_T := fun k => match k with
  | _ => ("", "", "", false)
def tyJ10 : Nat → FieldType := fun k => match k with
  | _ => .int
theorem nmJ10 : ∀ a, a < 0 → ∀ b, b < 0 → a ≠ b → (TJ10 a).2.1 ≠ (TJ10 b).2.1 := by decide +kernel
theorem tyJ10_ok : ∀ k, k < 0 → parseFieldDescriptor (TJ10 k).2.2.1 = some (tyJ10 k) := by decide +kernel
def RL : String := "WhoBacksLaw"
abbrev cL_element : ByteArray := method_3_code
def yL_element : MethodName := ⟨RL, "element", "(LWhoBacks;II[J)I"⟩
abbrev cL_law : ByteArray := code
def yL_law : MethodName := ⟨RL, "law", "([I)Z"⟩
abbrev vwCl : List vw_C := [(RX0, TX0, 12), (RX1, TX1, 2), (RX2, TX2, 8), (RX3, TX3, 8), (RX4, TX4, 13), (RX5, TX5, 6), (RX6, TX6, 11), (RX7, TX7, 8), (RX8, TX8, 24)]
end
section
/-! THE FLAT WORLD: all cells of class, reference and law by numbers 0 .. 105; a memory tells each cell's ints; references are fixed links -/
abbrev Mem : Type := Nat → Nat → Int32
def stm (σ : Mem) (i j : Nat) (v : Int32) : Mem := fun a => if a = i then upd (σ i) j v else σ a
theorem stm_row (σ : Mem) (i j : Nat) (v : Int32) : stm σ i j v i = upd (σ i) j v := by simp [stm]
theorem stm_ne (σ : Mem) {a i : Nat} (j : Nat) (v : Int32) (h : a ≠ i) : stm σ i j v a = σ a := by simp [stm, h]
def kd (i : Nat) : Nat × Nat :=
  if i < 66 then (match i % 22 with
    | 0 => (6, 11) | 1 => (4, 13) | 2 => (9, 8) | 3 => (9, 8) | 4 => (9, 8) | 5 => (9, 9) | 6 => (9, 9) | 7 => (9, 73) | 8 => (9, 73) | 9 => (9, 73) | 10 => (9, 73) | 11 => (9, 3) | 12 => (9, 3) | 13 => (10, 7) | 14 => (9, 73) | _ => (0, 12))
  else ([(7, 8), (11, 8), (5, 6), (5, 6), (5, 6), (5, 6), (5, 6), (5, 6), (5, 6), (5, 6), (9, 100), (9, 100), (9, 100), (9, 100), (9, 100), (9, 100), (9, 100), (9, 100), (1, 2), (3, 8), (5, 6), (9, 100), (2, 8), (9, 896), (9, 896), (8, 24), (9, 121), (9, 121), (9, 121), (9, 121), (9, 8), (9, 8), (9, 8), (9, 800), (9, 8), (9, 8), (9, 5), (9, 512), (9, 512), (12, 1)] : List (Nat × Nat)).getD (i - 66) (99, 0)
def lk (i k : Nat) : Option Nat :=
  if i < 66 then (match i % 22 with
    | 0 => if k = 0 then some (i + 1) else if k = 1 then some (i + 13) else if k = 7 then some (i + 14) else none
    | 1 => if 2 ≤ k ∧ k ≤ 12 then some (i - 1 + k) else none
    | 13 => if k < 7 then some (i + 2 + k) else none
    | _ => none)
  else if i = 66 then (if k = 0 then some 0 else if k = 1 then some 22 else if k = 2 then some 44 else if k = 4 then some 67 else if k = 5 then some 84 else if k = 6 then some 85 else if k = 7 then some 88 else none)
  else if i = 67 then (if k < 8 then some (68 + k) else none)
  else if i < 76 then (if k = 5 then some (i + 8) else none)
  else if i = 86 then (if k = 5 then some 87 else none)
  else if i = 88 then (if k = 0 then some 89 else if k = 1 then some 90 else none)
  else if i = 91 then (if k < 10 then some (92 + k) else if k = 16 then some 102 else if k = 21 then some 103 else if k = 22 then some 104 else none)
  else none
/-- what field k of cell i holds -/
def fv (ad : Nat → Nat) (r : Nat → Int32) (i k : Nat) : Value := if i = 85 ∧ k = 0 then .ref (ad (r 0).toNatClampNeg) else match lk i k with
  | some j => .ref (ad j)
  | none => .int (r k)
def cel (cA : Nat → ClassId) (ad : Nat → Nat) (o : Int64) (r : Nat → Int32) (i : Nat) : va_E :=
  if (kd i).1 = 9 then .inl (cA 0, (kd i).2, .inl r)
  else if (kd i).1 = 10 then .inl (cA 1, (kd i).2, .inr (.inr (.inr (.inr (fun k => (lk i k).map ad)))))
  else if (kd i).1 = 11 then .inl (cA 2, (kd i).2, .inr (.inr (.inr (.inr (fun k => (lk i k).map ad)))))
  else if (kd i).1 = 12 then .inl (cA 3, (kd i).2, .inr (.inl (fun _ => o)))
  else .inr ((kd i).1, (List.range (kd i).2).map (fv ad r i))
def wl (cA : Nat → ClassId) (ad : Nat → Nat) (o : Int64) (σ : Mem) : va_W := (List.range 106).map (fun i => (ad i, cel cA ad o (σ i) i))
theorem wl_get (cA : Nat → ClassId) (ad : Nat → Nat) (o : Int64) (σ : Mem) {i : Nat} (h : i < 106) : (wl cA ad o σ)[i]? = some (ad i, cel cA ad o (σ i) i) := by
  simp [wl, h]
theorem wl_set (cA : Nat → ClassId) (ad : Nat → Nat) (o : Int64) (σ : Mem) {i : Nat} (r : Nat → Int32) : (wl cA ad o σ).set i (ad i, cel cA ad o r i) = wl cA ad o (fun a => if a = i then r else σ a) := by
  apply List.ext_getElem?
  intro j
  rw [List.getElem?_set]
  by_cases h : i = j
  · subst h
    by_cases h2 : i < 106 <;> simp [wl, h2]
  · have h' : ¬ j = i := fun q => h q.symm
    by_cases h2 : j < 106 <;> simp [wl, h, h', h2]
theorem cel_obj {cA : Nat → ClassId} {ad : Nat → Nat} {o : Int64} {r : Nat → Int32} {i ci n : Nat} (h : kd i = (ci, n)) (hc : ci < 9) : cel cA ad o r i = .inr (ci, (List.range n).map (fv ad r i)) := by
  have h1 : ¬ ci = 9 := by omega
  have h2 : ¬ ci = 10 := by omega
  have h3 : ¬ ci = 11 := by omega
  have h4 : ¬ ci = 12 := by omega
  simp [cel, h, h1, h2, h3, h4]
theorem cel_arr {cA : Nat → ClassId} {ad : Nat → Nat} {o : Int64} {r : Nat → Int32} {i n : Nat} (h : kd i = (9, n)) : cel cA ad o r i = .inl (cA 0, n, .inl r) := by simp [cel, h]
theorem cel_refC {cA : Nat → ClassId} {ad : Nat → Nat} {o : Int64} {r : Nat → Int32} {i n : Nat} (h : kd i = (10, n)) : cel cA ad o r i = .inl (cA 1, n, .inr (.inr (.inr (.inr (fun k => (lk i k).map ad))))) := by simp [cel, h]
theorem cel_refS {cA : Nat → ClassId} {ad : Nat → Nat} {o : Int64} {r : Nat → Int32} {i n : Nat} (h : kd i = (11, n)) : cel cA ad o r i = .inl (cA 2, n, .inr (.inr (.inr (.inr (fun k => (lk i k).map ad))))) := by simp [cel, h]
theorem fs_get (ad : Nat → Nat) (r : Nat → Int32) (i : Nat) {n k : Nat} (h : k < n) : ((List.range n).map (fv ad r i))[k]? = some (fv ad r i k) := by simp [h]
theorem fs_set (ad : Nat → Nat) (r : Nat → Int32) (i : Nat) {n k : Nat} (v : Int32) (hl : lk i k = none) (h85 : ¬ (i = 85 ∧ k = 0)) : ((List.range n).map (fv ad r i)).set k (.int v) = (List.range n).map (fv ad (upd r k v) i) := by
  apply List.ext_getElem?
  intro j
  rw [List.getElem?_set]
  by_cases h : k = j
  · subst h
    by_cases h2 : k < n
    · simp [h2, fv, h85, hl, upd]
    · simp [h2]
  · have h' : ¬ j = k := fun q => h q.symm
    by_cases h2 : j < n
    · simp only [h, if_false, List.getElem?_map, List.getElem?_range h2, Option.map_some, Option.some.injEq]
      by_cases h3 : i = 85 ∧ j = 0
      · have h4 : ¬ (0 = k) := by omega
        simp [fv, h3, upd, h4]
      · simp [fv, h3, upd, h']
    · simp [h, h2]
theorem fs_setr (ad : Nat → Nat) (r : Nat → Int32) {n : Nat} (j : Nat) (hj : j < 2 ^ 31) : ((List.range n).map (fv ad r 85)).set 0 (.ref (ad j)) = (List.range n).map (fv ad (upd r 0 (nI j)) 85) := by
  apply List.ext_getElem?
  intro q
  rw [List.getElem?_set]
  by_cases h : 0 = q
  · subst h
    by_cases h2 : 0 < n
    · simp [h2, fv, upd, nI_clamp hj]
    · simp [h2]
  · have h' : ¬ q = 0 := fun z => h z.symm
    by_cases h2 : q < n
    · simp [h, h2, fv, h', upd]
    · simp [h, h2]
/-! words -/
def tbg : List Cond := lw_tbl.filter goodWord
def WY (y : MethodName) (cc : ByteArray) (n : Nat) (ret : Option FieldType) : List Cond := .code y cc n ret :: tbg
def RM (k : Nat) : Room := { frames := k, cells := 0, slots := 0, locals := 40 * k }
theorem mem_places {ws : List Cond} (ps : List Nat) (hp : ws = ps.filterMap (fun i => lw_tbl[i]?)) (hg : ws.all goodWord = true) : ∀ w ∈ ws, w ∈ tbg := by
  intro w hw
  have h1 := List.all_eq_true.mp hg w hw
  rw [hp] at hw
  obtain ⟨i, -, hi⟩ := List.mem_filterMap.mp hw
  exact List.mem_filter.mpr ⟨List.mem_of_getElem? hi, h1⟩
theorem tm {w : Cond} (i : Nat) (h : lw_tbl[i]? = some w) (hg : goodWord w = true) : w ∈ tbg := List.mem_filter.mpr ⟨List.mem_of_getElem? h, hg⟩
theorem tbg_good {ws : List Cond} (h : ∀ w ∈ ws, w ∈ tbg) : GoodIn tbg ws := fun w hw => ⟨h w hw, good_of_word (List.mem_filter.mp (h w hw)).2⟩
/-! contexts -/
abbrev CX (p : Program) (s : State) (m : MethodId) (args : Array Value) (c : Code) (cc : ByteArray) (nL : Nat) (own : String) : Prop := CallFix p m c cc nL s args tbg own
abbrev wtys (cA : Nat → ClassId) : List (ClassId × FieldType) := [(cA 0, .int), (cA 1, .object "WhoBacks$Cart"), (cA 2, .object "WhoBacks$Shelf"), (cA 3, .long)]
def WX (D : va_G) (cA : Nat → ClassId) (ad : Nat → Nat) (A : Nat → Prop) (s : State) : Prop := va_K D vwCl (wtys cA) s ∧ (∀ i j, i < 106 → j < 106 → ad i = ad j → i = j) ∧ (∀ i, i < 106 → A (ad i)) ∧ (∀ q, s.heap.size ≤ q → A q)
def WP (D : va_G) (cA : Nat → ClassId) (ad : Nat → Nat) (o : Int64) (σ : Mem) (H : Heap) : Prop := va_P D vwCl (wl cA ad o σ) H
def FA (ad : Nat → Nat) (sz : Nat) : Nat → Prop := fun q => (∃ i, i < 106 ∧ q = ad i) ∨ sz ≤ q
def PW (D : va_G) (cA : Nat → ClassId) (ad : Nat → Nat) (o : Int64) (σ : Mem) (sz : Nat) : State → Prop := fun U => U.heap.size = sz ∧ WP D cA ad o σ U.heap ∧ va_K D vwCl (wtys cA) U ∧ (∀ i j, i < 106 → j < 106 → ad i = ad j → i = j)
def QW (D : va_G) (cA : Nat → ClassId) (ad : Nat → Nat) (o : Int64) : Mem → State → Prop := fun σ t => WP D cA ad o σ t.heap ∧ va_K D vwCl (wtys cA) t
theorem WX_D {D : va_G} {cA : Nat → ClassId} {ad : Nat → Nat} {A : Nat → Prop} {s : State} (X : WX D cA ad A s) (o : Int64) (σ : Mem) : va_D A (wl cA ad o σ) := by
  have key : ∀ (k : Nat) (q : Nat × va_E), (wl cA ad o σ)[k]? = some q → k < 106 ∧ q.1 = ad k := by
    intro k q h
    have hk : k < 106 := by
      have := (List.getElem?_eq_some_iff.mp h).1
      simpa [wl] using this
    rw [wl_get cA ad o σ hk] at h
    exact ⟨hk, by rw [← Option.some.inj h]⟩
  refine ⟨fun i j a b ha hb hab => ?_, fun k q h => ?_⟩
  · obtain ⟨h1, h2⟩ := key i a ha
    obtain ⟨h3, h4⟩ := key j b hb
    exact X.2.1 i j h1 h3 (by rw [← h2, ← h4]; exact hab)
  · obtain ⟨h1, h2⟩ := key k q h
    rw [h2]
    exact X.2.2.1 k h1
section FW
variable {p : Program} {l : Launch} {e : Env} {R : Room} {s : State} {m : MethodId} {args : Array Value} {below : List Frame} {meth : Method} {c : Code} {H : Heap} {locs : List Loc} {cells slots : Nat} {Q : State → Prop}
variable {cc : ByteArray} {pc nL : Nat} {ls : Array Slot} {rest : List Value} {D : va_G} {cA : Nat → ClassId} {ad : Nat → Nat} {A : Nat → Prop} {σ : Mem} {o : Int64} {own : String}
theorem r_get {C : String} {T : u_T} {N ci index : Nat} (C0 : CX p s m args c cc nL own) (X : WX D cA ad A s) (hP : WP D cA ad o σ H) (i k : Nat) {v : Value} (hi : i < 106) (hkd : kd i = (ci, N)) (hci : ci < 9) (hc : vwCl[ci]? = some (C, T, N)) (hin : ∀ w ∈ u_ws C T N, w ∈ tbg) (hk : k < N) (hlink : Cond.fieldLink own index (T k).1 (T k).2.1 (T k).2.2.1 ∈ tbg) (hv : fv ad (σ i) i k = v) (hdg : decode cc pc = .ok (.getfield index, 3))
    (kk : W p l e R s m args below meth c H locs cells slots Q (F0 m (pc + 3) ls (v :: rest))) : W p l e R s m args below meth c H locs cells slots Q (F0 m pc ls (.ref (ad i) :: rest)) := by
  obtain ⟨hx, hb, hml, hown, hts⟩ := C0
  refine va_get (D := D) (ci := ci) (C := C) (T := T) (N := N) (v := v) hx hb hts hin hown X.1 hP i (fs := (List.range N).map (fv ad (σ i) i)) ?_ hc k hk (hts _ hlink) (fun _ h => h) ?_ hdg kk
  · rw [wl_get cA ad o σ hi, cel_obj hkd hci]
  · rw [fs_get ad (σ i) i hk, hv]
theorem r_put {C : String} {T : u_T} {N ci index : Nat} (C0 : CX p s m args c cc nL own) (X : WX D cA ad A s) (hP : WP D cA ad o σ H) (hS : va_S A s.heap H locs) (i k : Nat) {v : Int32} {ty : FieldType} (hi : i < 106) (hkd : kd i = (ci, N)) (hci : ci < 9) (hc : vwCl[ci]? = some (C, T, N)) (hin : ∀ w ∈ u_ws C T N, w ∈ tbg) (ty0 : Nat → FieldType) (hty : ∀ k, k < N → parseFieldDescriptor (T k).2.2.1 = some (ty0 k)) (hnm : ∀ a, a < N → ∀ b, b < N → a ≠ b → (T a).2.1 ≠ (T b).2.1) (hk : k < N) (hlink : Cond.fieldLink own index (T k).1 (T k).2.1 (T k).2.2.1 ∈ tbg) (hfin : (T k).2.2.2 = false) (hd : ty0 k = ty) (hn : narrow ty (.int v) = .int v) (hfit : fits ty (.int v) = true) (hl : lk i k = none) (h85 : ¬ (i = 85 ∧ k = 0)) (hdg : decode cc pc = .ok (.putfield index, 3))
    (kk : ∀ (H1 : Heap) (locs1 : List Loc), WP D cA ad o (stm σ i k v) H1 → va_S A s.heap H1 locs1 → W p l e R s m args below meth c H1 locs1 cells slots Q (F0 m (pc + 3) ls rest)) : W p l e R s m args below meth c H locs cells slots Q (F0 m pc ls (.int v :: .ref (ad i) :: rest)) := by
  obtain ⟨hx, hb, hml, hown, hts⟩ := C0
  refine va_put (D := D) (ci := ci) (C := C) (T := T) (N := N) (v := .int v) (ty := ty) hx hb hts hin ty0 hty hnm hown X.1 hP (WX_D X o σ) hS i (fs := (List.range N).map (fv ad (σ i) i)) ?_ hc k hk (hts _ hlink) (fun _ h => h) hfin (by rw [hty k hk, hd]) hn hfit (by simpa using hk) hdg (fun H1 locs1 hP1 _ hS1 => kk H1 locs1 ?_ hS1)
  · rw [wl_get cA ad o σ hi, cel_obj hkd hci]
  · rw [fs_set ad (σ i) i v hl h85, ← cel_obj (cA := cA) (o := o) hkd hci, wl_set] at hP1
    exact hP1
theorem r_iald (C0 : CX p s m args c cc nL own) (X : WX D cA ad A s) (hP : WP D cA ad o σ H) (i : Nat) {n : Nat} (hi : i < 106) (hkd : kd i = (9, n)) {j : Int32} (hin : vp_in j n) (hdg : decode cc pc = .ok (.iaload, 1))
    (kk : W p l e R s m args below meth c H locs cells slots Q (F0 m (pc + 1) ls (.int (σ i j.toNatClampNeg) :: rest))) : W p l e R s m args below meth c H locs cells slots Q (F0 m pc ls (.int j :: .ref (ad i) :: rest)) :=
  va_iald C0.1 C0.2.1 X.1 hP i 0 (cA := cA 0) (n := n) (f := σ i) (by rw [wl_get cA ad o σ hi, cel_arr hkd]) rfl hin hdg kk
theorem r_iast (C0 : CX p s m args c cc nL own) (X : WX D cA ad A s) (hP : WP D cA ad o σ H) (hS : va_S A s.heap H locs) (i : Nat) {n : Nat} (hi : i < 106) (hkd : kd i = (9, n)) {j x : Int32} (hin : vp_in j n) (hdg : decode cc pc = .ok (.iastore, 1))
    (kk : ∀ (H1 : Heap) (locs1 : List Loc), WP D cA ad o (stm σ i j.toNatClampNeg x) H1 → va_S A s.heap H1 locs1 → W p l e R s m args below meth c H1 locs1 cells slots Q (F0 m (pc + 1) ls rest)) : W p l e R s m args below meth c H locs cells slots Q (F0 m pc ls (.int x :: .int j :: .ref (ad i) :: rest)) := by
  refine va_iast C0.1 C0.2.1 X.1 hP (WX_D X o σ) hS i 0 (cA := cA 0) (n := n) (f := σ i) (by rw [wl_get cA ad o σ hi, cel_arr hkd]) rfl hin hdg (fun H1 locs1 hP1 _ hS1 => kk H1 locs1 ?_ hS1)
  rw [← cel_arr (cA := cA) (ad := ad) (o := o) hkd, wl_set] at hP1
  exact hP1
theorem r_aaldC (C0 : CX p s m args c cc nL own) (X : WX D cA ad A s) (hP : WP D cA ad o σ H) (i : Nat) {n q : Nat} (hi : i < 106) (hkd : kd i = (10, n)) {j : Int32} (hin : vp_in j n) (hl : lk i j.toNatClampNeg = some q) (hdg : decode cc pc = .ok (.aaload, 1))
    (kk : W p l e R s m args below meth c H locs cells slots Q (F0 m (pc + 1) ls (.ref (ad q) :: rest))) : W p l e R s m args below meth c H locs cells slots Q (F0 m pc ls (.int j :: .ref (ad i) :: rest)) := by
  refine va_aldq C0.1 C0.2.1 X.1 hP i 1 (cA := cA 1) (C := "WhoBacks$Cart") (n := n) (f := fun k => (lk i k).map ad) (by rw [wl_get cA ad o σ hi, cel_refC hkd]) rfl hin hdg ?_
  rw [hl]
  exact kk
theorem r_aaldS (C0 : CX p s m args c cc nL own) (X : WX D cA ad A s) (hP : WP D cA ad o σ H) (i : Nat) {n q : Nat} (hi : i < 106) (hkd : kd i = (11, n)) {j : Int32} (hin : vp_in j n) (hl : lk i j.toNatClampNeg = some q) (hdg : decode cc pc = .ok (.aaload, 1))
    (kk : W p l e R s m args below meth c H locs cells slots Q (F0 m (pc + 1) ls (.ref (ad q) :: rest))) : W p l e R s m args below meth c H locs cells slots Q (F0 m pc ls (.int j :: .ref (ad i) :: rest)) := by
  refine va_aldq C0.1 C0.2.1 X.1 hP i 2 (cA := cA 2) (C := "WhoBacks$Shelf") (n := n) (f := fun k => (lk i k).map ad) (by rw [wl_get cA ad o σ hi, cel_refS hkd]) rfl hin hdg ?_
  rw [hl]
  exact kk
end FW
end
section
/-! CONTRACTS AND CALLS over the flat world -/
theorem WY_good {y : MethodName} {cc : ByteArray} {n : Nat} {ret : Option FieldType} (h : Cond.code y cc n ret ∈ tbg) : ∀ w ∈ WY y cc n ret, w ∈ tbg := fun w hw => (List.mem_cons.mp hw).elim (fun q => q ▸ h) id
def LVt (own : String) (index : Nat) (C : String) (y : MethodName) (bytes : ByteArray) (maxL : Nat) (ret : Option FieldType) (n : Nat) : Prop := GoodIn tbg (wsV own index C y (WY y bytes maxL ret)) ∧ (y.cls = C ∧ y.cls ≠ "java/lang/invoke/MethodHandle" ∧ y.cls ≠ "java/lang/invoke/VarHandle" ∧ (parseMethodDescriptor y.desc).map (fun d => d.parameters.length) = some n)
def LSt (own : String) (index : Nat) (y : MethodName) (bytes : ByteArray) (maxL : Nat) (ret : Option FieldType) (n : Nat) : Prop := GoodIn tbg (wsS own index y (WY y bytes maxL ret)) ∧ (y.cls = own ∧ y.cls ≠ "java/lang/invoke/MethodHandle" ∧ y.cls ≠ "java/lang/invoke/VarHandle" ∧ (parseMethodDescriptor y.desc).map (fun d => d.parameters.length) = some n)
theorem mkLVt {own : String} {index : Nat} {C : String} {y : MethodName} {bytes : ByteArray} {maxL : Nat} {ret : Option FieldType} {n : Nat} (h1 : Cond.methodLink own index y ∈ tbg) (h2 : Cond.instanceMethod y ∈ tbg) (h3 : Cond.selects C y y ∈ tbg) (h4 : Cond.initialized C ∈ tbg) (h5 : Cond.code y bytes maxL ret ∈ tbg) (hd : y.cls = C ∧ y.cls ≠ "java/lang/invoke/MethodHandle" ∧ y.cls ≠ "java/lang/invoke/VarHandle" ∧ (parseMethodDescriptor y.desc).map (fun d => d.parameters.length) = some n) : LVt own index C y bytes maxL ret n := by
  refine ⟨tbg_good (fun w hw => ?_), hd⟩
  simp only [wsV, List.cons_append, List.nil_append, List.mem_cons] at hw
  rcases hw with rfl | rfl | rfl | rfl | hw
  · exact h1
  · exact h2
  · exact h3
  · exact h4
  · exact WY_good h5 w hw
theorem mkLSt {own : String} {index : Nat} {y : MethodName} {bytes : ByteArray} {maxL : Nat} {ret : Option FieldType} {n : Nat} (h1 : Cond.methodLink own index y ∈ tbg) (h2 : Cond.static y ∈ tbg) (h4 : Cond.initialized own ∈ tbg) (h5 : Cond.code y bytes maxL ret ∈ tbg) (hd : y.cls = own ∧ y.cls ≠ "java/lang/invoke/MethodHandle" ∧ y.cls ≠ "java/lang/invoke/VarHandle" ∧ (parseMethodDescriptor y.desc).map (fun d => d.parameters.length) = some n) : LSt own index y bytes maxL ret n := by
  refine ⟨tbg_good (fun w hw => ?_), hd⟩
  simp only [wsS, List.cons_append, List.nil_append, List.mem_cons] at hw
  rcases hw with rfl | rfl | rfl | hw
  · exact h1
  · exact h2
  · exact h4
  · exact WY_good h5 w hw
/-- an answer that is a cell of the world, or null -/
def QQ (ad : Nat → Nat) (post : Option Nat → Mem → Prop) : Option Nat → Mem → Prop := fun r u => ∃ x : Option Nat, r = x.map ad ∧ post x u
section FC
variable {p : Program} {l : Launch} {e : Env} {R : Room} {s : State} {m : MethodId} {args : Array Value} {below : List Frame} {meth : Method} {c : Code} {H : Heap} {locs : List Loc} {cells slots : Nat} {Q : State → Prop}
variable {cc : ByteArray} {pc nL : Nat} {ls : Array Slot} {rest st0 : List Value} {D : va_G} {cA : Nat → ClassId} {ad : Nat → Nat} {A : Nat → Prop} {σ : Mem} {o : Int64} {own : String}
theorem ct_of {y : MethodName} {own : String} (ho : y.cls = own) {n k : Nat} {ret : Option FieldType} {As : List Value} {Qf : (Nat → Prop) → Array Value → State → Outcome → State → Prop} (hy : plainName y.cls = true) (hn : (lg_sl As).length ≤ n)
    (body : ∀ (p : Program) (e : Env) (s : State) (m : MethodId) (below : List Frame) (meth : Method) (c : Code) (ls : Array Slot), CX p s m As.toArray c cc n own → WX D cA ad (FA ad s.heap.size) s → meth.sig.returnType = ret → meth.locks = false → WP D cA ad o σ s.heap → lv_has ls n (lv_args 0 As) → W p l e (RM k) s m As.toArray below meth c s.heap [] 0 0 (MQ below (Qf (FA ad s.heap.size)) As.toArray s 0 0 (FA ad s.heap.size)) (F0 m 0 ls [])) (sz : Nat) :
    Met l y (WY y cc n ret) (RM k) (va_Pc As (PW D cA ad o σ sz)) (Qf (FA ad sz)) 0 0 (FA ad sz) := by
  refine Met.ofW (cc := cc) (maxL := n) (ret := ret) hy rfl ?_
  intro p e s m args below meth c s₁ B hml hv
  obtain ⟨rfl, hsz, hP, hK, hinj⟩ := hv
  subst hsz
  have hl := lv_entry As (n := n) hn
  rw [lg_entry_eq]
  generalize (lg_sl As ++ List.replicate (n - (lg_sl As).length) Slot.unset).toArray = ls at hl ⊢
  have hts := atoms_spec (ws := WY y cc n ret) B.pre
  exact body p e s m below meth c ls ⟨B.exec, B.bytes, hml, ho ▸ findClass_of_methodNamed B.named, fun w hw => hts w (List.mem_cons_of_mem _ hw)⟩ ⟨hK, hinj, fun i h => Or.inl ⟨i, h, rfl⟩, fun q h => Or.inr h⟩ B.returns B.notSynchronized hP hl
theorem r_iret {post : Int32 → Mem → Prop} {v : Int32} (C0 : CX p s m args c cc nL own) (X : WX D cA ad A s) (hP : WP D cA ad o σ H) (hS : va_S A s.heap H locs) (hr : meth.sig.returnType = some .int) (hlk : meth.locks = false) (hdg : decode cc pc = .ok (.ireturn, 1)) (hpost : post v σ) : W p l e R s m args below meth c H locs cells slots (MQ below (va_Qi post (QW D cA ad o) A) args s cells slots A) (F0 m pc ls [.int v]) :=
  W.iret C0.1 C0.2.1 hr (fun t ht hW => ⟨⟨v, σ, rfl, hpost, by rw [ht]; exact hP, va_K.moved hW.alike X.1⟩, hS.F ht⟩) hS.2.2 hdg hlk
theorem r_zret {post : Int32 → Mem → Prop} {v : Int32} (C0 : CX p s m args c cc nL own) (X : WX D cA ad A s) (hP : WP D cA ad o σ H) (hS : va_S A s.heap H locs) (hr : meth.sig.returnType = some .boolean) (hlk : meth.locks = false) (hdg : decode cc pc = .ok (.ireturn, 1)) (h01 : v = 0 ∨ v = 1) (hpost : post v σ) : W p l e R s m args below meth c H locs cells slots (MQ below (va_Qi post (QW D cA ad o) A) args s cells slots A) (F0 m pc ls [.int v]) :=
  W.zret C0.1 C0.2.1 hr (by rcases h01 with rfl | rfl <;> rfl) (fun t ht hW => ⟨⟨v, σ, rfl, hpost, by rw [ht]; exact hP, va_K.moved hW.alike X.1⟩, hS.F ht⟩) hS.2.2 hdg hlk
theorem r_vret {post : Mem → Prop} (C0 : CX p s m args c cc nL own) (X : WX D cA ad A s) (hP : WP D cA ad o σ H) (hS : va_S A s.heap H locs) (hr : meth.sig.returnType = none) (hlk : meth.locks = false) (hdg : decode cc pc = .ok (.return_, 1)) (hpost : post σ) : W p l e R s m args below meth c H locs cells slots (MQ below (va_Qv post (QW D cA ad o) A) args s cells slots A) (F0 m pc ls []) :=
  W.vret C0.1 C0.2.1 hr (fun t ht hW => ⟨⟨σ, rfl, hpost, by rw [ht]; exact hP, va_K.moved hW.alike X.1⟩, hS.F ht⟩) hS.2.2 hdg hlk
theorem r_aret {post : Option Nat → Mem → Prop} {q : Nat} {rt : String} (C0 : CX p s m args c cc nL own) (X : WX D cA ad A s) (hP : WP D cA ad o σ H) (hS : va_S A s.heap H locs) (hr : meth.sig.returnType = some (.object rt)) (hlk : meth.locks = false) (hdg : decode cc pc = .ok (.areturn, 1)) (hpost : post (some q) σ) : W p l e R s m args below meth c H locs cells slots (MQ below (va_Qq (QQ ad post) (QW D cA ad o) A) args s cells slots A) (F0 m pc ls [.ref (ad q)]) :=
  W.aret C0.1 C0.2.1 hr (Or.inl ⟨_, rfl⟩) (Or.inr ⟨_, rfl⟩) (fun t ht hW => ⟨⟨some (ad q), σ, rfl, ⟨some q, rfl, hpost⟩, by rw [ht]; exact hP, va_K.moved hW.alike X.1⟩, hS.F ht⟩) hS.2.2 hdg hlk
theorem r_aretN {post : Option Nat → Mem → Prop} {rt : String} (C0 : CX p s m args c cc nL own) (X : WX D cA ad A s) (hP : WP D cA ad o σ H) (hS : va_S A s.heap H locs) (hr : meth.sig.returnType = some (.object rt)) (hlk : meth.locks = false) (hdg : decode cc pc = .ok (.areturn, 1)) (hpost : post none σ) : W p l e R s m args below meth c H locs cells slots (MQ below (va_Qq (QQ ad post) (QW D cA ad o) A) args s cells slots A) (F0 m pc ls [.null]) :=
  W.aret C0.1 C0.2.1 hr (Or.inl ⟨_, rfl⟩) (Or.inl rfl) (fun t ht hW => ⟨⟨none, σ, rfl, ⟨none, rfl, hpost⟩, by rw [ht]; exact hP, va_K.moved hW.alike X.1⟩, hS.F ht⟩) hS.2.2 hdg hlk
theorem PW_blind {As : List Value} {sz : Nat} : FrameBlind (va_Pc As (PW D cA ad o σ sz)) := fun a U g mk q => ⟨q.1, q.2.1, q.2.2.1, va_K.moved (u := U) (U := U.calling g mk a) (Vm.Alike.refl U.vm) q.2.2.2.1, q.2.2.2.2⟩
theorem FA_sub (X : WX D cA ad A s) (hS : va_S A s.heap H locs) : ∀ q, FA ad H.size q → A q := fun q h => h.elim (fun ⟨i, hi, e⟩ => e ▸ X.2.2.1 i hi) (fun h => X.2.2.2 q (Nat.le_trans hS.1 h))
theorem PW_of (X : WX D cA ad A s) (hP : WP D cA ad o σ H) {U : State} (hU : U.heap = H) (hW : s.WarmedH U.vm) : PW D cA ad o σ H.size U := ⟨by rw [hU], by rw [hU]; exact hP, va_K.moved hW.alike X.1, X.2.1⟩
variable {y : MethodName} {bytes : ByteArray} {maxL n index k : Nat} {ret : Option FieldType} {C : String} {As : List Value} {b ci N : Nat} {T : u_T} {Qf : (Nat → Prop) → Array Value → State → Outcome → State → Prop}
theorem r_runV (C0 : CX p s m args c cc nL own) (X : WX D cA ad A s) (hP : WP D cA ad o σ H) (hL : LVt own index C y bytes maxL ret n) (hM : ∀ sz, Met l y (WY y bytes maxL ret) (RM k) (va_Pc (.ref (ad b) :: As) (PW D cA ad o σ sz)) (Qf (FA ad sz)) 0 0 (FA ad sz)) (hb : b < 106) (hkd : kd b = (ci, N)) (hci : ci < 9) (hc : vwCl[ci]? = some (C, T, N)) (hR : k + 1 ≤ R.frames ∧ 8 + (maxL + 11) + 40 * k ≤ R.locals) (hn : As.length = n) (hsz : ls.size = nL) (hst : st0 = As.reverse ++ .ref (ad b) :: rest) (hrm : (rest.map fun v => v.category).sum ≤ 8) (hdg : decode cc pc = .ok (.invokevirtual index, 3)) (hf : cells ≤ R.cells ∧ slots ≤ R.slots) :
    va_Run p l e R s m args below meth c H locs cells slots 0 0 (F0 m pc ls st0) rest (Qf (FA ad H.size) (Value.ref (ad b) :: As).toArray) (FA ad H.size) :=
  va_runV C0 (hM H.size) (cwV n C0.2.2.2.2 hL.1 rfl rfl rfl hL.2 hR) ⟨PW_blind, va_recv X.1 hP hc (q0 := b) (fs := (List.range N).map (fv ad (σ b) b)) (by rw [wl_get cA ad o σ hb, cel_obj hkd hci]), fun U hU hW => ⟨rfl, PW_of X hP hU hW⟩⟩ rfl hn hsz hst (lv_room hrm) hdg hf
theorem r_runS (C0 : CX p s m args c cc nL own) (X : WX D cA ad A s) (hP : WP D cA ad o σ H) (hL : LSt own index y bytes maxL ret n) (hM : ∀ sz, Met l y (WY y bytes maxL ret) (RM k) (va_Pc As (PW D cA ad o σ sz)) (Qf (FA ad sz)) 0 0 (FA ad sz)) (hR : k + 1 ≤ R.frames ∧ 8 + (maxL + 11) + 40 * k ≤ R.locals) (hn : As.length = n) (hsz : ls.size = nL) (hst : st0 = As.reverse ++ rest) (hrm : (rest.map fun v => v.category).sum ≤ 8) (hdg : decode cc pc = .ok (.invokestatic index, 3)) (hf : cells ≤ R.cells ∧ slots ≤ R.slots) :
    va_Run p l e R s m args below meth c H locs cells slots 0 0 (F0 m pc ls st0) rest (Qf (FA ad H.size) As.toArray) (FA ad H.size) :=
  va_runS C0 (hM H.size) (cwS n C0.2.2.2.2 hL.1 rfl rfl rfl hL.2 hR) ⟨PW_blind, fun U hU hW => ⟨rfl, PW_of X hP hU hW⟩⟩ rfl hn hsz hst (lv_room hrm) hdg hf
theorem r_ci {post : Int32 → Mem → Prop} {aa : Array Value} (X : WX D cA ad A s) (hS : va_S A s.heap H locs) (hr : va_Run p l e R s m args below meth c H locs cells slots 0 0 (F0 m pc ls st0) rest (va_Qi post (QW D cA ad o) (FA ad H.size) aa) (FA ad H.size))
    (kk : ∀ (r : Int32) (σ' : Mem) (H1 : Heap) (locs1 : List Loc), post r σ' → WP D cA ad o σ' H1 → va_S A s.heap H1 locs1 → W p l e R s m args below meth c H1 locs1 cells slots Q (F0 m (pc + 3) ls (.int r :: rest))) : W p l e R s m args below meth c H locs cells slots Q (F0 m pc ls st0) :=
  va_calli hr hS (fun q _ h => FA_sub X hS q h) (FA_sub X hS) (fun r u t H1 locs1 ht _ hw hB _ _ hS1 => kk r u H1 locs1 hw (by rw [← ht]; exact hB.1) hS1)
theorem r_cv {post : Mem → Prop} {aa : Array Value} (X : WX D cA ad A s) (hS : va_S A s.heap H locs) (hr : va_Run p l e R s m args below meth c H locs cells slots 0 0 (F0 m pc ls st0) rest (va_Qv post (QW D cA ad o) (FA ad H.size) aa) (FA ad H.size))
    (kk : ∀ (σ' : Mem) (H1 : Heap) (locs1 : List Loc), post σ' → WP D cA ad o σ' H1 → va_S A s.heap H1 locs1 → W p l e R s m args below meth c H1 locs1 cells slots Q (F0 m (pc + 3) ls rest)) : W p l e R s m args below meth c H locs cells slots Q (F0 m pc ls st0) :=
  va_callv hr hS (fun q _ h => FA_sub X hS q h) (FA_sub X hS) (fun u t H1 locs1 ht _ hw hB _ _ hS1 => kk u H1 locs1 hw (by rw [← ht]; exact hB.1) hS1)
theorem r_cl {post : Int64 → Mem → Prop} {aa : Array Value} (X : WX D cA ad A s) (hS : va_S A s.heap H locs) (hr : va_Run p l e R s m args below meth c H locs cells slots 0 0 (F0 m pc ls st0) rest (va_Ql post (QW D cA ad o) (FA ad H.size) aa) (FA ad H.size))
    (kk : ∀ (r : Int64) (σ' : Mem) (H1 : Heap) (locs1 : List Loc), post r σ' → WP D cA ad o σ' H1 → va_S A s.heap H1 locs1 → W p l e R s m args below meth c H1 locs1 cells slots Q (F0 m (pc + 3) ls (.long r :: rest))) : W p l e R s m args below meth c H locs cells slots Q (F0 m pc ls st0) :=
  va_calll hr hS (fun q _ h => FA_sub X hS q h) (FA_sub X hS) (fun r u t H1 locs1 ht _ hw hB _ _ hS1 => kk r u H1 locs1 hw (by rw [← ht]; exact hB.1) hS1)
theorem r_cq {post : Option Nat → Mem → Prop} {aa : Array Value} (X : WX D cA ad A s) (hS : va_S A s.heap H locs) (hr : va_Run p l e R s m args below meth c H locs cells slots 0 0 (F0 m pc ls st0) rest (va_Qq (QQ ad post) (QW D cA ad o) (FA ad H.size) aa) (FA ad H.size))
    (kn : ∀ (σ' : Mem) (H1 : Heap) (locs1 : List Loc), post none σ' → WP D cA ad o σ' H1 → va_S A s.heap H1 locs1 → W p l e R s m args below meth c H1 locs1 cells slots Q (F0 m (pc + 3) ls (.null :: rest)))
    (kk : ∀ (x : Nat) (σ' : Mem) (H1 : Heap) (locs1 : List Loc), post (some x) σ' → WP D cA ad o σ' H1 → va_S A s.heap H1 locs1 → W p l e R s m args below meth c H1 locs1 cells slots Q (F0 m (pc + 3) ls (.ref (ad x) :: rest))) : W p l e R s m args below meth c H locs cells slots Q (F0 m pc ls st0) :=
  va_callq hr hS (fun q _ h => FA_sub X hS q h) (FA_sub X hS) (fun r u t H1 locs1 ht _ hw hB _ _ hS1 => by
    obtain ⟨x, rfl, hw⟩ := hw
    cases x with
    | none => exact kn u H1 locs1 hw (by rw [← ht]; exact hB.1) hS1
    | some x => exact kk x u H1 locs1 hw (by rw [← ht]; exact hB.1) hS1)
end FC
end
section
theorem inX0 : ∀ w ∈ u_ws RX0 TX0 12, w ∈ tbg := mem_places [194, 196, 198, 200, 202, 204, 206, 208, 210, 212, 214, 216] (by decide +kernel) (by decide +kernel)
theorem nk_0_0 : ∀ i, i < 106 → kd i = (0, 12) → lk i 0 = none ∧ ¬ (i = 85 ∧ 0 = 0) := by decide +kernel
theorem nk_0_1 : ∀ i, i < 106 → kd i = (0, 12) → lk i 1 = none ∧ ¬ (i = 85 ∧ 1 = 0) := by decide +kernel
theorem nk_0_2 : ∀ i, i < 106 → kd i = (0, 12) → lk i 2 = none ∧ ¬ (i = 85 ∧ 2 = 0) := by decide +kernel
theorem nk_0_3 : ∀ i, i < 106 → kd i = (0, 12) → lk i 3 = none ∧ ¬ (i = 85 ∧ 3 = 0) := by decide +kernel
theorem nk_0_4 : ∀ i, i < 106 → kd i = (0, 12) → lk i 4 = none ∧ ¬ (i = 85 ∧ 4 = 0) := by decide +kernel
theorem nk_0_5 : ∀ i, i < 106 → kd i = (0, 12) → lk i 5 = none ∧ ¬ (i = 85 ∧ 5 = 0) := by decide +kernel
theorem nk_0_6 : ∀ i, i < 106 → kd i = (0, 12) → lk i 6 = none ∧ ¬ (i = 85 ∧ 6 = 0) := by decide +kernel
theorem nk_0_7 : ∀ i, i < 106 → kd i = (0, 12) → lk i 7 = none ∧ ¬ (i = 85 ∧ 7 = 0) := by decide +kernel
theorem nk_0_8 : ∀ i, i < 106 → kd i = (0, 12) → lk i 8 = none ∧ ¬ (i = 85 ∧ 8 = 0) := by decide +kernel
theorem nk_0_9 : ∀ i, i < 106 → kd i = (0, 12) → lk i 9 = none ∧ ¬ (i = 85 ∧ 9 = 0) := by decide +kernel
theorem nk_0_10 : ∀ i, i < 106 → kd i = (0, 12) → lk i 10 = none ∧ ¬ (i = 85 ∧ 10 = 0) := by decide +kernel
theorem nk_0_11 : ∀ i, i < 106 → kd i = (0, 12) → lk i 11 = none ∧ ¬ (i = 85 ∧ 11 = 0) := by decide +kernel
theorem inX1 : ∀ w ∈ u_ws RX1 TX1 2, w ∈ tbg := mem_places [273, 275] (by decide +kernel) (by decide +kernel)
theorem nk_1_0 : ∀ i, i < 106 → kd i = (1, 2) → lk i 0 = none ∧ ¬ (i = 85 ∧ 0 = 0) := by decide +kernel
theorem nk_1_1 : ∀ i, i < 106 → kd i = (1, 2) → lk i 1 = none ∧ ¬ (i = 85 ∧ 1 = 0) := by decide +kernel
theorem inX2 : ∀ w ∈ u_ws RX2 TX2 8, w ∈ tbg := mem_places [354, 356, 358, 360, 362, 364, 366, 368] (by decide +kernel) (by decide +kernel)
theorem nr_2_0 : ∀ i, i < 106 → kd i = (2, 8) → ¬ (i = 85) → ¬ (i = 85 ∧ 0 = 0) := fun i _ _ h q => h q.1
theorem nr_2_1 : ∀ i, i < 106 → kd i = (2, 8) → ¬ (i = 85) → ¬ (i = 85 ∧ 1 = 0) := fun i _ _ h q => h q.1
theorem nk_2_2 : ∀ i, i < 106 → kd i = (2, 8) → lk i 2 = none ∧ ¬ (i = 85 ∧ 2 = 0) := by decide +kernel
theorem nk_2_3 : ∀ i, i < 106 → kd i = (2, 8) → lk i 3 = none ∧ ¬ (i = 85 ∧ 3 = 0) := by decide +kernel
theorem nk_2_4 : ∀ i, i < 106 → kd i = (2, 8) → lk i 4 = none ∧ ¬ (i = 85 ∧ 4 = 0) := by decide +kernel
theorem nk_2_5 : ∀ i, i < 106 → kd i = (2, 8) → lk i 5 = none ∧ ¬ (i = 85 ∧ 5 = 0) := by decide +kernel
theorem nk_2_6 : ∀ i, i < 106 → kd i = (2, 8) → lk i 6 = none ∧ ¬ (i = 85 ∧ 6 = 0) := by decide +kernel
theorem nk_2_7 : ∀ i, i < 106 → kd i = (2, 8) → lk i 7 = none ∧ ¬ (i = 85 ∧ 7 = 0) := by decide +kernel
theorem inX3 : ∀ w ∈ u_ws RX3 TX3 8, w ∈ tbg := mem_places [323, 325, 327, 329, 331, 333, 335, 337] (by decide +kernel) (by decide +kernel)
theorem nr_3_0 : ∀ i, i < 106 → kd i = (3, 8) → ¬ (i = 85) → ¬ (i = 85 ∧ 0 = 0) := fun i _ _ h q => h q.1
theorem nk_3_1 : ∀ i, i < 106 → kd i = (3, 8) → lk i 1 = none ∧ ¬ (i = 85 ∧ 1 = 0) := by decide +kernel
theorem nk_3_2 : ∀ i, i < 106 → kd i = (3, 8) → lk i 2 = none ∧ ¬ (i = 85 ∧ 2 = 0) := by decide +kernel
theorem nk_3_3 : ∀ i, i < 106 → kd i = (3, 8) → lk i 3 = none ∧ ¬ (i = 85 ∧ 3 = 0) := by decide +kernel
theorem nk_3_4 : ∀ i, i < 106 → kd i = (3, 8) → lk i 4 = none ∧ ¬ (i = 85 ∧ 4 = 0) := by decide +kernel
theorem nk_3_5 : ∀ i, i < 106 → kd i = (3, 8) → lk i 5 = none ∧ ¬ (i = 85 ∧ 5 = 0) := by decide +kernel
theorem nk_3_6 : ∀ i, i < 106 → kd i = (3, 8) → lk i 6 = none ∧ ¬ (i = 85 ∧ 6 = 0) := by decide +kernel
theorem nk_3_7 : ∀ i, i < 106 → kd i = (3, 8) → lk i 7 = none ∧ ¬ (i = 85 ∧ 7 = 0) := by decide +kernel
theorem inX4 : ∀ w ∈ u_ws RX4 TX4 13, w ∈ tbg := mem_places [124, 126, 128, 130, 132, 134, 136, 138, 140, 142, 144, 146, 148] (by decide +kernel) (by decide +kernel)
theorem nk_4_0 : ∀ i, i < 106 → kd i = (4, 13) → lk i 0 = none ∧ ¬ (i = 85 ∧ 0 = 0) := by decide +kernel
theorem nk_4_1 : ∀ i, i < 106 → kd i = (4, 13) → lk i 1 = none ∧ ¬ (i = 85 ∧ 1 = 0) := by decide +kernel
theorem nr_4_2 : ∀ i, i < 106 → kd i = (4, 13) → ¬ (i = 85) → ¬ (i = 85 ∧ 2 = 0) := fun i _ _ h q => h q.1
theorem nr_4_3 : ∀ i, i < 106 → kd i = (4, 13) → ¬ (i = 85) → ¬ (i = 85 ∧ 3 = 0) := fun i _ _ h q => h q.1
theorem nr_4_4 : ∀ i, i < 106 → kd i = (4, 13) → ¬ (i = 85) → ¬ (i = 85 ∧ 4 = 0) := fun i _ _ h q => h q.1
theorem nr_4_5 : ∀ i, i < 106 → kd i = (4, 13) → ¬ (i = 85) → ¬ (i = 85 ∧ 5 = 0) := fun i _ _ h q => h q.1
theorem nr_4_6 : ∀ i, i < 106 → kd i = (4, 13) → ¬ (i = 85) → ¬ (i = 85 ∧ 6 = 0) := fun i _ _ h q => h q.1
theorem nr_4_7 : ∀ i, i < 106 → kd i = (4, 13) → ¬ (i = 85) → ¬ (i = 85 ∧ 7 = 0) := fun i _ _ h q => h q.1
theorem nr_4_8 : ∀ i, i < 106 → kd i = (4, 13) → ¬ (i = 85) → ¬ (i = 85 ∧ 8 = 0) := fun i _ _ h q => h q.1
theorem nr_4_9 : ∀ i, i < 106 → kd i = (4, 13) → ¬ (i = 85) → ¬ (i = 85 ∧ 9 = 0) := fun i _ _ h q => h q.1
theorem nr_4_10 : ∀ i, i < 106 → kd i = (4, 13) → ¬ (i = 85) → ¬ (i = 85 ∧ 10 = 0) := fun i _ _ h q => h q.1
theorem nr_4_11 : ∀ i, i < 106 → kd i = (4, 13) → ¬ (i = 85) → ¬ (i = 85 ∧ 11 = 0) := fun i _ _ h q => h q.1
theorem nr_4_12 : ∀ i, i < 106 → kd i = (4, 13) → ¬ (i = 85) → ¬ (i = 85 ∧ 12 = 0) := fun i _ _ h q => h q.1
theorem inX5 : ∀ w ∈ u_ws RX5 TX5 6, w ∈ tbg := mem_places [302, 304, 306, 308, 310, 312] (by decide +kernel) (by decide +kernel)
theorem nk_5_0 : ∀ i, i < 106 → kd i = (5, 6) → lk i 0 = none ∧ ¬ (i = 85 ∧ 0 = 0) := by decide +kernel
theorem nk_5_1 : ∀ i, i < 106 → kd i = (5, 6) → lk i 1 = none ∧ ¬ (i = 85 ∧ 1 = 0) := by decide +kernel
theorem nk_5_2 : ∀ i, i < 106 → kd i = (5, 6) → lk i 2 = none ∧ ¬ (i = 85 ∧ 2 = 0) := by decide +kernel
theorem nk_5_3 : ∀ i, i < 106 → kd i = (5, 6) → lk i 3 = none ∧ ¬ (i = 85 ∧ 3 = 0) := by decide +kernel
theorem nk_5_4 : ∀ i, i < 106 → kd i = (5, 6) → lk i 4 = none ∧ ¬ (i = 85 ∧ 4 = 0) := by decide +kernel
theorem nr_5_5 : ∀ i, i < 106 → kd i = (5, 6) → ¬ (i = 85) → ¬ (i = 85 ∧ 5 = 0) := fun i _ _ h q => h q.1
theorem inX6 : ∀ w ∈ u_ws RX6 TX6 11, w ∈ tbg := mem_places [238, 240, 242, 244, 246, 248, 250, 252, 254, 256, 258] (by decide +kernel) (by decide +kernel)
theorem nr_6_0 : ∀ i, i < 106 → kd i = (6, 11) → ¬ (i = 85) → ¬ (i = 85 ∧ 0 = 0) := fun i _ _ h q => h q.1
theorem nr_6_1 : ∀ i, i < 106 → kd i = (6, 11) → ¬ (i = 85) → ¬ (i = 85 ∧ 1 = 0) := fun i _ _ h q => h q.1
theorem nk_6_2 : ∀ i, i < 106 → kd i = (6, 11) → lk i 2 = none ∧ ¬ (i = 85 ∧ 2 = 0) := by decide +kernel
theorem nk_6_3 : ∀ i, i < 106 → kd i = (6, 11) → lk i 3 = none ∧ ¬ (i = 85 ∧ 3 = 0) := by decide +kernel
theorem nk_6_4 : ∀ i, i < 106 → kd i = (6, 11) → lk i 4 = none ∧ ¬ (i = 85 ∧ 4 = 0) := by decide +kernel
theorem nk_6_5 : ∀ i, i < 106 → kd i = (6, 11) → lk i 5 = none ∧ ¬ (i = 85 ∧ 5 = 0) := by decide +kernel
theorem nk_6_6 : ∀ i, i < 106 → kd i = (6, 11) → lk i 6 = none ∧ ¬ (i = 85 ∧ 6 = 0) := by decide +kernel
theorem nr_6_7 : ∀ i, i < 106 → kd i = (6, 11) → ¬ (i = 85) → ¬ (i = 85 ∧ 7 = 0) := fun i _ _ h q => h q.1
theorem nk_6_8 : ∀ i, i < 106 → kd i = (6, 11) → lk i 8 = none ∧ ¬ (i = 85 ∧ 8 = 0) := by decide +kernel
theorem nk_6_9 : ∀ i, i < 106 → kd i = (6, 11) → lk i 9 = none ∧ ¬ (i = 85 ∧ 9 = 0) := by decide +kernel
theorem nk_6_10 : ∀ i, i < 106 → kd i = (6, 11) → lk i 10 = none ∧ ¬ (i = 85 ∧ 10 = 0) := by decide +kernel
theorem inX7 : ∀ w ∈ u_ws RX7 TX7 8, w ∈ tbg := mem_places [380, 382, 384, 386, 388, 390, 392, 394] (by decide +kernel) (by decide +kernel)
theorem nr_7_0 : ∀ i, i < 106 → kd i = (7, 8) → ¬ (i = 85) → ¬ (i = 85 ∧ 0 = 0) := fun i _ _ h q => h q.1
theorem nr_7_1 : ∀ i, i < 106 → kd i = (7, 8) → ¬ (i = 85) → ¬ (i = 85 ∧ 1 = 0) := fun i _ _ h q => h q.1
theorem nr_7_2 : ∀ i, i < 106 → kd i = (7, 8) → ¬ (i = 85) → ¬ (i = 85 ∧ 2 = 0) := fun i _ _ h q => h q.1
theorem nk_7_3 : ∀ i, i < 106 → kd i = (7, 8) → lk i 3 = none ∧ ¬ (i = 85 ∧ 3 = 0) := by decide +kernel
theorem nr_7_4 : ∀ i, i < 106 → kd i = (7, 8) → ¬ (i = 85) → ¬ (i = 85 ∧ 4 = 0) := fun i _ _ h q => h q.1
theorem nr_7_5 : ∀ i, i < 106 → kd i = (7, 8) → ¬ (i = 85) → ¬ (i = 85 ∧ 5 = 0) := fun i _ _ h q => h q.1
theorem nr_7_6 : ∀ i, i < 106 → kd i = (7, 8) → ¬ (i = 85) → ¬ (i = 85 ∧ 6 = 0) := fun i _ _ h q => h q.1
theorem nr_7_7 : ∀ i, i < 106 → kd i = (7, 8) → ¬ (i = 85) → ¬ (i = 85 ∧ 7 = 0) := fun i _ _ h q => h q.1
theorem inX8 : ∀ w ∈ u_ws RX8 TX8 24, w ∈ tbg := mem_places [1042, 1044, 1046, 1048, 1050, 1052, 1054, 1056, 1058, 1060, 1062, 1064, 1066, 1068, 1070, 1072, 1074, 1076, 1078, 1080, 1082, 1084, 1086, 1088] (by decide +kernel) (by decide +kernel)
theorem nr_8_0 : ∀ i, i < 106 → kd i = (8, 24) → ¬ (i = 85) → ¬ (i = 85 ∧ 0 = 0) := fun i _ _ h q => h q.1
theorem nr_8_1 : ∀ i, i < 106 → kd i = (8, 24) → ¬ (i = 85) → ¬ (i = 85 ∧ 1 = 0) := fun i _ _ h q => h q.1
theorem nr_8_2 : ∀ i, i < 106 → kd i = (8, 24) → ¬ (i = 85) → ¬ (i = 85 ∧ 2 = 0) := fun i _ _ h q => h q.1
theorem nr_8_3 : ∀ i, i < 106 → kd i = (8, 24) → ¬ (i = 85) → ¬ (i = 85 ∧ 3 = 0) := fun i _ _ h q => h q.1
theorem nr_8_4 : ∀ i, i < 106 → kd i = (8, 24) → ¬ (i = 85) → ¬ (i = 85 ∧ 4 = 0) := fun i _ _ h q => h q.1
theorem nr_8_5 : ∀ i, i < 106 → kd i = (8, 24) → ¬ (i = 85) → ¬ (i = 85 ∧ 5 = 0) := fun i _ _ h q => h q.1
theorem nr_8_6 : ∀ i, i < 106 → kd i = (8, 24) → ¬ (i = 85) → ¬ (i = 85 ∧ 6 = 0) := fun i _ _ h q => h q.1
theorem nr_8_7 : ∀ i, i < 106 → kd i = (8, 24) → ¬ (i = 85) → ¬ (i = 85 ∧ 7 = 0) := fun i _ _ h q => h q.1
theorem nr_8_8 : ∀ i, i < 106 → kd i = (8, 24) → ¬ (i = 85) → ¬ (i = 85 ∧ 8 = 0) := fun i _ _ h q => h q.1
theorem nr_8_9 : ∀ i, i < 106 → kd i = (8, 24) → ¬ (i = 85) → ¬ (i = 85 ∧ 9 = 0) := fun i _ _ h q => h q.1
theorem nk_8_10 : ∀ i, i < 106 → kd i = (8, 24) → lk i 10 = none ∧ ¬ (i = 85 ∧ 10 = 0) := by decide +kernel
theorem nk_8_11 : ∀ i, i < 106 → kd i = (8, 24) → lk i 11 = none ∧ ¬ (i = 85 ∧ 11 = 0) := by decide +kernel
theorem nk_8_12 : ∀ i, i < 106 → kd i = (8, 24) → lk i 12 = none ∧ ¬ (i = 85 ∧ 12 = 0) := by decide +kernel
theorem nk_8_13 : ∀ i, i < 106 → kd i = (8, 24) → lk i 13 = none ∧ ¬ (i = 85 ∧ 13 = 0) := by decide +kernel
theorem nk_8_14 : ∀ i, i < 106 → kd i = (8, 24) → lk i 14 = none ∧ ¬ (i = 85 ∧ 14 = 0) := by decide +kernel
theorem nk_8_15 : ∀ i, i < 106 → kd i = (8, 24) → lk i 15 = none ∧ ¬ (i = 85 ∧ 15 = 0) := by decide +kernel
theorem nr_8_16 : ∀ i, i < 106 → kd i = (8, 24) → ¬ (i = 85) → ¬ (i = 85 ∧ 16 = 0) := fun i _ _ h q => h q.1
theorem nk_8_17 : ∀ i, i < 106 → kd i = (8, 24) → lk i 17 = none ∧ ¬ (i = 85 ∧ 17 = 0) := by decide +kernel
theorem nk_8_18 : ∀ i, i < 106 → kd i = (8, 24) → lk i 18 = none ∧ ¬ (i = 85 ∧ 18 = 0) := by decide +kernel
theorem nk_8_19 : ∀ i, i < 106 → kd i = (8, 24) → lk i 19 = none ∧ ¬ (i = 85 ∧ 19 = 0) := by decide +kernel
theorem nk_8_20 : ∀ i, i < 106 → kd i = (8, 24) → lk i 20 = none ∧ ¬ (i = 85 ∧ 20 = 0) := by decide +kernel
theorem nr_8_21 : ∀ i, i < 106 → kd i = (8, 24) → ¬ (i = 85) → ¬ (i = 85 ∧ 21 = 0) := fun i _ _ h q => h q.1
theorem nr_8_22 : ∀ i, i < 106 → kd i = (8, 24) → ¬ (i = 85) → ¬ (i = 85 ∧ 22 = 0) := fun i _ _ h q => h q.1
theorem nk_8_23 : ∀ i, i < 106 → kd i = (8, 24) → lk i 23 = none ∧ ¬ (i = 85 ∧ 23 = 0) := by decide +kernel
theorem kdT : ∀ t, t < 3 → 22 * t < 106 ∧ kd (22 * t) = (6, 11) := by decide +kernel
theorem kdR : ∀ t, t < 3 → 22 * t + 1 < 106 ∧ kd (22 * t + 1) = (4, 13) := by decide +kernel
theorem kdCA : ∀ t, t < 3 → 22 * t + 13 < 106 ∧ kd (22 * t + 13) = (10, 7) := by decide +kernel
theorem kdC : ∀ t, t < 3 → ∀ k, k < 7 → 22 * t + 15 + k < 106 ∧ kd (22 * t + 15 + k) = (0, 12) := by decide +kernel
theorem lkCA : ∀ t, t < 3 → ∀ k, k < 7 → lk (22 * t + 13) k = some (22 * t + 15 + k) := by decide +kernel
theorem lkT0 : ∀ t, t < 3 → lk (22 * t) 0 = some (22 * t + 1) := by decide +kernel
theorem lkT1 : ∀ t, t < 3 → lk (22 * t) 1 = some (22 * t + 13) := by decide +kernel
theorem lkT7 : ∀ t, t < 3 → lk (22 * t) 7 = some (22 * t + 14) := by decide +kernel
theorem kdS : ∀ d, d < 8 → 68 + d < 106 ∧ kd (68 + d) = (5, 6) := by decide +kernel
theorem kdV : ∀ d, d < 8 → 76 + d < 106 ∧ kd (76 + d) = (9, 100) := by decide +kernel
theorem lkSh : ∀ d, d < 8 → lk 67 d = some (68 + d) := by decide +kernel
theorem lkS5 : ∀ d, d < 8 → lk (68 + d) 5 = some (76 + d) := by decide +kernel
theorem kdA2 : ∀ t, t < 3 → 22 * t + 2 < 106 ∧ kd (22 * t + 2) = (9, 8) := by decide +kernel
theorem lkR2 : ∀ t, t < 3 → lk (22 * t + 1) 2 = some (22 * t + 2) := by decide +kernel
theorem kdA3 : ∀ t, t < 3 → 22 * t + 3 < 106 ∧ kd (22 * t + 3) = (9, 8) := by decide +kernel
theorem lkR3 : ∀ t, t < 3 → lk (22 * t + 1) 3 = some (22 * t + 3) := by decide +kernel
theorem kdA4 : ∀ t, t < 3 → 22 * t + 4 < 106 ∧ kd (22 * t + 4) = (9, 8) := by decide +kernel
theorem lkR4 : ∀ t, t < 3 → lk (22 * t + 1) 4 = some (22 * t + 4) := by decide +kernel
theorem kdA5 : ∀ t, t < 3 → 22 * t + 5 < 106 ∧ kd (22 * t + 5) = (9, 9) := by decide +kernel
theorem lkR5 : ∀ t, t < 3 → lk (22 * t + 1) 5 = some (22 * t + 5) := by decide +kernel
theorem kdA6 : ∀ t, t < 3 → 22 * t + 6 < 106 ∧ kd (22 * t + 6) = (9, 9) := by decide +kernel
theorem lkR6 : ∀ t, t < 3 → lk (22 * t + 1) 6 = some (22 * t + 6) := by decide +kernel
theorem kdA7 : ∀ t, t < 3 → 22 * t + 7 < 106 ∧ kd (22 * t + 7) = (9, 73) := by decide +kernel
theorem lkR7 : ∀ t, t < 3 → lk (22 * t + 1) 7 = some (22 * t + 7) := by decide +kernel
theorem kdA8 : ∀ t, t < 3 → 22 * t + 8 < 106 ∧ kd (22 * t + 8) = (9, 73) := by decide +kernel
theorem lkR8 : ∀ t, t < 3 → lk (22 * t + 1) 8 = some (22 * t + 8) := by decide +kernel
theorem kdA9 : ∀ t, t < 3 → 22 * t + 9 < 106 ∧ kd (22 * t + 9) = (9, 73) := by decide +kernel
theorem lkR9 : ∀ t, t < 3 → lk (22 * t + 1) 9 = some (22 * t + 9) := by decide +kernel
theorem kdA10 : ∀ t, t < 3 → 22 * t + 10 < 106 ∧ kd (22 * t + 10) = (9, 73) := by decide +kernel
theorem lkR10 : ∀ t, t < 3 → lk (22 * t + 1) 10 = some (22 * t + 10) := by decide +kernel
theorem kdA11 : ∀ t, t < 3 → 22 * t + 11 < 106 ∧ kd (22 * t + 11) = (9, 3) := by decide +kernel
theorem lkR11 : ∀ t, t < 3 → lk (22 * t + 1) 11 = some (22 * t + 11) := by decide +kernel
theorem kdA12 : ∀ t, t < 3 → 22 * t + 12 < 106 ∧ kd (22 * t + 12) = (9, 3) := by decide +kernel
theorem lkR12 : ∀ t, t < 3 → lk (22 * t + 1) 12 = some (22 * t + 12) := by decide +kernel
theorem kdA14 : ∀ t, t < 3 → 22 * t + 14 < 106 ∧ kd (22 * t + 14) = (9, 73) := by decide +kernel
section FL
variable {p : Program} {l : Launch} {e : Env} {R : Room} {s : State} {m : MethodId} {args : Array Value} {below : List Frame} {meth : Method} {c : Code} {H : Heap} {locs : List Loc} {cells slots : Nat} {Q : State → Prop}
variable {cc : ByteArray} {pc nL : Nat} {ls : Array Slot} {rest : List Value} {D : va_G} {cA : Nat → ClassId} {ad : Nat → Nat} {A : Nat → Prop} {σ : Mem} {o : Int64}
theorem gf_X4_45 (C0 : CX p s m args c cc nL RX4) (X : WX D cA ad A s) (hP : WP D cA ad o σ H) (i : Nat) (hk : i < 106 ∧ kd i = (4, 13)) (hdg : decode cc pc = .ok (.getfield 45, 3)) (kk : W p l e R s m args below meth c H locs cells slots Q (F0 m (pc + 3) ls (.int (σ i 0) :: rest))) : W p l e R s m args below meth c H locs cells slots Q (F0 m pc ls (.ref (ad i) :: rest)) := r_get C0 X hP i 0 hk.1 hk.2 (by decide) rfl inX4 (by decide) (tm 94 (by decide +kernel) (by decide +kernel)) (by rw [fv, if_neg (nk_4_0 i hk.1 hk.2).2, (nk_4_0 i hk.1 hk.2).1]) hdg kk
theorem pf_X4_45 (C0 : CX p s m args c cc nL RX4) (X : WX D cA ad A s) (hP : WP D cA ad o σ H) (hS : va_S A s.heap H locs) (i : Nat) {v : Int32} (hk : i < 106 ∧ kd i = (4, 13)) (hdg : decode cc pc = .ok (.putfield 45, 3)) (kk : ∀ (H1 : Heap) (locs1 : List Loc), WP D cA ad o (stm σ i 0 v) H1 → va_S A s.heap H1 locs1 → W p l e R s m args below meth c H1 locs1 cells slots Q (F0 m (pc + 3) ls rest)) : W p l e R s m args below meth c H locs cells slots Q (F0 m pc ls (.int v :: .ref (ad i) :: rest)) := r_put C0 X hP hS i 0 hk.1 hk.2 (by decide) rfl inX4 tyX4 tyX4_ok nmX4 (by decide) (tm 94 (by decide +kernel) (by decide +kernel)) rfl rfl rfl rfl (nk_4_0 i hk.1 hk.2).1 (nk_4_0 i hk.1 hk.2).2 hdg kk
theorem gf_X7_74 (C0 : CX p s m args c cc nL RX7) (X : WX D cA ad A s) (hP : WP D cA ad o σ H) (i : Nat) (hk : i < 106 ∧ kd i = (4, 13)) (hdg : decode cc pc = .ok (.getfield 74, 3)) (kk : W p l e R s m args below meth c H locs cells slots Q (F0 m (pc + 3) ls (.int (σ i 0) :: rest))) : W p l e R s m args below meth c H locs cells slots Q (F0 m pc ls (.ref (ad i) :: rest)) := r_get C0 X hP i 0 hk.1 hk.2 (by decide) rfl inX4 (by decide) (tm 95 (by decide +kernel) (by decide +kernel)) (by rw [fv, if_neg (nk_4_0 i hk.1 hk.2).2, (nk_4_0 i hk.1 hk.2).1]) hdg kk
theorem pf_X7_74 (C0 : CX p s m args c cc nL RX7) (X : WX D cA ad A s) (hP : WP D cA ad o σ H) (hS : va_S A s.heap H locs) (i : Nat) {v : Int32} (hk : i < 106 ∧ kd i = (4, 13)) (hdg : decode cc pc = .ok (.putfield 74, 3)) (kk : ∀ (H1 : Heap) (locs1 : List Loc), WP D cA ad o (stm σ i 0 v) H1 → va_S A s.heap H1 locs1 → W p l e R s m args below meth c H1 locs1 cells slots Q (F0 m (pc + 3) ls rest)) : W p l e R s m args below meth c H locs cells slots Q (F0 m pc ls (.int v :: .ref (ad i) :: rest)) := r_put C0 X hP hS i 0 hk.1 hk.2 (by decide) rfl inX4 tyX4 tyX4_ok nmX4 (by decide) (tm 95 (by decide +kernel) (by decide +kernel)) rfl rfl rfl rfl (nk_4_0 i hk.1 hk.2).1 (nk_4_0 i hk.1 hk.2).2 hdg kk
theorem gf_X4_49 (C0 : CX p s m args c cc nL RX4) (X : WX D cA ad A s) (hP : WP D cA ad o σ H) (i : Nat) (hk : i < 106 ∧ kd i = (4, 13)) (hdg : decode cc pc = .ok (.getfield 49, 3)) (kk : W p l e R s m args below meth c H locs cells slots Q (F0 m (pc + 3) ls (.int (σ i 1) :: rest))) : W p l e R s m args below meth c H locs cells slots Q (F0 m pc ls (.ref (ad i) :: rest)) := r_get C0 X hP i 1 hk.1 hk.2 (by decide) rfl inX4 (by decide) (tm 96 (by decide +kernel) (by decide +kernel)) (by rw [fv, if_neg (nk_4_1 i hk.1 hk.2).2, (nk_4_1 i hk.1 hk.2).1]) hdg kk
theorem pf_X4_49 (C0 : CX p s m args c cc nL RX4) (X : WX D cA ad A s) (hP : WP D cA ad o σ H) (hS : va_S A s.heap H locs) (i : Nat) {v : Int32} (hk : i < 106 ∧ kd i = (4, 13)) (hdg : decode cc pc = .ok (.putfield 49, 3)) (kk : ∀ (H1 : Heap) (locs1 : List Loc), WP D cA ad o (stm σ i 1 v) H1 → va_S A s.heap H1 locs1 → W p l e R s m args below meth c H1 locs1 cells slots Q (F0 m (pc + 3) ls rest)) : W p l e R s m args below meth c H locs cells slots Q (F0 m pc ls (.int v :: .ref (ad i) :: rest)) := r_put C0 X hP hS i 1 hk.1 hk.2 (by decide) rfl inX4 tyX4 tyX4_ok nmX4 (by decide) (tm 96 (by decide +kernel) (by decide +kernel)) rfl rfl rfl rfl (nk_4_1 i hk.1 hk.2).1 (nk_4_1 i hk.1 hk.2).2 hdg kk
theorem gf_X6_137 (C0 : CX p s m args c cc nL RX6) (X : WX D cA ad A s) (hP : WP D cA ad o σ H) (i : Nat) (hk : i < 106 ∧ kd i = (4, 13)) (hdg : decode cc pc = .ok (.getfield 137, 3)) (kk : W p l e R s m args below meth c H locs cells slots Q (F0 m (pc + 3) ls (.int (σ i 1) :: rest))) : W p l e R s m args below meth c H locs cells slots Q (F0 m pc ls (.ref (ad i) :: rest)) := r_get C0 X hP i 1 hk.1 hk.2 (by decide) rfl inX4 (by decide) (tm 97 (by decide +kernel) (by decide +kernel)) (by rw [fv, if_neg (nk_4_1 i hk.1 hk.2).2, (nk_4_1 i hk.1 hk.2).1]) hdg kk
theorem pf_X6_137 (C0 : CX p s m args c cc nL RX6) (X : WX D cA ad A s) (hP : WP D cA ad o σ H) (hS : va_S A s.heap H locs) (i : Nat) {v : Int32} (hk : i < 106 ∧ kd i = (4, 13)) (hdg : decode cc pc = .ok (.putfield 137, 3)) (kk : ∀ (H1 : Heap) (locs1 : List Loc), WP D cA ad o (stm σ i 1 v) H1 → va_S A s.heap H1 locs1 → W p l e R s m args below meth c H1 locs1 cells slots Q (F0 m (pc + 3) ls rest)) : W p l e R s m args below meth c H locs cells slots Q (F0 m pc ls (.int v :: .ref (ad i) :: rest)) := r_put C0 X hP hS i 1 hk.1 hk.2 (by decide) rfl inX4 tyX4 tyX4_ok nmX4 (by decide) (tm 97 (by decide +kernel) (by decide +kernel)) rfl rfl rfl rfl (nk_4_1 i hk.1 hk.2).1 (nk_4_1 i hk.1 hk.2).2 hdg kk
theorem gf_X7_272 (C0 : CX p s m args c cc nL RX7) (X : WX D cA ad A s) (hP : WP D cA ad o σ H) (i : Nat) (hk : i < 106 ∧ kd i = (4, 13)) (hdg : decode cc pc = .ok (.getfield 272, 3)) (kk : W p l e R s m args below meth c H locs cells slots Q (F0 m (pc + 3) ls (.int (σ i 1) :: rest))) : W p l e R s m args below meth c H locs cells slots Q (F0 m pc ls (.ref (ad i) :: rest)) := r_get C0 X hP i 1 hk.1 hk.2 (by decide) rfl inX4 (by decide) (tm 98 (by decide +kernel) (by decide +kernel)) (by rw [fv, if_neg (nk_4_1 i hk.1 hk.2).2, (nk_4_1 i hk.1 hk.2).1]) hdg kk
theorem pf_X7_272 (C0 : CX p s m args c cc nL RX7) (X : WX D cA ad A s) (hP : WP D cA ad o σ H) (hS : va_S A s.heap H locs) (i : Nat) {v : Int32} (hk : i < 106 ∧ kd i = (4, 13)) (hdg : decode cc pc = .ok (.putfield 272, 3)) (kk : ∀ (H1 : Heap) (locs1 : List Loc), WP D cA ad o (stm σ i 1 v) H1 → va_S A s.heap H1 locs1 → W p l e R s m args below meth c H1 locs1 cells slots Q (F0 m (pc + 3) ls rest)) : W p l e R s m args below meth c H locs cells slots Q (F0 m pc ls (.int v :: .ref (ad i) :: rest)) := r_put C0 X hP hS i 1 hk.1 hk.2 (by decide) rfl inX4 tyX4 tyX4_ok nmX4 (by decide) (tm 98 (by decide +kernel) (by decide +kernel)) rfl rfl rfl rfl (nk_4_1 i hk.1 hk.2).1 (nk_4_1 i hk.1 hk.2).2 hdg kk
theorem gf_X4_9 (C0 : CX p s m args c cc nL RX4) (X : WX D cA ad A s) (hP : WP D cA ad o σ H) (i : Nat) {q : Nat} (hk : i < 106 ∧ kd i = (4, 13)) (h85 : ¬ i = 85) (hq : lk i 2 = some q) (hdg : decode cc pc = .ok (.getfield 9, 3)) (kk : W p l e R s m args below meth c H locs cells slots Q (F0 m (pc + 3) ls (.ref (ad q) :: rest))) : W p l e R s m args below meth c H locs cells slots Q (F0 m pc ls (.ref (ad i) :: rest)) := r_get C0 X hP i 2 hk.1 hk.2 (by decide) rfl inX4 (by decide) (tm 99 (by decide +kernel) (by decide +kernel)) (by rw [fv, if_neg (fun z => h85 z.1), hq]) hdg kk
theorem gf_X7_79 (C0 : CX p s m args c cc nL RX7) (X : WX D cA ad A s) (hP : WP D cA ad o σ H) (i : Nat) {q : Nat} (hk : i < 106 ∧ kd i = (4, 13)) (h85 : ¬ i = 85) (hq : lk i 2 = some q) (hdg : decode cc pc = .ok (.getfield 79, 3)) (kk : W p l e R s m args below meth c H locs cells slots Q (F0 m (pc + 3) ls (.ref (ad q) :: rest))) : W p l e R s m args below meth c H locs cells slots Q (F0 m pc ls (.ref (ad i) :: rest)) := r_get C0 X hP i 2 hk.1 hk.2 (by decide) rfl inX4 (by decide) (tm 100 (by decide +kernel) (by decide +kernel)) (by rw [fv, if_neg (fun z => h85 z.1), hq]) hdg kk
theorem gf_X4_15 (C0 : CX p s m args c cc nL RX4) (X : WX D cA ad A s) (hP : WP D cA ad o σ H) (i : Nat) {q : Nat} (hk : i < 106 ∧ kd i = (4, 13)) (h85 : ¬ i = 85) (hq : lk i 3 = some q) (hdg : decode cc pc = .ok (.getfield 15, 3)) (kk : W p l e R s m args below meth c H locs cells slots Q (F0 m (pc + 3) ls (.ref (ad q) :: rest))) : W p l e R s m args below meth c H locs cells slots Q (F0 m pc ls (.ref (ad i) :: rest)) := r_get C0 X hP i 3 hk.1 hk.2 (by decide) rfl inX4 (by decide) (tm 101 (by decide +kernel) (by decide +kernel)) (by rw [fv, if_neg (fun z => h85 z.1), hq]) hdg kk
theorem gf_X7_83 (C0 : CX p s m args c cc nL RX7) (X : WX D cA ad A s) (hP : WP D cA ad o σ H) (i : Nat) {q : Nat} (hk : i < 106 ∧ kd i = (4, 13)) (h85 : ¬ i = 85) (hq : lk i 3 = some q) (hdg : decode cc pc = .ok (.getfield 83, 3)) (kk : W p l e R s m args below meth c H locs cells slots Q (F0 m (pc + 3) ls (.ref (ad q) :: rest))) : W p l e R s m args below meth c H locs cells slots Q (F0 m pc ls (.ref (ad i) :: rest)) := r_get C0 X hP i 3 hk.1 hk.2 (by decide) rfl inX4 (by decide) (tm 102 (by decide +kernel) (by decide +kernel)) (by rw [fv, if_neg (fun z => h85 z.1), hq]) hdg kk
theorem gf_X4_18 (C0 : CX p s m args c cc nL RX4) (X : WX D cA ad A s) (hP : WP D cA ad o σ H) (i : Nat) {q : Nat} (hk : i < 106 ∧ kd i = (4, 13)) (h85 : ¬ i = 85) (hq : lk i 4 = some q) (hdg : decode cc pc = .ok (.getfield 18, 3)) (kk : W p l e R s m args below meth c H locs cells slots Q (F0 m (pc + 3) ls (.ref (ad q) :: rest))) : W p l e R s m args below meth c H locs cells slots Q (F0 m pc ls (.ref (ad i) :: rest)) := r_get C0 X hP i 4 hk.1 hk.2 (by decide) rfl inX4 (by decide) (tm 103 (by decide +kernel) (by decide +kernel)) (by rw [fv, if_neg (fun z => h85 z.1), hq]) hdg kk
theorem gf_X7_86 (C0 : CX p s m args c cc nL RX7) (X : WX D cA ad A s) (hP : WP D cA ad o σ H) (i : Nat) {q : Nat} (hk : i < 106 ∧ kd i = (4, 13)) (h85 : ¬ i = 85) (hq : lk i 4 = some q) (hdg : decode cc pc = .ok (.getfield 86, 3)) (kk : W p l e R s m args below meth c H locs cells slots Q (F0 m (pc + 3) ls (.ref (ad q) :: rest))) : W p l e R s m args below meth c H locs cells slots Q (F0 m pc ls (.ref (ad i) :: rest)) := r_get C0 X hP i 4 hk.1 hk.2 (by decide) rfl inX4 (by decide) (tm 104 (by decide +kernel) (by decide +kernel)) (by rw [fv, if_neg (fun z => h85 z.1), hq]) hdg kk
theorem gf_X4_21 (C0 : CX p s m args c cc nL RX4) (X : WX D cA ad A s) (hP : WP D cA ad o σ H) (i : Nat) {q : Nat} (hk : i < 106 ∧ kd i = (4, 13)) (h85 : ¬ i = 85) (hq : lk i 5 = some q) (hdg : decode cc pc = .ok (.getfield 21, 3)) (kk : W p l e R s m args below meth c H locs cells slots Q (F0 m (pc + 3) ls (.ref (ad q) :: rest))) : W p l e R s m args below meth c H locs cells slots Q (F0 m pc ls (.ref (ad i) :: rest)) := r_get C0 X hP i 5 hk.1 hk.2 (by decide) rfl inX4 (by decide) (tm 105 (by decide +kernel) (by decide +kernel)) (by rw [fv, if_neg (fun z => h85 z.1), hq]) hdg kk
theorem gf_X7_96 (C0 : CX p s m args c cc nL RX7) (X : WX D cA ad A s) (hP : WP D cA ad o σ H) (i : Nat) {q : Nat} (hk : i < 106 ∧ kd i = (4, 13)) (h85 : ¬ i = 85) (hq : lk i 5 = some q) (hdg : decode cc pc = .ok (.getfield 96, 3)) (kk : W p l e R s m args below meth c H locs cells slots Q (F0 m (pc + 3) ls (.ref (ad q) :: rest))) : W p l e R s m args below meth c H locs cells slots Q (F0 m pc ls (.ref (ad i) :: rest)) := r_get C0 X hP i 5 hk.1 hk.2 (by decide) rfl inX4 (by decide) (tm 106 (by decide +kernel) (by decide +kernel)) (by rw [fv, if_neg (fun z => h85 z.1), hq]) hdg kk
theorem gf_X6_191 (C0 : CX p s m args c cc nL RX6) (X : WX D cA ad A s) (hP : WP D cA ad o σ H) (i : Nat) {q : Nat} (hk : i < 106 ∧ kd i = (4, 13)) (h85 : ¬ i = 85) (hq : lk i 5 = some q) (hdg : decode cc pc = .ok (.getfield 191, 3)) (kk : W p l e R s m args below meth c H locs cells slots Q (F0 m (pc + 3) ls (.ref (ad q) :: rest))) : W p l e R s m args below meth c H locs cells slots Q (F0 m pc ls (.ref (ad i) :: rest)) := r_get C0 X hP i 5 hk.1 hk.2 (by decide) rfl inX4 (by decide) (tm 107 (by decide +kernel) (by decide +kernel)) (by rw [fv, if_neg (fun z => h85 z.1), hq]) hdg kk
theorem gf_X4_24 (C0 : CX p s m args c cc nL RX4) (X : WX D cA ad A s) (hP : WP D cA ad o σ H) (i : Nat) {q : Nat} (hk : i < 106 ∧ kd i = (4, 13)) (h85 : ¬ i = 85) (hq : lk i 6 = some q) (hdg : decode cc pc = .ok (.getfield 24, 3)) (kk : W p l e R s m args below meth c H locs cells slots Q (F0 m (pc + 3) ls (.ref (ad q) :: rest))) : W p l e R s m args below meth c H locs cells slots Q (F0 m pc ls (.ref (ad i) :: rest)) := r_get C0 X hP i 6 hk.1 hk.2 (by decide) rfl inX4 (by decide) (tm 108 (by decide +kernel) (by decide +kernel)) (by rw [fv, if_neg (fun z => h85 z.1), hq]) hdg kk
theorem gf_X7_89 (C0 : CX p s m args c cc nL RX7) (X : WX D cA ad A s) (hP : WP D cA ad o σ H) (i : Nat) {q : Nat} (hk : i < 106 ∧ kd i = (4, 13)) (h85 : ¬ i = 85) (hq : lk i 6 = some q) (hdg : decode cc pc = .ok (.getfield 89, 3)) (kk : W p l e R s m args below meth c H locs cells slots Q (F0 m (pc + 3) ls (.ref (ad q) :: rest))) : W p l e R s m args below meth c H locs cells slots Q (F0 m pc ls (.ref (ad i) :: rest)) := r_get C0 X hP i 6 hk.1 hk.2 (by decide) rfl inX4 (by decide) (tm 109 (by decide +kernel) (by decide +kernel)) (by rw [fv, if_neg (fun z => h85 z.1), hq]) hdg kk
theorem gf_X4_27 (C0 : CX p s m args c cc nL RX4) (X : WX D cA ad A s) (hP : WP D cA ad o σ H) (i : Nat) {q : Nat} (hk : i < 106 ∧ kd i = (4, 13)) (h85 : ¬ i = 85) (hq : lk i 7 = some q) (hdg : decode cc pc = .ok (.getfield 27, 3)) (kk : W p l e R s m args below meth c H locs cells slots Q (F0 m (pc + 3) ls (.ref (ad q) :: rest))) : W p l e R s m args below meth c H locs cells slots Q (F0 m pc ls (.ref (ad i) :: rest)) := r_get C0 X hP i 7 hk.1 hk.2 (by decide) rfl inX4 (by decide) (tm 110 (by decide +kernel) (by decide +kernel)) (by rw [fv, if_neg (fun z => h85 z.1), hq]) hdg kk
theorem gf_X6_185 (C0 : CX p s m args c cc nL RX6) (X : WX D cA ad A s) (hP : WP D cA ad o σ H) (i : Nat) {q : Nat} (hk : i < 106 ∧ kd i = (4, 13)) (h85 : ¬ i = 85) (hq : lk i 7 = some q) (hdg : decode cc pc = .ok (.getfield 185, 3)) (kk : W p l e R s m args below meth c H locs cells slots Q (F0 m (pc + 3) ls (.ref (ad q) :: rest))) : W p l e R s m args below meth c H locs cells slots Q (F0 m pc ls (.ref (ad i) :: rest)) := r_get C0 X hP i 7 hk.1 hk.2 (by decide) rfl inX4 (by decide) (tm 111 (by decide +kernel) (by decide +kernel)) (by rw [fv, if_neg (fun z => h85 z.1), hq]) hdg kk
theorem gf_X4_30 (C0 : CX p s m args c cc nL RX4) (X : WX D cA ad A s) (hP : WP D cA ad o σ H) (i : Nat) {q : Nat} (hk : i < 106 ∧ kd i = (4, 13)) (h85 : ¬ i = 85) (hq : lk i 8 = some q) (hdg : decode cc pc = .ok (.getfield 30, 3)) (kk : W p l e R s m args below meth c H locs cells slots Q (F0 m (pc + 3) ls (.ref (ad q) :: rest))) : W p l e R s m args below meth c H locs cells slots Q (F0 m pc ls (.ref (ad i) :: rest)) := r_get C0 X hP i 8 hk.1 hk.2 (by decide) rfl inX4 (by decide) (tm 112 (by decide +kernel) (by decide +kernel)) (by rw [fv, if_neg (fun z => h85 z.1), hq]) hdg kk
theorem gf_X6_194 (C0 : CX p s m args c cc nL RX6) (X : WX D cA ad A s) (hP : WP D cA ad o σ H) (i : Nat) {q : Nat} (hk : i < 106 ∧ kd i = (4, 13)) (h85 : ¬ i = 85) (hq : lk i 8 = some q) (hdg : decode cc pc = .ok (.getfield 194, 3)) (kk : W p l e R s m args below meth c H locs cells slots Q (F0 m (pc + 3) ls (.ref (ad q) :: rest))) : W p l e R s m args below meth c H locs cells slots Q (F0 m pc ls (.ref (ad i) :: rest)) := r_get C0 X hP i 8 hk.1 hk.2 (by decide) rfl inX4 (by decide) (tm 113 (by decide +kernel) (by decide +kernel)) (by rw [fv, if_neg (fun z => h85 z.1), hq]) hdg kk
theorem gf_X4_33 (C0 : CX p s m args c cc nL RX4) (X : WX D cA ad A s) (hP : WP D cA ad o σ H) (i : Nat) {q : Nat} (hk : i < 106 ∧ kd i = (4, 13)) (h85 : ¬ i = 85) (hq : lk i 9 = some q) (hdg : decode cc pc = .ok (.getfield 33, 3)) (kk : W p l e R s m args below meth c H locs cells slots Q (F0 m (pc + 3) ls (.ref (ad q) :: rest))) : W p l e R s m args below meth c H locs cells slots Q (F0 m pc ls (.ref (ad i) :: rest)) := r_get C0 X hP i 9 hk.1 hk.2 (by decide) rfl inX4 (by decide) (tm 114 (by decide +kernel) (by decide +kernel)) (by rw [fv, if_neg (fun z => h85 z.1), hq]) hdg kk
theorem gf_X6_242 (C0 : CX p s m args c cc nL RX6) (X : WX D cA ad A s) (hP : WP D cA ad o σ H) (i : Nat) {q : Nat} (hk : i < 106 ∧ kd i = (4, 13)) (h85 : ¬ i = 85) (hq : lk i 9 = some q) (hdg : decode cc pc = .ok (.getfield 242, 3)) (kk : W p l e R s m args below meth c H locs cells slots Q (F0 m (pc + 3) ls (.ref (ad q) :: rest))) : W p l e R s m args below meth c H locs cells slots Q (F0 m pc ls (.ref (ad i) :: rest)) := r_get C0 X hP i 9 hk.1 hk.2 (by decide) rfl inX4 (by decide) (tm 115 (by decide +kernel) (by decide +kernel)) (by rw [fv, if_neg (fun z => h85 z.1), hq]) hdg kk
theorem gf_X4_36 (C0 : CX p s m args c cc nL RX4) (X : WX D cA ad A s) (hP : WP D cA ad o σ H) (i : Nat) {q : Nat} (hk : i < 106 ∧ kd i = (4, 13)) (h85 : ¬ i = 85) (hq : lk i 10 = some q) (hdg : decode cc pc = .ok (.getfield 36, 3)) (kk : W p l e R s m args below meth c H locs cells slots Q (F0 m (pc + 3) ls (.ref (ad q) :: rest))) : W p l e R s m args below meth c H locs cells slots Q (F0 m pc ls (.ref (ad i) :: rest)) := r_get C0 X hP i 10 hk.1 hk.2 (by decide) rfl inX4 (by decide) (tm 116 (by decide +kernel) (by decide +kernel)) (by rw [fv, if_neg (fun z => h85 z.1), hq]) hdg kk
theorem gf_X6_245 (C0 : CX p s m args c cc nL RX6) (X : WX D cA ad A s) (hP : WP D cA ad o σ H) (i : Nat) {q : Nat} (hk : i < 106 ∧ kd i = (4, 13)) (h85 : ¬ i = 85) (hq : lk i 10 = some q) (hdg : decode cc pc = .ok (.getfield 245, 3)) (kk : W p l e R s m args below meth c H locs cells slots Q (F0 m (pc + 3) ls (.ref (ad q) :: rest))) : W p l e R s m args below meth c H locs cells slots Q (F0 m pc ls (.ref (ad i) :: rest)) := r_get C0 X hP i 10 hk.1 hk.2 (by decide) rfl inX4 (by decide) (tm 117 (by decide +kernel) (by decide +kernel)) (by rw [fv, if_neg (fun z => h85 z.1), hq]) hdg kk
theorem gf_X4_39 (C0 : CX p s m args c cc nL RX4) (X : WX D cA ad A s) (hP : WP D cA ad o σ H) (i : Nat) {q : Nat} (hk : i < 106 ∧ kd i = (4, 13)) (h85 : ¬ i = 85) (hq : lk i 11 = some q) (hdg : decode cc pc = .ok (.getfield 39, 3)) (kk : W p l e R s m args below meth c H locs cells slots Q (F0 m (pc + 3) ls (.ref (ad q) :: rest))) : W p l e R s m args below meth c H locs cells slots Q (F0 m pc ls (.ref (ad i) :: rest)) := r_get C0 X hP i 11 hk.1 hk.2 (by decide) rfl inX4 (by decide) (tm 118 (by decide +kernel) (by decide +kernel)) (by rw [fv, if_neg (fun z => h85 z.1), hq]) hdg kk
theorem gf_X7_121 (C0 : CX p s m args c cc nL RX7) (X : WX D cA ad A s) (hP : WP D cA ad o σ H) (i : Nat) {q : Nat} (hk : i < 106 ∧ kd i = (4, 13)) (h85 : ¬ i = 85) (hq : lk i 11 = some q) (hdg : decode cc pc = .ok (.getfield 121, 3)) (kk : W p l e R s m args below meth c H locs cells slots Q (F0 m (pc + 3) ls (.ref (ad q) :: rest))) : W p l e R s m args below meth c H locs cells slots Q (F0 m pc ls (.ref (ad i) :: rest)) := r_get C0 X hP i 11 hk.1 hk.2 (by decide) rfl inX4 (by decide) (tm 119 (by decide +kernel) (by decide +kernel)) (by rw [fv, if_neg (fun z => h85 z.1), hq]) hdg kk
theorem gf_X6_203 (C0 : CX p s m args c cc nL RX6) (X : WX D cA ad A s) (hP : WP D cA ad o σ H) (i : Nat) {q : Nat} (hk : i < 106 ∧ kd i = (4, 13)) (h85 : ¬ i = 85) (hq : lk i 11 = some q) (hdg : decode cc pc = .ok (.getfield 203, 3)) (kk : W p l e R s m args below meth c H locs cells slots Q (F0 m (pc + 3) ls (.ref (ad q) :: rest))) : W p l e R s m args below meth c H locs cells slots Q (F0 m pc ls (.ref (ad i) :: rest)) := r_get C0 X hP i 11 hk.1 hk.2 (by decide) rfl inX4 (by decide) (tm 120 (by decide +kernel) (by decide +kernel)) (by rw [fv, if_neg (fun z => h85 z.1), hq]) hdg kk
theorem gf_X4_42 (C0 : CX p s m args c cc nL RX4) (X : WX D cA ad A s) (hP : WP D cA ad o σ H) (i : Nat) {q : Nat} (hk : i < 106 ∧ kd i = (4, 13)) (h85 : ¬ i = 85) (hq : lk i 12 = some q) (hdg : decode cc pc = .ok (.getfield 42, 3)) (kk : W p l e R s m args below meth c H locs cells slots Q (F0 m (pc + 3) ls (.ref (ad q) :: rest))) : W p l e R s m args below meth c H locs cells slots Q (F0 m pc ls (.ref (ad i) :: rest)) := r_get C0 X hP i 12 hk.1 hk.2 (by decide) rfl inX4 (by decide) (tm 121 (by decide +kernel) (by decide +kernel)) (by rw [fv, if_neg (fun z => h85 z.1), hq]) hdg kk
theorem gf_X7_124 (C0 : CX p s m args c cc nL RX7) (X : WX D cA ad A s) (hP : WP D cA ad o σ H) (i : Nat) {q : Nat} (hk : i < 106 ∧ kd i = (4, 13)) (h85 : ¬ i = 85) (hq : lk i 12 = some q) (hdg : decode cc pc = .ok (.getfield 124, 3)) (kk : W p l e R s m args below meth c H locs cells slots Q (F0 m (pc + 3) ls (.ref (ad q) :: rest))) : W p l e R s m args below meth c H locs cells slots Q (F0 m pc ls (.ref (ad i) :: rest)) := r_get C0 X hP i 12 hk.1 hk.2 (by decide) rfl inX4 (by decide) (tm 122 (by decide +kernel) (by decide +kernel)) (by rw [fv, if_neg (fun z => h85 z.1), hq]) hdg kk
theorem gf_X6_200 (C0 : CX p s m args c cc nL RX6) (X : WX D cA ad A s) (hP : WP D cA ad o σ H) (i : Nat) {q : Nat} (hk : i < 106 ∧ kd i = (4, 13)) (h85 : ¬ i = 85) (hq : lk i 12 = some q) (hdg : decode cc pc = .ok (.getfield 200, 3)) (kk : W p l e R s m args below meth c H locs cells slots Q (F0 m (pc + 3) ls (.ref (ad q) :: rest))) : W p l e R s m args below meth c H locs cells slots Q (F0 m pc ls (.ref (ad i) :: rest)) := r_get C0 X hP i 12 hk.1 hk.2 (by decide) rfl inX4 (by decide) (tm 123 (by decide +kernel) (by decide +kernel)) (by rw [fv, if_neg (fun z => h85 z.1), hq]) hdg kk
theorem gf_X0_15 (C0 : CX p s m args c cc nL RX0) (X : WX D cA ad A s) (hP : WP D cA ad o σ H) (i : Nat) (hk : i < 106 ∧ kd i = (0, 12)) (hdg : decode cc pc = .ok (.getfield 15, 3)) (kk : W p l e R s m args below meth c H locs cells slots Q (F0 m (pc + 3) ls (.int (σ i 0) :: rest))) : W p l e R s m args below meth c H locs cells slots Q (F0 m pc ls (.ref (ad i) :: rest)) := r_get C0 X hP i 0 hk.1 hk.2 (by decide) rfl inX0 (by decide) (tm 159 (by decide +kernel) (by decide +kernel)) (by rw [fv, if_neg (nk_0_0 i hk.1 hk.2).2, (nk_0_0 i hk.1 hk.2).1]) hdg kk
theorem pf_X0_15 (C0 : CX p s m args c cc nL RX0) (X : WX D cA ad A s) (hP : WP D cA ad o σ H) (hS : va_S A s.heap H locs) (i : Nat) {v : Int32} (h01 : v = 0 ∨ v = 1) (hk : i < 106 ∧ kd i = (0, 12)) (hdg : decode cc pc = .ok (.putfield 15, 3)) (kk : ∀ (H1 : Heap) (locs1 : List Loc), WP D cA ad o (stm σ i 0 v) H1 → va_S A s.heap H1 locs1 → W p l e R s m args below meth c H1 locs1 cells slots Q (F0 m (pc + 3) ls rest)) : W p l e R s m args below meth c H locs cells slots Q (F0 m pc ls (.int v :: .ref (ad i) :: rest)) := r_put C0 X hP hS i 0 hk.1 hk.2 (by decide) rfl inX0 tyX0 tyX0_ok nmX0 (by decide) (tm 159 (by decide +kernel) (by decide +kernel)) rfl rfl (by rcases h01 with rfl | rfl <;> rfl) (by rcases h01 with rfl | rfl <;> rfl) (nk_0_0 i hk.1 hk.2).1 (nk_0_0 i hk.1 hk.2).2 hdg kk
theorem gf_X6_67 (C0 : CX p s m args c cc nL RX6) (X : WX D cA ad A s) (hP : WP D cA ad o σ H) (i : Nat) (hk : i < 106 ∧ kd i = (0, 12)) (hdg : decode cc pc = .ok (.getfield 67, 3)) (kk : W p l e R s m args below meth c H locs cells slots Q (F0 m (pc + 3) ls (.int (σ i 0) :: rest))) : W p l e R s m args below meth c H locs cells slots Q (F0 m pc ls (.ref (ad i) :: rest)) := r_get C0 X hP i 0 hk.1 hk.2 (by decide) rfl inX0 (by decide) (tm 160 (by decide +kernel) (by decide +kernel)) (by rw [fv, if_neg (nk_0_0 i hk.1 hk.2).2, (nk_0_0 i hk.1 hk.2).1]) hdg kk
theorem pf_X6_67 (C0 : CX p s m args c cc nL RX6) (X : WX D cA ad A s) (hP : WP D cA ad o σ H) (hS : va_S A s.heap H locs) (i : Nat) {v : Int32} (h01 : v = 0 ∨ v = 1) (hk : i < 106 ∧ kd i = (0, 12)) (hdg : decode cc pc = .ok (.putfield 67, 3)) (kk : ∀ (H1 : Heap) (locs1 : List Loc), WP D cA ad o (stm σ i 0 v) H1 → va_S A s.heap H1 locs1 → W p l e R s m args below meth c H1 locs1 cells slots Q (F0 m (pc + 3) ls rest)) : W p l e R s m args below meth c H locs cells slots Q (F0 m pc ls (.int v :: .ref (ad i) :: rest)) := r_put C0 X hP hS i 0 hk.1 hk.2 (by decide) rfl inX0 tyX0 tyX0_ok nmX0 (by decide) (tm 160 (by decide +kernel) (by decide +kernel)) rfl rfl (by rcases h01 with rfl | rfl <;> rfl) (by rcases h01 with rfl | rfl <;> rfl) (nk_0_0 i hk.1 hk.2).1 (nk_0_0 i hk.1 hk.2).2 hdg kk
theorem gf_X7_103 (C0 : CX p s m args c cc nL RX7) (X : WX D cA ad A s) (hP : WP D cA ad o σ H) (i : Nat) (hk : i < 106 ∧ kd i = (0, 12)) (hdg : decode cc pc = .ok (.getfield 103, 3)) (kk : W p l e R s m args below meth c H locs cells slots Q (F0 m (pc + 3) ls (.int (σ i 0) :: rest))) : W p l e R s m args below meth c H locs cells slots Q (F0 m pc ls (.ref (ad i) :: rest)) := r_get C0 X hP i 0 hk.1 hk.2 (by decide) rfl inX0 (by decide) (tm 161 (by decide +kernel) (by decide +kernel)) (by rw [fv, if_neg (nk_0_0 i hk.1 hk.2).2, (nk_0_0 i hk.1 hk.2).1]) hdg kk
theorem pf_X7_103 (C0 : CX p s m args c cc nL RX7) (X : WX D cA ad A s) (hP : WP D cA ad o σ H) (hS : va_S A s.heap H locs) (i : Nat) {v : Int32} (h01 : v = 0 ∨ v = 1) (hk : i < 106 ∧ kd i = (0, 12)) (hdg : decode cc pc = .ok (.putfield 103, 3)) (kk : ∀ (H1 : Heap) (locs1 : List Loc), WP D cA ad o (stm σ i 0 v) H1 → va_S A s.heap H1 locs1 → W p l e R s m args below meth c H1 locs1 cells slots Q (F0 m (pc + 3) ls rest)) : W p l e R s m args below meth c H locs cells slots Q (F0 m pc ls (.int v :: .ref (ad i) :: rest)) := r_put C0 X hP hS i 0 hk.1 hk.2 (by decide) rfl inX0 tyX0 tyX0_ok nmX0 (by decide) (tm 161 (by decide +kernel) (by decide +kernel)) rfl rfl (by rcases h01 with rfl | rfl <;> rfl) (by rcases h01 with rfl | rfl <;> rfl) (nk_0_0 i hk.1 hk.2).1 (nk_0_0 i hk.1 hk.2).2 hdg kk
theorem gf_X0_19 (C0 : CX p s m args c cc nL RX0) (X : WX D cA ad A s) (hP : WP D cA ad o σ H) (i : Nat) (hk : i < 106 ∧ kd i = (0, 12)) (hdg : decode cc pc = .ok (.getfield 19, 3)) (kk : W p l e R s m args below meth c H locs cells slots Q (F0 m (pc + 3) ls (.int (σ i 1) :: rest))) : W p l e R s m args below meth c H locs cells slots Q (F0 m pc ls (.ref (ad i) :: rest)) := r_get C0 X hP i 1 hk.1 hk.2 (by decide) rfl inX0 (by decide) (tm 162 (by decide +kernel) (by decide +kernel)) (by rw [fv, if_neg (nk_0_1 i hk.1 hk.2).2, (nk_0_1 i hk.1 hk.2).1]) hdg kk
theorem pf_X0_19 (C0 : CX p s m args c cc nL RX0) (X : WX D cA ad A s) (hP : WP D cA ad o σ H) (hS : va_S A s.heap H locs) (i : Nat) {v : Int32} (h01 : v = 0 ∨ v = 1) (hk : i < 106 ∧ kd i = (0, 12)) (hdg : decode cc pc = .ok (.putfield 19, 3)) (kk : ∀ (H1 : Heap) (locs1 : List Loc), WP D cA ad o (stm σ i 1 v) H1 → va_S A s.heap H1 locs1 → W p l e R s m args below meth c H1 locs1 cells slots Q (F0 m (pc + 3) ls rest)) : W p l e R s m args below meth c H locs cells slots Q (F0 m pc ls (.int v :: .ref (ad i) :: rest)) := r_put C0 X hP hS i 1 hk.1 hk.2 (by decide) rfl inX0 tyX0 tyX0_ok nmX0 (by decide) (tm 162 (by decide +kernel) (by decide +kernel)) rfl rfl (by rcases h01 with rfl | rfl <;> rfl) (by rcases h01 with rfl | rfl <;> rfl) (nk_0_1 i hk.1 hk.2).1 (nk_0_1 i hk.1 hk.2).2 hdg kk
theorem gf_X6_77 (C0 : CX p s m args c cc nL RX6) (X : WX D cA ad A s) (hP : WP D cA ad o σ H) (i : Nat) (hk : i < 106 ∧ kd i = (0, 12)) (hdg : decode cc pc = .ok (.getfield 77, 3)) (kk : W p l e R s m args below meth c H locs cells slots Q (F0 m (pc + 3) ls (.int (σ i 1) :: rest))) : W p l e R s m args below meth c H locs cells slots Q (F0 m pc ls (.ref (ad i) :: rest)) := r_get C0 X hP i 1 hk.1 hk.2 (by decide) rfl inX0 (by decide) (tm 163 (by decide +kernel) (by decide +kernel)) (by rw [fv, if_neg (nk_0_1 i hk.1 hk.2).2, (nk_0_1 i hk.1 hk.2).1]) hdg kk
theorem pf_X6_77 (C0 : CX p s m args c cc nL RX6) (X : WX D cA ad A s) (hP : WP D cA ad o σ H) (hS : va_S A s.heap H locs) (i : Nat) {v : Int32} (h01 : v = 0 ∨ v = 1) (hk : i < 106 ∧ kd i = (0, 12)) (hdg : decode cc pc = .ok (.putfield 77, 3)) (kk : ∀ (H1 : Heap) (locs1 : List Loc), WP D cA ad o (stm σ i 1 v) H1 → va_S A s.heap H1 locs1 → W p l e R s m args below meth c H1 locs1 cells slots Q (F0 m (pc + 3) ls rest)) : W p l e R s m args below meth c H locs cells slots Q (F0 m pc ls (.int v :: .ref (ad i) :: rest)) := r_put C0 X hP hS i 1 hk.1 hk.2 (by decide) rfl inX0 tyX0 tyX0_ok nmX0 (by decide) (tm 163 (by decide +kernel) (by decide +kernel)) rfl rfl (by rcases h01 with rfl | rfl <;> rfl) (by rcases h01 with rfl | rfl <;> rfl) (nk_0_1 i hk.1 hk.2).1 (nk_0_1 i hk.1 hk.2).2 hdg kk
theorem gf_X7_112 (C0 : CX p s m args c cc nL RX7) (X : WX D cA ad A s) (hP : WP D cA ad o σ H) (i : Nat) (hk : i < 106 ∧ kd i = (0, 12)) (hdg : decode cc pc = .ok (.getfield 112, 3)) (kk : W p l e R s m args below meth c H locs cells slots Q (F0 m (pc + 3) ls (.int (σ i 1) :: rest))) : W p l e R s m args below meth c H locs cells slots Q (F0 m pc ls (.ref (ad i) :: rest)) := r_get C0 X hP i 1 hk.1 hk.2 (by decide) rfl inX0 (by decide) (tm 164 (by decide +kernel) (by decide +kernel)) (by rw [fv, if_neg (nk_0_1 i hk.1 hk.2).2, (nk_0_1 i hk.1 hk.2).1]) hdg kk
theorem pf_X7_112 (C0 : CX p s m args c cc nL RX7) (X : WX D cA ad A s) (hP : WP D cA ad o σ H) (hS : va_S A s.heap H locs) (i : Nat) {v : Int32} (h01 : v = 0 ∨ v = 1) (hk : i < 106 ∧ kd i = (0, 12)) (hdg : decode cc pc = .ok (.putfield 112, 3)) (kk : ∀ (H1 : Heap) (locs1 : List Loc), WP D cA ad o (stm σ i 1 v) H1 → va_S A s.heap H1 locs1 → W p l e R s m args below meth c H1 locs1 cells slots Q (F0 m (pc + 3) ls rest)) : W p l e R s m args below meth c H locs cells slots Q (F0 m pc ls (.int v :: .ref (ad i) :: rest)) := r_put C0 X hP hS i 1 hk.1 hk.2 (by decide) rfl inX0 tyX0 tyX0_ok nmX0 (by decide) (tm 164 (by decide +kernel) (by decide +kernel)) rfl rfl (by rcases h01 with rfl | rfl <;> rfl) (by rcases h01 with rfl | rfl <;> rfl) (nk_0_1 i hk.1 hk.2).1 (nk_0_1 i hk.1 hk.2).2 hdg kk
theorem gf_X0_22 (C0 : CX p s m args c cc nL RX0) (X : WX D cA ad A s) (hP : WP D cA ad o σ H) (i : Nat) (hk : i < 106 ∧ kd i = (0, 12)) (hdg : decode cc pc = .ok (.getfield 22, 3)) (kk : W p l e R s m args below meth c H locs cells slots Q (F0 m (pc + 3) ls (.int (σ i 2) :: rest))) : W p l e R s m args below meth c H locs cells slots Q (F0 m pc ls (.ref (ad i) :: rest)) := r_get C0 X hP i 2 hk.1 hk.2 (by decide) rfl inX0 (by decide) (tm 165 (by decide +kernel) (by decide +kernel)) (by rw [fv, if_neg (nk_0_2 i hk.1 hk.2).2, (nk_0_2 i hk.1 hk.2).1]) hdg kk
theorem pf_X0_22 (C0 : CX p s m args c cc nL RX0) (X : WX D cA ad A s) (hP : WP D cA ad o σ H) (hS : va_S A s.heap H locs) (i : Nat) {v : Int32} (hk : i < 106 ∧ kd i = (0, 12)) (hdg : decode cc pc = .ok (.putfield 22, 3)) (kk : ∀ (H1 : Heap) (locs1 : List Loc), WP D cA ad o (stm σ i 2 v) H1 → va_S A s.heap H1 locs1 → W p l e R s m args below meth c H1 locs1 cells slots Q (F0 m (pc + 3) ls rest)) : W p l e R s m args below meth c H locs cells slots Q (F0 m pc ls (.int v :: .ref (ad i) :: rest)) := r_put C0 X hP hS i 2 hk.1 hk.2 (by decide) rfl inX0 tyX0 tyX0_ok nmX0 (by decide) (tm 165 (by decide +kernel) (by decide +kernel)) rfl rfl rfl rfl (nk_0_2 i hk.1 hk.2).1 (nk_0_2 i hk.1 hk.2).2 hdg kk
theorem gf_X6_71 (C0 : CX p s m args c cc nL RX6) (X : WX D cA ad A s) (hP : WP D cA ad o σ H) (i : Nat) (hk : i < 106 ∧ kd i = (0, 12)) (hdg : decode cc pc = .ok (.getfield 71, 3)) (kk : W p l e R s m args below meth c H locs cells slots Q (F0 m (pc + 3) ls (.int (σ i 2) :: rest))) : W p l e R s m args below meth c H locs cells slots Q (F0 m pc ls (.ref (ad i) :: rest)) := r_get C0 X hP i 2 hk.1 hk.2 (by decide) rfl inX0 (by decide) (tm 166 (by decide +kernel) (by decide +kernel)) (by rw [fv, if_neg (nk_0_2 i hk.1 hk.2).2, (nk_0_2 i hk.1 hk.2).1]) hdg kk
theorem pf_X6_71 (C0 : CX p s m args c cc nL RX6) (X : WX D cA ad A s) (hP : WP D cA ad o σ H) (hS : va_S A s.heap H locs) (i : Nat) {v : Int32} (hk : i < 106 ∧ kd i = (0, 12)) (hdg : decode cc pc = .ok (.putfield 71, 3)) (kk : ∀ (H1 : Heap) (locs1 : List Loc), WP D cA ad o (stm σ i 2 v) H1 → va_S A s.heap H1 locs1 → W p l e R s m args below meth c H1 locs1 cells slots Q (F0 m (pc + 3) ls rest)) : W p l e R s m args below meth c H locs cells slots Q (F0 m pc ls (.int v :: .ref (ad i) :: rest)) := r_put C0 X hP hS i 2 hk.1 hk.2 (by decide) rfl inX0 tyX0 tyX0_ok nmX0 (by decide) (tm 166 (by decide +kernel) (by decide +kernel)) rfl rfl rfl rfl (nk_0_2 i hk.1 hk.2).1 (nk_0_2 i hk.1 hk.2).2 hdg kk
theorem gf_X7_109 (C0 : CX p s m args c cc nL RX7) (X : WX D cA ad A s) (hP : WP D cA ad o σ H) (i : Nat) (hk : i < 106 ∧ kd i = (0, 12)) (hdg : decode cc pc = .ok (.getfield 109, 3)) (kk : W p l e R s m args below meth c H locs cells slots Q (F0 m (pc + 3) ls (.int (σ i 2) :: rest))) : W p l e R s m args below meth c H locs cells slots Q (F0 m pc ls (.ref (ad i) :: rest)) := r_get C0 X hP i 2 hk.1 hk.2 (by decide) rfl inX0 (by decide) (tm 167 (by decide +kernel) (by decide +kernel)) (by rw [fv, if_neg (nk_0_2 i hk.1 hk.2).2, (nk_0_2 i hk.1 hk.2).1]) hdg kk
theorem pf_X7_109 (C0 : CX p s m args c cc nL RX7) (X : WX D cA ad A s) (hP : WP D cA ad o σ H) (hS : va_S A s.heap H locs) (i : Nat) {v : Int32} (hk : i < 106 ∧ kd i = (0, 12)) (hdg : decode cc pc = .ok (.putfield 109, 3)) (kk : ∀ (H1 : Heap) (locs1 : List Loc), WP D cA ad o (stm σ i 2 v) H1 → va_S A s.heap H1 locs1 → W p l e R s m args below meth c H1 locs1 cells slots Q (F0 m (pc + 3) ls rest)) : W p l e R s m args below meth c H locs cells slots Q (F0 m pc ls (.int v :: .ref (ad i) :: rest)) := r_put C0 X hP hS i 2 hk.1 hk.2 (by decide) rfl inX0 tyX0 tyX0_ok nmX0 (by decide) (tm 167 (by decide +kernel) (by decide +kernel)) rfl rfl rfl rfl (nk_0_2 i hk.1 hk.2).1 (nk_0_2 i hk.1 hk.2).2 hdg kk
theorem gf_X0_25 (C0 : CX p s m args c cc nL RX0) (X : WX D cA ad A s) (hP : WP D cA ad o σ H) (i : Nat) (hk : i < 106 ∧ kd i = (0, 12)) (hdg : decode cc pc = .ok (.getfield 25, 3)) (kk : W p l e R s m args below meth c H locs cells slots Q (F0 m (pc + 3) ls (.int (σ i 3) :: rest))) : W p l e R s m args below meth c H locs cells slots Q (F0 m pc ls (.ref (ad i) :: rest)) := r_get C0 X hP i 3 hk.1 hk.2 (by decide) rfl inX0 (by decide) (tm 168 (by decide +kernel) (by decide +kernel)) (by rw [fv, if_neg (nk_0_3 i hk.1 hk.2).2, (nk_0_3 i hk.1 hk.2).1]) hdg kk
theorem pf_X0_25 (C0 : CX p s m args c cc nL RX0) (X : WX D cA ad A s) (hP : WP D cA ad o σ H) (hS : va_S A s.heap H locs) (i : Nat) {v : Int32} (hk : i < 106 ∧ kd i = (0, 12)) (hdg : decode cc pc = .ok (.putfield 25, 3)) (kk : ∀ (H1 : Heap) (locs1 : List Loc), WP D cA ad o (stm σ i 3 v) H1 → va_S A s.heap H1 locs1 → W p l e R s m args below meth c H1 locs1 cells slots Q (F0 m (pc + 3) ls rest)) : W p l e R s m args below meth c H locs cells slots Q (F0 m pc ls (.int v :: .ref (ad i) :: rest)) := r_put C0 X hP hS i 3 hk.1 hk.2 (by decide) rfl inX0 tyX0 tyX0_ok nmX0 (by decide) (tm 168 (by decide +kernel) (by decide +kernel)) rfl rfl rfl rfl (nk_0_3 i hk.1 hk.2).1 (nk_0_3 i hk.1 hk.2).2 hdg kk
theorem gf_X6_74 (C0 : CX p s m args c cc nL RX6) (X : WX D cA ad A s) (hP : WP D cA ad o σ H) (i : Nat) (hk : i < 106 ∧ kd i = (0, 12)) (hdg : decode cc pc = .ok (.getfield 74, 3)) (kk : W p l e R s m args below meth c H locs cells slots Q (F0 m (pc + 3) ls (.int (σ i 3) :: rest))) : W p l e R s m args below meth c H locs cells slots Q (F0 m pc ls (.ref (ad i) :: rest)) := r_get C0 X hP i 3 hk.1 hk.2 (by decide) rfl inX0 (by decide) (tm 169 (by decide +kernel) (by decide +kernel)) (by rw [fv, if_neg (nk_0_3 i hk.1 hk.2).2, (nk_0_3 i hk.1 hk.2).1]) hdg kk
theorem pf_X6_74 (C0 : CX p s m args c cc nL RX6) (X : WX D cA ad A s) (hP : WP D cA ad o σ H) (hS : va_S A s.heap H locs) (i : Nat) {v : Int32} (hk : i < 106 ∧ kd i = (0, 12)) (hdg : decode cc pc = .ok (.putfield 74, 3)) (kk : ∀ (H1 : Heap) (locs1 : List Loc), WP D cA ad o (stm σ i 3 v) H1 → va_S A s.heap H1 locs1 → W p l e R s m args below meth c H1 locs1 cells slots Q (F0 m (pc + 3) ls rest)) : W p l e R s m args below meth c H locs cells slots Q (F0 m pc ls (.int v :: .ref (ad i) :: rest)) := r_put C0 X hP hS i 3 hk.1 hk.2 (by decide) rfl inX0 tyX0 tyX0_ok nmX0 (by decide) (tm 169 (by decide +kernel) (by decide +kernel)) rfl rfl rfl rfl (nk_0_3 i hk.1 hk.2).1 (nk_0_3 i hk.1 hk.2).2 hdg kk
theorem gf_X7_115 (C0 : CX p s m args c cc nL RX7) (X : WX D cA ad A s) (hP : WP D cA ad o σ H) (i : Nat) (hk : i < 106 ∧ kd i = (0, 12)) (hdg : decode cc pc = .ok (.getfield 115, 3)) (kk : W p l e R s m args below meth c H locs cells slots Q (F0 m (pc + 3) ls (.int (σ i 3) :: rest))) : W p l e R s m args below meth c H locs cells slots Q (F0 m pc ls (.ref (ad i) :: rest)) := r_get C0 X hP i 3 hk.1 hk.2 (by decide) rfl inX0 (by decide) (tm 170 (by decide +kernel) (by decide +kernel)) (by rw [fv, if_neg (nk_0_3 i hk.1 hk.2).2, (nk_0_3 i hk.1 hk.2).1]) hdg kk
theorem pf_X7_115 (C0 : CX p s m args c cc nL RX7) (X : WX D cA ad A s) (hP : WP D cA ad o σ H) (hS : va_S A s.heap H locs) (i : Nat) {v : Int32} (hk : i < 106 ∧ kd i = (0, 12)) (hdg : decode cc pc = .ok (.putfield 115, 3)) (kk : ∀ (H1 : Heap) (locs1 : List Loc), WP D cA ad o (stm σ i 3 v) H1 → va_S A s.heap H1 locs1 → W p l e R s m args below meth c H1 locs1 cells slots Q (F0 m (pc + 3) ls rest)) : W p l e R s m args below meth c H locs cells slots Q (F0 m pc ls (.int v :: .ref (ad i) :: rest)) := r_put C0 X hP hS i 3 hk.1 hk.2 (by decide) rfl inX0 tyX0 tyX0_ok nmX0 (by decide) (tm 170 (by decide +kernel) (by decide +kernel)) rfl rfl rfl rfl (nk_0_3 i hk.1 hk.2).1 (nk_0_3 i hk.1 hk.2).2 hdg kk
theorem gf_X0_28 (C0 : CX p s m args c cc nL RX0) (X : WX D cA ad A s) (hP : WP D cA ad o σ H) (i : Nat) (hk : i < 106 ∧ kd i = (0, 12)) (hdg : decode cc pc = .ok (.getfield 28, 3)) (kk : W p l e R s m args below meth c H locs cells slots Q (F0 m (pc + 3) ls (.int (σ i 4) :: rest))) : W p l e R s m args below meth c H locs cells slots Q (F0 m pc ls (.ref (ad i) :: rest)) := r_get C0 X hP i 4 hk.1 hk.2 (by decide) rfl inX0 (by decide) (tm 171 (by decide +kernel) (by decide +kernel)) (by rw [fv, if_neg (nk_0_4 i hk.1 hk.2).2, (nk_0_4 i hk.1 hk.2).1]) hdg kk
theorem pf_X0_28 (C0 : CX p s m args c cc nL RX0) (X : WX D cA ad A s) (hP : WP D cA ad o σ H) (hS : va_S A s.heap H locs) (i : Nat) {v : Int32} (hk : i < 106 ∧ kd i = (0, 12)) (hdg : decode cc pc = .ok (.putfield 28, 3)) (kk : ∀ (H1 : Heap) (locs1 : List Loc), WP D cA ad o (stm σ i 4 v) H1 → va_S A s.heap H1 locs1 → W p l e R s m args below meth c H1 locs1 cells slots Q (F0 m (pc + 3) ls rest)) : W p l e R s m args below meth c H locs cells slots Q (F0 m pc ls (.int v :: .ref (ad i) :: rest)) := r_put C0 X hP hS i 4 hk.1 hk.2 (by decide) rfl inX0 tyX0 tyX0_ok nmX0 (by decide) (tm 171 (by decide +kernel) (by decide +kernel)) rfl rfl rfl rfl (nk_0_4 i hk.1 hk.2).1 (nk_0_4 i hk.1 hk.2).2 hdg kk
theorem gf_X6_80 (C0 : CX p s m args c cc nL RX6) (X : WX D cA ad A s) (hP : WP D cA ad o σ H) (i : Nat) (hk : i < 106 ∧ kd i = (0, 12)) (hdg : decode cc pc = .ok (.getfield 80, 3)) (kk : W p l e R s m args below meth c H locs cells slots Q (F0 m (pc + 3) ls (.int (σ i 4) :: rest))) : W p l e R s m args below meth c H locs cells slots Q (F0 m pc ls (.ref (ad i) :: rest)) := r_get C0 X hP i 4 hk.1 hk.2 (by decide) rfl inX0 (by decide) (tm 172 (by decide +kernel) (by decide +kernel)) (by rw [fv, if_neg (nk_0_4 i hk.1 hk.2).2, (nk_0_4 i hk.1 hk.2).1]) hdg kk
theorem pf_X6_80 (C0 : CX p s m args c cc nL RX6) (X : WX D cA ad A s) (hP : WP D cA ad o σ H) (hS : va_S A s.heap H locs) (i : Nat) {v : Int32} (hk : i < 106 ∧ kd i = (0, 12)) (hdg : decode cc pc = .ok (.putfield 80, 3)) (kk : ∀ (H1 : Heap) (locs1 : List Loc), WP D cA ad o (stm σ i 4 v) H1 → va_S A s.heap H1 locs1 → W p l e R s m args below meth c H1 locs1 cells slots Q (F0 m (pc + 3) ls rest)) : W p l e R s m args below meth c H locs cells slots Q (F0 m pc ls (.int v :: .ref (ad i) :: rest)) := r_put C0 X hP hS i 4 hk.1 hk.2 (by decide) rfl inX0 tyX0 tyX0_ok nmX0 (by decide) (tm 172 (by decide +kernel) (by decide +kernel)) rfl rfl rfl rfl (nk_0_4 i hk.1 hk.2).1 (nk_0_4 i hk.1 hk.2).2 hdg kk
theorem gf_X7_118 (C0 : CX p s m args c cc nL RX7) (X : WX D cA ad A s) (hP : WP D cA ad o σ H) (i : Nat) (hk : i < 106 ∧ kd i = (0, 12)) (hdg : decode cc pc = .ok (.getfield 118, 3)) (kk : W p l e R s m args below meth c H locs cells slots Q (F0 m (pc + 3) ls (.int (σ i 4) :: rest))) : W p l e R s m args below meth c H locs cells slots Q (F0 m pc ls (.ref (ad i) :: rest)) := r_get C0 X hP i 4 hk.1 hk.2 (by decide) rfl inX0 (by decide) (tm 173 (by decide +kernel) (by decide +kernel)) (by rw [fv, if_neg (nk_0_4 i hk.1 hk.2).2, (nk_0_4 i hk.1 hk.2).1]) hdg kk
theorem pf_X7_118 (C0 : CX p s m args c cc nL RX7) (X : WX D cA ad A s) (hP : WP D cA ad o σ H) (hS : va_S A s.heap H locs) (i : Nat) {v : Int32} (hk : i < 106 ∧ kd i = (0, 12)) (hdg : decode cc pc = .ok (.putfield 118, 3)) (kk : ∀ (H1 : Heap) (locs1 : List Loc), WP D cA ad o (stm σ i 4 v) H1 → va_S A s.heap H1 locs1 → W p l e R s m args below meth c H1 locs1 cells slots Q (F0 m (pc + 3) ls rest)) : W p l e R s m args below meth c H locs cells slots Q (F0 m pc ls (.int v :: .ref (ad i) :: rest)) := r_put C0 X hP hS i 4 hk.1 hk.2 (by decide) rfl inX0 tyX0 tyX0_ok nmX0 (by decide) (tm 173 (by decide +kernel) (by decide +kernel)) rfl rfl rfl rfl (nk_0_4 i hk.1 hk.2).1 (nk_0_4 i hk.1 hk.2).2 hdg kk
theorem gf_X0_31 (C0 : CX p s m args c cc nL RX0) (X : WX D cA ad A s) (hP : WP D cA ad o σ H) (i : Nat) (hk : i < 106 ∧ kd i = (0, 12)) (hdg : decode cc pc = .ok (.getfield 31, 3)) (kk : W p l e R s m args below meth c H locs cells slots Q (F0 m (pc + 3) ls (.int (σ i 5) :: rest))) : W p l e R s m args below meth c H locs cells slots Q (F0 m pc ls (.ref (ad i) :: rest)) := r_get C0 X hP i 5 hk.1 hk.2 (by decide) rfl inX0 (by decide) (tm 174 (by decide +kernel) (by decide +kernel)) (by rw [fv, if_neg (nk_0_5 i hk.1 hk.2).2, (nk_0_5 i hk.1 hk.2).1]) hdg kk
theorem pf_X0_31 (C0 : CX p s m args c cc nL RX0) (X : WX D cA ad A s) (hP : WP D cA ad o σ H) (hS : va_S A s.heap H locs) (i : Nat) {v : Int32} (hk : i < 106 ∧ kd i = (0, 12)) (hdg : decode cc pc = .ok (.putfield 31, 3)) (kk : ∀ (H1 : Heap) (locs1 : List Loc), WP D cA ad o (stm σ i 5 v) H1 → va_S A s.heap H1 locs1 → W p l e R s m args below meth c H1 locs1 cells slots Q (F0 m (pc + 3) ls rest)) : W p l e R s m args below meth c H locs cells slots Q (F0 m pc ls (.int v :: .ref (ad i) :: rest)) := r_put C0 X hP hS i 5 hk.1 hk.2 (by decide) rfl inX0 tyX0 tyX0_ok nmX0 (by decide) (tm 174 (by decide +kernel) (by decide +kernel)) rfl rfl rfl rfl (nk_0_5 i hk.1 hk.2).1 (nk_0_5 i hk.1 hk.2).2 hdg kk
theorem gf_X6_110 (C0 : CX p s m args c cc nL RX6) (X : WX D cA ad A s) (hP : WP D cA ad o σ H) (i : Nat) (hk : i < 106 ∧ kd i = (0, 12)) (hdg : decode cc pc = .ok (.getfield 110, 3)) (kk : W p l e R s m args below meth c H locs cells slots Q (F0 m (pc + 3) ls (.int (σ i 5) :: rest))) : W p l e R s m args below meth c H locs cells slots Q (F0 m pc ls (.ref (ad i) :: rest)) := r_get C0 X hP i 5 hk.1 hk.2 (by decide) rfl inX0 (by decide) (tm 175 (by decide +kernel) (by decide +kernel)) (by rw [fv, if_neg (nk_0_5 i hk.1 hk.2).2, (nk_0_5 i hk.1 hk.2).1]) hdg kk
theorem pf_X6_110 (C0 : CX p s m args c cc nL RX6) (X : WX D cA ad A s) (hP : WP D cA ad o σ H) (hS : va_S A s.heap H locs) (i : Nat) {v : Int32} (hk : i < 106 ∧ kd i = (0, 12)) (hdg : decode cc pc = .ok (.putfield 110, 3)) (kk : ∀ (H1 : Heap) (locs1 : List Loc), WP D cA ad o (stm σ i 5 v) H1 → va_S A s.heap H1 locs1 → W p l e R s m args below meth c H1 locs1 cells slots Q (F0 m (pc + 3) ls rest)) : W p l e R s m args below meth c H locs cells slots Q (F0 m pc ls (.int v :: .ref (ad i) :: rest)) := r_put C0 X hP hS i 5 hk.1 hk.2 (by decide) rfl inX0 tyX0 tyX0_ok nmX0 (by decide) (tm 175 (by decide +kernel) (by decide +kernel)) rfl rfl rfl rfl (nk_0_5 i hk.1 hk.2).1 (nk_0_5 i hk.1 hk.2).2 hdg kk
theorem gf_X7_221 (C0 : CX p s m args c cc nL RX7) (X : WX D cA ad A s) (hP : WP D cA ad o σ H) (i : Nat) (hk : i < 106 ∧ kd i = (0, 12)) (hdg : decode cc pc = .ok (.getfield 221, 3)) (kk : W p l e R s m args below meth c H locs cells slots Q (F0 m (pc + 3) ls (.int (σ i 5) :: rest))) : W p l e R s m args below meth c H locs cells slots Q (F0 m pc ls (.ref (ad i) :: rest)) := r_get C0 X hP i 5 hk.1 hk.2 (by decide) rfl inX0 (by decide) (tm 176 (by decide +kernel) (by decide +kernel)) (by rw [fv, if_neg (nk_0_5 i hk.1 hk.2).2, (nk_0_5 i hk.1 hk.2).1]) hdg kk
theorem pf_X7_221 (C0 : CX p s m args c cc nL RX7) (X : WX D cA ad A s) (hP : WP D cA ad o σ H) (hS : va_S A s.heap H locs) (i : Nat) {v : Int32} (hk : i < 106 ∧ kd i = (0, 12)) (hdg : decode cc pc = .ok (.putfield 221, 3)) (kk : ∀ (H1 : Heap) (locs1 : List Loc), WP D cA ad o (stm σ i 5 v) H1 → va_S A s.heap H1 locs1 → W p l e R s m args below meth c H1 locs1 cells slots Q (F0 m (pc + 3) ls rest)) : W p l e R s m args below meth c H locs cells slots Q (F0 m pc ls (.int v :: .ref (ad i) :: rest)) := r_put C0 X hP hS i 5 hk.1 hk.2 (by decide) rfl inX0 tyX0 tyX0_ok nmX0 (by decide) (tm 176 (by decide +kernel) (by decide +kernel)) rfl rfl rfl rfl (nk_0_5 i hk.1 hk.2).1 (nk_0_5 i hk.1 hk.2).2 hdg kk
theorem gf_X0_9 (C0 : CX p s m args c cc nL RX0) (X : WX D cA ad A s) (hP : WP D cA ad o σ H) (i : Nat) (hk : i < 106 ∧ kd i = (0, 12)) (hdg : decode cc pc = .ok (.getfield 9, 3)) (kk : W p l e R s m args below meth c H locs cells slots Q (F0 m (pc + 3) ls (.int (σ i 6) :: rest))) : W p l e R s m args below meth c H locs cells slots Q (F0 m pc ls (.ref (ad i) :: rest)) := r_get C0 X hP i 6 hk.1 hk.2 (by decide) rfl inX0 (by decide) (tm 177 (by decide +kernel) (by decide +kernel)) (by rw [fv, if_neg (nk_0_6 i hk.1 hk.2).2, (nk_0_6 i hk.1 hk.2).1]) hdg kk
theorem pf_X0_9 (C0 : CX p s m args c cc nL RX0) (X : WX D cA ad A s) (hP : WP D cA ad o σ H) (hS : va_S A s.heap H locs) (i : Nat) {v : Int32} (hk : i < 106 ∧ kd i = (0, 12)) (hdg : decode cc pc = .ok (.putfield 9, 3)) (kk : ∀ (H1 : Heap) (locs1 : List Loc), WP D cA ad o (stm σ i 6 v) H1 → va_S A s.heap H1 locs1 → W p l e R s m args below meth c H1 locs1 cells slots Q (F0 m (pc + 3) ls rest)) : W p l e R s m args below meth c H locs cells slots Q (F0 m pc ls (.int v :: .ref (ad i) :: rest)) := r_put C0 X hP hS i 6 hk.1 hk.2 (by decide) rfl inX0 tyX0 tyX0_ok nmX0 (by decide) (tm 177 (by decide +kernel) (by decide +kernel)) rfl rfl rfl rfl (nk_0_6 i hk.1 hk.2).1 (nk_0_6 i hk.1 hk.2).2 hdg kk
theorem gf_X6_83 (C0 : CX p s m args c cc nL RX6) (X : WX D cA ad A s) (hP : WP D cA ad o σ H) (i : Nat) (hk : i < 106 ∧ kd i = (0, 12)) (hdg : decode cc pc = .ok (.getfield 83, 3)) (kk : W p l e R s m args below meth c H locs cells slots Q (F0 m (pc + 3) ls (.int (σ i 6) :: rest))) : W p l e R s m args below meth c H locs cells slots Q (F0 m pc ls (.ref (ad i) :: rest)) := r_get C0 X hP i 6 hk.1 hk.2 (by decide) rfl inX0 (by decide) (tm 178 (by decide +kernel) (by decide +kernel)) (by rw [fv, if_neg (nk_0_6 i hk.1 hk.2).2, (nk_0_6 i hk.1 hk.2).1]) hdg kk
theorem pf_X6_83 (C0 : CX p s m args c cc nL RX6) (X : WX D cA ad A s) (hP : WP D cA ad o σ H) (hS : va_S A s.heap H locs) (i : Nat) {v : Int32} (hk : i < 106 ∧ kd i = (0, 12)) (hdg : decode cc pc = .ok (.putfield 83, 3)) (kk : ∀ (H1 : Heap) (locs1 : List Loc), WP D cA ad o (stm σ i 6 v) H1 → va_S A s.heap H1 locs1 → W p l e R s m args below meth c H1 locs1 cells slots Q (F0 m (pc + 3) ls rest)) : W p l e R s m args below meth c H locs cells slots Q (F0 m pc ls (.int v :: .ref (ad i) :: rest)) := r_put C0 X hP hS i 6 hk.1 hk.2 (by decide) rfl inX0 tyX0 tyX0_ok nmX0 (by decide) (tm 178 (by decide +kernel) (by decide +kernel)) rfl rfl rfl rfl (nk_0_6 i hk.1 hk.2).1 (nk_0_6 i hk.1 hk.2).2 hdg kk
theorem gf_X7_154 (C0 : CX p s m args c cc nL RX7) (X : WX D cA ad A s) (hP : WP D cA ad o σ H) (i : Nat) (hk : i < 106 ∧ kd i = (0, 12)) (hdg : decode cc pc = .ok (.getfield 154, 3)) (kk : W p l e R s m args below meth c H locs cells slots Q (F0 m (pc + 3) ls (.int (σ i 6) :: rest))) : W p l e R s m args below meth c H locs cells slots Q (F0 m pc ls (.ref (ad i) :: rest)) := r_get C0 X hP i 6 hk.1 hk.2 (by decide) rfl inX0 (by decide) (tm 179 (by decide +kernel) (by decide +kernel)) (by rw [fv, if_neg (nk_0_6 i hk.1 hk.2).2, (nk_0_6 i hk.1 hk.2).1]) hdg kk
theorem pf_X7_154 (C0 : CX p s m args c cc nL RX7) (X : WX D cA ad A s) (hP : WP D cA ad o σ H) (hS : va_S A s.heap H locs) (i : Nat) {v : Int32} (hk : i < 106 ∧ kd i = (0, 12)) (hdg : decode cc pc = .ok (.putfield 154, 3)) (kk : ∀ (H1 : Heap) (locs1 : List Loc), WP D cA ad o (stm σ i 6 v) H1 → va_S A s.heap H1 locs1 → W p l e R s m args below meth c H1 locs1 cells slots Q (F0 m (pc + 3) ls rest)) : W p l e R s m args below meth c H locs cells slots Q (F0 m pc ls (.int v :: .ref (ad i) :: rest)) := r_put C0 X hP hS i 6 hk.1 hk.2 (by decide) rfl inX0 tyX0 tyX0_ok nmX0 (by decide) (tm 179 (by decide +kernel) (by decide +kernel)) rfl rfl rfl rfl (nk_0_6 i hk.1 hk.2).1 (nk_0_6 i hk.1 hk.2).2 hdg kk
theorem gf_X0_34 (C0 : CX p s m args c cc nL RX0) (X : WX D cA ad A s) (hP : WP D cA ad o σ H) (i : Nat) (hk : i < 106 ∧ kd i = (0, 12)) (hdg : decode cc pc = .ok (.getfield 34, 3)) (kk : W p l e R s m args below meth c H locs cells slots Q (F0 m (pc + 3) ls (.int (σ i 7) :: rest))) : W p l e R s m args below meth c H locs cells slots Q (F0 m pc ls (.ref (ad i) :: rest)) := r_get C0 X hP i 7 hk.1 hk.2 (by decide) rfl inX0 (by decide) (tm 180 (by decide +kernel) (by decide +kernel)) (by rw [fv, if_neg (nk_0_7 i hk.1 hk.2).2, (nk_0_7 i hk.1 hk.2).1]) hdg kk
theorem pf_X0_34 (C0 : CX p s m args c cc nL RX0) (X : WX D cA ad A s) (hP : WP D cA ad o σ H) (hS : va_S A s.heap H locs) (i : Nat) {v : Int32} (h01 : v = 0 ∨ v = 1) (hk : i < 106 ∧ kd i = (0, 12)) (hdg : decode cc pc = .ok (.putfield 34, 3)) (kk : ∀ (H1 : Heap) (locs1 : List Loc), WP D cA ad o (stm σ i 7 v) H1 → va_S A s.heap H1 locs1 → W p l e R s m args below meth c H1 locs1 cells slots Q (F0 m (pc + 3) ls rest)) : W p l e R s m args below meth c H locs cells slots Q (F0 m pc ls (.int v :: .ref (ad i) :: rest)) := r_put C0 X hP hS i 7 hk.1 hk.2 (by decide) rfl inX0 tyX0 tyX0_ok nmX0 (by decide) (tm 180 (by decide +kernel) (by decide +kernel)) rfl rfl (by rcases h01 with rfl | rfl <;> rfl) (by rcases h01 with rfl | rfl <;> rfl) (nk_0_7 i hk.1 hk.2).1 (nk_0_7 i hk.1 hk.2).2 hdg kk
theorem gf_X7_157 (C0 : CX p s m args c cc nL RX7) (X : WX D cA ad A s) (hP : WP D cA ad o σ H) (i : Nat) (hk : i < 106 ∧ kd i = (0, 12)) (hdg : decode cc pc = .ok (.getfield 157, 3)) (kk : W p l e R s m args below meth c H locs cells slots Q (F0 m (pc + 3) ls (.int (σ i 7) :: rest))) : W p l e R s m args below meth c H locs cells slots Q (F0 m pc ls (.ref (ad i) :: rest)) := r_get C0 X hP i 7 hk.1 hk.2 (by decide) rfl inX0 (by decide) (tm 181 (by decide +kernel) (by decide +kernel)) (by rw [fv, if_neg (nk_0_7 i hk.1 hk.2).2, (nk_0_7 i hk.1 hk.2).1]) hdg kk
theorem pf_X7_157 (C0 : CX p s m args c cc nL RX7) (X : WX D cA ad A s) (hP : WP D cA ad o σ H) (hS : va_S A s.heap H locs) (i : Nat) {v : Int32} (h01 : v = 0 ∨ v = 1) (hk : i < 106 ∧ kd i = (0, 12)) (hdg : decode cc pc = .ok (.putfield 157, 3)) (kk : ∀ (H1 : Heap) (locs1 : List Loc), WP D cA ad o (stm σ i 7 v) H1 → va_S A s.heap H1 locs1 → W p l e R s m args below meth c H1 locs1 cells slots Q (F0 m (pc + 3) ls rest)) : W p l e R s m args below meth c H locs cells slots Q (F0 m pc ls (.int v :: .ref (ad i) :: rest)) := r_put C0 X hP hS i 7 hk.1 hk.2 (by decide) rfl inX0 tyX0 tyX0_ok nmX0 (by decide) (tm 181 (by decide +kernel) (by decide +kernel)) rfl rfl (by rcases h01 with rfl | rfl <;> rfl) (by rcases h01 with rfl | rfl <;> rfl) (nk_0_7 i hk.1 hk.2).1 (nk_0_7 i hk.1 hk.2).2 hdg kk
theorem gf_X6_119 (C0 : CX p s m args c cc nL RX6) (X : WX D cA ad A s) (hP : WP D cA ad o σ H) (i : Nat) (hk : i < 106 ∧ kd i = (0, 12)) (hdg : decode cc pc = .ok (.getfield 119, 3)) (kk : W p l e R s m args below meth c H locs cells slots Q (F0 m (pc + 3) ls (.int (σ i 7) :: rest))) : W p l e R s m args below meth c H locs cells slots Q (F0 m pc ls (.ref (ad i) :: rest)) := r_get C0 X hP i 7 hk.1 hk.2 (by decide) rfl inX0 (by decide) (tm 182 (by decide +kernel) (by decide +kernel)) (by rw [fv, if_neg (nk_0_7 i hk.1 hk.2).2, (nk_0_7 i hk.1 hk.2).1]) hdg kk
theorem pf_X6_119 (C0 : CX p s m args c cc nL RX6) (X : WX D cA ad A s) (hP : WP D cA ad o σ H) (hS : va_S A s.heap H locs) (i : Nat) {v : Int32} (h01 : v = 0 ∨ v = 1) (hk : i < 106 ∧ kd i = (0, 12)) (hdg : decode cc pc = .ok (.putfield 119, 3)) (kk : ∀ (H1 : Heap) (locs1 : List Loc), WP D cA ad o (stm σ i 7 v) H1 → va_S A s.heap H1 locs1 → W p l e R s m args below meth c H1 locs1 cells slots Q (F0 m (pc + 3) ls rest)) : W p l e R s m args below meth c H locs cells slots Q (F0 m pc ls (.int v :: .ref (ad i) :: rest)) := r_put C0 X hP hS i 7 hk.1 hk.2 (by decide) rfl inX0 tyX0 tyX0_ok nmX0 (by decide) (tm 182 (by decide +kernel) (by decide +kernel)) rfl rfl (by rcases h01 with rfl | rfl <;> rfl) (by rcases h01 with rfl | rfl <;> rfl) (nk_0_7 i hk.1 hk.2).1 (nk_0_7 i hk.1 hk.2).2 hdg kk
theorem gf_X0_37 (C0 : CX p s m args c cc nL RX0) (X : WX D cA ad A s) (hP : WP D cA ad o σ H) (i : Nat) (hk : i < 106 ∧ kd i = (0, 12)) (hdg : decode cc pc = .ok (.getfield 37, 3)) (kk : W p l e R s m args below meth c H locs cells slots Q (F0 m (pc + 3) ls (.int (σ i 8) :: rest))) : W p l e R s m args below meth c H locs cells slots Q (F0 m pc ls (.ref (ad i) :: rest)) := r_get C0 X hP i 8 hk.1 hk.2 (by decide) rfl inX0 (by decide) (tm 183 (by decide +kernel) (by decide +kernel)) (by rw [fv, if_neg (nk_0_8 i hk.1 hk.2).2, (nk_0_8 i hk.1 hk.2).1]) hdg kk
theorem pf_X0_37 (C0 : CX p s m args c cc nL RX0) (X : WX D cA ad A s) (hP : WP D cA ad o σ H) (hS : va_S A s.heap H locs) (i : Nat) {v : Int32} (h01 : v = 0 ∨ v = 1) (hk : i < 106 ∧ kd i = (0, 12)) (hdg : decode cc pc = .ok (.putfield 37, 3)) (kk : ∀ (H1 : Heap) (locs1 : List Loc), WP D cA ad o (stm σ i 8 v) H1 → va_S A s.heap H1 locs1 → W p l e R s m args below meth c H1 locs1 cells slots Q (F0 m (pc + 3) ls rest)) : W p l e R s m args below meth c H locs cells slots Q (F0 m pc ls (.int v :: .ref (ad i) :: rest)) := r_put C0 X hP hS i 8 hk.1 hk.2 (by decide) rfl inX0 tyX0 tyX0_ok nmX0 (by decide) (tm 183 (by decide +kernel) (by decide +kernel)) rfl rfl (by rcases h01 with rfl | rfl <;> rfl) (by rcases h01 with rfl | rfl <;> rfl) (nk_0_8 i hk.1 hk.2).1 (nk_0_8 i hk.1 hk.2).2 hdg kk
theorem gf_X6_140 (C0 : CX p s m args c cc nL RX6) (X : WX D cA ad A s) (hP : WP D cA ad o σ H) (i : Nat) (hk : i < 106 ∧ kd i = (0, 12)) (hdg : decode cc pc = .ok (.getfield 140, 3)) (kk : W p l e R s m args below meth c H locs cells slots Q (F0 m (pc + 3) ls (.int (σ i 8) :: rest))) : W p l e R s m args below meth c H locs cells slots Q (F0 m pc ls (.ref (ad i) :: rest)) := r_get C0 X hP i 8 hk.1 hk.2 (by decide) rfl inX0 (by decide) (tm 184 (by decide +kernel) (by decide +kernel)) (by rw [fv, if_neg (nk_0_8 i hk.1 hk.2).2, (nk_0_8 i hk.1 hk.2).1]) hdg kk
theorem pf_X6_140 (C0 : CX p s m args c cc nL RX6) (X : WX D cA ad A s) (hP : WP D cA ad o σ H) (hS : va_S A s.heap H locs) (i : Nat) {v : Int32} (h01 : v = 0 ∨ v = 1) (hk : i < 106 ∧ kd i = (0, 12)) (hdg : decode cc pc = .ok (.putfield 140, 3)) (kk : ∀ (H1 : Heap) (locs1 : List Loc), WP D cA ad o (stm σ i 8 v) H1 → va_S A s.heap H1 locs1 → W p l e R s m args below meth c H1 locs1 cells slots Q (F0 m (pc + 3) ls rest)) : W p l e R s m args below meth c H locs cells slots Q (F0 m pc ls (.int v :: .ref (ad i) :: rest)) := r_put C0 X hP hS i 8 hk.1 hk.2 (by decide) rfl inX0 tyX0 tyX0_ok nmX0 (by decide) (tm 184 (by decide +kernel) (by decide +kernel)) rfl rfl (by rcases h01 with rfl | rfl <;> rfl) (by rcases h01 with rfl | rfl <;> rfl) (nk_0_8 i hk.1 hk.2).1 (nk_0_8 i hk.1 hk.2).2 hdg kk
theorem gf_X0_40 (C0 : CX p s m args c cc nL RX0) (X : WX D cA ad A s) (hP : WP D cA ad o σ H) (i : Nat) (hk : i < 106 ∧ kd i = (0, 12)) (hdg : decode cc pc = .ok (.getfield 40, 3)) (kk : W p l e R s m args below meth c H locs cells slots Q (F0 m (pc + 3) ls (.int (σ i 9) :: rest))) : W p l e R s m args below meth c H locs cells slots Q (F0 m pc ls (.ref (ad i) :: rest)) := r_get C0 X hP i 9 hk.1 hk.2 (by decide) rfl inX0 (by decide) (tm 185 (by decide +kernel) (by decide +kernel)) (by rw [fv, if_neg (nk_0_9 i hk.1 hk.2).2, (nk_0_9 i hk.1 hk.2).1]) hdg kk
theorem pf_X0_40 (C0 : CX p s m args c cc nL RX0) (X : WX D cA ad A s) (hP : WP D cA ad o σ H) (hS : va_S A s.heap H locs) (i : Nat) {v : Int32} (hk : i < 106 ∧ kd i = (0, 12)) (hdg : decode cc pc = .ok (.putfield 40, 3)) (kk : ∀ (H1 : Heap) (locs1 : List Loc), WP D cA ad o (stm σ i 9 v) H1 → va_S A s.heap H1 locs1 → W p l e R s m args below meth c H1 locs1 cells slots Q (F0 m (pc + 3) ls rest)) : W p l e R s m args below meth c H locs cells slots Q (F0 m pc ls (.int v :: .ref (ad i) :: rest)) := r_put C0 X hP hS i 9 hk.1 hk.2 (by decide) rfl inX0 tyX0 tyX0_ok nmX0 (by decide) (tm 185 (by decide +kernel) (by decide +kernel)) rfl rfl rfl rfl (nk_0_9 i hk.1 hk.2).1 (nk_0_9 i hk.1 hk.2).2 hdg kk
theorem gf_X7_160 (C0 : CX p s m args c cc nL RX7) (X : WX D cA ad A s) (hP : WP D cA ad o σ H) (i : Nat) (hk : i < 106 ∧ kd i = (0, 12)) (hdg : decode cc pc = .ok (.getfield 160, 3)) (kk : W p l e R s m args below meth c H locs cells slots Q (F0 m (pc + 3) ls (.int (σ i 9) :: rest))) : W p l e R s m args below meth c H locs cells slots Q (F0 m pc ls (.ref (ad i) :: rest)) := r_get C0 X hP i 9 hk.1 hk.2 (by decide) rfl inX0 (by decide) (tm 186 (by decide +kernel) (by decide +kernel)) (by rw [fv, if_neg (nk_0_9 i hk.1 hk.2).2, (nk_0_9 i hk.1 hk.2).1]) hdg kk
theorem pf_X7_160 (C0 : CX p s m args c cc nL RX7) (X : WX D cA ad A s) (hP : WP D cA ad o σ H) (hS : va_S A s.heap H locs) (i : Nat) {v : Int32} (hk : i < 106 ∧ kd i = (0, 12)) (hdg : decode cc pc = .ok (.putfield 160, 3)) (kk : ∀ (H1 : Heap) (locs1 : List Loc), WP D cA ad o (stm σ i 9 v) H1 → va_S A s.heap H1 locs1 → W p l e R s m args below meth c H1 locs1 cells slots Q (F0 m (pc + 3) ls rest)) : W p l e R s m args below meth c H locs cells slots Q (F0 m pc ls (.int v :: .ref (ad i) :: rest)) := r_put C0 X hP hS i 9 hk.1 hk.2 (by decide) rfl inX0 tyX0 tyX0_ok nmX0 (by decide) (tm 186 (by decide +kernel) (by decide +kernel)) rfl rfl rfl rfl (nk_0_9 i hk.1 hk.2).1 (nk_0_9 i hk.1 hk.2).2 hdg kk
theorem gf_X6_116 (C0 : CX p s m args c cc nL RX6) (X : WX D cA ad A s) (hP : WP D cA ad o σ H) (i : Nat) (hk : i < 106 ∧ kd i = (0, 12)) (hdg : decode cc pc = .ok (.getfield 116, 3)) (kk : W p l e R s m args below meth c H locs cells slots Q (F0 m (pc + 3) ls (.int (σ i 9) :: rest))) : W p l e R s m args below meth c H locs cells slots Q (F0 m pc ls (.ref (ad i) :: rest)) := r_get C0 X hP i 9 hk.1 hk.2 (by decide) rfl inX0 (by decide) (tm 187 (by decide +kernel) (by decide +kernel)) (by rw [fv, if_neg (nk_0_9 i hk.1 hk.2).2, (nk_0_9 i hk.1 hk.2).1]) hdg kk
theorem pf_X6_116 (C0 : CX p s m args c cc nL RX6) (X : WX D cA ad A s) (hP : WP D cA ad o σ H) (hS : va_S A s.heap H locs) (i : Nat) {v : Int32} (hk : i < 106 ∧ kd i = (0, 12)) (hdg : decode cc pc = .ok (.putfield 116, 3)) (kk : ∀ (H1 : Heap) (locs1 : List Loc), WP D cA ad o (stm σ i 9 v) H1 → va_S A s.heap H1 locs1 → W p l e R s m args below meth c H1 locs1 cells slots Q (F0 m (pc + 3) ls rest)) : W p l e R s m args below meth c H locs cells slots Q (F0 m pc ls (.int v :: .ref (ad i) :: rest)) := r_put C0 X hP hS i 9 hk.1 hk.2 (by decide) rfl inX0 tyX0 tyX0_ok nmX0 (by decide) (tm 187 (by decide +kernel) (by decide +kernel)) rfl rfl rfl rfl (nk_0_9 i hk.1 hk.2).1 (nk_0_9 i hk.1 hk.2).2 hdg kk
theorem gf_X0_43 (C0 : CX p s m args c cc nL RX0) (X : WX D cA ad A s) (hP : WP D cA ad o σ H) (i : Nat) (hk : i < 106 ∧ kd i = (0, 12)) (hdg : decode cc pc = .ok (.getfield 43, 3)) (kk : W p l e R s m args below meth c H locs cells slots Q (F0 m (pc + 3) ls (.int (σ i 10) :: rest))) : W p l e R s m args below meth c H locs cells slots Q (F0 m pc ls (.ref (ad i) :: rest)) := r_get C0 X hP i 10 hk.1 hk.2 (by decide) rfl inX0 (by decide) (tm 188 (by decide +kernel) (by decide +kernel)) (by rw [fv, if_neg (nk_0_10 i hk.1 hk.2).2, (nk_0_10 i hk.1 hk.2).1]) hdg kk
theorem pf_X0_43 (C0 : CX p s m args c cc nL RX0) (X : WX D cA ad A s) (hP : WP D cA ad o σ H) (hS : va_S A s.heap H locs) (i : Nat) {v : Int32} (hk : i < 106 ∧ kd i = (0, 12)) (hdg : decode cc pc = .ok (.putfield 43, 3)) (kk : ∀ (H1 : Heap) (locs1 : List Loc), WP D cA ad o (stm σ i 10 v) H1 → va_S A s.heap H1 locs1 → W p l e R s m args below meth c H1 locs1 cells slots Q (F0 m (pc + 3) ls rest)) : W p l e R s m args below meth c H locs cells slots Q (F0 m pc ls (.int v :: .ref (ad i) :: rest)) := r_put C0 X hP hS i 10 hk.1 hk.2 (by decide) rfl inX0 tyX0 tyX0_ok nmX0 (by decide) (tm 188 (by decide +kernel) (by decide +kernel)) rfl rfl rfl rfl (nk_0_10 i hk.1 hk.2).1 (nk_0_10 i hk.1 hk.2).2 hdg kk
theorem gf_X6_86 (C0 : CX p s m args c cc nL RX6) (X : WX D cA ad A s) (hP : WP D cA ad o σ H) (i : Nat) (hk : i < 106 ∧ kd i = (0, 12)) (hdg : decode cc pc = .ok (.getfield 86, 3)) (kk : W p l e R s m args below meth c H locs cells slots Q (F0 m (pc + 3) ls (.int (σ i 10) :: rest))) : W p l e R s m args below meth c H locs cells slots Q (F0 m pc ls (.ref (ad i) :: rest)) := r_get C0 X hP i 10 hk.1 hk.2 (by decide) rfl inX0 (by decide) (tm 189 (by decide +kernel) (by decide +kernel)) (by rw [fv, if_neg (nk_0_10 i hk.1 hk.2).2, (nk_0_10 i hk.1 hk.2).1]) hdg kk
theorem pf_X6_86 (C0 : CX p s m args c cc nL RX6) (X : WX D cA ad A s) (hP : WP D cA ad o σ H) (hS : va_S A s.heap H locs) (i : Nat) {v : Int32} (hk : i < 106 ∧ kd i = (0, 12)) (hdg : decode cc pc = .ok (.putfield 86, 3)) (kk : ∀ (H1 : Heap) (locs1 : List Loc), WP D cA ad o (stm σ i 10 v) H1 → va_S A s.heap H1 locs1 → W p l e R s m args below meth c H1 locs1 cells slots Q (F0 m (pc + 3) ls rest)) : W p l e R s m args below meth c H locs cells slots Q (F0 m pc ls (.int v :: .ref (ad i) :: rest)) := r_put C0 X hP hS i 10 hk.1 hk.2 (by decide) rfl inX0 tyX0 tyX0_ok nmX0 (by decide) (tm 189 (by decide +kernel) (by decide +kernel)) rfl rfl rfl rfl (nk_0_10 i hk.1 hk.2).1 (nk_0_10 i hk.1 hk.2).2 hdg kk
theorem gf_X7_163 (C0 : CX p s m args c cc nL RX7) (X : WX D cA ad A s) (hP : WP D cA ad o σ H) (i : Nat) (hk : i < 106 ∧ kd i = (0, 12)) (hdg : decode cc pc = .ok (.getfield 163, 3)) (kk : W p l e R s m args below meth c H locs cells slots Q (F0 m (pc + 3) ls (.int (σ i 10) :: rest))) : W p l e R s m args below meth c H locs cells slots Q (F0 m pc ls (.ref (ad i) :: rest)) := r_get C0 X hP i 10 hk.1 hk.2 (by decide) rfl inX0 (by decide) (tm 190 (by decide +kernel) (by decide +kernel)) (by rw [fv, if_neg (nk_0_10 i hk.1 hk.2).2, (nk_0_10 i hk.1 hk.2).1]) hdg kk
theorem pf_X7_163 (C0 : CX p s m args c cc nL RX7) (X : WX D cA ad A s) (hP : WP D cA ad o σ H) (hS : va_S A s.heap H locs) (i : Nat) {v : Int32} (hk : i < 106 ∧ kd i = (0, 12)) (hdg : decode cc pc = .ok (.putfield 163, 3)) (kk : ∀ (H1 : Heap) (locs1 : List Loc), WP D cA ad o (stm σ i 10 v) H1 → va_S A s.heap H1 locs1 → W p l e R s m args below meth c H1 locs1 cells slots Q (F0 m (pc + 3) ls rest)) : W p l e R s m args below meth c H locs cells slots Q (F0 m pc ls (.int v :: .ref (ad i) :: rest)) := r_put C0 X hP hS i 10 hk.1 hk.2 (by decide) rfl inX0 tyX0 tyX0_ok nmX0 (by decide) (tm 190 (by decide +kernel) (by decide +kernel)) rfl rfl rfl rfl (nk_0_10 i hk.1 hk.2).1 (nk_0_10 i hk.1 hk.2).2 hdg kk
theorem gf_X0_46 (C0 : CX p s m args c cc nL RX0) (X : WX D cA ad A s) (hP : WP D cA ad o σ H) (i : Nat) (hk : i < 106 ∧ kd i = (0, 12)) (hdg : decode cc pc = .ok (.getfield 46, 3)) (kk : W p l e R s m args below meth c H locs cells slots Q (F0 m (pc + 3) ls (.int (σ i 11) :: rest))) : W p l e R s m args below meth c H locs cells slots Q (F0 m pc ls (.ref (ad i) :: rest)) := r_get C0 X hP i 11 hk.1 hk.2 (by decide) rfl inX0 (by decide) (tm 191 (by decide +kernel) (by decide +kernel)) (by rw [fv, if_neg (nk_0_11 i hk.1 hk.2).2, (nk_0_11 i hk.1 hk.2).1]) hdg kk
theorem pf_X0_46 (C0 : CX p s m args c cc nL RX0) (X : WX D cA ad A s) (hP : WP D cA ad o σ H) (hS : va_S A s.heap H locs) (i : Nat) {v : Int32} (hk : i < 106 ∧ kd i = (0, 12)) (hdg : decode cc pc = .ok (.putfield 46, 3)) (kk : ∀ (H1 : Heap) (locs1 : List Loc), WP D cA ad o (stm σ i 11 v) H1 → va_S A s.heap H1 locs1 → W p l e R s m args below meth c H1 locs1 cells slots Q (F0 m (pc + 3) ls rest)) : W p l e R s m args below meth c H locs cells slots Q (F0 m pc ls (.int v :: .ref (ad i) :: rest)) := r_put C0 X hP hS i 11 hk.1 hk.2 (by decide) rfl inX0 tyX0 tyX0_ok nmX0 (by decide) (tm 191 (by decide +kernel) (by decide +kernel)) rfl rfl rfl rfl (nk_0_11 i hk.1 hk.2).1 (nk_0_11 i hk.1 hk.2).2 hdg kk
theorem gf_X6_89 (C0 : CX p s m args c cc nL RX6) (X : WX D cA ad A s) (hP : WP D cA ad o σ H) (i : Nat) (hk : i < 106 ∧ kd i = (0, 12)) (hdg : decode cc pc = .ok (.getfield 89, 3)) (kk : W p l e R s m args below meth c H locs cells slots Q (F0 m (pc + 3) ls (.int (σ i 11) :: rest))) : W p l e R s m args below meth c H locs cells slots Q (F0 m pc ls (.ref (ad i) :: rest)) := r_get C0 X hP i 11 hk.1 hk.2 (by decide) rfl inX0 (by decide) (tm 192 (by decide +kernel) (by decide +kernel)) (by rw [fv, if_neg (nk_0_11 i hk.1 hk.2).2, (nk_0_11 i hk.1 hk.2).1]) hdg kk
theorem pf_X6_89 (C0 : CX p s m args c cc nL RX6) (X : WX D cA ad A s) (hP : WP D cA ad o σ H) (hS : va_S A s.heap H locs) (i : Nat) {v : Int32} (hk : i < 106 ∧ kd i = (0, 12)) (hdg : decode cc pc = .ok (.putfield 89, 3)) (kk : ∀ (H1 : Heap) (locs1 : List Loc), WP D cA ad o (stm σ i 11 v) H1 → va_S A s.heap H1 locs1 → W p l e R s m args below meth c H1 locs1 cells slots Q (F0 m (pc + 3) ls rest)) : W p l e R s m args below meth c H locs cells slots Q (F0 m pc ls (.int v :: .ref (ad i) :: rest)) := r_put C0 X hP hS i 11 hk.1 hk.2 (by decide) rfl inX0 tyX0 tyX0_ok nmX0 (by decide) (tm 192 (by decide +kernel) (by decide +kernel)) rfl rfl rfl rfl (nk_0_11 i hk.1 hk.2).1 (nk_0_11 i hk.1 hk.2).2 hdg kk
theorem gf_X7_166 (C0 : CX p s m args c cc nL RX7) (X : WX D cA ad A s) (hP : WP D cA ad o σ H) (i : Nat) (hk : i < 106 ∧ kd i = (0, 12)) (hdg : decode cc pc = .ok (.getfield 166, 3)) (kk : W p l e R s m args below meth c H locs cells slots Q (F0 m (pc + 3) ls (.int (σ i 11) :: rest))) : W p l e R s m args below meth c H locs cells slots Q (F0 m pc ls (.ref (ad i) :: rest)) := r_get C0 X hP i 11 hk.1 hk.2 (by decide) rfl inX0 (by decide) (tm 193 (by decide +kernel) (by decide +kernel)) (by rw [fv, if_neg (nk_0_11 i hk.1 hk.2).2, (nk_0_11 i hk.1 hk.2).1]) hdg kk
theorem pf_X7_166 (C0 : CX p s m args c cc nL RX7) (X : WX D cA ad A s) (hP : WP D cA ad o σ H) (hS : va_S A s.heap H locs) (i : Nat) {v : Int32} (hk : i < 106 ∧ kd i = (0, 12)) (hdg : decode cc pc = .ok (.putfield 166, 3)) (kk : ∀ (H1 : Heap) (locs1 : List Loc), WP D cA ad o (stm σ i 11 v) H1 → va_S A s.heap H1 locs1 → W p l e R s m args below meth c H1 locs1 cells slots Q (F0 m (pc + 3) ls rest)) : W p l e R s m args below meth c H locs cells slots Q (F0 m pc ls (.int v :: .ref (ad i) :: rest)) := r_put C0 X hP hS i 11 hk.1 hk.2 (by decide) rfl inX0 tyX0 tyX0_ok nmX0 (by decide) (tm 193 (by decide +kernel) (by decide +kernel)) rfl rfl rfl rfl (nk_0_11 i hk.1 hk.2).1 (nk_0_11 i hk.1 hk.2).2 hdg kk
theorem gf_X6_12 (C0 : CX p s m args c cc nL RX6) (X : WX D cA ad A s) (hP : WP D cA ad o σ H) (i : Nat) {q : Nat} (hk : i < 106 ∧ kd i = (6, 11)) (h85 : ¬ i = 85) (hq : lk i 0 = some q) (hdg : decode cc pc = .ok (.getfield 12, 3)) (kk : W p l e R s m args below meth c H locs cells slots Q (F0 m (pc + 3) ls (.ref (ad q) :: rest))) : W p l e R s m args below meth c H locs cells slots Q (F0 m pc ls (.ref (ad i) :: rest)) := r_get C0 X hP i 0 hk.1 hk.2 (by decide) rfl inX6 (by decide) (tm 219 (by decide +kernel) (by decide +kernel)) (by rw [fv, if_neg (fun z => h85 z.1), hq]) hdg kk
theorem gf_X7_70 (C0 : CX p s m args c cc nL RX7) (X : WX D cA ad A s) (hP : WP D cA ad o σ H) (i : Nat) {q : Nat} (hk : i < 106 ∧ kd i = (6, 11)) (h85 : ¬ i = 85) (hq : lk i 0 = some q) (hdg : decode cc pc = .ok (.getfield 70, 3)) (kk : W p l e R s m args below meth c H locs cells slots Q (F0 m (pc + 3) ls (.ref (ad q) :: rest))) : W p l e R s m args below meth c H locs cells slots Q (F0 m pc ls (.ref (ad i) :: rest)) := r_get C0 X hP i 0 hk.1 hk.2 (by decide) rfl inX6 (by decide) (tm 220 (by decide +kernel) (by decide +kernel)) (by rw [fv, if_neg (fun z => h85 z.1), hq]) hdg kk
theorem gf_X3_91 (C0 : CX p s m args c cc nL RX3) (X : WX D cA ad A s) (hP : WP D cA ad o σ H) (i : Nat) {q : Nat} (hk : i < 106 ∧ kd i = (6, 11)) (h85 : ¬ i = 85) (hq : lk i 0 = some q) (hdg : decode cc pc = .ok (.getfield 91, 3)) (kk : W p l e R s m args below meth c H locs cells slots Q (F0 m (pc + 3) ls (.ref (ad q) :: rest))) : W p l e R s m args below meth c H locs cells slots Q (F0 m pc ls (.ref (ad i) :: rest)) := r_get C0 X hP i 0 hk.1 hk.2 (by decide) rfl inX6 (by decide) (tm 221 (by decide +kernel) (by decide +kernel)) (by rw [fv, if_neg (fun z => h85 z.1), hq]) hdg kk
theorem gf_X6_20 (C0 : CX p s m args c cc nL RX6) (X : WX D cA ad A s) (hP : WP D cA ad o σ H) (i : Nat) {q : Nat} (hk : i < 106 ∧ kd i = (6, 11)) (h85 : ¬ i = 85) (hq : lk i 1 = some q) (hdg : decode cc pc = .ok (.getfield 20, 3)) (kk : W p l e R s m args below meth c H locs cells slots Q (F0 m (pc + 3) ls (.ref (ad q) :: rest))) : W p l e R s m args below meth c H locs cells slots Q (F0 m pc ls (.ref (ad i) :: rest)) := r_get C0 X hP i 1 hk.1 hk.2 (by decide) rfl inX6 (by decide) (tm 222 (by decide +kernel) (by decide +kernel)) (by rw [fv, if_neg (fun z => h85 z.1), hq]) hdg kk
theorem gf_X7_217 (C0 : CX p s m args c cc nL RX7) (X : WX D cA ad A s) (hP : WP D cA ad o σ H) (i : Nat) {q : Nat} (hk : i < 106 ∧ kd i = (6, 11)) (h85 : ¬ i = 85) (hq : lk i 1 = some q) (hdg : decode cc pc = .ok (.getfield 217, 3)) (kk : W p l e R s m args below meth c H locs cells slots Q (F0 m (pc + 3) ls (.ref (ad q) :: rest))) : W p l e R s m args below meth c H locs cells slots Q (F0 m pc ls (.ref (ad i) :: rest)) := r_get C0 X hP i 1 hk.1 hk.2 (by decide) rfl inX6 (by decide) (tm 223 (by decide +kernel) (by decide +kernel)) (by rw [fv, if_neg (fun z => h85 z.1), hq]) hdg kk
theorem gf_X6_46 (C0 : CX p s m args c cc nL RX6) (X : WX D cA ad A s) (hP : WP D cA ad o σ H) (i : Nat) (hk : i < 106 ∧ kd i = (6, 11)) (hdg : decode cc pc = .ok (.getfield 46, 3)) (kk : W p l e R s m args below meth c H locs cells slots Q (F0 m (pc + 3) ls (.int (σ i 2) :: rest))) : W p l e R s m args below meth c H locs cells slots Q (F0 m pc ls (.ref (ad i) :: rest)) := r_get C0 X hP i 2 hk.1 hk.2 (by decide) rfl inX6 (by decide) (tm 224 (by decide +kernel) (by decide +kernel)) (by rw [fv, if_neg (nk_6_2 i hk.1 hk.2).2, (nk_6_2 i hk.1 hk.2).1]) hdg kk
theorem pf_X6_46 (C0 : CX p s m args c cc nL RX6) (X : WX D cA ad A s) (hP : WP D cA ad o σ H) (hS : va_S A s.heap H locs) (i : Nat) {v : Int32} (hk : i < 106 ∧ kd i = (6, 11)) (hdg : decode cc pc = .ok (.putfield 46, 3)) (kk : ∀ (H1 : Heap) (locs1 : List Loc), WP D cA ad o (stm σ i 2 v) H1 → va_S A s.heap H1 locs1 → W p l e R s m args below meth c H1 locs1 cells slots Q (F0 m (pc + 3) ls rest)) : W p l e R s m args below meth c H locs cells slots Q (F0 m pc ls (.int v :: .ref (ad i) :: rest)) := r_put C0 X hP hS i 2 hk.1 hk.2 (by decide) rfl inX6 tyX6 tyX6_ok nmX6 (by decide) (tm 224 (by decide +kernel) (by decide +kernel)) rfl rfl rfl rfl (nk_6_2 i hk.1 hk.2).1 (nk_6_2 i hk.1 hk.2).2 hdg kk
theorem gf_X7_150 (C0 : CX p s m args c cc nL RX7) (X : WX D cA ad A s) (hP : WP D cA ad o σ H) (i : Nat) (hk : i < 106 ∧ kd i = (6, 11)) (hdg : decode cc pc = .ok (.getfield 150, 3)) (kk : W p l e R s m args below meth c H locs cells slots Q (F0 m (pc + 3) ls (.int (σ i 2) :: rest))) : W p l e R s m args below meth c H locs cells slots Q (F0 m pc ls (.ref (ad i) :: rest)) := r_get C0 X hP i 2 hk.1 hk.2 (by decide) rfl inX6 (by decide) (tm 225 (by decide +kernel) (by decide +kernel)) (by rw [fv, if_neg (nk_6_2 i hk.1 hk.2).2, (nk_6_2 i hk.1 hk.2).1]) hdg kk
theorem pf_X7_150 (C0 : CX p s m args c cc nL RX7) (X : WX D cA ad A s) (hP : WP D cA ad o σ H) (hS : va_S A s.heap H locs) (i : Nat) {v : Int32} (hk : i < 106 ∧ kd i = (6, 11)) (hdg : decode cc pc = .ok (.putfield 150, 3)) (kk : ∀ (H1 : Heap) (locs1 : List Loc), WP D cA ad o (stm σ i 2 v) H1 → va_S A s.heap H1 locs1 → W p l e R s m args below meth c H1 locs1 cells slots Q (F0 m (pc + 3) ls rest)) : W p l e R s m args below meth c H locs cells slots Q (F0 m pc ls (.int v :: .ref (ad i) :: rest)) := r_put C0 X hP hS i 2 hk.1 hk.2 (by decide) rfl inX6 tyX6 tyX6_ok nmX6 (by decide) (tm 225 (by decide +kernel) (by decide +kernel)) rfl rfl rfl rfl (nk_6_2 i hk.1 hk.2).1 (nk_6_2 i hk.1 hk.2).2 hdg kk
theorem gf_X6_49 (C0 : CX p s m args c cc nL RX6) (X : WX D cA ad A s) (hP : WP D cA ad o σ H) (i : Nat) (hk : i < 106 ∧ kd i = (6, 11)) (hdg : decode cc pc = .ok (.getfield 49, 3)) (kk : W p l e R s m args below meth c H locs cells slots Q (F0 m (pc + 3) ls (.int (σ i 3) :: rest))) : W p l e R s m args below meth c H locs cells slots Q (F0 m pc ls (.ref (ad i) :: rest)) := r_get C0 X hP i 3 hk.1 hk.2 (by decide) rfl inX6 (by decide) (tm 226 (by decide +kernel) (by decide +kernel)) (by rw [fv, if_neg (nk_6_3 i hk.1 hk.2).2, (nk_6_3 i hk.1 hk.2).1]) hdg kk
theorem pf_X6_49 (C0 : CX p s m args c cc nL RX6) (X : WX D cA ad A s) (hP : WP D cA ad o σ H) (hS : va_S A s.heap H locs) (i : Nat) {v : Int32} (hk : i < 106 ∧ kd i = (6, 11)) (hdg : decode cc pc = .ok (.putfield 49, 3)) (kk : ∀ (H1 : Heap) (locs1 : List Loc), WP D cA ad o (stm σ i 3 v) H1 → va_S A s.heap H1 locs1 → W p l e R s m args below meth c H1 locs1 cells slots Q (F0 m (pc + 3) ls rest)) : W p l e R s m args below meth c H locs cells slots Q (F0 m pc ls (.int v :: .ref (ad i) :: rest)) := r_put C0 X hP hS i 3 hk.1 hk.2 (by decide) rfl inX6 tyX6 tyX6_ok nmX6 (by decide) (tm 226 (by decide +kernel) (by decide +kernel)) rfl rfl rfl rfl (nk_6_3 i hk.1 hk.2).1 (nk_6_3 i hk.1 hk.2).2 hdg kk
theorem gf_X7_144 (C0 : CX p s m args c cc nL RX7) (X : WX D cA ad A s) (hP : WP D cA ad o σ H) (i : Nat) (hk : i < 106 ∧ kd i = (6, 11)) (hdg : decode cc pc = .ok (.getfield 144, 3)) (kk : W p l e R s m args below meth c H locs cells slots Q (F0 m (pc + 3) ls (.int (σ i 3) :: rest))) : W p l e R s m args below meth c H locs cells slots Q (F0 m pc ls (.ref (ad i) :: rest)) := r_get C0 X hP i 3 hk.1 hk.2 (by decide) rfl inX6 (by decide) (tm 227 (by decide +kernel) (by decide +kernel)) (by rw [fv, if_neg (nk_6_3 i hk.1 hk.2).2, (nk_6_3 i hk.1 hk.2).1]) hdg kk
theorem pf_X7_144 (C0 : CX p s m args c cc nL RX7) (X : WX D cA ad A s) (hP : WP D cA ad o σ H) (hS : va_S A s.heap H locs) (i : Nat) {v : Int32} (hk : i < 106 ∧ kd i = (6, 11)) (hdg : decode cc pc = .ok (.putfield 144, 3)) (kk : ∀ (H1 : Heap) (locs1 : List Loc), WP D cA ad o (stm σ i 3 v) H1 → va_S A s.heap H1 locs1 → W p l e R s m args below meth c H1 locs1 cells slots Q (F0 m (pc + 3) ls rest)) : W p l e R s m args below meth c H locs cells slots Q (F0 m pc ls (.int v :: .ref (ad i) :: rest)) := r_put C0 X hP hS i 3 hk.1 hk.2 (by decide) rfl inX6 tyX6 tyX6_ok nmX6 (by decide) (tm 227 (by decide +kernel) (by decide +kernel)) rfl rfl rfl rfl (nk_6_3 i hk.1 hk.2).1 (nk_6_3 i hk.1 hk.2).2 hdg kk
theorem gf_X3_86 (C0 : CX p s m args c cc nL RX3) (X : WX D cA ad A s) (hP : WP D cA ad o σ H) (i : Nat) (hk : i < 106 ∧ kd i = (6, 11)) (hdg : decode cc pc = .ok (.getfield 86, 3)) (kk : W p l e R s m args below meth c H locs cells slots Q (F0 m (pc + 3) ls (.int (σ i 3) :: rest))) : W p l e R s m args below meth c H locs cells slots Q (F0 m pc ls (.ref (ad i) :: rest)) := r_get C0 X hP i 3 hk.1 hk.2 (by decide) rfl inX6 (by decide) (tm 228 (by decide +kernel) (by decide +kernel)) (by rw [fv, if_neg (nk_6_3 i hk.1 hk.2).2, (nk_6_3 i hk.1 hk.2).1]) hdg kk
theorem pf_X3_86 (C0 : CX p s m args c cc nL RX3) (X : WX D cA ad A s) (hP : WP D cA ad o σ H) (hS : va_S A s.heap H locs) (i : Nat) {v : Int32} (hk : i < 106 ∧ kd i = (6, 11)) (hdg : decode cc pc = .ok (.putfield 86, 3)) (kk : ∀ (H1 : Heap) (locs1 : List Loc), WP D cA ad o (stm σ i 3 v) H1 → va_S A s.heap H1 locs1 → W p l e R s m args below meth c H1 locs1 cells slots Q (F0 m (pc + 3) ls rest)) : W p l e R s m args below meth c H locs cells slots Q (F0 m pc ls (.int v :: .ref (ad i) :: rest)) := r_put C0 X hP hS i 3 hk.1 hk.2 (by decide) rfl inX6 tyX6 tyX6_ok nmX6 (by decide) (tm 228 (by decide +kernel) (by decide +kernel)) rfl rfl rfl rfl (nk_6_3 i hk.1 hk.2).1 (nk_6_3 i hk.1 hk.2).2 hdg kk
theorem gf_X6_52 (C0 : CX p s m args c cc nL RX6) (X : WX D cA ad A s) (hP : WP D cA ad o σ H) (i : Nat) (hk : i < 106 ∧ kd i = (6, 11)) (hdg : decode cc pc = .ok (.getfield 52, 3)) (kk : W p l e R s m args below meth c H locs cells slots Q (F0 m (pc + 3) ls (.int (σ i 4) :: rest))) : W p l e R s m args below meth c H locs cells slots Q (F0 m pc ls (.ref (ad i) :: rest)) := r_get C0 X hP i 4 hk.1 hk.2 (by decide) rfl inX6 (by decide) (tm 229 (by decide +kernel) (by decide +kernel)) (by rw [fv, if_neg (nk_6_4 i hk.1 hk.2).2, (nk_6_4 i hk.1 hk.2).1]) hdg kk
theorem pf_X6_52 (C0 : CX p s m args c cc nL RX6) (X : WX D cA ad A s) (hP : WP D cA ad o σ H) (hS : va_S A s.heap H locs) (i : Nat) {v : Int32} (hk : i < 106 ∧ kd i = (6, 11)) (hdg : decode cc pc = .ok (.putfield 52, 3)) (kk : ∀ (H1 : Heap) (locs1 : List Loc), WP D cA ad o (stm σ i 4 v) H1 → va_S A s.heap H1 locs1 → W p l e R s m args below meth c H1 locs1 cells slots Q (F0 m (pc + 3) ls rest)) : W p l e R s m args below meth c H locs cells slots Q (F0 m pc ls (.int v :: .ref (ad i) :: rest)) := r_put C0 X hP hS i 4 hk.1 hk.2 (by decide) rfl inX6 tyX6 tyX6_ok nmX6 (by decide) (tm 229 (by decide +kernel) (by decide +kernel)) rfl rfl rfl rfl (nk_6_4 i hk.1 hk.2).1 (nk_6_4 i hk.1 hk.2).2 hdg kk
theorem gf_X6_55 (C0 : CX p s m args c cc nL RX6) (X : WX D cA ad A s) (hP : WP D cA ad o σ H) (i : Nat) (hk : i < 106 ∧ kd i = (6, 11)) (hdg : decode cc pc = .ok (.getfield 55, 3)) (kk : W p l e R s m args below meth c H locs cells slots Q (F0 m (pc + 3) ls (.int (σ i 5) :: rest))) : W p l e R s m args below meth c H locs cells slots Q (F0 m pc ls (.ref (ad i) :: rest)) := r_get C0 X hP i 5 hk.1 hk.2 (by decide) rfl inX6 (by decide) (tm 230 (by decide +kernel) (by decide +kernel)) (by rw [fv, if_neg (nk_6_5 i hk.1 hk.2).2, (nk_6_5 i hk.1 hk.2).1]) hdg kk
theorem pf_X6_55 (C0 : CX p s m args c cc nL RX6) (X : WX D cA ad A s) (hP : WP D cA ad o σ H) (hS : va_S A s.heap H locs) (i : Nat) {v : Int32} (hk : i < 106 ∧ kd i = (6, 11)) (hdg : decode cc pc = .ok (.putfield 55, 3)) (kk : ∀ (H1 : Heap) (locs1 : List Loc), WP D cA ad o (stm σ i 5 v) H1 → va_S A s.heap H1 locs1 → W p l e R s m args below meth c H1 locs1 cells slots Q (F0 m (pc + 3) ls rest)) : W p l e R s m args below meth c H locs cells slots Q (F0 m pc ls (.int v :: .ref (ad i) :: rest)) := r_put C0 X hP hS i 5 hk.1 hk.2 (by decide) rfl inX6 tyX6 tyX6_ok nmX6 (by decide) (tm 230 (by decide +kernel) (by decide +kernel)) rfl rfl rfl rfl (nk_6_5 i hk.1 hk.2).1 (nk_6_5 i hk.1 hk.2).2 hdg kk
theorem gf_X7_183 (C0 : CX p s m args c cc nL RX7) (X : WX D cA ad A s) (hP : WP D cA ad o σ H) (i : Nat) (hk : i < 106 ∧ kd i = (6, 11)) (hdg : decode cc pc = .ok (.getfield 183, 3)) (kk : W p l e R s m args below meth c H locs cells slots Q (F0 m (pc + 3) ls (.int (σ i 5) :: rest))) : W p l e R s m args below meth c H locs cells slots Q (F0 m pc ls (.ref (ad i) :: rest)) := r_get C0 X hP i 5 hk.1 hk.2 (by decide) rfl inX6 (by decide) (tm 231 (by decide +kernel) (by decide +kernel)) (by rw [fv, if_neg (nk_6_5 i hk.1 hk.2).2, (nk_6_5 i hk.1 hk.2).1]) hdg kk
theorem pf_X7_183 (C0 : CX p s m args c cc nL RX7) (X : WX D cA ad A s) (hP : WP D cA ad o σ H) (hS : va_S A s.heap H locs) (i : Nat) {v : Int32} (hk : i < 106 ∧ kd i = (6, 11)) (hdg : decode cc pc = .ok (.putfield 183, 3)) (kk : ∀ (H1 : Heap) (locs1 : List Loc), WP D cA ad o (stm σ i 5 v) H1 → va_S A s.heap H1 locs1 → W p l e R s m args below meth c H1 locs1 cells slots Q (F0 m (pc + 3) ls rest)) : W p l e R s m args below meth c H locs cells slots Q (F0 m pc ls (.int v :: .ref (ad i) :: rest)) := r_put C0 X hP hS i 5 hk.1 hk.2 (by decide) rfl inX6 tyX6 tyX6_ok nmX6 (by decide) (tm 231 (by decide +kernel) (by decide +kernel)) rfl rfl rfl rfl (nk_6_5 i hk.1 hk.2).1 (nk_6_5 i hk.1 hk.2).2 hdg kk
theorem gf_X6_107 (C0 : CX p s m args c cc nL RX6) (X : WX D cA ad A s) (hP : WP D cA ad o σ H) (i : Nat) (hk : i < 106 ∧ kd i = (6, 11)) (hdg : decode cc pc = .ok (.getfield 107, 3)) (kk : W p l e R s m args below meth c H locs cells slots Q (F0 m (pc + 3) ls (.int (σ i 6) :: rest))) : W p l e R s m args below meth c H locs cells slots Q (F0 m pc ls (.ref (ad i) :: rest)) := r_get C0 X hP i 6 hk.1 hk.2 (by decide) rfl inX6 (by decide) (tm 232 (by decide +kernel) (by decide +kernel)) (by rw [fv, if_neg (nk_6_6 i hk.1 hk.2).2, (nk_6_6 i hk.1 hk.2).1]) hdg kk
theorem pf_X6_107 (C0 : CX p s m args c cc nL RX6) (X : WX D cA ad A s) (hP : WP D cA ad o σ H) (hS : va_S A s.heap H locs) (i : Nat) {v : Int32} (h01 : v = 0 ∨ v = 1) (hk : i < 106 ∧ kd i = (6, 11)) (hdg : decode cc pc = .ok (.putfield 107, 3)) (kk : ∀ (H1 : Heap) (locs1 : List Loc), WP D cA ad o (stm σ i 6 v) H1 → va_S A s.heap H1 locs1 → W p l e R s m args below meth c H1 locs1 cells slots Q (F0 m (pc + 3) ls rest)) : W p l e R s m args below meth c H locs cells slots Q (F0 m pc ls (.int v :: .ref (ad i) :: rest)) := r_put C0 X hP hS i 6 hk.1 hk.2 (by decide) rfl inX6 tyX6 tyX6_ok nmX6 (by decide) (tm 232 (by decide +kernel) (by decide +kernel)) rfl rfl (by rcases h01 with rfl | rfl <;> rfl) (by rcases h01 with rfl | rfl <;> rfl) (nk_6_6 i hk.1 hk.2).1 (nk_6_6 i hk.1 hk.2).2 hdg kk
theorem gf_X6_24 (C0 : CX p s m args c cc nL RX6) (X : WX D cA ad A s) (hP : WP D cA ad o σ H) (i : Nat) {q : Nat} (hk : i < 106 ∧ kd i = (6, 11)) (h85 : ¬ i = 85) (hq : lk i 7 = some q) (hdg : decode cc pc = .ok (.getfield 24, 3)) (kk : W p l e R s m args below meth c H locs cells slots Q (F0 m (pc + 3) ls (.ref (ad q) :: rest))) : W p l e R s m args below meth c H locs cells slots Q (F0 m pc ls (.ref (ad i) :: rest)) := r_get C0 X hP i 7 hk.1 hk.2 (by decide) rfl inX6 (by decide) (tm 233 (by decide +kernel) (by decide +kernel)) (by rw [fv, if_neg (fun z => h85 z.1), hq]) hdg kk
theorem gf_X6_28 (C0 : CX p s m args c cc nL RX6) (X : WX D cA ad A s) (hP : WP D cA ad o σ H) (i : Nat) (hk : i < 106 ∧ kd i = (6, 11)) (hdg : decode cc pc = .ok (.getfield 28, 3)) (kk : W p l e R s m args below meth c H locs cells slots Q (F0 m (pc + 3) ls (.int (σ i 8) :: rest))) : W p l e R s m args below meth c H locs cells slots Q (F0 m pc ls (.ref (ad i) :: rest)) := r_get C0 X hP i 8 hk.1 hk.2 (by decide) rfl inX6 (by decide) (tm 234 (by decide +kernel) (by decide +kernel)) (by rw [fv, if_neg (nk_6_8 i hk.1 hk.2).2, (nk_6_8 i hk.1 hk.2).1]) hdg kk
theorem pf_X6_28 (C0 : CX p s m args c cc nL RX6) (X : WX D cA ad A s) (hP : WP D cA ad o σ H) (hS : va_S A s.heap H locs) (i : Nat) {v : Int32} (hk : i < 106 ∧ kd i = (6, 11)) (hdg : decode cc pc = .ok (.putfield 28, 3)) (kk : ∀ (H1 : Heap) (locs1 : List Loc), WP D cA ad o (stm σ i 8 v) H1 → va_S A s.heap H1 locs1 → W p l e R s m args below meth c H1 locs1 cells slots Q (F0 m (pc + 3) ls rest)) : W p l e R s m args below meth c H locs cells slots Q (F0 m pc ls (.int v :: .ref (ad i) :: rest)) := r_put C0 X hP hS i 8 hk.1 hk.2 (by decide) rfl inX6 tyX6 tyX6_ok nmX6 (by decide) (tm 234 (by decide +kernel) (by decide +kernel)) rfl rfl rfl rfl (nk_6_8 i hk.1 hk.2).1 (nk_6_8 i hk.1 hk.2).2 hdg kk
theorem gf_X6_32 (C0 : CX p s m args c cc nL RX6) (X : WX D cA ad A s) (hP : WP D cA ad o σ H) (i : Nat) (hk : i < 106 ∧ kd i = (6, 11)) (hdg : decode cc pc = .ok (.getfield 32, 3)) (kk : W p l e R s m args below meth c H locs cells slots Q (F0 m (pc + 3) ls (.int (σ i 9) :: rest))) : W p l e R s m args below meth c H locs cells slots Q (F0 m pc ls (.ref (ad i) :: rest)) := r_get C0 X hP i 9 hk.1 hk.2 (by decide) rfl inX6 (by decide) (tm 235 (by decide +kernel) (by decide +kernel)) (by rw [fv, if_neg (nk_6_9 i hk.1 hk.2).2, (nk_6_9 i hk.1 hk.2).1]) hdg kk
theorem pf_X6_32 (C0 : CX p s m args c cc nL RX6) (X : WX D cA ad A s) (hP : WP D cA ad o σ H) (hS : va_S A s.heap H locs) (i : Nat) {v : Int32} (hk : i < 106 ∧ kd i = (6, 11)) (hdg : decode cc pc = .ok (.putfield 32, 3)) (kk : ∀ (H1 : Heap) (locs1 : List Loc), WP D cA ad o (stm σ i 9 v) H1 → va_S A s.heap H1 locs1 → W p l e R s m args below meth c H1 locs1 cells slots Q (F0 m (pc + 3) ls rest)) : W p l e R s m args below meth c H locs cells slots Q (F0 m pc ls (.int v :: .ref (ad i) :: rest)) := r_put C0 X hP hS i 9 hk.1 hk.2 (by decide) rfl inX6 tyX6 tyX6_ok nmX6 (by decide) (tm 235 (by decide +kernel) (by decide +kernel)) rfl rfl rfl rfl (nk_6_9 i hk.1 hk.2).1 (nk_6_9 i hk.1 hk.2).2 hdg kk
theorem gf_X6_35 (C0 : CX p s m args c cc nL RX6) (X : WX D cA ad A s) (hP : WP D cA ad o σ H) (i : Nat) (hk : i < 106 ∧ kd i = (6, 11)) (hdg : decode cc pc = .ok (.getfield 35, 3)) (kk : W p l e R s m args below meth c H locs cells slots Q (F0 m (pc + 3) ls (.int (σ i 10) :: rest))) : W p l e R s m args below meth c H locs cells slots Q (F0 m pc ls (.ref (ad i) :: rest)) := r_get C0 X hP i 10 hk.1 hk.2 (by decide) rfl inX6 (by decide) (tm 236 (by decide +kernel) (by decide +kernel)) (by rw [fv, if_neg (nk_6_10 i hk.1 hk.2).2, (nk_6_10 i hk.1 hk.2).1]) hdg kk
theorem pf_X6_35 (C0 : CX p s m args c cc nL RX6) (X : WX D cA ad A s) (hP : WP D cA ad o σ H) (hS : va_S A s.heap H locs) (i : Nat) {v : Int32} (hk : i < 106 ∧ kd i = (6, 11)) (hdg : decode cc pc = .ok (.putfield 35, 3)) (kk : ∀ (H1 : Heap) (locs1 : List Loc), WP D cA ad o (stm σ i 10 v) H1 → va_S A s.heap H1 locs1 → W p l e R s m args below meth c H1 locs1 cells slots Q (F0 m (pc + 3) ls rest)) : W p l e R s m args below meth c H locs cells slots Q (F0 m pc ls (.int v :: .ref (ad i) :: rest)) := r_put C0 X hP hS i 10 hk.1 hk.2 (by decide) rfl inX6 tyX6 tyX6_ok nmX6 (by decide) (tm 236 (by decide +kernel) (by decide +kernel)) rfl rfl rfl rfl (nk_6_10 i hk.1 hk.2).1 (nk_6_10 i hk.1 hk.2).2 hdg kk
theorem gf_X7_258 (C0 : CX p s m args c cc nL RX7) (X : WX D cA ad A s) (hP : WP D cA ad o σ H) (i : Nat) (hk : i < 106 ∧ kd i = (6, 11)) (hdg : decode cc pc = .ok (.getfield 258, 3)) (kk : W p l e R s m args below meth c H locs cells slots Q (F0 m (pc + 3) ls (.int (σ i 10) :: rest))) : W p l e R s m args below meth c H locs cells slots Q (F0 m pc ls (.ref (ad i) :: rest)) := r_get C0 X hP i 10 hk.1 hk.2 (by decide) rfl inX6 (by decide) (tm 237 (by decide +kernel) (by decide +kernel)) (by rw [fv, if_neg (nk_6_10 i hk.1 hk.2).2, (nk_6_10 i hk.1 hk.2).1]) hdg kk
theorem pf_X7_258 (C0 : CX p s m args c cc nL RX7) (X : WX D cA ad A s) (hP : WP D cA ad o σ H) (hS : va_S A s.heap H locs) (i : Nat) {v : Int32} (hk : i < 106 ∧ kd i = (6, 11)) (hdg : decode cc pc = .ok (.putfield 258, 3)) (kk : ∀ (H1 : Heap) (locs1 : List Loc), WP D cA ad o (stm σ i 10 v) H1 → va_S A s.heap H1 locs1 → W p l e R s m args below meth c H1 locs1 cells slots Q (F0 m (pc + 3) ls rest)) : W p l e R s m args below meth c H locs cells slots Q (F0 m pc ls (.int v :: .ref (ad i) :: rest)) := r_put C0 X hP hS i 10 hk.1 hk.2 (by decide) rfl inX6 tyX6 tyX6_ok nmX6 (by decide) (tm 237 (by decide +kernel) (by decide +kernel)) rfl rfl rfl rfl (nk_6_10 i hk.1 hk.2).1 (nk_6_10 i hk.1 hk.2).2 hdg kk
theorem gf_X1_9 (C0 : CX p s m args c cc nL RX1) (X : WX D cA ad A s) (hP : WP D cA ad o σ H) (i : Nat) (hk : i < 106 ∧ kd i = (1, 2)) (hdg : decode cc pc = .ok (.getfield 9, 3)) (kk : W p l e R s m args below meth c H locs cells slots Q (F0 m (pc + 3) ls (.int (σ i 0) :: rest))) : W p l e R s m args below meth c H locs cells slots Q (F0 m pc ls (.ref (ad i) :: rest)) := r_get C0 X hP i 0 hk.1 hk.2 (by decide) rfl inX1 (by decide) (tm 269 (by decide +kernel) (by decide +kernel)) (by rw [fv, if_neg (nk_1_0 i hk.1 hk.2).2, (nk_1_0 i hk.1 hk.2).1]) hdg kk
theorem pf_X1_9 (C0 : CX p s m args c cc nL RX1) (X : WX D cA ad A s) (hP : WP D cA ad o σ H) (hS : va_S A s.heap H locs) (i : Nat) {v : Int32} (hk : i < 106 ∧ kd i = (1, 2)) (hdg : decode cc pc = .ok (.putfield 9, 3)) (kk : ∀ (H1 : Heap) (locs1 : List Loc), WP D cA ad o (stm σ i 0 v) H1 → va_S A s.heap H1 locs1 → W p l e R s m args below meth c H1 locs1 cells slots Q (F0 m (pc + 3) ls rest)) : W p l e R s m args below meth c H locs cells slots Q (F0 m pc ls (.int v :: .ref (ad i) :: rest)) := r_put C0 X hP hS i 0 hk.1 hk.2 (by decide) rfl inX1 tyX1 tyX1_ok nmX1 (by decide) (tm 269 (by decide +kernel) (by decide +kernel)) rfl rfl rfl rfl (nk_1_0 i hk.1 hk.2).1 (nk_1_0 i hk.1 hk.2).2 hdg kk
theorem gf_X7_240 (C0 : CX p s m args c cc nL RX7) (X : WX D cA ad A s) (hP : WP D cA ad o σ H) (i : Nat) (hk : i < 106 ∧ kd i = (1, 2)) (hdg : decode cc pc = .ok (.getfield 240, 3)) (kk : W p l e R s m args below meth c H locs cells slots Q (F0 m (pc + 3) ls (.int (σ i 0) :: rest))) : W p l e R s m args below meth c H locs cells slots Q (F0 m pc ls (.ref (ad i) :: rest)) := r_get C0 X hP i 0 hk.1 hk.2 (by decide) rfl inX1 (by decide) (tm 270 (by decide +kernel) (by decide +kernel)) (by rw [fv, if_neg (nk_1_0 i hk.1 hk.2).2, (nk_1_0 i hk.1 hk.2).1]) hdg kk
theorem pf_X7_240 (C0 : CX p s m args c cc nL RX7) (X : WX D cA ad A s) (hP : WP D cA ad o σ H) (hS : va_S A s.heap H locs) (i : Nat) {v : Int32} (hk : i < 106 ∧ kd i = (1, 2)) (hdg : decode cc pc = .ok (.putfield 240, 3)) (kk : ∀ (H1 : Heap) (locs1 : List Loc), WP D cA ad o (stm σ i 0 v) H1 → va_S A s.heap H1 locs1 → W p l e R s m args below meth c H1 locs1 cells slots Q (F0 m (pc + 3) ls rest)) : W p l e R s m args below meth c H locs cells slots Q (F0 m pc ls (.int v :: .ref (ad i) :: rest)) := r_put C0 X hP hS i 0 hk.1 hk.2 (by decide) rfl inX1 tyX1 tyX1_ok nmX1 (by decide) (tm 270 (by decide +kernel) (by decide +kernel)) rfl rfl rfl rfl (nk_1_0 i hk.1 hk.2).1 (nk_1_0 i hk.1 hk.2).2 hdg kk
theorem gf_X1_15 (C0 : CX p s m args c cc nL RX1) (X : WX D cA ad A s) (hP : WP D cA ad o σ H) (i : Nat) (hk : i < 106 ∧ kd i = (1, 2)) (hdg : decode cc pc = .ok (.getfield 15, 3)) (kk : W p l e R s m args below meth c H locs cells slots Q (F0 m (pc + 3) ls (.int (σ i 1) :: rest))) : W p l e R s m args below meth c H locs cells slots Q (F0 m pc ls (.ref (ad i) :: rest)) := r_get C0 X hP i 1 hk.1 hk.2 (by decide) rfl inX1 (by decide) (tm 271 (by decide +kernel) (by decide +kernel)) (by rw [fv, if_neg (nk_1_1 i hk.1 hk.2).2, (nk_1_1 i hk.1 hk.2).1]) hdg kk
theorem pf_X1_15 (C0 : CX p s m args c cc nL RX1) (X : WX D cA ad A s) (hP : WP D cA ad o σ H) (hS : va_S A s.heap H locs) (i : Nat) {v : Int32} (hk : i < 106 ∧ kd i = (1, 2)) (hdg : decode cc pc = .ok (.putfield 15, 3)) (kk : ∀ (H1 : Heap) (locs1 : List Loc), WP D cA ad o (stm σ i 1 v) H1 → va_S A s.heap H1 locs1 → W p l e R s m args below meth c H1 locs1 cells slots Q (F0 m (pc + 3) ls rest)) : W p l e R s m args below meth c H locs cells slots Q (F0 m pc ls (.int v :: .ref (ad i) :: rest)) := r_put C0 X hP hS i 1 hk.1 hk.2 (by decide) rfl inX1 tyX1 tyX1_ok nmX1 (by decide) (tm 271 (by decide +kernel) (by decide +kernel)) rfl rfl rfl rfl (nk_1_1 i hk.1 hk.2).1 (nk_1_1 i hk.1 hk.2).2 hdg kk
theorem gf_X7_243 (C0 : CX p s m args c cc nL RX7) (X : WX D cA ad A s) (hP : WP D cA ad o σ H) (i : Nat) (hk : i < 106 ∧ kd i = (1, 2)) (hdg : decode cc pc = .ok (.getfield 243, 3)) (kk : W p l e R s m args below meth c H locs cells slots Q (F0 m (pc + 3) ls (.int (σ i 1) :: rest))) : W p l e R s m args below meth c H locs cells slots Q (F0 m pc ls (.ref (ad i) :: rest)) := r_get C0 X hP i 1 hk.1 hk.2 (by decide) rfl inX1 (by decide) (tm 272 (by decide +kernel) (by decide +kernel)) (by rw [fv, if_neg (nk_1_1 i hk.1 hk.2).2, (nk_1_1 i hk.1 hk.2).1]) hdg kk
theorem pf_X7_243 (C0 : CX p s m args c cc nL RX7) (X : WX D cA ad A s) (hP : WP D cA ad o σ H) (hS : va_S A s.heap H locs) (i : Nat) {v : Int32} (hk : i < 106 ∧ kd i = (1, 2)) (hdg : decode cc pc = .ok (.putfield 243, 3)) (kk : ∀ (H1 : Heap) (locs1 : List Loc), WP D cA ad o (stm σ i 1 v) H1 → va_S A s.heap H1 locs1 → W p l e R s m args below meth c H1 locs1 cells slots Q (F0 m (pc + 3) ls rest)) : W p l e R s m args below meth c H locs cells slots Q (F0 m pc ls (.int v :: .ref (ad i) :: rest)) := r_put C0 X hP hS i 1 hk.1 hk.2 (by decide) rfl inX1 tyX1 tyX1_ok nmX1 (by decide) (tm 272 (by decide +kernel) (by decide +kernel)) rfl rfl rfl rfl (nk_1_1 i hk.1 hk.2).1 (nk_1_1 i hk.1 hk.2).2 hdg kk
theorem gf_X5_15 (C0 : CX p s m args c cc nL RX5) (X : WX D cA ad A s) (hP : WP D cA ad o σ H) (i : Nat) (hk : i < 106 ∧ kd i = (5, 6)) (hdg : decode cc pc = .ok (.getfield 15, 3)) (kk : W p l e R s m args below meth c H locs cells slots Q (F0 m (pc + 3) ls (.int (σ i 0) :: rest))) : W p l e R s m args below meth c H locs cells slots Q (F0 m pc ls (.ref (ad i) :: rest)) := r_get C0 X hP i 0 hk.1 hk.2 (by decide) rfl inX5 (by decide) (tm 290 (by decide +kernel) (by decide +kernel)) (by rw [fv, if_neg (nk_5_0 i hk.1 hk.2).2, (nk_5_0 i hk.1 hk.2).1]) hdg kk
theorem pf_X5_15 (C0 : CX p s m args c cc nL RX5) (X : WX D cA ad A s) (hP : WP D cA ad o σ H) (hS : va_S A s.heap H locs) (i : Nat) {v : Int32} (hk : i < 106 ∧ kd i = (5, 6)) (hdg : decode cc pc = .ok (.putfield 15, 3)) (kk : ∀ (H1 : Heap) (locs1 : List Loc), WP D cA ad o (stm σ i 0 v) H1 → va_S A s.heap H1 locs1 → W p l e R s m args below meth c H1 locs1 cells slots Q (F0 m (pc + 3) ls rest)) : W p l e R s m args below meth c H locs cells slots Q (F0 m pc ls (.int v :: .ref (ad i) :: rest)) := r_put C0 X hP hS i 0 hk.1 hk.2 (by decide) rfl inX5 tyX5 tyX5_ok nmX5 (by decide) (tm 290 (by decide +kernel) (by decide +kernel)) rfl rfl rfl rfl (nk_5_0 i hk.1 hk.2).1 (nk_5_0 i hk.1 hk.2).2 hdg kk
theorem gf_X7_54 (C0 : CX p s m args c cc nL RX7) (X : WX D cA ad A s) (hP : WP D cA ad o σ H) (i : Nat) (hk : i < 106 ∧ kd i = (5, 6)) (hdg : decode cc pc = .ok (.getfield 54, 3)) (kk : W p l e R s m args below meth c H locs cells slots Q (F0 m (pc + 3) ls (.int (σ i 0) :: rest))) : W p l e R s m args below meth c H locs cells slots Q (F0 m pc ls (.ref (ad i) :: rest)) := r_get C0 X hP i 0 hk.1 hk.2 (by decide) rfl inX5 (by decide) (tm 291 (by decide +kernel) (by decide +kernel)) (by rw [fv, if_neg (nk_5_0 i hk.1 hk.2).2, (nk_5_0 i hk.1 hk.2).1]) hdg kk
theorem pf_X7_54 (C0 : CX p s m args c cc nL RX7) (X : WX D cA ad A s) (hP : WP D cA ad o σ H) (hS : va_S A s.heap H locs) (i : Nat) {v : Int32} (hk : i < 106 ∧ kd i = (5, 6)) (hdg : decode cc pc = .ok (.putfield 54, 3)) (kk : ∀ (H1 : Heap) (locs1 : List Loc), WP D cA ad o (stm σ i 0 v) H1 → va_S A s.heap H1 locs1 → W p l e R s m args below meth c H1 locs1 cells slots Q (F0 m (pc + 3) ls rest)) : W p l e R s m args below meth c H locs cells slots Q (F0 m pc ls (.int v :: .ref (ad i) :: rest)) := r_put C0 X hP hS i 0 hk.1 hk.2 (by decide) rfl inX5 tyX5 tyX5_ok nmX5 (by decide) (tm 291 (by decide +kernel) (by decide +kernel)) rfl rfl rfl rfl (nk_5_0 i hk.1 hk.2).1 (nk_5_0 i hk.1 hk.2).2 hdg kk
theorem gf_X7_127 (C0 : CX p s m args c cc nL RX7) (X : WX D cA ad A s) (hP : WP D cA ad o σ H) (i : Nat) (hk : i < 106 ∧ kd i = (5, 6)) (hdg : decode cc pc = .ok (.getfield 127, 3)) (kk : W p l e R s m args below meth c H locs cells slots Q (F0 m (pc + 3) ls (.int (σ i 1) :: rest))) : W p l e R s m args below meth c H locs cells slots Q (F0 m pc ls (.ref (ad i) :: rest)) := r_get C0 X hP i 1 hk.1 hk.2 (by decide) rfl inX5 (by decide) (tm 292 (by decide +kernel) (by decide +kernel)) (by rw [fv, if_neg (nk_5_1 i hk.1 hk.2).2, (nk_5_1 i hk.1 hk.2).1]) hdg kk
theorem pf_X7_127 (C0 : CX p s m args c cc nL RX7) (X : WX D cA ad A s) (hP : WP D cA ad o σ H) (hS : va_S A s.heap H locs) (i : Nat) {v : Int32} (hk : i < 106 ∧ kd i = (5, 6)) (hdg : decode cc pc = .ok (.putfield 127, 3)) (kk : ∀ (H1 : Heap) (locs1 : List Loc), WP D cA ad o (stm σ i 1 v) H1 → va_S A s.heap H1 locs1 → W p l e R s m args below meth c H1 locs1 cells slots Q (F0 m (pc + 3) ls rest)) : W p l e R s m args below meth c H locs cells slots Q (F0 m pc ls (.int v :: .ref (ad i) :: rest)) := r_put C0 X hP hS i 1 hk.1 hk.2 (by decide) rfl inX5 tyX5 tyX5_ok nmX5 (by decide) (tm 292 (by decide +kernel) (by decide +kernel)) rfl rfl rfl rfl (nk_5_1 i hk.1 hk.2).1 (nk_5_1 i hk.1 hk.2).2 hdg kk
theorem gf_X7_129 (C0 : CX p s m args c cc nL RX7) (X : WX D cA ad A s) (hP : WP D cA ad o σ H) (i : Nat) (hk : i < 106 ∧ kd i = (5, 6)) (hdg : decode cc pc = .ok (.getfield 129, 3)) (kk : W p l e R s m args below meth c H locs cells slots Q (F0 m (pc + 3) ls (.int (σ i 2) :: rest))) : W p l e R s m args below meth c H locs cells slots Q (F0 m pc ls (.ref (ad i) :: rest)) := r_get C0 X hP i 2 hk.1 hk.2 (by decide) rfl inX5 (by decide) (tm 293 (by decide +kernel) (by decide +kernel)) (by rw [fv, if_neg (nk_5_2 i hk.1 hk.2).2, (nk_5_2 i hk.1 hk.2).1]) hdg kk
theorem pf_X7_129 (C0 : CX p s m args c cc nL RX7) (X : WX D cA ad A s) (hP : WP D cA ad o σ H) (hS : va_S A s.heap H locs) (i : Nat) {v : Int32} (hk : i < 106 ∧ kd i = (5, 6)) (hdg : decode cc pc = .ok (.putfield 129, 3)) (kk : ∀ (H1 : Heap) (locs1 : List Loc), WP D cA ad o (stm σ i 2 v) H1 → va_S A s.heap H1 locs1 → W p l e R s m args below meth c H1 locs1 cells slots Q (F0 m (pc + 3) ls rest)) : W p l e R s m args below meth c H locs cells slots Q (F0 m pc ls (.int v :: .ref (ad i) :: rest)) := r_put C0 X hP hS i 2 hk.1 hk.2 (by decide) rfl inX5 tyX5 tyX5_ok nmX5 (by decide) (tm 293 (by decide +kernel) (by decide +kernel)) rfl rfl rfl rfl (nk_5_2 i hk.1 hk.2).1 (nk_5_2 i hk.1 hk.2).2 hdg kk
theorem gf_X5_19 (C0 : CX p s m args c cc nL RX5) (X : WX D cA ad A s) (hP : WP D cA ad o σ H) (i : Nat) (hk : i < 106 ∧ kd i = (5, 6)) (hdg : decode cc pc = .ok (.getfield 19, 3)) (kk : W p l e R s m args below meth c H locs cells slots Q (F0 m (pc + 3) ls (.int (σ i 3) :: rest))) : W p l e R s m args below meth c H locs cells slots Q (F0 m pc ls (.ref (ad i) :: rest)) := r_get C0 X hP i 3 hk.1 hk.2 (by decide) rfl inX5 (by decide) (tm 294 (by decide +kernel) (by decide +kernel)) (by rw [fv, if_neg (nk_5_3 i hk.1 hk.2).2, (nk_5_3 i hk.1 hk.2).1]) hdg kk
theorem pf_X5_19 (C0 : CX p s m args c cc nL RX5) (X : WX D cA ad A s) (hP : WP D cA ad o σ H) (hS : va_S A s.heap H locs) (i : Nat) {v : Int32} (hk : i < 106 ∧ kd i = (5, 6)) (hdg : decode cc pc = .ok (.putfield 19, 3)) (kk : ∀ (H1 : Heap) (locs1 : List Loc), WP D cA ad o (stm σ i 3 v) H1 → va_S A s.heap H1 locs1 → W p l e R s m args below meth c H1 locs1 cells slots Q (F0 m (pc + 3) ls rest)) : W p l e R s m args below meth c H locs cells slots Q (F0 m pc ls (.int v :: .ref (ad i) :: rest)) := r_put C0 X hP hS i 3 hk.1 hk.2 (by decide) rfl inX5 tyX5 tyX5_ok nmX5 (by decide) (tm 294 (by decide +kernel) (by decide +kernel)) rfl rfl rfl rfl (nk_5_3 i hk.1 hk.2).1 (nk_5_3 i hk.1 hk.2).2 hdg kk
theorem gf_X7_304 (C0 : CX p s m args c cc nL RX7) (X : WX D cA ad A s) (hP : WP D cA ad o σ H) (i : Nat) (hk : i < 106 ∧ kd i = (5, 6)) (hdg : decode cc pc = .ok (.getfield 304, 3)) (kk : W p l e R s m args below meth c H locs cells slots Q (F0 m (pc + 3) ls (.int (σ i 3) :: rest))) : W p l e R s m args below meth c H locs cells slots Q (F0 m pc ls (.ref (ad i) :: rest)) := r_get C0 X hP i 3 hk.1 hk.2 (by decide) rfl inX5 (by decide) (tm 295 (by decide +kernel) (by decide +kernel)) (by rw [fv, if_neg (nk_5_3 i hk.1 hk.2).2, (nk_5_3 i hk.1 hk.2).1]) hdg kk
theorem pf_X7_304 (C0 : CX p s m args c cc nL RX7) (X : WX D cA ad A s) (hP : WP D cA ad o σ H) (hS : va_S A s.heap H locs) (i : Nat) {v : Int32} (hk : i < 106 ∧ kd i = (5, 6)) (hdg : decode cc pc = .ok (.putfield 304, 3)) (kk : ∀ (H1 : Heap) (locs1 : List Loc), WP D cA ad o (stm σ i 3 v) H1 → va_S A s.heap H1 locs1 → W p l e R s m args below meth c H1 locs1 cells slots Q (F0 m (pc + 3) ls rest)) : W p l e R s m args below meth c H locs cells slots Q (F0 m pc ls (.int v :: .ref (ad i) :: rest)) := r_put C0 X hP hS i 3 hk.1 hk.2 (by decide) rfl inX5 tyX5 tyX5_ok nmX5 (by decide) (tm 295 (by decide +kernel) (by decide +kernel)) rfl rfl rfl rfl (nk_5_3 i hk.1 hk.2).1 (nk_5_3 i hk.1 hk.2).2 hdg kk
theorem gf_X5_22 (C0 : CX p s m args c cc nL RX5) (X : WX D cA ad A s) (hP : WP D cA ad o σ H) (i : Nat) (hk : i < 106 ∧ kd i = (5, 6)) (hdg : decode cc pc = .ok (.getfield 22, 3)) (kk : W p l e R s m args below meth c H locs cells slots Q (F0 m (pc + 3) ls (.int (σ i 4) :: rest))) : W p l e R s m args below meth c H locs cells slots Q (F0 m pc ls (.ref (ad i) :: rest)) := r_get C0 X hP i 4 hk.1 hk.2 (by decide) rfl inX5 (by decide) (tm 296 (by decide +kernel) (by decide +kernel)) (by rw [fv, if_neg (nk_5_4 i hk.1 hk.2).2, (nk_5_4 i hk.1 hk.2).1]) hdg kk
theorem pf_X5_22 (C0 : CX p s m args c cc nL RX5) (X : WX D cA ad A s) (hP : WP D cA ad o σ H) (hS : va_S A s.heap H locs) (i : Nat) {v : Int32} (hk : i < 106 ∧ kd i = (5, 6)) (hdg : decode cc pc = .ok (.putfield 22, 3)) (kk : ∀ (H1 : Heap) (locs1 : List Loc), WP D cA ad o (stm σ i 4 v) H1 → va_S A s.heap H1 locs1 → W p l e R s m args below meth c H1 locs1 cells slots Q (F0 m (pc + 3) ls rest)) : W p l e R s m args below meth c H locs cells slots Q (F0 m pc ls (.int v :: .ref (ad i) :: rest)) := r_put C0 X hP hS i 4 hk.1 hk.2 (by decide) rfl inX5 tyX5 tyX5_ok nmX5 (by decide) (tm 296 (by decide +kernel) (by decide +kernel)) rfl rfl rfl rfl (nk_5_4 i hk.1 hk.2).1 (nk_5_4 i hk.1 hk.2).2 hdg kk
theorem gf_X3_26 (C0 : CX p s m args c cc nL RX3) (X : WX D cA ad A s) (hP : WP D cA ad o σ H) (i : Nat) (hk : i < 106 ∧ kd i = (5, 6)) (hdg : decode cc pc = .ok (.getfield 26, 3)) (kk : W p l e R s m args below meth c H locs cells slots Q (F0 m (pc + 3) ls (.int (σ i 4) :: rest))) : W p l e R s m args below meth c H locs cells slots Q (F0 m pc ls (.ref (ad i) :: rest)) := r_get C0 X hP i 4 hk.1 hk.2 (by decide) rfl inX5 (by decide) (tm 297 (by decide +kernel) (by decide +kernel)) (by rw [fv, if_neg (nk_5_4 i hk.1 hk.2).2, (nk_5_4 i hk.1 hk.2).1]) hdg kk
theorem pf_X3_26 (C0 : CX p s m args c cc nL RX3) (X : WX D cA ad A s) (hP : WP D cA ad o σ H) (hS : va_S A s.heap H locs) (i : Nat) {v : Int32} (hk : i < 106 ∧ kd i = (5, 6)) (hdg : decode cc pc = .ok (.putfield 26, 3)) (kk : ∀ (H1 : Heap) (locs1 : List Loc), WP D cA ad o (stm σ i 4 v) H1 → va_S A s.heap H1 locs1 → W p l e R s m args below meth c H1 locs1 cells slots Q (F0 m (pc + 3) ls rest)) : W p l e R s m args below meth c H locs cells slots Q (F0 m pc ls (.int v :: .ref (ad i) :: rest)) := r_put C0 X hP hS i 4 hk.1 hk.2 (by decide) rfl inX5 tyX5 tyX5_ok nmX5 (by decide) (tm 297 (by decide +kernel) (by decide +kernel)) rfl rfl rfl rfl (nk_5_4 i hk.1 hk.2).1 (nk_5_4 i hk.1 hk.2).2 hdg kk
theorem gf_X7_204 (C0 : CX p s m args c cc nL RX7) (X : WX D cA ad A s) (hP : WP D cA ad o σ H) (i : Nat) (hk : i < 106 ∧ kd i = (5, 6)) (hdg : decode cc pc = .ok (.getfield 204, 3)) (kk : W p l e R s m args below meth c H locs cells slots Q (F0 m (pc + 3) ls (.int (σ i 4) :: rest))) : W p l e R s m args below meth c H locs cells slots Q (F0 m pc ls (.ref (ad i) :: rest)) := r_get C0 X hP i 4 hk.1 hk.2 (by decide) rfl inX5 (by decide) (tm 298 (by decide +kernel) (by decide +kernel)) (by rw [fv, if_neg (nk_5_4 i hk.1 hk.2).2, (nk_5_4 i hk.1 hk.2).1]) hdg kk
theorem pf_X7_204 (C0 : CX p s m args c cc nL RX7) (X : WX D cA ad A s) (hP : WP D cA ad o σ H) (hS : va_S A s.heap H locs) (i : Nat) {v : Int32} (hk : i < 106 ∧ kd i = (5, 6)) (hdg : decode cc pc = .ok (.putfield 204, 3)) (kk : ∀ (H1 : Heap) (locs1 : List Loc), WP D cA ad o (stm σ i 4 v) H1 → va_S A s.heap H1 locs1 → W p l e R s m args below meth c H1 locs1 cells slots Q (F0 m (pc + 3) ls rest)) : W p l e R s m args below meth c H locs cells slots Q (F0 m pc ls (.int v :: .ref (ad i) :: rest)) := r_put C0 X hP hS i 4 hk.1 hk.2 (by decide) rfl inX5 tyX5 tyX5_ok nmX5 (by decide) (tm 298 (by decide +kernel) (by decide +kernel)) rfl rfl rfl rfl (nk_5_4 i hk.1 hk.2).1 (nk_5_4 i hk.1 hk.2).2 hdg kk
theorem gf_X5_9 (C0 : CX p s m args c cc nL RX5) (X : WX D cA ad A s) (hP : WP D cA ad o σ H) (i : Nat) {q : Nat} (hk : i < 106 ∧ kd i = (5, 6)) (h85 : ¬ i = 85) (hq : lk i 5 = some q) (hdg : decode cc pc = .ok (.getfield 9, 3)) (kk : W p l e R s m args below meth c H locs cells slots Q (F0 m (pc + 3) ls (.ref (ad q) :: rest))) : W p l e R s m args below meth c H locs cells slots Q (F0 m pc ls (.ref (ad i) :: rest)) := r_get C0 X hP i 5 hk.1 hk.2 (by decide) rfl inX5 (by decide) (tm 299 (by decide +kernel) (by decide +kernel)) (by rw [fv, if_neg (fun z => h85 z.1), hq]) hdg kk
theorem gf_X3_78 (C0 : CX p s m args c cc nL RX3) (X : WX D cA ad A s) (hP : WP D cA ad o σ H) (i : Nat) {q : Nat} (hk : i < 106 ∧ kd i = (5, 6)) (h85 : ¬ i = 85) (hq : lk i 5 = some q) (hdg : decode cc pc = .ok (.getfield 78, 3)) (kk : W p l e R s m args below meth c H locs cells slots Q (F0 m (pc + 3) ls (.ref (ad q) :: rest))) : W p l e R s m args below meth c H locs cells slots Q (F0 m pc ls (.ref (ad i) :: rest)) := r_get C0 X hP i 5 hk.1 hk.2 (by decide) rfl inX5 (by decide) (tm 300 (by decide +kernel) (by decide +kernel)) (by rw [fv, if_neg (fun z => h85 z.1), hq]) hdg kk
theorem gf_X7_207 (C0 : CX p s m args c cc nL RX7) (X : WX D cA ad A s) (hP : WP D cA ad o σ H) (i : Nat) {q : Nat} (hk : i < 106 ∧ kd i = (5, 6)) (h85 : ¬ i = 85) (hq : lk i 5 = some q) (hdg : decode cc pc = .ok (.getfield 207, 3)) (kk : W p l e R s m args below meth c H locs cells slots Q (F0 m (pc + 3) ls (.ref (ad q) :: rest))) : W p l e R s m args below meth c H locs cells slots Q (F0 m pc ls (.ref (ad i) :: rest)) := r_get C0 X hP i 5 hk.1 hk.2 (by decide) rfl inX5 (by decide) (tm 301 (by decide +kernel) (by decide +kernel)) (by rw [fv, if_neg (fun z => h85 z.1), hq]) hdg kk
theorem gf_X3_12 (C0 : CX p s m args c cc nL RX3) (X : WX D cA ad A s) (hP : WP D cA ad o σ H) (i : Nat) {q : Nat} (hk : i < 106 ∧ kd i = (3, 8)) (h85 : ¬ i = 85) (hq : lk i 0 = some q) (hdg : decode cc pc = .ok (.getfield 12, 3)) (kk : W p l e R s m args below meth c H locs cells slots Q (F0 m (pc + 3) ls (.ref (ad q) :: rest))) : W p l e R s m args below meth c H locs cells slots Q (F0 m pc ls (.ref (ad i) :: rest)) := r_get C0 X hP i 0 hk.1 hk.2 (by decide) rfl inX3 (by decide) (tm 315 (by decide +kernel) (by decide +kernel)) (by rw [fv, if_neg (fun z => h85 z.1), hq]) hdg kk
theorem gf_X3_18 (C0 : CX p s m args c cc nL RX3) (X : WX D cA ad A s) (hP : WP D cA ad o σ H) (i : Nat) (hk : i < 106 ∧ kd i = (3, 8)) (hdg : decode cc pc = .ok (.getfield 18, 3)) (kk : W p l e R s m args below meth c H locs cells slots Q (F0 m (pc + 3) ls (.int (σ i 1) :: rest))) : W p l e R s m args below meth c H locs cells slots Q (F0 m pc ls (.ref (ad i) :: rest)) := r_get C0 X hP i 1 hk.1 hk.2 (by decide) rfl inX3 (by decide) (tm 316 (by decide +kernel) (by decide +kernel)) (by rw [fv, if_neg (nk_3_1 i hk.1 hk.2).2, (nk_3_1 i hk.1 hk.2).1]) hdg kk
theorem pf_X3_18 (C0 : CX p s m args c cc nL RX3) (X : WX D cA ad A s) (hP : WP D cA ad o σ H) (hS : va_S A s.heap H locs) (i : Nat) {v : Int32} (hk : i < 106 ∧ kd i = (3, 8)) (hdg : decode cc pc = .ok (.putfield 18, 3)) (kk : ∀ (H1 : Heap) (locs1 : List Loc), WP D cA ad o (stm σ i 1 v) H1 → va_S A s.heap H1 locs1 → W p l e R s m args below meth c H1 locs1 cells slots Q (F0 m (pc + 3) ls rest)) : W p l e R s m args below meth c H locs cells slots Q (F0 m pc ls (.int v :: .ref (ad i) :: rest)) := r_put C0 X hP hS i 1 hk.1 hk.2 (by decide) rfl inX3 tyX3 tyX3_ok nmX3 (by decide) (tm 316 (by decide +kernel) (by decide +kernel)) rfl rfl rfl rfl (nk_3_1 i hk.1 hk.2).1 (nk_3_1 i hk.1 hk.2).2 hdg kk
theorem gf_X3_22 (C0 : CX p s m args c cc nL RX3) (X : WX D cA ad A s) (hP : WP D cA ad o σ H) (i : Nat) (hk : i < 106 ∧ kd i = (3, 8)) (hdg : decode cc pc = .ok (.getfield 22, 3)) (kk : W p l e R s m args below meth c H locs cells slots Q (F0 m (pc + 3) ls (.int (σ i 2) :: rest))) : W p l e R s m args below meth c H locs cells slots Q (F0 m pc ls (.ref (ad i) :: rest)) := r_get C0 X hP i 2 hk.1 hk.2 (by decide) rfl inX3 (by decide) (tm 317 (by decide +kernel) (by decide +kernel)) (by rw [fv, if_neg (nk_3_2 i hk.1 hk.2).2, (nk_3_2 i hk.1 hk.2).1]) hdg kk
theorem pf_X3_22 (C0 : CX p s m args c cc nL RX3) (X : WX D cA ad A s) (hP : WP D cA ad o σ H) (hS : va_S A s.heap H locs) (i : Nat) {v : Int32} (h01 : v = 0 ∨ v = 1) (hk : i < 106 ∧ kd i = (3, 8)) (hdg : decode cc pc = .ok (.putfield 22, 3)) (kk : ∀ (H1 : Heap) (locs1 : List Loc), WP D cA ad o (stm σ i 2 v) H1 → va_S A s.heap H1 locs1 → W p l e R s m args below meth c H1 locs1 cells slots Q (F0 m (pc + 3) ls rest)) : W p l e R s m args below meth c H locs cells slots Q (F0 m pc ls (.int v :: .ref (ad i) :: rest)) := r_put C0 X hP hS i 2 hk.1 hk.2 (by decide) rfl inX3 tyX3 tyX3_ok nmX3 (by decide) (tm 317 (by decide +kernel) (by decide +kernel)) rfl rfl (by rcases h01 with rfl | rfl <;> rfl) (by rcases h01 with rfl | rfl <;> rfl) (nk_3_2 i hk.1 hk.2).1 (nk_3_2 i hk.1 hk.2).2 hdg kk
theorem gf_X3_40 (C0 : CX p s m args c cc nL RX3) (X : WX D cA ad A s) (hP : WP D cA ad o σ H) (i : Nat) (hk : i < 106 ∧ kd i = (3, 8)) (hdg : decode cc pc = .ok (.getfield 40, 3)) (kk : W p l e R s m args below meth c H locs cells slots Q (F0 m (pc + 3) ls (.int (σ i 3) :: rest))) : W p l e R s m args below meth c H locs cells slots Q (F0 m pc ls (.ref (ad i) :: rest)) := r_get C0 X hP i 3 hk.1 hk.2 (by decide) rfl inX3 (by decide) (tm 318 (by decide +kernel) (by decide +kernel)) (by rw [fv, if_neg (nk_3_3 i hk.1 hk.2).2, (nk_3_3 i hk.1 hk.2).1]) hdg kk
theorem pf_X3_40 (C0 : CX p s m args c cc nL RX3) (X : WX D cA ad A s) (hP : WP D cA ad o σ H) (hS : va_S A s.heap H locs) (i : Nat) {v : Int32} (hk : i < 106 ∧ kd i = (3, 8)) (hdg : decode cc pc = .ok (.putfield 40, 3)) (kk : ∀ (H1 : Heap) (locs1 : List Loc), WP D cA ad o (stm σ i 3 v) H1 → va_S A s.heap H1 locs1 → W p l e R s m args below meth c H1 locs1 cells slots Q (F0 m (pc + 3) ls rest)) : W p l e R s m args below meth c H locs cells slots Q (F0 m pc ls (.int v :: .ref (ad i) :: rest)) := r_put C0 X hP hS i 3 hk.1 hk.2 (by decide) rfl inX3 tyX3 tyX3_ok nmX3 (by decide) (tm 318 (by decide +kernel) (by decide +kernel)) rfl rfl rfl rfl (nk_3_3 i hk.1 hk.2).1 (nk_3_3 i hk.1 hk.2).2 hdg kk
theorem gf_X3_43 (C0 : CX p s m args c cc nL RX3) (X : WX D cA ad A s) (hP : WP D cA ad o σ H) (i : Nat) (hk : i < 106 ∧ kd i = (3, 8)) (hdg : decode cc pc = .ok (.getfield 43, 3)) (kk : W p l e R s m args below meth c H locs cells slots Q (F0 m (pc + 3) ls (.int (σ i 4) :: rest))) : W p l e R s m args below meth c H locs cells slots Q (F0 m pc ls (.ref (ad i) :: rest)) := r_get C0 X hP i 4 hk.1 hk.2 (by decide) rfl inX3 (by decide) (tm 319 (by decide +kernel) (by decide +kernel)) (by rw [fv, if_neg (nk_3_4 i hk.1 hk.2).2, (nk_3_4 i hk.1 hk.2).1]) hdg kk
theorem pf_X3_43 (C0 : CX p s m args c cc nL RX3) (X : WX D cA ad A s) (hP : WP D cA ad o σ H) (hS : va_S A s.heap H locs) (i : Nat) {v : Int32} (hk : i < 106 ∧ kd i = (3, 8)) (hdg : decode cc pc = .ok (.putfield 43, 3)) (kk : ∀ (H1 : Heap) (locs1 : List Loc), WP D cA ad o (stm σ i 4 v) H1 → va_S A s.heap H1 locs1 → W p l e R s m args below meth c H1 locs1 cells slots Q (F0 m (pc + 3) ls rest)) : W p l e R s m args below meth c H locs cells slots Q (F0 m pc ls (.int v :: .ref (ad i) :: rest)) := r_put C0 X hP hS i 4 hk.1 hk.2 (by decide) rfl inX3 tyX3 tyX3_ok nmX3 (by decide) (tm 319 (by decide +kernel) (by decide +kernel)) rfl rfl rfl rfl (nk_3_4 i hk.1 hk.2).1 (nk_3_4 i hk.1 hk.2).2 hdg kk
theorem gf_X3_46 (C0 : CX p s m args c cc nL RX3) (X : WX D cA ad A s) (hP : WP D cA ad o σ H) (i : Nat) (hk : i < 106 ∧ kd i = (3, 8)) (hdg : decode cc pc = .ok (.getfield 46, 3)) (kk : W p l e R s m args below meth c H locs cells slots Q (F0 m (pc + 3) ls (.int (σ i 5) :: rest))) : W p l e R s m args below meth c H locs cells slots Q (F0 m pc ls (.ref (ad i) :: rest)) := r_get C0 X hP i 5 hk.1 hk.2 (by decide) rfl inX3 (by decide) (tm 320 (by decide +kernel) (by decide +kernel)) (by rw [fv, if_neg (nk_3_5 i hk.1 hk.2).2, (nk_3_5 i hk.1 hk.2).1]) hdg kk
theorem pf_X3_46 (C0 : CX p s m args c cc nL RX3) (X : WX D cA ad A s) (hP : WP D cA ad o σ H) (hS : va_S A s.heap H locs) (i : Nat) {v : Int32} (hk : i < 106 ∧ kd i = (3, 8)) (hdg : decode cc pc = .ok (.putfield 46, 3)) (kk : ∀ (H1 : Heap) (locs1 : List Loc), WP D cA ad o (stm σ i 5 v) H1 → va_S A s.heap H1 locs1 → W p l e R s m args below meth c H1 locs1 cells slots Q (F0 m (pc + 3) ls rest)) : W p l e R s m args below meth c H locs cells slots Q (F0 m pc ls (.int v :: .ref (ad i) :: rest)) := r_put C0 X hP hS i 5 hk.1 hk.2 (by decide) rfl inX3 tyX3 tyX3_ok nmX3 (by decide) (tm 320 (by decide +kernel) (by decide +kernel)) rfl rfl rfl rfl (nk_3_5 i hk.1 hk.2).1 (nk_3_5 i hk.1 hk.2).2 hdg kk
theorem gf_X3_49 (C0 : CX p s m args c cc nL RX3) (X : WX D cA ad A s) (hP : WP D cA ad o σ H) (i : Nat) (hk : i < 106 ∧ kd i = (3, 8)) (hdg : decode cc pc = .ok (.getfield 49, 3)) (kk : W p l e R s m args below meth c H locs cells slots Q (F0 m (pc + 3) ls (.int (σ i 6) :: rest))) : W p l e R s m args below meth c H locs cells slots Q (F0 m pc ls (.ref (ad i) :: rest)) := r_get C0 X hP i 6 hk.1 hk.2 (by decide) rfl inX3 (by decide) (tm 321 (by decide +kernel) (by decide +kernel)) (by rw [fv, if_neg (nk_3_6 i hk.1 hk.2).2, (nk_3_6 i hk.1 hk.2).1]) hdg kk
theorem pf_X3_49 (C0 : CX p s m args c cc nL RX3) (X : WX D cA ad A s) (hP : WP D cA ad o σ H) (hS : va_S A s.heap H locs) (i : Nat) {v : Int32} (hk : i < 106 ∧ kd i = (3, 8)) (hdg : decode cc pc = .ok (.putfield 49, 3)) (kk : ∀ (H1 : Heap) (locs1 : List Loc), WP D cA ad o (stm σ i 6 v) H1 → va_S A s.heap H1 locs1 → W p l e R s m args below meth c H1 locs1 cells slots Q (F0 m (pc + 3) ls rest)) : W p l e R s m args below meth c H locs cells slots Q (F0 m pc ls (.int v :: .ref (ad i) :: rest)) := r_put C0 X hP hS i 6 hk.1 hk.2 (by decide) rfl inX3 tyX3 tyX3_ok nmX3 (by decide) (tm 321 (by decide +kernel) (by decide +kernel)) rfl rfl rfl rfl (nk_3_6 i hk.1 hk.2).1 (nk_3_6 i hk.1 hk.2).2 hdg kk
theorem gf_X3_52 (C0 : CX p s m args c cc nL RX3) (X : WX D cA ad A s) (hP : WP D cA ad o σ H) (i : Nat) (hk : i < 106 ∧ kd i = (3, 8)) (hdg : decode cc pc = .ok (.getfield 52, 3)) (kk : W p l e R s m args below meth c H locs cells slots Q (F0 m (pc + 3) ls (.int (σ i 7) :: rest))) : W p l e R s m args below meth c H locs cells slots Q (F0 m pc ls (.ref (ad i) :: rest)) := r_get C0 X hP i 7 hk.1 hk.2 (by decide) rfl inX3 (by decide) (tm 322 (by decide +kernel) (by decide +kernel)) (by rw [fv, if_neg (nk_3_7 i hk.1 hk.2).2, (nk_3_7 i hk.1 hk.2).1]) hdg kk
theorem pf_X3_52 (C0 : CX p s m args c cc nL RX3) (X : WX D cA ad A s) (hP : WP D cA ad o σ H) (hS : va_S A s.heap H locs) (i : Nat) {v : Int32} (h01 : v = 0 ∨ v = 1) (hk : i < 106 ∧ kd i = (3, 8)) (hdg : decode cc pc = .ok (.putfield 52, 3)) (kk : ∀ (H1 : Heap) (locs1 : List Loc), WP D cA ad o (stm σ i 7 v) H1 → va_S A s.heap H1 locs1 → W p l e R s m args below meth c H1 locs1 cells slots Q (F0 m (pc + 3) ls rest)) : W p l e R s m args below meth c H locs cells slots Q (F0 m pc ls (.int v :: .ref (ad i) :: rest)) := r_put C0 X hP hS i 7 hk.1 hk.2 (by decide) rfl inX3 tyX3 tyX3_ok nmX3 (by decide) (tm 322 (by decide +kernel) (by decide +kernel)) rfl rfl (by rcases h01 with rfl | rfl <;> rfl) (by rcases h01 with rfl | rfl <;> rfl) (nk_3_7 i hk.1 hk.2).1 (nk_3_7 i hk.1 hk.2).2 hdg kk
theorem gf_X2_11 (C0 : CX p s m args c cc nL RX2) (X : WX D cA ad A s) (hP : WP D cA ad o σ H) (i : Nat) {q : Nat} (hk : i < 106 ∧ kd i = (2, 8)) (h85 : ¬ i = 85) (hq : lk i 0 = some q) (hdg : decode cc pc = .ok (.getfield 11, 3)) (kk : W p l e R s m args below meth c H locs cells slots Q (F0 m (pc + 3) ls (.ref (ad q) :: rest))) : W p l e R s m args below meth c H locs cells slots Q (F0 m pc ls (.ref (ad i) :: rest)) := r_get C0 X hP i 0 hk.1 hk.2 (by decide) rfl inX2 (by decide) (tm 346 (by decide +kernel) (by decide +kernel)) (by rw [fv, if_neg (fun z => h85 z.1), hq]) hdg kk
theorem gf_X2_15 (C0 : CX p s m args c cc nL RX2) (X : WX D cA ad A s) (hP : WP D cA ad o σ H) (i : Nat) {q : Nat} (hk : i < 106 ∧ kd i = (2, 8)) (h85 : ¬ i = 85) (hq : lk i 1 = some q) (hdg : decode cc pc = .ok (.getfield 15, 3)) (kk : W p l e R s m args below meth c H locs cells slots Q (F0 m (pc + 3) ls (.ref (ad q) :: rest))) : W p l e R s m args below meth c H locs cells slots Q (F0 m pc ls (.ref (ad i) :: rest)) := r_get C0 X hP i 1 hk.1 hk.2 (by decide) rfl inX2 (by decide) (tm 347 (by decide +kernel) (by decide +kernel)) (by rw [fv, if_neg (fun z => h85 z.1), hq]) hdg kk
theorem gf_X2_34 (C0 : CX p s m args c cc nL RX2) (X : WX D cA ad A s) (hP : WP D cA ad o σ H) (i : Nat) (hk : i < 106 ∧ kd i = (2, 8)) (hdg : decode cc pc = .ok (.getfield 34, 3)) (kk : W p l e R s m args below meth c H locs cells slots Q (F0 m (pc + 3) ls (.int (σ i 2) :: rest))) : W p l e R s m args below meth c H locs cells slots Q (F0 m pc ls (.ref (ad i) :: rest)) := r_get C0 X hP i 2 hk.1 hk.2 (by decide) rfl inX2 (by decide) (tm 348 (by decide +kernel) (by decide +kernel)) (by rw [fv, if_neg (nk_2_2 i hk.1 hk.2).2, (nk_2_2 i hk.1 hk.2).1]) hdg kk
theorem pf_X2_34 (C0 : CX p s m args c cc nL RX2) (X : WX D cA ad A s) (hP : WP D cA ad o σ H) (hS : va_S A s.heap H locs) (i : Nat) {v : Int32} (hk : i < 106 ∧ kd i = (2, 8)) (hdg : decode cc pc = .ok (.putfield 34, 3)) (kk : ∀ (H1 : Heap) (locs1 : List Loc), WP D cA ad o (stm σ i 2 v) H1 → va_S A s.heap H1 locs1 → W p l e R s m args below meth c H1 locs1 cells slots Q (F0 m (pc + 3) ls rest)) : W p l e R s m args below meth c H locs cells slots Q (F0 m pc ls (.int v :: .ref (ad i) :: rest)) := r_put C0 X hP hS i 2 hk.1 hk.2 (by decide) rfl inX2 tyX2 tyX2_ok nmX2 (by decide) (tm 348 (by decide +kernel) (by decide +kernel)) rfl rfl rfl rfl (nk_2_2 i hk.1 hk.2).1 (nk_2_2 i hk.1 hk.2).2 hdg kk
theorem gf_X2_18 (C0 : CX p s m args c cc nL RX2) (X : WX D cA ad A s) (hP : WP D cA ad o σ H) (i : Nat) (hk : i < 106 ∧ kd i = (2, 8)) (hdg : decode cc pc = .ok (.getfield 18, 3)) (kk : W p l e R s m args below meth c H locs cells slots Q (F0 m (pc + 3) ls (.int (σ i 3) :: rest))) : W p l e R s m args below meth c H locs cells slots Q (F0 m pc ls (.ref (ad i) :: rest)) := r_get C0 X hP i 3 hk.1 hk.2 (by decide) rfl inX2 (by decide) (tm 349 (by decide +kernel) (by decide +kernel)) (by rw [fv, if_neg (nk_2_3 i hk.1 hk.2).2, (nk_2_3 i hk.1 hk.2).1]) hdg kk
theorem pf_X2_18 (C0 : CX p s m args c cc nL RX2) (X : WX D cA ad A s) (hP : WP D cA ad o σ H) (hS : va_S A s.heap H locs) (i : Nat) {v : Int32} (hk : i < 106 ∧ kd i = (2, 8)) (hdg : decode cc pc = .ok (.putfield 18, 3)) (kk : ∀ (H1 : Heap) (locs1 : List Loc), WP D cA ad o (stm σ i 3 v) H1 → va_S A s.heap H1 locs1 → W p l e R s m args below meth c H1 locs1 cells slots Q (F0 m (pc + 3) ls rest)) : W p l e R s m args below meth c H locs cells slots Q (F0 m pc ls (.int v :: .ref (ad i) :: rest)) := r_put C0 X hP hS i 3 hk.1 hk.2 (by decide) rfl inX2 tyX2 tyX2_ok nmX2 (by decide) (tm 349 (by decide +kernel) (by decide +kernel)) rfl rfl rfl rfl (nk_2_3 i hk.1 hk.2).1 (nk_2_3 i hk.1 hk.2).2 hdg kk
theorem gf_X2_22 (C0 : CX p s m args c cc nL RX2) (X : WX D cA ad A s) (hP : WP D cA ad o σ H) (i : Nat) (hk : i < 106 ∧ kd i = (2, 8)) (hdg : decode cc pc = .ok (.getfield 22, 3)) (kk : W p l e R s m args below meth c H locs cells slots Q (F0 m (pc + 3) ls (.int (σ i 4) :: rest))) : W p l e R s m args below meth c H locs cells slots Q (F0 m pc ls (.ref (ad i) :: rest)) := r_get C0 X hP i 4 hk.1 hk.2 (by decide) rfl inX2 (by decide) (tm 350 (by decide +kernel) (by decide +kernel)) (by rw [fv, if_neg (nk_2_4 i hk.1 hk.2).2, (nk_2_4 i hk.1 hk.2).1]) hdg kk
theorem pf_X2_22 (C0 : CX p s m args c cc nL RX2) (X : WX D cA ad A s) (hP : WP D cA ad o σ H) (hS : va_S A s.heap H locs) (i : Nat) {v : Int32} (hk : i < 106 ∧ kd i = (2, 8)) (hdg : decode cc pc = .ok (.putfield 22, 3)) (kk : ∀ (H1 : Heap) (locs1 : List Loc), WP D cA ad o (stm σ i 4 v) H1 → va_S A s.heap H1 locs1 → W p l e R s m args below meth c H1 locs1 cells slots Q (F0 m (pc + 3) ls rest)) : W p l e R s m args below meth c H locs cells slots Q (F0 m pc ls (.int v :: .ref (ad i) :: rest)) := r_put C0 X hP hS i 4 hk.1 hk.2 (by decide) rfl inX2 tyX2 tyX2_ok nmX2 (by decide) (tm 350 (by decide +kernel) (by decide +kernel)) rfl rfl rfl rfl (nk_2_4 i hk.1 hk.2).1 (nk_2_4 i hk.1 hk.2).2 hdg kk
theorem gf_X2_25 (C0 : CX p s m args c cc nL RX2) (X : WX D cA ad A s) (hP : WP D cA ad o σ H) (i : Nat) (hk : i < 106 ∧ kd i = (2, 8)) (hdg : decode cc pc = .ok (.getfield 25, 3)) (kk : W p l e R s m args below meth c H locs cells slots Q (F0 m (pc + 3) ls (.int (σ i 5) :: rest))) : W p l e R s m args below meth c H locs cells slots Q (F0 m pc ls (.ref (ad i) :: rest)) := r_get C0 X hP i 5 hk.1 hk.2 (by decide) rfl inX2 (by decide) (tm 351 (by decide +kernel) (by decide +kernel)) (by rw [fv, if_neg (nk_2_5 i hk.1 hk.2).2, (nk_2_5 i hk.1 hk.2).1]) hdg kk
theorem pf_X2_25 (C0 : CX p s m args c cc nL RX2) (X : WX D cA ad A s) (hP : WP D cA ad o σ H) (hS : va_S A s.heap H locs) (i : Nat) {v : Int32} (hk : i < 106 ∧ kd i = (2, 8)) (hdg : decode cc pc = .ok (.putfield 25, 3)) (kk : ∀ (H1 : Heap) (locs1 : List Loc), WP D cA ad o (stm σ i 5 v) H1 → va_S A s.heap H1 locs1 → W p l e R s m args below meth c H1 locs1 cells slots Q (F0 m (pc + 3) ls rest)) : W p l e R s m args below meth c H locs cells slots Q (F0 m pc ls (.int v :: .ref (ad i) :: rest)) := r_put C0 X hP hS i 5 hk.1 hk.2 (by decide) rfl inX2 tyX2 tyX2_ok nmX2 (by decide) (tm 351 (by decide +kernel) (by decide +kernel)) rfl rfl rfl rfl (nk_2_5 i hk.1 hk.2).1 (nk_2_5 i hk.1 hk.2).2 hdg kk
theorem gf_X2_28 (C0 : CX p s m args c cc nL RX2) (X : WX D cA ad A s) (hP : WP D cA ad o σ H) (i : Nat) (hk : i < 106 ∧ kd i = (2, 8)) (hdg : decode cc pc = .ok (.getfield 28, 3)) (kk : W p l e R s m args below meth c H locs cells slots Q (F0 m (pc + 3) ls (.int (σ i 6) :: rest))) : W p l e R s m args below meth c H locs cells slots Q (F0 m pc ls (.ref (ad i) :: rest)) := r_get C0 X hP i 6 hk.1 hk.2 (by decide) rfl inX2 (by decide) (tm 352 (by decide +kernel) (by decide +kernel)) (by rw [fv, if_neg (nk_2_6 i hk.1 hk.2).2, (nk_2_6 i hk.1 hk.2).1]) hdg kk
theorem pf_X2_28 (C0 : CX p s m args c cc nL RX2) (X : WX D cA ad A s) (hP : WP D cA ad o σ H) (hS : va_S A s.heap H locs) (i : Nat) {v : Int32} (hk : i < 106 ∧ kd i = (2, 8)) (hdg : decode cc pc = .ok (.putfield 28, 3)) (kk : ∀ (H1 : Heap) (locs1 : List Loc), WP D cA ad o (stm σ i 6 v) H1 → va_S A s.heap H1 locs1 → W p l e R s m args below meth c H1 locs1 cells slots Q (F0 m (pc + 3) ls rest)) : W p l e R s m args below meth c H locs cells slots Q (F0 m pc ls (.int v :: .ref (ad i) :: rest)) := r_put C0 X hP hS i 6 hk.1 hk.2 (by decide) rfl inX2 tyX2 tyX2_ok nmX2 (by decide) (tm 352 (by decide +kernel) (by decide +kernel)) rfl rfl rfl rfl (nk_2_6 i hk.1 hk.2).1 (nk_2_6 i hk.1 hk.2).2 hdg kk
theorem gf_X2_31 (C0 : CX p s m args c cc nL RX2) (X : WX D cA ad A s) (hP : WP D cA ad o σ H) (i : Nat) (hk : i < 106 ∧ kd i = (2, 8)) (hdg : decode cc pc = .ok (.getfield 31, 3)) (kk : W p l e R s m args below meth c H locs cells slots Q (F0 m (pc + 3) ls (.int (σ i 7) :: rest))) : W p l e R s m args below meth c H locs cells slots Q (F0 m pc ls (.ref (ad i) :: rest)) := r_get C0 X hP i 7 hk.1 hk.2 (by decide) rfl inX2 (by decide) (tm 353 (by decide +kernel) (by decide +kernel)) (by rw [fv, if_neg (nk_2_7 i hk.1 hk.2).2, (nk_2_7 i hk.1 hk.2).1]) hdg kk
theorem pf_X2_31 (C0 : CX p s m args c cc nL RX2) (X : WX D cA ad A s) (hP : WP D cA ad o σ H) (hS : va_S A s.heap H locs) (i : Nat) {v : Int32} (hk : i < 106 ∧ kd i = (2, 8)) (hdg : decode cc pc = .ok (.putfield 31, 3)) (kk : ∀ (H1 : Heap) (locs1 : List Loc), WP D cA ad o (stm σ i 7 v) H1 → va_S A s.heap H1 locs1 → W p l e R s m args below meth c H1 locs1 cells slots Q (F0 m (pc + 3) ls rest)) : W p l e R s m args below meth c H locs cells slots Q (F0 m pc ls (.int v :: .ref (ad i) :: rest)) := r_put C0 X hP hS i 7 hk.1 hk.2 (by decide) rfl inX2 tyX2 tyX2_ok nmX2 (by decide) (tm 353 (by decide +kernel) (by decide +kernel)) rfl rfl rfl rfl (nk_2_7 i hk.1 hk.2).1 (nk_2_7 i hk.1 hk.2).2 hdg kk
theorem gf_X7_12 (C0 : CX p s m args c cc nL RX7) (X : WX D cA ad A s) (hP : WP D cA ad o σ H) (i : Nat) {q : Nat} (hk : i < 106 ∧ kd i = (7, 8)) (h85 : ¬ i = 85) (hq : lk i 0 = some q) (hdg : decode cc pc = .ok (.getfield 12, 3)) (kk : W p l e R s m args below meth c H locs cells slots Q (F0 m (pc + 3) ls (.ref (ad q) :: rest))) : W p l e R s m args below meth c H locs cells slots Q (F0 m pc ls (.ref (ad i) :: rest)) := r_get C0 X hP i 0 hk.1 hk.2 (by decide) rfl inX7 (by decide) (tm 372 (by decide +kernel) (by decide +kernel)) (by rw [fv, if_neg (fun z => h85 z.1), hq]) hdg kk
theorem gf_X7_16 (C0 : CX p s m args c cc nL RX7) (X : WX D cA ad A s) (hP : WP D cA ad o σ H) (i : Nat) {q : Nat} (hk : i < 106 ∧ kd i = (7, 8)) (h85 : ¬ i = 85) (hq : lk i 1 = some q) (hdg : decode cc pc = .ok (.getfield 16, 3)) (kk : W p l e R s m args below meth c H locs cells slots Q (F0 m (pc + 3) ls (.ref (ad q) :: rest))) : W p l e R s m args below meth c H locs cells slots Q (F0 m pc ls (.ref (ad i) :: rest)) := r_get C0 X hP i 1 hk.1 hk.2 (by decide) rfl inX7 (by decide) (tm 373 (by decide +kernel) (by decide +kernel)) (by rw [fv, if_neg (fun z => h85 z.1), hq]) hdg kk
theorem gf_X7_19 (C0 : CX p s m args c cc nL RX7) (X : WX D cA ad A s) (hP : WP D cA ad o σ H) (i : Nat) {q : Nat} (hk : i < 106 ∧ kd i = (7, 8)) (h85 : ¬ i = 85) (hq : lk i 2 = some q) (hdg : decode cc pc = .ok (.getfield 19, 3)) (kk : W p l e R s m args below meth c H locs cells slots Q (F0 m (pc + 3) ls (.ref (ad q) :: rest))) : W p l e R s m args below meth c H locs cells slots Q (F0 m pc ls (.ref (ad i) :: rest)) := r_get C0 X hP i 2 hk.1 hk.2 (by decide) rfl inX7 (by decide) (tm 374 (by decide +kernel) (by decide +kernel)) (by rw [fv, if_neg (fun z => h85 z.1), hq]) hdg kk
theorem gf_X7_269 (C0 : CX p s m args c cc nL RX7) (X : WX D cA ad A s) (hP : WP D cA ad o σ H) (i : Nat) (hk : i < 106 ∧ kd i = (7, 8)) (hdg : decode cc pc = .ok (.getfield 269, 3)) (kk : W p l e R s m args below meth c H locs cells slots Q (F0 m (pc + 3) ls (.int (σ i 3) :: rest))) : W p l e R s m args below meth c H locs cells slots Q (F0 m pc ls (.ref (ad i) :: rest)) := r_get C0 X hP i 3 hk.1 hk.2 (by decide) rfl inX7 (by decide) (tm 375 (by decide +kernel) (by decide +kernel)) (by rw [fv, if_neg (nk_7_3 i hk.1 hk.2).2, (nk_7_3 i hk.1 hk.2).1]) hdg kk
theorem pf_X7_269 (C0 : CX p s m args c cc nL RX7) (X : WX D cA ad A s) (hP : WP D cA ad o σ H) (hS : va_S A s.heap H locs) (i : Nat) {v : Int32} (h01 : v = 0 ∨ v = 1) (hk : i < 106 ∧ kd i = (7, 8)) (hdg : decode cc pc = .ok (.putfield 269, 3)) (kk : ∀ (H1 : Heap) (locs1 : List Loc), WP D cA ad o (stm σ i 3 v) H1 → va_S A s.heap H1 locs1 → W p l e R s m args below meth c H1 locs1 cells slots Q (F0 m (pc + 3) ls rest)) : W p l e R s m args below meth c H locs cells slots Q (F0 m pc ls (.int v :: .ref (ad i) :: rest)) := r_put C0 X hP hS i 3 hk.1 hk.2 (by decide) rfl inX7 tyX7 tyX7_ok nmX7 (by decide) (tm 375 (by decide +kernel) (by decide +kernel)) rfl rfl (by rcases h01 with rfl | rfl <;> rfl) (by rcases h01 with rfl | rfl <;> rfl) (nk_7_3 i hk.1 hk.2).1 (nk_7_3 i hk.1 hk.2).2 hdg kk
theorem gf_X7_24 (C0 : CX p s m args c cc nL RX7) (X : WX D cA ad A s) (hP : WP D cA ad o σ H) (i : Nat) {q : Nat} (hk : i < 106 ∧ kd i = (7, 8)) (h85 : ¬ i = 85) (hq : lk i 4 = some q) (hdg : decode cc pc = .ok (.getfield 24, 3)) (kk : W p l e R s m args below meth c H locs cells slots Q (F0 m (pc + 3) ls (.ref (ad q) :: rest))) : W p l e R s m args below meth c H locs cells slots Q (F0 m pc ls (.ref (ad i) :: rest)) := r_get C0 X hP i 4 hk.1 hk.2 (by decide) rfl inX7 (by decide) (tm 376 (by decide +kernel) (by decide +kernel)) (by rw [fv, if_neg (fun z => h85 z.1), hq]) hdg kk
theorem gf_X7_31 (C0 : CX p s m args c cc nL RX7) (X : WX D cA ad A s) (hP : WP D cA ad o σ H) (i : Nat) {q : Nat} (hk : i < 106 ∧ kd i = (7, 8)) (h85 : ¬ i = 85) (hq : lk i 5 = some q) (hdg : decode cc pc = .ok (.getfield 31, 3)) (kk : W p l e R s m args below meth c H locs cells slots Q (F0 m (pc + 3) ls (.ref (ad q) :: rest))) : W p l e R s m args below meth c H locs cells slots Q (F0 m pc ls (.ref (ad i) :: rest)) := r_get C0 X hP i 5 hk.1 hk.2 (by decide) rfl inX7 (by decide) (tm 377 (by decide +kernel) (by decide +kernel)) (by rw [fv, if_neg (fun z => h85 z.1), hq]) hdg kk
theorem gf_X7_38 (C0 : CX p s m args c cc nL RX7) (X : WX D cA ad A s) (hP : WP D cA ad o σ H) (i : Nat) {q : Nat} (hk : i < 106 ∧ kd i = (7, 8)) (h85 : ¬ i = 85) (hq : lk i 6 = some q) (hdg : decode cc pc = .ok (.getfield 38, 3)) (kk : W p l e R s m args below meth c H locs cells slots Q (F0 m (pc + 3) ls (.ref (ad q) :: rest))) : W p l e R s m args below meth c H locs cells slots Q (F0 m pc ls (.ref (ad i) :: rest)) := r_get C0 X hP i 6 hk.1 hk.2 (by decide) rfl inX7 (by decide) (tm 378 (by decide +kernel) (by decide +kernel)) (by rw [fv, if_neg (fun z => h85 z.1), hq]) hdg kk
theorem gf_X7_45 (C0 : CX p s m args c cc nL RX7) (X : WX D cA ad A s) (hP : WP D cA ad o σ H) (i : Nat) {q : Nat} (hk : i < 106 ∧ kd i = (7, 8)) (h85 : ¬ i = 85) (hq : lk i 7 = some q) (hdg : decode cc pc = .ok (.getfield 45, 3)) (kk : W p l e R s m args below meth c H locs cells slots Q (F0 m (pc + 3) ls (.ref (ad q) :: rest))) : W p l e R s m args below meth c H locs cells slots Q (F0 m pc ls (.ref (ad i) :: rest)) := r_get C0 X hP i 7 hk.1 hk.2 (by decide) rfl inX7 (by decide) (tm 379 (by decide +kernel) (by decide +kernel)) (by rw [fv, if_neg (fun z => h85 z.1), hq]) hdg kk
theorem gf_X8_9 (C0 : CX p s m args c cc nL RX8) (X : WX D cA ad A s) (hP : WP D cA ad o σ H) (i : Nat) {q : Nat} (hk : i < 106 ∧ kd i = (8, 24)) (h85 : ¬ i = 85) (hq : lk i 0 = some q) (hdg : decode cc pc = .ok (.getfield 9, 3)) (kk : W p l e R s m args below meth c H locs cells slots Q (F0 m (pc + 3) ls (.ref (ad q) :: rest))) : W p l e R s m args below meth c H locs cells slots Q (F0 m pc ls (.ref (ad i) :: rest)) := r_get C0 X hP i 0 hk.1 hk.2 (by decide) rfl inX8 (by decide) (tm 1018 (by decide +kernel) (by decide +kernel)) (by rw [fv, if_neg (fun z => h85 z.1), hq]) hdg kk
theorem gf_X8_13 (C0 : CX p s m args c cc nL RX8) (X : WX D cA ad A s) (hP : WP D cA ad o σ H) (i : Nat) {q : Nat} (hk : i < 106 ∧ kd i = (8, 24)) (h85 : ¬ i = 85) (hq : lk i 1 = some q) (hdg : decode cc pc = .ok (.getfield 13, 3)) (kk : W p l e R s m args below meth c H locs cells slots Q (F0 m (pc + 3) ls (.ref (ad q) :: rest))) : W p l e R s m args below meth c H locs cells slots Q (F0 m pc ls (.ref (ad i) :: rest)) := r_get C0 X hP i 1 hk.1 hk.2 (by decide) rfl inX8 (by decide) (tm 1019 (by decide +kernel) (by decide +kernel)) (by rw [fv, if_neg (fun z => h85 z.1), hq]) hdg kk
theorem gf_X8_16 (C0 : CX p s m args c cc nL RX8) (X : WX D cA ad A s) (hP : WP D cA ad o σ H) (i : Nat) {q : Nat} (hk : i < 106 ∧ kd i = (8, 24)) (h85 : ¬ i = 85) (hq : lk i 2 = some q) (hdg : decode cc pc = .ok (.getfield 16, 3)) (kk : W p l e R s m args below meth c H locs cells slots Q (F0 m (pc + 3) ls (.ref (ad q) :: rest))) : W p l e R s m args below meth c H locs cells slots Q (F0 m pc ls (.ref (ad i) :: rest)) := r_get C0 X hP i 2 hk.1 hk.2 (by decide) rfl inX8 (by decide) (tm 1020 (by decide +kernel) (by decide +kernel)) (by rw [fv, if_neg (fun z => h85 z.1), hq]) hdg kk
theorem gf_X8_19 (C0 : CX p s m args c cc nL RX8) (X : WX D cA ad A s) (hP : WP D cA ad o σ H) (i : Nat) {q : Nat} (hk : i < 106 ∧ kd i = (8, 24)) (h85 : ¬ i = 85) (hq : lk i 3 = some q) (hdg : decode cc pc = .ok (.getfield 19, 3)) (kk : W p l e R s m args below meth c H locs cells slots Q (F0 m (pc + 3) ls (.ref (ad q) :: rest))) : W p l e R s m args below meth c H locs cells slots Q (F0 m pc ls (.ref (ad i) :: rest)) := r_get C0 X hP i 3 hk.1 hk.2 (by decide) rfl inX8 (by decide) (tm 1021 (by decide +kernel) (by decide +kernel)) (by rw [fv, if_neg (fun z => h85 z.1), hq]) hdg kk
theorem gf_X8_22 (C0 : CX p s m args c cc nL RX8) (X : WX D cA ad A s) (hP : WP D cA ad o σ H) (i : Nat) {q : Nat} (hk : i < 106 ∧ kd i = (8, 24)) (h85 : ¬ i = 85) (hq : lk i 4 = some q) (hdg : decode cc pc = .ok (.getfield 22, 3)) (kk : W p l e R s m args below meth c H locs cells slots Q (F0 m (pc + 3) ls (.ref (ad q) :: rest))) : W p l e R s m args below meth c H locs cells slots Q (F0 m pc ls (.ref (ad i) :: rest)) := r_get C0 X hP i 4 hk.1 hk.2 (by decide) rfl inX8 (by decide) (tm 1022 (by decide +kernel) (by decide +kernel)) (by rw [fv, if_neg (fun z => h85 z.1), hq]) hdg kk
theorem gf_X8_25 (C0 : CX p s m args c cc nL RX8) (X : WX D cA ad A s) (hP : WP D cA ad o σ H) (i : Nat) {q : Nat} (hk : i < 106 ∧ kd i = (8, 24)) (h85 : ¬ i = 85) (hq : lk i 5 = some q) (hdg : decode cc pc = .ok (.getfield 25, 3)) (kk : W p l e R s m args below meth c H locs cells slots Q (F0 m (pc + 3) ls (.ref (ad q) :: rest))) : W p l e R s m args below meth c H locs cells slots Q (F0 m pc ls (.ref (ad i) :: rest)) := r_get C0 X hP i 5 hk.1 hk.2 (by decide) rfl inX8 (by decide) (tm 1023 (by decide +kernel) (by decide +kernel)) (by rw [fv, if_neg (fun z => h85 z.1), hq]) hdg kk
theorem gf_X8_28 (C0 : CX p s m args c cc nL RX8) (X : WX D cA ad A s) (hP : WP D cA ad o σ H) (i : Nat) {q : Nat} (hk : i < 106 ∧ kd i = (8, 24)) (h85 : ¬ i = 85) (hq : lk i 6 = some q) (hdg : decode cc pc = .ok (.getfield 28, 3)) (kk : W p l e R s m args below meth c H locs cells slots Q (F0 m (pc + 3) ls (.ref (ad q) :: rest))) : W p l e R s m args below meth c H locs cells slots Q (F0 m pc ls (.ref (ad i) :: rest)) := r_get C0 X hP i 6 hk.1 hk.2 (by decide) rfl inX8 (by decide) (tm 1024 (by decide +kernel) (by decide +kernel)) (by rw [fv, if_neg (fun z => h85 z.1), hq]) hdg kk
theorem gf_X8_31 (C0 : CX p s m args c cc nL RX8) (X : WX D cA ad A s) (hP : WP D cA ad o σ H) (i : Nat) {q : Nat} (hk : i < 106 ∧ kd i = (8, 24)) (h85 : ¬ i = 85) (hq : lk i 7 = some q) (hdg : decode cc pc = .ok (.getfield 31, 3)) (kk : W p l e R s m args below meth c H locs cells slots Q (F0 m (pc + 3) ls (.ref (ad q) :: rest))) : W p l e R s m args below meth c H locs cells slots Q (F0 m pc ls (.ref (ad i) :: rest)) := r_get C0 X hP i 7 hk.1 hk.2 (by decide) rfl inX8 (by decide) (tm 1025 (by decide +kernel) (by decide +kernel)) (by rw [fv, if_neg (fun z => h85 z.1), hq]) hdg kk
theorem gf_X8_34 (C0 : CX p s m args c cc nL RX8) (X : WX D cA ad A s) (hP : WP D cA ad o σ H) (i : Nat) {q : Nat} (hk : i < 106 ∧ kd i = (8, 24)) (h85 : ¬ i = 85) (hq : lk i 8 = some q) (hdg : decode cc pc = .ok (.getfield 34, 3)) (kk : W p l e R s m args below meth c H locs cells slots Q (F0 m (pc + 3) ls (.ref (ad q) :: rest))) : W p l e R s m args below meth c H locs cells slots Q (F0 m pc ls (.ref (ad i) :: rest)) := r_get C0 X hP i 8 hk.1 hk.2 (by decide) rfl inX8 (by decide) (tm 1026 (by decide +kernel) (by decide +kernel)) (by rw [fv, if_neg (fun z => h85 z.1), hq]) hdg kk
theorem gf_X8_37 (C0 : CX p s m args c cc nL RX8) (X : WX D cA ad A s) (hP : WP D cA ad o σ H) (i : Nat) {q : Nat} (hk : i < 106 ∧ kd i = (8, 24)) (h85 : ¬ i = 85) (hq : lk i 9 = some q) (hdg : decode cc pc = .ok (.getfield 37, 3)) (kk : W p l e R s m args below meth c H locs cells slots Q (F0 m (pc + 3) ls (.ref (ad q) :: rest))) : W p l e R s m args below meth c H locs cells slots Q (F0 m pc ls (.ref (ad i) :: rest)) := r_get C0 X hP i 9 hk.1 hk.2 (by decide) rfl inX8 (by decide) (tm 1027 (by decide +kernel) (by decide +kernel)) (by rw [fv, if_neg (fun z => h85 z.1), hq]) hdg kk
theorem gf_X8_288 (C0 : CX p s m args c cc nL RX8) (X : WX D cA ad A s) (hP : WP D cA ad o σ H) (i : Nat) (hk : i < 106 ∧ kd i = (8, 24)) (hdg : decode cc pc = .ok (.getfield 288, 3)) (kk : W p l e R s m args below meth c H locs cells slots Q (F0 m (pc + 3) ls (.int (σ i 10) :: rest))) : W p l e R s m args below meth c H locs cells slots Q (F0 m pc ls (.ref (ad i) :: rest)) := r_get C0 X hP i 10 hk.1 hk.2 (by decide) rfl inX8 (by decide) (tm 1028 (by decide +kernel) (by decide +kernel)) (by rw [fv, if_neg (nk_8_10 i hk.1 hk.2).2, (nk_8_10 i hk.1 hk.2).1]) hdg kk
theorem pf_X8_288 (C0 : CX p s m args c cc nL RX8) (X : WX D cA ad A s) (hP : WP D cA ad o σ H) (hS : va_S A s.heap H locs) (i : Nat) {v : Int32} (h01 : v = 0 ∨ v = 1) (hk : i < 106 ∧ kd i = (8, 24)) (hdg : decode cc pc = .ok (.putfield 288, 3)) (kk : ∀ (H1 : Heap) (locs1 : List Loc), WP D cA ad o (stm σ i 10 v) H1 → va_S A s.heap H1 locs1 → W p l e R s m args below meth c H1 locs1 cells slots Q (F0 m (pc + 3) ls rest)) : W p l e R s m args below meth c H locs cells slots Q (F0 m pc ls (.int v :: .ref (ad i) :: rest)) := r_put C0 X hP hS i 10 hk.1 hk.2 (by decide) rfl inX8 tyX8 tyX8_ok nmX8 (by decide) (tm 1028 (by decide +kernel) (by decide +kernel)) rfl rfl (by rcases h01 with rfl | rfl <;> rfl) (by rcases h01 with rfl | rfl <;> rfl) (nk_8_10 i hk.1 hk.2).1 (nk_8_10 i hk.1 hk.2).2 hdg kk
theorem gf_X8_49 (C0 : CX p s m args c cc nL RX8) (X : WX D cA ad A s) (hP : WP D cA ad o σ H) (i : Nat) (hk : i < 106 ∧ kd i = (8, 24)) (hdg : decode cc pc = .ok (.getfield 49, 3)) (kk : W p l e R s m args below meth c H locs cells slots Q (F0 m (pc + 3) ls (.int (σ i 11) :: rest))) : W p l e R s m args below meth c H locs cells slots Q (F0 m pc ls (.ref (ad i) :: rest)) := r_get C0 X hP i 11 hk.1 hk.2 (by decide) rfl inX8 (by decide) (tm 1029 (by decide +kernel) (by decide +kernel)) (by rw [fv, if_neg (nk_8_11 i hk.1 hk.2).2, (nk_8_11 i hk.1 hk.2).1]) hdg kk
theorem pf_X8_49 (C0 : CX p s m args c cc nL RX8) (X : WX D cA ad A s) (hP : WP D cA ad o σ H) (hS : va_S A s.heap H locs) (i : Nat) {v : Int32} (hk : i < 106 ∧ kd i = (8, 24)) (hdg : decode cc pc = .ok (.putfield 49, 3)) (kk : ∀ (H1 : Heap) (locs1 : List Loc), WP D cA ad o (stm σ i 11 v) H1 → va_S A s.heap H1 locs1 → W p l e R s m args below meth c H1 locs1 cells slots Q (F0 m (pc + 3) ls rest)) : W p l e R s m args below meth c H locs cells slots Q (F0 m pc ls (.int v :: .ref (ad i) :: rest)) := r_put C0 X hP hS i 11 hk.1 hk.2 (by decide) rfl inX8 tyX8 tyX8_ok nmX8 (by decide) (tm 1029 (by decide +kernel) (by decide +kernel)) rfl rfl rfl rfl (nk_8_11 i hk.1 hk.2).1 (nk_8_11 i hk.1 hk.2).2 hdg kk
theorem gf_X8_61 (C0 : CX p s m args c cc nL RX8) (X : WX D cA ad A s) (hP : WP D cA ad o σ H) (i : Nat) (hk : i < 106 ∧ kd i = (8, 24)) (hdg : decode cc pc = .ok (.getfield 61, 3)) (kk : W p l e R s m args below meth c H locs cells slots Q (F0 m (pc + 3) ls (.int (σ i 12) :: rest))) : W p l e R s m args below meth c H locs cells slots Q (F0 m pc ls (.ref (ad i) :: rest)) := r_get C0 X hP i 12 hk.1 hk.2 (by decide) rfl inX8 (by decide) (tm 1030 (by decide +kernel) (by decide +kernel)) (by rw [fv, if_neg (nk_8_12 i hk.1 hk.2).2, (nk_8_12 i hk.1 hk.2).1]) hdg kk
theorem pf_X8_61 (C0 : CX p s m args c cc nL RX8) (X : WX D cA ad A s) (hP : WP D cA ad o σ H) (hS : va_S A s.heap H locs) (i : Nat) {v : Int32} (hk : i < 106 ∧ kd i = (8, 24)) (hdg : decode cc pc = .ok (.putfield 61, 3)) (kk : ∀ (H1 : Heap) (locs1 : List Loc), WP D cA ad o (stm σ i 12 v) H1 → va_S A s.heap H1 locs1 → W p l e R s m args below meth c H1 locs1 cells slots Q (F0 m (pc + 3) ls rest)) : W p l e R s m args below meth c H locs cells slots Q (F0 m pc ls (.int v :: .ref (ad i) :: rest)) := r_put C0 X hP hS i 12 hk.1 hk.2 (by decide) rfl inX8 tyX8 tyX8_ok nmX8 (by decide) (tm 1030 (by decide +kernel) (by decide +kernel)) rfl rfl rfl rfl (nk_8_12 i hk.1 hk.2).1 (nk_8_12 i hk.1 hk.2).2 hdg kk
theorem gf_X8_67 (C0 : CX p s m args c cc nL RX8) (X : WX D cA ad A s) (hP : WP D cA ad o σ H) (i : Nat) (hk : i < 106 ∧ kd i = (8, 24)) (hdg : decode cc pc = .ok (.getfield 67, 3)) (kk : W p l e R s m args below meth c H locs cells slots Q (F0 m (pc + 3) ls (.int (σ i 13) :: rest))) : W p l e R s m args below meth c H locs cells slots Q (F0 m pc ls (.ref (ad i) :: rest)) := r_get C0 X hP i 13 hk.1 hk.2 (by decide) rfl inX8 (by decide) (tm 1031 (by decide +kernel) (by decide +kernel)) (by rw [fv, if_neg (nk_8_13 i hk.1 hk.2).2, (nk_8_13 i hk.1 hk.2).1]) hdg kk
theorem pf_X8_67 (C0 : CX p s m args c cc nL RX8) (X : WX D cA ad A s) (hP : WP D cA ad o σ H) (hS : va_S A s.heap H locs) (i : Nat) {v : Int32} (hk : i < 106 ∧ kd i = (8, 24)) (hdg : decode cc pc = .ok (.putfield 67, 3)) (kk : ∀ (H1 : Heap) (locs1 : List Loc), WP D cA ad o (stm σ i 13 v) H1 → va_S A s.heap H1 locs1 → W p l e R s m args below meth c H1 locs1 cells slots Q (F0 m (pc + 3) ls rest)) : W p l e R s m args below meth c H locs cells slots Q (F0 m pc ls (.int v :: .ref (ad i) :: rest)) := r_put C0 X hP hS i 13 hk.1 hk.2 (by decide) rfl inX8 tyX8 tyX8_ok nmX8 (by decide) (tm 1031 (by decide +kernel) (by decide +kernel)) rfl rfl rfl rfl (nk_8_13 i hk.1 hk.2).1 (nk_8_13 i hk.1 hk.2).2 hdg kk
theorem gf_X8_64 (C0 : CX p s m args c cc nL RX8) (X : WX D cA ad A s) (hP : WP D cA ad o σ H) (i : Nat) (hk : i < 106 ∧ kd i = (8, 24)) (hdg : decode cc pc = .ok (.getfield 64, 3)) (kk : W p l e R s m args below meth c H locs cells slots Q (F0 m (pc + 3) ls (.int (σ i 14) :: rest))) : W p l e R s m args below meth c H locs cells slots Q (F0 m pc ls (.ref (ad i) :: rest)) := r_get C0 X hP i 14 hk.1 hk.2 (by decide) rfl inX8 (by decide) (tm 1032 (by decide +kernel) (by decide +kernel)) (by rw [fv, if_neg (nk_8_14 i hk.1 hk.2).2, (nk_8_14 i hk.1 hk.2).1]) hdg kk
theorem pf_X8_64 (C0 : CX p s m args c cc nL RX8) (X : WX D cA ad A s) (hP : WP D cA ad o σ H) (hS : va_S A s.heap H locs) (i : Nat) {v : Int32} (hk : i < 106 ∧ kd i = (8, 24)) (hdg : decode cc pc = .ok (.putfield 64, 3)) (kk : ∀ (H1 : Heap) (locs1 : List Loc), WP D cA ad o (stm σ i 14 v) H1 → va_S A s.heap H1 locs1 → W p l e R s m args below meth c H1 locs1 cells slots Q (F0 m (pc + 3) ls rest)) : W p l e R s m args below meth c H locs cells slots Q (F0 m pc ls (.int v :: .ref (ad i) :: rest)) := r_put C0 X hP hS i 14 hk.1 hk.2 (by decide) rfl inX8 tyX8 tyX8_ok nmX8 (by decide) (tm 1032 (by decide +kernel) (by decide +kernel)) rfl rfl rfl rfl (nk_8_14 i hk.1 hk.2).1 (nk_8_14 i hk.1 hk.2).2 hdg kk
theorem gf_X8_82 (C0 : CX p s m args c cc nL RX8) (X : WX D cA ad A s) (hP : WP D cA ad o σ H) (i : Nat) (hk : i < 106 ∧ kd i = (8, 24)) (hdg : decode cc pc = .ok (.getfield 82, 3)) (kk : W p l e R s m args below meth c H locs cells slots Q (F0 m (pc + 3) ls (.int (σ i 15) :: rest))) : W p l e R s m args below meth c H locs cells slots Q (F0 m pc ls (.ref (ad i) :: rest)) := r_get C0 X hP i 15 hk.1 hk.2 (by decide) rfl inX8 (by decide) (tm 1033 (by decide +kernel) (by decide +kernel)) (by rw [fv, if_neg (nk_8_15 i hk.1 hk.2).2, (nk_8_15 i hk.1 hk.2).1]) hdg kk
theorem pf_X8_82 (C0 : CX p s m args c cc nL RX8) (X : WX D cA ad A s) (hP : WP D cA ad o σ H) (hS : va_S A s.heap H locs) (i : Nat) {v : Int32} (hk : i < 106 ∧ kd i = (8, 24)) (hdg : decode cc pc = .ok (.putfield 82, 3)) (kk : ∀ (H1 : Heap) (locs1 : List Loc), WP D cA ad o (stm σ i 15 v) H1 → va_S A s.heap H1 locs1 → W p l e R s m args below meth c H1 locs1 cells slots Q (F0 m (pc + 3) ls rest)) : W p l e R s m args below meth c H locs cells slots Q (F0 m pc ls (.int v :: .ref (ad i) :: rest)) := r_put C0 X hP hS i 15 hk.1 hk.2 (by decide) rfl inX8 tyX8 tyX8_ok nmX8 (by decide) (tm 1033 (by decide +kernel) (by decide +kernel)) rfl rfl rfl rfl (nk_8_15 i hk.1 hk.2).1 (nk_8_15 i hk.1 hk.2).2 hdg kk
theorem gf_X8_40 (C0 : CX p s m args c cc nL RX8) (X : WX D cA ad A s) (hP : WP D cA ad o σ H) (i : Nat) {q : Nat} (hk : i < 106 ∧ kd i = (8, 24)) (h85 : ¬ i = 85) (hq : lk i 16 = some q) (hdg : decode cc pc = .ok (.getfield 40, 3)) (kk : W p l e R s m args below meth c H locs cells slots Q (F0 m (pc + 3) ls (.ref (ad q) :: rest))) : W p l e R s m args below meth c H locs cells slots Q (F0 m pc ls (.ref (ad i) :: rest)) := r_get C0 X hP i 16 hk.1 hk.2 (by decide) rfl inX8 (by decide) (tm 1034 (by decide +kernel) (by decide +kernel)) (by rw [fv, if_neg (fun z => h85 z.1), hq]) hdg kk
theorem gf_X8_194 (C0 : CX p s m args c cc nL RX8) (X : WX D cA ad A s) (hP : WP D cA ad o σ H) (i : Nat) (hk : i < 106 ∧ kd i = (8, 24)) (hdg : decode cc pc = .ok (.getfield 194, 3)) (kk : W p l e R s m args below meth c H locs cells slots Q (F0 m (pc + 3) ls (.int (σ i 17) :: rest))) : W p l e R s m args below meth c H locs cells slots Q (F0 m pc ls (.ref (ad i) :: rest)) := r_get C0 X hP i 17 hk.1 hk.2 (by decide) rfl inX8 (by decide) (tm 1035 (by decide +kernel) (by decide +kernel)) (by rw [fv, if_neg (nk_8_17 i hk.1 hk.2).2, (nk_8_17 i hk.1 hk.2).1]) hdg kk
theorem pf_X8_194 (C0 : CX p s m args c cc nL RX8) (X : WX D cA ad A s) (hP : WP D cA ad o σ H) (hS : va_S A s.heap H locs) (i : Nat) {v : Int32} (hk : i < 106 ∧ kd i = (8, 24)) (hdg : decode cc pc = .ok (.putfield 194, 3)) (kk : ∀ (H1 : Heap) (locs1 : List Loc), WP D cA ad o (stm σ i 17 v) H1 → va_S A s.heap H1 locs1 → W p l e R s m args below meth c H1 locs1 cells slots Q (F0 m (pc + 3) ls rest)) : W p l e R s m args below meth c H locs cells slots Q (F0 m pc ls (.int v :: .ref (ad i) :: rest)) := r_put C0 X hP hS i 17 hk.1 hk.2 (by decide) rfl inX8 tyX8 tyX8_ok nmX8 (by decide) (tm 1035 (by decide +kernel) (by decide +kernel)) rfl rfl rfl rfl (nk_8_17 i hk.1 hk.2).1 (nk_8_17 i hk.1 hk.2).2 hdg kk
theorem gf_X8_197 (C0 : CX p s m args c cc nL RX8) (X : WX D cA ad A s) (hP : WP D cA ad o σ H) (i : Nat) (hk : i < 106 ∧ kd i = (8, 24)) (hdg : decode cc pc = .ok (.getfield 197, 3)) (kk : W p l e R s m args below meth c H locs cells slots Q (F0 m (pc + 3) ls (.int (σ i 18) :: rest))) : W p l e R s m args below meth c H locs cells slots Q (F0 m pc ls (.ref (ad i) :: rest)) := r_get C0 X hP i 18 hk.1 hk.2 (by decide) rfl inX8 (by decide) (tm 1036 (by decide +kernel) (by decide +kernel)) (by rw [fv, if_neg (nk_8_18 i hk.1 hk.2).2, (nk_8_18 i hk.1 hk.2).1]) hdg kk
theorem pf_X8_197 (C0 : CX p s m args c cc nL RX8) (X : WX D cA ad A s) (hP : WP D cA ad o σ H) (hS : va_S A s.heap H locs) (i : Nat) {v : Int32} (hk : i < 106 ∧ kd i = (8, 24)) (hdg : decode cc pc = .ok (.putfield 197, 3)) (kk : ∀ (H1 : Heap) (locs1 : List Loc), WP D cA ad o (stm σ i 18 v) H1 → va_S A s.heap H1 locs1 → W p l e R s m args below meth c H1 locs1 cells slots Q (F0 m (pc + 3) ls rest)) : W p l e R s m args below meth c H locs cells slots Q (F0 m pc ls (.int v :: .ref (ad i) :: rest)) := r_put C0 X hP hS i 18 hk.1 hk.2 (by decide) rfl inX8 tyX8 tyX8_ok nmX8 (by decide) (tm 1036 (by decide +kernel) (by decide +kernel)) rfl rfl rfl rfl (nk_8_18 i hk.1 hk.2).1 (nk_8_18 i hk.1 hk.2).2 hdg kk
theorem gf_X8_191 (C0 : CX p s m args c cc nL RX8) (X : WX D cA ad A s) (hP : WP D cA ad o σ H) (i : Nat) (hk : i < 106 ∧ kd i = (8, 24)) (hdg : decode cc pc = .ok (.getfield 191, 3)) (kk : W p l e R s m args below meth c H locs cells slots Q (F0 m (pc + 3) ls (.int (σ i 19) :: rest))) : W p l e R s m args below meth c H locs cells slots Q (F0 m pc ls (.ref (ad i) :: rest)) := r_get C0 X hP i 19 hk.1 hk.2 (by decide) rfl inX8 (by decide) (tm 1037 (by decide +kernel) (by decide +kernel)) (by rw [fv, if_neg (nk_8_19 i hk.1 hk.2).2, (nk_8_19 i hk.1 hk.2).1]) hdg kk
theorem pf_X8_191 (C0 : CX p s m args c cc nL RX8) (X : WX D cA ad A s) (hP : WP D cA ad o σ H) (hS : va_S A s.heap H locs) (i : Nat) {v : Int32} (hk : i < 106 ∧ kd i = (8, 24)) (hdg : decode cc pc = .ok (.putfield 191, 3)) (kk : ∀ (H1 : Heap) (locs1 : List Loc), WP D cA ad o (stm σ i 19 v) H1 → va_S A s.heap H1 locs1 → W p l e R s m args below meth c H1 locs1 cells slots Q (F0 m (pc + 3) ls rest)) : W p l e R s m args below meth c H locs cells slots Q (F0 m pc ls (.int v :: .ref (ad i) :: rest)) := r_put C0 X hP hS i 19 hk.1 hk.2 (by decide) rfl inX8 tyX8 tyX8_ok nmX8 (by decide) (tm 1037 (by decide +kernel) (by decide +kernel)) rfl rfl rfl rfl (nk_8_19 i hk.1 hk.2).1 (nk_8_19 i hk.1 hk.2).2 hdg kk
theorem gf_X8_177 (C0 : CX p s m args c cc nL RX8) (X : WX D cA ad A s) (hP : WP D cA ad o σ H) (i : Nat) (hk : i < 106 ∧ kd i = (8, 24)) (hdg : decode cc pc = .ok (.getfield 177, 3)) (kk : W p l e R s m args below meth c H locs cells slots Q (F0 m (pc + 3) ls (.int (σ i 20) :: rest))) : W p l e R s m args below meth c H locs cells slots Q (F0 m pc ls (.ref (ad i) :: rest)) := r_get C0 X hP i 20 hk.1 hk.2 (by decide) rfl inX8 (by decide) (tm 1038 (by decide +kernel) (by decide +kernel)) (by rw [fv, if_neg (nk_8_20 i hk.1 hk.2).2, (nk_8_20 i hk.1 hk.2).1]) hdg kk
theorem pf_X8_177 (C0 : CX p s m args c cc nL RX8) (X : WX D cA ad A s) (hP : WP D cA ad o σ H) (hS : va_S A s.heap H locs) (i : Nat) {v : Int32} (h01 : v = 0 ∨ v = 1) (hk : i < 106 ∧ kd i = (8, 24)) (hdg : decode cc pc = .ok (.putfield 177, 3)) (kk : ∀ (H1 : Heap) (locs1 : List Loc), WP D cA ad o (stm σ i 20 v) H1 → va_S A s.heap H1 locs1 → W p l e R s m args below meth c H1 locs1 cells slots Q (F0 m (pc + 3) ls rest)) : W p l e R s m args below meth c H locs cells slots Q (F0 m pc ls (.int v :: .ref (ad i) :: rest)) := r_put C0 X hP hS i 20 hk.1 hk.2 (by decide) rfl inX8 tyX8 tyX8_ok nmX8 (by decide) (tm 1038 (by decide +kernel) (by decide +kernel)) rfl rfl (by rcases h01 with rfl | rfl <;> rfl) (by rcases h01 with rfl | rfl <;> rfl) (nk_8_20 i hk.1 hk.2).1 (nk_8_20 i hk.1 hk.2).2 hdg kk
theorem gf_X8_43 (C0 : CX p s m args c cc nL RX8) (X : WX D cA ad A s) (hP : WP D cA ad o σ H) (i : Nat) {q : Nat} (hk : i < 106 ∧ kd i = (8, 24)) (h85 : ¬ i = 85) (hq : lk i 21 = some q) (hdg : decode cc pc = .ok (.getfield 43, 3)) (kk : W p l e R s m args below meth c H locs cells slots Q (F0 m (pc + 3) ls (.ref (ad q) :: rest))) : W p l e R s m args below meth c H locs cells slots Q (F0 m pc ls (.ref (ad i) :: rest)) := r_get C0 X hP i 21 hk.1 hk.2 (by decide) rfl inX8 (by decide) (tm 1039 (by decide +kernel) (by decide +kernel)) (by rw [fv, if_neg (fun z => h85 z.1), hq]) hdg kk
theorem gf_X8_46 (C0 : CX p s m args c cc nL RX8) (X : WX D cA ad A s) (hP : WP D cA ad o σ H) (i : Nat) {q : Nat} (hk : i < 106 ∧ kd i = (8, 24)) (h85 : ¬ i = 85) (hq : lk i 22 = some q) (hdg : decode cc pc = .ok (.getfield 46, 3)) (kk : W p l e R s m args below meth c H locs cells slots Q (F0 m (pc + 3) ls (.ref (ad q) :: rest))) : W p l e R s m args below meth c H locs cells slots Q (F0 m pc ls (.ref (ad i) :: rest)) := r_get C0 X hP i 22 hk.1 hk.2 (by decide) rfl inX8 (by decide) (tm 1040 (by decide +kernel) (by decide +kernel)) (by rw [fv, if_neg (fun z => h85 z.1), hq]) hdg kk
theorem gf_X8_268 (C0 : CX p s m args c cc nL RX8) (X : WX D cA ad A s) (hP : WP D cA ad o σ H) (i : Nat) (hk : i < 106 ∧ kd i = (8, 24)) (hdg : decode cc pc = .ok (.getfield 268, 3)) (kk : W p l e R s m args below meth c H locs cells slots Q (F0 m (pc + 3) ls (.int (σ i 23) :: rest))) : W p l e R s m args below meth c H locs cells slots Q (F0 m pc ls (.ref (ad i) :: rest)) := r_get C0 X hP i 23 hk.1 hk.2 (by decide) rfl inX8 (by decide) (tm 1041 (by decide +kernel) (by decide +kernel)) (by rw [fv, if_neg (nk_8_23 i hk.1 hk.2).2, (nk_8_23 i hk.1 hk.2).1]) hdg kk
theorem pf_X8_268 (C0 : CX p s m args c cc nL RX8) (X : WX D cA ad A s) (hP : WP D cA ad o σ H) (hS : va_S A s.heap H locs) (i : Nat) {v : Int32} (hk : i < 106 ∧ kd i = (8, 24)) (hdg : decode cc pc = .ok (.putfield 268, 3)) (kk : ∀ (H1 : Heap) (locs1 : List Loc), WP D cA ad o (stm σ i 23 v) H1 → va_S A s.heap H1 locs1 → W p l e R s m args below meth c H1 locs1 cells slots Q (F0 m (pc + 3) ls rest)) : W p l e R s m args below meth c H locs cells slots Q (F0 m pc ls (.int v :: .ref (ad i) :: rest)) := r_put C0 X hP hS i 23 hk.1 hk.2 (by decide) rfl inX8 tyX8 tyX8_ok nmX8 (by decide) (tm 1041 (by decide +kernel) (by decide +kernel)) rfl rfl rfl rfl (nk_8_23 i hk.1 hk.2).1 (nk_8_23 i hk.1 hk.2).2 hdg kk
end FL
theorem wm_yX7_road : Cond.instanceMethod ⟨"WhoBacks", "road", "(I)I"⟩ ∈ tbg := tm 398 (by decide +kernel) (by decide +kernel)
theorem wx_yX7_road : Cond.selects "WhoBacks" ⟨"WhoBacks", "road", "(I)I"⟩ ⟨"WhoBacks", "road", "(I)I"⟩ ∈ tbg := tm 399 (by decide +kernel) (by decide +kernel)
theorem wi_RX7 : Cond.initialized "WhoBacks" ∈ tbg := tm 56 (by decide +kernel) (by decide +kernel)
set_option maxRecDepth 100000 in
theorem wc_yX7_road : Cond.code ⟨"WhoBacks", "road", "(I)I"⟩ prog_1_method_2_code 4 (Option.some Jvm.ClassFile.FieldType.int) ∈ tbg := tm 400 rfl (by decide +kernel)
theorem L_L_21 : LVt RL 21 RX7 yX7_road cX7_road 4 (some .int) 1 := mkLVt (tm 397 (by decide +kernel) (by decide +kernel)) wm_yX7_road wx_yX7_road wi_RX7 wc_yX7_road ⟨rfl, by decide +kernel, by decide +kernel, by decide +kernel⟩
theorem wm_yX7_shelfAt : Cond.instanceMethod ⟨"WhoBacks", "shelfAt", "(I)LWhoBacks$Shelf;"⟩ ∈ tbg := tm 403 (by decide +kernel) (by decide +kernel)
theorem wx_yX7_shelfAt : Cond.selects "WhoBacks" ⟨"WhoBacks", "shelfAt", "(I)LWhoBacks$Shelf;"⟩ ⟨"WhoBacks", "shelfAt", "(I)LWhoBacks$Shelf;"⟩ ∈ tbg := tm 0 (by decide +kernel) (by decide +kernel)
set_option maxRecDepth 100000 in
theorem wc_yX7_shelfAt : Cond.code ⟨"WhoBacks", "shelfAt", "(I)LWhoBacks$Shelf;"⟩ prog_1_method_39_code 2 (Option.some (Jvm.ClassFile.FieldType.object "WhoBacks$Shelf")) ∈ tbg := tm 404 rfl (by decide +kernel)
theorem L_X7_50 : LVt RX7 50 RX7 yX7_shelfAt cX7_shelfAt 2 (some (.object "WhoBacks$Shelf")) 1 := mkLVt (tm 401 (by decide +kernel) (by decide +kernel)) wm_yX7_shelfAt wx_yX7_shelfAt wi_RX7 wc_yX7_shelfAt ⟨rfl, by decide +kernel, by decide +kernel, by decide +kernel⟩
theorem wm_yX5_holdsBytes : Cond.instanceMethod ⟨"WhoBacks$Shelf", "holdsBytes", "()Z"⟩ ∈ tbg := tm 406 (by decide +kernel) (by decide +kernel)
theorem wx_yX5_holdsBytes : Cond.selects "WhoBacks$Shelf" ⟨"WhoBacks$Shelf", "holdsBytes", "()Z"⟩ ⟨"WhoBacks$Shelf", "holdsBytes", "()Z"⟩ ∈ tbg := tm 407 (by decide +kernel) (by decide +kernel)
theorem wi_RX5 : Cond.initialized "WhoBacks$Shelf" ∈ tbg := tm 62 (by decide +kernel) (by decide +kernel)
set_option maxRecDepth 100000 in
theorem wc_yX5_holdsBytes : Cond.code ⟨"WhoBacks$Shelf", "holdsBytes", "()Z"⟩ prog_7_method_3_code 1 (Option.some Jvm.ClassFile.FieldType.boolean) ∈ tbg := tm 408 rfl (by decide +kernel)
theorem L_X7_58 : LVt RX7 58 RX5 yX5_holdsBytes cX5_holdsBytes 1 (some .boolean) 0 := mkLVt (tm 405 (by decide +kernel) (by decide +kernel)) wm_yX5_holdsBytes wx_yX5_holdsBytes wi_RX5 wc_yX5_holdsBytes ⟨rfl, by decide +kernel, by decide +kernel, by decide +kernel⟩
theorem wm_yX6_copyFrom : Cond.instanceMethod ⟨"WhoBacks$Traffic", "copyFrom", "(LWhoBacks$Traffic;)V"⟩ ∈ tbg := tm 410 (by decide +kernel) (by decide +kernel)
theorem wx_yX6_copyFrom : Cond.selects "WhoBacks$Traffic" ⟨"WhoBacks$Traffic", "copyFrom", "(LWhoBacks$Traffic;)V"⟩ ⟨"WhoBacks$Traffic", "copyFrom", "(LWhoBacks$Traffic;)V"⟩ ∈ tbg := tm 411 (by decide +kernel) (by decide +kernel)
theorem wi_RX6 : Cond.initialized "WhoBacks$Traffic" ∈ tbg := tm 57 (by decide +kernel) (by decide +kernel)
set_option maxRecDepth 100000 in
theorem wc_yX6_copyFrom : Cond.code ⟨"WhoBacks$Traffic", "copyFrom", "(LWhoBacks$Traffic;)V"⟩ prog_8_method_2_code 3 (Option.none : Option Jvm.ClassFile.FieldType) ∈ tbg := tm 412 rfl (by decide +kernel)
theorem L_X7_62 : LVt RX7 62 RX6 yX6_copyFrom cX6_copyFrom 3 none 1 := mkLVt (tm 409 (by decide +kernel) (by decide +kernel)) wm_yX6_copyFrom wx_yX6_copyFrom wi_RX6 wc_yX6_copyFrom ⟨rfl, by decide +kernel, by decide +kernel, by decide +kernel⟩
theorem wm_yX4_copyFrom : Cond.instanceMethod ⟨"WhoBacks$Road", "copyFrom", "(LWhoBacks$Road;)V"⟩ ∈ tbg := tm 414 (by decide +kernel) (by decide +kernel)
theorem wx_yX4_copyFrom : Cond.selects "WhoBacks$Road" ⟨"WhoBacks$Road", "copyFrom", "(LWhoBacks$Road;)V"⟩ ⟨"WhoBacks$Road", "copyFrom", "(LWhoBacks$Road;)V"⟩ ∈ tbg := tm 415 (by decide +kernel) (by decide +kernel)
theorem wi_RX4 : Cond.initialized "WhoBacks$Road" ∈ tbg := tm 58 (by decide +kernel) (by decide +kernel)
set_option maxRecDepth 100000 in
theorem wc_yX4_copyFrom : Cond.code ⟨"WhoBacks$Road", "copyFrom", "(LWhoBacks$Road;)V"⟩ prog_6_method_2_code 2 (Option.none : Option Jvm.ClassFile.FieldType) ∈ tbg := tm 416 rfl (by decide +kernel)
theorem L_X6_39 : LVt RX6 39 RX4 yX4_copyFrom cX4_copyFrom 2 none 1 := mkLVt (tm 413 (by decide +kernel) (by decide +kernel)) wm_yX4_copyFrom wx_yX4_copyFrom wi_RX4 wc_yX4_copyFrom ⟨rfl, by decide +kernel, by decide +kernel, by decide +kernel⟩
theorem wm_yX0_copyFrom : Cond.instanceMethod ⟨"WhoBacks$Cart", "copyFrom", "(LWhoBacks$Cart;)V"⟩ ∈ tbg := tm 421 (by decide +kernel) (by decide +kernel)
theorem wx_yX0_copyFrom : Cond.selects "WhoBacks$Cart" ⟨"WhoBacks$Cart", "copyFrom", "(LWhoBacks$Cart;)V"⟩ ⟨"WhoBacks$Cart", "copyFrom", "(LWhoBacks$Cart;)V"⟩ ∈ tbg := tm 422 (by decide +kernel) (by decide +kernel)
theorem wi_RX0 : Cond.initialized "WhoBacks$Cart" ∈ tbg := tm 59 (by decide +kernel) (by decide +kernel)
set_option maxRecDepth 100000 in
theorem wc_yX0_copyFrom : Cond.code ⟨"WhoBacks$Cart", "copyFrom", "(LWhoBacks$Cart;)V"⟩ prog_2_method_2_code 2 (Option.none : Option Jvm.ClassFile.FieldType) ∈ tbg := tm 423 rfl (by decide +kernel)
theorem L_X6_43 : LVt RX6 43 RX0 yX0_copyFrom cX0_copyFrom 2 none 1 := mkLVt (tm 420 (by decide +kernel) (by decide +kernel)) wm_yX0_copyFrom wx_yX0_copyFrom wi_RX0 wc_yX0_copyFrom ⟨rfl, by decide +kernel, by decide +kernel, by decide +kernel⟩
theorem wm_yX3_read : Cond.instanceMethod ⟨"WhoBacks$Reader", "read", "(LWhoBacks$Shelf;LWhoBacks$Traffic;)I"⟩ ∈ tbg := tm 426 (by decide +kernel) (by decide +kernel)
theorem wx_yX3_read : Cond.selects "WhoBacks$Reader" ⟨"WhoBacks$Reader", "read", "(LWhoBacks$Shelf;LWhoBacks$Traffic;)I"⟩ ⟨"WhoBacks$Reader", "read", "(LWhoBacks$Shelf;LWhoBacks$Traffic;)I"⟩ ∈ tbg := tm 427 (by decide +kernel) (by decide +kernel)
theorem wi_RX3 : Cond.initialized "WhoBacks$Reader" ∈ tbg := tm 61 (by decide +kernel) (by decide +kernel)
set_option maxRecDepth 100000 in
theorem wc_yX3_read : Cond.code ⟨"WhoBacks$Reader", "read", "(LWhoBacks$Shelf;LWhoBacks$Traffic;)I"⟩ prog_5_method_2_code 7 (Option.some Jvm.ClassFile.FieldType.int) ∈ tbg := tm 428 rfl (by decide +kernel)
theorem L_X7_66 : LVt RX7 66 RX3 yX3_read cX3_read 7 (some .int) 2 := mkLVt (tm 425 (by decide +kernel) (by decide +kernel)) wm_yX3_read wx_yX3_read wi_RX3 wc_yX3_read ⟨rfl, by decide +kernel, by decide +kernel, by decide +kernel⟩
theorem wm_yX3_readStatement : Cond.instanceMethod ⟨"WhoBacks$Reader", "readStatement", "()V"⟩ ∈ tbg := tm 431 (by decide +kernel) (by decide +kernel)
theorem wx_yX3_readStatement : Cond.selects "WhoBacks$Reader" ⟨"WhoBacks$Reader", "readStatement", "()V"⟩ ⟨"WhoBacks$Reader", "readStatement", "()V"⟩ ∈ tbg := tm 1 (by decide +kernel) (by decide +kernel)
set_option maxRecDepth 100000 in
theorem wc_yX3_readStatement : Cond.code ⟨"WhoBacks$Reader", "readStatement", "()V"⟩ prog_5_method_3_code 1 (Option.none : Option Jvm.ClassFile.FieldType) ∈ tbg := tm 432 rfl (by decide +kernel)
theorem L_X3_29 : LVt RX3 29 RX3 yX3_readStatement cX3_readStatement 1 none 0 := mkLVt (tm 429 (by decide +kernel) (by decide +kernel)) wm_yX3_readStatement wx_yX3_readStatement wi_RX3 wc_yX3_readStatement ⟨rfl, by decide +kernel, by decide +kernel, by decide +kernel⟩
theorem wm_yX3_next : Cond.instanceMethod ⟨"WhoBacks$Reader", "next", "()I"⟩ ∈ tbg := tm 435 (by decide +kernel) (by decide +kernel)
theorem wx_yX3_next : Cond.selects "WhoBacks$Reader" ⟨"WhoBacks$Reader", "next", "()I"⟩ ⟨"WhoBacks$Reader", "next", "()I"⟩ ∈ tbg := tm 2 (by decide +kernel) (by decide +kernel)
set_option maxRecDepth 100000 in
theorem wc_yX3_next : Cond.code ⟨"WhoBacks$Reader", "next", "()I"⟩ prog_5_method_7_code 1 (Option.some Jvm.ClassFile.FieldType.int) ∈ tbg := tm 436 rfl (by decide +kernel)
theorem L_X3_36 : LVt RX3 36 RX3 yX3_next cX3_next 1 (some .int) 0 := mkLVt (tm 433 (by decide +kernel) (by decide +kernel)) wm_yX3_next wx_yX3_next wi_RX3 wc_yX3_next ⟨rfl, by decide +kernel, by decide +kernel, by decide +kernel⟩
theorem wm_yX3_readPiece : Cond.instanceMethod ⟨"WhoBacks$Reader", "readPiece", "()V"⟩ ∈ tbg := tm 439 (by decide +kernel) (by decide +kernel)
theorem wx_yX3_readPiece : Cond.selects "WhoBacks$Reader" ⟨"WhoBacks$Reader", "readPiece", "()V"⟩ ⟨"WhoBacks$Reader", "readPiece", "()V"⟩ ∈ tbg := tm 3 (by decide +kernel) (by decide +kernel)
set_option maxRecDepth 100000 in
theorem wc_yX3_readPiece : Cond.code ⟨"WhoBacks$Reader", "readPiece", "()V"⟩ prog_5_method_4_code 1 (Option.none : Option Jvm.ClassFile.FieldType) ∈ tbg := tm 440 rfl (by decide +kernel)
theorem L_X3_55 : LVt RX3 55 RX3 yX3_readPiece cX3_readPiece 1 none 0 := mkLVt (tm 437 (by decide +kernel) (by decide +kernel)) wm_yX3_readPiece wx_yX3_readPiece wi_RX3 wc_yX3_readPiece ⟨rfl, by decide +kernel, by decide +kernel, by decide +kernel⟩
theorem wm_yX3_digit : Cond.instanceMethod ⟨"WhoBacks$Reader", "digit", "()I"⟩ ∈ tbg := tm 443 (by decide +kernel) (by decide +kernel)
theorem wx_yX3_digit : Cond.selects "WhoBacks$Reader" ⟨"WhoBacks$Reader", "digit", "()I"⟩ ⟨"WhoBacks$Reader", "digit", "()I"⟩ ∈ tbg := tm 4 (by decide +kernel) (by decide +kernel)
set_option maxRecDepth 100000 in
theorem wc_yX3_digit : Cond.code ⟨"WhoBacks$Reader", "digit", "()I"⟩ prog_5_method_11_code 2 (Option.some Jvm.ClassFile.FieldType.int) ∈ tbg := tm 444 rfl (by decide +kernel)
theorem L_X3_68 : LVt RX3 68 RX3 yX3_digit cX3_digit 2 (some .int) 0 := mkLVt (tm 441 (by decide +kernel) (by decide +kernel)) wm_yX3_digit wx_yX3_digit wi_RX3 wc_yX3_digit ⟨rfl, by decide +kernel, by decide +kernel, by decide +kernel⟩
theorem wm_yX3_skips : Cond.instanceMethod ⟨"WhoBacks$Reader", "skips", "(I)Z"⟩ ∈ tbg := tm 447 (by decide +kernel) (by decide +kernel)
theorem wx_yX3_skips : Cond.selects "WhoBacks$Reader" ⟨"WhoBacks$Reader", "skips", "(I)Z"⟩ ⟨"WhoBacks$Reader", "skips", "(I)Z"⟩ ∈ tbg := tm 5 (by decide +kernel) (by decide +kernel)
set_option maxRecDepth 100000 in
theorem wc_yX3_skips : Cond.code ⟨"WhoBacks$Reader", "skips", "(I)Z"⟩ prog_5_method_8_code 2 (Option.some Jvm.ClassFile.FieldType.boolean) ∈ tbg := tm 448 rfl (by decide +kernel)
theorem L_X3_71 : LVt RX3 71 RX3 yX3_skips cX3_skips 2 (some .boolean) 1 := mkLVt (tm 445 (by decide +kernel) (by decide +kernel)) wm_yX3_skips wx_yX3_skips wi_RX3 wc_yX3_skips ⟨rfl, by decide +kernel, by decide +kernel, by decide +kernel⟩
theorem wm_yX3_readPair : Cond.instanceMethod ⟨"WhoBacks$Reader", "readPair", "()V"⟩ ∈ tbg := tm 451 (by decide +kernel) (by decide +kernel)
theorem wx_yX3_readPair : Cond.selects "WhoBacks$Reader" ⟨"WhoBacks$Reader", "readPair", "()V"⟩ ⟨"WhoBacks$Reader", "readPair", "()V"⟩ ∈ tbg := tm 6 (by decide +kernel) (by decide +kernel)
set_option maxRecDepth 100000 in
theorem wc_yX3_readPair : Cond.code ⟨"WhoBacks$Reader", "readPair", "()V"⟩ prog_5_method_5_code 1 (Option.none : Option Jvm.ClassFile.FieldType) ∈ tbg := tm 452 rfl (by decide +kernel)
theorem L_X3_58 : LVt RX3 58 RX3 yX3_readPair cX3_readPair 1 none 0 := mkLVt (tm 449 (by decide +kernel) (by decide +kernel)) wm_yX3_readPair wx_yX3_readPair wi_RX3 wc_yX3_readPair ⟨rfl, by decide +kernel, by decide +kernel, by decide +kernel⟩
theorem wm_yX3_want : Cond.instanceMethod ⟨"WhoBacks$Reader", "want", "(I)V"⟩ ∈ tbg := tm 455 (by decide +kernel) (by decide +kernel)
theorem wx_yX3_want : Cond.selects "WhoBacks$Reader" ⟨"WhoBacks$Reader", "want", "(I)V"⟩ ⟨"WhoBacks$Reader", "want", "(I)V"⟩ ∈ tbg := tm 7 (by decide +kernel) (by decide +kernel)
set_option maxRecDepth 100000 in
theorem wc_yX3_want : Cond.code ⟨"WhoBacks$Reader", "want", "(I)V"⟩ prog_5_method_9_code 2 (Option.none : Option Jvm.ClassFile.FieldType) ∈ tbg := tm 456 rfl (by decide +kernel)
theorem L_X3_64 : LVt RX3 64 RX3 yX3_want cX3_want 2 none 1 := mkLVt (tm 453 (by decide +kernel) (by decide +kernel)) wm_yX3_want wx_yX3_want wi_RX3 wc_yX3_want ⟨rfl, by decide +kernel, by decide +kernel, by decide +kernel⟩
theorem wm_yX3_readCart : Cond.instanceMethod ⟨"WhoBacks$Reader", "readCart", "()V"⟩ ∈ tbg := tm 459 (by decide +kernel) (by decide +kernel)
theorem wx_yX3_readCart : Cond.selects "WhoBacks$Reader" ⟨"WhoBacks$Reader", "readCart", "()V"⟩ ⟨"WhoBacks$Reader", "readCart", "()V"⟩ ∈ tbg := tm 8 (by decide +kernel) (by decide +kernel)
set_option maxRecDepth 100000 in
theorem wc_yX3_readCart : Cond.code ⟨"WhoBacks$Reader", "readCart", "()V"⟩ prog_5_method_6_code 1 (Option.none : Option Jvm.ClassFile.FieldType) ∈ tbg := tm 460 rfl (by decide +kernel)
theorem L_X3_61 : LVt RX3 61 RX3 yX3_readCart cX3_readCart 1 none 0 := mkLVt (tm 457 (by decide +kernel) (by decide +kernel)) wm_yX3_readCart wx_yX3_readCart wi_RX3 wc_yX3_readCart ⟨rfl, by decide +kernel, by decide +kernel, by decide +kernel⟩
theorem wm_yX3_number : Cond.instanceMethod ⟨"WhoBacks$Reader", "number", "()I"⟩ ∈ tbg := tm 463 (by decide +kernel) (by decide +kernel)
theorem wx_yX3_number : Cond.selects "WhoBacks$Reader" ⟨"WhoBacks$Reader", "number", "()I"⟩ ⟨"WhoBacks$Reader", "number", "()I"⟩ ∈ tbg := tm 9 (by decide +kernel) (by decide +kernel)
set_option maxRecDepth 100000 in
theorem wc_yX3_number : Cond.code ⟨"WhoBacks$Reader", "number", "()I"⟩ prog_5_method_12_code 3 (Option.some Jvm.ClassFile.FieldType.int) ∈ tbg := tm 464 rfl (by decide +kernel)
theorem L_X3_75 : LVt RX3 75 RX3 yX3_number cX3_number 3 (some .int) 0 := mkLVt (tm 461 (by decide +kernel) (by decide +kernel)) wm_yX3_number wx_yX3_number wi_RX3 wc_yX3_number ⟨rfl, by decide +kernel, by decide +kernel, by decide +kernel⟩
theorem wm_yX3_hasDigit : Cond.instanceMethod ⟨"WhoBacks$Reader", "hasDigit", "()Z"⟩ ∈ tbg := tm 467 (by decide +kernel) (by decide +kernel)
theorem wx_yX3_hasDigit : Cond.selects "WhoBacks$Reader" ⟨"WhoBacks$Reader", "hasDigit", "()Z"⟩ ⟨"WhoBacks$Reader", "hasDigit", "()Z"⟩ ∈ tbg := tm 10 (by decide +kernel) (by decide +kernel)
set_option maxRecDepth 100000 in
theorem wc_yX3_hasDigit : Cond.code ⟨"WhoBacks$Reader", "hasDigit", "()Z"⟩ prog_5_method_10_code 1 (Option.some Jvm.ClassFile.FieldType.boolean) ∈ tbg := tm 468 rfl (by decide +kernel)
theorem L_X3_82 : LVt RX3 82 RX3 yX3_hasDigit cX3_hasDigit 1 (some .boolean) 0 := mkLVt (tm 465 (by decide +kernel) (by decide +kernel)) wm_yX3_hasDigit wx_yX3_hasDigit wi_RX3 wc_yX3_hasDigit ⟨rfl, by decide +kernel, by decide +kernel, by decide +kernel⟩
theorem wm_yX3_fulfil : Cond.instanceMethod ⟨"WhoBacks$Reader", "fulfil", "(LWhoBacks$Traffic;)Z"⟩ ∈ tbg := tm 471 (by decide +kernel) (by decide +kernel)
theorem wx_yX3_fulfil : Cond.selects "WhoBacks$Reader" ⟨"WhoBacks$Reader", "fulfil", "(LWhoBacks$Traffic;)Z"⟩ ⟨"WhoBacks$Reader", "fulfil", "(LWhoBacks$Traffic;)Z"⟩ ∈ tbg := tm 11 (by decide +kernel) (by decide +kernel)
set_option maxRecDepth 100000 in
theorem wc_yX3_fulfil : Cond.code ⟨"WhoBacks$Reader", "fulfil", "(LWhoBacks$Traffic;)Z"⟩ prog_5_method_13_code 3 (Option.some Jvm.ClassFile.FieldType.boolean) ∈ tbg := tm 472 rfl (by decide +kernel)
theorem L_X3_32 : LVt RX3 32 RX3 yX3_fulfil cX3_fulfil 3 (some .boolean) 1 := mkLVt (tm 469 (by decide +kernel) (by decide +kernel)) wm_yX3_fulfil wx_yX3_fulfil wi_RX3 wc_yX3_fulfil ⟨rfl, by decide +kernel, by decide +kernel, by decide +kernel⟩
theorem wm_yX4_addPiece : Cond.instanceMethod ⟨"WhoBacks$Road", "addPiece", "(II)Z"⟩ ∈ tbg := tm 474 (by decide +kernel) (by decide +kernel)
theorem wx_yX4_addPiece : Cond.selects "WhoBacks$Road" ⟨"WhoBacks$Road", "addPiece", "(II)Z"⟩ ⟨"WhoBacks$Road", "addPiece", "(II)Z"⟩ ∈ tbg := tm 475 (by decide +kernel) (by decide +kernel)
set_option maxRecDepth 100000 in
theorem wc_yX4_addPiece : Cond.code ⟨"WhoBacks$Road", "addPiece", "(II)Z"⟩ prog_6_method_3_code 4 (Option.some Jvm.ClassFile.FieldType.boolean) ∈ tbg := tm 476 rfl (by decide +kernel)
theorem L_X3_95 : LVt RX3 95 RX4 yX4_addPiece cX4_addPiece 4 (some .boolean) 2 := mkLVt (tm 473 (by decide +kernel) (by decide +kernel)) wm_yX4_addPiece wx_yX4_addPiece wi_RX4 wc_yX4_addPiece ⟨rfl, by decide +kernel, by decide +kernel, by decide +kernel⟩
theorem wm_yX4_tellRoom : Cond.instanceMethod ⟨"WhoBacks$Road", "tellRoom", "(II)Z"⟩ ∈ tbg := tm 481 (by decide +kernel) (by decide +kernel)
theorem wx_yX4_tellRoom : Cond.selects "WhoBacks$Road" ⟨"WhoBacks$Road", "tellRoom", "(II)Z"⟩ ⟨"WhoBacks$Road", "tellRoom", "(II)Z"⟩ ∈ tbg := tm 482 (by decide +kernel) (by decide +kernel)
set_option maxRecDepth 100000 in
theorem wc_yX4_tellRoom : Cond.code ⟨"WhoBacks$Road", "tellRoom", "(II)Z"⟩ prog_6_method_5_code 3 (Option.some Jvm.ClassFile.FieldType.boolean) ∈ tbg := tm 483 rfl (by decide +kernel)
theorem L_X3_101 : LVt RX3 101 RX4 yX4_tellRoom cX4_tellRoom 3 (some .boolean) 2 := mkLVt (tm 480 (by decide +kernel) (by decide +kernel)) wm_yX4_tellRoom wx_yX4_tellRoom wi_RX4 wc_yX4_tellRoom ⟨rfl, by decide +kernel, by decide +kernel, by decide +kernel⟩
theorem wm_yX4_isBetween : Cond.instanceMethod ⟨"WhoBacks$Road", "isBetween", "(I)Z"⟩ ∈ tbg := tm 485 (by decide +kernel) (by decide +kernel)
theorem wx_yX4_isBetween : Cond.selects "WhoBacks$Road" ⟨"WhoBacks$Road", "isBetween", "(I)Z"⟩ ⟨"WhoBacks$Road", "isBetween", "(I)Z"⟩ ∈ tbg := tm 486 (by decide +kernel) (by decide +kernel)
set_option maxRecDepth 100000 in
theorem wc_yX4_isBetween : Cond.code ⟨"WhoBacks$Road", "isBetween", "(I)Z"⟩ prog_6_method_4_code 2 (Option.some Jvm.ClassFile.FieldType.boolean) ∈ tbg := tm 487 rfl (by decide +kernel)
theorem L_X4_64 : LVt RX4 64 RX4 yX4_isBetween cX4_isBetween 2 (some .boolean) 1 := mkLVt (tm 484 (by decide +kernel) (by decide +kernel)) wm_yX4_isBetween wx_yX4_isBetween wi_RX4 wc_yX4_isBetween ⟨rfl, by decide +kernel, by decide +kernel, by decide +kernel⟩
theorem wm_yX4_tellVillage : Cond.instanceMethod ⟨"WhoBacks$Road", "tellVillage", "(II)Z"⟩ ∈ tbg := tm 489 (by decide +kernel) (by decide +kernel)
theorem wx_yX4_tellVillage : Cond.selects "WhoBacks$Road" ⟨"WhoBacks$Road", "tellVillage", "(II)Z"⟩ ⟨"WhoBacks$Road", "tellVillage", "(II)Z"⟩ ∈ tbg := tm 490 (by decide +kernel) (by decide +kernel)
set_option maxRecDepth 100000 in
theorem wc_yX4_tellVillage : Cond.code ⟨"WhoBacks$Road", "tellVillage", "(II)Z"⟩ prog_6_method_6_code 3 (Option.some Jvm.ClassFile.FieldType.boolean) ∈ tbg := tm 491 rfl (by decide +kernel)
theorem L_X3_104 : LVt RX3 104 RX4 yX4_tellVillage cX4_tellVillage 3 (some .boolean) 2 := mkLVt (tm 488 (by decide +kernel) (by decide +kernel)) wm_yX4_tellVillage wx_yX4_tellVillage wi_RX4 wc_yX4_tellVillage ⟨rfl, by decide +kernel, by decide +kernel, by decide +kernel⟩
theorem wm_yX4_tellRule : Cond.instanceMethod ⟨"WhoBacks$Road", "tellRule", "(III)Z"⟩ ∈ tbg := tm 493 (by decide +kernel) (by decide +kernel)
theorem wx_yX4_tellRule : Cond.selects "WhoBacks$Road" ⟨"WhoBacks$Road", "tellRule", "(III)Z"⟩ ⟨"WhoBacks$Road", "tellRule", "(III)Z"⟩ ∈ tbg := tm 494 (by decide +kernel) (by decide +kernel)
set_option maxRecDepth 100000 in
theorem wc_yX4_tellRule : Cond.code ⟨"WhoBacks$Road", "tellRule", "(III)Z"⟩ prog_6_method_7_code 4 (Option.some Jvm.ClassFile.FieldType.boolean) ∈ tbg := tm 495 rfl (by decide +kernel)
theorem L_X3_107 : LVt RX3 107 RX4 yX4_tellRule cX4_tellRule 4 (some .boolean) 3 := mkLVt (tm 492 (by decide +kernel) (by decide +kernel)) wm_yX4_tellRule wx_yX4_tellRule wi_RX4 wc_yX4_tellRule ⟨rfl, by decide +kernel, by decide +kernel, by decide +kernel⟩
theorem wm_yX6_addCart : Cond.instanceMethod ⟨"WhoBacks$Traffic", "addCart", "(ZIIZI)Z"⟩ ∈ tbg := tm 497 (by decide +kernel) (by decide +kernel)
theorem wx_yX6_addCart : Cond.selects "WhoBacks$Traffic" ⟨"WhoBacks$Traffic", "addCart", "(ZIIZI)Z"⟩ ⟨"WhoBacks$Traffic", "addCart", "(ZIIZI)Z"⟩ ∈ tbg := tm 498 (by decide +kernel) (by decide +kernel)
set_option maxRecDepth 100000 in
theorem wc_yX6_addCart : Cond.code ⟨"WhoBacks$Traffic", "addCart", "(ZIIZI)Z"⟩ prog_8_method_3_code 7 (Option.some Jvm.ClassFile.FieldType.boolean) ∈ tbg := tm 499 rfl (by decide +kernel)
theorem L_X3_111 : LVt RX3 111 RX6 yX6_addCart cX6_addCart 7 (some .boolean) 5 := mkLVt (tm 496 (by decide +kernel) (by decide +kernel)) wm_yX6_addCart wx_yX6_addCart wi_RX6 wc_yX6_addCart ⟨rfl, by decide +kernel, by decide +kernel, by decide +kernel⟩
theorem wm_yX0_beginAnew : Cond.instanceMethod ⟨"WhoBacks$Cart", "beginAnew", "()V"⟩ ∈ tbg := tm 501 (by decide +kernel) (by decide +kernel)
theorem wx_yX0_beginAnew : Cond.selects "WhoBacks$Cart" ⟨"WhoBacks$Cart", "beginAnew", "()V"⟩ ⟨"WhoBacks$Cart", "beginAnew", "()V"⟩ ∈ tbg := tm 502 (by decide +kernel) (by decide +kernel)
set_option maxRecDepth 100000 in
theorem wc_yX0_beginAnew : Cond.code ⟨"WhoBacks$Cart", "beginAnew", "()V"⟩ prog_2_method_3_code 1 (Option.none : Option Jvm.ClassFile.FieldType) ∈ tbg := tm 503 rfl (by decide +kernel)
theorem L_X6_64 : LVt RX6 64 RX0 yX0_beginAnew cX0_beginAnew 1 none 0 := mkLVt (tm 500 (by decide +kernel) (by decide +kernel)) wm_yX0_beginAnew wx_yX0_beginAnew wi_RX0 wc_yX0_beginAnew ⟨rfl, by decide +kernel, by decide +kernel, by decide +kernel⟩
theorem wm_yX7_piece : Cond.instanceMethod ⟨"WhoBacks", "piece", "(II)I"⟩ ∈ tbg := tm 505 (by decide +kernel) (by decide +kernel)
theorem wx_yX7_piece : Cond.selects "WhoBacks" ⟨"WhoBacks", "piece", "(II)I"⟩ ⟨"WhoBacks", "piece", "(II)I"⟩ ∈ tbg := tm 506 (by decide +kernel) (by decide +kernel)
set_option maxRecDepth 100000 in
theorem wc_yX7_piece : Cond.code ⟨"WhoBacks", "piece", "(II)I"⟩ prog_1_method_3_code 4 (Option.some Jvm.ClassFile.FieldType.int) ∈ tbg := tm 507 rfl (by decide +kernel)
theorem L_L_26 : LVt RL 26 RX7 yX7_piece cX7_piece 4 (some .int) 2 := mkLVt (tm 504 (by decide +kernel) (by decide +kernel)) wm_yX7_piece wx_yX7_piece wi_RX7 wc_yX7_piece ⟨rfl, by decide +kernel, by decide +kernel, by decide +kernel⟩
theorem wm_yX7_room : Cond.instanceMethod ⟨"WhoBacks", "room", "(I)I"⟩ ∈ tbg := tm 509 (by decide +kernel) (by decide +kernel)
theorem wx_yX7_room : Cond.selects "WhoBacks" ⟨"WhoBacks", "room", "(I)I"⟩ ⟨"WhoBacks", "room", "(I)I"⟩ ∈ tbg := tm 510 (by decide +kernel) (by decide +kernel)
set_option maxRecDepth 100000 in
theorem wc_yX7_room : Cond.code ⟨"WhoBacks", "room", "(I)I"⟩ prog_1_method_4_code 3 (Option.some Jvm.ClassFile.FieldType.int) ∈ tbg := tm 511 rfl (by decide +kernel)
theorem L_L_31 : LVt RL 31 RX7 yX7_room cX7_room 3 (some .int) 1 := mkLVt (tm 508 (by decide +kernel) (by decide +kernel)) wm_yX7_room wx_yX7_room wi_RX7 wc_yX7_room ⟨rfl, by decide +kernel, by decide +kernel, by decide +kernel⟩
theorem L_X7_92 : LVt RX7 92 RX4 yX4_isBetween cX4_isBetween 2 (some .boolean) 1 := mkLVt (tm 512 (by decide +kernel) (by decide +kernel)) wm_yX4_isBetween wx_yX4_isBetween wi_RX4 wc_yX4_isBetween ⟨rfl, by decide +kernel, by decide +kernel, by decide +kernel⟩
theorem wm_yX7_cart : Cond.instanceMethod ⟨"WhoBacks", "cart", "(II)I"⟩ ∈ tbg := tm 514 (by decide +kernel) (by decide +kernel)
theorem wx_yX7_cart : Cond.selects "WhoBacks" ⟨"WhoBacks", "cart", "(II)I"⟩ ⟨"WhoBacks", "cart", "(II)I"⟩ ∈ tbg := tm 515 (by decide +kernel) (by decide +kernel)
set_option maxRecDepth 100000 in
theorem wc_yX7_cart : Cond.code ⟨"WhoBacks", "cart", "(II)I"⟩ prog_1_method_5_code 4 (Option.some Jvm.ClassFile.FieldType.int) ∈ tbg := tm 516 rfl (by decide +kernel)
theorem L_L_35 : LVt RL 35 RX7 yX7_cart cX7_cart 4 (some .int) 2 := mkLVt (tm 513 (by decide +kernel) (by decide +kernel)) wm_yX7_cart wx_yX7_cart wi_RX7 wc_yX7_cart ⟨rfl, by decide +kernel, by decide +kernel, by decide +kernel⟩
theorem wm_yX6_cartAt : Cond.instanceMethod ⟨"WhoBacks$Traffic", "cartAt", "(I)LWhoBacks$Cart;"⟩ ∈ tbg := tm 518 (by decide +kernel) (by decide +kernel)
theorem wx_yX6_cartAt : Cond.selects "WhoBacks$Traffic" ⟨"WhoBacks$Traffic", "cartAt", "(I)LWhoBacks$Cart;"⟩ ⟨"WhoBacks$Traffic", "cartAt", "(I)LWhoBacks$Cart;"⟩ ∈ tbg := tm 519 (by decide +kernel) (by decide +kernel)
set_option maxRecDepth 100000 in
theorem wc_yX6_cartAt : Cond.code ⟨"WhoBacks$Traffic", "cartAt", "(I)LWhoBacks$Cart;"⟩ prog_8_method_4_code 2 (Option.some (Jvm.ClassFile.FieldType.object "WhoBacks$Cart")) ∈ tbg := tm 520 rfl (by decide +kernel)
theorem L_X7_99 : LVt RX7 99 RX6 yX6_cartAt cX6_cartAt 2 (some (.object "WhoBacks$Cart")) 1 := mkLVt (tm 517 (by decide +kernel) (by decide +kernel)) wm_yX6_cartAt wx_yX6_cartAt wi_RX6 wc_yX6_cartAt ⟨rfl, by decide +kernel, by decide +kernel, by decide +kernel⟩
theorem wm_yX7_backs : Cond.instanceMethod ⟨"WhoBacks", "backs", "(II)I"⟩ ∈ tbg := tm 522 (by decide +kernel) (by decide +kernel)
theorem wx_yX7_backs : Cond.selects "WhoBacks" ⟨"WhoBacks", "backs", "(II)I"⟩ ⟨"WhoBacks", "backs", "(II)I"⟩ ∈ tbg := tm 523 (by decide +kernel) (by decide +kernel)
set_option maxRecDepth 100000 in
theorem wc_yX7_backs : Cond.code ⟨"WhoBacks", "backs", "(II)I"⟩ prog_1_method_6_code 5 (Option.some Jvm.ClassFile.FieldType.int) ∈ tbg := tm 524 rfl (by decide +kernel)
theorem L_L_39 : LVt RL 39 RX7 yX7_backs cX7_backs 5 (some .int) 2 := mkLVt (tm 521 (by decide +kernel) (by decide +kernel)) wm_yX7_backs wx_yX7_backs wi_RX7 wc_yX7_backs ⟨rfl, by decide +kernel, by decide +kernel, by decide +kernel⟩
theorem wm_yX7_village : Cond.instanceMethod ⟨"WhoBacks", "village", "(II)I"⟩ ∈ tbg := tm 526 (by decide +kernel) (by decide +kernel)
theorem wx_yX7_village : Cond.selects "WhoBacks" ⟨"WhoBacks", "village", "(II)I"⟩ ⟨"WhoBacks", "village", "(II)I"⟩ ∈ tbg := tm 527 (by decide +kernel) (by decide +kernel)
set_option maxRecDepth 100000 in
theorem wc_yX7_village : Cond.code ⟨"WhoBacks", "village", "(II)I"⟩ prog_1_method_7_code 3 (Option.some Jvm.ClassFile.FieldType.int) ∈ tbg := tm 528 rfl (by decide +kernel)
theorem L_L_43 : LVt RL 43 RX7 yX7_village cX7_village 3 (some .int) 2 := mkLVt (tm 525 (by decide +kernel) (by decide +kernel)) wm_yX7_village wx_yX7_village wi_RX7 wc_yX7_village ⟨rfl, by decide +kernel, by decide +kernel, by decide +kernel⟩
theorem wm_yX7_rule : Cond.instanceMethod ⟨"WhoBacks", "rule", "(II)I"⟩ ∈ tbg := tm 530 (by decide +kernel) (by decide +kernel)
theorem wx_yX7_rule : Cond.selects "WhoBacks" ⟨"WhoBacks", "rule", "(II)I"⟩ ⟨"WhoBacks", "rule", "(II)I"⟩ ∈ tbg := tm 531 (by decide +kernel) (by decide +kernel)
set_option maxRecDepth 100000 in
theorem wc_yX7_rule : Cond.code ⟨"WhoBacks", "rule", "(II)I"⟩ prog_1_method_8_code 4 (Option.some Jvm.ClassFile.FieldType.int) ∈ tbg := tm 532 rfl (by decide +kernel)
theorem L_L_47 : LVt RL 47 RX7 yX7_rule cX7_rule 4 (some .int) 2 := mkLVt (tm 529 (by decide +kernel) (by decide +kernel)) wm_yX7_rule wx_yX7_rule wi_RX7 wc_yX7_rule ⟨rfl, by decide +kernel, by decide +kernel, by decide +kernel⟩
theorem L_X7_131 : LVt RX7 131 RX4 yX4_tellRule cX4_tellRule 4 (some .boolean) 3 := mkLVt (tm 533 (by decide +kernel) (by decide +kernel)) wm_yX4_tellRule wx_yX4_tellRule wi_RX4 wc_yX4_tellRule ⟨rfl, by decide +kernel, by decide +kernel, by decide +kernel⟩
theorem wm_yX7_go : Cond.instanceMethod ⟨"WhoBacks", "go", "(I)I"⟩ ∈ tbg := tm 535 (by decide +kernel) (by decide +kernel)
theorem wx_yX7_go : Cond.selects "WhoBacks" ⟨"WhoBacks", "go", "(I)I"⟩ ⟨"WhoBacks", "go", "(I)I"⟩ ∈ tbg := tm 536 (by decide +kernel) (by decide +kernel)
set_option maxRecDepth 100000 in
theorem wc_yX7_go : Cond.code ⟨"WhoBacks", "go", "(I)I"⟩ prog_1_method_9_code 3 (Option.some Jvm.ClassFile.FieldType.int) ∈ tbg := tm 537 rfl (by decide +kernel)
theorem L_L_51 : LVt RL 51 RX7 yX7_go cX7_go 3 (some .int) 1 := mkLVt (tm 534 (by decide +kernel) (by decide +kernel)) wm_yX7_go wx_yX7_go wi_RX7 wc_yX7_go ⟨rfl, by decide +kernel, by decide +kernel, by decide +kernel⟩
theorem wm_yX7_cannotRun : Cond.instanceMethod ⟨"WhoBacks", "cannotRun", "()Z"⟩ ∈ tbg := tm 540 (by decide +kernel) (by decide +kernel)
theorem wx_yX7_cannotRun : Cond.selects "WhoBacks" ⟨"WhoBacks", "cannotRun", "()Z"⟩ ⟨"WhoBacks", "cannotRun", "()Z"⟩ ∈ tbg := tm 12 (by decide +kernel) (by decide +kernel)
set_option maxRecDepth 100000 in
theorem wc_yX7_cannotRun : Cond.code ⟨"WhoBacks", "cannotRun", "()Z"⟩ prog_1_method_40_code 1 (Option.some Jvm.ClassFile.FieldType.boolean) ∈ tbg := tm 541 rfl (by decide +kernel)
theorem L_X7_135 : LVt RX7 135 RX7 yX7_cannotRun cX7_cannotRun 1 (some .boolean) 0 := mkLVt (tm 538 (by decide +kernel) (by decide +kernel)) wm_yX7_cannotRun wx_yX7_cannotRun wi_RX7 wc_yX7_cannotRun ⟨rfl, by decide +kernel, by decide +kernel, by decide +kernel⟩
theorem wm_yX6_isEnded : Cond.instanceMethod ⟨"WhoBacks$Traffic", "isEnded", "()Z"⟩ ∈ tbg := tm 543 (by decide +kernel) (by decide +kernel)
theorem wx_yX6_isEnded : Cond.selects "WhoBacks$Traffic" ⟨"WhoBacks$Traffic", "isEnded", "()Z"⟩ ⟨"WhoBacks$Traffic", "isEnded", "()Z"⟩ ∈ tbg := tm 544 (by decide +kernel) (by decide +kernel)
set_option maxRecDepth 100000 in
theorem wc_yX6_isEnded : Cond.code ⟨"WhoBacks$Traffic", "isEnded", "()Z"⟩ prog_8_method_12_code 1 (Option.some Jvm.ClassFile.FieldType.boolean) ∈ tbg := tm 545 rfl (by decide +kernel)
theorem L_X7_138 : LVt RX7 138 RX6 yX6_isEnded cX6_isEnded 1 (some .boolean) 0 := mkLVt (tm 542 (by decide +kernel) (by decide +kernel)) wm_yX6_isEnded wx_yX6_isEnded wi_RX6 wc_yX6_isEnded ⟨rfl, by decide +kernel, by decide +kernel, by decide +kernel⟩
theorem wm_yX6_howMany : Cond.instanceMethod ⟨"WhoBacks$Traffic", "howMany", "(I)I"⟩ ∈ tbg := tm 547 (by decide +kernel) (by decide +kernel)
theorem wx_yX6_howMany : Cond.selects "WhoBacks$Traffic" ⟨"WhoBacks$Traffic", "howMany", "(I)I"⟩ ⟨"WhoBacks$Traffic", "howMany", "(I)I"⟩ ∈ tbg := tm 548 (by decide +kernel) (by decide +kernel)
set_option maxRecDepth 100000 in
theorem wc_yX6_howMany : Cond.code ⟨"WhoBacks$Traffic", "howMany", "(I)I"⟩ prog_8_method_7_code 4 (Option.some Jvm.ClassFile.FieldType.int) ∈ tbg := tm 549 rfl (by decide +kernel)
theorem L_X6_92 : LVt RX6 92 RX6 yX6_howMany cX6_howMany 4 (some .int) 1 := mkLVt (tm 546 (by decide +kernel) (by decide +kernel)) wm_yX6_howMany wx_yX6_howMany wi_RX6 wc_yX6_howMany ⟨rfl, by decide +kernel, by decide +kernel, by decide +kernel⟩
theorem wm_yX6_stands : Cond.instanceMethod ⟨"WhoBacks$Traffic", "stands", "()Z"⟩ ∈ tbg := tm 551 (by decide +kernel) (by decide +kernel)
theorem wx_yX6_stands : Cond.selects "WhoBacks$Traffic" ⟨"WhoBacks$Traffic", "stands", "()Z"⟩ ⟨"WhoBacks$Traffic", "stands", "()Z"⟩ ∈ tbg := tm 552 (by decide +kernel) (by decide +kernel)
set_option maxRecDepth 100000 in
theorem wc_yX6_stands : Cond.code ⟨"WhoBacks$Traffic", "stands", "()Z"⟩ prog_8_method_11_code 1 (Option.some Jvm.ClassFile.FieldType.boolean) ∈ tbg := tm 553 rfl (by decide +kernel)
theorem L_X6_96 : LVt RX6 96 RX6 yX6_stands cX6_stands 1 (some .boolean) 0 := mkLVt (tm 550 (by decide +kernel) (by decide +kernel)) wm_yX6_stands wx_yX6_stands wi_RX6 wc_yX6_stands ⟨rfl, by decide +kernel, by decide +kernel, by decide +kernel⟩
theorem wm_yX6_passMinute : Cond.instanceMethod ⟨"WhoBacks$Traffic", "passMinute", "()V"⟩ ∈ tbg := tm 555 (by decide +kernel) (by decide +kernel)
theorem wx_yX6_passMinute : Cond.selects "WhoBacks$Traffic" ⟨"WhoBacks$Traffic", "passMinute", "()V"⟩ ⟨"WhoBacks$Traffic", "passMinute", "()V"⟩ ∈ tbg := tm 556 (by decide +kernel) (by decide +kernel)
set_option maxRecDepth 100000 in
theorem wc_yX6_passMinute : Cond.code ⟨"WhoBacks$Traffic", "passMinute", "()V"⟩ prog_8_method_14_code 3 (Option.none : Option Jvm.ClassFile.FieldType) ∈ tbg := tm 557 rfl (by decide +kernel)
theorem L_X7_141 : LVt RX7 141 RX6 yX6_passMinute cX6_passMinute 3 none 0 := mkLVt (tm 554 (by decide +kernel) (by decide +kernel)) wm_yX6_passMinute wx_yX6_passMinute wi_RX6 wc_yX6_passMinute ⟨rfl, by decide +kernel, by decide +kernel, by decide +kernel⟩
theorem wm_yX6_comeOn : Cond.instanceMethod ⟨"WhoBacks$Traffic", "comeOn", "(LWhoBacks$Cart;)V"⟩ ∈ tbg := tm 560 (by decide +kernel) (by decide +kernel)
theorem wx_yX6_comeOn : Cond.selects "WhoBacks$Traffic" ⟨"WhoBacks$Traffic", "comeOn", "(LWhoBacks$Cart;)V"⟩ ⟨"WhoBacks$Traffic", "comeOn", "(LWhoBacks$Cart;)V"⟩ ∈ tbg := tm 13 (by decide +kernel) (by decide +kernel)
set_option maxRecDepth 100000 in
theorem wc_yX6_comeOn : Cond.code ⟨"WhoBacks$Traffic", "comeOn", "(LWhoBacks$Cart;)V"⟩ prog_8_method_15_code 3 (Option.none : Option Jvm.ClassFile.FieldType) ∈ tbg := tm 561 rfl (by decide +kernel)
theorem L_X6_113 : LVt RX6 113 RX6 yX6_comeOn cX6_comeOn 3 none 1 := mkLVt (tm 558 (by decide +kernel) (by decide +kernel)) wm_yX6_comeOn wx_yX6_comeOn wi_RX6 wc_yX6_comeOn ⟨rfl, by decide +kernel, by decide +kernel, by decide +kernel⟩
theorem wm_yX6_ownEnd : Cond.instanceMethod ⟨"WhoBacks$Traffic", "ownEnd", "(LWhoBacks$Cart;)I"⟩ ∈ tbg := tm 564 (by decide +kernel) (by decide +kernel)
theorem wx_yX6_ownEnd : Cond.selects "WhoBacks$Traffic" ⟨"WhoBacks$Traffic", "ownEnd", "(LWhoBacks$Cart;)I"⟩ ⟨"WhoBacks$Traffic", "ownEnd", "(LWhoBacks$Cart;)I"⟩ ∈ tbg := tm 14 (by decide +kernel) (by decide +kernel)
set_option maxRecDepth 100000 in
theorem wc_yX6_ownEnd : Cond.code ⟨"WhoBacks$Traffic", "ownEnd", "(LWhoBacks$Cart;)I"⟩ prog_8_method_16_code 2 (Option.some Jvm.ClassFile.FieldType.int) ∈ tbg := tm 565 rfl (by decide +kernel)
theorem L_X6_129 : LVt RX6 129 RX6 yX6_ownEnd cX6_ownEnd 2 (some .int) 1 := mkLVt (tm 562 (by decide +kernel) (by decide +kernel)) wm_yX6_ownEnd wx_yX6_ownEnd wi_RX6 wc_yX6_ownEnd ⟨rfl, by decide +kernel, by decide +kernel, by decide +kernel⟩
theorem wm_yX4_isSpot : Cond.instanceMethod ⟨"WhoBacks$Road", "isSpot", "(I)Z"⟩ ∈ tbg := tm 567 (by decide +kernel) (by decide +kernel)
theorem wx_yX4_isSpot : Cond.selects "WhoBacks$Road" ⟨"WhoBacks$Road", "isSpot", "(I)Z"⟩ ⟨"WhoBacks$Road", "isSpot", "(I)Z"⟩ ∈ tbg := tm 568 (by decide +kernel) (by decide +kernel)
set_option maxRecDepth 100000 in
theorem wc_yX4_isSpot : Cond.code ⟨"WhoBacks$Road", "isSpot", "(I)Z"⟩ prog_6_method_9_code 2 (Option.some Jvm.ClassFile.FieldType.boolean) ∈ tbg := tm 569 rfl (by decide +kernel)
theorem L_X6_133 : LVt RX6 133 RX4 yX4_isSpot cX4_isSpot 2 (some .boolean) 1 := mkLVt (tm 566 (by decide +kernel) (by decide +kernel)) wm_yX4_isSpot wx_yX4_isSpot wi_RX4 wc_yX4_isSpot ⟨rfl, by decide +kernel, by decide +kernel, by decide +kernel⟩
theorem wm_yX6_backUp : Cond.instanceMethod ⟨"WhoBacks$Traffic", "backUp", "(LWhoBacks$Cart;)V"⟩ ∈ tbg := tm 572 (by decide +kernel) (by decide +kernel)
theorem wx_yX6_backUp : Cond.selects "WhoBacks$Traffic" ⟨"WhoBacks$Traffic", "backUp", "(LWhoBacks$Cart;)V"⟩ ⟨"WhoBacks$Traffic", "backUp", "(LWhoBacks$Cart;)V"⟩ ∈ tbg := tm 15 (by decide +kernel) (by decide +kernel)
set_option maxRecDepth 100000 in
theorem wc_yX6_backUp : Cond.code ⟨"WhoBacks$Traffic", "backUp", "(LWhoBacks$Cart;)V"⟩ prog_8_method_18_code 3 (Option.none : Option Jvm.ClassFile.FieldType) ∈ tbg := tm 573 rfl (by decide +kernel)
theorem L_X6_122 : LVt RX6 122 RX6 yX6_backUp cX6_backUp 3 none 1 := mkLVt (tm 570 (by decide +kernel) (by decide +kernel)) wm_yX6_backUp wx_yX6_backUp wi_RX6 wc_yX6_backUp ⟨rfl, by decide +kernel, by decide +kernel, by decide +kernel⟩
theorem wm_yX4_placeOf : Cond.instanceMethod ⟨"WhoBacks$Road", "placeOf", "(I)I"⟩ ∈ tbg := tm 575 (by decide +kernel) (by decide +kernel)
theorem wx_yX4_placeOf : Cond.selects "WhoBacks$Road" ⟨"WhoBacks$Road", "placeOf", "(I)I"⟩ ⟨"WhoBacks$Road", "placeOf", "(I)I"⟩ ∈ tbg := tm 576 (by decide +kernel) (by decide +kernel)
set_option maxRecDepth 100000 in
theorem wc_yX4_placeOf : Cond.code ⟨"WhoBacks$Road", "placeOf", "(I)I"⟩ prog_6_method_10_code 2 (Option.some Jvm.ClassFile.FieldType.int) ∈ tbg := tm 577 rfl (by decide +kernel)
theorem L_X6_143 : LVt RX6 143 RX4 yX4_placeOf cX4_placeOf 2 (some .int) 1 := mkLVt (tm 574 (by decide +kernel) (by decide +kernel)) wm_yX4_placeOf wx_yX4_placeOf wi_RX4 wc_yX4_placeOf ⟨rfl, by decide +kernel, by decide +kernel, by decide +kernel⟩
theorem L_X4_68 : LVt RX4 68 RX4 yX4_isSpot cX4_isSpot 2 (some .boolean) 1 := mkLVt (tm 578 (by decide +kernel) (by decide +kernel)) wm_yX4_isSpot wx_yX4_isSpot wi_RX4 wc_yX4_isSpot ⟨rfl, by decide +kernel, by decide +kernel, by decide +kernel⟩
theorem wm_yX0_spotBehind : Cond.instanceMethod ⟨"WhoBacks$Cart", "spotBehind", "()I"⟩ ∈ tbg := tm 580 (by decide +kernel) (by decide +kernel)
theorem wx_yX0_spotBehind : Cond.selects "WhoBacks$Cart" ⟨"WhoBacks$Cart", "spotBehind", "()I"⟩ ⟨"WhoBacks$Cart", "spotBehind", "()I"⟩ ∈ tbg := tm 581 (by decide +kernel) (by decide +kernel)
set_option maxRecDepth 100000 in
theorem wc_yX0_spotBehind : Cond.code ⟨"WhoBacks$Cart", "spotBehind", "()I"⟩ prog_2_method_6_code 1 (Option.some Jvm.ClassFile.FieldType.int) ∈ tbg := tm 582 rfl (by decide +kernel)
theorem L_X6_146 : LVt RX6 146 RX0 yX0_spotBehind cX0_spotBehind 1 (some .int) 0 := mkLVt (tm 579 (by decide +kernel) (by decide +kernel)) wm_yX0_spotBehind wx_yX0_spotBehind wi_RX0 wc_yX0_spotBehind ⟨rfl, by decide +kernel, by decide +kernel, by decide +kernel⟩
theorem wm_yX6_hasRoom : Cond.instanceMethod ⟨"WhoBacks$Traffic", "hasRoom", "(I)Z"⟩ ∈ tbg := tm 585 (by decide +kernel) (by decide +kernel)
theorem wx_yX6_hasRoom : Cond.selects "WhoBacks$Traffic" ⟨"WhoBacks$Traffic", "hasRoom", "(I)Z"⟩ ⟨"WhoBacks$Traffic", "hasRoom", "(I)Z"⟩ ∈ tbg := tm 16 (by decide +kernel) (by decide +kernel)
set_option maxRecDepth 100000 in
theorem wc_yX6_hasRoom : Cond.code ⟨"WhoBacks$Traffic", "hasRoom", "(I)Z"⟩ prog_8_method_21_code 3 (Option.some Jvm.ClassFile.FieldType.boolean) ∈ tbg := tm 586 rfl (by decide +kernel)
theorem L_X6_149 : LVt RX6 149 RX6 yX6_hasRoom cX6_hasRoom 3 (some .boolean) 1 := mkLVt (tm 583 (by decide +kernel) (by decide +kernel)) wm_yX6_hasRoom wx_yX6_hasRoom wi_RX6 wc_yX6_hasRoom ⟨rfl, by decide +kernel, by decide +kernel, by decide +kernel⟩
theorem L_X6_188 : LVt RX6 188 RX4 yX4_isBetween cX4_isBetween 2 (some .boolean) 1 := mkLVt (tm 587 (by decide +kernel) (by decide +kernel)) wm_yX4_isBetween wx_yX4_isBetween wi_RX4 wc_yX4_isBetween ⟨rfl, by decide +kernel, by decide +kernel, by decide +kernel⟩
theorem wm_yX6_step : Cond.instanceMethod ⟨"WhoBacks$Traffic", "step", "(LWhoBacks$Cart;I)V"⟩ ∈ tbg := tm 590 (by decide +kernel) (by decide +kernel)
theorem wx_yX6_step : Cond.selects "WhoBacks$Traffic" ⟨"WhoBacks$Traffic", "step", "(LWhoBacks$Cart;I)V"⟩ ⟨"WhoBacks$Traffic", "step", "(LWhoBacks$Cart;I)V"⟩ ∈ tbg := tm 17 (by decide +kernel) (by decide +kernel)
set_option maxRecDepth 100000 in
theorem wc_yX6_step : Cond.code ⟨"WhoBacks$Traffic", "step", "(LWhoBacks$Cart;I)V"⟩ prog_8_method_22_code 3 (Option.none : Option Jvm.ClassFile.FieldType) ∈ tbg := tm 591 rfl (by decide +kernel)
theorem L_X6_152 : LVt RX6 152 RX6 yX6_step cX6_step 3 none 2 := mkLVt (tm 588 (by decide +kernel) (by decide +kernel)) wm_yX6_step wx_yX6_step wi_RX6 wc_yX6_step ⟨rfl, by decide +kernel, by decide +kernel, by decide +kernel⟩
theorem wm_yX6_letOneBehindBack : Cond.instanceMethod ⟨"WhoBacks$Traffic", "letOneBehindBack", "(LWhoBacks$Cart;I)V"⟩ ∈ tbg := tm 594 (by decide +kernel) (by decide +kernel)
theorem wx_yX6_letOneBehindBack : Cond.selects "WhoBacks$Traffic" ⟨"WhoBacks$Traffic", "letOneBehindBack", "(LWhoBacks$Cart;I)V"⟩ ⟨"WhoBacks$Traffic", "letOneBehindBack", "(LWhoBacks$Cart;I)V"⟩ ∈ tbg := tm 18 (by decide +kernel) (by decide +kernel)
set_option maxRecDepth 100000 in
theorem wc_yX6_letOneBehindBack : Cond.code ⟨"WhoBacks$Traffic", "letOneBehindBack", "(LWhoBacks$Cart;I)V"⟩ prog_8_method_19_code 5 (Option.none : Option Jvm.ClassFile.FieldType) ∈ tbg := tm 595 rfl (by decide +kernel)
theorem L_X6_156 : LVt RX6 156 RX6 yX6_letOneBehindBack cX6_letOneBehindBack 5 none 2 := mkLVt (tm 592 (by decide +kernel) (by decide +kernel)) wm_yX6_letOneBehindBack wx_yX6_letOneBehindBack wi_RX6 wc_yX6_letOneBehindBack ⟨rfl, by decide +kernel, by decide +kernel, by decide +kernel⟩
theorem wm_yX0_beginBacking : Cond.instanceMethod ⟨"WhoBacks$Cart", "beginBacking", "()V"⟩ ∈ tbg := tm 597 (by decide +kernel) (by decide +kernel)
theorem wx_yX0_beginBacking : Cond.selects "WhoBacks$Cart" ⟨"WhoBacks$Cart", "beginBacking", "()V"⟩ ⟨"WhoBacks$Cart", "beginBacking", "()V"⟩ ∈ tbg := tm 598 (by decide +kernel) (by decide +kernel)
set_option maxRecDepth 100000 in
theorem wc_yX0_beginBacking : Cond.code ⟨"WhoBacks$Cart", "beginBacking", "()V"⟩ prog_2_method_4_code 1 (Option.none : Option Jvm.ClassFile.FieldType) ∈ tbg := tm 599 rfl (by decide +kernel)
theorem L_X6_159 : LVt RX6 159 RX0 yX0_beginBacking cX0_beginBacking 1 none 0 := mkLVt (tm 596 (by decide +kernel) (by decide +kernel)) wm_yX0_beginBacking wx_yX0_beginBacking wi_RX0 wc_yX0_beginBacking ⟨rfl, by decide +kernel, by decide +kernel, by decide +kernel⟩
theorem wm_yX6_goOn : Cond.instanceMethod ⟨"WhoBacks$Traffic", "goOn", "(ILWhoBacks$Cart;)V"⟩ ∈ tbg := tm 602 (by decide +kernel) (by decide +kernel)
theorem wx_yX6_goOn : Cond.selects "WhoBacks$Traffic" ⟨"WhoBacks$Traffic", "goOn", "(ILWhoBacks$Cart;)V"⟩ ⟨"WhoBacks$Traffic", "goOn", "(ILWhoBacks$Cart;)V"⟩ ∈ tbg := tm 19 (by decide +kernel) (by decide +kernel)
set_option maxRecDepth 100000 in
theorem wc_yX6_goOn : Cond.code ⟨"WhoBacks$Traffic", "goOn", "(ILWhoBacks$Cart;)V"⟩ prog_8_method_20_code 6 (Option.none : Option Jvm.ClassFile.FieldType) ∈ tbg := tm 603 rfl (by decide +kernel)
theorem L_X6_125 : LVt RX6 125 RX6 yX6_goOn cX6_goOn 6 none 2 := mkLVt (tm 600 (by decide +kernel) (by decide +kernel)) wm_yX6_goOn wx_yX6_goOn wi_RX6 wc_yX6_goOn ⟨rfl, by decide +kernel, by decide +kernel, by decide +kernel⟩
theorem wm_yX6_letsIn : Cond.instanceMethod ⟨"WhoBacks$Traffic", "letsIn", "(LWhoBacks$Cart;)Z"⟩ ∈ tbg := tm 605 (by decide +kernel) (by decide +kernel)
theorem wx_yX6_letsIn : Cond.selects "WhoBacks$Traffic" ⟨"WhoBacks$Traffic", "letsIn", "(LWhoBacks$Cart;)Z"⟩ ⟨"WhoBacks$Traffic", "letsIn", "(LWhoBacks$Cart;)Z"⟩ ∈ tbg := tm 606 (by decide +kernel) (by decide +kernel)
set_option maxRecDepth 100000 in
theorem wc_yX6_letsIn : Cond.code ⟨"WhoBacks$Traffic", "letsIn", "(LWhoBacks$Cart;)Z"⟩ prog_8_method_24_code 5 (Option.some Jvm.ClassFile.FieldType.boolean) ∈ tbg := tm 607 rfl (by decide +kernel)
theorem L_X6_162 : LVt RX6 162 RX6 yX6_letsIn cX6_letsIn 5 (some .boolean) 1 := mkLVt (tm 604 (by decide +kernel) (by decide +kernel)) wm_yX6_letsIn wx_yX6_letsIn wi_RX6 wc_yX6_letsIn ⟨rfl, by decide +kernel, by decide +kernel, by decide +kernel⟩
theorem wm_yX6_pieceAhead : Cond.instanceMethod ⟨"WhoBacks$Traffic", "pieceAhead", "(LWhoBacks$Cart;)I"⟩ ∈ tbg := tm 609 (by decide +kernel) (by decide +kernel)
theorem wx_yX6_pieceAhead : Cond.selects "WhoBacks$Traffic" ⟨"WhoBacks$Traffic", "pieceAhead", "(LWhoBacks$Cart;)I"⟩ ⟨"WhoBacks$Traffic", "pieceAhead", "(LWhoBacks$Cart;)I"⟩ ∈ tbg := tm 610 (by decide +kernel) (by decide +kernel)
set_option maxRecDepth 100000 in
theorem wc_yX6_pieceAhead : Cond.code ⟨"WhoBacks$Traffic", "pieceAhead", "(LWhoBacks$Cart;)I"⟩ prog_8_method_23_code 3 (Option.some Jvm.ClassFile.FieldType.int) ∈ tbg := tm 611 rfl (by decide +kernel)
theorem L_X6_173 : LVt RX6 173 RX6 yX6_pieceAhead cX6_pieceAhead 3 (some .int) 1 := mkLVt (tm 608 (by decide +kernel) (by decide +kernel)) wm_yX6_pieceAhead wx_yX6_pieceAhead wi_RX6 wc_yX6_pieceAhead ⟨rfl, by decide +kernel, by decide +kernel, by decide +kernel⟩
theorem wm_yX4_villageBy : Cond.instanceMethod ⟨"WhoBacks$Road", "villageBy", "(I)I"⟩ ∈ tbg := tm 613 (by decide +kernel) (by decide +kernel)
theorem wx_yX4_villageBy : Cond.selects "WhoBacks$Road" ⟨"WhoBacks$Road", "villageBy", "(I)I"⟩ ⟨"WhoBacks$Road", "villageBy", "(I)I"⟩ ∈ tbg := tm 614 (by decide +kernel) (by decide +kernel)
set_option maxRecDepth 100000 in
theorem wc_yX4_villageBy : Cond.code ⟨"WhoBacks$Road", "villageBy", "(I)I"⟩ prog_6_method_12_code 2 (Option.some Jvm.ClassFile.FieldType.int) ∈ tbg := tm 615 rfl (by decide +kernel)
theorem L_X6_197 : LVt RX6 197 RX4 yX4_villageBy cX4_villageBy 2 (some .int) 1 := mkLVt (tm 612 (by decide +kernel) (by decide +kernel)) wm_yX4_villageBy wx_yX4_villageBy wi_RX4 wc_yX4_villageBy ⟨rfl, by decide +kernel, by decide +kernel, by decide +kernel⟩
theorem wm_yX6_isHourOf : Cond.instanceMethod ⟨"WhoBacks$Traffic", "isHourOf", "(LWhoBacks$Cart;I)Z"⟩ ∈ tbg := tm 618 (by decide +kernel) (by decide +kernel)
theorem wx_yX6_isHourOf : Cond.selects "WhoBacks$Traffic" ⟨"WhoBacks$Traffic", "isHourOf", "(LWhoBacks$Cart;I)Z"⟩ ⟨"WhoBacks$Traffic", "isHourOf", "(LWhoBacks$Cart;I)Z"⟩ ∈ tbg := tm 20 (by decide +kernel) (by decide +kernel)
set_option maxRecDepth 100000 in
theorem wc_yX6_isHourOf : Cond.code ⟨"WhoBacks$Traffic", "isHourOf", "(LWhoBacks$Cart;I)Z"⟩ prog_8_method_25_code 4 (Option.some Jvm.ClassFile.FieldType.boolean) ∈ tbg := tm 619 rfl (by decide +kernel)
theorem L_X6_206 : LVt RX6 206 RX6 yX6_isHourOf cX6_isHourOf 4 (some .boolean) 2 := mkLVt (tm 616 (by decide +kernel) (by decide +kernel)) wm_yX6_isHourOf wx_yX6_isHourOf wi_RX6 wc_yX6_isHourOf ⟨rfl, by decide +kernel, by decide +kernel, by decide +kernel⟩
theorem wm_yX6_isQuiet : Cond.instanceMethod ⟨"WhoBacks$Traffic", "isQuiet", "(LWhoBacks$Cart;II)Z"⟩ ∈ tbg := tm 625 (by decide +kernel) (by decide +kernel)
theorem wx_yX6_isQuiet : Cond.selects "WhoBacks$Traffic" ⟨"WhoBacks$Traffic", "isQuiet", "(LWhoBacks$Cart;II)Z"⟩ ⟨"WhoBacks$Traffic", "isQuiet", "(LWhoBacks$Cart;II)Z"⟩ ∈ tbg := tm 21 (by decide +kernel) (by decide +kernel)
set_option maxRecDepth 100000 in
theorem wc_yX6_isQuiet : Cond.code ⟨"WhoBacks$Traffic", "isQuiet", "(LWhoBacks$Cart;II)Z"⟩ prog_8_method_26_code 8 (Option.some Jvm.ClassFile.FieldType.boolean) ∈ tbg := tm 626 rfl (by decide +kernel)
theorem L_X6_210 : LVt RX6 210 RX6 yX6_isQuiet cX6_isQuiet 8 (some .boolean) 3 := mkLVt (tm 623 (by decide +kernel) (by decide +kernel)) wm_yX6_isQuiet wx_yX6_isQuiet wi_RX6 wc_yX6_isQuiet ⟨rfl, by decide +kernel, by decide +kernel, by decide +kernel⟩
theorem wm_yX4_spotOfPlace : Cond.instanceMethod ⟨"WhoBacks$Road", "spotOfPlace", "(I)I"⟩ ∈ tbg := tm 628 (by decide +kernel) (by decide +kernel)
theorem wx_yX4_spotOfPlace : Cond.selects "WhoBacks$Road" ⟨"WhoBacks$Road", "spotOfPlace", "(I)I"⟩ ⟨"WhoBacks$Road", "spotOfPlace", "(I)I"⟩ ∈ tbg := tm 629 (by decide +kernel) (by decide +kernel)
set_option maxRecDepth 100000 in
theorem wc_yX4_spotOfPlace : Cond.code ⟨"WhoBacks$Road", "spotOfPlace", "(I)I"⟩ prog_6_method_13_code 2 (Option.some Jvm.ClassFile.FieldType.int) ∈ tbg := tm 630 rfl (by decide +kernel)
theorem L_X6_214 : LVt RX6 214 RX4 yX4_spotOfPlace cX4_spotOfPlace 2 (some .int) 1 := mkLVt (tm 627 (by decide +kernel) (by decide +kernel)) wm_yX4_spotOfPlace wx_yX4_spotOfPlace wi_RX4 wc_yX4_spotOfPlace ⟨rfl, by decide +kernel, by decide +kernel, by decide +kernel⟩
theorem wm_yX0_spotAhead : Cond.instanceMethod ⟨"WhoBacks$Cart", "spotAhead", "()I"⟩ ∈ tbg := tm 632 (by decide +kernel) (by decide +kernel)
theorem wx_yX0_spotAhead : Cond.selects "WhoBacks$Cart" ⟨"WhoBacks$Cart", "spotAhead", "()I"⟩ ⟨"WhoBacks$Cart", "spotAhead", "()I"⟩ ∈ tbg := tm 633 (by decide +kernel) (by decide +kernel)
set_option maxRecDepth 100000 in
theorem wc_yX0_spotAhead : Cond.code ⟨"WhoBacks$Cart", "spotAhead", "()I"⟩ prog_2_method_5_code 1 (Option.some Jvm.ClassFile.FieldType.int) ∈ tbg := tm 634 rfl (by decide +kernel)
theorem L_X6_166 : LVt RX6 166 RX0 yX0_spotAhead cX0_spotAhead 1 (some .int) 0 := mkLVt (tm 631 (by decide +kernel) (by decide +kernel)) wm_yX0_spotAhead wx_yX0_spotAhead wi_RX0 wc_yX0_spotAhead ⟨rfl, by decide +kernel, by decide +kernel, by decide +kernel⟩
theorem wm_yX6_meet : Cond.instanceMethod ⟨"WhoBacks$Traffic", "meet", "(ILWhoBacks$Cart;I)V"⟩ ∈ tbg := tm 637 (by decide +kernel) (by decide +kernel)
theorem wx_yX6_meet : Cond.selects "WhoBacks$Traffic" ⟨"WhoBacks$Traffic", "meet", "(ILWhoBacks$Cart;I)V"⟩ ⟨"WhoBacks$Traffic", "meet", "(ILWhoBacks$Cart;I)V"⟩ ∈ tbg := tm 22 (by decide +kernel) (by decide +kernel)
set_option maxRecDepth 100000 in
theorem wc_yX6_meet : Cond.code ⟨"WhoBacks$Traffic", "meet", "(ILWhoBacks$Cart;I)V"⟩ prog_8_method_27_code 8 (Option.none : Option Jvm.ClassFile.FieldType) ∈ tbg := tm 638 rfl (by decide +kernel)
theorem L_X6_169 : LVt RX6 169 RX6 yX6_meet cX6_meet 8 none 3 := mkLVt (tm 635 (by decide +kernel) (by decide +kernel)) wm_yX6_meet wx_yX6_meet wi_RX6 wc_yX6_meet ⟨rfl, by decide +kernel, by decide +kernel, by decide +kernel⟩
theorem wm_yX6_noteMeeting : Cond.instanceMethod ⟨"WhoBacks$Traffic", "noteMeeting", "(II)V"⟩ ∈ tbg := tm 641 (by decide +kernel) (by decide +kernel)
theorem wx_yX6_noteMeeting : Cond.selects "WhoBacks$Traffic" ⟨"WhoBacks$Traffic", "noteMeeting", "(II)V"⟩ ⟨"WhoBacks$Traffic", "noteMeeting", "(II)V"⟩ ∈ tbg := tm 23 (by decide +kernel) (by decide +kernel)
set_option maxRecDepth 100000 in
theorem wc_yX6_noteMeeting : Cond.code ⟨"WhoBacks$Traffic", "noteMeeting", "(II)V"⟩ prog_8_method_28_code 4 (Option.none : Option Jvm.ClassFile.FieldType) ∈ tbg := tm 642 rfl (by decide +kernel)
theorem L_X6_223 : LVt RX6 223 RX6 yX6_noteMeeting cX6_noteMeeting 4 none 2 := mkLVt (tm 639 (by decide +kernel) (by decide +kernel)) wm_yX6_noteMeeting wx_yX6_noteMeeting wi_RX6 wc_yX6_noteMeeting ⟨rfl, by decide +kernel, by decide +kernel, by decide +kernel⟩
theorem wm_yX4_hillOf : Cond.instanceMethod ⟨"WhoBacks$Road", "hillOf", "(I)I"⟩ ∈ tbg := tm 644 (by decide +kernel) (by decide +kernel)
theorem wx_yX4_hillOf : Cond.selects "WhoBacks$Road" ⟨"WhoBacks$Road", "hillOf", "(I)I"⟩ ⟨"WhoBacks$Road", "hillOf", "(I)I"⟩ ∈ tbg := tm 645 (by decide +kernel) (by decide +kernel)
set_option maxRecDepth 100000 in
theorem wc_yX4_hillOf : Cond.code ⟨"WhoBacks$Road", "hillOf", "(I)I"⟩ prog_6_method_11_code 2 (Option.some Jvm.ClassFile.FieldType.int) ∈ tbg := tm 646 rfl (by decide +kernel)
theorem L_X6_176 : LVt RX6 176 RX4 yX4_hillOf cX4_hillOf 2 (some .int) 1 := mkLVt (tm 643 (by decide +kernel) (by decide +kernel)) wm_yX4_hillOf wx_yX4_hillOf wi_RX4 wc_yX4_hillOf ⟨rfl, by decide +kernel, by decide +kernel, by decide +kernel⟩
theorem wm_yX6_backerOf : Cond.instanceMethod ⟨"WhoBacks$Traffic", "backerOf", "(IIII)I"⟩ ∈ tbg := tm 648 (by decide +kernel) (by decide +kernel)
theorem wx_yX6_backerOf : Cond.selects "WhoBacks$Traffic" ⟨"WhoBacks$Traffic", "backerOf", "(IIII)I"⟩ ⟨"WhoBacks$Traffic", "backerOf", "(IIII)I"⟩ ∈ tbg := tm 649 (by decide +kernel) (by decide +kernel)
set_option maxRecDepth 100000 in
theorem wc_yX6_backerOf : Cond.code ⟨"WhoBacks$Traffic", "backerOf", "(IIII)I"⟩ prog_8_method_29_code 12 (Option.some Jvm.ClassFile.FieldType.int) ∈ tbg := tm 650 rfl (by decide +kernel)
theorem L_X6_227 : LVt RX6 227 RX6 yX6_backerOf cX6_backerOf 12 (some .int) 4 := mkLVt (tm 647 (by decide +kernel) (by decide +kernel)) wm_yX6_backerOf wx_yX6_backerOf wi_RX6 wc_yX6_backerOf ⟨rfl, by decide +kernel, by decide +kernel, by decide +kernel⟩
theorem L_X6_231 : LVt RX6 231 RX6 yX6_cartAt cX6_cartAt 2 (some (.object "WhoBacks$Cart")) 1 := mkLVt (tm 651 (by decide +kernel) (by decide +kernel)) wm_yX6_cartAt wx_yX6_cartAt wi_RX6 wc_yX6_cartAt ⟨rfl, by decide +kernel, by decide +kernel, by decide +kernel⟩
theorem wm_yX6_wayBack : Cond.instanceMethod ⟨"WhoBacks$Traffic", "wayBack", "(LWhoBacks$Cart;)I"⟩ ∈ tbg := tm 654 (by decide +kernel) (by decide +kernel)
theorem wx_yX6_wayBack : Cond.selects "WhoBacks$Traffic" ⟨"WhoBacks$Traffic", "wayBack", "(LWhoBacks$Cart;)I"⟩ ⟨"WhoBacks$Traffic", "wayBack", "(LWhoBacks$Cart;)I"⟩ ∈ tbg := tm 24 (by decide +kernel) (by decide +kernel)
set_option maxRecDepth 100000 in
theorem wc_yX6_wayBack : Cond.code ⟨"WhoBacks$Traffic", "wayBack", "(LWhoBacks$Cart;)I"⟩ prog_8_method_31_code 2 (Option.some Jvm.ClassFile.FieldType.int) ∈ tbg := tm 655 rfl (by decide +kernel)
theorem L_X6_235 : LVt RX6 235 RX6 yX6_wayBack cX6_wayBack 2 (some .int) 1 := mkLVt (tm 652 (by decide +kernel) (by decide +kernel)) wm_yX6_wayBack wx_yX6_wayBack wi_RX6 wc_yX6_wayBack ⟨rfl, by decide +kernel, by decide +kernel, by decide +kernel⟩
theorem ws_yX6_preference : Cond.static ⟨"WhoBacks$Traffic", "preference", "(LWhoBacks$Cart;LWhoBacks$Cart;III)I"⟩ ∈ tbg := tm 657 (by decide +kernel) (by decide +kernel)
set_option maxRecDepth 100000 in
theorem wc_yX6_preference : Cond.code ⟨"WhoBacks$Traffic", "preference", "(LWhoBacks$Cart;LWhoBacks$Cart;III)I"⟩ prog_8_method_30_code 5 (Option.some Jvm.ClassFile.FieldType.int) ∈ tbg := tm 658 rfl (by decide +kernel)
theorem L_X6_238 : LSt RX6 238 yX6_preference cX6_preference 5 (some .int) 5 := mkLSt (tm 656 (by decide +kernel) (by decide +kernel)) ws_yX6_preference wi_RX6 wc_yX6_preference ⟨rfl, by decide +kernel, by decide +kernel, by decide +kernel⟩
theorem wm_yX0_isSlowOn : Cond.instanceMethod ⟨"WhoBacks$Cart", "isSlowOn", "(I)Z"⟩ ∈ tbg := tm 660 (by decide +kernel) (by decide +kernel)
theorem wx_yX0_isSlowOn : Cond.selects "WhoBacks$Cart" ⟨"WhoBacks$Cart", "isSlowOn", "(I)Z"⟩ ⟨"WhoBacks$Cart", "isSlowOn", "(I)Z"⟩ ∈ tbg := tm 661 (by decide +kernel) (by decide +kernel)
set_option maxRecDepth 100000 in
theorem wc_yX0_isSlowOn : Cond.code ⟨"WhoBacks$Cart", "isSlowOn", "(I)Z"⟩ prog_2_method_7_code 2 (Option.some Jvm.ClassFile.FieldType.boolean) ∈ tbg := tm 662 rfl (by decide +kernel)
theorem L_X6_179 : LVt RX6 179 RX0 yX0_isSlowOn cX0_isSlowOn 2 (some .boolean) 1 := mkLVt (tm 659 (by decide +kernel) (by decide +kernel)) wm_yX0_isSlowOn wx_yX0_isSlowOn wi_RX0 wc_yX0_isSlowOn ⟨rfl, by decide +kernel, by decide +kernel, by decide +kernel⟩
theorem wm_yX6_goal : Cond.instanceMethod ⟨"WhoBacks$Traffic", "goal", "(LWhoBacks$Cart;)I"⟩ ∈ tbg := tm 665 (by decide +kernel) (by decide +kernel)
theorem wx_yX6_goal : Cond.selects "WhoBacks$Traffic" ⟨"WhoBacks$Traffic", "goal", "(LWhoBacks$Cart;)I"⟩ ⟨"WhoBacks$Traffic", "goal", "(LWhoBacks$Cart;)I"⟩ ∈ tbg := tm 25 (by decide +kernel) (by decide +kernel)
set_option maxRecDepth 100000 in
theorem wc_yX6_goal : Cond.code ⟨"WhoBacks$Traffic", "goal", "(LWhoBacks$Cart;)I"⟩ prog_8_method_17_code 2 (Option.some Jvm.ClassFile.FieldType.int) ∈ tbg := tm 666 rfl (by decide +kernel)
theorem L_X6_182 : LVt RX6 182 RX6 yX6_goal cX6_goal 2 (some .int) 1 := mkLVt (tm 663 (by decide +kernel) (by decide +kernel)) wm_yX6_goal wx_yX6_goal wi_RX6 wc_yX6_goal ⟨rfl, by decide +kernel, by decide +kernel, by decide +kernel⟩
theorem wm_yX7_anew : Cond.instanceMethod ⟨"WhoBacks", "anew", "()I"⟩ ∈ tbg := tm 668 (by decide +kernel) (by decide +kernel)
theorem wx_yX7_anew : Cond.selects "WhoBacks" ⟨"WhoBacks", "anew", "()I"⟩ ⟨"WhoBacks", "anew", "()I"⟩ ∈ tbg := tm 669 (by decide +kernel) (by decide +kernel)
set_option maxRecDepth 100000 in
theorem wc_yX7_anew : Cond.code ⟨"WhoBacks", "anew", "()I"⟩ prog_1_method_10_code 1 (Option.some Jvm.ClassFile.FieldType.int) ∈ tbg := tm 670 rfl (by decide +kernel)
theorem L_L_55 : LVt RL 55 RX7 yX7_anew cX7_anew 1 (some .int) 0 := mkLVt (tm 667 (by decide +kernel) (by decide +kernel)) wm_yX7_anew wx_yX7_anew wi_RX7 wc_yX7_anew ⟨rfl, by decide +kernel, by decide +kernel, by decide +kernel⟩
theorem wm_yX6_beginAnew : Cond.instanceMethod ⟨"WhoBacks$Traffic", "beginAnew", "()V"⟩ ∈ tbg := tm 672 (by decide +kernel) (by decide +kernel)
theorem wx_yX6_beginAnew : Cond.selects "WhoBacks$Traffic" ⟨"WhoBacks$Traffic", "beginAnew", "()V"⟩ ⟨"WhoBacks$Traffic", "beginAnew", "()V"⟩ ∈ tbg := tm 673 (by decide +kernel) (by decide +kernel)
set_option maxRecDepth 100000 in
theorem wc_yX6_beginAnew : Cond.code ⟨"WhoBacks$Traffic", "beginAnew", "()V"⟩ prog_8_method_6_code 2 (Option.none : Option Jvm.ClassFile.FieldType) ∈ tbg := tm 674 rfl (by decide +kernel)
theorem L_X7_147 : LVt RX7 147 RX6 yX6_beginAnew cX6_beginAnew 2 none 0 := mkLVt (tm 671 (by decide +kernel) (by decide +kernel)) wm_yX6_beginAnew wx_yX6_beginAnew wi_RX6 wc_yX6_beginAnew ⟨rfl, by decide +kernel, by decide +kernel, by decide +kernel⟩
theorem wm_yX7_where : Cond.instanceMethod ⟨"WhoBacks", "where", "(II)I"⟩ ∈ tbg := tm 676 (by decide +kernel) (by decide +kernel)
theorem wx_yX7_where : Cond.selects "WhoBacks" ⟨"WhoBacks", "where", "(II)I"⟩ ⟨"WhoBacks", "where", "(II)I"⟩ ∈ tbg := tm 677 (by decide +kernel) (by decide +kernel)
set_option maxRecDepth 100000 in
theorem wc_yX7_where : Cond.code ⟨"WhoBacks", "where", "(II)I"⟩ prog_1_method_11_code 4 (Option.some Jvm.ClassFile.FieldType.int) ∈ tbg := tm 678 rfl (by decide +kernel)
theorem L_L_60 : LVt RL 60 RX7 yX7_where cX7_where 4 (some .int) 2 := mkLVt (tm 675 (by decide +kernel) (by decide +kernel)) wm_yX7_where wx_yX7_where wi_RX7 wc_yX7_where ⟨rfl, by decide +kernel, by decide +kernel, by decide +kernel⟩
theorem wm_yX7_state : Cond.instanceMethod ⟨"WhoBacks", "state", "(I)I"⟩ ∈ tbg := tm 681 (by decide +kernel) (by decide +kernel)
theorem wx_yX7_state : Cond.selects "WhoBacks" ⟨"WhoBacks", "state", "(I)I"⟩ ⟨"WhoBacks", "state", "(I)I"⟩ ∈ tbg := tm 682 (by decide +kernel) (by decide +kernel)
set_option maxRecDepth 100000 in
theorem wc_yX7_state : Cond.code ⟨"WhoBacks", "state", "(I)I"⟩ prog_1_method_12_code 2 (Option.some Jvm.ClassFile.FieldType.int) ∈ tbg := tm 683 rfl (by decide +kernel)
theorem L_L_64 : LVt RL 64 RX7 yX7_state cX7_state 2 (some .int) 1 := mkLVt (tm 680 (by decide +kernel) (by decide +kernel)) wm_yX7_state wx_yX7_state wi_RX7 wc_yX7_state ⟨rfl, by decide +kernel, by decide +kernel, by decide +kernel⟩
theorem wm_yX6_allBacked : Cond.instanceMethod ⟨"WhoBacks$Traffic", "allBacked", "()I"⟩ ∈ tbg := tm 685 (by decide +kernel) (by decide +kernel)
theorem wx_yX6_allBacked : Cond.selects "WhoBacks$Traffic" ⟨"WhoBacks$Traffic", "allBacked", "()I"⟩ ⟨"WhoBacks$Traffic", "allBacked", "()I"⟩ ∈ tbg := tm 686 (by decide +kernel) (by decide +kernel)
set_option maxRecDepth 100000 in
theorem wc_yX6_allBacked : Cond.code ⟨"WhoBacks$Traffic", "allBacked", "()I"⟩ prog_8_method_8_code 3 (Option.some Jvm.ClassFile.FieldType.int) ∈ tbg := tm 687 rfl (by decide +kernel)
theorem L_X7_169 : LVt RX7 169 RX6 yX6_allBacked cX6_allBacked 3 (some .int) 0 := mkLVt (tm 684 (by decide +kernel) (by decide +kernel)) wm_yX6_allBacked wx_yX6_allBacked wi_RX6 wc_yX6_allBacked ⟨rfl, by decide +kernel, by decide +kernel, by decide +kernel⟩
theorem wm_yX6_allWaited : Cond.instanceMethod ⟨"WhoBacks$Traffic", "allWaited", "()I"⟩ ∈ tbg := tm 689 (by decide +kernel) (by decide +kernel)
theorem wx_yX6_allWaited : Cond.selects "WhoBacks$Traffic" ⟨"WhoBacks$Traffic", "allWaited", "()I"⟩ ⟨"WhoBacks$Traffic", "allWaited", "()I"⟩ ∈ tbg := tm 690 (by decide +kernel) (by decide +kernel)
set_option maxRecDepth 100000 in
theorem wc_yX6_allWaited : Cond.code ⟨"WhoBacks$Traffic", "allWaited", "()I"⟩ prog_8_method_9_code 3 (Option.some Jvm.ClassFile.FieldType.int) ∈ tbg := tm 691 rfl (by decide +kernel)
theorem L_X7_173 : LVt RX7 173 RX6 yX6_allWaited cX6_allWaited 3 (some .int) 0 := mkLVt (tm 688 (by decide +kernel) (by decide +kernel)) wm_yX6_allWaited wx_yX6_allWaited wi_RX6 wc_yX6_allWaited ⟨rfl, by decide +kernel, by decide +kernel, by decide +kernel⟩
theorem L_X7_176 : LVt RX7 176 RX6 yX6_howMany cX6_howMany 4 (some .int) 1 := mkLVt (tm 692 (by decide +kernel) (by decide +kernel)) wm_yX6_howMany wx_yX6_howMany wi_RX6 wc_yX6_howMany ⟨rfl, by decide +kernel, by decide +kernel, by decide +kernel⟩
theorem L_X7_180 : LVt RX7 180 RX6 yX6_stands cX6_stands 1 (some .boolean) 0 := mkLVt (tm 693 (by decide +kernel) (by decide +kernel)) wm_yX6_stands wx_yX6_stands wi_RX6 wc_yX6_stands ⟨rfl, by decide +kernel, by decide +kernel, by decide +kernel⟩
theorem wm_yX7_enters : Cond.instanceMethod ⟨"WhoBacks", "enters", "(I)I"⟩ ∈ tbg := tm 695 (by decide +kernel) (by decide +kernel)
theorem wx_yX7_enters : Cond.selects "WhoBacks" ⟨"WhoBacks", "enters", "(I)I"⟩ ⟨"WhoBacks", "enters", "(I)I"⟩ ∈ tbg := tm 696 (by decide +kernel) (by decide +kernel)
set_option maxRecDepth 100000 in
theorem wc_yX7_enters : Cond.code ⟨"WhoBacks", "enters", "(I)I"⟩ prog_1_method_13_code 3 (Option.some Jvm.ClassFile.FieldType.int) ∈ tbg := tm 697 rfl (by decide +kernel)
theorem L_L_68 : LVt RL 68 RX7 yX7_enters cX7_enters 3 (some .int) 1 := mkLVt (tm 694 (by decide +kernel) (by decide +kernel)) wm_yX7_enters wx_yX7_enters wi_RX7 wc_yX7_enters ⟨rfl, by decide +kernel, by decide +kernel, by decide +kernel⟩
theorem L_X7_186 : LVt RX7 186 RX4 yX4_placeOf cX4_placeOf 2 (some .int) 1 := mkLVt (tm 698 (by decide +kernel) (by decide +kernel)) wm_yX4_placeOf wx_yX4_placeOf wi_RX4 wc_yX4_placeOf ⟨rfl, by decide +kernel, by decide +kernel, by decide +kernel⟩
theorem L_X7_189 : LVt RX7 189 RX6 yX6_letsIn cX6_letsIn 5 (some .boolean) 1 := mkLVt (tm 699 (by decide +kernel) (by decide +kernel)) wm_yX6_letsIn wx_yX6_letsIn wi_RX6 wc_yX6_letsIn ⟨rfl, by decide +kernel, by decide +kernel, by decide +kernel⟩
theorem wm_yX7_yields : Cond.instanceMethod ⟨"WhoBacks", "yields", "(III)I"⟩ ∈ tbg := tm 701 (by decide +kernel) (by decide +kernel)
theorem wx_yX7_yields : Cond.selects "WhoBacks" ⟨"WhoBacks", "yields", "(III)I"⟩ ⟨"WhoBacks", "yields", "(III)I"⟩ ∈ tbg := tm 702 (by decide +kernel) (by decide +kernel)
set_option maxRecDepth 100000 in
theorem wc_yX7_yields : Cond.code ⟨"WhoBacks", "yields", "(III)I"⟩ prog_1_method_14_code 8 (Option.some Jvm.ClassFile.FieldType.int) ∈ tbg := tm 703 rfl (by decide +kernel)
theorem L_L_72 : LVt RL 72 RX7 yX7_yields cX7_yields 8 (some .int) 3 := mkLVt (tm 700 (by decide +kernel) (by decide +kernel)) wm_yX7_yields wx_yX7_yields wi_RX7 wc_yX7_yields ⟨rfl, by decide +kernel, by decide +kernel, by decide +kernel⟩
theorem L_X7_193 : LVt RX7 193 RX6 yX6_pieceAhead cX6_pieceAhead 3 (some .int) 1 := mkLVt (tm 704 (by decide +kernel) (by decide +kernel)) wm_yX6_pieceAhead wx_yX6_pieceAhead wi_RX6 wc_yX6_pieceAhead ⟨rfl, by decide +kernel, by decide +kernel, by decide +kernel⟩
theorem L_X7_197 : LVt RX7 197 RX4 yX4_hillOf cX4_hillOf 2 (some .int) 1 := mkLVt (tm 705 (by decide +kernel) (by decide +kernel)) wm_yX4_hillOf wx_yX4_hillOf wi_RX4 wc_yX4_hillOf ⟨rfl, by decide +kernel, by decide +kernel, by decide +kernel⟩
theorem L_X7_200 : LVt RX7 200 RX6 yX6_backerOf cX6_backerOf 12 (some .int) 4 := mkLVt (tm 706 (by decide +kernel) (by decide +kernel)) wm_yX6_backerOf wx_yX6_backerOf wi_RX6 wc_yX6_backerOf ⟨rfl, by decide +kernel, by decide +kernel, by decide +kernel⟩
theorem wm_yX7_judge : Cond.instanceMethod ⟨"WhoBacks", "judge", "(II)I"⟩ ∈ tbg := tm 708 (by decide +kernel) (by decide +kernel)
theorem wx_yX7_judge : Cond.selects "WhoBacks" ⟨"WhoBacks", "judge", "(II)I"⟩ ⟨"WhoBacks", "judge", "(II)I"⟩ ∈ tbg := tm 709 (by decide +kernel) (by decide +kernel)
set_option maxRecDepth 100000 in
theorem wc_yX7_judge : Cond.code ⟨"WhoBacks", "judge", "(II)I"⟩ prog_1_method_15_code 6 (Option.some Jvm.ClassFile.FieldType.int) ∈ tbg := tm 710 rfl (by decide +kernel)
theorem L_L_77 : LVt RL 77 RX7 yX7_judge cX7_judge 6 (some .int) 2 := mkLVt (tm 707 (by decide +kernel) (by decide +kernel)) wm_yX7_judge wx_yX7_judge wi_RX7 wc_yX7_judge ⟨rfl, by decide +kernel, by decide +kernel, by decide +kernel⟩
theorem wm_yX5_leastNumber : Cond.instanceMethod ⟨"WhoBacks$Shelf", "leastNumber", "()I"⟩ ∈ tbg := tm 712 (by decide +kernel) (by decide +kernel)
theorem wx_yX5_leastNumber : Cond.selects "WhoBacks$Shelf" ⟨"WhoBacks$Shelf", "leastNumber", "()I"⟩ ⟨"WhoBacks$Shelf", "leastNumber", "()I"⟩ ∈ tbg := tm 713 (by decide +kernel) (by decide +kernel)
set_option maxRecDepth 100000 in
theorem wc_yX5_leastNumber : Cond.code ⟨"WhoBacks$Shelf", "leastNumber", "()I"⟩ prog_7_method_8_code 1 (Option.some Jvm.ClassFile.FieldType.int) ∈ tbg := tm 714 rfl (by decide +kernel)
theorem L_X7_210 : LVt RX7 210 RX5 yX5_leastNumber cX5_leastNumber 1 (some .int) 0 := mkLVt (tm 711 (by decide +kernel) (by decide +kernel)) wm_yX5_leastNumber wx_yX5_leastNumber wi_RX5 wc_yX5_leastNumber ⟨rfl, by decide +kernel, by decide +kernel, by decide +kernel⟩
theorem wm_yX7_run : Cond.instanceMethod ⟨"WhoBacks", "run", "(II)I"⟩ ∈ tbg := tm 717 (by decide +kernel) (by decide +kernel)
theorem wx_yX7_run : Cond.selects "WhoBacks" ⟨"WhoBacks", "run", "(II)I"⟩ ⟨"WhoBacks", "run", "(II)I"⟩ ∈ tbg := tm 718 (by decide +kernel) (by decide +kernel)
set_option maxRecDepth 100000 in
theorem wc_yX7_run : Cond.code ⟨"WhoBacks", "run", "(II)I"⟩ prog_1_method_16_code 5 (Option.some Jvm.ClassFile.FieldType.int) ∈ tbg := tm 719 rfl (by decide +kernel)
theorem L_L_81 : LVt RL 81 RX7 yX7_run cX7_run 5 (some .int) 2 := mkLVt (tm 716 (by decide +kernel) (by decide +kernel)) wm_yX7_run wx_yX7_run wi_RX7 wc_yX7_run ⟨rfl, by decide +kernel, by decide +kernel, by decide +kernel⟩
theorem wm_yX5_isWithin : Cond.instanceMethod ⟨"WhoBacks$Shelf", "isWithin", "(II)Z"⟩ ∈ tbg := tm 721 (by decide +kernel) (by decide +kernel)
theorem wx_yX5_isWithin : Cond.selects "WhoBacks$Shelf" ⟨"WhoBacks$Shelf", "isWithin", "(II)Z"⟩ ⟨"WhoBacks$Shelf", "isWithin", "(II)Z"⟩ ∈ tbg := tm 722 (by decide +kernel) (by decide +kernel)
set_option maxRecDepth 100000 in
theorem wc_yX5_isWithin : Cond.code ⟨"WhoBacks$Shelf", "isWithin", "(II)Z"⟩ prog_7_method_6_code 4 (Option.some Jvm.ClassFile.FieldType.boolean) ∈ tbg := tm 723 rfl (by decide +kernel)
theorem L_X7_213 : LVt RX7 213 RX5 yX5_isWithin cX5_isWithin 4 (some .boolean) 2 := mkLVt (tm 720 (by decide +kernel) (by decide +kernel)) wm_yX5_isWithin wx_yX5_isWithin wi_RX5 wc_yX5_isWithin ⟨rfl, by decide +kernel, by decide +kernel, by decide +kernel⟩
theorem wm_yX7_costInMind : Cond.instanceMethod ⟨"WhoBacks", "costInMind", "()I"⟩ ∈ tbg := tm 726 (by decide +kernel) (by decide +kernel)
theorem wx_yX7_costInMind : Cond.selects "WhoBacks" ⟨"WhoBacks", "costInMind", "()I"⟩ ⟨"WhoBacks", "costInMind", "()I"⟩ ∈ tbg := tm 26 (by decide +kernel) (by decide +kernel)
set_option maxRecDepth 100000 in
theorem wc_yX7_costInMind : Cond.code ⟨"WhoBacks", "costInMind", "()I"⟩ prog_1_method_41_code 2 (Option.some Jvm.ClassFile.FieldType.int) ∈ tbg := tm 727 rfl (by decide +kernel)
theorem L_X7_224 : LVt RX7 224 RX7 yX7_costInMind cX7_costInMind 2 (some .int) 0 := mkLVt (tm 724 (by decide +kernel) (by decide +kernel)) wm_yX7_costInMind wx_yX7_costInMind wi_RX7 wc_yX7_costInMind ⟨rfl, by decide +kernel, by decide +kernel, by decide +kernel⟩
theorem wm_yX6_cost : Cond.instanceMethod ⟨"WhoBacks$Traffic", "cost", "()I"⟩ ∈ tbg := tm 729 (by decide +kernel) (by decide +kernel)
theorem wx_yX6_cost : Cond.selects "WhoBacks$Traffic" ⟨"WhoBacks$Traffic", "cost", "()I"⟩ ⟨"WhoBacks$Traffic", "cost", "()I"⟩ ∈ tbg := tm 730 (by decide +kernel) (by decide +kernel)
set_option maxRecDepth 100000 in
theorem wc_yX6_cost : Cond.code ⟨"WhoBacks$Traffic", "cost", "()I"⟩ prog_8_method_13_code 1 (Option.some Jvm.ClassFile.FieldType.int) ∈ tbg := tm 731 rfl (by decide +kernel)
theorem L_X7_321 : LVt RX7 321 RX6 yX6_cost cX6_cost 1 (some .int) 0 := mkLVt (tm 728 (by decide +kernel) (by decide +kernel)) wm_yX6_cost wx_yX6_cost wi_RX6 wc_yX6_cost ⟨rfl, by decide +kernel, by decide +kernel, by decide +kernel⟩
theorem L_X6_100 : LVt RX6 100 RX6 yX6_allBacked cX6_allBacked 3 (some .int) 0 := mkLVt (tm 732 (by decide +kernel) (by decide +kernel)) wm_yX6_allBacked wx_yX6_allBacked wi_RX6 wc_yX6_allBacked ⟨rfl, by decide +kernel, by decide +kernel, by decide +kernel⟩
theorem L_X6_104 : LVt RX6 104 RX6 yX6_allWaited cX6_allWaited 3 (some .int) 0 := mkLVt (tm 733 (by decide +kernel) (by decide +kernel)) wm_yX6_allWaited wx_yX6_allWaited wi_RX6 wc_yX6_allWaited ⟨rfl, by decide +kernel, by decide +kernel, by decide +kernel⟩
theorem wm_yX7_ever : Cond.instanceMethod ⟨"WhoBacks", "ever", "(I)I"⟩ ∈ tbg := tm 735 (by decide +kernel) (by decide +kernel)
theorem wx_yX7_ever : Cond.selects "WhoBacks" ⟨"WhoBacks", "ever", "(I)I"⟩ ⟨"WhoBacks", "ever", "(I)I"⟩ ∈ tbg := tm 736 (by decide +kernel) (by decide +kernel)
set_option maxRecDepth 100000 in
theorem wc_yX7_ever : Cond.code ⟨"WhoBacks", "ever", "(I)I"⟩ prog_1_method_17_code 4 (Option.some Jvm.ClassFile.FieldType.int) ∈ tbg := tm 737 rfl (by decide +kernel)
theorem L_L_85 : LVt RL 85 RX7 yX7_ever cX7_ever 4 (some .int) 1 := mkLVt (tm 734 (by decide +kernel) (by decide +kernel)) wm_yX7_ever wx_yX7_ever wi_RX7 wc_yX7_ever ⟨rfl, by decide +kernel, by decide +kernel, by decide +kernel⟩
theorem wm_yX7_best : Cond.instanceMethod ⟨"WhoBacks", "best", "(I)I"⟩ ∈ tbg := tm 739 (by decide +kernel) (by decide +kernel)
theorem wx_yX7_best : Cond.selects "WhoBacks" ⟨"WhoBacks", "best", "(I)I"⟩ ⟨"WhoBacks", "best", "(I)I"⟩ ∈ tbg := tm 740 (by decide +kernel) (by decide +kernel)
set_option maxRecDepth 100000 in
theorem wc_yX7_best : Cond.code ⟨"WhoBacks", "best", "(I)I"⟩ prog_1_method_18_code 5 (Option.some Jvm.ClassFile.FieldType.int) ∈ tbg := tm 741 rfl (by decide +kernel)
theorem L_L_89 : LVt RL 89 RX7 yX7_best cX7_best 5 (some .int) 1 := mkLVt (tm 738 (by decide +kernel) (by decide +kernel)) wm_yX7_best wx_yX7_best wi_RX7 wc_yX7_best ⟨rfl, by decide +kernel, by decide +kernel, by decide +kernel⟩
theorem wm_yX1_begin : Cond.instanceMethod ⟨"WhoBacks$Least", "begin", "()V"⟩ ∈ tbg := tm 744 (by decide +kernel) (by decide +kernel)
theorem wx_yX1_begin : Cond.selects "WhoBacks$Least" ⟨"WhoBacks$Least", "begin", "()V"⟩ ⟨"WhoBacks$Least", "begin", "()V"⟩ ∈ tbg := tm 745 (by decide +kernel) (by decide +kernel)
theorem wi_RX1 : Cond.initialized "WhoBacks$Least" ∈ tbg := tm 60 (by decide +kernel) (by decide +kernel)
set_option maxRecDepth 100000 in
theorem wc_yX1_begin : Cond.code ⟨"WhoBacks$Least", "begin", "()V"⟩ prog_3_method_2_code 1 (Option.none : Option Jvm.ClassFile.FieldType) ∈ tbg := tm 746 rfl (by decide +kernel)
theorem L_X7_233 : LVt RX7 233 RX1 yX1_begin cX1_begin 1 none 0 := mkLVt (tm 743 (by decide +kernel) (by decide +kernel)) wm_yX1_begin wx_yX1_begin wi_RX1 wc_yX1_begin ⟨rfl, by decide +kernel, by decide +kernel, by decide +kernel⟩
theorem wm_yX1_offer : Cond.instanceMethod ⟨"WhoBacks$Least", "offer", "(II)V"⟩ ∈ tbg := tm 748 (by decide +kernel) (by decide +kernel)
theorem wx_yX1_offer : Cond.selects "WhoBacks$Least" ⟨"WhoBacks$Least", "offer", "(II)V"⟩ ⟨"WhoBacks$Least", "offer", "(II)V"⟩ ∈ tbg := tm 749 (by decide +kernel) (by decide +kernel)
set_option maxRecDepth 100000 in
theorem wc_yX1_offer : Cond.code ⟨"WhoBacks$Least", "offer", "(II)V"⟩ prog_3_method_3_code 3 (Option.none : Option Jvm.ClassFile.FieldType) ∈ tbg := tm 750 rfl (by decide +kernel)
theorem L_X7_236 : LVt RX7 236 RX1 yX1_offer cX1_offer 3 none 2 := mkLVt (tm 747 (by decide +kernel) (by decide +kernel)) wm_yX1_offer wx_yX1_offer wi_RX1 wc_yX1_offer ⟨rfl, by decide +kernel, by decide +kernel, by decide +kernel⟩
theorem wm_yX7_more : Cond.instanceMethod ⟨"WhoBacks", "more", "(I)I"⟩ ∈ tbg := tm 752 (by decide +kernel) (by decide +kernel)
theorem wx_yX7_more : Cond.selects "WhoBacks" ⟨"WhoBacks", "more", "(I)I"⟩ ⟨"WhoBacks", "more", "(I)I"⟩ ∈ tbg := tm 753 (by decide +kernel) (by decide +kernel)
set_option maxRecDepth 100000 in
theorem wc_yX7_more : Cond.code ⟨"WhoBacks", "more", "(I)I"⟩ prog_1_method_19_code 3 (Option.some Jvm.ClassFile.FieldType.int) ∈ tbg := tm 754 rfl (by decide +kernel)
theorem L_L_93 : LVt RL 93 RX7 yX7_more cX7_more 3 (some .int) 1 := mkLVt (tm 751 (by decide +kernel) (by decide +kernel)) wm_yX7_more wx_yX7_more wi_RX7 wc_yX7_more ⟨rfl, by decide +kernel, by decide +kernel, by decide +kernel⟩
theorem wm_yX7_fit : Cond.instanceMethod ⟨"WhoBacks", "fit", "(II)I"⟩ ∈ tbg := tm 756 (by decide +kernel) (by decide +kernel)
theorem wx_yX7_fit : Cond.selects "WhoBacks" ⟨"WhoBacks", "fit", "(II)I"⟩ ⟨"WhoBacks", "fit", "(II)I"⟩ ∈ tbg := tm 757 (by decide +kernel) (by decide +kernel)
set_option maxRecDepth 100000 in
theorem wc_yX7_fit : Cond.code ⟨"WhoBacks", "fit", "(II)I"⟩ prog_1_method_20_code 5 (Option.some Jvm.ClassFile.FieldType.int) ∈ tbg := tm 758 rfl (by decide +kernel)
theorem L_L_97 : LVt RL 97 RX7 yX7_fit cX7_fit 5 (some .int) 2 := mkLVt (tm 755 (by decide +kernel) (by decide +kernel)) wm_yX7_fit wx_yX7_fit wi_RX7 wc_yX7_fit ⟨rfl, by decide +kernel, by decide +kernel, by decide +kernel⟩
theorem wm_yX7_ruleAllInMind : Cond.instanceMethod ⟨"WhoBacks", "ruleAllInMind", "(II)V"⟩ ∈ tbg := tm 761 (by decide +kernel) (by decide +kernel)
theorem wx_yX7_ruleAllInMind : Cond.selects "WhoBacks" ⟨"WhoBacks", "ruleAllInMind", "(II)V"⟩ ⟨"WhoBacks", "ruleAllInMind", "(II)V"⟩ ∈ tbg := tm 27 (by decide +kernel) (by decide +kernel)
set_option maxRecDepth 100000 in
theorem wc_yX7_ruleAllInMind : Cond.code ⟨"WhoBacks", "ruleAllInMind", "(II)V"⟩ prog_1_method_42_code 4 (Option.none : Option Jvm.ClassFile.FieldType) ∈ tbg := tm 762 rfl (by decide +kernel)
theorem L_X7_246 : LVt RX7 246 RX7 yX7_ruleAllInMind cX7_ruleAllInMind 4 none 2 := mkLVt (tm 759 (by decide +kernel) (by decide +kernel)) wm_yX7_ruleAllInMind wx_yX7_ruleAllInMind wi_RX7 wc_yX7_ruleAllInMind ⟨rfl, by decide +kernel, by decide +kernel, by decide +kernel⟩
theorem wm_yX7_shortest : Cond.instanceMethod ⟨"WhoBacks", "shortest", "()I"⟩ ∈ tbg := tm 764 (by decide +kernel) (by decide +kernel)
theorem wx_yX7_shortest : Cond.selects "WhoBacks" ⟨"WhoBacks", "shortest", "()I"⟩ ⟨"WhoBacks", "shortest", "()I"⟩ ∈ tbg := tm 765 (by decide +kernel) (by decide +kernel)
set_option maxRecDepth 100000 in
theorem wc_yX7_shortest : Cond.code ⟨"WhoBacks", "shortest", "()I"⟩ prog_1_method_21_code 3 (Option.some Jvm.ClassFile.FieldType.int) ∈ tbg := tm 766 rfl (by decide +kernel)
theorem L_L_101 : LVt RL 101 RX7 yX7_shortest cX7_shortest 3 (some .int) 0 := mkLVt (tm 763 (by decide +kernel) (by decide +kernel)) wm_yX7_shortest wx_yX7_shortest wi_RX7 wc_yX7_shortest ⟨rfl, by decide +kernel, by decide +kernel, by decide +kernel⟩
theorem ws_yX7_wordsOf : Cond.static ⟨"WhoBacks", "wordsOf", "(II)I"⟩ ∈ tbg := tm 768 (by decide +kernel) (by decide +kernel)
set_option maxRecDepth 100000 in
theorem wc_yX7_wordsOf : Cond.code ⟨"WhoBacks", "wordsOf", "(II)I"⟩ prog_1_method_44_code 2 (Option.some Jvm.ClassFile.FieldType.int) ∈ tbg := tm 769 rfl (by decide +kernel)
theorem L_X7_249 : LSt RX7 249 yX7_wordsOf cX7_wordsOf 2 (some .int) 2 := mkLSt (tm 767 (by decide +kernel) (by decide +kernel)) ws_yX7_wordsOf wi_RX7 wc_yX7_wordsOf ⟨rfl, by decide +kernel, by decide +kernel, by decide +kernel⟩
theorem wm_yX7_hours : Cond.instanceMethod ⟨"WhoBacks", "hours", "(I)I"⟩ ∈ tbg := tm 771 (by decide +kernel) (by decide +kernel)
theorem wx_yX7_hours : Cond.selects "WhoBacks" ⟨"WhoBacks", "hours", "(I)I"⟩ ⟨"WhoBacks", "hours", "(I)I"⟩ ∈ tbg := tm 772 (by decide +kernel) (by decide +kernel)
set_option maxRecDepth 100000 in
theorem wc_yX7_hours : Cond.code ⟨"WhoBacks", "hours", "(I)I"⟩ prog_1_method_22_code 3 (Option.some Jvm.ClassFile.FieldType.int) ∈ tbg := tm 773 rfl (by decide +kernel)
theorem L_L_105 : LVt RL 105 RX7 yX7_hours cX7_hours 3 (some .int) 1 := mkLVt (tm 770 (by decide +kernel) (by decide +kernel)) wm_yX7_hours wx_yX7_hours wi_RX7 wc_yX7_hours ⟨rfl, by decide +kernel, by decide +kernel, by decide +kernel⟩
theorem wm_yX7_stubborn : Cond.instanceMethod ⟨"WhoBacks", "stubborn", "(I)I"⟩ ∈ tbg := tm 775 (by decide +kernel) (by decide +kernel)
theorem wx_yX7_stubborn : Cond.selects "WhoBacks" ⟨"WhoBacks", "stubborn", "(I)I"⟩ ⟨"WhoBacks", "stubborn", "(I)I"⟩ ∈ tbg := tm 776 (by decide +kernel) (by decide +kernel)
set_option maxRecDepth 100000 in
theorem wc_yX7_stubborn : Cond.code ⟨"WhoBacks", "stubborn", "(I)I"⟩ prog_1_method_23_code 4 (Option.some Jvm.ClassFile.FieldType.int) ∈ tbg := tm 777 rfl (by decide +kernel)
theorem L_L_109 : LVt RL 109 RX7 yX7_stubborn cX7_stubborn 4 (some .int) 1 := mkLVt (tm 774 (by decide +kernel) (by decide +kernel)) wm_yX7_stubborn wx_yX7_stubborn wi_RX7 wc_yX7_stubborn ⟨rfl, by decide +kernel, by decide +kernel, by decide +kernel⟩
theorem wm_yX7_heard : Cond.instanceMethod ⟨"WhoBacks", "heard", "(I)I"⟩ ∈ tbg := tm 780 (by decide +kernel) (by decide +kernel)
theorem wx_yX7_heard : Cond.selects "WhoBacks" ⟨"WhoBacks", "heard", "(I)I"⟩ ⟨"WhoBacks", "heard", "(I)I"⟩ ∈ tbg := tm 781 (by decide +kernel) (by decide +kernel)
set_option maxRecDepth 100000 in
theorem wc_yX7_heard : Cond.code ⟨"WhoBacks", "heard", "(I)I"⟩ prog_1_method_24_code 3 (Option.some Jvm.ClassFile.FieldType.int) ∈ tbg := tm 782 rfl (by decide +kernel)
theorem L_L_113 : LVt RL 113 RX7 yX7_heard cX7_heard 3 (some .int) 1 := mkLVt (tm 779 (by decide +kernel) (by decide +kernel)) wm_yX7_heard wx_yX7_heard wi_RX7 wc_yX7_heard ⟨rfl, by decide +kernel, by decide +kernel, by decide +kernel⟩
theorem wm_yX7_days : Cond.instanceMethod ⟨"WhoBacks", "days", "(III)I"⟩ ∈ tbg := tm 784 (by decide +kernel) (by decide +kernel)
theorem wx_yX7_days : Cond.selects "WhoBacks" ⟨"WhoBacks", "days", "(III)I"⟩ ⟨"WhoBacks", "days", "(III)I"⟩ ∈ tbg := tm 785 (by decide +kernel) (by decide +kernel)
set_option maxRecDepth 100000 in
theorem wc_yX7_days : Cond.code ⟨"WhoBacks", "days", "(III)I"⟩ prog_1_method_25_code 8 (Option.some Jvm.ClassFile.FieldType.int) ∈ tbg := tm 786 rfl (by decide +kernel)
theorem L_L_117 : LVt RL 117 RX7 yX7_days cX7_days 8 (some .int) 3 := mkLVt (tm 783 (by decide +kernel) (by decide +kernel)) wm_yX7_days wx_yX7_days wi_RX7 wc_yX7_days ⟨rfl, by decide +kernel, by decide +kernel, by decide +kernel⟩
theorem wm_yX7_met : Cond.instanceMethod ⟨"WhoBacks", "met", "(II)I"⟩ ∈ tbg := tm 790 (by decide +kernel) (by decide +kernel)
theorem wx_yX7_met : Cond.selects "WhoBacks" ⟨"WhoBacks", "met", "(II)I"⟩ ⟨"WhoBacks", "met", "(II)I"⟩ ∈ tbg := tm 791 (by decide +kernel) (by decide +kernel)
set_option maxRecDepth 100000 in
theorem wc_yX7_met : Cond.code ⟨"WhoBacks", "met", "(II)I"⟩ prog_1_method_26_code 4 (Option.some Jvm.ClassFile.FieldType.int) ∈ tbg := tm 792 rfl (by decide +kernel)
theorem L_L_121 : LVt RL 121 RX7 yX7_met cX7_met 4 (some .int) 2 := mkLVt (tm 789 (by decide +kernel) (by decide +kernel)) wm_yX7_met wx_yX7_met wi_RX7 wc_yX7_met ⟨rfl, by decide +kernel, by decide +kernel, by decide +kernel⟩
theorem wm_yX6_watch : Cond.instanceMethod ⟨"WhoBacks$Traffic", "watch", "(II)V"⟩ ∈ tbg := tm 794 (by decide +kernel) (by decide +kernel)
theorem wx_yX6_watch : Cond.selects "WhoBacks$Traffic" ⟨"WhoBacks$Traffic", "watch", "(II)V"⟩ ⟨"WhoBacks$Traffic", "watch", "(II)V"⟩ ∈ tbg := tm 795 (by decide +kernel) (by decide +kernel)
set_option maxRecDepth 100000 in
theorem wc_yX6_watch : Cond.code ⟨"WhoBacks$Traffic", "watch", "(II)V"⟩ prog_8_method_5_code 3 (Option.none : Option Jvm.ClassFile.FieldType) ∈ tbg := tm 796 rfl (by decide +kernel)
theorem L_X7_255 : LVt RX7 255 RX6 yX6_watch cX6_watch 3 none 2 := mkLVt (tm 793 (by decide +kernel) (by decide +kernel)) wm_yX6_watch wx_yX6_watch wi_RX6 wc_yX6_watch ⟨rfl, by decide +kernel, by decide +kernel, by decide +kernel⟩
theorem wm_yX7_rows : Cond.instanceMethod ⟨"WhoBacks", "rows", "(IIIII)I"⟩ ∈ tbg := tm 798 (by decide +kernel) (by decide +kernel)
theorem wx_yX7_rows : Cond.selects "WhoBacks" ⟨"WhoBacks", "rows", "(IIIII)I"⟩ ⟨"WhoBacks", "rows", "(IIIII)I"⟩ ∈ tbg := tm 799 (by decide +kernel) (by decide +kernel)
set_option maxRecDepth 100000 in
theorem wc_yX7_rows : Cond.code ⟨"WhoBacks", "rows", "(IIIII)I"⟩ prog_1_method_27_code 6 (Option.some Jvm.ClassFile.FieldType.int) ∈ tbg := tm 800 rfl (by decide +kernel)
theorem L_L_125 : LVt RL 125 RX7 yX7_rows cX7_rows 6 (some .int) 5 := mkLVt (tm 797 (by decide +kernel) (by decide +kernel)) wm_yX7_rows wx_yX7_rows wi_RX7 wc_yX7_rows ⟨rfl, by decide +kernel, by decide +kernel, by decide +kernel⟩
theorem ws_yX7_areRows : Cond.static ⟨"WhoBacks", "areRows", "(IIII)Z"⟩ ∈ tbg := tm 802 (by decide +kernel) (by decide +kernel)
set_option maxRecDepth 100000 in
theorem wc_yX7_areRows : Cond.code ⟨"WhoBacks", "areRows", "(IIII)Z"⟩ prog_1_method_43_code 4 (Option.some Jvm.ClassFile.FieldType.boolean) ∈ tbg := tm 803 rfl (by decide +kernel)
theorem L_X7_261 : LSt RX7 261 yX7_areRows cX7_areRows 4 (some .boolean) 4 := mkLSt (tm 801 (by decide +kernel) (by decide +kernel)) ws_yX7_areRows wi_RX7 wc_yX7_areRows ⟨rfl, by decide +kernel, by decide +kernel, by decide +kernel⟩
theorem wm_yX2_leastMoves : Cond.instanceMethod ⟨"WhoBacks$Passing", "leastMoves", "(IIIII)I"⟩ ∈ tbg := tm 805 (by decide +kernel) (by decide +kernel)
theorem wx_yX2_leastMoves : Cond.selects "WhoBacks$Passing" ⟨"WhoBacks$Passing", "leastMoves", "(IIIII)I"⟩ ⟨"WhoBacks$Passing", "leastMoves", "(IIIII)I"⟩ ∈ tbg := tm 806 (by decide +kernel) (by decide +kernel)
theorem wi_RX2 : Cond.initialized "WhoBacks$Passing" ∈ tbg := tm 63 (by decide +kernel) (by decide +kernel)
set_option maxRecDepth 100000 in
theorem wc_yX2_leastMoves : Cond.code ⟨"WhoBacks$Passing", "leastMoves", "(IIIII)I"⟩ prog_4_method_2_code 9 (Option.some Jvm.ClassFile.FieldType.int) ∈ tbg := tm 807 rfl (by decide +kernel)
theorem L_X7_265 : LVt RX7 265 RX2 yX2_leastMoves cX2_leastMoves 9 (some .int) 5 := mkLVt (tm 804 (by decide +kernel) (by decide +kernel)) wm_yX2_leastMoves wx_yX2_leastMoves wi_RX2 wc_yX2_leastMoves ⟨rfl, by decide +kernel, by decide +kernel, by decide +kernel⟩
theorem wm_yX2_reach : Cond.instanceMethod ⟨"WhoBacks$Passing", "reach", "(III)V"⟩ ∈ tbg := tm 810 (by decide +kernel) (by decide +kernel)
theorem wx_yX2_reach : Cond.selects "WhoBacks$Passing" ⟨"WhoBacks$Passing", "reach", "(III)V"⟩ ⟨"WhoBacks$Passing", "reach", "(III)V"⟩ ∈ tbg := tm 28 (by decide +kernel) (by decide +kernel)
set_option maxRecDepth 100000 in
theorem wc_yX2_reach : Cond.code ⟨"WhoBacks$Passing", "reach", "(III)V"⟩ prog_4_method_3_code 5 (Option.none : Option Jvm.ClassFile.FieldType) ∈ tbg := tm 811 rfl (by decide +kernel)
theorem L_X2_37 : LVt RX2 37 RX2 yX2_reach cX2_reach 5 none 3 := mkLVt (tm 808 (by decide +kernel) (by decide +kernel)) wm_yX2_reach wx_yX2_reach wi_RX2 wc_yX2_reach ⟨rfl, by decide +kernel, by decide +kernel, by decide +kernel⟩
theorem wm_yX2_tryMoves : Cond.instanceMethod ⟨"WhoBacks$Passing", "tryMoves", "(II)V"⟩ ∈ tbg := tm 814 (by decide +kernel) (by decide +kernel)
theorem wx_yX2_tryMoves : Cond.selects "WhoBacks$Passing" ⟨"WhoBacks$Passing", "tryMoves", "(II)V"⟩ ⟨"WhoBacks$Passing", "tryMoves", "(II)V"⟩ ∈ tbg := tm 29 (by decide +kernel) (by decide +kernel)
set_option maxRecDepth 100000 in
theorem wc_yX2_tryMoves : Cond.code ⟨"WhoBacks$Passing", "tryMoves", "(II)V"⟩ prog_4_method_4_code 7 (Option.none : Option Jvm.ClassFile.FieldType) ∈ tbg := tm 815 rfl (by decide +kernel)
theorem L_X2_41 : LVt RX2 41 RX2 yX2_tryMoves cX2_tryMoves 7 none 2 := mkLVt (tm 812 (by decide +kernel) (by decide +kernel)) wm_yX2_tryMoves wx_yX2_tryMoves wi_RX2 wc_yX2_tryMoves ⟨rfl, by decide +kernel, by decide +kernel, by decide +kernel⟩
theorem ws_yX2_lengthOf : Cond.static ⟨"WhoBacks$Passing", "lengthOf", "(I)I"⟩ ∈ tbg := tm 817 (by decide +kernel) (by decide +kernel)
set_option maxRecDepth 100000 in
theorem wc_yX2_lengthOf : Cond.code ⟨"WhoBacks$Passing", "lengthOf", "(I)I"⟩ prog_4_method_6_code 2 (Option.some Jvm.ClassFile.FieldType.int) ∈ tbg := tm 818 rfl (by decide +kernel)
theorem L_X2_45 : LSt RX2 45 yX2_lengthOf cX2_lengthOf 2 (some .int) 1 := mkLSt (tm 816 (by decide +kernel) (by decide +kernel)) ws_yX2_lengthOf wi_RX2 wc_yX2_lengthOf ⟨rfl, by decide +kernel, by decide +kernel, by decide +kernel⟩
theorem ws_yX2_without : Cond.static ⟨"WhoBacks$Passing", "without", "(II)I"⟩ ∈ tbg := tm 820 (by decide +kernel) (by decide +kernel)
set_option maxRecDepth 100000 in
theorem wc_yX2_without : Cond.code ⟨"WhoBacks$Passing", "without", "(II)I"⟩ prog_4_method_7_code 2 (Option.some Jvm.ClassFile.FieldType.int) ∈ tbg := tm 821 rfl (by decide +kernel)
theorem L_X2_49 : LSt RX2 49 yX2_without cX2_without 2 (some .int) 2 := mkLSt (tm 819 (by decide +kernel) (by decide +kernel)) ws_yX2_without wi_RX2 wc_yX2_without ⟨rfl, by decide +kernel, by decide +kernel, by decide +kernel⟩
theorem wm_yX2_comeBack : Cond.instanceMethod ⟨"WhoBacks$Passing", "comeBack", "(IIII)V"⟩ ∈ tbg := tm 830 (by decide +kernel) (by decide +kernel)
theorem wx_yX2_comeBack : Cond.selects "WhoBacks$Passing" ⟨"WhoBacks$Passing", "comeBack", "(IIII)V"⟩ ⟨"WhoBacks$Passing", "comeBack", "(IIII)V"⟩ ∈ tbg := tm 30 (by decide +kernel) (by decide +kernel)
set_option maxRecDepth 100000 in
theorem wc_yX2_comeBack : Cond.code ⟨"WhoBacks$Passing", "comeBack", "(IIII)V"⟩ prog_4_method_5_code 7 (Option.none : Option Jvm.ClassFile.FieldType) ∈ tbg := tm 831 rfl (by decide +kernel)
theorem L_X2_58 : LVt RX2 58 RX2 yX2_comeBack cX2_comeBack 7 none 4 := mkLVt (tm 828 (by decide +kernel) (by decide +kernel)) wm_yX2_comeBack wx_yX2_comeBack wi_RX2 wc_yX2_comeBack ⟨rfl, by decide +kernel, by decide +kernel, by decide +kernel⟩
theorem wm_yX7_aside : Cond.instanceMethod ⟨"WhoBacks", "aside", "(IIII)I"⟩ ∈ tbg := tm 833 (by decide +kernel) (by decide +kernel)
theorem wx_yX7_aside : Cond.selects "WhoBacks" ⟨"WhoBacks", "aside", "(IIII)I"⟩ ⟨"WhoBacks", "aside", "(IIII)I"⟩ ∈ tbg := tm 834 (by decide +kernel) (by decide +kernel)
set_option maxRecDepth 100000 in
theorem wc_yX7_aside : Cond.code ⟨"WhoBacks", "aside", "(IIII)I"⟩ prog_1_method_28_code 6 (Option.some Jvm.ClassFile.FieldType.int) ∈ tbg := tm 835 rfl (by decide +kernel)
theorem L_L_130 : LVt RL 130 RX7 yX7_aside cX7_aside 6 (some .int) 4 := mkLVt (tm 832 (by decide +kernel) (by decide +kernel)) wm_yX7_aside wx_yX7_aside wi_RX7 wc_yX7_aside ⟨rfl, by decide +kernel, by decide +kernel, by decide +kernel⟩
theorem wm_yX7_image : Cond.instanceMethod ⟨"WhoBacks", "image", "()I"⟩ ∈ tbg := tm 837 (by decide +kernel) (by decide +kernel)
theorem wx_yX7_image : Cond.selects "WhoBacks" ⟨"WhoBacks", "image", "()I"⟩ ⟨"WhoBacks", "image", "()I"⟩ ∈ tbg := tm 838 (by decide +kernel) (by decide +kernel)
set_option maxRecDepth 100000 in
theorem wc_yX7_image : Cond.code ⟨"WhoBacks", "image", "()I"⟩ prog_1_method_29_code 1 (Option.some Jvm.ClassFile.FieldType.int) ∈ tbg := tm 839 rfl (by decide +kernel)
theorem L_L_135 : LVt RL 135 RX7 yX7_image cX7_image 1 (some .int) 0 := mkLVt (tm 836 (by decide +kernel) (by decide +kernel)) wm_yX7_image wx_yX7_image wi_RX7 wc_yX7_image ⟨rfl, by decide +kernel, by decide +kernel, by decide +kernel⟩
theorem wm_yX7_restore : Cond.instanceMethod ⟨"WhoBacks", "restore", "()I"⟩ ∈ tbg := tm 841 (by decide +kernel) (by decide +kernel)
theorem wx_yX7_restore : Cond.selects "WhoBacks" ⟨"WhoBacks", "restore", "()I"⟩ ⟨"WhoBacks", "restore", "()I"⟩ ∈ tbg := tm 842 (by decide +kernel) (by decide +kernel)
set_option maxRecDepth 100000 in
theorem wc_yX7_restore : Cond.code ⟨"WhoBacks", "restore", "()I"⟩ prog_1_method_30_code 1 (Option.some Jvm.ClassFile.FieldType.int) ∈ tbg := tm 843 rfl (by decide +kernel)
theorem L_L_139 : LVt RL 139 RX7 yX7_restore cX7_restore 1 (some .int) 0 := mkLVt (tm 840 (by decide +kernel) (by decide +kernel)) wm_yX7_restore wx_yX7_restore wi_RX7 wc_yX7_restore ⟨rfl, by decide +kernel, by decide +kernel, by decide +kernel⟩
theorem wm_yX7_count : Cond.instanceMethod ⟨"WhoBacks", "count", "(I)I"⟩ ∈ tbg := tm 845 (by decide +kernel) (by decide +kernel)
theorem wx_yX7_count : Cond.selects "WhoBacks" ⟨"WhoBacks", "count", "(I)I"⟩ ⟨"WhoBacks", "count", "(I)I"⟩ ∈ tbg := tm 846 (by decide +kernel) (by decide +kernel)
set_option maxRecDepth 100000 in
theorem wc_yX7_count : Cond.code ⟨"WhoBacks", "count", "(I)I"⟩ prog_1_method_31_code 2 (Option.some Jvm.ClassFile.FieldType.int) ∈ tbg := tm 847 rfl (by decide +kernel)
theorem L_L_143 : LVt RL 143 RX7 yX7_count cX7_count 2 (some .int) 1 := mkLVt (tm 844 (by decide +kernel) (by decide +kernel)) wm_yX7_count wx_yX7_count wi_RX7 wc_yX7_count ⟨rfl, by decide +kernel, by decide +kernel, by decide +kernel⟩
theorem wm_yX4_allRoom : Cond.instanceMethod ⟨"WhoBacks$Road", "allRoom", "()I"⟩ ∈ tbg := tm 849 (by decide +kernel) (by decide +kernel)
theorem wx_yX4_allRoom : Cond.selects "WhoBacks$Road" ⟨"WhoBacks$Road", "allRoom", "()I"⟩ ⟨"WhoBacks$Road", "allRoom", "()I"⟩ ∈ tbg := tm 850 (by decide +kernel) (by decide +kernel)
set_option maxRecDepth 100000 in
theorem wc_yX4_allRoom : Cond.code ⟨"WhoBacks$Road", "allRoom", "()I"⟩ prog_6_method_8_code 3 (Option.some Jvm.ClassFile.FieldType.int) ∈ tbg := tm 851 rfl (by decide +kernel)
theorem L_X7_275 : LVt RX7 275 RX4 yX4_allRoom cX4_allRoom 3 (some .int) 0 := mkLVt (tm 848 (by decide +kernel) (by decide +kernel)) wm_yX4_allRoom wx_yX4_allRoom wi_RX4 wc_yX4_allRoom ⟨rfl, by decide +kernel, by decide +kernel, by decide +kernel⟩
theorem wm_yX6_allWorth : Cond.instanceMethod ⟨"WhoBacks$Traffic", "allWorth", "()I"⟩ ∈ tbg := tm 853 (by decide +kernel) (by decide +kernel)
theorem wx_yX6_allWorth : Cond.selects "WhoBacks$Traffic" ⟨"WhoBacks$Traffic", "allWorth", "()I"⟩ ⟨"WhoBacks$Traffic", "allWorth", "()I"⟩ ∈ tbg := tm 854 (by decide +kernel) (by decide +kernel)
set_option maxRecDepth 100000 in
theorem wc_yX6_allWorth : Cond.code ⟨"WhoBacks$Traffic", "allWorth", "()I"⟩ prog_8_method_10_code 3 (Option.some Jvm.ClassFile.FieldType.int) ∈ tbg := tm 855 rfl (by decide +kernel)
theorem L_X7_278 : LVt RX7 278 RX6 yX6_allWorth cX6_allWorth 3 (some .int) 0 := mkLVt (tm 852 (by decide +kernel) (by decide +kernel)) wm_yX6_allWorth wx_yX6_allWorth wi_RX6 wc_yX6_allWorth ⟨rfl, by decide +kernel, by decide +kernel, by decide +kernel⟩
theorem wm_yX7_keep : Cond.instanceMethod ⟨"WhoBacks", "keep", "(IIII)I"⟩ ∈ tbg := tm 857 (by decide +kernel) (by decide +kernel)
theorem wx_yX7_keep : Cond.selects "WhoBacks" ⟨"WhoBacks", "keep", "(IIII)I"⟩ ⟨"WhoBacks", "keep", "(IIII)I"⟩ ∈ tbg := tm 858 (by decide +kernel) (by decide +kernel)
set_option maxRecDepth 100000 in
theorem wc_yX7_keep : Cond.code ⟨"WhoBacks", "keep", "(IIII)I"⟩ prog_1_method_32_code 6 (Option.some Jvm.ClassFile.FieldType.int) ∈ tbg := tm 859 rfl (by decide +kernel)
theorem L_L_147 : LVt RL 147 RX7 yX7_keep cX7_keep 6 (some .int) 4 := mkLVt (tm 856 (by decide +kernel) (by decide +kernel)) wm_yX7_keep wx_yX7_keep wi_RX7 wc_yX7_keep ⟨rfl, by decide +kernel, by decide +kernel, by decide +kernel⟩
theorem wm_yX7_row : Cond.instanceMethod ⟨"WhoBacks", "row", "(III)I"⟩ ∈ tbg := tm 861 (by decide +kernel) (by decide +kernel)
theorem wx_yX7_row : Cond.selects "WhoBacks" ⟨"WhoBacks", "row", "(III)I"⟩ ⟨"WhoBacks", "row", "(III)I"⟩ ∈ tbg := tm 862 (by decide +kernel) (by decide +kernel)
set_option maxRecDepth 100000 in
theorem wc_yX7_row : Cond.code ⟨"WhoBacks", "row", "(III)I"⟩ prog_1_method_33_code 5 (Option.some Jvm.ClassFile.FieldType.int) ∈ tbg := tm 863 rfl (by decide +kernel)
theorem L_L_151 : LVt RL 151 RX7 yX7_row cX7_row 5 (some .int) 3 := mkLVt (tm 860 (by decide +kernel) (by decide +kernel)) wm_yX7_row wx_yX7_row wi_RX7 wc_yX7_row ⟨rfl, by decide +kernel, by decide +kernel, by decide +kernel⟩
theorem wm_yX5_becomeRow : Cond.instanceMethod ⟨"WhoBacks$Shelf", "becomeRow", "(II)V"⟩ ∈ tbg := tm 865 (by decide +kernel) (by decide +kernel)
theorem wx_yX5_becomeRow : Cond.selects "WhoBacks$Shelf" ⟨"WhoBacks$Shelf", "becomeRow", "(II)V"⟩ ⟨"WhoBacks$Shelf", "becomeRow", "(II)V"⟩ ∈ tbg := tm 866 (by decide +kernel) (by decide +kernel)
set_option maxRecDepth 100000 in
theorem wc_yX5_becomeRow : Cond.code ⟨"WhoBacks$Shelf", "becomeRow", "(II)V"⟩ prog_7_method_2_code 4 (Option.none : Option Jvm.ClassFile.FieldType) ∈ tbg := tm 867 rfl (by decide +kernel)
theorem L_X7_281 : LVt RX7 281 RX5 yX5_becomeRow cX5_becomeRow 4 none 2 := mkLVt (tm 864 (by decide +kernel) (by decide +kernel)) wm_yX5_becomeRow wx_yX5_becomeRow wi_RX5 wc_yX5_becomeRow ⟨rfl, by decide +kernel, by decide +kernel, by decide +kernel⟩
theorem wm_yX7_put : Cond.instanceMethod ⟨"WhoBacks", "put", "(III)I"⟩ ∈ tbg := tm 869 (by decide +kernel) (by decide +kernel)
theorem wx_yX7_put : Cond.selects "WhoBacks" ⟨"WhoBacks", "put", "(III)I"⟩ ⟨"WhoBacks", "put", "(III)I"⟩ ∈ tbg := tm 870 (by decide +kernel) (by decide +kernel)
set_option maxRecDepth 100000 in
theorem wc_yX7_put : Cond.code ⟨"WhoBacks", "put", "(III)I"⟩ prog_1_method_34_code 5 (Option.some Jvm.ClassFile.FieldType.int) ∈ tbg := tm 871 rfl (by decide +kernel)
theorem L_L_155 : LVt RL 155 RX7 yX7_put cX7_put 5 (some .int) 3 := mkLVt (tm 868 (by decide +kernel) (by decide +kernel)) wm_yX7_put wx_yX7_put wi_RX7 wc_yX7_put ⟨rfl, by decide +kernel, by decide +kernel, by decide +kernel⟩
theorem wm_yX5_hasElement : Cond.instanceMethod ⟨"WhoBacks$Shelf", "hasElement", "(I)Z"⟩ ∈ tbg := tm 873 (by decide +kernel) (by decide +kernel)
theorem wx_yX5_hasElement : Cond.selects "WhoBacks$Shelf" ⟨"WhoBacks$Shelf", "hasElement", "(I)Z"⟩ ⟨"WhoBacks$Shelf", "hasElement", "(I)Z"⟩ ∈ tbg := tm 874 (by decide +kernel) (by decide +kernel)
set_option maxRecDepth 100000 in
theorem wc_yX5_hasElement : Cond.code ⟨"WhoBacks$Shelf", "hasElement", "(I)Z"⟩ prog_7_method_4_code 2 (Option.some Jvm.ClassFile.FieldType.boolean) ∈ tbg := tm 875 rfl (by decide +kernel)
theorem L_X7_284 : LVt RX7 284 RX5 yX5_hasElement cX5_hasElement 2 (some .boolean) 1 := mkLVt (tm 872 (by decide +kernel) (by decide +kernel)) wm_yX5_hasElement wx_yX5_hasElement wi_RX5 wc_yX5_hasElement ⟨rfl, by decide +kernel, by decide +kernel, by decide +kernel⟩
theorem wm_yX5_lowestBits : Cond.instanceMethod ⟨"WhoBacks$Shelf", "lowestBits", "(I)I"⟩ ∈ tbg := tm 877 (by decide +kernel) (by decide +kernel)
theorem wx_yX5_lowestBits : Cond.selects "WhoBacks$Shelf" ⟨"WhoBacks$Shelf", "lowestBits", "(I)I"⟩ ⟨"WhoBacks$Shelf", "lowestBits", "(I)I"⟩ ∈ tbg := tm 878 (by decide +kernel) (by decide +kernel)
set_option maxRecDepth 100000 in
theorem wc_yX5_lowestBits : Cond.code ⟨"WhoBacks$Shelf", "lowestBits", "(I)I"⟩ prog_7_method_7_code 2 (Option.some Jvm.ClassFile.FieldType.int) ∈ tbg := tm 879 rfl (by decide +kernel)
theorem L_X7_287 : LVt RX7 287 RX5 yX5_lowestBits cX5_lowestBits 2 (some .int) 1 := mkLVt (tm 876 (by decide +kernel) (by decide +kernel)) wm_yX5_lowestBits wx_yX5_lowestBits wi_RX5 wc_yX5_lowestBits ⟨rfl, by decide +kernel, by decide +kernel, by decide +kernel⟩
theorem wm_yX7_copy : Cond.instanceMethod ⟨"WhoBacks", "copy", "(IIIII)I"⟩ ∈ tbg := tm 881 (by decide +kernel) (by decide +kernel)
theorem wx_yX7_copy : Cond.selects "WhoBacks" ⟨"WhoBacks", "copy", "(IIIII)I"⟩ ⟨"WhoBacks", "copy", "(IIIII)I"⟩ ∈ tbg := tm 882 (by decide +kernel) (by decide +kernel)
set_option maxRecDepth 100000 in
theorem wc_yX7_copy : Cond.code ⟨"WhoBacks", "copy", "(IIIII)I"⟩ prog_1_method_36_code 8 (Option.some Jvm.ClassFile.FieldType.int) ∈ tbg := tm 883 rfl (by decide +kernel)
theorem L_L_168 : LVt RL 168 RX7 yX7_copy cX7_copy 8 (some .int) 5 := mkLVt (tm 880 (by decide +kernel) (by decide +kernel)) wm_yX7_copy wx_yX7_copy wi_RX7 wc_yX7_copy ⟨rfl, by decide +kernel, by decide +kernel, by decide +kernel⟩
theorem wm_yX5_hasElements : Cond.instanceMethod ⟨"WhoBacks$Shelf", "hasElements", "(II)Z"⟩ ∈ tbg := tm 885 (by decide +kernel) (by decide +kernel)
theorem wx_yX5_hasElements : Cond.selects "WhoBacks$Shelf" ⟨"WhoBacks$Shelf", "hasElements", "(II)Z"⟩ ⟨"WhoBacks$Shelf", "hasElements", "(II)Z"⟩ ∈ tbg := tm 886 (by decide +kernel) (by decide +kernel)
set_option maxRecDepth 100000 in
theorem wc_yX5_hasElements : Cond.code ⟨"WhoBacks$Shelf", "hasElements", "(II)Z"⟩ prog_7_method_5_code 3 (Option.some Jvm.ClassFile.FieldType.boolean) ∈ tbg := tm 887 rfl (by decide +kernel)
theorem L_X7_307 : LVt RX7 307 RX5 yX5_hasElements cX5_hasElements 3 (some .boolean) 2 := mkLVt (tm 884 (by decide +kernel) (by decide +kernel)) wm_yX5_hasElements wx_yX5_hasElements wi_RX5 wc_yX5_hasElements ⟨rfl, by decide +kernel, by decide +kernel, by decide +kernel⟩
theorem wm_yX7_words : Cond.instanceMethod ⟨"WhoBacks", "words", "(I)I"⟩ ∈ tbg := tm 890 (by decide +kernel) (by decide +kernel)
theorem wx_yX7_words : Cond.selects "WhoBacks" ⟨"WhoBacks", "words", "(I)I"⟩ ⟨"WhoBacks", "words", "(I)I"⟩ ∈ tbg := tm 891 (by decide +kernel) (by decide +kernel)
set_option maxRecDepth 100000 in
theorem wc_yX7_words : Cond.code ⟨"WhoBacks", "words", "(I)I"⟩ prog_1_method_37_code 3 (Option.some Jvm.ClassFile.FieldType.int) ∈ tbg := tm 892 rfl (by decide +kernel)
theorem L_L_172 : LVt RL 172 RX7 yX7_words cX7_words 3 (some .int) 1 := mkLVt (tm 889 (by decide +kernel) (by decide +kernel)) wm_yX7_words wx_yX7_words wi_RX7 wc_yX7_words ⟨rfl, by decide +kernel, by decide +kernel, by decide +kernel⟩
theorem ws_yX7_throwFailure : Cond.static ⟨"WhoBacks", "throwFailure", "(II)V"⟩ ∈ tbg := tm 901 (by decide +kernel) (by decide +kernel)
set_option maxRecDepth 100000 in
theorem wc_yX7_throwFailure : Cond.code ⟨"WhoBacks", "throwFailure", "(II)V"⟩ prog_1_method_45_code 2 (Option.none : Option Jvm.ClassFile.FieldType) ∈ tbg := tm 902 rfl (by decide +kernel)
theorem L_X7_316 : LSt RX7 316 yX7_throwFailure cX7_throwFailure 2 none 2 := mkLSt (tm 900 (by decide +kernel) (by decide +kernel)) ws_yX7_throwFailure wi_RX7 wc_yX7_throwFailure ⟨rfl, by decide +kernel, by decide +kernel, by decide +kernel⟩
theorem wm_yX7_element : Cond.instanceMethod ⟨"WhoBacks", "element", "(II)J"⟩ ∈ tbg := tm 1006 (by decide +kernel) (by decide +kernel)
theorem wx_yX7_element : Cond.selects "WhoBacks" ⟨"WhoBacks", "element", "(II)J"⟩ ⟨"WhoBacks", "element", "(II)J"⟩ ∈ tbg := tm 1007 (by decide +kernel) (by decide +kernel)
set_option maxRecDepth 100000 in
theorem wc_yX7_element : Cond.code ⟨"WhoBacks", "element", "(II)J"⟩ prog_1_method_35_code 4 (Option.some Jvm.ClassFile.FieldType.long) ∈ tbg := tm 1008 rfl (by decide +kernel)
theorem L_L_7 : LVt RL 7 RX7 yX7_element cX7_element 4 (some .long) 2 := mkLVt (tm 1005 (by decide +kernel) (by decide +kernel)) wm_yX7_element wx_yX7_element wi_RX7 wc_yX7_element ⟨rfl, by decide +kernel, by decide +kernel, by decide +kernel⟩
theorem wm_yX8_thrown : Cond.instanceMethod ⟨"WhoBacksModel", "thrown", "()I"⟩ ∈ tbg := tm 1092 (by decide +kernel) (by decide +kernel)
theorem wx_yX8_thrown : Cond.selects "WhoBacksModel" ⟨"WhoBacksModel", "thrown", "()I"⟩ ⟨"WhoBacksModel", "thrown", "()I"⟩ ∈ tbg := tm 1093 (by decide +kernel) (by decide +kernel)
theorem wi_RX8 : Cond.initialized "WhoBacksModel" ∈ tbg := tm 64 (by decide +kernel) (by decide +kernel)
set_option maxRecDepth 100000 in
theorem wc_yX8_thrown : Cond.code ⟨"WhoBacksModel", "thrown", "()I"⟩ prog_10_method_2_code 1 (Option.some Jvm.ClassFile.FieldType.int) ∈ tbg := tm 1094 rfl (by decide +kernel)
theorem L_L_165 : LVt RL 165 RX8 yX8_thrown cX8_thrown 1 (some .int) 0 := mkLVt (tm 1091 (by decide +kernel) (by decide +kernel)) wm_yX8_thrown wx_yX8_thrown wi_RX8 wc_yX8_thrown ⟨rfl, by decide +kernel, by decide +kernel, by decide +kernel⟩
theorem wm_yX8_road : Cond.instanceMethod ⟨"WhoBacksModel", "road", "(I)I"⟩ ∈ tbg := tm 1096 (by decide +kernel) (by decide +kernel)
theorem wx_yX8_road : Cond.selects "WhoBacksModel" ⟨"WhoBacksModel", "road", "(I)I"⟩ ⟨"WhoBacksModel", "road", "(I)I"⟩ ∈ tbg := tm 1097 (by decide +kernel) (by decide +kernel)
set_option maxRecDepth 100000 in
theorem wc_yX8_road : Cond.code ⟨"WhoBacksModel", "road", "(I)I"⟩ prog_10_method_20_code 7 (Option.some Jvm.ClassFile.FieldType.int) ∈ tbg := tm 1098 rfl (by decide +kernel)
theorem L_L_25 : LVt RL 25 RX8 yX8_road cX8_road 7 (some .int) 1 := mkLVt (tm 1095 (by decide +kernel) (by decide +kernel)) wm_yX8_road wx_yX8_road wi_RX8 wc_yX8_road ⟨rfl, by decide +kernel, by decide +kernel, by decide +kernel⟩
theorem wm_yX8_wrongRow : Cond.instanceMethod ⟨"WhoBacksModel", "wrongRow", "(II)I"⟩ ∈ tbg := tm 1101 (by decide +kernel) (by decide +kernel)
theorem wx_yX8_wrongRow : Cond.selects "WhoBacksModel" ⟨"WhoBacksModel", "wrongRow", "(II)I"⟩ ⟨"WhoBacksModel", "wrongRow", "(II)I"⟩ ∈ tbg := tm 32 (by decide +kernel) (by decide +kernel)
set_option maxRecDepth 100000 in
theorem wc_yX8_wrongRow : Cond.code ⟨"WhoBacksModel", "wrongRow", "(II)I"⟩ prog_10_method_19_code 3 (Option.some Jvm.ClassFile.FieldType.int) ∈ tbg := tm 1102 rfl (by decide +kernel)
theorem L_X8_108 : LVt RX8 108 RX8 yX8_wrongRow cX8_wrongRow 3 (some .int) 2 := mkLVt (tm 1099 (by decide +kernel) (by decide +kernel)) wm_yX8_wrongRow wx_yX8_wrongRow wi_RX8 wc_yX8_wrongRow ⟨rfl, by decide +kernel, by decide +kernel, by decide +kernel⟩
theorem ws_yX8_isShelf : Cond.static ⟨"WhoBacksModel", "isShelf", "(I)Z"⟩ ∈ tbg := tm 1104 (by decide +kernel) (by decide +kernel)
set_option maxRecDepth 100000 in
theorem wc_yX8_isShelf : Cond.code ⟨"WhoBacksModel", "isShelf", "(I)Z"⟩ prog_10_method_6_code 1 (Option.some Jvm.ClassFile.FieldType.boolean) ∈ tbg := tm 1105 rfl (by decide +kernel)
theorem L_X8_105 : LSt RX8 105 yX8_isShelf cX8_isShelf 1 (some .boolean) 1 := mkLSt (tm 1103 (by decide +kernel) (by decide +kernel)) ws_yX8_isShelf wi_RX8 wc_yX8_isShelf ⟨rfl, by decide +kernel, by decide +kernel, by decide +kernel⟩
theorem ws_yX8_isIn : Cond.static ⟨"WhoBacksModel", "isIn", "(JJJ)Z"⟩ ∈ tbg := tm 1108 (by decide +kernel) (by decide +kernel)
set_option maxRecDepth 100000 in
theorem wc_yX8_isIn : Cond.code ⟨"WhoBacksModel", "isIn", "(JJJ)Z"⟩ prog_10_method_3_code 6 (Option.some Jvm.ClassFile.FieldType.boolean) ∈ tbg := tm 1109 rfl (by decide +kernel)
theorem L_X8_53 : LSt RX8 53 yX8_isIn cX8_isIn 6 (some .boolean) 3 := mkLSt (tm 1107 (by decide +kernel) (by decide +kernel)) ws_yX8_isIn wi_RX8 wc_yX8_isIn ⟨rfl, by decide +kernel, by decide +kernel, by decide +kernel⟩
theorem wm_yX8_readsStatement : Cond.instanceMethod ⟨"WhoBacksModel", "readsStatement", "()Z"⟩ ∈ tbg := tm 1112 (by decide +kernel) (by decide +kernel)
theorem wx_yX8_readsStatement : Cond.selects "WhoBacksModel" ⟨"WhoBacksModel", "readsStatement", "()Z"⟩ ⟨"WhoBacksModel", "readsStatement", "()Z"⟩ ∈ tbg := tm 33 (by decide +kernel) (by decide +kernel)
set_option maxRecDepth 100000 in
theorem wc_yX8_readsStatement : Cond.code ⟨"WhoBacksModel", "readsStatement", "()Z"⟩ prog_10_method_16_code 2 (Option.some Jvm.ClassFile.FieldType.boolean) ∈ tbg := tm 1113 rfl (by decide +kernel)
theorem L_X8_112 : LVt RX8 112 RX8 yX8_readsStatement cX8_readsStatement 2 (some .boolean) 0 := mkLVt (tm 1110 (by decide +kernel) (by decide +kernel)) wm_yX8_readsStatement wx_yX8_readsStatement wi_RX8 wc_yX8_readsStatement ⟨rfl, by decide +kernel, by decide +kernel, by decide +kernel⟩
theorem wm_yX8_here : Cond.instanceMethod ⟨"WhoBacksModel", "here", "()I"⟩ ∈ tbg := tm 1116 (by decide +kernel) (by decide +kernel)
theorem wx_yX8_here : Cond.selects "WhoBacksModel" ⟨"WhoBacksModel", "here", "()I"⟩ ⟨"WhoBacksModel", "here", "()I"⟩ ∈ tbg := tm 34 (by decide +kernel) (by decide +kernel)
set_option maxRecDepth 100000 in
theorem wc_yX8_here : Cond.code ⟨"WhoBacksModel", "here", "()I"⟩ prog_10_method_11_code 1 (Option.some Jvm.ClassFile.FieldType.int) ∈ tbg := tm 1117 rfl (by decide +kernel)
theorem L_X8_70 : LVt RX8 70 RX8 yX8_here cX8_here 1 (some .int) 0 := mkLVt (tm 1114 (by decide +kernel) (by decide +kernel)) wm_yX8_here wx_yX8_here wi_RX8 wc_yX8_here ⟨rfl, by decide +kernel, by decide +kernel, by decide +kernel⟩
theorem wm_yX8_readsDigit : Cond.instanceMethod ⟨"WhoBacksModel", "readsDigit", "()Z"⟩ ∈ tbg := tm 1120 (by decide +kernel) (by decide +kernel)
theorem wx_yX8_readsDigit : Cond.selects "WhoBacksModel" ⟨"WhoBacksModel", "readsDigit", "()Z"⟩ ⟨"WhoBacksModel", "readsDigit", "()Z"⟩ ∈ tbg := tm 35 (by decide +kernel) (by decide +kernel)
set_option maxRecDepth 100000 in
theorem wc_yX8_readsDigit : Cond.code ⟨"WhoBacksModel", "readsDigit", "()Z"⟩ prog_10_method_14_code 1 (Option.some Jvm.ClassFile.FieldType.boolean) ∈ tbg := tm 1121 rfl (by decide +kernel)
theorem L_X8_85 : LVt RX8 85 RX8 yX8_readsDigit cX8_readsDigit 1 (some .boolean) 0 := mkLVt (tm 1118 (by decide +kernel) (by decide +kernel)) wm_yX8_readsDigit wx_yX8_readsDigit wi_RX8 wc_yX8_readsDigit ⟨rfl, by decide +kernel, by decide +kernel, by decide +kernel⟩
theorem wm_yX8_isDigit : Cond.instanceMethod ⟨"WhoBacksModel", "isDigit", "()Z"⟩ ∈ tbg := tm 1124 (by decide +kernel) (by decide +kernel)
theorem wx_yX8_isDigit : Cond.selects "WhoBacksModel" ⟨"WhoBacksModel", "isDigit", "()Z"⟩ ⟨"WhoBacksModel", "isDigit", "()Z"⟩ ∈ tbg := tm 36 (by decide +kernel) (by decide +kernel)
set_option maxRecDepth 100000 in
theorem wc_yX8_isDigit : Cond.code ⟨"WhoBacksModel", "isDigit", "()Z"⟩ prog_10_method_12_code 1 (Option.some Jvm.ClassFile.FieldType.boolean) ∈ tbg := tm 1125 rfl (by decide +kernel)
theorem L_X8_78 : LVt RX8 78 RX8 yX8_isDigit cX8_isDigit 1 (some .boolean) 0 := mkLVt (tm 1122 (by decide +kernel) (by decide +kernel)) wm_yX8_isDigit wx_yX8_isDigit wi_RX8 wc_yX8_isDigit ⟨rfl, by decide +kernel, by decide +kernel, by decide +kernel⟩
theorem wm_yX8_takes : Cond.instanceMethod ⟨"WhoBacksModel", "takes", "(I)Z"⟩ ∈ tbg := tm 1130 (by decide +kernel) (by decide +kernel)
theorem wx_yX8_takes : Cond.selects "WhoBacksModel" ⟨"WhoBacksModel", "takes", "(I)Z"⟩ ⟨"WhoBacksModel", "takes", "(I)Z"⟩ ∈ tbg := tm 37 (by decide +kernel) (by decide +kernel)
set_option maxRecDepth 100000 in
theorem wc_yX8_takes : Cond.code ⟨"WhoBacksModel", "takes", "(I)Z"⟩ prog_10_method_13_code 2 (Option.some Jvm.ClassFile.FieldType.boolean) ∈ tbg := tm 1131 rfl (by decide +kernel)
theorem L_X8_88 : LVt RX8 88 RX8 yX8_takes cX8_takes 2 (some .boolean) 1 := mkLVt (tm 1128 (by decide +kernel) (by decide +kernel)) wm_yX8_takes wx_yX8_takes wi_RX8 wc_yX8_takes ⟨rfl, by decide +kernel, by decide +kernel, by decide +kernel⟩
theorem wm_yX8_readsNumber : Cond.instanceMethod ⟨"WhoBacksModel", "readsNumber", "()Z"⟩ ∈ tbg := tm 1134 (by decide +kernel) (by decide +kernel)
theorem wx_yX8_readsNumber : Cond.selects "WhoBacksModel" ⟨"WhoBacksModel", "readsNumber", "()Z"⟩ ⟨"WhoBacksModel", "readsNumber", "()Z"⟩ ∈ tbg := tm 38 (by decide +kernel) (by decide +kernel)
set_option maxRecDepth 100000 in
theorem wc_yX8_readsNumber : Cond.code ⟨"WhoBacksModel", "readsNumber", "()Z"⟩ prog_10_method_15_code 3 (Option.some Jvm.ClassFile.FieldType.boolean) ∈ tbg := tm 1135 rfl (by decide +kernel)
theorem L_X8_92 : LVt RX8 92 RX8 yX8_readsNumber cX8_readsNumber 3 (some .boolean) 0 := mkLVt (tm 1132 (by decide +kernel) (by decide +kernel)) wm_yX8_readsNumber wx_yX8_readsNumber wi_RX8 wc_yX8_readsNumber ⟨rfl, by decide +kernel, by decide +kernel, by decide +kernel⟩
theorem wm_yX8_comes : Cond.instanceMethod ⟨"WhoBacksModel", "comes", "(I)Z"⟩ ∈ tbg := tm 1138 (by decide +kernel) (by decide +kernel)
theorem wx_yX8_comes : Cond.selects "WhoBacksModel" ⟨"WhoBacksModel", "comes", "(I)Z"⟩ ⟨"WhoBacksModel", "comes", "(I)Z"⟩ ∈ tbg := tm 39 (by decide +kernel) (by decide +kernel)
set_option maxRecDepth 100000 in
theorem wc_yX8_comes : Cond.code ⟨"WhoBacksModel", "comes", "(I)Z"⟩ prog_10_method_17_code 6 (Option.some Jvm.ClassFile.FieldType.boolean) ∈ tbg := tm 1139 rfl (by decide +kernel)
theorem L_X8_115 : LVt RX8 115 RX8 yX8_comes cX8_comes 6 (some .boolean) 1 := mkLVt (tm 1136 (by decide +kernel) (by decide +kernel)) wm_yX8_comes wx_yX8_comes wi_RX8 wc_yX8_comes ⟨rfl, by decide +kernel, by decide +kernel, by decide +kernel⟩
theorem ws_yX8_puts : Cond.static ⟨"WhoBacksModel", "puts", "([IIII)V"⟩ ∈ tbg := tm 1143 (by decide +kernel) (by decide +kernel)
set_option maxRecDepth 100000 in
theorem wc_yX8_puts : Cond.code ⟨"WhoBacksModel", "puts", "([IIII)V"⟩ prog_10_method_9_code 4 (Option.none : Option Jvm.ClassFile.FieldType) ∈ tbg := tm 1144 rfl (by decide +kernel)
theorem L_X8_97 : LSt RX8 97 yX8_puts cX8_puts 4 none 4 := mkLSt (tm 1142 (by decide +kernel) (by decide +kernel)) ws_yX8_puts wi_RX8 wc_yX8_puts ⟨rfl, by decide +kernel, by decide +kernel, by decide +kernel⟩
theorem ws_yX8_begins : Cond.static ⟨"WhoBacksModel", "begins", "([II)V"⟩ ∈ tbg := tm 1146 (by decide +kernel) (by decide +kernel)
set_option maxRecDepth 100000 in
theorem wc_yX8_begins : Cond.code ⟨"WhoBacksModel", "begins", "([II)V"⟩ prog_10_method_18_code 3 (Option.none : Option Jvm.ClassFile.FieldType) ∈ tbg := tm 1147 rfl (by decide +kernel)
theorem L_X8_101 : LSt RX8 101 yX8_begins cX8_begins 3 none 2 := mkLSt (tm 1145 (by decide +kernel) (by decide +kernel)) ws_yX8_begins wi_RX8 wc_yX8_begins ⟨rfl, by decide +kernel, by decide +kernel, by decide +kernel⟩
theorem wm_yX8_piece : Cond.instanceMethod ⟨"WhoBacksModel", "piece", "(II)I"⟩ ∈ tbg := tm 1149 (by decide +kernel) (by decide +kernel)
theorem wx_yX8_piece : Cond.selects "WhoBacksModel" ⟨"WhoBacksModel", "piece", "(II)I"⟩ ⟨"WhoBacksModel", "piece", "(II)I"⟩ ∈ tbg := tm 1150 (by decide +kernel) (by decide +kernel)
set_option maxRecDepth 100000 in
theorem wc_yX8_piece : Cond.code ⟨"WhoBacksModel", "piece", "(II)I"⟩ prog_10_method_23_code 3 (Option.some Jvm.ClassFile.FieldType.int) ∈ tbg := tm 1151 rfl (by decide +kernel)
theorem L_L_30 : LVt RL 30 RX8 yX8_piece cX8_piece 3 (some .int) 2 := mkLVt (tm 1148 (by decide +kernel) (by decide +kernel)) wm_yX8_piece wx_yX8_piece wi_RX8 wc_yX8_piece ⟨rfl, by decide +kernel, by decide +kernel, by decide +kernel⟩
theorem wm_yX8_isPiece : Cond.instanceMethod ⟨"WhoBacksModel", "isPiece", "(I)Z"⟩ ∈ tbg := tm 1154 (by decide +kernel) (by decide +kernel)
theorem wx_yX8_isPiece : Cond.selects "WhoBacksModel" ⟨"WhoBacksModel", "isPiece", "(I)Z"⟩ ⟨"WhoBacksModel", "isPiece", "(I)Z"⟩ ∈ tbg := tm 40 (by decide +kernel) (by decide +kernel)
set_option maxRecDepth 100000 in
theorem wc_yX8_isPiece : Cond.code ⟨"WhoBacksModel", "isPiece", "(I)Z"⟩ prog_10_method_4_code 2 (Option.some Jvm.ClassFile.FieldType.boolean) ∈ tbg := tm 1155 rfl (by decide +kernel)
theorem L_X8_122 : LVt RX8 122 RX8 yX8_isPiece cX8_isPiece 2 (some .boolean) 1 := mkLVt (tm 1152 (by decide +kernel) (by decide +kernel)) wm_yX8_isPiece wx_yX8_isPiece wi_RX8 wc_yX8_isPiece ⟨rfl, by decide +kernel, by decide +kernel, by decide +kernel⟩
theorem ws_yX8_spotOf : Cond.static ⟨"WhoBacksModel", "spotOf", "([II)I"⟩ ∈ tbg := tm 1158 (by decide +kernel) (by decide +kernel)
set_option maxRecDepth 100000 in
theorem wc_yX8_spotOf : Cond.code ⟨"WhoBacksModel", "spotOf", "([II)I"⟩ prog_10_method_21_code 4 (Option.some Jvm.ClassFile.FieldType.int) ∈ tbg := tm 1159 rfl (by decide +kernel)
theorem L_X8_118 : LSt RX8 118 yX8_spotOf cX8_spotOf 4 (some .int) 2 := mkLSt (tm 1157 (by decide +kernel) (by decide +kernel)) ws_yX8_spotOf wi_RX8 wc_yX8_spotOf ⟨rfl, by decide +kernel, by decide +kernel, by decide +kernel⟩
theorem wm_yX8_room : Cond.instanceMethod ⟨"WhoBacksModel", "room", "(I)I"⟩ ∈ tbg := tm 1161 (by decide +kernel) (by decide +kernel)
theorem wx_yX8_room : Cond.selects "WhoBacksModel" ⟨"WhoBacksModel", "room", "(I)I"⟩ ⟨"WhoBacksModel", "room", "(I)I"⟩ ∈ tbg := tm 1162 (by decide +kernel) (by decide +kernel)
set_option maxRecDepth 100000 in
theorem wc_yX8_room : Cond.code ⟨"WhoBacksModel", "room", "(I)I"⟩ prog_10_method_24_code 2 (Option.some Jvm.ClassFile.FieldType.int) ∈ tbg := tm 1163 rfl (by decide +kernel)
theorem L_L_34 : LVt RL 34 RX8 yX8_room cX8_room 2 (some .int) 1 := mkLVt (tm 1160 (by decide +kernel) (by decide +kernel)) wm_yX8_room wx_yX8_room wi_RX8 wc_yX8_room ⟨rfl, by decide +kernel, by decide +kernel, by decide +kernel⟩
theorem wm_yX8_cart : Cond.instanceMethod ⟨"WhoBacksModel", "cart", "(II)I"⟩ ∈ tbg := tm 1165 (by decide +kernel) (by decide +kernel)
theorem wx_yX8_cart : Cond.selects "WhoBacksModel" ⟨"WhoBacksModel", "cart", "(II)I"⟩ ⟨"WhoBacksModel", "cart", "(II)I"⟩ ∈ tbg := tm 1166 (by decide +kernel) (by decide +kernel)
set_option maxRecDepth 100000 in
theorem wc_yX8_cart : Cond.code ⟨"WhoBacksModel", "cart", "(II)I"⟩ prog_10_method_25_code 3 (Option.some Jvm.ClassFile.FieldType.int) ∈ tbg := tm 1167 rfl (by decide +kernel)
theorem L_L_38 : LVt RL 38 RX8 yX8_cart cX8_cart 3 (some .int) 2 := mkLVt (tm 1164 (by decide +kernel) (by decide +kernel)) wm_yX8_cart wx_yX8_cart wi_RX8 wc_yX8_cart ⟨rfl, by decide +kernel, by decide +kernel, by decide +kernel⟩
theorem wm_yX8_isCart : Cond.instanceMethod ⟨"WhoBacksModel", "isCart", "(I)Z"⟩ ∈ tbg := tm 1170 (by decide +kernel) (by decide +kernel)
theorem wx_yX8_isCart : Cond.selects "WhoBacksModel" ⟨"WhoBacksModel", "isCart", "(I)Z"⟩ ⟨"WhoBacksModel", "isCart", "(I)Z"⟩ ∈ tbg := tm 41 (by decide +kernel) (by decide +kernel)
set_option maxRecDepth 100000 in
theorem wc_yX8_isCart : Cond.code ⟨"WhoBacksModel", "isCart", "(I)Z"⟩ prog_10_method_5_code 2 (Option.some Jvm.ClassFile.FieldType.boolean) ∈ tbg := tm 1171 rfl (by decide +kernel)
theorem L_X8_127 : LVt RX8 127 RX8 yX8_isCart cX8_isCart 2 (some .boolean) 1 := mkLVt (tm 1168 (by decide +kernel) (by decide +kernel)) wm_yX8_isCart wx_yX8_isCart wi_RX8 wc_yX8_isCart ⟨rfl, by decide +kernel, by decide +kernel, by decide +kernel⟩
theorem ws_yX8_get : Cond.static ⟨"WhoBacksModel", "get", "([III)I"⟩ ∈ tbg := tm 1173 (by decide +kernel) (by decide +kernel)
set_option maxRecDepth 100000 in
theorem wc_yX8_get : Cond.code ⟨"WhoBacksModel", "get", "([III)I"⟩ prog_10_method_8_code 3 (Option.some Jvm.ClassFile.FieldType.int) ∈ tbg := tm 1174 rfl (by decide +kernel)
theorem L_X8_130 : LSt RX8 130 yX8_get cX8_get 3 (some .int) 3 := mkLSt (tm 1172 (by decide +kernel) (by decide +kernel)) ws_yX8_get wi_RX8 wc_yX8_get ⟨rfl, by decide +kernel, by decide +kernel, by decide +kernel⟩
theorem wm_yX8_backs : Cond.instanceMethod ⟨"WhoBacksModel", "backs", "(II)I"⟩ ∈ tbg := tm 1176 (by decide +kernel) (by decide +kernel)
theorem wx_yX8_backs : Cond.selects "WhoBacksModel" ⟨"WhoBacksModel", "backs", "(II)I"⟩ ⟨"WhoBacksModel", "backs", "(II)I"⟩ ∈ tbg := tm 1177 (by decide +kernel) (by decide +kernel)
set_option maxRecDepth 100000 in
theorem wc_yX8_backs : Cond.code ⟨"WhoBacksModel", "backs", "(II)I"⟩ prog_10_method_26_code 4 (Option.some Jvm.ClassFile.FieldType.int) ∈ tbg := tm 1178 rfl (by decide +kernel)
theorem L_L_42 : LVt RL 42 RX8 yX8_backs cX8_backs 4 (some .int) 2 := mkLVt (tm 1175 (by decide +kernel) (by decide +kernel)) wm_yX8_backs wx_yX8_backs wi_RX8 wc_yX8_backs ⟨rfl, by decide +kernel, by decide +kernel, by decide +kernel⟩
theorem wm_yX8_village : Cond.instanceMethod ⟨"WhoBacksModel", "village", "(II)I"⟩ ∈ tbg := tm 1180 (by decide +kernel) (by decide +kernel)
theorem wx_yX8_village : Cond.selects "WhoBacksModel" ⟨"WhoBacksModel", "village", "(II)I"⟩ ⟨"WhoBacksModel", "village", "(II)I"⟩ ∈ tbg := tm 1181 (by decide +kernel) (by decide +kernel)
set_option maxRecDepth 100000 in
theorem wc_yX8_village : Cond.code ⟨"WhoBacksModel", "village", "(II)I"⟩ prog_10_method_27_code 3 (Option.some Jvm.ClassFile.FieldType.int) ∈ tbg := tm 1182 rfl (by decide +kernel)
theorem L_L_46 : LVt RL 46 RX8 yX8_village cX8_village 3 (some .int) 2 := mkLVt (tm 1179 (by decide +kernel) (by decide +kernel)) wm_yX8_village wx_yX8_village wi_RX8 wc_yX8_village ⟨rfl, by decide +kernel, by decide +kernel, by decide +kernel⟩
theorem ws_yX8_isVillage : Cond.static ⟨"WhoBacksModel", "isVillage", "(I)Z"⟩ ∈ tbg := tm 1184 (by decide +kernel) (by decide +kernel)
set_option maxRecDepth 100000 in
theorem wc_yX8_isVillage : Cond.code ⟨"WhoBacksModel", "isVillage", "(I)Z"⟩ prog_10_method_7_code 1 (Option.some Jvm.ClassFile.FieldType.boolean) ∈ tbg := tm 1185 rfl (by decide +kernel)
theorem L_X8_134 : LSt RX8 134 yX8_isVillage cX8_isVillage 1 (some .boolean) 1 := mkLSt (tm 1183 (by decide +kernel) (by decide +kernel)) ws_yX8_isVillage wi_RX8 wc_yX8_isVillage ⟨rfl, by decide +kernel, by decide +kernel, by decide +kernel⟩
theorem wm_yX8_rule : Cond.instanceMethod ⟨"WhoBacksModel", "rule", "(II)I"⟩ ∈ tbg := tm 1187 (by decide +kernel) (by decide +kernel)
theorem wx_yX8_rule : Cond.selects "WhoBacksModel" ⟨"WhoBacksModel", "rule", "(II)I"⟩ ⟨"WhoBacksModel", "rule", "(II)I"⟩ ∈ tbg := tm 1188 (by decide +kernel) (by decide +kernel)
set_option maxRecDepth 100000 in
theorem wc_yX8_rule : Cond.code ⟨"WhoBacksModel", "rule", "(II)I"⟩ prog_10_method_29_code 4 (Option.some Jvm.ClassFile.FieldType.int) ∈ tbg := tm 1189 rfl (by decide +kernel)
theorem L_L_50 : LVt RL 50 RX8 yX8_rule cX8_rule 4 (some .int) 2 := mkLVt (tm 1186 (by decide +kernel) (by decide +kernel)) wm_yX8_rule wx_yX8_rule wi_RX8 wc_yX8_rule ⟨rfl, by decide +kernel, by decide +kernel, by decide +kernel⟩
theorem wm_yX8_wrongRule : Cond.instanceMethod ⟨"WhoBacksModel", "wrongRule", "(I)I"⟩ ∈ tbg := tm 1192 (by decide +kernel) (by decide +kernel)
theorem wx_yX8_wrongRule : Cond.selects "WhoBacksModel" ⟨"WhoBacksModel", "wrongRule", "(I)I"⟩ ⟨"WhoBacksModel", "wrongRule", "(I)I"⟩ ∈ tbg := tm 42 (by decide +kernel) (by decide +kernel)
set_option maxRecDepth 100000 in
theorem wc_yX8_wrongRule : Cond.code ⟨"WhoBacksModel", "wrongRule", "(I)I"⟩ prog_10_method_28_code 2 (Option.some Jvm.ClassFile.FieldType.int) ∈ tbg := tm 1193 rfl (by decide +kernel)
theorem L_X8_137 : LVt RX8 137 RX8 yX8_wrongRule cX8_wrongRule 2 (some .int) 1 := mkLVt (tm 1190 (by decide +kernel) (by decide +kernel)) wm_yX8_wrongRule wx_yX8_wrongRule wi_RX8 wc_yX8_wrongRule ⟨rfl, by decide +kernel, by decide +kernel, by decide +kernel⟩
theorem wm_yX8_go : Cond.instanceMethod ⟨"WhoBacksModel", "go", "(I)I"⟩ ∈ tbg := tm 1195 (by decide +kernel) (by decide +kernel)
theorem wx_yX8_go : Cond.selects "WhoBacksModel" ⟨"WhoBacksModel", "go", "(I)I"⟩ ⟨"WhoBacksModel", "go", "(I)I"⟩ ∈ tbg := tm 1196 (by decide +kernel) (by decide +kernel)
set_option maxRecDepth 100000 in
theorem wc_yX8_go : Cond.code ⟨"WhoBacksModel", "go", "(I)I"⟩ prog_10_method_52_code 3 (Option.some Jvm.ClassFile.FieldType.int) ∈ tbg := tm 1197 rfl (by decide +kernel)
theorem L_L_54 : LVt RL 54 RX8 yX8_go cX8_go 3 (some .int) 1 := mkLVt (tm 1194 (by decide +kernel) (by decide +kernel)) wm_yX8_go wx_yX8_go wi_RX8 wc_yX8_go ⟨rfl, by decide +kernel, by decide +kernel, by decide +kernel⟩
theorem wm_yX8_isEmpty : Cond.instanceMethod ⟨"WhoBacksModel", "isEmpty", "()Z"⟩ ∈ tbg := tm 1201 (by decide +kernel) (by decide +kernel)
theorem wx_yX8_isEmpty : Cond.selects "WhoBacksModel" ⟨"WhoBacksModel", "isEmpty", "()Z"⟩ ⟨"WhoBacksModel", "isEmpty", "()Z"⟩ ∈ tbg := tm 43 (by decide +kernel) (by decide +kernel)
set_option maxRecDepth 100000 in
theorem wc_yX8_isEmpty : Cond.code ⟨"WhoBacksModel", "isEmpty", "()Z"⟩ prog_10_method_51_code 1 (Option.some Jvm.ClassFile.FieldType.boolean) ∈ tbg := tm 1202 rfl (by decide +kernel)
theorem L_X8_221 : LVt RX8 221 RX8 yX8_isEmpty cX8_isEmpty 1 (some .boolean) 0 := mkLVt (tm 1199 (by decide +kernel) (by decide +kernel)) wm_yX8_isEmpty wx_yX8_isEmpty wi_RX8 wc_yX8_isEmpty ⟨rfl, by decide +kernel, by decide +kernel, by decide +kernel⟩
theorem ws_yX8_isEnded : Cond.static ⟨"WhoBacksModel", "isEnded", "([I)Z"⟩ ∈ tbg := tm 1204 (by decide +kernel) (by decide +kernel)
set_option maxRecDepth 100000 in
theorem wc_yX8_isEnded : Cond.code ⟨"WhoBacksModel", "isEnded", "([I)Z"⟩ prog_10_method_50_code 1 (Option.some Jvm.ClassFile.FieldType.boolean) ∈ tbg := tm 1205 rfl (by decide +kernel)
theorem L_X8_224 : LSt RX8 224 yX8_isEnded cX8_isEnded 1 (some .boolean) 1 := mkLSt (tm 1203 (by decide +kernel) (by decide +kernel)) ws_yX8_isEnded wi_RX8 wc_yX8_isEnded ⟨rfl, by decide +kernel, by decide +kernel, by decide +kernel⟩
theorem ws_yX8_doneOf : Cond.static ⟨"WhoBacksModel", "doneOf", "([I)I"⟩ ∈ tbg := tm 1207 (by decide +kernel) (by decide +kernel)
set_option maxRecDepth 100000 in
theorem wc_yX8_doneOf : Cond.code ⟨"WhoBacksModel", "doneOf", "([I)I"⟩ prog_10_method_48_code 3 (Option.some Jvm.ClassFile.FieldType.int) ∈ tbg := tm 1208 rfl (by decide +kernel)
theorem L_X8_212 : LSt RX8 212 yX8_doneOf cX8_doneOf 3 (some .int) 1 := mkLSt (tm 1206 (by decide +kernel) (by decide +kernel)) ws_yX8_doneOf wi_RX8 wc_yX8_doneOf ⟨rfl, by decide +kernel, by decide +kernel, by decide +kernel⟩
theorem ws_yX8_stands : Cond.static ⟨"WhoBacksModel", "stands", "([I)Z"⟩ ∈ tbg := tm 1210 (by decide +kernel) (by decide +kernel)
set_option maxRecDepth 100000 in
theorem wc_yX8_stands : Cond.code ⟨"WhoBacksModel", "stands", "([I)Z"⟩ prog_10_method_49_code 2 (Option.some Jvm.ClassFile.FieldType.boolean) ∈ tbg := tm 1211 rfl (by decide +kernel)
theorem L_X8_215 : LSt RX8 215 yX8_stands cX8_stands 2 (some .boolean) 1 := mkLSt (tm 1209 (by decide +kernel) (by decide +kernel)) ws_yX8_stands wi_RX8 wc_yX8_stands ⟨rfl, by decide +kernel, by decide +kernel, by decide +kernel⟩
theorem wm_yX8_minute : Cond.instanceMethod ⟨"WhoBacksModel", "minute", "([I)V"⟩ ∈ tbg := tm 1214 (by decide +kernel) (by decide +kernel)
theorem wx_yX8_minute : Cond.selects "WhoBacksModel" ⟨"WhoBacksModel", "minute", "([I)V"⟩ ⟨"WhoBacksModel", "minute", "([I)V"⟩ ∈ tbg := tm 44 (by decide +kernel) (by decide +kernel)
set_option maxRecDepth 100000 in
theorem wc_yX8_minute : Cond.code ⟨"WhoBacksModel", "minute", "([I)V"⟩ prog_10_method_47_code 3 (Option.none : Option Jvm.ClassFile.FieldType) ∈ tbg := tm 1215 rfl (by decide +kernel)
theorem L_X8_227 : LVt RX8 227 RX8 yX8_minute cX8_minute 3 none 1 := mkLVt (tm 1212 (by decide +kernel) (by decide +kernel)) wm_yX8_minute wx_yX8_minute wi_RX8 wc_yX8_minute ⟨rfl, by decide +kernel, by decide +kernel, by decide +kernel⟩
theorem wm_yX8_acts : Cond.instanceMethod ⟨"WhoBacksModel", "acts", "([II)V"⟩ ∈ tbg := tm 1218 (by decide +kernel) (by decide +kernel)
theorem wx_yX8_acts : Cond.selects "WhoBacksModel" ⟨"WhoBacksModel", "acts", "([II)V"⟩ ⟨"WhoBacksModel", "acts", "([II)V"⟩ ∈ tbg := tm 45 (by decide +kernel) (by decide +kernel)
set_option maxRecDepth 100000 in
theorem wc_yX8_acts : Cond.code ⟨"WhoBacksModel", "acts", "([II)V"⟩ prog_10_method_46_code 3 (Option.none : Option Jvm.ClassFile.FieldType) ∈ tbg := tm 1219 rfl (by decide +kernel)
theorem L_X8_209 : LVt RX8 209 RX8 yX8_acts cX8_acts 3 none 2 := mkLVt (tm 1216 (by decide +kernel) (by decide +kernel)) wm_yX8_acts wx_yX8_acts wi_RX8 wc_yX8_acts ⟨rfl, by decide +kernel, by decide +kernel, by decide +kernel⟩
theorem ws_yX8_origin : Cond.static ⟨"WhoBacksModel", "origin", "([II)I"⟩ ∈ tbg := tm 1221 (by decide +kernel) (by decide +kernel)
set_option maxRecDepth 100000 in
theorem wc_yX8_origin : Cond.code ⟨"WhoBacksModel", "origin", "([II)I"⟩ prog_10_method_33_code 2 (Option.some Jvm.ClassFile.FieldType.int) ∈ tbg := tm 1222 rfl (by decide +kernel)
theorem L_X8_154 : LSt RX8 154 yX8_origin cX8_origin 2 (some .int) 2 := mkLSt (tm 1220 (by decide +kernel) (by decide +kernel)) ws_yX8_origin wi_RX8 wc_yX8_origin ⟨rfl, by decide +kernel, by decide +kernel, by decide +kernel⟩
theorem ws_yX8_endOf : Cond.static ⟨"WhoBacksModel", "endOf", "([I)I"⟩ ∈ tbg := tm 1224 (by decide +kernel) (by decide +kernel)
set_option maxRecDepth 100000 in
theorem wc_yX8_endOf : Cond.code ⟨"WhoBacksModel", "endOf", "([I)I"⟩ prog_10_method_22_code 1 (Option.some Jvm.ClassFile.FieldType.int) ∈ tbg := tm 1225 rfl (by decide +kernel)
theorem L_X8_141 : LSt RX8 141 yX8_endOf cX8_endOf 1 (some .int) 1 := mkLSt (tm 1223 (by decide +kernel) (by decide +kernel)) ws_yX8_endOf wi_RX8 wc_yX8_endOf ⟨rfl, by decide +kernel, by decide +kernel, by decide +kernel⟩
theorem ws_yX8_isOn : Cond.static ⟨"WhoBacksModel", "isOn", "([II)Z"⟩ ∈ tbg := tm 1227 (by decide +kernel) (by decide +kernel)
set_option maxRecDepth 100000 in
theorem wc_yX8_isOn : Cond.code ⟨"WhoBacksModel", "isOn", "([II)Z"⟩ prog_10_method_31_code 2 (Option.some Jvm.ClassFile.FieldType.boolean) ∈ tbg := tm 1228 rfl (by decide +kernel)
theorem L_X8_157 : LSt RX8 157 yX8_isOn cX8_isOn 2 (some .boolean) 2 := mkLSt (tm 1226 (by decide +kernel) (by decide +kernel)) ws_yX8_isOn wi_RX8 wc_yX8_isOn ⟨rfl, by decide +kernel, by decide +kernel, by decide +kernel⟩
theorem wm_yX8_goesBack : Cond.instanceMethod ⟨"WhoBacksModel", "goesBack", "([II)V"⟩ ∈ tbg := tm 1231 (by decide +kernel) (by decide +kernel)
theorem wx_yX8_goesBack : Cond.selects "WhoBacksModel" ⟨"WhoBacksModel", "goesBack", "([II)V"⟩ ⟨"WhoBacksModel", "goesBack", "([II)V"⟩ ∈ tbg := tm 46 (by decide +kernel) (by decide +kernel)
set_option maxRecDepth 100000 in
theorem wc_yX8_goesBack : Cond.code ⟨"WhoBacksModel", "goesBack", "([II)V"⟩ prog_10_method_44_code 6 (Option.none : Option Jvm.ClassFile.FieldType) ∈ tbg := tm 1232 rfl (by decide +kernel)
theorem L_X8_203 : LVt RX8 203 RX8 yX8_goesBack cX8_goesBack 6 none 2 := mkLVt (tm 1229 (by decide +kernel) (by decide +kernel)) wm_yX8_goesBack wx_yX8_goesBack wi_RX8 wc_yX8_goesBack ⟨rfl, by decide +kernel, by decide +kernel, by decide +kernel⟩
theorem ws_yX8_placeAt : Cond.static ⟨"WhoBacksModel", "placeAt", "([II)I"⟩ ∈ tbg := tm 1234 (by decide +kernel) (by decide +kernel)
set_option maxRecDepth 100000 in
theorem wc_yX8_placeAt : Cond.code ⟨"WhoBacksModel", "placeAt", "([II)I"⟩ prog_10_method_30_code 4 (Option.some Jvm.ClassFile.FieldType.int) ∈ tbg := tm 1235 rfl (by decide +kernel)
theorem L_X8_145 : LSt RX8 145 yX8_placeAt cX8_placeAt 4 (some .int) 2 := mkLSt (tm 1233 (by decide +kernel) (by decide +kernel)) ws_yX8_placeAt wi_RX8 wc_yX8_placeAt ⟨rfl, by decide +kernel, by decide +kernel, by decide +kernel⟩
theorem ws_yX8_hasRoom : Cond.static ⟨"WhoBacksModel", "hasRoom", "([II)Z"⟩ ∈ tbg := tm 1237 (by decide +kernel) (by decide +kernel)
set_option maxRecDepth 100000 in
theorem wc_yX8_hasRoom : Cond.code ⟨"WhoBacksModel", "hasRoom", "([II)Z"⟩ prog_10_method_35_code 3 (Option.some Jvm.ClassFile.FieldType.boolean) ∈ tbg := tm 1238 rfl (by decide +kernel)
theorem L_X8_174 : LSt RX8 174 yX8_hasRoom cX8_hasRoom 3 (some .boolean) 2 := mkLSt (tm 1236 (by decide +kernel) (by decide +kernel)) ws_yX8_hasRoom wi_RX8 wc_yX8_hasRoom ⟨rfl, by decide +kernel, by decide +kernel, by decide +kernel⟩
theorem ws_yX8_cartsAt : Cond.static ⟨"WhoBacksModel", "cartsAt", "([II)I"⟩ ∈ tbg := tm 1240 (by decide +kernel) (by decide +kernel)
set_option maxRecDepth 100000 in
theorem wc_yX8_cartsAt : Cond.code ⟨"WhoBacksModel", "cartsAt", "([II)I"⟩ prog_10_method_34_code 4 (Option.some Jvm.ClassFile.FieldType.int) ∈ tbg := tm 1241 rfl (by decide +kernel)
theorem L_X8_148 : LSt RX8 148 yX8_cartsAt cX8_cartsAt 4 (some .int) 2 := mkLSt (tm 1239 (by decide +kernel) (by decide +kernel)) ws_yX8_cartsAt wi_RX8 wc_yX8_cartsAt ⟨rfl, by decide +kernel, by decide +kernel, by decide +kernel⟩
theorem ws_yX8_backs_ : Cond.static ⟨"WhoBacksModel", "backs", "([II)V"⟩ ∈ tbg := tm 1243 (by decide +kernel) (by decide +kernel)
set_option maxRecDepth 100000 in
theorem wc_yX8_backs_ : Cond.code ⟨"WhoBacksModel", "backs", "([II)V"⟩ prog_10_method_43_code 2 (Option.none : Option Jvm.ClassFile.FieldType) ∈ tbg := tm 1244 rfl (by decide +kernel)
theorem L_X8_181 : LSt RX8 181 yX8_backs_ cX8_backs_ 2 none 2 := mkLSt (tm 1242 (by decide +kernel) (by decide +kernel)) ws_yX8_backs_ wi_RX8 wc_yX8_backs_ ⟨rfl, by decide +kernel, by decide +kernel, by decide +kernel⟩
theorem wm_yX8_goesOn : Cond.instanceMethod ⟨"WhoBacksModel", "goesOn", "([II)V"⟩ ∈ tbg := tm 1247 (by decide +kernel) (by decide +kernel)
theorem wx_yX8_goesOn : Cond.selects "WhoBacksModel" ⟨"WhoBacksModel", "goesOn", "([II)V"⟩ ⟨"WhoBacksModel", "goesOn", "([II)V"⟩ ∈ tbg := tm 47 (by decide +kernel) (by decide +kernel)
set_option maxRecDepth 100000 in
theorem wc_yX8_goesOn : Cond.code ⟨"WhoBacksModel", "goesOn", "([II)V"⟩ prog_10_method_45_code 9 (Option.none : Option Jvm.ClassFile.FieldType) ∈ tbg := tm 1248 rfl (by decide +kernel)
theorem L_X8_206 : LVt RX8 206 RX8 yX8_goesOn cX8_goesOn 9 none 2 := mkLVt (tm 1245 (by decide +kernel) (by decide +kernel)) wm_yX8_goesOn wx_yX8_goesOn wi_RX8 wc_yX8_goesOn ⟨rfl, by decide +kernel, by decide +kernel, by decide +kernel⟩
theorem ws_yX8_pieceFrom : Cond.static ⟨"WhoBacksModel", "pieceFrom", "([III)I"⟩ ∈ tbg := tm 1250 (by decide +kernel) (by decide +kernel)
set_option maxRecDepth 100000 in
theorem wc_yX8_pieceFrom : Cond.code ⟨"WhoBacksModel", "pieceFrom", "([III)I"⟩ prog_10_method_36_code 5 (Option.some Jvm.ClassFile.FieldType.int) ∈ tbg := tm 1251 rfl (by decide +kernel)
theorem L_X8_161 : LSt RX8 161 yX8_pieceFrom cX8_pieceFrom 5 (some .int) 3 := mkLSt (tm 1249 (by decide +kernel) (by decide +kernel)) ws_yX8_pieceFrom wi_RX8 wc_yX8_pieceFrom ⟨rfl, by decide +kernel, by decide +kernel, by decide +kernel⟩
theorem ws_yX8_entersBy : Cond.static ⟨"WhoBacksModel", "entersBy", "([III)Z"⟩ ∈ tbg := tm 1253 (by decide +kernel) (by decide +kernel)
set_option maxRecDepth 100000 in
theorem wc_yX8_entersBy : Cond.code ⟨"WhoBacksModel", "entersBy", "([III)Z"⟩ prog_10_method_38_code 12 (Option.some Jvm.ClassFile.FieldType.boolean) ∈ tbg := tm 1254 rfl (by decide +kernel)
theorem L_X8_184 : LSt RX8 184 yX8_entersBy cX8_entersBy 12 (some .boolean) 3 := mkLSt (tm 1252 (by decide +kernel) (by decide +kernel)) ws_yX8_entersBy wi_RX8 wc_yX8_entersBy ⟨rfl, by decide +kernel, by decide +kernel, by decide +kernel⟩
theorem ws_yX8_kindOf : Cond.static ⟨"WhoBacksModel", "kindOf", "([II)I"⟩ ∈ tbg := tm 1256 (by decide +kernel) (by decide +kernel)
set_option maxRecDepth 100000 in
theorem wc_yX8_kindOf : Cond.code ⟨"WhoBacksModel", "kindOf", "([II)I"⟩ prog_10_method_37_code 2 (Option.some Jvm.ClassFile.FieldType.int) ∈ tbg := tm 1257 rfl (by decide +kernel)
theorem L_X8_151 : LSt RX8 151 yX8_kindOf cX8_kindOf 2 (some .int) 2 := mkLSt (tm 1255 (by decide +kernel) (by decide +kernel)) ws_yX8_kindOf wi_RX8 wc_yX8_kindOf ⟨rfl, by decide +kernel, by decide +kernel, by decide +kernel⟩
theorem ws_yX8_goal : Cond.static ⟨"WhoBacksModel", "goal", "([II)I"⟩ ∈ tbg := tm 1259 (by decide +kernel) (by decide +kernel)
set_option maxRecDepth 100000 in
theorem wc_yX8_goal : Cond.code ⟨"WhoBacksModel", "goal", "([II)I"⟩ prog_10_method_32_code 2 (Option.some Jvm.ClassFile.FieldType.int) ∈ tbg := tm 1260 rfl (by decide +kernel)
theorem L_X8_188 : LSt RX8 188 yX8_goal cX8_goal 2 (some .int) 2 := mkLSt (tm 1258 (by decide +kernel) (by decide +kernel)) ws_yX8_goal wi_RX8 wc_yX8_goal ⟨rfl, by decide +kernel, by decide +kernel, by decide +kernel⟩
theorem ws_yX8_backsOf : Cond.static ⟨"WhoBacksModel", "backsOf", "([IIIII)I"⟩ ∈ tbg := tm 1262 (by decide +kernel) (by decide +kernel)
set_option maxRecDepth 100000 in
theorem wc_yX8_backsOf : Cond.code ⟨"WhoBacksModel", "backsOf", "([IIIII)I"⟩ prog_10_method_42_code 7 (Option.some Jvm.ClassFile.FieldType.int) ∈ tbg := tm 1263 rfl (by decide +kernel)
theorem L_X8_200 : LSt RX8 200 yX8_backsOf cX8_backsOf 7 (some .int) 5 := mkLSt (tm 1261 (by decide +kernel) (by decide +kernel)) ws_yX8_backsOf wi_RX8 wc_yX8_backsOf ⟨rfl, by decide +kernel, by decide +kernel, by decide +kernel⟩
theorem ws_yX8_toldBy : Cond.static ⟨"WhoBacksModel", "toldBy", "([IIIII)I"⟩ ∈ tbg := tm 1265 (by decide +kernel) (by decide +kernel)
set_option maxRecDepth 100000 in
theorem wc_yX8_toldBy : Cond.code ⟨"WhoBacksModel", "toldBy", "([IIIII)I"⟩ prog_10_method_41_code 7 (Option.some Jvm.ClassFile.FieldType.int) ∈ tbg := tm 1266 rfl (by decide +kernel)
theorem L_X8_167 : LSt RX8 167 yX8_toldBy cX8_toldBy 7 (some .int) 5 := mkLSt (tm 1264 (by decide +kernel) (by decide +kernel)) ws_yX8_toldBy wi_RX8 wc_yX8_toldBy ⟨rfl, by decide +kernel, by decide +kernel, by decide +kernel⟩
theorem ws_yX8_behind : Cond.static ⟨"WhoBacksModel", "behind", "([II)I"⟩ ∈ tbg := tm 1268 (by decide +kernel) (by decide +kernel)
set_option maxRecDepth 100000 in
theorem wc_yX8_behind : Cond.code ⟨"WhoBacksModel", "behind", "([II)I"⟩ prog_10_method_39_code 4 (Option.some Jvm.ClassFile.FieldType.int) ∈ tbg := tm 1269 rfl (by decide +kernel)
theorem L_X8_164 : LSt RX8 164 yX8_behind cX8_behind 4 (some .int) 2 := mkLSt (tm 1267 (by decide +kernel) (by decide +kernel)) ws_yX8_behind wi_RX8 wc_yX8_behind ⟨rfl, by decide +kernel, by decide +kernel, by decide +kernel⟩
theorem ws_yX8_falls : Cond.static ⟨"WhoBacksModel", "falls", "([III)I"⟩ ∈ tbg := tm 1271 (by decide +kernel) (by decide +kernel)
set_option maxRecDepth 100000 in
theorem wc_yX8_falls : Cond.code ⟨"WhoBacksModel", "falls", "([III)I"⟩ prog_10_method_40_code 3 (Option.some Jvm.ClassFile.FieldType.int) ∈ tbg := tm 1272 rfl (by decide +kernel)
theorem L_X8_171 : LSt RX8 171 yX8_falls cX8_falls 3 (some .int) 3 := mkLSt (tm 1270 (by decide +kernel) (by decide +kernel)) ws_yX8_falls wi_RX8 wc_yX8_falls ⟨rfl, by decide +kernel, by decide +kernel, by decide +kernel⟩
theorem wm_yX8_anew : Cond.instanceMethod ⟨"WhoBacksModel", "anew", "()I"⟩ ∈ tbg := tm 1274 (by decide +kernel) (by decide +kernel)
theorem wx_yX8_anew : Cond.selects "WhoBacksModel" ⟨"WhoBacksModel", "anew", "()I"⟩ ⟨"WhoBacksModel", "anew", "()I"⟩ ∈ tbg := tm 1275 (by decide +kernel) (by decide +kernel)
set_option maxRecDepth 100000 in
theorem wc_yX8_anew : Cond.code ⟨"WhoBacksModel", "anew", "()I"⟩ prog_10_method_54_code 1 (Option.some Jvm.ClassFile.FieldType.int) ∈ tbg := tm 1276 rfl (by decide +kernel)
theorem L_L_59 : LVt RL 59 RX8 yX8_anew cX8_anew 1 (some .int) 0 := mkLVt (tm 1273 (by decide +kernel) (by decide +kernel)) wm_yX8_anew wx_yX8_anew wi_RX8 wc_yX8_anew ⟨rfl, by decide +kernel, by decide +kernel, by decide +kernel⟩
theorem ws_yX8_anews : Cond.static ⟨"WhoBacksModel", "anews", "([I)V"⟩ ∈ tbg := tm 1278 (by decide +kernel) (by decide +kernel)
set_option maxRecDepth 100000 in
theorem wc_yX8_anews : Cond.code ⟨"WhoBacksModel", "anews", "([I)V"⟩ prog_10_method_53_code 2 (Option.none : Option Jvm.ClassFile.FieldType) ∈ tbg := tm 1279 rfl (by decide +kernel)
theorem L_X8_231 : LSt RX8 231 yX8_anews cX8_anews 2 none 1 := mkLSt (tm 1277 (by decide +kernel) (by decide +kernel)) ws_yX8_anews wi_RX8 wc_yX8_anews ⟨rfl, by decide +kernel, by decide +kernel, by decide +kernel⟩
theorem wm_yX8_where : Cond.instanceMethod ⟨"WhoBacksModel", "where", "(II)I"⟩ ∈ tbg := tm 1281 (by decide +kernel) (by decide +kernel)
theorem wx_yX8_where : Cond.selects "WhoBacksModel" ⟨"WhoBacksModel", "where", "(II)I"⟩ ⟨"WhoBacksModel", "where", "(II)I"⟩ ∈ tbg := tm 1282 (by decide +kernel) (by decide +kernel)
set_option maxRecDepth 100000 in
theorem wc_yX8_where : Cond.code ⟨"WhoBacksModel", "where", "(II)I"⟩ prog_10_method_55_code 3 (Option.some Jvm.ClassFile.FieldType.int) ∈ tbg := tm 1283 rfl (by decide +kernel)
theorem L_L_63 : LVt RL 63 RX8 yX8_where cX8_where 3 (some .int) 2 := mkLVt (tm 1280 (by decide +kernel) (by decide +kernel)) wm_yX8_where wx_yX8_where wi_RX8 wc_yX8_where ⟨rfl, by decide +kernel, by decide +kernel, by decide +kernel⟩
theorem wm_yX8_state : Cond.instanceMethod ⟨"WhoBacksModel", "state", "(I)I"⟩ ∈ tbg := tm 1286 (by decide +kernel) (by decide +kernel)
theorem wx_yX8_state : Cond.selects "WhoBacksModel" ⟨"WhoBacksModel", "state", "(I)I"⟩ ⟨"WhoBacksModel", "state", "(I)I"⟩ ∈ tbg := tm 1287 (by decide +kernel) (by decide +kernel)
set_option maxRecDepth 100000 in
theorem wc_yX8_state : Cond.code ⟨"WhoBacksModel", "state", "(I)I"⟩ prog_10_method_57_code 2 (Option.some Jvm.ClassFile.FieldType.int) ∈ tbg := tm 1288 rfl (by decide +kernel)
theorem L_L_67 : LVt RL 67 RX8 yX8_state cX8_state 2 (some .int) 1 := mkLVt (tm 1285 (by decide +kernel) (by decide +kernel)) wm_yX8_state wx_yX8_state wi_RX8 wc_yX8_state ⟨rfl, by decide +kernel, by decide +kernel, by decide +kernel⟩
theorem ws_yX8_allOf : Cond.static ⟨"WhoBacksModel", "allOf", "([II)I"⟩ ∈ tbg := tm 1290 (by decide +kernel) (by decide +kernel)
set_option maxRecDepth 100000 in
theorem wc_yX8_allOf : Cond.code ⟨"WhoBacksModel", "allOf", "([II)I"⟩ prog_10_method_56_code 4 (Option.some Jvm.ClassFile.FieldType.int) ∈ tbg := tm 1291 rfl (by decide +kernel)
theorem L_X8_235 : LSt RX8 235 yX8_allOf cX8_allOf 4 (some .int) 2 := mkLSt (tm 1289 (by decide +kernel) (by decide +kernel)) ws_yX8_allOf wi_RX8 wc_yX8_allOf ⟨rfl, by decide +kernel, by decide +kernel, by decide +kernel⟩
theorem wm_yX8_enters : Cond.instanceMethod ⟨"WhoBacksModel", "enters", "(I)I"⟩ ∈ tbg := tm 1293 (by decide +kernel) (by decide +kernel)
theorem wx_yX8_enters : Cond.selects "WhoBacksModel" ⟨"WhoBacksModel", "enters", "(I)I"⟩ ⟨"WhoBacksModel", "enters", "(I)I"⟩ ∈ tbg := tm 1294 (by decide +kernel) (by decide +kernel)
set_option maxRecDepth 100000 in
theorem wc_yX8_enters : Cond.code ⟨"WhoBacksModel", "enters", "(I)I"⟩ prog_10_method_58_code 2 (Option.some Jvm.ClassFile.FieldType.int) ∈ tbg := tm 1295 rfl (by decide +kernel)
theorem L_L_71 : LVt RL 71 RX8 yX8_enters cX8_enters 2 (some .int) 1 := mkLVt (tm 1292 (by decide +kernel) (by decide +kernel)) wm_yX8_enters wx_yX8_enters wi_RX8 wc_yX8_enters ⟨rfl, by decide +kernel, by decide +kernel, by decide +kernel⟩
theorem wm_yX8_yields : Cond.instanceMethod ⟨"WhoBacksModel", "yields", "(III)I"⟩ ∈ tbg := tm 1297 (by decide +kernel) (by decide +kernel)
theorem wx_yX8_yields : Cond.selects "WhoBacksModel" ⟨"WhoBacksModel", "yields", "(III)I"⟩ ⟨"WhoBacksModel", "yields", "(III)I"⟩ ∈ tbg := tm 1298 (by decide +kernel) (by decide +kernel)
set_option maxRecDepth 100000 in
theorem wc_yX8_yields : Cond.code ⟨"WhoBacksModel", "yields", "(III)I"⟩ prog_10_method_59_code 5 (Option.some Jvm.ClassFile.FieldType.int) ∈ tbg := tm 1299 rfl (by decide +kernel)
theorem L_L_76 : LVt RL 76 RX8 yX8_yields cX8_yields 5 (some .int) 3 := mkLVt (tm 1296 (by decide +kernel) (by decide +kernel)) wm_yX8_yields wx_yX8_yields wi_RX8 wc_yX8_yields ⟨rfl, by decide +kernel, by decide +kernel, by decide +kernel⟩
theorem wm_yX8_judge : Cond.instanceMethod ⟨"WhoBacksModel", "judge", "(II)I"⟩ ∈ tbg := tm 1301 (by decide +kernel) (by decide +kernel)
theorem wx_yX8_judge : Cond.selects "WhoBacksModel" ⟨"WhoBacksModel", "judge", "(II)I"⟩ ⟨"WhoBacksModel", "judge", "(II)I"⟩ ∈ tbg := tm 1302 (by decide +kernel) (by decide +kernel)
set_option maxRecDepth 100000 in
theorem wc_yX8_judge : Cond.code ⟨"WhoBacksModel", "judge", "(II)I"⟩ prog_10_method_61_code 6 (Option.some Jvm.ClassFile.FieldType.int) ∈ tbg := tm 1303 rfl (by decide +kernel)
theorem L_L_80 : LVt RL 80 RX8 yX8_judge cX8_judge 6 (some .int) 2 := mkLVt (tm 1300 (by decide +kernel) (by decide +kernel)) wm_yX8_judge wx_yX8_judge wi_RX8 wc_yX8_judge ⟨rfl, by decide +kernel, by decide +kernel, by decide +kernel⟩
theorem wm_yX8_leastOf : Cond.instanceMethod ⟨"WhoBacksModel", "leastOf", "(I)I"⟩ ∈ tbg := tm 1306 (by decide +kernel) (by decide +kernel)
theorem wx_yX8_leastOf : Cond.selects "WhoBacksModel" ⟨"WhoBacksModel", "leastOf", "(I)I"⟩ ⟨"WhoBacksModel", "leastOf", "(I)I"⟩ ∈ tbg := tm 48 (by decide +kernel) (by decide +kernel)
set_option maxRecDepth 100000 in
theorem wc_yX8_leastOf : Cond.code ⟨"WhoBacksModel", "leastOf", "(I)I"⟩ prog_10_method_60_code 2 (Option.some Jvm.ClassFile.FieldType.int) ∈ tbg := tm 1307 rfl (by decide +kernel)
theorem L_X8_239 : LVt RX8 239 RX8 yX8_leastOf cX8_leastOf 2 (some .int) 1 := mkLVt (tm 1304 (by decide +kernel) (by decide +kernel)) wm_yX8_leastOf wx_yX8_leastOf wi_RX8 wc_yX8_leastOf ⟨rfl, by decide +kernel, by decide +kernel, by decide +kernel⟩
theorem wm_yX8_run : Cond.instanceMethod ⟨"WhoBacksModel", "run", "(II)I"⟩ ∈ tbg := tm 1310 (by decide +kernel) (by decide +kernel)
theorem wx_yX8_run : Cond.selects "WhoBacksModel" ⟨"WhoBacksModel", "run", "(II)I"⟩ ⟨"WhoBacksModel", "run", "(II)I"⟩ ∈ tbg := tm 1311 (by decide +kernel) (by decide +kernel)
set_option maxRecDepth 100000 in
theorem wc_yX8_run : Cond.code ⟨"WhoBacksModel", "run", "(II)I"⟩ prog_10_method_65_code 5 (Option.some Jvm.ClassFile.FieldType.int) ∈ tbg := tm 1312 rfl (by decide +kernel)
theorem L_L_84 : LVt RL 84 RX8 yX8_run cX8_run 5 (some .int) 2 := mkLVt (tm 1309 (by decide +kernel) (by decide +kernel)) wm_yX8_run wx_yX8_run wi_RX8 wc_yX8_run ⟨rfl, by decide +kernel, by decide +kernel, by decide +kernel⟩
theorem wm_yX8_opens : Cond.instanceMethod ⟨"WhoBacksModel", "opens", "()V"⟩ ∈ tbg := tm 1316 (by decide +kernel) (by decide +kernel)
theorem wx_yX8_opens : Cond.selects "WhoBacksModel" ⟨"WhoBacksModel", "opens", "()V"⟩ ⟨"WhoBacksModel", "opens", "()V"⟩ ∈ tbg := tm 49 (by decide +kernel) (by decide +kernel)
set_option maxRecDepth 100000 in
theorem wc_yX8_opens : Cond.code ⟨"WhoBacksModel", "opens", "()V"⟩ prog_10_method_62_code 2 (Option.none : Option Jvm.ClassFile.FieldType) ∈ tbg := tm 1317 rfl (by decide +kernel)
theorem L_X8_244 : LVt RX8 244 RX8 yX8_opens cX8_opens 2 none 0 := mkLVt (tm 1314 (by decide +kernel) (by decide +kernel)) wm_yX8_opens wx_yX8_opens wi_RX8 wc_yX8_opens ⟨rfl, by decide +kernel, by decide +kernel, by decide +kernel⟩
theorem wm_yX8_costs : Cond.instanceMethod ⟨"WhoBacksModel", "costs", "()I"⟩ ∈ tbg := tm 1320 (by decide +kernel) (by decide +kernel)
theorem wx_yX8_costs : Cond.selects "WhoBacksModel" ⟨"WhoBacksModel", "costs", "()I"⟩ ⟨"WhoBacksModel", "costs", "()I"⟩ ∈ tbg := tm 50 (by decide +kernel) (by decide +kernel)
set_option maxRecDepth 100000 in
theorem wc_yX8_costs : Cond.code ⟨"WhoBacksModel", "costs", "()I"⟩ prog_10_method_64_code 1 (Option.some Jvm.ClassFile.FieldType.int) ∈ tbg := tm 1321 rfl (by decide +kernel)
theorem L_X8_247 : LVt RX8 247 RX8 yX8_costs cX8_costs 1 (some .int) 0 := mkLVt (tm 1318 (by decide +kernel) (by decide +kernel)) wm_yX8_costs wx_yX8_costs wi_RX8 wc_yX8_costs ⟨rfl, by decide +kernel, by decide +kernel, by decide +kernel⟩
theorem wm_yX8_ever : Cond.instanceMethod ⟨"WhoBacksModel", "ever", "(I)I"⟩ ∈ tbg := tm 1323 (by decide +kernel) (by decide +kernel)
theorem wx_yX8_ever : Cond.selects "WhoBacksModel" ⟨"WhoBacksModel", "ever", "(I)I"⟩ ⟨"WhoBacksModel", "ever", "(I)I"⟩ ∈ tbg := tm 1324 (by decide +kernel) (by decide +kernel)
set_option maxRecDepth 100000 in
theorem wc_yX8_ever : Cond.code ⟨"WhoBacksModel", "ever", "(I)I"⟩ prog_10_method_66_code 4 (Option.some Jvm.ClassFile.FieldType.int) ∈ tbg := tm 1325 rfl (by decide +kernel)
theorem L_L_88 : LVt RL 88 RX8 yX8_ever cX8_ever 4 (some .int) 1 := mkLVt (tm 1322 (by decide +kernel) (by decide +kernel)) wm_yX8_ever wx_yX8_ever wi_RX8 wc_yX8_ever ⟨rfl, by decide +kernel, by decide +kernel, by decide +kernel⟩
theorem wm_yX8_best : Cond.instanceMethod ⟨"WhoBacksModel", "best", "(I)I"⟩ ∈ tbg := tm 1327 (by decide +kernel) (by decide +kernel)
theorem wx_yX8_best : Cond.selects "WhoBacksModel" ⟨"WhoBacksModel", "best", "(I)I"⟩ ⟨"WhoBacksModel", "best", "(I)I"⟩ ∈ tbg := tm 1328 (by decide +kernel) (by decide +kernel)
set_option maxRecDepth 100000 in
theorem wc_yX8_best : Cond.code ⟨"WhoBacksModel", "best", "(I)I"⟩ prog_10_method_67_code 7 (Option.some Jvm.ClassFile.FieldType.int) ∈ tbg := tm 1329 rfl (by decide +kernel)
theorem L_L_92 : LVt RL 92 RX8 yX8_best cX8_best 7 (some .int) 1 := mkLVt (tm 1326 (by decide +kernel) (by decide +kernel)) wm_yX8_best wx_yX8_best wi_RX8 wc_yX8_best ⟨rfl, by decide +kernel, by decide +kernel, by decide +kernel⟩
theorem wm_yX8_more : Cond.instanceMethod ⟨"WhoBacksModel", "more", "(I)I"⟩ ∈ tbg := tm 1331 (by decide +kernel) (by decide +kernel)
theorem wx_yX8_more : Cond.selects "WhoBacksModel" ⟨"WhoBacksModel", "more", "(I)I"⟩ ⟨"WhoBacksModel", "more", "(I)I"⟩ ∈ tbg := tm 1332 (by decide +kernel) (by decide +kernel)
set_option maxRecDepth 100000 in
theorem wc_yX8_more : Cond.code ⟨"WhoBacksModel", "more", "(I)I"⟩ prog_10_method_68_code 6 (Option.some Jvm.ClassFile.FieldType.int) ∈ tbg := tm 1333 rfl (by decide +kernel)
theorem L_L_96 : LVt RL 96 RX8 yX8_more cX8_more 6 (some .int) 1 := mkLVt (tm 1330 (by decide +kernel) (by decide +kernel)) wm_yX8_more wx_yX8_more wi_RX8 wc_yX8_more ⟨rfl, by decide +kernel, by decide +kernel, by decide +kernel⟩
theorem wm_yX8_fit : Cond.instanceMethod ⟨"WhoBacksModel", "fit", "(II)I"⟩ ∈ tbg := tm 1335 (by decide +kernel) (by decide +kernel)
theorem wx_yX8_fit : Cond.selects "WhoBacksModel" ⟨"WhoBacksModel", "fit", "(II)I"⟩ ⟨"WhoBacksModel", "fit", "(II)I"⟩ ∈ tbg := tm 1336 (by decide +kernel) (by decide +kernel)
set_option maxRecDepth 100000 in
theorem wc_yX8_fit : Cond.code ⟨"WhoBacksModel", "fit", "(II)I"⟩ prog_10_method_70_code 8 (Option.some Jvm.ClassFile.FieldType.int) ∈ tbg := tm 1337 rfl (by decide +kernel)
theorem L_L_100 : LVt RL 100 RX8 yX8_fit cX8_fit 8 (some .int) 2 := mkLVt (tm 1334 (by decide +kernel) (by decide +kernel)) wm_yX8_fit wx_yX8_fit wi_RX8 wc_yX8_fit ⟨rfl, by decide +kernel, by decide +kernel, by decide +kernel⟩
theorem wm_yX8_costBy : Cond.instanceMethod ⟨"WhoBacksModel", "costBy", "(II)I"⟩ ∈ tbg := tm 1340 (by decide +kernel) (by decide +kernel)
theorem wx_yX8_costBy : Cond.selects "WhoBacksModel" ⟨"WhoBacksModel", "costBy", "(II)I"⟩ ⟨"WhoBacksModel", "costBy", "(II)I"⟩ ∈ tbg := tm 51 (by decide +kernel) (by decide +kernel)
set_option maxRecDepth 100000 in
theorem wc_yX8_costBy : Cond.code ⟨"WhoBacksModel", "costBy", "(II)I"⟩ prog_10_method_69_code 3 (Option.some Jvm.ClassFile.FieldType.int) ∈ tbg := tm 1341 rfl (by decide +kernel)
theorem L_X8_254 : LVt RX8 254 RX8 yX8_costBy cX8_costBy 3 (some .int) 2 := mkLVt (tm 1338 (by decide +kernel) (by decide +kernel)) wm_yX8_costBy wx_yX8_costBy wi_RX8 wc_yX8_costBy ⟨rfl, by decide +kernel, by decide +kernel, by decide +kernel⟩
theorem wm_yX8_allBy : Cond.instanceMethod ⟨"WhoBacksModel", "allBy", "(II)V"⟩ ∈ tbg := tm 1344 (by decide +kernel) (by decide +kernel)
theorem wx_yX8_allBy : Cond.selects "WhoBacksModel" ⟨"WhoBacksModel", "allBy", "(II)V"⟩ ⟨"WhoBacksModel", "allBy", "(II)V"⟩ ∈ tbg := tm 52 (by decide +kernel) (by decide +kernel)
set_option maxRecDepth 100000 in
theorem wc_yX8_allBy : Cond.code ⟨"WhoBacksModel", "allBy", "(II)V"⟩ prog_10_method_63_code 4 (Option.none : Option Jvm.ClassFile.FieldType) ∈ tbg := tm 1345 rfl (by decide +kernel)
theorem L_X8_250 : LVt RX8 250 RX8 yX8_allBy cX8_allBy 4 none 2 := mkLVt (tm 1342 (by decide +kernel) (by decide +kernel)) wm_yX8_allBy wx_yX8_allBy wi_RX8 wc_yX8_allBy ⟨rfl, by decide +kernel, by decide +kernel, by decide +kernel⟩
theorem wm_yX8_shortest : Cond.instanceMethod ⟨"WhoBacksModel", "shortest", "()I"⟩ ∈ tbg := tm 1347 (by decide +kernel) (by decide +kernel)
theorem wx_yX8_shortest : Cond.selects "WhoBacksModel" ⟨"WhoBacksModel", "shortest", "()I"⟩ ⟨"WhoBacksModel", "shortest", "()I"⟩ ∈ tbg := tm 1348 (by decide +kernel) (by decide +kernel)
set_option maxRecDepth 100000 in
theorem wc_yX8_shortest : Cond.code ⟨"WhoBacksModel", "shortest", "()I"⟩ prog_10_method_72_code 7 (Option.some Jvm.ClassFile.FieldType.int) ∈ tbg := tm 1349 rfl (by decide +kernel)
theorem L_L_104 : LVt RL 104 RX8 yX8_shortest cX8_shortest 7 (some .int) 0 := mkLVt (tm 1346 (by decide +kernel) (by decide +kernel)) wm_yX8_shortest wx_yX8_shortest wi_RX8 wc_yX8_shortest ⟨rfl, by decide +kernel, by decide +kernel, by decide +kernel⟩
theorem ws_yX8_wordsBy : Cond.static ⟨"WhoBacksModel", "wordsBy", "(II)I"⟩ ∈ tbg := tm 1351 (by decide +kernel) (by decide +kernel)
set_option maxRecDepth 100000 in
theorem wc_yX8_wordsBy : Cond.code ⟨"WhoBacksModel", "wordsBy", "(II)I"⟩ prog_10_method_71_code 2 (Option.some Jvm.ClassFile.FieldType.int) ∈ tbg := tm 1352 rfl (by decide +kernel)
theorem L_X8_257 : LSt RX8 257 yX8_wordsBy cX8_wordsBy 2 (some .int) 2 := mkLSt (tm 1350 (by decide +kernel) (by decide +kernel)) ws_yX8_wordsBy wi_RX8 wc_yX8_wordsBy ⟨rfl, by decide +kernel, by decide +kernel, by decide +kernel⟩
theorem wm_yX8_hours : Cond.instanceMethod ⟨"WhoBacksModel", "hours", "(I)I"⟩ ∈ tbg := tm 1354 (by decide +kernel) (by decide +kernel)
theorem wx_yX8_hours : Cond.selects "WhoBacksModel" ⟨"WhoBacksModel", "hours", "(I)I"⟩ ⟨"WhoBacksModel", "hours", "(I)I"⟩ ∈ tbg := tm 1355 (by decide +kernel) (by decide +kernel)
set_option maxRecDepth 100000 in
theorem wc_yX8_hours : Cond.code ⟨"WhoBacksModel", "hours", "(I)I"⟩ prog_10_method_73_code 6 (Option.some Jvm.ClassFile.FieldType.int) ∈ tbg := tm 1356 rfl (by decide +kernel)
theorem L_L_108 : LVt RL 108 RX8 yX8_hours cX8_hours 6 (some .int) 1 := mkLVt (tm 1353 (by decide +kernel) (by decide +kernel)) wm_yX8_hours wx_yX8_hours wi_RX8 wc_yX8_hours ⟨rfl, by decide +kernel, by decide +kernel, by decide +kernel⟩
theorem wm_yX8_stubborn : Cond.instanceMethod ⟨"WhoBacksModel", "stubborn", "(I)I"⟩ ∈ tbg := tm 1358 (by decide +kernel) (by decide +kernel)
theorem wx_yX8_stubborn : Cond.selects "WhoBacksModel" ⟨"WhoBacksModel", "stubborn", "(I)I"⟩ ⟨"WhoBacksModel", "stubborn", "(I)I"⟩ ∈ tbg := tm 1359 (by decide +kernel) (by decide +kernel)
set_option maxRecDepth 100000 in
theorem wc_yX8_stubborn : Cond.code ⟨"WhoBacksModel", "stubborn", "(I)I"⟩ prog_10_method_74_code 3 (Option.some Jvm.ClassFile.FieldType.int) ∈ tbg := tm 1360 rfl (by decide +kernel)
theorem L_L_112 : LVt RL 112 RX8 yX8_stubborn cX8_stubborn 3 (some .int) 1 := mkLVt (tm 1357 (by decide +kernel) (by decide +kernel)) wm_yX8_stubborn wx_yX8_stubborn wi_RX8 wc_yX8_stubborn ⟨rfl, by decide +kernel, by decide +kernel, by decide +kernel⟩
theorem wm_yX8_heard : Cond.instanceMethod ⟨"WhoBacksModel", "heard", "(I)I"⟩ ∈ tbg := tm 1363 (by decide +kernel) (by decide +kernel)
theorem wx_yX8_heard : Cond.selects "WhoBacksModel" ⟨"WhoBacksModel", "heard", "(I)I"⟩ ⟨"WhoBacksModel", "heard", "(I)I"⟩ ∈ tbg := tm 1364 (by decide +kernel) (by decide +kernel)
set_option maxRecDepth 100000 in
theorem wc_yX8_heard : Cond.code ⟨"WhoBacksModel", "heard", "(I)I"⟩ prog_10_method_75_code 2 (Option.some Jvm.ClassFile.FieldType.int) ∈ tbg := tm 1365 rfl (by decide +kernel)
theorem L_L_116 : LVt RL 116 RX8 yX8_heard cX8_heard 2 (some .int) 1 := mkLVt (tm 1362 (by decide +kernel) (by decide +kernel)) wm_yX8_heard wx_yX8_heard wi_RX8 wc_yX8_heard ⟨rfl, by decide +kernel, by decide +kernel, by decide +kernel⟩
theorem wm_yX8_days : Cond.instanceMethod ⟨"WhoBacksModel", "days", "(III)I"⟩ ∈ tbg := tm 1367 (by decide +kernel) (by decide +kernel)
theorem wx_yX8_days : Cond.selects "WhoBacksModel" ⟨"WhoBacksModel", "days", "(III)I"⟩ ⟨"WhoBacksModel", "days", "(III)I"⟩ ∈ tbg := tm 1368 (by decide +kernel) (by decide +kernel)
set_option maxRecDepth 100000 in
theorem wc_yX8_days : Cond.code ⟨"WhoBacksModel", "days", "(III)I"⟩ prog_10_method_76_code 8 (Option.some Jvm.ClassFile.FieldType.int) ∈ tbg := tm 1369 rfl (by decide +kernel)
theorem L_L_120 : LVt RL 120 RX8 yX8_days cX8_days 8 (some .int) 3 := mkLVt (tm 1366 (by decide +kernel) (by decide +kernel)) wm_yX8_days wx_yX8_days wi_RX8 wc_yX8_days ⟨rfl, by decide +kernel, by decide +kernel, by decide +kernel⟩
theorem wm_yX8_met : Cond.instanceMethod ⟨"WhoBacksModel", "met", "(II)I"⟩ ∈ tbg := tm 1376 (by decide +kernel) (by decide +kernel)
theorem wx_yX8_met : Cond.selects "WhoBacksModel" ⟨"WhoBacksModel", "met", "(II)I"⟩ ⟨"WhoBacksModel", "met", "(II)I"⟩ ∈ tbg := tm 1377 (by decide +kernel) (by decide +kernel)
set_option maxRecDepth 100000 in
theorem wc_yX8_met : Cond.code ⟨"WhoBacksModel", "met", "(II)I"⟩ prog_10_method_77_code 4 (Option.some Jvm.ClassFile.FieldType.int) ∈ tbg := tm 1378 rfl (by decide +kernel)
theorem L_L_124 : LVt RL 124 RX8 yX8_met cX8_met 4 (some .int) 2 := mkLVt (tm 1375 (by decide +kernel) (by decide +kernel)) wm_yX8_met wx_yX8_met wi_RX8 wc_yX8_met ⟨rfl, by decide +kernel, by decide +kernel, by decide +kernel⟩
theorem wm_yX8_rows : Cond.instanceMethod ⟨"WhoBacksModel", "rows", "(IIIII)I"⟩ ∈ tbg := tm 1380 (by decide +kernel) (by decide +kernel)
theorem wx_yX8_rows : Cond.selects "WhoBacksModel" ⟨"WhoBacksModel", "rows", "(IIIII)I"⟩ ⟨"WhoBacksModel", "rows", "(IIIII)I"⟩ ∈ tbg := tm 1381 (by decide +kernel) (by decide +kernel)
set_option maxRecDepth 100000 in
theorem wc_yX8_rows : Cond.code ⟨"WhoBacksModel", "rows", "(IIIII)I"⟩ prog_10_method_82_code 6 (Option.some Jvm.ClassFile.FieldType.int) ∈ tbg := tm 1382 rfl (by decide +kernel)
theorem L_L_129 : LVt RL 129 RX8 yX8_rows cX8_rows 6 (some .int) 5 := mkLVt (tm 1379 (by decide +kernel) (by decide +kernel)) wm_yX8_rows wx_yX8_rows wi_RX8 wc_yX8_rows ⟨rfl, by decide +kernel, by decide +kernel, by decide +kernel⟩
theorem ws_yX8_isRows : Cond.static ⟨"WhoBacksModel", "isRows", "(IIII)Z"⟩ ∈ tbg := tm 1384 (by decide +kernel) (by decide +kernel)
set_option maxRecDepth 100000 in
theorem wc_yX8_isRows : Cond.code ⟨"WhoBacksModel", "isRows", "(IIII)Z"⟩ prog_10_method_81_code 4 (Option.some Jvm.ClassFile.FieldType.boolean) ∈ tbg := tm 1385 rfl (by decide +kernel)
theorem L_X8_280 : LSt RX8 280 yX8_isRows cX8_isRows 4 (some .boolean) 4 := mkLSt (tm 1383 (by decide +kernel) (by decide +kernel)) ws_yX8_isRows wi_RX8 wc_yX8_isRows ⟨rfl, by decide +kernel, by decide +kernel, by decide +kernel⟩
theorem wm_yX8_rowsOf : Cond.instanceMethod ⟨"WhoBacksModel", "rowsOf", "(IIIII)I"⟩ ∈ tbg := tm 1389 (by decide +kernel) (by decide +kernel)
theorem wx_yX8_rowsOf : Cond.selects "WhoBacksModel" ⟨"WhoBacksModel", "rowsOf", "(IIIII)I"⟩ ⟨"WhoBacksModel", "rowsOf", "(IIIII)I"⟩ ∈ tbg := tm 53 (by decide +kernel) (by decide +kernel)
set_option maxRecDepth 100000 in
theorem wc_yX8_rowsOf : Cond.code ⟨"WhoBacksModel", "rowsOf", "(IIIII)I"⟩ prog_10_method_80_code 16 (Option.some Jvm.ClassFile.FieldType.int) ∈ tbg := tm 1390 rfl (by decide +kernel)
theorem L_X8_284 : LVt RX8 284 RX8 yX8_rowsOf cX8_rowsOf 16 (some .int) 5 := mkLVt (tm 1387 (by decide +kernel) (by decide +kernel)) wm_yX8_rowsOf wx_yX8_rowsOf wi_RX8 wc_yX8_rowsOf ⟨rfl, by decide +kernel, by decide +kernel, by decide +kernel⟩
theorem wm_yX8_reaches : Cond.instanceMethod ⟨"WhoBacksModel", "reaches", "(IIIII)V"⟩ ∈ tbg := tm 1393 (by decide +kernel) (by decide +kernel)
theorem wx_yX8_reaches : Cond.selects "WhoBacksModel" ⟨"WhoBacksModel", "reaches", "(IIIII)V"⟩ ⟨"WhoBacksModel", "reaches", "(IIIII)V"⟩ ∈ tbg := tm 54 (by decide +kernel) (by decide +kernel)
set_option maxRecDepth 100000 in
theorem wc_yX8_reaches : Cond.code ⟨"WhoBacksModel", "reaches", "(IIIII)V"⟩ prog_10_method_79_code 8 (Option.none : Option Jvm.ClassFile.FieldType) ∈ tbg := tm 1394 rfl (by decide +kernel)
theorem L_X8_271 : LVt RX8 271 RX8 yX8_reaches cX8_reaches 8 none 5 := mkLVt (tm 1391 (by decide +kernel) (by decide +kernel)) wm_yX8_reaches wx_yX8_reaches wi_RX8 wc_yX8_reaches ⟨rfl, by decide +kernel, by decide +kernel, by decide +kernel⟩
theorem ws_yX8_manyOf : Cond.static ⟨"WhoBacksModel", "manyOf", "(I)I"⟩ ∈ tbg := tm 1396 (by decide +kernel) (by decide +kernel)
set_option maxRecDepth 100000 in
theorem wc_yX8_manyOf : Cond.code ⟨"WhoBacksModel", "manyOf", "(I)I"⟩ prog_10_method_78_code 3 (Option.some Jvm.ClassFile.FieldType.int) ∈ tbg := tm 1397 rfl (by decide +kernel)
theorem L_X8_275 : LSt RX8 275 yX8_manyOf cX8_manyOf 3 (some .int) 1 := mkLSt (tm 1395 (by decide +kernel) (by decide +kernel)) ws_yX8_manyOf wi_RX8 wc_yX8_manyOf ⟨rfl, by decide +kernel, by decide +kernel, by decide +kernel⟩
theorem wm_yX8_aside : Cond.instanceMethod ⟨"WhoBacksModel", "aside", "(IIII)I"⟩ ∈ tbg := tm 1399 (by decide +kernel) (by decide +kernel)
theorem wx_yX8_aside : Cond.selects "WhoBacksModel" ⟨"WhoBacksModel", "aside", "(IIII)I"⟩ ⟨"WhoBacksModel", "aside", "(IIII)I"⟩ ∈ tbg := tm 1400 (by decide +kernel) (by decide +kernel)
set_option maxRecDepth 100000 in
theorem wc_yX8_aside : Cond.code ⟨"WhoBacksModel", "aside", "(IIII)I"⟩ prog_10_method_83_code 6 (Option.some Jvm.ClassFile.FieldType.int) ∈ tbg := tm 1401 rfl (by decide +kernel)
theorem L_L_134 : LVt RL 134 RX8 yX8_aside cX8_aside 6 (some .int) 4 := mkLVt (tm 1398 (by decide +kernel) (by decide +kernel)) wm_yX8_aside wx_yX8_aside wi_RX8 wc_yX8_aside ⟨rfl, by decide +kernel, by decide +kernel, by decide +kernel⟩
theorem wm_yX8_image : Cond.instanceMethod ⟨"WhoBacksModel", "image", "()I"⟩ ∈ tbg := tm 1403 (by decide +kernel) (by decide +kernel)
theorem wx_yX8_image : Cond.selects "WhoBacksModel" ⟨"WhoBacksModel", "image", "()I"⟩ ⟨"WhoBacksModel", "image", "()I"⟩ ∈ tbg := tm 1404 (by decide +kernel) (by decide +kernel)
set_option maxRecDepth 100000 in
theorem wc_yX8_image : Cond.code ⟨"WhoBacksModel", "image", "()I"⟩ prog_10_method_84_code 2 (Option.some Jvm.ClassFile.FieldType.int) ∈ tbg := tm 1405 rfl (by decide +kernel)
theorem L_L_138 : LVt RL 138 RX8 yX8_image cX8_image 2 (some .int) 0 := mkLVt (tm 1402 (by decide +kernel) (by decide +kernel)) wm_yX8_image wx_yX8_image wi_RX8 wc_yX8_image ⟨rfl, by decide +kernel, by decide +kernel, by decide +kernel⟩
theorem wm_yX8_restore : Cond.instanceMethod ⟨"WhoBacksModel", "restore", "()I"⟩ ∈ tbg := tm 1407 (by decide +kernel) (by decide +kernel)
theorem wx_yX8_restore : Cond.selects "WhoBacksModel" ⟨"WhoBacksModel", "restore", "()I"⟩ ⟨"WhoBacksModel", "restore", "()I"⟩ ∈ tbg := tm 1408 (by decide +kernel) (by decide +kernel)
set_option maxRecDepth 100000 in
theorem wc_yX8_restore : Cond.code ⟨"WhoBacksModel", "restore", "()I"⟩ prog_10_method_85_code 2 (Option.some Jvm.ClassFile.FieldType.int) ∈ tbg := tm 1409 rfl (by decide +kernel)
theorem L_L_142 : LVt RL 142 RX8 yX8_restore cX8_restore 2 (some .int) 0 := mkLVt (tm 1406 (by decide +kernel) (by decide +kernel)) wm_yX8_restore wx_yX8_restore wi_RX8 wc_yX8_restore ⟨rfl, by decide +kernel, by decide +kernel, by decide +kernel⟩
theorem wm_yX8_count : Cond.instanceMethod ⟨"WhoBacksModel", "count", "(I)I"⟩ ∈ tbg := tm 1411 (by decide +kernel) (by decide +kernel)
theorem wx_yX8_count : Cond.selects "WhoBacksModel" ⟨"WhoBacksModel", "count", "(I)I"⟩ ⟨"WhoBacksModel", "count", "(I)I"⟩ ∈ tbg := tm 1412 (by decide +kernel) (by decide +kernel)
set_option maxRecDepth 100000 in
theorem wc_yX8_count : Cond.code ⟨"WhoBacksModel", "count", "(I)I"⟩ prog_10_method_86_code 4 (Option.some Jvm.ClassFile.FieldType.int) ∈ tbg := tm 1413 rfl (by decide +kernel)
theorem L_L_146 : LVt RL 146 RX8 yX8_count cX8_count 4 (some .int) 1 := mkLVt (tm 1410 (by decide +kernel) (by decide +kernel)) wm_yX8_count wx_yX8_count wi_RX8 wc_yX8_count ⟨rfl, by decide +kernel, by decide +kernel, by decide +kernel⟩
theorem wm_yX8_keep : Cond.instanceMethod ⟨"WhoBacksModel", "keep", "(IIII)I"⟩ ∈ tbg := tm 1415 (by decide +kernel) (by decide +kernel)
theorem wx_yX8_keep : Cond.selects "WhoBacksModel" ⟨"WhoBacksModel", "keep", "(IIII)I"⟩ ⟨"WhoBacksModel", "keep", "(IIII)I"⟩ ∈ tbg := tm 1416 (by decide +kernel) (by decide +kernel)
set_option maxRecDepth 100000 in
theorem wc_yX8_keep : Cond.code ⟨"WhoBacksModel", "keep", "(IIII)I"⟩ prog_10_method_87_code 5 (Option.some Jvm.ClassFile.FieldType.int) ∈ tbg := tm 1417 rfl (by decide +kernel)
theorem L_L_150 : LVt RL 150 RX8 yX8_keep cX8_keep 5 (some .int) 4 := mkLVt (tm 1414 (by decide +kernel) (by decide +kernel)) wm_yX8_keep wx_yX8_keep wi_RX8 wc_yX8_keep ⟨rfl, by decide +kernel, by decide +kernel, by decide +kernel⟩
theorem wm_yX8_row : Cond.instanceMethod ⟨"WhoBacksModel", "row", "(III)I"⟩ ∈ tbg := tm 1419 (by decide +kernel) (by decide +kernel)
theorem wx_yX8_row : Cond.selects "WhoBacksModel" ⟨"WhoBacksModel", "row", "(III)I"⟩ ⟨"WhoBacksModel", "row", "(III)I"⟩ ∈ tbg := tm 1420 (by decide +kernel) (by decide +kernel)
set_option maxRecDepth 100000 in
theorem wc_yX8_row : Cond.code ⟨"WhoBacksModel", "row", "(III)I"⟩ prog_10_method_88_code 5 (Option.some Jvm.ClassFile.FieldType.int) ∈ tbg := tm 1421 rfl (by decide +kernel)
theorem L_L_154 : LVt RL 154 RX8 yX8_row cX8_row 5 (some .int) 3 := mkLVt (tm 1418 (by decide +kernel) (by decide +kernel)) wm_yX8_row wx_yX8_row wi_RX8 wc_yX8_row ⟨rfl, by decide +kernel, by decide +kernel, by decide +kernel⟩
theorem wm_yX8_put : Cond.instanceMethod ⟨"WhoBacksModel", "put", "(III)I"⟩ ∈ tbg := tm 1423 (by decide +kernel) (by decide +kernel)
theorem wx_yX8_put : Cond.selects "WhoBacksModel" ⟨"WhoBacksModel", "put", "(III)I"⟩ ⟨"WhoBacksModel", "put", "(III)I"⟩ ∈ tbg := tm 1424 (by decide +kernel) (by decide +kernel)
set_option maxRecDepth 100000 in
theorem wc_yX8_put : Cond.code ⟨"WhoBacksModel", "put", "(III)I"⟩ prog_10_method_89_code 5 (Option.some Jvm.ClassFile.FieldType.int) ∈ tbg := tm 1425 rfl (by decide +kernel)
theorem L_L_158 : LVt RL 158 RX8 yX8_put cX8_put 5 (some .int) 3 := mkLVt (tm 1422 (by decide +kernel) (by decide +kernel)) wm_yX8_put wx_yX8_put wi_RX8 wc_yX8_put ⟨rfl, by decide +kernel, by decide +kernel, by decide +kernel⟩
theorem wm_yX8_element : Cond.instanceMethod ⟨"WhoBacksModel", "element", "(II)J"⟩ ∈ tbg := tm 1427 (by decide +kernel) (by decide +kernel)
theorem wx_yX8_element : Cond.selects "WhoBacksModel" ⟨"WhoBacksModel", "element", "(II)J"⟩ ⟨"WhoBacksModel", "element", "(II)J"⟩ ∈ tbg := tm 1428 (by decide +kernel) (by decide +kernel)
set_option maxRecDepth 100000 in
theorem wc_yX8_element : Cond.code ⟨"WhoBacksModel", "element", "(II)J"⟩ prog_10_method_90_code 3 (Option.some Jvm.ClassFile.FieldType.long) ∈ tbg := tm 1429 rfl (by decide +kernel)
theorem L_L_164 : LVt RL 164 RX8 yX8_element cX8_element 3 (some .long) 2 := mkLVt (tm 1426 (by decide +kernel) (by decide +kernel)) wm_yX8_element wx_yX8_element wi_RX8 wc_yX8_element ⟨rfl, by decide +kernel, by decide +kernel, by decide +kernel⟩
theorem wm_yX8_copy : Cond.instanceMethod ⟨"WhoBacksModel", "copy", "(IIIII)I"⟩ ∈ tbg := tm 1431 (by decide +kernel) (by decide +kernel)
theorem wx_yX8_copy : Cond.selects "WhoBacksModel" ⟨"WhoBacksModel", "copy", "(IIIII)I"⟩ ⟨"WhoBacksModel", "copy", "(IIIII)I"⟩ ∈ tbg := tm 1432 (by decide +kernel) (by decide +kernel)
set_option maxRecDepth 100000 in
theorem wc_yX8_copy : Cond.code ⟨"WhoBacksModel", "copy", "(IIIII)I"⟩ prog_10_method_91_code 8 (Option.some Jvm.ClassFile.FieldType.int) ∈ tbg := tm 1433 rfl (by decide +kernel)
theorem L_L_171 : LVt RL 171 RX8 yX8_copy cX8_copy 8 (some .int) 5 := mkLVt (tm 1430 (by decide +kernel) (by decide +kernel)) wm_yX8_copy wx_yX8_copy wi_RX8 wc_yX8_copy ⟨rfl, by decide +kernel, by decide +kernel, by decide +kernel⟩
theorem wm_yX8_words : Cond.instanceMethod ⟨"WhoBacksModel", "words", "(I)I"⟩ ∈ tbg := tm 1435 (by decide +kernel) (by decide +kernel)
theorem wx_yX8_words : Cond.selects "WhoBacksModel" ⟨"WhoBacksModel", "words", "(I)I"⟩ ⟨"WhoBacksModel", "words", "(I)I"⟩ ∈ tbg := tm 1436 (by decide +kernel) (by decide +kernel)
set_option maxRecDepth 100000 in
theorem wc_yX8_words : Cond.code ⟨"WhoBacksModel", "words", "(I)I"⟩ prog_10_method_92_code 3 (Option.some Jvm.ClassFile.FieldType.int) ∈ tbg := tm 1437 rfl (by decide +kernel)
theorem L_L_175 : LVt RL 175 RX8 yX8_words cX8_words 3 (some .int) 1 := mkLVt (tm 1434 (by decide +kernel) (by decide +kernel)) wm_yX8_words wx_yX8_words wi_RX8 wc_yX8_words ⟨rfl, by decide +kernel, by decide +kernel, by decide +kernel⟩
theorem wm_yX8_toss : Cond.instanceMethod ⟨"WhoBacksModel", "toss", "(I)I"⟩ ∈ tbg := tm 1439 (by decide +kernel) (by decide +kernel)
theorem wx_yX8_toss : Cond.selects "WhoBacksModel" ⟨"WhoBacksModel", "toss", "(I)I"⟩ ⟨"WhoBacksModel", "toss", "(I)I"⟩ ∈ tbg := tm 1440 (by decide +kernel) (by decide +kernel)
set_option maxRecDepth 100000 in
theorem wc_yX8_toss : Cond.code ⟨"WhoBacksModel", "toss", "(I)I"⟩ prog_10_method_93_code 5 (Option.some Jvm.ClassFile.FieldType.int) ∈ tbg := tm 1441 rfl (by decide +kernel)
theorem L_L_179 : LVt RL 179 RX8 yX8_toss cX8_toss 5 (some .int) 1 := mkLVt (tm 1438 (by decide +kernel) (by decide +kernel)) wm_yX8_toss wx_yX8_toss wi_RX8 wc_yX8_toss ⟨rfl, by decide +kernel, by decide +kernel, by decide +kernel⟩
end
section
/-! more rows: indices as naturals, switches, tops -/
theorem sw_in {x : Int32} {lo : Int} {n : Nat} : (x.toInt < lo ∨ lo + n - 1 < x.toInt) ∨ ∃ j : Nat, j < n ∧ x.toInt = lo + j := by
  by_cases h : x.toInt < lo ∨ lo + n - 1 < x.toInt
  · exact Or.inl h
  · exact Or.inr ⟨(x.toInt - lo).toNat, by omega, by omega⟩
theorem sw_eq {x v : Int32} {lo : Int} {j : Nat} (h : x.toInt = lo + j) (hv : v.toInt = lo + j) : x = v := Int32.toInt_inj.mp (h.trans hv.symm)
theorem sw_ne {x v : Int32} {lo : Int} {n : Nat} (h : x.toInt < lo ∨ lo + n - 1 < x.toInt) (hv : lo ≤ v.toInt ∧ v.toInt ≤ lo + n - 1) : ¬ x = v := fun e => by subst e; omega
theorem kdlt : ∀ i, i < 106 → (kd i).2 < 2 ^ 31 := by decide +kernel
section FR
variable {p : Program} {l : Launch} {e : Env} {R : Room} {s : State} {m : MethodId} {args : Array Value} {below : List Frame} {meth : Method} {c : Code} {H : Heap} {locs : List Loc} {cells slots : Nat} {Q : State → Prop}
variable {cc : ByteArray} {pc nL : Nat} {ls : Array Slot} {rest : List Value} {D : va_G} {cA : Nat → ClassId} {ad : Nat → Nat} {A : Nat → Prop} {σ : Mem} {o : Int64} {own : String}
theorem lv_topE {x y : Int32} (h : x = y) (kk : W p l e R s m args below meth c H locs cells slots Q (F0 m pc ls (.int y :: rest))) : W p l e R s m args below meth c H locs cells slots Q (F0 m pc ls (.int x :: rest)) := h ▸ kk
theorem r_ialdN (C0 : CX p s m args c cc nL own) (X : WX D cA ad A s) (hP : WP D cA ad o σ H) (i : Nat) {n k : Nat} (hk : i < 106 ∧ kd i = (9, n)) {j : Int32} (hj : j = nI k) (hkn : k < n) (hdg : decode cc pc = .ok (.iaload, 1))
    (kk : W p l e R s m args below meth c H locs cells slots Q (F0 m (pc + 1) ls (.int (σ i k) :: rest))) : W p l e R s m args below meth c H locs cells slots Q (F0 m pc ls (.int j :: .ref (ad i) :: rest)) := by
  have hn : n < 2 ^ 31 := by have := kdlt i hk.1; rw [hk.2] at this; exact this
  subst hj
  refine r_iald C0 X hP i hk.1 hk.2 (vp_in_nI hkn hn) hdg ?_
  rw [nI_clamp (by omega)]
  exact kk
theorem r_iastN (C0 : CX p s m args c cc nL own) (X : WX D cA ad A s) (hP : WP D cA ad o σ H) (hS : va_S A s.heap H locs) (i : Nat) {n k : Nat} (hk : i < 106 ∧ kd i = (9, n)) {j x : Int32} (hj : j = nI k) (hkn : k < n) (hdg : decode cc pc = .ok (.iastore, 1))
    (kk : ∀ (H1 : Heap) (locs1 : List Loc), WP D cA ad o (stm σ i k x) H1 → va_S A s.heap H1 locs1 → W p l e R s m args below meth c H1 locs1 cells slots Q (F0 m (pc + 1) ls rest)) : W p l e R s m args below meth c H locs cells slots Q (F0 m pc ls (.int x :: .int j :: .ref (ad i) :: rest)) := by
  have hn : n < 2 ^ 31 := by have := kdlt i hk.1; rw [hk.2] at this; exact this
  subst hj
  refine r_iast C0 X hP hS i hk.1 hk.2 (vp_in_nI hkn hn) hdg (fun H1 locs1 hP1 hS1 => kk H1 locs1 ?_ hS1)
  rw [nI_clamp (by omega)] at hP1
  exact hP1
theorem r_aaldCN (C0 : CX p s m args c cc nL own) (X : WX D cA ad A s) (hP : WP D cA ad o σ H) (i : Nat) {n q k : Nat} (hk : i < 106 ∧ kd i = (10, n)) {j : Int32} (hj : j = nI k) (hkn : k < n) (hl : lk i k = some q) (hdg : decode cc pc = .ok (.aaload, 1))
    (kk : W p l e R s m args below meth c H locs cells slots Q (F0 m (pc + 1) ls (.ref (ad q) :: rest))) : W p l e R s m args below meth c H locs cells slots Q (F0 m pc ls (.int j :: .ref (ad i) :: rest)) := by
  have hn : n < 2 ^ 31 := by have := kdlt i hk.1; rw [hk.2] at this; exact this
  subst hj
  exact r_aaldC C0 X hP i hk.1 hk.2 (vp_in_nI hkn hn) (by rw [nI_clamp (by omega)]; exact hl) hdg kk
theorem r_aaldSN (C0 : CX p s m args c cc nL own) (X : WX D cA ad A s) (hP : WP D cA ad o σ H) (i : Nat) {n q k : Nat} (hk : i < 106 ∧ kd i = (11, n)) {j : Int32} (hj : j = nI k) (hkn : k < n) (hl : lk i k = some q) (hdg : decode cc pc = .ok (.aaload, 1))
    (kk : W p l e R s m args below meth c H locs cells slots Q (F0 m (pc + 1) ls (.ref (ad q) :: rest))) : W p l e R s m args below meth c H locs cells slots Q (F0 m pc ls (.int j :: .ref (ad i) :: rest)) := by
  have hn : n < 2 ^ 31 := by have := kdlt i hk.1; rw [hk.2] at this; exact this
  subst hj
  exact r_aaldS C0 X hP i hk.1 hk.2 (vp_in_nI hkn hn) (by rw [nI_clamp (by omega)]; exact hl) hdg kk
theorem r_lret {post : Int64 → Mem → Prop} {v : Int64} (C0 : CX p s m args c cc nL own) (X : WX D cA ad A s) (hP : WP D cA ad o σ H) (hS : va_S A s.heap H locs) (hr : meth.sig.returnType = some .long) (hlk : meth.locks = false) (hdg : decode cc pc = .ok (.lreturn, 1)) (hpost : post v σ) : W p l e R s m args below meth c H locs cells slots (MQ below (va_Ql post (QW D cA ad o) A) args s cells slots A) (F0 m pc ls [.long v]) :=
  W.lret C0.1 C0.2.1 hr (fun t ht hW => ⟨⟨v, σ, rfl, hpost, by rw [ht]; exact hP, va_K.moved hW.alike X.1⟩, hS.F ht⟩) hS.2.2 hdg hlk
end FR
theorem ixN {x : Int32} {M : Int32} {n : Nat} (hM : M.toInt = n) (h : ¬ x < 0) (h2 : x < M) : ∃ j : Nat, j < n ∧ x = nI j := by
  have h1 : 0 ≤ x.toInt := by
    have := Int32.not_lt.mp h
    exact Int32.le_iff_toInt_le.mp this
  have h3 : x.toInt < n := by rw [← hM]; exact Int32.lt_iff_toInt_lt.mp h2
  refine ⟨x.toInt.toNat, by omega, ?_⟩
  apply Int32.toInt_inj.mp
  have h5 := Int32.toInt_lt x
  rw [nI_toInt (by omega)]
  omega
theorem ix8 {x : Int32} (h : ¬ x < 0) (h2 : x < 8) : ∃ j : Nat, j < 8 ∧ x = nI j := ixN (by decide) h h2
end
section
/-! copies of rows, resets: what they do to a memory -/
theorem mem_cast {D : va_G} {cA : Nat → ClassId} {ad : Nat → Nat} {o : Int64} {σ σ' : Mem} {H : Heap} (h : σ = σ') (hP : WP D cA ad o σ H) : WP D cA ad o σ' H := h ▸ hP
/-- places dp .. dp + n - 1 of row d become those of row s from sp on -/
def cpm (σ : Mem) (s sp d dp n : Nat) : Mem := fun a => if a = d then va_cpy (σ s) (σ d) sp dp n else σ a
/-- the first n places of row d become those of row s -/
def rcpy (σ : Mem) (d s n : Nat) : Mem := fun a => if a = d then (fun b => if b < n then σ s b else σ d b) else σ a
theorem cpm0 (σ : Mem) (s d n : Nat) : cpm σ s 0 d 0 n = rcpy σ d s n := by
  funext a
  by_cases h : a = d
  · funext b
    by_cases h2 : b < n <;> simp [cpm, rcpy, h, va_cpy, h2]
  · simp [cpm, rcpy, h]
def rbeg (r : Nat → Int32) : Nat → Int32 := fun b => if b = 6 then -2 else if 7 ≤ b ∧ b ≤ 11 then 0 else r b
def cbeg (σ : Mem) (i : Nat) : Mem := fun a => if a = i then rbeg (σ i) else σ a
theorem cbeg_eq (σ : Mem) (i : Nat) : stm (stm (stm (stm (stm (stm σ i 6 (-2)) i 7 0) i 8 0) i 9 0) i 10 0) i 11 0 = cbeg σ i := by
  funext a
  by_cases h : a = i
  · subst h
    funext b
    simp only [stm, cbeg, rbeg, upd, if_true]
    by_cases h1 : b = 11
    · simp [h1]
    by_cases h2 : b = 10
    · simp [h2]
    by_cases h3 : b = 9
    · simp [h3]
    by_cases h4 : b = 8
    · simp [h4]
    by_cases h5 : b = 7
    · simp [h5]
    have h6 : ¬ (7 ≤ b ∧ b ≤ 11) := by omega
    simp [h1, h2, h3, h4, h5, h6]
  · simp [stm, cbeg, h]
def tbegK (σ : Mem) (t k : Nat) : Mem := fun a => if 22 * t + 15 ≤ a ∧ a < 22 * t + 15 + k then rbeg (σ a) else σ a
theorem tbegK_0 (σ : Mem) (t : Nat) : σ = tbegK σ t 0 := by
  funext a
  have h : ¬ (22 * t + 15 ≤ a ∧ a < 22 * t + 15 + 0) := by omega
  simp only [tbegK, if_neg h]
theorem tbegK_s (σ : Mem) (t k : Nat) : cbeg (tbegK σ t k) (22 * t + 15 + k) = tbegK σ t (k + 1) := by
  funext a
  by_cases h : a = 22 * t + 15 + k
  · have h1 : 22 * t + 15 ≤ a ∧ a < 22 * t + 15 + (k + 1) := by omega
    have h2 : ¬ (22 * t + 15 ≤ a ∧ a < 22 * t + 15 + k) := by omega
    subst h
    simp only [cbeg, tbegK, if_true, if_pos h1, if_neg h2]
  · by_cases h1 : 22 * t + 15 ≤ a ∧ a < 22 * t + 15 + k
    · have h2 : 22 * t + 15 ≤ a ∧ a < 22 * t + 15 + (k + 1) := by omega
      simp only [cbeg, tbegK, if_neg h, if_pos h1, if_pos h2]
    · have h2 : ¬ (22 * t + 15 ≤ a ∧ a < 22 * t + 15 + (k + 1)) := by omega
      simp only [cbeg, tbegK, if_neg h, if_neg h1, if_neg h2]
/-- the first k places of row i are 0 -/
def rz (σ : Mem) (i k : Nat) : Mem := fun a => if a = i then (fun b => if b < k then 0 else σ i b) else σ a
theorem rz_0 (σ : Mem) (i : Nat) : σ = rz σ i 0 := by
  funext a
  by_cases h : a = i
  · subst h
    simp [rz]
  · simp [rz, h]
theorem rz_s (σ : Mem) (i k : Nat) : stm (rz σ i k) i k 0 = rz σ i (k + 1) := by
  funext a
  by_cases h : a = i
  · subst h
    funext b
    by_cases h1 : b = k
    · have h2 : b < k + 1 := by omega
      simp [stm, rz, upd, h1]
    · by_cases h2 : b < k
      · have h3 : b < k + 1 := by omega
        simp [stm, rz, upd, h1, h2, h3]
      · have h3 : ¬ b < k + 1 := by omega
        simp [stm, rz, upd, h1, h2, h3]
  · simp [stm, rz, h]
def tbeg (σ : Mem) (t : Nat) : Mem := stm (stm (stm (rz (tbegK σ t 7) (22 * t + 14) 73) (22 * t) 3 0) (22 * t) 4 0) (22 * t) 5 0
/-- as many copies of one row's first places as a row's fields: Cart.copyFrom -/
theorem cart_cpy (σ : Mem) {d s : Nat} (h : s ≠ d) : stm (stm (stm (stm (stm (stm (stm (stm (stm (stm (stm (stm σ d 0 (σ s 0)) d 1 (σ s 1)) d 2 (σ s 2)) d 3 (σ s 3)) d 4 (σ s 4)) d 5 (σ s 5)) d 6 (σ s 6)) d 7 (σ s 7)) d 8 (σ s 8)) d 9 (σ s 9)) d 10 (σ s 10)) d 11 (σ s 11) = rcpy σ d s 12 := by
  funext a
  by_cases hd : a = d
  · subst hd
    funext b
    simp only [stm, rcpy, upd, if_true]
    by_cases hb : b < 12
    · rcases (show b = 0 ∨ b = 1 ∨ b = 2 ∨ b = 3 ∨ b = 4 ∨ b = 5 ∨ b = 6 ∨ b = 7 ∨ b = 8 ∨ b = 9 ∨ b = 10 ∨ b = 11 by omega) with rfl | rfl | rfl | rfl | rfl | rfl | rfl | rfl | rfl | rfl | rfl | rfl <;> simp
    · have h0 : ∀ k, k < 12 → ¬ b = k := fun k hk => by omega
      simp [h0, hb]
  · simp [stm, rcpy, hd]
section FY
variable {p : Program} {l : Launch} {e : Env} {R : Room} {s : State} {m : MethodId} {args : Array Value} {below : List Frame} {meth : Method} {c : Code} {H : Heap} {locs : List Loc} {cells slots : Nat} {Q : State → Prop}
variable {cc : ByteArray} {pc nL : Nat} {ls : Array Slot} {rest : List Value} {D : va_G} {cA : Nat → ClassId} {ad : Nat → Nat} {A : Nat → Prop} {σ : Mem} {o : Int64} {own : String}
theorem r_copy (C0 : CX p s m args c cc nL own) (X : WX D cA ad A s) (hP : WP D cA ad o σ H) (hS : va_S A s.heap H locs) {index : Nat} (hlink : Cond.methodLink own index arraycopyName ∈ tbg) (hsz : ls.size = nL) (i j : Nat) {n0 n1 sp dp n : Nat} (hi : i < 106 ∧ kd i = (9, n0)) (hj : j < 106 ∧ kd j = (9, n1)) {xs xd xn : Int32} (h1 : xs = nI sp) (h2 : xd = nI dp) (h3 : xn = nI n) (h4 : sp + n ≤ n0) (h5 : dp + n ≤ n1) (hframes : 1 ≤ R.frames) (hlocals : (rest.map fun v => v.category).sum + (nativeFrameWords "java/lang/System" "arraycopy" 5 + 11) ≤ R.locals) (hdg : decode cc pc = .ok (.invokestatic index, 3))
    (kk : ∀ (H1 : Heap) (locs1 : List Loc), WP D cA ad o (cpm σ i sp j dp n) H1 → va_S A s.heap H1 locs1 → W p l e R s m args below meth c H1 locs1 cells slots Q (F0 m (pc + 3) ls rest)) : W p l e R s m args below meth c H locs cells slots Q (F0 m pc ls (.int xn :: .int xd :: .ref (ad j) :: .int xs :: .ref (ad i) :: rest)) := by
  have a0 : n0 < 2 ^ 31 := by have := kdlt i hi.1; rw [hi.2] at this; exact this
  have a1 : n1 < 2 ^ 31 := by have := kdlt j hj.1; rw [hj.2] at this; exact this
  obtain ⟨hx, hb, hml, hown, hts⟩ := C0
  subst h1; subst h2; subst h3
  refine va_copyi hx hb (by rw [hml, hsz]) hown (hts _ hlink) (hts _ (tm 419 (by decide +kernel) (by decide +kernel))) (hts _ (tm 418 (by decide +kernel) (by decide +kernel))) (hts _ (tm 65 (by decide +kernel) (by decide +kernel))) X.1 hP (WX_D X o σ) hS i j 0 0 (c0 := cA 0) (c1 := cA 0) (n0 := n0) (n1 := n1) (f := σ i) (g := σ j) (ty := .int) (by rw [wl_get cA ad o σ hi.1, cel_arr hi.2]) (by rw [wl_get cA ad o σ hj.1, cel_arr hj.2]) rfl rfl rfl (nI_pos (by omega)) (nI_pos (by omega)) (nI_pos (by omega)) (by rw [nI_clamp (by omega), nI_clamp (by omega)]; exact h4) (by rw [nI_clamp (by omega), nI_clamp (by omega)]; exact h5) (fun _ _ => rfl) hframes hlocals hdg (fun H1 locs1 hP1 _ hS1 => kk H1 locs1 ?_ hS1)
  rw [nI_clamp (by omega), nI_clamp (by omega), nI_clamp (by omega), ← cel_arr (cA := cA) (ad := ad) (o := o) hj.2, wl_set] at hP1
  exact hP1
theorem fits_lk : Cond.methodLink "WhoBacks$Road" 52 arraycopyName ∈ tbg := tm 417 (by decide +kernel) (by decide +kernel)
theorem lkTr58 : Cond.methodLink "WhoBacks$Traffic" 58 arraycopyName ∈ tbg := tm 424 (by decide +kernel) (by decide +kernel)
theorem lkWh310 : Cond.methodLink "WhoBacks" 310 arraycopyName ∈ tbg := tm 888 (by decide +kernel) (by decide +kernel)
end FY
theorem nosh {j : Nat} (h : j < 8) : ¬ (nI j < 0 ∨ 8 ≤ nI j) := by
  intro q
  rcases q with q | q
  · exact nI_pos (by omega) q
  · exact nI_ge (a := j) (b := 8) h (by decide) q
theorem nI_ltof {k b : Nat} (h : ¬ nI b ≤ nI k) (hk : k < 2 ^ 31) : k < b := by
  rcases Nat.lt_or_ge k b with q | q
  · exact q
  · exact absurd (nI_le q hk) h
theorem nI_geof {k b : Nat} (h : nI b ≤ nI k) (hk : k ≤ b) (hb : b < 2 ^ 31) : k = b := by
  rcases Nat.lt_or_ge k b with q | q
  · exact absurd h (nI_ge q hb)
  · omega
end
section
theorem dX0_beginAnew_0 : decode cX0_beginAnew 0 = .ok (.aload_n 0, 1) := by decide +kernel
theorem dX0_beginAnew_1 : decode cX0_beginAnew 1 = .ok (.bipush (-2), 2) := by decide +kernel
theorem dX0_beginAnew_3 : decode cX0_beginAnew 3 = .ok (.putfield 9, 3) := by decide +kernel
theorem dX0_beginAnew_6 : decode cX0_beginAnew 6 = .ok (.aload_n 0, 1) := by decide +kernel
theorem dX0_beginAnew_7 : decode cX0_beginAnew 7 = .ok (.iconst 0, 1) := by decide +kernel
theorem dX0_beginAnew_8 : decode cX0_beginAnew 8 = .ok (.putfield 34, 3) := by decide +kernel
theorem dX0_beginAnew_11 : decode cX0_beginAnew 11 = .ok (.aload_n 0, 1) := by decide +kernel
theorem dX0_beginAnew_12 : decode cX0_beginAnew 12 = .ok (.iconst 0, 1) := by decide +kernel
theorem dX0_beginAnew_13 : decode cX0_beginAnew 13 = .ok (.putfield 37, 3) := by decide +kernel
theorem dX0_beginAnew_16 : decode cX0_beginAnew 16 = .ok (.aload_n 0, 1) := by decide +kernel
theorem dX0_beginAnew_17 : decode cX0_beginAnew 17 = .ok (.iconst 0, 1) := by decide +kernel
theorem dX0_beginAnew_18 : decode cX0_beginAnew 18 = .ok (.putfield 40, 3) := by decide +kernel
theorem dX0_beginAnew_21 : decode cX0_beginAnew 21 = .ok (.aload_n 0, 1) := by decide +kernel
theorem dX0_beginAnew_22 : decode cX0_beginAnew 22 = .ok (.iconst 0, 1) := by decide +kernel
theorem dX0_beginAnew_23 : decode cX0_beginAnew 23 = .ok (.putfield 43, 3) := by decide +kernel
theorem dX0_beginAnew_26 : decode cX0_beginAnew 26 = .ok (.aload_n 0, 1) := by decide +kernel
theorem dX0_beginAnew_27 : decode cX0_beginAnew 27 = .ok (.iconst 0, 1) := by decide +kernel
theorem dX0_beginAnew_28 : decode cX0_beginAnew 28 = .ok (.putfield 46, 3) := by decide +kernel
theorem dX0_beginAnew_31 : decode cX0_beginAnew 31 = .ok (.return_, 1) := by decide +kernel
set_option maxHeartbeats 4000000 in
set_option maxRecDepth 100000 in
theorem c_X0_beginAnew (l : Launch) (D : va_G) (cA : Nat → ClassId) (ad : Nat → Nat) (o : Int64) (σ : Mem) (i : Nat) (hi : i < 106 ∧ kd i = (0, 12)) (sz : Nat) : Met l yX0_beginAnew (WY yX0_beginAnew cX0_beginAnew 1 none) (RM 0) (va_Pc [.ref (ad i)] (PW D cA ad o σ sz)) (va_Qv (fun σ9 => σ9 = cbeg σ i) (QW D cA ad o) (FA ad sz)) 0 0 (FA ad sz) := by
  refine ct_of (own := RX0) (k := 0) (Qf := va_Qv (fun σ9 => σ9 = cbeg σ i) (QW D cA ad o)) rfl (by decide) (Nat.le_of_ble_eq_true rfl) (fun p e s m below meth c ls C0 X hr hlk hP hl => ?_) sz
  have hS : va_S (FA ad s.heap.size) s.heap s.heap [] := va_S.rf
  have hl : lv_has ls 1 [(0, .ref (ad i))] := hl
  obtain ⟨hx, hb, hml, hown, hts⟩ := id C0
  refine lv_aload_n hx hb dX0_beginAnew_0 rfl (lv_at hl 0 rfl) ?_
  refine lv_bipush (v := (-2)) hx hb dX0_beginAnew_1 (by decide) ?_
  refine pf_X0_9 C0 X hP hS i hi dX0_beginAnew_3 (fun H locs hP hS => ?_)
  refine lv_aload_n hx hb dX0_beginAnew_6 rfl (lv_at hl 0 rfl) ?_
  refine lv_iconst (v := 0) hx hb dX0_beginAnew_7 (by decide) ?_
  refine pf_X0_34 C0 X hP hS i (Or.inl rfl) hi dX0_beginAnew_8 (fun H locs hP hS => ?_)
  refine lv_aload_n hx hb dX0_beginAnew_11 rfl (lv_at hl 0 rfl) ?_
  refine lv_iconst (v := 0) hx hb dX0_beginAnew_12 (by decide) ?_
  refine pf_X0_37 C0 X hP hS i (Or.inl rfl) hi dX0_beginAnew_13 (fun H locs hP hS => ?_)
  refine lv_aload_n hx hb dX0_beginAnew_16 rfl (lv_at hl 0 rfl) ?_
  refine lv_iconst (v := 0) hx hb dX0_beginAnew_17 (by decide) ?_
  refine pf_X0_40 C0 X hP hS i hi dX0_beginAnew_18 (fun H locs hP hS => ?_)
  refine lv_aload_n hx hb dX0_beginAnew_21 rfl (lv_at hl 0 rfl) ?_
  refine lv_iconst (v := 0) hx hb dX0_beginAnew_22 (by decide) ?_
  refine pf_X0_43 C0 X hP hS i hi dX0_beginAnew_23 (fun H locs hP hS => ?_)
  refine lv_aload_n hx hb dX0_beginAnew_26 rfl (lv_at hl 0 rfl) ?_
  refine lv_iconst (v := 0) hx hb dX0_beginAnew_27 (by decide) ?_
  refine pf_X0_46 C0 X hP hS i hi dX0_beginAnew_28 (fun H locs hP hS => ?_)
  exact r_vret C0 X hP hS hr hlk dX0_beginAnew_31 (cbeg_eq σ i)
theorem dX0_copyFrom_0 : decode cX0_copyFrom 0 = .ok (.aload_n 0, 1) := by decide +kernel
theorem dX0_copyFrom_1 : decode cX0_copyFrom 1 = .ok (.aload_n 1, 1) := by decide +kernel
theorem dX0_copyFrom_2 : decode cX0_copyFrom 2 = .ok (.getfield 15, 3) := by decide +kernel
theorem dX0_copyFrom_5 : decode cX0_copyFrom 5 = .ok (.putfield 15, 3) := by decide +kernel
theorem dX0_copyFrom_8 : decode cX0_copyFrom 8 = .ok (.aload_n 0, 1) := by decide +kernel
theorem dX0_copyFrom_9 : decode cX0_copyFrom 9 = .ok (.aload_n 1, 1) := by decide +kernel
theorem dX0_copyFrom_10 : decode cX0_copyFrom 10 = .ok (.getfield 19, 3) := by decide +kernel
theorem dX0_copyFrom_13 : decode cX0_copyFrom 13 = .ok (.putfield 19, 3) := by decide +kernel
theorem dX0_copyFrom_16 : decode cX0_copyFrom 16 = .ok (.aload_n 0, 1) := by decide +kernel
theorem dX0_copyFrom_17 : decode cX0_copyFrom 17 = .ok (.aload_n 1, 1) := by decide +kernel
theorem dX0_copyFrom_18 : decode cX0_copyFrom 18 = .ok (.getfield 22, 3) := by decide +kernel
theorem dX0_copyFrom_21 : decode cX0_copyFrom 21 = .ok (.putfield 22, 3) := by decide +kernel
theorem dX0_copyFrom_24 : decode cX0_copyFrom 24 = .ok (.aload_n 0, 1) := by decide +kernel
theorem dX0_copyFrom_25 : decode cX0_copyFrom 25 = .ok (.aload_n 1, 1) := by decide +kernel
theorem dX0_copyFrom_26 : decode cX0_copyFrom 26 = .ok (.getfield 25, 3) := by decide +kernel
theorem dX0_copyFrom_29 : decode cX0_copyFrom 29 = .ok (.putfield 25, 3) := by decide +kernel
theorem dX0_copyFrom_32 : decode cX0_copyFrom 32 = .ok (.aload_n 0, 1) := by decide +kernel
theorem dX0_copyFrom_33 : decode cX0_copyFrom 33 = .ok (.aload_n 1, 1) := by decide +kernel
theorem dX0_copyFrom_34 : decode cX0_copyFrom 34 = .ok (.getfield 28, 3) := by decide +kernel
theorem dX0_copyFrom_37 : decode cX0_copyFrom 37 = .ok (.putfield 28, 3) := by decide +kernel
theorem dX0_copyFrom_40 : decode cX0_copyFrom 40 = .ok (.aload_n 0, 1) := by decide +kernel
theorem dX0_copyFrom_41 : decode cX0_copyFrom 41 = .ok (.aload_n 1, 1) := by decide +kernel
theorem dX0_copyFrom_42 : decode cX0_copyFrom 42 = .ok (.getfield 31, 3) := by decide +kernel
theorem dX0_copyFrom_45 : decode cX0_copyFrom 45 = .ok (.putfield 31, 3) := by decide +kernel
theorem dX0_copyFrom_48 : decode cX0_copyFrom 48 = .ok (.aload_n 0, 1) := by decide +kernel
theorem dX0_copyFrom_49 : decode cX0_copyFrom 49 = .ok (.aload_n 1, 1) := by decide +kernel
theorem dX0_copyFrom_50 : decode cX0_copyFrom 50 = .ok (.getfield 9, 3) := by decide +kernel
theorem dX0_copyFrom_53 : decode cX0_copyFrom 53 = .ok (.putfield 9, 3) := by decide +kernel
theorem dX0_copyFrom_56 : decode cX0_copyFrom 56 = .ok (.aload_n 0, 1) := by decide +kernel
theorem dX0_copyFrom_57 : decode cX0_copyFrom 57 = .ok (.aload_n 1, 1) := by decide +kernel
theorem dX0_copyFrom_58 : decode cX0_copyFrom 58 = .ok (.getfield 34, 3) := by decide +kernel
theorem dX0_copyFrom_61 : decode cX0_copyFrom 61 = .ok (.putfield 34, 3) := by decide +kernel
theorem dX0_copyFrom_64 : decode cX0_copyFrom 64 = .ok (.aload_n 0, 1) := by decide +kernel
theorem dX0_copyFrom_65 : decode cX0_copyFrom 65 = .ok (.aload_n 1, 1) := by decide +kernel
theorem dX0_copyFrom_66 : decode cX0_copyFrom 66 = .ok (.getfield 37, 3) := by decide +kernel
theorem dX0_copyFrom_69 : decode cX0_copyFrom 69 = .ok (.putfield 37, 3) := by decide +kernel
theorem dX0_copyFrom_72 : decode cX0_copyFrom 72 = .ok (.aload_n 0, 1) := by decide +kernel
theorem dX0_copyFrom_73 : decode cX0_copyFrom 73 = .ok (.aload_n 1, 1) := by decide +kernel
theorem dX0_copyFrom_74 : decode cX0_copyFrom 74 = .ok (.getfield 40, 3) := by decide +kernel
theorem dX0_copyFrom_77 : decode cX0_copyFrom 77 = .ok (.putfield 40, 3) := by decide +kernel
theorem dX0_copyFrom_80 : decode cX0_copyFrom 80 = .ok (.aload_n 0, 1) := by decide +kernel
theorem dX0_copyFrom_81 : decode cX0_copyFrom 81 = .ok (.aload_n 1, 1) := by decide +kernel
theorem dX0_copyFrom_82 : decode cX0_copyFrom 82 = .ok (.getfield 43, 3) := by decide +kernel
theorem dX0_copyFrom_85 : decode cX0_copyFrom 85 = .ok (.putfield 43, 3) := by decide +kernel
theorem dX0_copyFrom_88 : decode cX0_copyFrom 88 = .ok (.aload_n 0, 1) := by decide +kernel
theorem dX0_copyFrom_89 : decode cX0_copyFrom 89 = .ok (.aload_n 1, 1) := by decide +kernel
theorem dX0_copyFrom_90 : decode cX0_copyFrom 90 = .ok (.getfield 46, 3) := by decide +kernel
theorem dX0_copyFrom_93 : decode cX0_copyFrom 93 = .ok (.putfield 46, 3) := by decide +kernel
theorem dX0_copyFrom_96 : decode cX0_copyFrom 96 = .ok (.return_, 1) := by decide +kernel
set_option maxHeartbeats 4000000 in
set_option maxRecDepth 100000 in
theorem c_X0_copyFrom (l : Launch) (D : va_G) (cA : Nat → ClassId) (ad : Nat → Nat) (o : Int64) (σ : Mem) (i : Nat) (j : Nat) (hi : i < 106 ∧ kd i = (0, 12)) (hj : j < 106 ∧ kd j = (0, 12)) (hne : j ≠ i) (h01 : ∀ b, b = 0 ∨ b = 1 ∨ b = 7 ∨ b = 8 → (σ j b = 0 ∨ σ j b = 1)) (sz : Nat) : Met l yX0_copyFrom (WY yX0_copyFrom cX0_copyFrom 2 none) (RM 0) (va_Pc [.ref (ad i), .ref (ad j)] (PW D cA ad o σ sz)) (va_Qv (fun σ9 => σ9 = rcpy σ i j 12) (QW D cA ad o) (FA ad sz)) 0 0 (FA ad sz) := by
  refine ct_of (own := RX0) (k := 0) (Qf := va_Qv (fun σ9 => σ9 = rcpy σ i j 12) (QW D cA ad o)) rfl (by decide) (Nat.le_of_ble_eq_true rfl) (fun p e s m below meth c ls C0 X hr hlk hP hl => ?_) sz
  have hS : va_S (FA ad s.heap.size) s.heap s.heap [] := va_S.rf
  have hl : lv_has ls 2 [(0, .ref (ad i)), (1, .ref (ad j))] := hl
  obtain ⟨hx, hb, hml, hown, hts⟩ := id C0
  refine lv_aload_n hx hb dX0_copyFrom_0 rfl (lv_at hl 0 rfl) ?_
  refine lv_aload_n hx hb dX0_copyFrom_1 rfl (lv_at hl 1 rfl) ?_
  refine gf_X0_15 C0 X hP j hj dX0_copyFrom_2 ?_
  refine lv_topE (y := (σ j 0)) rfl ?_
  refine pf_X0_15 C0 X hP hS i (h01 0 (by decide)) hi dX0_copyFrom_5 (fun H locs hP hS => ?_)
  refine lv_aload_n hx hb dX0_copyFrom_8 rfl (lv_at hl 0 rfl) ?_
  refine lv_aload_n hx hb dX0_copyFrom_9 rfl (lv_at hl 1 rfl) ?_
  refine gf_X0_19 C0 X hP j hj dX0_copyFrom_10 ?_
  refine lv_topE (y := (σ j 1)) (by simp only [stm_ne _ _ _ hne]) ?_
  refine pf_X0_19 C0 X hP hS i (h01 1 (by decide)) hi dX0_copyFrom_13 (fun H locs hP hS => ?_)
  refine lv_aload_n hx hb dX0_copyFrom_16 rfl (lv_at hl 0 rfl) ?_
  refine lv_aload_n hx hb dX0_copyFrom_17 rfl (lv_at hl 1 rfl) ?_
  refine gf_X0_22 C0 X hP j hj dX0_copyFrom_18 ?_
  refine lv_topE (y := (σ j 2)) (by simp only [stm_ne _ _ _ hne]) ?_
  refine pf_X0_22 C0 X hP hS i hi dX0_copyFrom_21 (fun H locs hP hS => ?_)
  refine lv_aload_n hx hb dX0_copyFrom_24 rfl (lv_at hl 0 rfl) ?_
  refine lv_aload_n hx hb dX0_copyFrom_25 rfl (lv_at hl 1 rfl) ?_
  refine gf_X0_25 C0 X hP j hj dX0_copyFrom_26 ?_
  refine lv_topE (y := (σ j 3)) (by simp only [stm_ne _ _ _ hne]) ?_
  refine pf_X0_25 C0 X hP hS i hi dX0_copyFrom_29 (fun H locs hP hS => ?_)
  refine lv_aload_n hx hb dX0_copyFrom_32 rfl (lv_at hl 0 rfl) ?_
  refine lv_aload_n hx hb dX0_copyFrom_33 rfl (lv_at hl 1 rfl) ?_
  refine gf_X0_28 C0 X hP j hj dX0_copyFrom_34 ?_
  refine lv_topE (y := (σ j 4)) (by simp only [stm_ne _ _ _ hne]) ?_
  refine pf_X0_28 C0 X hP hS i hi dX0_copyFrom_37 (fun H locs hP hS => ?_)
  refine lv_aload_n hx hb dX0_copyFrom_40 rfl (lv_at hl 0 rfl) ?_
  refine lv_aload_n hx hb dX0_copyFrom_41 rfl (lv_at hl 1 rfl) ?_
  refine gf_X0_31 C0 X hP j hj dX0_copyFrom_42 ?_
  refine lv_topE (y := (σ j 5)) (by simp only [stm_ne _ _ _ hne]) ?_
  refine pf_X0_31 C0 X hP hS i hi dX0_copyFrom_45 (fun H locs hP hS => ?_)
  refine lv_aload_n hx hb dX0_copyFrom_48 rfl (lv_at hl 0 rfl) ?_
  refine lv_aload_n hx hb dX0_copyFrom_49 rfl (lv_at hl 1 rfl) ?_
  refine gf_X0_9 C0 X hP j hj dX0_copyFrom_50 ?_
  refine lv_topE (y := (σ j 6)) (by simp only [stm_ne _ _ _ hne]) ?_
  refine pf_X0_9 C0 X hP hS i hi dX0_copyFrom_53 (fun H locs hP hS => ?_)
  refine lv_aload_n hx hb dX0_copyFrom_56 rfl (lv_at hl 0 rfl) ?_
  refine lv_aload_n hx hb dX0_copyFrom_57 rfl (lv_at hl 1 rfl) ?_
  refine gf_X0_34 C0 X hP j hj dX0_copyFrom_58 ?_
  refine lv_topE (y := (σ j 7)) (by simp only [stm_ne _ _ _ hne]) ?_
  refine pf_X0_34 C0 X hP hS i (h01 7 (by decide)) hi dX0_copyFrom_61 (fun H locs hP hS => ?_)
  refine lv_aload_n hx hb dX0_copyFrom_64 rfl (lv_at hl 0 rfl) ?_
  refine lv_aload_n hx hb dX0_copyFrom_65 rfl (lv_at hl 1 rfl) ?_
  refine gf_X0_37 C0 X hP j hj dX0_copyFrom_66 ?_
  refine lv_topE (y := (σ j 8)) (by simp only [stm_ne _ _ _ hne]) ?_
  refine pf_X0_37 C0 X hP hS i (h01 8 (by decide)) hi dX0_copyFrom_69 (fun H locs hP hS => ?_)
  refine lv_aload_n hx hb dX0_copyFrom_72 rfl (lv_at hl 0 rfl) ?_
  refine lv_aload_n hx hb dX0_copyFrom_73 rfl (lv_at hl 1 rfl) ?_
  refine gf_X0_40 C0 X hP j hj dX0_copyFrom_74 ?_
  refine lv_topE (y := (σ j 9)) (by simp only [stm_ne _ _ _ hne]) ?_
  refine pf_X0_40 C0 X hP hS i hi dX0_copyFrom_77 (fun H locs hP hS => ?_)
  refine lv_aload_n hx hb dX0_copyFrom_80 rfl (lv_at hl 0 rfl) ?_
  refine lv_aload_n hx hb dX0_copyFrom_81 rfl (lv_at hl 1 rfl) ?_
  refine gf_X0_43 C0 X hP j hj dX0_copyFrom_82 ?_
  refine lv_topE (y := (σ j 10)) (by simp only [stm_ne _ _ _ hne]) ?_
  refine pf_X0_43 C0 X hP hS i hi dX0_copyFrom_85 (fun H locs hP hS => ?_)
  refine lv_aload_n hx hb dX0_copyFrom_88 rfl (lv_at hl 0 rfl) ?_
  refine lv_aload_n hx hb dX0_copyFrom_89 rfl (lv_at hl 1 rfl) ?_
  refine gf_X0_46 C0 X hP j hj dX0_copyFrom_90 ?_
  refine lv_topE (y := (σ j 11)) (by simp only [stm_ne _ _ _ hne]) ?_
  refine pf_X0_46 C0 X hP hS i hi dX0_copyFrom_93 (fun H locs hP hS => ?_)
  exact r_vret C0 X hP hS hr hlk dX0_copyFrom_96 (cart_cpy σ hne)
theorem dX7_shelfAt_0 : decode cX7_shelfAt 0 = .ok (.iload_n 1, 1) := by decide +kernel
theorem dX7_shelfAt_1 : decode cX7_shelfAt 1 = .ok (.ifCond .lt 9, 3) := by decide +kernel
theorem dX7_shelfAt_4 : decode cX7_shelfAt 4 = .ok (.iload_n 1, 1) := by decide +kernel
theorem dX7_shelfAt_5 : decode cX7_shelfAt 5 = .ok (.bipush 8, 2) := by decide +kernel
theorem dX7_shelfAt_7 : decode cX7_shelfAt 7 = .ok (.if_icmp .lt 7, 3) := by decide +kernel
theorem dX7_shelfAt_10 : decode cX7_shelfAt 10 = .ok (.aconst_null, 1) := by decide +kernel
theorem dX7_shelfAt_11 : decode cX7_shelfAt 11 = .ok (.goto 9, 3) := by decide +kernel
theorem dX7_shelfAt_14 : decode cX7_shelfAt 14 = .ok (.aload_n 0, 1) := by decide +kernel
theorem dX7_shelfAt_15 : decode cX7_shelfAt 15 = .ok (.getfield 24, 3) := by decide +kernel
theorem dX7_shelfAt_18 : decode cX7_shelfAt 18 = .ok (.iload_n 1, 1) := by decide +kernel
theorem dX7_shelfAt_19 : decode cX7_shelfAt 19 = .ok (.aaload, 1) := by decide +kernel
theorem dX7_shelfAt_20 : decode cX7_shelfAt 20 = .ok (.areturn, 1) := by decide +kernel
set_option maxHeartbeats 4000000 in
set_option maxRecDepth 100000 in
theorem c_X7_shelfAt (l : Launch) (D : va_G) (cA : Nat → ClassId) (ad : Nat → Nat) (o : Int64) (σ : Mem) (d : Int32)  (sz : Nat) : Met l yX7_shelfAt (WY yX7_shelfAt cX7_shelfAt 2 (some (.object "WhoBacks$Shelf"))) (RM 0) (va_Pc [.ref (ad 66), .int d] (PW D cA ad o σ sz)) (va_Qq (QQ ad (fun x σ9 => σ9 = σ ∧ (match x with | none => d < 0 ∨ 8 ≤ d | some q => ∃ j : Nat, j < 8 ∧ d = nI j ∧ q = 68 + j))) (QW D cA ad o) (FA ad sz)) 0 0 (FA ad sz) := by
  refine ct_of (own := RX7) (k := 0) (Qf := va_Qq (QQ ad (fun x σ9 => σ9 = σ ∧ (match x with | none => d < 0 ∨ 8 ≤ d | some q => ∃ j : Nat, j < 8 ∧ d = nI j ∧ q = 68 + j))) (QW D cA ad o)) rfl (by decide) (Nat.le_of_ble_eq_true rfl) (fun p e s m below meth c ls C0 X hr hlk hP hl => ?_) sz
  have hS : va_S (FA ad s.heap.size) s.heap s.heap [] := va_S.rf
  have hl : lv_has ls 2 [(0, .ref (ad 66)), (1, .int d)] := hl
  obtain ⟨hx, hb, hml, hown, hts⟩ := id C0
  refine lv_iload_n hx hb dX7_shelfAt_0 rfl (lv_at hl 1 rfl) ?_
  refine lv_if_lt (tgt := 10) hx hb dX7_shelfAt_1 (by decide) (fun c_1 => ?_) (fun c_1 => ?_)
  · refine lv_null hx hb dX7_shelfAt_10 ?_
    refine lv_goto (tgt := 20) hx hb dX7_shelfAt_11 (by decide) ?_
    exact r_aretN C0 X hP hS hr hlk dX7_shelfAt_20 ⟨rfl, Or.inl c_1⟩
  · refine lv_iload_n hx hb dX7_shelfAt_4 rfl (lv_at hl 1 rfl) ?_
    refine lv_bipush (v := 8) hx hb dX7_shelfAt_5 (by decide) ?_
    refine lv_icmp_lt (tgt := 14) hx hb dX7_shelfAt_7 (by decide) (fun c_2 => ?_) (fun c_2 => ?_)
    · obtain ⟨j, hj, rfl⟩ : ∃ j : Nat, j < 8 ∧ d = nI j := ix8 c_1 c_2
      refine lv_aload_n hx hb dX7_shelfAt_14 rfl (lv_at hl 0 rfl) ?_
      refine gf_X7_24 C0 X hP 66 (q := 67) ⟨by decide, rfl⟩ (by omega) rfl dX7_shelfAt_15 ?_
      refine lv_iload_n hx hb dX7_shelfAt_18 rfl (lv_at hl 1 rfl) ?_
      refine r_aaldSN C0 X hP 67 (k := j) (q := (68 + j)) ⟨by decide, rfl⟩ rfl (by omega) (lkSh j (by omega)) dX7_shelfAt_19 ?_
      exact r_aret C0 X hP hS hr hlk dX7_shelfAt_20 ⟨rfl, j, hj, rfl, rfl⟩
    · refine lv_null hx hb dX7_shelfAt_10 ?_
      refine lv_goto (tgt := 20) hx hb dX7_shelfAt_11 (by decide) ?_
      exact r_aretN C0 X hP hS hr hlk dX7_shelfAt_20 ⟨rfl, Or.inr (Int32.not_lt.mp c_2)⟩
theorem dX6_beginAnew_0 : decode cX6_beginAnew 0 = .ok (.iconst 0, 1) := by decide +kernel
theorem dX6_beginAnew_1 : decode cX6_beginAnew 1 = .ok (.istore_n 1, 1) := by decide +kernel
theorem dX6_beginAnew_2 : decode cX6_beginAnew 2 = .ok (.iload_n 1, 1) := by decide +kernel
theorem dX6_beginAnew_3 : decode cX6_beginAnew 3 = .ok (.bipush 7, 2) := by decide +kernel
theorem dX6_beginAnew_5 : decode cX6_beginAnew 5 = .ok (.if_icmp .ge 18, 3) := by decide +kernel
theorem dX6_beginAnew_8 : decode cX6_beginAnew 8 = .ok (.aload_n 0, 1) := by decide +kernel
theorem dX6_beginAnew_9 : decode cX6_beginAnew 9 = .ok (.getfield 20, 3) := by decide +kernel
theorem dX6_beginAnew_12 : decode cX6_beginAnew 12 = .ok (.iload_n 1, 1) := by decide +kernel
theorem dX6_beginAnew_13 : decode cX6_beginAnew 13 = .ok (.aaload, 1) := by decide +kernel
theorem dX6_beginAnew_14 : decode cX6_beginAnew 14 = .ok (.invokevirtual 64, 3) := by decide +kernel
theorem dX6_beginAnew_17 : decode cX6_beginAnew 17 = .ok (.iinc 1 1, 3) := by decide +kernel
theorem dX6_beginAnew_20 : decode cX6_beginAnew 20 = .ok (.goto (-18), 3) := by decide +kernel
theorem dX6_beginAnew_23 : decode cX6_beginAnew 23 = .ok (.iconst 0, 1) := by decide +kernel
theorem dX6_beginAnew_24 : decode cX6_beginAnew 24 = .ok (.istore_n 1, 1) := by decide +kernel
theorem dX6_beginAnew_25 : decode cX6_beginAnew 25 = .ok (.iload_n 1, 1) := by decide +kernel
theorem dX6_beginAnew_26 : decode cX6_beginAnew 26 = .ok (.bipush 73, 2) := by decide +kernel
theorem dX6_beginAnew_28 : decode cX6_beginAnew 28 = .ok (.if_icmp .ge 16, 3) := by decide +kernel
theorem dX6_beginAnew_31 : decode cX6_beginAnew 31 = .ok (.aload_n 0, 1) := by decide +kernel
theorem dX6_beginAnew_32 : decode cX6_beginAnew 32 = .ok (.getfield 24, 3) := by decide +kernel
theorem dX6_beginAnew_35 : decode cX6_beginAnew 35 = .ok (.iload_n 1, 1) := by decide +kernel
theorem dX6_beginAnew_36 : decode cX6_beginAnew 36 = .ok (.iconst 0, 1) := by decide +kernel
theorem dX6_beginAnew_37 : decode cX6_beginAnew 37 = .ok (.iastore, 1) := by decide +kernel
theorem dX6_beginAnew_38 : decode cX6_beginAnew 38 = .ok (.iinc 1 1, 3) := by decide +kernel
theorem dX6_beginAnew_41 : decode cX6_beginAnew 41 = .ok (.goto (-16), 3) := by decide +kernel
theorem dX6_beginAnew_44 : decode cX6_beginAnew 44 = .ok (.aload_n 0, 1) := by decide +kernel
theorem dX6_beginAnew_45 : decode cX6_beginAnew 45 = .ok (.iconst 0, 1) := by decide +kernel
theorem dX6_beginAnew_46 : decode cX6_beginAnew 46 = .ok (.putfield 49, 3) := by decide +kernel
theorem dX6_beginAnew_49 : decode cX6_beginAnew 49 = .ok (.aload_n 0, 1) := by decide +kernel
theorem dX6_beginAnew_50 : decode cX6_beginAnew 50 = .ok (.iconst 0, 1) := by decide +kernel
theorem dX6_beginAnew_51 : decode cX6_beginAnew 51 = .ok (.putfield 52, 3) := by decide +kernel
theorem dX6_beginAnew_54 : decode cX6_beginAnew 54 = .ok (.aload_n 0, 1) := by decide +kernel
theorem dX6_beginAnew_55 : decode cX6_beginAnew 55 = .ok (.iconst 0, 1) := by decide +kernel
theorem dX6_beginAnew_56 : decode cX6_beginAnew 56 = .ok (.putfield 55, 3) := by decide +kernel
theorem dX6_beginAnew_59 : decode cX6_beginAnew 59 = .ok (.return_, 1) := by decide +kernel
set_option maxHeartbeats 4000000 in
set_option maxRecDepth 100000 in
theorem c_X6_beginAnew (l : Launch) (D : va_G) (cA : Nat → ClassId) (ad : Nat → Nat) (o : Int64) (σ : Mem) (t : Nat) (ht : t < 3) (sz : Nat) : Met l yX6_beginAnew (WY yX6_beginAnew cX6_beginAnew 2 none) (RM 1) (va_Pc [.ref (ad (22 * t))] (PW D cA ad o σ sz)) (va_Qv (fun σ9 => σ9 = tbeg σ t) (QW D cA ad o) (FA ad sz)) 0 0 (FA ad sz) := by
  refine ct_of (own := RX6) (k := 1) (Qf := va_Qv (fun σ9 => σ9 = tbeg σ t) (QW D cA ad o)) rfl (by decide) (Nat.le_of_ble_eq_true rfl) (fun p e s m below meth c ls C0 X hr hlk hP hl => ?_) sz
  have hS : va_S (FA ad s.heap.size) s.heap s.heap [] := va_S.rf
  have hl : lv_has ls 2 [(0, .ref (ad (22 * t)))] := hl
  obtain ⟨hx, hb, hml, hown, hts⟩ := id C0
  refine lv_iconst (v := 0) hx hb dX6_beginAnew_0 (by decide) ?_
  refine lv_istore_n (lv' := [(1, .int 0), (0, .ref (ad (22 * t)))]) hx hb dX6_beginAnew_1 rfl hl (by decide) rfl (fun ls hl => ?_)
  have lp_1 : ∀ (n : Nat) (k : Nat) (H : Heap) (locs : List Loc) (ls : Array Slot), k ≤ 7 → WP D cA ad o (tbegK σ t k) H → va_S (FA ad s.heap.size) s.heap H locs → lv_has ls 2 [(0, .ref (ad (22 * t))), (1, .int (nI k))] → (7 - k) < n → W p l e (RM 1) s m ([.ref (ad (22 * t))] : List Value).toArray below meth c H locs 0 0 (MQ below (va_Qv (fun σ9 => σ9 = tbeg σ t) (QW D cA ad o) (FA ad s.heap.size)) ([.ref (ad (22 * t))] : List Value).toArray s 0 0 (FA ad s.heap.size)) (F0 m 2 ls []) := by
    intro n
    induction n with
    | zero => intro k H locs ls hk hP hS hl hn; exact absurd hn (Nat.not_lt_zero _)
    | succ n ih =>
      intro k H locs ls hk hP hS hl hn
      refine lv_iload_n hx hb dX6_beginAnew_2 rfl (lv_at hl 1 rfl) ?_
      refine lv_bipush (v := 7) hx hb dX6_beginAnew_3 (by decide) ?_
      refine lv_icmp_ge (tgt := 23) hx hb dX6_beginAnew_5 (by decide) (fun c_2 => ?_) (fun c_2 => ?_)
      · obtain rfl : k = 7 := nI_geof (b := 7) c_2 hk (by omega)
        refine lv_iconst (v := 0) hx hb dX6_beginAnew_23 (by decide) ?_
        refine lv_istore_n (lv' := [(1, .int 0), (0, .ref (ad (22 * t)))]) hx hb dX6_beginAnew_24 rfl hl (by decide) rfl (fun ls hl => ?_)
        have lp_3 : ∀ (n : Nat) (k : Nat) (H : Heap) (locs : List Loc) (ls : Array Slot), k ≤ 73 → WP D cA ad o (rz (tbegK σ t 7) (22 * t + 14) k) H → va_S (FA ad s.heap.size) s.heap H locs → lv_has ls 2 [(0, .ref (ad (22 * t))), (1, .int (nI k))] → (73 - k) < n → W p l e (RM 1) s m ([.ref (ad (22 * t))] : List Value).toArray below meth c H locs 0 0 (MQ below (va_Qv (fun σ9 => σ9 = tbeg σ t) (QW D cA ad o) (FA ad s.heap.size)) ([.ref (ad (22 * t))] : List Value).toArray s 0 0 (FA ad s.heap.size)) (F0 m 25 ls []) := by
          intro n
          induction n with
          | zero => intro k H locs ls hk hP hS hl hn; exact absurd hn (Nat.not_lt_zero _)
          | succ n ih =>
            intro k H locs ls hk hP hS hl hn
            refine lv_iload_n hx hb dX6_beginAnew_25 rfl (lv_at hl 1 rfl) ?_
            refine lv_bipush (v := 73) hx hb dX6_beginAnew_26 (by decide) ?_
            refine lv_icmp_ge (tgt := 44) hx hb dX6_beginAnew_28 (by decide) (fun c_4 => ?_) (fun c_4 => ?_)
            · obtain rfl : k = 73 := nI_geof (b := 73) c_4 hk (by omega)
              refine lv_aload_n hx hb dX6_beginAnew_44 rfl (lv_at hl 0 rfl) ?_
              refine lv_iconst (v := 0) hx hb dX6_beginAnew_45 (by decide) ?_
              refine pf_X6_49 C0 X hP hS (22 * t) (kdT t ht) dX6_beginAnew_46 (fun H locs hP hS => ?_)
              refine lv_aload_n hx hb dX6_beginAnew_49 rfl (lv_at hl 0 rfl) ?_
              refine lv_iconst (v := 0) hx hb dX6_beginAnew_50 (by decide) ?_
              refine pf_X6_52 C0 X hP hS (22 * t) (kdT t ht) dX6_beginAnew_51 (fun H locs hP hS => ?_)
              refine lv_aload_n hx hb dX6_beginAnew_54 rfl (lv_at hl 0 rfl) ?_
              refine lv_iconst (v := 0) hx hb dX6_beginAnew_55 (by decide) ?_
              refine pf_X6_55 C0 X hP hS (22 * t) (kdT t ht) dX6_beginAnew_56 (fun H locs hP hS => ?_)
              exact r_vret C0 X hP hS hr hlk dX6_beginAnew_59 rfl
            · have hk7 : k < 73 := nI_ltof (b := 73) c_4 (by omega)
              refine lv_aload_n hx hb dX6_beginAnew_31 rfl (lv_at hl 0 rfl) ?_
              refine gf_X6_24 C0 X hP (22 * t) (q := (22 * t + 14)) (kdT t ht) (by omega) (lkT7 t ht) dX6_beginAnew_32 ?_
              refine lv_iload_n hx hb dX6_beginAnew_35 rfl (lv_at hl 1 rfl) ?_
              refine lv_iconst (v := 0) hx hb dX6_beginAnew_36 (by decide) ?_
              refine r_iastN C0 X hP hS (22 * t + 14) (k := k) (kdA14 t ht) rfl (by omega) dX6_beginAnew_37 (fun H locs hP hS => ?_)
              refine lv_iinc (v := (nI (k + 1))) (lv' := [(1, .int (nI (k + 1))), (0, .ref (ad (22 * t)))]) hx hb dX6_beginAnew_38 hl (k := 1) rfl (nI_1 _) (by decide) rfl (fun ls hl => ?_)
              refine lv_goto (tgt := 25) hx hb dX6_beginAnew_41 (by decide) ?_
              exact ih (k + 1) _ _ ls (by omega) (mem_cast (rz_s _ _ _) hP) hS (lv_sub hl [1, 0] rfl) (by omega)
        exact lp_3 ((73 - 0) + 1) 0 _ _ ls (by decide) (mem_cast (rz_0 _ _) hP) hS (lv_sub hl [1, 0] rfl) (by omega)
      · have hk7 : k < 7 := nI_ltof (b := 7) c_2 (by omega)
        refine lv_aload_n hx hb dX6_beginAnew_8 rfl (lv_at hl 0 rfl) ?_
        refine gf_X6_20 C0 X hP (22 * t) (q := (22 * t + 13)) (kdT t ht) (by omega) (lkT1 t ht) dX6_beginAnew_9 ?_
        refine lv_iload_n hx hb dX6_beginAnew_12 rfl (lv_at hl 1 rfl) ?_
        refine r_aaldCN C0 X hP (22 * t + 13) (k := k) (q := (22 * t + 15 + k)) (kdCA t ht) rfl (by omega) (lkCA t ht k (by omega)) dX6_beginAnew_13 ?_
        refine r_cv X hS (r_runV (As := []) (rest := []) C0 X hP L_X6_64 (fun sz => c_X0_beginAnew l D cA ad o (tbegK σ t k) (22 * t + 15 + k) (kdC t ht k (by omega)) sz) (kdC t ht k (by omega)).1 (kdC t ht k (by omega)).2 (by decide) rfl ⟨Nat.le_of_ble_eq_true rfl, Nat.le_of_ble_eq_true rfl⟩ rfl hl.1 rfl (by decide) dX6_beginAnew_14 ⟨Nat.zero_le _, Nat.zero_le _⟩) (fun σ9 H locs hw hP hS => ?_)
        rw [hw] at hP
        refine lv_iinc (v := (nI (k + 1))) (lv' := [(1, .int (nI (k + 1))), (0, .ref (ad (22 * t)))]) hx hb dX6_beginAnew_17 hl (k := 1) rfl (nI_1 _) (by decide) rfl (fun ls hl => ?_)
        refine lv_goto (tgt := 2) hx hb dX6_beginAnew_20 (by decide) ?_
        exact ih (k + 1) _ _ ls (by omega) (mem_cast (tbegK_s σ t k) hP) hS (lv_sub hl [1, 0] rfl) (by omega)
  exact lp_1 ((7 - 0) + 1) 0 _ _ ls (by decide) (mem_cast (tbegK_0 σ t) hP) hS (lv_sub hl [1, 0] rfl) (by omega)
end
section
/-! Road.copyFrom, Traffic.copyFrom: what they do to a memory; the fresh state -/
def rdcpy (σ : Mem) (t u : Nat) : Mem := rcpy (rcpy (rcpy (rcpy (rcpy (rcpy (rcpy (rcpy (rcpy (rcpy (rcpy (stm (stm σ (22 * t + 1) 0 (σ (22 * u + 1) 0)) (22 * t + 1) 1 (σ (22 * u + 1) 1)) (22 * t + 2) (22 * u + 2) 8) (22 * t + 3) (22 * u + 3) 8) (22 * t + 4) (22 * u + 4) 8) (22 * t + 5) (22 * u + 5) 9) (22 * t + 6) (22 * u + 6) 9) (22 * t + 7) (22 * u + 7) 73) (22 * t + 8) (22 * u + 8) 73) (22 * t + 9) (22 * u + 9) 73) (22 * t + 10) (22 * u + 10) 73) (22 * t + 11) (22 * u + 11) 3) (22 * t + 12) (22 * u + 12) 3
theorem rcpy_ne (σ : Mem) {a d : Nat} (s n : Nat) (h : a ≠ d) : rcpy σ d s n a = σ a := by simp [rcpy, h]
theorem rdcpy_ne (σ : Mem) {t u a : Nat} (h : a < 22 * t + 1 ∨ 22 * t + 12 < a) : rdcpy σ t u a = σ a := by
  simp only [rdcpy]
  rw [rcpy_ne _ _ _ (by omega), rcpy_ne _ _ _ (by omega), rcpy_ne _ _ _ (by omega), rcpy_ne _ _ _ (by omega), rcpy_ne _ _ _ (by omega), rcpy_ne _ _ _ (by omega), rcpy_ne _ _ _ (by omega), rcpy_ne _ _ _ (by omega), rcpy_ne _ _ _ (by omega), rcpy_ne _ _ _ (by omega), rcpy_ne _ _ _ (by omega), stm_ne _ _ _ (by omega), stm_ne _ _ _ (by omega)]
def ccpyK (σ : Mem) (t u k : Nat) : Mem := fun a => if 22 * t + 15 ≤ a ∧ a < 22 * t + 15 + k then (fun b => if b < 12 then σ (a - 22 * t + 22 * u) b else σ a b) else σ a
theorem ccpyK_0 (σ : Mem) (t u : Nat) : σ = ccpyK σ t u 0 := by
  funext a
  have h : ¬ (22 * t + 15 ≤ a ∧ a < 22 * t + 15 + 0) := by omega
  simp only [ccpyK, if_neg h]
theorem ccpyK_ne (σ : Mem) {t u k a : Nat} (h : a < 22 * t + 15 ∨ 22 * t + 15 + k ≤ a) : ccpyK σ t u k a = σ a := by
  have h : ¬ (22 * t + 15 ≤ a ∧ a < 22 * t + 15 + k) := by omega
  simp only [ccpyK, if_neg h]
theorem ccpyK_s (σ : Mem) {t u k : Nat} (hk : k < 7) (hne : u ≠ t) : rcpy (ccpyK σ t u k) (22 * t + 15 + k) (22 * u + 15 + k) 12 = ccpyK σ t u (k + 1) := by
  funext a
  by_cases h : a = 22 * t + 15 + k
  · subst h
    have h1 : 22 * t + 15 ≤ 22 * t + 15 + k ∧ 22 * t + 15 + k < 22 * t + 15 + (k + 1) := by omega
    have h2 : 22 * t + 15 + k - 22 * t + 22 * u = 22 * u + 15 + k := by omega
    simp only [rcpy, if_true]
    rw [ccpyK_ne σ (a := 22 * u + 15 + k) (by omega), ccpyK_ne σ (a := 22 * t + 15 + k) (by omega)]
    simp only [ccpyK, if_pos h1, h2]
  · rw [rcpy_ne _ _ _ h]
    by_cases h1 : 22 * t + 15 ≤ a ∧ a < 22 * t + 15 + k
    · have h2 : 22 * t + 15 ≤ a ∧ a < 22 * t + 15 + (k + 1) := by omega
      simp only [ccpyK, if_pos h1, if_pos h2]
    · have h2 : ¬ (22 * t + 15 ≤ a ∧ a < 22 * t + 15 + (k + 1)) := by omega
      simp only [ccpyK, if_neg h1, if_neg h2]
def tcpy (σ : Mem) (t u : Nat) : Mem := rcpy (stm (stm (stm (stm (ccpyK (rdcpy σ t u) t u 7) (22 * t) 2 (σ (22 * u) 2)) (22 * t) 3 (σ (22 * u) 3)) (22 * t) 4 (σ (22 * u) 4)) (22 * t) 5 (σ (22 * u) 5)) (22 * t + 14) (22 * u + 14) 73
/-- a new object of each side -/
def Fr (σ : Mem) : Prop := (σ 0 2 = 0 ∧ σ 0 3 = 0 ∧ σ 0 4 = 0 ∧ σ 0 5 = 0) ∧ (σ 1 0 = 0 ∧ σ 1 1 = 0) ∧ σ 66 3 = 0 ∧ (∀ j, j < 8 → σ (68 + j) 0 = 0) ∧ (∀ v, v < 3 → σ 11 v = 0) ∧ (∀ v, v < 3 → σ 12 v = 0) ∧ (∀ k, k < 7 → ∀ b, b = 0 ∨ b = 1 ∨ b = 7 ∨ b = 8 → (σ (15 + k) b = 0 ∨ σ (15 + k) b = 1)) ∧ (∀ k, k < 5 → σ 92 k = 0) ∧ (∀ k, k < 6 → σ 92 (38 + k) = 0) ∧ (∀ j, j < 8 → σ 96 j = 0) ∧ σ 91 10 = 0
theorem Fr_count {σ : Mem} (h : Fr σ) : σ 0 2 = 0 := h.1.1
theorem Fr_minute {σ : Mem} (h : Fr σ) : σ 0 3 = 0 := h.1.2.1
theorem Fr_still {σ : Mem} (h : Fr σ) : σ 0 4 = 0 := h.1.2.2.1
theorem Fr_met {σ : Mem} (h : Fr σ) : σ 0 5 = 0 := h.1.2.2.2
theorem Fr_pieces {σ : Mem} (h : Fr σ) : σ 1 0 = 0 := h.2.1.1
theorem Fr_end {σ : Mem} (h : Fr σ) : σ 1 1 = 0 := h.2.1.2
theorem Fr_img {σ : Mem} (h : Fr σ) : σ 66 3 = 0 := h.2.2.1
theorem Fr_holds {σ : Mem} (h : Fr σ) {j : Nat} (hj : j < 8) : σ (68 + j) 0 = 0 := h.2.2.2.1 j hj
theorem Fr_kind {σ : Mem} (h : Fr σ) {j : Nat} (hj : j < 3) : σ 11 j = 0 := h.2.2.2.2.1 j hj
theorem Fr_fig {σ : Mem} (h : Fr σ) {j : Nat} (hj : j < 3) : σ 12 j = 0 := h.2.2.2.2.2.1 j hj
theorem Fr_bool {σ : Mem} (h : Fr σ) : ∀ k, k < 7 → ∀ b, b = 0 ∨ b = 1 ∨ b = 7 ∨ b = 8 → (σ (22 * 0 + 15 + k) b = 0 ∨ σ (22 * 0 + 15 + k) b = 1) := by
  intro k hk b hb
  rw [show 22 * 0 + 15 + k = 15 + k by omega]
  exact h.2.2.2.2.2.2.1 k hk b hb
theorem Fr_s {σ : Mem} (h : Fr σ) {j : Nat} (hj : j < 5) : σ 92 j = 0 := h.2.2.2.2.2.2.2.1 j hj
theorem Fr_vil {σ : Mem} (h : Fr σ) {j : Nat} (hj : j < 6) : σ 92 (38 + j) = 0 := h.2.2.2.2.2.2.2.2.1 j hj
theorem Fr_kept {σ : Mem} (h : Fr σ) {j : Nat} (hj : j < 8) : σ 96 j = 0 := h.2.2.2.2.2.2.2.2.2.1 j hj
theorem Fr_mimg {σ : Mem} (h : Fr σ) : σ 91 10 = 0 := h.2.2.2.2.2.2.2.2.2.2
end
section
theorem dX4_copyFrom_0 : decode cX4_copyFrom 0 = .ok (.aload_n 0, 1) := by decide +kernel
theorem dX4_copyFrom_1 : decode cX4_copyFrom 1 = .ok (.aload_n 1, 1) := by decide +kernel
theorem dX4_copyFrom_2 : decode cX4_copyFrom 2 = .ok (.getfield 45, 3) := by decide +kernel
theorem dX4_copyFrom_5 : decode cX4_copyFrom 5 = .ok (.putfield 45, 3) := by decide +kernel
theorem dX4_copyFrom_8 : decode cX4_copyFrom 8 = .ok (.aload_n 0, 1) := by decide +kernel
theorem dX4_copyFrom_9 : decode cX4_copyFrom 9 = .ok (.aload_n 1, 1) := by decide +kernel
theorem dX4_copyFrom_10 : decode cX4_copyFrom 10 = .ok (.getfield 49, 3) := by decide +kernel
theorem dX4_copyFrom_13 : decode cX4_copyFrom 13 = .ok (.putfield 49, 3) := by decide +kernel
theorem dX4_copyFrom_16 : decode cX4_copyFrom 16 = .ok (.aload_n 1, 1) := by decide +kernel
theorem dX4_copyFrom_17 : decode cX4_copyFrom 17 = .ok (.getfield 9, 3) := by decide +kernel
theorem dX4_copyFrom_20 : decode cX4_copyFrom 20 = .ok (.iconst 0, 1) := by decide +kernel
theorem dX4_copyFrom_21 : decode cX4_copyFrom 21 = .ok (.aload_n 0, 1) := by decide +kernel
theorem dX4_copyFrom_22 : decode cX4_copyFrom 22 = .ok (.getfield 9, 3) := by decide +kernel
theorem dX4_copyFrom_25 : decode cX4_copyFrom 25 = .ok (.iconst 0, 1) := by decide +kernel
theorem dX4_copyFrom_26 : decode cX4_copyFrom 26 = .ok (.bipush 8, 2) := by decide +kernel
theorem dX4_copyFrom_28 : decode cX4_copyFrom 28 = .ok (.invokestatic 52, 3) := by decide +kernel
theorem dX4_copyFrom_31 : decode cX4_copyFrom 31 = .ok (.aload_n 1, 1) := by decide +kernel
theorem dX4_copyFrom_32 : decode cX4_copyFrom 32 = .ok (.getfield 15, 3) := by decide +kernel
theorem dX4_copyFrom_35 : decode cX4_copyFrom 35 = .ok (.iconst 0, 1) := by decide +kernel
theorem dX4_copyFrom_36 : decode cX4_copyFrom 36 = .ok (.aload_n 0, 1) := by decide +kernel
theorem dX4_copyFrom_37 : decode cX4_copyFrom 37 = .ok (.getfield 15, 3) := by decide +kernel
theorem dX4_copyFrom_40 : decode cX4_copyFrom 40 = .ok (.iconst 0, 1) := by decide +kernel
theorem dX4_copyFrom_41 : decode cX4_copyFrom 41 = .ok (.bipush 8, 2) := by decide +kernel
theorem dX4_copyFrom_43 : decode cX4_copyFrom 43 = .ok (.invokestatic 52, 3) := by decide +kernel
theorem dX4_copyFrom_46 : decode cX4_copyFrom 46 = .ok (.aload_n 1, 1) := by decide +kernel
theorem dX4_copyFrom_47 : decode cX4_copyFrom 47 = .ok (.getfield 18, 3) := by decide +kernel
theorem dX4_copyFrom_50 : decode cX4_copyFrom 50 = .ok (.iconst 0, 1) := by decide +kernel
theorem dX4_copyFrom_51 : decode cX4_copyFrom 51 = .ok (.aload_n 0, 1) := by decide +kernel
theorem dX4_copyFrom_52 : decode cX4_copyFrom 52 = .ok (.getfield 18, 3) := by decide +kernel
theorem dX4_copyFrom_55 : decode cX4_copyFrom 55 = .ok (.iconst 0, 1) := by decide +kernel
theorem dX4_copyFrom_56 : decode cX4_copyFrom 56 = .ok (.bipush 8, 2) := by decide +kernel
theorem dX4_copyFrom_58 : decode cX4_copyFrom 58 = .ok (.invokestatic 52, 3) := by decide +kernel
theorem dX4_copyFrom_61 : decode cX4_copyFrom 61 = .ok (.aload_n 1, 1) := by decide +kernel
theorem dX4_copyFrom_62 : decode cX4_copyFrom 62 = .ok (.getfield 21, 3) := by decide +kernel
theorem dX4_copyFrom_65 : decode cX4_copyFrom 65 = .ok (.iconst 0, 1) := by decide +kernel
theorem dX4_copyFrom_66 : decode cX4_copyFrom 66 = .ok (.aload_n 0, 1) := by decide +kernel
theorem dX4_copyFrom_67 : decode cX4_copyFrom 67 = .ok (.getfield 21, 3) := by decide +kernel
theorem dX4_copyFrom_70 : decode cX4_copyFrom 70 = .ok (.iconst 0, 1) := by decide +kernel
theorem dX4_copyFrom_71 : decode cX4_copyFrom 71 = .ok (.bipush 9, 2) := by decide +kernel
theorem dX4_copyFrom_73 : decode cX4_copyFrom 73 = .ok (.invokestatic 52, 3) := by decide +kernel
theorem dX4_copyFrom_76 : decode cX4_copyFrom 76 = .ok (.aload_n 1, 1) := by decide +kernel
theorem dX4_copyFrom_77 : decode cX4_copyFrom 77 = .ok (.getfield 24, 3) := by decide +kernel
theorem dX4_copyFrom_80 : decode cX4_copyFrom 80 = .ok (.iconst 0, 1) := by decide +kernel
theorem dX4_copyFrom_81 : decode cX4_copyFrom 81 = .ok (.aload_n 0, 1) := by decide +kernel
theorem dX4_copyFrom_82 : decode cX4_copyFrom 82 = .ok (.getfield 24, 3) := by decide +kernel
theorem dX4_copyFrom_85 : decode cX4_copyFrom 85 = .ok (.iconst 0, 1) := by decide +kernel
theorem dX4_copyFrom_86 : decode cX4_copyFrom 86 = .ok (.bipush 9, 2) := by decide +kernel
theorem dX4_copyFrom_88 : decode cX4_copyFrom 88 = .ok (.invokestatic 52, 3) := by decide +kernel
theorem dX4_copyFrom_91 : decode cX4_copyFrom 91 = .ok (.aload_n 1, 1) := by decide +kernel
theorem dX4_copyFrom_92 : decode cX4_copyFrom 92 = .ok (.getfield 27, 3) := by decide +kernel
theorem dX4_copyFrom_95 : decode cX4_copyFrom 95 = .ok (.iconst 0, 1) := by decide +kernel
theorem dX4_copyFrom_96 : decode cX4_copyFrom 96 = .ok (.aload_n 0, 1) := by decide +kernel
theorem dX4_copyFrom_97 : decode cX4_copyFrom 97 = .ok (.getfield 27, 3) := by decide +kernel
theorem dX4_copyFrom_100 : decode cX4_copyFrom 100 = .ok (.iconst 0, 1) := by decide +kernel
theorem dX4_copyFrom_101 : decode cX4_copyFrom 101 = .ok (.bipush 73, 2) := by decide +kernel
theorem dX4_copyFrom_103 : decode cX4_copyFrom 103 = .ok (.invokestatic 52, 3) := by decide +kernel
theorem dX4_copyFrom_106 : decode cX4_copyFrom 106 = .ok (.aload_n 1, 1) := by decide +kernel
theorem dX4_copyFrom_107 : decode cX4_copyFrom 107 = .ok (.getfield 30, 3) := by decide +kernel
theorem dX4_copyFrom_110 : decode cX4_copyFrom 110 = .ok (.iconst 0, 1) := by decide +kernel
theorem dX4_copyFrom_111 : decode cX4_copyFrom 111 = .ok (.aload_n 0, 1) := by decide +kernel
theorem dX4_copyFrom_112 : decode cX4_copyFrom 112 = .ok (.getfield 30, 3) := by decide +kernel
theorem dX4_copyFrom_115 : decode cX4_copyFrom 115 = .ok (.iconst 0, 1) := by decide +kernel
theorem dX4_copyFrom_116 : decode cX4_copyFrom 116 = .ok (.bipush 73, 2) := by decide +kernel
theorem dX4_copyFrom_118 : decode cX4_copyFrom 118 = .ok (.invokestatic 52, 3) := by decide +kernel
theorem dX4_copyFrom_121 : decode cX4_copyFrom 121 = .ok (.aload_n 1, 1) := by decide +kernel
theorem dX4_copyFrom_122 : decode cX4_copyFrom 122 = .ok (.getfield 33, 3) := by decide +kernel
theorem dX4_copyFrom_125 : decode cX4_copyFrom 125 = .ok (.iconst 0, 1) := by decide +kernel
theorem dX4_copyFrom_126 : decode cX4_copyFrom 126 = .ok (.aload_n 0, 1) := by decide +kernel
theorem dX4_copyFrom_127 : decode cX4_copyFrom 127 = .ok (.getfield 33, 3) := by decide +kernel
theorem dX4_copyFrom_130 : decode cX4_copyFrom 130 = .ok (.iconst 0, 1) := by decide +kernel
theorem dX4_copyFrom_131 : decode cX4_copyFrom 131 = .ok (.bipush 73, 2) := by decide +kernel
theorem dX4_copyFrom_133 : decode cX4_copyFrom 133 = .ok (.invokestatic 52, 3) := by decide +kernel
theorem dX4_copyFrom_136 : decode cX4_copyFrom 136 = .ok (.aload_n 1, 1) := by decide +kernel
theorem dX4_copyFrom_137 : decode cX4_copyFrom 137 = .ok (.getfield 36, 3) := by decide +kernel
theorem dX4_copyFrom_140 : decode cX4_copyFrom 140 = .ok (.iconst 0, 1) := by decide +kernel
theorem dX4_copyFrom_141 : decode cX4_copyFrom 141 = .ok (.aload_n 0, 1) := by decide +kernel
theorem dX4_copyFrom_142 : decode cX4_copyFrom 142 = .ok (.getfield 36, 3) := by decide +kernel
theorem dX4_copyFrom_145 : decode cX4_copyFrom 145 = .ok (.iconst 0, 1) := by decide +kernel
theorem dX4_copyFrom_146 : decode cX4_copyFrom 146 = .ok (.bipush 73, 2) := by decide +kernel
theorem dX4_copyFrom_148 : decode cX4_copyFrom 148 = .ok (.invokestatic 52, 3) := by decide +kernel
theorem dX4_copyFrom_151 : decode cX4_copyFrom 151 = .ok (.aload_n 1, 1) := by decide +kernel
theorem dX4_copyFrom_152 : decode cX4_copyFrom 152 = .ok (.getfield 39, 3) := by decide +kernel
theorem dX4_copyFrom_155 : decode cX4_copyFrom 155 = .ok (.iconst 0, 1) := by decide +kernel
theorem dX4_copyFrom_156 : decode cX4_copyFrom 156 = .ok (.aload_n 0, 1) := by decide +kernel
theorem dX4_copyFrom_157 : decode cX4_copyFrom 157 = .ok (.getfield 39, 3) := by decide +kernel
theorem dX4_copyFrom_160 : decode cX4_copyFrom 160 = .ok (.iconst 0, 1) := by decide +kernel
theorem dX4_copyFrom_161 : decode cX4_copyFrom 161 = .ok (.iconst 3, 1) := by decide +kernel
theorem dX4_copyFrom_162 : decode cX4_copyFrom 162 = .ok (.invokestatic 52, 3) := by decide +kernel
theorem dX4_copyFrom_165 : decode cX4_copyFrom 165 = .ok (.aload_n 1, 1) := by decide +kernel
theorem dX4_copyFrom_166 : decode cX4_copyFrom 166 = .ok (.getfield 42, 3) := by decide +kernel
theorem dX4_copyFrom_169 : decode cX4_copyFrom 169 = .ok (.iconst 0, 1) := by decide +kernel
theorem dX4_copyFrom_170 : decode cX4_copyFrom 170 = .ok (.aload_n 0, 1) := by decide +kernel
theorem dX4_copyFrom_171 : decode cX4_copyFrom 171 = .ok (.getfield 42, 3) := by decide +kernel
theorem dX4_copyFrom_174 : decode cX4_copyFrom 174 = .ok (.iconst 0, 1) := by decide +kernel
theorem dX4_copyFrom_175 : decode cX4_copyFrom 175 = .ok (.iconst 3, 1) := by decide +kernel
theorem dX4_copyFrom_176 : decode cX4_copyFrom 176 = .ok (.invokestatic 52, 3) := by decide +kernel
theorem dX4_copyFrom_179 : decode cX4_copyFrom 179 = .ok (.return_, 1) := by decide +kernel
set_option maxHeartbeats 4000000 in
set_option maxRecDepth 100000 in
theorem c_X4_copyFrom (l : Launch) (D : va_G) (cA : Nat → ClassId) (ad : Nat → Nat) (o : Int64) (σ : Mem) (t : Nat) (u : Nat) (ht : t < 3) (hu : u < 3) (hne : u ≠ t) (sz : Nat) : Met l yX4_copyFrom (WY yX4_copyFrom cX4_copyFrom 2 none) (RM 1) (va_Pc [.ref (ad (22 * t + 1)), .ref (ad (22 * u + 1))] (PW D cA ad o σ sz)) (va_Qv (fun σ9 => σ9 = rdcpy σ t u) (QW D cA ad o) (FA ad sz)) 0 0 (FA ad sz) := by
  refine ct_of (own := RX4) (k := 1) (Qf := va_Qv (fun σ9 => σ9 = rdcpy σ t u) (QW D cA ad o)) rfl (by decide) (Nat.le_of_ble_eq_true rfl) (fun p e s m below meth c ls C0 X hr hlk hP hl => ?_) sz
  have hS : va_S (FA ad s.heap.size) s.heap s.heap [] := va_S.rf
  have hl : lv_has ls 2 [(0, .ref (ad (22 * t + 1))), (1, .ref (ad (22 * u + 1)))] := hl
  obtain ⟨hx, hb, hml, hown, hts⟩ := id C0
  refine lv_aload_n hx hb dX4_copyFrom_0 rfl (lv_at hl 0 rfl) ?_
  refine lv_aload_n hx hb dX4_copyFrom_1 rfl (lv_at hl 1 rfl) ?_
  refine gf_X4_45 C0 X hP (22 * u + 1) (kdR u hu) dX4_copyFrom_2 ?_
  refine lv_topE (y := (σ (22 * u + 1) 0)) rfl ?_
  refine pf_X4_45 C0 X hP hS (22 * t + 1) (kdR t ht) dX4_copyFrom_5 (fun H locs hP hS => ?_)
  refine lv_aload_n hx hb dX4_copyFrom_8 rfl (lv_at hl 0 rfl) ?_
  refine lv_aload_n hx hb dX4_copyFrom_9 rfl (lv_at hl 1 rfl) ?_
  refine gf_X4_49 C0 X hP (22 * u + 1) (kdR u hu) dX4_copyFrom_10 ?_
  refine lv_topE (y := (σ (22 * u + 1) 1)) (by simp only [stm_ne _ _ _ (show 22 * u + 1 ≠ 22 * t + 1 by omega)]) ?_
  refine pf_X4_49 C0 X hP hS (22 * t + 1) (kdR t ht) dX4_copyFrom_13 (fun H locs hP hS => ?_)
  refine lv_aload_n hx hb dX4_copyFrom_16 rfl (lv_at hl 1 rfl) ?_
  refine gf_X4_9 C0 X hP (22 * u + 1) (q := (22 * u + 2)) (kdR u hu) (by omega) (lkR2 u hu) dX4_copyFrom_17 ?_
  refine lv_iconst (v := 0) hx hb dX4_copyFrom_20 (by decide) ?_
  refine lv_aload_n hx hb dX4_copyFrom_21 rfl (lv_at hl 0 rfl) ?_
  refine gf_X4_9 C0 X hP (22 * t + 1) (q := (22 * t + 2)) (kdR t ht) (by omega) (lkR2 t ht) dX4_copyFrom_22 ?_
  refine lv_iconst (v := 0) hx hb dX4_copyFrom_25 (by decide) ?_
  refine lv_bipush (v := 8) hx hb dX4_copyFrom_26 (by decide) ?_
  refine r_copy (sp := 0) (dp := 0) (n := 8) C0 X hP hS fits_lk hl.1 (22 * u + 2) (22 * t + 2) (kdA2 u hu) (kdA2 t ht) rfl rfl rfl (by decide) (by decide) (Nat.le_of_ble_eq_true rfl) (Nat.le_of_ble_eq_true rfl) dX4_copyFrom_28 (fun H locs hP hS => ?_)
  rw [cpm0] at hP
  refine lv_aload_n hx hb dX4_copyFrom_31 rfl (lv_at hl 1 rfl) ?_
  refine gf_X4_15 C0 X hP (22 * u + 1) (q := (22 * u + 3)) (kdR u hu) (by omega) (lkR3 u hu) dX4_copyFrom_32 ?_
  refine lv_iconst (v := 0) hx hb dX4_copyFrom_35 (by decide) ?_
  refine lv_aload_n hx hb dX4_copyFrom_36 rfl (lv_at hl 0 rfl) ?_
  refine gf_X4_15 C0 X hP (22 * t + 1) (q := (22 * t + 3)) (kdR t ht) (by omega) (lkR3 t ht) dX4_copyFrom_37 ?_
  refine lv_iconst (v := 0) hx hb dX4_copyFrom_40 (by decide) ?_
  refine lv_bipush (v := 8) hx hb dX4_copyFrom_41 (by decide) ?_
  refine r_copy (sp := 0) (dp := 0) (n := 8) C0 X hP hS fits_lk hl.1 (22 * u + 3) (22 * t + 3) (kdA3 u hu) (kdA3 t ht) rfl rfl rfl (by decide) (by decide) (Nat.le_of_ble_eq_true rfl) (Nat.le_of_ble_eq_true rfl) dX4_copyFrom_43 (fun H locs hP hS => ?_)
  rw [cpm0] at hP
  refine lv_aload_n hx hb dX4_copyFrom_46 rfl (lv_at hl 1 rfl) ?_
  refine gf_X4_18 C0 X hP (22 * u + 1) (q := (22 * u + 4)) (kdR u hu) (by omega) (lkR4 u hu) dX4_copyFrom_47 ?_
  refine lv_iconst (v := 0) hx hb dX4_copyFrom_50 (by decide) ?_
  refine lv_aload_n hx hb dX4_copyFrom_51 rfl (lv_at hl 0 rfl) ?_
  refine gf_X4_18 C0 X hP (22 * t + 1) (q := (22 * t + 4)) (kdR t ht) (by omega) (lkR4 t ht) dX4_copyFrom_52 ?_
  refine lv_iconst (v := 0) hx hb dX4_copyFrom_55 (by decide) ?_
  refine lv_bipush (v := 8) hx hb dX4_copyFrom_56 (by decide) ?_
  refine r_copy (sp := 0) (dp := 0) (n := 8) C0 X hP hS fits_lk hl.1 (22 * u + 4) (22 * t + 4) (kdA4 u hu) (kdA4 t ht) rfl rfl rfl (by decide) (by decide) (Nat.le_of_ble_eq_true rfl) (Nat.le_of_ble_eq_true rfl) dX4_copyFrom_58 (fun H locs hP hS => ?_)
  rw [cpm0] at hP
  refine lv_aload_n hx hb dX4_copyFrom_61 rfl (lv_at hl 1 rfl) ?_
  refine gf_X4_21 C0 X hP (22 * u + 1) (q := (22 * u + 5)) (kdR u hu) (by omega) (lkR5 u hu) dX4_copyFrom_62 ?_
  refine lv_iconst (v := 0) hx hb dX4_copyFrom_65 (by decide) ?_
  refine lv_aload_n hx hb dX4_copyFrom_66 rfl (lv_at hl 0 rfl) ?_
  refine gf_X4_21 C0 X hP (22 * t + 1) (q := (22 * t + 5)) (kdR t ht) (by omega) (lkR5 t ht) dX4_copyFrom_67 ?_
  refine lv_iconst (v := 0) hx hb dX4_copyFrom_70 (by decide) ?_
  refine lv_bipush (v := 9) hx hb dX4_copyFrom_71 (by decide) ?_
  refine r_copy (sp := 0) (dp := 0) (n := 9) C0 X hP hS fits_lk hl.1 (22 * u + 5) (22 * t + 5) (kdA5 u hu) (kdA5 t ht) rfl rfl rfl (by decide) (by decide) (Nat.le_of_ble_eq_true rfl) (Nat.le_of_ble_eq_true rfl) dX4_copyFrom_73 (fun H locs hP hS => ?_)
  rw [cpm0] at hP
  refine lv_aload_n hx hb dX4_copyFrom_76 rfl (lv_at hl 1 rfl) ?_
  refine gf_X4_24 C0 X hP (22 * u + 1) (q := (22 * u + 6)) (kdR u hu) (by omega) (lkR6 u hu) dX4_copyFrom_77 ?_
  refine lv_iconst (v := 0) hx hb dX4_copyFrom_80 (by decide) ?_
  refine lv_aload_n hx hb dX4_copyFrom_81 rfl (lv_at hl 0 rfl) ?_
  refine gf_X4_24 C0 X hP (22 * t + 1) (q := (22 * t + 6)) (kdR t ht) (by omega) (lkR6 t ht) dX4_copyFrom_82 ?_
  refine lv_iconst (v := 0) hx hb dX4_copyFrom_85 (by decide) ?_
  refine lv_bipush (v := 9) hx hb dX4_copyFrom_86 (by decide) ?_
  refine r_copy (sp := 0) (dp := 0) (n := 9) C0 X hP hS fits_lk hl.1 (22 * u + 6) (22 * t + 6) (kdA6 u hu) (kdA6 t ht) rfl rfl rfl (by decide) (by decide) (Nat.le_of_ble_eq_true rfl) (Nat.le_of_ble_eq_true rfl) dX4_copyFrom_88 (fun H locs hP hS => ?_)
  rw [cpm0] at hP
  refine lv_aload_n hx hb dX4_copyFrom_91 rfl (lv_at hl 1 rfl) ?_
  refine gf_X4_27 C0 X hP (22 * u + 1) (q := (22 * u + 7)) (kdR u hu) (by omega) (lkR7 u hu) dX4_copyFrom_92 ?_
  refine lv_iconst (v := 0) hx hb dX4_copyFrom_95 (by decide) ?_
  refine lv_aload_n hx hb dX4_copyFrom_96 rfl (lv_at hl 0 rfl) ?_
  refine gf_X4_27 C0 X hP (22 * t + 1) (q := (22 * t + 7)) (kdR t ht) (by omega) (lkR7 t ht) dX4_copyFrom_97 ?_
  refine lv_iconst (v := 0) hx hb dX4_copyFrom_100 (by decide) ?_
  refine lv_bipush (v := 73) hx hb dX4_copyFrom_101 (by decide) ?_
  refine r_copy (sp := 0) (dp := 0) (n := 73) C0 X hP hS fits_lk hl.1 (22 * u + 7) (22 * t + 7) (kdA7 u hu) (kdA7 t ht) rfl rfl rfl (by decide) (by decide) (Nat.le_of_ble_eq_true rfl) (Nat.le_of_ble_eq_true rfl) dX4_copyFrom_103 (fun H locs hP hS => ?_)
  rw [cpm0] at hP
  refine lv_aload_n hx hb dX4_copyFrom_106 rfl (lv_at hl 1 rfl) ?_
  refine gf_X4_30 C0 X hP (22 * u + 1) (q := (22 * u + 8)) (kdR u hu) (by omega) (lkR8 u hu) dX4_copyFrom_107 ?_
  refine lv_iconst (v := 0) hx hb dX4_copyFrom_110 (by decide) ?_
  refine lv_aload_n hx hb dX4_copyFrom_111 rfl (lv_at hl 0 rfl) ?_
  refine gf_X4_30 C0 X hP (22 * t + 1) (q := (22 * t + 8)) (kdR t ht) (by omega) (lkR8 t ht) dX4_copyFrom_112 ?_
  refine lv_iconst (v := 0) hx hb dX4_copyFrom_115 (by decide) ?_
  refine lv_bipush (v := 73) hx hb dX4_copyFrom_116 (by decide) ?_
  refine r_copy (sp := 0) (dp := 0) (n := 73) C0 X hP hS fits_lk hl.1 (22 * u + 8) (22 * t + 8) (kdA8 u hu) (kdA8 t ht) rfl rfl rfl (by decide) (by decide) (Nat.le_of_ble_eq_true rfl) (Nat.le_of_ble_eq_true rfl) dX4_copyFrom_118 (fun H locs hP hS => ?_)
  rw [cpm0] at hP
  refine lv_aload_n hx hb dX4_copyFrom_121 rfl (lv_at hl 1 rfl) ?_
  refine gf_X4_33 C0 X hP (22 * u + 1) (q := (22 * u + 9)) (kdR u hu) (by omega) (lkR9 u hu) dX4_copyFrom_122 ?_
  refine lv_iconst (v := 0) hx hb dX4_copyFrom_125 (by decide) ?_
  refine lv_aload_n hx hb dX4_copyFrom_126 rfl (lv_at hl 0 rfl) ?_
  refine gf_X4_33 C0 X hP (22 * t + 1) (q := (22 * t + 9)) (kdR t ht) (by omega) (lkR9 t ht) dX4_copyFrom_127 ?_
  refine lv_iconst (v := 0) hx hb dX4_copyFrom_130 (by decide) ?_
  refine lv_bipush (v := 73) hx hb dX4_copyFrom_131 (by decide) ?_
  refine r_copy (sp := 0) (dp := 0) (n := 73) C0 X hP hS fits_lk hl.1 (22 * u + 9) (22 * t + 9) (kdA9 u hu) (kdA9 t ht) rfl rfl rfl (by decide) (by decide) (Nat.le_of_ble_eq_true rfl) (Nat.le_of_ble_eq_true rfl) dX4_copyFrom_133 (fun H locs hP hS => ?_)
  rw [cpm0] at hP
  refine lv_aload_n hx hb dX4_copyFrom_136 rfl (lv_at hl 1 rfl) ?_
  refine gf_X4_36 C0 X hP (22 * u + 1) (q := (22 * u + 10)) (kdR u hu) (by omega) (lkR10 u hu) dX4_copyFrom_137 ?_
  refine lv_iconst (v := 0) hx hb dX4_copyFrom_140 (by decide) ?_
  refine lv_aload_n hx hb dX4_copyFrom_141 rfl (lv_at hl 0 rfl) ?_
  refine gf_X4_36 C0 X hP (22 * t + 1) (q := (22 * t + 10)) (kdR t ht) (by omega) (lkR10 t ht) dX4_copyFrom_142 ?_
  refine lv_iconst (v := 0) hx hb dX4_copyFrom_145 (by decide) ?_
  refine lv_bipush (v := 73) hx hb dX4_copyFrom_146 (by decide) ?_
  refine r_copy (sp := 0) (dp := 0) (n := 73) C0 X hP hS fits_lk hl.1 (22 * u + 10) (22 * t + 10) (kdA10 u hu) (kdA10 t ht) rfl rfl rfl (by decide) (by decide) (Nat.le_of_ble_eq_true rfl) (Nat.le_of_ble_eq_true rfl) dX4_copyFrom_148 (fun H locs hP hS => ?_)
  rw [cpm0] at hP
  refine lv_aload_n hx hb dX4_copyFrom_151 rfl (lv_at hl 1 rfl) ?_
  refine gf_X4_39 C0 X hP (22 * u + 1) (q := (22 * u + 11)) (kdR u hu) (by omega) (lkR11 u hu) dX4_copyFrom_152 ?_
  refine lv_iconst (v := 0) hx hb dX4_copyFrom_155 (by decide) ?_
  refine lv_aload_n hx hb dX4_copyFrom_156 rfl (lv_at hl 0 rfl) ?_
  refine gf_X4_39 C0 X hP (22 * t + 1) (q := (22 * t + 11)) (kdR t ht) (by omega) (lkR11 t ht) dX4_copyFrom_157 ?_
  refine lv_iconst (v := 0) hx hb dX4_copyFrom_160 (by decide) ?_
  refine lv_iconst (v := 3) hx hb dX4_copyFrom_161 (by decide) ?_
  refine r_copy (sp := 0) (dp := 0) (n := 3) C0 X hP hS fits_lk hl.1 (22 * u + 11) (22 * t + 11) (kdA11 u hu) (kdA11 t ht) rfl rfl rfl (by decide) (by decide) (Nat.le_of_ble_eq_true rfl) (Nat.le_of_ble_eq_true rfl) dX4_copyFrom_162 (fun H locs hP hS => ?_)
  rw [cpm0] at hP
  refine lv_aload_n hx hb dX4_copyFrom_165 rfl (lv_at hl 1 rfl) ?_
  refine gf_X4_42 C0 X hP (22 * u + 1) (q := (22 * u + 12)) (kdR u hu) (by omega) (lkR12 u hu) dX4_copyFrom_166 ?_
  refine lv_iconst (v := 0) hx hb dX4_copyFrom_169 (by decide) ?_
  refine lv_aload_n hx hb dX4_copyFrom_170 rfl (lv_at hl 0 rfl) ?_
  refine gf_X4_42 C0 X hP (22 * t + 1) (q := (22 * t + 12)) (kdR t ht) (by omega) (lkR12 t ht) dX4_copyFrom_171 ?_
  refine lv_iconst (v := 0) hx hb dX4_copyFrom_174 (by decide) ?_
  refine lv_iconst (v := 3) hx hb dX4_copyFrom_175 (by decide) ?_
  refine r_copy (sp := 0) (dp := 0) (n := 3) C0 X hP hS fits_lk hl.1 (22 * u + 12) (22 * t + 12) (kdA12 u hu) (kdA12 t ht) rfl rfl rfl (by decide) (by decide) (Nat.le_of_ble_eq_true rfl) (Nat.le_of_ble_eq_true rfl) dX4_copyFrom_176 (fun H locs hP hS => ?_)
  rw [cpm0] at hP
  exact r_vret C0 X hP hS hr hlk dX4_copyFrom_179 rfl
theorem dX6_copyFrom_0 : decode cX6_copyFrom 0 = .ok (.aload_n 0, 1) := by decide +kernel
theorem dX6_copyFrom_1 : decode cX6_copyFrom 1 = .ok (.getfield 12, 3) := by decide +kernel
theorem dX6_copyFrom_4 : decode cX6_copyFrom 4 = .ok (.aload_n 1, 1) := by decide +kernel
theorem dX6_copyFrom_5 : decode cX6_copyFrom 5 = .ok (.getfield 12, 3) := by decide +kernel
theorem dX6_copyFrom_8 : decode cX6_copyFrom 8 = .ok (.invokevirtual 39, 3) := by decide +kernel
theorem dX6_copyFrom_11 : decode cX6_copyFrom 11 = .ok (.iconst 0, 1) := by decide +kernel
theorem dX6_copyFrom_12 : decode cX6_copyFrom 12 = .ok (.istore_n 2, 1) := by decide +kernel
theorem dX6_copyFrom_13 : decode cX6_copyFrom 13 = .ok (.iload_n 2, 1) := by decide +kernel
theorem dX6_copyFrom_14 : decode cX6_copyFrom 14 = .ok (.bipush 7, 2) := by decide +kernel
theorem dX6_copyFrom_16 : decode cX6_copyFrom 16 = .ok (.if_icmp .ge 24, 3) := by decide +kernel
theorem dX6_copyFrom_19 : decode cX6_copyFrom 19 = .ok (.aload_n 0, 1) := by decide +kernel
theorem dX6_copyFrom_20 : decode cX6_copyFrom 20 = .ok (.getfield 20, 3) := by decide +kernel
theorem dX6_copyFrom_23 : decode cX6_copyFrom 23 = .ok (.iload_n 2, 1) := by decide +kernel
theorem dX6_copyFrom_24 : decode cX6_copyFrom 24 = .ok (.aaload, 1) := by decide +kernel
theorem dX6_copyFrom_25 : decode cX6_copyFrom 25 = .ok (.aload_n 1, 1) := by decide +kernel
theorem dX6_copyFrom_26 : decode cX6_copyFrom 26 = .ok (.getfield 20, 3) := by decide +kernel
theorem dX6_copyFrom_29 : decode cX6_copyFrom 29 = .ok (.iload_n 2, 1) := by decide +kernel
theorem dX6_copyFrom_30 : decode cX6_copyFrom 30 = .ok (.aaload, 1) := by decide +kernel
theorem dX6_copyFrom_31 : decode cX6_copyFrom 31 = .ok (.invokevirtual 43, 3) := by decide +kernel
theorem dX6_copyFrom_34 : decode cX6_copyFrom 34 = .ok (.iinc 2 1, 3) := by decide +kernel
theorem dX6_copyFrom_37 : decode cX6_copyFrom 37 = .ok (.goto (-24), 3) := by decide +kernel
theorem dX6_copyFrom_40 : decode cX6_copyFrom 40 = .ok (.aload_n 0, 1) := by decide +kernel
theorem dX6_copyFrom_41 : decode cX6_copyFrom 41 = .ok (.aload_n 1, 1) := by decide +kernel
theorem dX6_copyFrom_42 : decode cX6_copyFrom 42 = .ok (.getfield 46, 3) := by decide +kernel
theorem dX6_copyFrom_45 : decode cX6_copyFrom 45 = .ok (.putfield 46, 3) := by decide +kernel
theorem dX6_copyFrom_48 : decode cX6_copyFrom 48 = .ok (.aload_n 0, 1) := by decide +kernel
theorem dX6_copyFrom_49 : decode cX6_copyFrom 49 = .ok (.aload_n 1, 1) := by decide +kernel
theorem dX6_copyFrom_50 : decode cX6_copyFrom 50 = .ok (.getfield 49, 3) := by decide +kernel
theorem dX6_copyFrom_53 : decode cX6_copyFrom 53 = .ok (.putfield 49, 3) := by decide +kernel
theorem dX6_copyFrom_56 : decode cX6_copyFrom 56 = .ok (.aload_n 0, 1) := by decide +kernel
theorem dX6_copyFrom_57 : decode cX6_copyFrom 57 = .ok (.aload_n 1, 1) := by decide +kernel
theorem dX6_copyFrom_58 : decode cX6_copyFrom 58 = .ok (.getfield 52, 3) := by decide +kernel
theorem dX6_copyFrom_61 : decode cX6_copyFrom 61 = .ok (.putfield 52, 3) := by decide +kernel
theorem dX6_copyFrom_64 : decode cX6_copyFrom 64 = .ok (.aload_n 0, 1) := by decide +kernel
theorem dX6_copyFrom_65 : decode cX6_copyFrom 65 = .ok (.aload_n 1, 1) := by decide +kernel
theorem dX6_copyFrom_66 : decode cX6_copyFrom 66 = .ok (.getfield 55, 3) := by decide +kernel
theorem dX6_copyFrom_69 : decode cX6_copyFrom 69 = .ok (.putfield 55, 3) := by decide +kernel
theorem dX6_copyFrom_72 : decode cX6_copyFrom 72 = .ok (.aload_n 1, 1) := by decide +kernel
theorem dX6_copyFrom_73 : decode cX6_copyFrom 73 = .ok (.getfield 24, 3) := by decide +kernel
theorem dX6_copyFrom_76 : decode cX6_copyFrom 76 = .ok (.iconst 0, 1) := by decide +kernel
theorem dX6_copyFrom_77 : decode cX6_copyFrom 77 = .ok (.aload_n 0, 1) := by decide +kernel
theorem dX6_copyFrom_78 : decode cX6_copyFrom 78 = .ok (.getfield 24, 3) := by decide +kernel
theorem dX6_copyFrom_81 : decode cX6_copyFrom 81 = .ok (.iconst 0, 1) := by decide +kernel
theorem dX6_copyFrom_82 : decode cX6_copyFrom 82 = .ok (.bipush 73, 2) := by decide +kernel
theorem dX6_copyFrom_84 : decode cX6_copyFrom 84 = .ok (.invokestatic 58, 3) := by decide +kernel
theorem dX6_copyFrom_87 : decode cX6_copyFrom 87 = .ok (.return_, 1) := by decide +kernel
set_option maxHeartbeats 4000000 in
set_option maxRecDepth 100000 in
theorem c_X6_copyFrom (l : Launch) (D : va_G) (cA : Nat → ClassId) (ad : Nat → Nat) (o : Int64) (σ : Mem) (t : Nat) (u : Nat) (ht : t < 3) (hu : u < 3) (hne : u ≠ t) (hb01 : ∀ k, k < 7 → ∀ b, b = 0 ∨ b = 1 ∨ b = 7 ∨ b = 8 → (σ (22 * u + 15 + k) b = 0 ∨ σ (22 * u + 15 + k) b = 1)) (sz : Nat) : Met l yX6_copyFrom (WY yX6_copyFrom cX6_copyFrom 3 none) (RM 2) (va_Pc [.ref (ad (22 * t)), .ref (ad (22 * u))] (PW D cA ad o σ sz)) (va_Qv (fun σ9 => σ9 = tcpy σ t u) (QW D cA ad o) (FA ad sz)) 0 0 (FA ad sz) := by
  refine ct_of (own := RX6) (k := 2) (Qf := va_Qv (fun σ9 => σ9 = tcpy σ t u) (QW D cA ad o)) rfl (by decide) (Nat.le_of_ble_eq_true rfl) (fun p e s m below meth c ls C0 X hr hlk hP hl => ?_) sz
  have hS : va_S (FA ad s.heap.size) s.heap s.heap [] := va_S.rf
  have hl : lv_has ls 3 [(0, .ref (ad (22 * t))), (1, .ref (ad (22 * u)))] := hl
  obtain ⟨hx, hb, hml, hown, hts⟩ := id C0
  refine lv_aload_n hx hb dX6_copyFrom_0 rfl (lv_at hl 0 rfl) ?_
  refine gf_X6_12 C0 X hP (22 * t) (q := (22 * t + 1)) (kdT t ht) (by omega) (lkT0 t ht) dX6_copyFrom_1 ?_
  refine lv_aload_n hx hb dX6_copyFrom_4 rfl (lv_at hl 1 rfl) ?_
  refine gf_X6_12 C0 X hP (22 * u) (q := (22 * u + 1)) (kdT u hu) (by omega) (lkT0 u hu) dX6_copyFrom_5 ?_
  refine r_cv X hS (r_runV (As := [.ref (ad (22 * u + 1))]) (rest := []) C0 X hP L_X6_39 (fun sz => c_X4_copyFrom l D cA ad o σ t u ht hu hne sz) (kdR t ht).1 (kdR t ht).2 (by decide) rfl ⟨Nat.le_of_ble_eq_true rfl, Nat.le_of_ble_eq_true rfl⟩ rfl hl.1 rfl (by decide) dX6_copyFrom_8 ⟨Nat.zero_le _, Nat.zero_le _⟩) (fun σ9 H locs hw hP hS => ?_)
  rw [hw] at hP
  refine lv_iconst (v := 0) hx hb dX6_copyFrom_11 (by decide) ?_
  refine lv_istore_n (lv' := [(2, .int 0), (0, .ref (ad (22 * t))), (1, .ref (ad (22 * u)))]) hx hb dX6_copyFrom_12 rfl hl (by decide) rfl (fun ls hl => ?_)
  have lp_1 : ∀ (n : Nat) (k : Nat) (H : Heap) (locs : List Loc) (ls : Array Slot), k ≤ 7 → WP D cA ad o (ccpyK (rdcpy σ t u) t u k) H → va_S (FA ad s.heap.size) s.heap H locs → lv_has ls 3 [(0, .ref (ad (22 * t))), (1, .ref (ad (22 * u))), (2, .int (nI k))] → (7 - k) < n → W p l e (RM 2) s m ([.ref (ad (22 * t)), .ref (ad (22 * u))] : List Value).toArray below meth c H locs 0 0 (MQ below (va_Qv (fun σ9 => σ9 = tcpy σ t u) (QW D cA ad o) (FA ad s.heap.size)) ([.ref (ad (22 * t)), .ref (ad (22 * u))] : List Value).toArray s 0 0 (FA ad s.heap.size)) (F0 m 13 ls []) := by
    intro n
    induction n with
    | zero => intro k H locs ls hk hP hS hl hn; exact absurd hn (Nat.not_lt_zero _)
    | succ n ih =>
      intro k H locs ls hk hP hS hl hn
      refine lv_iload_n hx hb dX6_copyFrom_13 rfl (lv_at hl 2 rfl) ?_
      refine lv_bipush (v := 7) hx hb dX6_copyFrom_14 (by decide) ?_
      refine lv_icmp_ge (tgt := 40) hx hb dX6_copyFrom_16 (by decide) (fun c_2 => ?_) (fun c_2 => ?_)
      · obtain rfl : k = 7 := nI_geof (b := 7) c_2 hk (by omega)
        refine lv_aload_n hx hb dX6_copyFrom_40 rfl (lv_at hl 0 rfl) ?_
        refine lv_aload_n hx hb dX6_copyFrom_41 rfl (lv_at hl 1 rfl) ?_
        refine gf_X6_46 C0 X hP (22 * u) (kdT u hu) dX6_copyFrom_42 ?_
        refine lv_topE (y := (σ (22 * u) 2)) (by rw [ccpyK_ne _ (by omega), rdcpy_ne _ (by omega)]) ?_
        refine pf_X6_46 C0 X hP hS (22 * t) (kdT t ht) dX6_copyFrom_45 (fun H locs hP hS => ?_)
        refine lv_aload_n hx hb dX6_copyFrom_48 rfl (lv_at hl 0 rfl) ?_
        refine lv_aload_n hx hb dX6_copyFrom_49 rfl (lv_at hl 1 rfl) ?_
        refine gf_X6_49 C0 X hP (22 * u) (kdT u hu) dX6_copyFrom_50 ?_
        refine lv_topE (y := (σ (22 * u) 3)) (by simp only [stm_ne _ _ _ (show 22 * u ≠ 22 * t by omega)]; rw [ccpyK_ne _ (by omega), rdcpy_ne _ (by omega)]) ?_
        refine pf_X6_49 C0 X hP hS (22 * t) (kdT t ht) dX6_copyFrom_53 (fun H locs hP hS => ?_)
        refine lv_aload_n hx hb dX6_copyFrom_56 rfl (lv_at hl 0 rfl) ?_
        refine lv_aload_n hx hb dX6_copyFrom_57 rfl (lv_at hl 1 rfl) ?_
        refine gf_X6_52 C0 X hP (22 * u) (kdT u hu) dX6_copyFrom_58 ?_
        refine lv_topE (y := (σ (22 * u) 4)) (by simp only [stm_ne _ _ _ (show 22 * u ≠ 22 * t by omega)]; rw [ccpyK_ne _ (by omega), rdcpy_ne _ (by omega)]) ?_
        refine pf_X6_52 C0 X hP hS (22 * t) (kdT t ht) dX6_copyFrom_61 (fun H locs hP hS => ?_)
        refine lv_aload_n hx hb dX6_copyFrom_64 rfl (lv_at hl 0 rfl) ?_
        refine lv_aload_n hx hb dX6_copyFrom_65 rfl (lv_at hl 1 rfl) ?_
        refine gf_X6_55 C0 X hP (22 * u) (kdT u hu) dX6_copyFrom_66 ?_
        refine lv_topE (y := (σ (22 * u) 5)) (by simp only [stm_ne _ _ _ (show 22 * u ≠ 22 * t by omega)]; rw [ccpyK_ne _ (by omega), rdcpy_ne _ (by omega)]) ?_
        refine pf_X6_55 C0 X hP hS (22 * t) (kdT t ht) dX6_copyFrom_69 (fun H locs hP hS => ?_)
        refine lv_aload_n hx hb dX6_copyFrom_72 rfl (lv_at hl 1 rfl) ?_
        refine gf_X6_24 C0 X hP (22 * u) (q := (22 * u + 14)) (kdT u hu) (by omega) (lkT7 u hu) dX6_copyFrom_73 ?_
        refine lv_iconst (v := 0) hx hb dX6_copyFrom_76 (by decide) ?_
        refine lv_aload_n hx hb dX6_copyFrom_77 rfl (lv_at hl 0 rfl) ?_
        refine gf_X6_24 C0 X hP (22 * t) (q := (22 * t + 14)) (kdT t ht) (by omega) (lkT7 t ht) dX6_copyFrom_78 ?_
        refine lv_iconst (v := 0) hx hb dX6_copyFrom_81 (by decide) ?_
        refine lv_bipush (v := 73) hx hb dX6_copyFrom_82 (by decide) ?_
        refine r_copy (sp := 0) (dp := 0) (n := 73) C0 X hP hS lkTr58 hl.1 (22 * u + 14) (22 * t + 14) (kdA14 u hu) (kdA14 t ht) rfl rfl rfl (by decide) (by decide) (Nat.le_of_ble_eq_true rfl) (Nat.le_of_ble_eq_true rfl) dX6_copyFrom_84 (fun H locs hP hS => ?_)
        rw [cpm0] at hP
        exact r_vret C0 X hP hS hr hlk dX6_copyFrom_87 rfl
      · have hk7 : k < 7 := nI_ltof (b := 7) c_2 (by omega)
        refine lv_aload_n hx hb dX6_copyFrom_19 rfl (lv_at hl 0 rfl) ?_
        refine gf_X6_20 C0 X hP (22 * t) (q := (22 * t + 13)) (kdT t ht) (by omega) (lkT1 t ht) dX6_copyFrom_20 ?_
        refine lv_iload_n hx hb dX6_copyFrom_23 rfl (lv_at hl 2 rfl) ?_
        refine r_aaldCN C0 X hP (22 * t + 13) (k := k) (q := (22 * t + 15 + k)) (kdCA t ht) rfl (by omega) (lkCA t ht k (by omega)) dX6_copyFrom_24 ?_
        refine lv_aload_n hx hb dX6_copyFrom_25 rfl (lv_at hl 1 rfl) ?_
        refine gf_X6_20 C0 X hP (22 * u) (q := (22 * u + 13)) (kdT u hu) (by omega) (lkT1 u hu) dX6_copyFrom_26 ?_
        refine lv_iload_n hx hb dX6_copyFrom_29 rfl (lv_at hl 2 rfl) ?_
        refine r_aaldCN C0 X hP (22 * u + 13) (k := k) (q := (22 * u + 15 + k)) (kdCA u hu) rfl (by omega) (lkCA u hu k (by omega)) dX6_copyFrom_30 ?_
        refine r_cv X hS (r_runV (As := [.ref (ad (22 * u + 15 + k))]) (rest := []) C0 X hP L_X6_43 (fun sz => c_X0_copyFrom l D cA ad o (ccpyK (rdcpy σ t u) t u k) (22 * t + 15 + k) (22 * u + 15 + k) (kdC t ht k (by omega)) (kdC u hu k (by omega)) (by omega) (by rw [ccpyK_ne _ (by omega), rdcpy_ne _ (by omega)]; exact hb01 k hk7) sz) (kdC t ht k (by omega)).1 (kdC t ht k (by omega)).2 (by decide) rfl ⟨Nat.le_of_ble_eq_true rfl, Nat.le_of_ble_eq_true rfl⟩ rfl hl.1 rfl (by decide) dX6_copyFrom_31 ⟨Nat.zero_le _, Nat.zero_le _⟩) (fun σ9 H locs hw hP hS => ?_)
        rw [hw] at hP
        refine lv_iinc (v := (nI (k + 1))) (lv' := [(2, .int (nI (k + 1))), (0, .ref (ad (22 * t))), (1, .ref (ad (22 * u)))]) hx hb dX6_copyFrom_34 hl (k := 2) rfl (nI_1 _) (by decide) rfl (fun ls hl => ?_)
        refine lv_goto (tgt := 13) hx hb dX6_copyFrom_37 (by decide) ?_
        exact ih (k + 1) _ _ ls (by omega) (mem_cast (ccpyK_s _ hk7 hne) hP) hS (lv_sub hl [1, 2, 0] rfl) (by omega)
  exact lp_1 ((7 - 0) + 1) 0 _ _ ls (by decide) (mem_cast (ccpyK_0 _ t u) hP) hS (lv_sub hl [1, 2, 0] rfl) (by omega)
theorem dX6_cartAt_0 : decode cX6_cartAt 0 = .ok (.iload_n 1, 1) := by decide +kernel
theorem dX6_cartAt_1 : decode cX6_cartAt 1 = .ok (.ifCond .lt 17, 3) := by decide +kernel
theorem dX6_cartAt_4 : decode cX6_cartAt 4 = .ok (.iload_n 1, 1) := by decide +kernel
theorem dX6_cartAt_5 : decode cX6_cartAt 5 = .ok (.aload_n 0, 1) := by decide +kernel
theorem dX6_cartAt_6 : decode cX6_cartAt 6 = .ok (.getfield 46, 3) := by decide +kernel
theorem dX6_cartAt_9 : decode cX6_cartAt 9 = .ok (.if_icmp .ge 9, 3) := by decide +kernel
theorem dX6_cartAt_12 : decode cX6_cartAt 12 = .ok (.iload_n 1, 1) := by decide +kernel
theorem dX6_cartAt_13 : decode cX6_cartAt 13 = .ok (.bipush 7, 2) := by decide +kernel
theorem dX6_cartAt_15 : decode cX6_cartAt 15 = .ok (.if_icmp .lt 7, 3) := by decide +kernel
theorem dX6_cartAt_18 : decode cX6_cartAt 18 = .ok (.aconst_null, 1) := by decide +kernel
theorem dX6_cartAt_19 : decode cX6_cartAt 19 = .ok (.goto 9, 3) := by decide +kernel
theorem dX6_cartAt_22 : decode cX6_cartAt 22 = .ok (.aload_n 0, 1) := by decide +kernel
theorem dX6_cartAt_23 : decode cX6_cartAt 23 = .ok (.getfield 20, 3) := by decide +kernel
theorem dX6_cartAt_26 : decode cX6_cartAt 26 = .ok (.iload_n 1, 1) := by decide +kernel
theorem dX6_cartAt_27 : decode cX6_cartAt 27 = .ok (.aaload, 1) := by decide +kernel
theorem dX6_cartAt_28 : decode cX6_cartAt 28 = .ok (.areturn, 1) := by decide +kernel
set_option maxHeartbeats 4000000 in
set_option maxRecDepth 100000 in
theorem c_X6_cartAt (l : Launch) (D : va_G) (cA : Nat → ClassId) (ad : Nat → Nat) (o : Int64) (σ : Mem) (t : Nat) (k : Int32) (ht : t < 3) (sz : Nat) : Met l yX6_cartAt (WY yX6_cartAt cX6_cartAt 2 (some (.object "WhoBacks$Cart"))) (RM 0) (va_Pc [.ref (ad (22 * t)), .int k] (PW D cA ad o σ sz)) (va_Qq (QQ ad (fun x σ9 => σ9 = σ ∧ (match x with | none => k < 0 ∨ σ (22 * t) 2 ≤ k ∨ 7 ≤ k | some q => ∃ j : Nat, j < 7 ∧ k = nI j ∧ k < σ (22 * t) 2 ∧ q = 22 * t + 15 + j))) (QW D cA ad o) (FA ad sz)) 0 0 (FA ad sz) := by
  refine ct_of (own := RX6) (k := 0) (Qf := va_Qq (QQ ad (fun x σ9 => σ9 = σ ∧ (match x with | none => k < 0 ∨ σ (22 * t) 2 ≤ k ∨ 7 ≤ k | some q => ∃ j : Nat, j < 7 ∧ k = nI j ∧ k < σ (22 * t) 2 ∧ q = 22 * t + 15 + j))) (QW D cA ad o)) rfl (by decide) (Nat.le_of_ble_eq_true rfl) (fun p e s m below meth c ls C0 X hr hlk hP hl => ?_) sz
  have hS : va_S (FA ad s.heap.size) s.heap s.heap [] := va_S.rf
  have hl : lv_has ls 2 [(0, .ref (ad (22 * t))), (1, .int k)] := hl
  obtain ⟨hx, hb, hml, hown, hts⟩ := id C0
  refine lv_iload_n hx hb dX6_cartAt_0 rfl (lv_at hl 1 rfl) ?_
  refine lv_if_lt (tgt := 18) hx hb dX6_cartAt_1 (by decide) (fun c_1 => ?_) (fun c_1 => ?_)
  · refine lv_null hx hb dX6_cartAt_18 ?_
    refine lv_goto (tgt := 28) hx hb dX6_cartAt_19 (by decide) ?_
    exact r_aretN C0 X hP hS hr hlk dX6_cartAt_28 ⟨rfl, Or.inl c_1⟩
  · refine lv_iload_n hx hb dX6_cartAt_4 rfl (lv_at hl 1 rfl) ?_
    refine lv_aload_n hx hb dX6_cartAt_5 rfl (lv_at hl 0 rfl) ?_
    refine gf_X6_46 C0 X hP (22 * t) (kdT t ht) dX6_cartAt_6 ?_
    refine lv_icmp_ge (tgt := 18) hx hb dX6_cartAt_9 (by decide) (fun c_2 => ?_) (fun c_2 => ?_)
    · refine lv_null hx hb dX6_cartAt_18 ?_
      refine lv_goto (tgt := 28) hx hb dX6_cartAt_19 (by decide) ?_
      exact r_aretN C0 X hP hS hr hlk dX6_cartAt_28 ⟨rfl, Or.inr (Or.inl c_2)⟩
    · refine lv_iload_n hx hb dX6_cartAt_12 rfl (lv_at hl 1 rfl) ?_
      refine lv_bipush (v := 7) hx hb dX6_cartAt_13 (by decide) ?_
      refine lv_icmp_lt (tgt := 22) hx hb dX6_cartAt_15 (by decide) (fun c_3 => ?_) (fun c_3 => ?_)
      · obtain ⟨j, hj, rfl⟩ : ∃ j : Nat, j < 7 ∧ k = nI j := ixN (M := 7) (by decide) c_1 c_3
        refine lv_aload_n hx hb dX6_cartAt_22 rfl (lv_at hl 0 rfl) ?_
        refine gf_X6_20 C0 X hP (22 * t) (q := (22 * t + 13)) (kdT t ht) (by omega) (lkT1 t ht) dX6_cartAt_23 ?_
        refine lv_iload_n hx hb dX6_cartAt_26 rfl (lv_at hl 1 rfl) ?_
        refine r_aaldCN C0 X hP (22 * t + 13) (k := j) (q := (22 * t + 15 + j)) (kdCA t ht) rfl (by omega) (lkCA t ht j (by omega)) dX6_cartAt_27 ?_
        exact r_aret C0 X hP hS hr hlk dX6_cartAt_28 ⟨rfl, j, hj, rfl, Int32.not_le.mp c_2, rfl⟩
      · refine lv_null hx hb dX6_cartAt_18 ?_
        refine lv_goto (tgt := 28) hx hb dX6_cartAt_19 (by decide) ?_
        exact r_aretN C0 X hP hS hr hlk dX6_cartAt_28 ⟨rfl, Or.inr (Or.inr (Int32.not_lt.mp c_3))⟩
end
section
theorem dX7_cannotRun_0 : decode cX7_cannotRun 0 = .ok (.aload_n 0, 1) := by decide +kernel
theorem dX7_cannotRun_1 : decode cX7_cannotRun 1 = .ok (.getfield 12, 3) := by decide +kernel
theorem dX7_cannotRun_4 : decode cX7_cannotRun 4 = .ok (.getfield 70, 3) := by decide +kernel
theorem dX7_cannotRun_7 : decode cX7_cannotRun 7 = .ok (.getfield 74, 3) := by decide +kernel
theorem dX7_cannotRun_10 : decode cX7_cannotRun 10 = .ok (.ifCond .eq 13, 3) := by decide +kernel
theorem dX7_cannotRun_13 : decode cX7_cannotRun 13 = .ok (.aload_n 0, 1) := by decide +kernel
theorem dX7_cannotRun_14 : decode cX7_cannotRun 14 = .ok (.getfield 12, 3) := by decide +kernel
theorem dX7_cannotRun_17 : decode cX7_cannotRun 17 = .ok (.getfield 150, 3) := by decide +kernel
theorem dX7_cannotRun_20 : decode cX7_cannotRun 20 = .ok (.ifCond .ne 7, 3) := by decide +kernel
theorem dX7_cannotRun_23 : decode cX7_cannotRun 23 = .ok (.iconst 1, 1) := by decide +kernel
theorem dX7_cannotRun_24 : decode cX7_cannotRun 24 = .ok (.goto 4, 3) := by decide +kernel
theorem dX7_cannotRun_27 : decode cX7_cannotRun 27 = .ok (.iconst 0, 1) := by decide +kernel
theorem dX7_cannotRun_28 : decode cX7_cannotRun 28 = .ok (.ireturn, 1) := by decide +kernel
set_option maxHeartbeats 4000000 in
set_option maxRecDepth 100000 in
theorem c_X7_cannotRun (l : Launch) (D : va_G) (cA : Nat → ClassId) (ad : Nat → Nat) (o : Int64) (σ : Mem)   (sz : Nat) : Met l yX7_cannotRun (WY yX7_cannotRun cX7_cannotRun 1 (some .boolean)) (RM 0) (va_Pc [.ref (ad 66)] (PW D cA ad o σ sz)) (va_Qi (fun r σ9 => (((σ 1 0 = 0 ∨ σ 0 2 = 0) ∧ r = 1) ∨ (¬ (σ 1 0 = 0 ∨ σ 0 2 = 0) ∧ r = 0)) ∧ σ9 = σ) (QW D cA ad o) (FA ad sz)) 0 0 (FA ad sz) := by
  refine ct_of (own := RX7) (k := 0) (Qf := va_Qi (fun r σ9 => (((σ 1 0 = 0 ∨ σ 0 2 = 0) ∧ r = 1) ∨ (¬ (σ 1 0 = 0 ∨ σ 0 2 = 0) ∧ r = 0)) ∧ σ9 = σ) (QW D cA ad o)) rfl (by decide) (Nat.le_of_ble_eq_true rfl) (fun p e s m below meth c ls C0 X hr hlk hP hl => ?_) sz
  have hS : va_S (FA ad s.heap.size) s.heap s.heap [] := va_S.rf
  have hl : lv_has ls 1 [(0, .ref (ad 66))] := hl
  obtain ⟨hx, hb, hml, hown, hts⟩ := id C0
  refine lv_aload_n hx hb dX7_cannotRun_0 rfl (lv_at hl 0 rfl) ?_
  refine gf_X7_12 C0 X hP 66 (q := 0) ⟨by decide, rfl⟩ (by omega) rfl dX7_cannotRun_1 ?_
  refine gf_X7_70 C0 X hP 0 (q := 1) ⟨by decide, rfl⟩ (by omega) rfl dX7_cannotRun_4 ?_
  refine gf_X7_74 C0 X hP 1 ⟨by decide, rfl⟩ dX7_cannotRun_7 ?_
  refine lv_if_eq (tgt := 23) hx hb dX7_cannotRun_10 (by decide) (fun c_1 => ?_) (fun c_1 => ?_)
  · refine lv_iconst (v := 1) hx hb dX7_cannotRun_23 (by decide) ?_
    refine lv_goto (tgt := 28) hx hb dX7_cannotRun_24 (by decide) ?_
    exact r_zret C0 X hP hS hr hlk dX7_cannotRun_28 (Or.inr rfl) ⟨Or.inl ⟨Or.inl c_1, rfl⟩, rfl⟩
  · refine lv_aload_n hx hb dX7_cannotRun_13 rfl (lv_at hl 0 rfl) ?_
    refine gf_X7_12 C0 X hP 66 (q := 0) ⟨by decide, rfl⟩ (by omega) rfl dX7_cannotRun_14 ?_
    refine gf_X7_150 C0 X hP 0 ⟨by decide, rfl⟩ dX7_cannotRun_17 ?_
    refine lv_if_ne (tgt := 27) hx hb dX7_cannotRun_20 (by decide) (fun c_2 => ?_) (fun c_2 => ?_)
    · refine lv_iconst (v := 0) hx hb dX7_cannotRun_27 (by decide) ?_
      exact r_zret C0 X hP hS hr hlk dX7_cannotRun_28 (Or.inl rfl) ⟨Or.inr ⟨fun q => q.elim c_1 c_2, rfl⟩, rfl⟩
    · refine lv_iconst (v := 1) hx hb dX7_cannotRun_23 (by decide) ?_
      refine lv_goto (tgt := 28) hx hb dX7_cannotRun_24 (by decide) ?_
      exact r_zret C0 X hP hS hr hlk dX7_cannotRun_28 (Or.inr rfl) ⟨Or.inl ⟨Or.inr c_2, rfl⟩, rfl⟩
theorem dX6_howMany_0 : decode cX6_howMany 0 = .ok (.iconst 0, 1) := by decide +kernel
theorem dX6_howMany_1 : decode cX6_howMany 1 = .ok (.istore_n 2, 1) := by decide +kernel
theorem dX6_howMany_2 : decode cX6_howMany 2 = .ok (.iconst 0, 1) := by decide +kernel
theorem dX6_howMany_3 : decode cX6_howMany 3 = .ok (.istore_n 3, 1) := by decide +kernel
theorem dX6_howMany_4 : decode cX6_howMany 4 = .ok (.iload_n 3, 1) := by decide +kernel
theorem dX6_howMany_5 : decode cX6_howMany 5 = .ok (.aload_n 0, 1) := by decide +kernel
theorem dX6_howMany_6 : decode cX6_howMany 6 = .ok (.getfield 46, 3) := by decide +kernel
theorem dX6_howMany_9 : decode cX6_howMany 9 = .ok (.if_icmp .ge 25, 3) := by decide +kernel
theorem dX6_howMany_12 : decode cX6_howMany 12 = .ok (.aload_n 0, 1) := by decide +kernel
theorem dX6_howMany_13 : decode cX6_howMany 13 = .ok (.getfield 20, 3) := by decide +kernel
theorem dX6_howMany_16 : decode cX6_howMany 16 = .ok (.iload_n 3, 1) := by decide +kernel
theorem dX6_howMany_17 : decode cX6_howMany 17 = .ok (.aaload, 1) := by decide +kernel
theorem dX6_howMany_18 : decode cX6_howMany 18 = .ok (.getfield 83, 3) := by decide +kernel
theorem dX6_howMany_21 : decode cX6_howMany 21 = .ok (.iload_n 1, 1) := by decide +kernel
theorem dX6_howMany_22 : decode cX6_howMany 22 = .ok (.if_icmp .ne 6, 3) := by decide +kernel
theorem dX6_howMany_25 : decode cX6_howMany 25 = .ok (.iinc 2 1, 3) := by decide +kernel
theorem dX6_howMany_28 : decode cX6_howMany 28 = .ok (.iinc 3 1, 3) := by decide +kernel
theorem dX6_howMany_31 : decode cX6_howMany 31 = .ok (.goto (-27), 3) := by decide +kernel
theorem dX6_howMany_34 : decode cX6_howMany 34 = .ok (.iload_n 2, 1) := by decide +kernel
theorem dX6_howMany_35 : decode cX6_howMany 35 = .ok (.ireturn, 1) := by decide +kernel
set_option maxHeartbeats 4000000 in
set_option maxRecDepth 100000 in
theorem c_X6_howMany0 (l : Launch) (D : va_G) (cA : Nat → ClassId) (ad : Nat → Nat) (o : Int64) (σ : Mem) (t : Nat) (x : Int32) (ht : t < 3) (h0 : σ (22 * t) 2 = 0) (sz : Nat) : Met l yX6_howMany (WY yX6_howMany cX6_howMany 4 (some .int)) (RM 0) (va_Pc [.ref (ad (22 * t)), .int x] (PW D cA ad o σ sz)) (va_Qi (fun r σ9 => r = 0 ∧ σ9 = σ) (QW D cA ad o) (FA ad sz)) 0 0 (FA ad sz) := by
  refine ct_of (own := RX6) (k := 0) (Qf := va_Qi (fun r σ9 => r = 0 ∧ σ9 = σ) (QW D cA ad o)) rfl (by decide) (Nat.le_of_ble_eq_true rfl) (fun p e s m below meth c ls C0 X hr hlk hP hl => ?_) sz
  have hS : va_S (FA ad s.heap.size) s.heap s.heap [] := va_S.rf
  have hl : lv_has ls 4 [(0, .ref (ad (22 * t))), (1, .int x)] := hl
  obtain ⟨hx, hb, hml, hown, hts⟩ := id C0
  refine lv_iconst (v := 0) hx hb dX6_howMany_0 (by decide) ?_
  refine lv_istore_n (lv' := [(2, .int 0), (0, .ref (ad (22 * t))), (1, .int x)]) hx hb dX6_howMany_1 rfl hl (by decide) rfl (fun ls hl => ?_)
  refine lv_iconst (v := 0) hx hb dX6_howMany_2 (by decide) ?_
  refine lv_istore_n (lv' := [(3, .int 0), (2, .int 0), (0, .ref (ad (22 * t))), (1, .int x)]) hx hb dX6_howMany_3 rfl hl (by decide) rfl (fun ls hl => ?_)
  refine lv_iload_n hx hb dX6_howMany_4 rfl (lv_at hl 0 rfl) ?_
  refine lv_aload_n hx hb dX6_howMany_5 rfl (lv_at hl 2 rfl) ?_
  refine gf_X6_46 C0 X hP (22 * t) (kdT t ht) dX6_howMany_6 ?_
  refine lv_topE (y := 0) h0 ?_
  refine lv_icmp_ge (tgt := 34) hx hb dX6_howMany_9 (by decide) (fun c_1 => ?_) (fun c_1 => absurd c_1 (by decide))
  refine lv_iload_n hx hb dX6_howMany_34 rfl (lv_at hl 1 rfl) ?_
  exact r_iret C0 X hP hS hr hlk dX6_howMany_35 ⟨rfl, rfl⟩
theorem dX6_allBacked_0 : decode cX6_allBacked 0 = .ok (.iconst 0, 1) := by decide +kernel
theorem dX6_allBacked_1 : decode cX6_allBacked 1 = .ok (.istore_n 1, 1) := by decide +kernel
theorem dX6_allBacked_2 : decode cX6_allBacked 2 = .ok (.iconst 0, 1) := by decide +kernel
theorem dX6_allBacked_3 : decode cX6_allBacked 3 = .ok (.istore_n 2, 1) := by decide +kernel
theorem dX6_allBacked_4 : decode cX6_allBacked 4 = .ok (.iload_n 2, 1) := by decide +kernel
theorem dX6_allBacked_5 : decode cX6_allBacked 5 = .ok (.aload_n 0, 1) := by decide +kernel
theorem dX6_allBacked_6 : decode cX6_allBacked 6 = .ok (.getfield 46, 3) := by decide +kernel
theorem dX6_allBacked_9 : decode cX6_allBacked 9 = .ok (.if_icmp .ge 21, 3) := by decide +kernel
theorem dX6_allBacked_12 : decode cX6_allBacked 12 = .ok (.iload_n 1, 1) := by decide +kernel
theorem dX6_allBacked_13 : decode cX6_allBacked 13 = .ok (.aload_n 0, 1) := by decide +kernel
theorem dX6_allBacked_14 : decode cX6_allBacked 14 = .ok (.getfield 20, 3) := by decide +kernel
theorem dX6_allBacked_17 : decode cX6_allBacked 17 = .ok (.iload_n 2, 1) := by decide +kernel
theorem dX6_allBacked_18 : decode cX6_allBacked 18 = .ok (.aaload, 1) := by decide +kernel
theorem dX6_allBacked_19 : decode cX6_allBacked 19 = .ok (.getfield 86, 3) := by decide +kernel
theorem dX6_allBacked_22 : decode cX6_allBacked 22 = .ok (.iadd, 1) := by decide +kernel
theorem dX6_allBacked_23 : decode cX6_allBacked 23 = .ok (.istore_n 1, 1) := by decide +kernel
theorem dX6_allBacked_24 : decode cX6_allBacked 24 = .ok (.iinc 2 1, 3) := by decide +kernel
theorem dX6_allBacked_27 : decode cX6_allBacked 27 = .ok (.goto (-23), 3) := by decide +kernel
theorem dX6_allBacked_30 : decode cX6_allBacked 30 = .ok (.iload_n 1, 1) := by decide +kernel
theorem dX6_allBacked_31 : decode cX6_allBacked 31 = .ok (.ireturn, 1) := by decide +kernel
set_option maxHeartbeats 4000000 in
set_option maxRecDepth 100000 in
theorem c_X6_allBacked0 (l : Launch) (D : va_G) (cA : Nat → ClassId) (ad : Nat → Nat) (o : Int64) (σ : Mem) (t : Nat) (ht : t < 3) (h0 : σ (22 * t) 2 = 0) (sz : Nat) : Met l yX6_allBacked (WY yX6_allBacked cX6_allBacked 3 (some .int)) (RM 0) (va_Pc [.ref (ad (22 * t))] (PW D cA ad o σ sz)) (va_Qi (fun r σ9 => r = 0 ∧ σ9 = σ) (QW D cA ad o) (FA ad sz)) 0 0 (FA ad sz) := by
  refine ct_of (own := RX6) (k := 0) (Qf := va_Qi (fun r σ9 => r = 0 ∧ σ9 = σ) (QW D cA ad o)) rfl (by decide) (Nat.le_of_ble_eq_true rfl) (fun p e s m below meth c ls C0 X hr hlk hP hl => ?_) sz
  have hS : va_S (FA ad s.heap.size) s.heap s.heap [] := va_S.rf
  have hl : lv_has ls 3 [(0, .ref (ad (22 * t)))] := hl
  obtain ⟨hx, hb, hml, hown, hts⟩ := id C0
  refine lv_iconst (v := 0) hx hb dX6_allBacked_0 (by decide) ?_
  refine lv_istore_n (lv' := [(1, .int 0), (0, .ref (ad (22 * t)))]) hx hb dX6_allBacked_1 rfl hl (by decide) rfl (fun ls hl => ?_)
  refine lv_iconst (v := 0) hx hb dX6_allBacked_2 (by decide) ?_
  refine lv_istore_n (lv' := [(2, .int 0), (1, .int 0), (0, .ref (ad (22 * t)))]) hx hb dX6_allBacked_3 rfl hl (by decide) rfl (fun ls hl => ?_)
  refine lv_iload_n hx hb dX6_allBacked_4 rfl (lv_at hl 0 rfl) ?_
  refine lv_aload_n hx hb dX6_allBacked_5 rfl (lv_at hl 2 rfl) ?_
  refine gf_X6_46 C0 X hP (22 * t) (kdT t ht) dX6_allBacked_6 ?_
  refine lv_topE (y := 0) h0 ?_
  refine lv_icmp_ge (tgt := 30) hx hb dX6_allBacked_9 (by decide) (fun c_1 => ?_) (fun c_1 => absurd c_1 (by decide))
  refine lv_iload_n hx hb dX6_allBacked_30 rfl (lv_at hl 1 rfl) ?_
  exact r_iret C0 X hP hS hr hlk dX6_allBacked_31 ⟨rfl, rfl⟩
theorem dX6_allWaited_0 : decode cX6_allWaited 0 = .ok (.iconst 0, 1) := by decide +kernel
theorem dX6_allWaited_1 : decode cX6_allWaited 1 = .ok (.istore_n 1, 1) := by decide +kernel
theorem dX6_allWaited_2 : decode cX6_allWaited 2 = .ok (.iconst 0, 1) := by decide +kernel
theorem dX6_allWaited_3 : decode cX6_allWaited 3 = .ok (.istore_n 2, 1) := by decide +kernel
theorem dX6_allWaited_4 : decode cX6_allWaited 4 = .ok (.iload_n 2, 1) := by decide +kernel
theorem dX6_allWaited_5 : decode cX6_allWaited 5 = .ok (.aload_n 0, 1) := by decide +kernel
theorem dX6_allWaited_6 : decode cX6_allWaited 6 = .ok (.getfield 46, 3) := by decide +kernel
theorem dX6_allWaited_9 : decode cX6_allWaited 9 = .ok (.if_icmp .ge 21, 3) := by decide +kernel
theorem dX6_allWaited_12 : decode cX6_allWaited 12 = .ok (.iload_n 1, 1) := by decide +kernel
theorem dX6_allWaited_13 : decode cX6_allWaited 13 = .ok (.aload_n 0, 1) := by decide +kernel
theorem dX6_allWaited_14 : decode cX6_allWaited 14 = .ok (.getfield 20, 3) := by decide +kernel
theorem dX6_allWaited_17 : decode cX6_allWaited 17 = .ok (.iload_n 2, 1) := by decide +kernel
theorem dX6_allWaited_18 : decode cX6_allWaited 18 = .ok (.aaload, 1) := by decide +kernel
theorem dX6_allWaited_19 : decode cX6_allWaited 19 = .ok (.getfield 89, 3) := by decide +kernel
theorem dX6_allWaited_22 : decode cX6_allWaited 22 = .ok (.iadd, 1) := by decide +kernel
theorem dX6_allWaited_23 : decode cX6_allWaited 23 = .ok (.istore_n 1, 1) := by decide +kernel
theorem dX6_allWaited_24 : decode cX6_allWaited 24 = .ok (.iinc 2 1, 3) := by decide +kernel
theorem dX6_allWaited_27 : decode cX6_allWaited 27 = .ok (.goto (-23), 3) := by decide +kernel
theorem dX6_allWaited_30 : decode cX6_allWaited 30 = .ok (.iload_n 1, 1) := by decide +kernel
theorem dX6_allWaited_31 : decode cX6_allWaited 31 = .ok (.ireturn, 1) := by decide +kernel
set_option maxHeartbeats 4000000 in
set_option maxRecDepth 100000 in
theorem c_X6_allWaited0 (l : Launch) (D : va_G) (cA : Nat → ClassId) (ad : Nat → Nat) (o : Int64) (σ : Mem) (t : Nat) (ht : t < 3) (h0 : σ (22 * t) 2 = 0) (sz : Nat) : Met l yX6_allWaited (WY yX6_allWaited cX6_allWaited 3 (some .int)) (RM 0) (va_Pc [.ref (ad (22 * t))] (PW D cA ad o σ sz)) (va_Qi (fun r σ9 => r = 0 ∧ σ9 = σ) (QW D cA ad o) (FA ad sz)) 0 0 (FA ad sz) := by
  refine ct_of (own := RX6) (k := 0) (Qf := va_Qi (fun r σ9 => r = 0 ∧ σ9 = σ) (QW D cA ad o)) rfl (by decide) (Nat.le_of_ble_eq_true rfl) (fun p e s m below meth c ls C0 X hr hlk hP hl => ?_) sz
  have hS : va_S (FA ad s.heap.size) s.heap s.heap [] := va_S.rf
  have hl : lv_has ls 3 [(0, .ref (ad (22 * t)))] := hl
  obtain ⟨hx, hb, hml, hown, hts⟩ := id C0
  refine lv_iconst (v := 0) hx hb dX6_allWaited_0 (by decide) ?_
  refine lv_istore_n (lv' := [(1, .int 0), (0, .ref (ad (22 * t)))]) hx hb dX6_allWaited_1 rfl hl (by decide) rfl (fun ls hl => ?_)
  refine lv_iconst (v := 0) hx hb dX6_allWaited_2 (by decide) ?_
  refine lv_istore_n (lv' := [(2, .int 0), (1, .int 0), (0, .ref (ad (22 * t)))]) hx hb dX6_allWaited_3 rfl hl (by decide) rfl (fun ls hl => ?_)
  refine lv_iload_n hx hb dX6_allWaited_4 rfl (lv_at hl 0 rfl) ?_
  refine lv_aload_n hx hb dX6_allWaited_5 rfl (lv_at hl 2 rfl) ?_
  refine gf_X6_46 C0 X hP (22 * t) (kdT t ht) dX6_allWaited_6 ?_
  refine lv_topE (y := 0) h0 ?_
  refine lv_icmp_ge (tgt := 30) hx hb dX6_allWaited_9 (by decide) (fun c_1 => ?_) (fun c_1 => absurd c_1 (by decide))
  refine lv_iload_n hx hb dX6_allWaited_30 rfl (lv_at hl 1 rfl) ?_
  exact r_iret C0 X hP hS hr hlk dX6_allWaited_31 ⟨rfl, rfl⟩
theorem dX6_allWorth_0 : decode cX6_allWorth 0 = .ok (.iconst 0, 1) := by decide +kernel
theorem dX6_allWorth_1 : decode cX6_allWorth 1 = .ok (.istore_n 1, 1) := by decide +kernel
theorem dX6_allWorth_2 : decode cX6_allWorth 2 = .ok (.iconst 0, 1) := by decide +kernel
theorem dX6_allWorth_3 : decode cX6_allWorth 3 = .ok (.istore_n 2, 1) := by decide +kernel
theorem dX6_allWorth_4 : decode cX6_allWorth 4 = .ok (.iload_n 2, 1) := by decide +kernel
theorem dX6_allWorth_5 : decode cX6_allWorth 5 = .ok (.aload_n 0, 1) := by decide +kernel
theorem dX6_allWorth_6 : decode cX6_allWorth 6 = .ok (.getfield 46, 3) := by decide +kernel
theorem dX6_allWorth_9 : decode cX6_allWorth 9 = .ok (.if_icmp .ge 21, 3) := by decide +kernel
theorem dX6_allWorth_12 : decode cX6_allWorth 12 = .ok (.iload_n 1, 1) := by decide +kernel
theorem dX6_allWorth_13 : decode cX6_allWorth 13 = .ok (.aload_n 0, 1) := by decide +kernel
theorem dX6_allWorth_14 : decode cX6_allWorth 14 = .ok (.getfield 20, 3) := by decide +kernel
theorem dX6_allWorth_17 : decode cX6_allWorth 17 = .ok (.iload_n 2, 1) := by decide +kernel
theorem dX6_allWorth_18 : decode cX6_allWorth 18 = .ok (.aaload, 1) := by decide +kernel
theorem dX6_allWorth_19 : decode cX6_allWorth 19 = .ok (.getfield 80, 3) := by decide +kernel
theorem dX6_allWorth_22 : decode cX6_allWorth 22 = .ok (.iadd, 1) := by decide +kernel
theorem dX6_allWorth_23 : decode cX6_allWorth 23 = .ok (.istore_n 1, 1) := by decide +kernel
theorem dX6_allWorth_24 : decode cX6_allWorth 24 = .ok (.iinc 2 1, 3) := by decide +kernel
theorem dX6_allWorth_27 : decode cX6_allWorth 27 = .ok (.goto (-23), 3) := by decide +kernel
theorem dX6_allWorth_30 : decode cX6_allWorth 30 = .ok (.iload_n 1, 1) := by decide +kernel
theorem dX6_allWorth_31 : decode cX6_allWorth 31 = .ok (.ireturn, 1) := by decide +kernel
set_option maxHeartbeats 4000000 in
set_option maxRecDepth 100000 in
theorem c_X6_allWorth0 (l : Launch) (D : va_G) (cA : Nat → ClassId) (ad : Nat → Nat) (o : Int64) (σ : Mem) (t : Nat) (ht : t < 3) (h0 : σ (22 * t) 2 = 0) (sz : Nat) : Met l yX6_allWorth (WY yX6_allWorth cX6_allWorth 3 (some .int)) (RM 0) (va_Pc [.ref (ad (22 * t))] (PW D cA ad o σ sz)) (va_Qi (fun r σ9 => r = 0 ∧ σ9 = σ) (QW D cA ad o) (FA ad sz)) 0 0 (FA ad sz) := by
  refine ct_of (own := RX6) (k := 0) (Qf := va_Qi (fun r σ9 => r = 0 ∧ σ9 = σ) (QW D cA ad o)) rfl (by decide) (Nat.le_of_ble_eq_true rfl) (fun p e s m below meth c ls C0 X hr hlk hP hl => ?_) sz
  have hS : va_S (FA ad s.heap.size) s.heap s.heap [] := va_S.rf
  have hl : lv_has ls 3 [(0, .ref (ad (22 * t)))] := hl
  obtain ⟨hx, hb, hml, hown, hts⟩ := id C0
  refine lv_iconst (v := 0) hx hb dX6_allWorth_0 (by decide) ?_
  refine lv_istore_n (lv' := [(1, .int 0), (0, .ref (ad (22 * t)))]) hx hb dX6_allWorth_1 rfl hl (by decide) rfl (fun ls hl => ?_)
  refine lv_iconst (v := 0) hx hb dX6_allWorth_2 (by decide) ?_
  refine lv_istore_n (lv' := [(2, .int 0), (1, .int 0), (0, .ref (ad (22 * t)))]) hx hb dX6_allWorth_3 rfl hl (by decide) rfl (fun ls hl => ?_)
  refine lv_iload_n hx hb dX6_allWorth_4 rfl (lv_at hl 0 rfl) ?_
  refine lv_aload_n hx hb dX6_allWorth_5 rfl (lv_at hl 2 rfl) ?_
  refine gf_X6_46 C0 X hP (22 * t) (kdT t ht) dX6_allWorth_6 ?_
  refine lv_topE (y := 0) h0 ?_
  refine lv_icmp_ge (tgt := 30) hx hb dX6_allWorth_9 (by decide) (fun c_1 => ?_) (fun c_1 => absurd c_1 (by decide))
  refine lv_iload_n hx hb dX6_allWorth_30 rfl (lv_at hl 1 rfl) ?_
  exact r_iret C0 X hP hS hr hlk dX6_allWorth_31 ⟨rfl, rfl⟩
theorem dX4_allRoom_0 : decode cX4_allRoom 0 = .ok (.iconst 0, 1) := by decide +kernel
theorem dX4_allRoom_1 : decode cX4_allRoom 1 = .ok (.istore_n 1, 1) := by decide +kernel
theorem dX4_allRoom_2 : decode cX4_allRoom 2 = .ok (.iconst 1, 1) := by decide +kernel
theorem dX4_allRoom_3 : decode cX4_allRoom 3 = .ok (.istore_n 2, 1) := by decide +kernel
theorem dX4_allRoom_4 : decode cX4_allRoom 4 = .ok (.iload_n 2, 1) := by decide +kernel
theorem dX4_allRoom_5 : decode cX4_allRoom 5 = .ok (.aload_n 0, 1) := by decide +kernel
theorem dX4_allRoom_6 : decode cX4_allRoom 6 = .ok (.getfield 45, 3) := by decide +kernel
theorem dX4_allRoom_9 : decode cX4_allRoom 9 = .ok (.if_icmp .ge 18, 3) := by decide +kernel
theorem dX4_allRoom_12 : decode cX4_allRoom 12 = .ok (.iload_n 1, 1) := by decide +kernel
theorem dX4_allRoom_13 : decode cX4_allRoom 13 = .ok (.aload_n 0, 1) := by decide +kernel
theorem dX4_allRoom_14 : decode cX4_allRoom 14 = .ok (.getfield 21, 3) := by decide +kernel
theorem dX4_allRoom_17 : decode cX4_allRoom 17 = .ok (.iload_n 2, 1) := by decide +kernel
theorem dX4_allRoom_18 : decode cX4_allRoom 18 = .ok (.iaload, 1) := by decide +kernel
theorem dX4_allRoom_19 : decode cX4_allRoom 19 = .ok (.iadd, 1) := by decide +kernel
theorem dX4_allRoom_20 : decode cX4_allRoom 20 = .ok (.istore_n 1, 1) := by decide +kernel
theorem dX4_allRoom_21 : decode cX4_allRoom 21 = .ok (.iinc 2 1, 3) := by decide +kernel
theorem dX4_allRoom_24 : decode cX4_allRoom 24 = .ok (.goto (-20), 3) := by decide +kernel
theorem dX4_allRoom_27 : decode cX4_allRoom 27 = .ok (.iload_n 1, 1) := by decide +kernel
theorem dX4_allRoom_28 : decode cX4_allRoom 28 = .ok (.ireturn, 1) := by decide +kernel
set_option maxHeartbeats 4000000 in
set_option maxRecDepth 100000 in
theorem c_X4_allRoom0 (l : Launch) (D : va_G) (cA : Nat → ClassId) (ad : Nat → Nat) (o : Int64) (σ : Mem) (t : Nat) (ht : t < 3) (h0 : σ (22 * t + 1) 0 = 0) (sz : Nat) : Met l yX4_allRoom (WY yX4_allRoom cX4_allRoom 3 (some .int)) (RM 0) (va_Pc [.ref (ad (22 * t + 1))] (PW D cA ad o σ sz)) (va_Qi (fun r σ9 => r = 0 ∧ σ9 = σ) (QW D cA ad o) (FA ad sz)) 0 0 (FA ad sz) := by
  refine ct_of (own := RX4) (k := 0) (Qf := va_Qi (fun r σ9 => r = 0 ∧ σ9 = σ) (QW D cA ad o)) rfl (by decide) (Nat.le_of_ble_eq_true rfl) (fun p e s m below meth c ls C0 X hr hlk hP hl => ?_) sz
  have hS : va_S (FA ad s.heap.size) s.heap s.heap [] := va_S.rf
  have hl : lv_has ls 3 [(0, .ref (ad (22 * t + 1)))] := hl
  obtain ⟨hx, hb, hml, hown, hts⟩ := id C0
  refine lv_iconst (v := 0) hx hb dX4_allRoom_0 (by decide) ?_
  refine lv_istore_n (lv' := [(1, .int 0), (0, .ref (ad (22 * t + 1)))]) hx hb dX4_allRoom_1 rfl hl (by decide) rfl (fun ls hl => ?_)
  refine lv_iconst (v := 1) hx hb dX4_allRoom_2 (by decide) ?_
  refine lv_istore_n (lv' := [(2, .int 1), (1, .int 0), (0, .ref (ad (22 * t + 1)))]) hx hb dX4_allRoom_3 rfl hl (by decide) rfl (fun ls hl => ?_)
  refine lv_iload_n hx hb dX4_allRoom_4 rfl (lv_at hl 0 rfl) ?_
  refine lv_aload_n hx hb dX4_allRoom_5 rfl (lv_at hl 2 rfl) ?_
  refine gf_X4_45 C0 X hP (22 * t + 1) (kdR t ht) dX4_allRoom_6 ?_
  refine lv_topE (y := 0) h0 ?_
  refine lv_icmp_ge (tgt := 27) hx hb dX4_allRoom_9 (by decide) (fun c_1 => ?_) (fun c_1 => absurd c_1 (by decide))
  refine lv_iload_n hx hb dX4_allRoom_27 rfl (lv_at hl 1 rfl) ?_
  exact r_iret C0 X hP hS hr hlk dX4_allRoom_28 ⟨rfl, rfl⟩
theorem dX6_stands_0 : decode cX6_stands 0 = .ok (.aload_n 0, 1) := by decide +kernel
theorem dX6_stands_1 : decode cX6_stands 1 = .ok (.getfield 52, 3) := by decide +kernel
theorem dX6_stands_4 : decode cX6_stands 4 = .ok (.bipush 60, 2) := by decide +kernel
theorem dX6_stands_6 : decode cX6_stands 6 = .ok (.if_icmp .lt 29, 3) := by decide +kernel
theorem dX6_stands_9 : decode cX6_stands 9 = .ok (.aload_n 0, 1) := by decide +kernel
theorem dX6_stands_10 : decode cX6_stands 10 = .ok (.bipush (-2), 2) := by decide +kernel
theorem dX6_stands_12 : decode cX6_stands 12 = .ok (.invokevirtual 92, 3) := by decide +kernel
theorem dX6_stands_15 : decode cX6_stands 15 = .ok (.ifCond .ne 20, 3) := by decide +kernel
theorem dX6_stands_18 : decode cX6_stands 18 = .ok (.aload_n 0, 1) := by decide +kernel
theorem dX6_stands_19 : decode cX6_stands 19 = .ok (.bipush (-3), 2) := by decide +kernel
theorem dX6_stands_21 : decode cX6_stands 21 = .ok (.invokevirtual 92, 3) := by decide +kernel
theorem dX6_stands_24 : decode cX6_stands 24 = .ok (.aload_n 0, 1) := by decide +kernel
theorem dX6_stands_25 : decode cX6_stands 25 = .ok (.getfield 46, 3) := by decide +kernel
theorem dX6_stands_28 : decode cX6_stands 28 = .ok (.if_icmp .ge 7, 3) := by decide +kernel
theorem dX6_stands_31 : decode cX6_stands 31 = .ok (.iconst 1, 1) := by decide +kernel
theorem dX6_stands_32 : decode cX6_stands 32 = .ok (.goto 4, 3) := by decide +kernel
theorem dX6_stands_35 : decode cX6_stands 35 = .ok (.iconst 0, 1) := by decide +kernel
theorem dX6_stands_36 : decode cX6_stands 36 = .ok (.ireturn, 1) := by decide +kernel
set_option maxHeartbeats 4000000 in
set_option maxRecDepth 100000 in
theorem c_X6_stands0 (l : Launch) (D : va_G) (cA : Nat → ClassId) (ad : Nat → Nat) (o : Int64) (σ : Mem) (t : Nat) (ht : t < 3) (h0 : σ (22 * t) 4 = 0) (sz : Nat) : Met l yX6_stands (WY yX6_stands cX6_stands 1 (some .boolean)) (RM 0) (va_Pc [.ref (ad (22 * t))] (PW D cA ad o σ sz)) (va_Qi (fun r σ9 => ((False ∧ r = 1) ∨ (¬ False ∧ r = 0)) ∧ σ9 = σ) (QW D cA ad o) (FA ad sz)) 0 0 (FA ad sz) := by
  refine ct_of (own := RX6) (k := 0) (Qf := va_Qi (fun r σ9 => ((False ∧ r = 1) ∨ (¬ False ∧ r = 0)) ∧ σ9 = σ) (QW D cA ad o)) rfl (by decide) (Nat.le_of_ble_eq_true rfl) (fun p e s m below meth c ls C0 X hr hlk hP hl => ?_) sz
  have hS : va_S (FA ad s.heap.size) s.heap s.heap [] := va_S.rf
  have hl : lv_has ls 1 [(0, .ref (ad (22 * t)))] := hl
  obtain ⟨hx, hb, hml, hown, hts⟩ := id C0
  refine lv_aload_n hx hb dX6_stands_0 rfl (lv_at hl 0 rfl) ?_
  refine gf_X6_52 C0 X hP (22 * t) (kdT t ht) dX6_stands_1 ?_
  refine lv_topE (y := 0) h0 ?_
  refine lv_bipush (v := 60) hx hb dX6_stands_4 (by decide) ?_
  refine lv_icmp_lt (tgt := 35) hx hb dX6_stands_6 (by decide) (fun c_1 => ?_) (fun c_1 => absurd c_1 (by decide))
  refine lv_iconst (v := 0) hx hb dX6_stands_35 (by decide) ?_
  exact r_zret C0 X hP hS hr hlk dX6_stands_36 (Or.inl rfl) ⟨Or.inr ⟨id, rfl⟩, rfl⟩
theorem dX7_road_0 : decode cX7_road 0 = .ok (.aload_n 0, 1) := by decide +kernel
theorem dX7_road_1 : decode cX7_road 1 = .ok (.iload_n 1, 1) := by decide +kernel
theorem dX7_road_2 : decode cX7_road 2 = .ok (.invokevirtual 50, 3) := by decide +kernel
theorem dX7_road_5 : decode cX7_road 5 = .ok (.astore_n 2, 1) := by decide +kernel
theorem dX7_road_6 : decode cX7_road 6 = .ok (.aload_n 2, 1) := by decide +kernel
theorem dX7_road_7 : decode cX7_road 7 = .ok (.ifnonnull 5, 3) := by decide +kernel
theorem dX7_road_10 : decode cX7_road 10 = .ok (.iconst (-1), 1) := by decide +kernel
theorem dX7_road_11 : decode cX7_road 11 = .ok (.ireturn, 1) := by decide +kernel
theorem dX7_road_12 : decode cX7_road 12 = .ok (.aload_n 2, 1) := by decide +kernel
theorem dX7_road_13 : decode cX7_road 13 = .ok (.getfield 54, 3) := by decide +kernel
theorem dX7_road_16 : decode cX7_road 16 = .ok (.ifCond .ne 6, 3) := by decide +kernel
theorem dX7_road_19 : decode cX7_road 19 = .ok (.bipush (-11), 2) := by decide +kernel
theorem dX7_road_21 : decode cX7_road 21 = .ok (.ireturn, 1) := by decide +kernel
theorem dX7_road_22 : decode cX7_road 22 = .ok (.aload_n 2, 1) := by decide +kernel
theorem dX7_road_23 : decode cX7_road 23 = .ok (.invokevirtual 58, 3) := by decide +kernel
theorem dX7_road_26 : decode cX7_road 26 = .ok (.ifCond .ne 6, 3) := by decide +kernel
theorem dX7_road_29 : decode cX7_road 29 = .ok (.bipush (-12), 2) := by decide +kernel
theorem dX7_road_31 : decode cX7_road 31 = .ok (.ireturn, 1) := by decide +kernel
theorem dX7_road_32 : decode cX7_road 32 = .ok (.aload_n 0, 1) := by decide +kernel
theorem dX7_road_33 : decode cX7_road 33 = .ok (.getfield 19, 3) := by decide +kernel
theorem dX7_road_36 : decode cX7_road 36 = .ok (.aload_n 0, 1) := by decide +kernel
theorem dX7_road_37 : decode cX7_road 37 = .ok (.getfield 12, 3) := by decide +kernel
theorem dX7_road_40 : decode cX7_road 40 = .ok (.invokevirtual 62, 3) := by decide +kernel
theorem dX7_road_43 : decode cX7_road 43 = .ok (.aload_n 0, 1) := by decide +kernel
theorem dX7_road_44 : decode cX7_road 44 = .ok (.getfield 38, 3) := by decide +kernel
theorem dX7_road_47 : decode cX7_road 47 = .ok (.aload_n 2, 1) := by decide +kernel
theorem dX7_road_48 : decode cX7_road 48 = .ok (.aload_n 0, 1) := by decide +kernel
theorem dX7_road_49 : decode cX7_road 49 = .ok (.getfield 19, 3) := by decide +kernel
theorem dX7_road_52 : decode cX7_road 52 = .ok (.invokevirtual 66, 3) := by decide +kernel
theorem dX7_road_55 : decode cX7_road 55 = .ok (.istore_n 3, 1) := by decide +kernel
theorem dX7_road_56 : decode cX7_road 56 = .ok (.iload_n 3, 1) := by decide +kernel
theorem dX7_road_57 : decode cX7_road 57 = .ok (.ifCond .le 14, 3) := by decide +kernel
theorem dX7_road_60 : decode cX7_road 60 = .ok (.aload_n 0, 1) := by decide +kernel
theorem dX7_road_61 : decode cX7_road 61 = .ok (.getfield 12, 3) := by decide +kernel
theorem dX7_road_64 : decode cX7_road 64 = .ok (.aload_n 0, 1) := by decide +kernel
theorem dX7_road_65 : decode cX7_road 65 = .ok (.getfield 19, 3) := by decide +kernel
theorem dX7_road_68 : decode cX7_road 68 = .ok (.invokevirtual 62, 3) := by decide +kernel
theorem dX7_road_71 : decode cX7_road 71 = .ok (.iload_n 3, 1) := by decide +kernel
theorem dX7_road_72 : decode cX7_road 72 = .ok (.ireturn, 1) := by decide +kernel
set_option maxHeartbeats 4000000 in
set_option maxRecDepth 100000 in
theorem c_X7_road_f (l : Launch) (D : va_G) (cA : Nat → ClassId) (ad : Nat → Nat) (o : Int64) (σ : Mem) (d : Int32) (hF : Fr σ) (sz : Nat) : Met l yX7_road (WY yX7_road cX7_road 4 (some .int)) (RM 1) (va_Pc [.ref (ad 66), .int d] (PW D cA ad o σ sz)) (va_Qi (fun r _ => r = (if d < 0 ∨ 8 ≤ d then -1 else -11)) (QW D cA ad o) (FA ad sz)) 0 0 (FA ad sz) := by
  refine ct_of (own := RX7) (k := 1) (Qf := va_Qi (fun r _ => r = (if d < 0 ∨ 8 ≤ d then -1 else -11)) (QW D cA ad o)) rfl (by decide) (Nat.le_of_ble_eq_true rfl) (fun p e s m below meth c ls C0 X hr hlk hP hl => ?_) sz
  have hS : va_S (FA ad s.heap.size) s.heap s.heap [] := va_S.rf
  have hl : lv_has ls 4 [(0, .ref (ad 66)), (1, .int d)] := hl
  obtain ⟨hx, hb, hml, hown, hts⟩ := id C0
  refine lv_aload_n hx hb dX7_road_0 rfl (lv_at hl 0 rfl) ?_
  refine lv_iload_n hx hb dX7_road_1 rfl (lv_at hl 1 rfl) ?_
  refine r_cq X hS (r_runV (As := [.int d]) (rest := []) C0 X hP L_X7_50 (fun sz => c_X7_shelfAt l D cA ad o σ d  sz) (show 66 < 106 ∧ kd 66 = (7, 8) from ⟨by decide, rfl⟩).1 (show 66 < 106 ∧ kd 66 = (7, 8) from ⟨by decide, rfl⟩).2 (by decide) rfl ⟨Nat.le_of_ble_eq_true rfl, Nat.le_of_ble_eq_true rfl⟩ rfl hl.1 rfl (by decide) dX7_road_2 ⟨Nat.zero_le _, Nat.zero_le _⟩) (fun σ9 H locs hw hP hS => ?_) (fun x9 σ9 H locs hw hP hS => ?_)
  · rw [hw.1] at hP
    have h_1 := hw.2
    refine lv_astore_nN (lv' := [(2, .null), (0, .ref (ad 66)), (1, .int d)]) hx hb dX7_road_5 rfl hl (by decide) rfl (fun ls hl => ?_)
    refine lv_aload_nN hx hb dX7_road_6 rfl (lv_at hl 0 rfl) ?_
    refine lv_ifnonnullN hx hb dX7_road_7 ?_
    refine lv_iconst (v := (-1)) hx hb dX7_road_10 (by decide) ?_
    exact r_iret C0 X hP hS hr hlk dX7_road_11 (by simp only [h_1, if_true, if_false, ite_true, ite_false, true_and, and_true, false_and, and_false, true_or, or_true, false_or, or_false, not_true_eq_false, not_false_eq_true, ne_eq, and_self, or_self]; try rfl)
  · rw [hw.1] at hP
    obtain ⟨-, j_2, hj_2, ej_2, rfl⟩ := hw
    have h_1 : ¬ (d < 0 ∨ 8 ≤ d) := by rw [ej_2]; exact nosh hj_2
    refine lv_astore_n (lv' := [(2, .ref (ad (68 + j_2))), (0, .ref (ad 66)), (1, .int d)]) hx hb dX7_road_5 rfl hl (by decide) rfl (fun ls hl => ?_)
    refine lv_aload_n hx hb dX7_road_6 rfl (lv_at hl 0 rfl) ?_
    refine lv_ifnonnull (tgt := 12) hx hb dX7_road_7 (by decide) ?_
    refine lv_aload_n hx hb dX7_road_12 rfl (lv_at hl 0 rfl) ?_
    refine gf_X7_54 C0 X hP (68 + j_2) (kdS j_2 hj_2) dX7_road_13 ?_
    refine lv_topE (y := 0) (Fr_holds hF hj_2) ?_
    refine lv_if_ne (tgt := 22) hx hb dX7_road_16 (by decide) (fun c_3 => absurd c_3 (by decide)) (fun c_3 => ?_)
    refine lv_bipush (v := (-11)) hx hb dX7_road_19 (by decide) ?_
    exact r_iret C0 X hP hS hr hlk dX7_road_21 (by simp only [h_1, if_true, if_false, ite_true, ite_false, true_and, and_true, false_and, and_false, true_or, or_true, false_or, or_false, not_true_eq_false, not_false_eq_true, ne_eq, and_self, or_self]; try rfl)
theorem dX7_piece_0 : decode cX7_piece 0 = .ok (.aload_n 0, 1) := by decide +kernel
theorem dX7_piece_1 : decode cX7_piece 1 = .ok (.getfield 12, 3) := by decide +kernel
theorem dX7_piece_4 : decode cX7_piece 4 = .ok (.getfield 70, 3) := by decide +kernel
theorem dX7_piece_7 : decode cX7_piece 7 = .ok (.astore_n 3, 1) := by decide +kernel
theorem dX7_piece_8 : decode cX7_piece 8 = .ok (.iload_n 1, 1) := by decide +kernel
theorem dX7_piece_9 : decode cX7_piece 9 = .ok (.ifCond .lt 11, 3) := by decide +kernel
theorem dX7_piece_12 : decode cX7_piece 12 = .ok (.iload_n 1, 1) := by decide +kernel
theorem dX7_piece_13 : decode cX7_piece 13 = .ok (.aload_n 3, 1) := by decide +kernel
theorem dX7_piece_14 : decode cX7_piece 14 = .ok (.getfield 74, 3) := by decide +kernel
theorem dX7_piece_17 : decode cX7_piece 17 = .ok (.if_icmp .lt 5, 3) := by decide +kernel
theorem dX7_piece_20 : decode cX7_piece 20 = .ok (.iconst (-1), 1) := by decide +kernel
theorem dX7_piece_21 : decode cX7_piece 21 = .ok (.ireturn, 1) := by decide +kernel
theorem dX7_piece_22 : decode cX7_piece 22 = .ok (.iload_n 2, 1) := by decide +kernel
theorem dX7_piece_23 : decode cX7_piece 23 = .ok (.tableswitch 57 0 3 #[29, 36, 43, 50], 29) := by decide +kernel
theorem dX7_piece_52 : decode cX7_piece 52 = .ok (.aload_n 3, 1) := by decide +kernel
theorem dX7_piece_53 : decode cX7_piece 53 = .ok (.getfield 79, 3) := by decide +kernel
theorem dX7_piece_56 : decode cX7_piece 56 = .ok (.iload_n 1, 1) := by decide +kernel
theorem dX7_piece_57 : decode cX7_piece 57 = .ok (.iaload, 1) := by decide +kernel
theorem dX7_piece_58 : decode cX7_piece 58 = .ok (.ireturn, 1) := by decide +kernel
theorem dX7_piece_59 : decode cX7_piece 59 = .ok (.aload_n 3, 1) := by decide +kernel
theorem dX7_piece_60 : decode cX7_piece 60 = .ok (.getfield 83, 3) := by decide +kernel
theorem dX7_piece_63 : decode cX7_piece 63 = .ok (.iload_n 1, 1) := by decide +kernel
theorem dX7_piece_64 : decode cX7_piece 64 = .ok (.iaload, 1) := by decide +kernel
theorem dX7_piece_65 : decode cX7_piece 65 = .ok (.ireturn, 1) := by decide +kernel
theorem dX7_piece_66 : decode cX7_piece 66 = .ok (.aload_n 3, 1) := by decide +kernel
theorem dX7_piece_67 : decode cX7_piece 67 = .ok (.getfield 86, 3) := by decide +kernel
theorem dX7_piece_70 : decode cX7_piece 70 = .ok (.iload_n 1, 1) := by decide +kernel
theorem dX7_piece_71 : decode cX7_piece 71 = .ok (.iaload, 1) := by decide +kernel
theorem dX7_piece_72 : decode cX7_piece 72 = .ok (.ireturn, 1) := by decide +kernel
theorem dX7_piece_73 : decode cX7_piece 73 = .ok (.aload_n 3, 1) := by decide +kernel
theorem dX7_piece_74 : decode cX7_piece 74 = .ok (.getfield 89, 3) := by decide +kernel
theorem dX7_piece_77 : decode cX7_piece 77 = .ok (.iload_n 1, 1) := by decide +kernel
theorem dX7_piece_78 : decode cX7_piece 78 = .ok (.iaload, 1) := by decide +kernel
theorem dX7_piece_79 : decode cX7_piece 79 = .ok (.ireturn, 1) := by decide +kernel
theorem dX7_piece_80 : decode cX7_piece 80 = .ok (.iconst (-1), 1) := by decide +kernel
theorem dX7_piece_81 : decode cX7_piece 81 = .ok (.ireturn, 1) := by decide +kernel
set_option maxHeartbeats 4000000 in
set_option maxRecDepth 100000 in
theorem c_X7_piece_f (l : Launch) (D : va_G) (cA : Nat → ClassId) (ad : Nat → Nat) (o : Int64) (σ : Mem) (a : Int32) (b : Int32) (hF : Fr σ) (sz : Nat) : Met l yX7_piece (WY yX7_piece cX7_piece 4 (some .int)) (RM 0) (va_Pc [.ref (ad 66), .int a, .int b] (PW D cA ad o σ sz)) (va_Qi (fun r _ => r = -1) (QW D cA ad o) (FA ad sz)) 0 0 (FA ad sz) := by
  refine ct_of (own := RX7) (k := 0) (Qf := va_Qi (fun r _ => r = -1) (QW D cA ad o)) rfl (by decide) (Nat.le_of_ble_eq_true rfl) (fun p e s m below meth c ls C0 X hr hlk hP hl => ?_) sz
  have hS : va_S (FA ad s.heap.size) s.heap s.heap [] := va_S.rf
  have hl : lv_has ls 4 [(0, .ref (ad 66)), (1, .int a), (2, .int b)] := hl
  obtain ⟨hx, hb, hml, hown, hts⟩ := id C0
  refine lv_aload_n hx hb dX7_piece_0 rfl (lv_at hl 0 rfl) ?_
  refine gf_X7_12 C0 X hP 66 (q := 0) ⟨by decide, rfl⟩ (by omega) rfl dX7_piece_1 ?_
  refine gf_X7_70 C0 X hP 0 (q := 1) ⟨by decide, rfl⟩ (by omega) rfl dX7_piece_4 ?_
  refine lv_astore_n (lv' := [(3, .ref (ad 1)), (0, .ref (ad 66)), (1, .int a), (2, .int b)]) hx hb dX7_piece_7 rfl hl (by decide) rfl (fun ls hl => ?_)
  refine lv_iload_n hx hb dX7_piece_8 rfl (lv_at hl 2 rfl) ?_
  refine lv_if_lt (tgt := 20) hx hb dX7_piece_9 (by decide) (fun c_1 => ?_) (fun c_1 => ?_)
  · refine lv_iconst (v := (-1)) hx hb dX7_piece_20 (by decide) ?_
    exact r_iret C0 X hP hS hr hlk dX7_piece_21 rfl
  · refine lv_iload_n hx hb dX7_piece_12 rfl (lv_at hl 2 rfl) ?_
    refine lv_aload_n hx hb dX7_piece_13 rfl (lv_at hl 0 rfl) ?_
    refine gf_X7_74 C0 X hP 1 ⟨by decide, rfl⟩ dX7_piece_14 ?_
    refine lv_topE (y := 0) (Fr_pieces hF) ?_
    refine lv_icmp_lt (tgt := 22) hx hb dX7_piece_17 (by decide) (fun c_2 => absurd c_2 c_1) (fun c_2 => ?_)
    refine lv_iconst (v := (-1)) hx hb dX7_piece_20 (by decide) ?_
    exact r_iret C0 X hP hS hr hlk dX7_piece_21 rfl
theorem dX7_room_0 : decode cX7_room 0 = .ok (.aload_n 0, 1) := by decide +kernel
theorem dX7_room_1 : decode cX7_room 1 = .ok (.getfield 12, 3) := by decide +kernel
theorem dX7_room_4 : decode cX7_room 4 = .ok (.getfield 70, 3) := by decide +kernel
theorem dX7_room_7 : decode cX7_room 7 = .ok (.astore_n 2, 1) := by decide +kernel
theorem dX7_room_8 : decode cX7_room 8 = .ok (.aload_n 2, 1) := by decide +kernel
theorem dX7_room_9 : decode cX7_room 9 = .ok (.getfield 74, 3) := by decide +kernel
theorem dX7_room_12 : decode cX7_room 12 = .ok (.ifCond .eq 15, 3) := by decide +kernel
theorem dX7_room_15 : decode cX7_room 15 = .ok (.iload_n 1, 1) := by decide +kernel
theorem dX7_room_16 : decode cX7_room 16 = .ok (.ifCond .lt 11, 3) := by decide +kernel
theorem dX7_room_19 : decode cX7_room 19 = .ok (.iload_n 1, 1) := by decide +kernel
theorem dX7_room_20 : decode cX7_room 20 = .ok (.aload_n 2, 1) := by decide +kernel
theorem dX7_room_21 : decode cX7_room 21 = .ok (.getfield 74, 3) := by decide +kernel
theorem dX7_room_24 : decode cX7_room 24 = .ok (.if_icmp .le 5, 3) := by decide +kernel
theorem dX7_room_27 : decode cX7_room 27 = .ok (.iconst (-1), 1) := by decide +kernel
theorem dX7_room_28 : decode cX7_room 28 = .ok (.ireturn, 1) := by decide +kernel
theorem dX7_room_29 : decode cX7_room 29 = .ok (.aload_n 2, 1) := by decide +kernel
theorem dX7_room_30 : decode cX7_room 30 = .ok (.iload_n 1, 1) := by decide +kernel
theorem dX7_room_31 : decode cX7_room 31 = .ok (.invokevirtual 92, 3) := by decide +kernel
theorem dX7_room_34 : decode cX7_room 34 = .ok (.ifCond .eq 12, 3) := by decide +kernel
theorem dX7_room_37 : decode cX7_room 37 = .ok (.aload_n 2, 1) := by decide +kernel
theorem dX7_room_38 : decode cX7_room 38 = .ok (.getfield 96, 3) := by decide +kernel
theorem dX7_room_41 : decode cX7_room 41 = .ok (.iload_n 1, 1) := by decide +kernel
theorem dX7_room_42 : decode cX7_room 42 = .ok (.iaload, 1) := by decide +kernel
theorem dX7_room_43 : decode cX7_room 43 = .ok (.goto 5, 3) := by decide +kernel
theorem dX7_room_46 : decode cX7_room 46 = .ok (.bipush (-4), 2) := by decide +kernel
theorem dX7_room_48 : decode cX7_room 48 = .ok (.ireturn, 1) := by decide +kernel
set_option maxHeartbeats 4000000 in
set_option maxRecDepth 100000 in
theorem c_X7_room_f (l : Launch) (D : va_G) (cA : Nat → ClassId) (ad : Nat → Nat) (o : Int64) (σ : Mem) (a : Int32) (hF : Fr σ) (sz : Nat) : Met l yX7_room (WY yX7_room cX7_room 3 (some .int)) (RM 0) (va_Pc [.ref (ad 66), .int a] (PW D cA ad o σ sz)) (va_Qi (fun r _ => r = -1) (QW D cA ad o) (FA ad sz)) 0 0 (FA ad sz) := by
  refine ct_of (own := RX7) (k := 0) (Qf := va_Qi (fun r _ => r = -1) (QW D cA ad o)) rfl (by decide) (Nat.le_of_ble_eq_true rfl) (fun p e s m below meth c ls C0 X hr hlk hP hl => ?_) sz
  have hS : va_S (FA ad s.heap.size) s.heap s.heap [] := va_S.rf
  have hl : lv_has ls 3 [(0, .ref (ad 66)), (1, .int a)] := hl
  obtain ⟨hx, hb, hml, hown, hts⟩ := id C0
  refine lv_aload_n hx hb dX7_room_0 rfl (lv_at hl 0 rfl) ?_
  refine gf_X7_12 C0 X hP 66 (q := 0) ⟨by decide, rfl⟩ (by omega) rfl dX7_room_1 ?_
  refine gf_X7_70 C0 X hP 0 (q := 1) ⟨by decide, rfl⟩ (by omega) rfl dX7_room_4 ?_
  refine lv_astore_n (lv' := [(2, .ref (ad 1)), (0, .ref (ad 66)), (1, .int a)]) hx hb dX7_room_7 rfl hl (by decide) rfl (fun ls hl => ?_)
  refine lv_aload_n hx hb dX7_room_8 rfl (lv_at hl 0 rfl) ?_
  refine gf_X7_74 C0 X hP 1 ⟨by decide, rfl⟩ dX7_room_9 ?_
  refine lv_topE (y := 0) (Fr_pieces hF) ?_
  refine lv_if_eq (tgt := 27) hx hb dX7_room_12 (by decide) (fun c_1 => ?_) (fun c_1 => absurd c_1 (by decide))
  refine lv_iconst (v := (-1)) hx hb dX7_room_27 (by decide) ?_
  exact r_iret C0 X hP hS hr hlk dX7_room_28 rfl
theorem dX7_cart_0 : decode cX7_cart 0 = .ok (.aload_n 0, 1) := by decide +kernel
theorem dX7_cart_1 : decode cX7_cart 1 = .ok (.getfield 12, 3) := by decide +kernel
theorem dX7_cart_4 : decode cX7_cart 4 = .ok (.iload_n 1, 1) := by decide +kernel
theorem dX7_cart_5 : decode cX7_cart 5 = .ok (.invokevirtual 99, 3) := by decide +kernel
theorem dX7_cart_8 : decode cX7_cart 8 = .ok (.astore_n 3, 1) := by decide +kernel
theorem dX7_cart_9 : decode cX7_cart 9 = .ok (.aload_n 3, 1) := by decide +kernel
theorem dX7_cart_10 : decode cX7_cart 10 = .ok (.ifnonnull 5, 3) := by decide +kernel
theorem dX7_cart_13 : decode cX7_cart 13 = .ok (.iconst (-1), 1) := by decide +kernel
theorem dX7_cart_14 : decode cX7_cart 14 = .ok (.ireturn, 1) := by decide +kernel
theorem dX7_cart_15 : decode cX7_cart 15 = .ok (.iload_n 2, 1) := by decide +kernel
theorem dX7_cart_16 : decode cX7_cart 16 = .ok (.tableswitch 77 0 4 #[36, 49, 54, 67, 72], 36) := by decide +kernel
theorem dX7_cart_52 : decode cX7_cart 52 = .ok (.aload_n 3, 1) := by decide +kernel
theorem dX7_cart_53 : decode cX7_cart 53 = .ok (.getfield 103, 3) := by decide +kernel
theorem dX7_cart_56 : decode cX7_cart 56 = .ok (.ifCond .eq 7, 3) := by decide +kernel
theorem dX7_cart_59 : decode cX7_cart 59 = .ok (.iconst 1, 1) := by decide +kernel
theorem dX7_cart_60 : decode cX7_cart 60 = .ok (.goto 4, 3) := by decide +kernel
theorem dX7_cart_63 : decode cX7_cart 63 = .ok (.iconst 0, 1) := by decide +kernel
theorem dX7_cart_64 : decode cX7_cart 64 = .ok (.ireturn, 1) := by decide +kernel
theorem dX7_cart_65 : decode cX7_cart 65 = .ok (.aload_n 3, 1) := by decide +kernel
theorem dX7_cart_66 : decode cX7_cart 66 = .ok (.getfield 109, 3) := by decide +kernel
theorem dX7_cart_69 : decode cX7_cart 69 = .ok (.ireturn, 1) := by decide +kernel
theorem dX7_cart_70 : decode cX7_cart 70 = .ok (.aload_n 3, 1) := by decide +kernel
theorem dX7_cart_71 : decode cX7_cart 71 = .ok (.getfield 112, 3) := by decide +kernel
theorem dX7_cart_74 : decode cX7_cart 74 = .ok (.ifCond .eq 7, 3) := by decide +kernel
theorem dX7_cart_77 : decode cX7_cart 77 = .ok (.iconst 1, 1) := by decide +kernel
theorem dX7_cart_78 : decode cX7_cart 78 = .ok (.goto 4, 3) := by decide +kernel
theorem dX7_cart_81 : decode cX7_cart 81 = .ok (.iconst 0, 1) := by decide +kernel
theorem dX7_cart_82 : decode cX7_cart 82 = .ok (.ireturn, 1) := by decide +kernel
theorem dX7_cart_83 : decode cX7_cart 83 = .ok (.aload_n 3, 1) := by decide +kernel
theorem dX7_cart_84 : decode cX7_cart 84 = .ok (.getfield 115, 3) := by decide +kernel
theorem dX7_cart_87 : decode cX7_cart 87 = .ok (.ireturn, 1) := by decide +kernel
theorem dX7_cart_88 : decode cX7_cart 88 = .ok (.aload_n 3, 1) := by decide +kernel
theorem dX7_cart_89 : decode cX7_cart 89 = .ok (.getfield 118, 3) := by decide +kernel
theorem dX7_cart_92 : decode cX7_cart 92 = .ok (.ireturn, 1) := by decide +kernel
theorem dX7_cart_93 : decode cX7_cart 93 = .ok (.iconst (-1), 1) := by decide +kernel
theorem dX7_cart_94 : decode cX7_cart 94 = .ok (.ireturn, 1) := by decide +kernel
set_option maxHeartbeats 4000000 in
set_option maxRecDepth 100000 in
theorem c_X7_cart_f (l : Launch) (D : va_G) (cA : Nat → ClassId) (ad : Nat → Nat) (o : Int64) (σ : Mem) (a : Int32) (b : Int32) (hF : Fr σ) (sz : Nat) : Met l yX7_cart (WY yX7_cart cX7_cart 4 (some .int)) (RM 1) (va_Pc [.ref (ad 66), .int a, .int b] (PW D cA ad o σ sz)) (va_Qi (fun r _ => r = -1) (QW D cA ad o) (FA ad sz)) 0 0 (FA ad sz) := by
  refine ct_of (own := RX7) (k := 1) (Qf := va_Qi (fun r _ => r = -1) (QW D cA ad o)) rfl (by decide) (Nat.le_of_ble_eq_true rfl) (fun p e s m below meth c ls C0 X hr hlk hP hl => ?_) sz
  have hS : va_S (FA ad s.heap.size) s.heap s.heap [] := va_S.rf
  have hl : lv_has ls 4 [(0, .ref (ad 66)), (1, .int a), (2, .int b)] := hl
  obtain ⟨hx, hb, hml, hown, hts⟩ := id C0
  refine lv_aload_n hx hb dX7_cart_0 rfl (lv_at hl 0 rfl) ?_
  refine gf_X7_12 C0 X hP 66 (q := 0) ⟨by decide, rfl⟩ (by omega) rfl dX7_cart_1 ?_
  refine lv_iload_n hx hb dX7_cart_4 rfl (lv_at hl 1 rfl) ?_
  refine r_cq X hS (r_runV (As := [.int a]) (rest := []) C0 X hP L_X7_99 (fun sz => c_X6_cartAt l D cA ad o σ 0 a (by decide) sz) (show 0 < 106 ∧ kd 0 = (6, 11) from ⟨by decide, rfl⟩).1 (show 0 < 106 ∧ kd 0 = (6, 11) from ⟨by decide, rfl⟩).2 (by decide) rfl ⟨Nat.le_of_ble_eq_true rfl, Nat.le_of_ble_eq_true rfl⟩ rfl hl.1 rfl (by decide) dX7_cart_5 ⟨Nat.zero_le _, Nat.zero_le _⟩) (fun σ9 H locs hw hP hS => ?_) (fun x9 σ9 H locs hw hP hS => ?_)
  · rw [hw.1] at hP
    have h_1 := hw.2
    refine lv_astore_nN (lv' := [(3, .null), (0, .ref (ad 66)), (1, .int a), (2, .int b)]) hx hb dX7_cart_8 rfl hl (by decide) rfl (fun ls hl => ?_)
    refine lv_aload_nN hx hb dX7_cart_9 rfl (lv_at hl 0 rfl) ?_
    refine lv_ifnonnullN hx hb dX7_cart_10 ?_
    refine lv_iconst (v := (-1)) hx hb dX7_cart_13 (by decide) ?_
    exact r_iret C0 X hP hS hr hlk dX7_cart_14 rfl
  · rw [hw.1] at hP
    obtain ⟨-, j_2, hj_2, ej_2, lj_2, rfl⟩ := hw
    exact absurd lj_2 (by rw [show σ (22 * 0) 2 = 0 from Fr_count hF, ej_2]; exact nI_pos (by omega))
theorem dX7_backs_0 : decode cX7_backs 0 = .ok (.aload_n 0, 1) := by decide +kernel
theorem dX7_backs_1 : decode cX7_backs 1 = .ok (.getfield 12, 3) := by decide +kernel
theorem dX7_backs_4 : decode cX7_backs 4 = .ok (.iload_n 1, 1) := by decide +kernel
theorem dX7_backs_5 : decode cX7_backs 5 = .ok (.invokevirtual 99, 3) := by decide +kernel
theorem dX7_backs_8 : decode cX7_backs 8 = .ok (.astore_n 3, 1) := by decide +kernel
theorem dX7_backs_9 : decode cX7_backs 9 = .ok (.aload_n 3, 1) := by decide +kernel
theorem dX7_backs_10 : decode cX7_backs 10 = .ok (.ifnull 12, 3) := by decide +kernel
theorem dX7_backs_13 : decode cX7_backs 13 = .ok (.iload_n 2, 1) := by decide +kernel
theorem dX7_backs_14 : decode cX7_backs 14 = .ok (.ifCond .lt 8, 3) := by decide +kernel
theorem dX7_backs_17 : decode cX7_backs 17 = .ok (.iload_n 2, 1) := by decide +kernel
theorem dX7_backs_18 : decode cX7_backs 18 = .ok (.iconst 3, 1) := by decide +kernel
theorem dX7_backs_19 : decode cX7_backs 19 = .ok (.if_icmp .le 5, 3) := by decide +kernel
theorem dX7_backs_22 : decode cX7_backs 22 = .ok (.iconst (-1), 1) := by decide +kernel
theorem dX7_backs_23 : decode cX7_backs 23 = .ok (.ireturn, 1) := by decide +kernel
theorem dX7_backs_24 : decode cX7_backs 24 = .ok (.aload_n 3, 1) := by decide +kernel
theorem dX7_backs_25 : decode cX7_backs 25 = .ok (.getfield 115, 3) := by decide +kernel
theorem dX7_backs_28 : decode cX7_backs 28 = .ok (.istore 4, 2) := by decide +kernel
theorem dX7_backs_30 : decode cX7_backs 30 = .ok (.aload_n 3, 1) := by decide +kernel
theorem dX7_backs_31 : decode cX7_backs 31 = .ok (.iload_n 2, 1) := by decide +kernel
theorem dX7_backs_32 : decode cX7_backs 32 = .ok (.putfield 115, 3) := by decide +kernel
theorem dX7_backs_35 : decode cX7_backs 35 = .ok (.iload 4, 2) := by decide +kernel
theorem dX7_backs_37 : decode cX7_backs 37 = .ok (.ireturn, 1) := by decide +kernel
set_option maxHeartbeats 4000000 in
set_option maxRecDepth 100000 in
theorem c_X7_backs_f (l : Launch) (D : va_G) (cA : Nat → ClassId) (ad : Nat → Nat) (o : Int64) (σ : Mem) (a : Int32) (b : Int32) (hF : Fr σ) (sz : Nat) : Met l yX7_backs (WY yX7_backs cX7_backs 5 (some .int)) (RM 1) (va_Pc [.ref (ad 66), .int a, .int b] (PW D cA ad o σ sz)) (va_Qi (fun r _ => r = -1) (QW D cA ad o) (FA ad sz)) 0 0 (FA ad sz) := by
  refine ct_of (own := RX7) (k := 1) (Qf := va_Qi (fun r _ => r = -1) (QW D cA ad o)) rfl (by decide) (Nat.le_of_ble_eq_true rfl) (fun p e s m below meth c ls C0 X hr hlk hP hl => ?_) sz
  have hS : va_S (FA ad s.heap.size) s.heap s.heap [] := va_S.rf
  have hl : lv_has ls 5 [(0, .ref (ad 66)), (1, .int a), (2, .int b)] := hl
  obtain ⟨hx, hb, hml, hown, hts⟩ := id C0
  refine lv_aload_n hx hb dX7_backs_0 rfl (lv_at hl 0 rfl) ?_
  refine gf_X7_12 C0 X hP 66 (q := 0) ⟨by decide, rfl⟩ (by omega) rfl dX7_backs_1 ?_
  refine lv_iload_n hx hb dX7_backs_4 rfl (lv_at hl 1 rfl) ?_
  refine r_cq X hS (r_runV (As := [.int a]) (rest := []) C0 X hP L_X7_99 (fun sz => c_X6_cartAt l D cA ad o σ 0 a (by decide) sz) (show 0 < 106 ∧ kd 0 = (6, 11) from ⟨by decide, rfl⟩).1 (show 0 < 106 ∧ kd 0 = (6, 11) from ⟨by decide, rfl⟩).2 (by decide) rfl ⟨Nat.le_of_ble_eq_true rfl, Nat.le_of_ble_eq_true rfl⟩ rfl hl.1 rfl (by decide) dX7_backs_5 ⟨Nat.zero_le _, Nat.zero_le _⟩) (fun σ9 H locs hw hP hS => ?_) (fun x9 σ9 H locs hw hP hS => ?_)
  · rw [hw.1] at hP
    have h_1 := hw.2
    refine lv_astore_nN (lv' := [(3, .null), (0, .ref (ad 66)), (1, .int a), (2, .int b)]) hx hb dX7_backs_8 rfl hl (by decide) rfl (fun ls hl => ?_)
    refine lv_aload_nN hx hb dX7_backs_9 rfl (lv_at hl 0 rfl) ?_
    refine lv_ifnullN (tgt := 22) hx hb dX7_backs_10 (by decide) ?_
    refine lv_iconst (v := (-1)) hx hb dX7_backs_22 (by decide) ?_
    exact r_iret C0 X hP hS hr hlk dX7_backs_23 rfl
  · rw [hw.1] at hP
    obtain ⟨-, j_2, hj_2, ej_2, lj_2, rfl⟩ := hw
    exact absurd lj_2 (by rw [show σ (22 * 0) 2 = 0 from Fr_count hF, ej_2]; exact nI_pos (by omega))
theorem dX7_village_0 : decode cX7_village 0 = .ok (.iload_n 1, 1) := by decide +kernel
theorem dX7_village_1 : decode cX7_village 1 = .ok (.ifCond .lt 8, 3) := by decide +kernel
theorem dX7_village_4 : decode cX7_village 4 = .ok (.iload_n 1, 1) := by decide +kernel
theorem dX7_village_5 : decode cX7_village 5 = .ok (.iconst 3, 1) := by decide +kernel
theorem dX7_village_6 : decode cX7_village 6 = .ok (.if_icmp .lt 5, 3) := by decide +kernel
theorem dX7_village_9 : decode cX7_village 9 = .ok (.iconst (-1), 1) := by decide +kernel
theorem dX7_village_10 : decode cX7_village 10 = .ok (.ireturn, 1) := by decide +kernel
theorem dX7_village_11 : decode cX7_village 11 = .ok (.iload_n 2, 1) := by decide +kernel
theorem dX7_village_12 : decode cX7_village 12 = .ok (.ifCond .ne 16, 3) := by decide +kernel
theorem dX7_village_15 : decode cX7_village 15 = .ok (.aload_n 0, 1) := by decide +kernel
theorem dX7_village_16 : decode cX7_village 16 = .ok (.getfield 12, 3) := by decide +kernel
theorem dX7_village_19 : decode cX7_village 19 = .ok (.getfield 70, 3) := by decide +kernel
theorem dX7_village_22 : decode cX7_village 22 = .ok (.getfield 121, 3) := by decide +kernel
theorem dX7_village_25 : decode cX7_village 25 = .ok (.iload_n 1, 1) := by decide +kernel
theorem dX7_village_26 : decode cX7_village 26 = .ok (.iaload, 1) := by decide +kernel
theorem dX7_village_27 : decode cX7_village 27 = .ok (.ireturn, 1) := by decide +kernel
theorem dX7_village_28 : decode cX7_village 28 = .ok (.iload_n 2, 1) := by decide +kernel
theorem dX7_village_29 : decode cX7_village 29 = .ok (.iconst 1, 1) := by decide +kernel
theorem dX7_village_30 : decode cX7_village 30 = .ok (.if_icmp .ne 16, 3) := by decide +kernel
theorem dX7_village_33 : decode cX7_village 33 = .ok (.aload_n 0, 1) := by decide +kernel
theorem dX7_village_34 : decode cX7_village 34 = .ok (.getfield 12, 3) := by decide +kernel
theorem dX7_village_37 : decode cX7_village 37 = .ok (.getfield 70, 3) := by decide +kernel
theorem dX7_village_40 : decode cX7_village 40 = .ok (.getfield 124, 3) := by decide +kernel
theorem dX7_village_43 : decode cX7_village 43 = .ok (.iload_n 1, 1) := by decide +kernel
theorem dX7_village_44 : decode cX7_village 44 = .ok (.iaload, 1) := by decide +kernel
theorem dX7_village_45 : decode cX7_village 45 = .ok (.ireturn, 1) := by decide +kernel
theorem dX7_village_46 : decode cX7_village 46 = .ok (.iconst (-1), 1) := by decide +kernel
theorem dX7_village_47 : decode cX7_village 47 = .ok (.ireturn, 1) := by decide +kernel
set_option maxHeartbeats 4000000 in
set_option maxRecDepth 100000 in
theorem c_X7_village_f (l : Launch) (D : va_G) (cA : Nat → ClassId) (ad : Nat → Nat) (o : Int64) (σ : Mem) (v : Int32) (w : Int32) (hF : Fr σ) (sz : Nat) : Met l yX7_village (WY yX7_village cX7_village 3 (some .int)) (RM 0) (va_Pc [.ref (ad 66), .int v, .int w] (PW D cA ad o σ sz)) (va_Qi (fun r _ => r = (if v < 0 ∨ 3 ≤ v then -1 else if w = 0 ∨ w = 1 then 0 else -1)) (QW D cA ad o) (FA ad sz)) 0 0 (FA ad sz) := by
  refine ct_of (own := RX7) (k := 0) (Qf := va_Qi (fun r _ => r = (if v < 0 ∨ 3 ≤ v then -1 else if w = 0 ∨ w = 1 then 0 else -1)) (QW D cA ad o)) rfl (by decide) (Nat.le_of_ble_eq_true rfl) (fun p e s m below meth c ls C0 X hr hlk hP hl => ?_) sz
  have hS : va_S (FA ad s.heap.size) s.heap s.heap [] := va_S.rf
  have hl : lv_has ls 3 [(0, .ref (ad 66)), (1, .int v), (2, .int w)] := hl
  obtain ⟨hx, hb, hml, hown, hts⟩ := id C0
  refine lv_iload_n hx hb dX7_village_0 rfl (lv_at hl 1 rfl) ?_
  refine lv_if_lt (tgt := 9) hx hb dX7_village_1 (by decide) (fun c_1 => ?_) (fun c_1 => ?_)
  · refine lv_iconst (v := (-1)) hx hb dX7_village_9 (by decide) ?_
    exact r_iret C0 X hP hS hr hlk dX7_village_10 (by simp only [c_1, Int32.not_le.mpr c_1, if_true, if_false, ite_true, ite_false, true_and, and_true, false_and, and_false, true_or, or_true, false_or, or_false, not_true_eq_false, not_false_eq_true, ne_eq, and_self, or_self]; try rfl)
  · refine lv_iload_n hx hb dX7_village_4 rfl (lv_at hl 1 rfl) ?_
    refine lv_iconst (v := 3) hx hb dX7_village_5 (by decide) ?_
    refine lv_icmp_lt (tgt := 11) hx hb dX7_village_6 (by decide) (fun c_2 => ?_) (fun c_2 => ?_)
    · obtain ⟨v1, hv1, ev1⟩ : ∃ j : Nat, j < 3 ∧ v = nI j := ixN (M := 3) (by decide) c_1 c_2
      refine lv_iload_n hx hb dX7_village_11 rfl (lv_at hl 2 rfl) ?_
      refine lv_if_ne (tgt := 28) hx hb dX7_village_12 (by decide) (fun c_3 => ?_) (fun c_3 => ?_)
      · refine lv_iload_n hx hb dX7_village_28 rfl (lv_at hl 2 rfl) ?_
        refine lv_iconst (v := 1) hx hb dX7_village_29 (by decide) ?_
        refine lv_icmp_ne (tgt := 46) hx hb dX7_village_30 (by decide) (fun c_4 => ?_) (fun c_4 => ?_)
        · refine lv_iconst (v := (-1)) hx hb dX7_village_46 (by decide) ?_
          exact r_iret C0 X hP hS hr hlk dX7_village_47 (by simp only [c_1, c_2, c_3, c_4, Int32.not_lt.mp c_1, Int32.not_le.mpr c_2, if_true, if_false, ite_true, ite_false, true_and, and_true, false_and, and_false, true_or, or_true, false_or, or_false, not_true_eq_false, not_false_eq_true, ne_eq, and_self, or_self]; try rfl)
        · refine lv_aload_n hx hb dX7_village_33 rfl (lv_at hl 0 rfl) ?_
          refine gf_X7_12 C0 X hP 66 (q := 0) ⟨by decide, rfl⟩ (by omega) rfl dX7_village_34 ?_
          refine gf_X7_70 C0 X hP 0 (q := 1) ⟨by decide, rfl⟩ (by omega) rfl dX7_village_37 ?_
          refine gf_X7_124 C0 X hP 1 (q := 12) ⟨by decide, rfl⟩ (by omega) rfl dX7_village_40 ?_
          refine lv_iload_n hx hb dX7_village_43 rfl (lv_at hl 1 rfl) ?_
          refine r_ialdN C0 X hP 12 (k := v1) ⟨by decide, rfl⟩ ev1 hv1 dX7_village_44 ?_
          refine lv_topE (y := 0) (Fr_fig hF hv1) ?_
          exact r_iret C0 X hP hS hr hlk dX7_village_45 (by simp only [c_1, c_2, c_3, c_4, Int32.not_lt.mp c_1, Int32.not_le.mpr c_2, if_true, if_false, ite_true, ite_false, true_and, and_true, false_and, and_false, true_or, or_true, false_or, or_false, not_true_eq_false, not_false_eq_true, ne_eq, and_self, or_self]; try rfl)
      · refine lv_aload_n hx hb dX7_village_15 rfl (lv_at hl 0 rfl) ?_
        refine gf_X7_12 C0 X hP 66 (q := 0) ⟨by decide, rfl⟩ (by omega) rfl dX7_village_16 ?_
        refine gf_X7_70 C0 X hP 0 (q := 1) ⟨by decide, rfl⟩ (by omega) rfl dX7_village_19 ?_
        refine gf_X7_121 C0 X hP 1 (q := 11) ⟨by decide, rfl⟩ (by omega) rfl dX7_village_22 ?_
        refine lv_iload_n hx hb dX7_village_25 rfl (lv_at hl 1 rfl) ?_
        refine r_ialdN C0 X hP 11 (k := v1) ⟨by decide, rfl⟩ ev1 hv1 dX7_village_26 ?_
        refine lv_topE (y := 0) (Fr_kind hF hv1) ?_
        exact r_iret C0 X hP hS hr hlk dX7_village_27 (by simp only [c_1, c_2, c_3, Int32.not_lt.mp c_1, Int32.not_le.mpr c_2, if_true, if_false, ite_true, ite_false, true_and, and_true, false_and, and_false, true_or, or_true, false_or, or_false, not_true_eq_false, not_false_eq_true, ne_eq, and_self, or_self]; try rfl)
    · refine lv_iconst (v := (-1)) hx hb dX7_village_9 (by decide) ?_
      exact r_iret C0 X hP hS hr hlk dX7_village_10 (by simp only [c_1, c_2, Int32.not_lt.mp c_1, Int32.not_lt.mp c_2, if_true, if_false, ite_true, ite_false, true_and, and_true, false_and, and_false, true_or, or_true, false_or, or_false, not_true_eq_false, not_false_eq_true, ne_eq, and_self, or_self]; try rfl)
theorem dX7_rule_0 : decode cX7_rule 0 = .ok (.aload_n 0, 1) := by decide +kernel
theorem dX7_rule_1 : decode cX7_rule 1 = .ok (.iload_n 1, 1) := by decide +kernel
theorem dX7_rule_2 : decode cX7_rule 2 = .ok (.invokevirtual 50, 3) := by decide +kernel
theorem dX7_rule_5 : decode cX7_rule 5 = .ok (.astore_n 3, 1) := by decide +kernel
theorem dX7_rule_6 : decode cX7_rule 6 = .ok (.aload_n 3, 1) := by decide +kernel
theorem dX7_rule_7 : decode cX7_rule 7 = .ok (.ifnull 12, 3) := by decide +kernel
theorem dX7_rule_10 : decode cX7_rule 10 = .ok (.iload_n 2, 1) := by decide +kernel
theorem dX7_rule_11 : decode cX7_rule 11 = .ok (.ifCond .lt 8, 3) := by decide +kernel
theorem dX7_rule_14 : decode cX7_rule 14 = .ok (.iload_n 2, 1) := by decide +kernel
theorem dX7_rule_15 : decode cX7_rule 15 = .ok (.iconst 3, 1) := by decide +kernel
theorem dX7_rule_16 : decode cX7_rule 16 = .ok (.if_icmp .lt 5, 3) := by decide +kernel
theorem dX7_rule_19 : decode cX7_rule 19 = .ok (.iconst (-1), 1) := by decide +kernel
theorem dX7_rule_20 : decode cX7_rule 20 = .ok (.ireturn, 1) := by decide +kernel
theorem dX7_rule_21 : decode cX7_rule 21 = .ok (.aload_n 3, 1) := by decide +kernel
theorem dX7_rule_22 : decode cX7_rule 22 = .ok (.getfield 54, 3) := by decide +kernel
theorem dX7_rule_25 : decode cX7_rule 25 = .ok (.ifCond .ne 6, 3) := by decide +kernel
theorem dX7_rule_28 : decode cX7_rule 28 = .ok (.bipush (-11), 2) := by decide +kernel
theorem dX7_rule_30 : decode cX7_rule 30 = .ok (.ireturn, 1) := by decide +kernel
theorem dX7_rule_31 : decode cX7_rule 31 = .ok (.aload_n 3, 1) := by decide +kernel
theorem dX7_rule_32 : decode cX7_rule 32 = .ok (.getfield 54, 3) := by decide +kernel
theorem dX7_rule_35 : decode cX7_rule 35 = .ok (.iconst 1, 1) := by decide +kernel
theorem dX7_rule_36 : decode cX7_rule 36 = .ok (.if_icmp .eq 6, 3) := by decide +kernel
theorem dX7_rule_39 : decode cX7_rule 39 = .ok (.bipush (-12), 2) := by decide +kernel
theorem dX7_rule_41 : decode cX7_rule 41 = .ok (.ireturn, 1) := by decide +kernel
theorem dX7_rule_42 : decode cX7_rule 42 = .ok (.aload_n 0, 1) := by decide +kernel
theorem dX7_rule_43 : decode cX7_rule 43 = .ok (.getfield 12, 3) := by decide +kernel
theorem dX7_rule_46 : decode cX7_rule 46 = .ok (.getfield 70, 3) := by decide +kernel
theorem dX7_rule_49 : decode cX7_rule 49 = .ok (.iload_n 2, 1) := by decide +kernel
theorem dX7_rule_50 : decode cX7_rule 50 = .ok (.aload_n 3, 1) := by decide +kernel
theorem dX7_rule_51 : decode cX7_rule 51 = .ok (.getfield 127, 3) := by decide +kernel
theorem dX7_rule_54 : decode cX7_rule 54 = .ok (.aload_n 3, 1) := by decide +kernel
theorem dX7_rule_55 : decode cX7_rule 55 = .ok (.getfield 129, 3) := by decide +kernel
theorem dX7_rule_58 : decode cX7_rule 58 = .ok (.invokevirtual 131, 3) := by decide +kernel
theorem dX7_rule_61 : decode cX7_rule 61 = .ok (.pop, 1) := by decide +kernel
theorem dX7_rule_62 : decode cX7_rule 62 = .ok (.aload_n 3, 1) := by decide +kernel
theorem dX7_rule_63 : decode cX7_rule 63 = .ok (.getfield 127, 3) := by decide +kernel
theorem dX7_rule_66 : decode cX7_rule 66 = .ok (.ireturn, 1) := by decide +kernel
set_option maxHeartbeats 4000000 in
set_option maxRecDepth 100000 in
theorem c_X7_rule_f (l : Launch) (D : va_G) (cA : Nat → ClassId) (ad : Nat → Nat) (o : Int64) (σ : Mem) (d : Int32) (v : Int32) (hF : Fr σ) (sz : Nat) : Met l yX7_rule (WY yX7_rule cX7_rule 4 (some .int)) (RM 1) (va_Pc [.ref (ad 66), .int d, .int v] (PW D cA ad o σ sz)) (va_Qi (fun r _ => r = (if (d < 0 ∨ 8 ≤ d) ∨ v < 0 ∨ 3 ≤ v then -1 else -11)) (QW D cA ad o) (FA ad sz)) 0 0 (FA ad sz) := by
  refine ct_of (own := RX7) (k := 1) (Qf := va_Qi (fun r _ => r = (if (d < 0 ∨ 8 ≤ d) ∨ v < 0 ∨ 3 ≤ v then -1 else -11)) (QW D cA ad o)) rfl (by decide) (Nat.le_of_ble_eq_true rfl) (fun p e s m below meth c ls C0 X hr hlk hP hl => ?_) sz
  have hS : va_S (FA ad s.heap.size) s.heap s.heap [] := va_S.rf
  have hl : lv_has ls 4 [(0, .ref (ad 66)), (1, .int d), (2, .int v)] := hl
  obtain ⟨hx, hb, hml, hown, hts⟩ := id C0
  refine lv_aload_n hx hb dX7_rule_0 rfl (lv_at hl 0 rfl) ?_
  refine lv_iload_n hx hb dX7_rule_1 rfl (lv_at hl 1 rfl) ?_
  refine r_cq X hS (r_runV (As := [.int d]) (rest := []) C0 X hP L_X7_50 (fun sz => c_X7_shelfAt l D cA ad o σ d  sz) (show 66 < 106 ∧ kd 66 = (7, 8) from ⟨by decide, rfl⟩).1 (show 66 < 106 ∧ kd 66 = (7, 8) from ⟨by decide, rfl⟩).2 (by decide) rfl ⟨Nat.le_of_ble_eq_true rfl, Nat.le_of_ble_eq_true rfl⟩ rfl hl.1 rfl (by decide) dX7_rule_2 ⟨Nat.zero_le _, Nat.zero_le _⟩) (fun σ9 H locs hw hP hS => ?_) (fun x9 σ9 H locs hw hP hS => ?_)
  · rw [hw.1] at hP
    have h_1 := hw.2
    refine lv_astore_nN (lv' := [(3, .null), (0, .ref (ad 66)), (1, .int d), (2, .int v)]) hx hb dX7_rule_5 rfl hl (by decide) rfl (fun ls hl => ?_)
    refine lv_aload_nN hx hb dX7_rule_6 rfl (lv_at hl 0 rfl) ?_
    refine lv_ifnullN (tgt := 19) hx hb dX7_rule_7 (by decide) ?_
    refine lv_iconst (v := (-1)) hx hb dX7_rule_19 (by decide) ?_
    exact r_iret C0 X hP hS hr hlk dX7_rule_20 (by simp only [h_1, if_true, if_false, ite_true, ite_false, true_and, and_true, false_and, and_false, true_or, or_true, false_or, or_false, not_true_eq_false, not_false_eq_true, ne_eq, and_self, or_self]; try rfl)
  · rw [hw.1] at hP
    obtain ⟨-, j_2, hj_2, ej_2, rfl⟩ := hw
    have h_1 : ¬ (d < 0 ∨ 8 ≤ d) := by rw [ej_2]; exact nosh hj_2
    refine lv_astore_n (lv' := [(3, .ref (ad (68 + j_2))), (0, .ref (ad 66)), (1, .int d), (2, .int v)]) hx hb dX7_rule_5 rfl hl (by decide) rfl (fun ls hl => ?_)
    refine lv_aload_n hx hb dX7_rule_6 rfl (lv_at hl 0 rfl) ?_
    refine lv_ifnull hx hb dX7_rule_7 ?_
    refine lv_iload_n hx hb dX7_rule_10 rfl (lv_at hl 3 rfl) ?_
    refine lv_if_lt (tgt := 19) hx hb dX7_rule_11 (by decide) (fun c_3 => ?_) (fun c_3 => ?_)
    · refine lv_iconst (v := (-1)) hx hb dX7_rule_19 (by decide) ?_
      exact r_iret C0 X hP hS hr hlk dX7_rule_20 (by simp only [h_1, c_3, Int32.not_le.mpr c_3, if_true, if_false, ite_true, ite_false, true_and, and_true, false_and, and_false, true_or, or_true, false_or, or_false, not_true_eq_false, not_false_eq_true, ne_eq, and_self, or_self]; try rfl)
    · refine lv_iload_n hx hb dX7_rule_14 rfl (lv_at hl 3 rfl) ?_
      refine lv_iconst (v := 3) hx hb dX7_rule_15 (by decide) ?_
      refine lv_icmp_lt (tgt := 21) hx hb dX7_rule_16 (by decide) (fun c_4 => ?_) (fun c_4 => ?_)
      · refine lv_aload_n hx hb dX7_rule_21 rfl (lv_at hl 0 rfl) ?_
        refine gf_X7_54 C0 X hP (68 + j_2) (kdS j_2 hj_2) dX7_rule_22 ?_
        refine lv_topE (y := 0) (Fr_holds hF hj_2) ?_
        refine lv_if_ne (tgt := 31) hx hb dX7_rule_25 (by decide) (fun c_5 => absurd c_5 (by decide)) (fun c_5 => ?_)
        refine lv_bipush (v := (-11)) hx hb dX7_rule_28 (by decide) ?_
        exact r_iret C0 X hP hS hr hlk dX7_rule_30 (by simp only [h_1, c_3, c_4, Int32.not_lt.mp c_3, Int32.not_le.mpr c_4, if_true, if_false, ite_true, ite_false, true_and, and_true, false_and, and_false, true_or, or_true, false_or, or_false, not_true_eq_false, not_false_eq_true, ne_eq, and_self, or_self]; try rfl)
      · refine lv_iconst (v := (-1)) hx hb dX7_rule_19 (by decide) ?_
        exact r_iret C0 X hP hS hr hlk dX7_rule_20 (by simp only [h_1, c_3, c_4, Int32.not_lt.mp c_3, Int32.not_lt.mp c_4, if_true, if_false, ite_true, ite_false, true_and, and_true, false_and, and_false, true_or, or_true, false_or, or_false, not_true_eq_false, not_false_eq_true, ne_eq, and_self, or_self]; try rfl)
theorem dX7_go_0 : decode cX7_go 0 = .ok (.iload_n 1, 1) := by decide +kernel
theorem dX7_go_1 : decode cX7_go 1 = .ok (.iconst 1, 1) := by decide +kernel
theorem dX7_go_2 : decode cX7_go 2 = .ok (.if_icmp .lt 10, 3) := by decide +kernel
theorem dX7_go_5 : decode cX7_go 5 = .ok (.iload_n 1, 1) := by decide +kernel
theorem dX7_go_6 : decode cX7_go 6 = .ok (.sipush 200, 3) := by decide +kernel
theorem dX7_go_9 : decode cX7_go 9 = .ok (.if_icmp .le 5, 3) := by decide +kernel
theorem dX7_go_12 : decode cX7_go 12 = .ok (.iconst (-1), 1) := by decide +kernel
theorem dX7_go_13 : decode cX7_go 13 = .ok (.ireturn, 1) := by decide +kernel
theorem dX7_go_14 : decode cX7_go 14 = .ok (.aload_n 0, 1) := by decide +kernel
theorem dX7_go_15 : decode cX7_go 15 = .ok (.invokevirtual 135, 3) := by decide +kernel
theorem dX7_go_18 : decode cX7_go 18 = .ok (.ifCond .ne 13, 3) := by decide +kernel
theorem dX7_go_21 : decode cX7_go 21 = .ok (.aload_n 0, 1) := by decide +kernel
theorem dX7_go_22 : decode cX7_go 22 = .ok (.getfield 12, 3) := by decide +kernel
theorem dX7_go_25 : decode cX7_go 25 = .ok (.invokevirtual 138, 3) := by decide +kernel
theorem dX7_go_28 : decode cX7_go 28 = .ok (.ifCond .eq 6, 3) := by decide +kernel
theorem dX7_go_31 : decode cX7_go 31 = .ok (.bipush (-3), 2) := by decide +kernel
theorem dX7_go_33 : decode cX7_go 33 = .ok (.ireturn, 1) := by decide +kernel
theorem dX7_go_34 : decode cX7_go 34 = .ok (.iconst 0, 1) := by decide +kernel
theorem dX7_go_35 : decode cX7_go 35 = .ok (.istore_n 2, 1) := by decide +kernel
theorem dX7_go_36 : decode cX7_go 36 = .ok (.iload_n 2, 1) := by decide +kernel
theorem dX7_go_37 : decode cX7_go 37 = .ok (.iload_n 1, 1) := by decide +kernel
theorem dX7_go_38 : decode cX7_go 38 = .ok (.if_icmp .ge 26, 3) := by decide +kernel
theorem dX7_go_41 : decode cX7_go 41 = .ok (.aload_n 0, 1) := by decide +kernel
theorem dX7_go_42 : decode cX7_go 42 = .ok (.getfield 12, 3) := by decide +kernel
theorem dX7_go_45 : decode cX7_go 45 = .ok (.invokevirtual 138, 3) := by decide +kernel
theorem dX7_go_48 : decode cX7_go 48 = .ok (.ifCond .ne 16, 3) := by decide +kernel
theorem dX7_go_51 : decode cX7_go 51 = .ok (.aload_n 0, 1) := by decide +kernel
theorem dX7_go_52 : decode cX7_go 52 = .ok (.getfield 12, 3) := by decide +kernel
theorem dX7_go_55 : decode cX7_go 55 = .ok (.invokevirtual 141, 3) := by decide +kernel
theorem dX7_go_58 : decode cX7_go 58 = .ok (.iinc 2 1, 3) := by decide +kernel
theorem dX7_go_61 : decode cX7_go 61 = .ok (.goto (-25), 3) := by decide +kernel
theorem dX7_go_64 : decode cX7_go 64 = .ok (.aload_n 0, 1) := by decide +kernel
theorem dX7_go_65 : decode cX7_go 65 = .ok (.getfield 12, 3) := by decide +kernel
theorem dX7_go_68 : decode cX7_go 68 = .ok (.getfield 144, 3) := by decide +kernel
theorem dX7_go_71 : decode cX7_go 71 = .ok (.ireturn, 1) := by decide +kernel
set_option maxHeartbeats 4000000 in
set_option maxRecDepth 100000 in
theorem c_X7_go_f (l : Launch) (D : va_G) (cA : Nat → ClassId) (ad : Nat → Nat) (o : Int64) (σ : Mem) (n : Int32) (hF : Fr σ) (sz : Nat) : Met l yX7_go (WY yX7_go cX7_go 3 (some .int)) (RM 1) (va_Pc [.ref (ad 66), .int n] (PW D cA ad o σ sz)) (va_Qi (fun r _ => r = (if n < 1 ∨ 200 < n then -1 else -3)) (QW D cA ad o) (FA ad sz)) 0 0 (FA ad sz) := by
  refine ct_of (own := RX7) (k := 1) (Qf := va_Qi (fun r _ => r = (if n < 1 ∨ 200 < n then -1 else -3)) (QW D cA ad o)) rfl (by decide) (Nat.le_of_ble_eq_true rfl) (fun p e s m below meth c ls C0 X hr hlk hP hl => ?_) sz
  have hS : va_S (FA ad s.heap.size) s.heap s.heap [] := va_S.rf
  have hl : lv_has ls 3 [(0, .ref (ad 66)), (1, .int n)] := hl
  obtain ⟨hx, hb, hml, hown, hts⟩ := id C0
  refine lv_iload_n hx hb dX7_go_0 rfl (lv_at hl 1 rfl) ?_
  refine lv_iconst (v := 1) hx hb dX7_go_1 (by decide) ?_
  refine lv_icmp_lt (tgt := 12) hx hb dX7_go_2 (by decide) (fun c_1 => ?_) (fun c_1 => ?_)
  · refine lv_iconst (v := (-1)) hx hb dX7_go_12 (by decide) ?_
    exact r_iret C0 X hP hS hr hlk dX7_go_13 (by simp only [c_1, Int32.not_le.mpr c_1, if_true, if_false, ite_true, ite_false, true_and, and_true, false_and, and_false, true_or, or_true, false_or, or_false, not_true_eq_false, not_false_eq_true, ne_eq, and_self, or_self]; try rfl)
  · refine lv_iload_n hx hb dX7_go_5 rfl (lv_at hl 1 rfl) ?_
    refine lv_sipush (v := 200) hx hb dX7_go_6 (by decide) ?_
    refine lv_icmp_le (tgt := 14) hx hb dX7_go_9 (by decide) (fun c_2 => ?_) (fun c_2 => ?_)
    · refine lv_aload_n hx hb dX7_go_14 rfl (lv_at hl 0 rfl) ?_
      refine r_ci X hS (r_runV (As := []) (rest := []) C0 X hP L_X7_135 (fun sz => c_X7_cannotRun l D cA ad o σ   sz) (show 66 < 106 ∧ kd 66 = (7, 8) from ⟨by decide, rfl⟩).1 (show 66 < 106 ∧ kd 66 = (7, 8) from ⟨by decide, rfl⟩).2 (by decide) rfl ⟨Nat.le_of_ble_eq_true rfl, Nat.le_of_ble_eq_true rfl⟩ rfl hl.1 rfl (by decide) dX7_go_15 ⟨Nat.zero_le _, Nat.zero_le _⟩) (fun r σ9 H locs hw hP hS => ?_)
      rw [hw.2] at hP
      obtain ⟨⟨b_3, rfl⟩ | ⟨b_3, rfl⟩, -⟩ := hw
      · refine lv_if_ne (tgt := 31) hx hb dX7_go_18 (by decide) (fun c_4 => ?_) (fun c_4 => absurd c_4 (by decide))
        refine lv_bipush (v := (-3)) hx hb dX7_go_31 (by decide) ?_
        exact r_iret C0 X hP hS hr hlk dX7_go_33 (by simp only [c_1, c_2, b_3, Int32.not_lt.mp c_1, Int32.not_lt.mpr c_2, if_true, if_false, ite_true, ite_false, true_and, and_true, false_and, and_false, true_or, or_true, false_or, or_false, not_true_eq_false, not_false_eq_true, ne_eq, and_self, or_self]; try rfl)
      · exact absurd (Or.inl (Fr_pieces hF)) b_3
    · refine lv_iconst (v := (-1)) hx hb dX7_go_12 (by decide) ?_
      exact r_iret C0 X hP hS hr hlk dX7_go_13 (by simp only [c_1, c_2, Int32.not_lt.mp c_1, Int32.not_le.mp c_2, if_true, if_false, ite_true, ite_false, true_and, and_true, false_and, and_false, true_or, or_true, false_or, or_false, not_true_eq_false, not_false_eq_true, ne_eq, and_self, or_self]; try rfl)
theorem dX7_anew_0 : decode cX7_anew 0 = .ok (.aload_n 0, 1) := by decide +kernel
theorem dX7_anew_1 : decode cX7_anew 1 = .ok (.getfield 12, 3) := by decide +kernel
theorem dX7_anew_4 : decode cX7_anew 4 = .ok (.invokevirtual 147, 3) := by decide +kernel
theorem dX7_anew_7 : decode cX7_anew 7 = .ok (.aload_n 0, 1) := by decide +kernel
theorem dX7_anew_8 : decode cX7_anew 8 = .ok (.getfield 12, 3) := by decide +kernel
theorem dX7_anew_11 : decode cX7_anew 11 = .ok (.getfield 150, 3) := by decide +kernel
theorem dX7_anew_14 : decode cX7_anew 14 = .ok (.ireturn, 1) := by decide +kernel
set_option maxHeartbeats 4000000 in
set_option maxRecDepth 100000 in
theorem c_X7_anew_f (l : Launch) (D : va_G) (cA : Nat → ClassId) (ad : Nat → Nat) (o : Int64) (σ : Mem)  (hF : Fr σ) (sz : Nat) : Met l yX7_anew (WY yX7_anew cX7_anew 1 (some .int)) (RM 2) (va_Pc [.ref (ad 66)] (PW D cA ad o σ sz)) (va_Qi (fun r _ => r = 0) (QW D cA ad o) (FA ad sz)) 0 0 (FA ad sz) := by
  refine ct_of (own := RX7) (k := 2) (Qf := va_Qi (fun r _ => r = 0) (QW D cA ad o)) rfl (by decide) (Nat.le_of_ble_eq_true rfl) (fun p e s m below meth c ls C0 X hr hlk hP hl => ?_) sz
  have hS : va_S (FA ad s.heap.size) s.heap s.heap [] := va_S.rf
  have hl : lv_has ls 1 [(0, .ref (ad 66))] := hl
  obtain ⟨hx, hb, hml, hown, hts⟩ := id C0
  refine lv_aload_n hx hb dX7_anew_0 rfl (lv_at hl 0 rfl) ?_
  refine gf_X7_12 C0 X hP 66 (q := 0) ⟨by decide, rfl⟩ (by omega) rfl dX7_anew_1 ?_
  refine r_cv X hS (r_runV (As := []) (rest := []) C0 X hP L_X7_147 (fun sz => c_X6_beginAnew l D cA ad o σ 0 (by decide) sz) (show 0 < 106 ∧ kd 0 = (6, 11) from ⟨by decide, rfl⟩).1 (show 0 < 106 ∧ kd 0 = (6, 11) from ⟨by decide, rfl⟩).2 (by decide) rfl ⟨Nat.le_of_ble_eq_true rfl, Nat.le_of_ble_eq_true rfl⟩ rfl hl.1 rfl (by decide) dX7_anew_4 ⟨Nat.zero_le _, Nat.zero_le _⟩) (fun σ9 H locs hw hP hS => ?_)
  rw [hw] at hP
  refine lv_aload_n hx hb dX7_anew_7 rfl (lv_at hl 0 rfl) ?_
  refine gf_X7_12 C0 X hP 66 (q := 0) ⟨by decide, rfl⟩ (by omega) rfl dX7_anew_8 ?_
  refine gf_X7_150 C0 X hP 0 ⟨by decide, rfl⟩ dX7_anew_11 ?_
  refine lv_topE (y := (σ 0 2)) (by simp [tbeg, stm, upd, rz, tbegK]) ?_
  exact r_iret C0 X hP hS hr hlk dX7_anew_14 (Fr_count hF)
theorem dX7_where_0 : decode cX7_where 0 = .ok (.aload_n 0, 1) := by decide +kernel
theorem dX7_where_1 : decode cX7_where 1 = .ok (.getfield 12, 3) := by decide +kernel
theorem dX7_where_4 : decode cX7_where 4 = .ok (.iload_n 1, 1) := by decide +kernel
theorem dX7_where_5 : decode cX7_where 5 = .ok (.invokevirtual 99, 3) := by decide +kernel
theorem dX7_where_8 : decode cX7_where 8 = .ok (.astore_n 3, 1) := by decide +kernel
theorem dX7_where_9 : decode cX7_where 9 = .ok (.aload_n 3, 1) := by decide +kernel
theorem dX7_where_10 : decode cX7_where 10 = .ok (.ifnonnull 6, 3) := by decide +kernel
theorem dX7_where_13 : decode cX7_where 13 = .ok (.ldc 153, 2) := by decide +kernel
theorem dX7_where_15 : decode cX7_where 15 = .ok (.ireturn, 1) := by decide +kernel
theorem dX7_where_16 : decode cX7_where 16 = .ok (.iload_n 2, 1) := by decide +kernel
theorem dX7_where_17 : decode cX7_where 17 = .ok (.tableswitch 68 0 4 #[35, 40, 53, 58, 63], 35) := by decide +kernel
theorem dX7_where_52 : decode cX7_where 52 = .ok (.aload_n 3, 1) := by decide +kernel
theorem dX7_where_53 : decode cX7_where 53 = .ok (.getfield 154, 3) := by decide +kernel
theorem dX7_where_56 : decode cX7_where 56 = .ok (.ireturn, 1) := by decide +kernel
theorem dX7_where_57 : decode cX7_where 57 = .ok (.aload_n 3, 1) := by decide +kernel
theorem dX7_where_58 : decode cX7_where 58 = .ok (.getfield 157, 3) := by decide +kernel
theorem dX7_where_61 : decode cX7_where 61 = .ok (.ifCond .eq 7, 3) := by decide +kernel
theorem dX7_where_64 : decode cX7_where 64 = .ok (.iconst 1, 1) := by decide +kernel
theorem dX7_where_65 : decode cX7_where 65 = .ok (.goto 4, 3) := by decide +kernel
theorem dX7_where_68 : decode cX7_where 68 = .ok (.iconst 0, 1) := by decide +kernel
theorem dX7_where_69 : decode cX7_where 69 = .ok (.ireturn, 1) := by decide +kernel
theorem dX7_where_70 : decode cX7_where 70 = .ok (.aload_n 3, 1) := by decide +kernel
theorem dX7_where_71 : decode cX7_where 71 = .ok (.getfield 160, 3) := by decide +kernel
theorem dX7_where_74 : decode cX7_where 74 = .ok (.ireturn, 1) := by decide +kernel
theorem dX7_where_75 : decode cX7_where 75 = .ok (.aload_n 3, 1) := by decide +kernel
theorem dX7_where_76 : decode cX7_where 76 = .ok (.getfield 163, 3) := by decide +kernel
theorem dX7_where_79 : decode cX7_where 79 = .ok (.ireturn, 1) := by decide +kernel
theorem dX7_where_80 : decode cX7_where 80 = .ok (.aload_n 3, 1) := by decide +kernel
theorem dX7_where_81 : decode cX7_where 81 = .ok (.getfield 166, 3) := by decide +kernel
theorem dX7_where_84 : decode cX7_where 84 = .ok (.ireturn, 1) := by decide +kernel
theorem dX7_where_85 : decode cX7_where 85 = .ok (.ldc 153, 2) := by decide +kernel
theorem dX7_where_87 : decode cX7_where 87 = .ok (.ireturn, 1) := by decide +kernel
set_option maxHeartbeats 4000000 in
set_option maxRecDepth 100000 in
theorem c_X7_where_f (l : Launch) (D : va_G) (cA : Nat → ClassId) (ad : Nat → Nat) (o : Int64) (σ : Mem) (a : Int32) (b : Int32) (hF : Fr σ) (sz : Nat) : Met l yX7_where (WY yX7_where cX7_where 4 (some .int)) (RM 1) (va_Pc [.ref (ad 66), .int a, .int b] (PW D cA ad o σ sz)) (va_Qi (fun r _ => r = -1000000001) (QW D cA ad o) (FA ad sz)) 0 0 (FA ad sz) := by
  refine ct_of (own := RX7) (k := 1) (Qf := va_Qi (fun r _ => r = -1000000001) (QW D cA ad o)) rfl (by decide) (Nat.le_of_ble_eq_true rfl) (fun p e s m below meth c ls C0 X hr hlk hP hl => ?_) sz
  have hS : va_S (FA ad s.heap.size) s.heap s.heap [] := va_S.rf
  have hl : lv_has ls 4 [(0, .ref (ad 66)), (1, .int a), (2, .int b)] := hl
  obtain ⟨hx, hb, hml, hown, hts⟩ := id C0
  refine lv_aload_n hx hb dX7_where_0 rfl (lv_at hl 0 rfl) ?_
  refine gf_X7_12 C0 X hP 66 (q := 0) ⟨by decide, rfl⟩ (by omega) rfl dX7_where_1 ?_
  refine lv_iload_n hx hb dX7_where_4 rfl (lv_at hl 1 rfl) ?_
  refine r_cq X hS (r_runV (As := [.int a]) (rest := []) C0 X hP L_X7_99 (fun sz => c_X6_cartAt l D cA ad o σ 0 a (by decide) sz) (show 0 < 106 ∧ kd 0 = (6, 11) from ⟨by decide, rfl⟩).1 (show 0 < 106 ∧ kd 0 = (6, 11) from ⟨by decide, rfl⟩).2 (by decide) rfl ⟨Nat.le_of_ble_eq_true rfl, Nat.le_of_ble_eq_true rfl⟩ rfl hl.1 rfl (by decide) dX7_where_5 ⟨Nat.zero_le _, Nat.zero_le _⟩) (fun σ9 H locs hw hP hS => ?_) (fun x9 σ9 H locs hw hP hS => ?_)
  · rw [hw.1] at hP
    have h_1 := hw.2
    refine lv_astore_nN (lv' := [(3, .null), (0, .ref (ad 66)), (1, .int a), (2, .int b)]) hx hb dX7_where_8 rfl hl (by decide) rfl (fun ls hl => ?_)
    refine lv_aload_nN hx hb dX7_where_9 rfl (lv_at hl 0 rfl) ?_
    refine lv_ifnonnullN hx hb dX7_where_10 ?_
    refine lv_ldc (own := RX7) (index := 153) (v := (-1000000001)) hx hb hown (hts _ (tm 679 (by decide +kernel) (by decide +kernel))) dX7_where_13 ?_
    exact r_iret C0 X hP hS hr hlk dX7_where_15 rfl
  · rw [hw.1] at hP
    obtain ⟨-, j_2, hj_2, ej_2, lj_2, rfl⟩ := hw
    exact absurd lj_2 (by rw [show σ (22 * 0) 2 = 0 from Fr_count hF, ej_2]; exact nI_pos (by omega))
theorem dX7_state_0 : decode cX7_state 0 = .ok (.iload_n 1, 1) := by decide +kernel
theorem dX7_state_1 : decode cX7_state 1 = .ok (.tableswitch 97 0 5 #[39, 47, 55, 63, 73, 89], 39) := by decide +kernel
theorem dX7_state_40 : decode cX7_state 40 = .ok (.aload_n 0, 1) := by decide +kernel
theorem dX7_state_41 : decode cX7_state 41 = .ok (.getfield 12, 3) := by decide +kernel
theorem dX7_state_44 : decode cX7_state 44 = .ok (.getfield 144, 3) := by decide +kernel
theorem dX7_state_47 : decode cX7_state 47 = .ok (.ireturn, 1) := by decide +kernel
theorem dX7_state_48 : decode cX7_state 48 = .ok (.aload_n 0, 1) := by decide +kernel
theorem dX7_state_49 : decode cX7_state 49 = .ok (.getfield 12, 3) := by decide +kernel
theorem dX7_state_52 : decode cX7_state 52 = .ok (.invokevirtual 169, 3) := by decide +kernel
theorem dX7_state_55 : decode cX7_state 55 = .ok (.ireturn, 1) := by decide +kernel
theorem dX7_state_56 : decode cX7_state 56 = .ok (.aload_n 0, 1) := by decide +kernel
theorem dX7_state_57 : decode cX7_state 57 = .ok (.getfield 12, 3) := by decide +kernel
theorem dX7_state_60 : decode cX7_state 60 = .ok (.invokevirtual 173, 3) := by decide +kernel
theorem dX7_state_63 : decode cX7_state 63 = .ok (.ireturn, 1) := by decide +kernel
theorem dX7_state_64 : decode cX7_state 64 = .ok (.aload_n 0, 1) := by decide +kernel
theorem dX7_state_65 : decode cX7_state 65 = .ok (.getfield 12, 3) := by decide +kernel
theorem dX7_state_68 : decode cX7_state 68 = .ok (.bipush (-3), 2) := by decide +kernel
theorem dX7_state_70 : decode cX7_state 70 = .ok (.invokevirtual 176, 3) := by decide +kernel
theorem dX7_state_73 : decode cX7_state 73 = .ok (.ireturn, 1) := by decide +kernel
theorem dX7_state_74 : decode cX7_state 74 = .ok (.aload_n 0, 1) := by decide +kernel
theorem dX7_state_75 : decode cX7_state 75 = .ok (.getfield 12, 3) := by decide +kernel
theorem dX7_state_78 : decode cX7_state 78 = .ok (.invokevirtual 180, 3) := by decide +kernel
theorem dX7_state_81 : decode cX7_state 81 = .ok (.ifCond .eq 7, 3) := by decide +kernel
theorem dX7_state_84 : decode cX7_state 84 = .ok (.iconst 1, 1) := by decide +kernel
theorem dX7_state_85 : decode cX7_state 85 = .ok (.goto 4, 3) := by decide +kernel
theorem dX7_state_88 : decode cX7_state 88 = .ok (.iconst 0, 1) := by decide +kernel
theorem dX7_state_89 : decode cX7_state 89 = .ok (.ireturn, 1) := by decide +kernel
theorem dX7_state_90 : decode cX7_state 90 = .ok (.aload_n 0, 1) := by decide +kernel
theorem dX7_state_91 : decode cX7_state 91 = .ok (.getfield 12, 3) := by decide +kernel
theorem dX7_state_94 : decode cX7_state 94 = .ok (.getfield 183, 3) := by decide +kernel
theorem dX7_state_97 : decode cX7_state 97 = .ok (.ireturn, 1) := by decide +kernel
theorem dX7_state_98 : decode cX7_state 98 = .ok (.iconst (-1), 1) := by decide +kernel
theorem dX7_state_99 : decode cX7_state 99 = .ok (.ireturn, 1) := by decide +kernel
set_option maxHeartbeats 4000000 in
set_option maxRecDepth 100000 in
theorem c_X7_state_f (l : Launch) (D : va_G) (cA : Nat → ClassId) (ad : Nat → Nat) (o : Int64) (σ : Mem) (w : Int32) (hF : Fr σ) (sz : Nat) : Met l yX7_state (WY yX7_state cX7_state 2 (some .int)) (RM 1) (va_Pc [.ref (ad 66), .int w] (PW D cA ad o σ sz)) (va_Qi (fun r _ => r = (if w = 0 ∨ w = 1 ∨ w = 2 ∨ w = 3 ∨ w = 4 ∨ w = 5 then 0 else -1)) (QW D cA ad o) (FA ad sz)) 0 0 (FA ad sz) := by
  refine ct_of (own := RX7) (k := 1) (Qf := va_Qi (fun r _ => r = (if w = 0 ∨ w = 1 ∨ w = 2 ∨ w = 3 ∨ w = 4 ∨ w = 5 then 0 else -1)) (QW D cA ad o)) rfl (by decide) (Nat.le_of_ble_eq_true rfl) (fun p e s m below meth c ls C0 X hr hlk hP hl => ?_) sz
  have hS : va_S (FA ad s.heap.size) s.heap s.heap [] := va_S.rf
  have hl : lv_has ls 2 [(0, .ref (ad 66)), (1, .int w)] := hl
  obtain ⟨hx, hb, hml, hown, hts⟩ := id C0
  refine lv_iload_n hx hb dX7_state_0 rfl (lv_at hl 1 rfl) ?_
  rcases sw_in (x := w) (lo := 0) (n := 6) with c_1 | ⟨j, hj, c_1⟩
  · have e_2 : ¬ w = 0 := sw_ne c_1 (by decide)
    have e_3 : ¬ w = 1 := sw_ne c_1 (by decide)
    have e_4 : ¬ w = 2 := sw_ne c_1 (by decide)
    have e_5 : ¬ w = 3 := sw_ne c_1 (by decide)
    have e_6 : ¬ w = 4 := sw_ne c_1 (by decide)
    have e_7 : ¬ w = 5 := sw_ne c_1 (by decide)
    refine lv_tableOut (tgt := 98) hx hb dX7_state_1 (by omega) (by decide) ?_
    refine lv_iconst (v := (-1)) hx hb dX7_state_98 (by decide) ?_
    exact r_iret C0 X hP hS hr hlk dX7_state_99 (by simp only [e_2, e_3, e_4, e_5, e_6, e_7, if_true, if_false, ite_true, ite_false, true_and, and_true, false_and, and_false, true_or, or_true, false_or, or_false, not_true_eq_false, not_false_eq_true, ne_eq, and_self, or_self]; try rfl)
  · rcases (show j = 0 ∨ j = 1 ∨ j = 2 ∨ j = 3 ∨ j = 4 ∨ j = 5 by omega) with rfl | rfl | rfl | rfl | rfl | rfl
    · have e_8 : w = 0 := sw_eq c_1 (by decide)
      refine lv_tableIn (off := 39) (tgt := 40) hx hb dX7_state_1 (by rw [e_8]; decide) (by rw [e_8]; decide) (by rw [e_8]; rfl) (by decide) ?_
      refine lv_aload_n hx hb dX7_state_40 rfl (lv_at hl 0 rfl) ?_
      refine gf_X7_12 C0 X hP 66 (q := 0) ⟨by decide, rfl⟩ (by omega) rfl dX7_state_41 ?_
      refine gf_X7_144 C0 X hP 0 ⟨by decide, rfl⟩ dX7_state_44 ?_
      refine lv_topE (y := 0) (Fr_minute hF) ?_
      exact r_iret C0 X hP hS hr hlk dX7_state_47 (by simp only [e_8, if_true, if_false, ite_true, ite_false, true_and, and_true, false_and, and_false, true_or, or_true, false_or, or_false, not_true_eq_false, not_false_eq_true, ne_eq, and_self, or_self]; try rfl)
    · have e_9 : w = 1 := sw_eq c_1 (by decide)
      refine lv_tableIn (off := 47) (tgt := 48) hx hb dX7_state_1 (by rw [e_9]; decide) (by rw [e_9]; decide) (by rw [e_9]; rfl) (by decide) ?_
      refine lv_aload_n hx hb dX7_state_48 rfl (lv_at hl 0 rfl) ?_
      refine gf_X7_12 C0 X hP 66 (q := 0) ⟨by decide, rfl⟩ (by omega) rfl dX7_state_49 ?_
      refine r_ci X hS (r_runV (As := []) (rest := []) C0 X hP L_X7_169 (fun sz => c_X6_allBacked0 l D cA ad o σ 0  (by decide) (Fr_count hF) sz) (show 0 < 106 ∧ kd 0 = (6, 11) from ⟨by decide, rfl⟩).1 (show 0 < 106 ∧ kd 0 = (6, 11) from ⟨by decide, rfl⟩).2 (by decide) rfl ⟨Nat.le_of_ble_eq_true rfl, Nat.le_of_ble_eq_true rfl⟩ rfl hl.1 rfl (by decide) dX7_state_52 ⟨Nat.zero_le _, Nat.zero_le _⟩) (fun r σ9 H locs hw hP hS => ?_)
      rw [hw.2] at hP
      rw [hw.1]
      exact r_iret C0 X hP hS hr hlk dX7_state_55 (by simp only [e_9, if_true, if_false, ite_true, ite_false, true_and, and_true, false_and, and_false, true_or, or_true, false_or, or_false, not_true_eq_false, not_false_eq_true, ne_eq, and_self, or_self]; try rfl)
    · have e_10 : w = 2 := sw_eq c_1 (by decide)
      refine lv_tableIn (off := 55) (tgt := 56) hx hb dX7_state_1 (by rw [e_10]; decide) (by rw [e_10]; decide) (by rw [e_10]; rfl) (by decide) ?_
      refine lv_aload_n hx hb dX7_state_56 rfl (lv_at hl 0 rfl) ?_
      refine gf_X7_12 C0 X hP 66 (q := 0) ⟨by decide, rfl⟩ (by omega) rfl dX7_state_57 ?_
      refine r_ci X hS (r_runV (As := []) (rest := []) C0 X hP L_X7_173 (fun sz => c_X6_allWaited0 l D cA ad o σ 0  (by decide) (Fr_count hF) sz) (show 0 < 106 ∧ kd 0 = (6, 11) from ⟨by decide, rfl⟩).1 (show 0 < 106 ∧ kd 0 = (6, 11) from ⟨by decide, rfl⟩).2 (by decide) rfl ⟨Nat.le_of_ble_eq_true rfl, Nat.le_of_ble_eq_true rfl⟩ rfl hl.1 rfl (by decide) dX7_state_60 ⟨Nat.zero_le _, Nat.zero_le _⟩) (fun r σ9 H locs hw hP hS => ?_)
      rw [hw.2] at hP
      rw [hw.1]
      exact r_iret C0 X hP hS hr hlk dX7_state_63 (by simp only [e_10, if_true, if_false, ite_true, ite_false, true_and, and_true, false_and, and_false, true_or, or_true, false_or, or_false, not_true_eq_false, not_false_eq_true, ne_eq, and_self, or_self]; try rfl)
    · have e_11 : w = 3 := sw_eq c_1 (by decide)
      refine lv_tableIn (off := 63) (tgt := 64) hx hb dX7_state_1 (by rw [e_11]; decide) (by rw [e_11]; decide) (by rw [e_11]; rfl) (by decide) ?_
      refine lv_aload_n hx hb dX7_state_64 rfl (lv_at hl 0 rfl) ?_
      refine gf_X7_12 C0 X hP 66 (q := 0) ⟨by decide, rfl⟩ (by omega) rfl dX7_state_65 ?_
      refine lv_bipush (v := (-3)) hx hb dX7_state_68 (by decide) ?_
      refine r_ci X hS (r_runV (As := [.int (-3)]) (rest := []) C0 X hP L_X7_176 (fun sz => c_X6_howMany0 l D cA ad o σ 0 (-3) (by decide) (Fr_count hF) sz) (show 0 < 106 ∧ kd 0 = (6, 11) from ⟨by decide, rfl⟩).1 (show 0 < 106 ∧ kd 0 = (6, 11) from ⟨by decide, rfl⟩).2 (by decide) rfl ⟨Nat.le_of_ble_eq_true rfl, Nat.le_of_ble_eq_true rfl⟩ rfl hl.1 rfl (by decide) dX7_state_70 ⟨Nat.zero_le _, Nat.zero_le _⟩) (fun r σ9 H locs hw hP hS => ?_)
      rw [hw.2] at hP
      rw [hw.1]
      exact r_iret C0 X hP hS hr hlk dX7_state_73 (by simp only [e_11, if_true, if_false, ite_true, ite_false, true_and, and_true, false_and, and_false, true_or, or_true, false_or, or_false, not_true_eq_false, not_false_eq_true, ne_eq, and_self, or_self]; try rfl)
    · have e_12 : w = 4 := sw_eq c_1 (by decide)
      refine lv_tableIn (off := 73) (tgt := 74) hx hb dX7_state_1 (by rw [e_12]; decide) (by rw [e_12]; decide) (by rw [e_12]; rfl) (by decide) ?_
      refine lv_aload_n hx hb dX7_state_74 rfl (lv_at hl 0 rfl) ?_
      refine gf_X7_12 C0 X hP 66 (q := 0) ⟨by decide, rfl⟩ (by omega) rfl dX7_state_75 ?_
      refine r_ci X hS (r_runV (As := []) (rest := []) C0 X hP L_X7_180 (fun sz => c_X6_stands0 l D cA ad o σ 0 (by decide) (Fr_still hF) sz) (show 0 < 106 ∧ kd 0 = (6, 11) from ⟨by decide, rfl⟩).1 (show 0 < 106 ∧ kd 0 = (6, 11) from ⟨by decide, rfl⟩).2 (by decide) rfl ⟨Nat.le_of_ble_eq_true rfl, Nat.le_of_ble_eq_true rfl⟩ rfl hl.1 rfl (by decide) dX7_state_78 ⟨Nat.zero_le _, Nat.zero_le _⟩) (fun r σ9 H locs hw hP hS => ?_)
      rw [hw.2] at hP
      obtain ⟨⟨b_13, rfl⟩ | ⟨b_13, rfl⟩, -⟩ := hw
      · exact absurd b_13 id
      · refine lv_if_eq (tgt := 88) hx hb dX7_state_81 (by decide) (fun c_14 => ?_) (fun c_14 => absurd c_14 (by decide))
        refine lv_iconst (v := 0) hx hb dX7_state_88 (by decide) ?_
        exact r_iret C0 X hP hS hr hlk dX7_state_89 (by simp only [e_12, b_13, if_true, if_false, ite_true, ite_false, true_and, and_true, false_and, and_false, true_or, or_true, false_or, or_false, not_true_eq_false, not_false_eq_true, ne_eq, and_self, or_self]; try rfl)
    · have e_15 : w = 5 := sw_eq c_1 (by decide)
      refine lv_tableIn (off := 89) (tgt := 90) hx hb dX7_state_1 (by rw [e_15]; decide) (by rw [e_15]; decide) (by rw [e_15]; rfl) (by decide) ?_
      refine lv_aload_n hx hb dX7_state_90 rfl (lv_at hl 0 rfl) ?_
      refine gf_X7_12 C0 X hP 66 (q := 0) ⟨by decide, rfl⟩ (by omega) rfl dX7_state_91 ?_
      refine gf_X7_183 C0 X hP 0 ⟨by decide, rfl⟩ dX7_state_94 ?_
      refine lv_topE (y := 0) (Fr_met hF) ?_
      exact r_iret C0 X hP hS hr hlk dX7_state_97 (by simp only [e_15, if_true, if_false, ite_true, ite_false, true_and, and_true, false_and, and_false, true_or, or_true, false_or, or_false, not_true_eq_false, not_false_eq_true, ne_eq, and_self, or_self]; try rfl)
theorem dX7_enters_0 : decode cX7_enters 0 = .ok (.aload_n 0, 1) := by decide +kernel
theorem dX7_enters_1 : decode cX7_enters 1 = .ok (.getfield 12, 3) := by decide +kernel
theorem dX7_enters_4 : decode cX7_enters 4 = .ok (.iload_n 1, 1) := by decide +kernel
theorem dX7_enters_5 : decode cX7_enters 5 = .ok (.invokevirtual 99, 3) := by decide +kernel
theorem dX7_enters_8 : decode cX7_enters 8 = .ok (.astore_n 2, 1) := by decide +kernel
theorem dX7_enters_9 : decode cX7_enters 9 = .ok (.aload_n 2, 1) := by decide +kernel
theorem dX7_enters_10 : decode cX7_enters 10 = .ok (.ifnonnull 5, 3) := by decide +kernel
theorem dX7_enters_13 : decode cX7_enters 13 = .ok (.iconst (-1), 1) := by decide +kernel
theorem dX7_enters_14 : decode cX7_enters 14 = .ok (.ireturn, 1) := by decide +kernel
theorem dX7_enters_15 : decode cX7_enters 15 = .ok (.aload_n 0, 1) := by decide +kernel
theorem dX7_enters_16 : decode cX7_enters 16 = .ok (.getfield 12, 3) := by decide +kernel
theorem dX7_enters_19 : decode cX7_enters 19 = .ok (.getfield 70, 3) := by decide +kernel
theorem dX7_enters_22 : decode cX7_enters 22 = .ok (.aload_n 2, 1) := by decide +kernel
theorem dX7_enters_23 : decode cX7_enters 23 = .ok (.getfield 154, 3) := by decide +kernel
theorem dX7_enters_26 : decode cX7_enters 26 = .ok (.invokevirtual 186, 3) := by decide +kernel
theorem dX7_enters_29 : decode cX7_enters 29 = .ok (.ifCond .ge 6, 3) := by decide +kernel
theorem dX7_enters_32 : decode cX7_enters 32 = .ok (.bipush (-3), 2) := by decide +kernel
theorem dX7_enters_34 : decode cX7_enters 34 = .ok (.ireturn, 1) := by decide +kernel
theorem dX7_enters_35 : decode cX7_enters 35 = .ok (.aload_n 0, 1) := by decide +kernel
theorem dX7_enters_36 : decode cX7_enters 36 = .ok (.getfield 12, 3) := by decide +kernel
theorem dX7_enters_39 : decode cX7_enters 39 = .ok (.aload_n 2, 1) := by decide +kernel
theorem dX7_enters_40 : decode cX7_enters 40 = .ok (.invokevirtual 189, 3) := by decide +kernel
theorem dX7_enters_43 : decode cX7_enters 43 = .ok (.ifCond .eq 7, 3) := by decide +kernel
theorem dX7_enters_46 : decode cX7_enters 46 = .ok (.iconst 1, 1) := by decide +kernel
theorem dX7_enters_47 : decode cX7_enters 47 = .ok (.goto 4, 3) := by decide +kernel
theorem dX7_enters_50 : decode cX7_enters 50 = .ok (.iconst 0, 1) := by decide +kernel
theorem dX7_enters_51 : decode cX7_enters 51 = .ok (.ireturn, 1) := by decide +kernel
set_option maxHeartbeats 4000000 in
set_option maxRecDepth 100000 in
theorem c_X7_enters_f (l : Launch) (D : va_G) (cA : Nat → ClassId) (ad : Nat → Nat) (o : Int64) (σ : Mem) (a : Int32) (hF : Fr σ) (sz : Nat) : Met l yX7_enters (WY yX7_enters cX7_enters 3 (some .int)) (RM 1) (va_Pc [.ref (ad 66), .int a] (PW D cA ad o σ sz)) (va_Qi (fun r _ => r = -1) (QW D cA ad o) (FA ad sz)) 0 0 (FA ad sz) := by
  refine ct_of (own := RX7) (k := 1) (Qf := va_Qi (fun r _ => r = -1) (QW D cA ad o)) rfl (by decide) (Nat.le_of_ble_eq_true rfl) (fun p e s m below meth c ls C0 X hr hlk hP hl => ?_) sz
  have hS : va_S (FA ad s.heap.size) s.heap s.heap [] := va_S.rf
  have hl : lv_has ls 3 [(0, .ref (ad 66)), (1, .int a)] := hl
  obtain ⟨hx, hb, hml, hown, hts⟩ := id C0
  refine lv_aload_n hx hb dX7_enters_0 rfl (lv_at hl 0 rfl) ?_
  refine gf_X7_12 C0 X hP 66 (q := 0) ⟨by decide, rfl⟩ (by omega) rfl dX7_enters_1 ?_
  refine lv_iload_n hx hb dX7_enters_4 rfl (lv_at hl 1 rfl) ?_
  refine r_cq X hS (r_runV (As := [.int a]) (rest := []) C0 X hP L_X7_99 (fun sz => c_X6_cartAt l D cA ad o σ 0 a (by decide) sz) (show 0 < 106 ∧ kd 0 = (6, 11) from ⟨by decide, rfl⟩).1 (show 0 < 106 ∧ kd 0 = (6, 11) from ⟨by decide, rfl⟩).2 (by decide) rfl ⟨Nat.le_of_ble_eq_true rfl, Nat.le_of_ble_eq_true rfl⟩ rfl hl.1 rfl (by decide) dX7_enters_5 ⟨Nat.zero_le _, Nat.zero_le _⟩) (fun σ9 H locs hw hP hS => ?_) (fun x9 σ9 H locs hw hP hS => ?_)
  · rw [hw.1] at hP
    have h_1 := hw.2
    refine lv_astore_nN (lv' := [(2, .null), (0, .ref (ad 66)), (1, .int a)]) hx hb dX7_enters_8 rfl hl (by decide) rfl (fun ls hl => ?_)
    refine lv_aload_nN hx hb dX7_enters_9 rfl (lv_at hl 0 rfl) ?_
    refine lv_ifnonnullN hx hb dX7_enters_10 ?_
    refine lv_iconst (v := (-1)) hx hb dX7_enters_13 (by decide) ?_
    exact r_iret C0 X hP hS hr hlk dX7_enters_14 rfl
  · rw [hw.1] at hP
    obtain ⟨-, j_2, hj_2, ej_2, lj_2, rfl⟩ := hw
    exact absurd lj_2 (by rw [show σ (22 * 0) 2 = 0 from Fr_count hF, ej_2]; exact nI_pos (by omega))
theorem dX7_yields_0 : decode cX7_yields 0 = .ok (.aload_n 0, 1) := by decide +kernel
theorem dX7_yields_1 : decode cX7_yields 1 = .ok (.getfield 12, 3) := by decide +kernel
theorem dX7_yields_4 : decode cX7_yields 4 = .ok (.iload_n 1, 1) := by decide +kernel
theorem dX7_yields_5 : decode cX7_yields 5 = .ok (.invokevirtual 99, 3) := by decide +kernel
theorem dX7_yields_8 : decode cX7_yields 8 = .ok (.astore 4, 2) := by decide +kernel
theorem dX7_yields_10 : decode cX7_yields 10 = .ok (.aload_n 0, 1) := by decide +kernel
theorem dX7_yields_11 : decode cX7_yields 11 = .ok (.getfield 12, 3) := by decide +kernel
theorem dX7_yields_14 : decode cX7_yields 14 = .ok (.iload_n 2, 1) := by decide +kernel
theorem dX7_yields_15 : decode cX7_yields 15 = .ok (.invokevirtual 99, 3) := by decide +kernel
theorem dX7_yields_18 : decode cX7_yields 18 = .ok (.astore 5, 2) := by decide +kernel
theorem dX7_yields_20 : decode cX7_yields 20 = .ok (.aload 4, 2) := by decide +kernel
theorem dX7_yields_22 : decode cX7_yields 22 = .ok (.ifnull 13, 3) := by decide +kernel
theorem dX7_yields_25 : decode cX7_yields 25 = .ok (.aload 5, 2) := by decide +kernel
theorem dX7_yields_27 : decode cX7_yields 27 = .ok (.ifnull 8, 3) := by decide +kernel
theorem dX7_yields_30 : decode cX7_yields 30 = .ok (.iload_n 1, 1) := by decide +kernel
theorem dX7_yields_31 : decode cX7_yields 31 = .ok (.iload_n 2, 1) := by decide +kernel
theorem dX7_yields_32 : decode cX7_yields 32 = .ok (.if_icmp .ne 5, 3) := by decide +kernel
theorem dX7_yields_35 : decode cX7_yields 35 = .ok (.iconst (-1), 1) := by decide +kernel
theorem dX7_yields_36 : decode cX7_yields 36 = .ok (.ireturn, 1) := by decide +kernel
theorem dX7_yields_37 : decode cX7_yields 37 = .ok (.iload_n 3, 1) := by decide +kernel
theorem dX7_yields_38 : decode cX7_yields 38 = .ok (.ifCond .lt 8, 3) := by decide +kernel
theorem dX7_yields_41 : decode cX7_yields 41 = .ok (.iload_n 3, 1) := by decide +kernel
theorem dX7_yields_42 : decode cX7_yields 42 = .ok (.iconst 3, 1) := by decide +kernel
theorem dX7_yields_43 : decode cX7_yields 43 = .ok (.if_icmp .lt 5, 3) := by decide +kernel
theorem dX7_yields_46 : decode cX7_yields 46 = .ok (.iconst (-1), 1) := by decide +kernel
theorem dX7_yields_47 : decode cX7_yields 47 = .ok (.ireturn, 1) := by decide +kernel
theorem dX7_yields_48 : decode cX7_yields 48 = .ok (.aload 4, 2) := by decide +kernel
theorem dX7_yields_50 : decode cX7_yields 50 = .ok (.getfield 103, 3) := by decide +kernel
theorem dX7_yields_53 : decode cX7_yields 53 = .ok (.aload 5, 2) := by decide +kernel
theorem dX7_yields_55 : decode cX7_yields 55 = .ok (.getfield 103, 3) := by decide +kernel
theorem dX7_yields_58 : decode cX7_yields 58 = .ok (.if_icmp .eq 19, 3) := by decide +kernel
theorem dX7_yields_61 : decode cX7_yields 61 = .ok (.aload 4, 2) := by decide +kernel
theorem dX7_yields_63 : decode cX7_yields 63 = .ok (.getfield 154, 3) := by decide +kernel
theorem dX7_yields_66 : decode cX7_yields 66 = .ok (.ifCond .lt 11, 3) := by decide +kernel
theorem dX7_yields_69 : decode cX7_yields 69 = .ok (.aload 5, 2) := by decide +kernel
theorem dX7_yields_71 : decode cX7_yields 71 = .ok (.getfield 154, 3) := by decide +kernel
theorem dX7_yields_74 : decode cX7_yields 74 = .ok (.ifCond .ge 6, 3) := by decide +kernel
theorem dX7_yields_77 : decode cX7_yields 77 = .ok (.bipush (-3), 2) := by decide +kernel
theorem dX7_yields_79 : decode cX7_yields 79 = .ok (.ireturn, 1) := by decide +kernel
theorem dX7_yields_80 : decode cX7_yields 80 = .ok (.aload_n 0, 1) := by decide +kernel
theorem dX7_yields_81 : decode cX7_yields 81 = .ok (.getfield 12, 3) := by decide +kernel
theorem dX7_yields_84 : decode cX7_yields 84 = .ok (.getfield 70, 3) := by decide +kernel
theorem dX7_yields_87 : decode cX7_yields 87 = .ok (.aload 4, 2) := by decide +kernel
theorem dX7_yields_89 : decode cX7_yields 89 = .ok (.getfield 154, 3) := by decide +kernel
theorem dX7_yields_92 : decode cX7_yields 92 = .ok (.invokevirtual 186, 3) := by decide +kernel
theorem dX7_yields_95 : decode cX7_yields 95 = .ok (.ifCond .lt 7, 3) := by decide +kernel
theorem dX7_yields_98 : decode cX7_yields 98 = .ok (.iconst 1, 1) := by decide +kernel
theorem dX7_yields_99 : decode cX7_yields 99 = .ok (.goto 4, 3) := by decide +kernel
theorem dX7_yields_102 : decode cX7_yields 102 = .ok (.iconst 0, 1) := by decide +kernel
theorem dX7_yields_103 : decode cX7_yields 103 = .ok (.istore 6, 2) := by decide +kernel
theorem dX7_yields_105 : decode cX7_yields 105 = .ok (.iload 6, 2) := by decide +kernel
theorem dX7_yields_107 : decode cX7_yields 107 = .ok (.ifCond .eq 7, 3) := by decide +kernel
theorem dX7_yields_110 : decode cX7_yields 110 = .ok (.iconst 0, 1) := by decide +kernel
theorem dX7_yields_111 : decode cX7_yields 111 = .ok (.goto 22, 3) := by decide +kernel
theorem dX7_yields_114 : decode cX7_yields 114 = .ok (.aload_n 0, 1) := by decide +kernel
theorem dX7_yields_115 : decode cX7_yields 115 = .ok (.getfield 12, 3) := by decide +kernel
theorem dX7_yields_118 : decode cX7_yields 118 = .ok (.getfield 70, 3) := by decide +kernel
theorem dX7_yields_121 : decode cX7_yields 121 = .ok (.aload_n 0, 1) := by decide +kernel
theorem dX7_yields_122 : decode cX7_yields 122 = .ok (.getfield 12, 3) := by decide +kernel
theorem dX7_yields_125 : decode cX7_yields 125 = .ok (.aload 4, 2) := by decide +kernel
theorem dX7_yields_127 : decode cX7_yields 127 = .ok (.invokevirtual 193, 3) := by decide +kernel
theorem dX7_yields_130 : decode cX7_yields 130 = .ok (.invokevirtual 197, 3) := by decide +kernel
theorem dX7_yields_133 : decode cX7_yields 133 = .ok (.istore 7, 2) := by decide +kernel
theorem dX7_yields_135 : decode cX7_yields 135 = .ok (.aload_n 0, 1) := by decide +kernel
theorem dX7_yields_136 : decode cX7_yields 136 = .ok (.getfield 12, 3) := by decide +kernel
theorem dX7_yields_139 : decode cX7_yields 139 = .ok (.iload_n 1, 1) := by decide +kernel
theorem dX7_yields_140 : decode cX7_yields 140 = .ok (.iload_n 2, 1) := by decide +kernel
theorem dX7_yields_141 : decode cX7_yields 141 = .ok (.iload_n 3, 1) := by decide +kernel
theorem dX7_yields_142 : decode cX7_yields 142 = .ok (.iload 7, 2) := by decide +kernel
theorem dX7_yields_144 : decode cX7_yields 144 = .ok (.invokevirtual 200, 3) := by decide +kernel
theorem dX7_yields_147 : decode cX7_yields 147 = .ok (.ireturn, 1) := by decide +kernel
set_option maxHeartbeats 4000000 in
set_option maxRecDepth 100000 in
theorem c_X7_yields_f (l : Launch) (D : va_G) (cA : Nat → ClassId) (ad : Nat → Nat) (o : Int64) (σ : Mem) (a : Int32) (b : Int32) (v : Int32) (hF : Fr σ) (sz : Nat) : Met l yX7_yields (WY yX7_yields cX7_yields 8 (some .int)) (RM 1) (va_Pc [.ref (ad 66), .int a, .int b, .int v] (PW D cA ad o σ sz)) (va_Qi (fun r _ => r = -1) (QW D cA ad o) (FA ad sz)) 0 0 (FA ad sz) := by
  refine ct_of (own := RX7) (k := 1) (Qf := va_Qi (fun r _ => r = -1) (QW D cA ad o)) rfl (by decide) (Nat.le_of_ble_eq_true rfl) (fun p e s m below meth c ls C0 X hr hlk hP hl => ?_) sz
  have hS : va_S (FA ad s.heap.size) s.heap s.heap [] := va_S.rf
  have hl : lv_has ls 8 [(0, .ref (ad 66)), (1, .int a), (2, .int b), (3, .int v)] := hl
  obtain ⟨hx, hb, hml, hown, hts⟩ := id C0
  refine lv_aload_n hx hb dX7_yields_0 rfl (lv_at hl 0 rfl) ?_
  refine gf_X7_12 C0 X hP 66 (q := 0) ⟨by decide, rfl⟩ (by omega) rfl dX7_yields_1 ?_
  refine lv_iload_n hx hb dX7_yields_4 rfl (lv_at hl 1 rfl) ?_
  refine r_cq X hS (r_runV (As := [.int a]) (rest := []) C0 X hP L_X7_99 (fun sz => c_X6_cartAt l D cA ad o σ 0 a (by decide) sz) (show 0 < 106 ∧ kd 0 = (6, 11) from ⟨by decide, rfl⟩).1 (show 0 < 106 ∧ kd 0 = (6, 11) from ⟨by decide, rfl⟩).2 (by decide) rfl ⟨Nat.le_of_ble_eq_true rfl, Nat.le_of_ble_eq_true rfl⟩ rfl hl.1 rfl (by decide) dX7_yields_5 ⟨Nat.zero_le _, Nat.zero_le _⟩) (fun σ9 H locs hw hP hS => ?_) (fun x9 σ9 H locs hw hP hS => ?_)
  · rw [hw.1] at hP
    have h_1 := hw.2
    refine lv_astoreN (lv' := [(4, .null), (0, .ref (ad 66)), (1, .int a), (2, .int b), (3, .int v)]) hx hb dX7_yields_8 hl (by decide) rfl (fun ls hl => ?_)
    refine lv_aload_n hx hb dX7_yields_10 rfl (lv_at hl 1 rfl) ?_
    refine gf_X7_12 C0 X hP 66 (q := 0) ⟨by decide, rfl⟩ (by omega) rfl dX7_yields_11 ?_
    refine lv_iload_n hx hb dX7_yields_14 rfl (lv_at hl 3 rfl) ?_
    refine r_cq X hS (r_runV (As := [.int b]) (rest := []) C0 X hP L_X7_99 (fun sz => c_X6_cartAt l D cA ad o σ 0 b (by decide) sz) (show 0 < 106 ∧ kd 0 = (6, 11) from ⟨by decide, rfl⟩).1 (show 0 < 106 ∧ kd 0 = (6, 11) from ⟨by decide, rfl⟩).2 (by decide) rfl ⟨Nat.le_of_ble_eq_true rfl, Nat.le_of_ble_eq_true rfl⟩ rfl hl.1 rfl (by decide) dX7_yields_15 ⟨Nat.zero_le _, Nat.zero_le _⟩) (fun σ9 H locs hw hP hS => ?_) (fun x9 σ9 H locs hw hP hS => ?_)
    · rw [hw.1] at hP
      have h_3 := hw.2
      refine lv_astoreN (lv' := [(5, .null), (4, .null), (0, .ref (ad 66)), (1, .int a), (2, .int b), (3, .int v)]) hx hb dX7_yields_18 hl (by decide) rfl (fun ls hl => ?_)
      refine lv_aloadN hx hb dX7_yields_20 (lv_at hl 1 rfl) ?_
      refine lv_ifnullN (tgt := 35) hx hb dX7_yields_22 (by decide) ?_
      refine lv_iconst (v := (-1)) hx hb dX7_yields_35 (by decide) ?_
      exact r_iret C0 X hP hS hr hlk dX7_yields_36 rfl
    · rw [hw.1] at hP
      obtain ⟨-, j_4, hj_4, ej_4, lj_4, rfl⟩ := hw
      exact absurd lj_4 (by rw [show σ (22 * 0) 2 = 0 from Fr_count hF, ej_4]; exact nI_pos (by omega))
  · rw [hw.1] at hP
    obtain ⟨-, j_2, hj_2, ej_2, lj_2, rfl⟩ := hw
    exact absurd lj_2 (by rw [show σ (22 * 0) 2 = 0 from Fr_count hF, ej_2]; exact nI_pos (by omega))
theorem dX7_judge_0 : decode cX7_judge 0 = .ok (.aload_n 0, 1) := by decide +kernel
theorem dX7_judge_1 : decode cX7_judge 1 = .ok (.iload_n 2, 1) := by decide +kernel
theorem dX7_judge_2 : decode cX7_judge 2 = .ok (.invokevirtual 50, 3) := by decide +kernel
theorem dX7_judge_5 : decode cX7_judge 5 = .ok (.astore_n 3, 1) := by decide +kernel
theorem dX7_judge_6 : decode cX7_judge 6 = .ok (.aload_n 3, 1) := by decide +kernel
theorem dX7_judge_7 : decode cX7_judge 7 = .ok (.ifnull 14, 3) := by decide +kernel
theorem dX7_judge_10 : decode cX7_judge 10 = .ok (.aload_n 0, 1) := by decide +kernel
theorem dX7_judge_11 : decode cX7_judge 11 = .ok (.getfield 12, 3) := by decide +kernel
theorem dX7_judge_14 : decode cX7_judge 14 = .ok (.iload_n 1, 1) := by decide +kernel
theorem dX7_judge_15 : decode cX7_judge 15 = .ok (.invokevirtual 99, 3) := by decide +kernel
theorem dX7_judge_18 : decode cX7_judge 18 = .ok (.ifnonnull 5, 3) := by decide +kernel
theorem dX7_judge_21 : decode cX7_judge 21 = .ok (.iconst (-1), 1) := by decide +kernel
theorem dX7_judge_22 : decode cX7_judge 22 = .ok (.ireturn, 1) := by decide +kernel
theorem dX7_judge_23 : decode cX7_judge 23 = .ok (.aload_n 3, 1) := by decide +kernel
theorem dX7_judge_24 : decode cX7_judge 24 = .ok (.getfield 54, 3) := by decide +kernel
theorem dX7_judge_27 : decode cX7_judge 27 = .ok (.ifCond .ne 6, 3) := by decide +kernel
theorem dX7_judge_30 : decode cX7_judge 30 = .ok (.bipush (-11), 2) := by decide +kernel
theorem dX7_judge_32 : decode cX7_judge 32 = .ok (.ireturn, 1) := by decide +kernel
theorem dX7_judge_33 : decode cX7_judge 33 = .ok (.aload_n 3, 1) := by decide +kernel
theorem dX7_judge_34 : decode cX7_judge 34 = .ok (.getfield 54, 3) := by decide +kernel
theorem dX7_judge_37 : decode cX7_judge 37 = .ok (.iconst 2, 1) := by decide +kernel
theorem dX7_judge_38 : decode cX7_judge 38 = .ok (.if_icmp .eq 6, 3) := by decide +kernel
theorem dX7_judge_41 : decode cX7_judge 41 = .ok (.bipush (-12), 2) := by decide +kernel
theorem dX7_judge_43 : decode cX7_judge 43 = .ok (.ireturn, 1) := by decide +kernel
theorem dX7_judge_44 : decode cX7_judge 44 = .ok (.aload_n 0, 1) := by decide +kernel
theorem dX7_judge_45 : decode cX7_judge 45 = .ok (.getfield 12, 3) := by decide +kernel
theorem dX7_judge_48 : decode cX7_judge 48 = .ok (.getfield 70, 3) := by decide +kernel
theorem dX7_judge_51 : decode cX7_judge 51 = .ok (.getfield 74, 3) := by decide +kernel
theorem dX7_judge_54 : decode cX7_judge 54 = .ok (.ifCond .ne 6, 3) := by decide +kernel
theorem dX7_judge_57 : decode cX7_judge 57 = .ok (.bipush (-3), 2) := by decide +kernel
theorem dX7_judge_59 : decode cX7_judge 59 = .ok (.ireturn, 1) := by decide +kernel
theorem dX7_judge_60 : decode cX7_judge 60 = .ok (.aload_n 0, 1) := by decide +kernel
theorem dX7_judge_61 : decode cX7_judge 61 = .ok (.getfield 19, 3) := by decide +kernel
theorem dX7_judge_64 : decode cX7_judge 64 = .ok (.aload_n 0, 1) := by decide +kernel
theorem dX7_judge_65 : decode cX7_judge 65 = .ok (.getfield 12, 3) := by decide +kernel
theorem dX7_judge_68 : decode cX7_judge 68 = .ok (.invokevirtual 62, 3) := by decide +kernel
theorem dX7_judge_71 : decode cX7_judge 71 = .ok (.aload_n 0, 1) := by decide +kernel
theorem dX7_judge_72 : decode cX7_judge 72 = .ok (.getfield 19, 3) := by decide +kernel
theorem dX7_judge_75 : decode cX7_judge 75 = .ok (.iload_n 1, 1) := by decide +kernel
theorem dX7_judge_76 : decode cX7_judge 76 = .ok (.invokevirtual 99, 3) := by decide +kernel
theorem dX7_judge_79 : decode cX7_judge 79 = .ok (.astore 4, 2) := by decide +kernel
theorem dX7_judge_81 : decode cX7_judge 81 = .ok (.aload 4, 2) := by decide +kernel
theorem dX7_judge_83 : decode cX7_judge 83 = .ok (.ifnonnull 5, 3) := by decide +kernel
theorem dX7_judge_86 : decode cX7_judge 86 = .ok (.iconst (-1), 1) := by decide +kernel
theorem dX7_judge_87 : decode cX7_judge 87 = .ok (.ireturn, 1) := by decide +kernel
theorem dX7_judge_88 : decode cX7_judge 88 = .ok (.iconst 0, 1) := by decide +kernel
theorem dX7_judge_89 : decode cX7_judge 89 = .ok (.istore 5, 2) := by decide +kernel
theorem dX7_judge_91 : decode cX7_judge 91 = .ok (.iload 5, 2) := by decide +kernel
theorem dX7_judge_93 : decode cX7_judge 93 = .ok (.aload_n 3, 1) := by decide +kernel
theorem dX7_judge_94 : decode cX7_judge 94 = .ok (.getfield 204, 3) := by decide +kernel
theorem dX7_judge_97 : decode cX7_judge 97 = .ok (.if_icmp .ge 65, 3) := by decide +kernel
theorem dX7_judge_100 : decode cX7_judge 100 = .ok (.iload 5, 2) := by decide +kernel
theorem dX7_judge_102 : decode cX7_judge 102 = .ok (.bipush 100, 2) := by decide +kernel
theorem dX7_judge_104 : decode cX7_judge 104 = .ok (.if_icmp .ge 58, 3) := by decide +kernel
theorem dX7_judge_107 : decode cX7_judge 107 = .ok (.aload_n 0, 1) := by decide +kernel
theorem dX7_judge_108 : decode cX7_judge 108 = .ok (.getfield 19, 3) := by decide +kernel
theorem dX7_judge_111 : decode cX7_judge 111 = .ok (.invokevirtual 138, 3) := by decide +kernel
theorem dX7_judge_114 : decode cX7_judge 114 = .ok (.ifCond .ne 10, 3) := by decide +kernel
theorem dX7_judge_117 : decode cX7_judge 117 = .ok (.aload_n 0, 1) := by decide +kernel
theorem dX7_judge_118 : decode cX7_judge 118 = .ok (.getfield 19, 3) := by decide +kernel
theorem dX7_judge_121 : decode cX7_judge 121 = .ok (.invokevirtual 141, 3) := by decide +kernel
theorem dX7_judge_124 : decode cX7_judge 124 = .ok (.aload_n 3, 1) := by decide +kernel
theorem dX7_judge_125 : decode cX7_judge 125 = .ok (.getfield 207, 3) := by decide +kernel
theorem dX7_judge_128 : decode cX7_judge 128 = .ok (.iload 5, 2) := by decide +kernel
theorem dX7_judge_130 : decode cX7_judge 130 = .ok (.iaload, 1) := by decide +kernel
theorem dX7_judge_131 : decode cX7_judge 131 = .ok (.aload_n 3, 1) := by decide +kernel
theorem dX7_judge_132 : decode cX7_judge 132 = .ok (.invokevirtual 210, 3) := by decide +kernel
theorem dX7_judge_135 : decode cX7_judge 135 = .ok (.if_icmp .eq 21, 3) := by decide +kernel
theorem dX7_judge_138 : decode cX7_judge 138 = .ok (.aload_n 3, 1) := by decide +kernel
theorem dX7_judge_139 : decode cX7_judge 139 = .ok (.getfield 207, 3) := by decide +kernel
theorem dX7_judge_142 : decode cX7_judge 142 = .ok (.iload 5, 2) := by decide +kernel
theorem dX7_judge_144 : decode cX7_judge 144 = .ok (.iaload, 1) := by decide +kernel
theorem dX7_judge_145 : decode cX7_judge 145 = .ok (.aload 4, 2) := by decide +kernel
theorem dX7_judge_147 : decode cX7_judge 147 = .ok (.getfield 154, 3) := by decide +kernel
theorem dX7_judge_150 : decode cX7_judge 150 = .ok (.if_icmp .eq 6, 3) := by decide +kernel
theorem dX7_judge_153 : decode cX7_judge 153 = .ok (.iload 5, 2) := by decide +kernel
theorem dX7_judge_155 : decode cX7_judge 155 = .ok (.ireturn, 1) := by decide +kernel
theorem dX7_judge_156 : decode cX7_judge 156 = .ok (.iinc 5 1, 3) := by decide +kernel
theorem dX7_judge_159 : decode cX7_judge 159 = .ok (.goto (-68), 3) := by decide +kernel
theorem dX7_judge_162 : decode cX7_judge 162 = .ok (.bipush (-4), 2) := by decide +kernel
theorem dX7_judge_164 : decode cX7_judge 164 = .ok (.ireturn, 1) := by decide +kernel
set_option maxHeartbeats 4000000 in
set_option maxRecDepth 100000 in
theorem c_X7_judge_f (l : Launch) (D : va_G) (cA : Nat → ClassId) (ad : Nat → Nat) (o : Int64) (σ : Mem) (a : Int32) (d : Int32) (hF : Fr σ) (sz : Nat) : Met l yX7_judge (WY yX7_judge cX7_judge 6 (some .int)) (RM 1) (va_Pc [.ref (ad 66), .int a, .int d] (PW D cA ad o σ sz)) (va_Qi (fun r _ => r = -1) (QW D cA ad o) (FA ad sz)) 0 0 (FA ad sz) := by
  refine ct_of (own := RX7) (k := 1) (Qf := va_Qi (fun r _ => r = -1) (QW D cA ad o)) rfl (by decide) (Nat.le_of_ble_eq_true rfl) (fun p e s m below meth c ls C0 X hr hlk hP hl => ?_) sz
  have hS : va_S (FA ad s.heap.size) s.heap s.heap [] := va_S.rf
  have hl : lv_has ls 6 [(0, .ref (ad 66)), (1, .int a), (2, .int d)] := hl
  obtain ⟨hx, hb, hml, hown, hts⟩ := id C0
  refine lv_aload_n hx hb dX7_judge_0 rfl (lv_at hl 0 rfl) ?_
  refine lv_iload_n hx hb dX7_judge_1 rfl (lv_at hl 2 rfl) ?_
  refine r_cq X hS (r_runV (As := [.int d]) (rest := []) C0 X hP L_X7_50 (fun sz => c_X7_shelfAt l D cA ad o σ d  sz) (show 66 < 106 ∧ kd 66 = (7, 8) from ⟨by decide, rfl⟩).1 (show 66 < 106 ∧ kd 66 = (7, 8) from ⟨by decide, rfl⟩).2 (by decide) rfl ⟨Nat.le_of_ble_eq_true rfl, Nat.le_of_ble_eq_true rfl⟩ rfl hl.1 rfl (by decide) dX7_judge_2 ⟨Nat.zero_le _, Nat.zero_le _⟩) (fun σ9 H locs hw hP hS => ?_) (fun x9 σ9 H locs hw hP hS => ?_)
  · rw [hw.1] at hP
    have h_1 := hw.2
    refine lv_astore_nN (lv' := [(3, .null), (0, .ref (ad 66)), (1, .int a), (2, .int d)]) hx hb dX7_judge_5 rfl hl (by decide) rfl (fun ls hl => ?_)
    refine lv_aload_nN hx hb dX7_judge_6 rfl (lv_at hl 0 rfl) ?_
    refine lv_ifnullN (tgt := 21) hx hb dX7_judge_7 (by decide) ?_
    refine lv_iconst (v := (-1)) hx hb dX7_judge_21 (by decide) ?_
    exact r_iret C0 X hP hS hr hlk dX7_judge_22 rfl
  · rw [hw.1] at hP
    obtain ⟨-, j_2, hj_2, ej_2, rfl⟩ := hw
    have h_1 : ¬ (d < 0 ∨ 8 ≤ d) := by rw [ej_2]; exact nosh hj_2
    refine lv_astore_n (lv' := [(3, .ref (ad (68 + j_2))), (0, .ref (ad 66)), (1, .int a), (2, .int d)]) hx hb dX7_judge_5 rfl hl (by decide) rfl (fun ls hl => ?_)
    refine lv_aload_n hx hb dX7_judge_6 rfl (lv_at hl 0 rfl) ?_
    refine lv_ifnull hx hb dX7_judge_7 ?_
    refine lv_aload_n hx hb dX7_judge_10 rfl (lv_at hl 1 rfl) ?_
    refine gf_X7_12 C0 X hP 66 (q := 0) ⟨by decide, rfl⟩ (by omega) rfl dX7_judge_11 ?_
    refine lv_iload_n hx hb dX7_judge_14 rfl (lv_at hl 2 rfl) ?_
    refine r_cq X hS (r_runV (As := [.int a]) (rest := []) C0 X hP L_X7_99 (fun sz => c_X6_cartAt l D cA ad o σ 0 a (by decide) sz) (show 0 < 106 ∧ kd 0 = (6, 11) from ⟨by decide, rfl⟩).1 (show 0 < 106 ∧ kd 0 = (6, 11) from ⟨by decide, rfl⟩).2 (by decide) rfl ⟨Nat.le_of_ble_eq_true rfl, Nat.le_of_ble_eq_true rfl⟩ rfl hl.1 rfl (by decide) dX7_judge_15 ⟨Nat.zero_le _, Nat.zero_le _⟩) (fun σ9 H locs hw hP hS => ?_) (fun x9 σ9 H locs hw hP hS => ?_)
    · rw [hw.1] at hP
      have h_3 := hw.2
      refine lv_ifnonnullN hx hb dX7_judge_18 ?_
      refine lv_iconst (v := (-1)) hx hb dX7_judge_21 (by decide) ?_
      exact r_iret C0 X hP hS hr hlk dX7_judge_22 rfl
    · rw [hw.1] at hP
      obtain ⟨-, j_4, hj_4, ej_4, lj_4, rfl⟩ := hw
      exact absurd lj_4 (by rw [show σ (22 * 0) 2 = 0 from Fr_count hF, ej_4]; exact nI_pos (by omega))
theorem dX7_run_0 : decode cX7_run 0 = .ok (.aload_n 0, 1) := by decide +kernel
theorem dX7_run_1 : decode cX7_run 1 = .ok (.iload_n 1, 1) := by decide +kernel
theorem dX7_run_2 : decode cX7_run 2 = .ok (.invokevirtual 50, 3) := by decide +kernel
theorem dX7_run_5 : decode cX7_run 5 = .ok (.astore_n 3, 1) := by decide +kernel
theorem dX7_run_6 : decode cX7_run 6 = .ok (.aload_n 3, 1) := by decide +kernel
theorem dX7_run_7 : decode cX7_run 7 = .ok (.ifnull 12, 3) := by decide +kernel
theorem dX7_run_10 : decode cX7_run 10 = .ok (.iload_n 2, 1) := by decide +kernel
theorem dX7_run_11 : decode cX7_run 11 = .ok (.ifCond .lt 8, 3) := by decide +kernel
theorem dX7_run_14 : decode cX7_run 14 = .ok (.iload_n 2, 1) := by decide +kernel
theorem dX7_run_15 : decode cX7_run 15 = .ok (.iconst 4, 1) := by decide +kernel
theorem dX7_run_16 : decode cX7_run 16 = .ok (.if_icmp .le 5, 3) := by decide +kernel
theorem dX7_run_19 : decode cX7_run 19 = .ok (.iconst (-1), 1) := by decide +kernel
theorem dX7_run_20 : decode cX7_run 20 = .ok (.ireturn, 1) := by decide +kernel
theorem dX7_run_21 : decode cX7_run 21 = .ok (.aload_n 3, 1) := by decide +kernel
theorem dX7_run_22 : decode cX7_run 22 = .ok (.getfield 54, 3) := by decide +kernel
theorem dX7_run_25 : decode cX7_run 25 = .ok (.ifCond .ne 6, 3) := by decide +kernel
theorem dX7_run_28 : decode cX7_run 28 = .ok (.bipush (-11), 2) := by decide +kernel
theorem dX7_run_30 : decode cX7_run 30 = .ok (.ireturn, 1) := by decide +kernel
theorem dX7_run_31 : decode cX7_run 31 = .ok (.aload_n 3, 1) := by decide +kernel
theorem dX7_run_32 : decode cX7_run 32 = .ok (.getfield 54, 3) := by decide +kernel
theorem dX7_run_35 : decode cX7_run 35 = .ok (.iconst 2, 1) := by decide +kernel
theorem dX7_run_36 : decode cX7_run 36 = .ok (.if_icmp .eq 6, 3) := by decide +kernel
theorem dX7_run_39 : decode cX7_run 39 = .ok (.bipush (-12), 2) := by decide +kernel
theorem dX7_run_41 : decode cX7_run 41 = .ok (.ireturn, 1) := by decide +kernel
theorem dX7_run_42 : decode cX7_run 42 = .ok (.aload_n 3, 1) := by decide +kernel
theorem dX7_run_43 : decode cX7_run 43 = .ok (.iconst 0, 1) := by decide +kernel
theorem dX7_run_44 : decode cX7_run 44 = .ok (.sipush 200, 3) := by decide +kernel
theorem dX7_run_47 : decode cX7_run 47 = .ok (.invokevirtual 213, 3) := by decide +kernel
theorem dX7_run_50 : decode cX7_run 50 = .ok (.ifCond .ne 6, 3) := by decide +kernel
theorem dX7_run_53 : decode cX7_run 53 = .ok (.bipush (-13), 2) := by decide +kernel
theorem dX7_run_55 : decode cX7_run 55 = .ok (.ireturn, 1) := by decide +kernel
theorem dX7_run_56 : decode cX7_run 56 = .ok (.aload_n 0, 1) := by decide +kernel
theorem dX7_run_57 : decode cX7_run 57 = .ok (.invokevirtual 135, 3) := by decide +kernel
theorem dX7_run_60 : decode cX7_run 60 = .ok (.ifCond .eq 6, 3) := by decide +kernel
theorem dX7_run_63 : decode cX7_run 63 = .ok (.bipush (-3), 2) := by decide +kernel
theorem dX7_run_65 : decode cX7_run 65 = .ok (.ireturn, 1) := by decide +kernel
theorem dX7_run_66 : decode cX7_run 66 = .ok (.aload_n 0, 1) := by decide +kernel
theorem dX7_run_67 : decode cX7_run 67 = .ok (.getfield 19, 3) := by decide +kernel
theorem dX7_run_70 : decode cX7_run 70 = .ok (.aload_n 0, 1) := by decide +kernel
theorem dX7_run_71 : decode cX7_run 71 = .ok (.getfield 12, 3) := by decide +kernel
theorem dX7_run_74 : decode cX7_run 74 = .ok (.invokevirtual 62, 3) := by decide +kernel
theorem dX7_run_77 : decode cX7_run 77 = .ok (.iconst 0, 1) := by decide +kernel
theorem dX7_run_78 : decode cX7_run 78 = .ok (.istore 4, 2) := by decide +kernel
theorem dX7_run_80 : decode cX7_run 80 = .ok (.iload 4, 2) := by decide +kernel
theorem dX7_run_82 : decode cX7_run 82 = .ok (.aload_n 0, 1) := by decide +kernel
theorem dX7_run_83 : decode cX7_run 83 = .ok (.getfield 19, 3) := by decide +kernel
theorem dX7_run_86 : decode cX7_run 86 = .ok (.getfield 150, 3) := by decide +kernel
theorem dX7_run_89 : decode cX7_run 89 = .ok (.if_icmp .ge 42, 3) := by decide +kernel
theorem dX7_run_92 : decode cX7_run 92 = .ok (.aload_n 0, 1) := by decide +kernel
theorem dX7_run_93 : decode cX7_run 93 = .ok (.getfield 19, 3) := by decide +kernel
theorem dX7_run_96 : decode cX7_run 96 = .ok (.getfield 217, 3) := by decide +kernel
theorem dX7_run_99 : decode cX7_run 99 = .ok (.iload 4, 2) := by decide +kernel
theorem dX7_run_101 : decode cX7_run 101 = .ok (.aaload, 1) := by decide +kernel
theorem dX7_run_102 : decode cX7_run 102 = .ok (.iload 4, 2) := by decide +kernel
theorem dX7_run_104 : decode cX7_run 104 = .ok (.aload_n 3, 1) := by decide +kernel
theorem dX7_run_105 : decode cX7_run 105 = .ok (.getfield 204, 3) := by decide +kernel
theorem dX7_run_108 : decode cX7_run 108 = .ok (.if_icmp .ge 13, 3) := by decide +kernel
theorem dX7_run_111 : decode cX7_run 111 = .ok (.aload_n 3, 1) := by decide +kernel
theorem dX7_run_112 : decode cX7_run 112 = .ok (.getfield 207, 3) := by decide +kernel
theorem dX7_run_115 : decode cX7_run 115 = .ok (.iload 4, 2) := by decide +kernel
theorem dX7_run_117 : decode cX7_run 117 = .ok (.iaload, 1) := by decide +kernel
theorem dX7_run_118 : decode cX7_run 118 = .ok (.goto 4, 3) := by decide +kernel
theorem dX7_run_121 : decode cX7_run 121 = .ok (.iconst 0, 1) := by decide +kernel
theorem dX7_run_122 : decode cX7_run 122 = .ok (.putfield 221, 3) := by decide +kernel
theorem dX7_run_125 : decode cX7_run 125 = .ok (.iinc 4 1, 3) := by decide +kernel
theorem dX7_run_128 : decode cX7_run 128 = .ok (.goto (-48), 3) := by decide +kernel
theorem dX7_run_131 : decode cX7_run 131 = .ok (.aload_n 0, 1) := by decide +kernel
theorem dX7_run_132 : decode cX7_run 132 = .ok (.invokevirtual 224, 3) := by decide +kernel
theorem dX7_run_135 : decode cX7_run 135 = .ok (.istore 4, 2) := by decide +kernel
theorem dX7_run_137 : decode cX7_run 137 = .ok (.iload_n 2, 1) := by decide +kernel
theorem dX7_run_138 : decode cX7_run 138 = .ok (.tableswitch 57 0 3 #[30, 33, 41, 49], 30) := by decide +kernel
theorem dX7_run_168 : decode cX7_run 168 = .ok (.iload 4, 2) := by decide +kernel
theorem dX7_run_170 : decode cX7_run 170 = .ok (.ireturn, 1) := by decide +kernel
theorem dX7_run_171 : decode cX7_run 171 = .ok (.aload_n 0, 1) := by decide +kernel
theorem dX7_run_172 : decode cX7_run 172 = .ok (.getfield 19, 3) := by decide +kernel
theorem dX7_run_175 : decode cX7_run 175 = .ok (.invokevirtual 169, 3) := by decide +kernel
theorem dX7_run_178 : decode cX7_run 178 = .ok (.ireturn, 1) := by decide +kernel
theorem dX7_run_179 : decode cX7_run 179 = .ok (.aload_n 0, 1) := by decide +kernel
theorem dX7_run_180 : decode cX7_run 180 = .ok (.getfield 19, 3) := by decide +kernel
theorem dX7_run_183 : decode cX7_run 183 = .ok (.invokevirtual 173, 3) := by decide +kernel
theorem dX7_run_186 : decode cX7_run 186 = .ok (.ireturn, 1) := by decide +kernel
theorem dX7_run_187 : decode cX7_run 187 = .ok (.aload_n 0, 1) := by decide +kernel
theorem dX7_run_188 : decode cX7_run 188 = .ok (.getfield 19, 3) := by decide +kernel
theorem dX7_run_191 : decode cX7_run 191 = .ok (.getfield 144, 3) := by decide +kernel
theorem dX7_run_194 : decode cX7_run 194 = .ok (.ireturn, 1) := by decide +kernel
theorem dX7_run_195 : decode cX7_run 195 = .ok (.aload_n 0, 1) := by decide +kernel
theorem dX7_run_196 : decode cX7_run 196 = .ok (.getfield 19, 3) := by decide +kernel
theorem dX7_run_199 : decode cX7_run 199 = .ok (.invokevirtual 180, 3) := by decide +kernel
theorem dX7_run_202 : decode cX7_run 202 = .ok (.ifCond .eq 7, 3) := by decide +kernel
theorem dX7_run_205 : decode cX7_run 205 = .ok (.iconst 1, 1) := by decide +kernel
theorem dX7_run_206 : decode cX7_run 206 = .ok (.goto 4, 3) := by decide +kernel
theorem dX7_run_209 : decode cX7_run 209 = .ok (.iconst 0, 1) := by decide +kernel
theorem dX7_run_210 : decode cX7_run 210 = .ok (.ireturn, 1) := by decide +kernel
set_option maxHeartbeats 4000000 in
set_option maxRecDepth 100000 in
theorem c_X7_run_f (l : Launch) (D : va_G) (cA : Nat → ClassId) (ad : Nat → Nat) (o : Int64) (σ : Mem) (d : Int32) (w : Int32) (hF : Fr σ) (sz : Nat) : Met l yX7_run (WY yX7_run cX7_run 5 (some .int)) (RM 1) (va_Pc [.ref (ad 66), .int d, .int w] (PW D cA ad o σ sz)) (va_Qi (fun r _ => r = (if (d < 0 ∨ 8 ≤ d) ∨ w < 0 ∨ 4 < w then -1 else -11)) (QW D cA ad o) (FA ad sz)) 0 0 (FA ad sz) := by
  refine ct_of (own := RX7) (k := 1) (Qf := va_Qi (fun r _ => r = (if (d < 0 ∨ 8 ≤ d) ∨ w < 0 ∨ 4 < w then -1 else -11)) (QW D cA ad o)) rfl (by decide) (Nat.le_of_ble_eq_true rfl) (fun p e s m below meth c ls C0 X hr hlk hP hl => ?_) sz
  have hS : va_S (FA ad s.heap.size) s.heap s.heap [] := va_S.rf
  have hl : lv_has ls 5 [(0, .ref (ad 66)), (1, .int d), (2, .int w)] := hl
  obtain ⟨hx, hb, hml, hown, hts⟩ := id C0
  refine lv_aload_n hx hb dX7_run_0 rfl (lv_at hl 0 rfl) ?_
  refine lv_iload_n hx hb dX7_run_1 rfl (lv_at hl 1 rfl) ?_
  refine r_cq X hS (r_runV (As := [.int d]) (rest := []) C0 X hP L_X7_50 (fun sz => c_X7_shelfAt l D cA ad o σ d  sz) (show 66 < 106 ∧ kd 66 = (7, 8) from ⟨by decide, rfl⟩).1 (show 66 < 106 ∧ kd 66 = (7, 8) from ⟨by decide, rfl⟩).2 (by decide) rfl ⟨Nat.le_of_ble_eq_true rfl, Nat.le_of_ble_eq_true rfl⟩ rfl hl.1 rfl (by decide) dX7_run_2 ⟨Nat.zero_le _, Nat.zero_le _⟩) (fun σ9 H locs hw hP hS => ?_) (fun x9 σ9 H locs hw hP hS => ?_)
  · rw [hw.1] at hP
    have h_1 := hw.2
    refine lv_astore_nN (lv' := [(3, .null), (0, .ref (ad 66)), (1, .int d), (2, .int w)]) hx hb dX7_run_5 rfl hl (by decide) rfl (fun ls hl => ?_)
    refine lv_aload_nN hx hb dX7_run_6 rfl (lv_at hl 0 rfl) ?_
    refine lv_ifnullN (tgt := 19) hx hb dX7_run_7 (by decide) ?_
    refine lv_iconst (v := (-1)) hx hb dX7_run_19 (by decide) ?_
    exact r_iret C0 X hP hS hr hlk dX7_run_20 (by simp only [h_1, if_true, if_false, ite_true, ite_false, true_and, and_true, false_and, and_false, true_or, or_true, false_or, or_false, not_true_eq_false, not_false_eq_true, ne_eq, and_self, or_self]; try rfl)
  · rw [hw.1] at hP
    obtain ⟨-, j_2, hj_2, ej_2, rfl⟩ := hw
    have h_1 : ¬ (d < 0 ∨ 8 ≤ d) := by rw [ej_2]; exact nosh hj_2
    refine lv_astore_n (lv' := [(3, .ref (ad (68 + j_2))), (0, .ref (ad 66)), (1, .int d), (2, .int w)]) hx hb dX7_run_5 rfl hl (by decide) rfl (fun ls hl => ?_)
    refine lv_aload_n hx hb dX7_run_6 rfl (lv_at hl 0 rfl) ?_
    refine lv_ifnull hx hb dX7_run_7 ?_
    refine lv_iload_n hx hb dX7_run_10 rfl (lv_at hl 3 rfl) ?_
    refine lv_if_lt (tgt := 19) hx hb dX7_run_11 (by decide) (fun c_3 => ?_) (fun c_3 => ?_)
    · refine lv_iconst (v := (-1)) hx hb dX7_run_19 (by decide) ?_
      exact r_iret C0 X hP hS hr hlk dX7_run_20 (by simp only [h_1, c_3, Int32.not_le.mpr c_3, if_true, if_false, ite_true, ite_false, true_and, and_true, false_and, and_false, true_or, or_true, false_or, or_false, not_true_eq_false, not_false_eq_true, ne_eq, and_self, or_self]; try rfl)
    · refine lv_iload_n hx hb dX7_run_14 rfl (lv_at hl 3 rfl) ?_
      refine lv_iconst (v := 4) hx hb dX7_run_15 (by decide) ?_
      refine lv_icmp_le (tgt := 21) hx hb dX7_run_16 (by decide) (fun c_4 => ?_) (fun c_4 => ?_)
      · refine lv_aload_n hx hb dX7_run_21 rfl (lv_at hl 0 rfl) ?_
        refine gf_X7_54 C0 X hP (68 + j_2) (kdS j_2 hj_2) dX7_run_22 ?_
        refine lv_topE (y := 0) (Fr_holds hF hj_2) ?_
        refine lv_if_ne (tgt := 31) hx hb dX7_run_25 (by decide) (fun c_5 => absurd c_5 (by decide)) (fun c_5 => ?_)
        refine lv_bipush (v := (-11)) hx hb dX7_run_28 (by decide) ?_
        exact r_iret C0 X hP hS hr hlk dX7_run_30 (by simp only [h_1, c_3, c_4, Int32.not_lt.mp c_3, Int32.not_lt.mpr c_4, if_true, if_false, ite_true, ite_false, true_and, and_true, false_and, and_false, true_or, or_true, false_or, or_false, not_true_eq_false, not_false_eq_true, ne_eq, and_self, or_self]; try rfl)
      · refine lv_iconst (v := (-1)) hx hb dX7_run_19 (by decide) ?_
        exact r_iret C0 X hP hS hr hlk dX7_run_20 (by simp only [h_1, c_3, c_4, Int32.not_lt.mp c_3, Int32.not_le.mp c_4, if_true, if_false, ite_true, ite_false, true_and, and_true, false_and, and_false, true_or, or_true, false_or, or_false, not_true_eq_false, not_false_eq_true, ne_eq, and_self, or_self]; try rfl)
theorem dX7_ever_0 : decode cX7_ever 0 = .ok (.aload_n 0, 1) := by decide +kernel
theorem dX7_ever_1 : decode cX7_ever 1 = .ok (.getfield 12, 3) := by decide +kernel
theorem dX7_ever_4 : decode cX7_ever 4 = .ok (.iload_n 1, 1) := by decide +kernel
theorem dX7_ever_5 : decode cX7_ever 5 = .ok (.invokevirtual 99, 3) := by decide +kernel
theorem dX7_ever_8 : decode cX7_ever 8 = .ok (.ifnonnull 5, 3) := by decide +kernel
theorem dX7_ever_11 : decode cX7_ever 11 = .ok (.iconst (-1), 1) := by decide +kernel
theorem dX7_ever_12 : decode cX7_ever 12 = .ok (.ireturn, 1) := by decide +kernel
theorem dX7_ever_13 : decode cX7_ever 13 = .ok (.aload_n 0, 1) := by decide +kernel
theorem dX7_ever_14 : decode cX7_ever 14 = .ok (.getfield 12, 3) := by decide +kernel
theorem dX7_ever_17 : decode cX7_ever 17 = .ok (.getfield 70, 3) := by decide +kernel
theorem dX7_ever_20 : decode cX7_ever 20 = .ok (.getfield 74, 3) := by decide +kernel
theorem dX7_ever_23 : decode cX7_ever 23 = .ok (.ifCond .ne 6, 3) := by decide +kernel
theorem dX7_ever_26 : decode cX7_ever 26 = .ok (.bipush (-3), 2) := by decide +kernel
theorem dX7_ever_28 : decode cX7_ever 28 = .ok (.ireturn, 1) := by decide +kernel
theorem dX7_ever_29 : decode cX7_ever 29 = .ok (.aload_n 0, 1) := by decide +kernel
theorem dX7_ever_30 : decode cX7_ever 30 = .ok (.getfield 19, 3) := by decide +kernel
theorem dX7_ever_33 : decode cX7_ever 33 = .ok (.aload_n 0, 1) := by decide +kernel
theorem dX7_ever_34 : decode cX7_ever 34 = .ok (.getfield 12, 3) := by decide +kernel
theorem dX7_ever_37 : decode cX7_ever 37 = .ok (.invokevirtual 62, 3) := by decide +kernel
theorem dX7_ever_40 : decode cX7_ever 40 = .ok (.aload_n 0, 1) := by decide +kernel
theorem dX7_ever_41 : decode cX7_ever 41 = .ok (.getfield 19, 3) := by decide +kernel
theorem dX7_ever_44 : decode cX7_ever 44 = .ok (.iload_n 1, 1) := by decide +kernel
theorem dX7_ever_45 : decode cX7_ever 45 = .ok (.invokevirtual 99, 3) := by decide +kernel
theorem dX7_ever_48 : decode cX7_ever 48 = .ok (.astore_n 2, 1) := by decide +kernel
theorem dX7_ever_49 : decode cX7_ever 49 = .ok (.aload_n 2, 1) := by decide +kernel
theorem dX7_ever_50 : decode cX7_ever 50 = .ok (.ifnonnull 5, 3) := by decide +kernel
theorem dX7_ever_53 : decode cX7_ever 53 = .ok (.iconst (-1), 1) := by decide +kernel
theorem dX7_ever_54 : decode cX7_ever 54 = .ok (.ireturn, 1) := by decide +kernel
theorem dX7_ever_55 : decode cX7_ever 55 = .ok (.iconst 0, 1) := by decide +kernel
theorem dX7_ever_56 : decode cX7_ever 56 = .ok (.istore_n 3, 1) := by decide +kernel
theorem dX7_ever_57 : decode cX7_ever 57 = .ok (.iload_n 3, 1) := by decide +kernel
theorem dX7_ever_58 : decode cX7_ever 58 = .ok (.bipush 40, 2) := by decide +kernel
theorem dX7_ever_60 : decode cX7_ever 60 = .ok (.if_icmp .gt 31, 3) := by decide +kernel
theorem dX7_ever_63 : decode cX7_ever 63 = .ok (.aload_n 2, 1) := by decide +kernel
theorem dX7_ever_64 : decode cX7_ever 64 = .ok (.iload_n 3, 1) := by decide +kernel
theorem dX7_ever_65 : decode cX7_ever 65 = .ok (.putfield 221, 3) := by decide +kernel
theorem dX7_ever_68 : decode cX7_ever 68 = .ok (.aload_n 0, 1) := by decide +kernel
theorem dX7_ever_69 : decode cX7_ever 69 = .ok (.invokevirtual 224, 3) := by decide +kernel
theorem dX7_ever_72 : decode cX7_ever 72 = .ok (.pop, 1) := by decide +kernel
theorem dX7_ever_73 : decode cX7_ever 73 = .ok (.aload_n 0, 1) := by decide +kernel
theorem dX7_ever_74 : decode cX7_ever 74 = .ok (.getfield 19, 3) := by decide +kernel
theorem dX7_ever_77 : decode cX7_ever 77 = .ok (.invokevirtual 180, 3) := by decide +kernel
theorem dX7_ever_80 : decode cX7_ever 80 = .ok (.ifCond .eq 5, 3) := by decide +kernel
theorem dX7_ever_83 : decode cX7_ever 83 = .ok (.iload_n 3, 1) := by decide +kernel
theorem dX7_ever_84 : decode cX7_ever 84 = .ok (.ireturn, 1) := by decide +kernel
theorem dX7_ever_85 : decode cX7_ever 85 = .ok (.iinc 3 1, 3) := by decide +kernel
theorem dX7_ever_88 : decode cX7_ever 88 = .ok (.goto (-31), 3) := by decide +kernel
theorem dX7_ever_91 : decode cX7_ever 91 = .ok (.bipush (-4), 2) := by decide +kernel
theorem dX7_ever_93 : decode cX7_ever 93 = .ok (.ireturn, 1) := by decide +kernel
set_option maxHeartbeats 4000000 in
set_option maxRecDepth 100000 in
theorem c_X7_ever_f (l : Launch) (D : va_G) (cA : Nat → ClassId) (ad : Nat → Nat) (o : Int64) (σ : Mem) (a : Int32) (hF : Fr σ) (sz : Nat) : Met l yX7_ever (WY yX7_ever cX7_ever 4 (some .int)) (RM 1) (va_Pc [.ref (ad 66), .int a] (PW D cA ad o σ sz)) (va_Qi (fun r _ => r = -1) (QW D cA ad o) (FA ad sz)) 0 0 (FA ad sz) := by
  refine ct_of (own := RX7) (k := 1) (Qf := va_Qi (fun r _ => r = -1) (QW D cA ad o)) rfl (by decide) (Nat.le_of_ble_eq_true rfl) (fun p e s m below meth c ls C0 X hr hlk hP hl => ?_) sz
  have hS : va_S (FA ad s.heap.size) s.heap s.heap [] := va_S.rf
  have hl : lv_has ls 4 [(0, .ref (ad 66)), (1, .int a)] := hl
  obtain ⟨hx, hb, hml, hown, hts⟩ := id C0
  refine lv_aload_n hx hb dX7_ever_0 rfl (lv_at hl 0 rfl) ?_
  refine gf_X7_12 C0 X hP 66 (q := 0) ⟨by decide, rfl⟩ (by omega) rfl dX7_ever_1 ?_
  refine lv_iload_n hx hb dX7_ever_4 rfl (lv_at hl 1 rfl) ?_
  refine r_cq X hS (r_runV (As := [.int a]) (rest := []) C0 X hP L_X7_99 (fun sz => c_X6_cartAt l D cA ad o σ 0 a (by decide) sz) (show 0 < 106 ∧ kd 0 = (6, 11) from ⟨by decide, rfl⟩).1 (show 0 < 106 ∧ kd 0 = (6, 11) from ⟨by decide, rfl⟩).2 (by decide) rfl ⟨Nat.le_of_ble_eq_true rfl, Nat.le_of_ble_eq_true rfl⟩ rfl hl.1 rfl (by decide) dX7_ever_5 ⟨Nat.zero_le _, Nat.zero_le _⟩) (fun σ9 H locs hw hP hS => ?_) (fun x9 σ9 H locs hw hP hS => ?_)
  · rw [hw.1] at hP
    have h_1 := hw.2
    refine lv_ifnonnullN hx hb dX7_ever_8 ?_
    refine lv_iconst (v := (-1)) hx hb dX7_ever_11 (by decide) ?_
    exact r_iret C0 X hP hS hr hlk dX7_ever_12 rfl
  · rw [hw.1] at hP
    obtain ⟨-, j_2, hj_2, ej_2, lj_2, rfl⟩ := hw
    exact absurd lj_2 (by rw [show σ (22 * 0) 2 = 0 from Fr_count hF, ej_2]; exact nI_pos (by omega))
theorem dX7_best_0 : decode cX7_best 0 = .ok (.iload_n 1, 1) := by decide +kernel
theorem dX7_best_1 : decode cX7_best 1 = .ok (.ifCond .eq 10, 3) := by decide +kernel
theorem dX7_best_4 : decode cX7_best 4 = .ok (.iload_n 1, 1) := by decide +kernel
theorem dX7_best_5 : decode cX7_best 5 = .ok (.iconst 1, 1) := by decide +kernel
theorem dX7_best_6 : decode cX7_best 6 = .ok (.if_icmp .eq 5, 3) := by decide +kernel
theorem dX7_best_9 : decode cX7_best 9 = .ok (.iconst (-1), 1) := by decide +kernel
theorem dX7_best_10 : decode cX7_best 10 = .ok (.ireturn, 1) := by decide +kernel
theorem dX7_best_11 : decode cX7_best 11 = .ok (.aload_n 0, 1) := by decide +kernel
theorem dX7_best_12 : decode cX7_best 12 = .ok (.invokevirtual 135, 3) := by decide +kernel
theorem dX7_best_15 : decode cX7_best 15 = .ok (.ifCond .eq 6, 3) := by decide +kernel
theorem dX7_best_18 : decode cX7_best 18 = .ok (.bipush (-3), 2) := by decide +kernel
theorem dX7_best_20 : decode cX7_best 20 = .ok (.ireturn, 1) := by decide +kernel
theorem dX7_best_21 : decode cX7_best 21 = .ok (.aload_n 0, 1) := by decide +kernel
theorem dX7_best_22 : decode cX7_best 22 = .ok (.getfield 19, 3) := by decide +kernel
theorem dX7_best_25 : decode cX7_best 25 = .ok (.aload_n 0, 1) := by decide +kernel
theorem dX7_best_26 : decode cX7_best 26 = .ok (.getfield 12, 3) := by decide +kernel
theorem dX7_best_29 : decode cX7_best 29 = .ok (.invokevirtual 62, 3) := by decide +kernel
theorem dX7_best_32 : decode cX7_best 32 = .ok (.iconst 4, 1) := by decide +kernel
theorem dX7_best_33 : decode cX7_best 33 = .ok (.aload_n 0, 1) := by decide +kernel
theorem dX7_best_34 : decode cX7_best 34 = .ok (.getfield 19, 3) := by decide +kernel
theorem dX7_best_37 : decode cX7_best 37 = .ok (.getfield 150, 3) := by decide +kernel
theorem dX7_best_40 : decode cX7_best 40 = .ok (.invokestatic 227, 3) := by decide +kernel
theorem dX7_best_43 : decode cX7_best 43 = .ok (.istore_n 2, 1) := by decide +kernel
theorem dX7_best_44 : decode cX7_best 44 = .ok (.aload_n 0, 1) := by decide +kernel
theorem dX7_best_45 : decode cX7_best 45 = .ok (.getfield 31, 3) := by decide +kernel
theorem dX7_best_48 : decode cX7_best 48 = .ok (.invokevirtual 233, 3) := by decide +kernel
theorem dX7_best_51 : decode cX7_best 51 = .ok (.iconst 0, 1) := by decide +kernel
theorem dX7_best_52 : decode cX7_best 52 = .ok (.istore_n 3, 1) := by decide +kernel
theorem dX7_best_53 : decode cX7_best 53 = .ok (.iload_n 3, 1) := by decide +kernel
theorem dX7_best_54 : decode cX7_best 54 = .ok (.iconst 1, 1) := by decide +kernel
theorem dX7_best_55 : decode cX7_best 55 = .ok (.iconst 2, 1) := by decide +kernel
theorem dX7_best_56 : decode cX7_best 56 = .ok (.iload_n 2, 1) := by decide +kernel
theorem dX7_best_57 : decode cX7_best 57 = .ok (.imul, 1) := by decide +kernel
theorem dX7_best_58 : decode cX7_best 58 = .ok (.ishl, 1) := by decide +kernel
theorem dX7_best_59 : decode cX7_best 59 = .ok (.if_icmp .ge 59, 3) := by decide +kernel
theorem dX7_best_62 : decode cX7_best 62 = .ok (.iconst 0, 1) := by decide +kernel
theorem dX7_best_63 : decode cX7_best 63 = .ok (.istore 4, 2) := by decide +kernel
theorem dX7_best_65 : decode cX7_best 65 = .ok (.iload 4, 2) := by decide +kernel
theorem dX7_best_67 : decode cX7_best 67 = .ok (.iload_n 2, 1) := by decide +kernel
theorem dX7_best_68 : decode cX7_best 68 = .ok (.if_icmp .ge 32, 3) := by decide +kernel
theorem dX7_best_71 : decode cX7_best 71 = .ok (.aload_n 0, 1) := by decide +kernel
theorem dX7_best_72 : decode cX7_best 72 = .ok (.getfield 19, 3) := by decide +kernel
theorem dX7_best_75 : decode cX7_best 75 = .ok (.getfield 217, 3) := by decide +kernel
theorem dX7_best_78 : decode cX7_best 78 = .ok (.iload 4, 2) := by decide +kernel
theorem dX7_best_80 : decode cX7_best 80 = .ok (.aaload, 1) := by decide +kernel
theorem dX7_best_81 : decode cX7_best 81 = .ok (.iconst 5, 1) := by decide +kernel
theorem dX7_best_82 : decode cX7_best 82 = .ok (.iload_n 3, 1) := by decide +kernel
theorem dX7_best_83 : decode cX7_best 83 = .ok (.iconst 2, 1) := by decide +kernel
theorem dX7_best_84 : decode cX7_best 84 = .ok (.iload 4, 2) := by decide +kernel
theorem dX7_best_86 : decode cX7_best 86 = .ok (.imul, 1) := by decide +kernel
theorem dX7_best_87 : decode cX7_best 87 = .ok (.ishr, 1) := by decide +kernel
theorem dX7_best_88 : decode cX7_best 88 = .ok (.iconst 3, 1) := by decide +kernel
theorem dX7_best_89 : decode cX7_best 89 = .ok (.iand, 1) := by decide +kernel
theorem dX7_best_90 : decode cX7_best 90 = .ok (.imul, 1) := by decide +kernel
theorem dX7_best_91 : decode cX7_best 91 = .ok (.putfield 221, 3) := by decide +kernel
theorem dX7_best_94 : decode cX7_best 94 = .ok (.iinc 4 1, 3) := by decide +kernel
theorem dX7_best_97 : decode cX7_best 97 = .ok (.goto (-32), 3) := by decide +kernel
theorem dX7_best_100 : decode cX7_best 100 = .ok (.aload_n 0, 1) := by decide +kernel
theorem dX7_best_101 : decode cX7_best 101 = .ok (.getfield 31, 3) := by decide +kernel
theorem dX7_best_104 : decode cX7_best 104 = .ok (.iload_n 3, 1) := by decide +kernel
theorem dX7_best_105 : decode cX7_best 105 = .ok (.aload_n 0, 1) := by decide +kernel
theorem dX7_best_106 : decode cX7_best 106 = .ok (.invokevirtual 224, 3) := by decide +kernel
theorem dX7_best_109 : decode cX7_best 109 = .ok (.invokevirtual 236, 3) := by decide +kernel
theorem dX7_best_112 : decode cX7_best 112 = .ok (.iinc 3 1, 3) := by decide +kernel
theorem dX7_best_115 : decode cX7_best 115 = .ok (.goto (-62), 3) := by decide +kernel
theorem dX7_best_118 : decode cX7_best 118 = .ok (.iload_n 1, 1) := by decide +kernel
theorem dX7_best_119 : decode cX7_best 119 = .ok (.ifCond .ne 13, 3) := by decide +kernel
theorem dX7_best_122 : decode cX7_best 122 = .ok (.aload_n 0, 1) := by decide +kernel
theorem dX7_best_123 : decode cX7_best 123 = .ok (.getfield 31, 3) := by decide +kernel
theorem dX7_best_126 : decode cX7_best 126 = .ok (.getfield 240, 3) := by decide +kernel
theorem dX7_best_129 : decode cX7_best 129 = .ok (.goto 10, 3) := by decide +kernel
theorem dX7_best_132 : decode cX7_best 132 = .ok (.aload_n 0, 1) := by decide +kernel
theorem dX7_best_133 : decode cX7_best 133 = .ok (.getfield 31, 3) := by decide +kernel
theorem dX7_best_136 : decode cX7_best 136 = .ok (.getfield 243, 3) := by decide +kernel
theorem dX7_best_139 : decode cX7_best 139 = .ok (.ireturn, 1) := by decide +kernel
set_option maxHeartbeats 4000000 in
set_option maxRecDepth 100000 in
theorem c_X7_best_f (l : Launch) (D : va_G) (cA : Nat → ClassId) (ad : Nat → Nat) (o : Int64) (σ : Mem) (w : Int32) (hF : Fr σ) (sz : Nat) : Met l yX7_best (WY yX7_best cX7_best 5 (some .int)) (RM 1) (va_Pc [.ref (ad 66), .int w] (PW D cA ad o σ sz)) (va_Qi (fun r _ => r = (if w = 0 ∨ w = 1 then -3 else -1)) (QW D cA ad o) (FA ad sz)) 0 0 (FA ad sz) := by
  refine ct_of (own := RX7) (k := 1) (Qf := va_Qi (fun r _ => r = (if w = 0 ∨ w = 1 then -3 else -1)) (QW D cA ad o)) rfl (by decide) (Nat.le_of_ble_eq_true rfl) (fun p e s m below meth c ls C0 X hr hlk hP hl => ?_) sz
  have hS : va_S (FA ad s.heap.size) s.heap s.heap [] := va_S.rf
  have hl : lv_has ls 5 [(0, .ref (ad 66)), (1, .int w)] := hl
  obtain ⟨hx, hb, hml, hown, hts⟩ := id C0
  refine lv_iload_n hx hb dX7_best_0 rfl (lv_at hl 1 rfl) ?_
  refine lv_if_eq (tgt := 11) hx hb dX7_best_1 (by decide) (fun c_1 => ?_) (fun c_1 => ?_)
  · refine lv_aload_n hx hb dX7_best_11 rfl (lv_at hl 0 rfl) ?_
    refine r_ci X hS (r_runV (As := []) (rest := []) C0 X hP L_X7_135 (fun sz => c_X7_cannotRun l D cA ad o σ   sz) (show 66 < 106 ∧ kd 66 = (7, 8) from ⟨by decide, rfl⟩).1 (show 66 < 106 ∧ kd 66 = (7, 8) from ⟨by decide, rfl⟩).2 (by decide) rfl ⟨Nat.le_of_ble_eq_true rfl, Nat.le_of_ble_eq_true rfl⟩ rfl hl.1 rfl (by decide) dX7_best_12 ⟨Nat.zero_le _, Nat.zero_le _⟩) (fun r σ9 H locs hw hP hS => ?_)
    rw [hw.2] at hP
    obtain ⟨⟨b_2, rfl⟩ | ⟨b_2, rfl⟩, -⟩ := hw
    · refine lv_if_eq (tgt := 21) hx hb dX7_best_15 (by decide) (fun c_3 => absurd c_3 (by decide)) (fun c_3 => ?_)
      refine lv_bipush (v := (-3)) hx hb dX7_best_18 (by decide) ?_
      exact r_iret C0 X hP hS hr hlk dX7_best_20 (by simp only [c_1, b_2, if_true, if_false, ite_true, ite_false, true_and, and_true, false_and, and_false, true_or, or_true, false_or, or_false, not_true_eq_false, not_false_eq_true, ne_eq, and_self, or_self]; try rfl)
    · exact absurd (Or.inl (Fr_pieces hF)) b_2
  · refine lv_iload_n hx hb dX7_best_4 rfl (lv_at hl 1 rfl) ?_
    refine lv_iconst (v := 1) hx hb dX7_best_5 (by decide) ?_
    refine lv_icmp_eq (tgt := 11) hx hb dX7_best_6 (by decide) (fun c_4 => ?_) (fun c_4 => ?_)
    · refine lv_aload_n hx hb dX7_best_11 rfl (lv_at hl 0 rfl) ?_
      refine r_ci X hS (r_runV (As := []) (rest := []) C0 X hP L_X7_135 (fun sz => c_X7_cannotRun l D cA ad o σ   sz) (show 66 < 106 ∧ kd 66 = (7, 8) from ⟨by decide, rfl⟩).1 (show 66 < 106 ∧ kd 66 = (7, 8) from ⟨by decide, rfl⟩).2 (by decide) rfl ⟨Nat.le_of_ble_eq_true rfl, Nat.le_of_ble_eq_true rfl⟩ rfl hl.1 rfl (by decide) dX7_best_12 ⟨Nat.zero_le _, Nat.zero_le _⟩) (fun r σ9 H locs hw hP hS => ?_)
      rw [hw.2] at hP
      obtain ⟨⟨b_5, rfl⟩ | ⟨b_5, rfl⟩, -⟩ := hw
      · refine lv_if_eq (tgt := 21) hx hb dX7_best_15 (by decide) (fun c_6 => absurd c_6 (by decide)) (fun c_6 => ?_)
        refine lv_bipush (v := (-3)) hx hb dX7_best_18 (by decide) ?_
        exact r_iret C0 X hP hS hr hlk dX7_best_20 (by simp only [c_1, c_4, b_5, if_true, if_false, ite_true, ite_false, true_and, and_true, false_and, and_false, true_or, or_true, false_or, or_false, not_true_eq_false, not_false_eq_true, ne_eq, and_self, or_self]; try rfl)
      · exact absurd (Or.inl (Fr_pieces hF)) b_5
    · refine lv_iconst (v := (-1)) hx hb dX7_best_9 (by decide) ?_
      exact r_iret C0 X hP hS hr hlk dX7_best_10 (by simp only [c_1, c_4, if_true, if_false, ite_true, ite_false, true_and, and_true, false_and, and_false, true_or, or_true, false_or, or_false, not_true_eq_false, not_false_eq_true, ne_eq, and_self, or_self]; try rfl)
theorem dX7_more_0 : decode cX7_more 0 = .ok (.iload_n 1, 1) := by decide +kernel
theorem dX7_more_1 : decode cX7_more 1 = .ok (.ifCond .eq 10, 3) := by decide +kernel
theorem dX7_more_4 : decode cX7_more 4 = .ok (.iload_n 1, 1) := by decide +kernel
theorem dX7_more_5 : decode cX7_more 5 = .ok (.iconst 1, 1) := by decide +kernel
theorem dX7_more_6 : decode cX7_more 6 = .ok (.if_icmp .eq 5, 3) := by decide +kernel
theorem dX7_more_9 : decode cX7_more 9 = .ok (.iconst (-1), 1) := by decide +kernel
theorem dX7_more_10 : decode cX7_more 10 = .ok (.ireturn, 1) := by decide +kernel
theorem dX7_more_11 : decode cX7_more 11 = .ok (.aload_n 0, 1) := by decide +kernel
theorem dX7_more_12 : decode cX7_more 12 = .ok (.invokevirtual 135, 3) := by decide +kernel
theorem dX7_more_15 : decode cX7_more 15 = .ok (.ifCond .eq 6, 3) := by decide +kernel
theorem dX7_more_18 : decode cX7_more 18 = .ok (.bipush (-3), 2) := by decide +kernel
theorem dX7_more_20 : decode cX7_more 20 = .ok (.ireturn, 1) := by decide +kernel
theorem dX7_more_21 : decode cX7_more 21 = .ok (.aload_n 0, 1) := by decide +kernel
theorem dX7_more_22 : decode cX7_more 22 = .ok (.getfield 19, 3) := by decide +kernel
theorem dX7_more_25 : decode cX7_more 25 = .ok (.aload_n 0, 1) := by decide +kernel
theorem dX7_more_26 : decode cX7_more 26 = .ok (.getfield 12, 3) := by decide +kernel
theorem dX7_more_29 : decode cX7_more 29 = .ok (.invokevirtual 62, 3) := by decide +kernel
theorem dX7_more_32 : decode cX7_more 32 = .ok (.aload_n 0, 1) := by decide +kernel
theorem dX7_more_33 : decode cX7_more 33 = .ok (.getfield 31, 3) := by decide +kernel
theorem dX7_more_36 : decode cX7_more 36 = .ok (.invokevirtual 233, 3) := by decide +kernel
theorem dX7_more_39 : decode cX7_more 39 = .ok (.iconst 1, 1) := by decide +kernel
theorem dX7_more_40 : decode cX7_more 40 = .ok (.istore_n 2, 1) := by decide +kernel
theorem dX7_more_41 : decode cX7_more 41 = .ok (.iload_n 2, 1) := by decide +kernel
theorem dX7_more_42 : decode cX7_more 42 = .ok (.aload_n 0, 1) := by decide +kernel
theorem dX7_more_43 : decode cX7_more 43 = .ok (.getfield 19, 3) := by decide +kernel
theorem dX7_more_46 : decode cX7_more 46 = .ok (.getfield 70, 3) := by decide +kernel
theorem dX7_more_49 : decode cX7_more 49 = .ok (.getfield 74, 3) := by decide +kernel
theorem dX7_more_52 : decode cX7_more 52 = .ok (.if_icmp .ge 78, 3) := by decide +kernel
theorem dX7_more_55 : decode cX7_more 55 = .ok (.iload_n 2, 1) := by decide +kernel
theorem dX7_more_56 : decode cX7_more 56 = .ok (.bipush 8, 2) := by decide +kernel
theorem dX7_more_58 : decode cX7_more 58 = .ok (.if_icmp .ge 72, 3) := by decide +kernel
theorem dX7_more_61 : decode cX7_more 61 = .ok (.aload_n 0, 1) := by decide +kernel
theorem dX7_more_62 : decode cX7_more 62 = .ok (.getfield 19, 3) := by decide +kernel
theorem dX7_more_65 : decode cX7_more 65 = .ok (.getfield 70, 3) := by decide +kernel
theorem dX7_more_68 : decode cX7_more 68 = .ok (.getfield 96, 3) := by decide +kernel
theorem dX7_more_71 : decode cX7_more 71 = .ok (.iload_n 2, 1) := by decide +kernel
theorem dX7_more_72 : decode cX7_more 72 = .ok (.iaload, 1) := by decide +kernel
theorem dX7_more_73 : decode cX7_more 73 = .ok (.iconst 4, 1) := by decide +kernel
theorem dX7_more_74 : decode cX7_more 74 = .ok (.if_icmp .lt 6, 3) := by decide +kernel
theorem dX7_more_77 : decode cX7_more 77 = .ok (.goto 47, 3) := by decide +kernel
theorem dX7_more_80 : decode cX7_more 80 = .ok (.aload_n 0, 1) := by decide +kernel
theorem dX7_more_81 : decode cX7_more 81 = .ok (.getfield 19, 3) := by decide +kernel
theorem dX7_more_84 : decode cX7_more 84 = .ok (.getfield 70, 3) := by decide +kernel
theorem dX7_more_87 : decode cX7_more 87 = .ok (.getfield 96, 3) := by decide +kernel
theorem dX7_more_90 : decode cX7_more 90 = .ok (.iload_n 2, 1) := by decide +kernel
theorem dX7_more_91 : decode cX7_more 91 = .ok (.dup2, 1) := by decide +kernel
theorem dX7_more_92 : decode cX7_more 92 = .ok (.iaload, 1) := by decide +kernel
theorem dX7_more_93 : decode cX7_more 93 = .ok (.iconst 1, 1) := by decide +kernel
theorem dX7_more_94 : decode cX7_more 94 = .ok (.iadd, 1) := by decide +kernel
theorem dX7_more_95 : decode cX7_more 95 = .ok (.iastore, 1) := by decide +kernel
theorem dX7_more_96 : decode cX7_more 96 = .ok (.aload_n 0, 1) := by decide +kernel
theorem dX7_more_97 : decode cX7_more 97 = .ok (.getfield 31, 3) := by decide +kernel
theorem dX7_more_100 : decode cX7_more 100 = .ok (.iload_n 2, 1) := by decide +kernel
theorem dX7_more_101 : decode cX7_more 101 = .ok (.aload_n 0, 1) := by decide +kernel
theorem dX7_more_102 : decode cX7_more 102 = .ok (.invokevirtual 224, 3) := by decide +kernel
theorem dX7_more_105 : decode cX7_more 105 = .ok (.invokevirtual 236, 3) := by decide +kernel
theorem dX7_more_108 : decode cX7_more 108 = .ok (.aload_n 0, 1) := by decide +kernel
theorem dX7_more_109 : decode cX7_more 109 = .ok (.getfield 19, 3) := by decide +kernel
theorem dX7_more_112 : decode cX7_more 112 = .ok (.getfield 70, 3) := by decide +kernel
theorem dX7_more_115 : decode cX7_more 115 = .ok (.getfield 96, 3) := by decide +kernel
theorem dX7_more_118 : decode cX7_more 118 = .ok (.iload_n 2, 1) := by decide +kernel
theorem dX7_more_119 : decode cX7_more 119 = .ok (.dup2, 1) := by decide +kernel
theorem dX7_more_120 : decode cX7_more 120 = .ok (.iaload, 1) := by decide +kernel
theorem dX7_more_121 : decode cX7_more 121 = .ok (.iconst 1, 1) := by decide +kernel
theorem dX7_more_122 : decode cX7_more 122 = .ok (.isub, 1) := by decide +kernel
theorem dX7_more_123 : decode cX7_more 123 = .ok (.iastore, 1) := by decide +kernel
theorem dX7_more_124 : decode cX7_more 124 = .ok (.iinc 2 1, 3) := by decide +kernel
theorem dX7_more_127 : decode cX7_more 127 = .ok (.goto (-86), 3) := by decide +kernel
theorem dX7_more_130 : decode cX7_more 130 = .ok (.iload_n 1, 1) := by decide +kernel
theorem dX7_more_131 : decode cX7_more 131 = .ok (.ifCond .ne 13, 3) := by decide +kernel
theorem dX7_more_134 : decode cX7_more 134 = .ok (.aload_n 0, 1) := by decide +kernel
theorem dX7_more_135 : decode cX7_more 135 = .ok (.getfield 31, 3) := by decide +kernel
theorem dX7_more_138 : decode cX7_more 138 = .ok (.getfield 240, 3) := by decide +kernel
theorem dX7_more_141 : decode cX7_more 141 = .ok (.goto 10, 3) := by decide +kernel
theorem dX7_more_144 : decode cX7_more 144 = .ok (.aload_n 0, 1) := by decide +kernel
theorem dX7_more_145 : decode cX7_more 145 = .ok (.getfield 31, 3) := by decide +kernel
theorem dX7_more_148 : decode cX7_more 148 = .ok (.getfield 243, 3) := by decide +kernel
theorem dX7_more_151 : decode cX7_more 151 = .ok (.ireturn, 1) := by decide +kernel
set_option maxHeartbeats 4000000 in
set_option maxRecDepth 100000 in
theorem c_X7_more_f (l : Launch) (D : va_G) (cA : Nat → ClassId) (ad : Nat → Nat) (o : Int64) (σ : Mem) (w : Int32) (hF : Fr σ) (sz : Nat) : Met l yX7_more (WY yX7_more cX7_more 3 (some .int)) (RM 1) (va_Pc [.ref (ad 66), .int w] (PW D cA ad o σ sz)) (va_Qi (fun r _ => r = (if w = 0 ∨ w = 1 then -3 else -1)) (QW D cA ad o) (FA ad sz)) 0 0 (FA ad sz) := by
  refine ct_of (own := RX7) (k := 1) (Qf := va_Qi (fun r _ => r = (if w = 0 ∨ w = 1 then -3 else -1)) (QW D cA ad o)) rfl (by decide) (Nat.le_of_ble_eq_true rfl) (fun p e s m below meth c ls C0 X hr hlk hP hl => ?_) sz
  have hS : va_S (FA ad s.heap.size) s.heap s.heap [] := va_S.rf
  have hl : lv_has ls 3 [(0, .ref (ad 66)), (1, .int w)] := hl
  obtain ⟨hx, hb, hml, hown, hts⟩ := id C0
  refine lv_iload_n hx hb dX7_more_0 rfl (lv_at hl 1 rfl) ?_
  refine lv_if_eq (tgt := 11) hx hb dX7_more_1 (by decide) (fun c_1 => ?_) (fun c_1 => ?_)
  · refine lv_aload_n hx hb dX7_more_11 rfl (lv_at hl 0 rfl) ?_
    refine r_ci X hS (r_runV (As := []) (rest := []) C0 X hP L_X7_135 (fun sz => c_X7_cannotRun l D cA ad o σ   sz) (show 66 < 106 ∧ kd 66 = (7, 8) from ⟨by decide, rfl⟩).1 (show 66 < 106 ∧ kd 66 = (7, 8) from ⟨by decide, rfl⟩).2 (by decide) rfl ⟨Nat.le_of_ble_eq_true rfl, Nat.le_of_ble_eq_true rfl⟩ rfl hl.1 rfl (by decide) dX7_more_12 ⟨Nat.zero_le _, Nat.zero_le _⟩) (fun r σ9 H locs hw hP hS => ?_)
    rw [hw.2] at hP
    obtain ⟨⟨b_2, rfl⟩ | ⟨b_2, rfl⟩, -⟩ := hw
    · refine lv_if_eq (tgt := 21) hx hb dX7_more_15 (by decide) (fun c_3 => absurd c_3 (by decide)) (fun c_3 => ?_)
      refine lv_bipush (v := (-3)) hx hb dX7_more_18 (by decide) ?_
      exact r_iret C0 X hP hS hr hlk dX7_more_20 (by simp only [c_1, b_2, if_true, if_false, ite_true, ite_false, true_and, and_true, false_and, and_false, true_or, or_true, false_or, or_false, not_true_eq_false, not_false_eq_true, ne_eq, and_self, or_self]; try rfl)
    · exact absurd (Or.inl (Fr_pieces hF)) b_2
  · refine lv_iload_n hx hb dX7_more_4 rfl (lv_at hl 1 rfl) ?_
    refine lv_iconst (v := 1) hx hb dX7_more_5 (by decide) ?_
    refine lv_icmp_eq (tgt := 11) hx hb dX7_more_6 (by decide) (fun c_4 => ?_) (fun c_4 => ?_)
    · refine lv_aload_n hx hb dX7_more_11 rfl (lv_at hl 0 rfl) ?_
      refine r_ci X hS (r_runV (As := []) (rest := []) C0 X hP L_X7_135 (fun sz => c_X7_cannotRun l D cA ad o σ   sz) (show 66 < 106 ∧ kd 66 = (7, 8) from ⟨by decide, rfl⟩).1 (show 66 < 106 ∧ kd 66 = (7, 8) from ⟨by decide, rfl⟩).2 (by decide) rfl ⟨Nat.le_of_ble_eq_true rfl, Nat.le_of_ble_eq_true rfl⟩ rfl hl.1 rfl (by decide) dX7_more_12 ⟨Nat.zero_le _, Nat.zero_le _⟩) (fun r σ9 H locs hw hP hS => ?_)
      rw [hw.2] at hP
      obtain ⟨⟨b_5, rfl⟩ | ⟨b_5, rfl⟩, -⟩ := hw
      · refine lv_if_eq (tgt := 21) hx hb dX7_more_15 (by decide) (fun c_6 => absurd c_6 (by decide)) (fun c_6 => ?_)
        refine lv_bipush (v := (-3)) hx hb dX7_more_18 (by decide) ?_
        exact r_iret C0 X hP hS hr hlk dX7_more_20 (by simp only [c_1, c_4, b_5, if_true, if_false, ite_true, ite_false, true_and, and_true, false_and, and_false, true_or, or_true, false_or, or_false, not_true_eq_false, not_false_eq_true, ne_eq, and_self, or_self]; try rfl)
      · exact absurd (Or.inl (Fr_pieces hF)) b_5
    · refine lv_iconst (v := (-1)) hx hb dX7_more_9 (by decide) ?_
      exact r_iret C0 X hP hS hr hlk dX7_more_10 (by simp only [c_1, c_4, if_true, if_false, ite_true, ite_false, true_and, and_true, false_and, and_false, true_or, or_true, false_or, or_false, not_true_eq_false, not_false_eq_true, ne_eq, and_self, or_self]; try rfl)
theorem dX7_hours_0 : decode cX7_hours 0 = .ok (.iload_n 1, 1) := by decide +kernel
theorem dX7_hours_1 : decode cX7_hours 1 = .ok (.ifCond .eq 10, 3) := by decide +kernel
theorem dX7_hours_4 : decode cX7_hours 4 = .ok (.iload_n 1, 1) := by decide +kernel
theorem dX7_hours_5 : decode cX7_hours 5 = .ok (.iconst 1, 1) := by decide +kernel
theorem dX7_hours_6 : decode cX7_hours 6 = .ok (.if_icmp .eq 5, 3) := by decide +kernel
theorem dX7_hours_9 : decode cX7_hours 9 = .ok (.iconst (-1), 1) := by decide +kernel
theorem dX7_hours_10 : decode cX7_hours 10 = .ok (.ireturn, 1) := by decide +kernel
theorem dX7_hours_11 : decode cX7_hours 11 = .ok (.aload_n 0, 1) := by decide +kernel
theorem dX7_hours_12 : decode cX7_hours 12 = .ok (.invokevirtual 135, 3) := by decide +kernel
theorem dX7_hours_15 : decode cX7_hours 15 = .ok (.ifCond .eq 6, 3) := by decide +kernel
theorem dX7_hours_18 : decode cX7_hours 18 = .ok (.bipush (-3), 2) := by decide +kernel
theorem dX7_hours_20 : decode cX7_hours 20 = .ok (.ireturn, 1) := by decide +kernel
theorem dX7_hours_21 : decode cX7_hours 21 = .ok (.aload_n 0, 1) := by decide +kernel
theorem dX7_hours_22 : decode cX7_hours 22 = .ok (.getfield 19, 3) := by decide +kernel
theorem dX7_hours_25 : decode cX7_hours 25 = .ok (.aload_n 0, 1) := by decide +kernel
theorem dX7_hours_26 : decode cX7_hours 26 = .ok (.getfield 12, 3) := by decide +kernel
theorem dX7_hours_29 : decode cX7_hours 29 = .ok (.invokevirtual 62, 3) := by decide +kernel
theorem dX7_hours_32 : decode cX7_hours 32 = .ok (.aload_n 0, 1) := by decide +kernel
theorem dX7_hours_33 : decode cX7_hours 33 = .ok (.getfield 31, 3) := by decide +kernel
theorem dX7_hours_36 : decode cX7_hours 36 = .ok (.invokevirtual 233, 3) := by decide +kernel
theorem dX7_hours_39 : decode cX7_hours 39 = .ok (.iconst 0, 1) := by decide +kernel
theorem dX7_hours_40 : decode cX7_hours 40 = .ok (.istore_n 2, 1) := by decide +kernel
theorem dX7_hours_41 : decode cX7_hours 41 = .ok (.iload_n 2, 1) := by decide +kernel
theorem dX7_hours_42 : decode cX7_hours 42 = .ok (.bipush 9, 2) := by decide +kernel
theorem dX7_hours_44 : decode cX7_hours 44 = .ok (.if_icmp .gt 27, 3) := by decide +kernel
theorem dX7_hours_47 : decode cX7_hours 47 = .ok (.aload_n 0, 1) := by decide +kernel
theorem dX7_hours_48 : decode cX7_hours 48 = .ok (.iconst 3, 1) := by decide +kernel
theorem dX7_hours_49 : decode cX7_hours 49 = .ok (.iload_n 2, 1) := by decide +kernel
theorem dX7_hours_50 : decode cX7_hours 50 = .ok (.invokevirtual 246, 3) := by decide +kernel
theorem dX7_hours_53 : decode cX7_hours 53 = .ok (.aload_n 0, 1) := by decide +kernel
theorem dX7_hours_54 : decode cX7_hours 54 = .ok (.getfield 31, 3) := by decide +kernel
theorem dX7_hours_57 : decode cX7_hours 57 = .ok (.iload_n 2, 1) := by decide +kernel
theorem dX7_hours_58 : decode cX7_hours 58 = .ok (.aload_n 0, 1) := by decide +kernel
theorem dX7_hours_59 : decode cX7_hours 59 = .ok (.invokevirtual 224, 3) := by decide +kernel
theorem dX7_hours_62 : decode cX7_hours 62 = .ok (.invokevirtual 236, 3) := by decide +kernel
theorem dX7_hours_65 : decode cX7_hours 65 = .ok (.iinc 2 1, 3) := by decide +kernel
theorem dX7_hours_68 : decode cX7_hours 68 = .ok (.goto (-27), 3) := by decide +kernel
theorem dX7_hours_71 : decode cX7_hours 71 = .ok (.iload_n 1, 1) := by decide +kernel
theorem dX7_hours_72 : decode cX7_hours 72 = .ok (.ifCond .ne 13, 3) := by decide +kernel
theorem dX7_hours_75 : decode cX7_hours 75 = .ok (.aload_n 0, 1) := by decide +kernel
theorem dX7_hours_76 : decode cX7_hours 76 = .ok (.getfield 31, 3) := by decide +kernel
theorem dX7_hours_79 : decode cX7_hours 79 = .ok (.getfield 240, 3) := by decide +kernel
theorem dX7_hours_82 : decode cX7_hours 82 = .ok (.goto 10, 3) := by decide +kernel
theorem dX7_hours_85 : decode cX7_hours 85 = .ok (.aload_n 0, 1) := by decide +kernel
theorem dX7_hours_86 : decode cX7_hours 86 = .ok (.getfield 31, 3) := by decide +kernel
theorem dX7_hours_89 : decode cX7_hours 89 = .ok (.getfield 243, 3) := by decide +kernel
theorem dX7_hours_92 : decode cX7_hours 92 = .ok (.ireturn, 1) := by decide +kernel
set_option maxHeartbeats 4000000 in
set_option maxRecDepth 100000 in
theorem c_X7_hours_f (l : Launch) (D : va_G) (cA : Nat → ClassId) (ad : Nat → Nat) (o : Int64) (σ : Mem) (w : Int32) (hF : Fr σ) (sz : Nat) : Met l yX7_hours (WY yX7_hours cX7_hours 3 (some .int)) (RM 1) (va_Pc [.ref (ad 66), .int w] (PW D cA ad o σ sz)) (va_Qi (fun r _ => r = (if w = 0 ∨ w = 1 then -3 else -1)) (QW D cA ad o) (FA ad sz)) 0 0 (FA ad sz) := by
  refine ct_of (own := RX7) (k := 1) (Qf := va_Qi (fun r _ => r = (if w = 0 ∨ w = 1 then -3 else -1)) (QW D cA ad o)) rfl (by decide) (Nat.le_of_ble_eq_true rfl) (fun p e s m below meth c ls C0 X hr hlk hP hl => ?_) sz
  have hS : va_S (FA ad s.heap.size) s.heap s.heap [] := va_S.rf
  have hl : lv_has ls 3 [(0, .ref (ad 66)), (1, .int w)] := hl
  obtain ⟨hx, hb, hml, hown, hts⟩ := id C0
  refine lv_iload_n hx hb dX7_hours_0 rfl (lv_at hl 1 rfl) ?_
  refine lv_if_eq (tgt := 11) hx hb dX7_hours_1 (by decide) (fun c_1 => ?_) (fun c_1 => ?_)
  · refine lv_aload_n hx hb dX7_hours_11 rfl (lv_at hl 0 rfl) ?_
    refine r_ci X hS (r_runV (As := []) (rest := []) C0 X hP L_X7_135 (fun sz => c_X7_cannotRun l D cA ad o σ   sz) (show 66 < 106 ∧ kd 66 = (7, 8) from ⟨by decide, rfl⟩).1 (show 66 < 106 ∧ kd 66 = (7, 8) from ⟨by decide, rfl⟩).2 (by decide) rfl ⟨Nat.le_of_ble_eq_true rfl, Nat.le_of_ble_eq_true rfl⟩ rfl hl.1 rfl (by decide) dX7_hours_12 ⟨Nat.zero_le _, Nat.zero_le _⟩) (fun r σ9 H locs hw hP hS => ?_)
    rw [hw.2] at hP
    obtain ⟨⟨b_2, rfl⟩ | ⟨b_2, rfl⟩, -⟩ := hw
    · refine lv_if_eq (tgt := 21) hx hb dX7_hours_15 (by decide) (fun c_3 => absurd c_3 (by decide)) (fun c_3 => ?_)
      refine lv_bipush (v := (-3)) hx hb dX7_hours_18 (by decide) ?_
      exact r_iret C0 X hP hS hr hlk dX7_hours_20 (by simp only [c_1, b_2, if_true, if_false, ite_true, ite_false, true_and, and_true, false_and, and_false, true_or, or_true, false_or, or_false, not_true_eq_false, not_false_eq_true, ne_eq, and_self, or_self]; try rfl)
    · exact absurd (Or.inl (Fr_pieces hF)) b_2
  · refine lv_iload_n hx hb dX7_hours_4 rfl (lv_at hl 1 rfl) ?_
    refine lv_iconst (v := 1) hx hb dX7_hours_5 (by decide) ?_
    refine lv_icmp_eq (tgt := 11) hx hb dX7_hours_6 (by decide) (fun c_4 => ?_) (fun c_4 => ?_)
    · refine lv_aload_n hx hb dX7_hours_11 rfl (lv_at hl 0 rfl) ?_
      refine r_ci X hS (r_runV (As := []) (rest := []) C0 X hP L_X7_135 (fun sz => c_X7_cannotRun l D cA ad o σ   sz) (show 66 < 106 ∧ kd 66 = (7, 8) from ⟨by decide, rfl⟩).1 (show 66 < 106 ∧ kd 66 = (7, 8) from ⟨by decide, rfl⟩).2 (by decide) rfl ⟨Nat.le_of_ble_eq_true rfl, Nat.le_of_ble_eq_true rfl⟩ rfl hl.1 rfl (by decide) dX7_hours_12 ⟨Nat.zero_le _, Nat.zero_le _⟩) (fun r σ9 H locs hw hP hS => ?_)
      rw [hw.2] at hP
      obtain ⟨⟨b_5, rfl⟩ | ⟨b_5, rfl⟩, -⟩ := hw
      · refine lv_if_eq (tgt := 21) hx hb dX7_hours_15 (by decide) (fun c_6 => absurd c_6 (by decide)) (fun c_6 => ?_)
        refine lv_bipush (v := (-3)) hx hb dX7_hours_18 (by decide) ?_
        exact r_iret C0 X hP hS hr hlk dX7_hours_20 (by simp only [c_1, c_4, b_5, if_true, if_false, ite_true, ite_false, true_and, and_true, false_and, and_false, true_or, or_true, false_or, or_false, not_true_eq_false, not_false_eq_true, ne_eq, and_self, or_self]; try rfl)
      · exact absurd (Or.inl (Fr_pieces hF)) b_5
    · refine lv_iconst (v := (-1)) hx hb dX7_hours_9 (by decide) ?_
      exact r_iret C0 X hP hS hr hlk dX7_hours_10 (by simp only [c_1, c_4, if_true, if_false, ite_true, ite_false, true_and, and_true, false_and, and_false, true_or, or_true, false_or, or_false, not_true_eq_false, not_false_eq_true, ne_eq, and_self, or_self]; try rfl)
theorem dX7_fit_0 : decode cX7_fit 0 = .ok (.aload_n 0, 1) := by decide +kernel
theorem dX7_fit_1 : decode cX7_fit 1 = .ok (.iload_n 1, 1) := by decide +kernel
theorem dX7_fit_2 : decode cX7_fit 2 = .ok (.invokevirtual 50, 3) := by decide +kernel
theorem dX7_fit_5 : decode cX7_fit 5 = .ok (.astore_n 3, 1) := by decide +kernel
theorem dX7_fit_6 : decode cX7_fit 6 = .ok (.aload_n 3, 1) := by decide +kernel
theorem dX7_fit_7 : decode cX7_fit 7 = .ok (.ifnull 13, 3) := by decide +kernel
theorem dX7_fit_10 : decode cX7_fit 10 = .ok (.iload_n 2, 1) := by decide +kernel
theorem dX7_fit_11 : decode cX7_fit 11 = .ok (.ifCond .lt 9, 3) := by decide +kernel
theorem dX7_fit_14 : decode cX7_fit 14 = .ok (.iload_n 2, 1) := by decide +kernel
theorem dX7_fit_15 : decode cX7_fit 15 = .ok (.bipush 9, 2) := by decide +kernel
theorem dX7_fit_17 : decode cX7_fit 17 = .ok (.if_icmp .le 5, 3) := by decide +kernel
theorem dX7_fit_20 : decode cX7_fit 20 = .ok (.iconst (-1), 1) := by decide +kernel
theorem dX7_fit_21 : decode cX7_fit 21 = .ok (.ireturn, 1) := by decide +kernel
theorem dX7_fit_22 : decode cX7_fit 22 = .ok (.aload_n 3, 1) := by decide +kernel
theorem dX7_fit_23 : decode cX7_fit 23 = .ok (.getfield 54, 3) := by decide +kernel
theorem dX7_fit_26 : decode cX7_fit 26 = .ok (.ifCond .ne 6, 3) := by decide +kernel
theorem dX7_fit_29 : decode cX7_fit 29 = .ok (.bipush (-11), 2) := by decide +kernel
theorem dX7_fit_31 : decode cX7_fit 31 = .ok (.ireturn, 1) := by decide +kernel
theorem dX7_fit_32 : decode cX7_fit 32 = .ok (.aload_n 3, 1) := by decide +kernel
theorem dX7_fit_33 : decode cX7_fit 33 = .ok (.invokevirtual 58, 3) := by decide +kernel
theorem dX7_fit_36 : decode cX7_fit 36 = .ok (.ifCond .ne 6, 3) := by decide +kernel
theorem dX7_fit_39 : decode cX7_fit 39 = .ok (.bipush (-12), 2) := by decide +kernel
theorem dX7_fit_41 : decode cX7_fit 41 = .ok (.ireturn, 1) := by decide +kernel
theorem dX7_fit_42 : decode cX7_fit 42 = .ok (.aload_n 3, 1) := by decide +kernel
theorem dX7_fit_43 : decode cX7_fit 43 = .ok (.getfield 204, 3) := by decide +kernel
theorem dX7_fit_46 : decode cX7_fit 46 = .ok (.ifCond .eq 13, 3) := by decide +kernel
theorem dX7_fit_49 : decode cX7_fit 49 = .ok (.aload_n 3, 1) := by decide +kernel
theorem dX7_fit_50 : decode cX7_fit 50 = .ok (.iconst 0, 1) := by decide +kernel
theorem dX7_fit_51 : decode cX7_fit 51 = .ok (.bipush 7, 2) := by decide +kernel
theorem dX7_fit_53 : decode cX7_fit 53 = .ok (.invokevirtual 213, 3) := by decide +kernel
theorem dX7_fit_56 : decode cX7_fit 56 = .ok (.ifCond .ne 6, 3) := by decide +kernel
theorem dX7_fit_59 : decode cX7_fit 59 = .ok (.bipush (-13), 2) := by decide +kernel
theorem dX7_fit_61 : decode cX7_fit 61 = .ok (.ireturn, 1) := by decide +kernel
theorem dX7_fit_62 : decode cX7_fit 62 = .ok (.aload_n 0, 1) := by decide +kernel
theorem dX7_fit_63 : decode cX7_fit 63 = .ok (.invokevirtual 135, 3) := by decide +kernel
theorem dX7_fit_66 : decode cX7_fit 66 = .ok (.ifCond .eq 6, 3) := by decide +kernel
theorem dX7_fit_69 : decode cX7_fit 69 = .ok (.bipush (-3), 2) := by decide +kernel
theorem dX7_fit_71 : decode cX7_fit 71 = .ok (.ireturn, 1) := by decide +kernel
theorem dX7_fit_72 : decode cX7_fit 72 = .ok (.aload_n 0, 1) := by decide +kernel
theorem dX7_fit_73 : decode cX7_fit 73 = .ok (.getfield 19, 3) := by decide +kernel
theorem dX7_fit_76 : decode cX7_fit 76 = .ok (.aload_n 0, 1) := by decide +kernel
theorem dX7_fit_77 : decode cX7_fit 77 = .ok (.getfield 12, 3) := by decide +kernel
theorem dX7_fit_80 : decode cX7_fit 80 = .ok (.invokevirtual 62, 3) := by decide +kernel
theorem dX7_fit_83 : decode cX7_fit 83 = .ok (.aload_n 0, 1) := by decide +kernel
theorem dX7_fit_84 : decode cX7_fit 84 = .ok (.getfield 31, 3) := by decide +kernel
theorem dX7_fit_87 : decode cX7_fit 87 = .ok (.invokevirtual 233, 3) := by decide +kernel
theorem dX7_fit_90 : decode cX7_fit 90 = .ok (.iconst 0, 1) := by decide +kernel
theorem dX7_fit_91 : decode cX7_fit 91 = .ok (.istore 4, 2) := by decide +kernel
theorem dX7_fit_93 : decode cX7_fit 93 = .ok (.iload 4, 2) := by decide +kernel
theorem dX7_fit_95 : decode cX7_fit 95 = .ok (.aload_n 3, 1) := by decide +kernel
theorem dX7_fit_96 : decode cX7_fit 96 = .ok (.getfield 204, 3) := by decide +kernel
theorem dX7_fit_99 : decode cX7_fit 99 = .ok (.if_icmp .ge 41, 3) := by decide +kernel
theorem dX7_fit_102 : decode cX7_fit 102 = .ok (.iload 4, 2) := by decide +kernel
theorem dX7_fit_104 : decode cX7_fit 104 = .ok (.bipush 100, 2) := by decide +kernel
theorem dX7_fit_106 : decode cX7_fit 106 = .ok (.if_icmp .ge 34, 3) := by decide +kernel
theorem dX7_fit_109 : decode cX7_fit 109 = .ok (.aload_n 0, 1) := by decide +kernel
theorem dX7_fit_110 : decode cX7_fit 110 = .ok (.aload_n 3, 1) := by decide +kernel
theorem dX7_fit_111 : decode cX7_fit 111 = .ok (.getfield 207, 3) := by decide +kernel
theorem dX7_fit_114 : decode cX7_fit 114 = .ok (.iload 4, 2) := by decide +kernel
theorem dX7_fit_116 : decode cX7_fit 116 = .ok (.iaload, 1) := by decide +kernel
theorem dX7_fit_117 : decode cX7_fit 117 = .ok (.iload_n 2, 1) := by decide +kernel
theorem dX7_fit_118 : decode cX7_fit 118 = .ok (.invokevirtual 246, 3) := by decide +kernel
theorem dX7_fit_121 : decode cX7_fit 121 = .ok (.aload_n 0, 1) := by decide +kernel
theorem dX7_fit_122 : decode cX7_fit 122 = .ok (.getfield 31, 3) := by decide +kernel
theorem dX7_fit_125 : decode cX7_fit 125 = .ok (.iload 4, 2) := by decide +kernel
theorem dX7_fit_127 : decode cX7_fit 127 = .ok (.aload_n 0, 1) := by decide +kernel
theorem dX7_fit_128 : decode cX7_fit 128 = .ok (.invokevirtual 224, 3) := by decide +kernel
theorem dX7_fit_131 : decode cX7_fit 131 = .ok (.invokevirtual 236, 3) := by decide +kernel
theorem dX7_fit_134 : decode cX7_fit 134 = .ok (.iinc 4 1, 3) := by decide +kernel
theorem dX7_fit_137 : decode cX7_fit 137 = .ok (.goto (-44), 3) := by decide +kernel
theorem dX7_fit_140 : decode cX7_fit 140 = .ok (.aload_n 0, 1) := by decide +kernel
theorem dX7_fit_141 : decode cX7_fit 141 = .ok (.getfield 31, 3) := by decide +kernel
theorem dX7_fit_144 : decode cX7_fit 144 = .ok (.getfield 240, 3) := by decide +kernel
theorem dX7_fit_147 : decode cX7_fit 147 = .ok (.ireturn, 1) := by decide +kernel
set_option maxHeartbeats 4000000 in
set_option maxRecDepth 100000 in
theorem c_X7_fit_f (l : Launch) (D : va_G) (cA : Nat → ClassId) (ad : Nat → Nat) (o : Int64) (σ : Mem) (d : Int32) (w : Int32) (hF : Fr σ) (sz : Nat) : Met l yX7_fit (WY yX7_fit cX7_fit 5 (some .int)) (RM 1) (va_Pc [.ref (ad 66), .int d, .int w] (PW D cA ad o σ sz)) (va_Qi (fun r _ => r = (if (d < 0 ∨ 8 ≤ d) ∨ w < 0 ∨ 9 < w then -1 else -11)) (QW D cA ad o) (FA ad sz)) 0 0 (FA ad sz) := by
  refine ct_of (own := RX7) (k := 1) (Qf := va_Qi (fun r _ => r = (if (d < 0 ∨ 8 ≤ d) ∨ w < 0 ∨ 9 < w then -1 else -11)) (QW D cA ad o)) rfl (by decide) (Nat.le_of_ble_eq_true rfl) (fun p e s m below meth c ls C0 X hr hlk hP hl => ?_) sz
  have hS : va_S (FA ad s.heap.size) s.heap s.heap [] := va_S.rf
  have hl : lv_has ls 5 [(0, .ref (ad 66)), (1, .int d), (2, .int w)] := hl
  obtain ⟨hx, hb, hml, hown, hts⟩ := id C0
  refine lv_aload_n hx hb dX7_fit_0 rfl (lv_at hl 0 rfl) ?_
  refine lv_iload_n hx hb dX7_fit_1 rfl (lv_at hl 1 rfl) ?_
  refine r_cq X hS (r_runV (As := [.int d]) (rest := []) C0 X hP L_X7_50 (fun sz => c_X7_shelfAt l D cA ad o σ d  sz) (show 66 < 106 ∧ kd 66 = (7, 8) from ⟨by decide, rfl⟩).1 (show 66 < 106 ∧ kd 66 = (7, 8) from ⟨by decide, rfl⟩).2 (by decide) rfl ⟨Nat.le_of_ble_eq_true rfl, Nat.le_of_ble_eq_true rfl⟩ rfl hl.1 rfl (by decide) dX7_fit_2 ⟨Nat.zero_le _, Nat.zero_le _⟩) (fun σ9 H locs hw hP hS => ?_) (fun x9 σ9 H locs hw hP hS => ?_)
  · rw [hw.1] at hP
    have h_1 := hw.2
    refine lv_astore_nN (lv' := [(3, .null), (0, .ref (ad 66)), (1, .int d), (2, .int w)]) hx hb dX7_fit_5 rfl hl (by decide) rfl (fun ls hl => ?_)
    refine lv_aload_nN hx hb dX7_fit_6 rfl (lv_at hl 0 rfl) ?_
    refine lv_ifnullN (tgt := 20) hx hb dX7_fit_7 (by decide) ?_
    refine lv_iconst (v := (-1)) hx hb dX7_fit_20 (by decide) ?_
    exact r_iret C0 X hP hS hr hlk dX7_fit_21 (by simp only [h_1, if_true, if_false, ite_true, ite_false, true_and, and_true, false_and, and_false, true_or, or_true, false_or, or_false, not_true_eq_false, not_false_eq_true, ne_eq, and_self, or_self]; try rfl)
  · rw [hw.1] at hP
    obtain ⟨-, j_2, hj_2, ej_2, rfl⟩ := hw
    have h_1 : ¬ (d < 0 ∨ 8 ≤ d) := by rw [ej_2]; exact nosh hj_2
    refine lv_astore_n (lv' := [(3, .ref (ad (68 + j_2))), (0, .ref (ad 66)), (1, .int d), (2, .int w)]) hx hb dX7_fit_5 rfl hl (by decide) rfl (fun ls hl => ?_)
    refine lv_aload_n hx hb dX7_fit_6 rfl (lv_at hl 0 rfl) ?_
    refine lv_ifnull hx hb dX7_fit_7 ?_
    refine lv_iload_n hx hb dX7_fit_10 rfl (lv_at hl 3 rfl) ?_
    refine lv_if_lt (tgt := 20) hx hb dX7_fit_11 (by decide) (fun c_3 => ?_) (fun c_3 => ?_)
    · refine lv_iconst (v := (-1)) hx hb dX7_fit_20 (by decide) ?_
      exact r_iret C0 X hP hS hr hlk dX7_fit_21 (by simp only [h_1, c_3, Int32.not_le.mpr c_3, if_true, if_false, ite_true, ite_false, true_and, and_true, false_and, and_false, true_or, or_true, false_or, or_false, not_true_eq_false, not_false_eq_true, ne_eq, and_self, or_self]; try rfl)
    · refine lv_iload_n hx hb dX7_fit_14 rfl (lv_at hl 3 rfl) ?_
      refine lv_bipush (v := 9) hx hb dX7_fit_15 (by decide) ?_
      refine lv_icmp_le (tgt := 22) hx hb dX7_fit_17 (by decide) (fun c_4 => ?_) (fun c_4 => ?_)
      · refine lv_aload_n hx hb dX7_fit_22 rfl (lv_at hl 0 rfl) ?_
        refine gf_X7_54 C0 X hP (68 + j_2) (kdS j_2 hj_2) dX7_fit_23 ?_
        refine lv_topE (y := 0) (Fr_holds hF hj_2) ?_
        refine lv_if_ne (tgt := 32) hx hb dX7_fit_26 (by decide) (fun c_5 => absurd c_5 (by decide)) (fun c_5 => ?_)
        refine lv_bipush (v := (-11)) hx hb dX7_fit_29 (by decide) ?_
        exact r_iret C0 X hP hS hr hlk dX7_fit_31 (by simp only [h_1, c_3, c_4, Int32.not_lt.mp c_3, Int32.not_lt.mpr c_4, if_true, if_false, ite_true, ite_false, true_and, and_true, false_and, and_false, true_or, or_true, false_or, or_false, not_true_eq_false, not_false_eq_true, ne_eq, and_self, or_self]; try rfl)
      · refine lv_iconst (v := (-1)) hx hb dX7_fit_20 (by decide) ?_
        exact r_iret C0 X hP hS hr hlk dX7_fit_21 (by simp only [h_1, c_3, c_4, Int32.not_lt.mp c_3, Int32.not_le.mp c_4, if_true, if_false, ite_true, ite_false, true_and, and_true, false_and, and_false, true_or, or_true, false_or, or_false, not_true_eq_false, not_false_eq_true, ne_eq, and_self, or_self]; try rfl)
theorem dX7_shortest_0 : decode cX7_shortest 0 = .ok (.aload_n 0, 1) := by decide +kernel
theorem dX7_shortest_1 : decode cX7_shortest 1 = .ok (.invokevirtual 135, 3) := by decide +kernel
theorem dX7_shortest_4 : decode cX7_shortest 4 = .ok (.ifCond .eq 6, 3) := by decide +kernel
theorem dX7_shortest_7 : decode cX7_shortest 7 = .ok (.bipush (-3), 2) := by decide +kernel
theorem dX7_shortest_9 : decode cX7_shortest 9 = .ok (.ireturn, 1) := by decide +kernel
theorem dX7_shortest_10 : decode cX7_shortest 10 = .ok (.aload_n 0, 1) := by decide +kernel
theorem dX7_shortest_11 : decode cX7_shortest 11 = .ok (.getfield 19, 3) := by decide +kernel
theorem dX7_shortest_14 : decode cX7_shortest 14 = .ok (.aload_n 0, 1) := by decide +kernel
theorem dX7_shortest_15 : decode cX7_shortest 15 = .ok (.getfield 12, 3) := by decide +kernel
theorem dX7_shortest_18 : decode cX7_shortest 18 = .ok (.invokevirtual 62, 3) := by decide +kernel
theorem dX7_shortest_21 : decode cX7_shortest 21 = .ok (.aload_n 0, 1) := by decide +kernel
theorem dX7_shortest_22 : decode cX7_shortest 22 = .ok (.getfield 31, 3) := by decide +kernel
theorem dX7_shortest_25 : decode cX7_shortest 25 = .ok (.invokevirtual 233, 3) := by decide +kernel
theorem dX7_shortest_28 : decode cX7_shortest 28 = .ok (.iconst 0, 1) := by decide +kernel
theorem dX7_shortest_29 : decode cX7_shortest 29 = .ok (.istore_n 1, 1) := by decide +kernel
theorem dX7_shortest_30 : decode cX7_shortest 30 = .ok (.iload_n 1, 1) := by decide +kernel
theorem dX7_shortest_31 : decode cX7_shortest 31 = .ok (.bipush 8, 2) := by decide +kernel
theorem dX7_shortest_33 : decode cX7_shortest 33 = .ok (.if_icmp .ge 61, 3) := by decide +kernel
theorem dX7_shortest_36 : decode cX7_shortest 36 = .ok (.iconst 0, 1) := by decide +kernel
theorem dX7_shortest_37 : decode cX7_shortest 37 = .ok (.istore_n 2, 1) := by decide +kernel
theorem dX7_shortest_38 : decode cX7_shortest 38 = .ok (.iload_n 2, 1) := by decide +kernel
theorem dX7_shortest_39 : decode cX7_shortest 39 = .ok (.iconst 4, 1) := by decide +kernel
theorem dX7_shortest_40 : decode cX7_shortest 40 = .ok (.if_icmp .gt 48, 3) := by decide +kernel
theorem dX7_shortest_43 : decode cX7_shortest 43 = .ok (.aload_n 0, 1) := by decide +kernel
theorem dX7_shortest_44 : decode cX7_shortest 44 = .ok (.iload_n 1, 1) := by decide +kernel
theorem dX7_shortest_45 : decode cX7_shortest 45 = .ok (.iload_n 2, 1) := by decide +kernel
theorem dX7_shortest_46 : decode cX7_shortest 46 = .ok (.invokevirtual 246, 3) := by decide +kernel
theorem dX7_shortest_49 : decode cX7_shortest 49 = .ok (.aload_n 0, 1) := by decide +kernel
theorem dX7_shortest_50 : decode cX7_shortest 50 = .ok (.invokevirtual 224, 3) := by decide +kernel
theorem dX7_shortest_53 : decode cX7_shortest 53 = .ok (.pop, 1) := by decide +kernel
theorem dX7_shortest_54 : decode cX7_shortest 54 = .ok (.aload_n 0, 1) := by decide +kernel
theorem dX7_shortest_55 : decode cX7_shortest 55 = .ok (.getfield 19, 3) := by decide +kernel
theorem dX7_shortest_58 : decode cX7_shortest 58 = .ok (.invokevirtual 180, 3) := by decide +kernel
theorem dX7_shortest_61 : decode cX7_shortest 61 = .ok (.ifCond .ne 21, 3) := by decide +kernel
theorem dX7_shortest_64 : decode cX7_shortest 64 = .ok (.aload_n 0, 1) := by decide +kernel
theorem dX7_shortest_65 : decode cX7_shortest 65 = .ok (.getfield 31, 3) := by decide +kernel
theorem dX7_shortest_68 : decode cX7_shortest 68 = .ok (.bipush 10, 2) := by decide +kernel
theorem dX7_shortest_70 : decode cX7_shortest 70 = .ok (.iload_n 1, 1) := by decide +kernel
theorem dX7_shortest_71 : decode cX7_shortest 71 = .ok (.imul, 1) := by decide +kernel
theorem dX7_shortest_72 : decode cX7_shortest 72 = .ok (.iload_n 2, 1) := by decide +kernel
theorem dX7_shortest_73 : decode cX7_shortest 73 = .ok (.iadd, 1) := by decide +kernel
theorem dX7_shortest_74 : decode cX7_shortest 74 = .ok (.iload_n 1, 1) := by decide +kernel
theorem dX7_shortest_75 : decode cX7_shortest 75 = .ok (.iload_n 2, 1) := by decide +kernel
theorem dX7_shortest_76 : decode cX7_shortest 76 = .ok (.invokestatic 249, 3) := by decide +kernel
theorem dX7_shortest_79 : decode cX7_shortest 79 = .ok (.invokevirtual 236, 3) := by decide +kernel
theorem dX7_shortest_82 : decode cX7_shortest 82 = .ok (.iinc 2 1, 3) := by decide +kernel
theorem dX7_shortest_85 : decode cX7_shortest 85 = .ok (.goto (-47), 3) := by decide +kernel
theorem dX7_shortest_88 : decode cX7_shortest 88 = .ok (.iinc 1 1, 3) := by decide +kernel
theorem dX7_shortest_91 : decode cX7_shortest 91 = .ok (.goto (-61), 3) := by decide +kernel
theorem dX7_shortest_94 : decode cX7_shortest 94 = .ok (.aload_n 0, 1) := by decide +kernel
theorem dX7_shortest_95 : decode cX7_shortest 95 = .ok (.getfield 31, 3) := by decide +kernel
theorem dX7_shortest_98 : decode cX7_shortest 98 = .ok (.getfield 240, 3) := by decide +kernel
theorem dX7_shortest_101 : decode cX7_shortest 101 = .ok (.ireturn, 1) := by decide +kernel
set_option maxHeartbeats 4000000 in
set_option maxRecDepth 100000 in
theorem c_X7_shortest_f (l : Launch) (D : va_G) (cA : Nat → ClassId) (ad : Nat → Nat) (o : Int64) (σ : Mem)  (hF : Fr σ) (sz : Nat) : Met l yX7_shortest (WY yX7_shortest cX7_shortest 3 (some .int)) (RM 1) (va_Pc [.ref (ad 66)] (PW D cA ad o σ sz)) (va_Qi (fun r _ => r = -3) (QW D cA ad o) (FA ad sz)) 0 0 (FA ad sz) := by
  refine ct_of (own := RX7) (k := 1) (Qf := va_Qi (fun r _ => r = -3) (QW D cA ad o)) rfl (by decide) (Nat.le_of_ble_eq_true rfl) (fun p e s m below meth c ls C0 X hr hlk hP hl => ?_) sz
  have hS : va_S (FA ad s.heap.size) s.heap s.heap [] := va_S.rf
  have hl : lv_has ls 3 [(0, .ref (ad 66))] := hl
  obtain ⟨hx, hb, hml, hown, hts⟩ := id C0
  refine lv_aload_n hx hb dX7_shortest_0 rfl (lv_at hl 0 rfl) ?_
  refine r_ci X hS (r_runV (As := []) (rest := []) C0 X hP L_X7_135 (fun sz => c_X7_cannotRun l D cA ad o σ   sz) (show 66 < 106 ∧ kd 66 = (7, 8) from ⟨by decide, rfl⟩).1 (show 66 < 106 ∧ kd 66 = (7, 8) from ⟨by decide, rfl⟩).2 (by decide) rfl ⟨Nat.le_of_ble_eq_true rfl, Nat.le_of_ble_eq_true rfl⟩ rfl hl.1 rfl (by decide) dX7_shortest_1 ⟨Nat.zero_le _, Nat.zero_le _⟩) (fun r σ9 H locs hw hP hS => ?_)
  rw [hw.2] at hP
  obtain ⟨⟨b_1, rfl⟩ | ⟨b_1, rfl⟩, -⟩ := hw
  · refine lv_if_eq (tgt := 10) hx hb dX7_shortest_4 (by decide) (fun c_2 => absurd c_2 (by decide)) (fun c_2 => ?_)
    refine lv_bipush (v := (-3)) hx hb dX7_shortest_7 (by decide) ?_
    exact r_iret C0 X hP hS hr hlk dX7_shortest_9 rfl
  · exact absurd (Or.inl (Fr_pieces hF)) b_1
theorem dX7_stubborn_0 : decode cX7_stubborn 0 = .ok (.aload_n 0, 1) := by decide +kernel
theorem dX7_stubborn_1 : decode cX7_stubborn 1 = .ok (.getfield 12, 3) := by decide +kernel
theorem dX7_stubborn_4 : decode cX7_stubborn 4 = .ok (.iload_n 1, 1) := by decide +kernel
theorem dX7_stubborn_5 : decode cX7_stubborn 5 = .ok (.invokevirtual 99, 3) := by decide +kernel
theorem dX7_stubborn_8 : decode cX7_stubborn 8 = .ok (.ifnonnull 6, 3) := by decide +kernel
theorem dX7_stubborn_11 : decode cX7_stubborn 11 = .ok (.ldc 153, 2) := by decide +kernel
theorem dX7_stubborn_13 : decode cX7_stubborn 13 = .ok (.ireturn, 1) := by decide +kernel
theorem dX7_stubborn_14 : decode cX7_stubborn 14 = .ok (.aload_n 0, 1) := by decide +kernel
theorem dX7_stubborn_15 : decode cX7_stubborn 15 = .ok (.getfield 12, 3) := by decide +kernel
theorem dX7_stubborn_18 : decode cX7_stubborn 18 = .ok (.getfield 70, 3) := by decide +kernel
theorem dX7_stubborn_21 : decode cX7_stubborn 21 = .ok (.getfield 74, 3) := by decide +kernel
theorem dX7_stubborn_24 : decode cX7_stubborn 24 = .ok (.ifCond .ne 6, 3) := by decide +kernel
theorem dX7_stubborn_27 : decode cX7_stubborn 27 = .ok (.ldc 252, 2) := by decide +kernel
theorem dX7_stubborn_29 : decode cX7_stubborn 29 = .ok (.ireturn, 1) := by decide +kernel
theorem dX7_stubborn_30 : decode cX7_stubborn 30 = .ok (.aload_n 0, 1) := by decide +kernel
theorem dX7_stubborn_31 : decode cX7_stubborn 31 = .ok (.getfield 19, 3) := by decide +kernel
theorem dX7_stubborn_34 : decode cX7_stubborn 34 = .ok (.aload_n 0, 1) := by decide +kernel
theorem dX7_stubborn_35 : decode cX7_stubborn 35 = .ok (.getfield 12, 3) := by decide +kernel
theorem dX7_stubborn_38 : decode cX7_stubborn 38 = .ok (.invokevirtual 62, 3) := by decide +kernel
theorem dX7_stubborn_41 : decode cX7_stubborn 41 = .ok (.aload_n 0, 1) := by decide +kernel
theorem dX7_stubborn_42 : decode cX7_stubborn 42 = .ok (.invokevirtual 224, 3) := by decide +kernel
theorem dX7_stubborn_45 : decode cX7_stubborn 45 = .ok (.istore_n 2, 1) := by decide +kernel
theorem dX7_stubborn_46 : decode cX7_stubborn 46 = .ok (.aload_n 0, 1) := by decide +kernel
theorem dX7_stubborn_47 : decode cX7_stubborn 47 = .ok (.getfield 19, 3) := by decide +kernel
theorem dX7_stubborn_50 : decode cX7_stubborn 50 = .ok (.iload_n 1, 1) := by decide +kernel
theorem dX7_stubborn_51 : decode cX7_stubborn 51 = .ok (.invokevirtual 99, 3) := by decide +kernel
theorem dX7_stubborn_54 : decode cX7_stubborn 54 = .ok (.astore_n 3, 1) := by decide +kernel
theorem dX7_stubborn_55 : decode cX7_stubborn 55 = .ok (.aload_n 3, 1) := by decide +kernel
theorem dX7_stubborn_56 : decode cX7_stubborn 56 = .ok (.ifnonnull 6, 3) := by decide +kernel
theorem dX7_stubborn_59 : decode cX7_stubborn 59 = .ok (.ldc 153, 2) := by decide +kernel
theorem dX7_stubborn_61 : decode cX7_stubborn 61 = .ok (.ireturn, 1) := by decide +kernel
theorem dX7_stubborn_62 : decode cX7_stubborn 62 = .ok (.aload_n 3, 1) := by decide +kernel
theorem dX7_stubborn_63 : decode cX7_stubborn 63 = .ok (.iconst 0, 1) := by decide +kernel
theorem dX7_stubborn_64 : decode cX7_stubborn 64 = .ok (.putfield 115, 3) := by decide +kernel
theorem dX7_stubborn_67 : decode cX7_stubborn 67 = .ok (.aload_n 0, 1) := by decide +kernel
theorem dX7_stubborn_68 : decode cX7_stubborn 68 = .ok (.invokevirtual 224, 3) := by decide +kernel
theorem dX7_stubborn_71 : decode cX7_stubborn 71 = .ok (.iload_n 2, 1) := by decide +kernel
theorem dX7_stubborn_72 : decode cX7_stubborn 72 = .ok (.isub, 1) := by decide +kernel
theorem dX7_stubborn_73 : decode cX7_stubborn 73 = .ok (.ireturn, 1) := by decide +kernel
set_option maxHeartbeats 4000000 in
set_option maxRecDepth 100000 in
theorem c_X7_stubborn_f (l : Launch) (D : va_G) (cA : Nat → ClassId) (ad : Nat → Nat) (o : Int64) (σ : Mem) (a : Int32) (hF : Fr σ) (sz : Nat) : Met l yX7_stubborn (WY yX7_stubborn cX7_stubborn 4 (some .int)) (RM 1) (va_Pc [.ref (ad 66), .int a] (PW D cA ad o σ sz)) (va_Qi (fun r _ => r = -1000000001) (QW D cA ad o) (FA ad sz)) 0 0 (FA ad sz) := by
  refine ct_of (own := RX7) (k := 1) (Qf := va_Qi (fun r _ => r = -1000000001) (QW D cA ad o)) rfl (by decide) (Nat.le_of_ble_eq_true rfl) (fun p e s m below meth c ls C0 X hr hlk hP hl => ?_) sz
  have hS : va_S (FA ad s.heap.size) s.heap s.heap [] := va_S.rf
  have hl : lv_has ls 4 [(0, .ref (ad 66)), (1, .int a)] := hl
  obtain ⟨hx, hb, hml, hown, hts⟩ := id C0
  refine lv_aload_n hx hb dX7_stubborn_0 rfl (lv_at hl 0 rfl) ?_
  refine gf_X7_12 C0 X hP 66 (q := 0) ⟨by decide, rfl⟩ (by omega) rfl dX7_stubborn_1 ?_
  refine lv_iload_n hx hb dX7_stubborn_4 rfl (lv_at hl 1 rfl) ?_
  refine r_cq X hS (r_runV (As := [.int a]) (rest := []) C0 X hP L_X7_99 (fun sz => c_X6_cartAt l D cA ad o σ 0 a (by decide) sz) (show 0 < 106 ∧ kd 0 = (6, 11) from ⟨by decide, rfl⟩).1 (show 0 < 106 ∧ kd 0 = (6, 11) from ⟨by decide, rfl⟩).2 (by decide) rfl ⟨Nat.le_of_ble_eq_true rfl, Nat.le_of_ble_eq_true rfl⟩ rfl hl.1 rfl (by decide) dX7_stubborn_5 ⟨Nat.zero_le _, Nat.zero_le _⟩) (fun σ9 H locs hw hP hS => ?_) (fun x9 σ9 H locs hw hP hS => ?_)
  · rw [hw.1] at hP
    have h_1 := hw.2
    refine lv_ifnonnullN hx hb dX7_stubborn_8 ?_
    refine lv_ldc (own := RX7) (index := 153) (v := (-1000000001)) hx hb hown (hts _ (tm 679 (by decide +kernel) (by decide +kernel))) dX7_stubborn_11 ?_
    exact r_iret C0 X hP hS hr hlk dX7_stubborn_13 rfl
  · rw [hw.1] at hP
    obtain ⟨-, j_2, hj_2, ej_2, lj_2, rfl⟩ := hw
    exact absurd lj_2 (by rw [show σ (22 * 0) 2 = 0 from Fr_count hF, ej_2]; exact nI_pos (by omega))
theorem dX7_heard_0 : decode cX7_heard 0 = .ok (.iload_n 1, 1) := by decide +kernel
theorem dX7_heard_1 : decode cX7_heard 1 = .ok (.ifCond .lt 9, 3) := by decide +kernel
theorem dX7_heard_4 : decode cX7_heard 4 = .ok (.iload_n 1, 1) := by decide +kernel
theorem dX7_heard_5 : decode cX7_heard 5 = .ok (.bipush 9, 2) := by decide +kernel
theorem dX7_heard_7 : decode cX7_heard 7 = .ok (.if_icmp .le 6, 3) := by decide +kernel
theorem dX7_heard_10 : decode cX7_heard 10 = .ok (.ldc 153, 2) := by decide +kernel
theorem dX7_heard_12 : decode cX7_heard 12 = .ok (.ireturn, 1) := by decide +kernel
theorem dX7_heard_13 : decode cX7_heard 13 = .ok (.aload_n 0, 1) := by decide +kernel
theorem dX7_heard_14 : decode cX7_heard 14 = .ok (.invokevirtual 135, 3) := by decide +kernel
theorem dX7_heard_17 : decode cX7_heard 17 = .ok (.ifCond .eq 6, 3) := by decide +kernel
theorem dX7_heard_20 : decode cX7_heard 20 = .ok (.ldc 252, 2) := by decide +kernel
theorem dX7_heard_22 : decode cX7_heard 22 = .ok (.ireturn, 1) := by decide +kernel
theorem dX7_heard_23 : decode cX7_heard 23 = .ok (.aload_n 0, 1) := by decide +kernel
theorem dX7_heard_24 : decode cX7_heard 24 = .ok (.getfield 19, 3) := by decide +kernel
theorem dX7_heard_27 : decode cX7_heard 27 = .ok (.aload_n 0, 1) := by decide +kernel
theorem dX7_heard_28 : decode cX7_heard 28 = .ok (.getfield 12, 3) := by decide +kernel
theorem dX7_heard_31 : decode cX7_heard 31 = .ok (.invokevirtual 62, 3) := by decide +kernel
theorem dX7_heard_34 : decode cX7_heard 34 = .ok (.aload_n 0, 1) := by decide +kernel
theorem dX7_heard_35 : decode cX7_heard 35 = .ok (.iconst 4, 1) := by decide +kernel
theorem dX7_heard_36 : decode cX7_heard 36 = .ok (.iconst 0, 1) := by decide +kernel
theorem dX7_heard_37 : decode cX7_heard 37 = .ok (.invokevirtual 246, 3) := by decide +kernel
theorem dX7_heard_40 : decode cX7_heard 40 = .ok (.aload_n 0, 1) := by decide +kernel
theorem dX7_heard_41 : decode cX7_heard 41 = .ok (.invokevirtual 224, 3) := by decide +kernel
theorem dX7_heard_44 : decode cX7_heard 44 = .ok (.istore_n 2, 1) := by decide +kernel
theorem dX7_heard_45 : decode cX7_heard 45 = .ok (.aload_n 0, 1) := by decide +kernel
theorem dX7_heard_46 : decode cX7_heard 46 = .ok (.iconst 4, 1) := by decide +kernel
theorem dX7_heard_47 : decode cX7_heard 47 = .ok (.iload_n 1, 1) := by decide +kernel
theorem dX7_heard_48 : decode cX7_heard 48 = .ok (.invokevirtual 246, 3) := by decide +kernel
theorem dX7_heard_51 : decode cX7_heard 51 = .ok (.iload_n 2, 1) := by decide +kernel
theorem dX7_heard_52 : decode cX7_heard 52 = .ok (.aload_n 0, 1) := by decide +kernel
theorem dX7_heard_53 : decode cX7_heard 53 = .ok (.invokevirtual 224, 3) := by decide +kernel
theorem dX7_heard_56 : decode cX7_heard 56 = .ok (.isub, 1) := by decide +kernel
theorem dX7_heard_57 : decode cX7_heard 57 = .ok (.ireturn, 1) := by decide +kernel
set_option maxHeartbeats 4000000 in
set_option maxRecDepth 100000 in
theorem c_X7_heard_f (l : Launch) (D : va_G) (cA : Nat → ClassId) (ad : Nat → Nat) (o : Int64) (σ : Mem) (n : Int32) (hF : Fr σ) (sz : Nat) : Met l yX7_heard (WY yX7_heard cX7_heard 3 (some .int)) (RM 1) (va_Pc [.ref (ad 66), .int n] (PW D cA ad o σ sz)) (va_Qi (fun r _ => r = (if n < 0 ∨ 9 < n then -1000000001 else -1000000003)) (QW D cA ad o) (FA ad sz)) 0 0 (FA ad sz) := by
  refine ct_of (own := RX7) (k := 1) (Qf := va_Qi (fun r _ => r = (if n < 0 ∨ 9 < n then -1000000001 else -1000000003)) (QW D cA ad o)) rfl (by decide) (Nat.le_of_ble_eq_true rfl) (fun p e s m below meth c ls C0 X hr hlk hP hl => ?_) sz
  have hS : va_S (FA ad s.heap.size) s.heap s.heap [] := va_S.rf
  have hl : lv_has ls 3 [(0, .ref (ad 66)), (1, .int n)] := hl
  obtain ⟨hx, hb, hml, hown, hts⟩ := id C0
  refine lv_iload_n hx hb dX7_heard_0 rfl (lv_at hl 1 rfl) ?_
  refine lv_if_lt (tgt := 10) hx hb dX7_heard_1 (by decide) (fun c_1 => ?_) (fun c_1 => ?_)
  · refine lv_ldc (own := RX7) (index := 153) (v := (-1000000001)) hx hb hown (hts _ (tm 679 (by decide +kernel) (by decide +kernel))) dX7_heard_10 ?_
    exact r_iret C0 X hP hS hr hlk dX7_heard_12 (by simp only [c_1, Int32.not_le.mpr c_1, if_true, if_false, ite_true, ite_false, true_and, and_true, false_and, and_false, true_or, or_true, false_or, or_false, not_true_eq_false, not_false_eq_true, ne_eq, and_self, or_self]; try rfl)
  · refine lv_iload_n hx hb dX7_heard_4 rfl (lv_at hl 1 rfl) ?_
    refine lv_bipush (v := 9) hx hb dX7_heard_5 (by decide) ?_
    refine lv_icmp_le (tgt := 13) hx hb dX7_heard_7 (by decide) (fun c_2 => ?_) (fun c_2 => ?_)
    · refine lv_aload_n hx hb dX7_heard_13 rfl (lv_at hl 0 rfl) ?_
      refine r_ci X hS (r_runV (As := []) (rest := []) C0 X hP L_X7_135 (fun sz => c_X7_cannotRun l D cA ad o σ   sz) (show 66 < 106 ∧ kd 66 = (7, 8) from ⟨by decide, rfl⟩).1 (show 66 < 106 ∧ kd 66 = (7, 8) from ⟨by decide, rfl⟩).2 (by decide) rfl ⟨Nat.le_of_ble_eq_true rfl, Nat.le_of_ble_eq_true rfl⟩ rfl hl.1 rfl (by decide) dX7_heard_14 ⟨Nat.zero_le _, Nat.zero_le _⟩) (fun r σ9 H locs hw hP hS => ?_)
      rw [hw.2] at hP
      obtain ⟨⟨b_3, rfl⟩ | ⟨b_3, rfl⟩, -⟩ := hw
      · refine lv_if_eq (tgt := 23) hx hb dX7_heard_17 (by decide) (fun c_4 => absurd c_4 (by decide)) (fun c_4 => ?_)
        refine lv_ldc (own := RX7) (index := 252) (v := (-1000000003)) hx hb hown (hts _ (tm 778 (by decide +kernel) (by decide +kernel))) dX7_heard_20 ?_
        exact r_iret C0 X hP hS hr hlk dX7_heard_22 (by simp only [c_1, c_2, b_3, Int32.not_lt.mp c_1, Int32.not_lt.mpr c_2, if_true, if_false, ite_true, ite_false, true_and, and_true, false_and, and_false, true_or, or_true, false_or, or_false, not_true_eq_false, not_false_eq_true, ne_eq, and_self, or_self]; try rfl)
      · exact absurd (Or.inl (Fr_pieces hF)) b_3
    · refine lv_ldc (own := RX7) (index := 153) (v := (-1000000001)) hx hb hown (hts _ (tm 679 (by decide +kernel) (by decide +kernel))) dX7_heard_10 ?_
      exact r_iret C0 X hP hS hr hlk dX7_heard_12 (by simp only [c_1, c_2, Int32.not_lt.mp c_1, Int32.not_le.mp c_2, if_true, if_false, ite_true, ite_false, true_and, and_true, false_and, and_false, true_or, or_true, false_or, or_false, not_true_eq_false, not_false_eq_true, ne_eq, and_self, or_self]; try rfl)
theorem dX7_days_0 : decode cX7_days 0 = .ok (.iload_n 1, 1) := by decide +kernel
theorem dX7_days_1 : decode cX7_days 1 = .ok (.iconst 1, 1) := by decide +kernel
theorem dX7_days_2 : decode cX7_days 2 = .ok (.if_icmp .lt 19, 3) := by decide +kernel
theorem dX7_days_5 : decode cX7_days 5 = .ok (.iload_n 1, 1) := by decide +kernel
theorem dX7_days_6 : decode cX7_days 6 = .ok (.iconst 5, 1) := by decide +kernel
theorem dX7_days_7 : decode cX7_days 7 = .ok (.if_icmp .gt 14, 3) := by decide +kernel
theorem dX7_days_10 : decode cX7_days 10 = .ok (.iload_n 2, 1) := by decide +kernel
theorem dX7_days_11 : decode cX7_days 11 = .ok (.iconst 1, 1) := by decide +kernel
theorem dX7_days_12 : decode cX7_days 12 = .ok (.if_icmp .lt 9, 3) := by decide +kernel
theorem dX7_days_15 : decode cX7_days 15 = .ok (.iload_n 2, 1) := by decide +kernel
theorem dX7_days_16 : decode cX7_days 16 = .ok (.bipush 60, 2) := by decide +kernel
theorem dX7_days_18 : decode cX7_days 18 = .ok (.if_icmp .le 5, 3) := by decide +kernel
theorem dX7_days_21 : decode cX7_days 21 = .ok (.iconst (-1), 1) := by decide +kernel
theorem dX7_days_22 : decode cX7_days 22 = .ok (.ireturn, 1) := by decide +kernel
theorem dX7_days_23 : decode cX7_days 23 = .ok (.aload_n 0, 1) := by decide +kernel
theorem dX7_days_24 : decode cX7_days 24 = .ok (.invokevirtual 135, 3) := by decide +kernel
theorem dX7_days_27 : decode cX7_days 27 = .ok (.ifCond .eq 6, 3) := by decide +kernel
theorem dX7_days_30 : decode cX7_days 30 = .ok (.bipush (-3), 2) := by decide +kernel
theorem dX7_days_32 : decode cX7_days 32 = .ok (.ireturn, 1) := by decide +kernel
theorem dX7_days_33 : decode cX7_days 33 = .ok (.aload_n 0, 1) := by decide +kernel
theorem dX7_days_34 : decode cX7_days 34 = .ok (.getfield 19, 3) := by decide +kernel
theorem dX7_days_37 : decode cX7_days 37 = .ok (.aload_n 0, 1) := by decide +kernel
theorem dX7_days_38 : decode cX7_days 38 = .ok (.getfield 12, 3) := by decide +kernel
theorem dX7_days_41 : decode cX7_days 41 = .ok (.invokevirtual 62, 3) := by decide +kernel
theorem dX7_days_44 : decode cX7_days 44 = .ok (.iconst 0, 1) := by decide +kernel
theorem dX7_days_45 : decode cX7_days 45 = .ok (.istore 4, 2) := by decide +kernel
theorem dX7_days_47 : decode cX7_days 47 = .ok (.iconst 0, 1) := by decide +kernel
theorem dX7_days_48 : decode cX7_days 48 = .ok (.istore 5, 2) := by decide +kernel
theorem dX7_days_50 : decode cX7_days 50 = .ok (.iload 5, 2) := by decide +kernel
theorem dX7_days_52 : decode cX7_days 52 = .ok (.iload_n 1, 1) := by decide +kernel
theorem dX7_days_53 : decode cX7_days 53 = .ok (.if_icmp .ge 79, 3) := by decide +kernel
theorem dX7_days_56 : decode cX7_days 56 = .ok (.iload_n 3, 1) := by decide +kernel
theorem dX7_days_57 : decode cX7_days 57 = .ok (.iload 5, 2) := by decide +kernel
theorem dX7_days_59 : decode cX7_days 59 = .ok (.iadd, 1) := by decide +kernel
theorem dX7_days_60 : decode cX7_days 60 = .ok (.istore 6, 2) := by decide +kernel
theorem dX7_days_62 : decode cX7_days 62 = .ok (.iconst 0, 1) := by decide +kernel
theorem dX7_days_63 : decode cX7_days 63 = .ok (.istore 7, 2) := by decide +kernel
theorem dX7_days_65 : decode cX7_days 65 = .ok (.iload 7, 2) := by decide +kernel
theorem dX7_days_67 : decode cX7_days 67 = .ok (.aload_n 0, 1) := by decide +kernel
theorem dX7_days_68 : decode cX7_days 68 = .ok (.getfield 19, 3) := by decide +kernel
theorem dX7_days_71 : decode cX7_days 71 = .ok (.getfield 150, 3) := by decide +kernel
theorem dX7_days_74 : decode cX7_days 74 = .ok (.if_icmp .ge 43, 3) := by decide +kernel
theorem dX7_days_77 : decode cX7_days 77 = .ok (.iload 6, 2) := by decide +kernel
theorem dX7_days_79 : decode cX7_days 79 = .ok (.ldc 253, 2) := by decide +kernel
theorem dX7_days_81 : decode cX7_days 81 = .ok (.imul, 1) := by decide +kernel
theorem dX7_days_82 : decode cX7_days 82 = .ok (.sipush 12345, 3) := by decide +kernel
theorem dX7_days_85 : decode cX7_days 85 = .ok (.iadd, 1) := by decide +kernel
theorem dX7_days_86 : decode cX7_days 86 = .ok (.istore 6, 2) := by decide +kernel
theorem dX7_days_88 : decode cX7_days 88 = .ok (.aload_n 0, 1) := by decide +kernel
theorem dX7_days_89 : decode cX7_days 89 = .ok (.getfield 19, 3) := by decide +kernel
theorem dX7_days_92 : decode cX7_days 92 = .ok (.getfield 217, 3) := by decide +kernel
theorem dX7_days_95 : decode cX7_days 95 = .ok (.iload 7, 2) := by decide +kernel
theorem dX7_days_97 : decode cX7_days 97 = .ok (.aaload, 1) := by decide +kernel
theorem dX7_days_98 : decode cX7_days 98 = .ok (.iload 6, 2) := by decide +kernel
theorem dX7_days_100 : decode cX7_days 100 = .ok (.ldc 254, 2) := by decide +kernel
theorem dX7_days_102 : decode cX7_days 102 = .ok (.iand, 1) := by decide +kernel
theorem dX7_days_103 : decode cX7_days 103 = .ok (.bipush 16, 2) := by decide +kernel
theorem dX7_days_105 : decode cX7_days 105 = .ok (.ishr, 1) := by decide +kernel
theorem dX7_days_106 : decode cX7_days 106 = .ok (.iload_n 2, 1) := by decide +kernel
theorem dX7_days_107 : decode cX7_days 107 = .ok (.irem, 1) := by decide +kernel
theorem dX7_days_108 : decode cX7_days 108 = .ok (.putfield 221, 3) := by decide +kernel
theorem dX7_days_111 : decode cX7_days 111 = .ok (.iinc 7 1, 3) := by decide +kernel
theorem dX7_days_114 : decode cX7_days 114 = .ok (.goto (-49), 3) := by decide +kernel
theorem dX7_days_117 : decode cX7_days 117 = .ok (.iload 4, 2) := by decide +kernel
theorem dX7_days_119 : decode cX7_days 119 = .ok (.aload_n 0, 1) := by decide +kernel
theorem dX7_days_120 : decode cX7_days 120 = .ok (.invokevirtual 224, 3) := by decide +kernel
theorem dX7_days_123 : decode cX7_days 123 = .ok (.iadd, 1) := by decide +kernel
theorem dX7_days_124 : decode cX7_days 124 = .ok (.istore 4, 2) := by decide +kernel
theorem dX7_days_126 : decode cX7_days 126 = .ok (.iinc 5 1, 3) := by decide +kernel
theorem dX7_days_129 : decode cX7_days 129 = .ok (.goto (-79), 3) := by decide +kernel
theorem dX7_days_132 : decode cX7_days 132 = .ok (.iload 4, 2) := by decide +kernel
theorem dX7_days_134 : decode cX7_days 134 = .ok (.ireturn, 1) := by decide +kernel
set_option maxHeartbeats 4000000 in
set_option maxRecDepth 100000 in
theorem c_X7_days_f (l : Launch) (D : va_G) (cA : Nat → ClassId) (ad : Nat → Nat) (o : Int64) (σ : Mem) (a : Int32) (b : Int32) (z : Int32) (hF : Fr σ) (sz : Nat) : Met l yX7_days (WY yX7_days cX7_days 8 (some .int)) (RM 1) (va_Pc [.ref (ad 66), .int a, .int b, .int z] (PW D cA ad o σ sz)) (va_Qi (fun r _ => r = (if a < 1 ∨ 5 < a ∨ b < 1 ∨ 60 < b then -1 else -3)) (QW D cA ad o) (FA ad sz)) 0 0 (FA ad sz) := by
  refine ct_of (own := RX7) (k := 1) (Qf := va_Qi (fun r _ => r = (if a < 1 ∨ 5 < a ∨ b < 1 ∨ 60 < b then -1 else -3)) (QW D cA ad o)) rfl (by decide) (Nat.le_of_ble_eq_true rfl) (fun p e s m below meth c ls C0 X hr hlk hP hl => ?_) sz
  have hS : va_S (FA ad s.heap.size) s.heap s.heap [] := va_S.rf
  have hl : lv_has ls 8 [(0, .ref (ad 66)), (1, .int a), (2, .int b), (3, .int z)] := hl
  obtain ⟨hx, hb, hml, hown, hts⟩ := id C0
  refine lv_iload_n hx hb dX7_days_0 rfl (lv_at hl 1 rfl) ?_
  refine lv_iconst (v := 1) hx hb dX7_days_1 (by decide) ?_
  refine lv_icmp_lt (tgt := 21) hx hb dX7_days_2 (by decide) (fun c_1 => ?_) (fun c_1 => ?_)
  · refine lv_iconst (v := (-1)) hx hb dX7_days_21 (by decide) ?_
    exact r_iret C0 X hP hS hr hlk dX7_days_22 (by simp only [c_1, Int32.not_le.mpr c_1, if_true, if_false, ite_true, ite_false, true_and, and_true, false_and, and_false, true_or, or_true, false_or, or_false, not_true_eq_false, not_false_eq_true, ne_eq, and_self, or_self]; try rfl)
  · refine lv_iload_n hx hb dX7_days_5 rfl (lv_at hl 1 rfl) ?_
    refine lv_iconst (v := 5) hx hb dX7_days_6 (by decide) ?_
    refine lv_icmp_gt (tgt := 21) hx hb dX7_days_7 (by decide) (fun c_2 => ?_) (fun c_2 => ?_)
    · refine lv_iconst (v := (-1)) hx hb dX7_days_21 (by decide) ?_
      exact r_iret C0 X hP hS hr hlk dX7_days_22 (by simp only [c_1, c_2, Int32.not_lt.mp c_1, Int32.not_le.mpr c_2, if_true, if_false, ite_true, ite_false, true_and, and_true, false_and, and_false, true_or, or_true, false_or, or_false, not_true_eq_false, not_false_eq_true, ne_eq, and_self, or_self]; try rfl)
    · refine lv_iload_n hx hb dX7_days_10 rfl (lv_at hl 2 rfl) ?_
      refine lv_iconst (v := 1) hx hb dX7_days_11 (by decide) ?_
      refine lv_icmp_lt (tgt := 21) hx hb dX7_days_12 (by decide) (fun c_3 => ?_) (fun c_3 => ?_)
      · refine lv_iconst (v := (-1)) hx hb dX7_days_21 (by decide) ?_
        exact r_iret C0 X hP hS hr hlk dX7_days_22 (by simp only [c_1, c_2, c_3, Int32.not_lt.mp c_1, Int32.not_lt.mp c_2, Int32.not_le.mpr c_3, if_true, if_false, ite_true, ite_false, true_and, and_true, false_and, and_false, true_or, or_true, false_or, or_false, not_true_eq_false, not_false_eq_true, ne_eq, and_self, or_self]; try rfl)
      · refine lv_iload_n hx hb dX7_days_15 rfl (lv_at hl 2 rfl) ?_
        refine lv_bipush (v := 60) hx hb dX7_days_16 (by decide) ?_
        refine lv_icmp_le (tgt := 23) hx hb dX7_days_18 (by decide) (fun c_4 => ?_) (fun c_4 => ?_)
        · refine lv_aload_n hx hb dX7_days_23 rfl (lv_at hl 0 rfl) ?_
          refine r_ci X hS (r_runV (As := []) (rest := []) C0 X hP L_X7_135 (fun sz => c_X7_cannotRun l D cA ad o σ   sz) (show 66 < 106 ∧ kd 66 = (7, 8) from ⟨by decide, rfl⟩).1 (show 66 < 106 ∧ kd 66 = (7, 8) from ⟨by decide, rfl⟩).2 (by decide) rfl ⟨Nat.le_of_ble_eq_true rfl, Nat.le_of_ble_eq_true rfl⟩ rfl hl.1 rfl (by decide) dX7_days_24 ⟨Nat.zero_le _, Nat.zero_le _⟩) (fun r σ9 H locs hw hP hS => ?_)
          rw [hw.2] at hP
          obtain ⟨⟨b_5, rfl⟩ | ⟨b_5, rfl⟩, -⟩ := hw
          · refine lv_if_eq (tgt := 33) hx hb dX7_days_27 (by decide) (fun c_6 => absurd c_6 (by decide)) (fun c_6 => ?_)
            refine lv_bipush (v := (-3)) hx hb dX7_days_30 (by decide) ?_
            exact r_iret C0 X hP hS hr hlk dX7_days_32 (by simp only [c_1, c_2, c_3, c_4, b_5, Int32.not_lt.mp c_1, Int32.not_lt.mp c_2, Int32.not_lt.mp c_3, Int32.not_lt.mpr c_4, if_true, if_false, ite_true, ite_false, true_and, and_true, false_and, and_false, true_or, or_true, false_or, or_false, not_true_eq_false, not_false_eq_true, ne_eq, and_self, or_self]; try rfl)
          · exact absurd (Or.inl (Fr_pieces hF)) b_5
        · refine lv_iconst (v := (-1)) hx hb dX7_days_21 (by decide) ?_
          exact r_iret C0 X hP hS hr hlk dX7_days_22 (by simp only [c_1, c_2, c_3, c_4, Int32.not_lt.mp c_1, Int32.not_lt.mp c_2, Int32.not_lt.mp c_3, Int32.not_le.mp c_4, if_true, if_false, ite_true, ite_false, true_and, and_true, false_and, and_false, true_or, or_true, false_or, or_false, not_true_eq_false, not_false_eq_true, ne_eq, and_self, or_self]; try rfl)
theorem dX7_met_0 : decode cX7_met 0 = .ok (.aload_n 0, 1) := by decide +kernel
theorem dX7_met_1 : decode cX7_met 1 = .ok (.getfield 12, 3) := by decide +kernel
theorem dX7_met_4 : decode cX7_met 4 = .ok (.iload_n 1, 1) := by decide +kernel
theorem dX7_met_5 : decode cX7_met 5 = .ok (.invokevirtual 99, 3) := by decide +kernel
theorem dX7_met_8 : decode cX7_met 8 = .ok (.ifnull 19, 3) := by decide +kernel
theorem dX7_met_11 : decode cX7_met 11 = .ok (.aload_n 0, 1) := by decide +kernel
theorem dX7_met_12 : decode cX7_met 12 = .ok (.getfield 12, 3) := by decide +kernel
theorem dX7_met_15 : decode cX7_met 15 = .ok (.iload_n 2, 1) := by decide +kernel
theorem dX7_met_16 : decode cX7_met 16 = .ok (.invokevirtual 99, 3) := by decide +kernel
theorem dX7_met_19 : decode cX7_met 19 = .ok (.ifnull 8, 3) := by decide +kernel
theorem dX7_met_22 : decode cX7_met 22 = .ok (.iload_n 1, 1) := by decide +kernel
theorem dX7_met_23 : decode cX7_met 23 = .ok (.iload_n 2, 1) := by decide +kernel
theorem dX7_met_24 : decode cX7_met 24 = .ok (.if_icmp .ne 5, 3) := by decide +kernel
theorem dX7_met_27 : decode cX7_met 27 = .ok (.iconst (-1), 1) := by decide +kernel
theorem dX7_met_28 : decode cX7_met 28 = .ok (.ireturn, 1) := by decide +kernel
theorem dX7_met_29 : decode cX7_met 29 = .ok (.aload_n 0, 1) := by decide +kernel
theorem dX7_met_30 : decode cX7_met 30 = .ok (.getfield 12, 3) := by decide +kernel
theorem dX7_met_33 : decode cX7_met 33 = .ok (.getfield 70, 3) := by decide +kernel
theorem dX7_met_36 : decode cX7_met 36 = .ok (.getfield 74, 3) := by decide +kernel
theorem dX7_met_39 : decode cX7_met 39 = .ok (.ifCond .ne 6, 3) := by decide +kernel
theorem dX7_met_42 : decode cX7_met 42 = .ok (.bipush (-3), 2) := by decide +kernel
theorem dX7_met_44 : decode cX7_met 44 = .ok (.ireturn, 1) := by decide +kernel
theorem dX7_met_45 : decode cX7_met 45 = .ok (.aload_n 0, 1) := by decide +kernel
theorem dX7_met_46 : decode cX7_met 46 = .ok (.getfield 19, 3) := by decide +kernel
theorem dX7_met_49 : decode cX7_met 49 = .ok (.aload_n 0, 1) := by decide +kernel
theorem dX7_met_50 : decode cX7_met 50 = .ok (.getfield 12, 3) := by decide +kernel
theorem dX7_met_53 : decode cX7_met 53 = .ok (.invokevirtual 62, 3) := by decide +kernel
theorem dX7_met_56 : decode cX7_met 56 = .ok (.aload_n 0, 1) := by decide +kernel
theorem dX7_met_57 : decode cX7_met 57 = .ok (.getfield 19, 3) := by decide +kernel
theorem dX7_met_60 : decode cX7_met 60 = .ok (.iload_n 1, 1) := by decide +kernel
theorem dX7_met_61 : decode cX7_met 61 = .ok (.iload_n 2, 1) := by decide +kernel
theorem dX7_met_62 : decode cX7_met 62 = .ok (.invokevirtual 255, 3) := by decide +kernel
theorem dX7_met_65 : decode cX7_met 65 = .ok (.aload_n 0, 1) := by decide +kernel
theorem dX7_met_66 : decode cX7_met 66 = .ok (.invokevirtual 224, 3) := by decide +kernel
theorem dX7_met_69 : decode cX7_met 69 = .ok (.pop, 1) := by decide +kernel
theorem dX7_met_70 : decode cX7_met 70 = .ok (.aload_n 0, 1) := by decide +kernel
theorem dX7_met_71 : decode cX7_met 71 = .ok (.getfield 19, 3) := by decide +kernel
theorem dX7_met_74 : decode cX7_met 74 = .ok (.getfield 258, 3) := by decide +kernel
theorem dX7_met_77 : decode cX7_met 77 = .ok (.istore_n 3, 1) := by decide +kernel
theorem dX7_met_78 : decode cX7_met 78 = .ok (.aload_n 0, 1) := by decide +kernel
theorem dX7_met_79 : decode cX7_met 79 = .ok (.getfield 19, 3) := by decide +kernel
theorem dX7_met_82 : decode cX7_met 82 = .ok (.bipush (-4), 2) := by decide +kernel
theorem dX7_met_84 : decode cX7_met 84 = .ok (.bipush (-4), 2) := by decide +kernel
theorem dX7_met_86 : decode cX7_met 86 = .ok (.invokevirtual 255, 3) := by decide +kernel
theorem dX7_met_89 : decode cX7_met 89 = .ok (.iload_n 3, 1) := by decide +kernel
theorem dX7_met_90 : decode cX7_met 90 = .ok (.ireturn, 1) := by decide +kernel
set_option maxHeartbeats 4000000 in
set_option maxRecDepth 100000 in
theorem c_X7_met_f (l : Launch) (D : va_G) (cA : Nat → ClassId) (ad : Nat → Nat) (o : Int64) (σ : Mem) (a : Int32) (b : Int32) (hF : Fr σ) (sz : Nat) : Met l yX7_met (WY yX7_met cX7_met 4 (some .int)) (RM 1) (va_Pc [.ref (ad 66), .int a, .int b] (PW D cA ad o σ sz)) (va_Qi (fun r _ => r = -1) (QW D cA ad o) (FA ad sz)) 0 0 (FA ad sz) := by
  refine ct_of (own := RX7) (k := 1) (Qf := va_Qi (fun r _ => r = -1) (QW D cA ad o)) rfl (by decide) (Nat.le_of_ble_eq_true rfl) (fun p e s m below meth c ls C0 X hr hlk hP hl => ?_) sz
  have hS : va_S (FA ad s.heap.size) s.heap s.heap [] := va_S.rf
  have hl : lv_has ls 4 [(0, .ref (ad 66)), (1, .int a), (2, .int b)] := hl
  obtain ⟨hx, hb, hml, hown, hts⟩ := id C0
  refine lv_aload_n hx hb dX7_met_0 rfl (lv_at hl 0 rfl) ?_
  refine gf_X7_12 C0 X hP 66 (q := 0) ⟨by decide, rfl⟩ (by omega) rfl dX7_met_1 ?_
  refine lv_iload_n hx hb dX7_met_4 rfl (lv_at hl 1 rfl) ?_
  refine r_cq X hS (r_runV (As := [.int a]) (rest := []) C0 X hP L_X7_99 (fun sz => c_X6_cartAt l D cA ad o σ 0 a (by decide) sz) (show 0 < 106 ∧ kd 0 = (6, 11) from ⟨by decide, rfl⟩).1 (show 0 < 106 ∧ kd 0 = (6, 11) from ⟨by decide, rfl⟩).2 (by decide) rfl ⟨Nat.le_of_ble_eq_true rfl, Nat.le_of_ble_eq_true rfl⟩ rfl hl.1 rfl (by decide) dX7_met_5 ⟨Nat.zero_le _, Nat.zero_le _⟩) (fun σ9 H locs hw hP hS => ?_) (fun x9 σ9 H locs hw hP hS => ?_)
  · rw [hw.1] at hP
    have h_1 := hw.2
    refine lv_ifnullN (tgt := 27) hx hb dX7_met_8 (by decide) ?_
    refine lv_iconst (v := (-1)) hx hb dX7_met_27 (by decide) ?_
    exact r_iret C0 X hP hS hr hlk dX7_met_28 rfl
  · rw [hw.1] at hP
    obtain ⟨-, j_2, hj_2, ej_2, lj_2, rfl⟩ := hw
    exact absurd lj_2 (by rw [show σ (22 * 0) 2 = 0 from Fr_count hF, ej_2]; exact nI_pos (by omega))
theorem dX7_image_0 : decode cX7_image 0 = .ok (.aload_n 0, 1) := by decide +kernel
theorem dX7_image_1 : decode cX7_image 1 = .ok (.getfield 16, 3) := by decide +kernel
theorem dX7_image_4 : decode cX7_image 4 = .ok (.aload_n 0, 1) := by decide +kernel
theorem dX7_image_5 : decode cX7_image 5 = .ok (.getfield 12, 3) := by decide +kernel
theorem dX7_image_8 : decode cX7_image 8 = .ok (.invokevirtual 62, 3) := by decide +kernel
theorem dX7_image_11 : decode cX7_image 11 = .ok (.aload_n 0, 1) := by decide +kernel
theorem dX7_image_12 : decode cX7_image 12 = .ok (.iconst 1, 1) := by decide +kernel
theorem dX7_image_13 : decode cX7_image 13 = .ok (.putfield 269, 3) := by decide +kernel
theorem dX7_image_16 : decode cX7_image 16 = .ok (.aload_n 0, 1) := by decide +kernel
theorem dX7_image_17 : decode cX7_image 17 = .ok (.getfield 12, 3) := by decide +kernel
theorem dX7_image_20 : decode cX7_image 20 = .ok (.getfield 144, 3) := by decide +kernel
theorem dX7_image_23 : decode cX7_image 23 = .ok (.ireturn, 1) := by decide +kernel
set_option maxHeartbeats 4000000 in
set_option maxRecDepth 100000 in
theorem c_X7_image_f (l : Launch) (D : va_G) (cA : Nat → ClassId) (ad : Nat → Nat) (o : Int64) (σ : Mem)  (hF : Fr σ) (sz : Nat) : Met l yX7_image (WY yX7_image cX7_image 1 (some .int)) (RM 3) (va_Pc [.ref (ad 66)] (PW D cA ad o σ sz)) (va_Qi (fun r _ => r = 0) (QW D cA ad o) (FA ad sz)) 0 0 (FA ad sz) := by
  refine ct_of (own := RX7) (k := 3) (Qf := va_Qi (fun r _ => r = 0) (QW D cA ad o)) rfl (by decide) (Nat.le_of_ble_eq_true rfl) (fun p e s m below meth c ls C0 X hr hlk hP hl => ?_) sz
  have hS : va_S (FA ad s.heap.size) s.heap s.heap [] := va_S.rf
  have hl : lv_has ls 1 [(0, .ref (ad 66))] := hl
  obtain ⟨hx, hb, hml, hown, hts⟩ := id C0
  refine lv_aload_n hx hb dX7_image_0 rfl (lv_at hl 0 rfl) ?_
  refine gf_X7_16 C0 X hP 66 (q := 22) ⟨by decide, rfl⟩ (by omega) rfl dX7_image_1 ?_
  refine lv_aload_n hx hb dX7_image_4 rfl (lv_at hl 0 rfl) ?_
  refine gf_X7_12 C0 X hP 66 (q := 0) ⟨by decide, rfl⟩ (by omega) rfl dX7_image_5 ?_
  refine r_cv X hS (r_runV (As := [.ref (ad 0)]) (rest := []) C0 X hP L_X7_62 (fun sz => c_X6_copyFrom l D cA ad o σ 1 0 (by decide) (by decide) (by decide) (Fr_bool hF) sz) (show 22 < 106 ∧ kd 22 = (6, 11) from ⟨by decide, rfl⟩).1 (show 22 < 106 ∧ kd 22 = (6, 11) from ⟨by decide, rfl⟩).2 (by decide) rfl ⟨Nat.le_of_ble_eq_true rfl, Nat.le_of_ble_eq_true rfl⟩ rfl hl.1 rfl (by decide) dX7_image_8 ⟨Nat.zero_le _, Nat.zero_le _⟩) (fun σ9 H locs hw hP hS => ?_)
  rw [hw] at hP
  refine lv_aload_n hx hb dX7_image_11 rfl (lv_at hl 0 rfl) ?_
  refine lv_iconst (v := 1) hx hb dX7_image_12 (by decide) ?_
  refine pf_X7_269 C0 X hP hS 66 (Or.inr rfl) ⟨by decide, rfl⟩ dX7_image_13 (fun H locs hP hS => ?_)
  refine lv_aload_n hx hb dX7_image_16 rfl (lv_at hl 0 rfl) ?_
  refine gf_X7_12 C0 X hP 66 (q := 0) ⟨by decide, rfl⟩ (by omega) rfl dX7_image_17 ?_
  refine gf_X7_144 C0 X hP 0 ⟨by decide, rfl⟩ dX7_image_20 ?_
  refine lv_topE (y := 0) (by simp only [tcpy, stm_ne _ _ _ (show 0 ≠ 66 by decide), rcpy_ne _ _ _ (show 0 ≠ 22 * 1 + 14 by decide), stm_ne _ _ _ (show 0 ≠ 22 * 1 by decide)]; rw [ccpyK_ne _ (by decide), rdcpy_ne _ (by decide)]; exact Fr_minute hF) ?_
  exact r_iret C0 X hP hS hr hlk dX7_image_23 rfl
theorem dX7_restore_0 : decode cX7_restore 0 = .ok (.aload_n 0, 1) := by decide +kernel
theorem dX7_restore_1 : decode cX7_restore 1 = .ok (.getfield 269, 3) := by decide +kernel
theorem dX7_restore_4 : decode cX7_restore 4 = .ok (.ifCond .ne 6, 3) := by decide +kernel
theorem dX7_restore_7 : decode cX7_restore 7 = .ok (.bipush (-3), 2) := by decide +kernel
theorem dX7_restore_9 : decode cX7_restore 9 = .ok (.ireturn, 1) := by decide +kernel
theorem dX7_restore_10 : decode cX7_restore 10 = .ok (.aload_n 0, 1) := by decide +kernel
theorem dX7_restore_11 : decode cX7_restore 11 = .ok (.getfield 12, 3) := by decide +kernel
theorem dX7_restore_14 : decode cX7_restore 14 = .ok (.aload_n 0, 1) := by decide +kernel
theorem dX7_restore_15 : decode cX7_restore 15 = .ok (.getfield 16, 3) := by decide +kernel
theorem dX7_restore_18 : decode cX7_restore 18 = .ok (.invokevirtual 62, 3) := by decide +kernel
theorem dX7_restore_21 : decode cX7_restore 21 = .ok (.aload_n 0, 1) := by decide +kernel
theorem dX7_restore_22 : decode cX7_restore 22 = .ok (.getfield 12, 3) := by decide +kernel
theorem dX7_restore_25 : decode cX7_restore 25 = .ok (.getfield 144, 3) := by decide +kernel
theorem dX7_restore_28 : decode cX7_restore 28 = .ok (.ireturn, 1) := by decide +kernel
set_option maxHeartbeats 4000000 in
set_option maxRecDepth 100000 in
theorem c_X7_restore_f (l : Launch) (D : va_G) (cA : Nat → ClassId) (ad : Nat → Nat) (o : Int64) (σ : Mem)  (hF : Fr σ) (sz : Nat) : Met l yX7_restore (WY yX7_restore cX7_restore 1 (some .int)) (RM 0) (va_Pc [.ref (ad 66)] (PW D cA ad o σ sz)) (va_Qi (fun r _ => r = -3) (QW D cA ad o) (FA ad sz)) 0 0 (FA ad sz) := by
  refine ct_of (own := RX7) (k := 0) (Qf := va_Qi (fun r _ => r = -3) (QW D cA ad o)) rfl (by decide) (Nat.le_of_ble_eq_true rfl) (fun p e s m below meth c ls C0 X hr hlk hP hl => ?_) sz
  have hS : va_S (FA ad s.heap.size) s.heap s.heap [] := va_S.rf
  have hl : lv_has ls 1 [(0, .ref (ad 66))] := hl
  obtain ⟨hx, hb, hml, hown, hts⟩ := id C0
  refine lv_aload_n hx hb dX7_restore_0 rfl (lv_at hl 0 rfl) ?_
  refine gf_X7_269 C0 X hP 66 ⟨by decide, rfl⟩ dX7_restore_1 ?_
  refine lv_topE (y := 0) (Fr_img hF) ?_
  refine lv_if_ne (tgt := 10) hx hb dX7_restore_4 (by decide) (fun c_1 => absurd c_1 (by decide)) (fun c_1 => ?_)
  refine lv_bipush (v := (-3)) hx hb dX7_restore_7 (by decide) ?_
  exact r_iret C0 X hP hS hr hlk dX7_restore_9 rfl
theorem dX7_count_0 : decode cX7_count 0 = .ok (.iload_n 1, 1) := by decide +kernel
theorem dX7_count_1 : decode cX7_count 1 = .ok (.tableswitch 116 0 5 #[39, 50, 58, 69, 80, 108], 39) := by decide +kernel
theorem dX7_count_40 : decode cX7_count 40 = .ok (.aload_n 0, 1) := by decide +kernel
theorem dX7_count_41 : decode cX7_count 41 = .ok (.getfield 12, 3) := by decide +kernel
theorem dX7_count_44 : decode cX7_count 44 = .ok (.getfield 70, 3) := by decide +kernel
theorem dX7_count_47 : decode cX7_count 47 = .ok (.getfield 74, 3) := by decide +kernel
theorem dX7_count_50 : decode cX7_count 50 = .ok (.ireturn, 1) := by decide +kernel
theorem dX7_count_51 : decode cX7_count 51 = .ok (.aload_n 0, 1) := by decide +kernel
theorem dX7_count_52 : decode cX7_count 52 = .ok (.getfield 12, 3) := by decide +kernel
theorem dX7_count_55 : decode cX7_count 55 = .ok (.getfield 150, 3) := by decide +kernel
theorem dX7_count_58 : decode cX7_count 58 = .ok (.ireturn, 1) := by decide +kernel
theorem dX7_count_59 : decode cX7_count 59 = .ok (.aload_n 0, 1) := by decide +kernel
theorem dX7_count_60 : decode cX7_count 60 = .ok (.getfield 12, 3) := by decide +kernel
theorem dX7_count_63 : decode cX7_count 63 = .ok (.getfield 70, 3) := by decide +kernel
theorem dX7_count_66 : decode cX7_count 66 = .ok (.getfield 272, 3) := by decide +kernel
theorem dX7_count_69 : decode cX7_count 69 = .ok (.ireturn, 1) := by decide +kernel
theorem dX7_count_70 : decode cX7_count 70 = .ok (.aload_n 0, 1) := by decide +kernel
theorem dX7_count_71 : decode cX7_count 71 = .ok (.getfield 12, 3) := by decide +kernel
theorem dX7_count_74 : decode cX7_count 74 = .ok (.getfield 70, 3) := by decide +kernel
theorem dX7_count_77 : decode cX7_count 77 = .ok (.invokevirtual 275, 3) := by decide +kernel
theorem dX7_count_80 : decode cX7_count 80 = .ok (.ireturn, 1) := by decide +kernel
theorem dX7_count_81 : decode cX7_count 81 = .ok (.aload_n 0, 1) := by decide +kernel
theorem dX7_count_82 : decode cX7_count 82 = .ok (.getfield 12, 3) := by decide +kernel
theorem dX7_count_85 : decode cX7_count 85 = .ok (.getfield 150, 3) := by decide +kernel
theorem dX7_count_88 : decode cX7_count 88 = .ok (.aload_n 0, 1) := by decide +kernel
theorem dX7_count_89 : decode cX7_count 89 = .ok (.getfield 12, 3) := by decide +kernel
theorem dX7_count_92 : decode cX7_count 92 = .ok (.bipush (-2), 2) := by decide +kernel
theorem dX7_count_94 : decode cX7_count 94 = .ok (.invokevirtual 176, 3) := by decide +kernel
theorem dX7_count_97 : decode cX7_count 97 = .ok (.isub, 1) := by decide +kernel
theorem dX7_count_98 : decode cX7_count 98 = .ok (.aload_n 0, 1) := by decide +kernel
theorem dX7_count_99 : decode cX7_count 99 = .ok (.getfield 12, 3) := by decide +kernel
theorem dX7_count_102 : decode cX7_count 102 = .ok (.bipush (-3), 2) := by decide +kernel
theorem dX7_count_104 : decode cX7_count 104 = .ok (.invokevirtual 176, 3) := by decide +kernel
theorem dX7_count_107 : decode cX7_count 107 = .ok (.isub, 1) := by decide +kernel
theorem dX7_count_108 : decode cX7_count 108 = .ok (.ireturn, 1) := by decide +kernel
theorem dX7_count_109 : decode cX7_count 109 = .ok (.aload_n 0, 1) := by decide +kernel
theorem dX7_count_110 : decode cX7_count 110 = .ok (.getfield 12, 3) := by decide +kernel
theorem dX7_count_113 : decode cX7_count 113 = .ok (.invokevirtual 278, 3) := by decide +kernel
theorem dX7_count_116 : decode cX7_count 116 = .ok (.ireturn, 1) := by decide +kernel
theorem dX7_count_117 : decode cX7_count 117 = .ok (.iconst (-1), 1) := by decide +kernel
theorem dX7_count_118 : decode cX7_count 118 = .ok (.ireturn, 1) := by decide +kernel
set_option maxHeartbeats 4000000 in
set_option maxRecDepth 100000 in
theorem c_X7_count_f (l : Launch) (D : va_G) (cA : Nat → ClassId) (ad : Nat → Nat) (o : Int64) (σ : Mem) (w : Int32) (hF : Fr σ) (sz : Nat) : Met l yX7_count (WY yX7_count cX7_count 2 (some .int)) (RM 1) (va_Pc [.ref (ad 66), .int w] (PW D cA ad o σ sz)) (va_Qi (fun r _ => r = (if w = 0 ∨ w = 1 ∨ w = 2 ∨ w = 3 ∨ w = 4 ∨ w = 5 then 0 else -1)) (QW D cA ad o) (FA ad sz)) 0 0 (FA ad sz) := by
  refine ct_of (own := RX7) (k := 1) (Qf := va_Qi (fun r _ => r = (if w = 0 ∨ w = 1 ∨ w = 2 ∨ w = 3 ∨ w = 4 ∨ w = 5 then 0 else -1)) (QW D cA ad o)) rfl (by decide) (Nat.le_of_ble_eq_true rfl) (fun p e s m below meth c ls C0 X hr hlk hP hl => ?_) sz
  have hS : va_S (FA ad s.heap.size) s.heap s.heap [] := va_S.rf
  have hl : lv_has ls 2 [(0, .ref (ad 66)), (1, .int w)] := hl
  obtain ⟨hx, hb, hml, hown, hts⟩ := id C0
  refine lv_iload_n hx hb dX7_count_0 rfl (lv_at hl 1 rfl) ?_
  rcases sw_in (x := w) (lo := 0) (n := 6) with c_1 | ⟨j, hj, c_1⟩
  · have e_2 : ¬ w = 0 := sw_ne c_1 (by decide)
    have e_3 : ¬ w = 1 := sw_ne c_1 (by decide)
    have e_4 : ¬ w = 2 := sw_ne c_1 (by decide)
    have e_5 : ¬ w = 3 := sw_ne c_1 (by decide)
    have e_6 : ¬ w = 4 := sw_ne c_1 (by decide)
    have e_7 : ¬ w = 5 := sw_ne c_1 (by decide)
    refine lv_tableOut (tgt := 117) hx hb dX7_count_1 (by omega) (by decide) ?_
    refine lv_iconst (v := (-1)) hx hb dX7_count_117 (by decide) ?_
    exact r_iret C0 X hP hS hr hlk dX7_count_118 (by simp only [e_2, e_3, e_4, e_5, e_6, e_7, if_true, if_false, ite_true, ite_false, true_and, and_true, false_and, and_false, true_or, or_true, false_or, or_false, not_true_eq_false, not_false_eq_true, ne_eq, and_self, or_self]; try rfl)
  · rcases (show j = 0 ∨ j = 1 ∨ j = 2 ∨ j = 3 ∨ j = 4 ∨ j = 5 by omega) with rfl | rfl | rfl | rfl | rfl | rfl
    · have e_8 : w = 0 := sw_eq c_1 (by decide)
      refine lv_tableIn (off := 39) (tgt := 40) hx hb dX7_count_1 (by rw [e_8]; decide) (by rw [e_8]; decide) (by rw [e_8]; rfl) (by decide) ?_
      refine lv_aload_n hx hb dX7_count_40 rfl (lv_at hl 0 rfl) ?_
      refine gf_X7_12 C0 X hP 66 (q := 0) ⟨by decide, rfl⟩ (by omega) rfl dX7_count_41 ?_
      refine gf_X7_70 C0 X hP 0 (q := 1) ⟨by decide, rfl⟩ (by omega) rfl dX7_count_44 ?_
      refine gf_X7_74 C0 X hP 1 ⟨by decide, rfl⟩ dX7_count_47 ?_
      refine lv_topE (y := 0) (Fr_pieces hF) ?_
      exact r_iret C0 X hP hS hr hlk dX7_count_50 (by simp only [e_8, if_true, if_false, ite_true, ite_false, true_and, and_true, false_and, and_false, true_or, or_true, false_or, or_false, not_true_eq_false, not_false_eq_true, ne_eq, and_self, or_self]; try rfl)
    · have e_9 : w = 1 := sw_eq c_1 (by decide)
      refine lv_tableIn (off := 50) (tgt := 51) hx hb dX7_count_1 (by rw [e_9]; decide) (by rw [e_9]; decide) (by rw [e_9]; rfl) (by decide) ?_
      refine lv_aload_n hx hb dX7_count_51 rfl (lv_at hl 0 rfl) ?_
      refine gf_X7_12 C0 X hP 66 (q := 0) ⟨by decide, rfl⟩ (by omega) rfl dX7_count_52 ?_
      refine gf_X7_150 C0 X hP 0 ⟨by decide, rfl⟩ dX7_count_55 ?_
      refine lv_topE (y := 0) (Fr_count hF) ?_
      exact r_iret C0 X hP hS hr hlk dX7_count_58 (by simp only [e_9, if_true, if_false, ite_true, ite_false, true_and, and_true, false_and, and_false, true_or, or_true, false_or, or_false, not_true_eq_false, not_false_eq_true, ne_eq, and_self, or_self]; try rfl)
    · have e_10 : w = 2 := sw_eq c_1 (by decide)
      refine lv_tableIn (off := 58) (tgt := 59) hx hb dX7_count_1 (by rw [e_10]; decide) (by rw [e_10]; decide) (by rw [e_10]; rfl) (by decide) ?_
      refine lv_aload_n hx hb dX7_count_59 rfl (lv_at hl 0 rfl) ?_
      refine gf_X7_12 C0 X hP 66 (q := 0) ⟨by decide, rfl⟩ (by omega) rfl dX7_count_60 ?_
      refine gf_X7_70 C0 X hP 0 (q := 1) ⟨by decide, rfl⟩ (by omega) rfl dX7_count_63 ?_
      refine gf_X7_272 C0 X hP 1 ⟨by decide, rfl⟩ dX7_count_66 ?_
      refine lv_topE (y := 0) (Fr_end hF) ?_
      exact r_iret C0 X hP hS hr hlk dX7_count_69 (by simp only [e_10, if_true, if_false, ite_true, ite_false, true_and, and_true, false_and, and_false, true_or, or_true, false_or, or_false, not_true_eq_false, not_false_eq_true, ne_eq, and_self, or_self]; try rfl)
    · have e_11 : w = 3 := sw_eq c_1 (by decide)
      refine lv_tableIn (off := 69) (tgt := 70) hx hb dX7_count_1 (by rw [e_11]; decide) (by rw [e_11]; decide) (by rw [e_11]; rfl) (by decide) ?_
      refine lv_aload_n hx hb dX7_count_70 rfl (lv_at hl 0 rfl) ?_
      refine gf_X7_12 C0 X hP 66 (q := 0) ⟨by decide, rfl⟩ (by omega) rfl dX7_count_71 ?_
      refine gf_X7_70 C0 X hP 0 (q := 1) ⟨by decide, rfl⟩ (by omega) rfl dX7_count_74 ?_
      refine r_ci X hS (r_runV (As := []) (rest := []) C0 X hP L_X7_275 (fun sz => c_X4_allRoom0 l D cA ad o σ 0 (by decide) (Fr_pieces hF) sz) (show 1 < 106 ∧ kd 1 = (4, 13) from ⟨by decide, rfl⟩).1 (show 1 < 106 ∧ kd 1 = (4, 13) from ⟨by decide, rfl⟩).2 (by decide) rfl ⟨Nat.le_of_ble_eq_true rfl, Nat.le_of_ble_eq_true rfl⟩ rfl hl.1 rfl (by decide) dX7_count_77 ⟨Nat.zero_le _, Nat.zero_le _⟩) (fun r σ9 H locs hw hP hS => ?_)
      rw [hw.2] at hP
      rw [hw.1]
      exact r_iret C0 X hP hS hr hlk dX7_count_80 (by simp only [e_11, if_true, if_false, ite_true, ite_false, true_and, and_true, false_and, and_false, true_or, or_true, false_or, or_false, not_true_eq_false, not_false_eq_true, ne_eq, and_self, or_self]; try rfl)
    · have e_12 : w = 4 := sw_eq c_1 (by decide)
      refine lv_tableIn (off := 80) (tgt := 81) hx hb dX7_count_1 (by rw [e_12]; decide) (by rw [e_12]; decide) (by rw [e_12]; rfl) (by decide) ?_
      refine lv_aload_n hx hb dX7_count_81 rfl (lv_at hl 0 rfl) ?_
      refine gf_X7_12 C0 X hP 66 (q := 0) ⟨by decide, rfl⟩ (by omega) rfl dX7_count_82 ?_
      refine gf_X7_150 C0 X hP 0 ⟨by decide, rfl⟩ dX7_count_85 ?_
      refine lv_topE (y := 0) (Fr_count hF) ?_
      refine lv_aload_n hx hb dX7_count_88 rfl (lv_at hl 0 rfl) ?_
      refine gf_X7_12 C0 X hP 66 (q := 0) ⟨by decide, rfl⟩ (by omega) rfl dX7_count_89 ?_
      refine lv_bipush (v := (-2)) hx hb dX7_count_92 (by decide) ?_
      refine r_ci X hS (r_runV (As := [.int (-2)]) (rest := [.int 0]) C0 X hP L_X7_176 (fun sz => c_X6_howMany0 l D cA ad o σ 0 (-2) (by decide) (Fr_count hF) sz) (show 0 < 106 ∧ kd 0 = (6, 11) from ⟨by decide, rfl⟩).1 (show 0 < 106 ∧ kd 0 = (6, 11) from ⟨by decide, rfl⟩).2 (by decide) rfl ⟨Nat.le_of_ble_eq_true rfl, Nat.le_of_ble_eq_true rfl⟩ rfl hl.1 rfl (by decide) dX7_count_94 ⟨Nat.zero_le _, Nat.zero_le _⟩) (fun r σ9 H locs hw hP hS => ?_)
      rw [hw.2] at hP
      rw [hw.1]
      refine lv_isub hx hb dX7_count_97 ?_
      refine lv_aload_n hx hb dX7_count_98 rfl (lv_at hl 0 rfl) ?_
      refine gf_X7_12 C0 X hP 66 (q := 0) ⟨by decide, rfl⟩ (by omega) rfl dX7_count_99 ?_
      refine lv_bipush (v := (-3)) hx hb dX7_count_102 (by decide) ?_
      refine r_ci X hS (r_runV (As := [.int (-3)]) (rest := [.int (0 - 0)]) C0 X hP L_X7_176 (fun sz => c_X6_howMany0 l D cA ad o σ 0 (-3) (by decide) (Fr_count hF) sz) (show 0 < 106 ∧ kd 0 = (6, 11) from ⟨by decide, rfl⟩).1 (show 0 < 106 ∧ kd 0 = (6, 11) from ⟨by decide, rfl⟩).2 (by decide) rfl ⟨Nat.le_of_ble_eq_true rfl, Nat.le_of_ble_eq_true rfl⟩ rfl hl.1 rfl (by decide) dX7_count_104 ⟨Nat.zero_le _, Nat.zero_le _⟩) (fun r σ9 H locs hw hP hS => ?_)
      rw [hw.2] at hP
      rw [hw.1]
      refine lv_isub hx hb dX7_count_107 ?_
      exact r_iret C0 X hP hS hr hlk dX7_count_108 (by simp only [e_12, if_true, if_false, ite_true, ite_false, true_and, and_true, false_and, and_false, true_or, or_true, false_or, or_false, not_true_eq_false, not_false_eq_true, ne_eq, and_self, or_self]; try rfl)
    · have e_13 : w = 5 := sw_eq c_1 (by decide)
      refine lv_tableIn (off := 108) (tgt := 109) hx hb dX7_count_1 (by rw [e_13]; decide) (by rw [e_13]; decide) (by rw [e_13]; rfl) (by decide) ?_
      refine lv_aload_n hx hb dX7_count_109 rfl (lv_at hl 0 rfl) ?_
      refine gf_X7_12 C0 X hP 66 (q := 0) ⟨by decide, rfl⟩ (by omega) rfl dX7_count_110 ?_
      refine r_ci X hS (r_runV (As := []) (rest := []) C0 X hP L_X7_278 (fun sz => c_X6_allWorth0 l D cA ad o σ 0  (by decide) (Fr_count hF) sz) (show 0 < 106 ∧ kd 0 = (6, 11) from ⟨by decide, rfl⟩).1 (show 0 < 106 ∧ kd 0 = (6, 11) from ⟨by decide, rfl⟩).2 (by decide) rfl ⟨Nat.le_of_ble_eq_true rfl, Nat.le_of_ble_eq_true rfl⟩ rfl hl.1 rfl (by decide) dX7_count_113 ⟨Nat.zero_le _, Nat.zero_le _⟩) (fun r σ9 H locs hw hP hS => ?_)
      rw [hw.2] at hP
      rw [hw.1]
      exact r_iret C0 X hP hS hr hlk dX7_count_116 (by simp only [e_13, if_true, if_false, ite_true, ite_false, true_and, and_true, false_and, and_false, true_or, or_true, false_or, or_false, not_true_eq_false, not_false_eq_true, ne_eq, and_self, or_self]; try rfl)
end
