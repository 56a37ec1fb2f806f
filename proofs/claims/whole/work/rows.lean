section
-- ===== PART A: goes FIRST, ahead of the names: the tables' words, and 'selects' of the private methods out of them =====
/-- a private method of a class that the tables say can be made, by its rows of tables_1 -/
def lw_okq (q : MethodName × Nat) : Prop := (q.1.cls ≠ "java/lang/invoke/MethodHandle" ∧ q.1.cls ≠ "java/lang/invoke/VarHandle") ∧ Cond.instantiable q.1.cls q.2 ∈ tables_1 ∧ Cond.privateMethod q.1 ∈ tables_1 ∧ Cond.instanceMethod q.1 ∈ tables_1
theorem lw_p0 : lw_okq (⟨"TwoTrue$Text", "readClause", "(LTwoTrue$Evening;)Z"⟩, 4) := ⟨⟨by decide +kernel, by decide +kernel⟩, List.mem_of_getElem? (i := 121) (by decide +kernel), List.mem_of_getElem? (i := 342) (by decide +kernel), List.mem_of_getElem? (i := 343) (by decide +kernel)⟩
theorem lw_p1 : lw_okq (⟨"TwoTrue$Text", "sees", "(I)Z"⟩, 4) := ⟨⟨by decide +kernel, by decide +kernel⟩, List.mem_of_getElem? (i := 121) (by decide +kernel), List.mem_of_getElem? (i := 346) (by decide +kernel), List.mem_of_getElem? (i := 347) (by decide +kernel)⟩
theorem lw_p2 : lw_okq (⟨"TwoTrue$Text", "passesWord", "(Ljava/lang/String;)Z"⟩, 4) := ⟨⟨by decide +kernel, by decide +kernel⟩, List.mem_of_getElem? (i := 121) (by decide +kernel), List.mem_of_getElem? (i := 351) (by decide +kernel), List.mem_of_getElem? (i := 352) (by decide +kernel)⟩
theorem lw_p3 : lw_okq (⟨"TwoTrue$Text", "passes", "(I)Z"⟩, 4) := ⟨⟨by decide +kernel, by decide +kernel⟩, List.mem_of_getElem? (i := 121) (by decide +kernel), List.mem_of_getElem? (i := 403) (by decide +kernel), List.mem_of_getElem? (i := 404) (by decide +kernel)⟩
theorem lw_p4 : lw_okq (⟨"TwoTrue$Text", "readNumber", "()Z"⟩, 4) := ⟨⟨by decide +kernel, by decide +kernel⟩, List.mem_of_getElem? (i := 121) (by decide +kernel), List.mem_of_getElem? (i := 407) (by decide +kernel), List.mem_of_getElem? (i := 408) (by decide +kernel)⟩
theorem lw_p5 : lw_okq (⟨"TwoTrue$Text", "seesDigit", "()Z"⟩, 4) := ⟨⟨by decide +kernel, by decide +kernel⟩, List.mem_of_getElem? (i := 121) (by decide +kernel), List.mem_of_getElem? (i := 411) (by decide +kernel), List.mem_of_getElem? (i := 412) (by decide +kernel)⟩
theorem lw_p6 : lw_okq (⟨"TwoTrue$Text", "readE", "(LTwoTrue$Evening;I)Z"⟩, 4) := ⟨⟨by decide +kernel, by decide +kernel⟩, List.mem_of_getElem? (i := 121) (by decide +kernel), List.mem_of_getElem? (i := 417) (by decide +kernel), List.mem_of_getElem? (i := 418) (by decide +kernel)⟩
theorem lw_p7 : lw_okq (⟨"TwoTrue$Text", "readF", "(LTwoTrue$Evening;I)Z"⟩, 4) := ⟨⟨by decide +kernel, by decide +kernel⟩, List.mem_of_getElem? (i := 121) (by decide +kernel), List.mem_of_getElem? (i := 421) (by decide +kernel), List.mem_of_getElem? (i := 422) (by decide +kernel)⟩
theorem lw_p8 : lw_okq (⟨"TwoTrue$Text", "readTest", "(LTwoTrue$Evening;)Z"⟩, 4) := ⟨⟨by decide +kernel, by decide +kernel⟩, List.mem_of_getElem? (i := 121) (by decide +kernel), List.mem_of_getElem? (i := 429) (by decide +kernel), List.mem_of_getElem? (i := 430) (by decide +kernel)⟩
theorem lw_p9 : lw_okq (⟨"TwoTrue", "held", "()LTwoTrue$Evening;"⟩, 14) := ⟨⟨by decide +kernel, by decide +kernel⟩, List.mem_of_getElem? (i := 18) (by decide +kernel), List.mem_of_getElem? (i := 498) (by decide +kernel), List.mem_of_getElem? (i := 499) (by decide +kernel)⟩
theorem lw_p10 : lw_okq (⟨"TwoTrue$Evening", "runClauses", "()I"⟩, 4) := ⟨⟨by decide +kernel, by decide +kernel⟩, List.mem_of_getElem? (i := 142) (by decide +kernel), List.mem_of_getElem? (i := 510) (by decide +kernel), List.mem_of_getElem? (i := 511) (by decide +kernel)⟩
theorem lw_p11 : lw_okq (⟨"TwoTrue$Evening", "holds", "(III)Z"⟩, 4) := ⟨⟨by decide +kernel, by decide +kernel⟩, List.mem_of_getElem? (i := 142) (by decide +kernel), List.mem_of_getElem? (i := 514) (by decide +kernel), List.mem_of_getElem? (i := 515) (by decide +kernel)⟩
theorem lw_p12 : lw_okq (⟨"TwoTrue", "playForPoints", "(LTwoTrue$Party;I)I"⟩, 14) := ⟨⟨by decide +kernel, by decide +kernel⟩, List.mem_of_getElem? (i := 18) (by decide +kernel), List.mem_of_getElem? (i := 522) (by decide +kernel), List.mem_of_getElem? (i := 523) (by decide +kernel)⟩
theorem lw_p13 : lw_okq (⟨"TwoTrue", "playAsEver", "(LTwoTrue$Party;I)I"⟩, 14) := ⟨⟨by decide +kernel, by decide +kernel⟩, List.mem_of_getElem? (i := 18) (by decide +kernel), List.mem_of_getElem? (i := 526) (by decide +kernel), List.mem_of_getElem? (i := 527) (by decide +kernel)⟩
theorem lw_p14 : lw_okq (⟨"TwoTrue$Play", "addedTo", "(LTwoTrue$Person;LTwoTrue$Person;ILTwoTrue$Party;)I"⟩, 7) := ⟨⟨by decide +kernel, by decide +kernel⟩, List.mem_of_getElem? (i := 164) (by decide +kernel), List.mem_of_getElem? (i := 544) (by decide +kernel), List.mem_of_getElem? (i := 545) (by decide +kernel)⟩
theorem lw_p15 : lw_okq (⟨"TwoTrue", "seekLine", "(I)I"⟩, 14) := ⟨⟨by decide +kernel, by decide +kernel⟩, List.mem_of_getElem? (i := 18) (by decide +kernel), List.mem_of_getElem? (i := 603) (by decide +kernel), List.mem_of_getElem? (i := 604) (by decide +kernel)⟩
def lw_privs_1 : List (MethodName × Nat) := [(⟨"TwoTrue$Text", "readClause", "(LTwoTrue$Evening;)Z"⟩, 4), (⟨"TwoTrue$Text", "sees", "(I)Z"⟩, 4), (⟨"TwoTrue$Text", "passesWord", "(Ljava/lang/String;)Z"⟩, 4), (⟨"TwoTrue$Text", "passes", "(I)Z"⟩, 4), (⟨"TwoTrue$Text", "readNumber", "()Z"⟩, 4), (⟨"TwoTrue$Text", "seesDigit", "()Z"⟩, 4), (⟨"TwoTrue$Text", "readE", "(LTwoTrue$Evening;I)Z"⟩, 4), (⟨"TwoTrue$Text", "readF", "(LTwoTrue$Evening;I)Z"⟩, 4), (⟨"TwoTrue$Text", "readTest", "(LTwoTrue$Evening;)Z"⟩, 4), (⟨"TwoTrue", "held", "()LTwoTrue$Evening;"⟩, 14), (⟨"TwoTrue$Evening", "runClauses", "()I"⟩, 4), (⟨"TwoTrue$Evening", "holds", "(III)Z"⟩, 4), (⟨"TwoTrue", "playForPoints", "(LTwoTrue$Party;I)I"⟩, 14), (⟨"TwoTrue", "playAsEver", "(LTwoTrue$Party;I)I"⟩, 14), (⟨"TwoTrue$Play", "addedTo", "(LTwoTrue$Person;LTwoTrue$Person;ILTwoTrue$Party;)I"⟩, 7), (⟨"TwoTrue", "seekLine", "(I)I"⟩, 14)]
theorem lw_r1 : ∀ q ∈ lw_privs_1, lw_okq q := List.forall_mem_cons.mpr ⟨lw_p0, List.forall_mem_cons.mpr ⟨lw_p1, List.forall_mem_cons.mpr ⟨lw_p2, List.forall_mem_cons.mpr ⟨lw_p3, List.forall_mem_cons.mpr ⟨lw_p4, List.forall_mem_cons.mpr ⟨lw_p5, List.forall_mem_cons.mpr ⟨lw_p6, List.forall_mem_cons.mpr ⟨lw_p7, List.forall_mem_cons.mpr ⟨lw_p8, List.forall_mem_cons.mpr ⟨lw_p9, List.forall_mem_cons.mpr ⟨lw_p10, List.forall_mem_cons.mpr ⟨lw_p11, List.forall_mem_cons.mpr ⟨lw_p12, List.forall_mem_cons.mpr ⟨lw_p13, List.forall_mem_cons.mpr ⟨lw_p14, List.forall_mem_cons.mpr ⟨lw_p15, fun _ h => absurd h List.not_mem_nil⟩⟩⟩⟩⟩⟩⟩⟩⟩⟩⟩⟩⟩⟩⟩⟩
theorem lw_p16 : lw_okq (⟨"TwoTrue", "guessOfGuest", "(LTwoTrue$Person;LTwoTrue$Person;)I"⟩, 14) := ⟨⟨by decide +kernel, by decide +kernel⟩, List.mem_of_getElem? (i := 18) (by decide +kernel), List.mem_of_getElem? (i := 618) (by decide +kernel), List.mem_of_getElem? (i := 619) (by decide +kernel)⟩
theorem lw_p17 : lw_okq (⟨"TwoTrue$Acts", "runBody", "(ILTwoTrue$Person;III)I"⟩, 2) := ⟨⟨by decide +kernel, by decide +kernel⟩, List.mem_of_getElem? (i := 197) (by decide +kernel), List.mem_of_getElem? (i := 701) (by decide +kernel), List.mem_of_getElem? (i := 702) (by decide +kernel)⟩
theorem lw_p18 : lw_okq (⟨"TwoTrueModel", "in", "(III)Z"⟩, 65) := ⟨⟨by decide +kernel, by decide +kernel⟩, List.mem_of_getElem? (i := 758) (by decide +kernel), List.mem_of_getElem? (i := 964) (by decide +kernel), List.mem_of_getElem? (i := 965) (by decide +kernel)⟩
theorem lw_p19 : lw_okq (⟨"TwoTrueModel", "isPerson", "(I)Z"⟩, 65) := ⟨⟨by decide +kernel, by decide +kernel⟩, List.mem_of_getElem? (i := 758) (by decide +kernel), List.mem_of_getElem? (i := 972) (by decide +kernel), List.mem_of_getElem? (i := 973) (by decide +kernel)⟩
theorem lw_p20 : lw_okq (⟨"TwoTrueModel", "layTale", "(III)V"⟩, 65) := ⟨⟨by decide +kernel, by decide +kernel⟩, List.mem_of_getElem? (i := 758) (by decide +kernel), List.mem_of_getElem? (i := 984) (by decide +kernel), List.mem_of_getElem? (i := 985) (by decide +kernel)⟩
theorem lw_p21 : lw_okq (⟨"TwoTrueModel", "goesText", "(I)Z"⟩, 65) := ⟨⟨by decide +kernel, by decide +kernel⟩, List.mem_of_getElem? (i := 758) (by decide +kernel), List.mem_of_getElem? (i := 1004) (by decide +kernel), List.mem_of_getElem? (i := 1005) (by decide +kernel)⟩
theorem lw_p22 : lw_okq (⟨"TwoTrueModel", "takesClause", "(I)Z"⟩, 65) := ⟨⟨by decide +kernel, by decide +kernel⟩, List.mem_of_getElem? (i := 758) (by decide +kernel), List.mem_of_getElem? (i := 1008) (by decide +kernel), List.mem_of_getElem? (i := 1009) (by decide +kernel)⟩
theorem lw_p23 : lw_okq (⟨"TwoTrueModel", "takesHead", "(I)Z"⟩, 65) := ⟨⟨by decide +kernel, by decide +kernel⟩, List.mem_of_getElem? (i := 758) (by decide +kernel), List.mem_of_getElem? (i := 1012) (by decide +kernel), List.mem_of_getElem? (i := 1013) (by decide +kernel)⟩
theorem lw_p24 : lw_okq (⟨"TwoTrueModel", "next", "()I"⟩, 65) := ⟨⟨by decide +kernel, by decide +kernel⟩, List.mem_of_getElem? (i := 758) (by decide +kernel), List.mem_of_getElem? (i := 1016) (by decide +kernel), List.mem_of_getElem? (i := 1017) (by decide +kernel)⟩
theorem lw_p25 : lw_okq (⟨"TwoTrueModel", "takesWord", "(II)Z"⟩, 65) := ⟨⟨by decide +kernel, by decide +kernel⟩, List.mem_of_getElem? (i := 758) (by decide +kernel), List.mem_of_getElem? (i := 1020) (by decide +kernel), List.mem_of_getElem? (i := 1021) (by decide +kernel)⟩
theorem lw_p26 : lw_okq (⟨"TwoTrueModel", "takes", "(I)Z"⟩, 65) := ⟨⟨by decide +kernel, by decide +kernel⟩, List.mem_of_getElem? (i := 758) (by decide +kernel), List.mem_of_getElem? (i := 1024) (by decide +kernel), List.mem_of_getElem? (i := 1025) (by decide +kernel)⟩
theorem lw_p27 : lw_okq (⟨"TwoTrueModel", "takesNumber", "()Z"⟩, 65) := ⟨⟨by decide +kernel, by decide +kernel⟩, List.mem_of_getElem? (i := 758) (by decide +kernel), List.mem_of_getElem? (i := 1028) (by decide +kernel), List.mem_of_getElem? (i := 1029) (by decide +kernel)⟩
theorem lw_p28 : lw_okq (⟨"TwoTrueModel", "isDigit", "()Z"⟩, 65) := ⟨⟨by decide +kernel, by decide +kernel⟩, List.mem_of_getElem? (i := 758) (by decide +kernel), List.mem_of_getElem? (i := 1032) (by decide +kernel), List.mem_of_getElem? (i := 1033) (by decide +kernel)⟩
theorem lw_p29 : lw_okq (⟨"TwoTrueModel", "takesE", "(I)Z"⟩, 65) := ⟨⟨by decide +kernel, by decide +kernel⟩, List.mem_of_getElem? (i := 758) (by decide +kernel), List.mem_of_getElem? (i := 1036) (by decide +kernel), List.mem_of_getElem? (i := 1037) (by decide +kernel)⟩
theorem lw_p30 : lw_okq (⟨"TwoTrueModel", "takesTest", "()Z"⟩, 65) := ⟨⟨by decide +kernel, by decide +kernel⟩, List.mem_of_getElem? (i := 758) (by decide +kernel), List.mem_of_getElem? (i := 1040) (by decide +kernel), List.mem_of_getElem? (i := 1041) (by decide +kernel)⟩
theorem lw_p31 : lw_okq (⟨"TwoTrueModel", "place", "(I)I"⟩, 65) := ⟨⟨by decide +kernel, by decide +kernel⟩, List.mem_of_getElem? (i := 758) (by decide +kernel), List.mem_of_getElem? (i := 1044) (by decide +kernel), List.mem_of_getElem? (i := 1045) (by decide +kernel)⟩
def lw_privs_2 : List (MethodName × Nat) := [(⟨"TwoTrue", "guessOfGuest", "(LTwoTrue$Person;LTwoTrue$Person;)I"⟩, 14), (⟨"TwoTrue$Acts", "runBody", "(ILTwoTrue$Person;III)I"⟩, 2), (⟨"TwoTrueModel", "in", "(III)Z"⟩, 65), (⟨"TwoTrueModel", "isPerson", "(I)Z"⟩, 65), (⟨"TwoTrueModel", "layTale", "(III)V"⟩, 65), (⟨"TwoTrueModel", "goesText", "(I)Z"⟩, 65), (⟨"TwoTrueModel", "takesClause", "(I)Z"⟩, 65), (⟨"TwoTrueModel", "takesHead", "(I)Z"⟩, 65), (⟨"TwoTrueModel", "next", "()I"⟩, 65), (⟨"TwoTrueModel", "takesWord", "(II)Z"⟩, 65), (⟨"TwoTrueModel", "takes", "(I)Z"⟩, 65), (⟨"TwoTrueModel", "takesNumber", "()Z"⟩, 65), (⟨"TwoTrueModel", "isDigit", "()Z"⟩, 65), (⟨"TwoTrueModel", "takesE", "(I)Z"⟩, 65), (⟨"TwoTrueModel", "takesTest", "()Z"⟩, 65), (⟨"TwoTrueModel", "place", "(I)I"⟩, 65)]
theorem lw_r2 : ∀ q ∈ lw_privs_2, lw_okq q := List.forall_mem_cons.mpr ⟨lw_p16, List.forall_mem_cons.mpr ⟨lw_p17, List.forall_mem_cons.mpr ⟨lw_p18, List.forall_mem_cons.mpr ⟨lw_p19, List.forall_mem_cons.mpr ⟨lw_p20, List.forall_mem_cons.mpr ⟨lw_p21, List.forall_mem_cons.mpr ⟨lw_p22, List.forall_mem_cons.mpr ⟨lw_p23, List.forall_mem_cons.mpr ⟨lw_p24, List.forall_mem_cons.mpr ⟨lw_p25, List.forall_mem_cons.mpr ⟨lw_p26, List.forall_mem_cons.mpr ⟨lw_p27, List.forall_mem_cons.mpr ⟨lw_p28, List.forall_mem_cons.mpr ⟨lw_p29, List.forall_mem_cons.mpr ⟨lw_p30, List.forall_mem_cons.mpr ⟨lw_p31, fun _ h => absurd h List.not_mem_nil⟩⟩⟩⟩⟩⟩⟩⟩⟩⟩⟩⟩⟩⟩⟩⟩
theorem lw_p32 : lw_okq (⟨"TwoTrueModel", "emits", "(I)V"⟩, 65) := ⟨⟨by decide +kernel, by decide +kernel⟩, List.mem_of_getElem? (i := 758) (by decide +kernel), List.mem_of_getElem? (i := 1048) (by decide +kernel), List.mem_of_getElem? (i := 1049) (by decide +kernel)⟩
theorem lw_p33 : lw_okq (⟨"TwoTrueModel", "whole", "()V"⟩, 65) := ⟨⟨by decide +kernel, by decide +kernel⟩, List.mem_of_getElem? (i := 758) (by decide +kernel), List.mem_of_getElem? (i := 1052) (by decide +kernel), List.mem_of_getElem? (i := 1053) (by decide +kernel)⟩
theorem lw_p34 : lw_okq (⟨"TwoTrueModel", "settle", "(I)V"⟩, 65) := ⟨⟨by decide +kernel, by decide +kernel⟩, List.mem_of_getElem? (i := 758) (by decide +kernel), List.mem_of_getElem? (i := 1056) (by decide +kernel), List.mem_of_getElem? (i := 1057) (by decide +kernel)⟩
theorem lw_p35 : lw_okq (⟨"TwoTrueModel", "handsNow", "()I"⟩, 65) := ⟨⟨by decide +kernel, by decide +kernel⟩, List.mem_of_getElem? (i := 758) (by decide +kernel), List.mem_of_getElem? (i := 1064) (by decide +kernel), List.mem_of_getElem? (i := 1065) (by decide +kernel)⟩
theorem lw_p36 : lw_okq (⟨"TwoTrueModel", "begin", "()I"⟩, 65) := ⟨⟨by decide +kernel, by decide +kernel⟩, List.mem_of_getElem? (i := 758) (by decide +kernel), List.mem_of_getElem? (i := 1068) (by decide +kernel), List.mem_of_getElem? (i := 1069) (by decide +kernel)⟩
theorem lw_p37 : lw_okq (⟨"TwoTrueModel", "behind", "()I"⟩, 65) := ⟨⟨by decide +kernel, by decide +kernel⟩, List.mem_of_getElem? (i := 758) (by decide +kernel), List.mem_of_getElem? (i := 1072) (by decide +kernel), List.mem_of_getElem? (i := 1073) (by decide +kernel)⟩
theorem lw_p38 : lw_okq (⟨"TwoTrueModel", "doubtOf", "(III)I"⟩, 65) := ⟨⟨by decide +kernel, by decide +kernel⟩, List.mem_of_getElem? (i := 758) (by decide +kernel), List.mem_of_getElem? (i := 1080) (by decide +kernel), List.mem_of_getElem? (i := 1081) (by decide +kernel)⟩
theorem lw_p39 : lw_okq (⟨"TwoTrueModel", "holds", "(IIII)Z"⟩, 65) := ⟨⟨by decide +kernel, by decide +kernel⟩, List.mem_of_getElem? (i := 758) (by decide +kernel), List.mem_of_getElem? (i := 1084) (by decide +kernel), List.mem_of_getElem? (i := 1085) (by decide +kernel)⟩
theorem lw_p40 : lw_okq (⟨"TwoTrueModel", "factOf", "(IIII)I"⟩, 65) := ⟨⟨by decide +kernel, by decide +kernel⟩, List.mem_of_getElem? (i := 758) (by decide +kernel), List.mem_of_getElem? (i := 1088) (by decide +kernel), List.mem_of_getElem? (i := 1089) (by decide +kernel)⟩
theorem lw_p41 : lw_okq (⟨"TwoTrueModel", "goRound", "(I)I"⟩, 65) := ⟨⟨by decide +kernel, by decide +kernel⟩, List.mem_of_getElem? (i := 758) (by decide +kernel), List.mem_of_getElem? (i := 1096) (by decide +kernel), List.mem_of_getElem? (i := 1097) (by decide +kernel)⟩
theorem lw_p42 : lw_okq (⟨"TwoTrueModel", "goes", "(I)I"⟩, 65) := ⟨⟨by decide +kernel, by decide +kernel⟩, List.mem_of_getElem? (i := 758) (by decide +kernel), List.mem_of_getElem? (i := 1100) (by decide +kernel), List.mem_of_getElem? (i := 1101) (by decide +kernel)⟩
theorem lw_p43 : lw_okq (⟨"TwoTrueModel", "clearHands", "()V"⟩, 65) := ⟨⟨by decide +kernel, by decide +kernel⟩, List.mem_of_getElem? (i := 758) (by decide +kernel), List.mem_of_getElem? (i := 1104) (by decide +kernel), List.mem_of_getElem? (i := 1105) (by decide +kernel)⟩
theorem lw_p44 : lw_okq (⟨"TwoTrueModel", "guesses", "(II)V"⟩, 65) := ⟨⟨by decide +kernel, by decide +kernel⟩, List.mem_of_getElem? (i := 758) (by decide +kernel), List.mem_of_getElem? (i := 1108) (by decide +kernel), List.mem_of_getElem? (i := 1109) (by decide +kernel)⟩
theorem lw_p45 : lw_okq (⟨"TwoTrueModel", "choice", "(II)I"⟩, 65) := ⟨⟨by decide +kernel, by decide +kernel⟩, List.mem_of_getElem? (i := 758) (by decide +kernel), List.mem_of_getElem? (i := 1112) (by decide +kernel), List.mem_of_getElem? (i := 1113) (by decide +kernel)⟩
theorem lw_p46 : lw_okq (⟨"TwoTrueModel", "weightOf", "(III)I"⟩, 65) := ⟨⟨by decide +kernel, by decide +kernel⟩, List.mem_of_getElem? (i := 758) (by decide +kernel), List.mem_of_getElem? (i := 1116) (by decide +kernel), List.mem_of_getElem? (i := 1117) (by decide +kernel)⟩
theorem lw_p47 : lw_okq (⟨"TwoTrueModel", "friendly", "(III)I"⟩, 65) := ⟨⟨by decide +kernel, by decide +kernel⟩, List.mem_of_getElem? (i := 758) (by decide +kernel), List.mem_of_getElem? (i := 1120) (by decide +kernel), List.mem_of_getElem? (i := 1121) (by decide +kernel)⟩
def lw_privs_3 : List (MethodName × Nat) := [(⟨"TwoTrueModel", "emits", "(I)V"⟩, 65), (⟨"TwoTrueModel", "whole", "()V"⟩, 65), (⟨"TwoTrueModel", "settle", "(I)V"⟩, 65), (⟨"TwoTrueModel", "handsNow", "()I"⟩, 65), (⟨"TwoTrueModel", "begin", "()I"⟩, 65), (⟨"TwoTrueModel", "behind", "()I"⟩, 65), (⟨"TwoTrueModel", "doubtOf", "(III)I"⟩, 65), (⟨"TwoTrueModel", "holds", "(IIII)Z"⟩, 65), (⟨"TwoTrueModel", "factOf", "(IIII)I"⟩, 65), (⟨"TwoTrueModel", "goRound", "(I)I"⟩, 65), (⟨"TwoTrueModel", "goes", "(I)I"⟩, 65), (⟨"TwoTrueModel", "clearHands", "()V"⟩, 65), (⟨"TwoTrueModel", "guesses", "(II)V"⟩, 65), (⟨"TwoTrueModel", "choice", "(II)I"⟩, 65), (⟨"TwoTrueModel", "weightOf", "(III)I"⟩, 65), (⟨"TwoTrueModel", "friendly", "(III)I"⟩, 65)]
theorem lw_r3 : ∀ q ∈ lw_privs_3, lw_okq q := List.forall_mem_cons.mpr ⟨lw_p32, List.forall_mem_cons.mpr ⟨lw_p33, List.forall_mem_cons.mpr ⟨lw_p34, List.forall_mem_cons.mpr ⟨lw_p35, List.forall_mem_cons.mpr ⟨lw_p36, List.forall_mem_cons.mpr ⟨lw_p37, List.forall_mem_cons.mpr ⟨lw_p38, List.forall_mem_cons.mpr ⟨lw_p39, List.forall_mem_cons.mpr ⟨lw_p40, List.forall_mem_cons.mpr ⟨lw_p41, List.forall_mem_cons.mpr ⟨lw_p42, List.forall_mem_cons.mpr ⟨lw_p43, List.forall_mem_cons.mpr ⟨lw_p44, List.forall_mem_cons.mpr ⟨lw_p45, List.forall_mem_cons.mpr ⟨lw_p46, List.forall_mem_cons.mpr ⟨lw_p47, fun _ h => absurd h List.not_mem_nil⟩⟩⟩⟩⟩⟩⟩⟩⟩⟩⟩⟩⟩⟩⟩⟩
theorem lw_p48 : lw_okq (⟨"TwoTrueModel", "liePlace", "(I)I"⟩, 65) := ⟨⟨by decide +kernel, by decide +kernel⟩, List.mem_of_getElem? (i := 758) (by decide +kernel), List.mem_of_getElem? (i := 1124) (by decide +kernel), List.mem_of_getElem? (i := 1125) (by decide +kernel)⟩
theorem lw_p49 : lw_okq (⟨"TwoTrueModel", "layLine", "(III)Z"⟩, 65) := ⟨⟨by decide +kernel, by decide +kernel⟩, List.mem_of_getElem? (i := 758) (by decide +kernel), List.mem_of_getElem? (i := 1156) (by decide +kernel), List.mem_of_getElem? (i := 1157) (by decide +kernel)⟩
theorem lw_p50 : lw_okq (⟨"TwoTrueModel", "has", "(II)Z"⟩, 65) := ⟨⟨by decide +kernel, by decide +kernel⟩, List.mem_of_getElem? (i := 758) (by decide +kernel), List.mem_of_getElem? (i := 1160) (by decide +kernel), List.mem_of_getElem? (i := 1161) (by decide +kernel)⟩
theorem lw_p51 : lw_okq (⟨"TwoTrueModel", "rightsOf", "(I)I"⟩, 65) := ⟨⟨by decide +kernel, by decide +kernel⟩, List.mem_of_getElem? (i := 758) (by decide +kernel), List.mem_of_getElem? (i := 1168) (by decide +kernel), List.mem_of_getElem? (i := 1169) (by decide +kernel)⟩
theorem lw_p52 : lw_okq (⟨"TwoTrueModel", "lowest", "(III)J"⟩, 65) := ⟨⟨by decide +kernel, by decide +kernel⟩, List.mem_of_getElem? (i := 758) (by decide +kernel), List.mem_of_getElem? (i := 1189) (by decide +kernel), List.mem_of_getElem? (i := 1190) (by decide +kernel)⟩
theorem lw_p53 : lw_okq (⟨"TwoTrueModel", "divisor", "(II)I"⟩, 65) := ⟨⟨by decide +kernel, by decide +kernel⟩, List.mem_of_getElem? (i := 758) (by decide +kernel), List.mem_of_getElem? (i := 1193) (by decide +kernel), List.mem_of_getElem? (i := 1194) (by decide +kernel)⟩
theorem lw_p54 : lw_okq (⟨"TwoTrueModel", "isTape", "(I)Z"⟩, 65) := ⟨⟨by decide +kernel, by decide +kernel⟩, List.mem_of_getElem? (i := 758) (by decide +kernel), List.mem_of_getElem? (i := 1213) (by decide +kernel), List.mem_of_getElem? (i := 1214) (by decide +kernel)⟩
theorem lw_p55 : lw_okq (⟨"TwoTrueModel", "doubtsAct", "(II)I"⟩, 65) := ⟨⟨by decide +kernel, by decide +kernel⟩, List.mem_of_getElem? (i := 758) (by decide +kernel), List.mem_of_getElem? (i := 1229) (by decide +kernel), List.mem_of_getElem? (i := 1230) (by decide +kernel)⟩
theorem lw_p56 : lw_okq (⟨"TwoTrueModel", "body", "(I)V"⟩, 65) := ⟨⟨by decide +kernel, by decide +kernel⟩, List.mem_of_getElem? (i := 758) (by decide +kernel), List.mem_of_getElem? (i := 1233) (by decide +kernel), List.mem_of_getElem? (i := 1234) (by decide +kernel)⟩
theorem lw_p57 : lw_okq (⟨"TwoTrueModel", "guestDoubts", "(II)I"⟩, 65) := ⟨⟨by decide +kernel, by decide +kernel⟩, List.mem_of_getElem? (i := 758) (by decide +kernel), List.mem_of_getElem? (i := 1237) (by decide +kernel), List.mem_of_getElem? (i := 1238) (by decide +kernel)⟩
theorem lw_p58 : lw_okq (⟨"TwoTrueModel", "guessesAct", "(II)I"⟩, 65) := ⟨⟨by decide +kernel, by decide +kernel⟩, List.mem_of_getElem? (i := 758) (by decide +kernel), List.mem_of_getElem? (i := 1241) (by decide +kernel), List.mem_of_getElem? (i := 1242) (by decide +kernel)⟩
theorem lw_p59 : lw_okq (⟨"TwoTrueModel", "readerGuesses", "(II)I"⟩, 65) := ⟨⟨by decide +kernel, by decide +kernel⟩, List.mem_of_getElem? (i := 758) (by decide +kernel), List.mem_of_getElem? (i := 1245) (by decide +kernel), List.mem_of_getElem? (i := 1246) (by decide +kernel)⟩
theorem lw_p60 : lw_okq (⟨"TwoTrueModel", "guestGuesses", "(II)I"⟩, 65) := ⟨⟨by decide +kernel, by decide +kernel⟩, List.mem_of_getElem? (i := 758) (by decide +kernel), List.mem_of_getElem? (i := 1249) (by decide +kernel), List.mem_of_getElem? (i := 1250) (by decide +kernel)⟩
theorem lw_p61 : lw_okq (⟨"TwoTrueModel", "tellsAct", "(II)I"⟩, 65) := ⟨⟨by decide +kernel, by decide +kernel⟩, List.mem_of_getElem? (i := 758) (by decide +kernel), List.mem_of_getElem? (i := 1253) (by decide +kernel), List.mem_of_getElem? (i := 1254) (by decide +kernel)⟩
theorem lw_p62 : lw_okq (⟨"TwoTrueModel", "guestTells", "(II)I"⟩, 65) := ⟨⟨by decide +kernel, by decide +kernel⟩, List.mem_of_getElem? (i := 758) (by decide +kernel), List.mem_of_getElem? (i := 1257) (by decide +kernel), List.mem_of_getElem? (i := 1258) (by decide +kernel)⟩
theorem lw_p63 : lw_okq (⟨"TwoTrueModel", "narrow", "(IJ)J"⟩, 65) := ⟨⟨by decide +kernel, by decide +kernel⟩, List.mem_of_getElem? (i := 758) (by decide +kernel), List.mem_of_getElem? (i := 1281) (by decide +kernel), List.mem_of_getElem? (i := 1282) (by decide +kernel)⟩
def lw_privs_4 : List (MethodName × Nat) := [(⟨"TwoTrueModel", "liePlace", "(I)I"⟩, 65), (⟨"TwoTrueModel", "layLine", "(III)Z"⟩, 65), (⟨"TwoTrueModel", "has", "(II)Z"⟩, 65), (⟨"TwoTrueModel", "rightsOf", "(I)I"⟩, 65), (⟨"TwoTrueModel", "lowest", "(III)J"⟩, 65), (⟨"TwoTrueModel", "divisor", "(II)I"⟩, 65), (⟨"TwoTrueModel", "isTape", "(I)Z"⟩, 65), (⟨"TwoTrueModel", "doubtsAct", "(II)I"⟩, 65), (⟨"TwoTrueModel", "body", "(I)V"⟩, 65), (⟨"TwoTrueModel", "guestDoubts", "(II)I"⟩, 65), (⟨"TwoTrueModel", "guessesAct", "(II)I"⟩, 65), (⟨"TwoTrueModel", "readerGuesses", "(II)I"⟩, 65), (⟨"TwoTrueModel", "guestGuesses", "(II)I"⟩, 65), (⟨"TwoTrueModel", "tellsAct", "(II)I"⟩, 65), (⟨"TwoTrueModel", "guestTells", "(II)I"⟩, 65), (⟨"TwoTrueModel", "narrow", "(IJ)J"⟩, 65)]
theorem lw_r4 : ∀ q ∈ lw_privs_4, lw_okq q := List.forall_mem_cons.mpr ⟨lw_p48, List.forall_mem_cons.mpr ⟨lw_p49, List.forall_mem_cons.mpr ⟨lw_p50, List.forall_mem_cons.mpr ⟨lw_p51, List.forall_mem_cons.mpr ⟨lw_p52, List.forall_mem_cons.mpr ⟨lw_p53, List.forall_mem_cons.mpr ⟨lw_p54, List.forall_mem_cons.mpr ⟨lw_p55, List.forall_mem_cons.mpr ⟨lw_p56, List.forall_mem_cons.mpr ⟨lw_p57, List.forall_mem_cons.mpr ⟨lw_p58, List.forall_mem_cons.mpr ⟨lw_p59, List.forall_mem_cons.mpr ⟨lw_p60, List.forall_mem_cons.mpr ⟨lw_p61, List.forall_mem_cons.mpr ⟨lw_p62, List.forall_mem_cons.mpr ⟨lw_p63, fun _ h => absurd h List.not_mem_nil⟩⟩⟩⟩⟩⟩⟩⟩⟩⟩⟩⟩⟩⟩⟩⟩
def lw_privs : List (MethodName × Nat) := lw_privs_1 ++ (lw_privs_2 ++ (lw_privs_3 ++ (lw_privs_4)))
def lw_tbl : List Cond := k2_sels lw_privs ++ tables_1
theorem lw_privs_ok : ∀ q ∈ lw_privs, lw_okq q := by
  show ∀ q ∈ lw_privs_1 ++ (lw_privs_2 ++ (lw_privs_3 ++ (lw_privs_4))), lw_okq q
  exact List.forall_mem_append.mpr ⟨lw_r1, List.forall_mem_append.mpr ⟨lw_r2, List.forall_mem_append.mpr ⟨lw_r3, lw_r4⟩⟩⟩
end
section
/-! the classes, their fields, their methods' names (printed by the claim's own program, NAMES.whole) -/
def RX0 : String := "TwoTrue$Acts"
def TX0 : u_T := fun k => match k with
  | 0 => ("TwoTrue$Acts", "trace", "[I", true)
  | _ => ("TwoTrue$Acts", "ran", "I", false)
def tyX0 : Nat → FieldType := fun k => match k with
  | 0 => .array .int
  | _ => .int
abbrev wsX00 : List Cond := u_ws RX0 TX0 2
theorem nmX0 : ∀ a, a < 2 → ∀ b, b < 2 → a ≠ b → (TX0 a).2.1 ≠ (TX0 b).2.1 := by decide +kernel
theorem tyX0_ok : ∀ k, k < 2 → parseFieldDescriptor (TX0 k).2.2.1 = some (tyX0 k) := by decide +kernel
abbrev cX0_init : ByteArray := prog_2_method_1_code
def yX0_init : MethodName := ⟨RX0, "<init>", "()V"⟩
abbrev cX0_perform : ByteArray := prog_2_method_2_code
def yX0_perform : MethodName := ⟨RX0, "perform", "(LTwoTrue$Person;IIII)I"⟩
abbrev cX0_runBody : ByteArray := prog_2_method_3_code
def yX0_runBody : MethodName := ⟨RX0, "runBody", "(ILTwoTrue$Person;III)I"⟩
def RX1 : String := "TwoTrue$Evening"
def TX1 : u_T := fun k => match k with
  | 0 => ("TwoTrue$Evening", "words", "[I", true)
  | 1 => ("TwoTrue$Evening", "length", "I", false)
  | 2 => ("TwoTrue$Evening", "values", "[I", true)
  | _ => ("TwoTrue$Evening", "hands", "I", false)
def tyX1 : Nat → FieldType := fun k => match k with
  | 0 => .array .int
  | 1 => .int
  | 2 => .array .int
  | _ => .int
abbrev wsX10 : List Cond := u_ws RX1 TX1 4
theorem nmX1 : ∀ a, a < 4 → ∀ b, b < 4 → a ≠ b → (TX1 a).2.1 ≠ (TX1 b).2.1 := by decide +kernel
theorem tyX1_ok : ∀ k, k < 4 → parseFieldDescriptor (TX1 k).2.2.1 = some (tyX1 k) := by decide +kernel
abbrev cX1_init : ByteArray := prog_3_method_1_code
def yX1_init : MethodName := ⟨RX1, "<init>", "()V"⟩
abbrev cX1_clear : ByteArray := prog_3_method_2_code
def yX1_clear : MethodName := ⟨RX1, "clear", "()V"⟩
abbrev cX1_append : ByteArray := prog_3_method_3_code
def yX1_append : MethodName := ⟨RX1, "append", "(III)V"⟩
abbrev cX1_doubtOf : ByteArray := prog_3_method_4_code
def yX1_doubtOf : MethodName := ⟨RX1, "doubtOf", "(LTwoTrue$Person;LTwoTrue$Person;I)I"⟩
abbrev cX1_runClauses : ByteArray := prog_3_method_5_code
def yX1_runClauses : MethodName := ⟨RX1, "runClauses", "()I"⟩
abbrev cX1_holds : ByteArray := prog_3_method_6_code
def yX1_holds : MethodName := ⟨RX1, "holds", "(III)Z"⟩
def RX2 : String := "TwoTrue$Party"
def TX2 : u_T := fun k => match k with
  | 0 => ("TwoTrue$Party", "seats", "[LTwoTrue$Person;", true)
  | 1 => ("TwoTrue$Party", "size", "I", false)
  | 2 => ("TwoTrue$Party", "round", "I", false)
  | 3 => ("TwoTrue$Party", "evening", "I", false)
  | 4 => ("TwoTrue$Party", "seen", "[I", true)
  | 5 => ("TwoTrue$Party", "book", "[I", true)
  | _ => ("TwoTrue$Party", "bookRows", "I", false)
def tyX2 : Nat → FieldType := fun k => match k with
  | 0 => .array (.object "TwoTrue$Person")
  | 1 => .int
  | 2 => .int
  | 3 => .int
  | 4 => .array .int
  | 5 => .array .int
  | _ => .int
abbrev wsX20 : List Cond := u_ws RX2 TX2 7
theorem nmX2 : ∀ a, a < 7 → ∀ b, b < 7 → a ≠ b → (TX2 a).2.1 ≠ (TX2 b).2.1 := by decide +kernel
theorem tyX2_ok : ∀ k, k < 7 → parseFieldDescriptor (TX2 k).2.2.1 = some (tyX2 k) := by decide +kernel
abbrev cX2_init : ByteArray := prog_4_method_1_code
def yX2_init : MethodName := ⟨RX2, "<init>", "()V"⟩
abbrev cX2_has : ByteArray := prog_4_method_2_code
def yX2_has : MethodName := ⟨RX2, "has", "(I)Z"⟩
abbrev cX2_join : ByteArray := prog_4_method_3_code
def yX2_join : MethodName := ⟨RX2, "join", "(II)I"⟩
abbrev cX2_write : ByteArray := prog_4_method_4_code
def yX2_write : MethodName := ⟨RX2, "write", "(III)I"⟩
abbrev cX2_leader : ByteArray := prog_4_method_5_code
def yX2_leader : MethodName := ⟨RX2, "leader", "()I"⟩
abbrev cX2_become : ByteArray := prog_4_method_6_code
def yX2_become : MethodName := ⟨RX2, "become", "(LTwoTrue$Party;)V"⟩
def RX3 : String := "TwoTrue$Person"
def TX3 : u_T := fun k => match k with
  | 0 => ("TwoTrue$Person", "number", "I", true)
  | 1 => ("TwoTrue$Person", "kind", "I", false)
  | 2 => ("TwoTrue$Person", "v", "I", false)
  | 3 => ("TwoTrue$Person", "points", "I", false)
  | 4 => ("TwoTrue$Person", "lie", "I", false)
  | 5 => ("TwoTrue$Person", "likely", "[I", true)
  | 6 => ("TwoTrue$Person", "lengths", "[I", true)
  | 7 => ("TwoTrue$Person", "order", "[I", true)
  | _ => ("TwoTrue$Person", "row", "[I", true)
def tyX3 : Nat → FieldType := fun k => match k with
  | 0 => .int
  | 1 => .int
  | 2 => .int
  | 3 => .int
  | 4 => .int
  | 5 => .array .int
  | 6 => .array .int
  | 7 => .array .int
  | _ => .array .int
abbrev wsX30 : List Cond := u_ws RX3 TX3 9
theorem nmX3 : ∀ a, a < 9 → ∀ b, b < 9 → a ≠ b → (TX3 a).2.1 ≠ (TX3 b).2.1 := by decide +kernel
theorem tyX3_ok : ∀ k, k < 9 → parseFieldDescriptor (TX3 k).2.2.1 = some (tyX3 k) := by decide +kernel
abbrev cX3_init : ByteArray := prog_5_method_1_code
def yX3_init : MethodName := ⟨RX3, "<init>", "(I)V"⟩
abbrev cX3_begin : ByteArray := prog_5_method_2_code
def yX3_begin : MethodName := ⟨RX3, "begin", "(II)V"⟩
abbrev cX3_become : ByteArray := prog_5_method_3_code
def yX3_become : MethodName := ⟨RX3, "become", "(LTwoTrue$Person;)V"⟩
abbrev cX3_setOrder : ByteArray := prog_5_method_4_code
def yX3_setOrder : MethodName := ⟨RX3, "setOrder", "(II)V"⟩
abbrev cX3_placeOfLie : ByteArray := prog_5_method_5_code
def yX3_placeOfLie : MethodName := ⟨RX3, "placeOfLie", "()I"⟩
abbrev cX3_known : ByteArray := prog_5_method_6_code
def yX3_known : MethodName := ⟨RX3, "known", "(I)I"⟩
def RX4 : String := "TwoTrue$Play"
def TX4 : u_T := fun k => match k with
  | 0 => ("TwoTrue$Play", "plain", "[I", true)
  | 1 => ("TwoTrue$Play", "handCounts", "[I", true)
  | 2 => ("TwoTrue$Play", "isSheep", "[Z", true)
  | 3 => ("TwoTrue$Play", "raised", "[I", true)
  | 4 => ("TwoTrue$Play", "guessed", "[I", true)
  | 5 => ("TwoTrue$Play", "placeOfLie", "I", false)
  | _ => ("TwoTrue$Play", "takenIn", "I", false)
def tyX4 : Nat → FieldType := fun k => match k with
  | 0 => .array .int
  | 1 => .array .int
  | 2 => .array .boolean
  | 3 => .array .int
  | 4 => .array .int
  | 5 => .int
  | _ => .int
abbrev wsX40 : List Cond := u_ws RX4 TX4 7
theorem nmX4 : ∀ a, a < 7 → ∀ b, b < 7 → a ≠ b → (TX4 a).2.1 ≠ (TX4 b).2.1 := by decide +kernel
theorem tyX4_ok : ∀ k, k < 7 → parseFieldDescriptor (TX4 k).2.2.1 = some (tyX4 k) := by decide +kernel
abbrev cX4_init : ByteArray := prog_6_method_1_code
def yX4_init : MethodName := ⟨RX4, "<init>", "()V"⟩
abbrev cX4_begin : ByteArray := prog_6_method_2_code
def yX4_begin : MethodName := ⟨RX4, "begin", "(LTwoTrue$Party;LTwoTrue$Evening;I)V"⟩
abbrev cX4_addedTo : ByteArray := prog_6_method_3_code
def yX4_addedTo : MethodName := ⟨RX4, "addedTo", "(LTwoTrue$Person;LTwoTrue$Person;ILTwoTrue$Party;)I"⟩
abbrev cX4_knows : ByteArray := prog_6_method_4_code
def yX4_knows : MethodName := ⟨RX4, "knows", "(LTwoTrue$Person;LTwoTrue$Person;I)Z"⟩
abbrev cX4_lowerHands : ByteArray := prog_6_method_5_code
def yX4_lowerHands : MethodName := ⟨RX4, "lowerHands", "()V"⟩
abbrev cX4_letGuess : ByteArray := prog_6_method_6_code
def yX4_letGuess : MethodName := ⟨RX4, "letGuess", "(I)I"⟩
abbrev cX4_isRaised : ByteArray := prog_6_method_7_code
def yX4_isRaised : MethodName := ⟨RX4, "isRaised", "([I)Z"⟩
def RX5 : String := "TwoTrue$Tapes"
def TX5 : u_T := fun k => match k with
  | 0 => ("TwoTrue$Tapes", "sort", "[I", true)
  | 1 => ("TwoTrue$Tapes", "size", "[I", true)
  | _ => ("TwoTrue$Tapes", "items", "[J", true)
def tyX5 : Nat → FieldType := fun k => match k with
  | 0 => .array .int
  | 1 => .array .int
  | _ => .array .long
abbrev wsX50 : List Cond := u_ws RX5 TX5 3
theorem nmX5 : ∀ a, a < 3 → ∀ b, b < 3 → a ≠ b → (TX5 a).2.1 ≠ (TX5 b).2.1 := by decide +kernel
theorem tyX5_ok : ∀ k, k < 3 → parseFieldDescriptor (TX5 k).2.2.1 = some (tyX5 k) := by decide +kernel
abbrev cX5_init : ByteArray := prog_7_method_1_code
def yX5_init : MethodName := ⟨RX5, "<init>", "()V"⟩
abbrev cX5_has : ByteArray := prog_7_method_2_code
def yX5_has : MethodName := ⟨RX5, "has", "(I)Z"⟩
abbrev cX5_holds : ByteArray := prog_7_method_3_code
def yX5_holds : MethodName := ⟨RX5, "holds", "(I)Z"⟩
abbrev cX5_hasPlace : ByteArray := prog_7_method_4_code
def yX5_hasPlace : MethodName := ⟨RX5, "hasPlace", "(II)Z"⟩
abbrev cX5_hasPlaces : ByteArray := prog_7_method_5_code
def yX5_hasPlaces : MethodName := ⟨RX5, "hasPlaces", "(III)Z"⟩
abbrev cX5_lay : ByteArray := prog_7_method_6_code
def yX5_lay : MethodName := ⟨RX5, "lay", "(III)V"⟩
abbrev cX5_at : ByteArray := prog_7_method_7_code
def yX5_at : MethodName := ⟨RX5, "at", "(II)J"⟩
abbrev cX5_put : ByteArray := prog_7_method_8_code
def yX5_put : MethodName := ⟨RX5, "put", "(IIJ)V"⟩
abbrev cX5_cut : ByteArray := prog_7_method_9_code
def yX5_cut : MethodName := ⟨RX5, "cut", "(IJ)J"⟩
abbrev cX5_copy : ByteArray := prog_7_method_10_code
def yX5_copy : MethodName := ⟨RX5, "copy", "(IIIII)V"⟩
def RX6 : String := "TwoTrue$Text"
def TX6 : u_T := fun k => match k with
  | 0 => ("TwoTrue$Text", "signs", "[I", true)
  | 1 => ("TwoTrue$Text", "length", "I", false)
  | 2 => ("TwoTrue$Text", "at", "I", false)
  | _ => ("TwoTrue$Text", "number", "I", false)
def tyX6 : Nat → FieldType := fun k => match k with
  | 0 => .array .int
  | 1 => .int
  | 2 => .int
  | _ => .int
abbrev wsX60 : List Cond := u_ws RX6 TX6 4
theorem nmX6 : ∀ a, a < 4 → ∀ b, b < 4 → a ≠ b → (TX6 a).2.1 ≠ (TX6 b).2.1 := by decide +kernel
theorem tyX6_ok : ∀ k, k < 4 → parseFieldDescriptor (TX6 k).2.2.1 = some (tyX6 k) := by decide +kernel
abbrev cX6_init : ByteArray := prog_8_method_1_code
def yX6_init : MethodName := ⟨RX6, "<init>", "()V"⟩
abbrev cX6_append : ByteArray := prog_8_method_2_code
def yX6_append : MethodName := ⟨RX6, "append", "(I)I"⟩
abbrev cX6_readInto : ByteArray := prog_8_method_3_code
def yX6_readInto : MethodName := ⟨RX6, "readInto", "(LTwoTrue$Evening;)I"⟩
abbrev cX6_readClause : ByteArray := prog_8_method_4_code
def yX6_readClause : MethodName := ⟨RX6, "readClause", "(LTwoTrue$Evening;)Z"⟩
abbrev cX6_readE : ByteArray := prog_8_method_5_code
def yX6_readE : MethodName := ⟨RX6, "readE", "(LTwoTrue$Evening;I)Z"⟩
abbrev cX6_readF : ByteArray := prog_8_method_6_code
def yX6_readF : MethodName := ⟨RX6, "readF", "(LTwoTrue$Evening;I)Z"⟩
abbrev cX6_readTest : ByteArray := prog_8_method_7_code
def yX6_readTest : MethodName := ⟨RX6, "readTest", "(LTwoTrue$Evening;)Z"⟩
abbrev cX6_readNumber : ByteArray := prog_8_method_8_code
def yX6_readNumber : MethodName := ⟨RX6, "readNumber", "()Z"⟩
abbrev cX6_passesWord : ByteArray := prog_8_method_9_code
def yX6_passesWord : MethodName := ⟨RX6, "passesWord", "(Ljava/lang/String;)Z"⟩
abbrev cX6_passes : ByteArray := prog_8_method_10_code
def yX6_passes : MethodName := ⟨RX6, "passes", "(I)Z"⟩
abbrev cX6_sees : ByteArray := prog_8_method_11_code
def yX6_sees : MethodName := ⟨RX6, "sees", "(I)Z"⟩
abbrev cX6_seesDigit : ByteArray := prog_8_method_12_code
def yX6_seesDigit : MethodName := ⟨RX6, "seesDigit", "()Z"⟩
def RX7 : String := "TwoTrue"
def TX7 : u_T := fun k => match k with
  | 0 => ("TwoTrue", "now", "LTwoTrue$Party;", true)
  | 1 => ("TwoTrue", "image", "LTwoTrue$Party;", true)
  | 2 => ("TwoTrue", "trial", "LTwoTrue$Party;", true)
  | 3 => ("TwoTrue", "hasImage", "Z", false)
  | 4 => ("TwoTrue", "text", "LTwoTrue$Text;", true)
  | 5 => ("TwoTrue", "evenings", "[LTwoTrue$Evening;", true)
  | 6 => ("TwoTrue", "without", "LTwoTrue$Evening;", true)
  | 7 => ("TwoTrue", "eveningCount", "I", false)
  | 8 => ("TwoTrue", "play", "LTwoTrue$Play;", true)
  | 9 => ("TwoTrue", "guessedBefore", "[I", true)
  | 10 => ("TwoTrue", "rowTried", "[I", true)
  | 11 => ("TwoTrue", "rowFound", "[I", true)
  | 12 => ("TwoTrue", "acts", "LTwoTrue$Acts;", true)
  | _ => ("TwoTrue", "tapes", "LTwoTrue$Tapes;", true)
def tyX7 : Nat → FieldType := fun k => match k with
  | 0 => .object "TwoTrue$Party"
  | 1 => .object "TwoTrue$Party"
  | 2 => .object "TwoTrue$Party"
  | 3 => .boolean
  | 4 => .object "TwoTrue$Text"
  | 5 => .array (.object "TwoTrue$Evening")
  | 6 => .object "TwoTrue$Evening"
  | 7 => .int
  | 8 => .object "TwoTrue$Play"
  | 9 => .array .int
  | 10 => .array .int
  | 11 => .array .int
  | 12 => .object "TwoTrue$Acts"
  | _ => .object "TwoTrue$Tapes"
abbrev wsX70 : List Cond := u_ws RX7 TX7 14
theorem nmX7 : ∀ a, a < 14 → ∀ b, b < 14 → a ≠ b → (TX7 a).2.1 ≠ (TX7 b).2.1 := by decide +kernel
theorem tyX7_ok : ∀ k, k < 14 → parseFieldDescriptor (TX7 k).2.2.1 = some (tyX7 k) := by decide +kernel
abbrev cX7_init : ByteArray := prog_1_method_1_code
def yX7_init : MethodName := ⟨RX7, "<init>", "()V"⟩
abbrev cX7_person : ByteArray := prog_1_method_2_code
def yX7_person : MethodName := ⟨RX7, "person", "(II)I"⟩
abbrev cX7_thing : ByteArray := prog_1_method_3_code
def yX7_thing : MethodName := ⟨RX7, "thing", "(IIII)I"⟩
abbrev cX7_lie : ByteArray := prog_1_method_4_code
def yX7_lie : MethodName := ⟨RX7, "lie", "(II)I"⟩
abbrev cX7_tells : ByteArray := prog_1_method_5_code
def yX7_tells : MethodName := ⟨RX7, "tells", "(III)I"⟩
abbrev cX7_of : ByteArray := prog_1_method_6_code
def yX7_of : MethodName := ⟨RX7, "of", "(II)I"⟩
abbrev cX7_row : ByteArray := prog_1_method_7_code
def yX7_row : MethodName := ⟨RX7, "row", "(III)I"⟩
abbrev cX7_feed : ByteArray := prog_1_method_8_code
def yX7_feed : MethodName := ⟨RX7, "feed", "(I)I"⟩
abbrev cX7_evening : ByteArray := prog_1_method_9_code
def yX7_evening : MethodName := ⟨RX7, "evening", "()I"⟩
abbrev cX7_told : ByteArray := prog_1_method_10_code
def yX7_told : MethodName := ⟨RX7, "told", "(I)I"⟩
abbrev cX7_doubt : ByteArray := prog_1_method_11_code
def yX7_doubt : MethodName := ⟨RX7, "doubt", "(III)I"⟩
abbrev cX7_round : ByteArray := prog_1_method_12_code
def yX7_round : MethodName := ⟨RX7, "round", "(I)I"⟩
abbrev cX7_guess : ByteArray := prog_1_method_13_code
def yX7_guess : MethodName := ⟨RX7, "guess", "(II)I"⟩
abbrev cX7_hands : ByteArray := prog_1_method_14_code
def yX7_hands : MethodName := ⟨RX7, "hands", "(II)I"⟩
abbrev cX7_order : ByteArray := prog_1_method_15_code
def yX7_order : MethodName := ⟨RX7, "order", "(II)I"⟩
abbrev cX7_likely : ByteArray := prog_1_method_16_code
def yX7_likely : MethodName := ⟨RX7, "likely", "(II)I"⟩
abbrev cX7_best : ByteArray := prog_1_method_17_code
def yX7_best : MethodName := ⟨RX7, "best", "(II)I"⟩
abbrev cX7_first : ByteArray := prog_1_method_18_code
def yX7_first : MethodName := ⟨RX7, "first", "(III)I"⟩
abbrev cX7_line : ByteArray := prog_1_method_19_code
def yX7_line : MethodName := ⟨RX7, "line", "(II)I"⟩
abbrev cX7_worth : ByteArray := prog_1_method_20_code
def yX7_worth : MethodName := ⟨RX7, "worth", "(I)I"⟩
abbrev cX7_see : ByteArray := prog_1_method_21_code
def yX7_see : MethodName := ⟨RX7, "see", "(II)I"⟩
abbrev cX7_lies : ByteArray := prog_1_method_22_code
def yX7_lies : MethodName := ⟨RX7, "lies", "(I)I"⟩
abbrev cX7_ends : ByteArray := prog_1_method_23_code
def yX7_ends : MethodName := ⟨RX7, "ends", "(III)I"⟩
abbrev cX7_odds : ByteArray := prog_1_method_24_code
def yX7_odds : MethodName := ⟨RX7, "odds", "(II)J"⟩
abbrev cX7_mean : ByteArray := prog_1_method_25_code
def yX7_mean : MethodName := ⟨RX7, "mean", "(I)J"⟩
abbrev cX7_book : ByteArray := prog_1_method_26_code
def yX7_book : MethodName := ⟨RX7, "book", "(III)I"⟩
abbrev cX7_looked : ByteArray := prog_1_method_27_code
def yX7_looked : MethodName := ⟨RX7, "looked", "()I"⟩
abbrev cX7_judge : ByteArray := prog_1_method_28_code
def yX7_judge : MethodName := ⟨RX7, "judge", "(II)I"⟩
abbrev cX7_image : ByteArray := prog_1_method_29_code
def yX7_image : MethodName := ⟨RX7, "image", "()I"⟩
abbrev cX7_undo : ByteArray := prog_1_method_30_code
def yX7_undo : MethodName := ⟨RX7, "undo", "()I"⟩
abbrev cX7_act : ByteArray := prog_1_method_31_code
def yX7_act : MethodName := ⟨RX7, "act", "(III)I"⟩
abbrev cX7_trace : ByteArray := prog_1_method_32_code
def yX7_trace : MethodName := ⟨RX7, "trace", "(I)I"⟩
abbrev cX7_taken : ByteArray := prog_1_method_33_code
def yX7_taken : MethodName := ⟨RX7, "taken", "(II)I"⟩
abbrev cX7_count : ByteArray := prog_1_method_34_code
def yX7_count : MethodName := ⟨RX7, "count", "(I)I"⟩
abbrev cX7_tape : ByteArray := prog_1_method_35_code
def yX7_tape : MethodName := ⟨RX7, "tape", "(III)I"⟩
abbrev cX7_item : ByteArray := prog_1_method_36_code
def yX7_item : MethodName := ⟨RX7, "item", "(IIJ)I"⟩
abbrev cX7_read : ByteArray := prog_1_method_37_code
def yX7_read : MethodName := ⟨RX7, "read", "(II)J"⟩
abbrev cX7_shift : ByteArray := prog_1_method_38_code
def yX7_shift : MethodName := ⟨RX7, "shift", "(IIIII)I"⟩
abbrev cX7_isOfThree : ByteArray := prog_1_method_39_code
def yX7_isOfThree : MethodName := ⟨RX7, "isOfThree", "(I)Z"⟩
abbrev cX7_isOfKind : ByteArray := prog_1_method_40_code
def yX7_isOfKind : MethodName := ⟨RX7, "isOfKind", "(II)Z"⟩
abbrev cX7_partOfFraction : ByteArray := prog_1_method_41_code
def yX7_partOfFraction : MethodName := ⟨RX7, "partOfFraction", "(III)J"⟩
abbrev cX7_held : ByteArray := prog_1_method_42_code
def yX7_held : MethodName := ⟨RX7, "held", "()LTwoTrue$Evening;"⟩
abbrev cX7_playAsEver : ByteArray := prog_1_method_43_code
def yX7_playAsEver : MethodName := ⟨RX7, "playAsEver", "(LTwoTrue$Party;I)I"⟩
abbrev cX7_playForPoints : ByteArray := prog_1_method_44_code
def yX7_playForPoints : MethodName := ⟨RX7, "playForPoints", "(LTwoTrue$Party;I)I"⟩
abbrev cX7_guessOfGuest : ByteArray := prog_1_method_45_code
def yX7_guessOfGuest : MethodName := ⟨RX7, "guessOfGuest", "(LTwoTrue$Person;LTwoTrue$Person;)I"⟩
abbrev cX7_seekLine : ByteArray := prog_1_method_46_code
def yX7_seekLine : MethodName := ⟨RX7, "seekLine", "(I)I"⟩
abbrev cX7_stepRow : ByteArray := prog_1_method_47_code
def yX7_stepRow : MethodName := ⟨RX7, "stepRow", "([II)Z"⟩
abbrev cX7_exchange : ByteArray := prog_1_method_48_code
def yX7_exchange : MethodName := ⟨RX7, "exchange", "([III)V"⟩
def RX8 : String := "TwoTrueModel"
def TX8 : u_T := fun k => match k with
  | 0 => ("TwoTrueModel", "people", "I", false)
  | 1 => ("TwoTrueModel", "rounds", "I", false)
  | 2 => ("TwoTrueModel", "kind", "[I", true)
  | 3 => ("TwoTrueModel", "v", "[I", true)
  | 4 => ("TwoTrueModel", "points", "[I", true)
  | 5 => ("TwoTrueModel", "lie", "[I", true)
  | 6 => ("TwoTrueModel", "seemly", "[I", true)
  | 7 => ("TwoTrueModel", "length0", "[I", true)
  | 8 => ("TwoTrueModel", "tale", "[I", true)
  | 9 => ("TwoTrueModel", "rows", "[I", true)
  | 10 => ("TwoTrueModel", "evenings", "I", false)
  | 11 => ("TwoTrueModel", "the", "I", false)
  | 12 => ("TwoTrueModel", "fed", "I", false)
  | 13 => ("TwoTrueModel", "at", "I", false)
  | 14 => ("TwoTrueModel", "digits", "I", false)
  | 15 => ("TwoTrueModel", "text", "[I", true)
  | 16 => ("TwoTrueModel", "clauses", "[I", true)
  | 17 => ("TwoTrueModel", "word", "[I", true)
  | 18 => ("TwoTrueModel", "number", "[I", true)
  | 19 => ("TwoTrueModel", "from", "[I", true)
  | 20 => ("TwoTrueModel", "to", "[I", true)
  | 21 => ("TwoTrueModel", "sign", "[I", true)
  | 22 => ("TwoTrueModel", "waits", "[I", true)
  | 23 => ("TwoTrueModel", "signs", "I", false)
  | 24 => ("TwoTrueModel", "waiting", "I", false)
  | 25 => ("TwoTrueModel", "open", "I", false)
  | 26 => ("TwoTrueModel", "letters", "[I", true)
  | 27 => ("TwoTrueModel", "pile", "[Z", true)
  | 28 => ("TwoTrueModel", "hands", "[I", true)
  | 29 => ("TwoTrueModel", "guessed", "[I", true)
  | 30 => ("TwoTrueModel", "plain", "I", false)
  | 31 => ("TwoTrueModel", "bestWhat", "I", false)
  | 32 => ("TwoTrueModel", "bestTaken", "I", false)
  | 33 => ("TwoTrueModel", "asEver", "[I", true)
  | 34 => ("TwoTrueModel", "line", "[I", true)
  | 35 => ("TwoTrueModel", "bestLine", "[I", true)
  | 36 => ("TwoTrueModel", "seen", "[I", true)
  | 37 => ("TwoTrueModel", "keptPoints", "[I", true)
  | 38 => ("TwoTrueModel", "books", "I", false)
  | 39 => ("TwoTrueModel", "bookTeller", "[I", true)
  | 40 => ("TwoTrueModel", "bookWho", "[I", true)
  | 41 => ("TwoTrueModel", "bookPlace", "[I", true)
  | 42 => ("TwoTrueModel", "hasImage", "Z", false)
  | 43 => ("TwoTrueModel", "imageThe", "I", false)
  | 44 => ("TwoTrueModel", "imagePeople", "I", false)
  | 45 => ("TwoTrueModel", "imageRounds", "I", false)
  | 46 => ("TwoTrueModel", "imageBooks", "I", false)
  | 47 => ("TwoTrueModel", "imageKind", "[I", true)
  | 48 => ("TwoTrueModel", "imageV", "[I", true)
  | 49 => ("TwoTrueModel", "imagePoints", "[I", true)
  | 50 => ("TwoTrueModel", "imageLie", "[I", true)
  | 51 => ("TwoTrueModel", "imageSeemly", "[I", true)
  | 52 => ("TwoTrueModel", "imageLong", "[I", true)
  | 53 => ("TwoTrueModel", "imageTale", "[I", true)
  | 54 => ("TwoTrueModel", "imageRows", "[I", true)
  | 55 => ("TwoTrueModel", "imageSeen", "[I", true)
  | 56 => ("TwoTrueModel", "imageTeller", "[I", true)
  | 57 => ("TwoTrueModel", "imageWho", "[I", true)
  | 58 => ("TwoTrueModel", "imagePlace", "[I", true)
  | 59 => ("TwoTrueModel", "ran", "I", false)
  | 60 => ("TwoTrueModel", "bodies", "[I", true)
  | 61 => ("TwoTrueModel", "sort", "[I", true)
  | 62 => ("TwoTrueModel", "length", "[I", true)
  | 63 => ("TwoTrueModel", "item", "[J", true)
  | _ => ("TwoTrueModel", "aside", "[J", true)
def tyX8 : Nat → FieldType := fun k => match k with
  | 0 => .int
  | 1 => .int
  | 2 => .array .int
  | 3 => .array .int
  | 4 => .array .int
  | 5 => .array .int
  | 6 => .array .int
  | 7 => .array .int
  | 8 => .array .int
  | 9 => .array .int
  | 10 => .int
  | 11 => .int
  | 12 => .int
  | 13 => .int
  | 14 => .int
  | 15 => .array .int
  | 16 => .array .int
  | 17 => .array .int
  | 18 => .array .int
  | 19 => .array .int
  | 20 => .array .int
  | 21 => .array .int
  | 22 => .array .int
  | 23 => .int
  | 24 => .int
  | 25 => .int
  | 26 => .array .int
  | 27 => .array .boolean
  | 28 => .array .int
  | 29 => .array .int
  | 30 => .int
  | 31 => .int
  | 32 => .int
  | 33 => .array .int
  | 34 => .array .int
  | 35 => .array .int
  | 36 => .array .int
  | 37 => .array .int
  | 38 => .int
  | 39 => .array .int
  | 40 => .array .int
  | 41 => .array .int
  | 42 => .boolean
  | 43 => .int
  | 44 => .int
  | 45 => .int
  | 46 => .int
  | 47 => .array .int
  | 48 => .array .int
  | 49 => .array .int
  | 50 => .array .int
  | 51 => .array .int
  | 52 => .array .int
  | 53 => .array .int
  | 54 => .array .int
  | 55 => .array .int
  | 56 => .array .int
  | 57 => .array .int
  | 58 => .array .int
  | 59 => .int
  | 60 => .array .int
  | 61 => .array .int
  | 62 => .array .int
  | 63 => .array .long
  | _ => .array .long
abbrev wsX80 : List Cond := u_ws RX8 TX8 65
theorem nmX8 : ∀ a, a < 65 → ∀ b, b < 65 → a ≠ b → (TX8 a).2.1 ≠ (TX8 b).2.1 := by decide +kernel
theorem tyX8_ok : ∀ k, k < 65 → parseFieldDescriptor (TX8 k).2.2.1 = some (tyX8 k) := by decide +kernel
abbrev cX8_init : ByteArray := prog_10_method_1_code
def yX8_init : MethodName := ⟨RX8, "<init>", "()V"⟩
abbrev cX8_in : ByteArray := prog_10_method_2_code
def yX8_in : MethodName := ⟨RX8, "in", "(III)Z"⟩
abbrev cX8_has : ByteArray := prog_10_method_3_code
def yX8_has : MethodName := ⟨RX8, "has", "(II)Z"⟩
abbrev cX8_isPerson : ByteArray := prog_10_method_4_code
def yX8_isPerson : MethodName := ⟨RX8, "isPerson", "(I)Z"⟩
abbrev cX8_person : ByteArray := prog_10_method_5_code
def yX8_person : MethodName := ⟨RX8, "person", "(II)I"⟩
abbrev cX8_thing : ByteArray := prog_10_method_6_code
def yX8_thing : MethodName := ⟨RX8, "thing", "(IIII)I"⟩
abbrev cX8_lie : ByteArray := prog_10_method_7_code
def yX8_lie : MethodName := ⟨RX8, "lie", "(II)I"⟩
abbrev cX8_layTale : ByteArray := prog_10_method_8_code
def yX8_layTale : MethodName := ⟨RX8, "layTale", "(III)V"⟩
abbrev cX8_tells : ByteArray := prog_10_method_9_code
def yX8_tells : MethodName := ⟨RX8, "tells", "(III)I"⟩
abbrev cX8_of : ByteArray := prog_10_method_10_code
def yX8_of : MethodName := ⟨RX8, "of", "(II)I"⟩
abbrev cX8_row : ByteArray := prog_10_method_11_code
def yX8_row : MethodName := ⟨RX8, "row", "(III)I"⟩
abbrev cX8_feed : ByteArray := prog_10_method_12_code
def yX8_feed : MethodName := ⟨RX8, "feed", "(I)I"⟩
abbrev cX8_next : ByteArray := prog_10_method_13_code
def yX8_next : MethodName := ⟨RX8, "next", "()I"⟩
abbrev cX8_takes : ByteArray := prog_10_method_14_code
def yX8_takes : MethodName := ⟨RX8, "takes", "(I)Z"⟩
abbrev cX8_takesWord : ByteArray := prog_10_method_15_code
def yX8_takesWord : MethodName := ⟨RX8, "takesWord", "(II)Z"⟩
abbrev cX8_isDigit : ByteArray := prog_10_method_16_code
def yX8_isDigit : MethodName := ⟨RX8, "isDigit", "()Z"⟩
abbrev cX8_takesNumber : ByteArray := prog_10_method_17_code
def yX8_takesNumber : MethodName := ⟨RX8, "takesNumber", "()Z"⟩
abbrev cX8_emits : ByteArray := prog_10_method_18_code
def yX8_emits : MethodName := ⟨RX8, "emits", "(I)V"⟩
abbrev cX8_whole : ByteArray := prog_10_method_19_code
def yX8_whole : MethodName := ⟨RX8, "whole", "()V"⟩
abbrev cX8_settle : ByteArray := prog_10_method_20_code
def yX8_settle : MethodName := ⟨RX8, "settle", "(I)V"⟩
abbrev cX8_place : ByteArray := prog_10_method_21_code
def yX8_place : MethodName := ⟨RX8, "place", "(I)I"⟩
abbrev cX8_takesTest : ByteArray := prog_10_method_22_code
def yX8_takesTest : MethodName := ⟨RX8, "takesTest", "()Z"⟩
abbrev cX8_takesE : ByteArray := prog_10_method_23_code
def yX8_takesE : MethodName := ⟨RX8, "takesE", "(I)Z"⟩
abbrev cX8_takesHead : ByteArray := prog_10_method_24_code
def yX8_takesHead : MethodName := ⟨RX8, "takesHead", "(I)Z"⟩
abbrev cX8_takesClause : ByteArray := prog_10_method_25_code
def yX8_takesClause : MethodName := ⟨RX8, "takesClause", "(I)Z"⟩
abbrev cX8_goesText : ByteArray := prog_10_method_26_code
def yX8_goesText : MethodName := ⟨RX8, "goesText", "(I)Z"⟩
abbrev cX8_evening : ByteArray := prog_10_method_27_code
def yX8_evening : MethodName := ⟨RX8, "evening", "()I"⟩
abbrev cX8_begin : ByteArray := prog_10_method_28_code
def yX8_begin : MethodName := ⟨RX8, "begin", "()I"⟩
abbrev cX8_behind : ByteArray := prog_10_method_29_code
def yX8_behind : MethodName := ⟨RX8, "behind", "()I"⟩
abbrev cX8_handsNow : ByteArray := prog_10_method_30_code
def yX8_handsNow : MethodName := ⟨RX8, "handsNow", "()I"⟩
abbrev cX8_factOf : ByteArray := prog_10_method_31_code
def yX8_factOf : MethodName := ⟨RX8, "factOf", "(IIII)I"⟩
abbrev cX8_holds : ByteArray := prog_10_method_32_code
def yX8_holds : MethodName := ⟨RX8, "holds", "(IIII)Z"⟩
abbrev cX8_doubtOf : ByteArray := prog_10_method_33_code
def yX8_doubtOf : MethodName := ⟨RX8, "doubtOf", "(III)I"⟩
abbrev cX8_told : ByteArray := prog_10_method_34_code
def yX8_told : MethodName := ⟨RX8, "told", "(I)I"⟩
abbrev cX8_doubt : ByteArray := prog_10_method_35_code
def yX8_doubt : MethodName := ⟨RX8, "doubt", "(III)I"⟩
abbrev cX8_liePlace : ByteArray := prog_10_method_36_code
def yX8_liePlace : MethodName := ⟨RX8, "liePlace", "(I)I"⟩
abbrev cX8_friendly : ByteArray := prog_10_method_37_code
def yX8_friendly : MethodName := ⟨RX8, "friendly", "(III)I"⟩
abbrev cX8_weightOf : ByteArray := prog_10_method_38_code
def yX8_weightOf : MethodName := ⟨RX8, "weightOf", "(III)I"⟩
abbrev cX8_choice : ByteArray := prog_10_method_39_code
def yX8_choice : MethodName := ⟨RX8, "choice", "(II)I"⟩
abbrev cX8_clearHands : ByteArray := prog_10_method_40_code
def yX8_clearHands : MethodName := ⟨RX8, "clearHands", "()V"⟩
abbrev cX8_guesses : ByteArray := prog_10_method_41_code
def yX8_guesses : MethodName := ⟨RX8, "guesses", "(II)V"⟩
abbrev cX8_goes : ByteArray := prog_10_method_42_code
def yX8_goes : MethodName := ⟨RX8, "goes", "(I)I"⟩
abbrev cX8_goRound : ByteArray := prog_10_method_43_code
def yX8_goRound : MethodName := ⟨RX8, "goRound", "(I)I"⟩
abbrev cX8_round : ByteArray := prog_10_method_44_code
def yX8_round : MethodName := ⟨RX8, "round", "(I)I"⟩
abbrev cX8_guess : ByteArray := prog_10_method_45_code
def yX8_guess : MethodName := ⟨RX8, "guess", "(II)I"⟩
abbrev cX8_hands : ByteArray := prog_10_method_46_code
def yX8_hands : MethodName := ⟨RX8, "hands", "(II)I"⟩
abbrev cX8_order : ByteArray := prog_10_method_47_code
def yX8_order : MethodName := ⟨RX8, "order", "(II)I"⟩
abbrev cX8_likely : ByteArray := prog_10_method_48_code
def yX8_likely : MethodName := ⟨RX8, "likely", "(II)I"⟩
abbrev cX8_best : ByteArray := prog_10_method_49_code
def yX8_best : MethodName := ⟨RX8, "best", "(II)I"⟩
abbrev cX8_first : ByteArray := prog_10_method_50_code
def yX8_first : MethodName := ⟨RX8, "first", "(III)I"⟩
abbrev cX8_layLine : ByteArray := prog_10_method_51_code
def yX8_layLine : MethodName := ⟨RX8, "layLine", "(III)Z"⟩
abbrev cX8_line : ByteArray := prog_10_method_52_code
def yX8_line : MethodName := ⟨RX8, "line", "(II)I"⟩
abbrev cX8_rightsOf : ByteArray := prog_10_method_53_code
def yX8_rightsOf : MethodName := ⟨RX8, "rightsOf", "(I)I"⟩
abbrev cX8_worth : ByteArray := prog_10_method_54_code
def yX8_worth : MethodName := ⟨RX8, "worth", "(I)I"⟩
abbrev cX8_see : ByteArray := prog_10_method_55_code
def yX8_see : MethodName := ⟨RX8, "see", "(II)I"⟩
abbrev cX8_lies : ByteArray := prog_10_method_56_code
def yX8_lies : MethodName := ⟨RX8, "lies", "(I)I"⟩
abbrev cX8_ends : ByteArray := prog_10_method_57_code
def yX8_ends : MethodName := ⟨RX8, "ends", "(III)I"⟩
abbrev cX8_divisor : ByteArray := prog_10_method_58_code
def yX8_divisor : MethodName := ⟨RX8, "divisor", "(II)I"⟩
abbrev cX8_lowest : ByteArray := prog_10_method_59_code
def yX8_lowest : MethodName := ⟨RX8, "lowest", "(III)J"⟩
abbrev cX8_odds : ByteArray := prog_10_method_60_code
def yX8_odds : MethodName := ⟨RX8, "odds", "(II)J"⟩
abbrev cX8_mean : ByteArray := prog_10_method_61_code
def yX8_mean : MethodName := ⟨RX8, "mean", "(I)J"⟩
abbrev cX8_book : ByteArray := prog_10_method_62_code
def yX8_book : MethodName := ⟨RX8, "book", "(III)I"⟩
abbrev cX8_looked : ByteArray := prog_10_method_63_code
def yX8_looked : MethodName := ⟨RX8, "looked", "()I"⟩
abbrev cX8_judge : ByteArray := prog_10_method_64_code
def yX8_judge : MethodName := ⟨RX8, "judge", "(II)I"⟩
abbrev cX8_image : ByteArray := prog_10_method_65_code
def yX8_image : MethodName := ⟨RX8, "image", "()I"⟩
abbrev cX8_undo : ByteArray := prog_10_method_66_code
def yX8_undo : MethodName := ⟨RX8, "undo", "()I"⟩
abbrev cX8_body : ByteArray := prog_10_method_67_code
def yX8_body : MethodName := ⟨RX8, "body", "(I)V"⟩
abbrev cX8_guestDoubts : ByteArray := prog_10_method_68_code
def yX8_guestDoubts : MethodName := ⟨RX8, "guestDoubts", "(II)I"⟩
abbrev cX8_doubtsAct : ByteArray := prog_10_method_69_code
def yX8_doubtsAct : MethodName := ⟨RX8, "doubtsAct", "(II)I"⟩
abbrev cX8_guestGuesses : ByteArray := prog_10_method_70_code
def yX8_guestGuesses : MethodName := ⟨RX8, "guestGuesses", "(II)I"⟩
abbrev cX8_readerGuesses : ByteArray := prog_10_method_71_code
def yX8_readerGuesses : MethodName := ⟨RX8, "readerGuesses", "(II)I"⟩
abbrev cX8_guessesAct : ByteArray := prog_10_method_72_code
def yX8_guessesAct : MethodName := ⟨RX8, "guessesAct", "(II)I"⟩
abbrev cX8_guestTells : ByteArray := prog_10_method_73_code
def yX8_guestTells : MethodName := ⟨RX8, "guestTells", "(II)I"⟩
abbrev cX8_tellsAct : ByteArray := prog_10_method_74_code
def yX8_tellsAct : MethodName := ⟨RX8, "tellsAct", "(II)I"⟩
abbrev cX8_act : ByteArray := prog_10_method_75_code
def yX8_act : MethodName := ⟨RX8, "act", "(III)I"⟩
abbrev cX8_trace : ByteArray := prog_10_method_76_code
def yX8_trace : MethodName := ⟨RX8, "trace", "(I)I"⟩
abbrev cX8_taken : ByteArray := prog_10_method_77_code
def yX8_taken : MethodName := ⟨RX8, "taken", "(II)I"⟩
abbrev cX8_count : ByteArray := prog_10_method_78_code
def yX8_count : MethodName := ⟨RX8, "count", "(I)I"⟩
abbrev cX8_isTape : ByteArray := prog_10_method_79_code
def yX8_isTape : MethodName := ⟨RX8, "isTape", "(I)Z"⟩
abbrev cX8_tape : ByteArray := prog_10_method_80_code
def yX8_tape : MethodName := ⟨RX8, "tape", "(III)I"⟩
abbrev cX8_narrow : ByteArray := prog_10_method_81_code
def yX8_narrow : MethodName := ⟨RX8, "narrow", "(IJ)J"⟩
abbrev cX8_item : ByteArray := prog_10_method_82_code
def yX8_item : MethodName := ⟨RX8, "item", "(IIJ)I"⟩
abbrev cX8_read : ByteArray := prog_10_method_83_code
def yX8_read : MethodName := ⟨RX8, "read", "(II)J"⟩
abbrev cX8_shift : ByteArray := prog_10_method_84_code
def yX8_shift : MethodName := ⟨RX8, "shift", "(IIIII)I"⟩
abbrev vwCl : List vw_C := [(RX0, TX0, 2), (RX1, TX1, 4), (RX2, TX2, 7), (RX3, TX3, 9), (RX4, TX4, 7), (RX5, TX5, 3), (RX6, TX6, 4), (RX7, TX7, 14), (RX8, TX8, 65)]
theorem iX0 : ∀ w ∈ u_ws RX0 TX0 2, w ∈ lw_tbl ∧ goodWord w = true := by decide +kernel
theorem iX1 : ∀ w ∈ u_ws RX1 TX1 4, w ∈ lw_tbl ∧ goodWord w = true := by decide +kernel
theorem iX2 : ∀ w ∈ u_ws RX2 TX2 7, w ∈ lw_tbl ∧ goodWord w = true := by decide +kernel
theorem iX3 : ∀ w ∈ u_ws RX3 TX3 9, w ∈ lw_tbl ∧ goodWord w = true := by decide +kernel
theorem iX4 : ∀ w ∈ u_ws RX4 TX4 7, w ∈ lw_tbl ∧ goodWord w = true := by decide +kernel
theorem iX5 : ∀ w ∈ u_ws RX5 TX5 3, w ∈ lw_tbl ∧ goodWord w = true := by decide +kernel
theorem iX6 : ∀ w ∈ u_ws RX6 TX6 4, w ∈ lw_tbl ∧ goodWord w = true := by decide +kernel
theorem iX7 : ∀ w ∈ u_ws RX7 TX7 14, w ∈ lw_tbl ∧ goodWord w = true := by decide +kernel
theorem iX8 : ∀ w ∈ u_ws RX8 TX8 65, w ∈ lw_tbl ∧ goodWord w = true := by decide +kernel
def zgw : List Cond := lw_tbl.filter goodWord
theorem zgi {w : Cond} (h : w ∈ lw_tbl ∧ goodWord w = true) : w ∈ zgw := List.mem_filter.mpr h
theorem zgm {w : Cond} (i : Nat) (h : lw_tbl[i]? = some w) (g : goodWord w = true) : w ∈ zgw := List.mem_filter.mpr ⟨List.mem_of_getElem? h, g⟩
theorem zgg : GoodIn zgw zgw := fun w h => ⟨h, good_of_word (List.mem_filter.mp h).2⟩
theorem iK0 : ∀ w ∈ u_ws RX0 TX0 2, w ∈ zgw := fun w h => zgi (iX0 w h)
theorem iK1 : ∀ w ∈ u_ws RX1 TX1 4, w ∈ zgw := fun w h => zgi (iX1 w h)
theorem iK2 : ∀ w ∈ u_ws RX2 TX2 7, w ∈ zgw := fun w h => zgi (iX2 w h)
theorem iK3 : ∀ w ∈ u_ws RX3 TX3 9, w ∈ zgw := fun w h => zgi (iX3 w h)
theorem iK4 : ∀ w ∈ u_ws RX4 TX4 7, w ∈ zgw := fun w h => zgi (iX4 w h)
theorem iK5 : ∀ w ∈ u_ws RX5 TX5 3, w ∈ zgw := fun w h => zgi (iX5 w h)
theorem iK6 : ∀ w ∈ u_ws RX6 TX6 4, w ∈ zgw := fun w h => zgi (iX6 w h)
theorem iK7 : ∀ w ∈ u_ws RX7 TX7 14, w ∈ zgw := fun w h => zgi (iX7 w h)
theorem iK8 : ∀ w ∈ u_ws RX8 TX8 65, w ∈ zgw := fun w h => zgi (iX8 w h)
/-- what stands at the cell number i of kind k -/
def zcell (cy : Nat → ClassId) (ad : Nat → Nat → Nat) (k i : Nat) (f : Nat → Int32) (g : Nat → Int64) : va_E := match k with
  | 0 => .inr (7, [.ref (ad 1 0), .ref (ad 1 1), .ref (ad 1 2), .int (f 3), .ref (ad 10 0), .ref (ad 12 0), .ref (ad 13 6), .int (f 7), .ref (ad 16 0), .ref (ad 22 0), .ref (ad 23 0), .ref (ad 24 0), .ref (ad 25 0), .ref (ad 27 0)])
  | 1 => .inr (2, [.ref (ad 7 i), .int (f 1), .int (f 2), .int (f 3), .ref (ad 8 i), .ref (ad 9 i), .int (f 6)])
  | 2 => .inr (3, [.int (f 0), .int (f 1), .int (f 2), .int (f 3), .int (f 4), .ref (ad 3 i), .ref (ad 4 i), .ref (ad 5 i), .ref (ad 6 i)])
  | 3 => .inl (cy 0, 3, .inl f)
  | 4 => .inl (cy 0, 3, .inl f)
  | 5 => .inl (cy 0, 3, .inl f)
  | 6 => .inl (cy 0, 4, .inl f)
  | 7 => .inl (cy 3, 6, .inr (.inr (.inr (.inr (fun j => some (ad 2 (6 * i + j)))))))
  | 8 => .inl (cy 0, 3, .inl f)
  | 9 => .inl (cy 0, 36, .inl f)
  | 10 => .inr (6, [.ref (ad 11 0), .int (f 1), .int (f 2), .int (f 3)])
  | 11 => .inl (cy 0, 100, .inl f)
  | 12 => .inl (cy 4, 6, .inr (.inr (.inr (.inr (fun j => some (ad 13 (0 + j)))))))
  | 13 => .inr (1, [.ref (ad 14 i), .int (f 1), .ref (ad 15 i), .int (f 3)])
  | 14 => .inl (cy 0, 100, .inl f)
  | 15 => .inl (cy 0, 6, .inl f)
  | 16 => .inr (4, [.ref (ad 17 0), .ref (ad 18 0), .ref (ad 19 0), .ref (ad 20 0), .ref (ad 21 0), .int (f 5), .int (f 6)])
  | 17 => .inl (cy 0, 18, .inl f)
  | 18 => .inl (cy 0, 6, .inl f)
  | 19 => .inl (cy 2, 6, .inl f)
  | 20 => .inl (cy 0, 3, .inl f)
  | 21 => .inl (cy 0, 6, .inl f)
  | 22 => .inl (cy 0, 6, .inl f)
  | 23 => .inl (cy 0, 5, .inl f)
  | 24 => .inl (cy 0, 5, .inl f)
  | 25 => .inr (0, [.ref (ad 26 0), .int (f 1)])
  | 26 => .inl (cy 0, 20, .inl f)
  | 27 => .inr (5, [.ref (ad 28 0), .ref (ad 29 0), .ref (ad 30 0)])
  | 28 => .inl (cy 0, 6, .inl f)
  | 29 => .inl (cy 0, 6, .inl f)
  | 30 => .inl (cy 1, 360, .inr (.inl g))
  | 40 => .inr (8, [.int (f 0), .int (f 1), .ref (ad 41 0), .ref (ad 42 0), .ref (ad 43 0), .ref (ad 44 0), .ref (ad 45 0), .ref (ad 46 0), .ref (ad 47 0), .ref (ad 48 0), .int (f 10), .int (f 11), .int (f 12), .int (f 13), .int (f 14), .ref (ad 49 0), .ref (ad 50 0), .ref (ad 51 0), .ref (ad 52 0), .ref (ad 53 0), .ref (ad 54 0), .ref (ad 55 0), .ref (ad 56 0), .int (f 23), .int (f 24), .int (f 25), .ref (ad 57 0), .ref (ad 58 0), .ref (ad 59 0), .ref (ad 60 0), .int (f 30), .int (f 31), .int (f 32), .ref (ad 61 0), .ref (ad 62 0), .ref (ad 63 0), .ref (ad 64 0), .ref (ad 65 0), .int (f 38), .ref (ad 66 0), .ref (ad 67 0), .ref (ad 68 0), .int (f 42), .int (f 43), .int (f 44), .int (f 45), .int (f 46), .ref (ad 69 0), .ref (ad 70 0), .ref (ad 71 0), .ref (ad 72 0), .ref (ad 73 0), .ref (ad 74 0), .ref (ad 75 0), .ref (ad 76 0), .ref (ad 77 0), .ref (ad 78 0), .ref (ad 79 0), .ref (ad 80 0), .int (f 59), .ref (ad 81 0), .ref (ad 82 0), .ref (ad 83 0), .ref (ad 84 0), .ref (ad 85 0)])
  | 41 => .inl (cy 0, 6, .inl f)
  | 42 => .inl (cy 0, 6, .inl f)
  | 43 => .inl (cy 0, 6, .inl f)
  | 44 => .inl (cy 0, 6, .inl f)
  | 45 => .inl (cy 0, 18, .inl f)
  | 46 => .inl (cy 0, 18, .inl f)
  | 47 => .inl (cy 0, 18, .inl f)
  | 48 => .inl (cy 0, 24, .inl f)
  | 49 => .inl (cy 0, 100, .inl f)
  | 50 => .inl (cy 0, 6, .inl f)
  | 51 => .inl (cy 0, 60, .inl f)
  | 52 => .inl (cy 0, 60, .inl f)
  | 53 => .inl (cy 0, 60, .inl f)
  | 54 => .inl (cy 0, 60, .inl f)
  | 55 => .inl (cy 0, 600, .inl f)
  | 56 => .inl (cy 0, 101, .inl f)
  | 57 => .inl (cy 0, 12, .inl f)
  | 58 => .inl (cy 2, 100, .inl f)
  | 59 => .inl (cy 0, 3, .inl f)
  | 60 => .inl (cy 0, 6, .inl f)
  | 61 => .inl (cy 0, 6, .inl f)
  | 62 => .inl (cy 0, 4, .inl f)
  | 63 => .inl (cy 0, 4, .inl f)
  | 64 => .inl (cy 0, 3, .inl f)
  | 65 => .inl (cy 0, 6, .inl f)
  | 66 => .inl (cy 0, 12, .inl f)
  | 67 => .inl (cy 0, 12, .inl f)
  | 68 => .inl (cy 0, 12, .inl f)
  | 69 => .inl (cy 0, 6, .inl f)
  | 70 => .inl (cy 0, 6, .inl f)
  | 71 => .inl (cy 0, 6, .inl f)
  | 72 => .inl (cy 0, 6, .inl f)
  | 73 => .inl (cy 0, 18, .inl f)
  | 74 => .inl (cy 0, 18, .inl f)
  | 75 => .inl (cy 0, 18, .inl f)
  | 76 => .inl (cy 0, 24, .inl f)
  | 77 => .inl (cy 0, 3, .inl f)
  | 78 => .inl (cy 0, 12, .inl f)
  | 79 => .inl (cy 0, 12, .inl f)
  | 80 => .inl (cy 0, 12, .inl f)
  | 81 => .inl (cy 0, 20, .inl f)
  | 82 => .inl (cy 0, 6, .inl f)
  | 83 => .inl (cy 0, 6, .inl f)
  | 84 => .inl (cy 1, 360, .inr (.inl g))
  | 85 => .inl (cy 1, 60, .inr (.inl g))
  | _ => .inl (cy 0, 0, .inl f)
def zNC : List (Nat × Nat) := [(0, 1), (1, 3), (2, 18), (3, 18), (4, 18), (5, 18), (6, 18), (7, 3), (8, 3), (9, 3), (10, 1), (11, 1), (12, 1), (13, 7), (14, 7), (15, 7), (16, 1), (17, 1), (18, 1), (19, 1), (20, 1), (21, 1), (22, 1), (23, 1), (24, 1), (25, 1), (26, 1), (27, 1), (28, 1), (29, 1), (30, 1)].flatMap fun q => (List.range q.2).map fun i => (q.1, i)
def zNM : List (Nat × Nat) := [(40, 1), (41, 1), (42, 1), (43, 1), (44, 1), (45, 1), (46, 1), (47, 1), (48, 1), (49, 1), (50, 1), (51, 1), (52, 1), (53, 1), (54, 1), (55, 1), (56, 1), (57, 1), (58, 1), (59, 1), (60, 1), (61, 1), (62, 1), (63, 1), (64, 1), (65, 1), (66, 1), (67, 1), (68, 1), (69, 1), (70, 1), (71, 1), (72, 1), (73, 1), (74, 1), (75, 1), (76, 1), (77, 1), (78, 1), (79, 1), (80, 1), (81, 1), (82, 1), (83, 1), (84, 1), (85, 1)].flatMap fun q => (List.range q.2).map fun i => (q.1, i)
theorem zn0 : ((0, 0) : Nat × Nat) ∈ zNC := by decide +kernel
theorem zn1 {i : Nat} (h : i < 3) : ((1, i) : Nat × Nat) ∈ zNC := (by decide +kernel : ∀ i, i < 3 → ((1, i) : Nat × Nat) ∈ zNC) i h
theorem zn2 {i : Nat} (h : i < 18) : ((2, i) : Nat × Nat) ∈ zNC := (by decide +kernel : ∀ i, i < 18 → ((2, i) : Nat × Nat) ∈ zNC) i h
theorem zn3 {i : Nat} (h : i < 18) : ((3, i) : Nat × Nat) ∈ zNC := (by decide +kernel : ∀ i, i < 18 → ((3, i) : Nat × Nat) ∈ zNC) i h
theorem zn4 {i : Nat} (h : i < 18) : ((4, i) : Nat × Nat) ∈ zNC := (by decide +kernel : ∀ i, i < 18 → ((4, i) : Nat × Nat) ∈ zNC) i h
theorem zn5 {i : Nat} (h : i < 18) : ((5, i) : Nat × Nat) ∈ zNC := (by decide +kernel : ∀ i, i < 18 → ((5, i) : Nat × Nat) ∈ zNC) i h
theorem zn6 {i : Nat} (h : i < 18) : ((6, i) : Nat × Nat) ∈ zNC := (by decide +kernel : ∀ i, i < 18 → ((6, i) : Nat × Nat) ∈ zNC) i h
theorem zn7 {i : Nat} (h : i < 3) : ((7, i) : Nat × Nat) ∈ zNC := (by decide +kernel : ∀ i, i < 3 → ((7, i) : Nat × Nat) ∈ zNC) i h
theorem zn8 {i : Nat} (h : i < 3) : ((8, i) : Nat × Nat) ∈ zNC := (by decide +kernel : ∀ i, i < 3 → ((8, i) : Nat × Nat) ∈ zNC) i h
theorem zn9 {i : Nat} (h : i < 3) : ((9, i) : Nat × Nat) ∈ zNC := (by decide +kernel : ∀ i, i < 3 → ((9, i) : Nat × Nat) ∈ zNC) i h
theorem zn10 : ((10, 0) : Nat × Nat) ∈ zNC := by decide +kernel
theorem zn11 : ((11, 0) : Nat × Nat) ∈ zNC := by decide +kernel
theorem zn12 : ((12, 0) : Nat × Nat) ∈ zNC := by decide +kernel
theorem zn13 {i : Nat} (h : i < 7) : ((13, i) : Nat × Nat) ∈ zNC := (by decide +kernel : ∀ i, i < 7 → ((13, i) : Nat × Nat) ∈ zNC) i h
theorem zn14 {i : Nat} (h : i < 7) : ((14, i) : Nat × Nat) ∈ zNC := (by decide +kernel : ∀ i, i < 7 → ((14, i) : Nat × Nat) ∈ zNC) i h
theorem zn15 {i : Nat} (h : i < 7) : ((15, i) : Nat × Nat) ∈ zNC := (by decide +kernel : ∀ i, i < 7 → ((15, i) : Nat × Nat) ∈ zNC) i h
theorem zn16 : ((16, 0) : Nat × Nat) ∈ zNC := by decide +kernel
theorem zn17 : ((17, 0) : Nat × Nat) ∈ zNC := by decide +kernel
theorem zn18 : ((18, 0) : Nat × Nat) ∈ zNC := by decide +kernel
theorem zn19 : ((19, 0) : Nat × Nat) ∈ zNC := by decide +kernel
theorem zn20 : ((20, 0) : Nat × Nat) ∈ zNC := by decide +kernel
theorem zn21 : ((21, 0) : Nat × Nat) ∈ zNC := by decide +kernel
theorem zn22 : ((22, 0) : Nat × Nat) ∈ zNC := by decide +kernel
theorem zn23 : ((23, 0) : Nat × Nat) ∈ zNC := by decide +kernel
theorem zn24 : ((24, 0) : Nat × Nat) ∈ zNC := by decide +kernel
theorem zn25 : ((25, 0) : Nat × Nat) ∈ zNC := by decide +kernel
theorem zn26 : ((26, 0) : Nat × Nat) ∈ zNC := by decide +kernel
theorem zn27 : ((27, 0) : Nat × Nat) ∈ zNC := by decide +kernel
theorem zn28 : ((28, 0) : Nat × Nat) ∈ zNC := by decide +kernel
theorem zn29 : ((29, 0) : Nat × Nat) ∈ zNC := by decide +kernel
theorem zn30 : ((30, 0) : Nat × Nat) ∈ zNC := by decide +kernel
theorem zn40 : ((40, 0) : Nat × Nat) ∈ zNM := by decide +kernel
theorem zn41 : ((41, 0) : Nat × Nat) ∈ zNM := by decide +kernel
theorem zn42 : ((42, 0) : Nat × Nat) ∈ zNM := by decide +kernel
theorem zn43 : ((43, 0) : Nat × Nat) ∈ zNM := by decide +kernel
theorem zn44 : ((44, 0) : Nat × Nat) ∈ zNM := by decide +kernel
theorem zn45 : ((45, 0) : Nat × Nat) ∈ zNM := by decide +kernel
theorem zn46 : ((46, 0) : Nat × Nat) ∈ zNM := by decide +kernel
theorem zn47 : ((47, 0) : Nat × Nat) ∈ zNM := by decide +kernel
theorem zn48 : ((48, 0) : Nat × Nat) ∈ zNM := by decide +kernel
theorem zn49 : ((49, 0) : Nat × Nat) ∈ zNM := by decide +kernel
theorem zn50 : ((50, 0) : Nat × Nat) ∈ zNM := by decide +kernel
theorem zn51 : ((51, 0) : Nat × Nat) ∈ zNM := by decide +kernel
theorem zn52 : ((52, 0) : Nat × Nat) ∈ zNM := by decide +kernel
theorem zn53 : ((53, 0) : Nat × Nat) ∈ zNM := by decide +kernel
theorem zn54 : ((54, 0) : Nat × Nat) ∈ zNM := by decide +kernel
theorem zn55 : ((55, 0) : Nat × Nat) ∈ zNM := by decide +kernel
theorem zn56 : ((56, 0) : Nat × Nat) ∈ zNM := by decide +kernel
theorem zn57 : ((57, 0) : Nat × Nat) ∈ zNM := by decide +kernel
theorem zn58 : ((58, 0) : Nat × Nat) ∈ zNM := by decide +kernel
theorem zn59 : ((59, 0) : Nat × Nat) ∈ zNM := by decide +kernel
theorem zn60 : ((60, 0) : Nat × Nat) ∈ zNM := by decide +kernel
theorem zn61 : ((61, 0) : Nat × Nat) ∈ zNM := by decide +kernel
theorem zn62 : ((62, 0) : Nat × Nat) ∈ zNM := by decide +kernel
theorem zn63 : ((63, 0) : Nat × Nat) ∈ zNM := by decide +kernel
theorem zn64 : ((64, 0) : Nat × Nat) ∈ zNM := by decide +kernel
theorem zn65 : ((65, 0) : Nat × Nat) ∈ zNM := by decide +kernel
theorem zn66 : ((66, 0) : Nat × Nat) ∈ zNM := by decide +kernel
theorem zn67 : ((67, 0) : Nat × Nat) ∈ zNM := by decide +kernel
theorem zn68 : ((68, 0) : Nat × Nat) ∈ zNM := by decide +kernel
theorem zn69 : ((69, 0) : Nat × Nat) ∈ zNM := by decide +kernel
theorem zn70 : ((70, 0) : Nat × Nat) ∈ zNM := by decide +kernel
theorem zn71 : ((71, 0) : Nat × Nat) ∈ zNM := by decide +kernel
theorem zn72 : ((72, 0) : Nat × Nat) ∈ zNM := by decide +kernel
theorem zn73 : ((73, 0) : Nat × Nat) ∈ zNM := by decide +kernel
theorem zn74 : ((74, 0) : Nat × Nat) ∈ zNM := by decide +kernel
theorem zn75 : ((75, 0) : Nat × Nat) ∈ zNM := by decide +kernel
theorem zn76 : ((76, 0) : Nat × Nat) ∈ zNM := by decide +kernel
theorem zn77 : ((77, 0) : Nat × Nat) ∈ zNM := by decide +kernel
theorem zn78 : ((78, 0) : Nat × Nat) ∈ zNM := by decide +kernel
theorem zn79 : ((79, 0) : Nat × Nat) ∈ zNM := by decide +kernel
theorem zn80 : ((80, 0) : Nat × Nat) ∈ zNM := by decide +kernel
theorem zn81 : ((81, 0) : Nat × Nat) ∈ zNM := by decide +kernel
theorem zn82 : ((82, 0) : Nat × Nat) ∈ zNM := by decide +kernel
theorem zn83 : ((83, 0) : Nat × Nat) ∈ zNM := by decide +kernel
theorem zn84 : ((84, 0) : Nat × Nat) ∈ zNM := by decide +kernel
theorem zn85 : ((85, 0) : Nat × Nat) ∈ zNM := by decide +kernel
def zst_c (k : Nat) : String := match k with
  | 0 => "TwoTrue"
  | 1 => "TwoTrue"
  | _ => "TwoTrue$Acts"
def zst_n (k : Nat) : String := match k with
  | 0 => "KIND_ABOVE"
  | 1 => "ORDER_ROWS"
  | _ => "BODIES"
def zst_l (k : Nat) : Nat := match k with
  | 0 => 7
  | 1 => 18
  | _ => 21
def zst (k j : Nat) : Int32 := match k with
  | 0 => ([-1, 0, 0, 0, 1, 2, 3] : List Int32).getD j 0
  | 1 => ([0, 1, 2, 0, 2, 1, 1, 0, 2, 1, 2, 0, 2, 0, 1, 2, 1, 0] : List Int32).getD j 0
  | _ => ([10, 11, 12, 0, 20, 0, 30, 0, 0, 0, 0, 40, 50, 51, 0, 0, 0, 60, 71, 70, 0] : List Int32).getD j 0
def ztx (k : Nat) : String := match k with
  | 0 => "hands "
  | 1 => "odd "
  | 2 => "sure "
  | _ => "gktpln"
def ztx_k (k : Nat) : Nat := match k with
  | 0 => 38
  | 1 => 54
  | 2 => 56
  | _ => 72
def zlen : List Nat := [6, 4, 5, 6]
def zbyt : List (List Int32) := [[104, 97, 110, 100, 115, 32], [111, 100, 100, 32], [115, 117, 114, 101, 32], [103, 107, 116, 112, 108, 110]]
def znM : List (String × Nat × MethodName) := [("TwoTrue", 26, ⟨"TwoTrue$Text", "<init>", "()V"⟩), ("TwoTrue", 37, ⟨"TwoTrue$Evening", "<init>", "()V"⟩), ("TwoTrue", 44, ⟨"TwoTrue$Play", "<init>", "()V"⟩), ("TwoTrue", 61, ⟨"TwoTrue$Acts", "<init>", "()V"⟩), ("TwoTrue$Person", 46, ⟨"TwoTrue", "isOfThree", "(I)Z"⟩), ("TwoTrue$Play", 49, ⟨"TwoTrue", "isOfKind", "(II)Z"⟩)]
end
section
/-! MEMORY: ints by (kind, number, place), longs likewise. A method is a pure function over it; zG says that the machine does what the function says. -/
abbrev zM : Type := (Nat → Nat → Nat → Int32) × (Nat → Nat → Nat → Int64)
def zset (M : zM) (k i j : Nat) (v : Int32) : zM := (fun a b c => if a = k ∧ b = i ∧ c = j then v else M.1 a b c, M.2)
def zsetL (M : zM) (k i j : Nat) (v : Int64) : zM := (M.1, fun a b c => if a = k ∧ b = i ∧ c = j then v else M.2 a b c)
def zcpy (M : zM) (k i k2 i2 sp dp n : Nat) : zM := (fun a b c => if a = k2 ∧ b = i2 ∧ dp ≤ c ∧ c < dp + n then M.1 k i (sp + (c - dp)) else M.1 a b c, M.2)
def zcpyL (M : zM) (k i k2 i2 sp dp n : Nat) : zM := (M.1, fun a b c => if a = k2 ∧ b = i2 ∧ dp ≤ c ∧ c < dp + n then M.2 k i (sp + (c - dp)) else M.2 a b c)
def zbnd {α β : Type} (x : Option (α × zM)) (f : α → zM → Option β) : Option β := match x with
  | none => none
  | some q => f q.1 q.2
def zchk {β : Type} (b : Bool) (o : Option β) : Option β := match b with
  | true => o
  | false => none
def znm {α β : Type} (e : α) (f : α → β) : β := f e
def zjn {α β : Type} (f : α) (g : α → β) : β := g f
def zin (x : Int32) (n : Nat) : Bool := decide (¬ (x < 0 ∨ n ≤ x.toNatClampNeg))
def znz (x : Int32) : Bool := decide (¬ x = 0)
def zcp (sp dp n : Int32) (n0 n1 : Nat) : Bool := decide ((¬ sp < 0) ∧ (¬ dp < 0) ∧ (¬ n < 0) ∧ sp.toNatClampNeg + n.toNatClampNeg ≤ n0 ∧ dp.toNatClampNeg + n.toNatClampNeg ≤ n1)
def zrem (x y : Int32) : Int32 := x - x / y * y
def zushr (x y : Int32) : Int32 := (x.toUInt32 >>> (y.toUInt32 &&& Int32.toUInt32 31)).toInt32
/-- the names: classes' ids and slots; ids of array classes; the address of each cell; the static tables'; the texts' and their bytes' -/
abbrev zE : Type := va_G × (Nat → ClassId) × (Nat → Nat → Nat) × (Nat → Nat) × (Nat → Nat) × (Nat → Nat)
def zad (E : zE) : Nat → Nat → Nat := E.2.2.1
def zsa (E : zE) : Nat → Nat := E.2.2.2.1
def zsk (E : zE) : Nat → Nat := E.2.2.2.2.1
def zsv (E : zE) : Nat → Nat := E.2.2.2.2.2
def zty (E : zE) : List (ClassId × FieldType) := [(E.2.1 0, .int), (E.2.1 1, .long), (E.2.1 2, .boolean), (E.2.1 3, .object "TwoTrue$Person"), (E.2.1 4, .object "TwoTrue$Evening")]
def zrow (E : zE) (k i : Nat) (f : Nat → Int32) (g : Nat → Int64) : va_E := zcell E.2.1 (zad E) k i f g
def zw (E : zE) (NS : List (Nat × Nat)) (M : zM) : va_W := NS.map fun q => (zad E q.1 q.2, zrow E q.1 q.2 (M.1 q.1 q.2) (M.2 q.1 q.2))
def zD (E : zE) (NS : List (Nat × Nat)) (A : Nat → Prop) : Prop := NS.Nodup ∧ (∀ x ∈ NS, ∀ y ∈ NS, zad E x.1 x.2 = zad E y.1 y.2 → x = y) ∧ ∀ x ∈ NS, A (zad E x.1 x.2)
theorem zw_at {E : zE} {NS : List (Nat × Nat)} {M : zM} {q k i : Nat} (h : NS[q]? = some (k, i)) : (zw E NS M)[q]? = some (zad E k i, zrow E k i (M.1 k i) (M.2 k i)) := by
  simp [zw, List.getElem?_map, h]
theorem zw_mem {E : zE} {NS : List (Nat × Nat)} {M : zM} {k i : Nat} (h : (k, i) ∈ NS) : ∃ q : Nat, NS[q]? = some (k, i) ∧ (zw E NS M)[q]? = some (zad E k i, zrow E k i (M.1 k i) (M.2 k i)) := by
  obtain ⟨q, hq⟩ := List.getElem?_of_mem h
  exact ⟨q, hq, zw_at hq⟩
theorem zw_of {E : zE} {NS : List (Nat × Nat)} {M : zM} {q : Nat} {x : Nat × va_E} (h : (zw E NS M)[q]? = some x) : ∃ z : Nat × Nat, NS[q]? = some z ∧ x = (zad E z.1 z.2, zrow E z.1 z.2 (M.1 z.1 z.2) (M.2 z.1 z.2)) := by
  unfold zw at h
  rw [List.getElem?_map] at h
  cases hz : NS[q]? with
  | none => rw [hz] at h; cases h
  | some z => rw [hz] at h; exact ⟨z, rfl, (Option.some.inj h).symm⟩
theorem znd {NS : List (Nat × Nat)} (h : NS.Nodup) {i j : Nat} {x : Nat × Nat} (hi : NS[i]? = some x) (hj : NS[j]? = some x) : i = j := by
  induction NS generalizing i j with
  | nil => simp at hi
  | cons a l ih =>
    have hn := List.nodup_cons.mp h
    cases i with
    | zero =>
      cases j with
      | zero => rfl
      | succ j =>
        rw [List.getElem?_cons_zero] at hi
        rw [List.getElem?_cons_succ] at hj
        cases hi
        exact absurd (List.mem_of_getElem? hj) hn.1
    | succ i =>
      rw [List.getElem?_cons_succ] at hi
      cases j with
      | zero =>
        rw [List.getElem?_cons_zero] at hj
        cases hj
        exact absurd (List.mem_of_getElem? hi) hn.1
      | succ j =>
        rw [List.getElem?_cons_succ] at hj
        rw [ih hn.2 hi hj]
theorem zD.D {E : zE} {NS : List (Nat × Nat)} {A : Nat → Prop} (h : zD E NS A) (M : zM) : va_D A (zw E NS M) := by
  refine ⟨fun i j p q hi hj e => ?_, fun k q hk => ?_⟩
  · obtain ⟨x, hx, rfl⟩ := zw_of hi
    obtain ⟨y, hy, rfl⟩ := zw_of hj
    have := h.2.1 x (List.mem_of_getElem? hx) y (List.mem_of_getElem? hy) e
    subst this
    exact znd h.1 hx hy
  · obtain ⟨x, hx, rfl⟩ := zw_of hk
    exact h.2.2 x (List.mem_of_getElem? hx)
theorem zw_set {E : zE} {NS : List (Nat × Nat)} {M M' : zM} {q k i : Nat} {w : va_E} (hn : NS.Nodup) (hq : NS[q]? = some (k, i)) (he : w = zrow E k i (M'.1 k i) (M'.2 k i)) (ho : ∀ a b, ¬ (a = k ∧ b = i) → M'.1 a b = M.1 a b ∧ M'.2 a b = M.2 a b) : (zw E NS M).set q (zad E k i, w) = zw E NS M' := by
  subst he
  apply List.ext_getElem?
  intro j
  rw [List.getElem?_set]
  by_cases hj : q = j
  · subst hj
    have hl : q < (zw E NS M).length := (List.getElem?_eq_some_iff.mp (zw_at (M := M) (E := E) hq)).1
    rw [if_pos rfl, if_pos hl, zw_at hq]
  · rw [if_neg hj]
    simp only [zw, List.getElem?_map]
    cases hz : NS[j]? with
    | none => rfl
    | some z =>
      obtain ⟨a, b⟩ := z
      have h1 : ¬ (a = k ∧ b = i) := fun h => by
        obtain ⟨rfl, rfl⟩ := h
        exact hj (znd hn hq hz)
      obtain ⟨e1, e2⟩ := ho a b h1
      simp only [Option.map_some]
      rw [e1, e2]
theorem zset_at (M : zM) (k i j : Nat) (v : Int32) : (zset M k i j v).1 k i = upd (M.1 k i) j v := by
  funext c
  simp [zset, upd]
theorem zset_ne (M : zM) (k i j : Nat) (v : Int32) (a b : Nat) (h : ¬ (a = k ∧ b = i)) : (zset M k i j v).1 a b = M.1 a b ∧ (zset M k i j v).2 a b = M.2 a b := by
  refine ⟨?_, rfl⟩
  funext c
  simp only [zset]
  rw [if_neg (fun q => h ⟨q.1, q.2.1⟩)]
theorem zsetL_at (M : zM) (k i j : Nat) (v : Int64) : (zsetL M k i j v).2 k i = vp_updL (M.2 k i) j v := by
  funext c
  simp [zsetL, vp_updL]
theorem zsetL_ne (M : zM) (k i j : Nat) (v : Int64) (a b : Nat) (h : ¬ (a = k ∧ b = i)) : (zsetL M k i j v).1 a b = M.1 a b ∧ (zsetL M k i j v).2 a b = M.2 a b := by
  refine ⟨rfl, ?_⟩
  funext c
  simp only [zsetL]
  rw [if_neg (fun q => h ⟨q.1, q.2.1⟩)]
theorem zcpy_at (M : zM) (k i k2 i2 sp dp n : Nat) : (zcpy M k i k2 i2 sp dp n).1 k2 i2 = va_cpy (M.1 k i) (M.1 k2 i2) sp dp n := by
  funext c
  simp [zcpy, va_cpy]
theorem zcpy_ne (M : zM) (k i k2 i2 sp dp n : Nat) (a b : Nat) (h : ¬ (a = k2 ∧ b = i2)) : (zcpy M k i k2 i2 sp dp n).1 a b = M.1 a b ∧ (zcpy M k i k2 i2 sp dp n).2 a b = M.2 a b := by
  refine ⟨?_, rfl⟩
  funext c
  simp only [zcpy]
  rw [if_neg (fun q => h ⟨q.1, q.2.1⟩)]
theorem zcpyL_at (M : zM) (k i k2 i2 sp dp n : Nat) : (zcpyL M k i k2 i2 sp dp n).2 k2 i2 = va_cpy (M.2 k i) (M.2 k2 i2) sp dp n := by
  funext c
  simp [zcpyL, va_cpy]
theorem zcpyL_ne (M : zM) (k i k2 i2 sp dp n : Nat) (a b : Nat) (h : ¬ (a = k2 ∧ b = i2)) : (zcpyL M k i k2 i2 sp dp n).1 a b = M.1 a b ∧ (zcpyL M k i k2 i2 sp dp n).2 a b = M.2 a b := by
  refine ⟨rfl, ?_⟩
  funext c
  simp only [zcpyL]
  rw [if_neg (fun q => h ⟨q.1, q.2.1⟩)]
theorem zin_vp {x : Int32} {n : Nat} (h : zin x n = true) : vp_in x n := by
  have := of_decide_eq_true h
  exact this
theorem zin_lt {x : Int32} {n : Nat} (h : zin x n = true) : x.toNatClampNeg < n := Nat.not_le.mp fun q => of_decide_eq_true h (Or.inr q)
theorem zchk_some {β : Type} {b : Bool} {o : Option β} {y : β} (h : zchk b o = some y) : b = true ∧ o = some y := by
  cases b with
  | true => exact ⟨rfl, h⟩
  | false => cases h
theorem zbnd_some {α β : Type} {x : Option (α × zM)} {f : α → zM → Option β} {y : β} (h : zbnd x f = some y) : ∃ r M1, x = some (r, M1) ∧ f r M1 = some y := by
  cases x with
  | none => cases h
  | some q => exact ⟨q.1, q.2, rfl, h⟩
/-! what stays: static tables, texts, the words that a nest's links are -/

def zEv (E : zE) (A : Nat → Prop) (U : State) (H : Heap) : Prop :=
  (∀ k, k < 3 → va_Z (zst_c k) (zst_n k) "[I" (.ref (zsa E k)) A U H ∧ va_T .int (zsa E k) (zst_l k) (fun j => .int (zst k j)) A U H) ∧
  va_Z "java/lang/String" "COMPACT_STRINGS" "Z" (.int 1) A U H ∧ (∃ t : Nat, va_Z "jdk/internal/util/Preconditions" "SIOOBE_FORMATTER" "Ljava/util/function/BiFunction;" (.ref t) A U H) ∧
  vk_S 4 zlen zbyt (zsk E) (zsv E) A U H ∧ (∀ i, i < 4 → vk_R "TwoTrue$Text" (ztx_k i) (ztx i) (zsk E i) U) ∧
  (∀ q ∈ znM, va_Nw (.methodLinkNest q.1 q.2.1 q.2.2 "TwoTrue") U) ∧ va_Nw (.fieldLinkNest "TwoTrue$Acts" 18 "TwoTrue" "KIND_ABOVE" "[I" "TwoTrue") U
theorem zEv.go {E : zE} {A : Nat → Prop} {u U : State} {H H1 : Heap} (h : zEv E A u H) (hW : u.WarmedH U.vm) (hq : ∀ a : Nat, a < H.size → ¬ A a → H1[a]? = H[a]?) : zEv E A U H1 := by
  obtain ⟨h1, h2, ⟨t, h3⟩, h4, h5, h6, h7⟩ := h
  exact ⟨fun k hk => ⟨(va_Z.moved hW.alike (h1 k hk).1).kept hq, (va_T.moved hW.alike (h1 k hk).2).kept hq⟩, (va_Z.moved hW.alike h2).kept hq, ⟨t, (va_Z.moved hW.alike h3).kept hq⟩, (vk_S.moved hW.alike h4).kept hq, fun i hi => vk_R.warm hW (h5 i hi), fun q hq => va_Nw.warmM hW (h6 q hq), va_Nw.warmF hW h7⟩
theorem zEv.call {E : zE} {A : Nat → Prop} {U : State} {H : Heap} (h : zEv E A U H) (g : JFrame) (mk : MethodId) (a : Array Value) : zEv E A (U.calling g mk a) H := by
  obtain ⟨h1, h2, ⟨t, h3⟩, h4, h5, h6, h7⟩ := h
  have hv : U.vm.Alike (U.calling g mk a).vm := Vm.Alike.refl U.vm
  exact ⟨fun k hk => ⟨va_Z.moved hv (h1 k hk).1, va_T.moved hv (h1 k hk).2⟩, va_Z.moved hv h2, ⟨t, va_Z.moved hv h3⟩, vk_S.moved hv h4, fun i hi => vk_R.same (u := U) rfl (h5 i hi), fun q hq => va_Nw.same rfl (u := U) rfl (h6 q hq), va_Nw.same rfl (u := U) rfl h7⟩
/-- a method's start: the world, the tables, what stays -/
def zPre (E : zE) (NS : List (Nat × Nat)) (A : Nat → Prop) (As : List Value) (M : zM) : Array Value → State → Prop := fun v U => v = As.toArray ∧ va_P E.1 vwCl (zw E NS M) U.heap ∧ va_K E.1 vwCl (zty E) U ∧ zEv E A U U.heap
theorem zPre.blind {E : zE} {NS : List (Nat × Nat)} {A : Nat → Prop} {As : List Value} {M : zM} : FrameBlind (zPre E NS A As M) := fun a U g mk q => ⟨q.1, q.2.1, va_K.moved (u := U) (U := U.calling g mk a) (Vm.Alike.refl U.vm) q.2.2.1, q.2.2.2.call g mk a⟩
/-- its end -/
def zQ (E : zE) (NS : List (Nat × Nat)) (A : Nat → Prop) {α : Type} (cv : α → Option Value) (ok : α → Prop) (r : α) (M' : zM) : Array Value → State → Outcome → State → Prop := fun _ st oc t => oc = .returned (cv r) ∧ ok r ∧ va_P E.1 vwCl (zw E NS M') t.heap ∧ va_F A st t
def zrm (d : Nat) : Room := { frames := d, cells := 0, slots := 0, locals := 64 * d }
/-- A METHOD'S CONTRACT: where the pure function answers, the method does so -/
def zCT (l : Launch) (y : MethodName) (cc : ByteArray) (nL : Nat) (ret : Option FieldType) (d : Nat) (E : zE) (NS : List (Nat × Nat)) (A : Nat → Prop) (As : List Value) (M : zM) {α : Type} (cv : α → Option Value) (ok : α → Prop) (o : Option (α × zM)) : Prop :=
  ∀ (r : α) (M' : zM), o = some (r, M') → Met l y (.code y cc nL ret :: zgw) (zrm d) (zPre E NS A As M) (zQ E NS A cv ok r M') 0 0 A
def zvI (r : Int32) : Option Value := some (.int r)
def zvL (r : Int64) : Option Value := some (.long r)
def zvU (_ : Unit) : Option Value := none
def zvR (E : zE) (k : Nat) (r : Nat) : Option Value := some (.ref (zad E k r))
def zoT {α : Type} (_ : α) : Prop := True
def zoB (r : Int32) : Prop := narrow .boolean (.int r) = .int r
def zoY (r : Int32) : Prop := narrow .byte (.int r) = .int r
def zoC (r : Int32) : Prop := narrow .char (.int r) = .int r
def zoR (NS : List (Nat × Nat)) (k : Nat) (r : Nat) : Prop := (k, r) ∈ NS
section zS
variable {p : Program} {l : Launch} {e : Env} {R : Room} {s : State} {m : MethodId} {args : Array Value} {below : List Frame} {meth : Method} {c : Code}
variable {cc : ByteArray} {own : String} {E : zE} {NS : List (Nat × Nat)} {A : Nat → Prop} {nL : Nat} {ret : Option FieldType} {α : Type} {cv : α → Option Value} {ok : α → Prop}
variable {pc : Nat} {ls : List (Nat × Value)} {st : List Value} {M : zM} {o : Option (α × zM)}
def zCx (p : Program) (R : Room) (s : State) (m : MethodId) (args : Array Value) (meth : Method) (c : Code) (cc : ByteArray) (own : String) (E : zE) (NS : List (Nat × Nat)) (A : Nat → Prop) (nL : Nat) (ret : Option FieldType) (d : Nat) : Prop :=
  p.tables.exec = Jvm.exec ∧ c.code = cc ∧ c.maxLocals = nL ∧ s.vm.findClass own = some m.cls ∧ (∀ w ∈ zgw, w.before args s = true) ∧ va_K E.1 vwCl (zty E) s ∧ zEv E A s s.heap ∧ meth.locks = false ∧ meth.sig.returnType = ret ∧ zD E NS A ∧ R.frames = d ∧ R.locals = 64 * d
def zG (p : Program) (l : Launch) (e : Env) (R : Room) (s : State) (m : MethodId) (args : Array Value) (below : List Frame) (meth : Method) (c : Code) (E : zE) (NS : List (Nat × Nat)) (A : Nat → Prop) (nL : Nat) {α : Type} (cv : α → Option Value) (ok : α → Prop) (pc : Nat) (ls : List (Nat × Value)) (st : List Value) (M : zM) (o : Option (α × zM)) : Prop :=
  ∀ (r : α) (M' : zM), o = some (r, M') → ∀ (H : Heap) (locs : List Loc) (la : Array Slot), va_P E.1 vwCl (zw E NS M) H → va_S A s.heap H locs → lv_has la nL ls → W p l e R s m args below meth c H locs 0 0 (MQ below (zQ E NS A cv ok r M') args s 0 0 A) (F0 m pc la st)

theorem zg_iconst {d : Nat} (C : zCx p R s m args meth c cc own E NS A nL ret d) {n : Int} (v : Int32) (q0 : Nat) (hq : pc + 1 = q0) (hd : decode cc pc = .ok (.iconst n, 1)) (hv : Int32.ofInt n = v) (k : zG p l e R s m args below meth c E NS A nL cv ok q0 ls (.int v :: st) M o) : zG p l e R s m args below meth c E NS A nL cv ok pc ls st M o := by
  subst hq
  exact fun r M2 ho H locs la hP hS hl => lv_iconst C.1 C.2.1 hd hv (k r M2 ho H locs la hP hS hl)
theorem zg_bipush {d : Nat} (C : zCx p R s m args meth c cc own E NS A nL ret d) {n : Int} (v : Int32) (q0 : Nat) (hq : pc + 2 = q0) (hd : decode cc pc = .ok (.bipush n, 2)) (hv : (Int8.ofInt n).toInt32 = v) (k : zG p l e R s m args below meth c E NS A nL cv ok q0 ls (.int v :: st) M o) : zG p l e R s m args below meth c E NS A nL cv ok pc ls st M o := by
  subst hq
  exact fun r M2 ho H locs la hP hS hl => lv_bipush C.1 C.2.1 hd hv (k r M2 ho H locs la hP hS hl)
theorem zg_sipush {d : Nat} (C : zCx p R s m args meth c cc own E NS A nL ret d) {n : Int} (v : Int32) (q0 : Nat) (hq : pc + 3 = q0) (hd : decode cc pc = .ok (.sipush n, 3)) (hv : (Int16.ofInt n).toInt32 = v) (k : zG p l e R s m args below meth c E NS A nL cv ok q0 ls (.int v :: st) M o) : zG p l e R s m args below meth c E NS A nL cv ok pc ls st M o := by
  subst hq
  exact fun r M2 ho H locs la hP hS hl => lv_sipush C.1 C.2.1 hd hv (k r M2 ho H locs la hP hS hl)
theorem zg_lconst {d : Nat} (C : zCx p R s m args meth c cc own E NS A nL ret d) {n : Fin 2} (v : Int64) (q0 : Nat) (hq : pc + 1 = q0) (hd : decode cc pc = .ok (.lconst n, 1)) (hv : Int64.ofNat (n : Nat) = v) (k : zG p l e R s m args below meth c E NS A nL cv ok q0 ls (.long v :: st) M o) : zG p l e R s m args below meth c E NS A nL cv ok pc ls st M o := by
  subst hq
  exact fun r M2 ho H locs la hP hS hl => lv_lconst C.1 C.2.1 hd hv (k r M2 ho H locs la hP hS hl)
theorem zg_ldc {d : Nat} (C : zCx p R s m args meth c cc own E NS A nL ret d) {ix : Nat} (v : Int32) (q0 : Nat) (hq : pc + 2 = q0) (hd : decode cc pc = .ok (.ldc ix, 2)) (hw : Jvm.Cond.constant own ix v ∈ zgw) (k : zG p l e R s m args below meth c E NS A nL cv ok q0 ls (.int v :: st) M o) : zG p l e R s m args below meth c E NS A nL cv ok pc ls st M o := by
  subst hq
  exact fun r M2 ho H locs la hP hS hl => lv_ldc C.1 C.2.1 C.2.2.2.1 (C.2.2.2.2.1 _ hw) hd (k r M2 ho H locs la hP hS hl)
theorem zg_ldc2 {d : Nat} (C : zCx p R s m args meth c cc own E NS A nL ret d) {ix : Nat} (v : Int64) (q0 : Nat) (hq : pc + 3 = q0) (hd : decode cc pc = .ok (.ldc2_w ix, 3)) (hw : Jvm.Cond.constantLong own ix v ∈ zgw) (k : zG p l e R s m args below meth c E NS A nL cv ok q0 ls (.long v :: st) M o) : zG p l e R s m args below meth c E NS A nL cv ok pc ls st M o := by
  subst hq
  exact fun r M2 ho H locs la hP hS hl => lv_ldc2 C.1 C.2.1 C.2.2.2.1 (C.2.2.2.2.1 _ hw) hd (k r M2 ho H locs la hP hS hl)
theorem zg_iload_n {d : Nat} (C : zCx p R s m args meth c cc own E NS A nL ret d) {n : Fin 4} {x : Int32} (j : Nat) (q0 : Nat) (hq : pc + 1 = q0) (hd : decode cc pc = .ok (.iload_n n, 1)) (hj : ls[j]? = some ((n : Nat), .int x)) (k : zG p l e R s m args below meth c E NS A nL cv ok q0 ls (.int x :: st) M o) : zG p l e R s m args below meth c E NS A nL cv ok pc ls st M o := by
  subst hq
  exact fun r M2 ho H locs la hP hS hl => lv_iload_n C.1 C.2.1 hd rfl (lv_at hl j hj) (k r M2 ho H locs la hP hS hl)
theorem zg_iload {d : Nat} (C : zCx p R s m args meth c cc own E NS A nL ret d) {n : Nat} {x : Int32} (j : Nat) (q0 : Nat) (hq : pc + 2 = q0) (hd : decode cc pc = .ok (.iload n, 2)) (hj : ls[j]? = some (n, .int x)) (k : zG p l e R s m args below meth c E NS A nL cv ok q0 ls (.int x :: st) M o) : zG p l e R s m args below meth c E NS A nL cv ok pc ls st M o := by
  subst hq
  exact fun r M2 ho H locs la hP hS hl => lv_iload C.1 C.2.1 hd (lv_at hl j hj) (k r M2 ho H locs la hP hS hl)
theorem zg_istore_n {d : Nat} (C : zCx p R s m args meth c cc own E NS A nL ret d) {f : Fin 4} {x : Int32} (n : Nat) (ls2 : List (Nat × Value)) (q0 : Nat) (hq : pc + 1 = q0) (hd : decode cc pc = .ok (.istore_n f, 1)) (hn : (f : Nat) = n) (hi : n < nL) (he : (n, Value.int x) :: ls.filter (fun q => !(q.1 == n) && !(q.1 + 1 == n && q.2.category == 2)) = ls2) (k : zG p l e R s m args below meth c E NS A nL cv ok q0 ls2 st M o) : zG p l e R s m args below meth c E NS A nL cv ok pc ls (.int x :: st) M o := by
  subst hq
  exact fun r M2 ho H locs la hP hS hl => lv_istore_n C.1 C.2.1 hd hn hl hi he (fun la2 hl2 => k r M2 ho H locs la2 hP hS hl2)
theorem zg_istore {d : Nat} (C : zCx p R s m args meth c cc own E NS A nL ret d) {x : Int32} (n : Nat) (ls2 : List (Nat × Value)) (q0 : Nat) (hq : pc + 2 = q0) (hd : decode cc pc = .ok (.istore n, 2)) (hi : n < nL) (he : (n, Value.int x) :: ls.filter (fun q => !(q.1 == n) && !(q.1 + 1 == n && q.2.category == 2)) = ls2) (k : zG p l e R s m args below meth c E NS A nL cv ok q0 ls2 st M o) : zG p l e R s m args below meth c E NS A nL cv ok pc ls (.int x :: st) M o := by
  subst hq
  exact fun r M2 ho H locs la hP hS hl => lv_istore C.1 C.2.1 hd hl hi he (fun la2 hl2 => k r M2 ho H locs la2 hP hS hl2)
theorem zg_lload_n {d : Nat} (C : zCx p R s m args meth c cc own E NS A nL ret d) {n : Fin 4} {x : Int64} (j : Nat) (q0 : Nat) (hq : pc + 1 = q0) (hd : decode cc pc = .ok (.lload_n n, 1)) (hj : ls[j]? = some ((n : Nat), .long x)) (k : zG p l e R s m args below meth c E NS A nL cv ok q0 ls (.long x :: st) M o) : zG p l e R s m args below meth c E NS A nL cv ok pc ls st M o := by
  subst hq
  exact fun r M2 ho H locs la hP hS hl => lv_lload_n C.1 C.2.1 hd rfl (lv_at hl j hj) (k r M2 ho H locs la hP hS hl)
theorem zg_lload {d : Nat} (C : zCx p R s m args meth c cc own E NS A nL ret d) {n : Nat} {x : Int64} (j : Nat) (q0 : Nat) (hq : pc + 2 = q0) (hd : decode cc pc = .ok (.lload n, 2)) (hj : ls[j]? = some (n, .long x)) (k : zG p l e R s m args below meth c E NS A nL cv ok q0 ls (.long x :: st) M o) : zG p l e R s m args below meth c E NS A nL cv ok pc ls st M o := by
  subst hq
  exact fun r M2 ho H locs la hP hS hl => lv_lload C.1 C.2.1 hd (lv_at hl j hj) (k r M2 ho H locs la hP hS hl)
theorem zg_lstore_n {d : Nat} (C : zCx p R s m args meth c cc own E NS A nL ret d) {f : Fin 4} {x : Int64} (n : Nat) (ls2 : List (Nat × Value)) (q0 : Nat) (hq : pc + 1 = q0) (hd : decode cc pc = .ok (.lstore_n f, 1)) (hn : (f : Nat) = n) (hi : n + 1 < nL) (he : (n, Value.long x) :: ls.filter (fun q => !(q.1 == n) && (!(q.1 == n + 1) && !(q.1 + 1 == n && q.2.category == 2))) = ls2) (k : zG p l e R s m args below meth c E NS A nL cv ok q0 ls2 st M o) : zG p l e R s m args below meth c E NS A nL cv ok pc ls (.long x :: st) M o := by
  subst hq
  exact fun r M2 ho H locs la hP hS hl => lv_lstore_n C.1 C.2.1 hd hn hl hi he (fun la2 hl2 => k r M2 ho H locs la2 hP hS hl2)
theorem zg_lstore {d : Nat} (C : zCx p R s m args meth c cc own E NS A nL ret d) {x : Int64} (n : Nat) (ls2 : List (Nat × Value)) (q0 : Nat) (hq : pc + 2 = q0) (hd : decode cc pc = .ok (.lstore n, 2)) (hi : n + 1 < nL) (he : (n, Value.long x) :: ls.filter (fun q => !(q.1 == n) && (!(q.1 == n + 1) && !(q.1 + 1 == n && q.2.category == 2))) = ls2) (k : zG p l e R s m args below meth c E NS A nL cv ok q0 ls2 st M o) : zG p l e R s m args below meth c E NS A nL cv ok pc ls (.long x :: st) M o := by
  subst hq
  exact fun r M2 ho H locs la hP hS hl => lv_lstore C.1 C.2.1 hd hl hi he (fun la2 hl2 => k r M2 ho H locs la2 hP hS hl2)
theorem zg_aload_n {d : Nat} (C : zCx p R s m args meth c cc own E NS A nL ret d) {n : Fin 4} {x : Nat} (j : Nat) (q0 : Nat) (hq : pc + 1 = q0) (hd : decode cc pc = .ok (.aload_n n, 1)) (hj : ls[j]? = some ((n : Nat), .ref x)) (k : zG p l e R s m args below meth c E NS A nL cv ok q0 ls (.ref x :: st) M o) : zG p l e R s m args below meth c E NS A nL cv ok pc ls st M o := by
  subst hq
  exact fun r M2 ho H locs la hP hS hl => lv_aload_n C.1 C.2.1 hd rfl (lv_at hl j hj) (k r M2 ho H locs la hP hS hl)
theorem zg_aload {d : Nat} (C : zCx p R s m args meth c cc own E NS A nL ret d) {n : Nat} {x : Nat} (j : Nat) (q0 : Nat) (hq : pc + 2 = q0) (hd : decode cc pc = .ok (.aload n, 2)) (hj : ls[j]? = some (n, .ref x)) (k : zG p l e R s m args below meth c E NS A nL cv ok q0 ls (.ref x :: st) M o) : zG p l e R s m args below meth c E NS A nL cv ok pc ls st M o := by
  subst hq
  exact fun r M2 ho H locs la hP hS hl => lv_aload C.1 C.2.1 hd (lv_at hl j hj) (k r M2 ho H locs la hP hS hl)
theorem zg_astore_n {d : Nat} (C : zCx p R s m args meth c cc own E NS A nL ret d) {f : Fin 4} {x : Nat} (n : Nat) (ls2 : List (Nat × Value)) (q0 : Nat) (hq : pc + 1 = q0) (hd : decode cc pc = .ok (.astore_n f, 1)) (hn : (f : Nat) = n) (hi : n < nL) (he : (n, Value.ref x) :: ls.filter (fun q => !(q.1 == n) && !(q.1 + 1 == n && q.2.category == 2)) = ls2) (k : zG p l e R s m args below meth c E NS A nL cv ok q0 ls2 st M o) : zG p l e R s m args below meth c E NS A nL cv ok pc ls (.ref x :: st) M o := by
  subst hq
  exact fun r M2 ho H locs la hP hS hl => lv_astore_n C.1 C.2.1 hd hn hl hi he (fun la2 hl2 => k r M2 ho H locs la2 hP hS hl2)
theorem zg_astore {d : Nat} (C : zCx p R s m args meth c cc own E NS A nL ret d) {x : Nat} (n : Nat) (ls2 : List (Nat × Value)) (q0 : Nat) (hq : pc + 2 = q0) (hd : decode cc pc = .ok (.astore n, 2)) (hi : n < nL) (he : (n, Value.ref x) :: ls.filter (fun q => !(q.1 == n) && !(q.1 + 1 == n && q.2.category == 2)) = ls2) (k : zG p l e R s m args below meth c E NS A nL cv ok q0 ls2 st M o) : zG p l e R s m args below meth c E NS A nL cv ok pc ls (.ref x :: st) M o := by
  subst hq
  exact fun r M2 ho H locs la hP hS hl => lv_astore C.1 C.2.1 hd hl hi he (fun la2 hl2 => k r M2 ho H locs la2 hP hS hl2)
theorem zg_iinc {d : Nat} (C : zCx p R s m args meth c cc own E NS A nL ret d) {n : Nat} {q : Int} {x : Int32} (j : Nat) (v : Int32) (ls2 : List (Nat × Value)) (q0 : Nat) (hq : pc + 3 = q0) (hd : decode cc pc = .ok (.iinc n q, 3)) (hj : ls[j]? = some (n, .int x)) (hv : x + Int32.ofInt q = v) (hi : n < nL) (he : (n, Value.int v) :: ls.filter (fun q => !(q.1 == n) && !(q.1 + 1 == n && q.2.category == 2)) = ls2) (k : zG p l e R s m args below meth c E NS A nL cv ok q0 ls2 st M o) : zG p l e R s m args below meth c E NS A nL cv ok pc ls st M o := by
  subst hq
  exact fun r M2 ho H locs la hP hS hl => lv_iinc C.1 C.2.1 hd hl hj hv hi he (fun la2 hl2 => k r M2 ho H locs la2 hP hS hl2)
theorem zg_iadd {d : Nat} (C : zCx p R s m args meth c cc own E NS A nL ret d) {x y : Int32} (q0 : Nat) (hq : pc + 1 = q0) (hd : decode cc pc = .ok (.iadd, 1)) (k : zG p l e R s m args below meth c E NS A nL cv ok q0 ls (.int (x + y) :: st) M o) : zG p l e R s m args below meth c E NS A nL cv ok pc ls (.int y :: .int x :: st) M o := by
  subst hq
  exact fun r M2 ho H locs la hP hS hl => lv_iadd C.1 C.2.1 hd  (k r M2 ho H locs la hP hS hl)
theorem zg_isub {d : Nat} (C : zCx p R s m args meth c cc own E NS A nL ret d) {x y : Int32} (q0 : Nat) (hq : pc + 1 = q0) (hd : decode cc pc = .ok (.isub, 1)) (k : zG p l e R s m args below meth c E NS A nL cv ok q0 ls (.int (x - y) :: st) M o) : zG p l e R s m args below meth c E NS A nL cv ok pc ls (.int y :: .int x :: st) M o := by
  subst hq
  exact fun r M2 ho H locs la hP hS hl => lv_isub C.1 C.2.1 hd  (k r M2 ho H locs la hP hS hl)
theorem zg_imul {d : Nat} (C : zCx p R s m args meth c cc own E NS A nL ret d) {x y : Int32} (q0 : Nat) (hq : pc + 1 = q0) (hd : decode cc pc = .ok (.imul, 1)) (k : zG p l e R s m args below meth c E NS A nL cv ok q0 ls (.int (x * y) :: st) M o) : zG p l e R s m args below meth c E NS A nL cv ok pc ls (.int y :: .int x :: st) M o := by
  subst hq
  exact fun r M2 ho H locs la hP hS hl => lv_imul C.1 C.2.1 hd  (k r M2 ho H locs la hP hS hl)
theorem zg_iand {d : Nat} (C : zCx p R s m args meth c cc own E NS A nL ret d) {x y : Int32} (q0 : Nat) (hq : pc + 1 = q0) (hd : decode cc pc = .ok (.iand, 1)) (k : zG p l e R s m args below meth c E NS A nL cv ok q0 ls (.int (x &&& y) :: st) M o) : zG p l e R s m args below meth c E NS A nL cv ok pc ls (.int y :: .int x :: st) M o := by
  subst hq
  exact fun r M2 ho H locs la hP hS hl => lv_iand C.1 C.2.1 hd  (k r M2 ho H locs la hP hS hl)
theorem zg_ior {d : Nat} (C : zCx p R s m args meth c cc own E NS A nL ret d) {x y : Int32} (q0 : Nat) (hq : pc + 1 = q0) (hd : decode cc pc = .ok (.ior, 1)) (k : zG p l e R s m args below meth c E NS A nL cv ok q0 ls (.int (x ||| y) :: st) M o) : zG p l e R s m args below meth c E NS A nL cv ok pc ls (.int y :: .int x :: st) M o := by
  subst hq
  exact fun r M2 ho H locs la hP hS hl => lv_ior C.1 C.2.1 hd  (k r M2 ho H locs la hP hS hl)
theorem zg_ixor {d : Nat} (C : zCx p R s m args meth c cc own E NS A nL ret d) {x y : Int32} (q0 : Nat) (hq : pc + 1 = q0) (hd : decode cc pc = .ok (.ixor, 1)) (k : zG p l e R s m args below meth c E NS A nL cv ok q0 ls (.int (x ^^^ y) :: st) M o) : zG p l e R s m args below meth c E NS A nL cv ok pc ls (.int y :: .int x :: st) M o := by
  subst hq
  exact fun r M2 ho H locs la hP hS hl => lv_ixor C.1 C.2.1 hd  (k r M2 ho H locs la hP hS hl)
theorem zg_ishl {d : Nat} (C : zCx p R s m args meth c cc own E NS A nL ret d) {x y : Int32} (q0 : Nat) (hq : pc + 1 = q0) (hd : decode cc pc = .ok (.ishl, 1)) (k : zG p l e R s m args below meth c E NS A nL cv ok q0 ls (.int (x <<< (y &&& 31)) :: st) M o) : zG p l e R s m args below meth c E NS A nL cv ok pc ls (.int y :: .int x :: st) M o := by
  subst hq
  exact fun r M2 ho H locs la hP hS hl => lv_ishl C.1 C.2.1 hd  (k r M2 ho H locs la hP hS hl)
theorem zg_ishr {d : Nat} (C : zCx p R s m args meth c cc own E NS A nL ret d) {x y : Int32} (q0 : Nat) (hq : pc + 1 = q0) (hd : decode cc pc = .ok (.ishr, 1)) (k : zG p l e R s m args below meth c E NS A nL cv ok q0 ls (.int (x >>> (y &&& 31)) :: st) M o) : zG p l e R s m args below meth c E NS A nL cv ok pc ls (.int y :: .int x :: st) M o := by
  subst hq
  exact fun r M2 ho H locs la hP hS hl => lv_ishr C.1 C.2.1 hd  (k r M2 ho H locs la hP hS hl)
theorem zg_ineg {d : Nat} (C : zCx p R s m args meth c cc own E NS A nL ret d) {x : Int32} (q0 : Nat) (hq : pc + 1 = q0) (hd : decode cc pc = .ok (.ineg, 1)) (k : zG p l e R s m args below meth c E NS A nL cv ok q0 ls (.int (-x) :: st) M o) : zG p l e R s m args below meth c E NS A nL cv ok pc ls (.int x :: st) M o := by
  subst hq
  exact fun r M2 ho H locs la hP hS hl => lv_ineg C.1 C.2.1 hd  (k r M2 ho H locs la hP hS hl)
theorem zg_ladd {d : Nat} (C : zCx p R s m args meth c cc own E NS A nL ret d) {x y : Int64} (q0 : Nat) (hq : pc + 1 = q0) (hd : decode cc pc = .ok (.ladd, 1)) (k : zG p l e R s m args below meth c E NS A nL cv ok q0 ls (.long (x + y) :: st) M o) : zG p l e R s m args below meth c E NS A nL cv ok pc ls (.long y :: .long x :: st) M o := by
  subst hq
  exact fun r M2 ho H locs la hP hS hl => lv_ladd C.1 C.2.1 hd  (k r M2 ho H locs la hP hS hl)
theorem zg_lsub {d : Nat} (C : zCx p R s m args meth c cc own E NS A nL ret d) {x y : Int64} (q0 : Nat) (hq : pc + 1 = q0) (hd : decode cc pc = .ok (.lsub, 1)) (k : zG p l e R s m args below meth c E NS A nL cv ok q0 ls (.long (x - y) :: st) M o) : zG p l e R s m args below meth c E NS A nL cv ok pc ls (.long y :: .long x :: st) M o := by
  subst hq
  exact fun r M2 ho H locs la hP hS hl => lv_lsub C.1 C.2.1 hd  (k r M2 ho H locs la hP hS hl)
theorem zg_land {d : Nat} (C : zCx p R s m args meth c cc own E NS A nL ret d) {x y : Int64} (q0 : Nat) (hq : pc + 1 = q0) (hd : decode cc pc = .ok (.land, 1)) (k : zG p l e R s m args below meth c E NS A nL cv ok q0 ls (.long (x &&& y) :: st) M o) : zG p l e R s m args below meth c E NS A nL cv ok pc ls (.long y :: .long x :: st) M o := by
  subst hq
  exact fun r M2 ho H locs la hP hS hl => lv_land C.1 C.2.1 hd  (k r M2 ho H locs la hP hS hl)
theorem zg_lor {d : Nat} (C : zCx p R s m args meth c cc own E NS A nL ret d) {x y : Int64} (q0 : Nat) (hq : pc + 1 = q0) (hd : decode cc pc = .ok (.lor, 1)) (k : zG p l e R s m args below meth c E NS A nL cv ok q0 ls (.long (x ||| y) :: st) M o) : zG p l e R s m args below meth c E NS A nL cv ok pc ls (.long y :: .long x :: st) M o := by
  subst hq
  exact fun r M2 ho H locs la hP hS hl => lv_lor C.1 C.2.1 hd  (k r M2 ho H locs la hP hS hl)
theorem zg_lcmp {d : Nat} (C : zCx p R s m args meth c cc own E NS A nL ret d) {x y : Int64} (q0 : Nat) (hq : pc + 1 = q0) (hd : decode cc pc = .ok (.lcmp, 1)) (k : zG p l e R s m args below meth c E NS A nL cv ok q0 ls (.int (lg_cmp x y) :: st) M o) : zG p l e R s m args below meth c E NS A nL cv ok pc ls (.long y :: .long x :: st) M o := by
  subst hq
  exact fun r M2 ho H locs la hP hS hl => W.lcmp C.1 C.2.1 hd  (k r M2 ho H locs la hP hS hl)
theorem zg_i2l {d : Nat} (C : zCx p R s m args meth c cc own E NS A nL ret d) {x : Int32} (q0 : Nat) (hq : pc + 1 = q0) (hd : decode cc pc = .ok (.i2l, 1)) (k : zG p l e R s m args below meth c E NS A nL cv ok q0 ls (.long x.toInt64 :: st) M o) : zG p l e R s m args below meth c E NS A nL cv ok pc ls (.int x :: st) M o := by
  subst hq
  exact fun r M2 ho H locs la hP hS hl => lv_i2l C.1 C.2.1 hd rfl (k r M2 ho H locs la hP hS hl)
theorem zg_l2i {d : Nat} (C : zCx p R s m args meth c cc own E NS A nL ret d) {x : Int64} (q0 : Nat) (hq : pc + 1 = q0) (hd : decode cc pc = .ok (.l2i, 1)) (k : zG p l e R s m args below meth c E NS A nL cv ok q0 ls (.int x.toInt32 :: st) M o) : zG p l e R s m args below meth c E NS A nL cv ok pc ls (.long x :: st) M o := by
  subst hq
  exact fun r M2 ho H locs la hP hS hl => lv_l2i C.1 C.2.1 hd rfl (k r M2 ho H locs la hP hS hl)
theorem zg_i2b {d : Nat} (C : zCx p R s m args meth c cc own E NS A nL ret d) {x : Int32} (q0 : Nat) (hq : pc + 1 = q0) (hd : decode cc pc = .ok (.i2b, 1)) (k : zG p l e R s m args below meth c E NS A nL cv ok q0 ls (.int x.toInt8.toInt32 :: st) M o) : zG p l e R s m args below meth c E NS A nL cv ok pc ls (.int x :: st) M o := by
  subst hq
  exact fun r M2 ho H locs la hP hS hl => lv_i2b C.1 C.2.1 hd rfl (k r M2 ho H locs la hP hS hl)
theorem zg_i2s {d : Nat} (C : zCx p R s m args meth c cc own E NS A nL ret d) {x : Int32} (q0 : Nat) (hq : pc + 1 = q0) (hd : decode cc pc = .ok (.i2s, 1)) (k : zG p l e R s m args below meth c E NS A nL cv ok q0 ls (.int x.toInt16.toInt32 :: st) M o) : zG p l e R s m args below meth c E NS A nL cv ok pc ls (.int x :: st) M o := by
  subst hq
  exact fun r M2 ho H locs la hP hS hl => lv_i2s C.1 C.2.1 hd rfl (k r M2 ho H locs la hP hS hl)
theorem zg_i2c {d : Nat} (C : zCx p R s m args meth c cc own E NS A nL ret d) {x : Int32} (q0 : Nat) (hq : pc + 1 = q0) (hd : decode cc pc = .ok (.i2c, 1)) (k : zG p l e R s m args below meth c E NS A nL cv ok q0 ls (.int (x.toUInt32 % 65536).toInt32 :: st) M o) : zG p l e R s m args below meth c E NS A nL cv ok pc ls (.int x :: st) M o := by
  subst hq
  exact fun r M2 ho H locs la hP hS hl => lv_i2c C.1 C.2.1 hd rfl (k r M2 ho H locs la hP hS hl)
theorem zg_iushr {d : Nat} (C : zCx p R s m args meth c cc own E NS A nL ret d) {x y : Int32} (q0 : Nat) (hq : pc + 1 = q0) (hd : decode cc pc = .ok (.iushr, 1)) (k : zG p l e R s m args below meth c E NS A nL cv ok q0 ls (.int (zushr x y) :: st) M o) : zG p l e R s m args below meth c E NS A nL cv ok pc ls (.int y :: .int x :: st) M o := by
  subst hq
  exact fun r M2 ho H locs la hP hS hl => lv_iushr C.1 C.2.1 hd rfl (k r M2 ho H locs la hP hS hl)
theorem zg_lshl {d : Nat} (C : zCx p R s m args meth c cc own E NS A nL ret d) {x : Int64} {y : Int32} (q0 : Nat) (hq : pc + 1 = q0) (hd : decode cc pc = .ok (.lshl, 1)) (k : zG p l e R s m args below meth c E NS A nL cv ok q0 ls (.long (x <<< (y.toInt64 &&& 63)) :: st) M o) : zG p l e R s m args below meth c E NS A nL cv ok pc ls (.int y :: .long x :: st) M o := by
  subst hq
  exact fun r M2 ho H locs la hP hS hl => lv_lshl C.1 C.2.1 hd rfl (k r M2 ho H locs la hP hS hl)
theorem zg_idiv {d : Nat} (C : zCx p R s m args meth c cc own E NS A nL ret d) {x y : Int32} (q0 : Nat) (hq : pc + 1 = q0) (hd : decode cc pc = .ok (.idiv, 1)) (k : zG p l e R s m args below meth c E NS A nL cv ok q0 ls (.int (x / y) :: st) M o) : zG p l e R s m args below meth c E NS A nL cv ok pc ls (.int y :: .int x :: st) M (zchk (znz y) o) := by
  subst hq
  exact fun r M2 ho H locs la hP hS hl => lv_idiv C.1 C.2.1 hd (of_decide_eq_true (zchk_some ho).1) (k r M2 (zchk_some ho).2 H locs la hP hS hl)
theorem zg_idivK {d : Nat} (C : zCx p R s m args meth c cc own E NS A nL ret d) {x y : Int32} (q0 : Nat) (hq : pc + 1 = q0) (hd : decode cc pc = .ok (.idiv, 1)) (hy : ¬ y = 0) (k : zG p l e R s m args below meth c E NS A nL cv ok q0 ls (.int (x / y) :: st) M o) : zG p l e R s m args below meth c E NS A nL cv ok pc ls (.int y :: .int x :: st) M o := by
  subst hq
  exact fun r M2 ho H locs la hP hS hl => lv_idiv C.1 C.2.1 hd hy (k r M2 ho H locs la hP hS hl)
theorem zg_irem {d : Nat} (C : zCx p R s m args meth c cc own E NS A nL ret d) {x y : Int32} (q0 : Nat) (hq : pc + 1 = q0) (hd : decode cc pc = .ok (.irem, 1)) (k : zG p l e R s m args below meth c E NS A nL cv ok q0 ls (.int (zrem x y) :: st) M o) : zG p l e R s m args below meth c E NS A nL cv ok pc ls (.int y :: .int x :: st) M (zchk (znz y) o) := by
  subst hq
  exact fun r M2 ho H locs la hP hS hl => lv_irem C.1 C.2.1 hd (of_decide_eq_true (zchk_some ho).1) (k r M2 (zchk_some ho).2 H locs la hP hS hl)
theorem zg_iremK {d : Nat} (C : zCx p R s m args meth c cc own E NS A nL ret d) {x y : Int32} (q0 : Nat) (hq : pc + 1 = q0) (hd : decode cc pc = .ok (.irem, 1)) (hy : ¬ y = 0) (k : zG p l e R s m args below meth c E NS A nL cv ok q0 ls (.int (zrem x y) :: st) M o) : zG p l e R s m args below meth c E NS A nL cv ok pc ls (.int y :: .int x :: st) M o := by
  subst hq
  exact fun r M2 ho H locs la hP hS hl => lv_irem C.1 C.2.1 hd hy (k r M2 ho H locs la hP hS hl)
theorem zg_dup {d : Nat} (C : zCx p R s m args meth c cc own E NS A nL ret d) {v : Value} (hv : v.category = 1) (q0 : Nat) (hq : pc + 1 = q0) (hd : decode cc pc = .ok (.dup, 1)) (k : zG p l e R s m args below meth c E NS A nL cv ok q0 ls (v :: v :: st) M o) : zG p l e R s m args below meth c E NS A nL cv ok pc ls (v :: st) M o := by
  subst hq
  exact fun r M2 ho H locs la hP hS hl => lv_dup C.1 C.2.1 hd hv (k r M2 ho H locs la hP hS hl)
theorem zg_pop {d : Nat} (C : zCx p R s m args meth c cc own E NS A nL ret d) {v : Value} (hv : v.category = 1) (q0 : Nat) (hq : pc + 1 = q0) (hd : decode cc pc = .ok (.pop, 1)) (k : zG p l e R s m args below meth c E NS A nL cv ok q0 ls st M o) : zG p l e R s m args below meth c E NS A nL cv ok pc ls (v :: st) M o := by
  subst hq
  exact fun r M2 ho H locs la hP hS hl => lv_pop C.1 C.2.1 hd hv (k r M2 ho H locs la hP hS hl)
theorem zg_dup_x1 {d : Nat} (C : zCx p R s m args meth c cc own E NS A nL ret d) {v w : Value} (hv : v.category = 1) (hw : w.category = 1) (q0 : Nat) (hq : pc + 1 = q0) (hd : decode cc pc = .ok (.dup_x1, 1)) (k : zG p l e R s m args below meth c E NS A nL cv ok q0 ls (v :: w :: v :: st) M o) : zG p l e R s m args below meth c E NS A nL cv ok pc ls (v :: w :: st) M o := by
  subst hq
  exact fun r M2 ho H locs la hP hS hl => lv_dup_x1 C.1 C.2.1 hd hv hw (k r M2 ho H locs la hP hS hl)
theorem zg_dup_x2 {d : Nat} (C : zCx p R s m args meth c cc own E NS A nL ret d) {v w z : Value} (hv : v.category = 1) (hw : w.category = 1) (hz : z.category = 1) (q0 : Nat) (hq : pc + 1 = q0) (hd : decode cc pc = .ok (.dup_x2, 1)) (k : zG p l e R s m args below meth c E NS A nL cv ok q0 ls (v :: w :: z :: v :: st) M o) : zG p l e R s m args below meth c E NS A nL cv ok pc ls (v :: w :: z :: st) M o := by
  subst hq
  exact fun r M2 ho H locs la hP hS hl => lv_dup_x2 C.1 C.2.1 hd hv hw hz (k r M2 ho H locs la hP hS hl)
theorem zg_dup2 {d : Nat} (C : zCx p R s m args meth c cc own E NS A nL ret d) {v w : Value} (hv : v.category = 1) (hw : w.category = 1) (q0 : Nat) (hq : pc + 1 = q0) (hd : decode cc pc = .ok (.dup2, 1)) (k : zG p l e R s m args below meth c E NS A nL cv ok q0 ls (v :: w :: v :: w :: st) M o) : zG p l e R s m args below meth c E NS A nL cv ok pc ls (v :: w :: st) M o := by
  subst hq
  exact fun r M2 ho H locs la hP hS hl => lv_dup2_11 C.1 C.2.1 hd hv hw (k r M2 ho H locs la hP hS hl)
theorem zg_goto {d : Nat} (C : zCx p R s m args meth c cc own E NS A nL ret d) {off : Int} (tgt : Nat) (hd : decode cc pc = .ok (.goto off, 3)) (ht : (pc : Int) + off = (tgt : Int)) (k : zG p l e R s m args below meth c E NS A nL cv ok tgt ls st M o) : zG p l e R s m args below meth c E NS A nL cv ok pc ls st M o := fun r M2 ho H locs la hP hS hl => lv_goto C.1 C.2.1 hd ht (k r M2 ho H locs la hP hS hl)
theorem zg_if_eq {d : Nat} (C : zCx p R s m args meth c cc own E NS A nL ret d) {x : Int32} {off : Int} {o1 o2 : Option (α × zM)} {inst : Decidable (x = 0)} (tgt : Nat) (q0 : Nat) (hq : pc + 3 = q0) (hd : decode cc pc = .ok (.ifCond .eq off, 3)) (ht : (pc : Int) + off = (tgt : Int)) (k1 : zG p l e R s m args below meth c E NS A nL cv ok tgt ls st M o1) (k2 : zG p l e R s m args below meth c E NS A nL cv ok q0 ls st M o2) : zG p l e R s m args below meth c E NS A nL cv ok pc ls (.int x :: st) M (@ite _ (x = 0) inst o1 o2) := by
  subst hq
  intro r M2 ho H locs la hP hS hl
  exact lv_if_eq C.1 C.2.1 hd ht (fun h => k1 r M2 (by rw [if_pos h] at ho; exact ho) H locs la hP hS hl) (fun h => k2 r M2 (by rw [if_neg h] at ho; exact ho) H locs la hP hS hl)
theorem zg_icmp_eq {d : Nat} (C : zCx p R s m args meth c cc own E NS A nL ret d) {x y : Int32} {off : Int} {o1 o2 : Option (α × zM)} {inst : Decidable (x = y)} (tgt : Nat) (q0 : Nat) (hq : pc + 3 = q0) (hd : decode cc pc = .ok (.if_icmp .eq off, 3)) (ht : (pc : Int) + off = (tgt : Int)) (k1 : zG p l e R s m args below meth c E NS A nL cv ok tgt ls st M o1) (k2 : zG p l e R s m args below meth c E NS A nL cv ok q0 ls st M o2) : zG p l e R s m args below meth c E NS A nL cv ok pc ls (.int y :: .int x :: st) M (@ite _ (x = y) inst o1 o2) := by
  subst hq
  intro r M2 ho H locs la hP hS hl
  exact lv_icmp_eq C.1 C.2.1 hd ht (fun h => k1 r M2 (by rw [if_pos h] at ho; exact ho) H locs la hP hS hl) (fun h => k2 r M2 (by rw [if_neg h] at ho; exact ho) H locs la hP hS hl)
theorem zg_if_ne {d : Nat} (C : zCx p R s m args meth c cc own E NS A nL ret d) {x : Int32} {off : Int} {o1 o2 : Option (α × zM)} {inst : Decidable (x = 0)} (tgt : Nat) (q0 : Nat) (hq : pc + 3 = q0) (hd : decode cc pc = .ok (.ifCond .ne off, 3)) (ht : (pc : Int) + off = (tgt : Int)) (k1 : zG p l e R s m args below meth c E NS A nL cv ok q0 ls st M o1) (k2 : zG p l e R s m args below meth c E NS A nL cv ok tgt ls st M o2) : zG p l e R s m args below meth c E NS A nL cv ok pc ls (.int x :: st) M (@ite _ (x = 0) inst o1 o2) := by
  subst hq
  intro r M2 ho H locs la hP hS hl
  exact lv_if_ne C.1 C.2.1 hd ht (fun h => k2 r M2 (by rw [if_neg h] at ho; exact ho) H locs la hP hS hl) (fun h => k1 r M2 (by rw [if_pos h] at ho; exact ho) H locs la hP hS hl)
theorem zg_icmp_ne {d : Nat} (C : zCx p R s m args meth c cc own E NS A nL ret d) {x y : Int32} {off : Int} {o1 o2 : Option (α × zM)} {inst : Decidable (x = y)} (tgt : Nat) (q0 : Nat) (hq : pc + 3 = q0) (hd : decode cc pc = .ok (.if_icmp .ne off, 3)) (ht : (pc : Int) + off = (tgt : Int)) (k1 : zG p l e R s m args below meth c E NS A nL cv ok q0 ls st M o1) (k2 : zG p l e R s m args below meth c E NS A nL cv ok tgt ls st M o2) : zG p l e R s m args below meth c E NS A nL cv ok pc ls (.int y :: .int x :: st) M (@ite _ (x = y) inst o1 o2) := by
  subst hq
  intro r M2 ho H locs la hP hS hl
  exact lv_icmp_ne C.1 C.2.1 hd ht (fun h => k2 r M2 (by rw [if_neg h] at ho; exact ho) H locs la hP hS hl) (fun h => k1 r M2 (by rw [if_pos h] at ho; exact ho) H locs la hP hS hl)
theorem zg_if_lt {d : Nat} (C : zCx p R s m args meth c cc own E NS A nL ret d) {x : Int32} {off : Int} {o1 o2 : Option (α × zM)} {inst : Decidable (x < 0)} (tgt : Nat) (q0 : Nat) (hq : pc + 3 = q0) (hd : decode cc pc = .ok (.ifCond .lt off, 3)) (ht : (pc : Int) + off = (tgt : Int)) (k1 : zG p l e R s m args below meth c E NS A nL cv ok tgt ls st M o1) (k2 : zG p l e R s m args below meth c E NS A nL cv ok q0 ls st M o2) : zG p l e R s m args below meth c E NS A nL cv ok pc ls (.int x :: st) M (@ite _ (x < 0) inst o1 o2) := by
  subst hq
  intro r M2 ho H locs la hP hS hl
  exact lv_if_lt C.1 C.2.1 hd ht (fun h => k1 r M2 (by rw [if_pos h] at ho; exact ho) H locs la hP hS hl) (fun h => k2 r M2 (by rw [if_neg h] at ho; exact ho) H locs la hP hS hl)
theorem zg_icmp_lt {d : Nat} (C : zCx p R s m args meth c cc own E NS A nL ret d) {x y : Int32} {off : Int} {o1 o2 : Option (α × zM)} {inst : Decidable (x < y)} (tgt : Nat) (q0 : Nat) (hq : pc + 3 = q0) (hd : decode cc pc = .ok (.if_icmp .lt off, 3)) (ht : (pc : Int) + off = (tgt : Int)) (k1 : zG p l e R s m args below meth c E NS A nL cv ok tgt ls st M o1) (k2 : zG p l e R s m args below meth c E NS A nL cv ok q0 ls st M o2) : zG p l e R s m args below meth c E NS A nL cv ok pc ls (.int y :: .int x :: st) M (@ite _ (x < y) inst o1 o2) := by
  subst hq
  intro r M2 ho H locs la hP hS hl
  exact lv_icmp_lt C.1 C.2.1 hd ht (fun h => k1 r M2 (by rw [if_pos h] at ho; exact ho) H locs la hP hS hl) (fun h => k2 r M2 (by rw [if_neg h] at ho; exact ho) H locs la hP hS hl)
theorem zg_if_ge {d : Nat} (C : zCx p R s m args meth c cc own E NS A nL ret d) {x : Int32} {off : Int} {o1 o2 : Option (α × zM)} {inst : Decidable (0 ≤ x)} (tgt : Nat) (q0 : Nat) (hq : pc + 3 = q0) (hd : decode cc pc = .ok (.ifCond .ge off, 3)) (ht : (pc : Int) + off = (tgt : Int)) (k1 : zG p l e R s m args below meth c E NS A nL cv ok tgt ls st M o1) (k2 : zG p l e R s m args below meth c E NS A nL cv ok q0 ls st M o2) : zG p l e R s m args below meth c E NS A nL cv ok pc ls (.int x :: st) M (@ite _ (0 ≤ x) inst o1 o2) := by
  subst hq
  intro r M2 ho H locs la hP hS hl
  exact lv_if_ge C.1 C.2.1 hd ht (fun h => k1 r M2 (by rw [if_pos h] at ho; exact ho) H locs la hP hS hl) (fun h => k2 r M2 (by rw [if_neg h] at ho; exact ho) H locs la hP hS hl)
theorem zg_icmp_ge {d : Nat} (C : zCx p R s m args meth c cc own E NS A nL ret d) {x y : Int32} {off : Int} {o1 o2 : Option (α × zM)} {inst : Decidable (y ≤ x)} (tgt : Nat) (q0 : Nat) (hq : pc + 3 = q0) (hd : decode cc pc = .ok (.if_icmp .ge off, 3)) (ht : (pc : Int) + off = (tgt : Int)) (k1 : zG p l e R s m args below meth c E NS A nL cv ok tgt ls st M o1) (k2 : zG p l e R s m args below meth c E NS A nL cv ok q0 ls st M o2) : zG p l e R s m args below meth c E NS A nL cv ok pc ls (.int y :: .int x :: st) M (@ite _ (y ≤ x) inst o1 o2) := by
  subst hq
  intro r M2 ho H locs la hP hS hl
  exact lv_icmp_ge C.1 C.2.1 hd ht (fun h => k1 r M2 (by rw [if_pos h] at ho; exact ho) H locs la hP hS hl) (fun h => k2 r M2 (by rw [if_neg h] at ho; exact ho) H locs la hP hS hl)
theorem zg_if_gt {d : Nat} (C : zCx p R s m args meth c cc own E NS A nL ret d) {x : Int32} {off : Int} {o1 o2 : Option (α × zM)} {inst : Decidable (0 < x)} (tgt : Nat) (q0 : Nat) (hq : pc + 3 = q0) (hd : decode cc pc = .ok (.ifCond .gt off, 3)) (ht : (pc : Int) + off = (tgt : Int)) (k1 : zG p l e R s m args below meth c E NS A nL cv ok tgt ls st M o1) (k2 : zG p l e R s m args below meth c E NS A nL cv ok q0 ls st M o2) : zG p l e R s m args below meth c E NS A nL cv ok pc ls (.int x :: st) M (@ite _ (0 < x) inst o1 o2) := by
  subst hq
  intro r M2 ho H locs la hP hS hl
  exact lv_if_gt C.1 C.2.1 hd ht (fun h => k1 r M2 (by rw [if_pos h] at ho; exact ho) H locs la hP hS hl) (fun h => k2 r M2 (by rw [if_neg h] at ho; exact ho) H locs la hP hS hl)
theorem zg_icmp_gt {d : Nat} (C : zCx p R s m args meth c cc own E NS A nL ret d) {x y : Int32} {off : Int} {o1 o2 : Option (α × zM)} {inst : Decidable (y < x)} (tgt : Nat) (q0 : Nat) (hq : pc + 3 = q0) (hd : decode cc pc = .ok (.if_icmp .gt off, 3)) (ht : (pc : Int) + off = (tgt : Int)) (k1 : zG p l e R s m args below meth c E NS A nL cv ok tgt ls st M o1) (k2 : zG p l e R s m args below meth c E NS A nL cv ok q0 ls st M o2) : zG p l e R s m args below meth c E NS A nL cv ok pc ls (.int y :: .int x :: st) M (@ite _ (y < x) inst o1 o2) := by
  subst hq
  intro r M2 ho H locs la hP hS hl
  exact lv_icmp_gt C.1 C.2.1 hd ht (fun h => k1 r M2 (by rw [if_pos h] at ho; exact ho) H locs la hP hS hl) (fun h => k2 r M2 (by rw [if_neg h] at ho; exact ho) H locs la hP hS hl)
theorem zg_if_le {d : Nat} (C : zCx p R s m args meth c cc own E NS A nL ret d) {x : Int32} {off : Int} {o1 o2 : Option (α × zM)} {inst : Decidable (x ≤ 0)} (tgt : Nat) (q0 : Nat) (hq : pc + 3 = q0) (hd : decode cc pc = .ok (.ifCond .le off, 3)) (ht : (pc : Int) + off = (tgt : Int)) (k1 : zG p l e R s m args below meth c E NS A nL cv ok tgt ls st M o1) (k2 : zG p l e R s m args below meth c E NS A nL cv ok q0 ls st M o2) : zG p l e R s m args below meth c E NS A nL cv ok pc ls (.int x :: st) M (@ite _ (x ≤ 0) inst o1 o2) := by
  subst hq
  intro r M2 ho H locs la hP hS hl
  exact lv_if_le C.1 C.2.1 hd ht (fun h => k1 r M2 (by rw [if_pos h] at ho; exact ho) H locs la hP hS hl) (fun h => k2 r M2 (by rw [if_neg h] at ho; exact ho) H locs la hP hS hl)
theorem zg_icmp_le {d : Nat} (C : zCx p R s m args meth c cc own E NS A nL ret d) {x y : Int32} {off : Int} {o1 o2 : Option (α × zM)} {inst : Decidable (x ≤ y)} (tgt : Nat) (q0 : Nat) (hq : pc + 3 = q0) (hd : decode cc pc = .ok (.if_icmp .le off, 3)) (ht : (pc : Int) + off = (tgt : Int)) (k1 : zG p l e R s m args below meth c E NS A nL cv ok tgt ls st M o1) (k2 : zG p l e R s m args below meth c E NS A nL cv ok q0 ls st M o2) : zG p l e R s m args below meth c E NS A nL cv ok pc ls (.int y :: .int x :: st) M (@ite _ (x ≤ y) inst o1 o2) := by
  subst hq
  intro r M2 ho H locs la hP hS hl
  exact lv_icmp_le C.1 C.2.1 hd ht (fun h => k1 r M2 (by rw [if_pos h] at ho; exact ho) H locs la hP hS hl) (fun h => k2 r M2 (by rw [if_neg h] at ho; exact ho) H locs la hP hS hl)
theorem zg_none : zG p l e R s m args below meth c E NS A nL cv ok pc ls st M none := fun r M2 ho => by cases ho
theorem zg_nm {β : Type} {v : β} {f : β → Option (α × zM)} {V : β → Value} (k : ∀ x : β, zG p l e R s m args below meth c E NS A nL cv ok pc ls (V x :: st) M (f x)) : zG p l e R s m args below meth c E NS A nL cv ok pc ls (V v :: st) M (znm v f) := k v
theorem zg_nmI {v : Int32} {f : Int32 → Option (α × zM)} (k : ∀ x : Int32, zG p l e R s m args below meth c E NS A nL cv ok pc ls (.int x :: st) M (f x)) : zG p l e R s m args below meth c E NS A nL cv ok pc ls (.int v :: st) M (znm v f) := k v
theorem zg_nmL {v : Int64} {f : Int64 → Option (α × zM)} (k : ∀ x : Int64, zG p l e R s m args below meth c E NS A nL cv ok pc ls (.long x :: st) M (f x)) : zG p l e R s m args below meth c E NS A nL cv ok pc ls (.long v :: st) M (znm v f) := k v
theorem zg_if {P : Prop} {inst : Decidable P} {o1 o2 : Option (α × zM)} (k1 : P → zG p l e R s m args below meth c E NS A nL cv ok pc ls st M o1) (k2 : ¬ P → zG p l e R s m args below meth c E NS A nL cv ok pc ls st M o2) : zG p l e R s m args below meth c E NS A nL cv ok pc ls st M (@ite _ P inst o1 o2) := by
  intro r M2 ho H locs la hP hS hl
  by_cases h : P
  · exact k1 h r M2 (by rw [if_pos h] at ho; exact ho) H locs la hP hS hl
  · exact k2 h r M2 (by rw [if_neg h] at ho; exact ho) H locs la hP hS hl
theorem zg_sub (js : List Nat) (ls2 : List (Nat × Value)) (he : lv_pick ls js = ls2) (k : zG p l e R s m args below meth c E NS A nL cv ok pc ls2 st M o) : zG p l e R s m args below meth c E NS A nL cv ok pc ls st M o := fun r M2 ho H locs la hP hS hl => k r M2 ho H locs la hP hS (lv_sub hl js he)
theorem zg_pc {pc2 : Nat} (h : pc = pc2) (k : zG p l e R s m args below meth c E NS A nL cv ok pc2 ls st M o) : zG p l e R s m args below meth c E NS A nL cv ok pc ls st M o := h ▸ k
theorem zg_tabIn {d : Nat} (C : zCx p R s m args meth c cc own E NS A nL ret d) {dflt lo hi : Int} {offs : Array Int} {len : Nat} {x : Int32} (v : Int) (off : Int) (tgt : Nat) (hd : decode cc pc = .ok (.tableswitch dflt lo hi offs, len)) (hx : x.toInt = v) (h1 : ¬ v < lo) (h2 : ¬ hi < v) (ho : offs[(v - lo).toNat]? = some off) (ht : (pc : Int) + off = (tgt : Int)) (k : zG p l e R s m args below meth c E NS A nL cv ok tgt ls st M o) : zG p l e R s m args below meth c E NS A nL cv ok pc ls (.int x :: st) M o := by
  subst hx
  exact fun r M2 ho2 H locs la hP hS hl => lv_tableIn C.1 C.2.1 hd h1 h2 ho ht (k r M2 ho2 H locs la hP hS hl)
theorem zg_tabOut {d : Nat} (C : zCx p R s m args meth c cc own E NS A nL ret d) {dflt lo hi : Int} {offs : Array Int} {len : Nat} {x : Int32} (tgt : Nat) (hd : decode cc pc = .ok (.tableswitch dflt lo hi offs, len)) (h : x.toInt < lo ∨ hi < x.toInt) (ht : (pc : Int) + dflt = (tgt : Int)) (k : zG p l e R s m args below meth c E NS A nL cv ok tgt ls st M o) : zG p l e R s m args below meth c E NS A nL cv ok pc ls (.int x :: st) M o := fun r M2 ho H locs la hP hS hl => lv_tableOut C.1 C.2.1 hd h ht (k r M2 ho H locs la hP hS hl)
theorem zg_look {d : Nat} (C : zCx p R s m args meth c cc own E NS A nL ret d) {dflt : Int} {ps : Array (Int × Int)} {len : Nat} {x : Int32} (off : Int) (tgt : Nat) (hd : decode cc pc = .ok (.lookupswitch dflt ps, len)) (hp : (ps.toList.zip (ps.toList.drop 1)).all (fun (a, next) => a.1 < next.1) = true) (ho : Op.lookupswitch.offset ps.toList dflt x.toInt = off) (ht : (pc : Int) + off = (tgt : Int)) (k : zG p l e R s m args below meth c E NS A nL cv ok tgt ls st M o) : zG p l e R s m args below meth c E NS A nL cv ok pc ls (.int x :: st) M o := fun r M2 ho2 H locs la hP hS hl => lv_lookup C.1 C.2.1 hd hp ho ht (k r M2 ho2 H locs la hP hS hl)
theorem zxi {x k : Int32} {v : Int} (h : x = k) (hk : k.toInt = v) : x.toInt = v := by rw [h]; exact hk
theorem zxn {x k : Int32} {v : Int} (h : ¬ x = k) (hk : k.toInt = v) : ¬ x.toInt = v := lv_neT h hk
theorem zg_get {d : Nat} (C : zCx p R s m args meth c cc own E NS A nL ret d) {k i : Nat} {cl ref : String} {T : u_T} {N ci ix : Nat} {v : Value} (f : Nat) (q0 : Nat) (hq : pc + 3 = q0) (hd : decode cc pc = .ok (.getfield ix, 3)) (hi : (k, i) ∈ NS) (hin : ∀ w ∈ u_ws cl T N, w ∈ zgw) (hc : vwCl[ci]? = some (cl, T, N)) (fs : List Value) (hf : zrow E k i (M.1 k i) (M.2 k i) = .inr (ci, fs)) (hfN : f < N) (hlk : Cond.fieldLink own ix ref (T f).2.1 (T f).2.2.1 ∈ zgw) (hr : (T f).1 = ref) (hv : fs[f]? = some v) (kk : zG p l e R s m args below meth c E NS A nL cv ok q0 ls (v :: st) M o) : zG p l e R s m args below meth c E NS A nL cv ok pc ls (.ref (zad E k i) :: st) M o := by
  subst hq
  intro r M2 ho H locs la hP hS hl
  obtain ⟨q, -, hq⟩ := zw_mem (E := E) (M := M) hi
  rw [hf] at hq
  subst hr
  exact va_get C.1 C.2.1 C.2.2.2.2.1 hin C.2.2.2.1 C.2.2.2.2.2.1 hP q hq hc f hfN (C.2.2.2.2.1 _ hlk) (fun _ h => h) hv hd (kk r M2 ho H locs la hP hS hl)
theorem zg_put {d : Nat} (C : zCx p R s m args meth c cc own E NS A nL ret d) {k i : Nat} {cl ref : String} {T : u_T} {N ci ix : Nat} {x : Int32} {F : zM → Option (α × zM)} (f : Nat) (q0 : Nat) (hq : pc + 3 = q0) (hd : decode cc pc = .ok (.putfield ix, 3)) (hi : (k, i) ∈ NS) (hin : ∀ w ∈ u_ws cl T N, w ∈ zgw) (hc : vwCl[ci]? = some (cl, T, N)) (ty0 : Nat → FieldType) (hty : ∀ k, k < N → parseFieldDescriptor (T k).2.2.1 = some (ty0 k)) (hnm : ∀ a, a < N → ∀ b, b < N → a ≠ b → (T a).2.1 ≠ (T b).2.1) (fs : List Value) (hf : zrow E k i (M.1 k i) (M.2 k i) = .inr (ci, fs)) (hf2 : zrow E k i (upd (M.1 k i) f x) (M.2 k i) = .inr (ci, fs.set f (.int x))) (hfN : f < N) (hlk : Cond.fieldLink own ix ref (T f).2.1 (T f).2.2.1 ∈ zgw) (hr : (T f).1 = ref) (hfin : (T f).2.2.2 = false) (hn : narrow (ty0 f) (.int x) = .int x) (hfit : fits (ty0 f) (.int x) = true) (hl0 : f < fs.length) (kk : ∀ M1 : zM, zG p l e R s m args below meth c E NS A nL cv ok q0 ls st M1 (F M1)) : zG p l e R s m args below meth c E NS A nL cv ok pc ls (.int x :: .ref (zad E k i) :: st) M (znm (zset M k i f x) F) := by
  subst hq
  intro r M2 ho H locs la hP hS hl
  obtain ⟨q, hq0, hq⟩ := zw_mem (E := E) (M := M) hi
  rw [hf] at hq
  subst hr
  refine va_put C.1 C.2.1 C.2.2.2.2.1 hin ty0 hty hnm C.2.2.2.1 C.2.2.2.2.2.1 hP (C.2.2.2.2.2.2.2.2.2.1.D M) hS q hq hc f hfN (C.2.2.2.2.1 _ hlk) (fun _ h => h) hfin (hty f hfN) hn hfit hl0 hd (fun H1 locs1 hP1 _ hS1 => ?_)
  rw [zw_set (M' := zset M k i f x) C.2.2.2.2.2.2.2.2.2.1.1 hq0 (by rw [zset_at]; exact hf2.symm) (zset_ne M k i f x)] at hP1
  exact kk _ r M2 ho H1 locs1 la hP1 hS1 hl
theorem zg_iald {d : Nat} (C : zCx p R s m args meth c cc own E NS A nL ret d) {k i n : Nat} {x : Int32} (q0 : Nat) (hq : pc + 1 = q0) (hd : decode cc pc = .ok (.iaload, 1)) (hi : (k, i) ∈ NS) (hf : zrow E k i (M.1 k i) (M.2 k i) = .inl (E.2.1 0, n, .inl (M.1 k i))) (kk : zG p l e R s m args below meth c E NS A nL cv ok q0 ls (.int (M.1 k i x.toNatClampNeg) :: st) M o) : zG p l e R s m args below meth c E NS A nL cv ok pc ls (.int x :: .ref (zad E k i) :: st) M (zchk (zin x n) o) := by
  subst hq
  intro r M2 ho H locs la hP hS hl
  obtain ⟨h1, h2⟩ := zchk_some ho
  obtain ⟨q, -, hq⟩ := zw_mem (E := E) (M := M) hi
  rw [hf] at hq
  exact va_iald C.1 C.2.1 C.2.2.2.2.2.1 hP q 0 hq rfl (zin_vp h1) hd (kk r M2 h2 H locs la hP hS hl)
theorem zg_zald {d : Nat} (C : zCx p R s m args meth c cc own E NS A nL ret d) {k i n : Nat} {x : Int32} (q0 : Nat) (hq : pc + 1 = q0) (hd : decode cc pc = .ok (.baload, 1)) (hi : (k, i) ∈ NS) (hf : zrow E k i (M.1 k i) (M.2 k i) = .inl (E.2.1 2, n, .inl (M.1 k i))) (kk : zG p l e R s m args below meth c E NS A nL cv ok q0 ls (.int (M.1 k i x.toNatClampNeg) :: st) M o) : zG p l e R s m args below meth c E NS A nL cv ok pc ls (.int x :: .ref (zad E k i) :: st) M (zchk (zin x n) o) := by
  subst hq
  intro r M2 ho H locs la hP hS hl
  obtain ⟨h1, h2⟩ := zchk_some ho
  obtain ⟨q, -, hq⟩ := zw_mem (E := E) (M := M) hi
  rw [hf] at hq
  exact va_zald C.1 C.2.1 C.2.2.2.2.2.1 hP q 2 hq rfl (zin_vp h1) hd (kk r M2 h2 H locs la hP hS hl)
theorem zg_lald {d : Nat} (C : zCx p R s m args meth c cc own E NS A nL ret d) {k i n : Nat} {x : Int32} (q0 : Nat) (hq : pc + 1 = q0) (hd : decode cc pc = .ok (.laload, 1)) (hi : (k, i) ∈ NS) (hf : zrow E k i (M.1 k i) (M.2 k i) = .inl (E.2.1 1, n, .inr (.inl (M.2 k i)))) (kk : zG p l e R s m args below meth c E NS A nL cv ok q0 ls (.long (M.2 k i x.toNatClampNeg) :: st) M o) : zG p l e R s m args below meth c E NS A nL cv ok pc ls (.int x :: .ref (zad E k i) :: st) M (zchk (zin x n) o) := by
  subst hq
  intro r M2 ho H locs la hP hS hl
  obtain ⟨h1, h2⟩ := zchk_some ho
  obtain ⟨q, -, hq⟩ := zw_mem (E := E) (M := M) hi
  rw [hf] at hq
  exact va_lald C.1 C.2.1 C.2.2.2.2.2.1 hP q 1 hq rfl (zin_vp h1) hd (kk r M2 h2 H locs la hP hS hl)
theorem zg_alen {d : Nat} (C : zCx p R s m args meth c cc own E NS A nL ret d) {k i : Nat} {cA : ClassId} {z : vp_A} (t0 : Nat) {ty : FieldType} (v : Int32) (q0 : Nat) (hq : pc + 1 = q0) (hd : decode cc pc = .ok (.arraylength, 1)) (hi : (k, i) ∈ NS) (hf : zrow E k i (M.1 k i) (M.2 k i) = .inl (cA, z)) (ht : (zty E)[t0]? = some (cA, ty)) (hv : Int32.ofNat z.1 = v) (kk : zG p l e R s m args below meth c E NS A nL cv ok q0 ls (.int v :: st) M o) : zG p l e R s m args below meth c E NS A nL cv ok pc ls (.ref (zad E k i) :: st) M o := by
  subst hq
  intro r M2 ho H locs la hP hS hl
  obtain ⟨q, -, hq⟩ := zw_mem (E := E) (M := M) hi
  rw [hf] at hq
  exact va_alen C.1 C.2.1 C.2.2.2.2.2.1 hP q t0 hq ht hv hd (kk r M2 ho H locs la hP hS hl)
theorem zg_iast {d : Nat} (C : zCx p R s m args meth c cc own E NS A nL ret d) {k i n : Nat} {x v : Int32} {F : zM → Option (α × zM)} (q0 : Nat) (hq : pc + 1 = q0) (hd : decode cc pc = .ok (.iastore, 1)) (hi : (k, i) ∈ NS) (hf : ∀ f g, zrow E k i f g = .inl (E.2.1 0, n, .inl f)) (kk : ∀ M1 : zM, zG p l e R s m args below meth c E NS A nL cv ok q0 ls st M1 (F M1)) : zG p l e R s m args below meth c E NS A nL cv ok pc ls (.int v :: .int x :: .ref (zad E k i) :: st) M (zchk (zin x n) (znm (zset M k i x.toNatClampNeg v) F)) := by
  subst hq
  intro r M2 ho H locs la hP hS hl
  obtain ⟨h1, h2⟩ := zchk_some ho
  obtain ⟨q, hq0, hq⟩ := zw_mem (E := E) (M := M) hi
  rw [hf] at hq
  refine va_iast C.1 C.2.1 C.2.2.2.2.2.1 hP (C.2.2.2.2.2.2.2.2.2.1.D M) hS q 0 hq rfl (zin_vp h1) hd (fun H1 locs1 hP1 _ hS1 => ?_)
  rw [zw_set (M' := zset M k i x.toNatClampNeg v) C.2.2.2.2.2.2.2.2.2.1.1 hq0 (by rw [zset_at]; exact (hf _ _).symm) (zset_ne M k i x.toNatClampNeg v)] at hP1
  exact kk _ r M2 h2 H1 locs1 la hP1 hS1 hl
theorem zg_zast {d : Nat} (C : zCx p R s m args meth c cc own E NS A nL ret d) {k i n : Nat} {x v : Int32} {F : zM → Option (α × zM)} (q0 : Nat) (hq : pc + 1 = q0) (hd : decode cc pc = .ok (.bastore, 1)) (hi : (k, i) ∈ NS) (hf : ∀ f g, zrow E k i f g = .inl (E.2.1 2, n, .inl f)) (kk : ∀ M1 : zM, zG p l e R s m args below meth c E NS A nL cv ok q0 ls st M1 (F M1)) : zG p l e R s m args below meth c E NS A nL cv ok pc ls (.int v :: .int x :: .ref (zad E k i) :: st) M (zchk (zin x n) (znm (zset M k i x.toNatClampNeg (vp_nar .boolean v)) F)) := by
  subst hq
  intro r M2 ho H locs la hP hS hl
  obtain ⟨h1, h2⟩ := zchk_some ho
  obtain ⟨q, hq0, hq⟩ := zw_mem (E := E) (M := M) hi
  rw [hf] at hq
  refine va_zast C.1 C.2.1 C.2.2.2.2.2.1 hP (C.2.2.2.2.2.2.2.2.2.1.D M) hS q 2 hq rfl (zin_vp h1) hd (fun H1 locs1 hP1 _ hS1 => ?_)
  rw [zw_set (M' := zset M k i x.toNatClampNeg (vp_nar .boolean v)) C.2.2.2.2.2.2.2.2.2.1.1 hq0 (by rw [zset_at]; exact (hf _ _).symm) (zset_ne M k i x.toNatClampNeg _)] at hP1
  exact kk _ r M2 h2 H1 locs1 la hP1 hS1 hl
theorem zg_last {d : Nat} (C : zCx p R s m args meth c cc own E NS A nL ret d) {k i n : Nat} {x : Int32} {v : Int64} {F : zM → Option (α × zM)} (q0 : Nat) (hq : pc + 1 = q0) (hd : decode cc pc = .ok (.lastore, 1)) (hi : (k, i) ∈ NS) (hf : ∀ f g, zrow E k i f g = .inl (E.2.1 1, n, .inr (.inl g))) (kk : ∀ M1 : zM, zG p l e R s m args below meth c E NS A nL cv ok q0 ls st M1 (F M1)) : zG p l e R s m args below meth c E NS A nL cv ok pc ls (.long v :: .int x :: .ref (zad E k i) :: st) M (zchk (zin x n) (znm (zsetL M k i x.toNatClampNeg v) F)) := by
  subst hq
  intro r M2 ho H locs la hP hS hl
  obtain ⟨h1, h2⟩ := zchk_some ho
  obtain ⟨q, hq0, hq⟩ := zw_mem (E := E) (M := M) hi
  rw [hf] at hq
  refine va_last C.1 C.2.1 C.2.2.2.2.2.1 hP (C.2.2.2.2.2.2.2.2.2.1.D M) hS q 1 hq rfl (zin_vp h1) hd (fun H1 locs1 hP1 _ hS1 => ?_)
  rw [zw_set (M' := zsetL M k i x.toNatClampNeg v) C.2.2.2.2.2.2.2.2.2.1.1 hq0 (by rw [zsetL_at]; exact (hf _ _).symm) (zsetL_ne M k i x.toNatClampNeg v)] at hP1
  exact kk _ r M2 h2 H1 locs1 la hP1 hS1 hl
/-- an array of references: its places are cells of the kind k2, from number b on -/
theorem zg_aald {d : Nat} (C : zCx p R s m args meth c cc own E NS A nL ret d) {k i n k2 b : Nat} {x : Int32} {t0 : Nat} {cn : String} {F : Nat → Option (α × zM)} (q0 : Nat) (hq : pc + 1 = q0) (hd : decode cc pc = .ok (.aaload, 1)) (hi : (k, i) ∈ NS) (hf : zrow E k i (M.1 k i) (M.2 k i) = .inl (E.2.1 t0, n, .inr (.inr (.inr (.inr (fun j => some (zad E k2 (b + j)))))))) (ht : (zty E)[t0]? = some (E.2.1 t0, .object cn)) (kk : ∀ y : Nat, b ≤ y → y < b + n → zG p l e R s m args below meth c E NS A nL cv ok q0 ls (.ref (zad E k2 y) :: st) M (F y)) : zG p l e R s m args below meth c E NS A nL cv ok pc ls (.int x :: .ref (zad E k i) :: st) M (zchk (zin x n) (znm (b + x.toNatClampNeg) F)) := by
  subst hq
  intro r M2 ho H locs la hP hS hl
  obtain ⟨h1, h2⟩ := zchk_some ho
  obtain ⟨q, -, hq⟩ := zw_mem (E := E) (M := M) hi
  rw [hf] at hq
  have h3 := zin_lt h1
  exact va_aldq C.1 C.2.1 C.2.2.2.2.2.1 hP q t0 hq ht (zin_vp h1) hd (kk (b + x.toNatClampNeg) (Nat.le_add_right _ _) (by omega) r M2 h2 H locs la hP hS hl)
theorem zg_copyi {d : Nat} (C : zCx p R s m args meth c cc own E NS A nL ret d) {k i n0 k2 i2 n1 ix : Nat} {sp dp n : Int32} {F : zM → Option (α × zM)} (q0 : Nat) (hq : pc + 3 = q0) (hd : decode cc pc = .ok (.invokestatic ix, 3)) (hi : (k, i) ∈ NS) (hi2 : (k2, i2) ∈ NS) (hf : ∀ f g, zrow E k i f g = .inl (E.2.1 0, n0, .inl f)) (hf2 : ∀ f g, zrow E k2 i2 f g = .inl (E.2.1 0, n1, .inl f)) (hlk : Cond.methodLink own ix arraycopyName ∈ zgw) (h1 : Cond.native arraycopyName ∈ zgw) (h2 : Cond.static arraycopyName ∈ zgw) (h3 : Cond.initialized "java/lang/System" ∈ zgw) (hdd : 2 ≤ d) (hst : (st.map fun v => v.category).sum + (nativeFrameWords "java/lang/System" "arraycopy" 5 + 11) ≤ 128) (kk : ∀ M1 : zM, zG p l e R s m args below meth c E NS A nL cv ok q0 ls st M1 (F M1)) : zG p l e R s m args below meth c E NS A nL cv ok pc ls (.int n :: .int dp :: .ref (zad E k2 i2) :: .int sp :: .ref (zad E k i) :: st) M (zchk (zcp sp dp n n0 n1) (znm (zcpy M k i k2 i2 sp.toNatClampNeg dp.toNatClampNeg n.toNatClampNeg) F)) := by
  subst hq
  intro r M2 ho H locs la hP hS hl
  obtain ⟨g1, g2⟩ := zchk_some ho
  obtain ⟨g3, g4, g5, g6, g7⟩ := of_decide_eq_true g1
  obtain ⟨q, hq0, hq⟩ := zw_mem (E := E) (M := M) hi
  rw [hf] at hq
  obtain ⟨q2, hq20, hq2⟩ := zw_mem (E := E) (M := M) hi2
  rw [hf2] at hq2
  have hR := C.2.2.2.2.2.2.2.2.2.2
  refine va_copyi C.1 C.2.1 (C.2.2.1.trans hl.1.symm) C.2.2.2.1 (C.2.2.2.2.1 _ hlk) (C.2.2.2.2.1 _ h1) (C.2.2.2.2.1 _ h2) (C.2.2.2.2.1 _ h3) C.2.2.2.2.2.1 hP (C.2.2.2.2.2.2.2.2.2.1.D M) hS q q2 0 0 hq hq2 rfl rfl rfl g3 g4 g5 g6 g7 (fun _ _ => rfl) (by rw [hR.1]; omega) (by rw [hR.2]; omega) hd (fun H1 locs1 hP1 _ hS1 => ?_)
  rw [zw_set (M' := zcpy M k i k2 i2 sp.toNatClampNeg dp.toNatClampNeg n.toNatClampNeg) C.2.2.2.2.2.2.2.2.2.1.1 hq20 (by rw [zcpy_at]; exact (hf2 _ _).symm) (zcpy_ne M k i k2 i2 _ _ _)] at hP1
  exact kk _ r M2 g2 H1 locs1 la hP1 hS1 hl
theorem zg_copyl {d : Nat} (C : zCx p R s m args meth c cc own E NS A nL ret d) {k i n0 k2 i2 n1 ix : Nat} {sp dp n : Int32} {F : zM → Option (α × zM)} (q0 : Nat) (hq : pc + 3 = q0) (hd : decode cc pc = .ok (.invokestatic ix, 3)) (hi : (k, i) ∈ NS) (hi2 : (k2, i2) ∈ NS) (hf : ∀ f g, zrow E k i f g = .inl (E.2.1 1, n0, .inr (.inl g))) (hf2 : ∀ f g, zrow E k2 i2 f g = .inl (E.2.1 1, n1, .inr (.inl g))) (hlk : Cond.methodLink own ix arraycopyName ∈ zgw) (h1 : Cond.native arraycopyName ∈ zgw) (h2 : Cond.static arraycopyName ∈ zgw) (h3 : Cond.initialized "java/lang/System" ∈ zgw) (hdd : 2 ≤ d) (hst : (st.map fun v => v.category).sum + (nativeFrameWords "java/lang/System" "arraycopy" 5 + 11) ≤ 128) (kk : ∀ M1 : zM, zG p l e R s m args below meth c E NS A nL cv ok q0 ls st M1 (F M1)) : zG p l e R s m args below meth c E NS A nL cv ok pc ls (.int n :: .int dp :: .ref (zad E k2 i2) :: .int sp :: .ref (zad E k i) :: st) M (zchk (zcp sp dp n n0 n1) (znm (zcpyL M k i k2 i2 sp.toNatClampNeg dp.toNatClampNeg n.toNatClampNeg) F)) := by
  subst hq
  intro r M2 ho H locs la hP hS hl
  obtain ⟨g1, g2⟩ := zchk_some ho
  obtain ⟨g3, g4, g5, g6, g7⟩ := of_decide_eq_true g1
  obtain ⟨q, hq0, hq⟩ := zw_mem (E := E) (M := M) hi
  rw [hf] at hq
  obtain ⟨q2, hq20, hq2⟩ := zw_mem (E := E) (M := M) hi2
  rw [hf2] at hq2
  have hR := C.2.2.2.2.2.2.2.2.2.2
  refine va_copyl C.1 C.2.1 (C.2.2.1.trans hl.1.symm) C.2.2.2.1 (C.2.2.2.2.1 _ hlk) (C.2.2.2.2.1 _ h1) (C.2.2.2.2.1 _ h2) (C.2.2.2.2.1 _ h3) C.2.2.2.2.2.1 hP (C.2.2.2.2.2.2.2.2.2.1.D M) hS q q2 1 1 hq hq2 rfl rfl rfl g3 g4 g5 g6 g7 (fun _ _ => rfl) (by rw [hR.1]; omega) (by rw [hR.2]; omega) hd (fun H1 locs1 hP1 _ hS1 => ?_)
  rw [zw_set (M' := zcpyL M k i k2 i2 sp.toNatClampNeg dp.toNatClampNeg n.toNatClampNeg) C.2.2.2.2.2.2.2.2.2.1.1 hq20 (by rw [zcpyL_at]; exact (hf2 _ _).symm) (zcpyL_ne M k i k2 i2 _ _ _)] at hP1
  exact kk _ r M2 g2 H1 locs1 la hP1 hS1 hl
theorem zg_gets {d : Nat} (C : zCx p R s m args meth c cc own E NS A nL ret d) {ix : Nat} (t : Nat) (ht : t < 3) (q0 : Nat) (hq : pc + 3 = q0) (hd : decode cc pc = .ok (.getstatic ix, 3)) (hlk : Cond.fieldLink own ix (zst_c t) (zst_n t) "[I" ∈ zgw) (kk : zG p l e R s m args below meth c E NS A nL cv ok q0 ls (.ref (zsa E t) :: st) M o) : zG p l e R s m args below meth c E NS A nL cv ok pc ls st M o := by
  subst hq
  exact fun r M2 ho H locs la hP hS hl => va_gets C.1 C.2.1 (C.2.2.2.2.2.2.1.1 t ht).1 hS C.2.2.2.1 (C.2.2.2.2.1 _ hlk) (fun _ h => h) hd (kk r M2 ho H locs la hP hS hl)
theorem zg_getsN {d : Nat} (C : zCx p R s m args meth c cc "TwoTrue$Acts" E NS A nL ret d) (q0 : Nat) (hq : pc + 3 = q0) (hd : decode cc pc = .ok (.getstatic 18, 3)) (kk : zG p l e R s m args below meth c E NS A nL cv ok q0 ls (.ref (zsa E 0) :: st) M o) : zG p l e R s m args below meth c E NS A nL cv ok pc ls st M o := by
  subst hq
  exact fun r M2 ho H locs la hP hS hl => va_getsN C.1 C.2.1 (C.2.2.2.2.2.2.1.1 0 (by decide)).1 hS C.2.2.2.1 (va_Nw.use rfl C.2.2.2.2.2.2.1.2.2.2.2.2.2) (fun _ h => h) hd (kk r M2 ho H locs la hP hS hl)
theorem zg_ti {d : Nat} (C : zCx p R s m args meth c cc own E NS A nL ret d) {t : Nat} {x : Int32} (ht : t < 3) (q0 : Nat) (hq : pc + 1 = q0) (hd : decode cc pc = .ok (.iaload, 1)) (kk : zG p l e R s m args below meth c E NS A nL cv ok q0 ls (.int (zst t x.toNatClampNeg) :: st) M o) : zG p l e R s m args below meth c E NS A nL cv ok pc ls (.int x :: .ref (zsa E t) :: st) M (zchk (zin x (zst_l t)) o) := by
  subst hq
  intro r M2 ho H locs la hP hS hl
  obtain ⟨h1, h2⟩ := zchk_some ho
  exact va_ti C.1 C.2.1 (C.2.2.2.2.2.2.1.1 t ht).2 hS (zin_vp h1) rfl hd (kk r M2 h2 H locs la hP hS hl)
theorem zg_ldcS {d : Nat} (C : zCx p R s m args meth c cc "TwoTrue$Text" E NS A nL ret d) (i : Nat) (hi : i < 4) {ix : Nat} (q0 : Nat) (hq : pc + 2 = q0) (hd : decode cc pc = .ok (.ldc ix, 2)) (hx : ztx_k i = ix) (kk : zG p l e R s m args below meth c E NS A nL cv ok q0 ls (.ref (zsk E i) :: st) M o) : zG p l e R s m args below meth c E NS A nL cv ok pc ls st M o := by
  subst hq
  subst hx
  exact fun r M2 ho H locs la hP hS hl => va_ldcS C.1 C.2.1 C.2.2.2.1 (C.2.2.2.2.2.2.1.2.2.2.2.1 i hi) hd (kk r M2 ho H locs la hP hS hl)
theorem zg_getC {d : Nat} (C : zCx p R s m args meth c cc "java/lang/String" E NS A nL ret d) {ix : Nat} (q0 : Nat) (hq : pc + 3 = q0) (hd : decode cc pc = .ok (.getstatic ix, 3)) (hlk : Cond.fieldLink "java/lang/String" ix "java/lang/String" "COMPACT_STRINGS" "Z" ∈ zgw) (kk : zG p l e R s m args below meth c E NS A nL cv ok q0 ls (.int 1 :: st) M o) : zG p l e R s m args below meth c E NS A nL cv ok pc ls st M o := by
  subst hq
  exact fun r M2 ho H locs la hP hS hl => va_gets C.1 C.2.1 C.2.2.2.2.2.2.1.2.1 hS C.2.2.2.1 (C.2.2.2.2.1 _ hlk) (fun _ h => h) hd (kk r M2 ho H locs la hP hS hl)
theorem zg_getV {d : Nat} (C : zCx p R s m args meth c cc "java/lang/String" E NS A nL ret d) {i ix : Nat} (hi : i < 4) (q0 : Nat) (hq : pc + 3 = q0) (hd : decode cc pc = .ok (.getfield ix, 3)) (hlk : Cond.fieldLink "java/lang/String" ix "java/lang/String" "value" "[B" ∈ zgw) (kk : zG p l e R s m args below meth c E NS A nL cv ok q0 ls (.ref (zsv E i) :: st) M o) : zG p l e R s m args below meth c E NS A nL cv ok pc ls (.ref (zsk E i) :: st) M o := by
  subst hq
  exact fun r M2 ho H locs la hP hS hl => vk_getf C.1 C.2.1 (C.2.2.2.2.2.2.1.2.2.2.1.1 i hi).2.2.1 hS C.2.2.2.1 (C.2.2.2.2.1 _ hlk) (fun _ h => h) hd (kk r M2 ho H locs la hP hS hl)
theorem zg_getK {d : Nat} (C : zCx p R s m args meth c cc "java/lang/String" E NS A nL ret d) {i ix : Nat} (hi : i < 4) (q0 : Nat) (hq : pc + 3 = q0) (hd : decode cc pc = .ok (.getfield ix, 3)) (hlk : Cond.fieldLink "java/lang/String" ix "java/lang/String" "coder" "B" ∈ zgw) (kk : zG p l e R s m args below meth c E NS A nL cv ok q0 ls (.int 0 :: st) M o) : zG p l e R s m args below meth c E NS A nL cv ok pc ls (.ref (zsk E i) :: st) M o := by
  subst hq
  exact fun r M2 ho H locs la hP hS hl => vk_getf C.1 C.2.1 (C.2.2.2.2.2.2.1.2.2.2.1.1 i hi).2.1 hS C.2.2.2.1 (C.2.2.2.2.1 _ hlk) (fun _ h => h) hd (kk r M2 ho H locs la hP hS hl)
/-! ends -/
theorem zg_iret {d : Nat} {ok : Int32 → Prop} (C : zCx p R s m args meth c cc own E NS A nL (some .int) d) {x : Int32} (hd : decode cc pc = .ok (.ireturn, 1)) (hx : ok x) : zG p l e R s m args below meth c E NS A nL zvI ok pc ls [.int x] M (some (x, M)) := by
  intro r M2 ho H locs la hP hS hl
  cases ho
  exact W.iret (v := x) C.1 C.2.1 C.2.2.2.2.2.2.2.2.1 (fun t ht hW => ⟨rfl, hx, by rw [ht]; exact hP, hS.F ht⟩) hS.2.2 hd C.2.2.2.2.2.2.2.1
theorem zg_zret {d : Nat} {ok : Int32 → Prop} {ty : FieldType} (C : zCx p R s m args meth c cc own E NS A nL (some ty) d) {x : Int32} (hd : decode cc pc = .ok (.ireturn, 1)) (hn : narrow ty (.int x) = .int x) (hx : ok x) : zG p l e R s m args below meth c E NS A nL zvI ok pc ls [.int x] M (some (x, M)) := by
  intro r M2 ho H locs la hP hS hl
  cases ho
  exact W.zret (v := x) C.1 C.2.1 C.2.2.2.2.2.2.2.2.1 hn (fun t ht hW => ⟨rfl, hx, by rw [ht]; exact hP, hS.F ht⟩) hS.2.2 hd C.2.2.2.2.2.2.2.1
theorem zg_lret {d : Nat} {ok : Int64 → Prop} (C : zCx p R s m args meth c cc own E NS A nL (some .long) d) {x : Int64} (hd : decode cc pc = .ok (.lreturn, 1)) (hx : ok x) : zG p l e R s m args below meth c E NS A nL zvL ok pc ls [.long x] M (some (x, M)) := by
  intro r M2 ho H locs la hP hS hl
  cases ho
  exact W.lret (v := x) C.1 C.2.1 C.2.2.2.2.2.2.2.2.1 (fun t ht hW => ⟨rfl, hx, by rw [ht]; exact hP, hS.F ht⟩) hS.2.2 hd C.2.2.2.2.2.2.2.1
theorem zg_vret {d : Nat} {ok : Unit → Prop} (C : zCx p R s m args meth c cc own E NS A nL none d) (hd : decode cc pc = .ok (.return_, 1)) (hx : ok ()) : zG p l e R s m args below meth c E NS A nL zvU ok pc ls [] M (some ((), M)) := by
  intro r M2 ho H locs la hP hS hl
  cases ho
  exact W.vret C.1 C.2.1 C.2.2.2.2.2.2.2.2.1 (fun t ht hW => ⟨rfl, hx, by rw [ht]; exact hP, hS.F ht⟩) hS.2.2 hd C.2.2.2.2.2.2.2.1
theorem zg_aret {d : Nat} {ok : Nat → Prop} {cn : String} {k : Nat} (C : zCx p R s m args meth c cc own E NS A nL (some (.object cn)) d) {x : Nat} (hd : decode cc pc = .ok (.areturn, 1)) (hx : ok x) : zG p l e R s m args below meth c E NS A nL (zvR E k) ok pc ls [.ref (zad E k x)] M (some (x, M)) := by
  intro r M2 ho H locs la hP hS hl
  cases ho
  exact W.aret (v := .ref (zad E k x)) C.1 C.2.1 C.2.2.2.2.2.2.2.2.1 (Or.inl ⟨_, rfl⟩) (Or.inr ⟨_, rfl⟩) (fun t ht hW => ⟨rfl, hx, by rw [ht]; exact hP, hS.F ht⟩) hS.2.2 hd C.2.2.2.2.2.2.2.1

theorem zcall {H : Heap} {locs : List Loc} {la : Array Slot} {α2 : Type} {cv2 : α2 → Option Value} {ok2 : α2 → Prop} {x : α2} {M1 : zM} {a : Array Value} {rest st0 : List Value} {Q : State → Prop} (hr : va_Run p l e R s m args below meth c H locs 0 0 0 0 (F0 m pc la st0) rest (zQ E NS A cv2 ok2 x M1 a) A) (hS : va_S A s.heap H locs)
    (kk : ∀ (H1 : Heap) (locs1 : List Loc), va_P E.1 vwCl (zw E NS M1) H1 → ok2 x → va_S A s.heap H1 locs1 → W p l e R s m args below meth c H1 locs1 0 0 Q (F0 m (pc + 3) la ((cv2 x).toList ++ rest))) : W p l e R s m args below meth c H locs 0 0 Q (F0 m pc la st0) := by
  intro T hT X
  obtain ⟨v, st₀, t, T', L, h0, X', hL, e1, e2, ⟨hv, hx, hP, hz, hk⟩, st⟩ := hr T hT X
  cases hv
  rw [h0] at hz hk
  obtain ⟨t2, a1, b1⟩ := kk T'.heap (locs ++ L) (by rw [e1]; exact hP) hx ⟨Nat.le_trans hS.1 (by rw [e1]; exact hz), fun q h1 h2 => by rw [e1, hk q (Nat.lt_of_lt_of_le h1 hS.1) h2]; exact hS.2.1 q h1 h2, fun q hq => by
      rcases List.mem_append.mp hq with h | h
      · exact hS.2.2 q h
      · exact hL q h⟩ T' rfl X'
  exact ⟨t2, st t2 a1, b1⟩
def zok (y : MethodName) (n : Nat) : Prop := y.cls ≠ "java/lang/invoke/MethodHandle" ∧ y.cls ≠ "java/lang/invoke/VarHandle" ∧ (parseMethodDescriptor y.desc).map (fun d => d.parameters.length) = some n
theorem zgc {y : MethodName} {cc2 : ByteArray} {nL2 : Nat} {ret2 : Option FieldType} (h : Cond.code y cc2 nL2 ret2 ∈ zgw) : GoodIn zgw (.code y cc2 nL2 ret2 :: zgw) := fun w hw => by
  rcases List.mem_cons.mp hw with rfl | hw
  · exact zgg _ h
  · exact zgg w hw
theorem zg_callV {d d2 : Nat} (C : zCx p R s m args meth c cc own E NS A nL ret d) {α2 : Type} {cv2 : α2 → Option Value} {ok2 : α2 → Prop} {y : MethodName} {cc2 : ByteArray} {nL2 ix : Nat} {ret2 : Option FieldType} {As : List Value} {b : Addr} {stk : List Value} {o1 : Option (α2 × zM)} {F : α2 → zM → Option (α × zM)} (q0 : Nat) (hq : pc + 3 = q0) (hd : decode cc pc = .ok (.invokevirtual ix, 3)) (hM : zCT l y cc2 nL2 ret2 d2 E NS A (.ref b :: As) M cv2 ok2 o1) (hs : stk = As.reverse ++ .ref b :: st) (hrec : ∀ (H : Heap) (locs : List Loc), va_P E.1 vwCl (zw E NS M) H → va_S A s.heap H locs → ∃ cellB : Cell, H[b]? = some cellB ∧ cellB.vm.isStatics = false ∧ s.vm.findClass y.cls = some cellB.cls) (hcw : Cond.code y cc2 nL2 ret2 ∈ zgw) (h1 : Cond.methodLink own ix y ∈ zgw) (h2 : Cond.instanceMethod y ∈ zgw) (h3 : Cond.selects y.cls y y ∈ zgw) (h4 : Cond.initialized y.cls ∈ zgw) (hok : zok y As.length) (hr : d2 < d ∧ nL2 ≤ 45) (hst : (st.map fun v => v.category).sum ≤ 8) (kk : ∀ (x : α2) (M1 : zM), ok2 x → zG p l e R s m args below meth c E NS A nL cv ok q0 ls ((cv2 x).toList ++ st) M1 (F x M1)) : zG p l e R s m args below meth c E NS A nL cv ok pc ls stk M (zbnd o1 F) := by
  subst hq
  intro r M2 ho H locs la hP hS hl
  subst hs
  obtain ⟨x, M1, h5, h6⟩ := zbnd_some ho
  have hR : (zrm d2).frames + 1 ≤ R.frames ∧ 8 + (nL2 + 11) + (zrm d2).locals ≤ R.locals := by
    obtain ⟨e1, e2⟩ := C.2.2.2.2.2.2.2.2.2.2
    rw [e1, e2]
    show d2 + 1 ≤ d ∧ 8 + (nL2 + 11) + 64 * d2 ≤ 64 * d
    omega
  have hM1 := hM x M1 h5
  have hpre : ∀ U : State, U.heap = H → s.WarmedH U.vm → zPre E NS A (.ref b :: As) M (.ref b :: As).toArray U := fun U hU hW => ⟨rfl, by rw [hU]; exact hP, va_K.moved hW.alike C.2.2.2.2.2.1, by rw [hU]; exact C.2.2.2.2.2.2.1.go hW hS.2.1⟩
  have cw : CallW R s args own y.cls ix y cc2 nL2 ret2 (.code y cc2 nL2 ret2 :: zgw) (zrm d2) 0 0 As.length := ⟨callB_of As.length C.2.2.2.2.1 (zgc hcw) rfl rfl rfl (C.2.2.2.2.1 _ h4) (C.2.2.2.2.1 _ h1) hok hR, C.2.2.2.2.1 _ h2, C.2.2.2.2.1 _ h3⟩
  exact zcall (va_runV (Ts := zgw) (As := As) (rest := st) ⟨C.1, C.2.1, C.2.2.1, C.2.2.2.1, C.2.2.2.2.1⟩ hM1 cw ⟨zPre.blind, hrec H locs hP hS, hpre⟩ rfl rfl hl.1 rfl (lv_room hst) hd ⟨Nat.zero_le _, Nat.zero_le _⟩) hS (fun H1 locs1 hP1 hx hS1 => kk x M1 hx r M2 h6 H1 locs1 la hP1 hS1 hl)
theorem zg_callS {d d2 : Nat} (C : zCx p R s m args meth c cc own E NS A nL ret d) {α2 : Type} {cv2 : α2 → Option Value} {ok2 : α2 → Prop} {y : MethodName} {cc2 : ByteArray} {nL2 ix : Nat} {ret2 : Option FieldType} {As : List Value}  {stk : List Value} {o1 : Option (α2 × zM)} {F : α2 → zM → Option (α × zM)} (q0 : Nat) (hq : pc + 3 = q0) (hd : decode cc pc = .ok (.invokestatic ix, 3)) (hM : zCT l y cc2 nL2 ret2 d2 E NS A As M cv2 ok2 o1) (hs : stk = As.reverse ++ st) (hcw : Cond.code y cc2 nL2 ret2 ∈ zgw) (h1 : Cond.methodLink own ix y ∈ zgw) (h2 : Cond.static y ∈ zgw) (h4 : Cond.initialized y.cls ∈ zgw) (hok : zok y As.length) (hr : d2 < d ∧ nL2 ≤ 45) (hst : (st.map fun v => v.category).sum ≤ 8) (kk : ∀ (x : α2) (M1 : zM), ok2 x → zG p l e R s m args below meth c E NS A nL cv ok q0 ls ((cv2 x).toList ++ st) M1 (F x M1)) : zG p l e R s m args below meth c E NS A nL cv ok pc ls stk M (zbnd o1 F) := by
  subst hq
  intro r M2 ho H locs la hP hS hl
  subst hs
  obtain ⟨x, M1, h5, h6⟩ := zbnd_some ho
  have hR : (zrm d2).frames + 1 ≤ R.frames ∧ 8 + (nL2 + 11) + (zrm d2).locals ≤ R.locals := by
    obtain ⟨e1, e2⟩ := C.2.2.2.2.2.2.2.2.2.2
    rw [e1, e2]
    show d2 + 1 ≤ d ∧ 8 + (nL2 + 11) + 64 * d2 ≤ 64 * d
    omega
  have hM1 := hM x M1 h5
  have hpre : ∀ U : State, U.heap = H → s.WarmedH U.vm → zPre E NS A As M As.toArray U := fun U hU hW => ⟨rfl, by rw [hU]; exact hP, va_K.moved hW.alike C.2.2.2.2.2.1, by rw [hU]; exact C.2.2.2.2.2.2.1.go hW hS.2.1⟩
  have cw : CallB R s args own ix y cc2 nL2 ret2 (.code y cc2 nL2 ret2 :: zgw) (zrm d2) 0 0 As.length ∧ (Cond.static y).before args s = true := ⟨callB_of As.length C.2.2.2.2.1 (zgc hcw) rfl rfl rfl (C.2.2.2.2.1 _ h4) (C.2.2.2.2.1 _ h1) hok hR, C.2.2.2.2.1 _ h2⟩
  exact zcall (va_runS (Ts := zgw) (As := As) (rest := st) ⟨C.1, C.2.1, C.2.2.1, C.2.2.2.1, C.2.2.2.2.1⟩ hM1 cw ⟨zPre.blind, hpre⟩ rfl rfl hl.1 rfl (lv_room hst) hd ⟨Nat.zero_le _, Nat.zero_le _⟩) hS (fun H1 locs1 hP1 hx hS1 => kk x M1 hx r M2 h6 H1 locs1 la hP1 hS1 hl)
theorem zg_callN {d d2 : Nat} (C : zCx p R s m args meth c cc own E NS A nL ret d) {α2 : Type} {cv2 : α2 → Option Value} {ok2 : α2 → Prop} {y : MethodName} {cc2 : ByteArray} {nL2 ix : Nat} {ret2 : Option FieldType} {As : List Value}  {stk : List Value} {o1 : Option (α2 × zM)} {F : α2 → zM → Option (α × zM)} (q0 : Nat) (hq : pc + 3 = q0) (hd : decode cc pc = .ok (.invokestatic ix, 3)) (hM : zCT l y cc2 nL2 ret2 d2 E NS A As M cv2 ok2 o1) (hs : stk = As.reverse ++ st) (hcw : Cond.code y cc2 nL2 ret2 ∈ zgw) (h1 : (own, ix, y) ∈ znM) (h2 : Cond.static y ∈ zgw) (h4 : Cond.initialized y.cls ∈ zgw) (hok : zok y As.length) (hr : d2 < d ∧ nL2 ≤ 45) (hst : (st.map fun v => v.category).sum ≤ 8) (kk : ∀ (x : α2) (M1 : zM), ok2 x → zG p l e R s m args below meth c E NS A nL cv ok q0 ls ((cv2 x).toList ++ st) M1 (F x M1)) : zG p l e R s m args below meth c E NS A nL cv ok pc ls stk M (zbnd o1 F) := by
  subst hq
  intro r M2 ho H locs la hP hS hl
  subst hs
  obtain ⟨x, M1, h5, h6⟩ := zbnd_some ho
  have hR : (zrm d2).frames + 1 ≤ R.frames ∧ 8 + (nL2 + 11) + (zrm d2).locals ≤ R.locals := by
    obtain ⟨e1, e2⟩ := C.2.2.2.2.2.2.2.2.2.2
    rw [e1, e2]
    show d2 + 1 ≤ d ∧ 8 + (nL2 + 11) + 64 * d2 ≤ 64 * d
    omega
  have hM1 := hM x M1 h5
  have hpre : ∀ U : State, U.heap = H → s.WarmedH U.vm → zPre E NS A As M As.toArray U := fun U hU hW => ⟨rfl, by rw [hU]; exact hP, va_K.moved hW.alike C.2.2.2.2.2.1, by rw [hU]; exact C.2.2.2.2.2.2.1.go hW hS.2.1⟩
  have cw : va_CN R s args own ix y "TwoTrue" cc2 nL2 ret2 (.code y cc2 nL2 ret2 :: zgw) (zrm d2) 0 0 As.length := va_cnB As.length C.2.2.2.2.1 (zgc hcw) rfl rfl rfl (C.2.2.2.2.2.2.1.2.2.2.2.2.1 _ h1) (C.2.2.2.2.1 _ h4) hok hR
  exact zcall (va_runSN (Ts := zgw) (As := As) (rest := st) ⟨C.1, C.2.1, C.2.2.1, C.2.2.2.1, C.2.2.2.2.1⟩ hM1 ⟨cw, C.2.2.2.2.1 _ h2, trivial⟩ ⟨zPre.blind, hpre⟩ rfl rfl hl.1 rfl (lv_room hst) hd ⟨Nat.zero_le _, Nat.zero_le _⟩) hS (fun H1 locs1 hP1 hx hS1 => kk x M1 hx r M2 h6 H1 locs1 la hP1 hS1 hl)
theorem zrecv {H : Heap} {k i ci N : Nat} {T : u_T} {cl : String} {fs : List Value} (hK : va_K E.1 vwCl (zty E) s) (hP : va_P E.1 vwCl (zw E NS M) H) (hi : (k, i) ∈ NS) (hf : zrow E k i (M.1 k i) (M.2 k i) = .inr (ci, fs)) (hc : vwCl[ci]? = some (cl, T, N)) : ∃ cellB : Cell, H[zad E k i]? = some cellB ∧ cellB.vm.isStatics = false ∧ s.vm.findClass cl = some cellB.cls := by
  obtain ⟨q, -, hq⟩ := zw_mem (E := E) (M := M) hi
  rw [hf] at hq
  exact va_recv hK hP hc hq
theorem zCT_of {y : MethodName} {As : List Value} {d : Nat} (hy : plainName y.cls = true) (hD : zD E NS A) (hlen : (lg_sl As).length ≤ nL) (hk : ∀ (p : Program) (e : Env) (R : Room) (s : State) (m : MethodId) (args : Array Value) (below : List Frame) (meth : Method) (c : Code), zCx p R s m args meth c cc y.cls E NS A nL ret d → zG p l e R s m args below meth c E NS A nL cv ok 0 (lv_args 0 As) [] M o) : zCT l y cc nL ret d E NS A As M cv ok o := by
  intro r M' ho
  refine Met.ofW (cc := cc) (maxL := nL) (ret := ret) hy rfl ?_
  intro p e s m args below meth c s₁ B hml hv
  obtain ⟨rfl, hP, hK, hE⟩ := hv
  have hts := atoms_spec (ws := .code y cc nL ret :: zgw) B.pre
  have C : zCx p (zrm d) s m As.toArray meth c cc y.cls E NS A nL ret d := ⟨B.exec, B.bytes, hml, findClass_of_methodNamed B.named, fun w hw => hts w (List.mem_cons_of_mem _ hw), hK, hE, B.notSynchronized, B.returns, hD, rfl, rfl⟩
  have hl := lv_entry As (n := nL) hlen
  rw [lg_entry_eq]
  exact hk p e (zrm d) s m _ below meth c C r M' ho s.heap [] _ hP va_S.rf hl
theorem zg_callVI {d d2 : Nat} (C : zCx p R s m args meth c cc own E NS A nL ret d) {ok2 : Int32 → Prop} {y : MethodName} {cc2 : ByteArray} {nL2 ix : Nat} {ret2 : Option FieldType} (As : List Value) {b : Addr} {stk : List Value} {o1 : Option (Int32 × zM)} {F : Int32 → zM → Option (α × zM)} (q0 : Nat) (hq : pc + 3 = q0) (hd : decode cc pc = .ok (.invokevirtual ix, 3)) (hM : zCT l y cc2 nL2 ret2 d2 E NS A (.ref b :: As) M zvI ok2 o1) (hs : stk = As.reverse ++ .ref b :: st) (hrec : ∀ (H : Heap) (locs : List Loc), va_P E.1 vwCl (zw E NS M) H → va_S A s.heap H locs → ∃ cellB : Cell, H[b]? = some cellB ∧ cellB.vm.isStatics = false ∧ s.vm.findClass y.cls = some cellB.cls) (hcw : Cond.code y cc2 nL2 ret2 ∈ zgw) (h1 : Cond.methodLink own ix y ∈ zgw) (h2 : Cond.instanceMethod y ∈ zgw) (h3 : Cond.selects y.cls y y ∈ zgw) (h4 : Cond.initialized y.cls ∈ zgw) (hok : zok y As.length) (hr : d2 < d ∧ nL2 ≤ 45) (hst : (st.map fun v => v.category).sum ≤ 8) (kk : ∀ (x : Int32) (M1 : zM), ok2 x → zG p l e R s m args below meth c E NS A nL cv ok q0 ls (.int x :: st) M1 (F x M1)) : zG p l e R s m args below meth c E NS A nL cv ok pc ls stk M (zbnd o1 F) := zg_callV C q0 hq hd hM hs hrec hcw h1 h2 h3 h4 hok hr hst kk
theorem zg_callVL {d d2 : Nat} (C : zCx p R s m args meth c cc own E NS A nL ret d) {ok2 : Int64 → Prop} {y : MethodName} {cc2 : ByteArray} {nL2 ix : Nat} {ret2 : Option FieldType} (As : List Value) {b : Addr} {stk : List Value} {o1 : Option (Int64 × zM)} {F : Int64 → zM → Option (α × zM)} (q0 : Nat) (hq : pc + 3 = q0) (hd : decode cc pc = .ok (.invokevirtual ix, 3)) (hM : zCT l y cc2 nL2 ret2 d2 E NS A (.ref b :: As) M zvL ok2 o1) (hs : stk = As.reverse ++ .ref b :: st) (hrec : ∀ (H : Heap) (locs : List Loc), va_P E.1 vwCl (zw E NS M) H → va_S A s.heap H locs → ∃ cellB : Cell, H[b]? = some cellB ∧ cellB.vm.isStatics = false ∧ s.vm.findClass y.cls = some cellB.cls) (hcw : Cond.code y cc2 nL2 ret2 ∈ zgw) (h1 : Cond.methodLink own ix y ∈ zgw) (h2 : Cond.instanceMethod y ∈ zgw) (h3 : Cond.selects y.cls y y ∈ zgw) (h4 : Cond.initialized y.cls ∈ zgw) (hok : zok y As.length) (hr : d2 < d ∧ nL2 ≤ 45) (hst : (st.map fun v => v.category).sum ≤ 8) (kk : ∀ (x : Int64) (M1 : zM), ok2 x → zG p l e R s m args below meth c E NS A nL cv ok q0 ls (.long x :: st) M1 (F x M1)) : zG p l e R s m args below meth c E NS A nL cv ok pc ls stk M (zbnd o1 F) := zg_callV C q0 hq hd hM hs hrec hcw h1 h2 h3 h4 hok hr hst kk
theorem zg_callVU {d d2 : Nat} (C : zCx p R s m args meth c cc own E NS A nL ret d) {ok2 : Unit → Prop} {y : MethodName} {cc2 : ByteArray} {nL2 ix : Nat} {ret2 : Option FieldType} (As : List Value) {b : Addr} {stk : List Value} {o1 : Option (Unit × zM)} {F : Unit → zM → Option (α × zM)} (q0 : Nat) (hq : pc + 3 = q0) (hd : decode cc pc = .ok (.invokevirtual ix, 3)) (hM : zCT l y cc2 nL2 ret2 d2 E NS A (.ref b :: As) M zvU ok2 o1) (hs : stk = As.reverse ++ .ref b :: st) (hrec : ∀ (H : Heap) (locs : List Loc), va_P E.1 vwCl (zw E NS M) H → va_S A s.heap H locs → ∃ cellB : Cell, H[b]? = some cellB ∧ cellB.vm.isStatics = false ∧ s.vm.findClass y.cls = some cellB.cls) (hcw : Cond.code y cc2 nL2 ret2 ∈ zgw) (h1 : Cond.methodLink own ix y ∈ zgw) (h2 : Cond.instanceMethod y ∈ zgw) (h3 : Cond.selects y.cls y y ∈ zgw) (h4 : Cond.initialized y.cls ∈ zgw) (hok : zok y As.length) (hr : d2 < d ∧ nL2 ≤ 45) (hst : (st.map fun v => v.category).sum ≤ 8) (kk : ∀ (x : Unit) (M1 : zM), ok2 x → zG p l e R s m args below meth c E NS A nL cv ok q0 ls (st) M1 (F x M1)) : zG p l e R s m args below meth c E NS A nL cv ok pc ls stk M (zbnd o1 F) := zg_callV C q0 hq hd hM hs hrec hcw h1 h2 h3 h4 hok hr hst kk
theorem zg_callVR {d d2 : Nat} (C : zCx p R s m args meth c cc own E NS A nL ret d) {k2 : Nat} {ok2 : Nat → Prop} {y : MethodName} {cc2 : ByteArray} {nL2 ix : Nat} {ret2 : Option FieldType} (As : List Value) {b : Addr} {stk : List Value} {o1 : Option (Nat × zM)} {F : Nat → zM → Option (α × zM)} (q0 : Nat) (hq : pc + 3 = q0) (hd : decode cc pc = .ok (.invokevirtual ix, 3)) (hM : zCT l y cc2 nL2 ret2 d2 E NS A (.ref b :: As) M (zvR E k2) ok2 o1) (hs : stk = As.reverse ++ .ref b :: st) (hrec : ∀ (H : Heap) (locs : List Loc), va_P E.1 vwCl (zw E NS M) H → va_S A s.heap H locs → ∃ cellB : Cell, H[b]? = some cellB ∧ cellB.vm.isStatics = false ∧ s.vm.findClass y.cls = some cellB.cls) (hcw : Cond.code y cc2 nL2 ret2 ∈ zgw) (h1 : Cond.methodLink own ix y ∈ zgw) (h2 : Cond.instanceMethod y ∈ zgw) (h3 : Cond.selects y.cls y y ∈ zgw) (h4 : Cond.initialized y.cls ∈ zgw) (hok : zok y As.length) (hr : d2 < d ∧ nL2 ≤ 45) (hst : (st.map fun v => v.category).sum ≤ 8) (kk : ∀ (x : Nat) (M1 : zM), ok2 x → zG p l e R s m args below meth c E NS A nL cv ok q0 ls (.ref (zad E k2 x) :: st) M1 (F x M1)) : zG p l e R s m args below meth c E NS A nL cv ok pc ls stk M (zbnd o1 F) := zg_callV C q0 hq hd hM hs hrec hcw h1 h2 h3 h4 hok hr hst kk
theorem zg_callSI {d d2 : Nat} (C : zCx p R s m args meth c cc own E NS A nL ret d) {ok2 : Int32 → Prop} {y : MethodName} {cc2 : ByteArray} {nL2 ix : Nat} {ret2 : Option FieldType} (As : List Value)  {stk : List Value} {o1 : Option (Int32 × zM)} {F : Int32 → zM → Option (α × zM)} (q0 : Nat) (hq : pc + 3 = q0) (hd : decode cc pc = .ok (.invokestatic ix, 3)) (hM : zCT l y cc2 nL2 ret2 d2 E NS A As M zvI ok2 o1) (hs : stk = As.reverse ++ st) (hcw : Cond.code y cc2 nL2 ret2 ∈ zgw) (h1 : Cond.methodLink own ix y ∈ zgw) (h2 : Cond.static y ∈ zgw) (h4 : Cond.initialized y.cls ∈ zgw) (hok : zok y As.length) (hr : d2 < d ∧ nL2 ≤ 45) (hst : (st.map fun v => v.category).sum ≤ 8) (kk : ∀ (x : Int32) (M1 : zM), ok2 x → zG p l e R s m args below meth c E NS A nL cv ok q0 ls (.int x :: st) M1 (F x M1)) : zG p l e R s m args below meth c E NS A nL cv ok pc ls stk M (zbnd o1 F) := zg_callS C q0 hq hd hM hs hcw h1 h2 h4 hok hr hst kk
theorem zg_callSL {d d2 : Nat} (C : zCx p R s m args meth c cc own E NS A nL ret d) {ok2 : Int64 → Prop} {y : MethodName} {cc2 : ByteArray} {nL2 ix : Nat} {ret2 : Option FieldType} (As : List Value)  {stk : List Value} {o1 : Option (Int64 × zM)} {F : Int64 → zM → Option (α × zM)} (q0 : Nat) (hq : pc + 3 = q0) (hd : decode cc pc = .ok (.invokestatic ix, 3)) (hM : zCT l y cc2 nL2 ret2 d2 E NS A As M zvL ok2 o1) (hs : stk = As.reverse ++ st) (hcw : Cond.code y cc2 nL2 ret2 ∈ zgw) (h1 : Cond.methodLink own ix y ∈ zgw) (h2 : Cond.static y ∈ zgw) (h4 : Cond.initialized y.cls ∈ zgw) (hok : zok y As.length) (hr : d2 < d ∧ nL2 ≤ 45) (hst : (st.map fun v => v.category).sum ≤ 8) (kk : ∀ (x : Int64) (M1 : zM), ok2 x → zG p l e R s m args below meth c E NS A nL cv ok q0 ls (.long x :: st) M1 (F x M1)) : zG p l e R s m args below meth c E NS A nL cv ok pc ls stk M (zbnd o1 F) := zg_callS C q0 hq hd hM hs hcw h1 h2 h4 hok hr hst kk
theorem zg_callSU {d d2 : Nat} (C : zCx p R s m args meth c cc own E NS A nL ret d) {ok2 : Unit → Prop} {y : MethodName} {cc2 : ByteArray} {nL2 ix : Nat} {ret2 : Option FieldType} (As : List Value)  {stk : List Value} {o1 : Option (Unit × zM)} {F : Unit → zM → Option (α × zM)} (q0 : Nat) (hq : pc + 3 = q0) (hd : decode cc pc = .ok (.invokestatic ix, 3)) (hM : zCT l y cc2 nL2 ret2 d2 E NS A As M zvU ok2 o1) (hs : stk = As.reverse ++ st) (hcw : Cond.code y cc2 nL2 ret2 ∈ zgw) (h1 : Cond.methodLink own ix y ∈ zgw) (h2 : Cond.static y ∈ zgw) (h4 : Cond.initialized y.cls ∈ zgw) (hok : zok y As.length) (hr : d2 < d ∧ nL2 ≤ 45) (hst : (st.map fun v => v.category).sum ≤ 8) (kk : ∀ (x : Unit) (M1 : zM), ok2 x → zG p l e R s m args below meth c E NS A nL cv ok q0 ls (st) M1 (F x M1)) : zG p l e R s m args below meth c E NS A nL cv ok pc ls stk M (zbnd o1 F) := zg_callS C q0 hq hd hM hs hcw h1 h2 h4 hok hr hst kk
theorem zg_callSR {d d2 : Nat} (C : zCx p R s m args meth c cc own E NS A nL ret d) {k2 : Nat} {ok2 : Nat → Prop} {y : MethodName} {cc2 : ByteArray} {nL2 ix : Nat} {ret2 : Option FieldType} (As : List Value)  {stk : List Value} {o1 : Option (Nat × zM)} {F : Nat → zM → Option (α × zM)} (q0 : Nat) (hq : pc + 3 = q0) (hd : decode cc pc = .ok (.invokestatic ix, 3)) (hM : zCT l y cc2 nL2 ret2 d2 E NS A As M (zvR E k2) ok2 o1) (hs : stk = As.reverse ++ st) (hcw : Cond.code y cc2 nL2 ret2 ∈ zgw) (h1 : Cond.methodLink own ix y ∈ zgw) (h2 : Cond.static y ∈ zgw) (h4 : Cond.initialized y.cls ∈ zgw) (hok : zok y As.length) (hr : d2 < d ∧ nL2 ≤ 45) (hst : (st.map fun v => v.category).sum ≤ 8) (kk : ∀ (x : Nat) (M1 : zM), ok2 x → zG p l e R s m args below meth c E NS A nL cv ok q0 ls (.ref (zad E k2 x) :: st) M1 (F x M1)) : zG p l e R s m args below meth c E NS A nL cv ok pc ls stk M (zbnd o1 F) := zg_callS C q0 hq hd hM hs hcw h1 h2 h4 hok hr hst kk
theorem zg_callNI {d d2 : Nat} (C : zCx p R s m args meth c cc own E NS A nL ret d) {ok2 : Int32 → Prop} {y : MethodName} {cc2 : ByteArray} {nL2 ix : Nat} {ret2 : Option FieldType} (As : List Value)  {stk : List Value} {o1 : Option (Int32 × zM)} {F : Int32 → zM → Option (α × zM)} (q0 : Nat) (hq : pc + 3 = q0) (hd : decode cc pc = .ok (.invokestatic ix, 3)) (hM : zCT l y cc2 nL2 ret2 d2 E NS A As M zvI ok2 o1) (hs : stk = As.reverse ++ st) (hcw : Cond.code y cc2 nL2 ret2 ∈ zgw) (h1 : (own, ix, y) ∈ znM) (h2 : Cond.static y ∈ zgw) (h4 : Cond.initialized y.cls ∈ zgw) (hok : zok y As.length) (hr : d2 < d ∧ nL2 ≤ 45) (hst : (st.map fun v => v.category).sum ≤ 8) (kk : ∀ (x : Int32) (M1 : zM), ok2 x → zG p l e R s m args below meth c E NS A nL cv ok q0 ls (.int x :: st) M1 (F x M1)) : zG p l e R s m args below meth c E NS A nL cv ok pc ls stk M (zbnd o1 F) := zg_callN C q0 hq hd hM hs hcw h1 h2 h4 hok hr hst kk
theorem zg_callNL {d d2 : Nat} (C : zCx p R s m args meth c cc own E NS A nL ret d) {ok2 : Int64 → Prop} {y : MethodName} {cc2 : ByteArray} {nL2 ix : Nat} {ret2 : Option FieldType} (As : List Value)  {stk : List Value} {o1 : Option (Int64 × zM)} {F : Int64 → zM → Option (α × zM)} (q0 : Nat) (hq : pc + 3 = q0) (hd : decode cc pc = .ok (.invokestatic ix, 3)) (hM : zCT l y cc2 nL2 ret2 d2 E NS A As M zvL ok2 o1) (hs : stk = As.reverse ++ st) (hcw : Cond.code y cc2 nL2 ret2 ∈ zgw) (h1 : (own, ix, y) ∈ znM) (h2 : Cond.static y ∈ zgw) (h4 : Cond.initialized y.cls ∈ zgw) (hok : zok y As.length) (hr : d2 < d ∧ nL2 ≤ 45) (hst : (st.map fun v => v.category).sum ≤ 8) (kk : ∀ (x : Int64) (M1 : zM), ok2 x → zG p l e R s m args below meth c E NS A nL cv ok q0 ls (.long x :: st) M1 (F x M1)) : zG p l e R s m args below meth c E NS A nL cv ok pc ls stk M (zbnd o1 F) := zg_callN C q0 hq hd hM hs hcw h1 h2 h4 hok hr hst kk
theorem zg_callNU {d d2 : Nat} (C : zCx p R s m args meth c cc own E NS A nL ret d) {ok2 : Unit → Prop} {y : MethodName} {cc2 : ByteArray} {nL2 ix : Nat} {ret2 : Option FieldType} (As : List Value)  {stk : List Value} {o1 : Option (Unit × zM)} {F : Unit → zM → Option (α × zM)} (q0 : Nat) (hq : pc + 3 = q0) (hd : decode cc pc = .ok (.invokestatic ix, 3)) (hM : zCT l y cc2 nL2 ret2 d2 E NS A As M zvU ok2 o1) (hs : stk = As.reverse ++ st) (hcw : Cond.code y cc2 nL2 ret2 ∈ zgw) (h1 : (own, ix, y) ∈ znM) (h2 : Cond.static y ∈ zgw) (h4 : Cond.initialized y.cls ∈ zgw) (hok : zok y As.length) (hr : d2 < d ∧ nL2 ≤ 45) (hst : (st.map fun v => v.category).sum ≤ 8) (kk : ∀ (x : Unit) (M1 : zM), ok2 x → zG p l e R s m args below meth c E NS A nL cv ok q0 ls (st) M1 (F x M1)) : zG p l e R s m args below meth c E NS A nL cv ok pc ls stk M (zbnd o1 F) := zg_callN C q0 hq hd hM hs hcw h1 h2 h4 hok hr hst kk
theorem zg_callNR {d d2 : Nat} (C : zCx p R s m args meth c cc own E NS A nL ret d) {k2 : Nat} {ok2 : Nat → Prop} {y : MethodName} {cc2 : ByteArray} {nL2 ix : Nat} {ret2 : Option FieldType} (As : List Value)  {stk : List Value} {o1 : Option (Nat × zM)} {F : Nat → zM → Option (α × zM)} (q0 : Nat) (hq : pc + 3 = q0) (hd : decode cc pc = .ok (.invokestatic ix, 3)) (hM : zCT l y cc2 nL2 ret2 d2 E NS A As M (zvR E k2) ok2 o1) (hs : stk = As.reverse ++ st) (hcw : Cond.code y cc2 nL2 ret2 ∈ zgw) (h1 : (own, ix, y) ∈ znM) (h2 : Cond.static y ∈ zgw) (h4 : Cond.initialized y.cls ∈ zgw) (hok : zok y As.length) (hr : d2 < d ∧ nL2 ≤ 45) (hst : (st.map fun v => v.category).sum ≤ 8) (kk : ∀ (x : Nat) (M1 : zM), ok2 x → zG p l e R s m args below meth c E NS A nL cv ok q0 ls (.ref (zad E k2 x) :: st) M1 (F x M1)) : zG p l e R s m args below meth c E NS A nL cv ok pc ls stk M (zbnd o1 F) := zg_callN C q0 hq hd hM hs hcw h1 h2 h4 hok hr hst kk
theorem zg_jn {β : Type} {f : β} {g : β → Option (α × zM)} (P : β → Prop) (hf : P f) (hg : ∀ j : β, P j → zG p l e R s m args below meth c E NS A nL cv ok pc ls st M (g j)) : zG p l e R s m args below meth c E NS A nL cv ok pc ls st M (zjn f g) := hg f hf
theorem zg_tb {d : Nat} (C : zCx p R s m args meth c cc own E NS A nL ret d) {t : Nat} {x : Int32} (q0 : Nat) (hq : pc + 1 = q0) (ht : t < 4) (hd : decode cc pc = .ok (.baload, 1)) (kk : zG p l e R s m args below meth c E NS A nL cv ok q0 ls (.int ((zbyt.getD t []).getD x.toNatClampNeg 0) :: st) M o) : zG p l e R s m args below meth c E NS A nL cv ok pc ls (.int x :: .ref (zsv E t) :: st) M (zchk (zin x (zlen.getD t 0)) o) := by
  subst hq
  intro r M2 ho H locs la hP hS hl
  obtain ⟨h1, h2⟩ := zchk_some ho
  exact va_tb C.1 C.2.1 (C.2.2.2.2.2.2.1.2.2.2.1.1 t ht).2.2.2 hS (zin_vp h1) rfl hd (kk r M2 h2 H locs la hP hS hl)
theorem zg_tlen {d : Nat} (C : zCx p R s m args meth c cc own E NS A nL ret d) {t : Nat} (q0 : Nat) (hq : pc + 1 = q0) (ht : t < 4) (hd : decode cc pc = .ok (.arraylength, 1)) (kk : zG p l e R s m args below meth c E NS A nL cv ok q0 ls (.int (nI (zlen.getD t 0)) :: st) M o) : zG p l e R s m args below meth c E NS A nL cv ok pc ls (.ref (zsv E t) :: st) M o := by
  subst hq
  intro r M2 ho H locs la hP hS hl
  exact va_tlen C.1 C.2.1 (C.2.2.2.2.2.2.1.2.2.2.1.1 t ht).2.2.2 hS rfl hd (kk r M2 ho H locs la hP hS hl)
theorem zg_getO {d : Nat} (C : zCx p R s m args meth c cc "java/lang/String" E NS A nL ret d) {ix : Nat} (q0 : Nat) (hq : pc + 3 = q0) (hd : decode cc pc = .ok (.getstatic ix, 3)) (hlk : Cond.fieldLink "java/lang/String" ix "jdk/internal/util/Preconditions" "SIOOBE_FORMATTER" "Ljava/util/function/BiFunction;" ∈ zgw) (kk : ∀ t : Nat, zG p l e R s m args below meth c E NS A nL cv ok q0 ls (.ref t :: st) M o) : zG p l e R s m args below meth c E NS A nL cv ok pc ls st M o := by
  subst hq
  intro r M2 ho H locs la hP hS hl
  obtain ⟨t, ht⟩ := C.2.2.2.2.2.2.1.2.2.1
  exact va_gets C.1 C.2.1 ht hS C.2.2.2.1 (C.2.2.2.2.1 _ hlk) (fun _ h => h) hd (kk t r M2 ho H locs la hP hS hl)
end zS
end
