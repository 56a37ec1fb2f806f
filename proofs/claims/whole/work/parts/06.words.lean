theorem zv0 : Jvm.Cond.selects "TwoTrue$Text" ⟨"TwoTrue$Text", "readClause", "(LTwoTrue$Evening;)Z"⟩ ⟨"TwoTrue$Text", "readClause", "(LTwoTrue$Evening;)Z"⟩ ∈ zgw := zgm 0 (by decide +kernel) rfl
theorem zv1 : Jvm.Cond.selects "TwoTrue$Text" ⟨"TwoTrue$Text", "sees", "(I)Z"⟩ ⟨"TwoTrue$Text", "sees", "(I)Z"⟩ ∈ zgw := zgm 1 (by decide +kernel) rfl
theorem zv2 : Jvm.Cond.selects "TwoTrue$Text" ⟨"TwoTrue$Text", "passesWord", "(Ljava/lang/String;)Z"⟩ ⟨"TwoTrue$Text", "passesWord", "(Ljava/lang/String;)Z"⟩ ∈ zgw := zgm 2 (by decide +kernel) rfl
theorem zv3 : Jvm.Cond.selects "TwoTrue$Text" ⟨"TwoTrue$Text", "passes", "(I)Z"⟩ ⟨"TwoTrue$Text", "passes", "(I)Z"⟩ ∈ zgw := zgm 3 (by decide +kernel) rfl
theorem zv4 : Jvm.Cond.selects "TwoTrue$Text" ⟨"TwoTrue$Text", "readNumber", "()Z"⟩ ⟨"TwoTrue$Text", "readNumber", "()Z"⟩ ∈ zgw := zgm 4 (by decide +kernel) rfl
theorem zv5 : Jvm.Cond.selects "TwoTrue$Text" ⟨"TwoTrue$Text", "seesDigit", "()Z"⟩ ⟨"TwoTrue$Text", "seesDigit", "()Z"⟩ ∈ zgw := zgm 5 (by decide +kernel) rfl
theorem zv6 : Jvm.Cond.selects "TwoTrue$Text" ⟨"TwoTrue$Text", "readE", "(LTwoTrue$Evening;I)Z"⟩ ⟨"TwoTrue$Text", "readE", "(LTwoTrue$Evening;I)Z"⟩ ∈ zgw := zgm 6 (by decide +kernel) rfl
theorem zv7 : Jvm.Cond.selects "TwoTrue$Text" ⟨"TwoTrue$Text", "readF", "(LTwoTrue$Evening;I)Z"⟩ ⟨"TwoTrue$Text", "readF", "(LTwoTrue$Evening;I)Z"⟩ ∈ zgw := zgm 7 (by decide +kernel) rfl
theorem zv8 : Jvm.Cond.selects "TwoTrue$Text" ⟨"TwoTrue$Text", "readTest", "(LTwoTrue$Evening;)Z"⟩ ⟨"TwoTrue$Text", "readTest", "(LTwoTrue$Evening;)Z"⟩ ∈ zgw := zgm 8 (by decide +kernel) rfl
theorem zv9 : Jvm.Cond.selects "TwoTrue" ⟨"TwoTrue", "held", "()LTwoTrue$Evening;"⟩ ⟨"TwoTrue", "held", "()LTwoTrue$Evening;"⟩ ∈ zgw := zgm 9 (by decide +kernel) rfl
theorem zv10 : Jvm.Cond.selects "TwoTrue$Evening" ⟨"TwoTrue$Evening", "runClauses", "()I"⟩ ⟨"TwoTrue$Evening", "runClauses", "()I"⟩ ∈ zgw := zgm 10 (by decide +kernel) rfl
theorem zv11 : Jvm.Cond.selects "TwoTrue$Evening" ⟨"TwoTrue$Evening", "holds", "(III)Z"⟩ ⟨"TwoTrue$Evening", "holds", "(III)Z"⟩ ∈ zgw := zgm 11 (by decide +kernel) rfl
theorem zv12 : Jvm.Cond.selects "TwoTrue" ⟨"TwoTrue", "playForPoints", "(LTwoTrue$Party;I)I"⟩ ⟨"TwoTrue", "playForPoints", "(LTwoTrue$Party;I)I"⟩ ∈ zgw := zgm 12 (by decide +kernel) rfl
theorem zv13 : Jvm.Cond.selects "TwoTrue" ⟨"TwoTrue", "playAsEver", "(LTwoTrue$Party;I)I"⟩ ⟨"TwoTrue", "playAsEver", "(LTwoTrue$Party;I)I"⟩ ∈ zgw := zgm 13 (by decide +kernel) rfl
theorem zv14 : Jvm.Cond.selects "TwoTrue$Play" ⟨"TwoTrue$Play", "addedTo", "(LTwoTrue$Person;LTwoTrue$Person;ILTwoTrue$Party;)I"⟩ ⟨"TwoTrue$Play", "addedTo", "(LTwoTrue$Person;LTwoTrue$Person;ILTwoTrue$Party;)I"⟩ ∈ zgw := zgm 14 (by decide +kernel) rfl
theorem zv15 : Jvm.Cond.selects "TwoTrue" ⟨"TwoTrue", "seekLine", "(I)I"⟩ ⟨"TwoTrue", "seekLine", "(I)I"⟩ ∈ zgw := zgm 15 (by decide +kernel) rfl
theorem zv16 : Jvm.Cond.selects "TwoTrue" ⟨"TwoTrue", "guessOfGuest", "(LTwoTrue$Person;LTwoTrue$Person;)I"⟩ ⟨"TwoTrue", "guessOfGuest", "(LTwoTrue$Person;LTwoTrue$Person;)I"⟩ ∈ zgw := zgm 16 (by decide +kernel) rfl
theorem zv17 : Jvm.Cond.selects "TwoTrue$Acts" ⟨"TwoTrue$Acts", "perform", "(LTwoTrue$Person;IIII)I"⟩ ⟨"TwoTrue$Acts", "perform", "(LTwoTrue$Person;IIII)I"⟩ ∈ zgw := zgm 17 (by decide +kernel) rfl
theorem zv18 : Jvm.Cond.selects "TwoTrue$Acts" ⟨"TwoTrue$Acts", "runBody", "(ILTwoTrue$Person;III)I"⟩ ⟨"TwoTrue$Acts", "runBody", "(ILTwoTrue$Person;III)I"⟩ ∈ zgw := zgm 18 (by decide +kernel) rfl
theorem zv19 : Jvm.Cond.selects "TwoTrueModel" ⟨"TwoTrueModel", "in", "(III)Z"⟩ ⟨"TwoTrueModel", "in", "(III)Z"⟩ ∈ zgw := zgm 19 (by decide +kernel) rfl
theorem zv20 : Jvm.Cond.selects "TwoTrueModel" ⟨"TwoTrueModel", "isPerson", "(I)Z"⟩ ⟨"TwoTrueModel", "isPerson", "(I)Z"⟩ ∈ zgw := zgm 20 (by decide +kernel) rfl
theorem zv21 : Jvm.Cond.selects "TwoTrueModel" ⟨"TwoTrueModel", "layTale", "(III)V"⟩ ⟨"TwoTrueModel", "layTale", "(III)V"⟩ ∈ zgw := zgm 21 (by decide +kernel) rfl
theorem zv22 : Jvm.Cond.selects "TwoTrueModel" ⟨"TwoTrueModel", "goesText", "(I)Z"⟩ ⟨"TwoTrueModel", "goesText", "(I)Z"⟩ ∈ zgw := zgm 22 (by decide +kernel) rfl
theorem zv23 : Jvm.Cond.selects "TwoTrueModel" ⟨"TwoTrueModel", "takesClause", "(I)Z"⟩ ⟨"TwoTrueModel", "takesClause", "(I)Z"⟩ ∈ zgw := zgm 23 (by decide +kernel) rfl
theorem zv24 : Jvm.Cond.selects "TwoTrueModel" ⟨"TwoTrueModel", "takesHead", "(I)Z"⟩ ⟨"TwoTrueModel", "takesHead", "(I)Z"⟩ ∈ zgw := zgm 24 (by decide +kernel) rfl
theorem zv25 : Jvm.Cond.selects "TwoTrueModel" ⟨"TwoTrueModel", "next", "()I"⟩ ⟨"TwoTrueModel", "next", "()I"⟩ ∈ zgw := zgm 25 (by decide +kernel) rfl
theorem zv26 : Jvm.Cond.selects "TwoTrueModel" ⟨"TwoTrueModel", "takesWord", "(II)Z"⟩ ⟨"TwoTrueModel", "takesWord", "(II)Z"⟩ ∈ zgw := zgm 26 (by decide +kernel) rfl
theorem zv27 : Jvm.Cond.selects "TwoTrueModel" ⟨"TwoTrueModel", "takes", "(I)Z"⟩ ⟨"TwoTrueModel", "takes", "(I)Z"⟩ ∈ zgw := zgm 27 (by decide +kernel) rfl
theorem zv28 : Jvm.Cond.selects "TwoTrueModel" ⟨"TwoTrueModel", "takesNumber", "()Z"⟩ ⟨"TwoTrueModel", "takesNumber", "()Z"⟩ ∈ zgw := zgm 28 (by decide +kernel) rfl
theorem zv29 : Jvm.Cond.selects "TwoTrueModel" ⟨"TwoTrueModel", "isDigit", "()Z"⟩ ⟨"TwoTrueModel", "isDigit", "()Z"⟩ ∈ zgw := zgm 29 (by decide +kernel) rfl
theorem zv30 : Jvm.Cond.selects "TwoTrueModel" ⟨"TwoTrueModel", "takesE", "(I)Z"⟩ ⟨"TwoTrueModel", "takesE", "(I)Z"⟩ ∈ zgw := zgm 30 (by decide +kernel) rfl
theorem zv31 : Jvm.Cond.selects "TwoTrueModel" ⟨"TwoTrueModel", "takesTest", "()Z"⟩ ⟨"TwoTrueModel", "takesTest", "()Z"⟩ ∈ zgw := zgm 31 (by decide +kernel) rfl
theorem zv32 : Jvm.Cond.selects "TwoTrueModel" ⟨"TwoTrueModel", "place", "(I)I"⟩ ⟨"TwoTrueModel", "place", "(I)I"⟩ ∈ zgw := zgm 32 (by decide +kernel) rfl
theorem zv33 : Jvm.Cond.selects "TwoTrueModel" ⟨"TwoTrueModel", "emits", "(I)V"⟩ ⟨"TwoTrueModel", "emits", "(I)V"⟩ ∈ zgw := zgm 33 (by decide +kernel) rfl
theorem zv34 : Jvm.Cond.selects "TwoTrueModel" ⟨"TwoTrueModel", "whole", "()V"⟩ ⟨"TwoTrueModel", "whole", "()V"⟩ ∈ zgw := zgm 34 (by decide +kernel) rfl
theorem zv35 : Jvm.Cond.selects "TwoTrueModel" ⟨"TwoTrueModel", "settle", "(I)V"⟩ ⟨"TwoTrueModel", "settle", "(I)V"⟩ ∈ zgw := zgm 35 (by decide +kernel) rfl
theorem zv36 : Jvm.Cond.selects "TwoTrueModel" ⟨"TwoTrueModel", "handsNow", "()I"⟩ ⟨"TwoTrueModel", "handsNow", "()I"⟩ ∈ zgw := zgm 36 (by decide +kernel) rfl
theorem zv37 : Jvm.Cond.selects "TwoTrueModel" ⟨"TwoTrueModel", "begin", "()I"⟩ ⟨"TwoTrueModel", "begin", "()I"⟩ ∈ zgw := zgm 37 (by decide +kernel) rfl
theorem zv38 : Jvm.Cond.selects "TwoTrueModel" ⟨"TwoTrueModel", "behind", "()I"⟩ ⟨"TwoTrueModel", "behind", "()I"⟩ ∈ zgw := zgm 38 (by decide +kernel) rfl
theorem zv39 : Jvm.Cond.selects "TwoTrueModel" ⟨"TwoTrueModel", "doubtOf", "(III)I"⟩ ⟨"TwoTrueModel", "doubtOf", "(III)I"⟩ ∈ zgw := zgm 39 (by decide +kernel) rfl
theorem zv40 : Jvm.Cond.selects "TwoTrueModel" ⟨"TwoTrueModel", "holds", "(IIII)Z"⟩ ⟨"TwoTrueModel", "holds", "(IIII)Z"⟩ ∈ zgw := zgm 40 (by decide +kernel) rfl
theorem zv41 : Jvm.Cond.selects "TwoTrueModel" ⟨"TwoTrueModel", "factOf", "(IIII)I"⟩ ⟨"TwoTrueModel", "factOf", "(IIII)I"⟩ ∈ zgw := zgm 41 (by decide +kernel) rfl
theorem zv42 : Jvm.Cond.selects "TwoTrueModel" ⟨"TwoTrueModel", "goRound", "(I)I"⟩ ⟨"TwoTrueModel", "goRound", "(I)I"⟩ ∈ zgw := zgm 42 (by decide +kernel) rfl
theorem zv43 : Jvm.Cond.selects "TwoTrueModel" ⟨"TwoTrueModel", "goes", "(I)I"⟩ ⟨"TwoTrueModel", "goes", "(I)I"⟩ ∈ zgw := zgm 43 (by decide +kernel) rfl
theorem zv44 : Jvm.Cond.selects "TwoTrueModel" ⟨"TwoTrueModel", "clearHands", "()V"⟩ ⟨"TwoTrueModel", "clearHands", "()V"⟩ ∈ zgw := zgm 44 (by decide +kernel) rfl
theorem zv45 : Jvm.Cond.selects "TwoTrueModel" ⟨"TwoTrueModel", "guesses", "(II)V"⟩ ⟨"TwoTrueModel", "guesses", "(II)V"⟩ ∈ zgw := zgm 45 (by decide +kernel) rfl
theorem zv46 : Jvm.Cond.selects "TwoTrueModel" ⟨"TwoTrueModel", "choice", "(II)I"⟩ ⟨"TwoTrueModel", "choice", "(II)I"⟩ ∈ zgw := zgm 46 (by decide +kernel) rfl
theorem zv47 : Jvm.Cond.selects "TwoTrueModel" ⟨"TwoTrueModel", "weightOf", "(III)I"⟩ ⟨"TwoTrueModel", "weightOf", "(III)I"⟩ ∈ zgw := zgm 47 (by decide +kernel) rfl
theorem zv48 : Jvm.Cond.selects "TwoTrueModel" ⟨"TwoTrueModel", "friendly", "(III)I"⟩ ⟨"TwoTrueModel", "friendly", "(III)I"⟩ ∈ zgw := zgm 48 (by decide +kernel) rfl
theorem zv49 : Jvm.Cond.selects "TwoTrueModel" ⟨"TwoTrueModel", "liePlace", "(I)I"⟩ ⟨"TwoTrueModel", "liePlace", "(I)I"⟩ ∈ zgw := zgm 49 (by decide +kernel) rfl
theorem zv50 : Jvm.Cond.selects "TwoTrueModel" ⟨"TwoTrueModel", "layLine", "(III)Z"⟩ ⟨"TwoTrueModel", "layLine", "(III)Z"⟩ ∈ zgw := zgm 50 (by decide +kernel) rfl
theorem zv51 : Jvm.Cond.selects "TwoTrueModel" ⟨"TwoTrueModel", "has", "(II)Z"⟩ ⟨"TwoTrueModel", "has", "(II)Z"⟩ ∈ zgw := zgm 51 (by decide +kernel) rfl
theorem zv52 : Jvm.Cond.selects "TwoTrueModel" ⟨"TwoTrueModel", "rightsOf", "(I)I"⟩ ⟨"TwoTrueModel", "rightsOf", "(I)I"⟩ ∈ zgw := zgm 52 (by decide +kernel) rfl
theorem zv53 : Jvm.Cond.selects "TwoTrueModel" ⟨"TwoTrueModel", "lowest", "(III)J"⟩ ⟨"TwoTrueModel", "lowest", "(III)J"⟩ ∈ zgw := zgm 53 (by decide +kernel) rfl
theorem zv54 : Jvm.Cond.selects "TwoTrueModel" ⟨"TwoTrueModel", "divisor", "(II)I"⟩ ⟨"TwoTrueModel", "divisor", "(II)I"⟩ ∈ zgw := zgm 54 (by decide +kernel) rfl
theorem zv55 : Jvm.Cond.selects "TwoTrueModel" ⟨"TwoTrueModel", "isTape", "(I)Z"⟩ ⟨"TwoTrueModel", "isTape", "(I)Z"⟩ ∈ zgw := zgm 55 (by decide +kernel) rfl
theorem zv56 : Jvm.Cond.selects "TwoTrueModel" ⟨"TwoTrueModel", "doubtsAct", "(II)I"⟩ ⟨"TwoTrueModel", "doubtsAct", "(II)I"⟩ ∈ zgw := zgm 56 (by decide +kernel) rfl
theorem zv57 : Jvm.Cond.selects "TwoTrueModel" ⟨"TwoTrueModel", "body", "(I)V"⟩ ⟨"TwoTrueModel", "body", "(I)V"⟩ ∈ zgw := zgm 57 (by decide +kernel) rfl
theorem zv58 : Jvm.Cond.selects "TwoTrueModel" ⟨"TwoTrueModel", "guestDoubts", "(II)I"⟩ ⟨"TwoTrueModel", "guestDoubts", "(II)I"⟩ ∈ zgw := zgm 58 (by decide +kernel) rfl
theorem zv59 : Jvm.Cond.selects "TwoTrueModel" ⟨"TwoTrueModel", "guessesAct", "(II)I"⟩ ⟨"TwoTrueModel", "guessesAct", "(II)I"⟩ ∈ zgw := zgm 59 (by decide +kernel) rfl
theorem zv60 : Jvm.Cond.selects "TwoTrueModel" ⟨"TwoTrueModel", "readerGuesses", "(II)I"⟩ ⟨"TwoTrueModel", "readerGuesses", "(II)I"⟩ ∈ zgw := zgm 60 (by decide +kernel) rfl
theorem zv61 : Jvm.Cond.selects "TwoTrueModel" ⟨"TwoTrueModel", "guestGuesses", "(II)I"⟩ ⟨"TwoTrueModel", "guestGuesses", "(II)I"⟩ ∈ zgw := zgm 61 (by decide +kernel) rfl
theorem zv62 : Jvm.Cond.selects "TwoTrueModel" ⟨"TwoTrueModel", "tellsAct", "(II)I"⟩ ⟨"TwoTrueModel", "tellsAct", "(II)I"⟩ ∈ zgw := zgm 62 (by decide +kernel) rfl
theorem zv63 : Jvm.Cond.selects "TwoTrueModel" ⟨"TwoTrueModel", "guestTells", "(II)I"⟩ ⟨"TwoTrueModel", "guestTells", "(II)I"⟩ ∈ zgw := zgm 63 (by decide +kernel) rfl
theorem zv64 : Jvm.Cond.selects "TwoTrueModel" ⟨"TwoTrueModel", "narrow", "(IJ)J"⟩ ⟨"TwoTrueModel", "narrow", "(IJ)J"⟩ ∈ zgw := zgm 64 (by decide +kernel) rfl
theorem zw1 : (Jvm.Cond.initialized "TwoTrue") ∈ zgw := zgm 66 (by decide +kernel) rfl
theorem zw2 : (Jvm.Cond.initialized "TwoTrue$Party") ∈ zgw := zgm 67 (by decide +kernel) rfl
theorem zw3 : (Jvm.Cond.initialized "TwoTrue$Person") ∈ zgw := zgm 68 (by decide +kernel) rfl
theorem zw4 : (Jvm.Cond.initialized "TwoTrue$Text") ∈ zgw := zgm 69 (by decide +kernel) rfl
theorem zw5 : (Jvm.Cond.initialized "TwoTrue$Evening") ∈ zgw := zgm 70 (by decide +kernel) rfl
theorem zw6 : (Jvm.Cond.initialized "TwoTrue$Play") ∈ zgw := zgm 71 (by decide +kernel) rfl
theorem zw7 : (Jvm.Cond.initialized "TwoTrue$Acts") ∈ zgw := zgm 72 (by decide +kernel) rfl
theorem zw8 : (Jvm.Cond.initialized "TwoTrue$Tapes") ∈ zgw := zgm 73 (by decide +kernel) rfl
theorem zw9 : (Jvm.Cond.initialized "TwoTrueModel") ∈ zgw := zgm 74 (by decide +kernel) rfl
theorem zw10 : (Jvm.Cond.initialized "java/lang/String") ∈ zgw := zgm 75 (by decide +kernel) rfl
theorem zw11 : (Jvm.Cond.initialized "java/lang/StringLatin1") ∈ zgw := zgm 76 (by decide +kernel) rfl
theorem zw12 : (Jvm.Cond.initialized "jdk/internal/util/Preconditions") ∈ zgw := zgm 77 (by decide +kernel) rfl
theorem zw14 : (Jvm.Cond.initialized "java/lang/Math") ∈ zgw := zgm 79 (by decide +kernel) rfl
theorem zw16 : (Jvm.Cond.initialized "java/lang/System") ∈ zgw := zgm 81 (by decide +kernel) rfl
theorem zw39 : (Jvm.Cond.fieldLink "TwoTrue$Play" (88 : Nat) "TwoTrue$Person" "number" "I") ∈ zgw := zgm 104 (by decide +kernel) rfl
theorem zw40 : (Jvm.Cond.fieldLink "TwoTrue$Evening" (30 : Nat) "TwoTrue$Person" "number" "I") ∈ zgw := zgm 105 (by decide +kernel) rfl
theorem zw41 : (Jvm.Cond.fieldLink "TwoTrue$Acts" (38 : Nat) "TwoTrue$Person" "number" "I") ∈ zgw := zgm 106 (by decide +kernel) rfl
theorem zw42 : (Jvm.Cond.fieldLink "TwoTrue$Person" (28 : Nat) "TwoTrue$Person" "kind" "I") ∈ zgw := zgm 107 (by decide +kernel) rfl
theorem zw43 : (Jvm.Cond.fieldLink "TwoTrue$Acts" (15 : Nat) "TwoTrue$Person" "kind" "I") ∈ zgw := zgm 108 (by decide +kernel) rfl
theorem zw44 : (Jvm.Cond.fieldLink "TwoTrue$Play" (46 : Nat) "TwoTrue$Person" "kind" "I") ∈ zgw := zgm 109 (by decide +kernel) rfl
theorem zw45 : (Jvm.Cond.fieldLink "TwoTrue$Evening" (33 : Nat) "TwoTrue$Person" "kind" "I") ∈ zgw := zgm 110 (by decide +kernel) rfl
theorem zw46 : (Jvm.Cond.fieldLink "TwoTrue" (111 : Nat) "TwoTrue$Person" "kind" "I") ∈ zgw := zgm 111 (by decide +kernel) rfl
theorem zw47 : (Jvm.Cond.fieldLink "TwoTrue$Person" (31 : Nat) "TwoTrue$Person" "v" "I") ∈ zgw := zgm 112 (by decide +kernel) rfl
theorem zw48 : (Jvm.Cond.fieldLink "TwoTrue$Play" (79 : Nat) "TwoTrue$Person" "v" "I") ∈ zgw := zgm 113 (by decide +kernel) rfl
theorem zw49 : (Jvm.Cond.fieldLink "TwoTrue$Acts" (41 : Nat) "TwoTrue$Person" "v" "I") ∈ zgw := zgm 114 (by decide +kernel) rfl
theorem zw50 : (Jvm.Cond.fieldLink "TwoTrue$Person" (34 : Nat) "TwoTrue$Person" "points" "I") ∈ zgw := zgm 115 (by decide +kernel) rfl
theorem zw51 : (Jvm.Cond.fieldLink "TwoTrue$Party" (41 : Nat) "TwoTrue$Person" "points" "I") ∈ zgw := zgm 116 (by decide +kernel) rfl
theorem zw52 : (Jvm.Cond.fieldLink "TwoTrue" (200 : Nat) "TwoTrue$Person" "points" "I") ∈ zgw := zgm 117 (by decide +kernel) rfl
theorem zw53 : (Jvm.Cond.fieldLink "TwoTrue$Person" (37 : Nat) "TwoTrue$Person" "lie" "I") ∈ zgw := zgm 118 (by decide +kernel) rfl
theorem zw54 : (Jvm.Cond.fieldLink "TwoTrue" (100 : Nat) "TwoTrue$Person" "lie" "I") ∈ zgw := zgm 119 (by decide +kernel) rfl
theorem zw55 : (Jvm.Cond.fieldLink "TwoTrue$Person" (9 : Nat) "TwoTrue$Person" "likely" "[I") ∈ zgw := zgm 120 (by decide +kernel) rfl
theorem zw56 : (Jvm.Cond.fieldLink "TwoTrue" (92 : Nat) "TwoTrue$Person" "likely" "[I") ∈ zgw := zgm 121 (by decide +kernel) rfl
theorem zw57 : (Jvm.Cond.fieldLink "TwoTrue$Evening" (36 : Nat) "TwoTrue$Person" "likely" "[I") ∈ zgw := zgm 122 (by decide +kernel) rfl
theorem zw58 : (Jvm.Cond.fieldLink "TwoTrue$Person" (15 : Nat) "TwoTrue$Person" "lengths" "[I") ∈ zgw := zgm 123 (by decide +kernel) rfl
theorem zw59 : (Jvm.Cond.fieldLink "TwoTrue$Play" (69 : Nat) "TwoTrue$Person" "lengths" "[I") ∈ zgw := zgm 124 (by decide +kernel) rfl
theorem zw60 : (Jvm.Cond.fieldLink "TwoTrue" (97 : Nat) "TwoTrue$Person" "lengths" "[I") ∈ zgw := zgm 125 (by decide +kernel) rfl
theorem zw61 : (Jvm.Cond.fieldLink "TwoTrue$Evening" (39 : Nat) "TwoTrue$Person" "lengths" "[I") ∈ zgw := zgm 126 (by decide +kernel) rfl
theorem zw62 : (Jvm.Cond.fieldLink "TwoTrue$Person" (18 : Nat) "TwoTrue$Person" "order" "[I") ∈ zgw := zgm 127 (by decide +kernel) rfl
theorem zw63 : (Jvm.Cond.fieldLink "TwoTrue$Play" (72 : Nat) "TwoTrue$Person" "order" "[I") ∈ zgw := zgm 128 (by decide +kernel) rfl
theorem zw64 : (Jvm.Cond.fieldLink "TwoTrue$Evening" (25 : Nat) "TwoTrue$Person" "order" "[I") ∈ zgw := zgm 129 (by decide +kernel) rfl
theorem zw65 : (Jvm.Cond.fieldLink "TwoTrue$Person" (21 : Nat) "TwoTrue$Person" "row" "[I") ∈ zgw := zgm 130 (by decide +kernel) rfl
theorem zw66 : (Jvm.Cond.fieldLink "TwoTrue$Play" (82 : Nat) "TwoTrue$Person" "row" "[I") ∈ zgw := zgm 131 (by decide +kernel) rfl
theorem zw67 : (Jvm.Cond.fieldLink "TwoTrue" (114 : Nat) "TwoTrue$Person" "row" "[I") ∈ zgw := zgm 132 (by decide +kernel) rfl
theorem zw88 : (Jvm.Cond.fieldLink "TwoTrue$Party" (11 : Nat) "TwoTrue$Party" "seats" "[LTwoTrue$Person;") ∈ zgw := zgm 153 (by decide +kernel) rfl
theorem zw89 : (Jvm.Cond.fieldLink "TwoTrue$Play" (28 : Nat) "TwoTrue$Party" "seats" "[LTwoTrue$Person;") ∈ zgw := zgm 154 (by decide +kernel) rfl
theorem zw90 : (Jvm.Cond.fieldLink "TwoTrue" (88 : Nat) "TwoTrue$Party" "seats" "[LTwoTrue$Person;") ∈ zgw := zgm 155 (by decide +kernel) rfl
theorem zw91 : (Jvm.Cond.fieldLink "TwoTrue$Party" (31 : Nat) "TwoTrue$Party" "size" "I") ∈ zgw := zgm 156 (by decide +kernel) rfl
theorem zw92 : (Jvm.Cond.fieldLink "TwoTrue$Play" (43 : Nat) "TwoTrue$Party" "size" "I") ∈ zgw := zgm 157 (by decide +kernel) rfl
theorem zw93 : (Jvm.Cond.fieldLink "TwoTrue" (73 : Nat) "TwoTrue$Party" "size" "I") ∈ zgw := zgm 158 (by decide +kernel) rfl
theorem zw94 : (Jvm.Cond.fieldLink "TwoTrue$Play" (85 : Nat) "TwoTrue$Party" "round" "I") ∈ zgw := zgm 159 (by decide +kernel) rfl
theorem zw95 : (Jvm.Cond.fieldLink "TwoTrue$Party" (44 : Nat) "TwoTrue$Party" "round" "I") ∈ zgw := zgm 160 (by decide +kernel) rfl
theorem zw96 : (Jvm.Cond.fieldLink "TwoTrue" (133 : Nat) "TwoTrue$Party" "round" "I") ∈ zgw := zgm 161 (by decide +kernel) rfl
theorem zw97 : (Jvm.Cond.fieldLink "TwoTrue$Party" (17 : Nat) "TwoTrue$Party" "evening" "I") ∈ zgw := zgm 162 (by decide +kernel) rfl
theorem zw98 : (Jvm.Cond.fieldLink "TwoTrue" (130 : Nat) "TwoTrue$Party" "evening" "I") ∈ zgw := zgm 163 (by decide +kernel) rfl
theorem zw99 : (Jvm.Cond.fieldLink "TwoTrue$Party" (21 : Nat) "TwoTrue$Party" "seen" "[I") ∈ zgw := zgm 164 (by decide +kernel) rfl
theorem zw100 : (Jvm.Cond.fieldLink "TwoTrue" (193 : Nat) "TwoTrue$Party" "seen" "[I") ∈ zgw := zgm 165 (by decide +kernel) rfl
theorem zw101 : (Jvm.Cond.fieldLink "TwoTrue$Party" (25 : Nat) "TwoTrue$Party" "book" "[I") ∈ zgw := zgm 166 (by decide +kernel) rfl
theorem zw102 : (Jvm.Cond.fieldLink "TwoTrue" (220 : Nat) "TwoTrue$Party" "book" "[I") ∈ zgw := zgm 167 (by decide +kernel) rfl
theorem zw103 : (Jvm.Cond.fieldLink "TwoTrue$Party" (38 : Nat) "TwoTrue$Party" "bookRows" "I") ∈ zgw := zgm 168 (by decide +kernel) rfl
theorem zw104 : (Jvm.Cond.fieldLink "TwoTrue" (213 : Nat) "TwoTrue$Party" "bookRows" "I") ∈ zgw := zgm 169 (by decide +kernel) rfl
theorem zw126 : (Jvm.Cond.fieldLink "TwoTrue$Text" (9 : Nat) "TwoTrue$Text" "signs" "[I") ∈ zgw := zgm 191 (by decide +kernel) rfl
theorem zw127 : (Jvm.Cond.fieldLink "TwoTrue$Text" (15 : Nat) "TwoTrue$Text" "length" "I") ∈ zgw := zgm 192 (by decide +kernel) rfl
theorem zw128 : (Jvm.Cond.fieldLink "TwoTrue" (117 : Nat) "TwoTrue$Text" "length" "I") ∈ zgw := zgm 193 (by decide +kernel) rfl
theorem zw129 : (Jvm.Cond.fieldLink "TwoTrue$Text" (24 : Nat) "TwoTrue$Text" "at" "I") ∈ zgw := zgm 194 (by decide +kernel) rfl
theorem zw130 : (Jvm.Cond.fieldLink "TwoTrue$Text" (48 : Nat) "TwoTrue$Text" "number" "I") ∈ zgw := zgm 195 (by decide +kernel) rfl
theorem zw147 : (Jvm.Cond.fieldLink "TwoTrue$Evening" (9 : Nat) "TwoTrue$Evening" "words" "[I") ∈ zgw := zgm 212 (by decide +kernel) rfl
theorem zw148 : (Jvm.Cond.fieldLink "TwoTrue$Evening" (22 : Nat) "TwoTrue$Evening" "length" "I") ∈ zgw := zgm 213 (by decide +kernel) rfl
theorem zw149 : (Jvm.Cond.fieldLink "TwoTrue$Evening" (15 : Nat) "TwoTrue$Evening" "values" "[I") ∈ zgw := zgm 214 (by decide +kernel) rfl
theorem zw150 : (Jvm.Cond.fieldLink "TwoTrue$Evening" (18 : Nat) "TwoTrue$Evening" "hands" "I") ∈ zgw := zgm 215 (by decide +kernel) rfl
theorem zw151 : (Jvm.Cond.fieldLink "TwoTrue$Play" (53 : Nat) "TwoTrue$Evening" "hands" "I") ∈ zgw := zgm 216 (by decide +kernel) rfl
theorem zw152 : (Jvm.Cond.fieldLink "TwoTrue$Text" (51 : Nat) "TwoTrue$Evening" "hands" "I") ∈ zgw := zgm 217 (by decide +kernel) rfl
theorem zw153 : (Jvm.Cond.fieldLink "TwoTrue" (140 : Nat) "TwoTrue$Evening" "hands" "I") ∈ zgw := zgm 218 (by decide +kernel) rfl
theorem zw169 : (Jvm.Cond.fieldLink "TwoTrue$Play" (9 : Nat) "TwoTrue$Play" "plain" "[I") ∈ zgw := zgm 234 (by decide +kernel) rfl
theorem zw170 : (Jvm.Cond.fieldLink "TwoTrue$Play" (15 : Nat) "TwoTrue$Play" "handCounts" "[I") ∈ zgw := zgm 235 (by decide +kernel) rfl
theorem zw171 : (Jvm.Cond.fieldLink "TwoTrue$Play" (18 : Nat) "TwoTrue$Play" "isSheep" "[Z") ∈ zgw := zgm 236 (by decide +kernel) rfl
theorem zw172 : (Jvm.Cond.fieldLink "TwoTrue$Play" (22 : Nat) "TwoTrue$Play" "raised" "[I") ∈ zgw := zgm 237 (by decide +kernel) rfl
theorem zw173 : (Jvm.Cond.fieldLink "TwoTrue" (157 : Nat) "TwoTrue$Play" "raised" "[I") ∈ zgw := zgm 238 (by decide +kernel) rfl
theorem zw174 : (Jvm.Cond.fieldLink "TwoTrue$Play" (25 : Nat) "TwoTrue$Play" "guessed" "[I") ∈ zgw := zgm 239 (by decide +kernel) rfl
theorem zw175 : (Jvm.Cond.fieldLink "TwoTrue" (154 : Nat) "TwoTrue$Play" "guessed" "[I") ∈ zgw := zgm 240 (by decide +kernel) rfl
theorem zw176 : (Jvm.Cond.fieldLink "TwoTrue$Play" (40 : Nat) "TwoTrue$Play" "placeOfLie" "I") ∈ zgw := zgm 241 (by decide +kernel) rfl
theorem zw177 : (Jvm.Cond.fieldLink "TwoTrue" (186 : Nat) "TwoTrue$Play" "placeOfLie" "I") ∈ zgw := zgm 242 (by decide +kernel) rfl
theorem zw178 : (Jvm.Cond.fieldLink "TwoTrue$Play" (91 : Nat) "TwoTrue$Play" "takenIn" "I") ∈ zgw := zgm 243 (by decide +kernel) rfl
theorem zw179 : (Jvm.Cond.fieldLink "TwoTrue" (276 : Nat) "TwoTrue$Play" "takenIn" "I") ∈ zgw := zgm 244 (by decide +kernel) rfl
theorem zw202 : (Jvm.Cond.fieldLink "TwoTrue$Acts" (11 : Nat) "TwoTrue$Acts" "trace" "[I") ∈ zgw := zgm 267 (by decide +kernel) rfl
theorem zw203 : (Jvm.Cond.fieldLink "TwoTrue" (247 : Nat) "TwoTrue$Acts" "trace" "[I") ∈ zgw := zgm 268 (by decide +kernel) rfl
theorem zw204 : (Jvm.Cond.fieldLink "TwoTrue$Acts" (31 : Nat) "TwoTrue$Acts" "ran" "I") ∈ zgw := zgm 269 (by decide +kernel) rfl
theorem zw205 : (Jvm.Cond.fieldLink "TwoTrue" (240 : Nat) "TwoTrue$Acts" "ran" "I") ∈ zgw := zgm 270 (by decide +kernel) rfl
theorem zw217 : (Jvm.Cond.fieldLink "TwoTrue$Tapes" (9 : Nat) "TwoTrue$Tapes" "sort" "[I") ∈ zgw := zgm 282 (by decide +kernel) rfl
theorem zw218 : (Jvm.Cond.fieldLink "TwoTrue" (227 : Nat) "TwoTrue$Tapes" "sort" "[I") ∈ zgw := zgm 283 (by decide +kernel) rfl
theorem zw219 : (Jvm.Cond.fieldLink "TwoTrue$Tapes" (13 : Nat) "TwoTrue$Tapes" "size" "[I") ∈ zgw := zgm 284 (by decide +kernel) rfl
theorem zw220 : (Jvm.Cond.fieldLink "TwoTrue" (230 : Nat) "TwoTrue$Tapes" "size" "[I") ∈ zgw := zgm 285 (by decide +kernel) rfl
theorem zw221 : (Jvm.Cond.fieldLink "TwoTrue$Tapes" (16 : Nat) "TwoTrue$Tapes" "items" "[J") ∈ zgw := zgm 286 (by decide +kernel) rfl
theorem zw230 : (Jvm.Cond.fieldLink "TwoTrue" (12 : Nat) "TwoTrue" "now" "LTwoTrue$Party;") ∈ zgw := zgm 295 (by decide +kernel) rfl
theorem zw231 : (Jvm.Cond.fieldLink "TwoTrue" (18 : Nat) "TwoTrue" "image" "LTwoTrue$Party;") ∈ zgw := zgm 296 (by decide +kernel) rfl
theorem zw232 : (Jvm.Cond.fieldLink "TwoTrue" (21 : Nat) "TwoTrue" "trial" "LTwoTrue$Party;") ∈ zgw := zgm 297 (by decide +kernel) rfl
theorem zw233 : (Jvm.Cond.fieldLink "TwoTrue" (236 : Nat) "TwoTrue" "hasImage" "Z") ∈ zgw := zgm 298 (by decide +kernel) rfl
theorem zw234 : (Jvm.Cond.fieldLink "TwoTrue" (27 : Nat) "TwoTrue" "text" "LTwoTrue$Text;") ∈ zgw := zgm 299 (by decide +kernel) rfl
theorem zw235 : (Jvm.Cond.fieldLink "TwoTrue" (33 : Nat) "TwoTrue" "evenings" "[LTwoTrue$Evening;") ∈ zgw := zgm 300 (by decide +kernel) rfl
theorem zw236 : (Jvm.Cond.fieldLink "TwoTrue" (38 : Nat) "TwoTrue" "without" "LTwoTrue$Evening;") ∈ zgw := zgm 301 (by decide +kernel) rfl
theorem zw237 : (Jvm.Cond.fieldLink "TwoTrue" (123 : Nat) "TwoTrue" "eveningCount" "I") ∈ zgw := zgm 302 (by decide +kernel) rfl
theorem zw238 : (Jvm.Cond.fieldLink "TwoTrue" (45 : Nat) "TwoTrue" "play" "LTwoTrue$Play;") ∈ zgw := zgm 303 (by decide +kernel) rfl
theorem zw239 : (Jvm.Cond.fieldLink "TwoTrue" (49 : Nat) "TwoTrue" "guessedBefore" "[I") ∈ zgw := zgm 304 (by decide +kernel) rfl
theorem zw240 : (Jvm.Cond.fieldLink "TwoTrue" (53 : Nat) "TwoTrue" "rowTried" "[I") ∈ zgw := zgm 305 (by decide +kernel) rfl
theorem zw241 : (Jvm.Cond.fieldLink "TwoTrue" (56 : Nat) "TwoTrue" "rowFound" "[I") ∈ zgw := zgm 306 (by decide +kernel) rfl
theorem zw242 : (Jvm.Cond.fieldLink "TwoTrue" (62 : Nat) "TwoTrue" "acts" "LTwoTrue$Acts;") ∈ zgw := zgm 307 (by decide +kernel) rfl
theorem zw243 : (Jvm.Cond.fieldLink "TwoTrue" (69 : Nat) "TwoTrue" "tapes" "LTwoTrue$Tapes;") ∈ zgw := zgm 308 (by decide +kernel) rfl
theorem zw277 : (Jvm.Cond.methodLink "TwoTrue" (77 : Nat) ({ cls := "TwoTrue$Party", name := "join", desc := "(II)I" } : Jvm.MethodName)) ∈ zgw := zgm 342 (by decide +kernel) rfl
theorem zw278 : (Jvm.Cond.instanceMethod ({ cls := "TwoTrue$Party", name := "join", desc := "(II)I" } : Jvm.MethodName)) ∈ zgw := zgm 343 (by decide +kernel) rfl
theorem zw279 : (Jvm.Cond.selects "TwoTrue$Party" ({ cls := "TwoTrue$Party", name := "join", desc := "(II)I" } : Jvm.MethodName) ({ cls := "TwoTrue$Party", name := "join", desc := "(II)I" } : Jvm.MethodName)) ∈ zgw := zgm 344 (by decide +kernel) rfl
theorem zw280 : (Jvm.Cond.code ({ cls := "TwoTrue$Party", name := "join", desc := "(II)I" } : Jvm.MethodName) prog_4_method_3_code (3 : Nat) (Option.some Jvm.ClassFile.FieldType.int)) ∈ zgw := zgm 345 (by decide +kernel) rfl
theorem zw281 : (Jvm.Cond.methodLink "TwoTrue$Party" (34 : Nat) ({ cls := "TwoTrue$Person", name := "begin", desc := "(II)V" } : Jvm.MethodName)) ∈ zgw := zgm 346 (by decide +kernel) rfl
theorem zw282 : (Jvm.Cond.instanceMethod ({ cls := "TwoTrue$Person", name := "begin", desc := "(II)V" } : Jvm.MethodName)) ∈ zgw := zgm 347 (by decide +kernel) rfl
theorem zw283 : (Jvm.Cond.selects "TwoTrue$Person" ({ cls := "TwoTrue$Person", name := "begin", desc := "(II)V" } : Jvm.MethodName) ({ cls := "TwoTrue$Person", name := "begin", desc := "(II)V" } : Jvm.MethodName)) ∈ zgw := zgm 348 (by decide +kernel) rfl
theorem zw284 : (Jvm.Cond.code ({ cls := "TwoTrue$Person", name := "begin", desc := "(II)V" } : Jvm.MethodName) prog_5_method_2_code (4 : Nat) (Option.none : Option Jvm.ClassFile.FieldType)) ∈ zgw := zgm 349 (by decide +kernel) rfl
theorem zw289 : (Jvm.Cond.methodLink "TwoTrue" (81 : Nat) ({ cls := "TwoTrue$Party", name := "has", desc := "(I)Z" } : Jvm.MethodName)) ∈ zgw := zgm 354 (by decide +kernel) rfl
theorem zw290 : (Jvm.Cond.instanceMethod ({ cls := "TwoTrue$Party", name := "has", desc := "(I)Z" } : Jvm.MethodName)) ∈ zgw := zgm 355 (by decide +kernel) rfl
theorem zw291 : (Jvm.Cond.selects "TwoTrue$Party" ({ cls := "TwoTrue$Party", name := "has", desc := "(I)Z" } : Jvm.MethodName) ({ cls := "TwoTrue$Party", name := "has", desc := "(I)Z" } : Jvm.MethodName)) ∈ zgw := zgm 356 (by decide +kernel) rfl
theorem zw292 : (Jvm.Cond.code ({ cls := "TwoTrue$Party", name := "has", desc := "(I)Z" } : Jvm.MethodName) prog_4_method_2_code (2 : Nat) (Option.some Jvm.ClassFile.FieldType.boolean)) ∈ zgw := zgm 357 (by decide +kernel) rfl
theorem zw293 : (Jvm.Cond.methodLink "TwoTrue" (85 : Nat) ({ cls := "TwoTrue", name := "isOfThree", desc := "(I)Z" } : Jvm.MethodName)) ∈ zgw := zgm 358 (by decide +kernel) rfl
theorem zw294 : (Jvm.Cond.static ({ cls := "TwoTrue", name := "isOfThree", desc := "(I)Z" } : Jvm.MethodName)) ∈ zgw := zgm 359 (by decide +kernel) rfl
theorem zw295 : (Jvm.Cond.code ({ cls := "TwoTrue", name := "isOfThree", desc := "(I)Z" } : Jvm.MethodName) prog_1_method_39_code (1 : Nat) (Option.some Jvm.ClassFile.FieldType.boolean)) ∈ zgw := zgm 360 (by decide +kernel) rfl
theorem zw304 : (Jvm.Cond.methodLink "TwoTrue" (103 : Nat) ({ cls := "TwoTrue$Person", name := "setOrder", desc := "(II)V" } : Jvm.MethodName)) ∈ zgw := zgm 369 (by decide +kernel) rfl
theorem zw305 : (Jvm.Cond.instanceMethod ({ cls := "TwoTrue$Person", name := "setOrder", desc := "(II)V" } : Jvm.MethodName)) ∈ zgw := zgm 370 (by decide +kernel) rfl
theorem zw306 : (Jvm.Cond.selects "TwoTrue$Person" ({ cls := "TwoTrue$Person", name := "setOrder", desc := "(II)V" } : Jvm.MethodName) ({ cls := "TwoTrue$Person", name := "setOrder", desc := "(II)V" } : Jvm.MethodName)) ∈ zgw := zgm 371 (by decide +kernel) rfl
theorem zw307 : (Jvm.Cond.code ({ cls := "TwoTrue$Person", name := "setOrder", desc := "(II)V" } : Jvm.MethodName) prog_5_method_4_code (3 : Nat) (Option.none : Option Jvm.ClassFile.FieldType)) ∈ zgw := zgm 372 (by decide +kernel) rfl
theorem zw312 : (Jvm.Cond.methodLink "TwoTrue" (107 : Nat) ({ cls := "TwoTrue$Person", name := "known", desc := "(I)I" } : Jvm.MethodName)) ∈ zgw := zgm 377 (by decide +kernel) rfl
theorem zw313 : (Jvm.Cond.instanceMethod ({ cls := "TwoTrue$Person", name := "known", desc := "(I)I" } : Jvm.MethodName)) ∈ zgw := zgm 378 (by decide +kernel) rfl
theorem zw314 : (Jvm.Cond.selects "TwoTrue$Person" ({ cls := "TwoTrue$Person", name := "known", desc := "(I)I" } : Jvm.MethodName) ({ cls := "TwoTrue$Person", name := "known", desc := "(I)I" } : Jvm.MethodName)) ∈ zgw := zgm 379 (by decide +kernel) rfl
theorem zw315 : (Jvm.Cond.code ({ cls := "TwoTrue$Person", name := "known", desc := "(I)I" } : Jvm.MethodName) prog_5_method_6_code (2 : Nat) (Option.some Jvm.ClassFile.FieldType.int)) ∈ zgw := zgm 380 (by decide +kernel) rfl
theorem zw325 : (Jvm.Cond.methodLink "TwoTrue" (120 : Nat) ({ cls := "TwoTrue$Text", name := "append", desc := "(I)I" } : Jvm.MethodName)) ∈ zgw := zgm 390 (by decide +kernel) rfl
theorem zw326 : (Jvm.Cond.instanceMethod ({ cls := "TwoTrue$Text", name := "append", desc := "(I)I" } : Jvm.MethodName)) ∈ zgw := zgm 391 (by decide +kernel) rfl
theorem zw327 : (Jvm.Cond.selects "TwoTrue$Text" ({ cls := "TwoTrue$Text", name := "append", desc := "(I)I" } : Jvm.MethodName) ({ cls := "TwoTrue$Text", name := "append", desc := "(I)I" } : Jvm.MethodName)) ∈ zgw := zgm 392 (by decide +kernel) rfl
theorem zw328 : (Jvm.Cond.code ({ cls := "TwoTrue$Text", name := "append", desc := "(I)I" } : Jvm.MethodName) prog_8_method_2_code (2 : Nat) (Option.some Jvm.ClassFile.FieldType.int)) ∈ zgw := zgm 393 (by decide +kernel) rfl
theorem zw333 : (Jvm.Cond.methodLink "TwoTrue" (126 : Nat) ({ cls := "TwoTrue$Text", name := "readInto", desc := "(LTwoTrue$Evening;)I" } : Jvm.MethodName)) ∈ zgw := zgm 398 (by decide +kernel) rfl
theorem zw334 : (Jvm.Cond.instanceMethod ({ cls := "TwoTrue$Text", name := "readInto", desc := "(LTwoTrue$Evening;)I" } : Jvm.MethodName)) ∈ zgw := zgm 399 (by decide +kernel) rfl
theorem zw335 : (Jvm.Cond.selects "TwoTrue$Text" ({ cls := "TwoTrue$Text", name := "readInto", desc := "(LTwoTrue$Evening;)I" } : Jvm.MethodName) ({ cls := "TwoTrue$Text", name := "readInto", desc := "(LTwoTrue$Evening;)I" } : Jvm.MethodName)) ∈ zgw := zgm 400 (by decide +kernel) rfl
theorem zw336 : (Jvm.Cond.code ({ cls := "TwoTrue$Text", name := "readInto", desc := "(LTwoTrue$Evening;)I" } : Jvm.MethodName) prog_8_method_3_code (4 : Nat) (Option.some Jvm.ClassFile.FieldType.int)) ∈ zgw := zgm 401 (by decide +kernel) rfl
theorem zw337 : (Jvm.Cond.methodLink "TwoTrue$Text" (19 : Nat) ({ cls := "TwoTrue$Evening", name := "clear", desc := "()V" } : Jvm.MethodName)) ∈ zgw := zgm 402 (by decide +kernel) rfl
theorem zw338 : (Jvm.Cond.instanceMethod ({ cls := "TwoTrue$Evening", name := "clear", desc := "()V" } : Jvm.MethodName)) ∈ zgw := zgm 403 (by decide +kernel) rfl
theorem zw339 : (Jvm.Cond.selects "TwoTrue$Evening" ({ cls := "TwoTrue$Evening", name := "clear", desc := "()V" } : Jvm.MethodName) ({ cls := "TwoTrue$Evening", name := "clear", desc := "()V" } : Jvm.MethodName)) ∈ zgw := zgm 404 (by decide +kernel) rfl
theorem zw340 : (Jvm.Cond.code ({ cls := "TwoTrue$Evening", name := "clear", desc := "()V" } : Jvm.MethodName) prog_3_method_2_code (1 : Nat) (Option.none : Option Jvm.ClassFile.FieldType)) ∈ zgw := zgm 405 (by decide +kernel) rfl
theorem zw341 : (Jvm.Cond.methodLink "TwoTrue$Text" (27 : Nat) ({ cls := "TwoTrue$Text", name := "readClause", desc := "(LTwoTrue$Evening;)Z" } : Jvm.MethodName)) ∈ zgw := zgm 406 (by decide +kernel) rfl
theorem zw343 : (Jvm.Cond.instanceMethod ({ cls := "TwoTrue$Text", name := "readClause", desc := "(LTwoTrue$Evening;)Z" } : Jvm.MethodName)) ∈ zgw := zgm 408 (by decide +kernel) rfl
theorem zw344 : (Jvm.Cond.code ({ cls := "TwoTrue$Text", name := "readClause", desc := "(LTwoTrue$Evening;)Z" } : Jvm.MethodName) prog_8_method_4_code (4 : Nat) (Option.some Jvm.ClassFile.FieldType.boolean)) ∈ zgw := zgm 409 (by decide +kernel) rfl
theorem zw345 : (Jvm.Cond.methodLink "TwoTrue$Text" (35 : Nat) ({ cls := "TwoTrue$Text", name := "sees", desc := "(I)Z" } : Jvm.MethodName)) ∈ zgw := zgm 410 (by decide +kernel) rfl
theorem zw347 : (Jvm.Cond.instanceMethod ({ cls := "TwoTrue$Text", name := "sees", desc := "(I)Z" } : Jvm.MethodName)) ∈ zgw := zgm 412 (by decide +kernel) rfl
theorem zw348 : (Jvm.Cond.code ({ cls := "TwoTrue$Text", name := "sees", desc := "(I)Z" } : Jvm.MethodName) prog_8_method_11_code (2 : Nat) (Option.some Jvm.ClassFile.FieldType.boolean)) ∈ zgw := zgm 413 (by decide +kernel) rfl
theorem zw350 : (Jvm.Cond.methodLink "TwoTrue$Text" (40 : Nat) ({ cls := "TwoTrue$Text", name := "passesWord", desc := "(Ljava/lang/String;)Z" } : Jvm.MethodName)) ∈ zgw := zgm 415 (by decide +kernel) rfl
theorem zw352 : (Jvm.Cond.instanceMethod ({ cls := "TwoTrue$Text", name := "passesWord", desc := "(Ljava/lang/String;)Z" } : Jvm.MethodName)) ∈ zgw := zgm 417 (by decide +kernel) rfl
theorem zw353 : (Jvm.Cond.code ({ cls := "TwoTrue$Text", name := "passesWord", desc := "(Ljava/lang/String;)Z" } : Jvm.MethodName) prog_8_method_9_code (3 : Nat) (Option.some Jvm.ClassFile.FieldType.boolean)) ∈ zgw := zgm 418 (by decide +kernel) rfl
theorem zw354 : (Jvm.Cond.methodLink "TwoTrue$Text" (83 : Nat) ({ cls := "java/lang/String", name := "length", desc := "()I" } : Jvm.MethodName)) ∈ zgw := zgm 419 (by decide +kernel) rfl
theorem zw355 : (Jvm.Cond.instanceMethod ({ cls := "java/lang/String", name := "length", desc := "()I" } : Jvm.MethodName)) ∈ zgw := zgm 420 (by decide +kernel) rfl
theorem zw356 : (Jvm.Cond.selects "java/lang/String" ({ cls := "java/lang/String", name := "length", desc := "()I" } : Jvm.MethodName) ({ cls := "java/lang/String", name := "length", desc := "()I" } : Jvm.MethodName)) ∈ zgw := zgm 421 (by decide +kernel) rfl
theorem zw357 : (Jvm.Cond.code ({ cls := "java/lang/String", name := "length", desc := "()I" } : Jvm.MethodName) prog_13_method_54_code (1 : Nat) (Option.some Jvm.ClassFile.FieldType.int)) ∈ zgw := zgm 422 (by decide +kernel) rfl
theorem zw358 : (Jvm.Cond.methodLink "java/lang/String" (335 : Nat) ({ cls := "java/lang/String", name := "coder", desc := "()B" } : Jvm.MethodName)) ∈ zgw := zgm 423 (by decide +kernel) rfl
theorem zw359 : (Jvm.Cond.instanceMethod ({ cls := "java/lang/String", name := "coder", desc := "()B" } : Jvm.MethodName)) ∈ zgw := zgm 424 (by decide +kernel) rfl
theorem zw360 : (Jvm.Cond.selects "java/lang/String" ({ cls := "java/lang/String", name := "coder", desc := "()B" } : Jvm.MethodName) ({ cls := "java/lang/String", name := "coder", desc := "()B" } : Jvm.MethodName)) ∈ zgw := zgm 425 (by decide +kernel) rfl
theorem zw361 : (Jvm.Cond.code ({ cls := "java/lang/String", name := "coder", desc := "()B" } : Jvm.MethodName) prog_13_method_152_code (1 : Nat) (Option.some Jvm.ClassFile.FieldType.byte)) ∈ zgw := zgm 426 (by decide +kernel) rfl
theorem zw362 : (Jvm.Cond.fieldLink "java/lang/String" (38 : Nat) "java/lang/String" "COMPACT_STRINGS" "Z") ∈ zgw := zgm 427 (by decide +kernel) rfl
theorem zw364 : (Jvm.Cond.methodLink "TwoTrue$Text" (86 : Nat) ({ cls := "java/lang/String", name := "charAt", desc := "(I)C" } : Jvm.MethodName)) ∈ zgw := zgm 429 (by decide +kernel) rfl
theorem zw365 : (Jvm.Cond.instanceMethod ({ cls := "java/lang/String", name := "charAt", desc := "(I)C" } : Jvm.MethodName)) ∈ zgw := zgm 430 (by decide +kernel) rfl
theorem zw366 : (Jvm.Cond.selects "java/lang/String" ({ cls := "java/lang/String", name := "charAt", desc := "(I)C" } : Jvm.MethodName) ({ cls := "java/lang/String", name := "charAt", desc := "(I)C" } : Jvm.MethodName)) ∈ zgw := zgm 431 (by decide +kernel) rfl
theorem zw367 : (Jvm.Cond.code ({ cls := "java/lang/String", name := "charAt", desc := "(I)C" } : Jvm.MethodName) prog_13_method_56_code (2 : Nat) (Option.some Jvm.ClassFile.FieldType.char)) ∈ zgw := zgm 432 (by decide +kernel) rfl
theorem zw368 : (Jvm.Cond.methodLink "java/lang/String" (492 : Nat) ({ cls := "java/lang/String", name := "isLatin1", desc := "()Z" } : Jvm.MethodName)) ∈ zgw := zgm 433 (by decide +kernel) rfl
theorem zw369 : (Jvm.Cond.instanceMethod ({ cls := "java/lang/String", name := "isLatin1", desc := "()Z" } : Jvm.MethodName)) ∈ zgw := zgm 434 (by decide +kernel) rfl
theorem zw370 : (Jvm.Cond.selects "java/lang/String" ({ cls := "java/lang/String", name := "isLatin1", desc := "()Z" } : Jvm.MethodName) ({ cls := "java/lang/String", name := "isLatin1", desc := "()Z" } : Jvm.MethodName)) ∈ zgw := zgm 435 (by decide +kernel) rfl
theorem zw371 : (Jvm.Cond.code ({ cls := "java/lang/String", name := "isLatin1", desc := "()Z" } : Jvm.MethodName) prog_13_method_154_code (1 : Nat) (Option.some Jvm.ClassFile.FieldType.boolean)) ∈ zgw := zgm 436 (by decide +kernel) rfl
theorem zw372 : (Jvm.Cond.methodLink "java/lang/String" (495 : Nat) ({ cls := "java/lang/StringLatin1", name := "charAt", desc := "([BI)C" } : Jvm.MethodName)) ∈ zgw := zgm 437 (by decide +kernel) rfl
theorem zw373 : (Jvm.Cond.static ({ cls := "java/lang/StringLatin1", name := "charAt", desc := "([BI)C" } : Jvm.MethodName)) ∈ zgw := zgm 438 (by decide +kernel) rfl
theorem zw374 : (Jvm.Cond.code ({ cls := "java/lang/StringLatin1", name := "charAt", desc := "([BI)C" } : Jvm.MethodName) prog_14_method_2_code (2 : Nat) (Option.some Jvm.ClassFile.FieldType.char)) ∈ zgw := zgm 439 (by decide +kernel) rfl
theorem zw375 : (Jvm.Cond.methodLink "java/lang/StringLatin1" (9 : Nat) ({ cls := "java/lang/String", name := "checkIndex", desc := "(II)V" } : Jvm.MethodName)) ∈ zgw := zgm 440 (by decide +kernel) rfl
theorem zw376 : (Jvm.Cond.static ({ cls := "java/lang/String", name := "checkIndex", desc := "(II)V" } : Jvm.MethodName)) ∈ zgw := zgm 441 (by decide +kernel) rfl
theorem zw377 : (Jvm.Cond.code ({ cls := "java/lang/String", name := "checkIndex", desc := "(II)V" } : Jvm.MethodName) prog_13_method_155_code (2 : Nat) (Option.none : Option Jvm.ClassFile.FieldType)) ∈ zgw := zgm 442 (by decide +kernel) rfl
theorem zw378 : (Jvm.Cond.fieldLink "java/lang/String" (1053 : Nat) "jdk/internal/util/Preconditions" "SIOOBE_FORMATTER" "Ljava/util/function/BiFunction;") ∈ zgw := zgm 443 (by decide +kernel) rfl
theorem zw380 : (Jvm.Cond.methodLink "java/lang/String" (1059 : Nat) ({ cls := "jdk/internal/util/Preconditions", name := "checkIndex", desc := "(IILjava/util/function/BiFunction;)I" } : Jvm.MethodName)) ∈ zgw := zgm 445 (by decide +kernel) rfl
theorem zw381 : (Jvm.Cond.static ({ cls := "jdk/internal/util/Preconditions", name := "checkIndex", desc := "(IILjava/util/function/BiFunction;)I" } : Jvm.MethodName)) ∈ zgw := zgm 446 (by decide +kernel) rfl
theorem zw382 : (Jvm.Cond.code ({ cls := "jdk/internal/util/Preconditions", name := "checkIndex", desc := "(IILjava/util/function/BiFunction;)I" } : Jvm.MethodName) prog_17_method_11_code (3 : Nat) (Option.some Jvm.ClassFile.FieldType.int)) ∈ zgw := zgm 447 (by decide +kernel) rfl
theorem zw402 : (Jvm.Cond.methodLink "TwoTrue$Text" (31 : Nat) ({ cls := "TwoTrue$Text", name := "passes", desc := "(I)Z" } : Jvm.MethodName)) ∈ zgw := zgm 467 (by decide +kernel) rfl
theorem zw404 : (Jvm.Cond.instanceMethod ({ cls := "TwoTrue$Text", name := "passes", desc := "(I)Z" } : Jvm.MethodName)) ∈ zgw := zgm 469 (by decide +kernel) rfl
theorem zw405 : (Jvm.Cond.code ({ cls := "TwoTrue$Text", name := "passes", desc := "(I)Z" } : Jvm.MethodName) prog_8_method_10_code (2 : Nat) (Option.some Jvm.ClassFile.FieldType.boolean)) ∈ zgw := zgm 470 (by decide +kernel) rfl
theorem zw406 : (Jvm.Cond.methodLink "TwoTrue$Text" (44 : Nat) ({ cls := "TwoTrue$Text", name := "readNumber", desc := "()Z" } : Jvm.MethodName)) ∈ zgw := zgm 471 (by decide +kernel) rfl
theorem zw408 : (Jvm.Cond.instanceMethod ({ cls := "TwoTrue$Text", name := "readNumber", desc := "()Z" } : Jvm.MethodName)) ∈ zgw := zgm 473 (by decide +kernel) rfl
theorem zw409 : (Jvm.Cond.code ({ cls := "TwoTrue$Text", name := "readNumber", desc := "()Z" } : Jvm.MethodName) prog_8_method_8_code (1 : Nat) (Option.some Jvm.ClassFile.FieldType.boolean)) ∈ zgw := zgm 474 (by decide +kernel) rfl
theorem zw410 : (Jvm.Cond.methodLink "TwoTrue$Text" (80 : Nat) ({ cls := "TwoTrue$Text", name := "seesDigit", desc := "()Z" } : Jvm.MethodName)) ∈ zgw := zgm 475 (by decide +kernel) rfl
theorem zw412 : (Jvm.Cond.instanceMethod ({ cls := "TwoTrue$Text", name := "seesDigit", desc := "()Z" } : Jvm.MethodName)) ∈ zgw := zgm 477 (by decide +kernel) rfl
theorem zw413 : (Jvm.Cond.code ({ cls := "TwoTrue$Text", name := "seesDigit", desc := "()Z" } : Jvm.MethodName) prog_8_method_12_code (1 : Nat) (Option.some Jvm.ClassFile.FieldType.boolean)) ∈ zgw := zgm 478 (by decide +kernel) rfl
theorem zw416 : (Jvm.Cond.methodLink "TwoTrue$Text" (58 : Nat) ({ cls := "TwoTrue$Text", name := "readE", desc := "(LTwoTrue$Evening;I)Z" } : Jvm.MethodName)) ∈ zgw := zgm 481 (by decide +kernel) rfl
theorem zw418 : (Jvm.Cond.instanceMethod ({ cls := "TwoTrue$Text", name := "readE", desc := "(LTwoTrue$Evening;I)Z" } : Jvm.MethodName)) ∈ zgw := zgm 483 (by decide +kernel) rfl
theorem zw419 : (Jvm.Cond.code ({ cls := "TwoTrue$Text", name := "readE", desc := "(LTwoTrue$Evening;I)Z" } : Jvm.MethodName) prog_8_method_5_code (5 : Nat) (Option.some Jvm.ClassFile.FieldType.boolean)) ∈ zgw := zgm 484 (by decide +kernel) rfl
theorem zw420 : (Jvm.Cond.methodLink "TwoTrue$Text" (66 : Nat) ({ cls := "TwoTrue$Text", name := "readF", desc := "(LTwoTrue$Evening;I)Z" } : Jvm.MethodName)) ∈ zgw := zgm 485 (by decide +kernel) rfl
theorem zw422 : (Jvm.Cond.instanceMethod ({ cls := "TwoTrue$Text", name := "readF", desc := "(LTwoTrue$Evening;I)Z" } : Jvm.MethodName)) ∈ zgw := zgm 487 (by decide +kernel) rfl
theorem zw423 : (Jvm.Cond.code ({ cls := "TwoTrue$Text", name := "readF", desc := "(LTwoTrue$Evening;I)Z" } : Jvm.MethodName) prog_8_method_6_code (3 : Nat) (Option.some Jvm.ClassFile.FieldType.boolean)) ∈ zgw := zgm 488 (by decide +kernel) rfl
theorem zw424 : (Jvm.Cond.methodLink "TwoTrue$Text" (62 : Nat) ({ cls := "TwoTrue$Evening", name := "append", desc := "(III)V" } : Jvm.MethodName)) ∈ zgw := zgm 489 (by decide +kernel) rfl
theorem zw425 : (Jvm.Cond.instanceMethod ({ cls := "TwoTrue$Evening", name := "append", desc := "(III)V" } : Jvm.MethodName)) ∈ zgw := zgm 490 (by decide +kernel) rfl
theorem zw426 : (Jvm.Cond.selects "TwoTrue$Evening" ({ cls := "TwoTrue$Evening", name := "append", desc := "(III)V" } : Jvm.MethodName) ({ cls := "TwoTrue$Evening", name := "append", desc := "(III)V" } : Jvm.MethodName)) ∈ zgw := zgm 491 (by decide +kernel) rfl
theorem zw427 : (Jvm.Cond.code ({ cls := "TwoTrue$Evening", name := "append", desc := "(III)V" } : Jvm.MethodName) prog_3_method_3_code (4 : Nat) (Option.none : Option Jvm.ClassFile.FieldType)) ∈ zgw := zgm 492 (by decide +kernel) rfl
theorem zw428 : (Jvm.Cond.methodLink "TwoTrue$Text" (69 : Nat) ({ cls := "TwoTrue$Text", name := "readTest", desc := "(LTwoTrue$Evening;)Z" } : Jvm.MethodName)) ∈ zgw := zgm 493 (by decide +kernel) rfl
theorem zw430 : (Jvm.Cond.instanceMethod ({ cls := "TwoTrue$Text", name := "readTest", desc := "(LTwoTrue$Evening;)Z" } : Jvm.MethodName)) ∈ zgw := zgm 495 (by decide +kernel) rfl
theorem zw431 : (Jvm.Cond.code ({ cls := "TwoTrue$Text", name := "readTest", desc := "(LTwoTrue$Evening;)Z" } : Jvm.MethodName) prog_8_method_7_code (4 : Nat) (Option.some Jvm.ClassFile.FieldType.boolean)) ∈ zgw := zgm 496 (by decide +kernel) rfl
theorem zw433 : (Jvm.Cond.methodLink "TwoTrue$Text" (74 : Nat) ({ cls := "java/lang/String", name := "indexOf", desc := "(I)I" } : Jvm.MethodName)) ∈ zgw := zgm 498 (by decide +kernel) rfl
theorem zw434 : (Jvm.Cond.instanceMethod ({ cls := "java/lang/String", name := "indexOf", desc := "(I)I" } : Jvm.MethodName)) ∈ zgw := zgm 499 (by decide +kernel) rfl
theorem zw435 : (Jvm.Cond.selects "java/lang/String" ({ cls := "java/lang/String", name := "indexOf", desc := "(I)I" } : Jvm.MethodName) ({ cls := "java/lang/String", name := "indexOf", desc := "(I)I" } : Jvm.MethodName)) ∈ zgw := zgm 500 (by decide +kernel) rfl
theorem zw436 : (Jvm.Cond.code ({ cls := "java/lang/String", name := "indexOf", desc := "(I)I" } : Jvm.MethodName) prog_13_method_79_code (2 : Nat) (Option.some Jvm.ClassFile.FieldType.int)) ∈ zgw := zgm 501 (by decide +kernel) rfl
theorem zw437 : (Jvm.Cond.methodLink "java/lang/String" (633 : Nat) ({ cls := "java/lang/String", name := "indexOf", desc := "(II)I" } : Jvm.MethodName)) ∈ zgw := zgm 502 (by decide +kernel) rfl
theorem zw438 : (Jvm.Cond.instanceMethod ({ cls := "java/lang/String", name := "indexOf", desc := "(II)I" } : Jvm.MethodName)) ∈ zgw := zgm 503 (by decide +kernel) rfl
theorem zw439 : (Jvm.Cond.selects "java/lang/String" ({ cls := "java/lang/String", name := "indexOf", desc := "(II)I" } : Jvm.MethodName) ({ cls := "java/lang/String", name := "indexOf", desc := "(II)I" } : Jvm.MethodName)) ∈ zgw := zgm 504 (by decide +kernel) rfl
theorem zw440 : (Jvm.Cond.code ({ cls := "java/lang/String", name := "indexOf", desc := "(II)I" } : Jvm.MethodName) prog_13_method_80_code (3 : Nat) (Option.some Jvm.ClassFile.FieldType.int)) ∈ zgw := zgm 505 (by decide +kernel) rfl
theorem zw441 : (Jvm.Cond.methodLink "java/lang/String" (505 : Nat) ({ cls := "java/lang/String", name := "length", desc := "()I" } : Jvm.MethodName)) ∈ zgw := zgm 506 (by decide +kernel) rfl
theorem zw442 : (Jvm.Cond.methodLink "java/lang/String" (637 : Nat) ({ cls := "java/lang/StringLatin1", name := "indexOf", desc := "([BIII)I" } : Jvm.MethodName)) ∈ zgw := zgm 507 (by decide +kernel) rfl
theorem zw443 : (Jvm.Cond.static ({ cls := "java/lang/StringLatin1", name := "indexOf", desc := "([BIII)I" } : Jvm.MethodName)) ∈ zgw := zgm 508 (by decide +kernel) rfl
theorem zw444 : (Jvm.Cond.code ({ cls := "java/lang/StringLatin1", name := "indexOf", desc := "([BIII)I" } : Jvm.MethodName) prog_14_method_22_code (4 : Nat) (Option.some Jvm.ClassFile.FieldType.int)) ∈ zgw := zgm 509 (by decide +kernel) rfl
theorem zw445 : (Jvm.Cond.methodLink "java/lang/StringLatin1" (88 : Nat) ({ cls := "java/lang/StringLatin1", name := "canEncode", desc := "(I)Z" } : Jvm.MethodName)) ∈ zgw := zgm 510 (by decide +kernel) rfl
theorem zw446 : (Jvm.Cond.static ({ cls := "java/lang/StringLatin1", name := "canEncode", desc := "(I)Z" } : Jvm.MethodName)) ∈ zgw := zgm 511 (by decide +kernel) rfl
theorem zw447 : (Jvm.Cond.code ({ cls := "java/lang/StringLatin1", name := "canEncode", desc := "(I)Z" } : Jvm.MethodName) prog_14_method_4_code (1 : Nat) (Option.some Jvm.ClassFile.FieldType.boolean)) ∈ zgw := zgm 512 (by decide +kernel) rfl
theorem zw448 : (Jvm.Cond.methodLink "java/lang/StringLatin1" (92 : Nat) ({ cls := "java/lang/Math", name := "max", desc := "(II)I" } : Jvm.MethodName)) ∈ zgw := zgm 513 (by decide +kernel) rfl
theorem zw449 : (Jvm.Cond.static ({ cls := "java/lang/Math", name := "max", desc := "(II)I" } : Jvm.MethodName)) ∈ zgw := zgm 514 (by decide +kernel) rfl
theorem zw451 : (Jvm.Cond.methodLink "java/lang/StringLatin1" (38 : Nat) ({ cls := "java/lang/Math", name := "min", desc := "(II)I" } : Jvm.MethodName)) ∈ zgw := zgm 516 (by decide +kernel) rfl
theorem zw452 : (Jvm.Cond.static ({ cls := "java/lang/Math", name := "min", desc := "(II)I" } : Jvm.MethodName)) ∈ zgw := zgm 517 (by decide +kernel) rfl
theorem zw454 : (Jvm.Cond.methodLink "java/lang/StringLatin1" (95 : Nat) ({ cls := "java/lang/StringLatin1", name := "indexOfChar", desc := "([BIII)I" } : Jvm.MethodName)) ∈ zgw := zgm 519 (by decide +kernel) rfl
theorem zw455 : (Jvm.Cond.static ({ cls := "java/lang/StringLatin1", name := "indexOfChar", desc := "([BIII)I" } : Jvm.MethodName)) ∈ zgw := zgm 520 (by decide +kernel) rfl
theorem zw456 : (Jvm.Cond.code ({ cls := "java/lang/StringLatin1", name := "indexOfChar", desc := "([BIII)I" } : Jvm.MethodName) prog_14_method_23_code (6 : Nat) (Option.some Jvm.ClassFile.FieldType.int)) ∈ zgw := zgm 521 (by decide +kernel) rfl
theorem zw497 : (Jvm.Cond.methodLink "TwoTrue" (136 : Nat) ({ cls := "TwoTrue", name := "held", desc := "()LTwoTrue$Evening;" } : Jvm.MethodName)) ∈ zgw := zgm 562 (by decide +kernel) rfl
theorem zw499 : (Jvm.Cond.instanceMethod ({ cls := "TwoTrue", name := "held", desc := "()LTwoTrue$Evening;" } : Jvm.MethodName)) ∈ zgw := zgm 564 (by decide +kernel) rfl
theorem zw500 : (Jvm.Cond.code ({ cls := "TwoTrue", name := "held", desc := "()LTwoTrue$Evening;" } : Jvm.MethodName) prog_1_method_42_code (1 : Nat) (Option.some (Jvm.ClassFile.FieldType.object "TwoTrue$Evening"))) ∈ zgw := zgm 565 (by decide +kernel) rfl
theorem zw505 : (Jvm.Cond.methodLink "TwoTrue" (143 : Nat) ({ cls := "TwoTrue$Evening", name := "doubtOf", desc := "(LTwoTrue$Person;LTwoTrue$Person;I)I" } : Jvm.MethodName)) ∈ zgw := zgm 570 (by decide +kernel) rfl
theorem zw506 : (Jvm.Cond.instanceMethod ({ cls := "TwoTrue$Evening", name := "doubtOf", desc := "(LTwoTrue$Person;LTwoTrue$Person;I)I" } : Jvm.MethodName)) ∈ zgw := zgm 571 (by decide +kernel) rfl
theorem zw507 : (Jvm.Cond.selects "TwoTrue$Evening" ({ cls := "TwoTrue$Evening", name := "doubtOf", desc := "(LTwoTrue$Person;LTwoTrue$Person;I)I" } : Jvm.MethodName) ({ cls := "TwoTrue$Evening", name := "doubtOf", desc := "(LTwoTrue$Person;LTwoTrue$Person;I)I" } : Jvm.MethodName)) ∈ zgw := zgm 572 (by decide +kernel) rfl
theorem zw508 : (Jvm.Cond.code ({ cls := "TwoTrue$Evening", name := "doubtOf", desc := "(LTwoTrue$Person;LTwoTrue$Person;I)I" } : Jvm.MethodName) prog_3_method_4_code (5 : Nat) (Option.some Jvm.ClassFile.FieldType.int)) ∈ zgw := zgm 573 (by decide +kernel) rfl
theorem zw509 : (Jvm.Cond.methodLink "TwoTrue$Evening" (42 : Nat) ({ cls := "TwoTrue$Evening", name := "runClauses", desc := "()I" } : Jvm.MethodName)) ∈ zgw := zgm 574 (by decide +kernel) rfl
theorem zw511 : (Jvm.Cond.instanceMethod ({ cls := "TwoTrue$Evening", name := "runClauses", desc := "()I" } : Jvm.MethodName)) ∈ zgw := zgm 576 (by decide +kernel) rfl
theorem zw512 : (Jvm.Cond.code ({ cls := "TwoTrue$Evening", name := "runClauses", desc := "()I" } : Jvm.MethodName) prog_3_method_5_code (7 : Nat) (Option.some Jvm.ClassFile.FieldType.int)) ∈ zgw := zgm 577 (by decide +kernel) rfl
theorem zw513 : (Jvm.Cond.methodLink "TwoTrue$Evening" (46 : Nat) ({ cls := "TwoTrue$Evening", name := "holds", desc := "(III)Z" } : Jvm.MethodName)) ∈ zgw := zgm 578 (by decide +kernel) rfl
theorem zw515 : (Jvm.Cond.instanceMethod ({ cls := "TwoTrue$Evening", name := "holds", desc := "(III)Z" } : Jvm.MethodName)) ∈ zgw := zgm 580 (by decide +kernel) rfl
theorem zw516 : (Jvm.Cond.code ({ cls := "TwoTrue$Evening", name := "holds", desc := "(III)Z" } : Jvm.MethodName) prog_3_method_6_code (5 : Nat) (Option.some Jvm.ClassFile.FieldType.boolean)) ∈ zgw := zgm 581 (by decide +kernel) rfl
theorem zw521 : (Jvm.Cond.methodLink "TwoTrue" (147 : Nat) ({ cls := "TwoTrue", name := "playForPoints", desc := "(LTwoTrue$Party;I)I" } : Jvm.MethodName)) ∈ zgw := zgm 586 (by decide +kernel) rfl
theorem zw523 : (Jvm.Cond.instanceMethod ({ cls := "TwoTrue", name := "playForPoints", desc := "(LTwoTrue$Party;I)I" } : Jvm.MethodName)) ∈ zgw := zgm 588 (by decide +kernel) rfl
theorem zw524 : (Jvm.Cond.code ({ cls := "TwoTrue", name := "playForPoints", desc := "(LTwoTrue$Party;I)I" } : Jvm.MethodName) prog_1_method_44_code (5 : Nat) (Option.some Jvm.ClassFile.FieldType.int)) ∈ zgw := zgm 589 (by decide +kernel) rfl
theorem zw525 : (Jvm.Cond.methodLink "TwoTrue" (151 : Nat) ({ cls := "TwoTrue", name := "playAsEver", desc := "(LTwoTrue$Party;I)I" } : Jvm.MethodName)) ∈ zgw := zgm 590 (by decide +kernel) rfl
theorem zw527 : (Jvm.Cond.instanceMethod ({ cls := "TwoTrue", name := "playAsEver", desc := "(LTwoTrue$Party;I)I" } : Jvm.MethodName)) ∈ zgw := zgm 592 (by decide +kernel) rfl
theorem zw528 : (Jvm.Cond.code ({ cls := "TwoTrue", name := "playAsEver", desc := "(LTwoTrue$Party;I)I" } : Jvm.MethodName) prog_1_method_43_code (4 : Nat) (Option.some Jvm.ClassFile.FieldType.int)) ∈ zgw := zgm 593 (by decide +kernel) rfl
theorem zw529 : (Jvm.Cond.methodLink "TwoTrue" (272 : Nat) ({ cls := "TwoTrue$Play", name := "begin", desc := "(LTwoTrue$Party;LTwoTrue$Evening;I)V" } : Jvm.MethodName)) ∈ zgw := zgm 594 (by decide +kernel) rfl
theorem zw530 : (Jvm.Cond.instanceMethod ({ cls := "TwoTrue$Play", name := "begin", desc := "(LTwoTrue$Party;LTwoTrue$Evening;I)V" } : Jvm.MethodName)) ∈ zgw := zgm 595 (by decide +kernel) rfl
theorem zw531 : (Jvm.Cond.selects "TwoTrue$Play" ({ cls := "TwoTrue$Play", name := "begin", desc := "(LTwoTrue$Party;LTwoTrue$Evening;I)V" } : Jvm.MethodName) ({ cls := "TwoTrue$Play", name := "begin", desc := "(LTwoTrue$Party;LTwoTrue$Evening;I)V" } : Jvm.MethodName)) ∈ zgw := zgm 596 (by decide +kernel) rfl
theorem zw532 : (Jvm.Cond.code ({ cls := "TwoTrue$Play", name := "begin", desc := "(LTwoTrue$Party;LTwoTrue$Evening;I)V" } : Jvm.MethodName) prog_6_method_2_code (8 : Nat) (Option.none : Option Jvm.ClassFile.FieldType)) ∈ zgw := zgm 597 (by decide +kernel) rfl
theorem zw533 : (Jvm.Cond.methodLink "TwoTrue$Play" (34 : Nat) ({ cls := "TwoTrue$Person", name := "placeOfLie", desc := "()I" } : Jvm.MethodName)) ∈ zgw := zgm 598 (by decide +kernel) rfl
theorem zw534 : (Jvm.Cond.instanceMethod ({ cls := "TwoTrue$Person", name := "placeOfLie", desc := "()I" } : Jvm.MethodName)) ∈ zgw := zgm 599 (by decide +kernel) rfl
theorem zw535 : (Jvm.Cond.selects "TwoTrue$Person" ({ cls := "TwoTrue$Person", name := "placeOfLie", desc := "()I" } : Jvm.MethodName) ({ cls := "TwoTrue$Person", name := "placeOfLie", desc := "()I" } : Jvm.MethodName)) ∈ zgw := zgm 600 (by decide +kernel) rfl
theorem zw536 : (Jvm.Cond.code ({ cls := "TwoTrue$Person", name := "placeOfLie", desc := "()I" } : Jvm.MethodName) prog_5_method_5_code (1 : Nat) (Option.some Jvm.ClassFile.FieldType.int)) ∈ zgw := zgm 601 (by decide +kernel) rfl
theorem zw538 : (Jvm.Cond.static ({ cls := "TwoTrue", name := "isOfKind", desc := "(II)Z" } : Jvm.MethodName)) ∈ zgw := zgm 603 (by decide +kernel) rfl
theorem zw539 : (Jvm.Cond.code ({ cls := "TwoTrue", name := "isOfKind", desc := "(II)Z" } : Jvm.MethodName) prog_1_method_40_code (4 : Nat) (Option.some Jvm.ClassFile.FieldType.boolean)) ∈ zgw := zgm 604 (by decide +kernel) rfl
theorem zw540 : (Jvm.Cond.fieldLink "TwoTrue" (269 : Nat) "TwoTrue" "KIND_ABOVE" "[I") ∈ zgw := zgm 605 (by decide +kernel) rfl
theorem zw542 : (Jvm.Cond.methodLink "TwoTrue$Play" (58 : Nat) ({ cls := "TwoTrue$Evening", name := "doubtOf", desc := "(LTwoTrue$Person;LTwoTrue$Person;I)I" } : Jvm.MethodName)) ∈ zgw := zgm 607 (by decide +kernel) rfl
theorem zw543 : (Jvm.Cond.methodLink "TwoTrue$Play" (62 : Nat) ({ cls := "TwoTrue$Play", name := "addedTo", desc := "(LTwoTrue$Person;LTwoTrue$Person;ILTwoTrue$Party;)I" } : Jvm.MethodName)) ∈ zgw := zgm 608 (by decide +kernel) rfl
theorem zw545 : (Jvm.Cond.instanceMethod ({ cls := "TwoTrue$Play", name := "addedTo", desc := "(LTwoTrue$Person;LTwoTrue$Person;ILTwoTrue$Party;)I" } : Jvm.MethodName)) ∈ zgw := zgm 610 (by decide +kernel) rfl
theorem zw546 : (Jvm.Cond.code ({ cls := "TwoTrue$Play", name := "addedTo", desc := "(LTwoTrue$Person;LTwoTrue$Person;ILTwoTrue$Party;)I" } : Jvm.MethodName) prog_6_method_3_code (6 : Nat) (Option.some Jvm.ClassFile.FieldType.int)) ∈ zgw := zgm 611 (by decide +kernel) rfl
theorem zw547 : (Jvm.Cond.methodLink "TwoTrue$Play" (75 : Nat) ({ cls := "TwoTrue$Play", name := "knows", desc := "(LTwoTrue$Person;LTwoTrue$Person;I)Z" } : Jvm.MethodName)) ∈ zgw := zgm 612 (by decide +kernel) rfl
theorem zw548 : (Jvm.Cond.static ({ cls := "TwoTrue$Play", name := "knows", desc := "(LTwoTrue$Person;LTwoTrue$Person;I)Z" } : Jvm.MethodName)) ∈ zgw := zgm 613 (by decide +kernel) rfl
theorem zw549 : (Jvm.Cond.code ({ cls := "TwoTrue$Play", name := "knows", desc := "(LTwoTrue$Person;LTwoTrue$Person;I)Z" } : Jvm.MethodName) prog_6_method_4_code (3 : Nat) (Option.some Jvm.ClassFile.FieldType.boolean)) ∈ zgw := zgm 614 (by decide +kernel) rfl
theorem zw550 : (Jvm.Cond.methodLink "TwoTrue$Play" (66 : Nat) ({ cls := "TwoTrue$Play", name := "lowerHands", desc := "()V" } : Jvm.MethodName)) ∈ zgw := zgm 615 (by decide +kernel) rfl
theorem zw551 : (Jvm.Cond.instanceMethod ({ cls := "TwoTrue$Play", name := "lowerHands", desc := "()V" } : Jvm.MethodName)) ∈ zgw := zgm 616 (by decide +kernel) rfl
theorem zw552 : (Jvm.Cond.selects "TwoTrue$Play" ({ cls := "TwoTrue$Play", name := "lowerHands", desc := "()V" } : Jvm.MethodName) ({ cls := "TwoTrue$Play", name := "lowerHands", desc := "()V" } : Jvm.MethodName)) ∈ zgw := zgm 617 (by decide +kernel) rfl
theorem zw553 : (Jvm.Cond.code ({ cls := "TwoTrue$Play", name := "lowerHands", desc := "()V" } : Jvm.MethodName) prog_6_method_5_code (2 : Nat) (Option.none : Option Jvm.ClassFile.FieldType)) ∈ zgw := zgm 618 (by decide +kernel) rfl
theorem zw554 : (Jvm.Cond.methodLink "TwoTrue" (176 : Nat) ({ cls := "TwoTrue$Play", name := "letGuess", desc := "(I)I" } : Jvm.MethodName)) ∈ zgw := zgm 619 (by decide +kernel) rfl
theorem zw555 : (Jvm.Cond.instanceMethod ({ cls := "TwoTrue$Play", name := "letGuess", desc := "(I)I" } : Jvm.MethodName)) ∈ zgw := zgm 620 (by decide +kernel) rfl
theorem zw556 : (Jvm.Cond.selects "TwoTrue$Play" ({ cls := "TwoTrue$Play", name := "letGuess", desc := "(I)I" } : Jvm.MethodName) ({ cls := "TwoTrue$Play", name := "letGuess", desc := "(I)I" } : Jvm.MethodName)) ∈ zgw := zgm 621 (by decide +kernel) rfl
theorem zw557 : (Jvm.Cond.code ({ cls := "TwoTrue$Play", name := "letGuess", desc := "(I)I" } : Jvm.MethodName) prog_6_method_6_code (7 : Nat) (Option.some Jvm.ClassFile.FieldType.int)) ∈ zgw := zgm 622 (by decide +kernel) rfl
theorem zw570 : (Jvm.Cond.methodLink "TwoTrue" (160 : Nat) ({ cls := "TwoTrue$Party", name := "become", desc := "(LTwoTrue$Party;)V" } : Jvm.MethodName)) ∈ zgw := zgm 635 (by decide +kernel) rfl
theorem zw571 : (Jvm.Cond.instanceMethod ({ cls := "TwoTrue$Party", name := "become", desc := "(LTwoTrue$Party;)V" } : Jvm.MethodName)) ∈ zgw := zgm 636 (by decide +kernel) rfl
theorem zw572 : (Jvm.Cond.selects "TwoTrue$Party" ({ cls := "TwoTrue$Party", name := "become", desc := "(LTwoTrue$Party;)V" } : Jvm.MethodName) ({ cls := "TwoTrue$Party", name := "become", desc := "(LTwoTrue$Party;)V" } : Jvm.MethodName)) ∈ zgw := zgm 637 (by decide +kernel) rfl
theorem zw573 : (Jvm.Cond.code ({ cls := "TwoTrue$Party", name := "become", desc := "(LTwoTrue$Party;)V" } : Jvm.MethodName) prog_4_method_6_code (3 : Nat) (Option.none : Option Jvm.ClassFile.FieldType)) ∈ zgw := zgm 638 (by decide +kernel) rfl
theorem zw574 : (Jvm.Cond.methodLink "TwoTrue$Party" (47 : Nat) ({ cls := "java/lang/System", name := "arraycopy", desc := "(Ljava/lang/Object;ILjava/lang/Object;II)V" } : Jvm.MethodName)) ∈ zgw := zgm 639 (by decide +kernel) rfl
theorem zw575 : (Jvm.Cond.static ({ cls := "java/lang/System", name := "arraycopy", desc := "(Ljava/lang/Object;ILjava/lang/Object;II)V" } : Jvm.MethodName)) ∈ zgw := zgm 640 (by decide +kernel) rfl
theorem zw576 : (Jvm.Cond.native ({ cls := "java/lang/System", name := "arraycopy", desc := "(Ljava/lang/Object;ILjava/lang/Object;II)V" } : Jvm.MethodName)) ∈ zgw := zgm 641 (by decide +kernel) rfl
theorem zw577 : (Jvm.Cond.methodLink "TwoTrue$Party" (53 : Nat) ({ cls := "TwoTrue$Person", name := "become", desc := "(LTwoTrue$Person;)V" } : Jvm.MethodName)) ∈ zgw := zgm 642 (by decide +kernel) rfl
theorem zw578 : (Jvm.Cond.instanceMethod ({ cls := "TwoTrue$Person", name := "become", desc := "(LTwoTrue$Person;)V" } : Jvm.MethodName)) ∈ zgw := zgm 643 (by decide +kernel) rfl
theorem zw579 : (Jvm.Cond.selects "TwoTrue$Person" ({ cls := "TwoTrue$Person", name := "become", desc := "(LTwoTrue$Person;)V" } : Jvm.MethodName) ({ cls := "TwoTrue$Person", name := "become", desc := "(LTwoTrue$Person;)V" } : Jvm.MethodName)) ∈ zgw := zgm 644 (by decide +kernel) rfl
theorem zw580 : (Jvm.Cond.code ({ cls := "TwoTrue$Person", name := "become", desc := "(LTwoTrue$Person;)V" } : Jvm.MethodName) prog_5_method_3_code (2 : Nat) (Option.none : Option Jvm.ClassFile.FieldType)) ∈ zgw := zgm 645 (by decide +kernel) rfl
theorem zw581 : (Jvm.Cond.methodLink "TwoTrue$Person" (40 : Nat) ({ cls := "java/lang/System", name := "arraycopy", desc := "(Ljava/lang/Object;ILjava/lang/Object;II)V" } : Jvm.MethodName)) ∈ zgw := zgm 646 (by decide +kernel) rfl
theorem zw582 : (Jvm.Cond.fieldLink "TwoTrue" (164 : Nat) "TwoTrue" "ORDER_ROWS" "[I") ∈ zgw := zgm 647 (by decide +kernel) rfl
theorem zw596 : (Jvm.Cond.methodLink "TwoTrue" (167 : Nat) ({ cls := "java/lang/System", name := "arraycopy", desc := "(Ljava/lang/Object;ILjava/lang/Object;II)V" } : Jvm.MethodName)) ∈ zgw := zgm 661 (by decide +kernel) rfl
theorem zw597 : (Jvm.Cond.methodLink "TwoTrue" (173 : Nat) ({ cls := "TwoTrue$Play", name := "lowerHands", desc := "()V" } : Jvm.MethodName)) ∈ zgw := zgm 662 (by decide +kernel) rfl
theorem zw602 : (Jvm.Cond.methodLink "TwoTrue" (179 : Nat) ({ cls := "TwoTrue", name := "seekLine", desc := "(I)I" } : Jvm.MethodName)) ∈ zgw := zgm 667 (by decide +kernel) rfl
theorem zw604 : (Jvm.Cond.instanceMethod ({ cls := "TwoTrue", name := "seekLine", desc := "(I)I" } : Jvm.MethodName)) ∈ zgw := zgm 669 (by decide +kernel) rfl
theorem zw605 : (Jvm.Cond.code ({ cls := "TwoTrue", name := "seekLine", desc := "(I)I" } : Jvm.MethodName) prog_1_method_46_code (7 : Nat) (Option.some Jvm.ClassFile.FieldType.int)) ∈ zgw := zgm 670 (by decide +kernel) rfl
theorem zw606 : (Jvm.Cond.methodLink "TwoTrue" (279 : Nat) ({ cls := "TwoTrue", name := "stepRow", desc := "([II)Z" } : Jvm.MethodName)) ∈ zgw := zgm 671 (by decide +kernel) rfl
theorem zw607 : (Jvm.Cond.static ({ cls := "TwoTrue", name := "stepRow", desc := "([II)Z" } : Jvm.MethodName)) ∈ zgw := zgm 672 (by decide +kernel) rfl
theorem zw608 : (Jvm.Cond.code ({ cls := "TwoTrue", name := "stepRow", desc := "([II)Z" } : Jvm.MethodName) prog_1_method_47_code (6 : Nat) (Option.some Jvm.ClassFile.FieldType.boolean)) ∈ zgw := zgm 673 (by decide +kernel) rfl
theorem zw609 : (Jvm.Cond.methodLink "TwoTrue" (283 : Nat) ({ cls := "TwoTrue", name := "exchange", desc := "([III)V" } : Jvm.MethodName)) ∈ zgw := zgm 674 (by decide +kernel) rfl
theorem zw610 : (Jvm.Cond.static ({ cls := "TwoTrue", name := "exchange", desc := "([III)V" } : Jvm.MethodName)) ∈ zgw := zgm 675 (by decide +kernel) rfl
theorem zw611 : (Jvm.Cond.code ({ cls := "TwoTrue", name := "exchange", desc := "([III)V" } : Jvm.MethodName) prog_1_method_48_code (4 : Nat) (Option.none : Option Jvm.ClassFile.FieldType)) ∈ zgw := zgm 676 (by decide +kernel) rfl
theorem zw616 : (Jvm.Cond.methodLink "TwoTrue" (182 : Nat) ({ cls := "TwoTrue", name := "isOfKind", desc := "(II)Z" } : Jvm.MethodName)) ∈ zgw := zgm 681 (by decide +kernel) rfl
theorem zw617 : (Jvm.Cond.methodLink "TwoTrue" (189 : Nat) ({ cls := "TwoTrue", name := "guessOfGuest", desc := "(LTwoTrue$Person;LTwoTrue$Person;)I" } : Jvm.MethodName)) ∈ zgw := zgm 682 (by decide +kernel) rfl
theorem zw619 : (Jvm.Cond.instanceMethod ({ cls := "TwoTrue", name := "guessOfGuest", desc := "(LTwoTrue$Person;LTwoTrue$Person;)I" } : Jvm.MethodName)) ∈ zgw := zgm 684 (by decide +kernel) rfl
theorem zw620 : (Jvm.Cond.code ({ cls := "TwoTrue", name := "guessOfGuest", desc := "(LTwoTrue$Person;LTwoTrue$Person;)I" } : Jvm.MethodName) prog_1_method_45_code (7 : Nat) (Option.some Jvm.ClassFile.FieldType.int)) ∈ zgw := zgm 685 (by decide +kernel) rfl
theorem zw629 : (Jvm.Cond.methodLink "TwoTrue" (196 : Nat) ({ cls := "TwoTrue$Play", name := "isRaised", desc := "([I)Z" } : Jvm.MethodName)) ∈ zgw := zgm 694 (by decide +kernel) rfl
theorem zw630 : (Jvm.Cond.instanceMethod ({ cls := "TwoTrue$Play", name := "isRaised", desc := "([I)Z" } : Jvm.MethodName)) ∈ zgw := zgm 695 (by decide +kernel) rfl
theorem zw631 : (Jvm.Cond.selects "TwoTrue$Play" ({ cls := "TwoTrue$Play", name := "isRaised", desc := "([I)Z" } : Jvm.MethodName) ({ cls := "TwoTrue$Play", name := "isRaised", desc := "([I)Z" } : Jvm.MethodName)) ∈ zgw := zgm 696 (by decide +kernel) rfl
theorem zw632 : (Jvm.Cond.code ({ cls := "TwoTrue$Play", name := "isRaised", desc := "([I)Z" } : Jvm.MethodName) prog_6_method_7_code (2 : Nat) (Option.some Jvm.ClassFile.FieldType.boolean)) ∈ zgw := zgm 697 (by decide +kernel) rfl
theorem zw637 : (Jvm.Cond.methodLink "TwoTrue" (203 : Nat) ({ cls := "TwoTrue$Party", name := "leader", desc := "()I" } : Jvm.MethodName)) ∈ zgw := zgm 702 (by decide +kernel) rfl
theorem zw638 : (Jvm.Cond.instanceMethod ({ cls := "TwoTrue$Party", name := "leader", desc := "()I" } : Jvm.MethodName)) ∈ zgw := zgm 703 (by decide +kernel) rfl
theorem zw639 : (Jvm.Cond.selects "TwoTrue$Party" ({ cls := "TwoTrue$Party", name := "leader", desc := "()I" } : Jvm.MethodName) ({ cls := "TwoTrue$Party", name := "leader", desc := "()I" } : Jvm.MethodName)) ∈ zgw := zgm 704 (by decide +kernel) rfl
theorem zw640 : (Jvm.Cond.code ({ cls := "TwoTrue$Party", name := "leader", desc := "()I" } : Jvm.MethodName) prog_4_method_5_code (3 : Nat) (Option.some Jvm.ClassFile.FieldType.int)) ∈ zgw := zgm 705 (by decide +kernel) rfl
theorem zw645 : (Jvm.Cond.constantLong "TwoTrue" (207 : Nat) (-9223372036854775808 : Int64)) ∈ zgw := zgm 710 (by decide +kernel) rfl
theorem zw646 : (Jvm.Cond.methodLink "TwoTrue" (209 : Nat) ({ cls := "TwoTrue", name := "partOfFraction", desc := "(III)J" } : Jvm.MethodName)) ∈ zgw := zgm 711 (by decide +kernel) rfl
theorem zw647 : (Jvm.Cond.static ({ cls := "TwoTrue", name := "partOfFraction", desc := "(III)J" } : Jvm.MethodName)) ∈ zgw := zgm 712 (by decide +kernel) rfl
theorem zw648 : (Jvm.Cond.code ({ cls := "TwoTrue", name := "partOfFraction", desc := "(III)J" } : Jvm.MethodName) prog_1_method_41_code (5 : Nat) (Option.some Jvm.ClassFile.FieldType.long)) ∈ zgw := zgm 713 (by decide +kernel) rfl
theorem zw657 : (Jvm.Cond.methodLink "TwoTrue" (216 : Nat) ({ cls := "TwoTrue$Party", name := "write", desc := "(III)I" } : Jvm.MethodName)) ∈ zgw := zgm 722 (by decide +kernel) rfl
theorem zw658 : (Jvm.Cond.instanceMethod ({ cls := "TwoTrue$Party", name := "write", desc := "(III)I" } : Jvm.MethodName)) ∈ zgw := zgm 723 (by decide +kernel) rfl
theorem zw659 : (Jvm.Cond.selects "TwoTrue$Party" ({ cls := "TwoTrue$Party", name := "write", desc := "(III)I" } : Jvm.MethodName) ({ cls := "TwoTrue$Party", name := "write", desc := "(III)I" } : Jvm.MethodName)) ∈ zgw := zgm 724 (by decide +kernel) rfl
theorem zw660 : (Jvm.Cond.code ({ cls := "TwoTrue$Party", name := "write", desc := "(III)I" } : Jvm.MethodName) prog_4_method_4_code (4 : Nat) (Option.some Jvm.ClassFile.FieldType.int)) ∈ zgw := zgm 725 (by decide +kernel) rfl
theorem zw669 : (Jvm.Cond.methodLink "TwoTrue" (223 : Nat) ({ cls := "TwoTrue$Tapes", name := "has", desc := "(I)Z" } : Jvm.MethodName)) ∈ zgw := zgm 734 (by decide +kernel) rfl
theorem zw670 : (Jvm.Cond.instanceMethod ({ cls := "TwoTrue$Tapes", name := "has", desc := "(I)Z" } : Jvm.MethodName)) ∈ zgw := zgm 735 (by decide +kernel) rfl
theorem zw671 : (Jvm.Cond.selects "TwoTrue$Tapes" ({ cls := "TwoTrue$Tapes", name := "has", desc := "(I)Z" } : Jvm.MethodName) ({ cls := "TwoTrue$Tapes", name := "has", desc := "(I)Z" } : Jvm.MethodName)) ∈ zgw := zgm 736 (by decide +kernel) rfl
theorem zw672 : (Jvm.Cond.code ({ cls := "TwoTrue$Tapes", name := "has", desc := "(I)Z" } : Jvm.MethodName) prog_7_method_2_code (2 : Nat) (Option.some Jvm.ClassFile.FieldType.boolean)) ∈ zgw := zgm 737 (by decide +kernel) rfl
theorem zw673 : (Jvm.Cond.methodLink "TwoTrue" (224 : Nat) ({ cls := "TwoTrue$Tapes", name := "holds", desc := "(I)Z" } : Jvm.MethodName)) ∈ zgw := zgm 738 (by decide +kernel) rfl
theorem zw674 : (Jvm.Cond.instanceMethod ({ cls := "TwoTrue$Tapes", name := "holds", desc := "(I)Z" } : Jvm.MethodName)) ∈ zgw := zgm 739 (by decide +kernel) rfl
theorem zw675 : (Jvm.Cond.selects "TwoTrue$Tapes" ({ cls := "TwoTrue$Tapes", name := "holds", desc := "(I)Z" } : Jvm.MethodName) ({ cls := "TwoTrue$Tapes", name := "holds", desc := "(I)Z" } : Jvm.MethodName)) ∈ zgw := zgm 740 (by decide +kernel) rfl
theorem zw676 : (Jvm.Cond.code ({ cls := "TwoTrue$Tapes", name := "holds", desc := "(I)Z" } : Jvm.MethodName) prog_7_method_3_code (2 : Nat) (Option.some Jvm.ClassFile.FieldType.boolean)) ∈ zgw := zgm 741 (by decide +kernel) rfl
theorem zw677 : (Jvm.Cond.methodLink "TwoTrue" (232 : Nat) ({ cls := "TwoTrue$Tapes", name := "at", desc := "(II)J" } : Jvm.MethodName)) ∈ zgw := zgm 742 (by decide +kernel) rfl
theorem zw678 : (Jvm.Cond.instanceMethod ({ cls := "TwoTrue$Tapes", name := "at", desc := "(II)J" } : Jvm.MethodName)) ∈ zgw := zgm 743 (by decide +kernel) rfl
theorem zw679 : (Jvm.Cond.selects "TwoTrue$Tapes" ({ cls := "TwoTrue$Tapes", name := "at", desc := "(II)J" } : Jvm.MethodName) ({ cls := "TwoTrue$Tapes", name := "at", desc := "(II)J" } : Jvm.MethodName)) ∈ zgw := zgm 744 (by decide +kernel) rfl
theorem zw680 : (Jvm.Cond.code ({ cls := "TwoTrue$Tapes", name := "at", desc := "(II)J" } : Jvm.MethodName) prog_7_method_7_code (3 : Nat) (Option.some Jvm.ClassFile.FieldType.long)) ∈ zgw := zgm 745 (by decide +kernel) rfl
theorem zw693 : (Jvm.Cond.methodLink "TwoTrue" (243 : Nat) ({ cls := "TwoTrue$Acts", name := "run", desc := "(LTwoTrue$Person;II)I" } : Jvm.MethodName)) ∈ zgw := zgm 758 (by decide +kernel) rfl
theorem zw694 : (Jvm.Cond.instanceMethod ({ cls := "TwoTrue$Acts", name := "run", desc := "(LTwoTrue$Person;II)I" } : Jvm.MethodName)) ∈ zgw := zgm 759 (by decide +kernel) rfl
theorem zw695 : (Jvm.Cond.selects "TwoTrue$Acts" ({ cls := "TwoTrue$Acts", name := "run", desc := "(LTwoTrue$Person;II)I" } : Jvm.MethodName) ({ cls := "TwoTrue$Acts", name := "run", desc := "(LTwoTrue$Person;II)I" } : Jvm.MethodName)) ∈ zgw := zgm 760 (by decide +kernel) rfl
theorem zw696 : (Jvm.Cond.code ({ cls := "TwoTrue$Acts", name := "run", desc := "(LTwoTrue$Person;II)I" } : Jvm.MethodName) prog_2_method_2_code (4 : Nat) (Option.some Jvm.ClassFile.FieldType.int)) ∈ zgw := zgm 761 (by decide +kernel) rfl
theorem zw697 : (Jvm.Cond.methodLink "TwoTrue$Acts" (21 : Nat) ({ cls := "TwoTrue$Acts", name := "perform", desc := "(LTwoTrue$Person;IIII)I" } : Jvm.MethodName)) ∈ zgw := zgm 762 (by decide +kernel) rfl
theorem zw699 : (Jvm.Cond.instanceMethod ({ cls := "TwoTrue$Acts", name := "perform", desc := "(LTwoTrue$Person;IIII)I" } : Jvm.MethodName)) ∈ zgw := zgm 764 (by decide +kernel) rfl
theorem zw700 : (Jvm.Cond.code ({ cls := "TwoTrue$Acts", name := "perform", desc := "(LTwoTrue$Person;IIII)I" } : Jvm.MethodName) prog_2_method_3_code (8 : Nat) (Option.some Jvm.ClassFile.FieldType.int)) ∈ zgw := zgm 765 (by decide +kernel) rfl
theorem zw701 : (Jvm.Cond.fieldLink "TwoTrue$Acts" (25 : Nat) "TwoTrue$Acts" "BODIES" "[I") ∈ zgw := zgm 766 (by decide +kernel) rfl
theorem zw704 : (Jvm.Cond.methodLink "TwoTrue$Acts" (34 : Nat) ({ cls := "TwoTrue$Acts", name := "runBody", desc := "(ILTwoTrue$Person;III)I" } : Jvm.MethodName)) ∈ zgw := zgm 769 (by decide +kernel) rfl
theorem zw706 : (Jvm.Cond.instanceMethod ({ cls := "TwoTrue$Acts", name := "runBody", desc := "(ILTwoTrue$Person;III)I" } : Jvm.MethodName)) ∈ zgw := zgm 771 (by decide +kernel) rfl
theorem zw707 : (Jvm.Cond.code ({ cls := "TwoTrue$Acts", name := "runBody", desc := "(ILTwoTrue$Person;III)I" } : Jvm.MethodName) prog_2_method_4_code (6 : Nat) (Option.some Jvm.ClassFile.FieldType.int)) ∈ zgw := zgm 772 (by decide +kernel) rfl
theorem zw724 : (Jvm.Cond.methodLink "TwoTrue" (250 : Nat) ({ cls := "TwoTrue$Tapes", name := "lay", desc := "(III)V" } : Jvm.MethodName)) ∈ zgw := zgm 789 (by decide +kernel) rfl
theorem zw725 : (Jvm.Cond.instanceMethod ({ cls := "TwoTrue$Tapes", name := "lay", desc := "(III)V" } : Jvm.MethodName)) ∈ zgw := zgm 790 (by decide +kernel) rfl
theorem zw726 : (Jvm.Cond.selects "TwoTrue$Tapes" ({ cls := "TwoTrue$Tapes", name := "lay", desc := "(III)V" } : Jvm.MethodName) ({ cls := "TwoTrue$Tapes", name := "lay", desc := "(III)V" } : Jvm.MethodName)) ∈ zgw := zgm 791 (by decide +kernel) rfl
theorem zw727 : (Jvm.Cond.code ({ cls := "TwoTrue$Tapes", name := "lay", desc := "(III)V" } : Jvm.MethodName) prog_7_method_6_code (5 : Nat) (Option.none : Option Jvm.ClassFile.FieldType)) ∈ zgw := zgm 792 (by decide +kernel) rfl
theorem zw732 : (Jvm.Cond.methodLink "TwoTrue" (254 : Nat) ({ cls := "TwoTrue$Tapes", name := "hasPlace", desc := "(II)Z" } : Jvm.MethodName)) ∈ zgw := zgm 797 (by decide +kernel) rfl
theorem zw733 : (Jvm.Cond.instanceMethod ({ cls := "TwoTrue$Tapes", name := "hasPlace", desc := "(II)Z" } : Jvm.MethodName)) ∈ zgw := zgm 798 (by decide +kernel) rfl
theorem zw734 : (Jvm.Cond.selects "TwoTrue$Tapes" ({ cls := "TwoTrue$Tapes", name := "hasPlace", desc := "(II)Z" } : Jvm.MethodName) ({ cls := "TwoTrue$Tapes", name := "hasPlace", desc := "(II)Z" } : Jvm.MethodName)) ∈ zgw := zgm 799 (by decide +kernel) rfl
theorem zw735 : (Jvm.Cond.code ({ cls := "TwoTrue$Tapes", name := "hasPlace", desc := "(II)Z" } : Jvm.MethodName) prog_7_method_4_code (3 : Nat) (Option.some Jvm.ClassFile.FieldType.boolean)) ∈ zgw := zgm 800 (by decide +kernel) rfl
theorem zw736 : (Jvm.Cond.methodLink "TwoTrue" (257 : Nat) ({ cls := "TwoTrue$Tapes", name := "put", desc := "(IIJ)V" } : Jvm.MethodName)) ∈ zgw := zgm 801 (by decide +kernel) rfl
theorem zw737 : (Jvm.Cond.instanceMethod ({ cls := "TwoTrue$Tapes", name := "put", desc := "(IIJ)V" } : Jvm.MethodName)) ∈ zgw := zgm 802 (by decide +kernel) rfl
theorem zw738 : (Jvm.Cond.selects "TwoTrue$Tapes" ({ cls := "TwoTrue$Tapes", name := "put", desc := "(IIJ)V" } : Jvm.MethodName) ({ cls := "TwoTrue$Tapes", name := "put", desc := "(IIJ)V" } : Jvm.MethodName)) ∈ zgw := zgm 803 (by decide +kernel) rfl
theorem zw739 : (Jvm.Cond.code ({ cls := "TwoTrue$Tapes", name := "put", desc := "(IIJ)V" } : Jvm.MethodName) prog_7_method_8_code (5 : Nat) (Option.none : Option Jvm.ClassFile.FieldType)) ∈ zgw := zgm 804 (by decide +kernel) rfl
theorem zw740 : (Jvm.Cond.methodLink "TwoTrue$Tapes" (20 : Nat) ({ cls := "TwoTrue$Tapes", name := "cut", desc := "(IJ)J" } : Jvm.MethodName)) ∈ zgw := zgm 805 (by decide +kernel) rfl
theorem zw741 : (Jvm.Cond.static ({ cls := "TwoTrue$Tapes", name := "cut", desc := "(IJ)J" } : Jvm.MethodName)) ∈ zgw := zgm 806 (by decide +kernel) rfl
theorem zw742 : (Jvm.Cond.code ({ cls := "TwoTrue$Tapes", name := "cut", desc := "(IJ)J" } : Jvm.MethodName) prog_7_method_9_code (3 : Nat) (Option.some Jvm.ClassFile.FieldType.long)) ∈ zgw := zgm 807 (by decide +kernel) rfl
theorem zw751 : (Jvm.Cond.methodLink "TwoTrue" (261 : Nat) ({ cls := "TwoTrue$Tapes", name := "hasPlaces", desc := "(III)Z" } : Jvm.MethodName)) ∈ zgw := zgm 816 (by decide +kernel) rfl
theorem zw752 : (Jvm.Cond.instanceMethod ({ cls := "TwoTrue$Tapes", name := "hasPlaces", desc := "(III)Z" } : Jvm.MethodName)) ∈ zgw := zgm 817 (by decide +kernel) rfl
theorem zw753 : (Jvm.Cond.selects "TwoTrue$Tapes" ({ cls := "TwoTrue$Tapes", name := "hasPlaces", desc := "(III)Z" } : Jvm.MethodName) ({ cls := "TwoTrue$Tapes", name := "hasPlaces", desc := "(III)Z" } : Jvm.MethodName)) ∈ zgw := zgm 818 (by decide +kernel) rfl
theorem zw754 : (Jvm.Cond.code ({ cls := "TwoTrue$Tapes", name := "hasPlaces", desc := "(III)Z" } : Jvm.MethodName) prog_7_method_5_code (4 : Nat) (Option.some Jvm.ClassFile.FieldType.boolean)) ∈ zgw := zgm 819 (by decide +kernel) rfl
theorem zw755 : (Jvm.Cond.methodLink "TwoTrue" (265 : Nat) ({ cls := "TwoTrue$Tapes", name := "copy", desc := "(IIIII)V" } : Jvm.MethodName)) ∈ zgw := zgm 820 (by decide +kernel) rfl
theorem zw756 : (Jvm.Cond.instanceMethod ({ cls := "TwoTrue$Tapes", name := "copy", desc := "(IIIII)V" } : Jvm.MethodName)) ∈ zgw := zgm 821 (by decide +kernel) rfl
theorem zw757 : (Jvm.Cond.selects "TwoTrue$Tapes" ({ cls := "TwoTrue$Tapes", name := "copy", desc := "(IIIII)V" } : Jvm.MethodName) ({ cls := "TwoTrue$Tapes", name := "copy", desc := "(IIIII)V" } : Jvm.MethodName)) ∈ zgw := zgm 822 (by decide +kernel) rfl
theorem zw758 : (Jvm.Cond.code ({ cls := "TwoTrue$Tapes", name := "copy", desc := "(IIIII)V" } : Jvm.MethodName) prog_7_method_10_code (6 : Nat) (Option.none : Option Jvm.ClassFile.FieldType)) ∈ zgw := zgm 823 (by decide +kernel) rfl
theorem zw759 : (Jvm.Cond.methodLink "TwoTrue$Tapes" (24 : Nat) ({ cls := "java/lang/System", name := "arraycopy", desc := "(Ljava/lang/Object;ILjava/lang/Object;II)V" } : Jvm.MethodName)) ∈ zgw := zgm 824 (by decide +kernel) rfl
theorem zw766 : (Jvm.Cond.fieldLink "TwoTrueModel" (7 : Nat) "TwoTrueModel" "people" "I") ∈ zgw := zgm 831 (by decide +kernel) rfl
theorem zw767 : (Jvm.Cond.fieldLink "TwoTrueModel" (13 : Nat) "TwoTrueModel" "rounds" "I") ∈ zgw := zgm 832 (by decide +kernel) rfl
theorem zw768 : (Jvm.Cond.fieldLink "TwoTrueModel" (16 : Nat) "TwoTrueModel" "kind" "[I") ∈ zgw := zgm 833 (by decide +kernel) rfl
theorem zw769 : (Jvm.Cond.fieldLink "TwoTrueModel" (20 : Nat) "TwoTrueModel" "v" "[I") ∈ zgw := zgm 834 (by decide +kernel) rfl
theorem zw770 : (Jvm.Cond.fieldLink "TwoTrueModel" (23 : Nat) "TwoTrueModel" "points" "[I") ∈ zgw := zgm 835 (by decide +kernel) rfl
theorem zw771 : (Jvm.Cond.fieldLink "TwoTrueModel" (26 : Nat) "TwoTrueModel" "lie" "[I") ∈ zgw := zgm 836 (by decide +kernel) rfl
theorem zw772 : (Jvm.Cond.fieldLink "TwoTrueModel" (29 : Nat) "TwoTrueModel" "seemly" "[I") ∈ zgw := zgm 837 (by decide +kernel) rfl
theorem zw773 : (Jvm.Cond.fieldLink "TwoTrueModel" (32 : Nat) "TwoTrueModel" "length0" "[I") ∈ zgw := zgm 838 (by decide +kernel) rfl
theorem zw774 : (Jvm.Cond.fieldLink "TwoTrueModel" (35 : Nat) "TwoTrueModel" "tale" "[I") ∈ zgw := zgm 839 (by decide +kernel) rfl
theorem zw775 : (Jvm.Cond.fieldLink "TwoTrueModel" (38 : Nat) "TwoTrueModel" "rows" "[I") ∈ zgw := zgm 840 (by decide +kernel) rfl
theorem zw776 : (Jvm.Cond.fieldLink "TwoTrueModel" (41 : Nat) "TwoTrueModel" "evenings" "I") ∈ zgw := zgm 841 (by decide +kernel) rfl
theorem zw777 : (Jvm.Cond.fieldLink "TwoTrueModel" (44 : Nat) "TwoTrueModel" "the" "I") ∈ zgw := zgm 842 (by decide +kernel) rfl
theorem zw778 : (Jvm.Cond.fieldLink "TwoTrueModel" (47 : Nat) "TwoTrueModel" "fed" "I") ∈ zgw := zgm 843 (by decide +kernel) rfl
theorem zw779 : (Jvm.Cond.fieldLink "TwoTrueModel" (50 : Nat) "TwoTrueModel" "at" "I") ∈ zgw := zgm 844 (by decide +kernel) rfl
theorem zw780 : (Jvm.Cond.fieldLink "TwoTrueModel" (53 : Nat) "TwoTrueModel" "digits" "I") ∈ zgw := zgm 845 (by decide +kernel) rfl
theorem zw781 : (Jvm.Cond.fieldLink "TwoTrueModel" (56 : Nat) "TwoTrueModel" "text" "[I") ∈ zgw := zgm 846 (by decide +kernel) rfl
theorem zw782 : (Jvm.Cond.fieldLink "TwoTrueModel" (59 : Nat) "TwoTrueModel" "clauses" "[I") ∈ zgw := zgm 847 (by decide +kernel) rfl
theorem zw783 : (Jvm.Cond.fieldLink "TwoTrueModel" (62 : Nat) "TwoTrueModel" "word" "[I") ∈ zgw := zgm 848 (by decide +kernel) rfl
theorem zw784 : (Jvm.Cond.fieldLink "TwoTrueModel" (65 : Nat) "TwoTrueModel" "number" "[I") ∈ zgw := zgm 849 (by decide +kernel) rfl
theorem zw785 : (Jvm.Cond.fieldLink "TwoTrueModel" (68 : Nat) "TwoTrueModel" "from" "[I") ∈ zgw := zgm 850 (by decide +kernel) rfl
theorem zw786 : (Jvm.Cond.fieldLink "TwoTrueModel" (71 : Nat) "TwoTrueModel" "to" "[I") ∈ zgw := zgm 851 (by decide +kernel) rfl
theorem zw787 : (Jvm.Cond.fieldLink "TwoTrueModel" (74 : Nat) "TwoTrueModel" "sign" "[I") ∈ zgw := zgm 852 (by decide +kernel) rfl
theorem zw788 : (Jvm.Cond.fieldLink "TwoTrueModel" (77 : Nat) "TwoTrueModel" "waits" "[I") ∈ zgw := zgm 853 (by decide +kernel) rfl
theorem zw789 : (Jvm.Cond.fieldLink "TwoTrueModel" (80 : Nat) "TwoTrueModel" "signs" "I") ∈ zgw := zgm 854 (by decide +kernel) rfl
theorem zw790 : (Jvm.Cond.fieldLink "TwoTrueModel" (83 : Nat) "TwoTrueModel" "waiting" "I") ∈ zgw := zgm 855 (by decide +kernel) rfl
theorem zw791 : (Jvm.Cond.fieldLink "TwoTrueModel" (86 : Nat) "TwoTrueModel" "open" "I") ∈ zgw := zgm 856 (by decide +kernel) rfl
theorem zw792 : (Jvm.Cond.fieldLink "TwoTrueModel" (89 : Nat) "TwoTrueModel" "letters" "[I") ∈ zgw := zgm 857 (by decide +kernel) rfl
theorem zw793 : (Jvm.Cond.fieldLink "TwoTrueModel" (92 : Nat) "TwoTrueModel" "pile" "[Z") ∈ zgw := zgm 858 (by decide +kernel) rfl
theorem zw794 : (Jvm.Cond.fieldLink "TwoTrueModel" (96 : Nat) "TwoTrueModel" "hands" "[I") ∈ zgw := zgm 859 (by decide +kernel) rfl
theorem zw795 : (Jvm.Cond.fieldLink "TwoTrueModel" (99 : Nat) "TwoTrueModel" "guessed" "[I") ∈ zgw := zgm 860 (by decide +kernel) rfl
theorem zw796 : (Jvm.Cond.fieldLink "TwoTrueModel" (102 : Nat) "TwoTrueModel" "plain" "I") ∈ zgw := zgm 861 (by decide +kernel) rfl
theorem zw797 : (Jvm.Cond.fieldLink "TwoTrueModel" (105 : Nat) "TwoTrueModel" "bestWhat" "I") ∈ zgw := zgm 862 (by decide +kernel) rfl
theorem zw798 : (Jvm.Cond.fieldLink "TwoTrueModel" (108 : Nat) "TwoTrueModel" "bestTaken" "I") ∈ zgw := zgm 863 (by decide +kernel) rfl
theorem zw799 : (Jvm.Cond.fieldLink "TwoTrueModel" (111 : Nat) "TwoTrueModel" "asEver" "[I") ∈ zgw := zgm 864 (by decide +kernel) rfl
theorem zw800 : (Jvm.Cond.fieldLink "TwoTrueModel" (114 : Nat) "TwoTrueModel" "line" "[I") ∈ zgw := zgm 865 (by decide +kernel) rfl
theorem zw801 : (Jvm.Cond.fieldLink "TwoTrueModel" (117 : Nat) "TwoTrueModel" "bestLine" "[I") ∈ zgw := zgm 866 (by decide +kernel) rfl
theorem zw802 : (Jvm.Cond.fieldLink "TwoTrueModel" (120 : Nat) "TwoTrueModel" "seen" "[I") ∈ zgw := zgm 867 (by decide +kernel) rfl
theorem zw803 : (Jvm.Cond.fieldLink "TwoTrueModel" (123 : Nat) "TwoTrueModel" "keptPoints" "[I") ∈ zgw := zgm 868 (by decide +kernel) rfl
theorem zw804 : (Jvm.Cond.fieldLink "TwoTrueModel" (126 : Nat) "TwoTrueModel" "books" "I") ∈ zgw := zgm 869 (by decide +kernel) rfl
theorem zw805 : (Jvm.Cond.fieldLink "TwoTrueModel" (129 : Nat) "TwoTrueModel" "bookTeller" "[I") ∈ zgw := zgm 870 (by decide +kernel) rfl
theorem zw806 : (Jvm.Cond.fieldLink "TwoTrueModel" (132 : Nat) "TwoTrueModel" "bookWho" "[I") ∈ zgw := zgm 871 (by decide +kernel) rfl
theorem zw807 : (Jvm.Cond.fieldLink "TwoTrueModel" (135 : Nat) "TwoTrueModel" "bookPlace" "[I") ∈ zgw := zgm 872 (by decide +kernel) rfl
theorem zw808 : (Jvm.Cond.fieldLink "TwoTrueModel" (138 : Nat) "TwoTrueModel" "hasImage" "Z") ∈ zgw := zgm 873 (by decide +kernel) rfl
theorem zw809 : (Jvm.Cond.fieldLink "TwoTrueModel" (142 : Nat) "TwoTrueModel" "imageThe" "I") ∈ zgw := zgm 874 (by decide +kernel) rfl
theorem zw810 : (Jvm.Cond.fieldLink "TwoTrueModel" (145 : Nat) "TwoTrueModel" "imagePeople" "I") ∈ zgw := zgm 875 (by decide +kernel) rfl
theorem zw811 : (Jvm.Cond.fieldLink "TwoTrueModel" (148 : Nat) "TwoTrueModel" "imageRounds" "I") ∈ zgw := zgm 876 (by decide +kernel) rfl
theorem zw812 : (Jvm.Cond.fieldLink "TwoTrueModel" (151 : Nat) "TwoTrueModel" "imageBooks" "I") ∈ zgw := zgm 877 (by decide +kernel) rfl
theorem zw813 : (Jvm.Cond.fieldLink "TwoTrueModel" (154 : Nat) "TwoTrueModel" "imageKind" "[I") ∈ zgw := zgm 878 (by decide +kernel) rfl
theorem zw814 : (Jvm.Cond.fieldLink "TwoTrueModel" (157 : Nat) "TwoTrueModel" "imageV" "[I") ∈ zgw := zgm 879 (by decide +kernel) rfl
theorem zw815 : (Jvm.Cond.fieldLink "TwoTrueModel" (160 : Nat) "TwoTrueModel" "imagePoints" "[I") ∈ zgw := zgm 880 (by decide +kernel) rfl
theorem zw816 : (Jvm.Cond.fieldLink "TwoTrueModel" (163 : Nat) "TwoTrueModel" "imageLie" "[I") ∈ zgw := zgm 881 (by decide +kernel) rfl
theorem zw817 : (Jvm.Cond.fieldLink "TwoTrueModel" (166 : Nat) "TwoTrueModel" "imageSeemly" "[I") ∈ zgw := zgm 882 (by decide +kernel) rfl
theorem zw818 : (Jvm.Cond.fieldLink "TwoTrueModel" (169 : Nat) "TwoTrueModel" "imageLong" "[I") ∈ zgw := zgm 883 (by decide +kernel) rfl
theorem zw819 : (Jvm.Cond.fieldLink "TwoTrueModel" (172 : Nat) "TwoTrueModel" "imageTale" "[I") ∈ zgw := zgm 884 (by decide +kernel) rfl
theorem zw820 : (Jvm.Cond.fieldLink "TwoTrueModel" (175 : Nat) "TwoTrueModel" "imageRows" "[I") ∈ zgw := zgm 885 (by decide +kernel) rfl
theorem zw821 : (Jvm.Cond.fieldLink "TwoTrueModel" (178 : Nat) "TwoTrueModel" "imageSeen" "[I") ∈ zgw := zgm 886 (by decide +kernel) rfl
theorem zw822 : (Jvm.Cond.fieldLink "TwoTrueModel" (181 : Nat) "TwoTrueModel" "imageTeller" "[I") ∈ zgw := zgm 887 (by decide +kernel) rfl
theorem zw823 : (Jvm.Cond.fieldLink "TwoTrueModel" (184 : Nat) "TwoTrueModel" "imageWho" "[I") ∈ zgw := zgm 888 (by decide +kernel) rfl
theorem zw824 : (Jvm.Cond.fieldLink "TwoTrueModel" (187 : Nat) "TwoTrueModel" "imagePlace" "[I") ∈ zgw := zgm 889 (by decide +kernel) rfl
theorem zw825 : (Jvm.Cond.fieldLink "TwoTrueModel" (190 : Nat) "TwoTrueModel" "ran" "I") ∈ zgw := zgm 890 (by decide +kernel) rfl
theorem zw826 : (Jvm.Cond.fieldLink "TwoTrueModel" (193 : Nat) "TwoTrueModel" "bodies" "[I") ∈ zgw := zgm 891 (by decide +kernel) rfl
theorem zw827 : (Jvm.Cond.fieldLink "TwoTrueModel" (196 : Nat) "TwoTrueModel" "sort" "[I") ∈ zgw := zgm 892 (by decide +kernel) rfl
theorem zw828 : (Jvm.Cond.fieldLink "TwoTrueModel" (199 : Nat) "TwoTrueModel" "length" "[I") ∈ zgw := zgm 893 (by decide +kernel) rfl
theorem zw829 : (Jvm.Cond.fieldLink "TwoTrueModel" (202 : Nat) "TwoTrueModel" "item" "[J") ∈ zgw := zgm 894 (by decide +kernel) rfl
theorem zw830 : (Jvm.Cond.fieldLink "TwoTrueModel" (206 : Nat) "TwoTrueModel" "aside" "[J") ∈ zgw := zgm 895 (by decide +kernel) rfl
theorem zw966 : (Jvm.Cond.methodLink "TwoTrueModel" (209 : Nat) ({ cls := "TwoTrueModel", name := "in", desc := "(III)Z" } : Jvm.MethodName)) ∈ zgw := zgm 1031 (by decide +kernel) rfl
theorem zw968 : (Jvm.Cond.instanceMethod ({ cls := "TwoTrueModel", name := "in", desc := "(III)Z" } : Jvm.MethodName)) ∈ zgw := zgm 1033 (by decide +kernel) rfl
theorem zw969 : (Jvm.Cond.code ({ cls := "TwoTrueModel", name := "in", desc := "(III)Z" } : Jvm.MethodName) prog_10_method_2_code (4 : Nat) (Option.some Jvm.ClassFile.FieldType.boolean)) ∈ zgw := zgm 1034 (by decide +kernel) rfl
theorem zw974 : (Jvm.Cond.methodLink "TwoTrueModel" (213 : Nat) ({ cls := "TwoTrueModel", name := "isPerson", desc := "(I)Z" } : Jvm.MethodName)) ∈ zgw := zgm 1039 (by decide +kernel) rfl
theorem zw976 : (Jvm.Cond.instanceMethod ({ cls := "TwoTrueModel", name := "isPerson", desc := "(I)Z" } : Jvm.MethodName)) ∈ zgw := zgm 1041 (by decide +kernel) rfl
theorem zw977 : (Jvm.Cond.code ({ cls := "TwoTrueModel", name := "isPerson", desc := "(I)Z" } : Jvm.MethodName) prog_10_method_4_code (2 : Nat) (Option.some Jvm.ClassFile.FieldType.boolean)) ∈ zgw := zgm 1042 (by decide +kernel) rfl
theorem zw986 : (Jvm.Cond.methodLink "TwoTrueModel" (217 : Nat) ({ cls := "TwoTrueModel", name := "layTale", desc := "(III)V" } : Jvm.MethodName)) ∈ zgw := zgm 1051 (by decide +kernel) rfl
theorem zw988 : (Jvm.Cond.instanceMethod ({ cls := "TwoTrueModel", name := "layTale", desc := "(III)V" } : Jvm.MethodName)) ∈ zgw := zgm 1053 (by decide +kernel) rfl
theorem zw989 : (Jvm.Cond.code ({ cls := "TwoTrueModel", name := "layTale", desc := "(III)V" } : Jvm.MethodName) prog_10_method_8_code (4 : Nat) (Option.none : Option Jvm.ClassFile.FieldType)) ∈ zgw := zgm 1054 (by decide +kernel) rfl
theorem zw1006 : (Jvm.Cond.methodLink "TwoTrueModel" (265 : Nat) ({ cls := "TwoTrueModel", name := "goesText", desc := "(I)Z" } : Jvm.MethodName)) ∈ zgw := zgm 1071 (by decide +kernel) rfl
theorem zw1008 : (Jvm.Cond.instanceMethod ({ cls := "TwoTrueModel", name := "goesText", desc := "(I)Z" } : Jvm.MethodName)) ∈ zgw := zgm 1073 (by decide +kernel) rfl
theorem zw1009 : (Jvm.Cond.code ({ cls := "TwoTrueModel", name := "goesText", desc := "(I)Z" } : Jvm.MethodName) prog_10_method_26_code (3 : Nat) (Option.some Jvm.ClassFile.FieldType.boolean)) ∈ zgw := zgm 1074 (by decide +kernel) rfl
theorem zw1010 : (Jvm.Cond.methodLink "TwoTrueModel" (262 : Nat) ({ cls := "TwoTrueModel", name := "takesClause", desc := "(I)Z" } : Jvm.MethodName)) ∈ zgw := zgm 1075 (by decide +kernel) rfl
theorem zw1012 : (Jvm.Cond.instanceMethod ({ cls := "TwoTrueModel", name := "takesClause", desc := "(I)Z" } : Jvm.MethodName)) ∈ zgw := zgm 1077 (by decide +kernel) rfl
theorem zw1013 : (Jvm.Cond.code ({ cls := "TwoTrueModel", name := "takesClause", desc := "(I)Z" } : Jvm.MethodName) prog_10_method_25_code (2 : Nat) (Option.some Jvm.ClassFile.FieldType.boolean)) ∈ zgw := zgm 1078 (by decide +kernel) rfl
theorem zw1014 : (Jvm.Cond.methodLink "TwoTrueModel" (256 : Nat) ({ cls := "TwoTrueModel", name := "takesHead", desc := "(I)Z" } : Jvm.MethodName)) ∈ zgw := zgm 1079 (by decide +kernel) rfl
theorem zw1016 : (Jvm.Cond.instanceMethod ({ cls := "TwoTrueModel", name := "takesHead", desc := "(I)Z" } : Jvm.MethodName)) ∈ zgw := zgm 1081 (by decide +kernel) rfl
theorem zw1017 : (Jvm.Cond.code ({ cls := "TwoTrueModel", name := "takesHead", desc := "(I)Z" } : Jvm.MethodName) prog_10_method_24_code (2 : Nat) (Option.some Jvm.ClassFile.FieldType.boolean)) ∈ zgw := zgm 1082 (by decide +kernel) rfl
theorem zw1018 : (Jvm.Cond.methodLink "TwoTrueModel" (221 : Nat) ({ cls := "TwoTrueModel", name := "next", desc := "()I" } : Jvm.MethodName)) ∈ zgw := zgm 1083 (by decide +kernel) rfl
theorem zw1020 : (Jvm.Cond.instanceMethod ({ cls := "TwoTrueModel", name := "next", desc := "()I" } : Jvm.MethodName)) ∈ zgw := zgm 1085 (by decide +kernel) rfl
theorem zw1021 : (Jvm.Cond.code ({ cls := "TwoTrueModel", name := "next", desc := "()I" } : Jvm.MethodName) prog_10_method_13_code (1 : Nat) (Option.some Jvm.ClassFile.FieldType.int)) ∈ zgw := zgm 1086 (by decide +kernel) rfl
theorem zw1022 : (Jvm.Cond.methodLink "TwoTrueModel" (252 : Nat) ({ cls := "TwoTrueModel", name := "takesWord", desc := "(II)Z" } : Jvm.MethodName)) ∈ zgw := zgm 1087 (by decide +kernel) rfl
theorem zw1024 : (Jvm.Cond.instanceMethod ({ cls := "TwoTrueModel", name := "takesWord", desc := "(II)Z" } : Jvm.MethodName)) ∈ zgw := zgm 1089 (by decide +kernel) rfl
theorem zw1025 : (Jvm.Cond.code ({ cls := "TwoTrueModel", name := "takesWord", desc := "(II)Z" } : Jvm.MethodName) prog_10_method_15_code (4 : Nat) (Option.some Jvm.ClassFile.FieldType.boolean)) ∈ zgw := zgm 1090 (by decide +kernel) rfl
theorem zw1026 : (Jvm.Cond.methodLink "TwoTrueModel" (225 : Nat) ({ cls := "TwoTrueModel", name := "takes", desc := "(I)Z" } : Jvm.MethodName)) ∈ zgw := zgm 1091 (by decide +kernel) rfl
theorem zw1028 : (Jvm.Cond.instanceMethod ({ cls := "TwoTrueModel", name := "takes", desc := "(I)Z" } : Jvm.MethodName)) ∈ zgw := zgm 1093 (by decide +kernel) rfl
theorem zw1029 : (Jvm.Cond.code ({ cls := "TwoTrueModel", name := "takes", desc := "(I)Z" } : Jvm.MethodName) prog_10_method_14_code (2 : Nat) (Option.some Jvm.ClassFile.FieldType.boolean)) ∈ zgw := zgm 1094 (by decide +kernel) rfl
theorem zw1030 : (Jvm.Cond.methodLink "TwoTrueModel" (240 : Nat) ({ cls := "TwoTrueModel", name := "takesNumber", desc := "()Z" } : Jvm.MethodName)) ∈ zgw := zgm 1095 (by decide +kernel) rfl
theorem zw1032 : (Jvm.Cond.instanceMethod ({ cls := "TwoTrueModel", name := "takesNumber", desc := "()Z" } : Jvm.MethodName)) ∈ zgw := zgm 1097 (by decide +kernel) rfl
theorem zw1033 : (Jvm.Cond.code ({ cls := "TwoTrueModel", name := "takesNumber", desc := "()Z" } : Jvm.MethodName) prog_10_method_17_code (2 : Nat) (Option.some Jvm.ClassFile.FieldType.boolean)) ∈ zgw := zgm 1098 (by decide +kernel) rfl
theorem zw1034 : (Jvm.Cond.methodLink "TwoTrueModel" (228 : Nat) ({ cls := "TwoTrueModel", name := "isDigit", desc := "()Z" } : Jvm.MethodName)) ∈ zgw := zgm 1099 (by decide +kernel) rfl
theorem zw1036 : (Jvm.Cond.instanceMethod ({ cls := "TwoTrueModel", name := "isDigit", desc := "()Z" } : Jvm.MethodName)) ∈ zgw := zgm 1101 (by decide +kernel) rfl
theorem zw1037 : (Jvm.Cond.code ({ cls := "TwoTrueModel", name := "isDigit", desc := "()Z" } : Jvm.MethodName) prog_10_method_16_code (1 : Nat) (Option.some Jvm.ClassFile.FieldType.boolean)) ∈ zgw := zgm 1102 (by decide +kernel) rfl
theorem zw1038 : (Jvm.Cond.methodLink "TwoTrueModel" (259 : Nat) ({ cls := "TwoTrueModel", name := "takesE", desc := "(I)Z" } : Jvm.MethodName)) ∈ zgw := zgm 1103 (by decide +kernel) rfl
theorem zw1040 : (Jvm.Cond.instanceMethod ({ cls := "TwoTrueModel", name := "takesE", desc := "(I)Z" } : Jvm.MethodName)) ∈ zgw := zgm 1105 (by decide +kernel) rfl
theorem zw1041 : (Jvm.Cond.code ({ cls := "TwoTrueModel", name := "takesE", desc := "(I)Z" } : Jvm.MethodName) prog_10_method_23_code (4 : Nat) (Option.some Jvm.ClassFile.FieldType.boolean)) ∈ zgw := zgm 1106 (by decide +kernel) rfl
theorem zw1042 : (Jvm.Cond.methodLink "TwoTrueModel" (246 : Nat) ({ cls := "TwoTrueModel", name := "takesTest", desc := "()Z" } : Jvm.MethodName)) ∈ zgw := zgm 1107 (by decide +kernel) rfl
theorem zw1044 : (Jvm.Cond.instanceMethod ({ cls := "TwoTrueModel", name := "takesTest", desc := "()Z" } : Jvm.MethodName)) ∈ zgw := zgm 1109 (by decide +kernel) rfl
theorem zw1045 : (Jvm.Cond.code ({ cls := "TwoTrueModel", name := "takesTest", desc := "()Z" } : Jvm.MethodName) prog_10_method_22_code (3 : Nat) (Option.some Jvm.ClassFile.FieldType.boolean)) ∈ zgw := zgm 1110 (by decide +kernel) rfl
theorem zw1046 : (Jvm.Cond.methodLink "TwoTrueModel" (236 : Nat) ({ cls := "TwoTrueModel", name := "place", desc := "(I)I" } : Jvm.MethodName)) ∈ zgw := zgm 1111 (by decide +kernel) rfl
theorem zw1048 : (Jvm.Cond.instanceMethod ({ cls := "TwoTrueModel", name := "place", desc := "(I)I" } : Jvm.MethodName)) ∈ zgw := zgm 1113 (by decide +kernel) rfl
theorem zw1049 : (Jvm.Cond.code ({ cls := "TwoTrueModel", name := "place", desc := "(I)I" } : Jvm.MethodName) prog_10_method_21_code (2 : Nat) (Option.some Jvm.ClassFile.FieldType.int)) ∈ zgw := zgm 1114 (by decide +kernel) rfl
theorem zw1050 : (Jvm.Cond.methodLink "TwoTrueModel" (232 : Nat) ({ cls := "TwoTrueModel", name := "emits", desc := "(I)V" } : Jvm.MethodName)) ∈ zgw := zgm 1115 (by decide +kernel) rfl
theorem zw1052 : (Jvm.Cond.instanceMethod ({ cls := "TwoTrueModel", name := "emits", desc := "(I)V" } : Jvm.MethodName)) ∈ zgw := zgm 1117 (by decide +kernel) rfl
theorem zw1053 : (Jvm.Cond.code ({ cls := "TwoTrueModel", name := "emits", desc := "(I)V" } : Jvm.MethodName) prog_10_method_18_code (2 : Nat) (Option.none : Option Jvm.ClassFile.FieldType)) ∈ zgw := zgm 1118 (by decide +kernel) rfl
theorem zw1054 : (Jvm.Cond.methodLink "TwoTrueModel" (243 : Nat) ({ cls := "TwoTrueModel", name := "whole", desc := "()V" } : Jvm.MethodName)) ∈ zgw := zgm 1119 (by decide +kernel) rfl
theorem zw1056 : (Jvm.Cond.instanceMethod ({ cls := "TwoTrueModel", name := "whole", desc := "()V" } : Jvm.MethodName)) ∈ zgw := zgm 1121 (by decide +kernel) rfl
theorem zw1057 : (Jvm.Cond.code ({ cls := "TwoTrueModel", name := "whole", desc := "()V" } : Jvm.MethodName) prog_10_method_19_code (1 : Nat) (Option.none : Option Jvm.ClassFile.FieldType)) ∈ zgw := zgm 1122 (by decide +kernel) rfl
theorem zw1058 : (Jvm.Cond.methodLink "TwoTrueModel" (249 : Nat) ({ cls := "TwoTrueModel", name := "settle", desc := "(I)V" } : Jvm.MethodName)) ∈ zgw := zgm 1123 (by decide +kernel) rfl
theorem zw1060 : (Jvm.Cond.instanceMethod ({ cls := "TwoTrueModel", name := "settle", desc := "(I)V" } : Jvm.MethodName)) ∈ zgw := zgm 1125 (by decide +kernel) rfl
theorem zw1061 : (Jvm.Cond.code ({ cls := "TwoTrueModel", name := "settle", desc := "(I)V" } : Jvm.MethodName) prog_10_method_20_code (2 : Nat) (Option.none : Option Jvm.ClassFile.FieldType)) ∈ zgw := zgm 1126 (by decide +kernel) rfl
theorem zw1066 : (Jvm.Cond.methodLink "TwoTrueModel" (282 : Nat) ({ cls := "TwoTrueModel", name := "handsNow", desc := "()I" } : Jvm.MethodName)) ∈ zgw := zgm 1131 (by decide +kernel) rfl
theorem zw1068 : (Jvm.Cond.instanceMethod ({ cls := "TwoTrueModel", name := "handsNow", desc := "()I" } : Jvm.MethodName)) ∈ zgw := zgm 1133 (by decide +kernel) rfl
theorem zw1069 : (Jvm.Cond.code ({ cls := "TwoTrueModel", name := "handsNow", desc := "()I" } : Jvm.MethodName) prog_10_method_30_code (3 : Nat) (Option.some Jvm.ClassFile.FieldType.int)) ∈ zgw := zgm 1134 (by decide +kernel) rfl
theorem zw1070 : (Jvm.Cond.methodLink "TwoTrueModel" (268 : Nat) ({ cls := "TwoTrueModel", name := "begin", desc := "()I" } : Jvm.MethodName)) ∈ zgw := zgm 1135 (by decide +kernel) rfl
theorem zw1072 : (Jvm.Cond.instanceMethod ({ cls := "TwoTrueModel", name := "begin", desc := "()I" } : Jvm.MethodName)) ∈ zgw := zgm 1137 (by decide +kernel) rfl
theorem zw1073 : (Jvm.Cond.code ({ cls := "TwoTrueModel", name := "begin", desc := "()I" } : Jvm.MethodName) prog_10_method_28_code (1 : Nat) (Option.some Jvm.ClassFile.FieldType.int)) ∈ zgw := zgm 1138 (by decide +kernel) rfl
theorem zw1074 : (Jvm.Cond.methodLink "TwoTrueModel" (271 : Nat) ({ cls := "TwoTrueModel", name := "behind", desc := "()I" } : Jvm.MethodName)) ∈ zgw := zgm 1139 (by decide +kernel) rfl
theorem zw1076 : (Jvm.Cond.instanceMethod ({ cls := "TwoTrueModel", name := "behind", desc := "()I" } : Jvm.MethodName)) ∈ zgw := zgm 1141 (by decide +kernel) rfl
theorem zw1077 : (Jvm.Cond.code ({ cls := "TwoTrueModel", name := "behind", desc := "()I" } : Jvm.MethodName) prog_10_method_29_code (1 : Nat) (Option.some Jvm.ClassFile.FieldType.int)) ∈ zgw := zgm 1142 (by decide +kernel) rfl
theorem zw1082 : (Jvm.Cond.methodLink "TwoTrueModel" (285 : Nat) ({ cls := "TwoTrueModel", name := "doubtOf", desc := "(III)I" } : Jvm.MethodName)) ∈ zgw := zgm 1147 (by decide +kernel) rfl
theorem zw1084 : (Jvm.Cond.instanceMethod ({ cls := "TwoTrueModel", name := "doubtOf", desc := "(III)I" } : Jvm.MethodName)) ∈ zgw := zgm 1149 (by decide +kernel) rfl
theorem zw1085 : (Jvm.Cond.code ({ cls := "TwoTrueModel", name := "doubtOf", desc := "(III)I" } : Jvm.MethodName) prog_10_method_33_code (6 : Nat) (Option.some Jvm.ClassFile.FieldType.int)) ∈ zgw := zgm 1150 (by decide +kernel) rfl
theorem zw1086 : (Jvm.Cond.methodLink "TwoTrueModel" (278 : Nat) ({ cls := "TwoTrueModel", name := "holds", desc := "(IIII)Z" } : Jvm.MethodName)) ∈ zgw := zgm 1151 (by decide +kernel) rfl
theorem zw1088 : (Jvm.Cond.instanceMethod ({ cls := "TwoTrueModel", name := "holds", desc := "(IIII)Z" } : Jvm.MethodName)) ∈ zgw := zgm 1153 (by decide +kernel) rfl
theorem zw1089 : (Jvm.Cond.code ({ cls := "TwoTrueModel", name := "holds", desc := "(IIII)Z" } : Jvm.MethodName) prog_10_method_32_code (10 : Nat) (Option.some Jvm.ClassFile.FieldType.boolean)) ∈ zgw := zgm 1154 (by decide +kernel) rfl
theorem zw1090 : (Jvm.Cond.methodLink "TwoTrueModel" (274 : Nat) ({ cls := "TwoTrueModel", name := "factOf", desc := "(IIII)I" } : Jvm.MethodName)) ∈ zgw := zgm 1155 (by decide +kernel) rfl
theorem zw1092 : (Jvm.Cond.instanceMethod ({ cls := "TwoTrueModel", name := "factOf", desc := "(IIII)I" } : Jvm.MethodName)) ∈ zgw := zgm 1157 (by decide +kernel) rfl
theorem zw1093 : (Jvm.Cond.code ({ cls := "TwoTrueModel", name := "factOf", desc := "(IIII)I" } : Jvm.MethodName) prog_10_method_31_code (6 : Nat) (Option.some Jvm.ClassFile.FieldType.int)) ∈ zgw := zgm 1158 (by decide +kernel) rfl
theorem zw1098 : (Jvm.Cond.methodLink "TwoTrueModel" (312 : Nat) ({ cls := "TwoTrueModel", name := "goRound", desc := "(I)I" } : Jvm.MethodName)) ∈ zgw := zgm 1163 (by decide +kernel) rfl
theorem zw1100 : (Jvm.Cond.instanceMethod ({ cls := "TwoTrueModel", name := "goRound", desc := "(I)I" } : Jvm.MethodName)) ∈ zgw := zgm 1165 (by decide +kernel) rfl
theorem zw1101 : (Jvm.Cond.code ({ cls := "TwoTrueModel", name := "goRound", desc := "(I)I" } : Jvm.MethodName) prog_10_method_43_code (5 : Nat) (Option.some Jvm.ClassFile.FieldType.int)) ∈ zgw := zgm 1166 (by decide +kernel) rfl
theorem zw1102 : (Jvm.Cond.methodLink "TwoTrueModel" (309 : Nat) ({ cls := "TwoTrueModel", name := "goes", desc := "(I)I" } : Jvm.MethodName)) ∈ zgw := zgm 1167 (by decide +kernel) rfl
theorem zw1104 : (Jvm.Cond.instanceMethod ({ cls := "TwoTrueModel", name := "goes", desc := "(I)I" } : Jvm.MethodName)) ∈ zgw := zgm 1169 (by decide +kernel) rfl
theorem zw1105 : (Jvm.Cond.code ({ cls := "TwoTrueModel", name := "goes", desc := "(I)I" } : Jvm.MethodName) prog_10_method_42_code (3 : Nat) (Option.some Jvm.ClassFile.FieldType.int)) ∈ zgw := zgm 1170 (by decide +kernel) rfl
theorem zw1106 : (Jvm.Cond.methodLink "TwoTrueModel" (302 : Nat) ({ cls := "TwoTrueModel", name := "clearHands", desc := "()V" } : Jvm.MethodName)) ∈ zgw := zgm 1171 (by decide +kernel) rfl
theorem zw1108 : (Jvm.Cond.instanceMethod ({ cls := "TwoTrueModel", name := "clearHands", desc := "()V" } : Jvm.MethodName)) ∈ zgw := zgm 1173 (by decide +kernel) rfl
theorem zw1109 : (Jvm.Cond.code ({ cls := "TwoTrueModel", name := "clearHands", desc := "()V" } : Jvm.MethodName) prog_10_method_40_code (2 : Nat) (Option.none : Option Jvm.ClassFile.FieldType)) ∈ zgw := zgm 1174 (by decide +kernel) rfl
theorem zw1110 : (Jvm.Cond.methodLink "TwoTrueModel" (305 : Nat) ({ cls := "TwoTrueModel", name := "guesses", desc := "(II)V" } : Jvm.MethodName)) ∈ zgw := zgm 1175 (by decide +kernel) rfl
theorem zw1112 : (Jvm.Cond.instanceMethod ({ cls := "TwoTrueModel", name := "guesses", desc := "(II)V" } : Jvm.MethodName)) ∈ zgw := zgm 1177 (by decide +kernel) rfl
theorem zw1113 : (Jvm.Cond.code ({ cls := "TwoTrueModel", name := "guesses", desc := "(II)V" } : Jvm.MethodName) prog_10_method_41_code (3 : Nat) (Option.none : Option Jvm.ClassFile.FieldType)) ∈ zgw := zgm 1178 (by decide +kernel) rfl
theorem zw1114 : (Jvm.Cond.methodLink "TwoTrueModel" (298 : Nat) ({ cls := "TwoTrueModel", name := "choice", desc := "(II)I" } : Jvm.MethodName)) ∈ zgw := zgm 1179 (by decide +kernel) rfl
theorem zw1116 : (Jvm.Cond.instanceMethod ({ cls := "TwoTrueModel", name := "choice", desc := "(II)I" } : Jvm.MethodName)) ∈ zgw := zgm 1181 (by decide +kernel) rfl
theorem zw1117 : (Jvm.Cond.code ({ cls := "TwoTrueModel", name := "choice", desc := "(II)I" } : Jvm.MethodName) prog_10_method_39_code (7 : Nat) (Option.some Jvm.ClassFile.FieldType.int)) ∈ zgw := zgm 1182 (by decide +kernel) rfl
theorem zw1118 : (Jvm.Cond.methodLink "TwoTrueModel" (295 : Nat) ({ cls := "TwoTrueModel", name := "weightOf", desc := "(III)I" } : Jvm.MethodName)) ∈ zgw := zgm 1183 (by decide +kernel) rfl
theorem zw1120 : (Jvm.Cond.instanceMethod ({ cls := "TwoTrueModel", name := "weightOf", desc := "(III)I" } : Jvm.MethodName)) ∈ zgw := zgm 1185 (by decide +kernel) rfl
theorem zw1121 : (Jvm.Cond.code ({ cls := "TwoTrueModel", name := "weightOf", desc := "(III)I" } : Jvm.MethodName) prog_10_method_38_code (7 : Nat) (Option.some Jvm.ClassFile.FieldType.int)) ∈ zgw := zgm 1186 (by decide +kernel) rfl
theorem zw1122 : (Jvm.Cond.methodLink "TwoTrueModel" (292 : Nat) ({ cls := "TwoTrueModel", name := "friendly", desc := "(III)I" } : Jvm.MethodName)) ∈ zgw := zgm 1187 (by decide +kernel) rfl
theorem zw1124 : (Jvm.Cond.instanceMethod ({ cls := "TwoTrueModel", name := "friendly", desc := "(III)I" } : Jvm.MethodName)) ∈ zgw := zgm 1189 (by decide +kernel) rfl
theorem zw1125 : (Jvm.Cond.code ({ cls := "TwoTrueModel", name := "friendly", desc := "(III)I" } : Jvm.MethodName) prog_10_method_37_code (4 : Nat) (Option.some Jvm.ClassFile.FieldType.int)) ∈ zgw := zgm 1190 (by decide +kernel) rfl
theorem zw1126 : (Jvm.Cond.methodLink "TwoTrueModel" (289 : Nat) ({ cls := "TwoTrueModel", name := "liePlace", desc := "(I)I" } : Jvm.MethodName)) ∈ zgw := zgm 1191 (by decide +kernel) rfl
theorem zw1128 : (Jvm.Cond.instanceMethod ({ cls := "TwoTrueModel", name := "liePlace", desc := "(I)I" } : Jvm.MethodName)) ∈ zgw := zgm 1193 (by decide +kernel) rfl
theorem zw1129 : (Jvm.Cond.code ({ cls := "TwoTrueModel", name := "liePlace", desc := "(I)I" } : Jvm.MethodName) prog_10_method_36_code (3 : Nat) (Option.some Jvm.ClassFile.FieldType.int)) ∈ zgw := zgm 1194 (by decide +kernel) rfl
theorem zw1158 : (Jvm.Cond.methodLink "TwoTrueModel" (318 : Nat) ({ cls := "TwoTrueModel", name := "layLine", desc := "(III)Z" } : Jvm.MethodName)) ∈ zgw := zgm 1223 (by decide +kernel) rfl
theorem zw1160 : (Jvm.Cond.instanceMethod ({ cls := "TwoTrueModel", name := "layLine", desc := "(III)Z" } : Jvm.MethodName)) ∈ zgw := zgm 1225 (by decide +kernel) rfl
theorem zw1161 : (Jvm.Cond.code ({ cls := "TwoTrueModel", name := "layLine", desc := "(III)Z" } : Jvm.MethodName) prog_10_method_51_code (10 : Nat) (Option.some Jvm.ClassFile.FieldType.boolean)) ∈ zgw := zgm 1226 (by decide +kernel) rfl
theorem zw1162 : (Jvm.Cond.methodLink "TwoTrueModel" (315 : Nat) ({ cls := "TwoTrueModel", name := "has", desc := "(II)Z" } : Jvm.MethodName)) ∈ zgw := zgm 1227 (by decide +kernel) rfl
theorem zw1164 : (Jvm.Cond.instanceMethod ({ cls := "TwoTrueModel", name := "has", desc := "(II)Z" } : Jvm.MethodName)) ∈ zgw := zgm 1229 (by decide +kernel) rfl
theorem zw1165 : (Jvm.Cond.code ({ cls := "TwoTrueModel", name := "has", desc := "(II)Z" } : Jvm.MethodName) prog_10_method_3_code (3 : Nat) (Option.some Jvm.ClassFile.FieldType.boolean)) ∈ zgw := zgm 1230 (by decide +kernel) rfl
theorem zw1170 : (Jvm.Cond.methodLink "TwoTrueModel" (321 : Nat) ({ cls := "TwoTrueModel", name := "rightsOf", desc := "(I)I" } : Jvm.MethodName)) ∈ zgw := zgm 1235 (by decide +kernel) rfl
theorem zw1172 : (Jvm.Cond.instanceMethod ({ cls := "TwoTrueModel", name := "rightsOf", desc := "(I)I" } : Jvm.MethodName)) ∈ zgw := zgm 1237 (by decide +kernel) rfl
theorem zw1173 : (Jvm.Cond.code ({ cls := "TwoTrueModel", name := "rightsOf", desc := "(I)I" } : Jvm.MethodName) prog_10_method_53_code (5 : Nat) (Option.some Jvm.ClassFile.FieldType.int)) ∈ zgw := zgm 1238 (by decide +kernel) rfl
theorem zw1190 : (Jvm.Cond.constantLong "TwoTrueModel" (327 : Nat) (-9223372036854775808 : Int64)) ∈ zgw := zgm 1255 (by decide +kernel) rfl
theorem zw1191 : (Jvm.Cond.methodLink "TwoTrueModel" (329 : Nat) ({ cls := "TwoTrueModel", name := "lowest", desc := "(III)J" } : Jvm.MethodName)) ∈ zgw := zgm 1256 (by decide +kernel) rfl
theorem zw1193 : (Jvm.Cond.instanceMethod ({ cls := "TwoTrueModel", name := "lowest", desc := "(III)J" } : Jvm.MethodName)) ∈ zgw := zgm 1258 (by decide +kernel) rfl
theorem zw1194 : (Jvm.Cond.code ({ cls := "TwoTrueModel", name := "lowest", desc := "(III)J" } : Jvm.MethodName) prog_10_method_59_code (5 : Nat) (Option.some Jvm.ClassFile.FieldType.long)) ∈ zgw := zgm 1259 (by decide +kernel) rfl
theorem zw1195 : (Jvm.Cond.methodLink "TwoTrueModel" (324 : Nat) ({ cls := "TwoTrueModel", name := "divisor", desc := "(II)I" } : Jvm.MethodName)) ∈ zgw := zgm 1260 (by decide +kernel) rfl
theorem zw1197 : (Jvm.Cond.instanceMethod ({ cls := "TwoTrueModel", name := "divisor", desc := "(II)I" } : Jvm.MethodName)) ∈ zgw := zgm 1262 (by decide +kernel) rfl
theorem zw1198 : (Jvm.Cond.code ({ cls := "TwoTrueModel", name := "divisor", desc := "(II)I" } : Jvm.MethodName) prog_10_method_58_code (6 : Nat) (Option.some Jvm.ClassFile.FieldType.int)) ∈ zgw := zgm 1263 (by decide +kernel) rfl
theorem zw1215 : (Jvm.Cond.methodLink "TwoTrueModel" (333 : Nat) ({ cls := "TwoTrueModel", name := "isTape", desc := "(I)Z" } : Jvm.MethodName)) ∈ zgw := zgm 1280 (by decide +kernel) rfl
theorem zw1217 : (Jvm.Cond.instanceMethod ({ cls := "TwoTrueModel", name := "isTape", desc := "(I)Z" } : Jvm.MethodName)) ∈ zgw := zgm 1282 (by decide +kernel) rfl
theorem zw1218 : (Jvm.Cond.code ({ cls := "TwoTrueModel", name := "isTape", desc := "(I)Z" } : Jvm.MethodName) prog_10_method_79_code (2 : Nat) (Option.some Jvm.ClassFile.FieldType.boolean)) ∈ zgw := zgm 1283 (by decide +kernel) rfl
theorem zw1231 : (Jvm.Cond.methodLink "TwoTrueModel" (342 : Nat) ({ cls := "TwoTrueModel", name := "doubtsAct", desc := "(II)I" } : Jvm.MethodName)) ∈ zgw := zgm 1296 (by decide +kernel) rfl
theorem zw1233 : (Jvm.Cond.instanceMethod ({ cls := "TwoTrueModel", name := "doubtsAct", desc := "(II)I" } : Jvm.MethodName)) ∈ zgw := zgm 1298 (by decide +kernel) rfl
theorem zw1234 : (Jvm.Cond.code ({ cls := "TwoTrueModel", name := "doubtsAct", desc := "(II)I" } : Jvm.MethodName) prog_10_method_69_code (3 : Nat) (Option.some Jvm.ClassFile.FieldType.int)) ∈ zgw := zgm 1299 (by decide +kernel) rfl
theorem zw1235 : (Jvm.Cond.methodLink "TwoTrueModel" (336 : Nat) ({ cls := "TwoTrueModel", name := "body", desc := "(I)V" } : Jvm.MethodName)) ∈ zgw := zgm 1300 (by decide +kernel) rfl
theorem zw1237 : (Jvm.Cond.instanceMethod ({ cls := "TwoTrueModel", name := "body", desc := "(I)V" } : Jvm.MethodName)) ∈ zgw := zgm 1302 (by decide +kernel) rfl
theorem zw1238 : (Jvm.Cond.code ({ cls := "TwoTrueModel", name := "body", desc := "(I)V" } : Jvm.MethodName) prog_10_method_67_code (2 : Nat) (Option.none : Option Jvm.ClassFile.FieldType)) ∈ zgw := zgm 1303 (by decide +kernel) rfl
theorem zw1239 : (Jvm.Cond.methodLink "TwoTrueModel" (339 : Nat) ({ cls := "TwoTrueModel", name := "guestDoubts", desc := "(II)I" } : Jvm.MethodName)) ∈ zgw := zgm 1304 (by decide +kernel) rfl
theorem zw1241 : (Jvm.Cond.instanceMethod ({ cls := "TwoTrueModel", name := "guestDoubts", desc := "(II)I" } : Jvm.MethodName)) ∈ zgw := zgm 1306 (by decide +kernel) rfl
theorem zw1242 : (Jvm.Cond.code ({ cls := "TwoTrueModel", name := "guestDoubts", desc := "(II)I" } : Jvm.MethodName) prog_10_method_68_code (3 : Nat) (Option.some Jvm.ClassFile.FieldType.int)) ∈ zgw := zgm 1307 (by decide +kernel) rfl
theorem zw1243 : (Jvm.Cond.methodLink "TwoTrueModel" (351 : Nat) ({ cls := "TwoTrueModel", name := "guessesAct", desc := "(II)I" } : Jvm.MethodName)) ∈ zgw := zgm 1308 (by decide +kernel) rfl
theorem zw1245 : (Jvm.Cond.instanceMethod ({ cls := "TwoTrueModel", name := "guessesAct", desc := "(II)I" } : Jvm.MethodName)) ∈ zgw := zgm 1310 (by decide +kernel) rfl
theorem zw1246 : (Jvm.Cond.code ({ cls := "TwoTrueModel", name := "guessesAct", desc := "(II)I" } : Jvm.MethodName) prog_10_method_72_code (4 : Nat) (Option.some Jvm.ClassFile.FieldType.int)) ∈ zgw := zgm 1311 (by decide +kernel) rfl
theorem zw1247 : (Jvm.Cond.methodLink "TwoTrueModel" (348 : Nat) ({ cls := "TwoTrueModel", name := "readerGuesses", desc := "(II)I" } : Jvm.MethodName)) ∈ zgw := zgm 1312 (by decide +kernel) rfl
theorem zw1249 : (Jvm.Cond.instanceMethod ({ cls := "TwoTrueModel", name := "readerGuesses", desc := "(II)I" } : Jvm.MethodName)) ∈ zgw := zgm 1314 (by decide +kernel) rfl
theorem zw1250 : (Jvm.Cond.code ({ cls := "TwoTrueModel", name := "readerGuesses", desc := "(II)I" } : Jvm.MethodName) prog_10_method_71_code (3 : Nat) (Option.some Jvm.ClassFile.FieldType.int)) ∈ zgw := zgm 1315 (by decide +kernel) rfl
theorem zw1251 : (Jvm.Cond.methodLink "TwoTrueModel" (345 : Nat) ({ cls := "TwoTrueModel", name := "guestGuesses", desc := "(II)I" } : Jvm.MethodName)) ∈ zgw := zgm 1316 (by decide +kernel) rfl
theorem zw1253 : (Jvm.Cond.instanceMethod ({ cls := "TwoTrueModel", name := "guestGuesses", desc := "(II)I" } : Jvm.MethodName)) ∈ zgw := zgm 1318 (by decide +kernel) rfl
theorem zw1254 : (Jvm.Cond.code ({ cls := "TwoTrueModel", name := "guestGuesses", desc := "(II)I" } : Jvm.MethodName) prog_10_method_70_code (3 : Nat) (Option.some Jvm.ClassFile.FieldType.int)) ∈ zgw := zgm 1319 (by decide +kernel) rfl
theorem zw1255 : (Jvm.Cond.methodLink "TwoTrueModel" (357 : Nat) ({ cls := "TwoTrueModel", name := "tellsAct", desc := "(II)I" } : Jvm.MethodName)) ∈ zgw := zgm 1320 (by decide +kernel) rfl
theorem zw1257 : (Jvm.Cond.instanceMethod ({ cls := "TwoTrueModel", name := "tellsAct", desc := "(II)I" } : Jvm.MethodName)) ∈ zgw := zgm 1322 (by decide +kernel) rfl
theorem zw1258 : (Jvm.Cond.code ({ cls := "TwoTrueModel", name := "tellsAct", desc := "(II)I" } : Jvm.MethodName) prog_10_method_74_code (4 : Nat) (Option.some Jvm.ClassFile.FieldType.int)) ∈ zgw := zgm 1323 (by decide +kernel) rfl
theorem zw1259 : (Jvm.Cond.methodLink "TwoTrueModel" (354 : Nat) ({ cls := "TwoTrueModel", name := "guestTells", desc := "(II)I" } : Jvm.MethodName)) ∈ zgw := zgm 1324 (by decide +kernel) rfl
theorem zw1261 : (Jvm.Cond.instanceMethod ({ cls := "TwoTrueModel", name := "guestTells", desc := "(II)I" } : Jvm.MethodName)) ∈ zgw := zgm 1326 (by decide +kernel) rfl
theorem zw1262 : (Jvm.Cond.code ({ cls := "TwoTrueModel", name := "guestTells", desc := "(II)I" } : Jvm.MethodName) prog_10_method_73_code (3 : Nat) (Option.some Jvm.ClassFile.FieldType.int)) ∈ zgw := zgm 1327 (by decide +kernel) rfl
theorem zw1283 : (Jvm.Cond.methodLink "TwoTrueModel" (360 : Nat) ({ cls := "TwoTrueModel", name := "narrow", desc := "(IJ)J" } : Jvm.MethodName)) ∈ zgw := zgm 1348 (by decide +kernel) rfl
theorem zw1285 : (Jvm.Cond.instanceMethod ({ cls := "TwoTrueModel", name := "narrow", desc := "(IJ)J" } : Jvm.MethodName)) ∈ zgw := zgm 1350 (by decide +kernel) rfl
theorem zw1286 : (Jvm.Cond.code ({ cls := "TwoTrueModel", name := "narrow", desc := "(IJ)J" } : Jvm.MethodName) prog_10_method_81_code (4 : Nat) (Option.some Jvm.ClassFile.FieldType.long)) ∈ zgw := zgm 1351 (by decide +kernel) rfl
theorem zw1296 : (Jvm.Cond.fieldLink "java/lang/String" (9 : Nat) "java/lang/String" "value" "[B") ∈ zgw := zgm 1361 (by decide +kernel) rfl
theorem zw1297 : (Jvm.Cond.fieldLink "java/lang/String" (15 : Nat) "java/lang/String" "coder" "B") ∈ zgw := zgm 1362 (by decide +kernel) rfl
