theorem mw0 : Cond.fieldLink "GlobProfileModel" 7 "GlobProfileModel" "typed" "[I" ∈ TT := in_T (in_3 (List.mem_of_getElem? (i := 61) rfl)) rfl
theorem mw1 : Cond.fieldLink "GlobProfileModel" 94 "GlobProfileModel" "size" "I" ∈ TT := in_T (in_3 (List.mem_of_getElem? (i := 62) rfl)) rfl
theorem mw2 : Cond.methodLink "GlobProfileModel" 90 ⟨"GlobProfileModel", "in", "(III)Z"⟩ ∈ TT := in_T (in_3 (List.mem_of_getElem? (i := 175) rfl)) rfl
theorem mw3 : Cond.fieldLink "GlobProfileModel" 29 "GlobProfileModel" "sort" "[I" ∈ TT := in_T (in_3 (List.mem_of_getElem? (i := 70) rfl)) rfl
theorem mw4 : Cond.fieldLink "GlobProfileModel" 98 "GlobProfileModel" "items" "I" ∈ TT := in_T (in_3 (List.mem_of_getElem? (i := 69) rfl)) rfl
theorem mw5 : Cond.fieldLink "GlobProfileModel" 32 "GlobProfileModel" "piece" "[I" ∈ TT := in_T (in_3 (List.mem_of_getElem? (i := 71) rfl)) rfl
theorem mw6 : Cond.fieldLink "GlobProfileModel" 35 "GlobProfileModel" "onward" "[I" ∈ TT := in_T (in_3 (List.mem_of_getElem? (i := 72) rfl)) rfl
theorem mw7 : Cond.fieldLink "GlobProfileModel" 47 "GlobProfileModel" "bytes" "[J" ∈ TT := in_T (in_3 (List.mem_of_getElem? (i := 77) rfl)) rfl
theorem mw8 : Cond.constantLong "GlobProfileModel" 101 (-1) ∈ TT := in_T (in_3 (List.mem_of_getElem? (i := 205) rfl)) rfl
theorem mw9 : Cond.fieldLink "GlobProfileModel" 51 "GlobProfileModel" "star" "[Z" ∈ TT := in_T (in_3 (List.mem_of_getElem? (i := 78) rfl)) rfl
theorem mw10 : Cond.fieldLink "GlobProfileModel" 103 "GlobProfileModel" "pieces" "I" ∈ TT := in_T (in_3 (List.mem_of_getElem? (i := 76) rfl)) rfl
theorem mw11 : Cond.methodLink "GlobProfileModel" 106 ⟨"GlobProfileModel", "charAt", "([IIII)I"⟩ ∈ TT := in_T (in_3 (List.mem_of_getElem? (i := 198) rfl)) rfl
theorem mw12 : Cond.methodLink "GlobProfileModel" 114 ⟨"GlobProfileModel", "isElement", "(I)Z"⟩ ∈ TT := in_T (in_3 (List.mem_of_getElem? (i := 206) rfl)) rfl
theorem mw13 : Cond.methodLink "GlobProfileModel" 118 ⟨"GlobProfileModel", "setByte", "(IIZ)V"⟩ ∈ TT := in_T (in_3 (List.mem_of_getElem? (i := 209) rfl)) rfl
theorem mw14 : Cond.methodLink "GlobProfileModel" 122 ⟨"GlobProfileModel", "item", "(II)V"⟩ ∈ TT := in_T (in_3 (List.mem_of_getElem? (i := 186) rfl)) rfl
theorem mw15 : Cond.methodLink "GlobProfileModel" 110 ⟨"GlobProfileModel", "newPiece", "(Z)I"⟩ ∈ TT := in_T (in_3 (List.mem_of_getElem? (i := 201) rfl)) rfl
theorem mw16 : Cond.methodLink "GlobProfileModel" 126 ⟨"GlobProfileModel", "readClass", "([IIII)I"⟩ ∈ TT := in_T (in_3 (List.mem_of_getElem? (i := 194) rfl)) rfl
theorem mw17 : Cond.fieldLink "GlobProfileModel" 38 "GlobProfileModel" "open" "[I" ∈ TT := in_T (in_3 (List.mem_of_getElem? (i := 73) rfl)) rfl
theorem mw18 : Cond.methodLink "GlobProfileModel" 129 ⟨"GlobProfileModel", "readPiece", "([IIII)I"⟩ ∈ TT := in_T (in_3 (List.mem_of_getElem? (i := 190) rfl)) rfl
theorem mw19 : Cond.fieldLink "GlobProfileModel" 41 "GlobProfileModel" "seen" "[Z" ∈ TT := in_T (in_3 (List.mem_of_getElem? (i := 74) rfl)) rfl
theorem mw20 : Cond.fieldLink "GlobProfileModel" 44 "GlobProfileModel" "stack" "[I" ∈ TT := in_T (in_3 (List.mem_of_getElem? (i := 75) rfl)) rfl
theorem mw21 : Cond.methodLink "GlobProfileModel" 132 ⟨"GlobProfileModel", "mark", "(II)I"⟩ ∈ TT := in_T (in_4 (List.mem_of_getElem? (i := 1) rfl)) rfl
theorem mw22 : Cond.fieldLink "GlobProfileModel" 13 "GlobProfileModel" "glob" "[I" ∈ TT := in_T (in_3 (List.mem_of_getElem? (i := 64) rfl)) rfl
theorem mw23 : Cond.fieldLink "GlobProfileModel" 16 "GlobProfileModel" "length" "[I" ∈ TT := in_T (in_3 (List.mem_of_getElem? (i := 65) rfl)) rfl
theorem mw24 : Cond.fieldLink "GlobProfileModel" 144 "GlobProfileModel" "first" "J" ∈ TT := in_T (in_3 (List.mem_of_getElem? (i := 82) rfl)) rfl
theorem mw25 : Cond.fieldLink "GlobProfileModel" 152 "GlobProfileModel" "emptyOf" "I" ∈ TT := in_T (in_3 (List.mem_of_getElem? (i := 83) rfl)) rfl
theorem mw26 : Cond.fieldLink "GlobProfileModel" 54 "GlobProfileModel" "behind" "[J" ∈ TT := in_T (in_3 (List.mem_of_getElem? (i := 79) rfl)) rfl
theorem mw27 : Cond.fieldLink "GlobProfileModel" 57 "GlobProfileModel" "ends" "[Z" ∈ TT := in_T (in_3 (List.mem_of_getElem? (i := 80) rfl)) rfl
theorem mw28 : Cond.fieldLink "GlobProfileModel" 60 "GlobProfileModel" "ruleOf" "[I" ∈ TT := in_T (in_3 (List.mem_of_getElem? (i := 81) rfl)) rfl
theorem mw29 : Cond.methodLink "GlobProfileModel" 140 ⟨"GlobProfileModel", "spread", "(I)V"⟩ ∈ TT := in_T (in_3 (List.mem_of_getElem? (i := 237) rfl)) rfl
theorem mw30 : Cond.methodLink "GlobProfileModel" 148 ⟨"GlobProfileModel", "marked", "()J"⟩ ∈ TT := in_T (in_4 (List.mem_of_getElem? (i := 5) rfl)) rfl
theorem mw31 : Cond.methodLink "GlobProfileModel" 136 ⟨"GlobProfileModel", "read", "([III)I"⟩ ∈ TT := in_T (in_3 (List.mem_of_getElem? (i := 182) rfl)) rfl
theorem mw32 : Cond.fieldLink "GlobProfileModel" 155 "GlobProfileModel" "rules" "I" ∈ TT := in_T (in_3 (List.mem_of_getElem? (i := 63) rfl)) rfl
theorem mw33 : Cond.fieldLink "GlobProfileModel" 26 "GlobProfileModel" "many" "[I" ∈ TT := in_T (in_3 (List.mem_of_getElem? (i := 68) rfl)) rfl
theorem mw34 : Cond.fieldLink "GlobProfileModel" 19 "GlobProfileModel" "allows" "[Z" ∈ TT := in_T (in_3 (List.mem_of_getElem? (i := 66) rfl)) rfl
theorem mw35 : Cond.fieldLink "GlobProfileModel" 23 "GlobProfileModel" "permissions" "[I" ∈ TT := in_T (in_3 (List.mem_of_getElem? (i := 67) rfl)) rfl
theorem mw36 : Cond.fieldLink "GlobProfileModel" 162 "GlobProfileModel" "states" "I" ∈ TT := in_T (in_3 (List.mem_of_getElem? (i := 93) rfl)) rfl
theorem mw37 : Cond.methodLink "GlobProfileModel" 158 ⟨"GlobProfileModel", "allPieces", "()I"⟩ ∈ TT := in_T (in_3 (List.mem_of_getElem? (i := 213) rfl)) rfl
theorem mw38 : Cond.fieldLink "GlobProfileModel" 165 "GlobProfileModel" "classes" "I" ∈ TT := in_T (in_3 (List.mem_of_getElem? (i := 84) rfl)) rfl
theorem mw39 : Cond.fieldLink "GlobProfileModel" 63 "GlobProfileModel" "classOf" "[I" ∈ TT := in_T (in_3 (List.mem_of_getElem? (i := 85) rfl)) rfl
theorem mw40 : Cond.fieldLink "GlobProfileModel" 66 "GlobProfileModel" "example" "[I" ∈ TT := in_T (in_3 (List.mem_of_getElem? (i := 86) rfl)) rfl
theorem mw41 : Cond.methodLink "GlobProfileModel" 168 ⟨"GlobProfileModel", "hasByte", "(II)Z"⟩ ∈ TT := in_T (in_4 (List.mem_of_getElem? (i := 13) rfl)) rfl
theorem mw42 : Cond.fieldLink "GlobProfileModel" 69 "GlobProfileModel" "set" "[J" ∈ TT := in_T (in_3 (List.mem_of_getElem? (i := 88) rfl)) rfl
theorem mw43 : Cond.fieldLink "GlobProfileModel" 172 "GlobProfileModel" "sets" "I" ∈ TT := in_T (in_3 (List.mem_of_getElem? (i := 87) rfl)) rfl
theorem mw44 : Cond.fieldLink "GlobProfileModel" 72 "GlobProfileModel" "given" "[I" ∈ TT := in_T (in_3 (List.mem_of_getElem? (i := 89) rfl)) rfl
theorem mw45 : Cond.methodLink "GlobProfileModel" 175 ⟨"GlobProfileModel", "permits", "(I)I"⟩ ∈ TT := in_T (in_4 (List.mem_of_getElem? (i := 21) rfl)) rfl
theorem mw46 : Cond.fieldLink "GlobProfileModel" 81 "GlobProfileModel" "leads" "[I" ∈ TT := in_T (in_3 (List.mem_of_getElem? (i := 92) rfl)) rfl
theorem mw47 : Cond.methodLink "GlobProfileModel" 179 ⟨"GlobProfileModel", "led", "(II)J"⟩ ∈ TT := in_T (in_4 (List.mem_of_getElem? (i := 25) rfl)) rfl
theorem mw48 : Cond.methodLink "GlobProfileModel" 183 ⟨"GlobProfileModel", "numbered", "(J)I"⟩ ∈ TT := in_T (in_4 (List.mem_of_getElem? (i := 29) rfl)) rfl
theorem mw49 : Cond.fieldLink "GlobProfileModel" 75 "GlobProfileModel" "kind" "[I" ∈ TT := in_T (in_3 (List.mem_of_getElem? (i := 90) rfl)) rfl
theorem mw50 : Cond.fieldLink "GlobProfileModel" 78 "GlobProfileModel" "finer" "[I" ∈ TT := in_T (in_3 (List.mem_of_getElem? (i := 91) rfl)) rfl
theorem mw51 : Cond.methodLink "GlobProfileModel" 187 ⟨"GlobProfileModel", "isAlike", "(II)Z"⟩ ∈ TT := in_T (in_4 (List.mem_of_getElem? (i := 37) rfl)) rfl
theorem mw52 : Cond.fieldLink "GlobProfileModel" 84 "GlobProfileModel" "stateOf" "[I" ∈ TT := in_T (in_3 (List.mem_of_getElem? (i := 94) rfl)) rfl
theorem mw53 : Cond.fieldLink "GlobProfileModel" 87 "GlobProfileModel" "setOf" "[I" ∈ TT := in_T (in_3 (List.mem_of_getElem? (i := 95) rfl)) rfl
theorem mw54 : Cond.fieldLink "GlobProfileModel" 190 "GlobProfileModel" "walker" "I" ∈ TT := in_T (in_3 (List.mem_of_getElem? (i := 96) rfl)) rfl
theorem mw55 : Cond.methodLink "GlobProfileModel" 193 ⟨"GlobProfileModel", "lay", "(I)V"⟩ ∈ TT := in_T (in_3 (List.mem_of_getElem? (i := 233) rfl)) rfl
theorem mw56 : Cond.methodLink "GlobProfileModel" 196 ⟨"GlobProfileModel", "classify", "()V"⟩ ∈ TT := in_T (in_4 (List.mem_of_getElem? (i := 9) rfl)) rfl
theorem mw57 : Cond.methodLink "GlobProfileModel" 199 ⟨"GlobProfileModel", "findSets", "(I)Z"⟩ ∈ TT := in_T (in_4 (List.mem_of_getElem? (i := 17) rfl)) rfl
theorem mw58 : Cond.methodLink "GlobProfileModel" 202 ⟨"GlobProfileModel", "findKinds", "()V"⟩ ∈ TT := in_T (in_4 (List.mem_of_getElem? (i := 33) rfl)) rfl
theorem mw59 : Cond.methodLink "GlobProfileModel" 205 ⟨"GlobProfileModel", "number", "()V"⟩ ∈ TT := in_T (in_4 (List.mem_of_getElem? (i := 41) rfl)) rfl
theorem mw60 : Cond.methodLink "GlobProfileModel" 208 ⟨"GlobProfileModel", "lead", "(II)I"⟩ ∈ TT := in_T (in_4 (List.mem_of_getElem? (i := 57) rfl)) rfl
theorem mw61 : Cond.methodLink "GlobProfileModel" 211 ⟨"GlobProfileModel", "gives", "(I)I"⟩ ∈ TT := in_T (in_4 (List.mem_of_getElem? (i := 69) rfl)) rfl
theorem mw62 : Cond.fieldLink "GlobProfile$Typed" 15 "GlobProfile$Typed" "length" "I" ∈ TT := in_T (in_1 (List.mem_of_getElem? (i := 27) rfl)) rfl
theorem mw63 : Cond.fieldLink "GlobProfile$Typed" 9 "GlobProfile$Typed" "characters" "[C" ∈ TT := in_T (in_1 (List.mem_of_getElem? (i := 26) rfl)) rfl
theorem mw64 : Cond.methodLink "GlobProfile$Typed" 19 ⟨"GlobProfile$Typed", "byteOf", "(II)I"⟩ ∈ TT := in_T (in_2 (List.mem_of_getElem? (i := 7) rfl)) rfl
theorem mw65 : Cond.fieldLink "GlobProfile$Glob" 9 "GlobProfile$Glob" "behind" "[J" ∈ TT := in_T (in_1 (List.mem_of_getElem? (i := 48) rfl)) rfl
theorem mw66 : Cond.fieldLink "GlobProfile$Glob" 15 "GlobProfile$Glob" "readersOf" "[J" ∈ TT := in_T (in_1 (List.mem_of_getElem? (i := 50) rfl)) rfl
theorem mw67 : Cond.fieldLink "GlobProfile$Glob" 34 "GlobProfile$Glob" "pieceCount" "I" ∈ TT := in_T (in_1 (List.mem_of_getElem? (i := 55) rfl)) rfl
theorem mw68 : Cond.fieldLink "GlobProfile$Glob" 38 "GlobProfile$Glob" "depth" "I" ∈ TT := in_T (in_1 (List.mem_of_getElem? (i := 58) rfl)) rfl
theorem mw69 : Cond.fieldLink "GlobProfile$Glob" 41 "GlobProfile$Glob" "ends" "J" ∈ TT := in_T (in_1 (List.mem_of_getElem? (i := 59) rfl)) rfl
theorem mw70 : Cond.methodLink "GlobProfile$Glob" 28 ⟨"java/util/Arrays", "fill", "([JJ)V"⟩ ∈ TT := in_T (in_2 (List.mem_of_getElem? (i := 22) rfl)) rfl
theorem mw71 : Cond.constantLong "GlobProfile$Glob" 51 (-1) ∈ TT := in_T (in_2 (List.mem_of_getElem? (i := 68) rfl)) rfl
theorem mw72 : Cond.fieldLink "GlobProfile$Glob" 18 "GlobProfile$Glob" "endsBefore" "[J" ∈ TT := in_T (in_1 (List.mem_of_getElem? (i := 52) rfl)) rfl
theorem mw73 : Cond.fieldLink "GlobProfile$Glob" 21 "GlobProfile$Glob" "endsOfRows" "[J" ∈ TT := in_T (in_1 (List.mem_of_getElem? (i := 53) rfl)) rfl
theorem mw74 : Cond.fieldLink "GlobProfile$Glob" 24 "GlobProfile$Glob" "rowCount" "[I" ∈ TT := in_T (in_1 (List.mem_of_getElem? (i := 54) rfl)) rfl
theorem mw75 : Cond.methodLink "GlobProfile$Glob" 45 ⟨"java/lang/System", "arraycopy", "(Ljava/lang/Object;ILjava/lang/Object;II)V"⟩ ∈ TT := in_T (in_2 (List.mem_of_getElem? (i := 124) rfl)) rfl
theorem mw76 : Cond.fieldLink "GlobProfile$Rule" 10 "GlobProfile$Rule" "glob" "LGlobProfile$Glob;" ∈ TT := in_T (in_1 (List.mem_of_getElem? (i := 103) rfl)) rfl
theorem mw77 : Cond.fieldLink "GlobProfile$Rule" 20 "GlobProfile$Rule" "allows" "Z" ∈ TT := in_T (in_1 (List.mem_of_getElem? (i := 106) rfl)) rfl
theorem mw78 : Cond.fieldLink "GlobProfile$Rule" 24 "GlobProfile$Rule" "permissions" "I" ∈ TT := in_T (in_1 (List.mem_of_getElem? (i := 108) rfl)) rfl
theorem mw79 : Cond.methodLink "GlobProfile$Rule" 16 ⟨"GlobProfile$Glob", "copy", "(LGlobProfile$Glob;)V"⟩ ∈ TT := in_T (in_2 (List.mem_of_getElem? (i := 120) rfl)) rfl
theorem mw80 : Cond.fieldLink "GlobProfile$GlobReader" 22 "GlobProfile$GlobReader" "at" "I" ∈ TT := in_T (in_1 (List.mem_of_getElem? (i := 83) rfl)) rfl
theorem mw81 : Cond.fieldLink "GlobProfile$GlobReader" 26 "GlobProfile$GlobReader" "fault" "I" ∈ TT := in_T (in_1 (List.mem_of_getElem? (i := 84) rfl)) rfl
theorem mw82 : Cond.fieldLink "GlobProfile$GlobReader" 12 "GlobProfile$GlobReader" "glob" "LGlobProfile$Glob;" ∈ TT := in_T (in_1 (List.mem_of_getElem? (i := 81) rfl)) rfl
theorem mw83 : Cond.methodLinkNest "GlobProfile$GlobReader" 93 ⟨"GlobProfile", "symbolOf", "(I)I"⟩ "GlobProfile" ∈ NW := in_N (in_2 (List.mem_of_getElem? (i := 61) rfl)) rfl
theorem mw84 : Cond.methodLink "GlobProfile$GlobReader" 90 ⟨"GlobProfile$Glob", "setReads", "(IIZ)V"⟩ ∈ TT := in_T (in_2 (List.mem_of_getElem? (i := 64) rfl)) rfl
theorem mw85 : Cond.methodLink "GlobProfile$GlobReader" 73 ⟨"GlobProfile$Glob", "addPiece", "(Z)V"⟩ ∈ TT := in_T (in_2 (List.mem_of_getElem? (i := 53) rfl)) rfl
theorem mw86 : Cond.methodLink "GlobProfile$GlobReader" 80 ⟨"GlobProfile$GlobReader", "setReadsAll", "()V"⟩ ∈ TT := in_T (in_2 (List.mem_of_getElem? (i := 73) rfl)) rfl
theorem mw87 : Cond.methodLink "GlobProfile$GlobReader" 76 ⟨"GlobProfile$GlobReader", "setReads", "(CCZ)V"⟩ ∈ TT := in_T (in_2 (List.mem_of_getElem? (i := 57) rfl)) rfl
theorem mw88 : Cond.fieldLink "GlobProfile$GlobReader" 18 "GlobProfile$GlobReader" "text" "LGlobProfile$Typed;" ∈ TT := in_T (in_1 (List.mem_of_getElem? (i := 80) rfl)) rfl
theorem mw89 : Cond.methodLink "GlobProfile$GlobReader" 44 ⟨"GlobProfile$Typed", "characterAt", "(I)C"⟩ ∈ TT := in_T (in_2 (List.mem_of_getElem? (i := 29) rfl)) rfl
theorem mw90 : Cond.methodLink "GlobProfile$GlobReader" 51 ⟨"GlobProfile$GlobReader", "pass", "(Z)V"⟩ ∈ TT := in_T (in_2 (List.mem_of_getElem? (i := 37) rfl)) rfl
theorem mw91 : Cond.methodLink "GlobProfile$GlobReader" 64 ⟨"GlobProfile$GlobReader", "addAnyButSlash", "(Z)V"⟩ ∈ TT := in_T (in_2 (List.mem_of_getElem? (i := 69) rfl)) rfl
theorem mw92 : Cond.methodLink "GlobProfile$GlobReader" 86 ⟨"GlobProfile$GlobReader", "isElement", "(C)Z"⟩ ∈ TT := in_T (in_2 (List.mem_of_getElem? (i := 89) rfl)) rfl
theorem mw93 : Cond.methodLink "GlobProfile$GlobReader" 83 ⟨"GlobProfile$GlobReader", "readElement", "(Z)V"⟩ ∈ TT := in_T (in_2 (List.mem_of_getElem? (i := 85) rfl)) rfl
theorem mw94 : Cond.methodLink "GlobProfile$GlobReader" 67 ⟨"GlobProfile$GlobReader", "readStars", "()V"⟩ ∈ TT := in_T (in_2 (List.mem_of_getElem? (i := 77) rfl)) rfl
theorem mw95 : Cond.methodLink "GlobProfile$GlobReader" 58 ⟨"GlobProfile$Glob", "beginRow", "()Z"⟩ ∈ TT := in_T (in_2 (List.mem_of_getElem? (i := 45) rfl)) rfl
theorem mw96 : Cond.methodLink "GlobProfile$GlobReader" 61 ⟨"GlobProfile$GlobReader", "readByte", "()V"⟩ ∈ TT := in_T (in_2 (List.mem_of_getElem? (i := 49) rfl)) rfl
theorem mw97 : Cond.methodLink "GlobProfile$GlobReader" 70 ⟨"GlobProfile$GlobReader", "readBrackets", "()V"⟩ ∈ TT := in_T (in_2 (List.mem_of_getElem? (i := 81) rfl)) rfl
theorem mw98 : Cond.methodLink "GlobProfile$GlobReader" 48 ⟨"GlobProfile$Glob", "beginChoice", "()Z"⟩ ∈ TT := in_T (in_2 (List.mem_of_getElem? (i := 33) rfl)) rfl
theorem mw99 : Cond.methodLink "GlobProfile$GlobReader" 55 ⟨"GlobProfile$Glob", "endChoice", "()Z"⟩ ∈ TT := in_T (in_2 (List.mem_of_getElem? (i := 41) rfl)) rfl
theorem mw100 : Cond.fieldLinkNest "GlobProfile$GlobReader" 32 "GlobProfile$Typed" "length" "I" "GlobProfile" ∈ NW := in_N (in_1 (List.mem_of_getElem? (i := 28) rfl)) rfl
theorem mw101 : Cond.methodLink "GlobProfile$GlobReader" 40 ⟨"GlobProfile$Glob", "isInChoice", "()Z"⟩ ∈ TT := in_T (in_2 (List.mem_of_getElem? (i := 92) rfl)) rfl
theorem mw102 : Cond.methodLink "GlobProfile$GlobReader" 29 ⟨"GlobProfile$Glob", "clear", "()V"⟩ ∈ TT := in_T (in_2 (List.mem_of_getElem? (i := 18) rfl)) rfl
theorem mw103 : Cond.methodLink "GlobProfile$GlobReader" 37 ⟨"GlobProfile$GlobReader", "readPart", "()V"⟩ ∈ TT := in_T (in_2 (List.mem_of_getElem? (i := 25) rfl)) rfl
theorem mw104 : Cond.fieldLink "GlobProfile$Union" 9 "GlobProfile$Union" "behind" "[J" ∈ TT := in_T (in_1 (List.mem_of_getElem? (i := 123) rfl)) rfl
theorem mw105 : Cond.fieldLink "GlobProfile$Union" 15 "GlobProfile$Union" "readersOf" "[J" ∈ TT := in_T (in_1 (List.mem_of_getElem? (i := 124) rfl)) rfl
theorem mw106 : Cond.fieldLink "GlobProfile$Union" 40 "GlobProfile$Union" "pieceCount" "I" ∈ TT := in_T (in_1 (List.mem_of_getElem? (i := 130) rfl)) rfl
theorem mw107 : Cond.fieldLink "GlobProfile$Union" 44 "GlobProfile$Union" "ruleCount" "I" ∈ TT := in_T (in_1 (List.mem_of_getElem? (i := 131) rfl)) rfl
theorem mw108 : Cond.methodLink "GlobProfile$Union" 34 ⟨"java/util/Arrays", "fill", "([JJ)V"⟩ ∈ TT := in_T (in_2 (List.mem_of_getElem? (i := 148) rfl)) rfl
theorem mw109 : Cond.constantLong "GlobProfile$Union" 73 (-2) ∈ TT := in_T (in_2 (List.mem_of_getElem? (i := 157) rfl)) rfl
theorem mw110 : Cond.fieldLinkNest "GlobProfile$Union" 47 "GlobProfile$Rule" "glob" "LGlobProfile$Glob;" "GlobProfile" ∈ NW := in_N (in_1 (List.mem_of_getElem? (i := 104) rfl)) rfl
theorem mw111 : Cond.fieldLinkNest "GlobProfile$Union" 53 "GlobProfile$Glob" "pieceCount" "I" "GlobProfile" ∈ NW := in_N (in_1 (List.mem_of_getElem? (i := 56) rfl)) rfl
theorem mw112 : Cond.fieldLinkNest "GlobProfile$Union" 56 "GlobProfile$Glob" "behind" "[J" "GlobProfile" ∈ NW := in_N (in_1 (List.mem_of_getElem? (i := 49) rfl)) rfl
theorem mw113 : Cond.fieldLink "GlobProfile$Union" 25 "GlobProfile$Union" "endsOf" "[J" ∈ TT := in_T (in_1 (List.mem_of_getElem? (i := 127) rfl)) rfl
theorem mw114 : Cond.fieldLinkNest "GlobProfile$Union" 62 "GlobProfile$Glob" "ends" "J" "GlobProfile" ∈ NW := in_N (in_1 (List.mem_of_getElem? (i := 60) rfl)) rfl
theorem mw115 : Cond.fieldLink "GlobProfile$Union" 28 "GlobProfile$Union" "allowedBy" "[I" ∈ TT := in_T (in_1 (List.mem_of_getElem? (i := 128) rfl)) rfl
theorem mw116 : Cond.fieldLinkNest "GlobProfile$Union" 66 "GlobProfile$Rule" "allows" "Z" "GlobProfile" ∈ NW := in_N (in_1 (List.mem_of_getElem? (i := 107) rfl)) rfl
theorem mw117 : Cond.fieldLink "GlobProfile$Union" 31 "GlobProfile$Union" "deniedBy" "[I" ∈ TT := in_T (in_1 (List.mem_of_getElem? (i := 129) rfl)) rfl
theorem mw118 : Cond.fieldLinkNest "GlobProfile$Union" 70 "GlobProfile$Rule" "permissions" "I" "GlobProfile" ∈ NW := in_N (in_1 (List.mem_of_getElem? (i := 109) rfl)) rfl
theorem mw119 : Cond.fieldLinkNest "GlobProfile$Union" 61 "GlobProfile$Glob" "readersOf" "[J" "GlobProfile" ∈ NW := in_N (in_1 (List.mem_of_getElem? (i := 51) rfl)) rfl
theorem mw120 : Cond.methodLink "GlobProfile$Union" 57 ⟨"GlobProfile$Union", "moved", "(J)J"⟩ ∈ TT := in_T (in_2 (List.mem_of_getElem? (i := 153) rfl)) rfl
theorem mw121 : Cond.fieldLink "GlobProfile$Union" 75 "GlobProfile$Union" "columnCount" "I" ∈ TT := in_T (in_1 (List.mem_of_getElem? (i := 133) rfl)) rfl
theorem mw122 : Cond.fieldLink "GlobProfile$Union" 22 "GlobProfile$Union" "readersOfColumn" "[J" ∈ TT := in_T (in_1 (List.mem_of_getElem? (i := 126) rfl)) rfl
theorem mw123 : Cond.fieldLink "GlobProfile$Union" 18 "GlobProfile$Union" "columnOf" "[I" ∈ TT := in_T (in_1 (List.mem_of_getElem? (i := 125) rfl)) rfl
theorem mw124 : Cond.methodLink "GlobProfile$Union" 78 ⟨"GlobProfile$Union", "columnFor", "(J)I"⟩ ∈ TT := in_T (in_2 (List.mem_of_getElem? (i := 162) rfl)) rfl
theorem mw125 : Cond.methodLinkNest "GlobProfile$Union" 82 ⟨"GlobProfile", "symbolOf", "(I)I"⟩ "GlobProfile" ∈ NW := in_N (in_3 (List.mem_of_getElem? (i := 25) rfl)) rfl
theorem mw126 : Cond.fieldLink "GlobProfile$SetGraph" 32 "GlobProfile$SetGraph" "count" "I" ∈ TT := in_T (in_1 (List.mem_of_getElem? (i := 172) rfl)) rfl
theorem mw127 : Cond.fieldLink "GlobProfile$SetGraph" 9 "GlobProfile$SetGraph" "found" "[J" ∈ TT := in_T (in_1 (List.mem_of_getElem? (i := 169) rfl)) rfl
theorem mw128 : Cond.fieldLink "GlobProfile$SetGraph" 19 "GlobProfile$SetGraph" "slots" "[I" ∈ TT := in_T (in_1 (List.mem_of_getElem? (i := 171) rfl)) rfl
theorem mw129 : Cond.constantLong "GlobProfile$SetGraph" 57 (-7046029254386353131) ∈ TT := in_T (in_2 (List.mem_of_getElem? (i := 182) rfl)) rfl
theorem mw130 : Cond.methodLink "GlobProfile$SetGraph" 59 ⟨"GlobProfile$SetGraph", "add", "(JII)I"⟩ ∈ TT := in_T (in_2 (List.mem_of_getElem? (i := 183) rfl)) rfl
theorem mw131 : Cond.fieldLink "GlobProfile$SetGraph" 22 "GlobProfile$SetGraph" "union" "LGlobProfile$Union;" ∈ TT := in_T (in_1 (List.mem_of_getElem? (i := 168) rfl)) rfl
theorem mw132 : Cond.fieldLinkNest "GlobProfile$SetGraph" 50 "GlobProfile$Union" "columnCount" "I" "GlobProfile" ∈ NW := in_N (in_1 (List.mem_of_getElem? (i := 132) rfl)) rfl
theorem mw133 : Cond.fieldLink "GlobProfile$SetGraph" 15 "GlobProfile$SetGraph" "leads" "[I" ∈ TT := in_T (in_1 (List.mem_of_getElem? (i := 170) rfl)) rfl
theorem mw134 : Cond.methodLink "GlobProfile$SetGraph" 44 ⟨"GlobProfile$Union", "behindAll", "(J)J"⟩ ∈ TT := in_T (in_2 (List.mem_of_getElem? (i := 191) rfl)) rfl
theorem mw135 : Cond.methodLink "GlobProfile$SetGraph" 53 ⟨"GlobProfile$Union", "readersOfColumn", "(I)J"⟩ ∈ TT := in_T (in_2 (List.mem_of_getElem? (i := 195) rfl)) rfl
theorem mw136 : Cond.methodLink "GlobProfile$SetGraph" 36 ⟨"GlobProfile$SetGraph", "numberOf", "(JI)I"⟩ ∈ TT := in_T (in_2 (List.mem_of_getElem? (i := 178) rfl)) rfl
theorem mw137 : Cond.methodLink "GlobProfile$SetGraph" 26 ⟨"java/util/Arrays", "fill", "([II)V"⟩ ∈ TT := in_T (in_2 (List.mem_of_getElem? (i := 175) rfl)) rfl
theorem mw138 : Cond.methodLink "GlobProfile$SetGraph" 40 ⟨"GlobProfile$SetGraph", "exploreFrom", "(II)Z"⟩ ∈ TT := in_T (in_2 (List.mem_of_getElem? (i := 187) rfl)) rfl
theorem mw139 : Cond.methodLink "GlobProfile$SetGraph" 63 ⟨"GlobProfile$Union", "permissionsOf", "(J)I"⟩ ∈ TT := in_T (in_2 (List.mem_of_getElem? (i := 207) rfl)) rfl
theorem mw140 : Cond.fieldLink "GlobProfile$Table" 43 "GlobProfile$Table" "stateCount" "I" ∈ TT := in_T (in_1 (List.mem_of_getElem? (i := 194) rfl)) rfl
theorem mw141 : Cond.fieldLink "GlobProfile$Table" 39 "GlobProfile$Table" "graph" "LGlobProfile$SetGraph;" ∈ TT := in_T (in_1 (List.mem_of_getElem? (i := 186) rfl)) rfl
theorem mw142 : Cond.fieldLinkNest "GlobProfile$Table" 47 "GlobProfile$SetGraph" "count" "I" "GlobProfile" ∈ NW := in_N (in_1 (List.mem_of_getElem? (i := 173) rfl)) rfl
theorem mw143 : Cond.fieldLink "GlobProfile$Table" 9 "GlobProfile$Table" "kindOf" "[I" ∈ TT := in_T (in_1 (List.mem_of_getElem? (i := 187) rfl)) rfl
theorem mw144 : Cond.fieldLink "GlobProfile$Table" 30 "GlobProfile$Table" "union" "LGlobProfile$Union;" ∈ TT := in_T (in_1 (List.mem_of_getElem? (i := 185) rfl)) rfl
theorem mw145 : Cond.fieldLinkNest "GlobProfile$Table" 86 "GlobProfile$Union" "columnCount" "I" "GlobProfile" ∈ NW := in_N (in_1 (List.mem_of_getElem? (i := 134) rfl)) rfl
theorem mw146 : Cond.methodLink "GlobProfile$Table" 83 ⟨"GlobProfile$Table", "kindOfSet", "(I)I"⟩ ∈ TT := in_T (in_2 (List.mem_of_getElem? (i := 219) rfl)) rfl
theorem mw147 : Cond.methodLink "GlobProfile$Table" 91 ⟨"GlobProfile$SetGraph", "lead", "(II)I"⟩ ∈ TT := in_T (in_2 (List.mem_of_getElem? (i := 223) rfl)) rfl
theorem mw148 : Cond.fieldLink "GlobProfile$Table" 67 "GlobProfile$Table" "kindCount" "I" ∈ TT := in_T (in_1 (List.mem_of_getElem? (i := 193) rfl)) rfl
theorem mw149 : Cond.methodLink "GlobProfile$Table" 70 ⟨"GlobProfile$SetGraph", "permissionsOf", "(I)I"⟩ ∈ TT := in_T (in_2 (List.mem_of_getElem? (i := 203) rfl)) rfl
theorem mw150 : Cond.fieldLink "GlobProfile$Table" 15 "GlobProfile$Table" "finerKindOf" "[I" ∈ TT := in_T (in_1 (List.mem_of_getElem? (i := 188) rfl)) rfl
theorem mw151 : Cond.fieldLink "GlobProfile$Table" 18 "GlobProfile$Table" "leaderOf" "[I" ∈ TT := in_T (in_1 (List.mem_of_getElem? (i := 189) rfl)) rfl
theorem mw152 : Cond.methodLink "GlobProfile$Table" 77 ⟨"java/lang/System", "arraycopy", "(Ljava/lang/Object;ILjava/lang/Object;II)V"⟩ ∈ TT := in_T (in_2 (List.mem_of_getElem? (i := 227) rfl)) rfl
theorem mw153 : Cond.methodLink "GlobProfile$Table" 73 ⟨"GlobProfile$Table", "areOfOneKind", "(II)Z"⟩ ∈ TT := in_T (in_2 (List.mem_of_getElem? (i := 215) rfl)) rfl
theorem mw154 : Cond.fieldLink "GlobProfile$Table" 21 "GlobProfile$Table" "stateOfKind" "[I" ∈ TT := in_T (in_1 (List.mem_of_getElem? (i := 190) rfl)) rfl
theorem mw155 : Cond.fieldLink "GlobProfile$Table" 24 "GlobProfile$Table" "setOfState" "[I" ∈ TT := in_T (in_1 (List.mem_of_getElem? (i := 191) rfl)) rfl
theorem mw156 : Cond.fieldLink "GlobProfile$Table" 27 "GlobProfile$Table" "permissionsOf" "[I" ∈ TT := in_T (in_1 (List.mem_of_getElem? (i := 192) rfl)) rfl
theorem mw157 : Cond.methodLink "GlobProfile$Table" 95 ⟨"java/util/Arrays", "fill", "([II)V"⟩ ∈ TT := in_T (in_2 (List.mem_of_getElem? (i := 232) rfl)) rfl
theorem mw158 : Cond.methodLink "GlobProfile$Table" 101 ⟨"GlobProfile$Table", "giveNumber", "(I)V"⟩ ∈ TT := in_T (in_2 (List.mem_of_getElem? (i := 233) rfl)) rfl
theorem mw159 : Cond.methodLink "GlobProfile$Table" 50 ⟨"GlobProfile$Table", "clear", "()V"⟩ ∈ TT := in_T (in_2 (List.mem_of_getElem? (i := 170) rfl)) rfl
theorem mw160 : Cond.methodLink "GlobProfile$Table" 53 ⟨"GlobProfile$SetGraph", "explore", "(I)Z"⟩ ∈ TT := in_T (in_2 (List.mem_of_getElem? (i := 171) rfl)) rfl
theorem mw161 : Cond.methodLink "GlobProfile$Table" 57 ⟨"GlobProfile$Table", "partByPermissions", "()V"⟩ ∈ TT := in_T (in_2 (List.mem_of_getElem? (i := 199) rfl)) rfl
theorem mw162 : Cond.methodLink "GlobProfile$Table" 60 ⟨"GlobProfile$Table", "partByLeads", "()Z"⟩ ∈ TT := in_T (in_2 (List.mem_of_getElem? (i := 211) rfl)) rfl
theorem mw163 : Cond.methodLink "GlobProfile$Table" 64 ⟨"GlobProfile$Table", "numberStates", "()V"⟩ ∈ TT := in_T (in_2 (List.mem_of_getElem? (i := 228) rfl)) rfl
theorem mw164 : Cond.methodLink "GlobProfile$Table" 105 ⟨"GlobProfile$Union", "columnOfByte", "(I)I"⟩ ∈ TT := in_T (in_3 (List.mem_of_getElem? (i := 21) rfl)) rfl
theorem mw165 : Cond.fieldLink "GlobProfile" 27 "GlobProfile" "slots" "[LGlobProfile$Rule;" ∈ TT := in_T (in_1 (List.mem_of_getElem? (i := 219) rfl)) rfl
theorem mw166 : Cond.fieldLink "GlobProfile" 48 "GlobProfile" "ruleCount" "I" ∈ TT := in_T (in_1 (List.mem_of_getElem? (i := 222) rfl)) rfl
theorem mw167 : Cond.methodLink "GlobProfile" 66 ⟨"GlobProfile", "slotAt", "(I)LGlobProfile$Rule;"⟩ ∈ TT := in_T (in_2 (List.mem_of_getElem? (i := 100) rfl)) rfl
theorem mw168 : Cond.fieldLinkNest "GlobProfile" 90 "GlobProfile$Rule" "glob" "LGlobProfile$Glob;" "GlobProfile" ∈ NW := in_N (in_1 (List.mem_of_getElem? (i := 105) rfl)) rfl
theorem mw169 : Cond.fieldLinkNest "GlobProfile" 77 "GlobProfile$Glob" "pieceCount" "I" "GlobProfile" ∈ NW := in_N (in_1 (List.mem_of_getElem? (i := 57) rfl)) rfl
theorem mw170 : Cond.methodLink "GlobProfile" 87 ⟨"GlobProfile", "ruleAt", "(I)LGlobProfile$Rule;"⟩ ∈ TT := in_T (in_2 (List.mem_of_getElem? (i := 112) rfl)) rfl
theorem mw171 : Cond.methodLink "GlobProfile" 128 ⟨"GlobProfile", "pieces", "(I)I"⟩ ∈ TT := in_T (in_2 (List.mem_of_getElem? (i := 108) rfl)) rfl
theorem mw172 : Cond.fieldLink "GlobProfile" 44 "GlobProfile" "table" "LGlobProfile$Table;" ∈ TT := in_T (in_1 (List.mem_of_getElem? (i := 221) rfl)) rfl
theorem mw173 : Cond.methodLink "GlobProfile" 86 ⟨"GlobProfile$Table", "clear", "()V"⟩ ∈ TT := in_T (in_2 (List.mem_of_getElem? (i := 127) rfl)) rfl
theorem mw174 : Cond.fieldLink "GlobProfile" 21 "GlobProfile" "reader" "LGlobProfile$GlobReader;" ∈ TT := in_T (in_1 (List.mem_of_getElem? (i := 218) rfl)) rfl
theorem mw175 : Cond.fieldLink "GlobProfile" 12 "GlobProfile" "typed" "LGlobProfile$Typed;" ∈ TT := in_T (in_1 (List.mem_of_getElem? (i := 217) rfl)) rfl
theorem mw176 : Cond.fieldLinkNest "GlobProfile" 73 "GlobProfile$GlobReader" "glob" "LGlobProfile$Glob;" "GlobProfile" ∈ NW := in_N (in_1 (List.mem_of_getElem? (i := 82) rfl)) rfl
theorem mw177 : Cond.methodLink "GlobProfile" 59 ⟨"GlobProfile$GlobReader", "read", "()I"⟩ ∈ TT := in_T (in_2 (List.mem_of_getElem? (i := 14) rfl)) rfl
theorem mw178 : Cond.methodLink "GlobProfile" 63 ⟨"GlobProfile$Typed", "clear", "()V"⟩ ∈ TT := in_T (in_2 (List.mem_of_getElem? (i := 96) rfl)) rfl
theorem mw179 : Cond.methodLink "GlobProfile" 70 ⟨"GlobProfile", "pieceSum", "()I"⟩ ∈ TT := in_T (in_2 (List.mem_of_getElem? (i := 104) rfl)) rfl
theorem mw180 : Cond.methodLink "GlobProfile" 82 ⟨"GlobProfile$Rule", "fill", "(LGlobProfile$Glob;ZI)V"⟩ ∈ TT := in_T (in_2 (List.mem_of_getElem? (i := 116) rfl)) rfl
theorem mw181 : Cond.fieldLink "GlobProfile" 35 "GlobProfile" "union" "LGlobProfile$Union;" ∈ TT := in_T (in_1 (List.mem_of_getElem? (i := 220) rfl)) rfl
theorem mw182 : Cond.fieldLink "GlobProfile" 52 "GlobProfile" "walkState" "I" ∈ TT := in_T (in_1 (List.mem_of_getElem? (i := 223) rfl)) rfl
theorem mw183 : Cond.fieldLinkNest "GlobProfile" 103 "GlobProfile$Table" "stateCount" "I" "GlobProfile" ∈ NW := in_N (in_1 (List.mem_of_getElem? (i := 195) rfl)) rfl
theorem mw184 : Cond.methodLink "GlobProfile" 91 ⟨"GlobProfile$Union", "clear", "()V"⟩ ∈ TT := in_T (in_2 (List.mem_of_getElem? (i := 144) rfl)) rfl
theorem mw185 : Cond.methodLink "GlobProfile" 92 ⟨"GlobProfile$Union", "add", "(LGlobProfile$Rule;)V"⟩ ∈ TT := in_T (in_2 (List.mem_of_getElem? (i := 149) rfl)) rfl
theorem mw186 : Cond.methodLink "GlobProfile" 96 ⟨"GlobProfile$Union", "groupSymbols", "()V"⟩ ∈ TT := in_T (in_2 (List.mem_of_getElem? (i := 158) rfl)) rfl
theorem mw187 : Cond.methodLink "GlobProfile" 99 ⟨"GlobProfile$Table", "make", "(I)Z"⟩ ∈ TT := in_T (in_2 (List.mem_of_getElem? (i := 166) rfl)) rfl
theorem mw188 : Cond.methodLink "GlobProfile" 55 ⟨"GlobProfile$Typed", "append", "(II)Z"⟩ ∈ TT := in_T (in_2 (List.mem_of_getElem? (i := 3) rfl)) rfl
theorem mw189 : Cond.methodLink "GlobProfile" 106 ⟨"GlobProfile$Table", "isMade", "()Z"⟩ ∈ TT := in_T (in_3 (List.mem_of_getElem? (i := 1) rfl)) rfl
theorem mw190 : Cond.methodLink "GlobProfile" 110 ⟨"GlobProfile$Table", "setCount", "()I"⟩ ∈ TT := in_T (in_3 (List.mem_of_getElem? (i := 5) rfl)) rfl
theorem mw191 : Cond.methodLink "GlobProfile" 113 ⟨"GlobProfile$Table", "step", "(II)I"⟩ ∈ TT := in_T (in_3 (List.mem_of_getElem? (i := 17) rfl)) rfl
theorem mw192 : Cond.methodLink "GlobProfile" 117 ⟨"GlobProfile$Table", "permissionsAt", "(I)I"⟩ ∈ TT := in_T (in_3 (List.mem_of_getElem? (i := 30) rfl)) rfl
theorem mw193 : Cond.fieldLinkNest "GlobProfile" 121 "GlobProfile$Typed" "length" "I" "GlobProfile" ∈ NW := in_N (in_1 (List.mem_of_getElem? (i := 29) rfl)) rfl
theorem mw194 : Cond.methodLink "GlobProfile" 124 ⟨"GlobProfile$Typed", "characterAt", "(I)C"⟩ ∈ TT := in_T (in_3 (List.mem_of_getElem? (i := 38) rfl)) rfl
theorem mw195 : Cond.methodLink "GlobProfile$Typed" 3 ⟨"java/lang/Object", "<init>", "()V"⟩ ∈ TT := in_T (in_1 (List.mem_of_getElem? (i := 25) rfl)) rfl
theorem mw196 : Cond.arrayClass .char ∈ TT := in_T (in_1 (List.mem_of_getElem? (i := 35) rfl)) rfl
theorem mw197 : Cond.methodLink "GlobProfile$Glob" 3 ⟨"java/lang/Object", "<init>", "()V"⟩ ∈ TT := in_T (in_1 (List.mem_of_getElem? (i := 47) rfl)) rfl
theorem mw198 : Cond.arrayClass .long ∈ TT := in_T (in_1 (List.mem_of_getElem? (i := 78) rfl)) rfl
theorem mw199 : Cond.arrayClass .int ∈ TT := in_T (in_1 (List.mem_of_getElem? (i := 79) rfl)) rfl
theorem mw200 : Cond.methodLink "GlobProfile$GlobReader" 3 ⟨"java/lang/Object", "<init>", "()V"⟩ ∈ TT := in_T (in_1 (List.mem_of_getElem? (i := 41) rfl)) rfl
theorem mw201 : Cond.instantiable "GlobProfile$Glob" 8 ∈ TT := in_T (in_1 (List.mem_of_getElem? (i := 43) rfl)) rfl
theorem mw202 : Cond.initialized "GlobProfile$Glob" ∈ TT := in_T (in_1 (List.mem_of_getElem? (i := 4) rfl)) rfl
theorem mw203 : Cond.classLink "GlobProfile$GlobReader" 9 "GlobProfile$Glob" ∈ TT := in_T (in_1 (List.mem_of_getElem? (i := 42) rfl)) rfl
theorem mw204 : Cond.methodLinkNest "GlobProfile$GlobReader" 11 ⟨"GlobProfile$Glob", "<init>", "()V"⟩ "GlobProfile" ∈ NW := in_N (in_1 (List.mem_of_getElem? (i := 44) rfl)) rfl
theorem mw205 : Cond.instanceMethod ⟨"GlobProfile$Glob", "<init>", "()V"⟩ ∈ TT := in_T (in_1 (List.mem_of_getElem? (i := 45) rfl)) rfl
theorem mw206 : Cond.methodLink "GlobProfile$Rule" 1 ⟨"java/lang/Object", "<init>", "()V"⟩ ∈ TT := in_T (in_1 (List.mem_of_getElem? (i := 100) rfl)) rfl
theorem mw207 : Cond.classLink "GlobProfile$Rule" 7 "GlobProfile$Glob" ∈ TT := in_T (in_1 (List.mem_of_getElem? (i := 101) rfl)) rfl
theorem mw208 : Cond.methodLinkNest "GlobProfile$Rule" 9 ⟨"GlobProfile$Glob", "<init>", "()V"⟩ "GlobProfile" ∈ NW := in_N (in_1 (List.mem_of_getElem? (i := 102) rfl)) rfl
theorem mw209 : Cond.methodLink "GlobProfile$Union" 3 ⟨"java/lang/Object", "<init>", "()V"⟩ ∈ TT := in_T (in_1 (List.mem_of_getElem? (i := 122) rfl)) rfl
theorem mw210 : Cond.methodLink "GlobProfile$SetGraph" 3 ⟨"java/lang/Object", "<init>", "()V"⟩ ∈ TT := in_T (in_1 (List.mem_of_getElem? (i := 167) rfl)) rfl
theorem mw211 : Cond.methodLink "GlobProfile$Table" 3 ⟨"java/lang/Object", "<init>", "()V"⟩ ∈ TT := in_T (in_1 (List.mem_of_getElem? (i := 161) rfl)) rfl
theorem mw212 : Cond.instantiable "GlobProfile$SetGraph" 5 ∈ TT := in_T (in_1 (List.mem_of_getElem? (i := 163) rfl)) rfl
theorem mw213 : Cond.initialized "GlobProfile$SetGraph" ∈ TT := in_T (in_1 (List.mem_of_getElem? (i := 8) rfl)) rfl
theorem mw214 : Cond.classLink "GlobProfile$Table" 34 "GlobProfile$SetGraph" ∈ TT := in_T (in_1 (List.mem_of_getElem? (i := 162) rfl)) rfl
theorem mw215 : Cond.methodLink "GlobProfile$Table" 36 ⟨"GlobProfile$SetGraph", "<init>", "(LGlobProfile$Union;)V"⟩ ∈ TT := in_T (in_1 (List.mem_of_getElem? (i := 164) rfl)) rfl
theorem mw216 : Cond.instanceMethod ⟨"GlobProfile$SetGraph", "<init>", "(LGlobProfile$Union;)V"⟩ ∈ TT := in_T (in_1 (List.mem_of_getElem? (i := 165) rfl)) rfl
theorem mw217 : Cond.methodLink "GlobProfileModel" 1 ⟨"java/lang/Object", "<init>", "()V"⟩ ∈ TT := in_T (in_3 (List.mem_of_getElem? (i := 60) rfl)) rfl
theorem mw218 : Cond.arrayClass .boolean ∈ TT := in_T (in_3 (List.mem_of_getElem? (i := 170) rfl)) rfl
theorem mw219 : Cond.methodLink "GlobProfile" 3 ⟨"java/lang/Object", "<init>", "()V"⟩ ∈ TT := in_T (in_1 (List.mem_of_getElem? (i := 17) rfl)) rfl
theorem mw220 : Cond.instantiable "GlobProfile$Typed" 2 ∈ TT := in_T (in_1 (List.mem_of_getElem? (i := 21) rfl)) rfl
theorem mw221 : Cond.initialized "GlobProfile$Typed" ∈ TT := in_T (in_1 (List.mem_of_getElem? (i := 2) rfl)) rfl
theorem mw222 : Cond.classLink "GlobProfile" 9 "GlobProfile$Typed" ∈ TT := in_T (in_1 (List.mem_of_getElem? (i := 20) rfl)) rfl
theorem mw223 : Cond.methodLinkNest "GlobProfile" 11 ⟨"GlobProfile$Typed", "<init>", "()V"⟩ "GlobProfile" ∈ NW := in_N (in_1 (List.mem_of_getElem? (i := 22) rfl)) rfl
theorem mw224 : Cond.instanceMethod ⟨"GlobProfile$Typed", "<init>", "()V"⟩ ∈ TT := in_T (in_1 (List.mem_of_getElem? (i := 23) rfl)) rfl
theorem mw225 : Cond.instantiable "GlobProfile$GlobReader" 4 ∈ TT := in_T (in_1 (List.mem_of_getElem? (i := 37) rfl)) rfl
theorem mw226 : Cond.initialized "GlobProfile$GlobReader" ∈ TT := in_T (in_1 (List.mem_of_getElem? (i := 3) rfl)) rfl
theorem mw227 : Cond.classLink "GlobProfile" 16 "GlobProfile$GlobReader" ∈ TT := in_T (in_1 (List.mem_of_getElem? (i := 36) rfl)) rfl
theorem mw228 : Cond.methodLink "GlobProfile" 18 ⟨"GlobProfile$GlobReader", "<init>", "(LGlobProfile$Typed;)V"⟩ ∈ TT := in_T (in_1 (List.mem_of_getElem? (i := 38) rfl)) rfl
theorem mw229 : Cond.instanceMethod ⟨"GlobProfile$GlobReader", "<init>", "(LGlobProfile$Typed;)V"⟩ ∈ TT := in_T (in_1 (List.mem_of_getElem? (i := 39) rfl)) rfl
theorem mw230 : Cond.classLink "GlobProfile" 25 "GlobProfile$Rule" ∈ TT := in_T (in_1 (List.mem_of_getElem? (i := 94) rfl)) rfl
theorem mw231 : Cond.instantiable "GlobProfile$Rule" 3 ∈ TT := in_T (in_1 (List.mem_of_getElem? (i := 96) rfl)) rfl
theorem mw232 : Cond.initialized "GlobProfile$Rule" ∈ TT := in_T (in_1 (List.mem_of_getElem? (i := 5) rfl)) rfl
theorem mw233 : Cond.methodLinkNest "GlobProfile" 31 ⟨"GlobProfile$Rule", "<init>", "()V"⟩ "GlobProfile" ∈ NW := in_N (in_1 (List.mem_of_getElem? (i := 97) rfl)) rfl
theorem mw234 : Cond.instanceMethod ⟨"GlobProfile$Rule", "<init>", "()V"⟩ ∈ TT := in_T (in_1 (List.mem_of_getElem? (i := 98) rfl)) rfl
theorem mw235 : Cond.instantiable "GlobProfile$Union" 10 ∈ TT := in_T (in_1 (List.mem_of_getElem? (i := 118) rfl)) rfl
theorem mw236 : Cond.initialized "GlobProfile$Union" ∈ TT := in_T (in_1 (List.mem_of_getElem? (i := 6) rfl)) rfl
theorem mw237 : Cond.classLink "GlobProfile" 32 "GlobProfile$Union" ∈ TT := in_T (in_1 (List.mem_of_getElem? (i := 117) rfl)) rfl
theorem mw238 : Cond.methodLinkNest "GlobProfile" 34 ⟨"GlobProfile$Union", "<init>", "()V"⟩ "GlobProfile" ∈ NW := in_N (in_1 (List.mem_of_getElem? (i := 119) rfl)) rfl
theorem mw239 : Cond.instanceMethod ⟨"GlobProfile$Union", "<init>", "()V"⟩ ∈ TT := in_T (in_1 (List.mem_of_getElem? (i := 120) rfl)) rfl
theorem mw240 : Cond.instantiable "GlobProfile$Table" 10 ∈ TT := in_T (in_1 (List.mem_of_getElem? (i := 157) rfl)) rfl
theorem mw241 : Cond.initialized "GlobProfile$Table" ∈ TT := in_T (in_1 (List.mem_of_getElem? (i := 7) rfl)) rfl
theorem mw242 : Cond.classLink "GlobProfile" 39 "GlobProfile$Table" ∈ TT := in_T (in_1 (List.mem_of_getElem? (i := 156) rfl)) rfl
theorem mw243 : Cond.methodLink "GlobProfile" 41 ⟨"GlobProfile$Table", "<init>", "(LGlobProfile$Union;)V"⟩ ∈ TT := in_T (in_1 (List.mem_of_getElem? (i := 158) rfl)) rfl
theorem mw244 : Cond.instanceMethod ⟨"GlobProfile$Table", "<init>", "(LGlobProfile$Union;)V"⟩ ∈ TT := in_T (in_1 (List.mem_of_getElem? (i := 159) rfl)) rfl
