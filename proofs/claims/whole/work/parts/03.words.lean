theorem k_0 : (.fieldLink "RulePayroll$Nodes" 33 "RulePayroll$Nodes" "made" "I" : Cond) ∈ mm_GW := mm_in (List.mem_of_getElem? (i := 75) (by decide +kernel)) rfl
theorem k_1 : (.initialized "RulePayroll" : Cond) ∈ mm_GW := mm_in (List.mem_of_getElem? (i := 32) (by decide +kernel)) rfl
theorem k_2 : (.static ⟨"RulePayroll", "within", "(II)Z"⟩ : Cond) ∈ mm_GW := mm_in (List.mem_of_getElem? (i := 199) (by decide +kernel)) rfl
theorem k_3 : (.methodLink "RulePayroll$Nodes" 71 ⟨"RulePayroll$Nodes", "has", "(I)Z"⟩ : Cond) ∈ mm_GW := mm_in (List.mem_of_getElem? (i := 209) (by decide +kernel)) rfl
theorem k_4 : (.instanceMethod ⟨"RulePayroll$Nodes", "has", "(I)Z"⟩ : Cond) ∈ mm_GW := mm_in (List.mem_of_getElem? (i := 210) (by decide +kernel)) rfl
theorem k_5 : (.selects "RulePayroll$Nodes" ⟨"RulePayroll$Nodes", "has", "(I)Z"⟩ ⟨"RulePayroll$Nodes", "has", "(I)Z"⟩ : Cond) ∈ mm_GW := mm_in (List.mem_of_getElem? (i := 211) (by decide +kernel)) rfl
theorem k_6 : (.initialized "RulePayroll$Nodes" : Cond) ∈ mm_GW := mm_in (List.mem_of_getElem? (i := 34) (by decide +kernel)) rfl
theorem k_7 : (.methodLink "RulePayroll$Nodes" 45 ⟨"RulePayroll$Nodes", "takesNode", "(II)Z"⟩ : Cond) ∈ mm_GW := mm_in (List.mem_of_getElem? (i := 213) (by decide +kernel)) rfl
theorem k_8 : (.static ⟨"RulePayroll$Nodes", "takesNode", "(II)Z"⟩ : Cond) ∈ mm_GW := mm_in (List.mem_of_getElem? (i := 214) (by decide +kernel)) rfl
theorem k_9 : (.methodLink "RulePayroll$Nodes" 68 ⟨"RulePayroll$Nodes", "firstFits", "(II)Z"⟩ : Cond) ∈ mm_GW := mm_in (List.mem_of_getElem? (i := 205) (by decide +kernel)) rfl
theorem k_10 : (.instanceMethod ⟨"RulePayroll$Nodes", "firstFits", "(II)Z"⟩ : Cond) ∈ mm_GW := mm_in (List.mem_of_getElem? (i := 207) (by decide +kernel)) rfl
theorem k_11 : (.selects "RulePayroll$Nodes" ⟨"RulePayroll$Nodes", "firstFits", "(II)Z"⟩ ⟨"RulePayroll$Nodes", "firstFits", "(II)Z"⟩ : Cond) ∈ mm_GW := mm_in (List.mem_of_getElem? (i := 1) (by decide +kernel)) rfl
theorem k_12 : (.fieldLink "RulePayroll$Nodes" 24 "RulePayroll$Nodes" "levels" "[I" : Cond) ∈ mm_GW := mm_in (List.mem_of_getElem? (i := 70) (by decide +kernel)) rfl
theorem k_13 : (.fieldLink "RulePayroll$Nodes" 27 "RulePayroll$Nodes" "ranks" "[I" : Cond) ∈ mm_GW := mm_in (List.mem_of_getElem? (i := 71) (by decide +kernel)) rfl
theorem k_14 : (.fieldLink "RulePayroll$Nodes" 30 "RulePayroll$Nodes" "order" "[I" : Cond) ∈ mm_GW := mm_in (List.mem_of_getElem? (i := 73) (by decide +kernel)) rfl
theorem k_15 : (.methodLink "RulePayroll$Nodes" 41 ⟨"RulePayroll$Nodes", "operandsFit", "(IIII)Z"⟩ : Cond) ∈ mm_GW := mm_in (List.mem_of_getElem? (i := 201) (by decide +kernel)) rfl
theorem k_16 : (.instanceMethod ⟨"RulePayroll$Nodes", "operandsFit", "(IIII)Z"⟩ : Cond) ∈ mm_GW := mm_in (List.mem_of_getElem? (i := 203) (by decide +kernel)) rfl
theorem k_17 : (.selects "RulePayroll$Nodes" ⟨"RulePayroll$Nodes", "operandsFit", "(IIII)Z"⟩ ⟨"RulePayroll$Nodes", "operandsFit", "(IIII)Z"⟩ : Cond) ∈ mm_GW := mm_in (List.mem_of_getElem? (i := 0) (by decide +kernel)) rfl
theorem k_18 : (.methodLink "RulePayroll$Nodes" 52 ⟨"java/lang/Math", "max", "(II)I"⟩ : Cond) ∈ mm_GW := mm_in (List.mem_of_getElem? (i := 222) (by decide +kernel)) rfl
theorem k_19 : (.static ⟨"java/lang/Math", "max", "(II)I"⟩ : Cond) ∈ mm_GW := mm_in (List.mem_of_getElem? (i := 223) (by decide +kernel)) rfl
theorem k_20 : (.initialized "java/lang/Math" : Cond) ∈ mm_GW := mm_in (List.mem_of_getElem? (i := 40) (by decide +kernel)) rfl
theorem k_21 : (.fieldLink "RulePayroll$Nodes" 9 "RulePayroll$Nodes" "kinds" "[I" : Cond) ∈ mm_GW := mm_in (List.mem_of_getElem? (i := 62) (by decide +kernel)) rfl
theorem k_22 : (.fieldLink "RulePayroll$Nodes" 15 "RulePayroll$Nodes" "as" "[I" : Cond) ∈ mm_GW := mm_in (List.mem_of_getElem? (i := 64) (by decide +kernel)) rfl
theorem k_23 : (.fieldLink "RulePayroll$Nodes" 18 "RulePayroll$Nodes" "bs" "[I" : Cond) ∈ mm_GW := mm_in (List.mem_of_getElem? (i := 66) (by decide +kernel)) rfl
theorem k_24 : (.fieldLink "RulePayroll$Nodes" 21 "RulePayroll$Nodes" "cs" "[I" : Cond) ∈ mm_GW := mm_in (List.mem_of_getElem? (i := 68) (by decide +kernel)) rfl
theorem k_25 : (.methodLink "RulePayroll$Nodes" 48 ⟨"RulePayroll$Nodes", "levelOf", "(I)I"⟩ : Cond) ∈ mm_GW := mm_in (List.mem_of_getElem? (i := 218) (by decide +kernel)) rfl
theorem k_26 : (.instanceMethod ⟨"RulePayroll$Nodes", "levelOf", "(I)I"⟩ : Cond) ∈ mm_GW := mm_in (List.mem_of_getElem? (i := 220) (by decide +kernel)) rfl
theorem k_27 : (.selects "RulePayroll$Nodes" ⟨"RulePayroll$Nodes", "levelOf", "(I)I"⟩ ⟨"RulePayroll$Nodes", "levelOf", "(I)I"⟩ : Cond) ∈ mm_GW := mm_in (List.mem_of_getElem? (i := 2) (by decide +kernel)) rfl
theorem k_28 : (.methodLink "RulePayroll$Nodes" 61 ⟨"RulePayroll$Nodes", "putInOrder", "(I)V"⟩ : Cond) ∈ mm_GW := mm_in (List.mem_of_getElem? (i := 229) (by decide +kernel)) rfl
theorem k_29 : (.instanceMethod ⟨"RulePayroll$Nodes", "putInOrder", "(I)V"⟩ : Cond) ∈ mm_GW := mm_in (List.mem_of_getElem? (i := 231) (by decide +kernel)) rfl
theorem k_30 : (.selects "RulePayroll$Nodes" ⟨"RulePayroll$Nodes", "putInOrder", "(I)V"⟩ ⟨"RulePayroll$Nodes", "putInOrder", "(I)V"⟩ : Cond) ∈ mm_GW := mm_in (List.mem_of_getElem? (i := 4) (by decide +kernel)) rfl
theorem k_31 : (.methodLink "RulePayroll$Nodes" 58 ⟨"RulePayroll$Nodes", "rankOf", "(I)I"⟩ : Cond) ∈ mm_GW := mm_in (List.mem_of_getElem? (i := 225) (by decide +kernel)) rfl
theorem k_32 : (.instanceMethod ⟨"RulePayroll$Nodes", "rankOf", "(I)I"⟩ : Cond) ∈ mm_GW := mm_in (List.mem_of_getElem? (i := 227) (by decide +kernel)) rfl
theorem k_33 : (.selects "RulePayroll$Nodes" ⟨"RulePayroll$Nodes", "rankOf", "(I)I"⟩ ⟨"RulePayroll$Nodes", "rankOf", "(I)I"⟩ : Cond) ∈ mm_GW := mm_in (List.mem_of_getElem? (i := 3) (by decide +kernel)) rfl
theorem k_34 : (.fieldLink "RulePayroll" 12 "RulePayroll" "rules" "LRulePayroll$Rules;" : Cond) ∈ mm_GW := mm_in (List.mem_of_getElem? (i := 180) (by decide +kernel)) rfl
theorem k_35 : (.fieldLink "RulePayroll" 30 "RulePayroll$Rules" "nodes" "LRulePayroll$Nodes;" : Cond) ∈ mm_GW := mm_in (List.mem_of_getElem? (i := 119) (by decide +kernel)) rfl
theorem k_36 : (.methodLink "RulePayroll" 34 ⟨"RulePayroll$Nodes", "make", "(IIII)I"⟩ : Cond) ∈ mm_GW := mm_in (List.mem_of_getElem? (i := 194) (by decide +kernel)) rfl
theorem k_37 : (.instanceMethod ⟨"RulePayroll$Nodes", "make", "(IIII)I"⟩ : Cond) ∈ mm_GW := mm_in (List.mem_of_getElem? (i := 195) (by decide +kernel)) rfl
theorem k_38 : (.selects "RulePayroll$Nodes" ⟨"RulePayroll$Nodes", "make", "(IIII)I"⟩ ⟨"RulePayroll$Nodes", "make", "(IIII)I"⟩ : Cond) ∈ mm_GW := mm_in (List.mem_of_getElem? (i := 196) (by decide +kernel)) rfl
theorem k_39 : (.fieldLink "RulePayroll" 48 "RulePayroll$Nodes" "ranks" "[I" : Cond) ∈ mm_GW := mm_in (List.mem_of_getElem? (i := 72) (by decide +kernel)) rfl
theorem k_40 : (.fieldLink "RulePayroll" 52 "RulePayroll$Rules" "definitions" "[I" : Cond) ∈ mm_GW := mm_in (List.mem_of_getElem? (i := 121) (by decide +kernel)) rfl
theorem k_41 : (.methodLink "RulePayroll" 44 ⟨"RulePayroll$Nodes", "has", "(I)Z"⟩ : Cond) ∈ mm_GW := mm_in (List.mem_of_getElem? (i := 238) (by decide +kernel)) rfl
theorem k_42 : (.methodLink "RulePayroll" 40 ⟨"RulePayroll", "within", "(II)Z"⟩ : Cond) ∈ mm_GW := mm_in (List.mem_of_getElem? (i := 237) (by decide +kernel)) rfl
theorem k_43 : (.fieldLink "RulePayroll$Table" 18 "RulePayroll$Table" "steps" "I" : Cond) ∈ mm_GW := mm_in (List.mem_of_getElem? (i := 108) (by decide +kernel)) rfl
theorem k_44 : (.fieldLink "RulePayroll$Table" 9 "RulePayroll$Table" "limits" "[I" : Cond) ∈ mm_GW := mm_in (List.mem_of_getElem? (i := 106) (by decide +kernel)) rfl
theorem k_45 : (.fieldLink "RulePayroll$Table" 15 "RulePayroll$Table" "rates" "[I" : Cond) ∈ mm_GW := mm_in (List.mem_of_getElem? (i := 107) (by decide +kernel)) rfl
theorem k_46 : (.fieldLink "RulePayroll" 55 "RulePayroll$Rules" "tables" "[LRulePayroll$Table;" : Cond) ∈ mm_GW := mm_in (List.mem_of_getElem? (i := 123) (by decide +kernel)) rfl
theorem k_47 : (.methodLink "RulePayroll" 59 ⟨"RulePayroll$Table", "addStep", "(II)I"⟩ : Cond) ∈ mm_GW := mm_in (List.mem_of_getElem? (i := 247) (by decide +kernel)) rfl
theorem k_48 : (.instanceMethod ⟨"RulePayroll$Table", "addStep", "(II)I"⟩ : Cond) ∈ mm_GW := mm_in (List.mem_of_getElem? (i := 248) (by decide +kernel)) rfl
theorem k_49 : (.selects "RulePayroll$Table" ⟨"RulePayroll$Table", "addStep", "(II)I"⟩ ⟨"RulePayroll$Table", "addStep", "(II)I"⟩ : Cond) ∈ mm_GW := mm_in (List.mem_of_getElem? (i := 249) (by decide +kernel)) rfl
theorem k_50 : (.initialized "RulePayroll$Table" : Cond) ∈ mm_GW := mm_in (List.mem_of_getElem? (i := 36) (by decide +kernel)) rfl
theorem k_51 : (.methodLink "RulePayroll" 65 ⟨"RulePayroll$Table", "loseSteps", "()I"⟩ : Cond) ∈ mm_GW := mm_in (List.mem_of_getElem? (i := 255) (by decide +kernel)) rfl
theorem k_52 : (.instanceMethod ⟨"RulePayroll$Table", "loseSteps", "()I"⟩ : Cond) ∈ mm_GW := mm_in (List.mem_of_getElem? (i := 256) (by decide +kernel)) rfl
theorem k_53 : (.selects "RulePayroll$Table" ⟨"RulePayroll$Table", "loseSteps", "()I"⟩ ⟨"RulePayroll$Table", "loseSteps", "()I"⟩ : Cond) ∈ mm_GW := mm_in (List.mem_of_getElem? (i := 257) (by decide +kernel)) rfl
theorem k_54 : (.fieldLink "RulePayroll" 18 "RulePayroll" "persons" "[LRulePayroll$Person;" : Cond) ∈ mm_GW := mm_in (List.mem_of_getElem? (i := 181) (by decide +kernel)) rfl
theorem k_55 : (.fieldLink "RulePayroll" 69 "RulePayroll$Person" "inputs" "[I" : Cond) ∈ mm_GW := mm_in (List.mem_of_getElem? (i := 144) (by decide +kernel)) rfl
theorem k_56 : (.fieldLink "RulePayroll" 72 "RulePayroll$Person" "active" "Z" : Cond) ∈ mm_GW := mm_in (List.mem_of_getElem? (i := 147) (by decide +kernel)) rfl
theorem k_57 : (.constantLong "RulePayroll$Values" 11 (-2147483648) : Cond) ∈ mm_GW := mm_in (List.mem_of_getElem? (i := 278) (by decide +kernel)) rfl
theorem k_58 : (.constantLong "RulePayroll$Values" 13 2147483647 : Cond) ∈ mm_GW := mm_in (List.mem_of_getElem? (i := 279) (by decide +kernel)) rfl
theorem k_59 : (.fieldLink "RulePayroll$Person" 15 "RulePayroll$Person" "grossPaid" "J" : Cond) ∈ mm_GW := mm_in (List.mem_of_getElem? (i := 145) (by decide +kernel)) rfl
theorem k_60 : (.fieldLink "RulePayroll$Person" 19 "RulePayroll$Person" "taxPaid" "J" : Cond) ∈ mm_GW := mm_in (List.mem_of_getElem? (i := 146) (by decide +kernel)) rfl
theorem k_61 : (.methodLink "RulePayroll$Person" 22 ⟨"RulePayroll$Values", "isInt", "(J)Z"⟩ : Cond) ∈ mm_GW := mm_in (List.mem_of_getElem? (i := 275) (by decide +kernel)) rfl
theorem k_62 : (.static ⟨"RulePayroll$Values", "isInt", "(J)Z"⟩ : Cond) ∈ mm_GW := mm_in (List.mem_of_getElem? (i := 276) (by decide +kernel)) rfl
theorem k_63 : (.initialized "RulePayroll$Values" : Cond) ∈ mm_GW := mm_in (List.mem_of_getElem? (i := 41) (by decide +kernel)) rfl
theorem k_64 : (.fieldLink "RulePayroll$Rules" 28 "RulePayroll$Rules" "worked" "[J" : Cond) ∈ mm_GW := mm_in (List.mem_of_getElem? (i := 124) (by decide +kernel)) rfl
theorem k_65 : (.constantLong "RulePayroll$Rules" 54 1000000000001 : Cond) ∈ mm_GW := mm_in (List.mem_of_getElem? (i := 297) (by decide +kernel)) rfl
theorem k_66 : (.fieldLink "RulePayroll$Rules" 18 "RulePayroll$Rules" "definitions" "[I" : Cond) ∈ mm_GW := mm_in (List.mem_of_getElem? (i := 120) (by decide +kernel)) rfl
theorem k_67 : (.methodLink "RulePayroll$Rules" 50 ⟨"RulePayroll$Rules", "workedOrEmpty", "(I)J"⟩ : Cond) ∈ mm_GW := mm_in (List.mem_of_getElem? (i := 293) (by decide +kernel)) rfl
theorem k_68 : (.instanceMethod ⟨"RulePayroll$Rules", "workedOrEmpty", "(I)J"⟩ : Cond) ∈ mm_GW := mm_in (List.mem_of_getElem? (i := 295) (by decide +kernel)) rfl
theorem k_69 : (.selects "RulePayroll$Rules" ⟨"RulePayroll$Rules", "workedOrEmpty", "(I)J"⟩ ⟨"RulePayroll$Rules", "workedOrEmpty", "(I)J"⟩ : Cond) ∈ mm_GW := mm_in (List.mem_of_getElem? (i := 6) (by decide +kernel)) rfl
theorem k_70 : (.initialized "RulePayroll$Rules" : Cond) ∈ mm_GW := mm_in (List.mem_of_getElem? (i := 33) (by decide +kernel)) rfl
theorem k_71 : (.constantLong "RulePayroll$Values" 15 1000000000001 : Cond) ∈ mm_GW := mm_in (List.mem_of_getElem? (i := 309) (by decide +kernel)) rfl
theorem k_72 : (.constantLong "RulePayroll$Values" 17 1000000000102 : Cond) ∈ mm_GW := mm_in (List.mem_of_getElem? (i := 310) (by decide +kernel)) rfl
theorem k_73 : (.constantLong "RulePayroll$Values" 46 2 : Cond) ∈ mm_GW := mm_in (List.mem_of_getElem? (i := 315) (by decide +kernel)) rfl
theorem k_74 : (.constantLong "RulePayroll$Values" 38 1000000000104 : Cond) ∈ mm_GW := mm_in (List.mem_of_getElem? (i := 316) (by decide +kernel)) rfl
theorem k_75 : (.methodLink "RulePayroll$Values" 19 ⟨"RulePayroll$Values", "isInt", "(J)Z"⟩ : Cond) ∈ mm_GW := mm_in (List.mem_of_getElem? (i := 305) (by decide +kernel)) rfl
theorem k_76 : (.methodLink "RulePayroll$Values" 42 ⟨"RulePayroll$Values", "rounded", "(JJ)J"⟩ : Cond) ∈ mm_GW := mm_in (List.mem_of_getElem? (i := 312) (by decide +kernel)) rfl
theorem k_77 : (.static ⟨"RulePayroll$Values", "rounded", "(JJ)J"⟩ : Cond) ∈ mm_GW := mm_in (List.mem_of_getElem? (i := 313) (by decide +kernel)) rfl
theorem k_78 : (.constantLong "RulePayroll$Values" 40 1000000000103 : Cond) ∈ mm_GW := mm_in (List.mem_of_getElem? (i := 311) (by decide +kernel)) rfl
theorem k_79 : (.methodLink "RulePayroll$Values" 25 ⟨"RulePayroll$Values", "faultOf", "(J)J"⟩ : Cond) ∈ mm_GW := mm_in (List.mem_of_getElem? (i := 306) (by decide +kernel)) rfl
theorem k_80 : (.static ⟨"RulePayroll$Values", "faultOf", "(J)J"⟩ : Cond) ∈ mm_GW := mm_in (List.mem_of_getElem? (i := 307) (by decide +kernel)) rfl
theorem k_81 : (.methodLink "RulePayroll$Values" 29 ⟨"RulePayroll$Values", "truthOf", "(J)J"⟩ : Cond) ∈ mm_GW := mm_in (List.mem_of_getElem? (i := 323) (by decide +kernel)) rfl
theorem k_82 : (.static ⟨"RulePayroll$Values", "truthOf", "(J)J"⟩ : Cond) ∈ mm_GW := mm_in (List.mem_of_getElem? (i := 324) (by decide +kernel)) rfl
theorem k_83 : (.constantLong "RulePayroll$Values" 32 1000000000101 : Cond) ∈ mm_GW := mm_in (List.mem_of_getElem? (i := 338) (by decide +kernel)) rfl
theorem k_84 : (.methodLink "RulePayroll$Table" 28 ⟨"RulePayroll$Values", "faultOf", "(J)J"⟩ : Cond) ∈ mm_GW := mm_in (List.mem_of_getElem? (i := 344) (by decide +kernel)) rfl
theorem k_85 : (.methodLink "RulePayroll$Table" 22 ⟨"RulePayroll$Values", "isInt", "(J)Z"⟩ : Cond) ∈ mm_GW := mm_in (List.mem_of_getElem? (i := 343) (by decide +kernel)) rfl
theorem k_86 : (.constantLong "RulePayroll$Table" 32 1000 : Cond) ∈ mm_GW := mm_in (List.mem_of_getElem? (i := 345) (by decide +kernel)) rfl
theorem k_87 : (.methodLink "RulePayroll$Table" 34 ⟨"RulePayroll$Values", "rounded", "(JJ)J"⟩ : Cond) ∈ mm_GW := mm_in (List.mem_of_getElem? (i := 346) (by decide +kernel)) rfl
theorem k_88 : (.methodLink "RulePayroll$Values" 34 ⟨"RulePayroll$Values", "ofInts", "(IJJ)J"⟩ : Cond) ∈ mm_GW := mm_in (List.mem_of_getElem? (i := 350) (by decide +kernel)) rfl
theorem k_89 : (.static ⟨"RulePayroll$Values", "ofInts", "(IJJ)J"⟩ : Cond) ∈ mm_GW := mm_in (List.mem_of_getElem? (i := 351) (by decide +kernel)) rfl
theorem k_90 : (.fieldLink "RulePayroll$Rules" 12 "RulePayroll$Rules" "nodes" "LRulePayroll$Nodes;" : Cond) ∈ mm_GW := mm_in (List.mem_of_getElem? (i := 118) (by decide +kernel)) rfl
theorem k_91 : (.fieldLink "RulePayroll$Rules" 56 "RulePayroll$Nodes" "kinds" "[I" : Cond) ∈ mm_GW := mm_in (List.mem_of_getElem? (i := 63) (by decide +kernel)) rfl
theorem k_92 : (.fieldLink "RulePayroll$Rules" 59 "RulePayroll$Nodes" "as" "[I" : Cond) ∈ mm_GW := mm_in (List.mem_of_getElem? (i := 65) (by decide +kernel)) rfl
theorem k_93 : (.fieldLink "RulePayroll$Rules" 62 "RulePayroll$Nodes" "bs" "[I" : Cond) ∈ mm_GW := mm_in (List.mem_of_getElem? (i := 67) (by decide +kernel)) rfl
theorem k_94 : (.fieldLink "RulePayroll$Rules" 65 "RulePayroll$Nodes" "cs" "[I" : Cond) ∈ mm_GW := mm_in (List.mem_of_getElem? (i := 69) (by decide +kernel)) rfl
theorem k_95 : (.fieldLink "RulePayroll$Rules" 68 "RulePayroll$Person" "inputs" "[I" : Cond) ∈ mm_GW := mm_in (List.mem_of_getElem? (i := 143) (by decide +kernel)) rfl
theorem k_96 : (.methodLink "RulePayroll$Rules" 73 ⟨"RulePayroll$Rules", "workedDefinition", "(I)J"⟩ : Cond) ∈ mm_GW := mm_in (List.mem_of_getElem? (i := 289) (by decide +kernel)) rfl
theorem k_97 : (.instanceMethod ⟨"RulePayroll$Rules", "workedDefinition", "(I)J"⟩ : Cond) ∈ mm_GW := mm_in (List.mem_of_getElem? (i := 290) (by decide +kernel)) rfl
theorem k_98 : (.selects "RulePayroll$Rules" ⟨"RulePayroll$Rules", "workedDefinition", "(I)J"⟩ ⟨"RulePayroll$Rules", "workedDefinition", "(I)J"⟩ : Cond) ∈ mm_GW := mm_in (List.mem_of_getElem? (i := 291) (by decide +kernel)) rfl
theorem k_99 : (.methodLink "RulePayroll$Rules" 76 ⟨"RulePayroll$Person", "paidSoFar", "(I)J"⟩ : Cond) ∈ mm_GW := mm_in (List.mem_of_getElem? (i := 298) (by decide +kernel)) rfl
theorem k_100 : (.instanceMethod ⟨"RulePayroll$Person", "paidSoFar", "(I)J"⟩ : Cond) ∈ mm_GW := mm_in (List.mem_of_getElem? (i := 299) (by decide +kernel)) rfl
theorem k_101 : (.selects "RulePayroll$Person" ⟨"RulePayroll$Person", "paidSoFar", "(I)J"⟩ ⟨"RulePayroll$Person", "paidSoFar", "(I)J"⟩ : Cond) ∈ mm_GW := mm_in (List.mem_of_getElem? (i := 300) (by decide +kernel)) rfl
theorem k_102 : (.initialized "RulePayroll$Person" : Cond) ∈ mm_GW := mm_in (List.mem_of_getElem? (i := 37) (by decide +kernel)) rfl
theorem k_103 : (.methodLink "RulePayroll$Rules" 79 ⟨"RulePayroll$Values", "share", "(JJJ)J"⟩ : Cond) ∈ mm_GW := mm_in (List.mem_of_getElem? (i := 302) (by decide +kernel)) rfl
theorem k_104 : (.static ⟨"RulePayroll$Values", "share", "(JJJ)J"⟩ : Cond) ∈ mm_GW := mm_in (List.mem_of_getElem? (i := 303) (by decide +kernel)) rfl
theorem k_105 : (.methodLink "RulePayroll$Rules" 85 ⟨"RulePayroll$Values", "not", "(J)J"⟩ : Cond) ∈ mm_GW := mm_in (List.mem_of_getElem? (i := 317) (by decide +kernel)) rfl
theorem k_106 : (.static ⟨"RulePayroll$Values", "not", "(J)J"⟩ : Cond) ∈ mm_GW := mm_in (List.mem_of_getElem? (i := 318) (by decide +kernel)) rfl
theorem k_107 : (.methodLink "RulePayroll$Rules" 89 ⟨"RulePayroll$Values", "both", "(JJ)J"⟩ : Cond) ∈ mm_GW := mm_in (List.mem_of_getElem? (i := 320) (by decide +kernel)) rfl
theorem k_108 : (.static ⟨"RulePayroll$Values", "both", "(JJ)J"⟩ : Cond) ∈ mm_GW := mm_in (List.mem_of_getElem? (i := 321) (by decide +kernel)) rfl
theorem k_109 : (.methodLink "RulePayroll$Rules" 93 ⟨"RulePayroll$Values", "any", "(JJ)J"⟩ : Cond) ∈ mm_GW := mm_in (List.mem_of_getElem? (i := 326) (by decide +kernel)) rfl
theorem k_110 : (.static ⟨"RulePayroll$Values", "any", "(JJ)J"⟩ : Cond) ∈ mm_GW := mm_in (List.mem_of_getElem? (i := 327) (by decide +kernel)) rfl
theorem k_111 : (.methodLink "RulePayroll$Rules" 96 ⟨"RulePayroll$Values", "choice", "(JJJ)J"⟩ : Cond) ∈ mm_GW := mm_in (List.mem_of_getElem? (i := 329) (by decide +kernel)) rfl
theorem k_112 : (.static ⟨"RulePayroll$Values", "choice", "(JJJ)J"⟩ : Cond) ∈ mm_GW := mm_in (List.mem_of_getElem? (i := 330) (by decide +kernel)) rfl
theorem k_113 : (.methodLink "RulePayroll$Rules" 99 ⟨"RulePayroll$Values", "byDefault", "(JJJ)J"⟩ : Cond) ∈ mm_GW := mm_in (List.mem_of_getElem? (i := 332) (by decide +kernel)) rfl
theorem k_114 : (.static ⟨"RulePayroll$Values", "byDefault", "(JJJ)J"⟩ : Cond) ∈ mm_GW := mm_in (List.mem_of_getElem? (i := 333) (by decide +kernel)) rfl
theorem k_115 : (.methodLink "RulePayroll$Rules" 102 ⟨"RulePayroll$Values", "also", "(JJ)J"⟩ : Cond) ∈ mm_GW := mm_in (List.mem_of_getElem? (i := 335) (by decide +kernel)) rfl
theorem k_116 : (.static ⟨"RulePayroll$Values", "also", "(JJ)J"⟩ : Cond) ∈ mm_GW := mm_in (List.mem_of_getElem? (i := 336) (by decide +kernel)) rfl
theorem k_117 : (.fieldLink "RulePayroll$Rules" 24 "RulePayroll$Rules" "tables" "[LRulePayroll$Table;" : Cond) ∈ mm_GW := mm_in (List.mem_of_getElem? (i := 122) (by decide +kernel)) rfl
theorem k_118 : (.methodLink "RulePayroll$Rules" 105 ⟨"RulePayroll$Table", "scaled", "(J)J"⟩ : Cond) ∈ mm_GW := mm_in (List.mem_of_getElem? (i := 339) (by decide +kernel)) rfl
theorem k_119 : (.instanceMethod ⟨"RulePayroll$Table", "scaled", "(J)J"⟩ : Cond) ∈ mm_GW := mm_in (List.mem_of_getElem? (i := 340) (by decide +kernel)) rfl
theorem k_120 : (.selects "RulePayroll$Table" ⟨"RulePayroll$Table", "scaled", "(J)J"⟩ ⟨"RulePayroll$Table", "scaled", "(J)J"⟩ : Cond) ∈ mm_GW := mm_in (List.mem_of_getElem? (i := 341) (by decide +kernel)) rfl
theorem k_121 : (.methodLink "RulePayroll$Rules" 108 ⟨"RulePayroll$Values", "ofTwo", "(IJJ)J"⟩ : Cond) ∈ mm_GW := mm_in (List.mem_of_getElem? (i := 347) (by decide +kernel)) rfl
theorem k_122 : (.static ⟨"RulePayroll$Values", "ofTwo", "(IJJ)J"⟩ : Cond) ∈ mm_GW := mm_in (List.mem_of_getElem? (i := 348) (by decide +kernel)) rfl
theorem k_123 : (.fieldLink "RulePayroll$Rules" 39 "RulePayroll$Nodes" "made" "I" : Cond) ∈ mm_GW := mm_in (List.mem_of_getElem? (i := 76) (by decide +kernel)) rfl
theorem k_124 : (.fieldLink "RulePayroll$Rules" 43 "RulePayroll$Nodes" "order" "[I" : Cond) ∈ mm_GW := mm_in (List.mem_of_getElem? (i := 74) (by decide +kernel)) rfl
theorem k_125 : (.methodLink "RulePayroll$Rules" 46 ⟨"RulePayroll$Rules", "workedOut", "(ILRulePayroll$Person;)J"⟩ : Cond) ∈ mm_GW := mm_in (List.mem_of_getElem? (i := 285) (by decide +kernel)) rfl
theorem k_126 : (.instanceMethod ⟨"RulePayroll$Rules", "workedOut", "(ILRulePayroll$Person;)J"⟩ : Cond) ∈ mm_GW := mm_in (List.mem_of_getElem? (i := 287) (by decide +kernel)) rfl
theorem k_127 : (.selects "RulePayroll$Rules" ⟨"RulePayroll$Rules", "workedOut", "(ILRulePayroll$Person;)J"⟩ ⟨"RulePayroll$Rules", "workedOut", "(ILRulePayroll$Person;)J"⟩ : Cond) ∈ mm_GW := mm_in (List.mem_of_getElem? (i := 5) (by decide +kernel)) rfl
theorem k_128 : (.constantLong "RulePayroll" 80 1000000000000 : Cond) ∈ mm_GW := mm_in (List.mem_of_getElem? (i := 280) (by decide +kernel)) rfl
theorem k_129 : (.fieldLink "RulePayroll" 86 "RulePayroll$Rules" "worked" "[J" : Cond) ∈ mm_GW := mm_in (List.mem_of_getElem? (i := 125) (by decide +kernel)) rfl
theorem k_130 : (.methodLink "RulePayroll" 82 ⟨"RulePayroll$Rules", "workOutFor", "(LRulePayroll$Person;)V"⟩ : Cond) ∈ mm_GW := mm_in (List.mem_of_getElem? (i := 281) (by decide +kernel)) rfl
theorem k_131 : (.instanceMethod ⟨"RulePayroll$Rules", "workOutFor", "(LRulePayroll$Person;)V"⟩ : Cond) ∈ mm_GW := mm_in (List.mem_of_getElem? (i := 282) (by decide +kernel)) rfl
theorem k_132 : (.selects "RulePayroll$Rules" ⟨"RulePayroll$Rules", "workOutFor", "(LRulePayroll$Person;)V"⟩ ⟨"RulePayroll$Rules", "workOutFor", "(LRulePayroll$Person;)V"⟩ : Cond) ∈ mm_GW := mm_in (List.mem_of_getElem? (i := 283) (by decide +kernel)) rfl
theorem k_133 : (.methodLink "RulePayroll" 76 ⟨"RulePayroll$Person", "paidIsInt", "()Z"⟩ : Cond) ∈ mm_GW := mm_in (List.mem_of_getElem? (i := 271) (by decide +kernel)) rfl
theorem k_134 : (.instanceMethod ⟨"RulePayroll$Person", "paidIsInt", "()Z"⟩ : Cond) ∈ mm_GW := mm_in (List.mem_of_getElem? (i := 272) (by decide +kernel)) rfl
theorem k_135 : (.selects "RulePayroll$Person" ⟨"RulePayroll$Person", "paidIsInt", "()Z"⟩ ⟨"RulePayroll$Person", "paidIsInt", "()Z"⟩ : Cond) ∈ mm_GW := mm_in (List.mem_of_getElem? (i := 273) (by decide +kernel)) rfl
theorem k_136 : (.fieldLink "RulePayroll$Runs" 9 "RulePayroll$Runs" "amounts" "[J" : Cond) ∈ mm_GW := mm_in (List.mem_of_getElem? (i := 163) (by decide +kernel)) rfl
theorem k_137 : (.methodLink "RulePayroll$Runs" 35 ⟨"RulePayroll$Runs", "placeOf", "(II)I"⟩ : Cond) ∈ mm_GW := mm_in (List.mem_of_getElem? (i := 370) (by decide +kernel)) rfl
theorem k_138 : (.static ⟨"RulePayroll$Runs", "placeOf", "(II)I"⟩ : Cond) ∈ mm_GW := mm_in (List.mem_of_getElem? (i := 371) (by decide +kernel)) rfl
theorem k_139 : (.initialized "RulePayroll$Runs" : Cond) ∈ mm_GW := mm_in (List.mem_of_getElem? (i := 38) (by decide +kernel)) rfl
theorem k_140 : (.fieldLink "RulePayroll$Runs" 15 "RulePayroll$Runs" "reasons" "[I" : Cond) ∈ mm_GW := mm_in (List.mem_of_getElem? (i := 164) (by decide +kernel)) rfl
theorem k_141 : (.constantLong "RulePayroll$Runs" 39 1000000000000 : Cond) ∈ mm_GW := mm_in (List.mem_of_getElem? (i := 365) (by decide +kernel)) rfl
theorem k_142 : (.methodLink "RulePayroll$Runs" 45 ⟨"RulePayroll$Runs", "hold", "(III)V"⟩ : Cond) ∈ mm_GW := mm_in (List.mem_of_getElem? (i := 373) (by decide +kernel)) rfl
theorem k_143 : (.instanceMethod ⟨"RulePayroll$Runs", "hold", "(III)V"⟩ : Cond) ∈ mm_GW := mm_in (List.mem_of_getElem? (i := 374) (by decide +kernel)) rfl
theorem k_144 : (.selects "RulePayroll$Runs" ⟨"RulePayroll$Runs", "hold", "(III)V"⟩ ⟨"RulePayroll$Runs", "hold", "(III)V"⟩ : Cond) ∈ mm_GW := mm_in (List.mem_of_getElem? (i := 375) (by decide +kernel)) rfl
theorem k_145 : (.methodLink "RulePayroll$Runs" 41 ⟨"RulePayroll$Runs", "writeSlip", "(IIJJJ)V"⟩ : Cond) ∈ mm_GW := mm_in (List.mem_of_getElem? (i := 366) (by decide +kernel)) rfl
theorem k_146 : (.instanceMethod ⟨"RulePayroll$Runs", "writeSlip", "(IIJJJ)V"⟩ : Cond) ∈ mm_GW := mm_in (List.mem_of_getElem? (i := 367) (by decide +kernel)) rfl
theorem k_147 : (.selects "RulePayroll$Runs" ⟨"RulePayroll$Runs", "writeSlip", "(IIJJJ)V"⟩ ⟨"RulePayroll$Runs", "writeSlip", "(IIJJJ)V"⟩ : Cond) ∈ mm_GW := mm_in (List.mem_of_getElem? (i := 368) (by decide +kernel)) rfl
theorem k_148 : (.constantLong "RulePayroll$Person" 36 1000000000100 : Cond) ∈ mm_GW := mm_in (List.mem_of_getElem? (i := 391) (by decide +kernel)) rfl
theorem k_149 : (.methodLink "RulePayroll$Person" 32 ⟨"RulePayroll$Values", "faultOf", "(J)J"⟩ : Cond) ∈ mm_GW := mm_in (List.mem_of_getElem? (i := 390) (by decide +kernel)) rfl
theorem k_150 : (.methodLink "RulePayroll$Person" 28 ⟨"RulePayroll$Person", "reasonOf", "(J)I"⟩ : Cond) ∈ mm_GW := mm_in (List.mem_of_getElem? (i := 387) (by decide +kernel)) rfl
theorem k_151 : (.static ⟨"RulePayroll$Person", "reasonOf", "(J)I"⟩ : Cond) ∈ mm_GW := mm_in (List.mem_of_getElem? (i := 388) (by decide +kernel)) rfl
theorem k_152 : (.fieldLink "RulePayroll" 26 "RulePayroll" "runs" "LRulePayroll$Runs;" : Cond) ∈ mm_GW := mm_in (List.mem_of_getElem? (i := 182) (by decide +kernel)) rfl
theorem k_153 : (.methodLink "RulePayroll" 165 ⟨"RulePayroll$Person", "grow", "(JJ)V"⟩ : Cond) ∈ mm_GW := mm_in (List.mem_of_getElem? (i := 393) (by decide +kernel)) rfl
theorem k_154 : (.instanceMethod ⟨"RulePayroll$Person", "grow", "(JJ)V"⟩ : Cond) ∈ mm_GW := mm_in (List.mem_of_getElem? (i := 394) (by decide +kernel)) rfl
theorem k_155 : (.selects "RulePayroll$Person" ⟨"RulePayroll$Person", "grow", "(JJ)V"⟩ ⟨"RulePayroll$Person", "grow", "(JJ)V"⟩ : Cond) ∈ mm_GW := mm_in (List.mem_of_getElem? (i := 395) (by decide +kernel)) rfl
theorem k_156 : (.methodLink "RulePayroll" 161 ⟨"RulePayroll$Runs", "writeSlip", "(IIJJJ)V"⟩ : Cond) ∈ mm_GW := mm_in (List.mem_of_getElem? (i := 392) (by decide +kernel)) rfl
theorem k_157 : (.methodLink "RulePayroll" 150 ⟨"RulePayroll$Runs", "hold", "(III)V"⟩ : Cond) ∈ mm_GW := mm_in (List.mem_of_getElem? (i := 381) (by decide +kernel)) rfl
theorem k_158 : (.methodLink "RulePayroll" 157 ⟨"RulePayroll$Person", "reasonToHold", "(JJJ)I"⟩ : Cond) ∈ mm_GW := mm_in (List.mem_of_getElem? (i := 383) (by decide +kernel)) rfl
theorem k_159 : (.instanceMethod ⟨"RulePayroll$Person", "reasonToHold", "(JJJ)I"⟩ : Cond) ∈ mm_GW := mm_in (List.mem_of_getElem? (i := 384) (by decide +kernel)) rfl
theorem k_160 : (.selects "RulePayroll$Person" ⟨"RulePayroll$Person", "reasonToHold", "(JJJ)I"⟩ ⟨"RulePayroll$Person", "reasonToHold", "(JJJ)I"⟩ : Cond) ∈ mm_GW := mm_in (List.mem_of_getElem? (i := 385) (by decide +kernel)) rfl
theorem k_161 : (.methodLink "RulePayroll" 154 ⟨"RulePayroll$Rules", "workedDefinition", "(I)J"⟩ : Cond) ∈ mm_GW := mm_in (List.mem_of_getElem? (i := 382) (by decide +kernel)) rfl
theorem k_162 : (.methodLink "RulePayroll" 147 ⟨"RulePayroll", "payOne", "(II)V"⟩ : Cond) ∈ mm_GW := mm_in (List.mem_of_getElem? (i := 377) (by decide +kernel)) rfl
theorem k_163 : (.instanceMethod ⟨"RulePayroll", "payOne", "(II)V"⟩ : Cond) ∈ mm_GW := mm_in (List.mem_of_getElem? (i := 379) (by decide +kernel)) rfl
theorem k_164 : (.selects "RulePayroll" ⟨"RulePayroll", "payOne", "(II)V"⟩ ⟨"RulePayroll", "payOne", "(II)V"⟩ : Cond) ∈ mm_GW := mm_in (List.mem_of_getElem? (i := 8) (by decide +kernel)) rfl
theorem k_165 : (.methodLink "RulePayroll" 143 ⟨"RulePayroll$Runs", "wipe", "(II)V"⟩ : Cond) ∈ mm_GW := mm_in (List.mem_of_getElem? (i := 361) (by decide +kernel)) rfl
theorem k_166 : (.instanceMethod ⟨"RulePayroll$Runs", "wipe", "(II)V"⟩ : Cond) ∈ mm_GW := mm_in (List.mem_of_getElem? (i := 362) (by decide +kernel)) rfl
theorem k_167 : (.selects "RulePayroll$Runs" ⟨"RulePayroll$Runs", "wipe", "(II)V"⟩ ⟨"RulePayroll$Runs", "wipe", "(II)V"⟩ : Cond) ∈ mm_GW := mm_in (List.mem_of_getElem? (i := 363) (by decide +kernel)) rfl
theorem k_168 : (.fieldLink "RulePayroll" 90 "RulePayroll$Runs" "made" "I" : Cond) ∈ mm_GW := mm_in (List.mem_of_getElem? (i := 169) (by decide +kernel)) rfl
theorem k_169 : (.methodLink "RulePayroll" 94 ⟨"RulePayroll", "payAll", "(I)V"⟩ : Cond) ∈ mm_GW := mm_in (List.mem_of_getElem? (i := 357) (by decide +kernel)) rfl
theorem k_170 : (.instanceMethod ⟨"RulePayroll", "payAll", "(I)V"⟩ : Cond) ∈ mm_GW := mm_in (List.mem_of_getElem? (i := 359) (by decide +kernel)) rfl
theorem k_171 : (.selects "RulePayroll" ⟨"RulePayroll", "payAll", "(I)V"⟩ ⟨"RulePayroll", "payAll", "(I)V"⟩ : Cond) ∈ mm_GW := mm_in (List.mem_of_getElem? (i := 7) (by decide +kernel)) rfl
theorem k_172 : (.fieldLink "RulePayroll$Runs" 23 "RulePayroll$Runs" "made" "I" : Cond) ∈ mm_GW := mm_in (List.mem_of_getElem? (i := 168) (by decide +kernel)) rfl
theorem k_173 : (.fieldLink "RulePayroll$Runs" 19 "RulePayroll$Runs" "takenBack" "[Z" : Cond) ∈ mm_GW := mm_in (List.mem_of_getElem? (i := 166) (by decide +kernel)) rfl
theorem k_174 : (.methodLink "RulePayroll$Runs" 31 ⟨"RulePayroll$Runs", "has", "(I)Z"⟩ : Cond) ∈ mm_GW := mm_in (List.mem_of_getElem? (i := 405) (by decide +kernel)) rfl
theorem k_175 : (.instanceMethod ⟨"RulePayroll$Runs", "has", "(I)Z"⟩ : Cond) ∈ mm_GW := mm_in (List.mem_of_getElem? (i := 406) (by decide +kernel)) rfl
theorem k_176 : (.selects "RulePayroll$Runs" ⟨"RulePayroll$Runs", "has", "(I)Z"⟩ ⟨"RulePayroll$Runs", "has", "(I)Z"⟩ : Cond) ∈ mm_GW := mm_in (List.mem_of_getElem? (i := 407) (by decide +kernel)) rfl
theorem k_177 : (.methodLink "RulePayroll" 113 ⟨"RulePayroll$Runs", "amountOf", "(III)J"⟩ : Cond) ∈ mm_GW := mm_in (List.mem_of_getElem? (i := 418) (by decide +kernel)) rfl
theorem k_178 : (.instanceMethod ⟨"RulePayroll$Runs", "amountOf", "(III)J"⟩ : Cond) ∈ mm_GW := mm_in (List.mem_of_getElem? (i := 419) (by decide +kernel)) rfl
theorem k_179 : (.selects "RulePayroll$Runs" ⟨"RulePayroll$Runs", "amountOf", "(III)J"⟩ ⟨"RulePayroll$Runs", "amountOf", "(III)J"⟩ : Cond) ∈ mm_GW := mm_in (List.mem_of_getElem? (i := 420) (by decide +kernel)) rfl
theorem k_180 : (.methodLink "RulePayroll" 169 ⟨"RulePayroll$Runs", "hasSlip", "(II)Z"⟩ : Cond) ∈ mm_GW := mm_in (List.mem_of_getElem? (i := 414) (by decide +kernel)) rfl
theorem k_181 : (.instanceMethod ⟨"RulePayroll$Runs", "hasSlip", "(II)Z"⟩ : Cond) ∈ mm_GW := mm_in (List.mem_of_getElem? (i := 415) (by decide +kernel)) rfl
theorem k_182 : (.selects "RulePayroll$Runs" ⟨"RulePayroll$Runs", "hasSlip", "(II)Z"⟩ ⟨"RulePayroll$Runs", "hasSlip", "(II)Z"⟩ : Cond) ∈ mm_GW := mm_in (List.mem_of_getElem? (i := 416) (by decide +kernel)) rfl
theorem k_183 : (.fieldLink "RulePayroll" 104 "RulePayroll$Runs" "takenBack" "[Z" : Cond) ∈ mm_GW := mm_in (List.mem_of_getElem? (i := 167) (by decide +kernel)) rfl
theorem k_184 : (.methodLink "RulePayroll" 101 ⟨"RulePayroll", "unpayAll", "(I)V"⟩ : Cond) ∈ mm_GW := mm_in (List.mem_of_getElem? (i := 410) (by decide +kernel)) rfl
theorem k_185 : (.instanceMethod ⟨"RulePayroll", "unpayAll", "(I)V"⟩ : Cond) ∈ mm_GW := mm_in (List.mem_of_getElem? (i := 412) (by decide +kernel)) rfl
theorem k_186 : (.selects "RulePayroll" ⟨"RulePayroll", "unpayAll", "(I)V"⟩ ⟨"RulePayroll", "unpayAll", "(I)V"⟩ : Cond) ∈ mm_GW := mm_in (List.mem_of_getElem? (i := 9) (by decide +kernel)) rfl
theorem k_187 : (.methodLink "RulePayroll" 98 ⟨"RulePayroll$Runs", "stands", "(I)Z"⟩ : Cond) ∈ mm_GW := mm_in (List.mem_of_getElem? (i := 401) (by decide +kernel)) rfl
theorem k_188 : (.instanceMethod ⟨"RulePayroll$Runs", "stands", "(I)Z"⟩ : Cond) ∈ mm_GW := mm_in (List.mem_of_getElem? (i := 402) (by decide +kernel)) rfl
theorem k_189 : (.selects "RulePayroll$Runs" ⟨"RulePayroll$Runs", "stands", "(I)Z"⟩ ⟨"RulePayroll$Runs", "stands", "(I)Z"⟩ : Cond) ∈ mm_GW := mm_in (List.mem_of_getElem? (i := 403) (by decide +kernel)) rfl
theorem k_190 : (.methodLink "RulePayroll$Runs" 49 ⟨"RulePayroll$Runs", "hasSlip", "(II)Z"⟩ : Cond) ∈ mm_GW := mm_in (List.mem_of_getElem? (i := 430) (by decide +kernel)) rfl
theorem k_191 : (.methodLink "RulePayroll" 108 ⟨"RulePayroll$Runs", "slipsOf", "(I)I"⟩ : Cond) ∈ mm_GW := mm_in (List.mem_of_getElem? (i := 426) (by decide +kernel)) rfl
theorem k_192 : (.instanceMethod ⟨"RulePayroll$Runs", "slipsOf", "(I)I"⟩ : Cond) ∈ mm_GW := mm_in (List.mem_of_getElem? (i := 427) (by decide +kernel)) rfl
theorem k_193 : (.selects "RulePayroll$Runs" ⟨"RulePayroll$Runs", "slipsOf", "(I)I"⟩ ⟨"RulePayroll$Runs", "slipsOf", "(I)I"⟩ : Cond) ∈ mm_GW := mm_in (List.mem_of_getElem? (i := 428) (by decide +kernel)) rfl
theorem k_194 : (.methodLink "RulePayroll" 112 ⟨"RulePayroll$Runs", "has", "(I)Z"⟩ : Cond) ∈ mm_GW := mm_in (List.mem_of_getElem? (i := 435) (by decide +kernel)) rfl
theorem k_195 : (.fieldLink "RulePayroll" 117 "RulePayroll$Runs" "reasons" "[I" : Cond) ∈ mm_GW := mm_in (List.mem_of_getElem? (i := 165) (by decide +kernel)) rfl
theorem k_196 : (.methodLink "RulePayroll$Runs" 60 ⟨"RulePayroll$Runs", "amountOf", "(III)J"⟩ : Cond) ∈ mm_GW := mm_in (List.mem_of_getElem? (i := 452) (by decide +kernel)) rfl
theorem k_197 : (.methodLink "RulePayroll$Runs" 56 ⟨"RulePayroll$Runs", "totalOfRun", "(II)J"⟩ : Cond) ∈ mm_GW := mm_in (List.mem_of_getElem? (i := 448) (by decide +kernel)) rfl
theorem k_198 : (.instanceMethod ⟨"RulePayroll$Runs", "totalOfRun", "(II)J"⟩ : Cond) ∈ mm_GW := mm_in (List.mem_of_getElem? (i := 450) (by decide +kernel)) rfl
theorem k_199 : (.selects "RulePayroll$Runs" ⟨"RulePayroll$Runs", "totalOfRun", "(II)J"⟩ ⟨"RulePayroll$Runs", "totalOfRun", "(II)J"⟩ : Cond) ∈ mm_GW := mm_in (List.mem_of_getElem? (i := 10) (by decide +kernel)) rfl
theorem k_200 : (.methodLink "RulePayroll" 120 ⟨"RulePayroll$Runs", "totalOf", "(I)J"⟩ : Cond) ∈ mm_GW := mm_in (List.mem_of_getElem? (i := 444) (by decide +kernel)) rfl
theorem k_201 : (.instanceMethod ⟨"RulePayroll$Runs", "totalOf", "(I)J"⟩ : Cond) ∈ mm_GW := mm_in (List.mem_of_getElem? (i := 445) (by decide +kernel)) rfl
theorem k_202 : (.selects "RulePayroll$Runs" ⟨"RulePayroll$Runs", "totalOf", "(I)J"⟩ ⟨"RulePayroll$Runs", "totalOf", "(I)J"⟩ : Cond) ∈ mm_GW := mm_in (List.mem_of_getElem? (i := 446) (by decide +kernel)) rfl
theorem k_203 : (.methodLink "RulePayroll" 124 ⟨"RulePayroll$Person", "paidSoFar", "(I)J"⟩ : Cond) ∈ mm_GW := mm_in (List.mem_of_getElem? (i := 457) (by decide +kernel)) rfl
theorem k_204 : (.methodLink "RulePayroll$Runs" 52 ⟨"RulePayroll$Runs", "slipsOf", "(I)I"⟩ : Cond) ∈ mm_GW := mm_in (List.mem_of_getElem? (i := 470) (by decide +kernel)) rfl
theorem k_205 : (.fieldLink "RulePayroll" 127 "RulePayroll$Nodes" "made" "I" : Cond) ∈ mm_GW := mm_in (List.mem_of_getElem? (i := 77) (by decide +kernel)) rfl
theorem k_206 : (.methodLink "RulePayroll" 128 ⟨"RulePayroll$Runs", "howManyTakenBack", "()I"⟩ : Cond) ∈ mm_GW := mm_in (List.mem_of_getElem? (i := 462) (by decide +kernel)) rfl
theorem k_207 : (.instanceMethod ⟨"RulePayroll$Runs", "howManyTakenBack", "()I"⟩ : Cond) ∈ mm_GW := mm_in (List.mem_of_getElem? (i := 463) (by decide +kernel)) rfl
theorem k_208 : (.selects "RulePayroll$Runs" ⟨"RulePayroll$Runs", "howManyTakenBack", "()I"⟩ ⟨"RulePayroll$Runs", "howManyTakenBack", "()I"⟩ : Cond) ∈ mm_GW := mm_in (List.mem_of_getElem? (i := 464) (by decide +kernel)) rfl
theorem k_209 : (.methodLink "RulePayroll" 131 ⟨"RulePayroll$Runs", "slipsStanding", "()I"⟩ : Cond) ∈ mm_GW := mm_in (List.mem_of_getElem? (i := 466) (by decide +kernel)) rfl
theorem k_210 : (.instanceMethod ⟨"RulePayroll$Runs", "slipsStanding", "()I"⟩ : Cond) ∈ mm_GW := mm_in (List.mem_of_getElem? (i := 467) (by decide +kernel)) rfl
theorem k_211 : (.selects "RulePayroll$Runs" ⟨"RulePayroll$Runs", "slipsStanding", "()I"⟩ ⟨"RulePayroll$Runs", "slipsStanding", "()I"⟩ : Cond) ∈ mm_GW := mm_in (List.mem_of_getElem? (i := 468) (by decide +kernel)) rfl
theorem k_212 : (.methodLink "RulePayroll" 134 ⟨"RulePayroll", "howManyActive", "()I"⟩ : Cond) ∈ mm_GW := mm_in (List.mem_of_getElem? (i := 471) (by decide +kernel)) rfl
theorem k_213 : (.instanceMethod ⟨"RulePayroll", "howManyActive", "()I"⟩ : Cond) ∈ mm_GW := mm_in (List.mem_of_getElem? (i := 473) (by decide +kernel)) rfl
theorem k_214 : (.selects "RulePayroll" ⟨"RulePayroll", "howManyActive", "()I"⟩ ⟨"RulePayroll", "howManyActive", "()I"⟩ : Cond) ∈ mm_GW := mm_in (List.mem_of_getElem? (i := 11) (by decide +kernel)) rfl
theorem k_215 : (.fieldLink "RulePayroll" 137 "RulePayroll$Table" "steps" "I" : Cond) ∈ mm_GW := mm_in (List.mem_of_getElem? (i := 109) (by decide +kernel)) rfl
theorem k_216 : (.methodLink "RulePayroll" 140 ⟨"RulePayroll$Rules", "definitionBits", "()I"⟩ : Cond) ∈ mm_GW := mm_in (List.mem_of_getElem? (i := 475) (by decide +kernel)) rfl
theorem k_217 : (.instanceMethod ⟨"RulePayroll$Rules", "definitionBits", "()I"⟩ : Cond) ∈ mm_GW := mm_in (List.mem_of_getElem? (i := 476) (by decide +kernel)) rfl
theorem k_218 : (.selects "RulePayroll$Rules" ⟨"RulePayroll$Rules", "definitionBits", "()I"⟩ ⟨"RulePayroll$Rules", "definitionBits", "()I"⟩ : Cond) ∈ mm_GW := mm_in (List.mem_of_getElem? (i := 477) (by decide +kernel)) rfl
theorem k_219 : (.fieldLink "RulePayrollModel" 7 "RulePayrollModel" "nodes" "I" : Cond) ∈ mm_GW := mm_in (List.mem_of_getElem? (i := 485) (by decide +kernel)) rfl
theorem k_220 : (.methodLink "RulePayrollModel" 76 ⟨"RulePayrollModel", "out", "(III)Z"⟩ : Cond) ∈ mm_GW := mm_in (List.mem_of_getElem? (i := 557) (by decide +kernel)) rfl
theorem k_221 : (.instanceMethod ⟨"RulePayrollModel", "out", "(III)Z"⟩ : Cond) ∈ mm_GW := mm_in (List.mem_of_getElem? (i := 559) (by decide +kernel)) rfl
theorem k_222 : (.selects "RulePayrollModel" ⟨"RulePayrollModel", "out", "(III)Z"⟩ ⟨"RulePayrollModel", "out", "(III)Z"⟩ : Cond) ∈ mm_GW := mm_in (List.mem_of_getElem? (i := 13) (by decide +kernel)) rfl
theorem k_223 : (.initialized "RulePayrollModel" : Cond) ∈ mm_GW := mm_in (List.mem_of_getElem? (i := 39) (by decide +kernel)) rfl
theorem k_224 : (.methodLink "RulePayrollModel" 84 ⟨"RulePayrollModel", "isNode", "(I)Z"⟩ : Cond) ∈ mm_GW := mm_in (List.mem_of_getElem? (i := 565) (by decide +kernel)) rfl
theorem k_225 : (.instanceMethod ⟨"RulePayrollModel", "isNode", "(I)Z"⟩ : Cond) ∈ mm_GW := mm_in (List.mem_of_getElem? (i := 567) (by decide +kernel)) rfl
theorem k_226 : (.selects "RulePayrollModel" ⟨"RulePayrollModel", "isNode", "(I)Z"⟩ ⟨"RulePayrollModel", "isNode", "(I)Z"⟩ : Cond) ∈ mm_GW := mm_in (List.mem_of_getElem? (i := 15) (by decide +kernel)) rfl
theorem k_227 : (.methodLink "RulePayrollModel" 80 ⟨"RulePayrollModel", "named", "(I)I"⟩ : Cond) ∈ mm_GW := mm_in (List.mem_of_getElem? (i := 561) (by decide +kernel)) rfl
theorem k_228 : (.instanceMethod ⟨"RulePayrollModel", "named", "(I)I"⟩ : Cond) ∈ mm_GW := mm_in (List.mem_of_getElem? (i := 563) (by decide +kernel)) rfl
theorem k_229 : (.selects "RulePayrollModel" ⟨"RulePayrollModel", "named", "(I)I"⟩ ⟨"RulePayrollModel", "named", "(I)I"⟩ : Cond) ∈ mm_GW := mm_in (List.mem_of_getElem? (i := 14) (by decide +kernel)) rfl
theorem k_230 : (.methodLink "RulePayrollModel" 88 ⟨"RulePayrollModel", "fits", "(IIII)Z"⟩ : Cond) ∈ mm_GW := mm_in (List.mem_of_getElem? (i := 553) (by decide +kernel)) rfl
theorem k_231 : (.instanceMethod ⟨"RulePayrollModel", "fits", "(IIII)Z"⟩ : Cond) ∈ mm_GW := mm_in (List.mem_of_getElem? (i := 555) (by decide +kernel)) rfl
theorem k_232 : (.selects "RulePayrollModel" ⟨"RulePayrollModel", "fits", "(IIII)Z"⟩ ⟨"RulePayrollModel", "fits", "(IIII)Z"⟩ : Cond) ∈ mm_GW := mm_in (List.mem_of_getElem? (i := 12) (by decide +kernel)) rfl
theorem k_233 : (.fieldLink "RulePayrollModel" 29 "RulePayrollModel" "level" "[I" : Cond) ∈ mm_GW := mm_in (List.mem_of_getElem? (i := 491) (by decide +kernel)) rfl
theorem k_234 : (.methodLink "RulePayrollModel" 92 ⟨"RulePayrollModel", "high", "(IZI)I"⟩ : Cond) ∈ mm_GW := mm_in (List.mem_of_getElem? (i := 569) (by decide +kernel)) rfl
theorem k_235 : (.instanceMethod ⟨"RulePayrollModel", "high", "(IZI)I"⟩ : Cond) ∈ mm_GW := mm_in (List.mem_of_getElem? (i := 571) (by decide +kernel)) rfl
theorem k_236 : (.selects "RulePayrollModel" ⟨"RulePayrollModel", "high", "(IZI)I"⟩ ⟨"RulePayrollModel", "high", "(IZI)I"⟩ : Cond) ∈ mm_GW := mm_in (List.mem_of_getElem? (i := 16) (by decide +kernel)) rfl
theorem k_237 : (.fieldLink "RulePayrollModel" 32 "RulePayrollModel" "rank" "[I" : Cond) ∈ mm_GW := mm_in (List.mem_of_getElem? (i := 492) (by decide +kernel)) rfl
theorem k_238 : (.fieldLink "RulePayrollModel" 16 "RulePayrollModel" "kind" "[I" : Cond) ∈ mm_GW := mm_in (List.mem_of_getElem? (i := 487) (by decide +kernel)) rfl
theorem k_239 : (.fieldLink "RulePayrollModel" 20 "RulePayrollModel" "opA" "[I" : Cond) ∈ mm_GW := mm_in (List.mem_of_getElem? (i := 488) (by decide +kernel)) rfl
theorem k_240 : (.fieldLink "RulePayrollModel" 23 "RulePayrollModel" "opB" "[I" : Cond) ∈ mm_GW := mm_in (List.mem_of_getElem? (i := 489) (by decide +kernel)) rfl
theorem k_241 : (.fieldLink "RulePayrollModel" 26 "RulePayrollModel" "opC" "[I" : Cond) ∈ mm_GW := mm_in (List.mem_of_getElem? (i := 490) (by decide +kernel)) rfl
theorem k_242 : (.fieldLink "RulePayrollModel" 35 "RulePayrollModel" "definition" "[I" : Cond) ∈ mm_GW := mm_in (List.mem_of_getElem? (i := 493) (by decide +kernel)) rfl
theorem k_243 : (.fieldLink "RulePayrollModel" 38 "RulePayrollModel" "steps" "[I" : Cond) ∈ mm_GW := mm_in (List.mem_of_getElem? (i := 494) (by decide +kernel)) rfl
theorem k_244 : (.fieldLink "RulePayrollModel" 41 "RulePayrollModel" "limit" "[I" : Cond) ∈ mm_GW := mm_in (List.mem_of_getElem? (i := 495) (by decide +kernel)) rfl
theorem k_245 : (.fieldLink "RulePayrollModel" 44 "RulePayrollModel" "rate" "[I" : Cond) ∈ mm_GW := mm_in (List.mem_of_getElem? (i := 496) (by decide +kernel)) rfl
theorem k_246 : (.fieldLink "RulePayrollModel" 47 "RulePayrollModel" "inputs" "[I" : Cond) ∈ mm_GW := mm_in (List.mem_of_getElem? (i := 497) (by decide +kernel)) rfl
theorem k_247 : (.fieldLink "RulePayrollModel" 50 "RulePayrollModel" "active" "[Z" : Cond) ∈ mm_GW := mm_in (List.mem_of_getElem? (i := 498) (by decide +kernel)) rfl
theorem k_248 : (.constantLong "RulePayrollModel" 96 (-2147483648) : Cond) ∈ mm_GW := mm_in (List.mem_of_getElem? (i := 609) (by decide +kernel)) rfl
theorem k_249 : (.constantLong "RulePayrollModel" 98 2147483647 : Cond) ∈ mm_GW := mm_in (List.mem_of_getElem? (i := 610) (by decide +kernel)) rfl
theorem k_250 : (.constantLong "RulePayrollModel" 104 1000000000104 : Cond) ∈ mm_GW := mm_in (List.mem_of_getElem? (i := 646) (by decide +kernel)) rfl
theorem k_251 : (.methodLink "RulePayrollModel" 100 ⟨"RulePayrollModel", "whole", "(J)Z"⟩ : Cond) ∈ mm_GW := mm_in (List.mem_of_getElem? (i := 605) (by decide +kernel)) rfl
theorem k_252 : (.instanceMethod ⟨"RulePayrollModel", "whole", "(J)Z"⟩ : Cond) ∈ mm_GW := mm_in (List.mem_of_getElem? (i := 607) (by decide +kernel)) rfl
theorem k_253 : (.selects "RulePayrollModel" ⟨"RulePayrollModel", "whole", "(J)Z"⟩ ⟨"RulePayrollModel", "whole", "(J)Z"⟩ : Cond) ∈ mm_GW := mm_in (List.mem_of_getElem? (i := 18) (by decide +kernel)) rfl
theorem k_254 : (.constantLong "RulePayrollModel" 106 1000000000001 : Cond) ∈ mm_GW := mm_in (List.mem_of_getElem? (i := 616) (by decide +kernel)) rfl
theorem k_255 : (.constantLong "RulePayrollModel" 110 1000000000100 : Cond) ∈ mm_GW := mm_in (List.mem_of_getElem? (i := 625) (by decide +kernel)) rfl
theorem k_256 : (.constantLong "RulePayrollModel" 108 1000000000102 : Cond) ∈ mm_GW := mm_in (List.mem_of_getElem? (i := 626) (by decide +kernel)) rfl
theorem k_257 : (.constantLong "RulePayrollModel" 112 1000 : Cond) ∈ mm_GW := mm_in (List.mem_of_getElem? (i := 636) (by decide +kernel)) rfl
theorem k_258 : (.methodLink "RulePayrollModel" 114 ⟨"RulePayrollModel", "rounded", "(JJ)J"⟩ : Cond) ∈ mm_GW := mm_in (List.mem_of_getElem? (i := 637) (by decide +kernel)) rfl
theorem k_259 : (.instanceMethod ⟨"RulePayrollModel", "rounded", "(JJ)J"⟩ : Cond) ∈ mm_GW := mm_in (List.mem_of_getElem? (i := 639) (by decide +kernel)) rfl
theorem k_260 : (.selects "RulePayrollModel" ⟨"RulePayrollModel", "rounded", "(JJ)J"⟩ ⟨"RulePayrollModel", "rounded", "(JJ)J"⟩ : Cond) ∈ mm_GW := mm_in (List.mem_of_getElem? (i := 24) (by decide +kernel)) rfl
theorem k_261 : (.methodLink "RulePayrollModel" 118 ⟨"RulePayrollModel", "ranged", "(J)J"⟩ : Cond) ∈ mm_GW := mm_in (List.mem_of_getElem? (i := 642) (by decide +kernel)) rfl
theorem k_262 : (.instanceMethod ⟨"RulePayrollModel", "ranged", "(J)J"⟩ : Cond) ∈ mm_GW := mm_in (List.mem_of_getElem? (i := 644) (by decide +kernel)) rfl
theorem k_263 : (.selects "RulePayrollModel" ⟨"RulePayrollModel", "ranged", "(J)J"⟩ ⟨"RulePayrollModel", "ranged", "(J)J"⟩ : Cond) ∈ mm_GW := mm_in (List.mem_of_getElem? (i := 25) (by decide +kernel)) rfl
theorem k_264 : (.fieldLink "RulePayrollModel" 70 "RulePayrollModel" "is" "[J" : Cond) ∈ mm_GW := mm_in (List.mem_of_getElem? (i := 504) (by decide +kernel)) rfl
theorem k_265 : (.methodLink "RulePayrollModel" 124 ⟨"RulePayrollModel", "stops", "(J)J"⟩ : Cond) ∈ mm_GW := mm_in (List.mem_of_getElem? (i := 628) (by decide +kernel)) rfl
theorem k_266 : (.instanceMethod ⟨"RulePayrollModel", "stops", "(J)J"⟩ : Cond) ∈ mm_GW := mm_in (List.mem_of_getElem? (i := 630) (by decide +kernel)) rfl
theorem k_267 : (.selects "RulePayrollModel" ⟨"RulePayrollModel", "stops", "(J)J"⟩ ⟨"RulePayrollModel", "stops", "(J)J"⟩ : Cond) ∈ mm_GW := mm_in (List.mem_of_getElem? (i := 22) (by decide +kernel)) rfl
theorem k_268 : (.constantLong "RulePayrollModel" 122 1000000000101 : Cond) ∈ mm_GW := mm_in (List.mem_of_getElem? (i := 627) (by decide +kernel)) rfl
theorem k_269 : (.methodLink "RulePayrollModel" 131 ⟨"RulePayrollModel", "scale", "(IJ)J"⟩ : Cond) ∈ mm_GW := mm_in (List.mem_of_getElem? (i := 632) (by decide +kernel)) rfl
theorem k_270 : (.instanceMethod ⟨"RulePayrollModel", "scale", "(IJ)J"⟩ : Cond) ∈ mm_GW := mm_in (List.mem_of_getElem? (i := 634) (by decide +kernel)) rfl
theorem k_271 : (.selects "RulePayrollModel" ⟨"RulePayrollModel", "scale", "(IJ)J"⟩ ⟨"RulePayrollModel", "scale", "(IJ)J"⟩ : Cond) ∈ mm_GW := mm_in (List.mem_of_getElem? (i := 23) (by decide +kernel)) rfl
theorem k_272 : (.fieldLink "RulePayrollModel" 67 "RulePayrollModel" "paid" "[J" : Cond) ∈ mm_GW := mm_in (List.mem_of_getElem? (i := 503) (by decide +kernel)) rfl
theorem k_273 : (.fieldLink "RulePayrollModel" 73 "RulePayrollModel" "defined" "[J" : Cond) ∈ mm_GW := mm_in (List.mem_of_getElem? (i := 505) (by decide +kernel)) rfl
theorem k_274 : (.methodLink "RulePayrollModel" 127 ⟨"RulePayrollModel", "choose", "(II)J"⟩ : Cond) ∈ mm_GW := mm_in (List.mem_of_getElem? (i := 621) (by decide +kernel)) rfl
theorem k_275 : (.instanceMethod ⟨"RulePayrollModel", "choose", "(II)J"⟩ : Cond) ∈ mm_GW := mm_in (List.mem_of_getElem? (i := 623) (by decide +kernel)) rfl
theorem k_276 : (.selects "RulePayrollModel" ⟨"RulePayrollModel", "choose", "(II)J"⟩ ⟨"RulePayrollModel", "choose", "(II)J"⟩ : Cond) ∈ mm_GW := mm_in (List.mem_of_getElem? (i := 21) (by decide +kernel)) rfl
theorem k_277 : (.methodLink "RulePayrollModel" 137 ⟨"RulePayrollModel", "plain", "(IJJ)J"⟩ : Cond) ∈ mm_GW := mm_in (List.mem_of_getElem? (i := 647) (by decide +kernel)) rfl
theorem k_278 : (.instanceMethod ⟨"RulePayrollModel", "plain", "(IJJ)J"⟩ : Cond) ∈ mm_GW := mm_in (List.mem_of_getElem? (i := 649) (by decide +kernel)) rfl
theorem k_279 : (.selects "RulePayrollModel" ⟨"RulePayrollModel", "plain", "(IJJ)J"⟩ ⟨"RulePayrollModel", "plain", "(IJJ)J"⟩ : Cond) ∈ mm_GW := mm_in (List.mem_of_getElem? (i := 26) (by decide +kernel)) rfl
theorem k_280 : (.constantLong "RulePayrollModel" 135 1000000000103 : Cond) ∈ mm_GW := mm_in (List.mem_of_getElem? (i := 641) (by decide +kernel)) rfl
theorem k_281 : (.methodLink "RulePayrollModel" 141 ⟨"RulePayrollModel", "workOut", "(II)J"⟩ : Cond) ∈ mm_GW := mm_in (List.mem_of_getElem? (i := 617) (by decide +kernel)) rfl
theorem k_282 : (.instanceMethod ⟨"RulePayrollModel", "workOut", "(II)J"⟩ : Cond) ∈ mm_GW := mm_in (List.mem_of_getElem? (i := 619) (by decide +kernel)) rfl
theorem k_283 : (.selects "RulePayrollModel" ⟨"RulePayrollModel", "workOut", "(II)J"⟩ ⟨"RulePayrollModel", "workOut", "(II)J"⟩ : Cond) ∈ mm_GW := mm_in (List.mem_of_getElem? (i := 20) (by decide +kernel)) rfl
theorem k_284 : (.constantLong "RulePayrollModel" 147 1000000000000 : Cond) ∈ mm_GW := mm_in (List.mem_of_getElem? (i := 611) (by decide +kernel)) rfl
theorem k_285 : (.methodLink "RulePayrollModel" 149 ⟨"RulePayrollModel", "person", "(I)V"⟩ : Cond) ∈ mm_GW := mm_in (List.mem_of_getElem? (i := 612) (by decide +kernel)) rfl
theorem k_286 : (.instanceMethod ⟨"RulePayrollModel", "person", "(I)V"⟩ : Cond) ∈ mm_GW := mm_in (List.mem_of_getElem? (i := 614) (by decide +kernel)) rfl
theorem k_287 : (.selects "RulePayrollModel" ⟨"RulePayrollModel", "person", "(I)V"⟩ ⟨"RulePayrollModel", "person", "(I)V"⟩ : Cond) ∈ mm_GW := mm_in (List.mem_of_getElem? (i := 19) (by decide +kernel)) rfl
theorem k_288 : (.methodLink "RulePayrollModel" 144 ⟨"RulePayrollModel", "paidWhole", "(I)Z"⟩ : Cond) ∈ mm_GW := mm_in (List.mem_of_getElem? (i := 601) (by decide +kernel)) rfl
theorem k_289 : (.instanceMethod ⟨"RulePayrollModel", "paidWhole", "(I)Z"⟩ : Cond) ∈ mm_GW := mm_in (List.mem_of_getElem? (i := 603) (by decide +kernel)) rfl
theorem k_290 : (.selects "RulePayrollModel" ⟨"RulePayrollModel", "paidWhole", "(I)Z"⟩ ⟨"RulePayrollModel", "paidWhole", "(I)Z"⟩ : Cond) ∈ mm_GW := mm_in (List.mem_of_getElem? (i := 17) (by decide +kernel)) rfl
theorem k_291 : (.fieldLink "RulePayrollModel" 57 "RulePayrollModel" "has" "[Z" : Cond) ∈ mm_GW := mm_in (List.mem_of_getElem? (i := 500) (by decide +kernel)) rfl
theorem k_292 : (.fieldLink "RulePayrollModel" 63 "RulePayrollModel" "slip" "[J" : Cond) ∈ mm_GW := mm_in (List.mem_of_getElem? (i := 502) (by decide +kernel)) rfl
theorem k_293 : (.fieldLink "RulePayrollModel" 54 "RulePayrollModel" "taken" "[Z" : Cond) ∈ mm_GW := mm_in (List.mem_of_getElem? (i := 499) (by decide +kernel)) rfl
theorem k_294 : (.fieldLink "RulePayrollModel" 60 "RulePayrollModel" "reason" "[I" : Cond) ∈ mm_GW := mm_in (List.mem_of_getElem? (i := 501) (by decide +kernel)) rfl
theorem k_295 : (.methodLink "RulePayrollModel" 153 ⟨"RulePayrollModel", "payOne", "(II)I"⟩ : Cond) ∈ mm_GW := mm_in (List.mem_of_getElem? (i := 659) (by decide +kernel)) rfl
theorem k_296 : (.instanceMethod ⟨"RulePayrollModel", "payOne", "(II)I"⟩ : Cond) ∈ mm_GW := mm_in (List.mem_of_getElem? (i := 661) (by decide +kernel)) rfl
theorem k_297 : (.selects "RulePayrollModel" ⟨"RulePayrollModel", "payOne", "(II)I"⟩ ⟨"RulePayrollModel", "payOne", "(II)I"⟩ : Cond) ∈ mm_GW := mm_in (List.mem_of_getElem? (i := 28) (by decide +kernel)) rfl
theorem k_298 : (.fieldLink "RulePayrollModel" 13 "RulePayrollModel" "runs" "I" : Cond) ∈ mm_GW := mm_in (List.mem_of_getElem? (i := 486) (by decide +kernel)) rfl
theorem k_299 : (.methodLink "RulePayrollModel" 157 ⟨"RulePayrollModel", "payAll", "(I)V"⟩ : Cond) ∈ mm_GW := mm_in (List.mem_of_getElem? (i := 655) (by decide +kernel)) rfl
theorem k_300 : (.instanceMethod ⟨"RulePayrollModel", "payAll", "(I)V"⟩ : Cond) ∈ mm_GW := mm_in (List.mem_of_getElem? (i := 657) (by decide +kernel)) rfl
theorem k_301 : (.selects "RulePayrollModel" ⟨"RulePayrollModel", "payAll", "(I)V"⟩ ⟨"RulePayrollModel", "payAll", "(I)V"⟩ : Cond) ∈ mm_GW := mm_in (List.mem_of_getElem? (i := 27) (by decide +kernel)) rfl
theorem k_302 : (.methodLink "RulePayrollModel" 160 ⟨"RulePayrollModel", "takeBack", "(I)V"⟩ : Cond) ∈ mm_GW := mm_in (List.mem_of_getElem? (i := 667) (by decide +kernel)) rfl
theorem k_303 : (.instanceMethod ⟨"RulePayrollModel", "takeBack", "(I)V"⟩ : Cond) ∈ mm_GW := mm_in (List.mem_of_getElem? (i := 669) (by decide +kernel)) rfl
theorem k_304 : (.selects "RulePayrollModel" ⟨"RulePayrollModel", "takeBack", "(I)V"⟩ ⟨"RulePayrollModel", "takeBack", "(I)V"⟩ : Cond) ∈ mm_GW := mm_in (List.mem_of_getElem? (i := 29) (by decide +kernel)) rfl
theorem k_305 : (.methodLink "RulePayrollModel" 163 ⟨"RulePayrollModel", "slips", "(I)I"⟩ : Cond) ∈ mm_GW := mm_in (List.mem_of_getElem? (i := 675) (by decide +kernel)) rfl
theorem k_306 : (.instanceMethod ⟨"RulePayrollModel", "slips", "(I)I"⟩ : Cond) ∈ mm_GW := mm_in (List.mem_of_getElem? (i := 677) (by decide +kernel)) rfl
theorem k_307 : (.selects "RulePayrollModel" ⟨"RulePayrollModel", "slips", "(I)I"⟩ ⟨"RulePayrollModel", "slips", "(I)I"⟩ : Cond) ∈ mm_GW := mm_in (List.mem_of_getElem? (i := 30) (by decide +kernel)) rfl
