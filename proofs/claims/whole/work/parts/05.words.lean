theorem k_1_56 : Cond.fieldLink "SchemaJudge$Text" 43 "SchemaJudge$Text" "total" "I" ∈ o_WS := List.mem_filter.mpr ⟨o_tb1 _ (List.mem_of_getElem? (i := 56) rfl), rfl⟩
theorem k_1_57 : Cond.fieldLink "SchemaJudge$Text" 47 "SchemaJudge$Text" "used" "I" ∈ o_WS := List.mem_filter.mpr ⟨o_tb1 _ (List.mem_of_getElem? (i := 57) rfl), rfl⟩
theorem k_1_58 : Cond.fieldLink "SchemaJudge$Text" 50 "SchemaJudge$Text" "characters" "I" ∈ o_WS := List.mem_filter.mpr ⟨o_tb1 _ (List.mem_of_getElem? (i := 58) rfl), rfl⟩
theorem k_1_46 : Cond.fieldLink "SchemaJudge$Text" 9 "SchemaJudge$Text" "kinds" "[I" ∈ o_WS := List.mem_filter.mpr ⟨o_tb1 _ (List.mem_of_getElem? (i := 46) rfl), rfl⟩
theorem k_1_47 : Cond.fieldLink "SchemaJudge$Text" 15 "SchemaJudge$Text" "places" "[I" ∈ o_WS := List.mem_filter.mpr ⟨o_tb1 _ (List.mem_of_getElem? (i := 47) rfl), rfl⟩
theorem k_1_48 : Cond.fieldLink "SchemaJudge$Text" 18 "SchemaJudge$Text" "sizes" "[I" ∈ o_WS := List.mem_filter.mpr ⟨o_tb1 _ (List.mem_of_getElem? (i := 48) rfl), rfl⟩
theorem k_1_49 : Cond.fieldLink "SchemaJudge$Text" 21 "SchemaJudge$Text" "parents" "[I" ∈ o_WS := List.mem_filter.mpr ⟨o_tb1 _ (List.mem_of_getElem? (i := 49) rfl), rfl⟩
theorem k_1_50 : Cond.fieldLink "SchemaJudge$Text" 24 "SchemaJudge$Text" "exponents" "[I" ∈ o_WS := List.mem_filter.mpr ⟨o_tb1 _ (List.mem_of_getElem? (i := 50) rfl), rfl⟩
theorem k_1_51 : Cond.fieldLink "SchemaJudge$Text" 27 "SchemaJudge$Text" "starts" "[I" ∈ o_WS := List.mem_filter.mpr ⟨o_tb1 _ (List.mem_of_getElem? (i := 51) rfl), rfl⟩
theorem k_1_52 : Cond.fieldLink "SchemaJudge$Text" 30 "SchemaJudge$Text" "afters" "[I" ∈ o_WS := List.mem_filter.mpr ⟨o_tb1 _ (List.mem_of_getElem? (i := 52) rfl), rfl⟩
theorem k_1_53 : Cond.fieldLink "SchemaJudge$Text" 33 "SchemaJudge$Text" "slots" "[I" ∈ o_WS := List.mem_filter.mpr ⟨o_tb1 _ (List.mem_of_getElem? (i := 53) rfl), rfl⟩
theorem k_1_54 : Cond.fieldLink "SchemaJudge$Text" 36 "SchemaJudge$Text" "negatives" "[Z" ∈ o_WS := List.mem_filter.mpr ⟨o_tb1 _ (List.mem_of_getElem? (i := 54) rfl), rfl⟩
theorem k_1_55 : Cond.fieldLink "SchemaJudge$Text" 40 "SchemaJudge$Text" "cells" "[I" ∈ o_WS := List.mem_filter.mpr ⟨o_tb1 _ (List.mem_of_getElem? (i := 55) rfl), rfl⟩
theorem k_5_64 : Cond.methodLink "SchemaJudge$Text" 77 y_Tx_kind ∈ o_WS := List.mem_filter.mpr ⟨o_tb5 _ (List.mem_of_getElem? (i := 64) rfl), rfl⟩
theorem k_4_50 : Cond.instanceMethod y_Tx_kind ∈ o_WS := List.mem_filter.mpr ⟨o_tb4 _ (List.mem_of_getElem? (i := 50) rfl), rfl⟩
theorem k_4_51 : Cond.selects "SchemaJudge$Text" y_Tx_kind y_Tx_kind ∈ o_WS := List.mem_filter.mpr ⟨o_tb4 _ (List.mem_of_getElem? (i := 51) rfl), rfl⟩
theorem k_1_2 : Cond.initialized "SchemaJudge$Text" ∈ o_WS := List.mem_filter.mpr ⟨o_tb1 _ (List.mem_of_getElem? (i := 2) rfl), rfl⟩
theorem k_4_52 : cc_Tx_kind ∈ o_WS := List.mem_filter.mpr ⟨o_tb4 _ (List.mem_of_getElem? (i := 52) rfl), rfl⟩
theorem k_5_65 : Cond.methodLink "SchemaJudge$Text" 80 y_Tx_sign ∈ o_WS := List.mem_filter.mpr ⟨o_tb5 _ (List.mem_of_getElem? (i := 65) rfl), rfl⟩
theorem k_5_57 : Cond.instanceMethod y_Tx_sign ∈ o_WS := List.mem_filter.mpr ⟨o_tb5 _ (List.mem_of_getElem? (i := 57) rfl), rfl⟩
theorem k_5_58 : Cond.selects "SchemaJudge$Text" y_Tx_sign y_Tx_sign ∈ o_WS := List.mem_filter.mpr ⟨o_tb5 _ (List.mem_of_getElem? (i := 58) rfl), rfl⟩
theorem k_5_59 : cc_Tx_sign ∈ o_WS := List.mem_filter.mpr ⟨o_tb5 _ (List.mem_of_getElem? (i := 59) rfl), rfl⟩
theorem k_5_66 : Cond.methodLink "SchemaJudge$Text" 83 y_Tx_exponent ∈ o_WS := List.mem_filter.mpr ⟨o_tb5 _ (List.mem_of_getElem? (i := 66) rfl), rfl⟩
theorem k_5_67 : Cond.instanceMethod y_Tx_exponent ∈ o_WS := List.mem_filter.mpr ⟨o_tb5 _ (List.mem_of_getElem? (i := 67) rfl), rfl⟩
theorem k_5_68 : Cond.selects "SchemaJudge$Text" y_Tx_exponent y_Tx_exponent ∈ o_WS := List.mem_filter.mpr ⟨o_tb5 _ (List.mem_of_getElem? (i := 68) rfl), rfl⟩
theorem k_5_69 : cc_Tx_exponent ∈ o_WS := List.mem_filter.mpr ⟨o_tb5 _ (List.mem_of_getElem? (i := 69) rfl), rfl⟩
theorem k_3_214 : Cond.methodLink "SchemaJudge$Text" 60 y_Tx_size ∈ o_WS := List.mem_filter.mpr ⟨o_tb3 _ (List.mem_of_getElem? (i := 214) rfl), rfl⟩
theorem k_3_215 : Cond.instanceMethod y_Tx_size ∈ o_WS := List.mem_filter.mpr ⟨o_tb3 _ (List.mem_of_getElem? (i := 215) rfl), rfl⟩
theorem k_3_216 : Cond.selects "SchemaJudge$Text" y_Tx_size y_Tx_size ∈ o_WS := List.mem_filter.mpr ⟨o_tb3 _ (List.mem_of_getElem? (i := 216) rfl), rfl⟩
theorem k_3_217 : cc_Tx_size ∈ o_WS := List.mem_filter.mpr ⟨o_tb3 _ (List.mem_of_getElem? (i := 217) rfl), rfl⟩
theorem k_5_70 : Cond.methodLink "SchemaJudge$Text" 86 y_Tx_cell ∈ o_WS := List.mem_filter.mpr ⟨o_tb5 _ (List.mem_of_getElem? (i := 70) rfl), rfl⟩
theorem k_4_117 : Cond.instanceMethod y_Tx_cell ∈ o_WS := List.mem_filter.mpr ⟨o_tb4 _ (List.mem_of_getElem? (i := 117) rfl), rfl⟩
theorem k_4_118 : Cond.selects "SchemaJudge$Text" y_Tx_cell y_Tx_cell ∈ o_WS := List.mem_filter.mpr ⟨o_tb4 _ (List.mem_of_getElem? (i := 118) rfl), rfl⟩
theorem k_4_119 : cc_Tx_cell ∈ o_WS := List.mem_filter.mpr ⟨o_tb4 _ (List.mem_of_getElem? (i := 119) rfl), rfl⟩
theorem k_5_71 : Cond.constant "SchemaJudge$Text" 90 (1000000 : Int32) ∈ o_WS := List.mem_filter.mpr ⟨o_tb5 _ (List.mem_of_getElem? (i := 71) rfl), rfl⟩
theorem k_3_210 : Cond.methodLink "SchemaJudge$Text" 53 y_Tx_firstChild ∈ o_WS := List.mem_filter.mpr ⟨o_tb3 _ (List.mem_of_getElem? (i := 210) rfl), rfl⟩
theorem k_3_211 : Cond.instanceMethod y_Tx_firstChild ∈ o_WS := List.mem_filter.mpr ⟨o_tb3 _ (List.mem_of_getElem? (i := 211) rfl), rfl⟩
theorem k_3_212 : Cond.selects "SchemaJudge$Text" y_Tx_firstChild y_Tx_firstChild ∈ o_WS := List.mem_filter.mpr ⟨o_tb3 _ (List.mem_of_getElem? (i := 212) rfl), rfl⟩
theorem k_3_213 : cc_Tx_firstChild ∈ o_WS := List.mem_filter.mpr ⟨o_tb3 _ (List.mem_of_getElem? (i := 213) rfl), rfl⟩
theorem k_3_221 : Cond.methodLink "SchemaJudge$Text" 57 y_Tx_nextChild ∈ o_WS := List.mem_filter.mpr ⟨o_tb3 _ (List.mem_of_getElem? (i := 221) rfl), rfl⟩
theorem k_3_222 : Cond.instanceMethod y_Tx_nextChild ∈ o_WS := List.mem_filter.mpr ⟨o_tb3 _ (List.mem_of_getElem? (i := 222) rfl), rfl⟩
theorem k_3_223 : Cond.selects "SchemaJudge$Text" y_Tx_nextChild y_Tx_nextChild ∈ o_WS := List.mem_filter.mpr ⟨o_tb3 _ (List.mem_of_getElem? (i := 223) rfl), rfl⟩
theorem k_3_224 : cc_Tx_nextChild ∈ o_WS := List.mem_filter.mpr ⟨o_tb3 _ (List.mem_of_getElem? (i := 224) rfl), rfl⟩
theorem k_2_133 : Cond.lays "SchemaJudge" "SchemaJudge" "wrongAt" "I" ∈ o_WS := List.mem_filter.mpr ⟨o_tb2 _ (List.mem_of_getElem? (i := 133) rfl), rfl⟩
theorem k_2_131 : Cond.laysFinal "SchemaJudge" "SchemaJudge" "judge" "LSchemaJudge$Judge;" ∈ o_WS := List.mem_filter.mpr ⟨o_tb2 _ (List.mem_of_getElem? (i := 131) rfl), rfl⟩
theorem k_2_129 : Cond.laysFinal "SchemaJudge" "SchemaJudge" "checker" "LSchemaJudge$Checker;" ∈ o_WS := List.mem_filter.mpr ⟨o_tb2 _ (List.mem_of_getElem? (i := 129) rfl), rfl⟩
theorem k_2_127 : Cond.laysFinal "SchemaJudge" "SchemaJudge" "pattern" "LSchemaJudge$Pattern;" ∈ o_WS := List.mem_filter.mpr ⟨o_tb2 _ (List.mem_of_getElem? (i := 127) rfl), rfl⟩
theorem k_2_125 : Cond.laysFinal "SchemaJudge" "SchemaJudge" "program" "LSchemaJudge$Program;" ∈ o_WS := List.mem_filter.mpr ⟨o_tb2 _ (List.mem_of_getElem? (i := 125) rfl), rfl⟩
theorem k_2_123 : Cond.laysFinal "SchemaJudge" "SchemaJudge" "reader" "LSchemaJudge$Reader;" ∈ o_WS := List.mem_filter.mpr ⟨o_tb2 _ (List.mem_of_getElem? (i := 123) rfl), rfl⟩
theorem k_2_121 : Cond.laysFinal "SchemaJudge" "SchemaJudge" "instanceText" "LSchemaJudge$Text;" ∈ o_WS := List.mem_filter.mpr ⟨o_tb2 _ (List.mem_of_getElem? (i := 121) rfl), rfl⟩
theorem k_2_119 : Cond.laysFinal "SchemaJudge" "SchemaJudge" "schemaText" "LSchemaJudge$Text;" ∈ o_WS := List.mem_filter.mpr ⟨o_tb2 _ (List.mem_of_getElem? (i := 119) rfl), rfl⟩
theorem k_1_83 : Cond.lays "SchemaJudge$Text" "SchemaJudge$Text" "characters" "I" ∈ o_WS := List.mem_filter.mpr ⟨o_tb1 _ (List.mem_of_getElem? (i := 83) rfl), rfl⟩
theorem k_1_81 : Cond.lays "SchemaJudge$Text" "SchemaJudge$Text" "used" "I" ∈ o_WS := List.mem_filter.mpr ⟨o_tb1 _ (List.mem_of_getElem? (i := 81) rfl), rfl⟩
theorem k_1_79 : Cond.lays "SchemaJudge$Text" "SchemaJudge$Text" "total" "I" ∈ o_WS := List.mem_filter.mpr ⟨o_tb1 _ (List.mem_of_getElem? (i := 79) rfl), rfl⟩
theorem k_1_77 : Cond.laysFinal "SchemaJudge$Text" "SchemaJudge$Text" "cells" "[I" ∈ o_WS := List.mem_filter.mpr ⟨o_tb1 _ (List.mem_of_getElem? (i := 77) rfl), rfl⟩
theorem k_1_75 : Cond.laysFinal "SchemaJudge$Text" "SchemaJudge$Text" "negatives" "[Z" ∈ o_WS := List.mem_filter.mpr ⟨o_tb1 _ (List.mem_of_getElem? (i := 75) rfl), rfl⟩
theorem k_1_73 : Cond.laysFinal "SchemaJudge$Text" "SchemaJudge$Text" "slots" "[I" ∈ o_WS := List.mem_filter.mpr ⟨o_tb1 _ (List.mem_of_getElem? (i := 73) rfl), rfl⟩
theorem k_1_71 : Cond.laysFinal "SchemaJudge$Text" "SchemaJudge$Text" "afters" "[I" ∈ o_WS := List.mem_filter.mpr ⟨o_tb1 _ (List.mem_of_getElem? (i := 71) rfl), rfl⟩
theorem k_1_69 : Cond.laysFinal "SchemaJudge$Text" "SchemaJudge$Text" "starts" "[I" ∈ o_WS := List.mem_filter.mpr ⟨o_tb1 _ (List.mem_of_getElem? (i := 69) rfl), rfl⟩
theorem k_1_67 : Cond.laysFinal "SchemaJudge$Text" "SchemaJudge$Text" "exponents" "[I" ∈ o_WS := List.mem_filter.mpr ⟨o_tb1 _ (List.mem_of_getElem? (i := 67) rfl), rfl⟩
theorem k_1_65 : Cond.laysFinal "SchemaJudge$Text" "SchemaJudge$Text" "parents" "[I" ∈ o_WS := List.mem_filter.mpr ⟨o_tb1 _ (List.mem_of_getElem? (i := 65) rfl), rfl⟩
theorem k_1_63 : Cond.laysFinal "SchemaJudge$Text" "SchemaJudge$Text" "sizes" "[I" ∈ o_WS := List.mem_filter.mpr ⟨o_tb1 _ (List.mem_of_getElem? (i := 63) rfl), rfl⟩
theorem k_1_61 : Cond.laysFinal "SchemaJudge$Text" "SchemaJudge$Text" "places" "[I" ∈ o_WS := List.mem_filter.mpr ⟨o_tb1 _ (List.mem_of_getElem? (i := 61) rfl), rfl⟩
theorem k_1_59 : Cond.laysFinal "SchemaJudge$Text" "SchemaJudge$Text" "kinds" "[I" ∈ o_WS := List.mem_filter.mpr ⟨o_tb1 _ (List.mem_of_getElem? (i := 59) rfl), rfl⟩
theorem k_1_110 : Cond.lays "SchemaJudge$Reader" "SchemaJudge$Reader" "wrongPlace" "I" ∈ o_WS := List.mem_filter.mpr ⟨o_tb1 _ (List.mem_of_getElem? (i := 110) rfl), rfl⟩
theorem k_1_108 : Cond.lays "SchemaJudge$Reader" "SchemaJudge$Reader" "limit" "I" ∈ o_WS := List.mem_filter.mpr ⟨o_tb1 _ (List.mem_of_getElem? (i := 108) rfl), rfl⟩
theorem k_1_106 : Cond.lays "SchemaJudge$Reader" "SchemaJudge$Reader" "position" "I" ∈ o_WS := List.mem_filter.mpr ⟨o_tb1 _ (List.mem_of_getElem? (i := 106) rfl), rfl⟩
theorem k_1_104 : Cond.lays "SchemaJudge$Reader" "SchemaJudge$Reader" "text" "LSchemaJudge$Text;" ∈ o_WS := List.mem_filter.mpr ⟨o_tb1 _ (List.mem_of_getElem? (i := 104) rfl), rfl⟩
theorem k_1_102 : Cond.lays "SchemaJudge$Reader" "SchemaJudge$Reader" "wordCount" "I" ∈ o_WS := List.mem_filter.mpr ⟨o_tb1 _ (List.mem_of_getElem? (i := 102) rfl), rfl⟩
theorem k_1_100 : Cond.laysFinal "SchemaJudge$Reader" "SchemaJudge$Reader" "words" "[I" ∈ o_WS := List.mem_filter.mpr ⟨o_tb1 _ (List.mem_of_getElem? (i := 100) rfl), rfl⟩
theorem k_1_151 : Cond.laysFinal "SchemaJudge$Program" "SchemaJudge$Program" "moved" "[I" ∈ o_WS := List.mem_filter.mpr ⟨o_tb1 _ (List.mem_of_getElem? (i := 151) rfl), rfl⟩
theorem k_1_149 : Cond.lays "SchemaJudge$Program" "SchemaJudge$Program" "waitingCount" "I" ∈ o_WS := List.mem_filter.mpr ⟨o_tb1 _ (List.mem_of_getElem? (i := 149) rfl), rfl⟩
theorem k_1_147 : Cond.laysFinal "SchemaJudge$Program" "SchemaJudge$Program" "waiting" "[I" ∈ o_WS := List.mem_filter.mpr ⟨o_tb1 _ (List.mem_of_getElem? (i := 147) rfl), rfl⟩
theorem k_1_145 : Cond.lays "SchemaJudge$Program" "SchemaJudge$Program" "top" "I" ∈ o_WS := List.mem_filter.mpr ⟨o_tb1 _ (List.mem_of_getElem? (i := 145) rfl), rfl⟩
theorem k_1_143 : Cond.laysFinal "SchemaJudge$Program" "SchemaJudge$Program" "stack" "[I" ∈ o_WS := List.mem_filter.mpr ⟨o_tb1 _ (List.mem_of_getElem? (i := 143) rfl), rfl⟩
theorem k_1_141 : Cond.laysFinal "SchemaJudge$Program" "SchemaJudge$Program" "rounds" "[I" ∈ o_WS := List.mem_filter.mpr ⟨o_tb1 _ (List.mem_of_getElem? (i := 141) rfl), rfl⟩
theorem k_1_139 : Cond.lays "SchemaJudge$Program" "SchemaJudge$Program" "setsUsed" "I" ∈ o_WS := List.mem_filter.mpr ⟨o_tb1 _ (List.mem_of_getElem? (i := 139) rfl), rfl⟩
theorem k_1_137 : Cond.laysFinal "SchemaJudge$Program" "SchemaJudge$Program" "sets" "[I" ∈ o_WS := List.mem_filter.mpr ⟨o_tb1 _ (List.mem_of_getElem? (i := 137) rfl), rfl⟩
theorem k_1_135 : Cond.lays "SchemaJudge$Program" "SchemaJudge$Program" "length" "I" ∈ o_WS := List.mem_filter.mpr ⟨o_tb1 _ (List.mem_of_getElem? (i := 135) rfl), rfl⟩
theorem k_1_133 : Cond.laysFinal "SchemaJudge$Program" "SchemaJudge$Program" "arguments" "[I" ∈ o_WS := List.mem_filter.mpr ⟨o_tb1 _ (List.mem_of_getElem? (i := 133) rfl), rfl⟩
theorem k_1_131 : Cond.laysFinal "SchemaJudge$Program" "SchemaJudge$Program" "operations" "[I" ∈ o_WS := List.mem_filter.mpr ⟨o_tb1 _ (List.mem_of_getElem? (i := 131) rfl), rfl⟩
theorem k_1_197 : Cond.laysFinal "SchemaJudge$Pattern" "SchemaJudge$Pattern" "sizesBefore" "[I" ∈ o_WS := List.mem_filter.mpr ⟨o_tb1 _ (List.mem_of_getElem? (i := 197) rfl), rfl⟩
theorem k_1_195 : Cond.laysFinal "SchemaJudge$Pattern" "SchemaJudge$Pattern" "jumps" "[I" ∈ o_WS := List.mem_filter.mpr ⟨o_tb1 _ (List.mem_of_getElem? (i := 195) rfl), rfl⟩
theorem k_1_193 : Cond.laysFinal "SchemaJudge$Pattern" "SchemaJudge$Pattern" "branchStarts" "[I" ∈ o_WS := List.mem_filter.mpr ⟨o_tb1 _ (List.mem_of_getElem? (i := 193) rfl), rfl⟩
theorem k_1_191 : Cond.laysFinal "SchemaJudge$Pattern" "SchemaJudge$Pattern" "blockStarts" "[I" ∈ o_WS := List.mem_filter.mpr ⟨o_tb1 _ (List.mem_of_getElem? (i := 191) rfl), rfl⟩
theorem k_1_189 : Cond.lays "SchemaJudge$Pattern" "SchemaJudge$Pattern" "depth" "I" ∈ o_WS := List.mem_filter.mpr ⟨o_tb1 _ (List.mem_of_getElem? (i := 189) rfl), rfl⟩
theorem k_1_187 : Cond.lays "SchemaJudge$Pattern" "SchemaJudge$Pattern" "most" "I" ∈ o_WS := List.mem_filter.mpr ⟨o_tb1 _ (List.mem_of_getElem? (i := 187) rfl), rfl⟩
theorem k_1_185 : Cond.lays "SchemaJudge$Pattern" "SchemaJudge$Pattern" "least" "I" ∈ o_WS := List.mem_filter.mpr ⟨o_tb1 _ (List.mem_of_getElem? (i := 185) rfl), rfl⟩
theorem k_1_183 : Cond.lays "SchemaJudge$Pattern" "SchemaJudge$Pattern" "total" "I" ∈ o_WS := List.mem_filter.mpr ⟨o_tb1 _ (List.mem_of_getElem? (i := 183) rfl), rfl⟩
theorem k_1_181 : Cond.lays "SchemaJudge$Pattern" "SchemaJudge$Pattern" "position" "I" ∈ o_WS := List.mem_filter.mpr ⟨o_tb1 _ (List.mem_of_getElem? (i := 181) rfl), rfl⟩
theorem k_1_179 : Cond.lays "SchemaJudge$Pattern" "SchemaJudge$Pattern" "tokenCount" "I" ∈ o_WS := List.mem_filter.mpr ⟨o_tb1 _ (List.mem_of_getElem? (i := 179) rfl), rfl⟩
theorem k_1_177 : Cond.lays "SchemaJudge$Pattern" "SchemaJudge$Pattern" "characterCount" "I" ∈ o_WS := List.mem_filter.mpr ⟨o_tb1 _ (List.mem_of_getElem? (i := 177) rfl), rfl⟩
theorem k_1_175 : Cond.laysFinal "SchemaJudge$Pattern" "SchemaJudge$Pattern" "tokens" "[I" ∈ o_WS := List.mem_filter.mpr ⟨o_tb1 _ (List.mem_of_getElem? (i := 175) rfl), rfl⟩
theorem k_1_173 : Cond.laysFinal "SchemaJudge$Pattern" "SchemaJudge$Pattern" "program" "LSchemaJudge$Program;" ∈ o_WS := List.mem_filter.mpr ⟨o_tb1 _ (List.mem_of_getElem? (i := 173) rfl), rfl⟩
theorem k_1_216 : Cond.laysFinal "SchemaJudge$Marks" "SchemaJudge$Marks" "targets" "[I" ∈ o_WS := List.mem_filter.mpr ⟨o_tb1 _ (List.mem_of_getElem? (i := 216) rfl), rfl⟩
theorem k_1_214 : Cond.laysFinal "SchemaJudge$Marks" "SchemaJudge$Marks" "schemas" "[Z" ∈ o_WS := List.mem_filter.mpr ⟨o_tb1 _ (List.mem_of_getElem? (i := 214) rfl), rfl⟩
theorem k_1_212 : Cond.laysFinal "SchemaJudge$Marks" "SchemaJudge$Marks" "keywords" "[I" ∈ o_WS := List.mem_filter.mpr ⟨o_tb1 _ (List.mem_of_getElem? (i := 212) rfl), rfl⟩
theorem k_1_210 : Cond.laysFinal "SchemaJudge$Marks" "SchemaJudge$Marks" "text" "LSchemaJudge$Text;" ∈ o_WS := List.mem_filter.mpr ⟨o_tb1 _ (List.mem_of_getElem? (i := 210) rfl), rfl⟩
theorem k_2_4 : Cond.lays "SchemaJudge$Links" "SchemaJudge$Links" "position" "I" ∈ o_WS := List.mem_filter.mpr ⟨o_tb2 _ (List.mem_of_getElem? (i := 4) rfl), rfl⟩
theorem k_2_2 : Cond.lays "SchemaJudge$Links" "SchemaJudge$Links" "length" "I" ∈ o_WS := List.mem_filter.mpr ⟨o_tb2 _ (List.mem_of_getElem? (i := 2) rfl), rfl⟩
theorem k_2_0 : Cond.laysFinal "SchemaJudge$Links" "SchemaJudge$Links" "characters" "[I" ∈ o_WS := List.mem_filter.mpr ⟨o_tb2 _ (List.mem_of_getElem? (i := 0) rfl), rfl⟩
theorem k_1_238 : Cond.laysFinal "SchemaJudge$Links" "SchemaJudge$Links" "marks" "LSchemaJudge$Marks;" ∈ o_WS := List.mem_filter.mpr ⟨o_tb1 _ (List.mem_of_getElem? (i := 238) rfl), rfl⟩
theorem k_1_236 : Cond.laysFinal "SchemaJudge$Links" "SchemaJudge$Links" "text" "LSchemaJudge$Text;" ∈ o_WS := List.mem_filter.mpr ⟨o_tb1 _ (List.mem_of_getElem? (i := 236) rfl), rfl⟩
theorem k_2_35 : Cond.lays "SchemaJudge$Checker" "SchemaJudge$Checker" "foundAt" "I" ∈ o_WS := List.mem_filter.mpr ⟨o_tb2 _ (List.mem_of_getElem? (i := 35) rfl), rfl⟩
theorem k_2_33 : Cond.lays "SchemaJudge$Checker" "SchemaJudge$Checker" "found" "I" ∈ o_WS := List.mem_filter.mpr ⟨o_tb2 _ (List.mem_of_getElem? (i := 33) rfl), rfl⟩
theorem k_2_31 : Cond.lays "SchemaJudge$Checker" "SchemaJudge$Checker" "reachedCount" "I" ∈ o_WS := List.mem_filter.mpr ⟨o_tb2 _ (List.mem_of_getElem? (i := 31) rfl), rfl⟩
theorem k_2_29 : Cond.laysFinal "SchemaJudge$Checker" "SchemaJudge$Checker" "reachedFrom" "[I" ∈ o_WS := List.mem_filter.mpr ⟨o_tb2 _ (List.mem_of_getElem? (i := 29) rfl), rfl⟩
theorem k_2_27 : Cond.laysFinal "SchemaJudge$Checker" "SchemaJudge$Checker" "reached" "[I" ∈ o_WS := List.mem_filter.mpr ⟨o_tb2 _ (List.mem_of_getElem? (i := 27) rfl), rfl⟩
theorem k_2_25 : Cond.laysFinal "SchemaJudge$Checker" "SchemaJudge$Checker" "aimedAt" "[Z" ∈ o_WS := List.mem_filter.mpr ⟨o_tb2 _ (List.mem_of_getElem? (i := 25) rfl), rfl⟩
theorem k_2_23 : Cond.laysFinal "SchemaJudge$Checker" "SchemaJudge$Checker" "links" "LSchemaJudge$Links;" ∈ o_WS := List.mem_filter.mpr ⟨o_tb2 _ (List.mem_of_getElem? (i := 23) rfl), rfl⟩
theorem k_2_21 : Cond.laysFinal "SchemaJudge$Checker" "SchemaJudge$Checker" "pattern" "LSchemaJudge$Pattern;" ∈ o_WS := List.mem_filter.mpr ⟨o_tb2 _ (List.mem_of_getElem? (i := 21) rfl), rfl⟩
theorem k_2_19 : Cond.laysFinal "SchemaJudge$Checker" "SchemaJudge$Checker" "marks" "LSchemaJudge$Marks;" ∈ o_WS := List.mem_filter.mpr ⟨o_tb2 _ (List.mem_of_getElem? (i := 19) rfl), rfl⟩
theorem k_2_17 : Cond.laysFinal "SchemaJudge$Checker" "SchemaJudge$Checker" "text" "LSchemaJudge$Text;" ∈ o_WS := List.mem_filter.mpr ⟨o_tb2 _ (List.mem_of_getElem? (i := 17) rfl), rfl⟩
theorem k_2_108 : Cond.lays "SchemaJudge$Judge" "SchemaJudge$Judge" "deepest" "I" ∈ o_WS := List.mem_filter.mpr ⟨o_tb2 _ (List.mem_of_getElem? (i := 108) rfl), rfl⟩
theorem k_2_106 : Cond.lays "SchemaJudge$Judge" "SchemaJudge$Judge" "schemas" "I" ∈ o_WS := List.mem_filter.mpr ⟨o_tb2 _ (List.mem_of_getElem? (i := 106) rfl), rfl⟩
theorem k_2_104 : Cond.lays "SchemaJudge$Judge" "SchemaJudge$Judge" "over" "Z" ∈ o_WS := List.mem_filter.mpr ⟨o_tb2 _ (List.mem_of_getElem? (i := 104) rfl), rfl⟩
theorem k_2_102 : Cond.lays "SchemaJudge$Judge" "SchemaJudge$Judge" "silences" "I" ∈ o_WS := List.mem_filter.mpr ⟨o_tb2 _ (List.mem_of_getElem? (i := 102) rfl), rfl⟩
theorem k_2_100 : Cond.laysFinal "SchemaJudge$Judge" "SchemaJudge$Judge" "evaluated" "[J" ∈ o_WS := List.mem_filter.mpr ⟨o_tb2 _ (List.mem_of_getElem? (i := 100) rfl), rfl⟩
theorem k_2_98 : Cond.laysFinal "SchemaJudge$Judge" "SchemaJudge$Judge" "kept" "LSchemaJudge$Pairs;" ∈ o_WS := List.mem_filter.mpr ⟨o_tb2 _ (List.mem_of_getElem? (i := 98) rfl), rfl⟩
theorem k_2_96 : Cond.laysFinal "SchemaJudge$Judge" "SchemaJudge$Judge" "division" "LSchemaJudge$LongDivision;" ∈ o_WS := List.mem_filter.mpr ⟨o_tb2 _ (List.mem_of_getElem? (i := 96) rfl), rfl⟩
theorem k_2_94 : Cond.laysFinal "SchemaJudge$Judge" "SchemaJudge$Judge" "program" "LSchemaJudge$Program;" ∈ o_WS := List.mem_filter.mpr ⟨o_tb2 _ (List.mem_of_getElem? (i := 94) rfl), rfl⟩
theorem k_2_92 : Cond.laysFinal "SchemaJudge$Judge" "SchemaJudge$Judge" "pattern" "LSchemaJudge$Pattern;" ∈ o_WS := List.mem_filter.mpr ⟨o_tb2 _ (List.mem_of_getElem? (i := 92) rfl), rfl⟩
theorem k_2_90 : Cond.laysFinal "SchemaJudge$Judge" "SchemaJudge$Judge" "instance" "LSchemaJudge$Text;" ∈ o_WS := List.mem_filter.mpr ⟨o_tb2 _ (List.mem_of_getElem? (i := 90) rfl), rfl⟩
theorem k_2_88 : Cond.laysFinal "SchemaJudge$Judge" "SchemaJudge$Judge" "marks" "LSchemaJudge$Marks;" ∈ o_WS := List.mem_filter.mpr ⟨o_tb2 _ (List.mem_of_getElem? (i := 88) rfl), rfl⟩
theorem k_2_86 : Cond.laysFinal "SchemaJudge$Judge" "SchemaJudge$Judge" "text" "LSchemaJudge$Text;" ∈ o_WS := List.mem_filter.mpr ⟨o_tb2 _ (List.mem_of_getElem? (i := 86) rfl), rfl⟩
theorem k_2_54 : Cond.laysFinal "SchemaJudge$LongDivision" "SchemaJudge$LongDivision" "rest" "[J" ∈ o_WS := List.mem_filter.mpr ⟨o_tb2 _ (List.mem_of_getElem? (i := 54) rfl), rfl⟩
theorem k_2_52 : Cond.laysFinal "SchemaJudge$LongDivision" "SchemaJudge$LongDivision" "divisor" "[J" ∈ o_WS := List.mem_filter.mpr ⟨o_tb2 _ (List.mem_of_getElem? (i := 52) rfl), rfl⟩
theorem k_2_71 : Cond.lays "SchemaJudge$Pairs" "SchemaJudge$Pairs" "size" "I" ∈ o_WS := List.mem_filter.mpr ⟨o_tb2 _ (List.mem_of_getElem? (i := 71) rfl), rfl⟩
theorem k_2_69 : Cond.laysFinal "SchemaJudge$Pairs" "SchemaJudge$Pairs" "keywords" "[I" ∈ o_WS := List.mem_filter.mpr ⟨o_tb2 _ (List.mem_of_getElem? (i := 69) rfl), rfl⟩
theorem k_2_67 : Cond.laysFinal "SchemaJudge$Pairs" "SchemaJudge$Pairs" "values" "[I" ∈ o_WS := List.mem_filter.mpr ⟨o_tb2 _ (List.mem_of_getElem? (i := 67) rfl), rfl⟩
theorem in_SJ : ∀ w ∈ u_ws "SchemaJudge" F_SJ 8, w ∈ o_WS := by
  show ∀ w ∈ [Cond.laysFinal "SchemaJudge" "SchemaJudge" "schemaText" "LSchemaJudge$Text;", Cond.laysFinal "SchemaJudge" "SchemaJudge" "instanceText" "LSchemaJudge$Text;", Cond.laysFinal "SchemaJudge" "SchemaJudge" "reader" "LSchemaJudge$Reader;", Cond.laysFinal "SchemaJudge" "SchemaJudge" "program" "LSchemaJudge$Program;", Cond.laysFinal "SchemaJudge" "SchemaJudge" "pattern" "LSchemaJudge$Pattern;", Cond.laysFinal "SchemaJudge" "SchemaJudge" "checker" "LSchemaJudge$Checker;", Cond.laysFinal "SchemaJudge" "SchemaJudge" "judge" "LSchemaJudge$Judge;", Cond.lays "SchemaJudge" "SchemaJudge" "wrongAt" "I"], w ∈ o_WS
  exact List.forall_mem_cons.mpr ⟨k_2_119, List.forall_mem_cons.mpr ⟨k_2_121, List.forall_mem_cons.mpr ⟨k_2_123, List.forall_mem_cons.mpr ⟨k_2_125, List.forall_mem_cons.mpr ⟨k_2_127, List.forall_mem_cons.mpr ⟨k_2_129, List.forall_mem_cons.mpr ⟨k_2_131, List.forall_mem_cons.mpr ⟨k_2_133, fun _ h => absurd h List.not_mem_nil⟩⟩⟩⟩⟩⟩⟩⟩
theorem in_Tx : ∀ w ∈ u_ws "SchemaJudge$Text" F_Tx 13, w ∈ o_WS := by
  show ∀ w ∈ [Cond.laysFinal "SchemaJudge$Text" "SchemaJudge$Text" "kinds" "[I", Cond.laysFinal "SchemaJudge$Text" "SchemaJudge$Text" "places" "[I", Cond.laysFinal "SchemaJudge$Text" "SchemaJudge$Text" "sizes" "[I", Cond.laysFinal "SchemaJudge$Text" "SchemaJudge$Text" "parents" "[I", Cond.laysFinal "SchemaJudge$Text" "SchemaJudge$Text" "exponents" "[I", Cond.laysFinal "SchemaJudge$Text" "SchemaJudge$Text" "starts" "[I", Cond.laysFinal "SchemaJudge$Text" "SchemaJudge$Text" "afters" "[I", Cond.laysFinal "SchemaJudge$Text" "SchemaJudge$Text" "slots" "[I", Cond.laysFinal "SchemaJudge$Text" "SchemaJudge$Text" "negatives" "[Z", Cond.laysFinal "SchemaJudge$Text" "SchemaJudge$Text" "cells" "[I", Cond.lays "SchemaJudge$Text" "SchemaJudge$Text" "total" "I", Cond.lays "SchemaJudge$Text" "SchemaJudge$Text" "used" "I", Cond.lays "SchemaJudge$Text" "SchemaJudge$Text" "characters" "I"], w ∈ o_WS
  exact List.forall_mem_cons.mpr ⟨k_1_59, List.forall_mem_cons.mpr ⟨k_1_61, List.forall_mem_cons.mpr ⟨k_1_63, List.forall_mem_cons.mpr ⟨k_1_65, List.forall_mem_cons.mpr ⟨k_1_67, List.forall_mem_cons.mpr ⟨k_1_69, List.forall_mem_cons.mpr ⟨k_1_71, List.forall_mem_cons.mpr ⟨k_1_73, List.forall_mem_cons.mpr ⟨k_1_75, List.forall_mem_cons.mpr ⟨k_1_77, List.forall_mem_cons.mpr ⟨k_1_79, List.forall_mem_cons.mpr ⟨k_1_81, List.forall_mem_cons.mpr ⟨k_1_83, fun _ h => absurd h List.not_mem_nil⟩⟩⟩⟩⟩⟩⟩⟩⟩⟩⟩⟩⟩
theorem in_Rd : ∀ w ∈ u_ws "SchemaJudge$Reader" F_Rd 6, w ∈ o_WS := by
  show ∀ w ∈ [Cond.laysFinal "SchemaJudge$Reader" "SchemaJudge$Reader" "words" "[I", Cond.lays "SchemaJudge$Reader" "SchemaJudge$Reader" "wordCount" "I", Cond.lays "SchemaJudge$Reader" "SchemaJudge$Reader" "text" "LSchemaJudge$Text;", Cond.lays "SchemaJudge$Reader" "SchemaJudge$Reader" "position" "I", Cond.lays "SchemaJudge$Reader" "SchemaJudge$Reader" "limit" "I", Cond.lays "SchemaJudge$Reader" "SchemaJudge$Reader" "wrongPlace" "I"], w ∈ o_WS
  exact List.forall_mem_cons.mpr ⟨k_1_100, List.forall_mem_cons.mpr ⟨k_1_102, List.forall_mem_cons.mpr ⟨k_1_104, List.forall_mem_cons.mpr ⟨k_1_106, List.forall_mem_cons.mpr ⟨k_1_108, List.forall_mem_cons.mpr ⟨k_1_110, fun _ h => absurd h List.not_mem_nil⟩⟩⟩⟩⟩⟩
theorem in_Pg : ∀ w ∈ u_ws "SchemaJudge$Program" F_Pg 11, w ∈ o_WS := by
  show ∀ w ∈ [Cond.laysFinal "SchemaJudge$Program" "SchemaJudge$Program" "operations" "[I", Cond.laysFinal "SchemaJudge$Program" "SchemaJudge$Program" "arguments" "[I", Cond.lays "SchemaJudge$Program" "SchemaJudge$Program" "length" "I", Cond.laysFinal "SchemaJudge$Program" "SchemaJudge$Program" "sets" "[I", Cond.lays "SchemaJudge$Program" "SchemaJudge$Program" "setsUsed" "I", Cond.laysFinal "SchemaJudge$Program" "SchemaJudge$Program" "rounds" "[I", Cond.laysFinal "SchemaJudge$Program" "SchemaJudge$Program" "stack" "[I", Cond.lays "SchemaJudge$Program" "SchemaJudge$Program" "top" "I", Cond.laysFinal "SchemaJudge$Program" "SchemaJudge$Program" "waiting" "[I", Cond.lays "SchemaJudge$Program" "SchemaJudge$Program" "waitingCount" "I", Cond.laysFinal "SchemaJudge$Program" "SchemaJudge$Program" "moved" "[I"], w ∈ o_WS
  exact List.forall_mem_cons.mpr ⟨k_1_131, List.forall_mem_cons.mpr ⟨k_1_133, List.forall_mem_cons.mpr ⟨k_1_135, List.forall_mem_cons.mpr ⟨k_1_137, List.forall_mem_cons.mpr ⟨k_1_139, List.forall_mem_cons.mpr ⟨k_1_141, List.forall_mem_cons.mpr ⟨k_1_143, List.forall_mem_cons.mpr ⟨k_1_145, List.forall_mem_cons.mpr ⟨k_1_147, List.forall_mem_cons.mpr ⟨k_1_149, List.forall_mem_cons.mpr ⟨k_1_151, fun _ h => absurd h List.not_mem_nil⟩⟩⟩⟩⟩⟩⟩⟩⟩⟩⟩
theorem in_Pt : ∀ w ∈ u_ws "SchemaJudge$Pattern" F_Pt 13, w ∈ o_WS := by
  show ∀ w ∈ [Cond.laysFinal "SchemaJudge$Pattern" "SchemaJudge$Pattern" "program" "LSchemaJudge$Program;", Cond.laysFinal "SchemaJudge$Pattern" "SchemaJudge$Pattern" "tokens" "[I", Cond.lays "SchemaJudge$Pattern" "SchemaJudge$Pattern" "characterCount" "I", Cond.lays "SchemaJudge$Pattern" "SchemaJudge$Pattern" "tokenCount" "I", Cond.lays "SchemaJudge$Pattern" "SchemaJudge$Pattern" "position" "I", Cond.lays "SchemaJudge$Pattern" "SchemaJudge$Pattern" "total" "I", Cond.lays "SchemaJudge$Pattern" "SchemaJudge$Pattern" "least" "I", Cond.lays "SchemaJudge$Pattern" "SchemaJudge$Pattern" "most" "I", Cond.lays "SchemaJudge$Pattern" "SchemaJudge$Pattern" "depth" "I", Cond.laysFinal "SchemaJudge$Pattern" "SchemaJudge$Pattern" "blockStarts" "[I", Cond.laysFinal "SchemaJudge$Pattern" "SchemaJudge$Pattern" "branchStarts" "[I", Cond.laysFinal "SchemaJudge$Pattern" "SchemaJudge$Pattern" "jumps" "[I", Cond.laysFinal "SchemaJudge$Pattern" "SchemaJudge$Pattern" "sizesBefore" "[I"], w ∈ o_WS
  exact List.forall_mem_cons.mpr ⟨k_1_173, List.forall_mem_cons.mpr ⟨k_1_175, List.forall_mem_cons.mpr ⟨k_1_177, List.forall_mem_cons.mpr ⟨k_1_179, List.forall_mem_cons.mpr ⟨k_1_181, List.forall_mem_cons.mpr ⟨k_1_183, List.forall_mem_cons.mpr ⟨k_1_185, List.forall_mem_cons.mpr ⟨k_1_187, List.forall_mem_cons.mpr ⟨k_1_189, List.forall_mem_cons.mpr ⟨k_1_191, List.forall_mem_cons.mpr ⟨k_1_193, List.forall_mem_cons.mpr ⟨k_1_195, List.forall_mem_cons.mpr ⟨k_1_197, fun _ h => absurd h List.not_mem_nil⟩⟩⟩⟩⟩⟩⟩⟩⟩⟩⟩⟩⟩
theorem in_Mk : ∀ w ∈ u_ws "SchemaJudge$Marks" F_Mk 4, w ∈ o_WS := by
  show ∀ w ∈ [Cond.laysFinal "SchemaJudge$Marks" "SchemaJudge$Marks" "text" "LSchemaJudge$Text;", Cond.laysFinal "SchemaJudge$Marks" "SchemaJudge$Marks" "keywords" "[I", Cond.laysFinal "SchemaJudge$Marks" "SchemaJudge$Marks" "schemas" "[Z", Cond.laysFinal "SchemaJudge$Marks" "SchemaJudge$Marks" "targets" "[I"], w ∈ o_WS
  exact List.forall_mem_cons.mpr ⟨k_1_210, List.forall_mem_cons.mpr ⟨k_1_212, List.forall_mem_cons.mpr ⟨k_1_214, List.forall_mem_cons.mpr ⟨k_1_216, fun _ h => absurd h List.not_mem_nil⟩⟩⟩⟩
theorem in_Lk : ∀ w ∈ u_ws "SchemaJudge$Links" F_Lk 5, w ∈ o_WS := by
  show ∀ w ∈ [Cond.laysFinal "SchemaJudge$Links" "SchemaJudge$Links" "text" "LSchemaJudge$Text;", Cond.laysFinal "SchemaJudge$Links" "SchemaJudge$Links" "marks" "LSchemaJudge$Marks;", Cond.laysFinal "SchemaJudge$Links" "SchemaJudge$Links" "characters" "[I", Cond.lays "SchemaJudge$Links" "SchemaJudge$Links" "length" "I", Cond.lays "SchemaJudge$Links" "SchemaJudge$Links" "position" "I"], w ∈ o_WS
  exact List.forall_mem_cons.mpr ⟨k_1_236, List.forall_mem_cons.mpr ⟨k_1_238, List.forall_mem_cons.mpr ⟨k_2_0, List.forall_mem_cons.mpr ⟨k_2_2, List.forall_mem_cons.mpr ⟨k_2_4, fun _ h => absurd h List.not_mem_nil⟩⟩⟩⟩⟩
theorem in_Ck : ∀ w ∈ u_ws "SchemaJudge$Checker" F_Ck 10, w ∈ o_WS := by
  show ∀ w ∈ [Cond.laysFinal "SchemaJudge$Checker" "SchemaJudge$Checker" "text" "LSchemaJudge$Text;", Cond.laysFinal "SchemaJudge$Checker" "SchemaJudge$Checker" "marks" "LSchemaJudge$Marks;", Cond.laysFinal "SchemaJudge$Checker" "SchemaJudge$Checker" "pattern" "LSchemaJudge$Pattern;", Cond.laysFinal "SchemaJudge$Checker" "SchemaJudge$Checker" "links" "LSchemaJudge$Links;", Cond.laysFinal "SchemaJudge$Checker" "SchemaJudge$Checker" "aimedAt" "[Z", Cond.laysFinal "SchemaJudge$Checker" "SchemaJudge$Checker" "reached" "[I", Cond.laysFinal "SchemaJudge$Checker" "SchemaJudge$Checker" "reachedFrom" "[I", Cond.lays "SchemaJudge$Checker" "SchemaJudge$Checker" "reachedCount" "I", Cond.lays "SchemaJudge$Checker" "SchemaJudge$Checker" "found" "I", Cond.lays "SchemaJudge$Checker" "SchemaJudge$Checker" "foundAt" "I"], w ∈ o_WS
  exact List.forall_mem_cons.mpr ⟨k_2_17, List.forall_mem_cons.mpr ⟨k_2_19, List.forall_mem_cons.mpr ⟨k_2_21, List.forall_mem_cons.mpr ⟨k_2_23, List.forall_mem_cons.mpr ⟨k_2_25, List.forall_mem_cons.mpr ⟨k_2_27, List.forall_mem_cons.mpr ⟨k_2_29, List.forall_mem_cons.mpr ⟨k_2_31, List.forall_mem_cons.mpr ⟨k_2_33, List.forall_mem_cons.mpr ⟨k_2_35, fun _ h => absurd h List.not_mem_nil⟩⟩⟩⟩⟩⟩⟩⟩⟩⟩
theorem in_Jd : ∀ w ∈ u_ws "SchemaJudge$Judge" F_Jd 12, w ∈ o_WS := by
  show ∀ w ∈ [Cond.laysFinal "SchemaJudge$Judge" "SchemaJudge$Judge" "text" "LSchemaJudge$Text;", Cond.laysFinal "SchemaJudge$Judge" "SchemaJudge$Judge" "marks" "LSchemaJudge$Marks;", Cond.laysFinal "SchemaJudge$Judge" "SchemaJudge$Judge" "instance" "LSchemaJudge$Text;", Cond.laysFinal "SchemaJudge$Judge" "SchemaJudge$Judge" "pattern" "LSchemaJudge$Pattern;", Cond.laysFinal "SchemaJudge$Judge" "SchemaJudge$Judge" "program" "LSchemaJudge$Program;", Cond.laysFinal "SchemaJudge$Judge" "SchemaJudge$Judge" "division" "LSchemaJudge$LongDivision;", Cond.laysFinal "SchemaJudge$Judge" "SchemaJudge$Judge" "kept" "LSchemaJudge$Pairs;", Cond.laysFinal "SchemaJudge$Judge" "SchemaJudge$Judge" "evaluated" "[J", Cond.lays "SchemaJudge$Judge" "SchemaJudge$Judge" "silences" "I", Cond.lays "SchemaJudge$Judge" "SchemaJudge$Judge" "over" "Z", Cond.lays "SchemaJudge$Judge" "SchemaJudge$Judge" "schemas" "I", Cond.lays "SchemaJudge$Judge" "SchemaJudge$Judge" "deepest" "I"], w ∈ o_WS
  exact List.forall_mem_cons.mpr ⟨k_2_86, List.forall_mem_cons.mpr ⟨k_2_88, List.forall_mem_cons.mpr ⟨k_2_90, List.forall_mem_cons.mpr ⟨k_2_92, List.forall_mem_cons.mpr ⟨k_2_94, List.forall_mem_cons.mpr ⟨k_2_96, List.forall_mem_cons.mpr ⟨k_2_98, List.forall_mem_cons.mpr ⟨k_2_100, List.forall_mem_cons.mpr ⟨k_2_102, List.forall_mem_cons.mpr ⟨k_2_104, List.forall_mem_cons.mpr ⟨k_2_106, List.forall_mem_cons.mpr ⟨k_2_108, fun _ h => absurd h List.not_mem_nil⟩⟩⟩⟩⟩⟩⟩⟩⟩⟩⟩⟩
theorem in_Ld : ∀ w ∈ u_ws "SchemaJudge$LongDivision" F_Ld 2, w ∈ o_WS := by
  show ∀ w ∈ [Cond.laysFinal "SchemaJudge$LongDivision" "SchemaJudge$LongDivision" "divisor" "[J", Cond.laysFinal "SchemaJudge$LongDivision" "SchemaJudge$LongDivision" "rest" "[J"], w ∈ o_WS
  exact List.forall_mem_cons.mpr ⟨k_2_52, List.forall_mem_cons.mpr ⟨k_2_54, fun _ h => absurd h List.not_mem_nil⟩⟩
theorem in_Pr : ∀ w ∈ u_ws "SchemaJudge$Pairs" F_Pr 3, w ∈ o_WS := by
  show ∀ w ∈ [Cond.laysFinal "SchemaJudge$Pairs" "SchemaJudge$Pairs" "values" "[I", Cond.laysFinal "SchemaJudge$Pairs" "SchemaJudge$Pairs" "keywords" "[I", Cond.lays "SchemaJudge$Pairs" "SchemaJudge$Pairs" "size" "I"], w ∈ o_WS
  exact List.forall_mem_cons.mpr ⟨k_2_67, List.forall_mem_cons.mpr ⟨k_2_69, List.forall_mem_cons.mpr ⟨k_2_71, fun _ h => absurd h List.not_mem_nil⟩⟩⟩
theorem hv_Tx_clear : y_Tx_clear.cls = "SchemaJudge$Text" ∧ y_Tx_clear.cls ≠ "java/lang/invoke/MethodHandle" ∧ y_Tx_clear.cls ≠ "java/lang/invoke/VarHandle" ∧ (parseMethodDescriptor y_Tx_clear.desc).map (fun d => d.parameters.length) = some 0 := by decide +kernel
abbrev rm_Tx_clear : Room := { frames := 0, cells := 0, slots := 0, locals := 0 }
theorem hv_Tx_begin : y_Tx_begin.cls = "SchemaJudge$Text" ∧ y_Tx_begin.cls ≠ "java/lang/invoke/MethodHandle" ∧ y_Tx_begin.cls ≠ "java/lang/invoke/VarHandle" ∧ (parseMethodDescriptor y_Tx_begin.desc).map (fun d => d.parameters.length) = some 4 := by decide +kernel
abbrev rm_Tx_begin : Room := { frames := 0, cells := 0, slots := 0, locals := 0 }
theorem hv_Tx_addDigit : y_Tx_addDigit.cls = "SchemaJudge$Text" ∧ y_Tx_addDigit.cls ≠ "java/lang/invoke/MethodHandle" ∧ y_Tx_addDigit.cls ≠ "java/lang/invoke/VarHandle" ∧ (parseMethodDescriptor y_Tx_addDigit.desc).map (fun d => d.parameters.length) = some 1 := by decide +kernel
abbrev rm_Tx_addDigit : Room := { frames := 0, cells := 0, slots := 0, locals := 0 }
theorem hv_Tx_endNumber : y_Tx_endNumber.cls = "SchemaJudge$Text" ∧ y_Tx_endNumber.cls ≠ "java/lang/invoke/MethodHandle" ∧ y_Tx_endNumber.cls ≠ "java/lang/invoke/VarHandle" ∧ (parseMethodDescriptor y_Tx_endNumber.desc).map (fun d => d.parameters.length) = some 3 := by decide +kernel
abbrev rm_Tx_endNumber : Room := { frames := 0, cells := 0, slots := 0, locals := 0 }
theorem hv_Tx_endString : y_Tx_endString.cls = "SchemaJudge$Text" ∧ y_Tx_endString.cls ≠ "java/lang/invoke/MethodHandle" ∧ y_Tx_endString.cls ≠ "java/lang/invoke/VarHandle" ∧ (parseMethodDescriptor y_Tx_endString.desc).map (fun d => d.parameters.length) = some 1 := by decide +kernel
abbrev rm_Tx_endString : Room := { frames := 0, cells := 0, slots := 0, locals := 0 }
theorem hv_Tx_addCharacter : y_Tx_addCharacter.cls = "SchemaJudge$Text" ∧ y_Tx_addCharacter.cls ≠ "java/lang/invoke/MethodHandle" ∧ y_Tx_addCharacter.cls ≠ "java/lang/invoke/VarHandle" ∧ (parseMethodDescriptor y_Tx_addCharacter.desc).map (fun d => d.parameters.length) = some 1 := by decide +kernel
abbrev rm_Tx_addCharacter : Room := { frames := 0, cells := 0, slots := 0, locals := 0 }
theorem hv_Tx_endParent : y_Tx_endParent.cls = "SchemaJudge$Text" ∧ y_Tx_endParent.cls ≠ "java/lang/invoke/MethodHandle" ∧ y_Tx_endParent.cls ≠ "java/lang/invoke/VarHandle" ∧ (parseMethodDescriptor y_Tx_endParent.desc).map (fun d => d.parameters.length) = some 2 := by decide +kernel
abbrev rm_Tx_endParent : Room := { frames := 0, cells := 0, slots := 0, locals := 0 }
theorem hv_Tx_firstChild : y_Tx_firstChild.cls = "SchemaJudge$Text" ∧ y_Tx_firstChild.cls ≠ "java/lang/invoke/MethodHandle" ∧ y_Tx_firstChild.cls ≠ "java/lang/invoke/VarHandle" ∧ (parseMethodDescriptor y_Tx_firstChild.desc).map (fun d => d.parameters.length) = some 1 := by decide +kernel
abbrev rm_Tx_firstChild : Room := { frames := 0, cells := 0, slots := 0, locals := 0 }
theorem hv_Tx_size : y_Tx_size.cls = "SchemaJudge$Text" ∧ y_Tx_size.cls ≠ "java/lang/invoke/MethodHandle" ∧ y_Tx_size.cls ≠ "java/lang/invoke/VarHandle" ∧ (parseMethodDescriptor y_Tx_size.desc).map (fun d => d.parameters.length) = some 1 := by decide +kernel
abbrev rm_Tx_size : Room := { frames := 0, cells := 0, slots := 0, locals := 0 }
theorem hs_Tx_sameString : y_Tx_sameString.cls ≠ "java/lang/invoke/MethodHandle" ∧ y_Tx_sameString.cls ≠ "java/lang/invoke/VarHandle" ∧ (parseMethodDescriptor y_Tx_sameString.desc).map (fun d => d.parameters.length) = some 4 := by decide +kernel
abbrev rm_Tx_sameString : Room := { frames := 0, cells := 0, slots := 0, locals := 0 }
theorem hv_Tx_nextChild : y_Tx_nextChild.cls = "SchemaJudge$Text" ∧ y_Tx_nextChild.cls ≠ "java/lang/invoke/MethodHandle" ∧ y_Tx_nextChild.cls ≠ "java/lang/invoke/VarHandle" ∧ (parseMethodDescriptor y_Tx_nextChild.desc).map (fun d => d.parameters.length) = some 1 := by decide +kernel
abbrev rm_Tx_nextChild : Room := { frames := 0, cells := 0, slots := 0, locals := 0 }
theorem hv_Tx_member : y_Tx_member.cls = "SchemaJudge$Text" ∧ y_Tx_member.cls ≠ "java/lang/invoke/MethodHandle" ∧ y_Tx_member.cls ≠ "java/lang/invoke/VarHandle" ∧ (parseMethodDescriptor y_Tx_member.desc).map (fun d => d.parameters.length) = some 3 := by decide +kernel
abbrev rm_Tx_member : Room := { frames := 1, cells := 0, slots := 0, locals := 27 }
theorem hv_Tx_place : y_Tx_place.cls = "SchemaJudge$Text" ∧ y_Tx_place.cls ≠ "java/lang/invoke/MethodHandle" ∧ y_Tx_place.cls ≠ "java/lang/invoke/VarHandle" ∧ (parseMethodDescriptor y_Tx_place.desc).map (fun d => d.parameters.length) = some 1 := by decide +kernel
abbrev rm_Tx_place : Room := { frames := 0, cells := 0, slots := 0, locals := 0 }
theorem hv_Tx_total : y_Tx_total.cls = "SchemaJudge$Text" ∧ y_Tx_total.cls ≠ "java/lang/invoke/MethodHandle" ∧ y_Tx_total.cls ≠ "java/lang/invoke/VarHandle" ∧ (parseMethodDescriptor y_Tx_total.desc).map (fun d => d.parameters.length) = some 0 := by decide +kernel
abbrev rm_Tx_total : Room := { frames := 0, cells := 0, slots := 0, locals := 0 }
theorem hv_Tx_kind : y_Tx_kind.cls = "SchemaJudge$Text" ∧ y_Tx_kind.cls ≠ "java/lang/invoke/MethodHandle" ∧ y_Tx_kind.cls ≠ "java/lang/invoke/VarHandle" ∧ (parseMethodDescriptor y_Tx_kind.desc).map (fun d => d.parameters.length) = some 1 := by decide +kernel
abbrev rm_Tx_kind : Room := { frames := 0, cells := 0, slots := 0, locals := 0 }
theorem hv_Tx_spells : y_Tx_spells.cls = "SchemaJudge$Text" ∧ y_Tx_spells.cls ≠ "java/lang/invoke/MethodHandle" ∧ y_Tx_spells.cls ≠ "java/lang/invoke/VarHandle" ∧ (parseMethodDescriptor y_Tx_spells.desc).map (fun d => d.parameters.length) = some 2 := by decide +kernel
abbrev rm_Tx_spells : Room := { frames := 0, cells := 0, slots := 0, locals := 0 }
theorem hv_Tx_cell : y_Tx_cell.cls = "SchemaJudge$Text" ∧ y_Tx_cell.cls ≠ "java/lang/invoke/MethodHandle" ∧ y_Tx_cell.cls ≠ "java/lang/invoke/VarHandle" ∧ (parseMethodDescriptor y_Tx_cell.desc).map (fun d => d.parameters.length) = some 2 := by decide +kernel
abbrev rm_Tx_cell : Room := { frames := 0, cells := 0, slots := 0, locals := 0 }
theorem hv_Tx_sign : y_Tx_sign.cls = "SchemaJudge$Text" ∧ y_Tx_sign.cls ≠ "java/lang/invoke/MethodHandle" ∧ y_Tx_sign.cls ≠ "java/lang/invoke/VarHandle" ∧ (parseMethodDescriptor y_Tx_sign.desc).map (fun d => d.parameters.length) = some 1 := by decide +kernel
abbrev rm_Tx_sign : Room := { frames := 0, cells := 0, slots := 0, locals := 0 }
theorem hv_Tx_exponent : y_Tx_exponent.cls = "SchemaJudge$Text" ∧ y_Tx_exponent.cls ≠ "java/lang/invoke/MethodHandle" ∧ y_Tx_exponent.cls ≠ "java/lang/invoke/VarHandle" ∧ (parseMethodDescriptor y_Tx_exponent.desc).map (fun d => d.parameters.length) = some 1 := by decide +kernel
abbrev rm_Tx_exponent : Room := { frames := 0, cells := 0, slots := 0, locals := 0 }
theorem hv_Tx_wholeNumber : y_Tx_wholeNumber.cls = "SchemaJudge$Text" ∧ y_Tx_wholeNumber.cls ≠ "java/lang/invoke/MethodHandle" ∧ y_Tx_wholeNumber.cls ≠ "java/lang/invoke/VarHandle" ∧ (parseMethodDescriptor y_Tx_wholeNumber.desc).map (fun d => d.parameters.length) = some 1 := by decide +kernel
abbrev rm_Tx_wholeNumber : Room := { frames := 1, cells := 0, slots := 0, locals := 23 }
theorem hv_Tx_slot : y_Tx_slot.cls = "SchemaJudge$Text" ∧ y_Tx_slot.cls ≠ "java/lang/invoke/MethodHandle" ∧ y_Tx_slot.cls ≠ "java/lang/invoke/VarHandle" ∧ (parseMethodDescriptor y_Tx_slot.desc).map (fun d => d.parameters.length) = some 1 := by decide +kernel
abbrev rm_Tx_slot : Room := { frames := 0, cells := 0, slots := 0, locals := 0 }
theorem hv_Tx_element : y_Tx_element.cls = "SchemaJudge$Text" ∧ y_Tx_element.cls ≠ "java/lang/invoke/MethodHandle" ∧ y_Tx_element.cls ≠ "java/lang/invoke/VarHandle" ∧ (parseMethodDescriptor y_Tx_element.desc).map (fun d => d.parameters.length) = some 2 := by decide +kernel
abbrev rm_Tx_element : Room := { frames := 1, cells := 0, slots := 0, locals := 22 }
theorem hv_Tx_parent : y_Tx_parent.cls = "SchemaJudge$Text" ∧ y_Tx_parent.cls ≠ "java/lang/invoke/MethodHandle" ∧ y_Tx_parent.cls ≠ "java/lang/invoke/VarHandle" ∧ (parseMethodDescriptor y_Tx_parent.desc).map (fun d => d.parameters.length) = some 1 := by decide +kernel
abbrev rm_Tx_parent : Room := { frames := 0, cells := 0, slots := 0, locals := 0 }
theorem hs_Tx_compare : y_Tx_compare.cls ≠ "java/lang/invoke/MethodHandle" ∧ y_Tx_compare.cls ≠ "java/lang/invoke/VarHandle" ∧ (parseMethodDescriptor y_Tx_compare.desc).map (fun d => d.parameters.length) = some 4 := by decide +kernel
abbrev rm_Tx_compare : Room := { frames := 1, cells := 0, slots := 0, locals := 23 }
theorem hs_Tx_same : y_Tx_same.cls ≠ "java/lang/invoke/MethodHandle" ∧ y_Tx_same.cls ≠ "java/lang/invoke/VarHandle" ∧ (parseMethodDescriptor y_Tx_same.desc).map (fun d => d.parameters.length) = some 5 := by decide +kernel
abbrev rm_Tx_same : Room := { frames := 2, cells := 0, slots := 0, locals := 52 }
theorem hv_Tx_has : y_Tx_has.cls = "SchemaJudge$Text" ∧ y_Tx_has.cls ≠ "java/lang/invoke/MethodHandle" ∧ y_Tx_has.cls ≠ "java/lang/invoke/VarHandle" ∧ (parseMethodDescriptor y_Tx_has.desc).map (fun d => d.parameters.length) = some 1 := by decide +kernel
abbrev rm_Tx_has : Room := { frames := 0, cells := 0, slots := 0, locals := 0 }
