theorem k_1_95 : Cond.fieldLink "SchemaJudge$Reader" 19 "SchemaJudge$Reader" "wordCount" "I" ∈ o_WS := List.mem_filter.mpr ⟨o_tb1 _ (List.mem_of_getElem? (i := 95) rfl), rfl⟩
theorem k_1_94 : Cond.fieldLink "SchemaJudge$Reader" 9 "SchemaJudge$Reader" "words" "[I" ∈ o_WS := List.mem_filter.mpr ⟨o_tb1 _ (List.mem_of_getElem? (i := 94) rfl), rfl⟩
theorem k_2_15 : Cond.fieldLink "SchemaJudge$Checker" 43 "SchemaJudge$Checker" "found" "I" ∈ o_WS := List.mem_filter.mpr ⟨o_tb2 _ (List.mem_of_getElem? (i := 15) rfl), rfl⟩
theorem k_2_16 : Cond.fieldLink "SchemaJudge$Checker" 47 "SchemaJudge$Checker" "foundAt" "I" ∈ o_WS := List.mem_filter.mpr ⟨o_tb2 _ (List.mem_of_getElem? (i := 16) rfl), rfl⟩
theorem k_1_97 : Cond.fieldLink "SchemaJudge$Reader" 28 "SchemaJudge$Reader" "position" "I" ∈ o_WS := List.mem_filter.mpr ⟨o_tb1 _ (List.mem_of_getElem? (i := 97) rfl), rfl⟩
theorem k_1_98 : Cond.fieldLink "SchemaJudge$Reader" 31 "SchemaJudge$Reader" "limit" "I" ∈ o_WS := List.mem_filter.mpr ⟨o_tb1 _ (List.mem_of_getElem? (i := 98) rfl), rfl⟩
theorem k_3_38 : Cond.methodLink "SchemaJudge$Reader" 48 y_Rd_peek ∈ o_WS := List.mem_filter.mpr ⟨o_tb3 _ (List.mem_of_getElem? (i := 38) rfl), rfl⟩
theorem k_3_40 : Cond.instanceMethod y_Rd_peek ∈ o_WS := List.mem_filter.mpr ⟨o_tb3 _ (List.mem_of_getElem? (i := 40) rfl), rfl⟩
theorem k_s_3 : Cond.selects "SchemaJudge$Reader" y_Rd_peek y_Rd_peek ∈ o_WS := List.mem_filter.mpr ⟨List.mem_append_left _ (List.mem_of_getElem? (i := 3) rfl), rfl⟩
theorem k_1_3 : Cond.initialized "SchemaJudge$Reader" ∈ o_WS := List.mem_filter.mpr ⟨o_tb1 _ (List.mem_of_getElem? (i := 3) rfl), rfl⟩
theorem k_3_41 : cc_Rd_peek ∈ o_WS := List.mem_filter.mpr ⟨o_tb3 _ (List.mem_of_getElem? (i := 41) rfl), rfl⟩
theorem k_3_46 : Cond.static y_SJ_isDigit ∈ o_WS := List.mem_filter.mpr ⟨o_tb3 _ (List.mem_of_getElem? (i := 46) rfl), rfl⟩
theorem k_1_1 : Cond.initialized "SchemaJudge" ∈ o_WS := List.mem_filter.mpr ⟨o_tb1 _ (List.mem_of_getElem? (i := 1) rfl), rfl⟩
theorem k_3_47 : cc_SJ_isDigit ∈ o_WS := List.mem_filter.mpr ⟨o_tb3 _ (List.mem_of_getElem? (i := 47) rfl), rfl⟩
theorem k_1_99 : Cond.fieldLink "SchemaJudge$Reader" 34 "SchemaJudge$Reader" "wrongPlace" "I" ∈ o_WS := List.mem_filter.mpr ⟨o_tb1 _ (List.mem_of_getElem? (i := 99) rfl), rfl⟩
theorem k_3_48 : Cond.methodLink "SchemaJudge$Reader" 44 y_Rd_refuse ∈ o_WS := List.mem_filter.mpr ⟨o_tb3 _ (List.mem_of_getElem? (i := 48) rfl), rfl⟩
theorem k_3_50 : Cond.instanceMethod y_Rd_refuse ∈ o_WS := List.mem_filter.mpr ⟨o_tb3 _ (List.mem_of_getElem? (i := 50) rfl), rfl⟩
theorem k_s_4 : Cond.selects "SchemaJudge$Reader" y_Rd_refuse y_Rd_refuse ∈ o_WS := List.mem_filter.mpr ⟨List.mem_append_left _ (List.mem_of_getElem? (i := 4) rfl), rfl⟩
theorem k_3_51 : cc_Rd_refuse ∈ o_WS := List.mem_filter.mpr ⟨o_tb3 _ (List.mem_of_getElem? (i := 51) rfl), rfl⟩
theorem k_3_152 : Cond.static y_SJ_hexDigit ∈ o_WS := List.mem_filter.mpr ⟨o_tb3 _ (List.mem_of_getElem? (i := 152) rfl), rfl⟩
theorem k_3_153 : cc_SJ_hexDigit ∈ o_WS := List.mem_filter.mpr ⟨o_tb3 _ (List.mem_of_getElem? (i := 153) rfl), rfl⟩
theorem k_3_157 : Cond.constant "SchemaJudge" 198 (55296 : Int32) ∈ o_WS := List.mem_filter.mpr ⟨o_tb3 _ (List.mem_of_getElem? (i := 157) rfl), rfl⟩
theorem k_3_158 : Cond.constant "SchemaJudge" 199 (57343 : Int32) ∈ o_WS := List.mem_filter.mpr ⟨o_tb3 _ (List.mem_of_getElem? (i := 158) rfl), rfl⟩
theorem k_3_147 : Cond.methodLink "SchemaJudge$Reader" 154 y_Rd_readHex ∈ o_WS := List.mem_filter.mpr ⟨o_tb3 _ (List.mem_of_getElem? (i := 147) rfl), rfl⟩
theorem k_3_149 : Cond.instanceMethod y_Rd_readHex ∈ o_WS := List.mem_filter.mpr ⟨o_tb3 _ (List.mem_of_getElem? (i := 149) rfl), rfl⟩
theorem k_s_12 : Cond.selects "SchemaJudge$Reader" y_Rd_readHex y_Rd_readHex ∈ o_WS := List.mem_filter.mpr ⟨List.mem_append_left _ (List.mem_of_getElem? (i := 12) rfl), rfl⟩
theorem k_3_150 : cc_Rd_readHex ∈ o_WS := List.mem_filter.mpr ⟨o_tb3 _ (List.mem_of_getElem? (i := 150) rfl), rfl⟩
theorem k_3_155 : Cond.static y_SJ_isSurrogate ∈ o_WS := List.mem_filter.mpr ⟨o_tb3 _ (List.mem_of_getElem? (i := 155) rfl), rfl⟩
theorem k_3_156 : cc_SJ_isSurrogate ∈ o_WS := List.mem_filter.mpr ⟨o_tb3 _ (List.mem_of_getElem? (i := 156) rfl), rfl⟩
theorem k_3_159 : Cond.constant "SchemaJudge$Reader" 160 (56320 : Int32) ∈ o_WS := List.mem_filter.mpr ⟨o_tb3 _ (List.mem_of_getElem? (i := 159) rfl), rfl⟩
theorem k_3_160 : Cond.constant "SchemaJudge$Reader" 161 (57343 : Int32) ∈ o_WS := List.mem_filter.mpr ⟨o_tb3 _ (List.mem_of_getElem? (i := 160) rfl), rfl⟩
theorem k_3_161 : Cond.constant "SchemaJudge$Reader" 162 (65536 : Int32) ∈ o_WS := List.mem_filter.mpr ⟨o_tb3 _ (List.mem_of_getElem? (i := 161) rfl), rfl⟩
theorem k_3_162 : Cond.constant "SchemaJudge$Reader" 163 (55296 : Int32) ∈ o_WS := List.mem_filter.mpr ⟨o_tb3 _ (List.mem_of_getElem? (i := 162) rfl), rfl⟩
theorem k_3_143 : Cond.methodLink "SchemaJudge$Reader" 151 y_Rd_readShortEscape ∈ o_WS := List.mem_filter.mpr ⟨o_tb3 _ (List.mem_of_getElem? (i := 143) rfl), rfl⟩
theorem k_3_145 : Cond.instanceMethod y_Rd_readShortEscape ∈ o_WS := List.mem_filter.mpr ⟨o_tb3 _ (List.mem_of_getElem? (i := 145) rfl), rfl⟩
theorem k_s_11 : Cond.selects "SchemaJudge$Reader" y_Rd_readShortEscape y_Rd_readShortEscape ∈ o_WS := List.mem_filter.mpr ⟨List.mem_append_left _ (List.mem_of_getElem? (i := 11) rfl), rfl⟩
theorem k_3_146 : cc_Rd_readShortEscape ∈ o_WS := List.mem_filter.mpr ⟨o_tb3 _ (List.mem_of_getElem? (i := 146) rfl), rfl⟩
theorem k_3_179 : Cond.constant "SchemaJudge" 200 (65536 : Int32) ∈ o_WS := List.mem_filter.mpr ⟨o_tb3 _ (List.mem_of_getElem? (i := 179) rfl), rfl⟩
theorem k_3_180 : Cond.constant "SchemaJudge" 201 (1114111 : Int32) ∈ o_WS := List.mem_filter.mpr ⟨o_tb3 _ (List.mem_of_getElem? (i := 180) rfl), rfl⟩
theorem k_3_181 : Cond.methodLink "SchemaJudge" 202 y_SJ_isSurrogate ∈ o_WS := List.mem_filter.mpr ⟨o_tb3 _ (List.mem_of_getElem? (i := 181) rfl), rfl⟩
theorem k_3_168 : Cond.static y_SJ_utf8Tail ∈ o_WS := List.mem_filter.mpr ⟨o_tb3 _ (List.mem_of_getElem? (i := 168) rfl), rfl⟩
theorem k_3_169 : cc_SJ_utf8Tail ∈ o_WS := List.mem_filter.mpr ⟨o_tb3 _ (List.mem_of_getElem? (i := 169) rfl), rfl⟩
theorem k_3_171 : Cond.static y_SJ_utf8Head ∈ o_WS := List.mem_filter.mpr ⟨o_tb3 _ (List.mem_of_getElem? (i := 171) rfl), rfl⟩
theorem k_3_172 : cc_SJ_utf8Head ∈ o_WS := List.mem_filter.mpr ⟨o_tb3 _ (List.mem_of_getElem? (i := 172) rfl), rfl⟩
theorem k_3_174 : Cond.static y_SJ_utf8Follows ∈ o_WS := List.mem_filter.mpr ⟨o_tb3 _ (List.mem_of_getElem? (i := 174) rfl), rfl⟩
theorem k_3_175 : cc_SJ_utf8Follows ∈ o_WS := List.mem_filter.mpr ⟨o_tb3 _ (List.mem_of_getElem? (i := 175) rfl), rfl⟩
theorem k_3_177 : Cond.static y_SJ_utf8Legal ∈ o_WS := List.mem_filter.mpr ⟨o_tb3 _ (List.mem_of_getElem? (i := 177) rfl), rfl⟩
theorem k_3_178 : cc_SJ_utf8Legal ∈ o_WS := List.mem_filter.mpr ⟨o_tb3 _ (List.mem_of_getElem? (i := 178) rfl), rfl⟩
theorem k_1_207 : Cond.fieldLink "SchemaJudge$Marks" 9 "SchemaJudge$Marks" "keywords" "[I" ∈ o_WS := List.mem_filter.mpr ⟨o_tb1 _ (List.mem_of_getElem? (i := 207) rfl), rfl⟩
theorem k_1_208 : Cond.fieldLink "SchemaJudge$Marks" 15 "SchemaJudge$Marks" "schemas" "[Z" ∈ o_WS := List.mem_filter.mpr ⟨o_tb1 _ (List.mem_of_getElem? (i := 208) rfl), rfl⟩
theorem k_1_209 : Cond.fieldLink "SchemaJudge$Marks" 19 "SchemaJudge$Marks" "targets" "[I" ∈ o_WS := List.mem_filter.mpr ⟨o_tb1 _ (List.mem_of_getElem? (i := 209) rfl), rfl⟩
theorem k_1_206 : Cond.fieldLink "SchemaJudge$Marks" 22 "SchemaJudge$Marks" "text" "LSchemaJudge$Text;" ∈ o_WS := List.mem_filter.mpr ⟨o_tb1 _ (List.mem_of_getElem? (i := 206) rfl), rfl⟩
theorem k_1_56 : Cond.fieldLink "SchemaJudge$Text" 43 "SchemaJudge$Text" "total" "I" ∈ o_WS := List.mem_filter.mpr ⟨o_tb1 _ (List.mem_of_getElem? (i := 56) rfl), rfl⟩
theorem k_1_46 : Cond.fieldLink "SchemaJudge$Text" 9 "SchemaJudge$Text" "kinds" "[I" ∈ o_WS := List.mem_filter.mpr ⟨o_tb1 _ (List.mem_of_getElem? (i := 46) rfl), rfl⟩
theorem k_4_49 : Cond.methodLink "SchemaJudge$Marks" 26 y_Tx_kind ∈ o_WS := List.mem_filter.mpr ⟨o_tb4 _ (List.mem_of_getElem? (i := 49) rfl), rfl⟩
theorem k_4_50 : Cond.instanceMethod y_Tx_kind ∈ o_WS := List.mem_filter.mpr ⟨o_tb4 _ (List.mem_of_getElem? (i := 50) rfl), rfl⟩
theorem k_4_51 : Cond.selects "SchemaJudge$Text" y_Tx_kind y_Tx_kind ∈ o_WS := List.mem_filter.mpr ⟨o_tb4 _ (List.mem_of_getElem? (i := 51) rfl), rfl⟩
theorem k_1_2 : Cond.initialized "SchemaJudge$Text" ∈ o_WS := List.mem_filter.mpr ⟨o_tb1 _ (List.mem_of_getElem? (i := 2) rfl), rfl⟩
theorem k_4_52 : cc_Tx_kind ∈ o_WS := List.mem_filter.mpr ⟨o_tb4 _ (List.mem_of_getElem? (i := 52) rfl), rfl⟩
theorem k_4_57 : Cond.methodLink "SchemaJudge$Checker" 81 y_Ck_report ∈ o_WS := List.mem_filter.mpr ⟨o_tb4 _ (List.mem_of_getElem? (i := 57) rfl), rfl⟩
theorem k_4_59 : Cond.instanceMethod y_Ck_report ∈ o_WS := List.mem_filter.mpr ⟨o_tb4 _ (List.mem_of_getElem? (i := 59) rfl), rfl⟩
theorem k_s_20 : Cond.selects "SchemaJudge$Checker" y_Ck_report y_Ck_report ∈ o_WS := List.mem_filter.mpr ⟨List.mem_append_left _ (List.mem_of_getElem? (i := 20) rfl), rfl⟩
theorem k_1_7 : Cond.initialized "SchemaJudge$Checker" ∈ o_WS := List.mem_filter.mpr ⟨o_tb1 _ (List.mem_of_getElem? (i := 7) rfl), rfl⟩
theorem k_4_60 : cc_Ck_report ∈ o_WS := List.mem_filter.mpr ⟨o_tb4 _ (List.mem_of_getElem? (i := 60) rfl), rfl⟩
theorem k_2_8 : Cond.fieldLink "SchemaJudge$Checker" 26 "SchemaJudge$Checker" "marks" "LSchemaJudge$Marks;" ∈ o_WS := List.mem_filter.mpr ⟨o_tb2 _ (List.mem_of_getElem? (i := 8) rfl), rfl⟩
theorem k_4_45 : Cond.methodLink "SchemaJudge$Checker" 85 y_Mk_markSchema ∈ o_WS := List.mem_filter.mpr ⟨o_tb4 _ (List.mem_of_getElem? (i := 45) rfl), rfl⟩
theorem k_4_46 : Cond.instanceMethod y_Mk_markSchema ∈ o_WS := List.mem_filter.mpr ⟨o_tb4 _ (List.mem_of_getElem? (i := 46) rfl), rfl⟩
theorem k_4_47 : Cond.selects "SchemaJudge$Marks" y_Mk_markSchema y_Mk_markSchema ∈ o_WS := List.mem_filter.mpr ⟨o_tb4 _ (List.mem_of_getElem? (i := 47) rfl), rfl⟩
theorem k_1_6 : Cond.initialized "SchemaJudge$Marks" ∈ o_WS := List.mem_filter.mpr ⟨o_tb1 _ (List.mem_of_getElem? (i := 6) rfl), rfl⟩
theorem k_4_48 : cc_Mk_markSchema ∈ o_WS := List.mem_filter.mpr ⟨o_tb4 _ (List.mem_of_getElem? (i := 48) rfl), rfl⟩
theorem k_4_53 : Cond.methodLink "SchemaJudge$Checker" 88 y_Ck_require ∈ o_WS := List.mem_filter.mpr ⟨o_tb4 _ (List.mem_of_getElem? (i := 53) rfl), rfl⟩
theorem k_4_55 : Cond.instanceMethod y_Ck_require ∈ o_WS := List.mem_filter.mpr ⟨o_tb4 _ (List.mem_of_getElem? (i := 55) rfl), rfl⟩
theorem k_s_19 : Cond.selects "SchemaJudge$Checker" y_Ck_require y_Ck_require ∈ o_WS := List.mem_filter.mpr ⟨List.mem_append_left _ (List.mem_of_getElem? (i := 19) rfl), rfl⟩
theorem k_4_56 : cc_Ck_require ∈ o_WS := List.mem_filter.mpr ⟨o_tb4 _ (List.mem_of_getElem? (i := 56) rfl), rfl⟩
theorem k_2_7 : Cond.fieldLink "SchemaJudge$Checker" 22 "SchemaJudge$Checker" "text" "LSchemaJudge$Text;" ∈ o_WS := List.mem_filter.mpr ⟨o_tb2 _ (List.mem_of_getElem? (i := 7) rfl), rfl⟩
theorem k_1_48 : Cond.fieldLink "SchemaJudge$Text" 18 "SchemaJudge$Text" "sizes" "[I" ∈ o_WS := List.mem_filter.mpr ⟨o_tb1 _ (List.mem_of_getElem? (i := 48) rfl), rfl⟩
theorem k_4_71 : Cond.methodLink "SchemaJudge$Checker" 96 y_Tx_size ∈ o_WS := List.mem_filter.mpr ⟨o_tb4 _ (List.mem_of_getElem? (i := 71) rfl), rfl⟩
theorem k_3_215 : Cond.instanceMethod y_Tx_size ∈ o_WS := List.mem_filter.mpr ⟨o_tb3 _ (List.mem_of_getElem? (i := 215) rfl), rfl⟩
theorem k_3_216 : Cond.selects "SchemaJudge$Text" y_Tx_size y_Tx_size ∈ o_WS := List.mem_filter.mpr ⟨o_tb3 _ (List.mem_of_getElem? (i := 216) rfl), rfl⟩
theorem k_3_217 : cc_Tx_size ∈ o_WS := List.mem_filter.mpr ⟨o_tb3 _ (List.mem_of_getElem? (i := 217) rfl), rfl⟩
theorem k_4_41 : Cond.methodLink "SchemaJudge$Checker" 55 y_Ck_takeSchema ∈ o_WS := List.mem_filter.mpr ⟨o_tb4 _ (List.mem_of_getElem? (i := 41) rfl), rfl⟩
theorem k_4_43 : Cond.instanceMethod y_Ck_takeSchema ∈ o_WS := List.mem_filter.mpr ⟨o_tb4 _ (List.mem_of_getElem? (i := 43) rfl), rfl⟩
theorem k_s_18 : Cond.selects "SchemaJudge$Checker" y_Ck_takeSchema y_Ck_takeSchema ∈ o_WS := List.mem_filter.mpr ⟨List.mem_append_left _ (List.mem_of_getElem? (i := 18) rfl), rfl⟩
theorem k_4_44 : cc_Ck_takeSchema ∈ o_WS := List.mem_filter.mpr ⟨o_tb4 _ (List.mem_of_getElem? (i := 44) rfl), rfl⟩
theorem k_1_53 : Cond.fieldLink "SchemaJudge$Text" 33 "SchemaJudge$Text" "slots" "[I" ∈ o_WS := List.mem_filter.mpr ⟨o_tb1 _ (List.mem_of_getElem? (i := 53) rfl), rfl⟩
theorem k_1_52 : Cond.fieldLink "SchemaJudge$Text" 30 "SchemaJudge$Text" "afters" "[I" ∈ o_WS := List.mem_filter.mpr ⟨o_tb1 _ (List.mem_of_getElem? (i := 52) rfl), rfl⟩
theorem k_1_49 : Cond.fieldLink "SchemaJudge$Text" 21 "SchemaJudge$Text" "parents" "[I" ∈ o_WS := List.mem_filter.mpr ⟨o_tb1 _ (List.mem_of_getElem? (i := 49) rfl), rfl⟩
theorem k_4_101 : Cond.methodLink "SchemaJudge$Checker" 107 y_Tx_nextChild ∈ o_WS := List.mem_filter.mpr ⟨o_tb4 _ (List.mem_of_getElem? (i := 101) rfl), rfl⟩
theorem k_3_222 : Cond.instanceMethod y_Tx_nextChild ∈ o_WS := List.mem_filter.mpr ⟨o_tb3 _ (List.mem_of_getElem? (i := 222) rfl), rfl⟩
theorem k_3_223 : Cond.selects "SchemaJudge$Text" y_Tx_nextChild y_Tx_nextChild ∈ o_WS := List.mem_filter.mpr ⟨o_tb3 _ (List.mem_of_getElem? (i := 223) rfl), rfl⟩
theorem k_3_224 : cc_Tx_nextChild ∈ o_WS := List.mem_filter.mpr ⟨o_tb3 _ (List.mem_of_getElem? (i := 224) rfl), rfl⟩
theorem k_4_70 : Cond.methodLink "SchemaJudge$Checker" 92 y_Tx_firstChild ∈ o_WS := List.mem_filter.mpr ⟨o_tb4 _ (List.mem_of_getElem? (i := 70) rfl), rfl⟩
theorem k_3_211 : Cond.instanceMethod y_Tx_firstChild ∈ o_WS := List.mem_filter.mpr ⟨o_tb3 _ (List.mem_of_getElem? (i := 211) rfl), rfl⟩
theorem k_3_212 : Cond.selects "SchemaJudge$Text" y_Tx_firstChild y_Tx_firstChild ∈ o_WS := List.mem_filter.mpr ⟨o_tb3 _ (List.mem_of_getElem? (i := 212) rfl), rfl⟩
theorem k_3_213 : cc_Tx_firstChild ∈ o_WS := List.mem_filter.mpr ⟨o_tb3 _ (List.mem_of_getElem? (i := 213) rfl), rfl⟩
theorem k_1_161 : Cond.fieldLink "SchemaJudge$Pattern" 11 "SchemaJudge$Pattern" "tokens" "[I" ∈ o_WS := List.mem_filter.mpr ⟨o_tb1 _ (List.mem_of_getElem? (i := 161) rfl), rfl⟩
theorem k_1_164 : Cond.fieldLink "SchemaJudge$Pattern" 53 "SchemaJudge$Pattern" "position" "I" ∈ o_WS := List.mem_filter.mpr ⟨o_tb1 _ (List.mem_of_getElem? (i := 164) rfl), rfl⟩
theorem k_1_162 : Cond.fieldLink "SchemaJudge$Pattern" 43 "SchemaJudge$Pattern" "characterCount" "I" ∈ o_WS := List.mem_filter.mpr ⟨o_tb1 _ (List.mem_of_getElem? (i := 162) rfl), rfl⟩
theorem k_4_193 : Cond.constant "SchemaJudge$Pattern" 92 (1114111 : Int32) ∈ o_WS := List.mem_filter.mpr ⟨o_tb4 _ (List.mem_of_getElem? (i := 193) rfl), rfl⟩
theorem k_4_130 : Cond.constant "SchemaJudge$Pattern" 80 (2097152 : Int32) ∈ o_WS := List.mem_filter.mpr ⟨o_tb4 _ (List.mem_of_getElem? (i := 130) rfl), rfl⟩
theorem k_4_194 : Cond.constant "SchemaJudge$Pattern" 84 (2097160 : Int32) ∈ o_WS := List.mem_filter.mpr ⟨o_tb4 _ (List.mem_of_getElem? (i := 194) rfl), rfl⟩
theorem k_4_127 : Cond.constant "SchemaJudge$Pattern" 74 (2097164 : Int32) ∈ o_WS := List.mem_filter.mpr ⟨o_tb4 _ (List.mem_of_getElem? (i := 127) rfl), rfl⟩
theorem k_4_125 : Cond.constant "SchemaJudge$Pattern" 72 (2097162 : Int32) ∈ o_WS := List.mem_filter.mpr ⟨o_tb4 _ (List.mem_of_getElem? (i := 125) rfl), rfl⟩
theorem k_4_128 : Cond.constant "SchemaJudge$Pattern" 75 (2097165 : Int32) ∈ o_WS := List.mem_filter.mpr ⟨o_tb4 _ (List.mem_of_getElem? (i := 128) rfl), rfl⟩
theorem k_4_124 : Cond.constant "SchemaJudge$Pattern" 71 (2097161 : Int32) ∈ o_WS := List.mem_filter.mpr ⟨o_tb4 _ (List.mem_of_getElem? (i := 124) rfl), rfl⟩
theorem k_1_121 : Cond.fieldLink "SchemaJudge$Program" 33 "SchemaJudge$Program" "length" "I" ∈ o_WS := List.mem_filter.mpr ⟨o_tb1 _ (List.mem_of_getElem? (i := 121) rfl), rfl⟩
theorem k_1_124 : Cond.fieldLink "SchemaJudge$Program" 37 "SchemaJudge$Program" "setsUsed" "I" ∈ o_WS := List.mem_filter.mpr ⟨o_tb1 _ (List.mem_of_getElem? (i := 124) rfl), rfl⟩
theorem k_1_169 : Cond.fieldLink "SchemaJudge$Pattern" 15 "SchemaJudge$Pattern" "blockStarts" "[I" ∈ o_WS := List.mem_filter.mpr ⟨o_tb1 _ (List.mem_of_getElem? (i := 169) rfl), rfl⟩
theorem k_1_168 : Cond.fieldLink "SchemaJudge$Pattern" 101 "SchemaJudge$Pattern" "depth" "I" ∈ o_WS := List.mem_filter.mpr ⟨o_tb1 _ (List.mem_of_getElem? (i := 168) rfl), rfl⟩
theorem k_1_160 : Cond.fieldLink "SchemaJudge$Pattern" 27 "SchemaJudge$Pattern" "program" "LSchemaJudge$Program;" ∈ o_WS := List.mem_filter.mpr ⟨o_tb1 _ (List.mem_of_getElem? (i := 160) rfl), rfl⟩
theorem k_1_122 : Cond.fieldLink "SchemaJudge$Pattern" 110 "SchemaJudge$Program" "length" "I" ∈ o_WS := List.mem_filter.mpr ⟨o_tb1 _ (List.mem_of_getElem? (i := 122) rfl), rfl⟩
theorem k_1_170 : Cond.fieldLink "SchemaJudge$Pattern" 18 "SchemaJudge$Pattern" "branchStarts" "[I" ∈ o_WS := List.mem_filter.mpr ⟨o_tb1 _ (List.mem_of_getElem? (i := 170) rfl), rfl⟩
theorem k_1_171 : Cond.fieldLink "SchemaJudge$Pattern" 21 "SchemaJudge$Pattern" "jumps" "[I" ∈ o_WS := List.mem_filter.mpr ⟨o_tb1 _ (List.mem_of_getElem? (i := 171) rfl), rfl⟩
theorem k_1_172 : Cond.fieldLink "SchemaJudge$Pattern" 24 "SchemaJudge$Pattern" "sizesBefore" "[I" ∈ o_WS := List.mem_filter.mpr ⟨o_tb1 _ (List.mem_of_getElem? (i := 172) rfl), rfl⟩
theorem k_1_165 : Cond.fieldLink "SchemaJudge$Pattern" 98 "SchemaJudge$Pattern" "total" "I" ∈ o_WS := List.mem_filter.mpr ⟨o_tb1 _ (List.mem_of_getElem? (i := 165) rfl), rfl⟩
theorem k_1_163 : Cond.fieldLink "SchemaJudge$Pattern" 50 "SchemaJudge$Pattern" "tokenCount" "I" ∈ o_WS := List.mem_filter.mpr ⟨o_tb1 _ (List.mem_of_getElem? (i := 163) rfl), rfl⟩
theorem k_1_120 : Cond.fieldLink "SchemaJudge$Program" 15 "SchemaJudge$Program" "arguments" "[I" ∈ o_WS := List.mem_filter.mpr ⟨o_tb1 _ (List.mem_of_getElem? (i := 120) rfl), rfl⟩
theorem k_4_222 : Cond.methodLink "SchemaJudge$Pattern" 158 y_Pg_argument ∈ o_WS := List.mem_filter.mpr ⟨o_tb4 _ (List.mem_of_getElem? (i := 222) rfl), rfl⟩
theorem k_4_223 : Cond.instanceMethod y_Pg_argument ∈ o_WS := List.mem_filter.mpr ⟨o_tb4 _ (List.mem_of_getElem? (i := 223) rfl), rfl⟩
theorem k_4_224 : Cond.selects "SchemaJudge$Program" y_Pg_argument y_Pg_argument ∈ o_WS := List.mem_filter.mpr ⟨o_tb4 _ (List.mem_of_getElem? (i := 224) rfl), rfl⟩
theorem k_1_4 : Cond.initialized "SchemaJudge$Program" ∈ o_WS := List.mem_filter.mpr ⟨o_tb1 _ (List.mem_of_getElem? (i := 4) rfl), rfl⟩
theorem k_4_225 : cc_Pg_argument ∈ o_WS := List.mem_filter.mpr ⟨o_tb4 _ (List.mem_of_getElem? (i := 225) rfl), rfl⟩
theorem k_4_226 : Cond.methodLink "SchemaJudge$Pattern" 161 y_Pg_setArgument ∈ o_WS := List.mem_filter.mpr ⟨o_tb4 _ (List.mem_of_getElem? (i := 226) rfl), rfl⟩
theorem k_4_227 : Cond.instanceMethod y_Pg_setArgument ∈ o_WS := List.mem_filter.mpr ⟨o_tb4 _ (List.mem_of_getElem? (i := 227) rfl), rfl⟩
theorem k_4_228 : Cond.selects "SchemaJudge$Program" y_Pg_setArgument y_Pg_setArgument ∈ o_WS := List.mem_filter.mpr ⟨o_tb4 _ (List.mem_of_getElem? (i := 228) rfl), rfl⟩
theorem k_4_229 : cc_Pg_setArgument ∈ o_WS := List.mem_filter.mpr ⟨o_tb4 _ (List.mem_of_getElem? (i := 229) rfl), rfl⟩
theorem k_4_214 : Cond.methodLink "SchemaJudge$Pattern" 107 y_Pt_peek ∈ o_WS := List.mem_filter.mpr ⟨o_tb4 _ (List.mem_of_getElem? (i := 214) rfl), rfl⟩
theorem k_4_216 : Cond.instanceMethod y_Pt_peek ∈ o_WS := List.mem_filter.mpr ⟨o_tb4 _ (List.mem_of_getElem? (i := 216) rfl), rfl⟩
theorem k_s_28 : Cond.selects "SchemaJudge$Pattern" y_Pt_peek y_Pt_peek ∈ o_WS := List.mem_filter.mpr ⟨List.mem_append_left _ (List.mem_of_getElem? (i := 28) rfl), rfl⟩
theorem k_1_5 : Cond.initialized "SchemaJudge$Pattern" ∈ o_WS := List.mem_filter.mpr ⟨o_tb1 _ (List.mem_of_getElem? (i := 5) rfl), rfl⟩
theorem k_4_217 : cc_Pt_peek ∈ o_WS := List.mem_filter.mpr ⟨o_tb4 _ (List.mem_of_getElem? (i := 217) rfl), rfl⟩
theorem k_4_210 : Cond.methodLink "SchemaJudge$Pattern" 104 y_Pt_beginBlock ∈ o_WS := List.mem_filter.mpr ⟨o_tb4 _ (List.mem_of_getElem? (i := 210) rfl), rfl⟩
theorem k_4_212 : Cond.instanceMethod y_Pt_beginBlock ∈ o_WS := List.mem_filter.mpr ⟨o_tb4 _ (List.mem_of_getElem? (i := 212) rfl), rfl⟩
theorem k_s_27 : Cond.selects "SchemaJudge$Pattern" y_Pt_beginBlock y_Pt_beginBlock ∈ o_WS := List.mem_filter.mpr ⟨List.mem_append_left _ (List.mem_of_getElem? (i := 27) rfl), rfl⟩
theorem k_4_213 : cc_Pt_beginBlock ∈ o_WS := List.mem_filter.mpr ⟨o_tb4 _ (List.mem_of_getElem? (i := 213) rfl), rfl⟩
theorem k_5_5 : Cond.constant "SchemaJudge$Program" 40 (1048576 : Int32) ∈ o_WS := List.mem_filter.mpr ⟨o_tb5 _ (List.mem_of_getElem? (i := 5) rfl), rfl⟩
theorem k_5_6 : Cond.methodLink "SchemaJudge$Program" 41 (⟨"java/lang/Math", "min", "(II)I"⟩ : MethodName) ∈ o_WS := List.mem_filter.mpr ⟨o_tb5 _ (List.mem_of_getElem? (i := 6) rfl), rfl⟩
theorem k_4_114 : Cond.static (⟨"java/lang/Math", "min", "(II)I"⟩ : MethodName) ∈ o_WS := List.mem_filter.mpr ⟨o_tb4 _ (List.mem_of_getElem? (i := 114) rfl), rfl⟩
theorem k_1_26 : Cond.initialized "java/lang/Math" ∈ o_WS := List.mem_filter.mpr ⟨o_tb1 _ (List.mem_of_getElem? (i := 26) rfl), rfl⟩
theorem k_4_115 : Cond.code Lib.Math.min.name Lib.Math.min.code 2 (some .int) ∈ o_WS := List.mem_filter.mpr ⟨o_tb4 _ (List.mem_of_getElem? (i := 115) rfl), rfl⟩
theorem k_1_119 : Cond.fieldLink "SchemaJudge$Program" 9 "SchemaJudge$Program" "operations" "[I" ∈ o_WS := List.mem_filter.mpr ⟨o_tb1 _ (List.mem_of_getElem? (i := 119) rfl), rfl⟩
theorem k_1_123 : Cond.fieldLink "SchemaJudge$Program" 18 "SchemaJudge$Program" "sets" "[I" ∈ o_WS := List.mem_filter.mpr ⟨o_tb1 _ (List.mem_of_getElem? (i := 123) rfl), rfl⟩
theorem k_5_15 : Cond.methodLink "SchemaJudge$Pattern" 166 y_Pg_beginSet ∈ o_WS := List.mem_filter.mpr ⟨o_tb5 _ (List.mem_of_getElem? (i := 15) rfl), rfl⟩
theorem k_5_16 : Cond.instanceMethod y_Pg_beginSet ∈ o_WS := List.mem_filter.mpr ⟨o_tb5 _ (List.mem_of_getElem? (i := 16) rfl), rfl⟩
theorem k_5_17 : Cond.selects "SchemaJudge$Program" y_Pg_beginSet y_Pg_beginSet ∈ o_WS := List.mem_filter.mpr ⟨o_tb5 _ (List.mem_of_getElem? (i := 17) rfl), rfl⟩
theorem k_5_18 : cc_Pg_beginSet ∈ o_WS := List.mem_filter.mpr ⟨o_tb5 _ (List.mem_of_getElem? (i := 18) rfl), rfl⟩
theorem k_5_23 : Cond.constant "SchemaJudge$Pattern" 165 (2097151 : Int32) ∈ o_WS := List.mem_filter.mpr ⟨o_tb5 _ (List.mem_of_getElem? (i := 23) rfl), rfl⟩
theorem k_4_199 : Cond.constant "SchemaJudge$Pattern" 87 (4194304 : Int32) ∈ o_WS := List.mem_filter.mpr ⟨o_tb4 _ (List.mem_of_getElem? (i := 199) rfl), rfl⟩
theorem k_5_25 : Cond.methodLink "SchemaJudge$Pattern" 172 y_Pg_addRange ∈ o_WS := List.mem_filter.mpr ⟨o_tb5 _ (List.mem_of_getElem? (i := 25) rfl), rfl⟩
theorem k_5_26 : Cond.instanceMethod y_Pg_addRange ∈ o_WS := List.mem_filter.mpr ⟨o_tb5 _ (List.mem_of_getElem? (i := 26) rfl), rfl⟩
theorem k_5_27 : Cond.selects "SchemaJudge$Program" y_Pg_addRange y_Pg_addRange ∈ o_WS := List.mem_filter.mpr ⟨o_tb5 _ (List.mem_of_getElem? (i := 27) rfl), rfl⟩
theorem k_5_28 : cc_Pg_addRange ∈ o_WS := List.mem_filter.mpr ⟨o_tb5 _ (List.mem_of_getElem? (i := 28) rfl), rfl⟩
theorem k_5_24 : Cond.constant "SchemaJudge$Pattern" 164 (-4194305 : Int32) ∈ o_WS := List.mem_filter.mpr ⟨o_tb5 _ (List.mem_of_getElem? (i := 24) rfl), rfl⟩
theorem k_5_19 : Cond.methodLink "SchemaJudge$Pattern" 169 y_Pg_addClass ∈ o_WS := List.mem_filter.mpr ⟨o_tb5 _ (List.mem_of_getElem? (i := 19) rfl), rfl⟩
theorem k_5_20 : Cond.instanceMethod y_Pg_addClass ∈ o_WS := List.mem_filter.mpr ⟨o_tb5 _ (List.mem_of_getElem? (i := 20) rfl), rfl⟩
theorem k_5_21 : Cond.selects "SchemaJudge$Program" y_Pg_addClass y_Pg_addClass ∈ o_WS := List.mem_filter.mpr ⟨o_tb5 _ (List.mem_of_getElem? (i := 21) rfl), rfl⟩
theorem k_5_22 : cc_Pg_addClass ∈ o_WS := List.mem_filter.mpr ⟨o_tb5 _ (List.mem_of_getElem? (i := 22) rfl), rfl⟩
theorem k_5_7 : Cond.methodLink "SchemaJudge$Pattern" 151 y_Pg_emit ∈ o_WS := List.mem_filter.mpr ⟨o_tb5 _ (List.mem_of_getElem? (i := 7) rfl), rfl⟩
theorem k_5_8 : Cond.instanceMethod y_Pg_emit ∈ o_WS := List.mem_filter.mpr ⟨o_tb5 _ (List.mem_of_getElem? (i := 8) rfl), rfl⟩
theorem k_5_9 : Cond.selects "SchemaJudge$Program" y_Pg_emit y_Pg_emit ∈ o_WS := List.mem_filter.mpr ⟨o_tb5 _ (List.mem_of_getElem? (i := 9) rfl), rfl⟩
theorem k_5_10 : cc_Pg_emit ∈ o_WS := List.mem_filter.mpr ⟨o_tb5 _ (List.mem_of_getElem? (i := 10) rfl), rfl⟩
theorem k_5_44 : Cond.methodLink "SchemaJudge$Pattern" 143 (⟨"java/lang/Math", "max", "(II)I"⟩ : MethodName) ∈ o_WS := List.mem_filter.mpr ⟨o_tb5 _ (List.mem_of_getElem? (i := 44) rfl), rfl⟩
theorem k_4_152 : Cond.static (⟨"java/lang/Math", "max", "(II)I"⟩ : MethodName) ∈ o_WS := List.mem_filter.mpr ⟨o_tb4 _ (List.mem_of_getElem? (i := 152) rfl), rfl⟩
theorem k_4_153 : Cond.code Lib.Math.max.name Lib.Math.max.code 2 (some .int) ∈ o_WS := List.mem_filter.mpr ⟨o_tb4 _ (List.mem_of_getElem? (i := 153) rfl), rfl⟩
theorem k_1_166 : Cond.fieldLink "SchemaJudge$Pattern" 140 "SchemaJudge$Pattern" "least" "I" ∈ o_WS := List.mem_filter.mpr ⟨o_tb1 _ (List.mem_of_getElem? (i := 166) rfl), rfl⟩
theorem k_1_167 : Cond.fieldLink "SchemaJudge$Pattern" 137 "SchemaJudge$Pattern" "most" "I" ∈ o_WS := List.mem_filter.mpr ⟨o_tb1 _ (List.mem_of_getElem? (i := 167) rfl), rfl⟩
theorem k_5_40 : Cond.methodLink "SchemaJudge$Pattern" 175 y_Pt_readNumber ∈ o_WS := List.mem_filter.mpr ⟨o_tb5 _ (List.mem_of_getElem? (i := 40) rfl), rfl⟩
theorem k_5_42 : Cond.instanceMethod y_Pt_readNumber ∈ o_WS := List.mem_filter.mpr ⟨o_tb5 _ (List.mem_of_getElem? (i := 42) rfl), rfl⟩
theorem k_s_35 : Cond.selects "SchemaJudge$Pattern" y_Pt_readNumber y_Pt_readNumber ∈ o_WS := List.mem_filter.mpr ⟨List.mem_append_left _ (List.mem_of_getElem? (i := 35) rfl), rfl⟩
theorem k_5_43 : cc_Pt_readNumber ∈ o_WS := List.mem_filter.mpr ⟨o_tb5 _ (List.mem_of_getElem? (i := 43) rfl), rfl⟩
theorem k_4_206 : Cond.methodLink "SchemaJudge$Pattern" 93 y_Pg_clear ∈ o_WS := List.mem_filter.mpr ⟨o_tb4 _ (List.mem_of_getElem? (i := 206) rfl), rfl⟩
theorem k_4_207 : Cond.instanceMethod y_Pg_clear ∈ o_WS := List.mem_filter.mpr ⟨o_tb4 _ (List.mem_of_getElem? (i := 207) rfl), rfl⟩
theorem k_4_208 : Cond.selects "SchemaJudge$Program" y_Pg_clear y_Pg_clear ∈ o_WS := List.mem_filter.mpr ⟨o_tb4 _ (List.mem_of_getElem? (i := 208) rfl), rfl⟩
theorem k_4_209 : cc_Pg_clear ∈ o_WS := List.mem_filter.mpr ⟨o_tb4 _ (List.mem_of_getElem? (i := 209) rfl), rfl⟩
theorem k_5_29 : Cond.methodLink "SchemaJudge$Pattern" 127 y_Pt_single ∈ o_WS := List.mem_filter.mpr ⟨o_tb5 _ (List.mem_of_getElem? (i := 29) rfl), rfl⟩
theorem k_5_31 : Cond.instanceMethod y_Pt_single ∈ o_WS := List.mem_filter.mpr ⟨o_tb5 _ (List.mem_of_getElem? (i := 31) rfl), rfl⟩
theorem k_s_33 : Cond.selects "SchemaJudge$Pattern" y_Pt_single y_Pt_single ∈ o_WS := List.mem_filter.mpr ⟨List.mem_append_left _ (List.mem_of_getElem? (i := 33) rfl), rfl⟩
theorem k_5_32 : cc_Pt_single ∈ o_WS := List.mem_filter.mpr ⟨o_tb5 _ (List.mem_of_getElem? (i := 32) rfl), rfl⟩
theorem k_5_34 : Cond.static y_Pt_isQuantifier ∈ o_WS := List.mem_filter.mpr ⟨o_tb5 _ (List.mem_of_getElem? (i := 34) rfl), rfl⟩
theorem k_5_35 : cc_Pt_isQuantifier ∈ o_WS := List.mem_filter.mpr ⟨o_tb5 _ (List.mem_of_getElem? (i := 35) rfl), rfl⟩
theorem k_5_33 : Cond.methodLink "SchemaJudge$Pattern" 131 y_Pt_isQuantifier ∈ o_WS := List.mem_filter.mpr ⟨o_tb5 _ (List.mem_of_getElem? (i := 33) rfl), rfl⟩
theorem k_5_36 : Cond.methodLink "SchemaJudge$Pattern" 134 y_Pt_readQuantifier ∈ o_WS := List.mem_filter.mpr ⟨o_tb5 _ (List.mem_of_getElem? (i := 36) rfl), rfl⟩
theorem k_5_38 : Cond.instanceMethod y_Pt_readQuantifier ∈ o_WS := List.mem_filter.mpr ⟨o_tb5 _ (List.mem_of_getElem? (i := 38) rfl), rfl⟩
theorem k_s_34 : Cond.selects "SchemaJudge$Pattern" y_Pt_readQuantifier y_Pt_readQuantifier ∈ o_WS := List.mem_filter.mpr ⟨List.mem_append_left _ (List.mem_of_getElem? (i := 34) rfl), rfl⟩
theorem k_5_39 : cc_Pt_readQuantifier ∈ o_WS := List.mem_filter.mpr ⟨o_tb5 _ (List.mem_of_getElem? (i := 39) rfl), rfl⟩
theorem k_5_45 : Cond.constant "SchemaJudge$Pattern" 146 (1048576 : Int32) ∈ o_WS := List.mem_filter.mpr ⟨o_tb5 _ (List.mem_of_getElem? (i := 45) rfl), rfl⟩
theorem k_4_113 : Cond.methodLink "SchemaJudge$Pattern" 37 (⟨"java/lang/Math", "min", "(II)I"⟩ : MethodName) ∈ o_WS := List.mem_filter.mpr ⟨o_tb4 _ (List.mem_of_getElem? (i := 113) rfl), rfl⟩
theorem k_2_9 : Cond.fieldLink "SchemaJudge$Checker" 30 "SchemaJudge$Checker" "pattern" "LSchemaJudge$Pattern;" ∈ o_WS := List.mem_filter.mpr ⟨o_tb2 _ (List.mem_of_getElem? (i := 9) rfl), rfl⟩
theorem k_4_112 : Cond.methodLink "SchemaJudge$Pattern" 31 y_Tx_size ∈ o_WS := List.mem_filter.mpr ⟨o_tb4 _ (List.mem_of_getElem? (i := 112) rfl), rfl⟩
theorem k_1_51 : Cond.fieldLink "SchemaJudge$Text" 27 "SchemaJudge$Text" "starts" "[I" ∈ o_WS := List.mem_filter.mpr ⟨o_tb1 _ (List.mem_of_getElem? (i := 51) rfl), rfl⟩
theorem k_1_55 : Cond.fieldLink "SchemaJudge$Text" 40 "SchemaJudge$Text" "cells" "[I" ∈ o_WS := List.mem_filter.mpr ⟨o_tb1 _ (List.mem_of_getElem? (i := 55) rfl), rfl⟩
theorem k_4_116 : Cond.methodLink "SchemaJudge$Pattern" 47 y_Tx_cell ∈ o_WS := List.mem_filter.mpr ⟨o_tb4 _ (List.mem_of_getElem? (i := 116) rfl), rfl⟩
theorem k_4_117 : Cond.instanceMethod y_Tx_cell ∈ o_WS := List.mem_filter.mpr ⟨o_tb4 _ (List.mem_of_getElem? (i := 117) rfl), rfl⟩
theorem k_4_118 : Cond.selects "SchemaJudge$Text" y_Tx_cell y_Tx_cell ∈ o_WS := List.mem_filter.mpr ⟨o_tb4 _ (List.mem_of_getElem? (i := 118) rfl), rfl⟩
theorem k_4_119 : cc_Tx_cell ∈ o_WS := List.mem_filter.mpr ⟨o_tb4 _ (List.mem_of_getElem? (i := 119) rfl), rfl⟩
theorem k_5_76 : Cond.methodLink "SchemaJudge$Checker" 158 y_Tx_cell ∈ o_WS := List.mem_filter.mpr ⟨o_tb5 _ (List.mem_of_getElem? (i := 76) rfl), rfl⟩
theorem k_5_79 : Cond.static y_SJ_isLetter ∈ o_WS := List.mem_filter.mpr ⟨o_tb5 _ (List.mem_of_getElem? (i := 79) rfl), rfl⟩
theorem k_5_80 : cc_SJ_isLetter ∈ o_WS := List.mem_filter.mpr ⟨o_tb5 _ (List.mem_of_getElem? (i := 80) rfl), rfl⟩
theorem k_4_96 : Cond.methodLink "SchemaJudge$Checker" 110 y_Tx_kind ∈ o_WS := List.mem_filter.mpr ⟨o_tb4 _ (List.mem_of_getElem? (i := 96) rfl), rfl⟩
theorem k_5_105 : Cond.methodLink "SchemaJudge$Checker" 193 y_Tx_slot ∈ o_WS := List.mem_filter.mpr ⟨o_tb5 _ (List.mem_of_getElem? (i := 105) rfl), rfl⟩
theorem k_5_106 : Cond.instanceMethod y_Tx_slot ∈ o_WS := List.mem_filter.mpr ⟨o_tb5 _ (List.mem_of_getElem? (i := 106) rfl), rfl⟩
theorem k_5_107 : Cond.selects "SchemaJudge$Text" y_Tx_slot y_Tx_slot ∈ o_WS := List.mem_filter.mpr ⟨o_tb5 _ (List.mem_of_getElem? (i := 107) rfl), rfl⟩
theorem k_5_108 : cc_Tx_slot ∈ o_WS := List.mem_filter.mpr ⟨o_tb5 _ (List.mem_of_getElem? (i := 108) rfl), rfl⟩
theorem k_3_219 : Cond.static y_Tx_sameString ∈ o_WS := List.mem_filter.mpr ⟨o_tb3 _ (List.mem_of_getElem? (i := 219) rfl), rfl⟩
theorem k_3_220 : cc_Tx_sameString ∈ o_WS := List.mem_filter.mpr ⟨o_tb3 _ (List.mem_of_getElem? (i := 220) rfl), rfl⟩
theorem k_5_109 : Cond.methodLink "SchemaJudge$Checker" 196 y_Tx_sameString ∈ o_WS := List.mem_filter.mpr ⟨o_tb5 _ (List.mem_of_getElem? (i := 109) rfl), rfl⟩
theorem k_5_101 : Cond.methodLink "SchemaJudge$Checker" 189 y_Ck_isNew ∈ o_WS := List.mem_filter.mpr ⟨o_tb5 _ (List.mem_of_getElem? (i := 101) rfl), rfl⟩
theorem k_5_103 : Cond.instanceMethod y_Ck_isNew ∈ o_WS := List.mem_filter.mpr ⟨o_tb5 _ (List.mem_of_getElem? (i := 103) rfl), rfl⟩
theorem k_s_41 : Cond.selects "SchemaJudge$Checker" y_Ck_isNew y_Ck_isNew ∈ o_WS := List.mem_filter.mpr ⟨List.mem_append_left _ (List.mem_of_getElem? (i := 41) rfl), rfl⟩
theorem k_5_104 : cc_Ck_isNew ∈ o_WS := List.mem_filter.mpr ⟨o_tb5 _ (List.mem_of_getElem? (i := 104) rfl), rfl⟩
theorem k_4_61 : Cond.methodLink "SchemaJudge$Checker" 59 y_Tx_total ∈ o_WS := List.mem_filter.mpr ⟨o_tb4 _ (List.mem_of_getElem? (i := 61) rfl), rfl⟩
theorem k_4_6 : Cond.instanceMethod y_Tx_total ∈ o_WS := List.mem_filter.mpr ⟨o_tb4 _ (List.mem_of_getElem? (i := 6) rfl), rfl⟩
theorem k_4_7 : Cond.selects "SchemaJudge$Text" y_Tx_total y_Tx_total ∈ o_WS := List.mem_filter.mpr ⟨o_tb4 _ (List.mem_of_getElem? (i := 7) rfl), rfl⟩
theorem k_4_8 : cc_Tx_total ∈ o_WS := List.mem_filter.mpr ⟨o_tb4 _ (List.mem_of_getElem? (i := 8) rfl), rfl⟩
theorem k_1_231 : Cond.fieldLink "SchemaJudge$Links" 15 "SchemaJudge$Links" "text" "LSchemaJudge$Text;" ∈ o_WS := List.mem_filter.mpr ⟨o_tb1 _ (List.mem_of_getElem? (i := 231) rfl), rfl⟩
theorem k_1_235 : Cond.fieldLink "SchemaJudge$Links" 49 "SchemaJudge$Links" "position" "I" ∈ o_WS := List.mem_filter.mpr ⟨o_tb1 _ (List.mem_of_getElem? (i := 235) rfl), rfl⟩
theorem k_5_154 : Cond.methodLink "SchemaJudge$Links" 55 y_Tx_cell ∈ o_WS := List.mem_filter.mpr ⟨o_tb5 _ (List.mem_of_getElem? (i := 154) rfl), rfl⟩
theorem k_5_150 : Cond.methodLink "SchemaJudge$Links" 52 y_Lk_octetAt ∈ o_WS := List.mem_filter.mpr ⟨o_tb5 _ (List.mem_of_getElem? (i := 150) rfl), rfl⟩
theorem k_5_152 : Cond.instanceMethod y_Lk_octetAt ∈ o_WS := List.mem_filter.mpr ⟨o_tb5 _ (List.mem_of_getElem? (i := 152) rfl), rfl⟩
theorem k_s_48 : Cond.selects "SchemaJudge$Links" y_Lk_octetAt y_Lk_octetAt ∈ o_WS := List.mem_filter.mpr ⟨List.mem_append_left _ (List.mem_of_getElem? (i := 48) rfl), rfl⟩
theorem k_1_8 : Cond.initialized "SchemaJudge$Links" ∈ o_WS := List.mem_filter.mpr ⟨o_tb1 _ (List.mem_of_getElem? (i := 8) rfl), rfl⟩
theorem k_5_153 : cc_Lk_octetAt ∈ o_WS := List.mem_filter.mpr ⟨o_tb5 _ (List.mem_of_getElem? (i := 153) rfl), rfl⟩
theorem k_5_149 : Cond.methodLink "SchemaJudge$Links" 43 y_Tx_size ∈ o_WS := List.mem_filter.mpr ⟨o_tb5 _ (List.mem_of_getElem? (i := 149) rfl), rfl⟩
theorem k_1_234 : Cond.fieldLink "SchemaJudge$Links" 27 "SchemaJudge$Links" "length" "I" ∈ o_WS := List.mem_filter.mpr ⟨o_tb1 _ (List.mem_of_getElem? (i := 234) rfl), rfl⟩
theorem k_1_233 : Cond.fieldLink "SchemaJudge$Links" 9 "SchemaJudge$Links" "characters" "[I" ∈ o_WS := List.mem_filter.mpr ⟨o_tb1 _ (List.mem_of_getElem? (i := 233) rfl), rfl⟩
theorem k_5_156 : Cond.methodLink "SchemaJudge$Links" 59 y_Lk_decodeOctets ∈ o_WS := List.mem_filter.mpr ⟨o_tb5 _ (List.mem_of_getElem? (i := 156) rfl), rfl⟩
theorem k_5_158 : Cond.instanceMethod y_Lk_decodeOctets ∈ o_WS := List.mem_filter.mpr ⟨o_tb5 _ (List.mem_of_getElem? (i := 158) rfl), rfl⟩
theorem k_s_49 : Cond.selects "SchemaJudge$Links" y_Lk_decodeOctets y_Lk_decodeOctets ∈ o_WS := List.mem_filter.mpr ⟨List.mem_append_left _ (List.mem_of_getElem? (i := 49) rfl), rfl⟩
theorem k_5_159 : cc_Lk_decodeOctets ∈ o_WS := List.mem_filter.mpr ⟨o_tb5 _ (List.mem_of_getElem? (i := 159) rfl), rfl⟩
theorem k_5_172 : Cond.methodLink "SchemaJudge$Links" 102 y_Tx_kind ∈ o_WS := List.mem_filter.mpr ⟨o_tb5 _ (List.mem_of_getElem? (i := 172) rfl), rfl⟩
theorem k_5_182 : Cond.methodLink "SchemaJudge$Links" 111 y_Tx_firstChild ∈ o_WS := List.mem_filter.mpr ⟨o_tb5 _ (List.mem_of_getElem? (i := 182) rfl), rfl⟩
theorem k_5_183 : Cond.methodLink "SchemaJudge$Links" 91 y_Lk_isNamed ∈ o_WS := List.mem_filter.mpr ⟨o_tb5 _ (List.mem_of_getElem? (i := 183) rfl), rfl⟩
theorem k_5_185 : Cond.instanceMethod y_Lk_isNamed ∈ o_WS := List.mem_filter.mpr ⟨o_tb5 _ (List.mem_of_getElem? (i := 185) rfl), rfl⟩
theorem k_s_53 : Cond.selects "SchemaJudge$Links" y_Lk_isNamed y_Lk_isNamed ∈ o_WS := List.mem_filter.mpr ⟨List.mem_append_left _ (List.mem_of_getElem? (i := 53) rfl), rfl⟩
theorem k_5_186 : cc_Lk_isNamed ∈ o_WS := List.mem_filter.mpr ⟨o_tb5 _ (List.mem_of_getElem? (i := 186) rfl), rfl⟩
theorem k_5_187 : Cond.methodLink "SchemaJudge$Links" 114 y_Tx_nextChild ∈ o_WS := List.mem_filter.mpr ⟨o_tb5 _ (List.mem_of_getElem? (i := 187) rfl), rfl⟩
theorem k_5_173 : Cond.methodLink "SchemaJudge$Links" 105 y_Lk_placeNumber ∈ o_WS := List.mem_filter.mpr ⟨o_tb5 _ (List.mem_of_getElem? (i := 173) rfl), rfl⟩
theorem k_5_175 : Cond.instanceMethod y_Lk_placeNumber ∈ o_WS := List.mem_filter.mpr ⟨o_tb5 _ (List.mem_of_getElem? (i := 175) rfl), rfl⟩
theorem k_s_52 : Cond.selects "SchemaJudge$Links" y_Lk_placeNumber y_Lk_placeNumber ∈ o_WS := List.mem_filter.mpr ⟨List.mem_append_left _ (List.mem_of_getElem? (i := 52) rfl), rfl⟩
theorem k_5_176 : cc_Lk_placeNumber ∈ o_WS := List.mem_filter.mpr ⟨o_tb5 _ (List.mem_of_getElem? (i := 176) rfl), rfl⟩
theorem k_3_210 : Cond.methodLink "SchemaJudge$Text" 53 y_Tx_firstChild ∈ o_WS := List.mem_filter.mpr ⟨o_tb3 _ (List.mem_of_getElem? (i := 210) rfl), rfl⟩
theorem k_3_221 : Cond.methodLink "SchemaJudge$Text" 57 y_Tx_nextChild ∈ o_WS := List.mem_filter.mpr ⟨o_tb3 _ (List.mem_of_getElem? (i := 221) rfl), rfl⟩
theorem k_5_178 : Cond.methodLink "SchemaJudge$Links" 108 y_Tx_element ∈ o_WS := List.mem_filter.mpr ⟨o_tb5 _ (List.mem_of_getElem? (i := 178) rfl), rfl⟩
theorem k_5_179 : Cond.instanceMethod y_Tx_element ∈ o_WS := List.mem_filter.mpr ⟨o_tb5 _ (List.mem_of_getElem? (i := 179) rfl), rfl⟩
theorem k_5_180 : Cond.selects "SchemaJudge$Text" y_Tx_element y_Tx_element ∈ o_WS := List.mem_filter.mpr ⟨o_tb5 _ (List.mem_of_getElem? (i := 180) rfl), rfl⟩
theorem k_5_181 : cc_Tx_element ∈ o_WS := List.mem_filter.mpr ⟨o_tb5 _ (List.mem_of_getElem? (i := 181) rfl), rfl⟩
theorem k_5_168 : Cond.methodLink "SchemaJudge$Links" 98 y_Lk_step ∈ o_WS := List.mem_filter.mpr ⟨o_tb5 _ (List.mem_of_getElem? (i := 168) rfl), rfl⟩
theorem k_5_170 : Cond.instanceMethod y_Lk_step ∈ o_WS := List.mem_filter.mpr ⟨o_tb5 _ (List.mem_of_getElem? (i := 170) rfl), rfl⟩
theorem k_s_51 : Cond.selects "SchemaJudge$Links" y_Lk_step y_Lk_step ∈ o_WS := List.mem_filter.mpr ⟨List.mem_append_left _ (List.mem_of_getElem? (i := 51) rfl), rfl⟩
theorem k_5_171 : cc_Lk_step ∈ o_WS := List.mem_filter.mpr ⟨o_tb5 _ (List.mem_of_getElem? (i := 171) rfl), rfl⟩
theorem k_5_192 : Cond.methodLink "SchemaJudge$Links" 78 y_Tx_total ∈ o_WS := List.mem_filter.mpr ⟨o_tb5 _ (List.mem_of_getElem? (i := 192) rfl), rfl⟩
theorem k_1_232 : Cond.fieldLink "SchemaJudge$Links" 19 "SchemaJudge$Links" "marks" "LSchemaJudge$Marks;" ∈ o_WS := List.mem_filter.mpr ⟨o_tb1 _ (List.mem_of_getElem? (i := 232) rfl), rfl⟩
theorem k_5_145 : Cond.methodLink "SchemaJudge$Links" 23 y_Lk_decode ∈ o_WS := List.mem_filter.mpr ⟨o_tb5 _ (List.mem_of_getElem? (i := 145) rfl), rfl⟩
theorem k_5_147 : Cond.instanceMethod y_Lk_decode ∈ o_WS := List.mem_filter.mpr ⟨o_tb5 _ (List.mem_of_getElem? (i := 147) rfl), rfl⟩
theorem k_s_47 : Cond.selects "SchemaJudge$Links" y_Lk_decode y_Lk_decode ∈ o_WS := List.mem_filter.mpr ⟨List.mem_append_left _ (List.mem_of_getElem? (i := 47) rfl), rfl⟩
theorem k_5_148 : cc_Lk_decode ∈ o_WS := List.mem_filter.mpr ⟨o_tb5 _ (List.mem_of_getElem? (i := 148) rfl), rfl⟩
theorem k_2_13 : Cond.fieldLink "SchemaJudge$Checker" 19 "SchemaJudge$Checker" "reachedFrom" "[I" ∈ o_WS := List.mem_filter.mpr ⟨o_tb2 _ (List.mem_of_getElem? (i := 13) rfl), rfl⟩
theorem k_2_14 : Cond.fieldLink "SchemaJudge$Checker" 230 "SchemaJudge$Checker" "reachedCount" "I" ∈ o_WS := List.mem_filter.mpr ⟨o_tb2 _ (List.mem_of_getElem? (i := 14) rfl), rfl⟩
theorem k_2_11 : Cond.fieldLink "SchemaJudge$Checker" 9 "SchemaJudge$Checker" "aimedAt" "[Z" ∈ o_WS := List.mem_filter.mpr ⟨o_tb2 _ (List.mem_of_getElem? (i := 11) rfl), rfl⟩
theorem k_4_37 : Cond.methodLink "SchemaJudge$Checker" 50 y_Mk_clear ∈ o_WS := List.mem_filter.mpr ⟨o_tb4 _ (List.mem_of_getElem? (i := 37) rfl), rfl⟩
theorem k_4_38 : Cond.instanceMethod y_Mk_clear ∈ o_WS := List.mem_filter.mpr ⟨o_tb4 _ (List.mem_of_getElem? (i := 38) rfl), rfl⟩
theorem k_4_39 : Cond.selects "SchemaJudge$Marks" y_Mk_clear y_Mk_clear ∈ o_WS := List.mem_filter.mpr ⟨o_tb4 _ (List.mem_of_getElem? (i := 39) rfl), rfl⟩
theorem k_4_40 : cc_Mk_clear ∈ o_WS := List.mem_filter.mpr ⟨o_tb4 _ (List.mem_of_getElem? (i := 40) rfl), rfl⟩
theorem k_4_62 : Cond.methodLink "SchemaJudge$Checker" 65 y_Mk_isSchema ∈ o_WS := List.mem_filter.mpr ⟨o_tb4 _ (List.mem_of_getElem? (i := 62) rfl), rfl⟩
theorem k_4_63 : Cond.instanceMethod y_Mk_isSchema ∈ o_WS := List.mem_filter.mpr ⟨o_tb4 _ (List.mem_of_getElem? (i := 63) rfl), rfl⟩
theorem k_4_64 : Cond.selects "SchemaJudge$Marks" y_Mk_isSchema y_Mk_isSchema ∈ o_WS := List.mem_filter.mpr ⟨o_tb4 _ (List.mem_of_getElem? (i := 64) rfl), rfl⟩
theorem k_4_65 : cc_Mk_isSchema ∈ o_WS := List.mem_filter.mpr ⟨o_tb4 _ (List.mem_of_getElem? (i := 65) rfl), rfl⟩
theorem k_2_66 : Cond.fieldLink "SchemaJudge$Pairs" 18 "SchemaJudge$Pairs" "size" "I" ∈ o_WS := List.mem_filter.mpr ⟨o_tb2 _ (List.mem_of_getElem? (i := 66) rfl), rfl⟩
theorem k_2_80 : Cond.fieldLink "SchemaJudge$Judge" 44 "SchemaJudge$Judge" "kept" "LSchemaJudge$Pairs;" ∈ o_WS := List.mem_filter.mpr ⟨o_tb2 _ (List.mem_of_getElem? (i := 80) rfl), rfl⟩
theorem k_6_3 : Cond.methodLink "SchemaJudge$Judge" 48 y_Pr_cut ∈ o_WS := List.mem_filter.mpr ⟨o_tb6 _ (List.mem_of_getElem? (i := 3) rfl), rfl⟩
theorem k_6_4 : Cond.instanceMethod y_Pr_cut ∈ o_WS := List.mem_filter.mpr ⟨o_tb6 _ (List.mem_of_getElem? (i := 4) rfl), rfl⟩
theorem k_6_5 : Cond.selects "SchemaJudge$Pairs" y_Pr_cut y_Pr_cut ∈ o_WS := List.mem_filter.mpr ⟨o_tb6 _ (List.mem_of_getElem? (i := 5) rfl), rfl⟩
theorem k_1_11 : Cond.initialized "SchemaJudge$Pairs" ∈ o_WS := List.mem_filter.mpr ⟨o_tb1 _ (List.mem_of_getElem? (i := 11) rfl), rfl⟩
theorem k_6_6 : cc_Pr_cut ∈ o_WS := List.mem_filter.mpr ⟨o_tb6 _ (List.mem_of_getElem? (i := 6) rfl), rfl⟩
theorem k_2_82 : Cond.fieldLink "SchemaJudge$Judge" 52 "SchemaJudge$Judge" "silences" "I" ∈ o_WS := List.mem_filter.mpr ⟨o_tb2 _ (List.mem_of_getElem? (i := 82) rfl), rfl⟩
theorem k_2_83 : Cond.fieldLink "SchemaJudge$Judge" 56 "SchemaJudge$Judge" "over" "Z" ∈ o_WS := List.mem_filter.mpr ⟨o_tb2 _ (List.mem_of_getElem? (i := 83) rfl), rfl⟩
theorem k_2_84 : Cond.fieldLink "SchemaJudge$Judge" 60 "SchemaJudge$Judge" "schemas" "I" ∈ o_WS := List.mem_filter.mpr ⟨o_tb2 _ (List.mem_of_getElem? (i := 84) rfl), rfl⟩
theorem k_2_85 : Cond.fieldLink "SchemaJudge$Judge" 63 "SchemaJudge$Judge" "deepest" "I" ∈ o_WS := List.mem_filter.mpr ⟨o_tb2 _ (List.mem_of_getElem? (i := 85) rfl), rfl⟩
theorem k_6_15 : Cond.methodLink "SchemaJudge$Judge" 81 (⟨"java/lang/Math", "max", "(II)I"⟩ : MethodName) ∈ o_WS := List.mem_filter.mpr ⟨o_tb6 _ (List.mem_of_getElem? (i := 15) rfl), rfl⟩
theorem k_2_81 : Cond.fieldLink "SchemaJudge$Judge" 9 "SchemaJudge$Judge" "evaluated" "[J" ∈ o_WS := List.mem_filter.mpr ⟨o_tb2 _ (List.mem_of_getElem? (i := 81) rfl), rfl⟩
theorem k_2_64 : Cond.fieldLink "SchemaJudge$Pairs" 9 "SchemaJudge$Pairs" "values" "[I" ∈ o_WS := List.mem_filter.mpr ⟨o_tb2 _ (List.mem_of_getElem? (i := 64) rfl), rfl⟩
theorem k_2_65 : Cond.fieldLink "SchemaJudge$Pairs" 15 "SchemaJudge$Pairs" "keywords" "[I" ∈ o_WS := List.mem_filter.mpr ⟨o_tb2 _ (List.mem_of_getElem? (i := 65) rfl), rfl⟩
theorem k_6_21 : Cond.methodLink "SchemaJudge$Judge" 77 y_Pr_add ∈ o_WS := List.mem_filter.mpr ⟨o_tb6 _ (List.mem_of_getElem? (i := 21) rfl), rfl⟩
theorem k_6_22 : Cond.instanceMethod y_Pr_add ∈ o_WS := List.mem_filter.mpr ⟨o_tb6 _ (List.mem_of_getElem? (i := 22) rfl), rfl⟩
theorem k_6_23 : Cond.selects "SchemaJudge$Pairs" y_Pr_add y_Pr_add ∈ o_WS := List.mem_filter.mpr ⟨o_tb6 _ (List.mem_of_getElem? (i := 23) rfl), rfl⟩
theorem k_6_24 : cc_Pr_add ∈ o_WS := List.mem_filter.mpr ⟨o_tb6 _ (List.mem_of_getElem? (i := 24) rfl), rfl⟩
theorem k_1_125 : Cond.fieldLink "SchemaJudge$Program" 21 "SchemaJudge$Program" "rounds" "[I" ∈ o_WS := List.mem_filter.mpr ⟨o_tb1 _ (List.mem_of_getElem? (i := 125) rfl), rfl⟩
theorem k_1_127 : Cond.fieldLink "SchemaJudge$Program" 73 "SchemaJudge$Program" "top" "I" ∈ o_WS := List.mem_filter.mpr ⟨o_tb1 _ (List.mem_of_getElem? (i := 127) rfl), rfl⟩
theorem k_1_126 : Cond.fieldLink "SchemaJudge$Program" 24 "SchemaJudge$Program" "stack" "[I" ∈ o_WS := List.mem_filter.mpr ⟨o_tb1 _ (List.mem_of_getElem? (i := 126) rfl), rfl⟩
theorem k_6_90 : Cond.methodLink "SchemaJudge$Program" 76 y_Pg_push ∈ o_WS := List.mem_filter.mpr ⟨o_tb6 _ (List.mem_of_getElem? (i := 90) rfl), rfl⟩
theorem k_6_92 : Cond.instanceMethod y_Pg_push ∈ o_WS := List.mem_filter.mpr ⟨o_tb6 _ (List.mem_of_getElem? (i := 92) rfl), rfl⟩
theorem k_s_63 : Cond.selects "SchemaJudge$Program" y_Pg_push y_Pg_push ∈ o_WS := List.mem_filter.mpr ⟨List.mem_append_left _ (List.mem_of_getElem? (i := 63) rfl), rfl⟩
theorem k_6_93 : cc_Pg_push ∈ o_WS := List.mem_filter.mpr ⟨o_tb6 _ (List.mem_of_getElem? (i := 93) rfl), rfl⟩
theorem k_1_129 : Cond.fieldLink "SchemaJudge$Program" 70 "SchemaJudge$Program" "waitingCount" "I" ∈ o_WS := List.mem_filter.mpr ⟨o_tb1 _ (List.mem_of_getElem? (i := 129) rfl), rfl⟩
theorem k_1_128 : Cond.fieldLink "SchemaJudge$Program" 27 "SchemaJudge$Program" "waiting" "[I" ∈ o_WS := List.mem_filter.mpr ⟨o_tb1 _ (List.mem_of_getElem? (i := 128) rfl), rfl⟩
theorem k_6_106 : Cond.constant "SchemaJudge$Program" 95 (65279 : Int32) ∈ o_WS := List.mem_filter.mpr ⟨o_tb6 _ (List.mem_of_getElem? (i := 106) rfl), rfl⟩
theorem k_6_104 : Cond.static y_Pg_inClasses ∈ o_WS := List.mem_filter.mpr ⟨o_tb6 _ (List.mem_of_getElem? (i := 104) rfl), rfl⟩
theorem k_6_105 : cc_Pg_inClasses ∈ o_WS := List.mem_filter.mpr ⟨o_tb6 _ (List.mem_of_getElem? (i := 105) rfl), rfl⟩
theorem k_6_103 : Cond.methodLink "SchemaJudge$Program" 89 y_Pg_inClasses ∈ o_WS := List.mem_filter.mpr ⟨o_tb6 _ (List.mem_of_getElem? (i := 103) rfl), rfl⟩
theorem k_6_107 : Cond.methodLink "SchemaJudge$Program" 92 y_Pg_inRanges ∈ o_WS := List.mem_filter.mpr ⟨o_tb6 _ (List.mem_of_getElem? (i := 107) rfl), rfl⟩
theorem k_6_109 : Cond.instanceMethod y_Pg_inRanges ∈ o_WS := List.mem_filter.mpr ⟨o_tb6 _ (List.mem_of_getElem? (i := 109) rfl), rfl⟩
theorem k_s_66 : Cond.selects "SchemaJudge$Program" y_Pg_inRanges y_Pg_inRanges ∈ o_WS := List.mem_filter.mpr ⟨List.mem_append_left _ (List.mem_of_getElem? (i := 66) rfl), rfl⟩
theorem k_6_110 : cc_Pg_inRanges ∈ o_WS := List.mem_filter.mpr ⟨o_tb6 _ (List.mem_of_getElem? (i := 110) rfl), rfl⟩
theorem k_2_77 : Cond.fieldLink "SchemaJudge$Judge" 26 "SchemaJudge$Judge" "pattern" "LSchemaJudge$Pattern;" ∈ o_WS := List.mem_filter.mpr ⟨o_tb2 _ (List.mem_of_getElem? (i := 77) rfl), rfl⟩
theorem k_2_74 : Cond.fieldLink "SchemaJudge$Judge" 15 "SchemaJudge$Judge" "text" "LSchemaJudge$Text;" ∈ o_WS := List.mem_filter.mpr ⟨o_tb2 _ (List.mem_of_getElem? (i := 74) rfl), rfl⟩
theorem k_2_76 : Cond.fieldLink "SchemaJudge$Judge" 23 "SchemaJudge$Judge" "instance" "LSchemaJudge$Text;" ∈ o_WS := List.mem_filter.mpr ⟨o_tb2 _ (List.mem_of_getElem? (i := 76) rfl), rfl⟩
theorem k_6_25 : Cond.methodLink "SchemaJudge$Judge" 100 y_Tx_firstChild ∈ o_WS := List.mem_filter.mpr ⟨o_tb6 _ (List.mem_of_getElem? (i := 25) rfl), rfl⟩
theorem k_6_26 : Cond.methodLink "SchemaJudge$Judge" 103 y_Tx_size ∈ o_WS := List.mem_filter.mpr ⟨o_tb6 _ (List.mem_of_getElem? (i := 26) rfl), rfl⟩
theorem k_3_214 : Cond.methodLink "SchemaJudge$Text" 60 y_Tx_size ∈ o_WS := List.mem_filter.mpr ⟨o_tb3 _ (List.mem_of_getElem? (i := 214) rfl), rfl⟩
theorem k_3_218 : Cond.methodLink "SchemaJudge$Text" 63 y_Tx_sameString ∈ o_WS := List.mem_filter.mpr ⟨o_tb3 _ (List.mem_of_getElem? (i := 218) rfl), rfl⟩
theorem k_6_118 : Cond.methodLink "SchemaJudge$Judge" 195 y_Tx_member ∈ o_WS := List.mem_filter.mpr ⟨o_tb6 _ (List.mem_of_getElem? (i := 118) rfl), rfl⟩
theorem k_3_207 : Cond.instanceMethod y_Tx_member ∈ o_WS := List.mem_filter.mpr ⟨o_tb3 _ (List.mem_of_getElem? (i := 207) rfl), rfl⟩
theorem k_3_208 : Cond.selects "SchemaJudge$Text" y_Tx_member y_Tx_member ∈ o_WS := List.mem_filter.mpr ⟨o_tb3 _ (List.mem_of_getElem? (i := 208) rfl), rfl⟩
theorem k_3_209 : cc_Tx_member ∈ o_WS := List.mem_filter.mpr ⟨o_tb3 _ (List.mem_of_getElem? (i := 209) rfl), rfl⟩
theorem k_6_28 : Cond.methodLink "SchemaJudge$Judge" 111 y_Tx_nextChild ∈ o_WS := List.mem_filter.mpr ⟨o_tb6 _ (List.mem_of_getElem? (i := 28) rfl), rfl⟩
theorem k_6_16 : Cond.methodLink "SchemaJudge$Judge" 91 y_Tx_kind ∈ o_WS := List.mem_filter.mpr ⟨o_tb6 _ (List.mem_of_getElem? (i := 16) rfl), rfl⟩
theorem k_5_64 : Cond.methodLink "SchemaJudge$Text" 77 y_Tx_kind ∈ o_WS := List.mem_filter.mpr ⟨o_tb5 _ (List.mem_of_getElem? (i := 64) rfl), rfl⟩
theorem k_6_187 : Cond.methodLink "SchemaJudge$Text" 95 y_Tx_member ∈ o_WS := List.mem_filter.mpr ⟨o_tb6 _ (List.mem_of_getElem? (i := 187) rfl), rfl⟩
theorem k_2_51 : Cond.fieldLink "SchemaJudge$LongDivision" 13 "SchemaJudge$LongDivision" "rest" "[J" ∈ o_WS := List.mem_filter.mpr ⟨o_tb2 _ (List.mem_of_getElem? (i := 51) rfl), rfl⟩
theorem k_2_50 : Cond.fieldLink "SchemaJudge$LongDivision" 9 "SchemaJudge$LongDivision" "divisor" "[J" ∈ o_WS := List.mem_filter.mpr ⟨o_tb2 _ (List.mem_of_getElem? (i := 50) rfl), rfl⟩
theorem k_6_209 : Cond.methodLink "SchemaJudge$LongDivision" 55 y_Ld_restReaches ∈ o_WS := List.mem_filter.mpr ⟨o_tb6 _ (List.mem_of_getElem? (i := 209) rfl), rfl⟩
theorem k_6_211 : Cond.instanceMethod y_Ld_restReaches ∈ o_WS := List.mem_filter.mpr ⟨o_tb6 _ (List.mem_of_getElem? (i := 211) rfl), rfl⟩
theorem k_s_76 : Cond.selects "SchemaJudge$LongDivision" y_Ld_restReaches y_Ld_restReaches ∈ o_WS := List.mem_filter.mpr ⟨List.mem_append_left _ (List.mem_of_getElem? (i := 76) rfl), rfl⟩
theorem k_1_10 : Cond.initialized "SchemaJudge$LongDivision" ∈ o_WS := List.mem_filter.mpr ⟨o_tb1 _ (List.mem_of_getElem? (i := 10) rfl), rfl⟩
theorem k_6_212 : cc_Ld_restReaches ∈ o_WS := List.mem_filter.mpr ⟨o_tb6 _ (List.mem_of_getElem? (i := 212) rfl), rfl⟩
theorem k_6_203 : Cond.constantLong "SchemaJudge$LongDivision" 53 (1000000000 : Int64) ∈ o_WS := List.mem_filter.mpr ⟨o_tb6 _ (List.mem_of_getElem? (i := 203) rfl), rfl⟩
theorem k_6_222 : Cond.methodLink "SchemaJudge$Judge" 274 y_Jd_hasAll ∈ o_WS := List.mem_filter.mpr ⟨o_tb6 _ (List.mem_of_getElem? (i := 222) rfl), rfl⟩
theorem k_6_224 : Cond.instanceMethod y_Jd_hasAll ∈ o_WS := List.mem_filter.mpr ⟨o_tb6 _ (List.mem_of_getElem? (i := 224) rfl), rfl⟩
theorem k_s_79 : Cond.selects "SchemaJudge$Judge" y_Jd_hasAll y_Jd_hasAll ∈ o_WS := List.mem_filter.mpr ⟨List.mem_append_left _ (List.mem_of_getElem? (i := 79) rfl), rfl⟩
theorem k_1_9 : Cond.initialized "SchemaJudge$Judge" ∈ o_WS := List.mem_filter.mpr ⟨o_tb1 _ (List.mem_of_getElem? (i := 9) rfl), rfl⟩
theorem k_6_225 : cc_Jd_hasAll ∈ o_WS := List.mem_filter.mpr ⟨o_tb6 _ (List.mem_of_getElem? (i := 225) rfl), rfl⟩
theorem k_6_11 : Cond.methodLink "SchemaJudge$Judge" 87 y_Jd_enter ∈ o_WS := List.mem_filter.mpr ⟨o_tb6 _ (List.mem_of_getElem? (i := 11) rfl), rfl⟩
theorem k_6_13 : Cond.instanceMethod y_Jd_enter ∈ o_WS := List.mem_filter.mpr ⟨o_tb6 _ (List.mem_of_getElem? (i := 13) rfl), rfl⟩
theorem k_s_58 : Cond.selects "SchemaJudge$Judge" y_Jd_enter y_Jd_enter ∈ o_WS := List.mem_filter.mpr ⟨List.mem_append_left _ (List.mem_of_getElem? (i := 58) rfl), rfl⟩
theorem k_6_14 : cc_Jd_enter ∈ o_WS := List.mem_filter.mpr ⟨o_tb6 _ (List.mem_of_getElem? (i := 14) rfl), rfl⟩
theorem k_2_75 : Cond.fieldLink "SchemaJudge$Judge" 19 "SchemaJudge$Judge" "marks" "LSchemaJudge$Marks;" ∈ o_WS := List.mem_filter.mpr ⟨o_tb2 _ (List.mem_of_getElem? (i := 75) rfl), rfl⟩
theorem k_6_234 : Cond.methodLink "SchemaJudge$Judge" 66 y_Pr_sort ∈ o_WS := List.mem_filter.mpr ⟨o_tb6 _ (List.mem_of_getElem? (i := 234) rfl), rfl⟩
theorem k_6_235 : Cond.instanceMethod y_Pr_sort ∈ o_WS := List.mem_filter.mpr ⟨o_tb6 _ (List.mem_of_getElem? (i := 235) rfl), rfl⟩
theorem k_6_236 : Cond.selects "SchemaJudge$Pairs" y_Pr_sort y_Pr_sort ∈ o_WS := List.mem_filter.mpr ⟨o_tb6 _ (List.mem_of_getElem? (i := 236) rfl), rfl⟩
theorem k_6_237 : cc_Pr_sort ∈ o_WS := List.mem_filter.mpr ⟨o_tb6 _ (List.mem_of_getElem? (i := 237) rfl), rfl⟩
theorem k_2_156 : Cond.methodLink "SchemaJudge$Judge" 69 y_Pr_size ∈ o_WS := List.mem_filter.mpr ⟨o_tb2 _ (List.mem_of_getElem? (i := 156) rfl), rfl⟩
theorem k_2_157 : Cond.instanceMethod y_Pr_size ∈ o_WS := List.mem_filter.mpr ⟨o_tb2 _ (List.mem_of_getElem? (i := 157) rfl), rfl⟩
theorem k_2_158 : Cond.selects "SchemaJudge$Pairs" y_Pr_size y_Pr_size ∈ o_WS := List.mem_filter.mpr ⟨o_tb2 _ (List.mem_of_getElem? (i := 158) rfl), rfl⟩
theorem k_2_159 : cc_Pr_size ∈ o_WS := List.mem_filter.mpr ⟨o_tb2 _ (List.mem_of_getElem? (i := 159) rfl), rfl⟩
theorem k_7_30 : Cond.methodLink "SchemaJudge$Judge" 73 y_Pr_at ∈ o_WS := List.mem_filter.mpr ⟨o_tb7 _ (List.mem_of_getElem? (i := 30) rfl), rfl⟩
theorem k_7_31 : Cond.instanceMethod y_Pr_at ∈ o_WS := List.mem_filter.mpr ⟨o_tb7 _ (List.mem_of_getElem? (i := 31) rfl), rfl⟩
theorem k_7_32 : Cond.selects "SchemaJudge$Pairs" y_Pr_at y_Pr_at ∈ o_WS := List.mem_filter.mpr ⟨o_tb7 _ (List.mem_of_getElem? (i := 32) rfl), rfl⟩
theorem k_7_33 : cc_Pr_at ∈ o_WS := List.mem_filter.mpr ⟨o_tb7 _ (List.mem_of_getElem? (i := 33) rfl), rfl⟩
theorem k_1_57 : Cond.fieldLink "SchemaJudge$Text" 47 "SchemaJudge$Text" "used" "I" ∈ o_WS := List.mem_filter.mpr ⟨o_tb1 _ (List.mem_of_getElem? (i := 57) rfl), rfl⟩
theorem k_1_58 : Cond.fieldLink "SchemaJudge$Text" 50 "SchemaJudge$Text" "characters" "I" ∈ o_WS := List.mem_filter.mpr ⟨o_tb1 _ (List.mem_of_getElem? (i := 58) rfl), rfl⟩
theorem k_1_47 : Cond.fieldLink "SchemaJudge$Text" 15 "SchemaJudge$Text" "places" "[I" ∈ o_WS := List.mem_filter.mpr ⟨o_tb1 _ (List.mem_of_getElem? (i := 47) rfl), rfl⟩
theorem k_1_50 : Cond.fieldLink "SchemaJudge$Text" 24 "SchemaJudge$Text" "exponents" "[I" ∈ o_WS := List.mem_filter.mpr ⟨o_tb1 _ (List.mem_of_getElem? (i := 50) rfl), rfl⟩
theorem k_1_54 : Cond.fieldLink "SchemaJudge$Text" 36 "SchemaJudge$Text" "negatives" "[Z" ∈ o_WS := List.mem_filter.mpr ⟨o_tb1 _ (List.mem_of_getElem? (i := 54) rfl), rfl⟩
theorem k_1_96 : Cond.fieldLink "SchemaJudge$Reader" 15 "SchemaJudge$Reader" "text" "LSchemaJudge$Text;" ∈ o_WS := List.mem_filter.mpr ⟨o_tb1 _ (List.mem_of_getElem? (i := 96) rfl), rfl⟩
theorem k_3_119 : Cond.methodLink "SchemaJudge$Reader" 123 y_Tx_addDigit ∈ o_WS := List.mem_filter.mpr ⟨o_tb3 _ (List.mem_of_getElem? (i := 119) rfl), rfl⟩
theorem k_3_120 : Cond.instanceMethod y_Tx_addDigit ∈ o_WS := List.mem_filter.mpr ⟨o_tb3 _ (List.mem_of_getElem? (i := 120) rfl), rfl⟩
theorem k_3_121 : Cond.selects "SchemaJudge$Text" y_Tx_addDigit y_Tx_addDigit ∈ o_WS := List.mem_filter.mpr ⟨o_tb3 _ (List.mem_of_getElem? (i := 121) rfl), rfl⟩
theorem k_3_122 : cc_Tx_addDigit ∈ o_WS := List.mem_filter.mpr ⟨o_tb3 _ (List.mem_of_getElem? (i := 122) rfl), rfl⟩
theorem k_3_115 : Cond.methodLink "SchemaJudge$Reader" 113 y_Rd_readDigits ∈ o_WS := List.mem_filter.mpr ⟨o_tb3 _ (List.mem_of_getElem? (i := 115) rfl), rfl⟩
theorem k_3_117 : Cond.instanceMethod y_Rd_readDigits ∈ o_WS := List.mem_filter.mpr ⟨o_tb3 _ (List.mem_of_getElem? (i := 117) rfl), rfl⟩
theorem k_s_7 : Cond.selects "SchemaJudge$Reader" y_Rd_readDigits y_Rd_readDigits ∈ o_WS := List.mem_filter.mpr ⟨List.mem_append_left _ (List.mem_of_getElem? (i := 7) rfl), rfl⟩
theorem k_3_118 : cc_Rd_readDigits ∈ o_WS := List.mem_filter.mpr ⟨o_tb3 _ (List.mem_of_getElem? (i := 118) rfl), rfl⟩
theorem k_3_123 : Cond.methodLink "SchemaJudge$Reader" 116 y_Rd_readExponent ∈ o_WS := List.mem_filter.mpr ⟨o_tb3 _ (List.mem_of_getElem? (i := 123) rfl), rfl⟩
theorem k_3_125 : Cond.instanceMethod y_Rd_readExponent ∈ o_WS := List.mem_filter.mpr ⟨o_tb3 _ (List.mem_of_getElem? (i := 125) rfl), rfl⟩
theorem k_s_8 : Cond.selects "SchemaJudge$Reader" y_Rd_readExponent y_Rd_readExponent ∈ o_WS := List.mem_filter.mpr ⟨List.mem_append_left _ (List.mem_of_getElem? (i := 8) rfl), rfl⟩
theorem k_3_126 : cc_Rd_readExponent ∈ o_WS := List.mem_filter.mpr ⟨o_tb3 _ (List.mem_of_getElem? (i := 126) rfl), rfl⟩
theorem k_3_127 : Cond.methodLink "SchemaJudge$Reader" 119 y_Tx_endNumber ∈ o_WS := List.mem_filter.mpr ⟨o_tb3 _ (List.mem_of_getElem? (i := 127) rfl), rfl⟩
theorem k_3_128 : Cond.instanceMethod y_Tx_endNumber ∈ o_WS := List.mem_filter.mpr ⟨o_tb3 _ (List.mem_of_getElem? (i := 128) rfl), rfl⟩
theorem k_3_129 : Cond.selects "SchemaJudge$Text" y_Tx_endNumber y_Tx_endNumber ∈ o_WS := List.mem_filter.mpr ⟨o_tb3 _ (List.mem_of_getElem? (i := 129) rfl), rfl⟩
theorem k_3_130 : cc_Tx_endNumber ∈ o_WS := List.mem_filter.mpr ⟨o_tb3 _ (List.mem_of_getElem? (i := 130) rfl), rfl⟩
theorem k_3_163 : Cond.methodLink "SchemaJudge$Reader" 133 y_Rd_readCharacter ∈ o_WS := List.mem_filter.mpr ⟨o_tb3 _ (List.mem_of_getElem? (i := 163) rfl), rfl⟩
theorem k_3_165 : Cond.instanceMethod y_Rd_readCharacter ∈ o_WS := List.mem_filter.mpr ⟨o_tb3 _ (List.mem_of_getElem? (i := 165) rfl), rfl⟩
theorem k_s_13 : Cond.selects "SchemaJudge$Reader" y_Rd_readCharacter y_Rd_readCharacter ∈ o_WS := List.mem_filter.mpr ⟨List.mem_append_left _ (List.mem_of_getElem? (i := 13) rfl), rfl⟩
theorem k_3_166 : cc_Rd_readCharacter ∈ o_WS := List.mem_filter.mpr ⟨o_tb3 _ (List.mem_of_getElem? (i := 166) rfl), rfl⟩
theorem k_3_182 : Cond.methodLink "SchemaJudge$Reader" 136 y_Tx_addCharacter ∈ o_WS := List.mem_filter.mpr ⟨o_tb3 _ (List.mem_of_getElem? (i := 182) rfl), rfl⟩
theorem k_3_183 : Cond.instanceMethod y_Tx_addCharacter ∈ o_WS := List.mem_filter.mpr ⟨o_tb3 _ (List.mem_of_getElem? (i := 183) rfl), rfl⟩
theorem k_3_184 : Cond.selects "SchemaJudge$Text" y_Tx_addCharacter y_Tx_addCharacter ∈ o_WS := List.mem_filter.mpr ⟨o_tb3 _ (List.mem_of_getElem? (i := 184) rfl), rfl⟩
theorem k_3_185 : cc_Tx_addCharacter ∈ o_WS := List.mem_filter.mpr ⟨o_tb3 _ (List.mem_of_getElem? (i := 185) rfl), rfl⟩
theorem k_3_139 : Cond.methodLink "SchemaJudge$Reader" 130 y_Rd_readEscape ∈ o_WS := List.mem_filter.mpr ⟨o_tb3 _ (List.mem_of_getElem? (i := 139) rfl), rfl⟩
theorem k_3_141 : Cond.instanceMethod y_Rd_readEscape ∈ o_WS := List.mem_filter.mpr ⟨o_tb3 _ (List.mem_of_getElem? (i := 141) rfl), rfl⟩
theorem k_s_10 : Cond.selects "SchemaJudge$Reader" y_Rd_readEscape y_Rd_readEscape ∈ o_WS := List.mem_filter.mpr ⟨List.mem_append_left _ (List.mem_of_getElem? (i := 10) rfl), rfl⟩
theorem k_3_142 : cc_Rd_readEscape ∈ o_WS := List.mem_filter.mpr ⟨o_tb3 _ (List.mem_of_getElem? (i := 142) rfl), rfl⟩
theorem k_3_135 : Cond.methodLink "SchemaJudge$Reader" 127 y_Tx_endString ∈ o_WS := List.mem_filter.mpr ⟨o_tb3 _ (List.mem_of_getElem? (i := 135) rfl), rfl⟩
theorem k_3_136 : Cond.instanceMethod y_Tx_endString ∈ o_WS := List.mem_filter.mpr ⟨o_tb3 _ (List.mem_of_getElem? (i := 136) rfl), rfl⟩
theorem k_3_137 : Cond.selects "SchemaJudge$Text" y_Tx_endString y_Tx_endString ∈ o_WS := List.mem_filter.mpr ⟨o_tb3 _ (List.mem_of_getElem? (i := 137) rfl), rfl⟩
theorem k_3_138 : cc_Tx_endString ∈ o_WS := List.mem_filter.mpr ⟨o_tb3 _ (List.mem_of_getElem? (i := 138) rfl), rfl⟩
theorem k_3_34 : Cond.methodLink "SchemaJudge$Reader" 41 y_Rd_skipBlanks ∈ o_WS := List.mem_filter.mpr ⟨o_tb3 _ (List.mem_of_getElem? (i := 34) rfl), rfl⟩
theorem k_3_36 : Cond.instanceMethod y_Rd_skipBlanks ∈ o_WS := List.mem_filter.mpr ⟨o_tb3 _ (List.mem_of_getElem? (i := 36) rfl), rfl⟩
theorem k_s_2 : Cond.selects "SchemaJudge$Reader" y_Rd_skipBlanks y_Rd_skipBlanks ∈ o_WS := List.mem_filter.mpr ⟨List.mem_append_left _ (List.mem_of_getElem? (i := 2) rfl), rfl⟩
theorem k_3_37 : cc_Rd_skipBlanks ∈ o_WS := List.mem_filter.mpr ⟨o_tb3 _ (List.mem_of_getElem? (i := 37) rfl), rfl⟩
theorem k_3_52 : Cond.methodLink "SchemaJudge$Reader" 59 y_Tx_begin ∈ o_WS := List.mem_filter.mpr ⟨o_tb3 _ (List.mem_of_getElem? (i := 52) rfl), rfl⟩
theorem k_3_53 : Cond.instanceMethod y_Tx_begin ∈ o_WS := List.mem_filter.mpr ⟨o_tb3 _ (List.mem_of_getElem? (i := 53) rfl), rfl⟩
theorem k_3_54 : Cond.selects "SchemaJudge$Text" y_Tx_begin y_Tx_begin ∈ o_WS := List.mem_filter.mpr ⟨o_tb3 _ (List.mem_of_getElem? (i := 54) rfl), rfl⟩
theorem k_3_55 : cc_Tx_begin ∈ o_WS := List.mem_filter.mpr ⟨o_tb3 _ (List.mem_of_getElem? (i := 55) rfl), rfl⟩
theorem k_3_206 : Cond.methodLink "SchemaJudge$Reader" 106 y_Tx_member ∈ o_WS := List.mem_filter.mpr ⟨o_tb3 _ (List.mem_of_getElem? (i := 206) rfl), rfl⟩
theorem k_3_225 : Cond.methodLink "SchemaJudge$Reader" 110 y_Tx_place ∈ o_WS := List.mem_filter.mpr ⟨o_tb3 _ (List.mem_of_getElem? (i := 225) rfl), rfl⟩
theorem k_3_226 : Cond.instanceMethod y_Tx_place ∈ o_WS := List.mem_filter.mpr ⟨o_tb3 _ (List.mem_of_getElem? (i := 226) rfl), rfl⟩
theorem k_3_227 : Cond.selects "SchemaJudge$Text" y_Tx_place y_Tx_place ∈ o_WS := List.mem_filter.mpr ⟨o_tb3 _ (List.mem_of_getElem? (i := 227) rfl), rfl⟩
theorem k_3_228 : cc_Tx_place ∈ o_WS := List.mem_filter.mpr ⟨o_tb3 _ (List.mem_of_getElem? (i := 228) rfl), rfl⟩
theorem k_3_198 : Cond.methodLink "SchemaJudge$Reader" 99 y_Rd_beginName ∈ o_WS := List.mem_filter.mpr ⟨o_tb3 _ (List.mem_of_getElem? (i := 198) rfl), rfl⟩
theorem k_3_200 : Cond.instanceMethod y_Rd_beginName ∈ o_WS := List.mem_filter.mpr ⟨o_tb3 _ (List.mem_of_getElem? (i := 200) rfl), rfl⟩
theorem k_s_16 : Cond.selects "SchemaJudge$Reader" y_Rd_beginName y_Rd_beginName ∈ o_WS := List.mem_filter.mpr ⟨List.mem_append_left _ (List.mem_of_getElem? (i := 16) rfl), rfl⟩
theorem k_3_201 : cc_Rd_beginName ∈ o_WS := List.mem_filter.mpr ⟨o_tb3 _ (List.mem_of_getElem? (i := 201) rfl), rfl⟩
theorem k_3_131 : Cond.methodLink "SchemaJudge$Reader" 76 y_Rd_readString ∈ o_WS := List.mem_filter.mpr ⟨o_tb3 _ (List.mem_of_getElem? (i := 131) rfl), rfl⟩
theorem k_3_133 : Cond.instanceMethod y_Rd_readString ∈ o_WS := List.mem_filter.mpr ⟨o_tb3 _ (List.mem_of_getElem? (i := 133) rfl), rfl⟩
theorem k_s_9 : Cond.selects "SchemaJudge$Reader" y_Rd_readString y_Rd_readString ∈ o_WS := List.mem_filter.mpr ⟨List.mem_append_left _ (List.mem_of_getElem? (i := 9) rfl), rfl⟩
theorem k_3_134 : cc_Rd_readString ∈ o_WS := List.mem_filter.mpr ⟨o_tb3 _ (List.mem_of_getElem? (i := 134) rfl), rfl⟩
theorem k_3_202 : Cond.methodLink "SchemaJudge$Reader" 103 y_Rd_endName ∈ o_WS := List.mem_filter.mpr ⟨o_tb3 _ (List.mem_of_getElem? (i := 202) rfl), rfl⟩
theorem k_3_204 : Cond.instanceMethod y_Rd_endName ∈ o_WS := List.mem_filter.mpr ⟨o_tb3 _ (List.mem_of_getElem? (i := 204) rfl), rfl⟩
theorem k_s_17 : Cond.selects "SchemaJudge$Reader" y_Rd_endName y_Rd_endName ∈ o_WS := List.mem_filter.mpr ⟨List.mem_append_left _ (List.mem_of_getElem? (i := 17) rfl), rfl⟩
theorem k_3_205 : cc_Rd_endName ∈ o_WS := List.mem_filter.mpr ⟨o_tb3 _ (List.mem_of_getElem? (i := 205) rfl), rfl⟩
theorem k_3_43 : Cond.static y_Rd_kindThatBegins ∈ o_WS := List.mem_filter.mpr ⟨o_tb3 _ (List.mem_of_getElem? (i := 43) rfl), rfl⟩
theorem k_3_44 : cc_Rd_kindThatBegins ∈ o_WS := List.mem_filter.mpr ⟨o_tb3 _ (List.mem_of_getElem? (i := 44) rfl), rfl⟩
theorem k_3_42 : Cond.methodLink "SchemaJudge$Reader" 55 y_Rd_kindThatBegins ∈ o_WS := List.mem_filter.mpr ⟨o_tb3 _ (List.mem_of_getElem? (i := 42) rfl), rfl⟩
theorem k_5_65 : Cond.methodLink "SchemaJudge$Text" 80 y_Tx_sign ∈ o_WS := List.mem_filter.mpr ⟨o_tb5 _ (List.mem_of_getElem? (i := 65) rfl), rfl⟩
theorem k_5_57 : Cond.instanceMethod y_Tx_sign ∈ o_WS := List.mem_filter.mpr ⟨o_tb5 _ (List.mem_of_getElem? (i := 57) rfl), rfl⟩
theorem k_5_58 : Cond.selects "SchemaJudge$Text" y_Tx_sign y_Tx_sign ∈ o_WS := List.mem_filter.mpr ⟨o_tb5 _ (List.mem_of_getElem? (i := 58) rfl), rfl⟩
theorem k_5_59 : cc_Tx_sign ∈ o_WS := List.mem_filter.mpr ⟨o_tb5 _ (List.mem_of_getElem? (i := 59) rfl), rfl⟩
theorem k_5_66 : Cond.methodLink "SchemaJudge$Text" 83 y_Tx_exponent ∈ o_WS := List.mem_filter.mpr ⟨o_tb5 _ (List.mem_of_getElem? (i := 66) rfl), rfl⟩
theorem k_5_67 : Cond.instanceMethod y_Tx_exponent ∈ o_WS := List.mem_filter.mpr ⟨o_tb5 _ (List.mem_of_getElem? (i := 67) rfl), rfl⟩
theorem k_5_68 : Cond.selects "SchemaJudge$Text" y_Tx_exponent y_Tx_exponent ∈ o_WS := List.mem_filter.mpr ⟨o_tb5 _ (List.mem_of_getElem? (i := 68) rfl), rfl⟩
theorem k_5_69 : cc_Tx_exponent ∈ o_WS := List.mem_filter.mpr ⟨o_tb5 _ (List.mem_of_getElem? (i := 69) rfl), rfl⟩
theorem k_5_70 : Cond.methodLink "SchemaJudge$Text" 86 y_Tx_cell ∈ o_WS := List.mem_filter.mpr ⟨o_tb5 _ (List.mem_of_getElem? (i := 70) rfl), rfl⟩
theorem k_5_71 : Cond.constant "SchemaJudge$Text" 90 (1000000 : Int32) ∈ o_WS := List.mem_filter.mpr ⟨o_tb5 _ (List.mem_of_getElem? (i := 71) rfl), rfl⟩
theorem k_2_133 : Cond.lays "SchemaJudge" "SchemaJudge" "wrongAt" "I" ∈ o_WS := List.mem_filter.mpr ⟨o_tb2 _ (List.mem_of_getElem? (i := 133) rfl), rfl⟩
theorem k_2_131 : Cond.laysFinal "SchemaJudge" "SchemaJudge" "judge" "LSchemaJudge$Judge;" ∈ o_WS := List.mem_filter.mpr ⟨o_tb2 _ (List.mem_of_getElem? (i := 131) rfl), rfl⟩
theorem k_2_129 : Cond.laysFinal "SchemaJudge" "SchemaJudge" "checker" "LSchemaJudge$Checker;" ∈ o_WS := List.mem_filter.mpr ⟨o_tb2 _ (List.mem_of_getElem? (i := 129) rfl), rfl⟩
theorem k_2_127 : Cond.laysFinal "SchemaJudge" "SchemaJudge" "pattern" "LSchemaJudge$Pattern;" ∈ o_WS := List.mem_filter.mpr ⟨o_tb2 _ (List.mem_of_getElem? (i := 127) rfl), rfl⟩
theorem k_2_125 : Cond.laysFinal "SchemaJudge" "SchemaJudge" "program" "LSchemaJudge$Program;" ∈ o_WS := List.mem_filter.mpr ⟨o_tb2 _ (List.mem_of_getElem? (i := 125) rfl), rfl⟩
theorem k_2_123 : Cond.laysFinal "SchemaJudge" "SchemaJudge" "reader" "LSchemaJudge$Reader;" ∈ o_WS := List.mem_filter.mpr ⟨o_tb2 _ (List.mem_of_getElem? (i := 123) rfl), rfl⟩
theorem k_2_121 : Cond.laysFinal "SchemaJudge" "SchemaJudge" "instanceText" "LSchemaJudge$Text;" ∈ o_WS := List.mem_filter.mpr ⟨o_tb2 _ (List.mem_of_getElem? (i := 121) rfl), rfl⟩
theorem k_2_119 : Cond.laysFinal "SchemaJudge" "SchemaJudge" "schemaText" "LSchemaJudge$Text;" ∈ o_WS := List.mem_filter.mpr ⟨o_tb2 _ (List.mem_of_getElem? (i := 119) rfl), rfl⟩
theorem k_1_83 : Cond.lays "SchemaJudge$Text" "SchemaJudge$Text" "characters" "I" ∈ o_WS := List.mem_filter.mpr ⟨o_tb1 _ (List.mem_of_getElem? (i := 83) rfl), rfl⟩
theorem k_1_81 : Cond.lays "SchemaJudge$Text" "SchemaJudge$Text" "used" "I" ∈ o_WS := List.mem_filter.mpr ⟨o_tb1 _ (List.mem_of_getElem? (i := 81) rfl), rfl⟩
theorem k_1_79 : Cond.lays "SchemaJudge$Text" "SchemaJudge$Text" "total" "I" ∈ o_WS := List.mem_filter.mpr ⟨o_tb1 _ (List.mem_of_getElem? (i := 79) rfl), rfl⟩
theorem k_1_77 : Cond.laysFinal "SchemaJudge$Text" "SchemaJudge$Text" "cells" "[I" ∈ o_WS := List.mem_filter.mpr ⟨o_tb1 _ (List.mem_of_getElem? (i := 77) rfl), rfl⟩
theorem k_1_75 : Cond.laysFinal "SchemaJudge$Text" "SchemaJudge$Text" "negatives" "[Z" ∈ o_WS := List.mem_filter.mpr ⟨o_tb1 _ (List.mem_of_getElem? (i := 75) rfl), rfl⟩
theorem k_1_73 : Cond.laysFinal "SchemaJudge$Text" "SchemaJudge$Text" "slots" "[I" ∈ o_WS := List.mem_filter.mpr ⟨o_tb1 _ (List.mem_of_getElem? (i := 73) rfl), rfl⟩
theorem k_1_71 : Cond.laysFinal "SchemaJudge$Text" "SchemaJudge$Text" "afters" "[I" ∈ o_WS := List.mem_filter.mpr ⟨o_tb1 _ (List.mem_of_getElem? (i := 71) rfl), rfl⟩
theorem k_1_69 : Cond.laysFinal "SchemaJudge$Text" "SchemaJudge$Text" "starts" "[I" ∈ o_WS := List.mem_filter.mpr ⟨o_tb1 _ (List.mem_of_getElem? (i := 69) rfl), rfl⟩
theorem k_1_67 : Cond.laysFinal "SchemaJudge$Text" "SchemaJudge$Text" "exponents" "[I" ∈ o_WS := List.mem_filter.mpr ⟨o_tb1 _ (List.mem_of_getElem? (i := 67) rfl), rfl⟩
theorem k_1_65 : Cond.laysFinal "SchemaJudge$Text" "SchemaJudge$Text" "parents" "[I" ∈ o_WS := List.mem_filter.mpr ⟨o_tb1 _ (List.mem_of_getElem? (i := 65) rfl), rfl⟩
theorem k_1_63 : Cond.laysFinal "SchemaJudge$Text" "SchemaJudge$Text" "sizes" "[I" ∈ o_WS := List.mem_filter.mpr ⟨o_tb1 _ (List.mem_of_getElem? (i := 63) rfl), rfl⟩
theorem k_1_61 : Cond.laysFinal "SchemaJudge$Text" "SchemaJudge$Text" "places" "[I" ∈ o_WS := List.mem_filter.mpr ⟨o_tb1 _ (List.mem_of_getElem? (i := 61) rfl), rfl⟩
theorem k_1_59 : Cond.laysFinal "SchemaJudge$Text" "SchemaJudge$Text" "kinds" "[I" ∈ o_WS := List.mem_filter.mpr ⟨o_tb1 _ (List.mem_of_getElem? (i := 59) rfl), rfl⟩
theorem k_1_110 : Cond.lays "SchemaJudge$Reader" "SchemaJudge$Reader" "wrongPlace" "I" ∈ o_WS := List.mem_filter.mpr ⟨o_tb1 _ (List.mem_of_getElem? (i := 110) rfl), rfl⟩
theorem k_1_108 : Cond.lays "SchemaJudge$Reader" "SchemaJudge$Reader" "limit" "I" ∈ o_WS := List.mem_filter.mpr ⟨o_tb1 _ (List.mem_of_getElem? (i := 108) rfl), rfl⟩
theorem k_1_106 : Cond.lays "SchemaJudge$Reader" "SchemaJudge$Reader" "position" "I" ∈ o_WS := List.mem_filter.mpr ⟨o_tb1 _ (List.mem_of_getElem? (i := 106) rfl), rfl⟩
theorem k_1_104 : Cond.lays "SchemaJudge$Reader" "SchemaJudge$Reader" "text" "LSchemaJudge$Text;" ∈ o_WS := List.mem_filter.mpr ⟨o_tb1 _ (List.mem_of_getElem? (i := 104) rfl), rfl⟩
theorem k_1_102 : Cond.lays "SchemaJudge$Reader" "SchemaJudge$Reader" "wordCount" "I" ∈ o_WS := List.mem_filter.mpr ⟨o_tb1 _ (List.mem_of_getElem? (i := 102) rfl), rfl⟩
theorem k_1_100 : Cond.laysFinal "SchemaJudge$Reader" "SchemaJudge$Reader" "words" "[I" ∈ o_WS := List.mem_filter.mpr ⟨o_tb1 _ (List.mem_of_getElem? (i := 100) rfl), rfl⟩
theorem k_1_151 : Cond.laysFinal "SchemaJudge$Program" "SchemaJudge$Program" "moved" "[I" ∈ o_WS := List.mem_filter.mpr ⟨o_tb1 _ (List.mem_of_getElem? (i := 151) rfl), rfl⟩
theorem k_1_149 : Cond.lays "SchemaJudge$Program" "SchemaJudge$Program" "waitingCount" "I" ∈ o_WS := List.mem_filter.mpr ⟨o_tb1 _ (List.mem_of_getElem? (i := 149) rfl), rfl⟩
theorem k_1_147 : Cond.laysFinal "SchemaJudge$Program" "SchemaJudge$Program" "waiting" "[I" ∈ o_WS := List.mem_filter.mpr ⟨o_tb1 _ (List.mem_of_getElem? (i := 147) rfl), rfl⟩
theorem k_1_145 : Cond.lays "SchemaJudge$Program" "SchemaJudge$Program" "top" "I" ∈ o_WS := List.mem_filter.mpr ⟨o_tb1 _ (List.mem_of_getElem? (i := 145) rfl), rfl⟩
theorem k_1_143 : Cond.laysFinal "SchemaJudge$Program" "SchemaJudge$Program" "stack" "[I" ∈ o_WS := List.mem_filter.mpr ⟨o_tb1 _ (List.mem_of_getElem? (i := 143) rfl), rfl⟩
theorem k_1_141 : Cond.laysFinal "SchemaJudge$Program" "SchemaJudge$Program" "rounds" "[I" ∈ o_WS := List.mem_filter.mpr ⟨o_tb1 _ (List.mem_of_getElem? (i := 141) rfl), rfl⟩
theorem k_1_139 : Cond.lays "SchemaJudge$Program" "SchemaJudge$Program" "setsUsed" "I" ∈ o_WS := List.mem_filter.mpr ⟨o_tb1 _ (List.mem_of_getElem? (i := 139) rfl), rfl⟩
theorem k_1_137 : Cond.laysFinal "SchemaJudge$Program" "SchemaJudge$Program" "sets" "[I" ∈ o_WS := List.mem_filter.mpr ⟨o_tb1 _ (List.mem_of_getElem? (i := 137) rfl), rfl⟩
theorem k_1_135 : Cond.lays "SchemaJudge$Program" "SchemaJudge$Program" "length" "I" ∈ o_WS := List.mem_filter.mpr ⟨o_tb1 _ (List.mem_of_getElem? (i := 135) rfl), rfl⟩
theorem k_1_133 : Cond.laysFinal "SchemaJudge$Program" "SchemaJudge$Program" "arguments" "[I" ∈ o_WS := List.mem_filter.mpr ⟨o_tb1 _ (List.mem_of_getElem? (i := 133) rfl), rfl⟩
theorem k_1_131 : Cond.laysFinal "SchemaJudge$Program" "SchemaJudge$Program" "operations" "[I" ∈ o_WS := List.mem_filter.mpr ⟨o_tb1 _ (List.mem_of_getElem? (i := 131) rfl), rfl⟩
theorem k_1_197 : Cond.laysFinal "SchemaJudge$Pattern" "SchemaJudge$Pattern" "sizesBefore" "[I" ∈ o_WS := List.mem_filter.mpr ⟨o_tb1 _ (List.mem_of_getElem? (i := 197) rfl), rfl⟩
theorem k_1_195 : Cond.laysFinal "SchemaJudge$Pattern" "SchemaJudge$Pattern" "jumps" "[I" ∈ o_WS := List.mem_filter.mpr ⟨o_tb1 _ (List.mem_of_getElem? (i := 195) rfl), rfl⟩
theorem k_1_193 : Cond.laysFinal "SchemaJudge$Pattern" "SchemaJudge$Pattern" "branchStarts" "[I" ∈ o_WS := List.mem_filter.mpr ⟨o_tb1 _ (List.mem_of_getElem? (i := 193) rfl), rfl⟩
theorem k_1_191 : Cond.laysFinal "SchemaJudge$Pattern" "SchemaJudge$Pattern" "blockStarts" "[I" ∈ o_WS := List.mem_filter.mpr ⟨o_tb1 _ (List.mem_of_getElem? (i := 191) rfl), rfl⟩
theorem k_1_189 : Cond.lays "SchemaJudge$Pattern" "SchemaJudge$Pattern" "depth" "I" ∈ o_WS := List.mem_filter.mpr ⟨o_tb1 _ (List.mem_of_getElem? (i := 189) rfl), rfl⟩
theorem k_1_187 : Cond.lays "SchemaJudge$Pattern" "SchemaJudge$Pattern" "most" "I" ∈ o_WS := List.mem_filter.mpr ⟨o_tb1 _ (List.mem_of_getElem? (i := 187) rfl), rfl⟩
theorem k_1_185 : Cond.lays "SchemaJudge$Pattern" "SchemaJudge$Pattern" "least" "I" ∈ o_WS := List.mem_filter.mpr ⟨o_tb1 _ (List.mem_of_getElem? (i := 185) rfl), rfl⟩
theorem k_1_183 : Cond.lays "SchemaJudge$Pattern" "SchemaJudge$Pattern" "total" "I" ∈ o_WS := List.mem_filter.mpr ⟨o_tb1 _ (List.mem_of_getElem? (i := 183) rfl), rfl⟩
theorem k_1_181 : Cond.lays "SchemaJudge$Pattern" "SchemaJudge$Pattern" "position" "I" ∈ o_WS := List.mem_filter.mpr ⟨o_tb1 _ (List.mem_of_getElem? (i := 181) rfl), rfl⟩
theorem k_1_179 : Cond.lays "SchemaJudge$Pattern" "SchemaJudge$Pattern" "tokenCount" "I" ∈ o_WS := List.mem_filter.mpr ⟨o_tb1 _ (List.mem_of_getElem? (i := 179) rfl), rfl⟩
theorem k_1_177 : Cond.lays "SchemaJudge$Pattern" "SchemaJudge$Pattern" "characterCount" "I" ∈ o_WS := List.mem_filter.mpr ⟨o_tb1 _ (List.mem_of_getElem? (i := 177) rfl), rfl⟩
theorem k_1_175 : Cond.laysFinal "SchemaJudge$Pattern" "SchemaJudge$Pattern" "tokens" "[I" ∈ o_WS := List.mem_filter.mpr ⟨o_tb1 _ (List.mem_of_getElem? (i := 175) rfl), rfl⟩
theorem k_1_173 : Cond.laysFinal "SchemaJudge$Pattern" "SchemaJudge$Pattern" "program" "LSchemaJudge$Program;" ∈ o_WS := List.mem_filter.mpr ⟨o_tb1 _ (List.mem_of_getElem? (i := 173) rfl), rfl⟩
theorem k_1_216 : Cond.laysFinal "SchemaJudge$Marks" "SchemaJudge$Marks" "targets" "[I" ∈ o_WS := List.mem_filter.mpr ⟨o_tb1 _ (List.mem_of_getElem? (i := 216) rfl), rfl⟩
theorem k_1_214 : Cond.laysFinal "SchemaJudge$Marks" "SchemaJudge$Marks" "schemas" "[Z" ∈ o_WS := List.mem_filter.mpr ⟨o_tb1 _ (List.mem_of_getElem? (i := 214) rfl), rfl⟩
theorem k_1_212 : Cond.laysFinal "SchemaJudge$Marks" "SchemaJudge$Marks" "keywords" "[I" ∈ o_WS := List.mem_filter.mpr ⟨o_tb1 _ (List.mem_of_getElem? (i := 212) rfl), rfl⟩
theorem k_1_210 : Cond.laysFinal "SchemaJudge$Marks" "SchemaJudge$Marks" "text" "LSchemaJudge$Text;" ∈ o_WS := List.mem_filter.mpr ⟨o_tb1 _ (List.mem_of_getElem? (i := 210) rfl), rfl⟩
theorem k_2_4 : Cond.lays "SchemaJudge$Links" "SchemaJudge$Links" "position" "I" ∈ o_WS := List.mem_filter.mpr ⟨o_tb2 _ (List.mem_of_getElem? (i := 4) rfl), rfl⟩
theorem k_2_2 : Cond.lays "SchemaJudge$Links" "SchemaJudge$Links" "length" "I" ∈ o_WS := List.mem_filter.mpr ⟨o_tb2 _ (List.mem_of_getElem? (i := 2) rfl), rfl⟩
theorem k_2_0 : Cond.laysFinal "SchemaJudge$Links" "SchemaJudge$Links" "characters" "[I" ∈ o_WS := List.mem_filter.mpr ⟨o_tb2 _ (List.mem_of_getElem? (i := 0) rfl), rfl⟩
theorem k_1_238 : Cond.laysFinal "SchemaJudge$Links" "SchemaJudge$Links" "marks" "LSchemaJudge$Marks;" ∈ o_WS := List.mem_filter.mpr ⟨o_tb1 _ (List.mem_of_getElem? (i := 238) rfl), rfl⟩
theorem k_1_236 : Cond.laysFinal "SchemaJudge$Links" "SchemaJudge$Links" "text" "LSchemaJudge$Text;" ∈ o_WS := List.mem_filter.mpr ⟨o_tb1 _ (List.mem_of_getElem? (i := 236) rfl), rfl⟩
theorem k_2_35 : Cond.lays "SchemaJudge$Checker" "SchemaJudge$Checker" "foundAt" "I" ∈ o_WS := List.mem_filter.mpr ⟨o_tb2 _ (List.mem_of_getElem? (i := 35) rfl), rfl⟩
theorem k_2_33 : Cond.lays "SchemaJudge$Checker" "SchemaJudge$Checker" "found" "I" ∈ o_WS := List.mem_filter.mpr ⟨o_tb2 _ (List.mem_of_getElem? (i := 33) rfl), rfl⟩
theorem k_2_31 : Cond.lays "SchemaJudge$Checker" "SchemaJudge$Checker" "reachedCount" "I" ∈ o_WS := List.mem_filter.mpr ⟨o_tb2 _ (List.mem_of_getElem? (i := 31) rfl), rfl⟩
theorem k_2_29 : Cond.laysFinal "SchemaJudge$Checker" "SchemaJudge$Checker" "reachedFrom" "[I" ∈ o_WS := List.mem_filter.mpr ⟨o_tb2 _ (List.mem_of_getElem? (i := 29) rfl), rfl⟩
theorem k_2_27 : Cond.laysFinal "SchemaJudge$Checker" "SchemaJudge$Checker" "reached" "[I" ∈ o_WS := List.mem_filter.mpr ⟨o_tb2 _ (List.mem_of_getElem? (i := 27) rfl), rfl⟩
theorem k_2_25 : Cond.laysFinal "SchemaJudge$Checker" "SchemaJudge$Checker" "aimedAt" "[Z" ∈ o_WS := List.mem_filter.mpr ⟨o_tb2 _ (List.mem_of_getElem? (i := 25) rfl), rfl⟩
theorem k_2_23 : Cond.laysFinal "SchemaJudge$Checker" "SchemaJudge$Checker" "links" "LSchemaJudge$Links;" ∈ o_WS := List.mem_filter.mpr ⟨o_tb2 _ (List.mem_of_getElem? (i := 23) rfl), rfl⟩
theorem k_2_21 : Cond.laysFinal "SchemaJudge$Checker" "SchemaJudge$Checker" "pattern" "LSchemaJudge$Pattern;" ∈ o_WS := List.mem_filter.mpr ⟨o_tb2 _ (List.mem_of_getElem? (i := 21) rfl), rfl⟩
theorem k_2_19 : Cond.laysFinal "SchemaJudge$Checker" "SchemaJudge$Checker" "marks" "LSchemaJudge$Marks;" ∈ o_WS := List.mem_filter.mpr ⟨o_tb2 _ (List.mem_of_getElem? (i := 19) rfl), rfl⟩
theorem k_2_17 : Cond.laysFinal "SchemaJudge$Checker" "SchemaJudge$Checker" "text" "LSchemaJudge$Text;" ∈ o_WS := List.mem_filter.mpr ⟨o_tb2 _ (List.mem_of_getElem? (i := 17) rfl), rfl⟩
theorem k_2_108 : Cond.lays "SchemaJudge$Judge" "SchemaJudge$Judge" "deepest" "I" ∈ o_WS := List.mem_filter.mpr ⟨o_tb2 _ (List.mem_of_getElem? (i := 108) rfl), rfl⟩
theorem k_2_106 : Cond.lays "SchemaJudge$Judge" "SchemaJudge$Judge" "schemas" "I" ∈ o_WS := List.mem_filter.mpr ⟨o_tb2 _ (List.mem_of_getElem? (i := 106) rfl), rfl⟩
theorem k_2_104 : Cond.lays "SchemaJudge$Judge" "SchemaJudge$Judge" "over" "Z" ∈ o_WS := List.mem_filter.mpr ⟨o_tb2 _ (List.mem_of_getElem? (i := 104) rfl), rfl⟩
theorem k_2_102 : Cond.lays "SchemaJudge$Judge" "SchemaJudge$Judge" "silences" "I" ∈ o_WS := List.mem_filter.mpr ⟨o_tb2 _ (List.mem_of_getElem? (i := 102) rfl), rfl⟩
theorem k_2_100 : Cond.laysFinal "SchemaJudge$Judge" "SchemaJudge$Judge" "evaluated" "[J" ∈ o_WS := List.mem_filter.mpr ⟨o_tb2 _ (List.mem_of_getElem? (i := 100) rfl), rfl⟩
theorem k_2_98 : Cond.laysFinal "SchemaJudge$Judge" "SchemaJudge$Judge" "kept" "LSchemaJudge$Pairs;" ∈ o_WS := List.mem_filter.mpr ⟨o_tb2 _ (List.mem_of_getElem? (i := 98) rfl), rfl⟩
theorem k_2_96 : Cond.laysFinal "SchemaJudge$Judge" "SchemaJudge$Judge" "division" "LSchemaJudge$LongDivision;" ∈ o_WS := List.mem_filter.mpr ⟨o_tb2 _ (List.mem_of_getElem? (i := 96) rfl), rfl⟩
theorem k_2_94 : Cond.laysFinal "SchemaJudge$Judge" "SchemaJudge$Judge" "program" "LSchemaJudge$Program;" ∈ o_WS := List.mem_filter.mpr ⟨o_tb2 _ (List.mem_of_getElem? (i := 94) rfl), rfl⟩
theorem k_2_92 : Cond.laysFinal "SchemaJudge$Judge" "SchemaJudge$Judge" "pattern" "LSchemaJudge$Pattern;" ∈ o_WS := List.mem_filter.mpr ⟨o_tb2 _ (List.mem_of_getElem? (i := 92) rfl), rfl⟩
theorem k_2_90 : Cond.laysFinal "SchemaJudge$Judge" "SchemaJudge$Judge" "instance" "LSchemaJudge$Text;" ∈ o_WS := List.mem_filter.mpr ⟨o_tb2 _ (List.mem_of_getElem? (i := 90) rfl), rfl⟩
theorem k_2_88 : Cond.laysFinal "SchemaJudge$Judge" "SchemaJudge$Judge" "marks" "LSchemaJudge$Marks;" ∈ o_WS := List.mem_filter.mpr ⟨o_tb2 _ (List.mem_of_getElem? (i := 88) rfl), rfl⟩
theorem k_2_86 : Cond.laysFinal "SchemaJudge$Judge" "SchemaJudge$Judge" "text" "LSchemaJudge$Text;" ∈ o_WS := List.mem_filter.mpr ⟨o_tb2 _ (List.mem_of_getElem? (i := 86) rfl), rfl⟩
theorem k_2_54 : Cond.laysFinal "SchemaJudge$LongDivision" "SchemaJudge$LongDivision" "rest" "[J" ∈ o_WS := List.mem_filter.mpr ⟨o_tb2 _ (List.mem_of_getElem? (i := 54) rfl), rfl⟩
theorem k_2_52 : Cond.laysFinal "SchemaJudge$LongDivision" "SchemaJudge$LongDivision" "divisor" "[J" ∈ o_WS := List.mem_filter.mpr ⟨o_tb2 _ (List.mem_of_getElem? (i := 52) rfl), rfl⟩
theorem k_2_71 : Cond.lays "SchemaJudge$Pairs" "SchemaJudge$Pairs" "size" "I" ∈ o_WS := List.mem_filter.mpr ⟨o_tb2 _ (List.mem_of_getElem? (i := 71) rfl), rfl⟩
theorem k_2_69 : Cond.laysFinal "SchemaJudge$Pairs" "SchemaJudge$Pairs" "keywords" "[I" ∈ o_WS := List.mem_filter.mpr ⟨o_tb2 _ (List.mem_of_getElem? (i := 69) rfl), rfl⟩
theorem k_2_67 : Cond.laysFinal "SchemaJudge$Pairs" "SchemaJudge$Pairs" "values" "[I" ∈ o_WS := List.mem_filter.mpr ⟨o_tb2 _ (List.mem_of_getElem? (i := 67) rfl), rfl⟩
theorem in_SJ : ∀ w ∈ u_ws "SchemaJudge" F_SJ 8, w ∈ o_WS := by
  show ∀ w ∈ [Cond.laysFinal "SchemaJudge" "SchemaJudge" "schemaText" "LSchemaJudge$Text;", Cond.laysFinal "SchemaJudge" "SchemaJudge" "instanceText" "LSchemaJudge$Text;", Cond.laysFinal "SchemaJudge" "SchemaJudge" "reader" "LSchemaJudge$Reader;", Cond.laysFinal "SchemaJudge" "SchemaJudge" "program" "LSchemaJudge$Program;", Cond.laysFinal "SchemaJudge" "SchemaJudge" "pattern" "LSchemaJudge$Pattern;", Cond.laysFinal "SchemaJudge" "SchemaJudge" "checker" "LSchemaJudge$Checker;", Cond.laysFinal "SchemaJudge" "SchemaJudge" "judge" "LSchemaJudge$Judge;", Cond.lays "SchemaJudge" "SchemaJudge" "wrongAt" "I"], w ∈ o_WS
  exact List.forall_mem_cons.mpr ⟨k_2_119, List.forall_mem_cons.mpr ⟨k_2_121, List.forall_mem_cons.mpr ⟨k_2_123, List.forall_mem_cons.mpr ⟨k_2_125, List.forall_mem_cons.mpr ⟨k_2_127, List.forall_mem_cons.mpr ⟨k_2_129, List.forall_mem_cons.mpr ⟨k_2_131, List.forall_mem_cons.mpr ⟨k_2_133, fun _ h => absurd h List.not_mem_nil⟩⟩⟩⟩⟩⟩⟩⟩
theorem in_Tx : ∀ w ∈ u_ws "SchemaJudge$Text" F_Tx 13, w ∈ o_WS := by
  show ∀ w ∈ [Cond.laysFinal "SchemaJudge$Text" "SchemaJudge$Text" "kinds" "[I", Cond.laysFinal "SchemaJudge$Text" "SchemaJudge$Text" "places" "[I", Cond.laysFinal "SchemaJudge$Text" "SchemaJudge$Text" "sizes" "[I", Cond.laysFinal "SchemaJudge$Text" "SchemaJudge$Text" "parents" "[I", Cond.laysFinal "SchemaJudge$Text" "SchemaJudge$Text" "exponents" "[I", Cond.laysFinal "SchemaJudge$Text" "SchemaJudge$Text" "starts" "[I", Cond.laysFinal "SchemaJudge$Text" "SchemaJudge$Text" "afters" "[I", Cond.laysFinal "SchemaJudge$Text" "SchemaJudge$Text" "slots" "[I", Cond.laysFinal "SchemaJudge$Text" "SchemaJudge$Text" "negatives" "[Z", Cond.laysFinal "SchemaJudge$Text" "SchemaJudge$Text" "cells" "[I", Cond.lays "SchemaJudge$Text" "SchemaJudge$Text" "total" "I", Cond.lays "SchemaJudge$Text" "SchemaJudge$Text" "used" "I", Cond.lays "SchemaJudge$Text" "SchemaJudge$Text" "characters" "I"], w ∈ o_WS
  exact List.forall_mem_cons.mpr ⟨k_1_59, List.forall_mem_cons.mpr ⟨k_1_61, List.forall_mem_cons.mpr ⟨k_1_63, List.forall_mem_cons.mpr ⟨k_1_65, List.forall_mem_cons.mpr ⟨k_1_67, List.forall_mem_cons.mpr ⟨k_1_69, List.forall_mem_cons.mpr ⟨k_1_71, List.forall_mem_cons.mpr ⟨k_1_73, List.forall_mem_cons.mpr ⟨k_1_75, List.forall_mem_cons.mpr ⟨k_1_77, List.forall_mem_cons.mpr ⟨k_1_79, List.forall_mem_cons.mpr ⟨k_1_81, List.forall_mem_cons.mpr ⟨k_1_83, fun _ h => absurd h List.not_mem_nil⟩⟩⟩⟩⟩⟩⟩⟩⟩⟩⟩⟩⟩
theorem in_Rd : ∀ w ∈ u_ws "SchemaJudge$Reader" F_Rd 6, w ∈ o_WS := by
  show ∀ w ∈ [Cond.laysFinal "SchemaJudge$Reader" "SchemaJudge$Reader" "words" "[I", Cond.lays "SchemaJudge$Reader" "SchemaJudge$Reader" "wordCount" "I", Cond.lays "SchemaJudge$Reader" "SchemaJudge$Reader" "text" "LSchemaJudge$Text;", Cond.lays "SchemaJudge$Reader" "SchemaJudge$Reader" "position" "I", Cond.lays "SchemaJudge$Reader" "SchemaJudge$Reader" "limit" "I", Cond.lays "SchemaJudge$Reader" "SchemaJudge$Reader" "wrongPlace" "I"], w ∈ o_WS
  exact List.forall_mem_cons.mpr ⟨k_1_100, List.forall_mem_cons.mpr ⟨k_1_102, List.forall_mem_cons.mpr ⟨k_1_104, List.forall_mem_cons.mpr ⟨k_1_106, List.forall_mem_cons.mpr ⟨k_1_108, List.forall_mem_cons.mpr ⟨k_1_110, fun _ h => absurd h List.not_mem_nil⟩⟩⟩⟩⟩⟩
theorem in_Pg : ∀ w ∈ u_ws "SchemaJudge$Program" F_Pg 11, w ∈ o_WS := by
  show ∀ w ∈ [Cond.laysFinal "SchemaJudge$Program" "SchemaJudge$Program" "operations" "[I", Cond.laysFinal "SchemaJudge$Program" "SchemaJudge$Program" "arguments" "[I", Cond.lays "SchemaJudge$Program" "SchemaJudge$Program" "length" "I", Cond.laysFinal "SchemaJudge$Program" "SchemaJudge$Program" "sets" "[I", Cond.lays "SchemaJudge$Program" "SchemaJudge$Program" "setsUsed" "I", Cond.laysFinal "SchemaJudge$Program" "SchemaJudge$Program" "rounds" "[I", Cond.laysFinal "SchemaJudge$Program" "SchemaJudge$Program" "stack" "[I", Cond.lays "SchemaJudge$Program" "SchemaJudge$Program" "top" "I", Cond.laysFinal "SchemaJudge$Program" "SchemaJudge$Program" "waiting" "[I", Cond.lays "SchemaJudge$Program" "SchemaJudge$Program" "waitingCount" "I", Cond.laysFinal "SchemaJudge$Program" "SchemaJudge$Program" "moved" "[I"], w ∈ o_WS
  exact List.forall_mem_cons.mpr ⟨k_1_131, List.forall_mem_cons.mpr ⟨k_1_133, List.forall_mem_cons.mpr ⟨k_1_135, List.forall_mem_cons.mpr ⟨k_1_137, List.forall_mem_cons.mpr ⟨k_1_139, List.forall_mem_cons.mpr ⟨k_1_141, List.forall_mem_cons.mpr ⟨k_1_143, List.forall_mem_cons.mpr ⟨k_1_145, List.forall_mem_cons.mpr ⟨k_1_147, List.forall_mem_cons.mpr ⟨k_1_149, List.forall_mem_cons.mpr ⟨k_1_151, fun _ h => absurd h List.not_mem_nil⟩⟩⟩⟩⟩⟩⟩⟩⟩⟩⟩
theorem in_Pt : ∀ w ∈ u_ws "SchemaJudge$Pattern" F_Pt 13, w ∈ o_WS := by
  show ∀ w ∈ [Cond.laysFinal "SchemaJudge$Pattern" "SchemaJudge$Pattern" "program" "LSchemaJudge$Program;", Cond.laysFinal "SchemaJudge$Pattern" "SchemaJudge$Pattern" "tokens" "[I", Cond.lays "SchemaJudge$Pattern" "SchemaJudge$Pattern" "characterCount" "I", Cond.lays "SchemaJudge$Pattern" "SchemaJudge$Pattern" "tokenCount" "I", Cond.lays "SchemaJudge$Pattern" "SchemaJudge$Pattern" "position" "I", Cond.lays "SchemaJudge$Pattern" "SchemaJudge$Pattern" "total" "I", Cond.lays "SchemaJudge$Pattern" "SchemaJudge$Pattern" "least" "I", Cond.lays "SchemaJudge$Pattern" "SchemaJudge$Pattern" "most" "I", Cond.lays "SchemaJudge$Pattern" "SchemaJudge$Pattern" "depth" "I", Cond.laysFinal "SchemaJudge$Pattern" "SchemaJudge$Pattern" "blockStarts" "[I", Cond.laysFinal "SchemaJudge$Pattern" "SchemaJudge$Pattern" "branchStarts" "[I", Cond.laysFinal "SchemaJudge$Pattern" "SchemaJudge$Pattern" "jumps" "[I", Cond.laysFinal "SchemaJudge$Pattern" "SchemaJudge$Pattern" "sizesBefore" "[I"], w ∈ o_WS
  exact List.forall_mem_cons.mpr ⟨k_1_173, List.forall_mem_cons.mpr ⟨k_1_175, List.forall_mem_cons.mpr ⟨k_1_177, List.forall_mem_cons.mpr ⟨k_1_179, List.forall_mem_cons.mpr ⟨k_1_181, List.forall_mem_cons.mpr ⟨k_1_183, List.forall_mem_cons.mpr ⟨k_1_185, List.forall_mem_cons.mpr ⟨k_1_187, List.forall_mem_cons.mpr ⟨k_1_189, List.forall_mem_cons.mpr ⟨k_1_191, List.forall_mem_cons.mpr ⟨k_1_193, List.forall_mem_cons.mpr ⟨k_1_195, List.forall_mem_cons.mpr ⟨k_1_197, fun _ h => absurd h List.not_mem_nil⟩⟩⟩⟩⟩⟩⟩⟩⟩⟩⟩⟩⟩
theorem in_Mk : ∀ w ∈ u_ws "SchemaJudge$Marks" F_Mk 4, w ∈ o_WS := by
  show ∀ w ∈ [Cond.laysFinal "SchemaJudge$Marks" "SchemaJudge$Marks" "text" "LSchemaJudge$Text;", Cond.laysFinal "SchemaJudge$Marks" "SchemaJudge$Marks" "keywords" "[I", Cond.laysFinal "SchemaJudge$Marks" "SchemaJudge$Marks" "schemas" "[Z", Cond.laysFinal "SchemaJudge$Marks" "SchemaJudge$Marks" "targets" "[I"], w ∈ o_WS
  exact List.forall_mem_cons.mpr ⟨k_1_210, List.forall_mem_cons.mpr ⟨k_1_212, List.forall_mem_cons.mpr ⟨k_1_214, List.forall_mem_cons.mpr ⟨k_1_216, fun _ h => absurd h List.not_mem_nil⟩⟩⟩⟩
theorem in_Lk : ∀ w ∈ u_ws "SchemaJudge$Links" F_Lk 5, w ∈ o_WS := by
  show ∀ w ∈ [Cond.laysFinal "SchemaJudge$Links" "SchemaJudge$Links" "text" "LSchemaJudge$Text;", Cond.laysFinal "SchemaJudge$Links" "SchemaJudge$Links" "marks" "LSchemaJudge$Marks;", Cond.laysFinal "SchemaJudge$Links" "SchemaJudge$Links" "characters" "[I", Cond.lays "SchemaJudge$Links" "SchemaJudge$Links" "length" "I", Cond.lays "SchemaJudge$Links" "SchemaJudge$Links" "position" "I"], w ∈ o_WS
  exact List.forall_mem_cons.mpr ⟨k_1_236, List.forall_mem_cons.mpr ⟨k_1_238, List.forall_mem_cons.mpr ⟨k_2_0, List.forall_mem_cons.mpr ⟨k_2_2, List.forall_mem_cons.mpr ⟨k_2_4, fun _ h => absurd h List.not_mem_nil⟩⟩⟩⟩⟩
theorem in_Ck : ∀ w ∈ u_ws "SchemaJudge$Checker" F_Ck 10, w ∈ o_WS := by
  show ∀ w ∈ [Cond.laysFinal "SchemaJudge$Checker" "SchemaJudge$Checker" "text" "LSchemaJudge$Text;", Cond.laysFinal "SchemaJudge$Checker" "SchemaJudge$Checker" "marks" "LSchemaJudge$Marks;", Cond.laysFinal "SchemaJudge$Checker" "SchemaJudge$Checker" "pattern" "LSchemaJudge$Pattern;", Cond.laysFinal "SchemaJudge$Checker" "SchemaJudge$Checker" "links" "LSchemaJudge$Links;", Cond.laysFinal "SchemaJudge$Checker" "SchemaJudge$Checker" "aimedAt" "[Z", Cond.laysFinal "SchemaJudge$Checker" "SchemaJudge$Checker" "reached" "[I", Cond.laysFinal "SchemaJudge$Checker" "SchemaJudge$Checker" "reachedFrom" "[I", Cond.lays "SchemaJudge$Checker" "SchemaJudge$Checker" "reachedCount" "I", Cond.lays "SchemaJudge$Checker" "SchemaJudge$Checker" "found" "I", Cond.lays "SchemaJudge$Checker" "SchemaJudge$Checker" "foundAt" "I"], w ∈ o_WS
  exact List.forall_mem_cons.mpr ⟨k_2_17, List.forall_mem_cons.mpr ⟨k_2_19, List.forall_mem_cons.mpr ⟨k_2_21, List.forall_mem_cons.mpr ⟨k_2_23, List.forall_mem_cons.mpr ⟨k_2_25, List.forall_mem_cons.mpr ⟨k_2_27, List.forall_mem_cons.mpr ⟨k_2_29, List.forall_mem_cons.mpr ⟨k_2_31, List.forall_mem_cons.mpr ⟨k_2_33, List.forall_mem_cons.mpr ⟨k_2_35, fun _ h => absurd h List.not_mem_nil⟩⟩⟩⟩⟩⟩⟩⟩⟩⟩
theorem in_Jd : ∀ w ∈ u_ws "SchemaJudge$Judge" F_Jd 12, w ∈ o_WS := by
  show ∀ w ∈ [Cond.laysFinal "SchemaJudge$Judge" "SchemaJudge$Judge" "text" "LSchemaJudge$Text;", Cond.laysFinal "SchemaJudge$Judge" "SchemaJudge$Judge" "marks" "LSchemaJudge$Marks;", Cond.laysFinal "SchemaJudge$Judge" "SchemaJudge$Judge" "instance" "LSchemaJudge$Text;", Cond.laysFinal "SchemaJudge$Judge" "SchemaJudge$Judge" "pattern" "LSchemaJudge$Pattern;", Cond.laysFinal "SchemaJudge$Judge" "SchemaJudge$Judge" "program" "LSchemaJudge$Program;", Cond.laysFinal "SchemaJudge$Judge" "SchemaJudge$Judge" "division" "LSchemaJudge$LongDivision;", Cond.laysFinal "SchemaJudge$Judge" "SchemaJudge$Judge" "kept" "LSchemaJudge$Pairs;", Cond.laysFinal "SchemaJudge$Judge" "SchemaJudge$Judge" "evaluated" "[J", Cond.lays "SchemaJudge$Judge" "SchemaJudge$Judge" "silences" "I", Cond.lays "SchemaJudge$Judge" "SchemaJudge$Judge" "over" "Z", Cond.lays "SchemaJudge$Judge" "SchemaJudge$Judge" "schemas" "I", Cond.lays "SchemaJudge$Judge" "SchemaJudge$Judge" "deepest" "I"], w ∈ o_WS
  exact List.forall_mem_cons.mpr ⟨k_2_86, List.forall_mem_cons.mpr ⟨k_2_88, List.forall_mem_cons.mpr ⟨k_2_90, List.forall_mem_cons.mpr ⟨k_2_92, List.forall_mem_cons.mpr ⟨k_2_94, List.forall_mem_cons.mpr ⟨k_2_96, List.forall_mem_cons.mpr ⟨k_2_98, List.forall_mem_cons.mpr ⟨k_2_100, List.forall_mem_cons.mpr ⟨k_2_102, List.forall_mem_cons.mpr ⟨k_2_104, List.forall_mem_cons.mpr ⟨k_2_106, List.forall_mem_cons.mpr ⟨k_2_108, fun _ h => absurd h List.not_mem_nil⟩⟩⟩⟩⟩⟩⟩⟩⟩⟩⟩⟩
theorem in_Ld : ∀ w ∈ u_ws "SchemaJudge$LongDivision" F_Ld 2, w ∈ o_WS := by
  show ∀ w ∈ [Cond.laysFinal "SchemaJudge$LongDivision" "SchemaJudge$LongDivision" "divisor" "[J", Cond.laysFinal "SchemaJudge$LongDivision" "SchemaJudge$LongDivision" "rest" "[J"], w ∈ o_WS
  exact List.forall_mem_cons.mpr ⟨k_2_52, List.forall_mem_cons.mpr ⟨k_2_54, fun _ h => absurd h List.not_mem_nil⟩⟩
theorem in_Pr : ∀ w ∈ u_ws "SchemaJudge$Pairs" F_Pr 3, w ∈ o_WS := by
  show ∀ w ∈ [Cond.laysFinal "SchemaJudge$Pairs" "SchemaJudge$Pairs" "values" "[I", Cond.laysFinal "SchemaJudge$Pairs" "SchemaJudge$Pairs" "keywords" "[I", Cond.lays "SchemaJudge$Pairs" "SchemaJudge$Pairs" "size" "I"], w ∈ o_WS
  exact List.forall_mem_cons.mpr ⟨k_2_67, List.forall_mem_cons.mpr ⟨k_2_69, List.forall_mem_cons.mpr ⟨k_2_71, fun _ h => absurd h List.not_mem_nil⟩⟩⟩
theorem hv_Rd_hasRoom : y_Rd_hasRoom.cls = "SchemaJudge$Reader" ∧ y_Rd_hasRoom.cls ≠ "java/lang/invoke/MethodHandle" ∧ y_Rd_hasRoom.cls ≠ "java/lang/invoke/VarHandle" ∧ (parseMethodDescriptor y_Rd_hasRoom.desc).map (fun d => d.parameters.length) = some 0 := by decide +kernel
abbrev rm_Rd_hasRoom : Room := { frames := 0, cells := 0, slots := 0, locals := 0 }
theorem hv_Rd_addWord : y_Rd_addWord.cls = "SchemaJudge$Reader" ∧ y_Rd_addWord.cls ≠ "java/lang/invoke/MethodHandle" ∧ y_Rd_addWord.cls ≠ "java/lang/invoke/VarHandle" ∧ (parseMethodDescriptor y_Rd_addWord.desc).map (fun d => d.parameters.length) = some 1 := by decide +kernel
abbrev rm_Rd_addWord : Room := { frames := 0, cells := 0, slots := 0, locals := 0 }
theorem hv_Rd_octets : y_Rd_octets.cls = "SchemaJudge$Reader" ∧ y_Rd_octets.cls ≠ "java/lang/invoke/MethodHandle" ∧ y_Rd_octets.cls ≠ "java/lang/invoke/VarHandle" ∧ (parseMethodDescriptor y_Rd_octets.desc).map (fun d => d.parameters.length) = some 0 := by decide +kernel
abbrev rm_Rd_octets : Room := { frames := 0, cells := 0, slots := 0, locals := 0 }
theorem hv_Ck_forget : y_Ck_forget.cls = "SchemaJudge$Checker" ∧ y_Ck_forget.cls ≠ "java/lang/invoke/MethodHandle" ∧ y_Ck_forget.cls ≠ "java/lang/invoke/VarHandle" ∧ (parseMethodDescriptor y_Ck_forget.desc).map (fun d => d.parameters.length) = some 0 := by decide +kernel
abbrev rm_Ck_forget : Room := { frames := 0, cells := 0, slots := 0, locals := 0 }
theorem hv_Rd_peek : y_Rd_peek.cls = "SchemaJudge$Reader" ∧ y_Rd_peek.cls ≠ "java/lang/invoke/MethodHandle" ∧ y_Rd_peek.cls ≠ "java/lang/invoke/VarHandle" ∧ (parseMethodDescriptor y_Rd_peek.desc).map (fun d => d.parameters.length) = some 0 := by decide +kernel
abbrev rm_Rd_peek : Room := { frames := 0, cells := 0, slots := 0, locals := 0 }
theorem hv_Rd_skipBlanks : y_Rd_skipBlanks.cls = "SchemaJudge$Reader" ∧ y_Rd_skipBlanks.cls ≠ "java/lang/invoke/MethodHandle" ∧ y_Rd_skipBlanks.cls ≠ "java/lang/invoke/VarHandle" ∧ (parseMethodDescriptor y_Rd_skipBlanks.desc).map (fun d => d.parameters.length) = some 0 := by decide +kernel
abbrev rm_Rd_skipBlanks : Room := { frames := 1, cells := 0, slots := 0, locals := 21 }
theorem hs_SJ_isDigit : y_SJ_isDigit.cls ≠ "java/lang/invoke/MethodHandle" ∧ y_SJ_isDigit.cls ≠ "java/lang/invoke/VarHandle" ∧ (parseMethodDescriptor y_SJ_isDigit.desc).map (fun d => d.parameters.length) = some 1 := by decide +kernel
abbrev rm_SJ_isDigit : Room := { frames := 0, cells := 0, slots := 0, locals := 0 }
theorem hs_Rd_kindThatBegins : y_Rd_kindThatBegins.cls ≠ "java/lang/invoke/MethodHandle" ∧ y_Rd_kindThatBegins.cls ≠ "java/lang/invoke/VarHandle" ∧ (parseMethodDescriptor y_Rd_kindThatBegins.desc).map (fun d => d.parameters.length) = some 1 := by decide +kernel
abbrev rm_Rd_kindThatBegins : Room := { frames := 1, cells := 0, slots := 0, locals := 20 }
theorem hv_Rd_refuse : y_Rd_refuse.cls = "SchemaJudge$Reader" ∧ y_Rd_refuse.cls ≠ "java/lang/invoke/MethodHandle" ∧ y_Rd_refuse.cls ≠ "java/lang/invoke/VarHandle" ∧ (parseMethodDescriptor y_Rd_refuse.desc).map (fun d => d.parameters.length) = some 1 := by decide +kernel
abbrev rm_Rd_refuse : Room := { frames := 0, cells := 0, slots := 0, locals := 0 }
theorem hv_Rd_readExponent : y_Rd_readExponent.cls = "SchemaJudge$Reader" ∧ y_Rd_readExponent.cls ≠ "java/lang/invoke/MethodHandle" ∧ y_Rd_readExponent.cls ≠ "java/lang/invoke/VarHandle" ∧ (parseMethodDescriptor y_Rd_readExponent.desc).map (fun d => d.parameters.length) = some 0 := by decide +kernel
abbrev rm_Rd_readExponent : Room := { frames := 1, cells := 0, slots := 0, locals := 21 }
theorem hv_Rd_readShortEscape : y_Rd_readShortEscape.cls = "SchemaJudge$Reader" ∧ y_Rd_readShortEscape.cls ≠ "java/lang/invoke/MethodHandle" ∧ y_Rd_readShortEscape.cls ≠ "java/lang/invoke/VarHandle" ∧ (parseMethodDescriptor y_Rd_readShortEscape.desc).map (fun d => d.parameters.length) = some 1 := by decide +kernel
abbrev rm_Rd_readShortEscape : Room := { frames := 1, cells := 0, slots := 0, locals := 21 }
theorem hs_SJ_hexDigit : y_SJ_hexDigit.cls ≠ "java/lang/invoke/MethodHandle" ∧ y_SJ_hexDigit.cls ≠ "java/lang/invoke/VarHandle" ∧ (parseMethodDescriptor y_SJ_hexDigit.desc).map (fun d => d.parameters.length) = some 1 := by decide +kernel
abbrev rm_SJ_hexDigit : Room := { frames := 0, cells := 0, slots := 0, locals := 0 }
theorem hv_Rd_readHex : y_Rd_readHex.cls = "SchemaJudge$Reader" ∧ y_Rd_readHex.cls ≠ "java/lang/invoke/MethodHandle" ∧ y_Rd_readHex.cls ≠ "java/lang/invoke/VarHandle" ∧ (parseMethodDescriptor y_Rd_readHex.desc).map (fun d => d.parameters.length) = some 0 := by decide +kernel
abbrev rm_Rd_readHex : Room := { frames := 1, cells := 0, slots := 0, locals := 21 }
theorem hs_SJ_isSurrogate : y_SJ_isSurrogate.cls ≠ "java/lang/invoke/MethodHandle" ∧ y_SJ_isSurrogate.cls ≠ "java/lang/invoke/VarHandle" ∧ (parseMethodDescriptor y_SJ_isSurrogate.desc).map (fun d => d.parameters.length) = some 1 := by decide +kernel
abbrev rm_SJ_isSurrogate : Room := { frames := 0, cells := 0, slots := 0, locals := 0 }
theorem hv_Rd_readEscape : y_Rd_readEscape.cls = "SchemaJudge$Reader" ∧ y_Rd_readEscape.cls ≠ "java/lang/invoke/MethodHandle" ∧ y_Rd_readEscape.cls ≠ "java/lang/invoke/VarHandle" ∧ (parseMethodDescriptor y_Rd_readEscape.desc).map (fun d => d.parameters.length) = some 0 := by decide +kernel
abbrev rm_Rd_readEscape : Room := { frames := 2, cells := 0, slots := 0, locals := 44 }
theorem hs_SJ_utf8Tail : y_SJ_utf8Tail.cls ≠ "java/lang/invoke/MethodHandle" ∧ y_SJ_utf8Tail.cls ≠ "java/lang/invoke/VarHandle" ∧ (parseMethodDescriptor y_SJ_utf8Tail.desc).map (fun d => d.parameters.length) = some 1 := by decide +kernel
abbrev rm_SJ_utf8Tail : Room := { frames := 0, cells := 0, slots := 0, locals := 0 }
theorem hs_SJ_utf8Head : y_SJ_utf8Head.cls ≠ "java/lang/invoke/MethodHandle" ∧ y_SJ_utf8Head.cls ≠ "java/lang/invoke/VarHandle" ∧ (parseMethodDescriptor y_SJ_utf8Head.desc).map (fun d => d.parameters.length) = some 2 := by decide +kernel
abbrev rm_SJ_utf8Head : Room := { frames := 0, cells := 0, slots := 0, locals := 0 }
theorem hs_SJ_utf8Follows : y_SJ_utf8Follows.cls ≠ "java/lang/invoke/MethodHandle" ∧ y_SJ_utf8Follows.cls ≠ "java/lang/invoke/VarHandle" ∧ (parseMethodDescriptor y_SJ_utf8Follows.desc).map (fun d => d.parameters.length) = some 1 := by decide +kernel
abbrev rm_SJ_utf8Follows : Room := { frames := 0, cells := 0, slots := 0, locals := 0 }
theorem hs_SJ_utf8Legal : y_SJ_utf8Legal.cls ≠ "java/lang/invoke/MethodHandle" ∧ y_SJ_utf8Legal.cls ≠ "java/lang/invoke/VarHandle" ∧ (parseMethodDescriptor y_SJ_utf8Legal.desc).map (fun d => d.parameters.length) = some 2 := by decide +kernel
abbrev rm_SJ_utf8Legal : Room := { frames := 1, cells := 0, slots := 0, locals := 20 }
theorem hv_Rd_readCharacter : y_Rd_readCharacter.cls = "SchemaJudge$Reader" ∧ y_Rd_readCharacter.cls ≠ "java/lang/invoke/MethodHandle" ∧ y_Rd_readCharacter.cls ≠ "java/lang/invoke/VarHandle" ∧ (parseMethodDescriptor y_Rd_readCharacter.desc).map (fun d => d.parameters.length) = some 0 := by decide +kernel
abbrev rm_Rd_readCharacter : Room := { frames := 2, cells := 0, slots := 0, locals := 42 }
theorem hv_Mk_clear : y_Mk_clear.cls = "SchemaJudge$Marks" ∧ y_Mk_clear.cls ≠ "java/lang/invoke/MethodHandle" ∧ y_Mk_clear.cls ≠ "java/lang/invoke/VarHandle" ∧ (parseMethodDescriptor y_Mk_clear.desc).map (fun d => d.parameters.length) = some 0 := by decide +kernel
abbrev rm_Mk_clear : Room := { frames := 0, cells := 0, slots := 0, locals := 0 }
theorem hv_Tx_kind : y_Tx_kind.cls = "SchemaJudge$Text" ∧ y_Tx_kind.cls ≠ "java/lang/invoke/MethodHandle" ∧ y_Tx_kind.cls ≠ "java/lang/invoke/VarHandle" ∧ (parseMethodDescriptor y_Tx_kind.desc).map (fun d => d.parameters.length) = some 1 := by decide +kernel
abbrev rm_Tx_kind : Room := { frames := 0, cells := 0, slots := 0, locals := 0 }
theorem hv_Mk_markSchema : y_Mk_markSchema.cls = "SchemaJudge$Marks" ∧ y_Mk_markSchema.cls ≠ "java/lang/invoke/MethodHandle" ∧ y_Mk_markSchema.cls ≠ "java/lang/invoke/VarHandle" ∧ (parseMethodDescriptor y_Mk_markSchema.desc).map (fun d => d.parameters.length) = some 1 := by decide +kernel
abbrev rm_Mk_markSchema : Room := { frames := 1, cells := 0, slots := 0, locals := 21 }
theorem hv_Ck_report : y_Ck_report.cls = "SchemaJudge$Checker" ∧ y_Ck_report.cls ≠ "java/lang/invoke/MethodHandle" ∧ y_Ck_report.cls ≠ "java/lang/invoke/VarHandle" ∧ (parseMethodDescriptor y_Ck_report.desc).map (fun d => d.parameters.length) = some 2 := by decide +kernel
abbrev rm_Ck_report : Room := { frames := 0, cells := 0, slots := 0, locals := 0 }
theorem hv_Ck_require : y_Ck_require.cls = "SchemaJudge$Checker" ∧ y_Ck_require.cls ≠ "java/lang/invoke/MethodHandle" ∧ y_Ck_require.cls ≠ "java/lang/invoke/VarHandle" ∧ (parseMethodDescriptor y_Ck_require.desc).map (fun d => d.parameters.length) = some 2 := by decide +kernel
abbrev rm_Ck_require : Room := { frames := 1, cells := 0, slots := 0, locals := 22 }
theorem hv_Ck_takeSchema : y_Ck_takeSchema.cls = "SchemaJudge$Checker" ∧ y_Ck_takeSchema.cls ≠ "java/lang/invoke/MethodHandle" ∧ y_Ck_takeSchema.cls ≠ "java/lang/invoke/VarHandle" ∧ (parseMethodDescriptor y_Ck_takeSchema.desc).map (fun d => d.parameters.length) = some 1 := by decide +kernel
abbrev rm_Ck_takeSchema : Room := { frames := 2, cells := 0, slots := 0, locals := 44 }
theorem hv_Mk_isSchema : y_Mk_isSchema.cls = "SchemaJudge$Marks" ∧ y_Mk_isSchema.cls ≠ "java/lang/invoke/MethodHandle" ∧ y_Mk_isSchema.cls ≠ "java/lang/invoke/VarHandle" ∧ (parseMethodDescriptor y_Mk_isSchema.desc).map (fun d => d.parameters.length) = some 1 := by decide +kernel
abbrev rm_Mk_isSchema : Room := { frames := 0, cells := 0, slots := 0, locals := 0 }
theorem hv_Tx_size : y_Tx_size.cls = "SchemaJudge$Text" ∧ y_Tx_size.cls ≠ "java/lang/invoke/MethodHandle" ∧ y_Tx_size.cls ≠ "java/lang/invoke/VarHandle" ∧ (parseMethodDescriptor y_Tx_size.desc).map (fun d => d.parameters.length) = some 1 := by decide +kernel
abbrev rm_Tx_size : Room := { frames := 0, cells := 0, slots := 0, locals := 0 }
theorem hv_Tx_nextChild : y_Tx_nextChild.cls = "SchemaJudge$Text" ∧ y_Tx_nextChild.cls ≠ "java/lang/invoke/MethodHandle" ∧ y_Tx_nextChild.cls ≠ "java/lang/invoke/VarHandle" ∧ (parseMethodDescriptor y_Tx_nextChild.desc).map (fun d => d.parameters.length) = some 1 := by decide +kernel
abbrev rm_Tx_nextChild : Room := { frames := 0, cells := 0, slots := 0, locals := 0 }
theorem hv_Tx_firstChild : y_Tx_firstChild.cls = "SchemaJudge$Text" ∧ y_Tx_firstChild.cls ≠ "java/lang/invoke/MethodHandle" ∧ y_Tx_firstChild.cls ≠ "java/lang/invoke/VarHandle" ∧ (parseMethodDescriptor y_Tx_firstChild.desc).map (fun d => d.parameters.length) = some 1 := by decide +kernel
abbrev rm_Tx_firstChild : Room := { frames := 0, cells := 0, slots := 0, locals := 0 }
theorem hv_Ck_takeSchemas : y_Ck_takeSchemas.cls = "SchemaJudge$Checker" ∧ y_Ck_takeSchemas.cls ≠ "java/lang/invoke/MethodHandle" ∧ y_Ck_takeSchemas.cls ≠ "java/lang/invoke/VarHandle" ∧ (parseMethodDescriptor y_Ck_takeSchemas.desc).map (fun d => d.parameters.length) = some 2 := by decide +kernel
abbrev rm_Ck_takeSchemas : Room := { frames := 3, cells := 0, slots := 0, locals := 65 }
theorem hv_Pg_clear : y_Pg_clear.cls = "SchemaJudge$Program" ∧ y_Pg_clear.cls ≠ "java/lang/invoke/MethodHandle" ∧ y_Pg_clear.cls ≠ "java/lang/invoke/VarHandle" ∧ (parseMethodDescriptor y_Pg_clear.desc).map (fun d => d.parameters.length) = some 0 := by decide +kernel
abbrev rm_Pg_clear : Room := { frames := 0, cells := 0, slots := 0, locals := 0 }
theorem hv_Pt_beginBlock : y_Pt_beginBlock.cls = "SchemaJudge$Pattern" ∧ y_Pt_beginBlock.cls ≠ "java/lang/invoke/MethodHandle" ∧ y_Pt_beginBlock.cls ≠ "java/lang/invoke/VarHandle" ∧ (parseMethodDescriptor y_Pt_beginBlock.desc).map (fun d => d.parameters.length) = some 0 := by decide +kernel
abbrev rm_Pt_beginBlock : Room := { frames := 0, cells := 0, slots := 0, locals := 0 }
theorem hv_Pt_peek : y_Pt_peek.cls = "SchemaJudge$Pattern" ∧ y_Pt_peek.cls ≠ "java/lang/invoke/MethodHandle" ∧ y_Pt_peek.cls ≠ "java/lang/invoke/VarHandle" ∧ (parseMethodDescriptor y_Pt_peek.desc).map (fun d => d.parameters.length) = some 1 := by decide +kernel
abbrev rm_Pt_peek : Room := { frames := 0, cells := 0, slots := 0, locals := 0 }
theorem hv_Pg_argument : y_Pg_argument.cls = "SchemaJudge$Program" ∧ y_Pg_argument.cls ≠ "java/lang/invoke/MethodHandle" ∧ y_Pg_argument.cls ≠ "java/lang/invoke/VarHandle" ∧ (parseMethodDescriptor y_Pg_argument.desc).map (fun d => d.parameters.length) = some 1 := by decide +kernel
abbrev rm_Pg_argument : Room := { frames := 0, cells := 0, slots := 0, locals := 0 }
theorem hv_Pg_setArgument : y_Pg_setArgument.cls = "SchemaJudge$Program" ∧ y_Pg_setArgument.cls ≠ "java/lang/invoke/MethodHandle" ∧ y_Pg_setArgument.cls ≠ "java/lang/invoke/VarHandle" ∧ (parseMethodDescriptor y_Pg_setArgument.desc).map (fun d => d.parameters.length) = some 2 := by decide +kernel
abbrev rm_Pg_setArgument : Room := { frames := 0, cells := 0, slots := 0, locals := 0 }
theorem hv_Pt_endBlock : y_Pt_endBlock.cls = "SchemaJudge$Pattern" ∧ y_Pt_endBlock.cls ≠ "java/lang/invoke/MethodHandle" ∧ y_Pt_endBlock.cls ≠ "java/lang/invoke/VarHandle" ∧ (parseMethodDescriptor y_Pt_endBlock.desc).map (fun d => d.parameters.length) = some 0 := by decide +kernel
abbrev rm_Pt_endBlock : Room := { frames := 1, cells := 0, slots := 0, locals := 22 }
theorem hv_Pt_openGroup : y_Pt_openGroup.cls = "SchemaJudge$Pattern" ∧ y_Pt_openGroup.cls ≠ "java/lang/invoke/MethodHandle" ∧ y_Pt_openGroup.cls ≠ "java/lang/invoke/VarHandle" ∧ (parseMethodDescriptor y_Pt_openGroup.desc).map (fun d => d.parameters.length) = some 0 := by decide +kernel
abbrev rm_Pt_openGroup : Room := { frames := 1, cells := 0, slots := 0, locals := 22 }
theorem hv_Pg_emit : y_Pg_emit.cls = "SchemaJudge$Program" ∧ y_Pg_emit.cls ≠ "java/lang/invoke/MethodHandle" ∧ y_Pg_emit.cls ≠ "java/lang/invoke/VarHandle" ∧ (parseMethodDescriptor y_Pg_emit.desc).map (fun d => d.parameters.length) = some 2 := by decide +kernel
abbrev rm_Pg_emit : Room := { frames := 8, cells := 0, slots := 0, locals := 200 }
theorem hv_Pg_beginSet : y_Pg_beginSet.cls = "SchemaJudge$Program" ∧ y_Pg_beginSet.cls ≠ "java/lang/invoke/MethodHandle" ∧ y_Pg_beginSet.cls ≠ "java/lang/invoke/VarHandle" ∧ (parseMethodDescriptor y_Pg_beginSet.desc).map (fun d => d.parameters.length) = some 0 := by decide +kernel
abbrev rm_Pg_beginSet : Room := { frames := 0, cells := 0, slots := 0, locals := 0 }
theorem hv_Pg_addClass : y_Pg_addClass.cls = "SchemaJudge$Program" ∧ y_Pg_addClass.cls ≠ "java/lang/invoke/MethodHandle" ∧ y_Pg_addClass.cls ≠ "java/lang/invoke/VarHandle" ∧ (parseMethodDescriptor y_Pg_addClass.desc).map (fun d => d.parameters.length) = some 2 := by decide +kernel
abbrev rm_Pg_addClass : Room := { frames := 0, cells := 0, slots := 0, locals := 0 }
theorem hv_Pg_addRange : y_Pg_addRange.cls = "SchemaJudge$Program" ∧ y_Pg_addRange.cls ≠ "java/lang/invoke/MethodHandle" ∧ y_Pg_addRange.cls ≠ "java/lang/invoke/VarHandle" ∧ (parseMethodDescriptor y_Pg_addRange.desc).map (fun d => d.parameters.length) = some 3 := by decide +kernel
abbrev rm_Pg_addRange : Room := { frames := 0, cells := 0, slots := 0, locals := 0 }
theorem hv_Pt_readSet : y_Pt_readSet.cls = "SchemaJudge$Pattern" ∧ y_Pt_readSet.cls ≠ "java/lang/invoke/MethodHandle" ∧ y_Pt_readSet.cls ≠ "java/lang/invoke/VarHandle" ∧ (parseMethodDescriptor y_Pt_readSet.desc).map (fun d => d.parameters.length) = some 0 := by decide +kernel
abbrev rm_Pt_readSet : Room := { frames := 1, cells := 0, slots := 0, locals := 23 }
theorem hv_Pt_single : y_Pt_single.cls = "SchemaJudge$Pattern" ∧ y_Pt_single.cls ≠ "java/lang/invoke/MethodHandle" ∧ y_Pt_single.cls ≠ "java/lang/invoke/VarHandle" ∧ (parseMethodDescriptor y_Pt_single.desc).map (fun d => d.parameters.length) = some 2 := by decide +kernel
abbrev rm_Pt_single : Room := { frames := 9, cells := 0, slots := 0, locals := 222 }
theorem hs_Pt_isQuantifier : y_Pt_isQuantifier.cls ≠ "java/lang/invoke/MethodHandle" ∧ y_Pt_isQuantifier.cls ≠ "java/lang/invoke/VarHandle" ∧ (parseMethodDescriptor y_Pt_isQuantifier.desc).map (fun d => d.parameters.length) = some 1 := by decide +kernel
abbrev rm_Pt_isQuantifier : Room := { frames := 0, cells := 0, slots := 0, locals := 0 }
theorem hv_Pt_readNumber : y_Pt_readNumber.cls = "SchemaJudge$Pattern" ∧ y_Pt_readNumber.cls ≠ "java/lang/invoke/MethodHandle" ∧ y_Pt_readNumber.cls ≠ "java/lang/invoke/VarHandle" ∧ (parseMethodDescriptor y_Pt_readNumber.desc).map (fun d => d.parameters.length) = some 0 := by decide +kernel
abbrev rm_Pt_readNumber : Room := { frames := 8, cells := 0, slots := 0, locals := 200 }
theorem hv_Pt_readQuantifier : y_Pt_readQuantifier.cls = "SchemaJudge$Pattern" ∧ y_Pt_readQuantifier.cls ≠ "java/lang/invoke/MethodHandle" ∧ y_Pt_readQuantifier.cls ≠ "java/lang/invoke/VarHandle" ∧ (parseMethodDescriptor y_Pt_readQuantifier.desc).map (fun d => d.parameters.length) = some 0 := by decide +kernel
abbrev rm_Pt_readQuantifier : Room := { frames := 9, cells := 0, slots := 0, locals := 223 }
theorem hv_Tx_cell : y_Tx_cell.cls = "SchemaJudge$Text" ∧ y_Tx_cell.cls ≠ "java/lang/invoke/MethodHandle" ∧ y_Tx_cell.cls ≠ "java/lang/invoke/VarHandle" ∧ (parseMethodDescriptor y_Tx_cell.desc).map (fun d => d.parameters.length) = some 2 := by decide +kernel
abbrev rm_Tx_cell : Room := { frames := 0, cells := 0, slots := 0, locals := 0 }
theorem hs_SJ_isLetter : y_SJ_isLetter.cls ≠ "java/lang/invoke/MethodHandle" ∧ y_SJ_isLetter.cls ≠ "java/lang/invoke/VarHandle" ∧ (parseMethodDescriptor y_SJ_isLetter.desc).map (fun d => d.parameters.length) = some 1 := by decide +kernel
abbrev rm_SJ_isLetter : Room := { frames := 0, cells := 0, slots := 0, locals := 0 }
theorem hv_Ck_isAnchor : y_Ck_isAnchor.cls = "SchemaJudge$Checker" ∧ y_Ck_isAnchor.cls ≠ "java/lang/invoke/MethodHandle" ∧ y_Ck_isAnchor.cls ≠ "java/lang/invoke/VarHandle" ∧ (parseMethodDescriptor y_Ck_isAnchor.desc).map (fun d => d.parameters.length) = some 1 := by decide +kernel
abbrev rm_Ck_isAnchor : Room := { frames := 1, cells := 0, slots := 0, locals := 23 }
theorem hv_Tx_slot : y_Tx_slot.cls = "SchemaJudge$Text" ∧ y_Tx_slot.cls ≠ "java/lang/invoke/MethodHandle" ∧ y_Tx_slot.cls ≠ "java/lang/invoke/VarHandle" ∧ (parseMethodDescriptor y_Tx_slot.desc).map (fun d => d.parameters.length) = some 1 := by decide +kernel
abbrev rm_Tx_slot : Room := { frames := 0, cells := 0, slots := 0, locals := 0 }
theorem hs_Tx_sameString : y_Tx_sameString.cls ≠ "java/lang/invoke/MethodHandle" ∧ y_Tx_sameString.cls ≠ "java/lang/invoke/VarHandle" ∧ (parseMethodDescriptor y_Tx_sameString.desc).map (fun d => d.parameters.length) = some 4 := by decide +kernel
abbrev rm_Tx_sameString : Room := { frames := 0, cells := 0, slots := 0, locals := 0 }
theorem hv_Ck_isNew : y_Ck_isNew.cls = "SchemaJudge$Checker" ∧ y_Ck_isNew.cls ≠ "java/lang/invoke/MethodHandle" ∧ y_Ck_isNew.cls ≠ "java/lang/invoke/VarHandle" ∧ (parseMethodDescriptor y_Ck_isNew.desc).map (fun d => d.parameters.length) = some 2 := by decide +kernel
abbrev rm_Ck_isNew : Room := { frames := 1, cells := 0, slots := 0, locals := 27 }
theorem hv_Ck_inspectNames : y_Ck_inspectNames.cls = "SchemaJudge$Checker" ∧ y_Ck_inspectNames.cls ≠ "java/lang/invoke/MethodHandle" ∧ y_Ck_inspectNames.cls ≠ "java/lang/invoke/VarHandle" ∧ (parseMethodDescriptor y_Ck_inspectNames.desc).map (fun d => d.parameters.length) = some 1 := by decide +kernel
abbrev rm_Ck_inspectNames : Room := { frames := 2, cells := 0, slots := 0, locals := 51 }
theorem hv_Tx_total : y_Tx_total.cls = "SchemaJudge$Text" ∧ y_Tx_total.cls ≠ "java/lang/invoke/MethodHandle" ∧ y_Tx_total.cls ≠ "java/lang/invoke/VarHandle" ∧ (parseMethodDescriptor y_Tx_total.desc).map (fun d => d.parameters.length) = some 0 := by decide +kernel
abbrev rm_Tx_total : Room := { frames := 0, cells := 0, slots := 0, locals := 0 }
theorem hv_Lk_octetAt : y_Lk_octetAt.cls = "SchemaJudge$Links" ∧ y_Lk_octetAt.cls ≠ "java/lang/invoke/MethodHandle" ∧ y_Lk_octetAt.cls ≠ "java/lang/invoke/VarHandle" ∧ (parseMethodDescriptor y_Lk_octetAt.desc).map (fun d => d.parameters.length) = some 1 := by decide +kernel
abbrev rm_Lk_octetAt : Room := { frames := 1, cells := 0, slots := 0, locals := 23 }
theorem hv_Lk_decodeOctets : y_Lk_decodeOctets.cls = "SchemaJudge$Links" ∧ y_Lk_decodeOctets.cls ≠ "java/lang/invoke/MethodHandle" ∧ y_Lk_decodeOctets.cls ≠ "java/lang/invoke/VarHandle" ∧ (parseMethodDescriptor y_Lk_decodeOctets.desc).map (fun d => d.parameters.length) = some 2 := by decide +kernel
abbrev rm_Lk_decodeOctets : Room := { frames := 2, cells := 0, slots := 0, locals := 46 }
theorem hv_Lk_decode : y_Lk_decode.cls = "SchemaJudge$Links" ∧ y_Lk_decode.cls ≠ "java/lang/invoke/MethodHandle" ∧ y_Lk_decode.cls ≠ "java/lang/invoke/VarHandle" ∧ (parseMethodDescriptor y_Lk_decode.desc).map (fun d => d.parameters.length) = some 1 := by decide +kernel
abbrev rm_Lk_decode : Room := { frames := 3, cells := 0, slots := 0, locals := 72 }
theorem hv_Lk_placeNumber : y_Lk_placeNumber.cls = "SchemaJudge$Links" ∧ y_Lk_placeNumber.cls ≠ "java/lang/invoke/MethodHandle" ∧ y_Lk_placeNumber.cls ≠ "java/lang/invoke/VarHandle" ∧ (parseMethodDescriptor y_Lk_placeNumber.desc).map (fun d => d.parameters.length) = some 2 := by decide +kernel
abbrev rm_Lk_placeNumber : Room := { frames := 1, cells := 0, slots := 0, locals := 20 }
theorem hv_Lk_isNamed : y_Lk_isNamed.cls = "SchemaJudge$Links" ∧ y_Lk_isNamed.cls ≠ "java/lang/invoke/MethodHandle" ∧ y_Lk_isNamed.cls ≠ "java/lang/invoke/VarHandle" ∧ (parseMethodDescriptor y_Lk_isNamed.desc).map (fun d => d.parameters.length) = some 3 := by decide +kernel
abbrev rm_Lk_isNamed : Room := { frames := 1, cells := 0, slots := 0, locals := 23 }
theorem hv_Tx_element : y_Tx_element.cls = "SchemaJudge$Text" ∧ y_Tx_element.cls ≠ "java/lang/invoke/MethodHandle" ∧ y_Tx_element.cls ≠ "java/lang/invoke/VarHandle" ∧ (parseMethodDescriptor y_Tx_element.desc).map (fun d => d.parameters.length) = some 2 := by decide +kernel
abbrev rm_Tx_element : Room := { frames := 1, cells := 0, slots := 0, locals := 22 }
theorem hv_Lk_step : y_Lk_step.cls = "SchemaJudge$Links" ∧ y_Lk_step.cls ≠ "java/lang/invoke/MethodHandle" ∧ y_Lk_step.cls ≠ "java/lang/invoke/VarHandle" ∧ (parseMethodDescriptor y_Lk_step.desc).map (fun d => d.parameters.length) = some 3 := by decide +kernel
abbrev rm_Lk_step : Room := { frames := 2, cells := 0, slots := 0, locals := 50 }
theorem hv_Lk_walk : y_Lk_walk.cls = "SchemaJudge$Links" ∧ y_Lk_walk.cls ≠ "java/lang/invoke/MethodHandle" ∧ y_Lk_walk.cls ≠ "java/lang/invoke/VarHandle" ∧ (parseMethodDescriptor y_Lk_walk.desc).map (fun d => d.parameters.length) = some 0 := by decide +kernel
abbrev rm_Lk_walk : Room := { frames := 3, cells := 0, slots := 0, locals := 75 }
theorem hv_Mk_setTarget : y_Mk_setTarget.cls = "SchemaJudge$Marks" ∧ y_Mk_setTarget.cls ≠ "java/lang/invoke/MethodHandle" ∧ y_Mk_setTarget.cls ≠ "java/lang/invoke/VarHandle" ∧ (parseMethodDescriptor y_Mk_setTarget.desc).map (fun d => d.parameters.length) = some 2 := by decide +kernel
abbrev rm_Mk_setTarget : Room := { frames := 0, cells := 0, slots := 0, locals := 0 }
theorem hv_Ck_faultyValue : y_Ck_faultyValue.cls = "SchemaJudge$Checker" ∧ y_Ck_faultyValue.cls ≠ "java/lang/invoke/MethodHandle" ∧ y_Ck_faultyValue.cls ≠ "java/lang/invoke/VarHandle" ∧ (parseMethodDescriptor y_Ck_faultyValue.desc).map (fun d => d.parameters.length) = some 0 := by decide +kernel
abbrev rm_Ck_faultyValue : Room := { frames := 0, cells := 0, slots := 0, locals := 0 }
theorem hv_Ck_passed : y_Ck_passed.cls = "SchemaJudge$Checker" ∧ y_Ck_passed.cls ≠ "java/lang/invoke/MethodHandle" ∧ y_Ck_passed.cls ≠ "java/lang/invoke/VarHandle" ∧ (parseMethodDescriptor y_Ck_passed.desc).map (fun d => d.parameters.length) = some 0 := by decide +kernel
abbrev rm_Ck_passed : Room := { frames := 0, cells := 0, slots := 0, locals := 0 }
theorem hv_Pr_cut : y_Pr_cut.cls = "SchemaJudge$Pairs" ∧ y_Pr_cut.cls ≠ "java/lang/invoke/MethodHandle" ∧ y_Pr_cut.cls ≠ "java/lang/invoke/VarHandle" ∧ (parseMethodDescriptor y_Pr_cut.desc).map (fun d => d.parameters.length) = some 1 := by decide +kernel
abbrev rm_Pr_cut : Room := { frames := 0, cells := 0, slots := 0, locals := 0 }
theorem hv_Jd_begin : y_Jd_begin.cls = "SchemaJudge$Judge" ∧ y_Jd_begin.cls ≠ "java/lang/invoke/MethodHandle" ∧ y_Jd_begin.cls ≠ "java/lang/invoke/VarHandle" ∧ (parseMethodDescriptor y_Jd_begin.desc).map (fun d => d.parameters.length) = some 0 := by decide +kernel
abbrev rm_Jd_begin : Room := { frames := 1, cells := 0, slots := 0, locals := 21 }
theorem hv_Jd_enter : y_Jd_enter.cls = "SchemaJudge$Judge" ∧ y_Jd_enter.cls ≠ "java/lang/invoke/MethodHandle" ∧ y_Jd_enter.cls ≠ "java/lang/invoke/VarHandle" ∧ (parseMethodDescriptor y_Jd_enter.desc).map (fun d => d.parameters.length) = some 1 := by decide +kernel
abbrev rm_Jd_enter : Room := { frames := 8, cells := 0, slots := 0, locals := 200 }
theorem hv_Pr_add : y_Pr_add.cls = "SchemaJudge$Pairs" ∧ y_Pr_add.cls ≠ "java/lang/invoke/MethodHandle" ∧ y_Pr_add.cls ≠ "java/lang/invoke/VarHandle" ∧ (parseMethodDescriptor y_Pr_add.desc).map (fun d => d.parameters.length) = some 2 := by decide +kernel
abbrev rm_Pr_add : Room := { frames := 0, cells := 0, slots := 0, locals := 0 }
theorem hv_Jd_tell : y_Jd_tell.cls = "SchemaJudge$Judge" ∧ y_Jd_tell.cls ≠ "java/lang/invoke/MethodHandle" ∧ y_Jd_tell.cls ≠ "java/lang/invoke/VarHandle" ∧ (parseMethodDescriptor y_Jd_tell.desc).map (fun d => d.parameters.length) = some 2 := by decide +kernel
abbrev rm_Jd_tell : Room := { frames := 1, cells := 0, slots := 0, locals := 23 }
theorem hv_Pr_size : y_Pr_size.cls = "SchemaJudge$Pairs" ∧ y_Pr_size.cls ≠ "java/lang/invoke/MethodHandle" ∧ y_Pr_size.cls ≠ "java/lang/invoke/VarHandle" ∧ (parseMethodDescriptor y_Pr_size.desc).map (fun d => d.parameters.length) = some 0 := by decide +kernel
abbrev rm_Pr_size : Room := { frames := 0, cells := 0, slots := 0, locals := 0 }
theorem hv_Pg_push : y_Pg_push.cls = "SchemaJudge$Program" ∧ y_Pg_push.cls ≠ "java/lang/invoke/MethodHandle" ∧ y_Pg_push.cls ≠ "java/lang/invoke/VarHandle" ∧ (parseMethodDescriptor y_Pg_push.desc).map (fun d => d.parameters.length) = some 2 := by decide +kernel
abbrev rm_Pg_push : Room := { frames := 0, cells := 0, slots := 0, locals := 0 }
theorem hv_Pg_follow : y_Pg_follow.cls = "SchemaJudge$Program" ∧ y_Pg_follow.cls ≠ "java/lang/invoke/MethodHandle" ∧ y_Pg_follow.cls ≠ "java/lang/invoke/VarHandle" ∧ (parseMethodDescriptor y_Pg_follow.desc).map (fun d => d.parameters.length) = some 2 := by decide +kernel
abbrev rm_Pg_follow : Room := { frames := 1, cells := 0, slots := 0, locals := 22 }
theorem hs_Pg_inClasses : y_Pg_inClasses.cls ≠ "java/lang/invoke/MethodHandle" ∧ y_Pg_inClasses.cls ≠ "java/lang/invoke/VarHandle" ∧ (parseMethodDescriptor y_Pg_inClasses.desc).map (fun d => d.parameters.length) = some 2 := by decide +kernel
abbrev rm_Pg_inClasses : Room := { frames := 0, cells := 0, slots := 0, locals := 0 }
theorem hv_Pg_inRanges : y_Pg_inRanges.cls = "SchemaJudge$Program" ∧ y_Pg_inRanges.cls ≠ "java/lang/invoke/MethodHandle" ∧ y_Pg_inRanges.cls ≠ "java/lang/invoke/VarHandle" ∧ (parseMethodDescriptor y_Pg_inRanges.desc).map (fun d => d.parameters.length) = some 2 := by decide +kernel
abbrev rm_Pg_inRanges : Room := { frames := 0, cells := 0, slots := 0, locals := 0 }
theorem hv_Pg_accepts : y_Pg_accepts.cls = "SchemaJudge$Program" ∧ y_Pg_accepts.cls ≠ "java/lang/invoke/MethodHandle" ∧ y_Pg_accepts.cls ≠ "java/lang/invoke/VarHandle" ∧ (parseMethodDescriptor y_Pg_accepts.desc).map (fun d => d.parameters.length) = some 2 := by decide +kernel
abbrev rm_Pg_accepts : Room := { frames := 1, cells := 0, slots := 0, locals := 25 }
theorem hv_Tx_member : y_Tx_member.cls = "SchemaJudge$Text" ∧ y_Tx_member.cls ≠ "java/lang/invoke/MethodHandle" ∧ y_Tx_member.cls ≠ "java/lang/invoke/VarHandle" ∧ (parseMethodDescriptor y_Tx_member.desc).map (fun d => d.parameters.length) = some 3 := by decide +kernel
abbrev rm_Tx_member : Room := { frames := 1, cells := 0, slots := 0, locals := 27 }
theorem hv_Jd_named : y_Jd_named.cls = "SchemaJudge$Judge" ∧ y_Jd_named.cls ≠ "java/lang/invoke/MethodHandle" ∧ y_Jd_named.cls ≠ "java/lang/invoke/VarHandle" ∧ (parseMethodDescriptor y_Jd_named.desc).map (fun d => d.parameters.length) = some 2 := by decide +kernel
abbrev rm_Jd_named : Room := { frames := 2, cells := 0, slots := 0, locals := 52 }
theorem hv_Ld_restReaches : y_Ld_restReaches.cls = "SchemaJudge$LongDivision" ∧ y_Ld_restReaches.cls ≠ "java/lang/invoke/MethodHandle" ∧ y_Ld_restReaches.cls ≠ "java/lang/invoke/VarHandle" ∧ (parseMethodDescriptor y_Ld_restReaches.desc).map (fun d => d.parameters.length) = some 0 := by decide +kernel
abbrev rm_Ld_restReaches : Room := { frames := 0, cells := 0, slots := 0, locals := 0 }
theorem hv_Ld_reduce : y_Ld_reduce.cls = "SchemaJudge$LongDivision" ∧ y_Ld_reduce.cls ≠ "java/lang/invoke/MethodHandle" ∧ y_Ld_reduce.cls ≠ "java/lang/invoke/VarHandle" ∧ (parseMethodDescriptor y_Ld_reduce.desc).map (fun d => d.parameters.length) = some 0 := by decide +kernel
abbrev rm_Ld_reduce : Room := { frames := 1, cells := 0, slots := 0, locals := 21 }
theorem hv_Ld_isZero : y_Ld_isZero.cls = "SchemaJudge$LongDivision" ∧ y_Ld_isZero.cls ≠ "java/lang/invoke/MethodHandle" ∧ y_Ld_isZero.cls ≠ "java/lang/invoke/VarHandle" ∧ (parseMethodDescriptor y_Ld_isZero.desc).map (fun d => d.parameters.length) = some 0 := by decide +kernel
abbrev rm_Ld_isZero : Room := { frames := 0, cells := 0, slots := 0, locals := 0 }
theorem hv_Jd_hasAll : y_Jd_hasAll.cls = "SchemaJudge$Judge" ∧ y_Jd_hasAll.cls ≠ "java/lang/invoke/MethodHandle" ∧ y_Jd_hasAll.cls ≠ "java/lang/invoke/VarHandle" ∧ (parseMethodDescriptor y_Jd_hasAll.desc).map (fun d => d.parameters.length) = some 2 := by decide +kernel
abbrev rm_Jd_hasAll : Room := { frames := 2, cells := 0, slots := 0, locals := 52 }
theorem hv_Jd_hasDependents : y_Jd_hasDependents.cls = "SchemaJudge$Judge" ∧ y_Jd_hasDependents.cls ≠ "java/lang/invoke/MethodHandle" ∧ y_Jd_hasDependents.cls ≠ "java/lang/invoke/VarHandle" ∧ (parseMethodDescriptor y_Jd_hasDependents.desc).map (fun d => d.parameters.length) = some 2 := by decide +kernel
abbrev rm_Jd_hasDependents : Room := { frames := 3, cells := 0, slots := 0, locals := 76 }
theorem hv_Pr_sort : y_Pr_sort.cls = "SchemaJudge$Pairs" ∧ y_Pr_sort.cls ≠ "java/lang/invoke/MethodHandle" ∧ y_Pr_sort.cls ≠ "java/lang/invoke/VarHandle" ∧ (parseMethodDescriptor y_Pr_sort.desc).map (fun d => d.parameters.length) = some 0 := by decide +kernel
abbrev rm_Pr_sort : Room := { frames := 0, cells := 0, slots := 0, locals := 0 }
theorem hv_Jd_finish : y_Jd_finish.cls = "SchemaJudge$Judge" ∧ y_Jd_finish.cls ≠ "java/lang/invoke/MethodHandle" ∧ y_Jd_finish.cls ≠ "java/lang/invoke/VarHandle" ∧ (parseMethodDescriptor y_Jd_finish.desc).map (fun d => d.parameters.length) = some 0 := by decide +kernel
abbrev rm_Jd_finish : Room := { frames := 1, cells := 0, slots := 0, locals := 24 }
theorem hv_Jd_isOver : y_Jd_isOver.cls = "SchemaJudge$Judge" ∧ y_Jd_isOver.cls ≠ "java/lang/invoke/MethodHandle" ∧ y_Jd_isOver.cls ≠ "java/lang/invoke/VarHandle" ∧ (parseMethodDescriptor y_Jd_isOver.desc).map (fun d => d.parameters.length) = some 0 := by decide +kernel
abbrev rm_Jd_isOver : Room := { frames := 0, cells := 0, slots := 0, locals := 0 }
theorem hv_Jd_pairsKept : y_Jd_pairsKept.cls = "SchemaJudge$Judge" ∧ y_Jd_pairsKept.cls ≠ "java/lang/invoke/MethodHandle" ∧ y_Jd_pairsKept.cls ≠ "java/lang/invoke/VarHandle" ∧ (parseMethodDescriptor y_Jd_pairsKept.desc).map (fun d => d.parameters.length) = some 0 := by decide +kernel
abbrev rm_Jd_pairsKept : Room := { frames := 1, cells := 0, slots := 0, locals := 20 }
theorem hv_Pr_at : y_Pr_at.cls = "SchemaJudge$Pairs" ∧ y_Pr_at.cls ≠ "java/lang/invoke/MethodHandle" ∧ y_Pr_at.cls ≠ "java/lang/invoke/VarHandle" ∧ (parseMethodDescriptor y_Pr_at.desc).map (fun d => d.parameters.length) = some 2 := by decide +kernel
abbrev rm_Pr_at : Room := { frames := 0, cells := 0, slots := 0, locals := 0 }
theorem hv_Jd_pairAt : y_Jd_pairAt.cls = "SchemaJudge$Judge" ∧ y_Jd_pairAt.cls ≠ "java/lang/invoke/MethodHandle" ∧ y_Jd_pairAt.cls ≠ "java/lang/invoke/VarHandle" ∧ (parseMethodDescriptor y_Jd_pairAt.desc).map (fun d => d.parameters.length) = some 2 := by decide +kernel
abbrev rm_Jd_pairAt : Room := { frames := 1, cells := 0, slots := 0, locals := 22 }
theorem hv_Jd_evaluatedSchemas : y_Jd_evaluatedSchemas.cls = "SchemaJudge$Judge" ∧ y_Jd_evaluatedSchemas.cls ≠ "java/lang/invoke/MethodHandle" ∧ y_Jd_evaluatedSchemas.cls ≠ "java/lang/invoke/VarHandle" ∧ (parseMethodDescriptor y_Jd_evaluatedSchemas.desc).map (fun d => d.parameters.length) = some 0 := by decide +kernel
abbrev rm_Jd_evaluatedSchemas : Room := { frames := 0, cells := 0, slots := 0, locals := 0 }
theorem hv_Jd_deepest : y_Jd_deepest.cls = "SchemaJudge$Judge" ∧ y_Jd_deepest.cls ≠ "java/lang/invoke/MethodHandle" ∧ y_Jd_deepest.cls ≠ "java/lang/invoke/VarHandle" ∧ (parseMethodDescriptor y_Jd_deepest.desc).map (fun d => d.parameters.length) = some 0 := by decide +kernel
abbrev rm_Jd_deepest : Room := { frames := 0, cells := 0, slots := 0, locals := 0 }
theorem hv_Tx_clear : y_Tx_clear.cls = "SchemaJudge$Text" ∧ y_Tx_clear.cls ≠ "java/lang/invoke/MethodHandle" ∧ y_Tx_clear.cls ≠ "java/lang/invoke/VarHandle" ∧ (parseMethodDescriptor y_Tx_clear.desc).map (fun d => d.parameters.length) = some 0 := by decide +kernel
abbrev rm_Tx_clear : Room := { frames := 0, cells := 0, slots := 0, locals := 0 }
theorem hv_Tx_begin : y_Tx_begin.cls = "SchemaJudge$Text" ∧ y_Tx_begin.cls ≠ "java/lang/invoke/MethodHandle" ∧ y_Tx_begin.cls ≠ "java/lang/invoke/VarHandle" ∧ (parseMethodDescriptor y_Tx_begin.desc).map (fun d => d.parameters.length) = some 4 := by decide +kernel
abbrev rm_Tx_begin : Room := { frames := 0, cells := 0, slots := 0, locals := 0 }
theorem hv_Tx_addDigit : y_Tx_addDigit.cls = "SchemaJudge$Text" ∧ y_Tx_addDigit.cls ≠ "java/lang/invoke/MethodHandle" ∧ y_Tx_addDigit.cls ≠ "java/lang/invoke/VarHandle" ∧ (parseMethodDescriptor y_Tx_addDigit.desc).map (fun d => d.parameters.length) = some 1 := by decide +kernel
abbrev rm_Tx_addDigit : Room := { frames := 0, cells := 0, slots := 0, locals := 0 }
theorem hv_Rd_readDigits : y_Rd_readDigits.cls = "SchemaJudge$Reader" ∧ y_Rd_readDigits.cls ≠ "java/lang/invoke/MethodHandle" ∧ y_Rd_readDigits.cls ≠ "java/lang/invoke/VarHandle" ∧ (parseMethodDescriptor y_Rd_readDigits.desc).map (fun d => d.parameters.length) = some 1 := by decide +kernel
abbrev rm_Rd_readDigits : Room := { frames := 1, cells := 0, slots := 0, locals := 21 }
theorem hv_Tx_endNumber : y_Tx_endNumber.cls = "SchemaJudge$Text" ∧ y_Tx_endNumber.cls ≠ "java/lang/invoke/MethodHandle" ∧ y_Tx_endNumber.cls ≠ "java/lang/invoke/VarHandle" ∧ (parseMethodDescriptor y_Tx_endNumber.desc).map (fun d => d.parameters.length) = some 3 := by decide +kernel
abbrev rm_Tx_endNumber : Room := { frames := 0, cells := 0, slots := 0, locals := 0 }
theorem hv_Rd_readNumber : y_Rd_readNumber.cls = "SchemaJudge$Reader" ∧ y_Rd_readNumber.cls ≠ "java/lang/invoke/MethodHandle" ∧ y_Rd_readNumber.cls ≠ "java/lang/invoke/VarHandle" ∧ (parseMethodDescriptor y_Rd_readNumber.desc).map (fun d => d.parameters.length) = some 1 := by decide +kernel
abbrev rm_Rd_readNumber : Room := { frames := 2, cells := 0, slots := 0, locals := 44 }
theorem hv_Tx_endString : y_Tx_endString.cls = "SchemaJudge$Text" ∧ y_Tx_endString.cls ≠ "java/lang/invoke/MethodHandle" ∧ y_Tx_endString.cls ≠ "java/lang/invoke/VarHandle" ∧ (parseMethodDescriptor y_Tx_endString.desc).map (fun d => d.parameters.length) = some 1 := by decide +kernel
abbrev rm_Tx_endString : Room := { frames := 0, cells := 0, slots := 0, locals := 0 }
theorem hv_Tx_addCharacter : y_Tx_addCharacter.cls = "SchemaJudge$Text" ∧ y_Tx_addCharacter.cls ≠ "java/lang/invoke/MethodHandle" ∧ y_Tx_addCharacter.cls ≠ "java/lang/invoke/VarHandle" ∧ (parseMethodDescriptor y_Tx_addCharacter.desc).map (fun d => d.parameters.length) = some 1 := by decide +kernel
abbrev rm_Tx_addCharacter : Room := { frames := 0, cells := 0, slots := 0, locals := 0 }
theorem hv_Rd_readString : y_Rd_readString.cls = "SchemaJudge$Reader" ∧ y_Rd_readString.cls ≠ "java/lang/invoke/MethodHandle" ∧ y_Rd_readString.cls ≠ "java/lang/invoke/VarHandle" ∧ (parseMethodDescriptor y_Rd_readString.desc).map (fun d => d.parameters.length) = some 1 := by decide +kernel
abbrev rm_Rd_readString : Room := { frames := 3, cells := 0, slots := 0, locals := 68 }
theorem hv_Tx_endParent : y_Tx_endParent.cls = "SchemaJudge$Text" ∧ y_Tx_endParent.cls ≠ "java/lang/invoke/MethodHandle" ∧ y_Tx_endParent.cls ≠ "java/lang/invoke/VarHandle" ∧ (parseMethodDescriptor y_Tx_endParent.desc).map (fun d => d.parameters.length) = some 2 := by decide +kernel
abbrev rm_Tx_endParent : Room := { frames := 0, cells := 0, slots := 0, locals := 0 }
theorem hv_Rd_beginName : y_Rd_beginName.cls = "SchemaJudge$Reader" ∧ y_Rd_beginName.cls ≠ "java/lang/invoke/MethodHandle" ∧ y_Rd_beginName.cls ≠ "java/lang/invoke/VarHandle" ∧ (parseMethodDescriptor y_Rd_beginName.desc).map (fun d => d.parameters.length) = some 2 := by decide +kernel
abbrev rm_Rd_beginName : Room := { frames := 2, cells := 0, slots := 0, locals := 43 }
theorem hv_Tx_place : y_Tx_place.cls = "SchemaJudge$Text" ∧ y_Tx_place.cls ≠ "java/lang/invoke/MethodHandle" ∧ y_Tx_place.cls ≠ "java/lang/invoke/VarHandle" ∧ (parseMethodDescriptor y_Tx_place.desc).map (fun d => d.parameters.length) = some 1 := by decide +kernel
abbrev rm_Tx_place : Room := { frames := 0, cells := 0, slots := 0, locals := 0 }
theorem hv_Rd_endName : y_Rd_endName.cls = "SchemaJudge$Reader" ∧ y_Rd_endName.cls ≠ "java/lang/invoke/MethodHandle" ∧ y_Rd_endName.cls ≠ "java/lang/invoke/VarHandle" ∧ (parseMethodDescriptor y_Rd_endName.desc).map (fun d => d.parameters.length) = some 2 := by decide +kernel
abbrev rm_Rd_endName : Room := { frames := 2, cells := 0, slots := 0, locals := 52 }
theorem hv_Tx_sign : y_Tx_sign.cls = "SchemaJudge$Text" ∧ y_Tx_sign.cls ≠ "java/lang/invoke/MethodHandle" ∧ y_Tx_sign.cls ≠ "java/lang/invoke/VarHandle" ∧ (parseMethodDescriptor y_Tx_sign.desc).map (fun d => d.parameters.length) = some 1 := by decide +kernel
abbrev rm_Tx_sign : Room := { frames := 0, cells := 0, slots := 0, locals := 0 }
theorem hv_Tx_exponent : y_Tx_exponent.cls = "SchemaJudge$Text" ∧ y_Tx_exponent.cls ≠ "java/lang/invoke/MethodHandle" ∧ y_Tx_exponent.cls ≠ "java/lang/invoke/VarHandle" ∧ (parseMethodDescriptor y_Tx_exponent.desc).map (fun d => d.parameters.length) = some 1 := by decide +kernel
abbrev rm_Tx_exponent : Room := { frames := 0, cells := 0, slots := 0, locals := 0 }
theorem hv_Tx_wholeNumber : y_Tx_wholeNumber.cls = "SchemaJudge$Text" ∧ y_Tx_wholeNumber.cls ≠ "java/lang/invoke/MethodHandle" ∧ y_Tx_wholeNumber.cls ≠ "java/lang/invoke/VarHandle" ∧ (parseMethodDescriptor y_Tx_wholeNumber.desc).map (fun d => d.parameters.length) = some 1 := by decide +kernel
abbrev rm_Tx_wholeNumber : Room := { frames := 1, cells := 0, slots := 0, locals := 23 }
theorem hv_Tx_parent : y_Tx_parent.cls = "SchemaJudge$Text" ∧ y_Tx_parent.cls ≠ "java/lang/invoke/MethodHandle" ∧ y_Tx_parent.cls ≠ "java/lang/invoke/VarHandle" ∧ (parseMethodDescriptor y_Tx_parent.desc).map (fun d => d.parameters.length) = some 1 := by decide +kernel
abbrev rm_Tx_parent : Room := { frames := 0, cells := 0, slots := 0, locals := 0 }
theorem hv_Tx_has : y_Tx_has.cls = "SchemaJudge$Text" ∧ y_Tx_has.cls ≠ "java/lang/invoke/MethodHandle" ∧ y_Tx_has.cls ≠ "java/lang/invoke/VarHandle" ∧ (parseMethodDescriptor y_Tx_has.desc).map (fun d => d.parameters.length) = some 1 := by decide +kernel
abbrev rm_Tx_has : Room := { frames := 0, cells := 0, slots := 0, locals := 0 }
def o_nws : List Cond := [Cond.methodLinkNest "SchemaJudge$Reader" 52 y_SJ_isDigit "SchemaJudge", Cond.methodLinkNest "SchemaJudge$Reader" 164 y_SJ_hexDigit "SchemaJudge", Cond.methodLinkNest "SchemaJudge$Reader" 157 y_SJ_isSurrogate "SchemaJudge", Cond.methodLinkNest "SchemaJudge$Reader" 139 y_SJ_utf8Tail "SchemaJudge", Cond.methodLinkNest "SchemaJudge$Reader" 142 y_SJ_utf8Head "SchemaJudge", Cond.methodLinkNest "SchemaJudge$Reader" 145 y_SJ_utf8Follows "SchemaJudge", Cond.methodLinkNest "SchemaJudge$Reader" 148 y_SJ_utf8Legal "SchemaJudge", Cond.methodLinkNest "SchemaJudge$Pattern" 76 y_SJ_isDigit "SchemaJudge", Cond.methodLinkNest "SchemaJudge$Checker" 165 y_SJ_isLetter "SchemaJudge", Cond.methodLinkNest "SchemaJudge$Checker" 162 y_SJ_isDigit "SchemaJudge", Cond.methodLinkNest "SchemaJudge$Links" 62 y_SJ_hexDigit "SchemaJudge", Cond.methodLinkNest "SchemaJudge$Links" 65 y_SJ_utf8Tail "SchemaJudge", Cond.methodLinkNest "SchemaJudge$Links" 68 y_SJ_utf8Head "SchemaJudge", Cond.methodLinkNest "SchemaJudge$Links" 71 y_SJ_utf8Follows "SchemaJudge", Cond.methodLinkNest "SchemaJudge$Links" 74 y_SJ_utf8Legal "SchemaJudge", Cond.methodLinkNest "SchemaJudge$Links" 117 y_SJ_isDigit "SchemaJudge"]
theorem nw_0 : Cond.methodLinkNest "SchemaJudge$Reader" 52 y_SJ_isDigit "SchemaJudge" ∈ o_nws := List.mem_of_getElem? (i := 0) rfl
theorem nw_1 : Cond.methodLinkNest "SchemaJudge$Reader" 164 y_SJ_hexDigit "SchemaJudge" ∈ o_nws := List.mem_of_getElem? (i := 1) rfl
theorem nw_2 : Cond.methodLinkNest "SchemaJudge$Reader" 157 y_SJ_isSurrogate "SchemaJudge" ∈ o_nws := List.mem_of_getElem? (i := 2) rfl
theorem nw_3 : Cond.methodLinkNest "SchemaJudge$Reader" 139 y_SJ_utf8Tail "SchemaJudge" ∈ o_nws := List.mem_of_getElem? (i := 3) rfl
theorem nw_4 : Cond.methodLinkNest "SchemaJudge$Reader" 142 y_SJ_utf8Head "SchemaJudge" ∈ o_nws := List.mem_of_getElem? (i := 4) rfl
theorem nw_5 : Cond.methodLinkNest "SchemaJudge$Reader" 145 y_SJ_utf8Follows "SchemaJudge" ∈ o_nws := List.mem_of_getElem? (i := 5) rfl
theorem nw_6 : Cond.methodLinkNest "SchemaJudge$Reader" 148 y_SJ_utf8Legal "SchemaJudge" ∈ o_nws := List.mem_of_getElem? (i := 6) rfl
theorem nw_7 : Cond.methodLinkNest "SchemaJudge$Pattern" 76 y_SJ_isDigit "SchemaJudge" ∈ o_nws := List.mem_of_getElem? (i := 7) rfl
theorem nw_8 : Cond.methodLinkNest "SchemaJudge$Checker" 165 y_SJ_isLetter "SchemaJudge" ∈ o_nws := List.mem_of_getElem? (i := 8) rfl
theorem nw_9 : Cond.methodLinkNest "SchemaJudge$Checker" 162 y_SJ_isDigit "SchemaJudge" ∈ o_nws := List.mem_of_getElem? (i := 9) rfl
theorem nw_10 : Cond.methodLinkNest "SchemaJudge$Links" 62 y_SJ_hexDigit "SchemaJudge" ∈ o_nws := List.mem_of_getElem? (i := 10) rfl
theorem nw_11 : Cond.methodLinkNest "SchemaJudge$Links" 65 y_SJ_utf8Tail "SchemaJudge" ∈ o_nws := List.mem_of_getElem? (i := 11) rfl
theorem nw_12 : Cond.methodLinkNest "SchemaJudge$Links" 68 y_SJ_utf8Head "SchemaJudge" ∈ o_nws := List.mem_of_getElem? (i := 12) rfl
theorem nw_13 : Cond.methodLinkNest "SchemaJudge$Links" 71 y_SJ_utf8Follows "SchemaJudge" ∈ o_nws := List.mem_of_getElem? (i := 13) rfl
theorem nw_14 : Cond.methodLinkNest "SchemaJudge$Links" 74 y_SJ_utf8Legal "SchemaJudge" ∈ o_nws := List.mem_of_getElem? (i := 14) rfl
theorem nw_15 : Cond.methodLinkNest "SchemaJudge$Links" 117 y_SJ_isDigit "SchemaJudge" ∈ o_nws := List.mem_of_getElem? (i := 15) rfl
theorem o_nws_tbl : ∀ w ∈ o_nws, w ∈ lw_tbl := List.forall_mem_cons.mpr ⟨o_tb3 _ (List.mem_of_getElem? (i := 45) rfl), List.forall_mem_cons.mpr ⟨o_tb3 _ (List.mem_of_getElem? (i := 151) rfl), List.forall_mem_cons.mpr ⟨o_tb3 _ (List.mem_of_getElem? (i := 154) rfl), List.forall_mem_cons.mpr ⟨o_tb3 _ (List.mem_of_getElem? (i := 167) rfl), List.forall_mem_cons.mpr ⟨o_tb3 _ (List.mem_of_getElem? (i := 170) rfl), List.forall_mem_cons.mpr ⟨o_tb3 _ (List.mem_of_getElem? (i := 173) rfl), List.forall_mem_cons.mpr ⟨o_tb3 _ (List.mem_of_getElem? (i := 176) rfl), List.forall_mem_cons.mpr ⟨o_tb4 _ (List.mem_of_getElem? (i := 129) rfl), List.forall_mem_cons.mpr ⟨o_tb5 _ (List.mem_of_getElem? (i := 78) rfl), List.forall_mem_cons.mpr ⟨o_tb5 _ (List.mem_of_getElem? (i := 77) rfl), List.forall_mem_cons.mpr ⟨o_tb5 _ (List.mem_of_getElem? (i := 155) rfl), List.forall_mem_cons.mpr ⟨o_tb5 _ (List.mem_of_getElem? (i := 160) rfl), List.forall_mem_cons.mpr ⟨o_tb5 _ (List.mem_of_getElem? (i := 161) rfl), List.forall_mem_cons.mpr ⟨o_tb5 _ (List.mem_of_getElem? (i := 162) rfl), List.forall_mem_cons.mpr ⟨o_tb5 _ (List.mem_of_getElem? (i := 163) rfl), List.forall_mem_cons.mpr ⟨o_tb5 _ (List.mem_of_getElem? (i := 177) rfl), fun _ h => absurd h List.not_mem_nil⟩⟩⟩⟩⟩⟩⟩⟩⟩⟩⟩⟩⟩⟩⟩⟩
def o_EK (E : (Nat → Prop) → State → Heap → Prop) (kd sd : Nat → Nat) : Prop := o_Ek E ∧ (∀ (A : Nat → Prop) (U : State) (H : Heap), E A U H → ∀ w ∈ o_nws, va_Nw w U) ∧ True
