/-! the words of the tables, by their places -/
theorem m_0 : Cond.selects RX2 yX2_isOpenFor yX2_isOpenFor ∈ big := big_i 0 (by decide +kernel) rfl
theorem m_1 : Cond.selects RX2 yX2_latestFor yX2_latestFor ∈ big := big_i 1 (by decide +kernel) rfl
theorem m_2 : Cond.selects RX3 yX3_urgencyOf yX3_urgencyOf ∈ big := big_i 2 (by decide +kernel) rfl
theorem m_3 : Cond.selects RX3 yX3_worthOf yX3_worthOf ∈ big := big_i 3 (by decide +kernel) rfl
theorem m_4 : Cond.selects RX3 yX3_bookOf yX3_bookOf ∈ big := big_i 4 (by decide +kernel) rfl
theorem m_5 : Cond.selects RX3 yX3_signedSheetFor yX3_signedSheetFor ∈ big := big_i 5 (by decide +kernel) rfl
theorem m_6 : Cond.selects RX0 yX0_hasSign yX0_hasSign ∈ big := big_i 6 (by decide +kernel) rfl
theorem m_7 : Cond.selects RX3 yX3_isStronger yX3_isStronger ∈ big := big_i 7 (by decide +kernel) rfl
theorem m_8 : Cond.selects RX1 yX1_brought yX1_brought ∈ big := big_i 8 (by decide +kernel) rfl
theorem m_10 : Cond.selects RX1 yX1_add yX1_add ∈ big := big_i 10 (by decide +kernel) rfl
theorem m_11 : Cond.selects RX2 yX2_add yX2_add ∈ big := big_i 11 (by decide +kernel) rfl
theorem m_12 : Cond.selects RX0 yX0_agrees yX0_agrees ∈ big := big_i 12 (by decide +kernel) rfl
theorem m_13 : Cond.selects RX0 yX0_isCountedBy yX0_isCountedBy ∈ big := big_i 13 (by decide +kernel) rfl
theorem m_14 : Cond.selects RX0 yX0_add yX0_add ∈ big := big_i 14 (by decide +kernel) rfl
theorem m_15 : Cond.selects RX0 yX0_countsOn yX0_countsOn ∈ big := big_i 15 (by decide +kernel) rfl
theorem m_16 : Cond.selects RX3 yX3_checkAgrees yX3_checkAgrees ∈ big := big_i 16 (by decide +kernel) rfl
theorem m_17 : Cond.selects RX3 yX3_isSignable yX3_isSignable ∈ big := big_i 17 (by decide +kernel) rfl
theorem m_18 : Cond.selects RX3 yX3_gapOf yX3_gapOf ∈ big := big_i 18 (by decide +kernel) rfl
theorem m_19 : Cond.selects RX0 yX0_write yX0_write ∈ big := big_i 19 (by decide +kernel) rfl
theorem m_20 : Cond.selects RX3 yX3_canBeSettled yX3_canBeSettled ∈ big := big_i 20 (by decide +kernel) rfl
theorem m_21 : Cond.selects RX3 yX3_checkLine yX3_checkLine ∈ big := big_i 21 (by decide +kernel) rfl
theorem m_22 : Cond.selects RX4 yX4_goes yX4_goes ∈ big := big_i 22 (by decide +kernel) rfl
theorem m_23 : Cond.selects RX4 yX4_hasOpen yX4_hasOpen ∈ big := big_i 23 (by decide +kernel) rfl
theorem m_24 : Cond.selects RX4 yX4_isSheet yX4_isSheet ∈ big := big_i 24 (by decide +kernel) rfl
theorem m_25 : Cond.selects RX4 yX4_hasCounted yX4_hasCounted ∈ big := big_i 25 (by decide +kernel) rfl
theorem m_26 : Cond.selects RX4 yX4_agree yX4_agree ∈ big := big_i 26 (by decide +kernel) rfl
theorem m_27 : Cond.selects RX4 yX4_agrees yX4_agrees ∈ big := big_i 27 (by decide +kernel) rfl
theorem m_28 : Cond.selects RX4 yX4_gapOf yX4_gapOf ∈ big := big_i 28 (by decide +kernel) rfl
theorem m_29 : Cond.selects RX4 yX4_bookOf yX4_bookOf ∈ big := big_i 29 (by decide +kernel) rfl
theorem m_30 : Cond.selects RX4 yX4_signs yX4_signs ∈ big := big_i 30 (by decide +kernel) rfl
theorem m_31 : Cond.selects RX4 yX4_canSettle yX4_canSettle ∈ big := big_i 31 (by decide +kernel) rfl
theorem m_32 : Cond.selects RX4 yX4_told yX4_told ∈ big := big_i 32 (by decide +kernel) rfl
theorem m_33 : Cond.selects RX4 yX4_worthOf yX4_worthOf ∈ big := big_i 33 (by decide +kernel) rfl
theorem m_34 : Cond.initialized RL ∈ big := big_i 34 (by decide +kernel) rfl
theorem m_35 : Cond.initialized RX3 ∈ big := big_i 35 (by decide +kernel) rfl
theorem m_36 : Cond.initialized RX1 ∈ big := big_i 36 (by decide +kernel) rfl
theorem m_37 : Cond.initialized RX2 ∈ big := big_i 37 (by decide +kernel) rfl
theorem m_38 : Cond.initialized RX0 ∈ big := big_i 38 (by decide +kernel) rfl
theorem m_39 : Cond.initialized "java/util/Arrays" ∈ big := big_i 39 (by decide +kernel) rfl
theorem m_40 : Cond.initialized RX4 ∈ big := big_i 40 (by decide +kernel) rfl
theorem m_41 : Cond.initialized "java/lang/Throwable" ∈ big := big_i 41 (by decide +kernel) rfl
theorem m_42 : Cond.initialized "java/lang/Exception" ∈ big := big_i 42 (by decide +kernel) rfl
theorem m_43 : Cond.initialized "java/lang/RuntimeException" ∈ big := big_i 43 (by decide +kernel) rfl
theorem m_44 : Cond.initialized "java/lang/IndexOutOfBoundsException" ∈ big := big_i 44 (by decide +kernel) rfl
theorem m_45 : Cond.initialized "java/lang/IllegalArgumentException" ∈ big := big_i 45 (by decide +kernel) rfl
theorem m_46 : Cond.initialized "java/lang/IllegalStateException" ∈ big := big_i 46 (by decide +kernel) rfl
theorem m_47 : Cond.initialized "java/lang/Integer" ∈ big := big_i 47 (by decide +kernel) rfl
theorem m_48 : Cond.initialized "java/lang/Math" ∈ big := big_i 48 (by decide +kernel) rfl
theorem m_49 : Cond.initialized "java/util/NoSuchElementException" ∈ big := big_i 49 (by decide +kernel) rfl
theorem m_50 : Cond.classLink RL 8 RX3 ∈ big := big_i 50 (by decide +kernel) rfl
theorem m_51 : Cond.instantiable RX3 6 ∈ big := big_i 51 (by decide +kernel) rfl
theorem m_52 : Cond.methodLink RL 83 yX3_init ∈ big := big_i 52 (by decide +kernel) rfl
theorem m_53 : Cond.instanceMethod yX3_init ∈ big := big_i 53 (by decide +kernel) rfl
theorem m_54 : Cond.code yX3_init cX3_init 1 none ∈ big := big_i 54 (by decide +kernel) rfl
theorem m_55 : Cond.methodLink RX3 3 objectInit ∈ big := big_i 55 (by decide +kernel) rfl
theorem m_56 : Cond.instanceMethod objectInit ∈ big := big_i 56 (by decide +kernel) rfl
theorem m_57 : Cond.code objectInit ⟨#[0xb1]⟩ 1 none ∈ big := big_i 57 (by decide +kernel) rfl
theorem m_58 : Cond.classLink RX3 16 RX1 ∈ big := big_i 58 (by decide +kernel) rfl
theorem m_59 : Cond.instantiable RX1 6 ∈ big := big_i 59 (by decide +kernel) rfl
theorem n_60 : Cond.methodLinkNest RX3 18 yX1_init "CountSheets" ∈ lw_tbl := List.mem_of_getElem? (i := 60) (by decide +kernel)
theorem m_61 : Cond.instanceMethod yX1_init ∈ big := big_i 61 (by decide +kernel) rfl
theorem m_62 : Cond.code yX1_init cX1_init 1 none ∈ big := big_i 62 (by decide +kernel) rfl
theorem m_63 : Cond.methodLink RX1 3 objectInit ∈ big := big_i 63 (by decide +kernel) rfl
theorem m_64 : Cond.fieldLink RX1 9 "CountSheets$MoveRows" "from" "[I" ∈ big := big_i 64 (by decide +kernel) rfl
theorem m_65 : Cond.fieldLink RX1 15 "CountSheets$MoveRows" "to" "[I" ∈ big := big_i 65 (by decide +kernel) rfl
theorem m_66 : Cond.fieldLink RX1 18 "CountSheets$MoveRows" "article" "[I" ∈ big := big_i 66 (by decide +kernel) rfl
theorem m_67 : Cond.fieldLink RX1 21 "CountSheets$MoveRows" "quantity" "[I" ∈ big := big_i 67 (by decide +kernel) rfl
theorem m_68 : Cond.fieldLink RX1 24 "CountSheets$MoveRows" "minute" "[I" ∈ big := big_i 68 (by decide +kernel) rfl
theorem m_69 : Cond.fieldLink RX1 27 "CountSheets$MoveRows" "size" "I" ∈ big := big_i 69 (by decide +kernel) rfl
theorem n_70 : Cond.fieldLinkNest RX3 67 "CountSheets$MoveRows" "size" "I" "CountSheets" ∈ lw_tbl := List.mem_of_getElem? (i := 70) (by decide +kernel)
theorem m_84 : Cond.arrayClass .int ∈ big := big_i 84 (by decide +kernel) rfl
theorem m_85 : Cond.classLink RX3 23 RX2 ∈ big := big_i 85 (by decide +kernel) rfl
theorem m_86 : Cond.instantiable RX2 4 ∈ big := big_i 86 (by decide +kernel) rfl
theorem n_87 : Cond.methodLinkNest RX3 25 yX2_init "CountSheets" ∈ lw_tbl := List.mem_of_getElem? (i := 87) (by decide +kernel)
theorem m_88 : Cond.instanceMethod yX2_init ∈ big := big_i 88 (by decide +kernel) rfl
theorem m_89 : Cond.code yX2_init cX2_init 1 none ∈ big := big_i 89 (by decide +kernel) rfl
theorem m_90 : Cond.methodLink RX2 3 objectInit ∈ big := big_i 90 (by decide +kernel) rfl
theorem m_91 : Cond.fieldLink RX2 9 "CountSheets$SheetRows" "place" "[I" ∈ big := big_i 91 (by decide +kernel) rfl
theorem n_92 : Cond.fieldLinkNest RX3 170 "CountSheets$SheetRows" "place" "[I" "CountSheets" ∈ lw_tbl := List.mem_of_getElem? (i := 92) (by decide +kernel)
theorem m_93 : Cond.fieldLink RX2 15 "CountSheets$SheetRows" "cut" "[I" ∈ big := big_i 93 (by decide +kernel) rfl
theorem n_94 : Cond.fieldLinkNest RX3 158 "CountSheets$SheetRows" "cut" "[I" "CountSheets" ∈ lw_tbl := List.mem_of_getElem? (i := 94) (by decide +kernel)
theorem m_95 : Cond.fieldLink RX2 18 "CountSheets$SheetRows" "closed" "[Z" ∈ big := big_i 95 (by decide +kernel) rfl
theorem n_96 : Cond.fieldLinkNest RX3 95 "CountSheets$SheetRows" "closed" "[Z" "CountSheets" ∈ lw_tbl := List.mem_of_getElem? (i := 96) (by decide +kernel)
theorem m_97 : Cond.fieldLink RX2 22 "CountSheets$SheetRows" "size" "I" ∈ big := big_i 97 (by decide +kernel) rfl
theorem n_98 : Cond.fieldLinkNest RX3 85 "CountSheets$SheetRows" "size" "I" "CountSheets" ∈ lw_tbl := List.mem_of_getElem? (i := 98) (by decide +kernel)
theorem m_108 : Cond.arrayClass .boolean ∈ big := big_i 108 (by decide +kernel) rfl
theorem m_109 : Cond.classLink RX3 30 RX0 ∈ big := big_i 109 (by decide +kernel) rfl
theorem m_110 : Cond.instantiable RX0 7 ∈ big := big_i 110 (by decide +kernel) rfl
theorem n_111 : Cond.methodLinkNest RX3 32 yX0_init "CountSheets" ∈ lw_tbl := List.mem_of_getElem? (i := 111) (by decide +kernel)
theorem m_112 : Cond.instanceMethod yX0_init ∈ big := big_i 112 (by decide +kernel) rfl
theorem m_113 : Cond.code yX0_init cX0_init 1 none ∈ big := big_i 113 (by decide +kernel) rfl
theorem m_114 : Cond.methodLink RX0 3 objectInit ∈ big := big_i 114 (by decide +kernel) rfl
theorem m_115 : Cond.methodLink RX0 34 yJ7_fill_53178 ∈ big := big_i 115 (by decide +kernel) rfl
theorem m_116 : Cond.static yJ7_fill_53178 ∈ big := big_i 116 (by decide +kernel) rfl
theorem m_117 : Cond.code yJ7_fill_53178 cJ7_fill_53178 4 none ∈ big := big_i 117 (by decide +kernel) rfl
theorem m_118 : Cond.fieldLink RX0 11 "CountSheets$LineRows" "persons" "[I" ∈ big := big_i 118 (by decide +kernel) rfl
theorem m_119 : Cond.fieldLink RX0 15 "CountSheets$LineRows" "first" "[I" ∈ big := big_i 119 (by decide +kernel) rfl
theorem m_120 : Cond.fieldLink RX0 18 "CountSheets$LineRows" "second" "[I" ∈ big := big_i 120 (by decide +kernel) rfl
theorem m_121 : Cond.fieldLink RX0 21 "CountSheets$LineRows" "agreement" "[I" ∈ big := big_i 121 (by decide +kernel) rfl
theorem n_122 : Cond.fieldLinkNest RX3 164 "CountSheets$LineRows" "agreement" "[I" "CountSheets" ∈ lw_tbl := List.mem_of_getElem? (i := 122) (by decide +kernel)
theorem m_123 : Cond.fieldLink RX0 24 "CountSheets$LineRows" "signature" "[I" ∈ big := big_i 123 (by decide +kernel) rfl
theorem n_124 : Cond.fieldLinkNest RX3 198 "CountSheets$LineRows" "signature" "[I" "CountSheets" ∈ lw_tbl := List.mem_of_getElem? (i := 124) (by decide +kernel)
theorem m_125 : Cond.fieldLink RX0 27 "CountSheets$LineRows" "signedGap" "[I" ∈ big := big_i 125 (by decide +kernel) rfl
theorem n_126 : Cond.fieldLinkNest RX3 173 "CountSheets$LineRows" "signedGap" "[I" "CountSheets" ∈ lw_tbl := List.mem_of_getElem? (i := 126) (by decide +kernel)
theorem m_127 : Cond.fieldLink RX0 30 "CountSheets$LineRows" "signatures" "I" ∈ big := big_i 127 (by decide +kernel) rfl
theorem m_143 : Cond.methodLink RX3 41 yJ7_fill_53178 ∈ big := big_i 143 (by decide +kernel) rfl
theorem m_144 : Cond.fieldLink RX3 9 "CountSheets" "prices" "[I" ∈ big := big_i 144 (by decide +kernel) rfl
theorem m_145 : Cond.fieldLink RX3 13 "CountSheets" "bounds" "[I" ∈ big := big_i 145 (by decide +kernel) rfl
theorem m_146 : Cond.fieldLink RX3 19 "CountSheets" "moveRows" "LCountSheets$MoveRows;" ∈ big := big_i 146 (by decide +kernel) rfl
theorem m_147 : Cond.fieldLink RX3 26 "CountSheets" "sheetRows" "LCountSheets$SheetRows;" ∈ big := big_i 147 (by decide +kernel) rfl
theorem m_148 : Cond.fieldLink RX3 33 "CountSheets" "lineRows" "LCountSheets$LineRows;" ∈ big := big_i 148 (by decide +kernel) rfl
theorem m_149 : Cond.fieldLink RX3 37 "CountSheets" "minuteNow" "I" ∈ big := big_i 149 (by decide +kernel) rfl
theorem m_163 : Cond.methodLink RL 125 yX3_now ∈ big := big_i 163 (by decide +kernel) rfl
theorem m_164 : Cond.instanceMethod yX3_now ∈ big := big_i 164 (by decide +kernel) rfl
theorem m_165 : Cond.selects RX3 yX3_now yX3_now ∈ big := big_i 165 (by decide +kernel) rfl
theorem m_166 : Cond.code yX3_now cX3_now 1 (some .int) ∈ big := big_i 166 (by decide +kernel) rfl
theorem m_167 : Cond.methodLink RL 129 yX3_moves ∈ big := big_i 167 (by decide +kernel) rfl
theorem m_168 : Cond.instanceMethod yX3_moves ∈ big := big_i 168 (by decide +kernel) rfl
theorem m_169 : Cond.selects RX3 yX3_moves yX3_moves ∈ big := big_i 169 (by decide +kernel) rfl
theorem m_170 : Cond.code yX3_moves cX3_moves 1 (some .int) ∈ big := big_i 170 (by decide +kernel) rfl
theorem m_171 : Cond.methodLink RL 142 yX3_suggested ∈ big := big_i 171 (by decide +kernel) rfl
theorem m_172 : Cond.instanceMethod yX3_suggested ∈ big := big_i 172 (by decide +kernel) rfl
theorem m_173 : Cond.selects RX3 yX3_suggested yX3_suggested ∈ big := big_i 173 (by decide +kernel) rfl
theorem m_174 : Cond.code yX3_suggested cX3_suggested 7 (some .int) ∈ big := big_i 174 (by decide +kernel) rfl
theorem n_175 : Cond.methodLinkNest RX3 79 yX2_isOpenFor "CountSheets" ∈ lw_tbl := List.mem_of_getElem? (i := 175) (by decide +kernel)
theorem m_177 : Cond.instanceMethod yX2_isOpenFor ∈ big := big_i 177 (by decide +kernel) rfl
theorem m_178 : Cond.code yX2_isOpenFor cX2_isOpenFor 3 (some .boolean) ∈ big := big_i 178 (by decide +kernel) rfl
theorem m_179 : Cond.methodLink RX2 26 yX2_latestFor ∈ big := big_i 179 (by decide +kernel) rfl
theorem m_181 : Cond.instanceMethod yX2_latestFor ∈ big := big_i 181 (by decide +kernel) rfl
theorem m_182 : Cond.code yX2_latestFor cX2_latestFor 3 (some .int) ∈ big := big_i 182 (by decide +kernel) rfl
theorem m_183 : Cond.methodLink RX3 154 yX3_urgencyOf ∈ big := big_i 183 (by decide +kernel) rfl
theorem m_185 : Cond.instanceMethod yX3_urgencyOf ∈ big := big_i 185 (by decide +kernel) rfl
theorem m_186 : Cond.code yX3_urgencyOf cX3_urgencyOf 5 (some .long) ∈ big := big_i 186 (by decide +kernel) rfl
theorem n_187 : Cond.methodLinkNest RX3 204 yX2_latestFor "CountSheets" ∈ lw_tbl := List.mem_of_getElem? (i := 187) (by decide +kernel)
theorem m_188 : Cond.methodLink RX3 151 yX3_worthOf ∈ big := big_i 188 (by decide +kernel) rfl
theorem m_190 : Cond.instanceMethod yX3_worthOf ∈ big := big_i 190 (by decide +kernel) rfl
theorem m_191 : Cond.code yX3_worthOf cX3_worthOf 4 (some .int) ∈ big := big_i 191 (by decide +kernel) rfl
theorem m_192 : Cond.methodLink RX3 147 yX3_bookOf ∈ big := big_i 192 (by decide +kernel) rfl
theorem m_194 : Cond.instanceMethod yX3_bookOf ∈ big := big_i 194 (by decide +kernel) rfl
theorem m_195 : Cond.code yX3_bookOf cX3_bookOf 6 (some .int) ∈ big := big_i 195 (by decide +kernel) rfl
theorem m_196 : Cond.methodLink RX3 188 yX3_signedSheetFor ∈ big := big_i 196 (by decide +kernel) rfl
theorem m_198 : Cond.instanceMethod yX3_signedSheetFor ∈ big := big_i 198 (by decide +kernel) rfl
theorem m_199 : Cond.code yX3_signedSheetFor cX3_signedSheetFor 6 (some .int) ∈ big := big_i 199 (by decide +kernel) rfl
theorem m_200 : Cond.methodLink RX3 92 yX3_lineOf ∈ big := big_i 200 (by decide +kernel) rfl
theorem m_201 : Cond.static yX3_lineOf ∈ big := big_i 201 (by decide +kernel) rfl
theorem m_202 : Cond.code yX3_lineOf cX3_lineOf 2 (some .int) ∈ big := big_i 202 (by decide +kernel) rfl
theorem n_203 : Cond.methodLinkNest RX3 167 yX0_hasSign "CountSheets" ∈ lw_tbl := List.mem_of_getElem? (i := 203) (by decide +kernel)
theorem m_205 : Cond.instanceMethod yX0_hasSign ∈ big := big_i 205 (by decide +kernel) rfl
theorem m_206 : Cond.code yX0_hasSign cX0_hasSign 2 (some .boolean) ∈ big := big_i 206 (by decide +kernel) rfl
theorem m_207 : Cond.methodLink RX3 195 yX3_isStronger ∈ big := big_i 207 (by decide +kernel) rfl
theorem m_209 : Cond.instanceMethod yX3_isStronger ∈ big := big_i 209 (by decide +kernel) rfl
theorem m_210 : Cond.code yX3_isStronger cX3_isStronger 4 (some .boolean) ∈ big := big_i 210 (by decide +kernel) rfl
theorem n_211 : Cond.methodLinkNest RX3 191 yX1_brought "CountSheets" ∈ lw_tbl := List.mem_of_getElem? (i := 211) (by decide +kernel)
theorem m_213 : Cond.instanceMethod yX1_brought ∈ big := big_i 213 (by decide +kernel) rfl
theorem m_214 : Cond.code yX1_brought cX1_brought 7 (some .int) ∈ big := big_i 214 (by decide +kernel) rfl
theorem m_215 : Cond.methodLink RX3 201 yJ9_max_7cf53 ∈ big := big_i 215 (by decide +kernel) rfl
theorem m_216 : Cond.static yJ9_max_7cf53 ∈ big := big_i 216 (by decide +kernel) rfl
theorem m_217 : Cond.code yJ9_max_7cf53 cJ9_max_7cf53 2 (some .int) ∈ big := big_i 217 (by decide +kernel) rfl
theorem m_218 : Cond.methodLink RL 146 yX3_sheets ∈ big := big_i 218 (by decide +kernel) rfl
theorem m_219 : Cond.instanceMethod yX3_sheets ∈ big := big_i 219 (by decide +kernel) rfl
theorem m_220 : Cond.selects RX3 yX3_sheets yX3_sheets ∈ big := big_i 220 (by decide +kernel) rfl
theorem m_221 : Cond.code yX3_sheets cX3_sheets 1 (some .int) ∈ big := big_i 221 (by decide +kernel) rfl
theorem m_222 : Cond.methodLink RL 87 yL_setPrice ∈ big := big_i 222 (by decide +kernel) rfl
theorem m_223 : Cond.static yL_setPrice ∈ big := big_i 223 (by decide +kernel) rfl
theorem m_224 : Cond.codeWith yL_setPrice cL_setPrice 5 (some .int) [(0, 10, 13, 13), (0, 10, 17, 15)] ∈ big := big_i 224 (by decide +kernel) rfl
theorem m_225 : Cond.classLink RL 13 "java/lang/IndexOutOfBoundsException" ∈ big := big_i 225 (by decide +kernel) rfl
theorem m_226 : Cond.classLink RL 15 "java/lang/IllegalArgumentException" ∈ big := big_i 226 (by decide +kernel) rfl
theorem m_227 : Cond.methodLink RL 7 yX3_setPrice ∈ big := big_i 227 (by decide +kernel) rfl
theorem m_228 : Cond.instanceMethod yX3_setPrice ∈ big := big_i 228 (by decide +kernel) rfl
theorem m_229 : Cond.selects RX3 yX3_setPrice yX3_setPrice ∈ big := big_i 229 (by decide +kernel) rfl
theorem m_230 : Cond.code yX3_setPrice cX3_setPrice 4 (some .int) ∈ big := big_i 230 (by decide +kernel) rfl
theorem m_231 : Cond.methodLink RX3 47 yX3_checkIndex ∈ big := big_i 231 (by decide +kernel) rfl
theorem m_232 : Cond.static yX3_checkIndex ∈ big := big_i 232 (by decide +kernel) rfl
theorem m_233 : Cond.code yX3_checkIndex cX3_checkIndex 2 none ∈ big := big_i 233 (by decide +kernel) rfl
theorem m_234 : Cond.classLink RX3 176 "java/lang/IndexOutOfBoundsException" ∈ big := big_i 234 (by decide +kernel) rfl
theorem m_235 : Cond.instantiable "java/lang/IndexOutOfBoundsException" 6 ∈ big := big_i 235 (by decide +kernel) rfl
theorem n_236 : Cond.castable "java/lang/IndexOutOfBoundsException" "java/lang/IndexOutOfBoundsException" ∈ lw_tbl := List.mem_of_getElem? (i := 236) (by decide +kernel)
theorem m_255 : Cond.fieldLink "java/lang/Throwable" 198 "java/lang/Throwable" "backtrace" "Ljava/lang/Object;" ∈ big := big_i 255 (by decide +kernel) rfl
theorem m_259 : Cond.methodLink "java/lang/Throwable" 1 objectInit ∈ big := big_i 259 (by decide +kernel) rfl
theorem m_260 : Cond.fieldLink "java/lang/Throwable" 13 "java/lang/Throwable" "UNASSIGNED_STACK" "[Ljava/lang/StackTraceElement;" ∈ big := big_i 260 (by decide +kernel) rfl
theorem m_262 : Cond.fieldLink "java/lang/Throwable" 20 "java/lang/Throwable" "SUPPRESSED_SENTINEL" "Ljava/util/List;" ∈ big := big_i 262 (by decide +kernel) rfl
theorem m_274 : Cond.instantiable "java/lang/Throwable" 6 ∈ big := big_i 274 (by decide +kernel) rfl
theorem n_276 : Cond.stringRef RX3 178 "there is no such place, zone, article, person or sheet" ∈ lw_tbl := List.mem_of_getElem? (i := 276) (by decide +kernel)
theorem m_289 : Cond.fieldLink "java/lang/Throwable" 198 "java/lang/Throwable" "backtrace" "Ljava/lang/Object;" ∈ big := big_i 289 (by decide +kernel) rfl
theorem m_290 : Cond.fieldLink "java/lang/Throwable" 31 "java/lang/Throwable" "detailMessage" "Ljava/lang/String;" ∈ big := big_i 290 (by decide +kernel) rfl
theorem m_291 : Cond.fieldLink "java/lang/Throwable" 7 "java/lang/Throwable" "cause" "Ljava/lang/Throwable;" ∈ big := big_i 291 (by decide +kernel) rfl
theorem m_292 : Cond.fieldLink "java/lang/Throwable" 17 "java/lang/Throwable" "stackTrace" "[Ljava/lang/StackTraceElement;" ∈ big := big_i 292 (by decide +kernel) rfl
theorem m_293 : Cond.fieldLink "java/lang/Throwable" 24 "java/lang/Throwable" "suppressedExceptions" "Ljava/util/List;" ∈ big := big_i 293 (by decide +kernel) rfl
theorem m_303 : Cond.methodLink RX3 51 yX3_checkRange ∈ big := big_i 303 (by decide +kernel) rfl
theorem m_304 : Cond.static yX3_checkRange ∈ big := big_i 304 (by decide +kernel) rfl
theorem m_305 : Cond.code yX3_checkRange cX3_checkRange 3 none ∈ big := big_i 305 (by decide +kernel) rfl
theorem m_306 : Cond.classLink RX3 60 "java/lang/IllegalArgumentException" ∈ big := big_i 306 (by decide +kernel) rfl
theorem m_307 : Cond.instantiable "java/lang/IllegalArgumentException" 6 ∈ big := big_i 307 (by decide +kernel) rfl
theorem n_308 : Cond.castable "java/lang/IllegalArgumentException" "java/lang/IllegalArgumentException" ∈ lw_tbl := List.mem_of_getElem? (i := 308) (by decide +kernel)
theorem n_315 : Cond.stringRef RX3 181 "an argument is out of its range" ∈ lw_tbl := List.mem_of_getElem? (i := 315) (by decide +kernel)
theorem m_322 : Cond.methodLink RL 97 yL_setBound ∈ big := big_i 322 (by decide +kernel) rfl
theorem m_323 : Cond.static yL_setBound ∈ big := big_i 323 (by decide +kernel) rfl
theorem m_324 : Cond.codeWith yL_setBound cL_setBound 5 (some .int) [(0, 10, 13, 13), (0, 10, 17, 15)] ∈ big := big_i 324 (by decide +kernel) rfl
theorem m_325 : Cond.methodLink RL 17 yX3_setBound ∈ big := big_i 325 (by decide +kernel) rfl
theorem m_326 : Cond.instanceMethod yX3_setBound ∈ big := big_i 326 (by decide +kernel) rfl
theorem m_327 : Cond.selects RX3 yX3_setBound yX3_setBound ∈ big := big_i 327 (by decide +kernel) rfl
theorem m_328 : Cond.code yX3_setBound cX3_setBound 4 (some .int) ∈ big := big_i 328 (by decide +kernel) rfl
theorem m_329 : Cond.constant RX3 55 (1000000) ∈ big := big_i 329 (by decide +kernel) rfl
theorem m_330 : Cond.methodLink RL 100 yL_move ∈ big := big_i 330 (by decide +kernel) rfl
theorem m_331 : Cond.static yL_move ∈ big := big_i 331 (by decide +kernel) rfl
theorem m_332 : Cond.codeWith yL_move cL_move 8 (some .int) [(0, 16, 19, 13), (0, 16, 23, 15), (0, 16, 27, 24)] ∈ big := big_i 332 (by decide +kernel) rfl
theorem m_333 : Cond.classLink RL 24 "java/lang/IllegalStateException" ∈ big := big_i 333 (by decide +kernel) rfl
theorem m_334 : Cond.methodLink RL 20 yX3_move ∈ big := big_i 334 (by decide +kernel) rfl
theorem m_335 : Cond.instanceMethod yX3_move ∈ big := big_i 335 (by decide +kernel) rfl
theorem m_336 : Cond.selects RX3 yX3_move yX3_move ∈ big := big_i 336 (by decide +kernel) rfl
theorem m_337 : Cond.code yX3_move cX3_move 6 (some .int) ∈ big := big_i 337 (by decide +kernel) rfl
theorem m_338 : Cond.methodLink RX3 56 yX3_checkPlaceOrOutside ∈ big := big_i 338 (by decide +kernel) rfl
theorem m_339 : Cond.static yX3_checkPlaceOrOutside ∈ big := big_i 339 (by decide +kernel) rfl
theorem m_340 : Cond.code yX3_checkPlaceOrOutside cX3_checkPlaceOrOutside 1 none ∈ big := big_i 340 (by decide +kernel) rfl
theorem n_341 : Cond.stringRef RX3 62 "from and to are the same" ∈ lw_tbl := List.mem_of_getElem? (i := 341) (by decide +kernel)
theorem m_342 : Cond.classLink RX3 70 "java/lang/IllegalStateException" ∈ big := big_i 342 (by decide +kernel) rfl
theorem m_343 : Cond.instantiable "java/lang/IllegalStateException" 6 ∈ big := big_i 343 (by decide +kernel) rfl
theorem n_344 : Cond.castable "java/lang/IllegalStateException" "java/lang/IllegalStateException" ∈ lw_tbl := List.mem_of_getElem? (i := 344) (by decide +kernel)
theorem n_351 : Cond.stringRef RX3 72 "there are 200 moves" ∈ lw_tbl := List.mem_of_getElem? (i := 351) (by decide +kernel)
theorem n_358 : Cond.methodLinkNest RX3 75 yX1_add "CountSheets" ∈ lw_tbl := List.mem_of_getElem? (i := 358) (by decide +kernel)
theorem m_360 : Cond.instanceMethod yX1_add ∈ big := big_i 360 (by decide +kernel) rfl
theorem m_361 : Cond.code yX1_add cX1_add 7 (some .int) ∈ big := big_i 361 (by decide +kernel) rfl
theorem m_362 : Cond.methodLink RL 104 yL_pass ∈ big := big_i 362 (by decide +kernel) rfl
theorem m_363 : Cond.static yL_pass ∈ big := big_i 363 (by decide +kernel) rfl
theorem m_364 : Cond.codeWith yL_pass cL_pass 4 (some .int) [(0, 9, 12, 15)] ∈ big := big_i 364 (by decide +kernel) rfl
theorem m_365 : Cond.methodLink RL 26 yX3_pass ∈ big := big_i 365 (by decide +kernel) rfl
theorem m_366 : Cond.instanceMethod yX3_pass ∈ big := big_i 366 (by decide +kernel) rfl
theorem m_367 : Cond.selects RX3 yX3_pass yX3_pass ∈ big := big_i 367 (by decide +kernel) rfl
theorem m_368 : Cond.code yX3_pass cX3_pass 2 (some .int) ∈ big := big_i 368 (by decide +kernel) rfl
theorem m_369 : Cond.methodLink RL 108 yL_open ∈ big := big_i 369 (by decide +kernel) rfl
theorem m_370 : Cond.static yL_open ∈ big := big_i 370 (by decide +kernel) rfl
theorem m_371 : Cond.codeWith yL_open cL_open 4 (some .int) [(0, 9, 12, 13), (0, 9, 15, 24)] ∈ big := big_i 371 (by decide +kernel) rfl
theorem m_372 : Cond.methodLink RL 30 yX3_open ∈ big := big_i 372 (by decide +kernel) rfl
theorem m_373 : Cond.instanceMethod yX3_open ∈ big := big_i 373 (by decide +kernel) rfl
theorem m_374 : Cond.selects RX3 yX3_open yX3_open ∈ big := big_i 374 (by decide +kernel) rfl
theorem m_375 : Cond.code yX3_open cX3_open 2 (some .int) ∈ big := big_i 375 (by decide +kernel) rfl
theorem n_376 : Cond.stringRef RX3 83 "there is an OPEN sheet for the place" ∈ lw_tbl := List.mem_of_getElem? (i := 376) (by decide +kernel)
theorem n_377 : Cond.stringRef RX3 86 "there are 40 sheets" ∈ lw_tbl := List.mem_of_getElem? (i := 377) (by decide +kernel)
theorem n_378 : Cond.methodLinkNest RX3 88 yX2_add "CountSheets" ∈ lw_tbl := List.mem_of_getElem? (i := 378) (by decide +kernel)
theorem m_380 : Cond.instanceMethod yX2_add ∈ big := big_i 380 (by decide +kernel) rfl
theorem m_381 : Cond.code yX2_add cX2_add 4 (some .int) ∈ big := big_i 381 (by decide +kernel) rfl
theorem m_382 : Cond.methodLink RL 111 yL_count ∈ big := big_i 382 (by decide +kernel) rfl
theorem m_383 : Cond.static yL_count ∈ big := big_i 383 (by decide +kernel) rfl
theorem m_384 : Cond.codeWith yL_count cL_count 7 (some .int) [(0, 21, 24, 13), (0, 21, 28, 15), (0, 21, 32, 24)] ∈ big := big_i 384 (by decide +kernel) rfl
theorem m_385 : Cond.methodLink RL 33 yX3_count ∈ big := big_i 385 (by decide +kernel) rfl
theorem m_386 : Cond.instanceMethod yX3_count ∈ big := big_i 386 (by decide +kernel) rfl
theorem m_387 : Cond.selects RX3 yX3_count yX3_count ∈ big := big_i 387 (by decide +kernel) rfl
theorem m_388 : Cond.code yX3_count cX3_count 6 (some .boolean) ∈ big := big_i 388 (by decide +kernel) rfl
theorem m_389 : Cond.constant RX3 91 (100000) ∈ big := big_i 389 (by decide +kernel) rfl
theorem n_390 : Cond.stringRef RX3 99 "the sheet is not OPEN" ∈ lw_tbl := List.mem_of_getElem? (i := 390) (by decide +kernel)
theorem n_391 : Cond.methodLinkNest RX3 101 yX0_agrees "CountSheets" ∈ lw_tbl := List.mem_of_getElem? (i := 391) (by decide +kernel)
theorem m_393 : Cond.instanceMethod yX0_agrees ∈ big := big_i 393 (by decide +kernel) rfl
theorem m_394 : Cond.code yX0_agrees cX0_agrees 2 (some .boolean) ∈ big := big_i 394 (by decide +kernel) rfl
theorem n_395 : Cond.stringRef RX3 104 "the counts agree already" ∈ lw_tbl := List.mem_of_getElem? (i := 395) (by decide +kernel)
theorem n_396 : Cond.methodLinkNest RX3 106 yX0_isCountedBy "CountSheets" ∈ lw_tbl := List.mem_of_getElem? (i := 396) (by decide +kernel)
theorem m_398 : Cond.instanceMethod yX0_isCountedBy ∈ big := big_i 398 (by decide +kernel) rfl
theorem m_399 : Cond.code yX0_isCountedBy cX0_isCountedBy 3 (some .boolean) ∈ big := big_i 399 (by decide +kernel) rfl
theorem n_400 : Cond.stringRef RX3 110 "the person has counted the article on the sheet" ∈ lw_tbl := List.mem_of_getElem? (i := 400) (by decide +kernel)
theorem n_401 : Cond.methodLinkNest RX3 112 yX0_add "CountSheets" ∈ lw_tbl := List.mem_of_getElem? (i := 401) (by decide +kernel)
theorem m_403 : Cond.instanceMethod yX0_add ∈ big := big_i 403 (by decide +kernel) rfl
theorem m_404 : Cond.code yX0_add cX0_add 5 none ∈ big := big_i 404 (by decide +kernel) rfl
theorem m_405 : Cond.methodLink RX0 46 yX0_countsOn ∈ big := big_i 405 (by decide +kernel) rfl
theorem m_407 : Cond.instanceMethod yX0_countsOn ∈ big := big_i 407 (by decide +kernel) rfl
theorem m_408 : Cond.code yX0_countsOn cX0_countsOn 2 (some .int) ∈ big := big_i 408 (by decide +kernel) rfl
theorem m_409 : Cond.methodLink RX0 40 yJ6_bitCount_0f7a4 ∈ big := big_i 409 (by decide +kernel) rfl
theorem m_410 : Cond.static yJ6_bitCount_0f7a4 ∈ big := big_i 410 (by decide +kernel) rfl
theorem m_411 : Cond.code yJ6_bitCount_0f7a4 cJ6_bitCount_0f7a4 1 (some .int) ∈ big := big_i 411 (by decide +kernel) rfl
theorem m_412 : Cond.constant "java/lang/Integer" 265 (1431655765) ∈ big := big_i 412 (by decide +kernel) rfl
theorem m_413 : Cond.constant "java/lang/Integer" 266 (858993459) ∈ big := big_i 413 (by decide +kernel) rfl
theorem m_414 : Cond.constant "java/lang/Integer" 267 (252645135) ∈ big := big_i 414 (by decide +kernel) rfl
theorem m_415 : Cond.methodLink RX0 49 yX0_middleOf ∈ big := big_i 415 (by decide +kernel) rfl
theorem m_416 : Cond.static yX0_middleOf ∈ big := big_i 416 (by decide +kernel) rfl
theorem m_417 : Cond.code yX0_middleOf cX0_middleOf 3 (some .int) ∈ big := big_i 417 (by decide +kernel) rfl
theorem m_418 : Cond.methodLink RX0 53 yJ9_min_7cf53 ∈ big := big_i 418 (by decide +kernel) rfl
theorem m_419 : Cond.static yJ9_min_7cf53 ∈ big := big_i 419 (by decide +kernel) rfl
theorem m_420 : Cond.code yJ9_min_7cf53 cJ9_min_7cf53 2 (some .int) ∈ big := big_i 420 (by decide +kernel) rfl
theorem m_421 : Cond.methodLink RX0 59 yJ9_max_7cf53 ∈ big := big_i 421 (by decide +kernel) rfl
theorem m_422 : Cond.methodLink RL 115 yL_close ∈ big := big_i 422 (by decide +kernel) rfl
theorem m_423 : Cond.static yL_close ∈ big := big_i 423 (by decide +kernel) rfl
theorem m_424 : Cond.codeWith yL_close cL_close 4 (some .int) [(0, 9, 12, 13), (0, 9, 15, 24)] ∈ big := big_i 424 (by decide +kernel) rfl
theorem m_425 : Cond.methodLink RL 37 yX3_close ∈ big := big_i 425 (by decide +kernel) rfl
theorem m_426 : Cond.instanceMethod yX3_close ∈ big := big_i 426 (by decide +kernel) rfl
theorem m_427 : Cond.selects RX3 yX3_close yX3_close ∈ big := big_i 427 (by decide +kernel) rfl
theorem m_428 : Cond.code yX3_close cX3_close 5 (some .int) ∈ big := big_i 428 (by decide +kernel) rfl
theorem n_429 : Cond.methodLinkNest RX3 114 yX0_countsOn "CountSheets" ∈ lw_tbl := List.mem_of_getElem? (i := 429) (by decide +kernel)
theorem n_430 : Cond.stringRef RX3 118 "an article was counted on the sheet without agreement" ∈ lw_tbl := List.mem_of_getElem? (i := 430) (by decide +kernel)
theorem m_431 : Cond.methodLink RL 118 yL_sign ∈ big := big_i 431 (by decide +kernel) rfl
theorem m_432 : Cond.static yL_sign ∈ big := big_i 432 (by decide +kernel) rfl
theorem m_433 : Cond.codeWith yL_sign cL_sign 6 (some .int) [(0, 12, 15, 13), (0, 12, 19, 44), (0, 12, 23, 24)] ∈ big := big_i 433 (by decide +kernel) rfl
theorem m_434 : Cond.classLink RL 44 "java/util/NoSuchElementException" ∈ big := big_i 434 (by decide +kernel) rfl
theorem m_435 : Cond.methodLink RL 40 yX3_sign ∈ big := big_i 435 (by decide +kernel) rfl
theorem m_436 : Cond.instanceMethod yX3_sign ∈ big := big_i 436 (by decide +kernel) rfl
theorem m_437 : Cond.selects RX3 yX3_sign yX3_sign ∈ big := big_i 437 (by decide +kernel) rfl
theorem m_438 : Cond.code yX3_sign cX3_sign 5 (some .int) ∈ big := big_i 438 (by decide +kernel) rfl
theorem m_439 : Cond.methodLink RX3 120 yX3_checkAgrees ∈ big := big_i 439 (by decide +kernel) rfl
theorem m_441 : Cond.instanceMethod yX3_checkAgrees ∈ big := big_i 441 (by decide +kernel) rfl
theorem m_442 : Cond.code yX3_checkAgrees cX3_checkAgrees 3 none ∈ big := big_i 442 (by decide +kernel) rfl
theorem m_443 : Cond.classLink RX3 183 "java/util/NoSuchElementException" ∈ big := big_i 443 (by decide +kernel) rfl
theorem m_444 : Cond.instantiable "java/util/NoSuchElementException" 6 ∈ big := big_i 444 (by decide +kernel) rfl
theorem n_445 : Cond.castable "java/util/NoSuchElementException" "java/util/NoSuchElementException" ∈ lw_tbl := List.mem_of_getElem? (i := 445) (by decide +kernel)
theorem n_452 : Cond.stringRef RX3 185 "the counts do not agree, or there are none" ∈ lw_tbl := List.mem_of_getElem? (i := 452) (by decide +kernel)
theorem m_459 : Cond.methodLink RX3 123 yX3_isSignable ∈ big := big_i 459 (by decide +kernel) rfl
theorem m_461 : Cond.instanceMethod yX3_isSignable ∈ big := big_i 461 (by decide +kernel) rfl
theorem m_462 : Cond.code yX3_isSignable cX3_isSignable 4 (some .boolean) ∈ big := big_i 462 (by decide +kernel) rfl
theorem n_463 : Cond.stringRef RX3 126 "the sheet is not CLOSED, or the article is signed on it" ∈ lw_tbl := List.mem_of_getElem? (i := 463) (by decide +kernel)
theorem m_464 : Cond.methodLink RX3 128 yX3_gapOf ∈ big := big_i 464 (by decide +kernel) rfl
theorem m_466 : Cond.instanceMethod yX3_gapOf ∈ big := big_i 466 (by decide +kernel) rfl
theorem m_467 : Cond.code yX3_gapOf cX3_gapOf 4 (some .int) ∈ big := big_i 467 (by decide +kernel) rfl
theorem m_468 : Cond.methodLink RX3 131 yJ9_abs_0f7a4 ∈ big := big_i 468 (by decide +kernel) rfl
theorem m_469 : Cond.static yJ9_abs_0f7a4 ∈ big := big_i 469 (by decide +kernel) rfl
theorem m_470 : Cond.code yJ9_abs_0f7a4 cJ9_abs_0f7a4 1 (some .int) ∈ big := big_i 470 (by decide +kernel) rfl
theorem n_471 : Cond.stringRef RX3 136 "the person's bound is too low" ∈ lw_tbl := List.mem_of_getElem? (i := 471) (by decide +kernel)
theorem n_472 : Cond.methodLinkNest RX3 138 yX0_write "CountSheets" ∈ lw_tbl := List.mem_of_getElem? (i := 472) (by decide +kernel)
theorem m_474 : Cond.instanceMethod yX0_write ∈ big := big_i 474 (by decide +kernel) rfl
theorem m_475 : Cond.code yX0_write cX0_write 3 none ∈ big := big_i 475 (by decide +kernel) rfl
theorem m_476 : Cond.methodLink RL 122 yL_settle ∈ big := big_i 476 (by decide +kernel) rfl
theorem m_477 : Cond.static yL_settle ∈ big := big_i 477 (by decide +kernel) rfl
theorem m_478 : Cond.codeWith yL_settle cL_settle 6 (some .int) [(0, 12, 15, 13), (0, 12, 19, 44), (0, 12, 23, 24)] ∈ big := big_i 478 (by decide +kernel) rfl
theorem m_479 : Cond.methodLink RL 46 yX3_settle ∈ big := big_i 479 (by decide +kernel) rfl
theorem m_480 : Cond.instanceMethod yX3_settle ∈ big := big_i 480 (by decide +kernel) rfl
theorem m_481 : Cond.selects RX3 yX3_settle yX3_settle ∈ big := big_i 481 (by decide +kernel) rfl
theorem m_482 : Cond.code yX3_settle cX3_settle 5 (some .int) ∈ big := big_i 482 (by decide +kernel) rfl
theorem m_483 : Cond.methodLink RX3 141 yX3_canBeSettled ∈ big := big_i 483 (by decide +kernel) rfl
theorem m_485 : Cond.instanceMethod yX3_canBeSettled ∈ big := big_i 485 (by decide +kernel) rfl
theorem m_486 : Cond.code yX3_canBeSettled cX3_canBeSettled 5 (some .boolean) ∈ big := big_i 486 (by decide +kernel) rfl
theorem n_487 : Cond.stringRef RX3 145 "the gaps cannot be settled" ∈ lw_tbl := List.mem_of_getElem? (i := 487) (by decide +kernel)
theorem m_488 : Cond.methodLink RL 133 yL_book ∈ big := big_i 488 (by decide +kernel) rfl
theorem m_489 : Cond.static yL_book ∈ big := big_i 489 (by decide +kernel) rfl
theorem m_490 : Cond.codeWith yL_book cL_book 5 (some .int) [(0, 10, 13, 13)] ∈ big := big_i 490 (by decide +kernel) rfl
theorem m_491 : Cond.methodLink RL 49 yX3_book ∈ big := big_i 491 (by decide +kernel) rfl
theorem m_492 : Cond.instanceMethod yX3_book ∈ big := big_i 492 (by decide +kernel) rfl
theorem m_493 : Cond.selects RX3 yX3_book yX3_book ∈ big := big_i 493 (by decide +kernel) rfl
theorem m_494 : Cond.code yX3_book cX3_book 3 (some .int) ∈ big := big_i 494 (by decide +kernel) rfl
theorem m_495 : Cond.methodLink RL 136 yL_bookAt ∈ big := big_i 495 (by decide +kernel) rfl
theorem m_496 : Cond.static yL_bookAt ∈ big := big_i 496 (by decide +kernel) rfl
theorem m_497 : Cond.codeWith yL_bookAt cL_bookAt 6 (some .int) [(0, 12, 15, 13), (0, 12, 19, 15)] ∈ big := big_i 497 (by decide +kernel) rfl
theorem m_498 : Cond.methodLink RL 52 yX3_bookAt ∈ big := big_i 498 (by decide +kernel) rfl
theorem m_499 : Cond.instanceMethod yX3_bookAt ∈ big := big_i 499 (by decide +kernel) rfl
theorem m_500 : Cond.selects RX3 yX3_bookAt yX3_bookAt ∈ big := big_i 500 (by decide +kernel) rfl
theorem m_501 : Cond.code yX3_bookAt cX3_bookAt 4 (some .int) ∈ big := big_i 501 (by decide +kernel) rfl
theorem m_502 : Cond.methodLink RL 139 yL_worth ∈ big := big_i 502 (by decide +kernel) rfl
theorem m_503 : Cond.static yL_worth ∈ big := big_i 503 (by decide +kernel) rfl
theorem m_504 : Cond.codeWith yL_worth cL_worth 4 (some .int) [(0, 9, 12, 13)] ∈ big := big_i 504 (by decide +kernel) rfl
theorem m_505 : Cond.methodLink RL 55 yX3_worth ∈ big := big_i 505 (by decide +kernel) rfl
theorem m_506 : Cond.instanceMethod yX3_worth ∈ big := big_i 506 (by decide +kernel) rfl
theorem m_507 : Cond.selects RX3 yX3_worth yX3_worth ∈ big := big_i 507 (by decide +kernel) rfl
theorem m_508 : Cond.code yX3_worth cX3_worth 2 (some .int) ∈ big := big_i 508 (by decide +kernel) rfl
theorem m_509 : Cond.methodLink RL 150 yL_stateOf ∈ big := big_i 509 (by decide +kernel) rfl
theorem m_510 : Cond.static yL_stateOf ∈ big := big_i 510 (by decide +kernel) rfl
theorem m_511 : Cond.codeWith yL_stateOf cL_stateOf 4 (some .int) [(0, 9, 12, 13)] ∈ big := big_i 511 (by decide +kernel) rfl
theorem m_512 : Cond.methodLink RL 58 yX3_stateOf ∈ big := big_i 512 (by decide +kernel) rfl
theorem m_513 : Cond.instanceMethod yX3_stateOf ∈ big := big_i 513 (by decide +kernel) rfl
theorem m_514 : Cond.selects RX3 yX3_stateOf yX3_stateOf ∈ big := big_i 514 (by decide +kernel) rfl
theorem m_515 : Cond.code yX3_stateOf cX3_stateOf 2 (some .int) ∈ big := big_i 515 (by decide +kernel) rfl
theorem m_516 : Cond.methodLink RL 153 yL_cutOf ∈ big := big_i 516 (by decide +kernel) rfl
theorem m_517 : Cond.static yL_cutOf ∈ big := big_i 517 (by decide +kernel) rfl
theorem m_518 : Cond.codeWith yL_cutOf cL_cutOf 4 (some .int) [(0, 9, 12, 13)] ∈ big := big_i 518 (by decide +kernel) rfl
theorem m_519 : Cond.methodLink RL 61 yX3_cutOf ∈ big := big_i 519 (by decide +kernel) rfl
theorem m_520 : Cond.instanceMethod yX3_cutOf ∈ big := big_i 520 (by decide +kernel) rfl
theorem m_521 : Cond.selects RX3 yX3_cutOf yX3_cutOf ∈ big := big_i 521 (by decide +kernel) rfl
theorem m_522 : Cond.code yX3_cutOf cX3_cutOf 2 (some .int) ∈ big := big_i 522 (by decide +kernel) rfl
theorem m_523 : Cond.methodLink RL 156 yL_counts ∈ big := big_i 523 (by decide +kernel) rfl
theorem m_524 : Cond.static yL_counts ∈ big := big_i 524 (by decide +kernel) rfl
theorem m_525 : Cond.codeWith yL_counts cL_counts 5 (some .int) [(0, 10, 13, 13)] ∈ big := big_i 525 (by decide +kernel) rfl
theorem m_526 : Cond.methodLink RL 64 yX3_counts ∈ big := big_i 526 (by decide +kernel) rfl
theorem m_527 : Cond.instanceMethod yX3_counts ∈ big := big_i 527 (by decide +kernel) rfl
theorem m_528 : Cond.selects RX3 yX3_counts yX3_counts ∈ big := big_i 528 (by decide +kernel) rfl
theorem m_529 : Cond.code yX3_counts cX3_counts 3 (some .int) ∈ big := big_i 529 (by decide +kernel) rfl
theorem m_530 : Cond.methodLink RX3 161 yX3_checkLine ∈ big := big_i 530 (by decide +kernel) rfl
theorem m_532 : Cond.instanceMethod yX3_checkLine ∈ big := big_i 532 (by decide +kernel) rfl
theorem m_533 : Cond.code yX3_checkLine cX3_checkLine 3 none ∈ big := big_i 533 (by decide +kernel) rfl
theorem m_534 : Cond.methodLink RL 159 yL_agreed ∈ big := big_i 534 (by decide +kernel) rfl
theorem m_535 : Cond.static yL_agreed ∈ big := big_i 535 (by decide +kernel) rfl
theorem m_536 : Cond.codeWith yL_agreed cL_agreed 5 (some .int) [(0, 10, 13, 13)] ∈ big := big_i 536 (by decide +kernel) rfl
theorem m_537 : Cond.methodLink RL 67 yX3_agreed ∈ big := big_i 537 (by decide +kernel) rfl
theorem m_538 : Cond.instanceMethod yX3_agreed ∈ big := big_i 538 (by decide +kernel) rfl
theorem m_539 : Cond.selects RX3 yX3_agreed yX3_agreed ∈ big := big_i 539 (by decide +kernel) rfl
theorem m_540 : Cond.code yX3_agreed cX3_agreed 3 (some .int) ∈ big := big_i 540 (by decide +kernel) rfl
theorem m_541 : Cond.methodLink RL 162 yL_gap ∈ big := big_i 541 (by decide +kernel) rfl
theorem m_542 : Cond.static yL_gap ∈ big := big_i 542 (by decide +kernel) rfl
theorem m_543 : Cond.codeWith yL_gap cL_gap 5 (some .int) [(0, 10, 13, 13), (0, 10, 17, 44)] ∈ big := big_i 543 (by decide +kernel) rfl
theorem m_544 : Cond.methodLink RL 70 yX3_gap ∈ big := big_i 544 (by decide +kernel) rfl
theorem m_545 : Cond.instanceMethod yX3_gap ∈ big := big_i 545 (by decide +kernel) rfl
theorem m_546 : Cond.selects RX3 yX3_gap yX3_gap ∈ big := big_i 546 (by decide +kernel) rfl
theorem m_547 : Cond.code yX3_gap cX3_gap 3 (some .int) ∈ big := big_i 547 (by decide +kernel) rfl
theorem m_548 : Cond.methodLink RL 165 yL_isSigned ∈ big := big_i 548 (by decide +kernel) rfl
theorem m_549 : Cond.static yL_isSigned ∈ big := big_i 549 (by decide +kernel) rfl
theorem m_550 : Cond.codeWith yL_isSigned cL_isSigned 5 (some .int) [(0, 17, 20, 13)] ∈ big := big_i 550 (by decide +kernel) rfl
theorem m_551 : Cond.methodLink RL 73 yX3_isSigned ∈ big := big_i 551 (by decide +kernel) rfl
theorem m_552 : Cond.instanceMethod yX3_isSigned ∈ big := big_i 552 (by decide +kernel) rfl
theorem m_553 : Cond.selects RX3 yX3_isSigned yX3_isSigned ∈ big := big_i 553 (by decide +kernel) rfl
theorem m_554 : Cond.code yX3_isSigned cX3_isSigned 3 (some .boolean) ∈ big := big_i 554 (by decide +kernel) rfl
theorem m_555 : Cond.methodLink RL 168 yL_likely ∈ big := big_i 555 (by decide +kernel) rfl
theorem m_556 : Cond.static yL_likely ∈ big := big_i 556 (by decide +kernel) rfl
theorem m_557 : Cond.codeWith yL_likely cL_likely 5 (some .int) [(0, 10, 13, 13)] ∈ big := big_i 557 (by decide +kernel) rfl
theorem m_558 : Cond.methodLink RL 77 yX3_likely ∈ big := big_i 558 (by decide +kernel) rfl
theorem m_559 : Cond.instanceMethod yX3_likely ∈ big := big_i 559 (by decide +kernel) rfl
theorem m_560 : Cond.selects RX3 yX3_likely yX3_likely ∈ big := big_i 560 (by decide +kernel) rfl
theorem m_561 : Cond.code yX3_likely cX3_likely 4 (some .int) ∈ big := big_i 561 (by decide +kernel) rfl
theorem m_562 : Cond.methodLink RL 171 yL_exact ∈ big := big_i 562 (by decide +kernel) rfl
theorem m_563 : Cond.static yL_exact ∈ big := big_i 563 (by decide +kernel) rfl
theorem m_564 : Cond.codeWith yL_exact cL_exact 4 (some .int) [(0, 9, 12, 13)] ∈ big := big_i 564 (by decide +kernel) rfl
theorem m_565 : Cond.methodLink RL 80 yX3_exact ∈ big := big_i 565 (by decide +kernel) rfl
theorem m_566 : Cond.instanceMethod yX3_exact ∈ big := big_i 566 (by decide +kernel) rfl
theorem m_567 : Cond.selects RX3 yX3_exact yX3_exact ∈ big := big_i 567 (by decide +kernel) rfl
theorem m_568 : Cond.code yX3_exact cX3_exact 7 (some .int) ∈ big := big_i 568 (by decide +kernel) rfl
theorem m_569 : Cond.classLink RL 84 RX4 ∈ big := big_i 569 (by decide +kernel) rfl
theorem m_570 : Cond.instantiable RX4 20 ∈ big := big_i 570 (by decide +kernel) rfl
theorem m_571 : Cond.methodLink RL 86 yX4_init ∈ big := big_i 571 (by decide +kernel) rfl
theorem m_572 : Cond.instanceMethod yX4_init ∈ big := big_i 572 (by decide +kernel) rfl
theorem m_573 : Cond.code yX4_init cX4_init 2 none ∈ big := big_i 573 (by decide +kernel) rfl
theorem m_574 : Cond.methodLink RX4 1 objectInit ∈ big := big_i 574 (by decide +kernel) rfl
theorem m_575 : Cond.fieldLink RX4 75 "CountSheetsModel" "now" "I" ∈ big := big_i 575 (by decide +kernel) rfl
theorem m_576 : Cond.fieldLink RX4 7 "CountSheetsModel" "price" "[I" ∈ big := big_i 576 (by decide +kernel) rfl
theorem m_577 : Cond.fieldLink RX4 13 "CountSheetsModel" "bound" "[I" ∈ big := big_i 577 (by decide +kernel) rfl
theorem m_578 : Cond.fieldLink RX4 78 "CountSheetsModel" "moves" "I" ∈ big := big_i 578 (by decide +kernel) rfl
theorem m_579 : Cond.fieldLink RX4 16 "CountSheetsModel" "from" "[I" ∈ big := big_i 579 (by decide +kernel) rfl
theorem m_580 : Cond.fieldLink RX4 19 "CountSheetsModel" "to" "[I" ∈ big := big_i 580 (by decide +kernel) rfl
theorem m_581 : Cond.fieldLink RX4 22 "CountSheetsModel" "what" "[I" ∈ big := big_i 581 (by decide +kernel) rfl
theorem m_582 : Cond.fieldLink RX4 25 "CountSheetsModel" "many" "[I" ∈ big := big_i 582 (by decide +kernel) rfl
theorem m_583 : Cond.fieldLink RX4 28 "CountSheetsModel" "when" "[I" ∈ big := big_i 583 (by decide +kernel) rfl
theorem m_584 : Cond.fieldLink RX4 63 "CountSheetsModel" "sheets" "I" ∈ big := big_i 584 (by decide +kernel) rfl
theorem m_585 : Cond.fieldLink RX4 31 "CountSheetsModel" "place" "[I" ∈ big := big_i 585 (by decide +kernel) rfl
theorem m_586 : Cond.fieldLink RX4 34 "CountSheetsModel" "cut" "[I" ∈ big := big_i 586 (by decide +kernel) rfl
theorem m_587 : Cond.fieldLink RX4 37 "CountSheetsModel" "state" "[I" ∈ big := big_i 587 (by decide +kernel) rfl
theorem m_588 : Cond.fieldLink RX4 40 "CountSheetsModel" "counted" "[I" ∈ big := big_i 588 (by decide +kernel) rfl
theorem m_589 : Cond.fieldLink RX4 43 "CountSheetsModel" "signed" "[I" ∈ big := big_i 589 (by decide +kernel) rfl
theorem m_590 : Cond.fieldLink RX4 46 "CountSheetsModel" "gaps" "[I" ∈ big := big_i 590 (by decide +kernel) rfl
theorem m_591 : Cond.fieldLink RX4 107 "CountSheetsModel" "signings" "I" ∈ big := big_i 591 (by decide +kernel) rfl
theorem m_592 : Cond.fieldLink RX4 49 "CountSheetsModel" "person" "[I" ∈ big := big_i 592 (by decide +kernel) rfl
theorem m_593 : Cond.fieldLink RX4 52 "CountSheetsModel" "quantity" "[I" ∈ big := big_i 593 (by decide +kernel) rfl
theorem m_594 : Cond.fieldLink RX4 55 "CountSheetsModel" "thrown" "I" ∈ big := big_i 594 (by decide +kernel) rfl
theorem m_636 : Cond.methodLink RL 93 yX4_thrown ∈ big := big_i 636 (by decide +kernel) rfl
theorem m_637 : Cond.instanceMethod yX4_thrown ∈ big := big_i 637 (by decide +kernel) rfl
theorem m_638 : Cond.selects RX4 yX4_thrown yX4_thrown ∈ big := big_i 638 (by decide +kernel) rfl
theorem m_639 : Cond.code yX4_thrown cX4_thrown 1 (some .int) ∈ big := big_i 639 (by decide +kernel) rfl
theorem m_640 : Cond.methodLink RL 92 yX4_setPrice ∈ big := big_i 640 (by decide +kernel) rfl
theorem m_641 : Cond.instanceMethod yX4_setPrice ∈ big := big_i 641 (by decide +kernel) rfl
theorem m_642 : Cond.selects RX4 yX4_setPrice yX4_setPrice ∈ big := big_i 642 (by decide +kernel) rfl
theorem m_643 : Cond.code yX4_setPrice cX4_setPrice 4 (some .int) ∈ big := big_i 643 (by decide +kernel) rfl
theorem m_644 : Cond.methodLink RX4 66 yX4_isArticle ∈ big := big_i 644 (by decide +kernel) rfl
theorem m_645 : Cond.static yX4_isArticle ∈ big := big_i 645 (by decide +kernel) rfl
theorem m_646 : Cond.code yX4_isArticle cX4_isArticle 1 (some .boolean) ∈ big := big_i 646 (by decide +kernel) rfl
theorem m_647 : Cond.methodLink RX4 59 yX4_in ∈ big := big_i 647 (by decide +kernel) rfl
theorem m_648 : Cond.static yX4_in ∈ big := big_i 648 (by decide +kernel) rfl
theorem m_649 : Cond.code yX4_in cX4_in 3 (some .boolean) ∈ big := big_i 649 (by decide +kernel) rfl
theorem m_650 : Cond.methodLink RX4 70 yX4_goes ∈ big := big_i 650 (by decide +kernel) rfl
theorem m_652 : Cond.instanceMethod yX4_goes ∈ big := big_i 652 (by decide +kernel) rfl
theorem m_653 : Cond.code yX4_goes cX4_goes 4 (some .boolean) ∈ big := big_i 653 (by decide +kernel) rfl
theorem m_654 : Cond.methodLink RL 99 yX4_setBound ∈ big := big_i 654 (by decide +kernel) rfl
theorem m_655 : Cond.instanceMethod yX4_setBound ∈ big := big_i 655 (by decide +kernel) rfl
theorem m_656 : Cond.selects RX4 yX4_setBound yX4_setBound ∈ big := big_i 656 (by decide +kernel) rfl
theorem m_657 : Cond.code yX4_setBound cX4_setBound 4 (some .int) ∈ big := big_i 657 (by decide +kernel) rfl
theorem m_658 : Cond.constant RX4 74 (1000000) ∈ big := big_i 658 (by decide +kernel) rfl
theorem m_659 : Cond.methodLink RL 103 yX4_move ∈ big := big_i 659 (by decide +kernel) rfl
theorem m_660 : Cond.instanceMethod yX4_move ∈ big := big_i 660 (by decide +kernel) rfl
theorem m_661 : Cond.selects RX4 yX4_move yX4_move ∈ big := big_i 661 (by decide +kernel) rfl
theorem m_662 : Cond.code yX4_move cX4_move 7 (some .int) ∈ big := big_i 662 (by decide +kernel) rfl
theorem m_663 : Cond.methodLink RL 107 yX4_pass ∈ big := big_i 663 (by decide +kernel) rfl
theorem m_664 : Cond.instanceMethod yX4_pass ∈ big := big_i 664 (by decide +kernel) rfl
theorem m_665 : Cond.selects RX4 yX4_pass yX4_pass ∈ big := big_i 665 (by decide +kernel) rfl
theorem m_666 : Cond.code yX4_pass cX4_pass 2 (some .int) ∈ big := big_i 666 (by decide +kernel) rfl
theorem m_667 : Cond.methodLink RL 110 yX4_open ∈ big := big_i 667 (by decide +kernel) rfl
theorem m_668 : Cond.instanceMethod yX4_open ∈ big := big_i 668 (by decide +kernel) rfl
theorem m_669 : Cond.selects RX4 yX4_open yX4_open ∈ big := big_i 669 (by decide +kernel) rfl
theorem m_670 : Cond.code yX4_open cX4_open 2 (some .int) ∈ big := big_i 670 (by decide +kernel) rfl
theorem m_671 : Cond.methodLink RX4 89 yX4_isPlace ∈ big := big_i 671 (by decide +kernel) rfl
theorem m_672 : Cond.static yX4_isPlace ∈ big := big_i 672 (by decide +kernel) rfl
theorem m_673 : Cond.code yX4_isPlace cX4_isPlace 1 (some .boolean) ∈ big := big_i 673 (by decide +kernel) rfl
theorem m_674 : Cond.methodLink RX4 92 yX4_hasOpen ∈ big := big_i 674 (by decide +kernel) rfl
theorem m_676 : Cond.instanceMethod yX4_hasOpen ∈ big := big_i 676 (by decide +kernel) rfl
theorem m_677 : Cond.code yX4_hasOpen cX4_hasOpen 4 (some .boolean) ∈ big := big_i 677 (by decide +kernel) rfl
theorem m_678 : Cond.methodLink RL 114 yX4_count ∈ big := big_i 678 (by decide +kernel) rfl
theorem m_679 : Cond.instanceMethod yX4_count ∈ big := big_i 679 (by decide +kernel) rfl
theorem m_680 : Cond.selects RX4 yX4_count yX4_count ∈ big := big_i 680 (by decide +kernel) rfl
theorem m_681 : Cond.code yX4_count cX4_count 8 (some .boolean) ∈ big := big_i 681 (by decide +kernel) rfl
theorem m_682 : Cond.methodLink RX4 95 yX4_isSheet ∈ big := big_i 682 (by decide +kernel) rfl
theorem m_684 : Cond.instanceMethod yX4_isSheet ∈ big := big_i 684 (by decide +kernel) rfl
theorem m_685 : Cond.code yX4_isSheet cX4_isSheet 2 (some .boolean) ∈ big := big_i 685 (by decide +kernel) rfl
theorem m_686 : Cond.methodLink RX4 81 yX4_at ∈ big := big_i 686 (by decide +kernel) rfl
theorem m_687 : Cond.static yX4_at ∈ big := big_i 687 (by decide +kernel) rfl
theorem m_688 : Cond.code yX4_at cX4_at 2 (some .int) ∈ big := big_i 688 (by decide +kernel) rfl
theorem m_689 : Cond.methodLink RX4 98 yX4_hasCounted ∈ big := big_i 689 (by decide +kernel) rfl
theorem m_691 : Cond.instanceMethod yX4_hasCounted ∈ big := big_i 691 (by decide +kernel) rfl
theorem m_692 : Cond.code yX4_hasCounted cX4_hasCounted 5 (some .boolean) ∈ big := big_i 692 (by decide +kernel) rfl
theorem m_693 : Cond.methodLink RX4 85 yX4_agree ∈ big := big_i 693 (by decide +kernel) rfl
theorem m_695 : Cond.instanceMethod yX4_agree ∈ big := big_i 695 (by decide +kernel) rfl
theorem m_696 : Cond.code yX4_agree cX4_agree 7 (some .int) ∈ big := big_i 696 (by decide +kernel) rfl
theorem m_697 : Cond.constant RX4 102 (100000) ∈ big := big_i 697 (by decide +kernel) rfl
theorem m_698 : Cond.methodLink RL 117 yX4_close ∈ big := big_i 698 (by decide +kernel) rfl
theorem m_699 : Cond.instanceMethod yX4_close ∈ big := big_i 699 (by decide +kernel) rfl
theorem m_700 : Cond.selects RX4 yX4_close yX4_close ∈ big := big_i 700 (by decide +kernel) rfl
theorem m_701 : Cond.code yX4_close cX4_close 7 (some .int) ∈ big := big_i 701 (by decide +kernel) rfl
theorem m_702 : Cond.methodLink RL 121 yX4_sign ∈ big := big_i 702 (by decide +kernel) rfl
theorem m_703 : Cond.instanceMethod yX4_sign ∈ big := big_i 703 (by decide +kernel) rfl
theorem m_704 : Cond.selects RX4 yX4_sign yX4_sign ∈ big := big_i 704 (by decide +kernel) rfl
theorem m_705 : Cond.code yX4_sign cX4_sign 9 (some .int) ∈ big := big_i 705 (by decide +kernel) rfl
theorem m_706 : Cond.methodLink RX4 110 yX4_agrees ∈ big := big_i 706 (by decide +kernel) rfl
theorem m_708 : Cond.instanceMethod yX4_agrees ∈ big := big_i 708 (by decide +kernel) rfl
theorem m_709 : Cond.code yX4_agrees cX4_agrees 3 (some .boolean) ∈ big := big_i 709 (by decide +kernel) rfl
theorem m_710 : Cond.methodLink RX4 113 yX4_gapOf ∈ big := big_i 710 (by decide +kernel) rfl
theorem m_712 : Cond.instanceMethod yX4_gapOf ∈ big := big_i 712 (by decide +kernel) rfl
theorem m_713 : Cond.code yX4_gapOf cX4_gapOf 4 (some .int) ∈ big := big_i 713 (by decide +kernel) rfl
theorem m_714 : Cond.methodLink RX4 103 yX4_bookOf ∈ big := big_i 714 (by decide +kernel) rfl
theorem m_716 : Cond.instanceMethod yX4_bookOf ∈ big := big_i 716 (by decide +kernel) rfl
theorem m_717 : Cond.code yX4_bookOf cX4_bookOf 9 (some .int) ∈ big := big_i 717 (by decide +kernel) rfl
theorem m_718 : Cond.methodLink RX4 116 yX4_signs ∈ big := big_i 718 (by decide +kernel) rfl
theorem m_720 : Cond.instanceMethod yX4_signs ∈ big := big_i 720 (by decide +kernel) rfl
theorem m_721 : Cond.code yX4_signs cX4_signs 4 none ∈ big := big_i 721 (by decide +kernel) rfl
theorem m_722 : Cond.methodLink RL 124 yX4_settle ∈ big := big_i 722 (by decide +kernel) rfl
theorem m_723 : Cond.instanceMethod yX4_settle ∈ big := big_i 723 (by decide +kernel) rfl
theorem m_724 : Cond.selects RX4 yX4_settle yX4_settle ∈ big := big_i 724 (by decide +kernel) rfl
theorem m_725 : Cond.code yX4_settle cX4_settle 7 (some .int) ∈ big := big_i 725 (by decide +kernel) rfl
theorem m_726 : Cond.methodLink RX4 120 yX4_canSettle ∈ big := big_i 726 (by decide +kernel) rfl
theorem m_728 : Cond.instanceMethod yX4_canSettle ∈ big := big_i 728 (by decide +kernel) rfl
theorem m_729 : Cond.code yX4_canSettle cX4_canSettle 5 (some .boolean) ∈ big := big_i 729 (by decide +kernel) rfl
theorem m_730 : Cond.methodLink RL 128 yX4_now ∈ big := big_i 730 (by decide +kernel) rfl
theorem m_731 : Cond.instanceMethod yX4_now ∈ big := big_i 731 (by decide +kernel) rfl
theorem m_732 : Cond.selects RX4 yX4_now yX4_now ∈ big := big_i 732 (by decide +kernel) rfl
theorem m_733 : Cond.code yX4_now cX4_now 1 (some .int) ∈ big := big_i 733 (by decide +kernel) rfl
theorem m_734 : Cond.methodLink RX4 123 yX4_told ∈ big := big_i 734 (by decide +kernel) rfl
theorem m_736 : Cond.instanceMethod yX4_told ∈ big := big_i 736 (by decide +kernel) rfl
theorem m_737 : Cond.code yX4_told cX4_told 2 (some .int) ∈ big := big_i 737 (by decide +kernel) rfl
theorem m_738 : Cond.methodLink RL 132 yX4_moves ∈ big := big_i 738 (by decide +kernel) rfl
theorem m_739 : Cond.instanceMethod yX4_moves ∈ big := big_i 739 (by decide +kernel) rfl
theorem m_740 : Cond.selects RX4 yX4_moves yX4_moves ∈ big := big_i 740 (by decide +kernel) rfl
theorem m_741 : Cond.code yX4_moves cX4_moves 1 (some .int) ∈ big := big_i 741 (by decide +kernel) rfl
theorem m_742 : Cond.methodLink RL 135 yX4_book ∈ big := big_i 742 (by decide +kernel) rfl
theorem m_743 : Cond.instanceMethod yX4_book ∈ big := big_i 743 (by decide +kernel) rfl
theorem m_744 : Cond.selects RX4 yX4_book yX4_book ∈ big := big_i 744 (by decide +kernel) rfl
theorem m_745 : Cond.code yX4_book cX4_book 3 (some .int) ∈ big := big_i 745 (by decide +kernel) rfl
theorem m_746 : Cond.methodLink RL 138 yX4_bookAt ∈ big := big_i 746 (by decide +kernel) rfl
theorem m_747 : Cond.instanceMethod yX4_bookAt ∈ big := big_i 747 (by decide +kernel) rfl
theorem m_748 : Cond.selects RX4 yX4_bookAt yX4_bookAt ∈ big := big_i 748 (by decide +kernel) rfl
theorem m_749 : Cond.code yX4_bookAt cX4_bookAt 4 (some .int) ∈ big := big_i 749 (by decide +kernel) rfl
theorem m_750 : Cond.methodLink RL 141 yX4_worth ∈ big := big_i 750 (by decide +kernel) rfl
theorem m_751 : Cond.instanceMethod yX4_worth ∈ big := big_i 751 (by decide +kernel) rfl
theorem m_752 : Cond.selects RX4 yX4_worth yX4_worth ∈ big := big_i 752 (by decide +kernel) rfl
theorem m_753 : Cond.code yX4_worth cX4_worth 2 (some .int) ∈ big := big_i 753 (by decide +kernel) rfl
theorem m_754 : Cond.methodLink RX4 126 yX4_worthOf ∈ big := big_i 754 (by decide +kernel) rfl
theorem m_756 : Cond.instanceMethod yX4_worthOf ∈ big := big_i 756 (by decide +kernel) rfl
theorem m_757 : Cond.code yX4_worthOf cX4_worthOf 5 (some .int) ∈ big := big_i 757 (by decide +kernel) rfl
theorem m_758 : Cond.methodLink RL 145 yX4_suggested ∈ big := big_i 758 (by decide +kernel) rfl
theorem m_759 : Cond.instanceMethod yX4_suggested ∈ big := big_i 759 (by decide +kernel) rfl
theorem m_760 : Cond.selects RX4 yX4_suggested yX4_suggested ∈ big := big_i 760 (by decide +kernel) rfl
theorem m_761 : Cond.code yX4_suggested cX4_suggested 9 (some .int) ∈ big := big_i 761 (by decide +kernel) rfl
theorem m_762 : Cond.constantLong RX4 129 (-1) ∈ big := big_i 762 (by decide +kernel) rfl
theorem m_763 : Cond.methodLink RL 149 yX4_sheets ∈ big := big_i 763 (by decide +kernel) rfl
theorem m_764 : Cond.instanceMethod yX4_sheets ∈ big := big_i 764 (by decide +kernel) rfl
theorem m_765 : Cond.selects RX4 yX4_sheets yX4_sheets ∈ big := big_i 765 (by decide +kernel) rfl
theorem m_766 : Cond.code yX4_sheets cX4_sheets 1 (some .int) ∈ big := big_i 766 (by decide +kernel) rfl
theorem m_767 : Cond.methodLink RL 152 yX4_stateOf ∈ big := big_i 767 (by decide +kernel) rfl
theorem m_768 : Cond.instanceMethod yX4_stateOf ∈ big := big_i 768 (by decide +kernel) rfl
theorem m_769 : Cond.selects RX4 yX4_stateOf yX4_stateOf ∈ big := big_i 769 (by decide +kernel) rfl
theorem m_770 : Cond.code yX4_stateOf cX4_stateOf 2 (some .int) ∈ big := big_i 770 (by decide +kernel) rfl
theorem m_771 : Cond.methodLink RL 155 yX4_cutOf ∈ big := big_i 771 (by decide +kernel) rfl
theorem m_772 : Cond.instanceMethod yX4_cutOf ∈ big := big_i 772 (by decide +kernel) rfl
theorem m_773 : Cond.selects RX4 yX4_cutOf yX4_cutOf ∈ big := big_i 773 (by decide +kernel) rfl
theorem m_774 : Cond.code yX4_cutOf cX4_cutOf 2 (some .int) ∈ big := big_i 774 (by decide +kernel) rfl
theorem m_775 : Cond.methodLink RL 158 yX4_counts ∈ big := big_i 775 (by decide +kernel) rfl
theorem m_776 : Cond.instanceMethod yX4_counts ∈ big := big_i 776 (by decide +kernel) rfl
theorem m_777 : Cond.selects RX4 yX4_counts yX4_counts ∈ big := big_i 777 (by decide +kernel) rfl
theorem m_778 : Cond.code yX4_counts cX4_counts 3 (some .int) ∈ big := big_i 778 (by decide +kernel) rfl
theorem m_779 : Cond.methodLink RL 161 yX4_agreed ∈ big := big_i 779 (by decide +kernel) rfl
theorem m_780 : Cond.instanceMethod yX4_agreed ∈ big := big_i 780 (by decide +kernel) rfl
theorem m_781 : Cond.selects RX4 yX4_agreed yX4_agreed ∈ big := big_i 781 (by decide +kernel) rfl
theorem m_782 : Cond.code yX4_agreed cX4_agreed 3 (some .int) ∈ big := big_i 782 (by decide +kernel) rfl
theorem m_783 : Cond.methodLink RL 164 yX4_gap ∈ big := big_i 783 (by decide +kernel) rfl
theorem m_784 : Cond.instanceMethod yX4_gap ∈ big := big_i 784 (by decide +kernel) rfl
theorem m_785 : Cond.selects RX4 yX4_gap yX4_gap ∈ big := big_i 785 (by decide +kernel) rfl
theorem m_786 : Cond.code yX4_gap cX4_gap 4 (some .int) ∈ big := big_i 786 (by decide +kernel) rfl
theorem m_787 : Cond.methodLink RL 167 yX4_isSigned ∈ big := big_i 787 (by decide +kernel) rfl
theorem m_788 : Cond.instanceMethod yX4_isSigned ∈ big := big_i 788 (by decide +kernel) rfl
theorem m_789 : Cond.selects RX4 yX4_isSigned yX4_isSigned ∈ big := big_i 789 (by decide +kernel) rfl
theorem m_790 : Cond.code yX4_isSigned cX4_isSigned 3 (some .boolean) ∈ big := big_i 790 (by decide +kernel) rfl
theorem m_791 : Cond.methodLink RL 170 yX4_likely ∈ big := big_i 791 (by decide +kernel) rfl
theorem m_792 : Cond.instanceMethod yX4_likely ∈ big := big_i 792 (by decide +kernel) rfl
theorem m_793 : Cond.selects RX4 yX4_likely yX4_likely ∈ big := big_i 793 (by decide +kernel) rfl
theorem m_794 : Cond.code yX4_likely cX4_likely 6 (some .int) ∈ big := big_i 794 (by decide +kernel) rfl
theorem m_795 : Cond.methodLink RL 173 yX4_exact ∈ big := big_i 795 (by decide +kernel) rfl
theorem m_796 : Cond.instanceMethod yX4_exact ∈ big := big_i 796 (by decide +kernel) rfl
theorem m_797 : Cond.selects RX4 yX4_exact yX4_exact ∈ big := big_i 797 (by decide +kernel) rfl
theorem m_798 : Cond.code yX4_exact cX4_exact 5 (some .int) ∈ big := big_i 798 (by decide +kernel) rfl
theorem m_799 : Cond.arrayClass .long ∈ big := big_i 799 (by decide +kernel) rfl
theorem n_801 : Cond.castable "CountSheets" "java/lang/Object" ∈ lw_tbl := List.mem_of_getElem? (i := 801) (by decide +kernel)
theorem n_802 : Cond.castable "CountSheets$MoveRows" "java/lang/Object" ∈ lw_tbl := List.mem_of_getElem? (i := 802) (by decide +kernel)
theorem n_803 : Cond.castable "CountSheets$SheetRows" "java/lang/Object" ∈ lw_tbl := List.mem_of_getElem? (i := 803) (by decide +kernel)
theorem n_804 : Cond.castable "CountSheets$LineRows" "java/lang/Object" ∈ lw_tbl := List.mem_of_getElem? (i := 804) (by decide +kernel)
theorem n_805 : Cond.castable "CountSheetsModel" "java/lang/Object" ∈ lw_tbl := List.mem_of_getElem? (i := 805) (by decide +kernel)
theorem n_806 : Cond.castable "java/lang/IndexOutOfBoundsException" "java/lang/Object" ∈ lw_tbl := List.mem_of_getElem? (i := 806) (by decide +kernel)
theorem n_807 : Cond.castable "java/lang/IllegalArgumentException" "java/lang/Object" ∈ lw_tbl := List.mem_of_getElem? (i := 807) (by decide +kernel)
theorem n_808 : Cond.castable "java/lang/IllegalStateException" "java/lang/Object" ∈ lw_tbl := List.mem_of_getElem? (i := 808) (by decide +kernel)
theorem n_809 : Cond.castable "java/util/NoSuchElementException" "java/lang/Object" ∈ lw_tbl := List.mem_of_getElem? (i := 809) (by decide +kernel)
theorem n_810 : Cond.castable "java/lang/Throwable" "java/lang/Object" ∈ lw_tbl := List.mem_of_getElem? (i := 810) (by decide +kernel)
theorem n_811 : Cond.castable "java/lang/String" "java/lang/Object" ∈ lw_tbl := List.mem_of_getElem? (i := 811) (by decide +kernel)
theorem at_IO : ∀ w ∈ vx_atS RX3 180 "java/lang/IndexOutOfBoundsException" names2, w ∈ lw_tbl ∧ (w.onTables && w.keepsFace) = true := fun w h => by
  have h1 : (vx_atS RX3 180 "java/lang/IndexOutOfBoundsException" names2).all (fun w => decide (w ∈ lw_tbl) && (w.onTables && w.keepsFace)) = true := by decide +kernel
  have h2 := List.all_eq_true.mp h1 w h
  rw [Bool.and_eq_true, decide_eq_true_eq] at h2
  exact h2
theorem at_IA : ∀ w ∈ vx_atS RX3 64 "java/lang/IllegalArgumentException" names2, w ∈ lw_tbl ∧ (w.onTables && w.keepsFace) = true := fun w h => by
  have h1 : (vx_atS RX3 64 "java/lang/IllegalArgumentException" names2).all (fun w => decide (w ∈ lw_tbl) && (w.onTables && w.keepsFace)) = true := by decide +kernel
  have h2 := List.all_eq_true.mp h1 w h
  rw [Bool.and_eq_true, decide_eq_true_eq] at h2
  exact h2
theorem at_IS : ∀ w ∈ vx_atS RX3 74 "java/lang/IllegalStateException" names2, w ∈ lw_tbl ∧ (w.onTables && w.keepsFace) = true := fun w h => by
  have h1 : (vx_atS RX3 74 "java/lang/IllegalStateException" names2).all (fun w => decide (w ∈ lw_tbl) && (w.onTables && w.keepsFace)) = true := by decide +kernel
  have h2 := List.all_eq_true.mp h1 w h
  rw [Bool.and_eq_true, decide_eq_true_eq] at h2
  exact h2
