/-! the words of the tables, by their places -/
theorem m_0 : Cond.selects RX2 yX2_isOpenFor yX2_isOpenFor ∈ big := big_i 0 (by decide +kernel) rfl
theorem m_1 : Cond.selects RX2 yX2_latestFor yX2_latestFor ∈ big := big_i 1 (by decide +kernel) rfl
theorem m_2 : Cond.selects RX3 yX3_urgencyOf yX3_urgencyOf ∈ big := big_i 2 (by decide +kernel) rfl
theorem m_3 : Cond.selects RX3 yX3_worthOf yX3_worthOf ∈ big := big_i 3 (by decide +kernel) rfl
theorem m_4 : Cond.selects RX3 yX3_bookOf yX3_bookOf ∈ big := big_i 4 (by decide +kernel) rfl
theorem m_5 : Cond.selects RX3 yX3_signedSheetFor yX3_signedSheetFor ∈ big := big_i 5 (by decide +kernel) rfl
theorem m_6 : Cond.selects RX0 yX0_hasSign yX0_hasSign ∈ big := big_i 6 (by decide +kernel) rfl
theorem m_7 : Cond.selects RX3 yX3_isStronger yX3_isStronger ∈ big := big_i 7 (by decide +kernel) rfl
theorem m_8 : Cond.selects RX1 yX1_brought yX1_brought ∈ big := big_i 8 (by decide +kernel) rfl
theorem m_9 : Cond.selects RX3 yX3_checkLine yX3_checkLine ∈ big := big_i 9 (by decide +kernel) rfl
theorem m_11 : Cond.selects RX0 yX0_countsOn yX0_countsOn ∈ big := big_i 11 (by decide +kernel) rfl
theorem m_12 : Cond.selects RX3 yX3_canBeSettled yX3_canBeSettled ∈ big := big_i 12 (by decide +kernel) rfl
theorem m_13 : Cond.selects RX3 yX3_isSignable yX3_isSignable ∈ big := big_i 13 (by decide +kernel) rfl
theorem m_14 : Cond.selects RX0 yX0_agrees yX0_agrees ∈ big := big_i 14 (by decide +kernel) rfl
theorem m_15 : Cond.selects RX3 yX3_gapOf yX3_gapOf ∈ big := big_i 15 (by decide +kernel) rfl
theorem m_16 : Cond.selects RX3 yX3_checkAgrees yX3_checkAgrees ∈ big := big_i 16 (by decide +kernel) rfl
theorem m_17 : Cond.selects RX0 yX0_write yX0_write ∈ big := big_i 17 (by decide +kernel) rfl
theorem m_18 : Cond.selects RX1 yX1_add yX1_add ∈ big := big_i 18 (by decide +kernel) rfl
theorem m_19 : Cond.selects RX2 yX2_add yX2_add ∈ big := big_i 19 (by decide +kernel) rfl
theorem m_20 : Cond.selects RX0 yX0_isCountedBy yX0_isCountedBy ∈ big := big_i 20 (by decide +kernel) rfl
theorem m_21 : Cond.selects RX0 yX0_add yX0_add ∈ big := big_i 21 (by decide +kernel) rfl
theorem m_22 : Cond.initialized RL ∈ big := big_i 22 (by decide +kernel) rfl
theorem m_23 : Cond.initialized RX3 ∈ big := big_i 23 (by decide +kernel) rfl
theorem m_24 : Cond.initialized RX1 ∈ big := big_i 24 (by decide +kernel) rfl
theorem m_25 : Cond.initialized RX2 ∈ big := big_i 25 (by decide +kernel) rfl
theorem m_26 : Cond.initialized RX0 ∈ big := big_i 26 (by decide +kernel) rfl
theorem m_27 : Cond.initialized "java/util/Arrays" ∈ big := big_i 27 (by decide +kernel) rfl
theorem m_28 : Cond.initialized "java/lang/Math" ∈ big := big_i 28 (by decide +kernel) rfl
theorem m_29 : Cond.initialized "java/lang/Throwable" ∈ big := big_i 29 (by decide +kernel) rfl
theorem m_30 : Cond.initialized "java/lang/Exception" ∈ big := big_i 30 (by decide +kernel) rfl
theorem m_31 : Cond.initialized "java/lang/RuntimeException" ∈ big := big_i 31 (by decide +kernel) rfl
theorem m_32 : Cond.initialized "java/lang/IndexOutOfBoundsException" ∈ big := big_i 32 (by decide +kernel) rfl
theorem m_33 : Cond.initialized "java/lang/IllegalArgumentException" ∈ big := big_i 33 (by decide +kernel) rfl
theorem m_34 : Cond.initialized "java/lang/IllegalStateException" ∈ big := big_i 34 (by decide +kernel) rfl
theorem m_35 : Cond.initialized "java/lang/Integer" ∈ big := big_i 35 (by decide +kernel) rfl
theorem m_36 : Cond.initialized "java/util/NoSuchElementException" ∈ big := big_i 36 (by decide +kernel) rfl
theorem m_37 : Cond.classLink RL 11 RX3 ∈ big := big_i 37 (by decide +kernel) rfl
theorem m_38 : Cond.instantiable RX3 6 ∈ big := big_i 38 (by decide +kernel) rfl
theorem m_39 : Cond.methodLink RL 180 yX3_init ∈ big := big_i 39 (by decide +kernel) rfl
theorem m_40 : Cond.instanceMethod yX3_init ∈ big := big_i 40 (by decide +kernel) rfl
theorem m_41 : Cond.code yX3_init cX3_init 1 none ∈ big := big_i 41 (by decide +kernel) rfl
theorem m_42 : Cond.methodLink RX3 3 objectInit ∈ big := big_i 42 (by decide +kernel) rfl
theorem m_43 : Cond.instanceMethod objectInit ∈ big := big_i 43 (by decide +kernel) rfl
theorem m_44 : Cond.code objectInit ⟨#[0xb1]⟩ 1 none ∈ big := big_i 44 (by decide +kernel) rfl
theorem m_45 : Cond.classLink RX3 16 RX1 ∈ big := big_i 45 (by decide +kernel) rfl
theorem m_46 : Cond.instantiable RX1 6 ∈ big := big_i 46 (by decide +kernel) rfl
theorem n_47 : Cond.methodLinkNest RX3 18 yX1_init "CountSheets" ∈ lw_tbl := List.mem_of_getElem? (i := 47) (by decide +kernel)
theorem m_48 : Cond.instanceMethod yX1_init ∈ big := big_i 48 (by decide +kernel) rfl
theorem m_49 : Cond.code yX1_init cX1_init 1 none ∈ big := big_i 49 (by decide +kernel) rfl
theorem m_50 : Cond.methodLink RX1 3 objectInit ∈ big := big_i 50 (by decide +kernel) rfl
theorem m_51 : Cond.fieldLink RX1 9 "CountSheets$MoveRows" "from" "[I" ∈ big := big_i 51 (by decide +kernel) rfl
theorem m_52 : Cond.fieldLink RX1 15 "CountSheets$MoveRows" "to" "[I" ∈ big := big_i 52 (by decide +kernel) rfl
theorem m_53 : Cond.fieldLink RX1 18 "CountSheets$MoveRows" "article" "[I" ∈ big := big_i 53 (by decide +kernel) rfl
theorem m_54 : Cond.fieldLink RX1 21 "CountSheets$MoveRows" "quantity" "[I" ∈ big := big_i 54 (by decide +kernel) rfl
theorem m_55 : Cond.fieldLink RX1 24 "CountSheets$MoveRows" "minute" "[I" ∈ big := big_i 55 (by decide +kernel) rfl
theorem m_56 : Cond.fieldLink RX1 27 "CountSheets$MoveRows" "size" "I" ∈ big := big_i 56 (by decide +kernel) rfl
theorem n_57 : Cond.fieldLinkNest RX3 67 "CountSheets$MoveRows" "size" "I" "CountSheets" ∈ lw_tbl := List.mem_of_getElem? (i := 57) (by decide +kernel)
theorem m_71 : Cond.arrayClass .int ∈ big := big_i 71 (by decide +kernel) rfl
theorem m_72 : Cond.classLink RX3 23 RX2 ∈ big := big_i 72 (by decide +kernel) rfl
theorem m_73 : Cond.instantiable RX2 4 ∈ big := big_i 73 (by decide +kernel) rfl
theorem n_74 : Cond.methodLinkNest RX3 25 yX2_init "CountSheets" ∈ lw_tbl := List.mem_of_getElem? (i := 74) (by decide +kernel)
theorem m_75 : Cond.instanceMethod yX2_init ∈ big := big_i 75 (by decide +kernel) rfl
theorem m_76 : Cond.code yX2_init cX2_init 1 none ∈ big := big_i 76 (by decide +kernel) rfl
theorem m_77 : Cond.methodLink RX2 3 objectInit ∈ big := big_i 77 (by decide +kernel) rfl
theorem m_78 : Cond.fieldLink RX2 9 "CountSheets$SheetRows" "place" "[I" ∈ big := big_i 78 (by decide +kernel) rfl
theorem n_79 : Cond.fieldLinkNest RX3 170 "CountSheets$SheetRows" "place" "[I" "CountSheets" ∈ lw_tbl := List.mem_of_getElem? (i := 79) (by decide +kernel)
theorem m_80 : Cond.fieldLink RX2 15 "CountSheets$SheetRows" "cut" "[I" ∈ big := big_i 80 (by decide +kernel) rfl
theorem n_81 : Cond.fieldLinkNest RX3 158 "CountSheets$SheetRows" "cut" "[I" "CountSheets" ∈ lw_tbl := List.mem_of_getElem? (i := 81) (by decide +kernel)
theorem m_82 : Cond.fieldLink RX2 18 "CountSheets$SheetRows" "closed" "[Z" ∈ big := big_i 82 (by decide +kernel) rfl
theorem n_83 : Cond.fieldLinkNest RX3 95 "CountSheets$SheetRows" "closed" "[Z" "CountSheets" ∈ lw_tbl := List.mem_of_getElem? (i := 83) (by decide +kernel)
theorem m_84 : Cond.fieldLink RX2 22 "CountSheets$SheetRows" "size" "I" ∈ big := big_i 84 (by decide +kernel) rfl
theorem n_85 : Cond.fieldLinkNest RX3 85 "CountSheets$SheetRows" "size" "I" "CountSheets" ∈ lw_tbl := List.mem_of_getElem? (i := 85) (by decide +kernel)
theorem m_95 : Cond.arrayClass .boolean ∈ big := big_i 95 (by decide +kernel) rfl
theorem m_96 : Cond.classLink RX3 30 RX0 ∈ big := big_i 96 (by decide +kernel) rfl
theorem m_97 : Cond.instantiable RX0 7 ∈ big := big_i 97 (by decide +kernel) rfl
theorem n_98 : Cond.methodLinkNest RX3 32 yX0_init "CountSheets" ∈ lw_tbl := List.mem_of_getElem? (i := 98) (by decide +kernel)
theorem m_99 : Cond.instanceMethod yX0_init ∈ big := big_i 99 (by decide +kernel) rfl
theorem m_100 : Cond.code yX0_init cX0_init 1 none ∈ big := big_i 100 (by decide +kernel) rfl
theorem m_101 : Cond.methodLink RX0 3 objectInit ∈ big := big_i 101 (by decide +kernel) rfl
theorem m_102 : Cond.methodLink RX0 34 yJ7_fill_53178 ∈ big := big_i 102 (by decide +kernel) rfl
theorem m_103 : Cond.static yJ7_fill_53178 ∈ big := big_i 103 (by decide +kernel) rfl
theorem m_104 : Cond.code yJ7_fill_53178 cJ7_fill_53178 4 none ∈ big := big_i 104 (by decide +kernel) rfl
theorem m_105 : Cond.fieldLink RX0 11 "CountSheets$LineRows" "persons" "[I" ∈ big := big_i 105 (by decide +kernel) rfl
theorem m_106 : Cond.fieldLink RX0 15 "CountSheets$LineRows" "first" "[I" ∈ big := big_i 106 (by decide +kernel) rfl
theorem m_107 : Cond.fieldLink RX0 18 "CountSheets$LineRows" "second" "[I" ∈ big := big_i 107 (by decide +kernel) rfl
theorem m_108 : Cond.fieldLink RX0 21 "CountSheets$LineRows" "agreement" "[I" ∈ big := big_i 108 (by decide +kernel) rfl
theorem n_109 : Cond.fieldLinkNest RX3 164 "CountSheets$LineRows" "agreement" "[I" "CountSheets" ∈ lw_tbl := List.mem_of_getElem? (i := 109) (by decide +kernel)
theorem m_110 : Cond.fieldLink RX0 24 "CountSheets$LineRows" "signature" "[I" ∈ big := big_i 110 (by decide +kernel) rfl
theorem n_111 : Cond.fieldLinkNest RX3 198 "CountSheets$LineRows" "signature" "[I" "CountSheets" ∈ lw_tbl := List.mem_of_getElem? (i := 111) (by decide +kernel)
theorem m_112 : Cond.fieldLink RX0 27 "CountSheets$LineRows" "signedGap" "[I" ∈ big := big_i 112 (by decide +kernel) rfl
theorem n_113 : Cond.fieldLinkNest RX3 173 "CountSheets$LineRows" "signedGap" "[I" "CountSheets" ∈ lw_tbl := List.mem_of_getElem? (i := 113) (by decide +kernel)
theorem m_114 : Cond.fieldLink RX0 30 "CountSheets$LineRows" "signatures" "I" ∈ big := big_i 114 (by decide +kernel) rfl
theorem m_130 : Cond.methodLink RX3 41 yJ7_fill_53178 ∈ big := big_i 130 (by decide +kernel) rfl
theorem m_131 : Cond.fieldLink RX3 9 "CountSheets" "prices" "[I" ∈ big := big_i 131 (by decide +kernel) rfl
theorem m_132 : Cond.fieldLink RX3 13 "CountSheets" "bounds" "[I" ∈ big := big_i 132 (by decide +kernel) rfl
theorem m_133 : Cond.fieldLink RX3 19 "CountSheets" "moveRows" "LCountSheets$MoveRows;" ∈ big := big_i 133 (by decide +kernel) rfl
theorem m_134 : Cond.fieldLink RX3 26 "CountSheets" "sheetRows" "LCountSheets$SheetRows;" ∈ big := big_i 134 (by decide +kernel) rfl
theorem m_135 : Cond.fieldLink RX3 33 "CountSheets" "lineRows" "LCountSheets$LineRows;" ∈ big := big_i 135 (by decide +kernel) rfl
theorem m_136 : Cond.fieldLink RX3 37 "CountSheets" "minuteNow" "I" ∈ big := big_i 136 (by decide +kernel) rfl
theorem m_150 : Cond.methodLink RL 89 yX3_now ∈ big := big_i 150 (by decide +kernel) rfl
theorem m_151 : Cond.instanceMethod yX3_now ∈ big := big_i 151 (by decide +kernel) rfl
theorem m_152 : Cond.selects RX3 yX3_now yX3_now ∈ big := big_i 152 (by decide +kernel) rfl
theorem m_153 : Cond.code yX3_now cX3_now 1 (some .int) ∈ big := big_i 153 (by decide +kernel) rfl
theorem m_154 : Cond.methodLink RL 112 yX3_suggested ∈ big := big_i 154 (by decide +kernel) rfl
theorem m_155 : Cond.instanceMethod yX3_suggested ∈ big := big_i 155 (by decide +kernel) rfl
theorem m_156 : Cond.selects RX3 yX3_suggested yX3_suggested ∈ big := big_i 156 (by decide +kernel) rfl
theorem m_157 : Cond.code yX3_suggested cX3_suggested 7 (some .int) ∈ big := big_i 157 (by decide +kernel) rfl
theorem n_158 : Cond.methodLinkNest RX3 79 yX2_isOpenFor "CountSheets" ∈ lw_tbl := List.mem_of_getElem? (i := 158) (by decide +kernel)
theorem m_160 : Cond.instanceMethod yX2_isOpenFor ∈ big := big_i 160 (by decide +kernel) rfl
theorem m_161 : Cond.code yX2_isOpenFor cX2_isOpenFor 3 (some .boolean) ∈ big := big_i 161 (by decide +kernel) rfl
theorem m_162 : Cond.methodLink RX2 26 yX2_latestFor ∈ big := big_i 162 (by decide +kernel) rfl
theorem m_164 : Cond.instanceMethod yX2_latestFor ∈ big := big_i 164 (by decide +kernel) rfl
