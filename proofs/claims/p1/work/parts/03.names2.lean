def wsL_put_r12 : List Cond := [Cond.code yJ1_canEncode_fc78d cJ1_canEncode_fc78d 1 (some .boolean), Cond.methodLink RJ5 195 ⟨"java/lang/AbstractStringBuilder", "inflate", "()V"⟩, Cond.sameMethod "java/lang/AbstractStringBuilder" "java/lang/AbstractStringBuilder" "inflate" "()V", Cond.selects RJ4 ⟨"java/lang/AbstractStringBuilder", "inflate", "()V"⟩ yJ5_inflate_da8c8, Cond.instanceMethod yJ5_inflate_da8c8, Cond.code yJ5_inflate_da8c8 cJ5_inflate_da8c8 2 none, Cond.methodLink RJ5 26 yJ2_newBytesFor_77867, Cond.static yJ2_newBytesFor_77867, Cond.code yJ2_newBytesFor_77867 cJ2_newBytesFor_77867 1 (some (.array .byte)), Cond.methodLink RJ2 11 yJ2_newBytesLength_0f7a4, Cond.static yJ2_newBytesLength_0f7a4, Cond.code yJ2_newBytesLength_0f7a4 cJ2_newBytesLength_0f7a4 1 (some .int), Cond.constant RJ2 20 (1073741823), Cond.methodLink RJ5 125 yJ1_inflate_0e8fd, Cond.static yJ1_inflate_0e8fd, Cond.code yJ1_inflate_0e8fd cJ1_inflate_0e8fd 5 none, Cond.methodLink RJ1 240 yJ2_inflate_0e8fd, Cond.static yJ2_inflate_0e8fd, Cond.code yJ2_inflate_0e8fd cJ2_inflate_0e8fd 6 none, Cond.methodLink RJ2 173 yJ2_checkBoundsOffCount_d044e, Cond.static yJ2_checkBoundsOffCount_d044e, Cond.code yJ2_checkBoundsOffCount_d044e cJ2_checkBoundsOffCount_d044e 3 none, Cond.methodLink RJ2 419 yJ0_checkBoundsOffCount_cabcc, Cond.static yJ0_checkBoundsOffCount_cabcc]
def wsL_put_r13 : List Cond := [Cond.code yJ0_checkBoundsOffCount_cabcc cJ0_checkBoundsOffCount_cabcc 3 (some .int), Cond.methodLink RJ0 1065 yJ3_checkFromIndexSize_8c36e, Cond.static yJ3_checkFromIndexSize_8c36e, Cond.code yJ3_checkFromIndexSize_8c36e cJ3_checkFromIndexSize_8c36e 4 (some .int), Cond.methodLink RJ2 111 yJ2_putChar_b72d1, Cond.static yJ2_putChar_b72d1, Cond.code yJ2_putChar_b72d1 cJ2_putChar_b72d1 3 none, Cond.methodLink RJ5 197 yJ2_putCharSB_b72d1, Cond.static yJ2_putCharSB_b72d1, Cond.code yJ2_putCharSB_b72d1 cJ2_putCharSB_b72d1 3 none, Cond.methodLink RX0 122 yJ4_append_bf812, Cond.instanceMethod yJ4_append_bf812, Cond.selects RJ4 yJ4_append_bf812 yJ4_append_bf812, Cond.code yJ4_append_bf812 cJ4_append_bf812 2 (some (.object "java/lang/StringBuilder")), Cond.methodLink RJ4 53 yJ5_append_c97b9, Cond.sameMethod "java/lang/AbstractStringBuilder" "java/lang/AbstractStringBuilder" "append" "(I)Ljava/lang/AbstractStringBuilder;", Cond.instanceMethod yJ5_append_c97b9, Cond.code yJ5_append_c97b9 cJ5_append_c97b9 4 (some (.object "java/lang/AbstractStringBuilder")), Cond.methodLink RJ5 245 yJ6_stringSize_0f7a4, Cond.static yJ6_stringSize_0f7a4, Cond.initialized RJ6, Cond.code yJ6_stringSize_0f7a4 cJ6_stringSize_0f7a4 4 (some .int), Cond.methodLink RJ5 248 yJ6_getChars_ba4f3, Cond.static yJ6_getChars_ba4f3]
def wsL_put_r14 : List Cond := [Cond.code yJ6_getChars_ba4f3 cJ6_getChars_ba4f3 7 (some .int), Cond.fieldLink RJ6 83 "java/lang/Integer" "DigitOnes" "[B", Cond.fieldLink RJ6 87 "java/lang/Integer" "DigitTens" "[B", Cond.methodLink RJ5 251 yJ2_getChars_46870, Cond.static yJ2_getChars_46870, Cond.code yJ2_getChars_46870 cJ2_getChars_46870 5 (some .int), Cond.methodLink RJ2 96 yJ2_checkBoundsBeginEnd_d044e, Cond.static yJ2_checkBoundsBeginEnd_d044e, Cond.code yJ2_checkBoundsBeginEnd_d044e cJ2_checkBoundsBeginEnd_d044e 3 none, Cond.methodLink RJ2 241 yJ0_checkBoundsBeginEnd_23922, Cond.static yJ0_checkBoundsBeginEnd_23922, Cond.code yJ0_checkBoundsBeginEnd_23922 cJ0_checkBoundsBeginEnd_23922 3 none, Cond.methodLink RJ0 1062 yJ3_checkFromToIndex_8c36e, Cond.static yJ3_checkFromToIndex_8c36e, Cond.code yJ3_checkFromToIndex_8c36e cJ3_checkFromToIndex_8c36e 4 (some .int), Cond.methodLink RJ2 393 yJ2_getChars_ba4f3, Cond.static yJ2_getChars_ba4f3, Cond.code yJ2_getChars_ba4f3 cJ2_getChars_ba4f3 7 (some .int), Cond.fieldLink RJ2 403 "java/lang/Integer" "DigitOnes" "[B", Cond.fieldLink RJ2 407 "java/lang/Integer" "DigitTens" "[B", Cond.methodLink RX0 125 yJ4_toString_0e30d, Cond.instanceMethod yJ4_toString_0e30d, Cond.selects RJ4 yJ4_toString_0e30d yJ4_toString_0e30d, Cond.code yJ4_toString_0e30d cJ4_toString_0e30d 1 (some (.object "java/lang/String"))]
def wsL_put_r15 : List Cond := [Cond.classLink RJ4 18 RJ0, Cond.instantiable RJ0 4, Cond.methodLink RJ4 137 yJ0_init_81219, Cond.instanceMethod yJ0_init_81219, Cond.code yJ0_init_81219 cJ0_init_81219 2 none, Cond.methodLink RJ0 489 yJ0_init_db425, Cond.instanceMethod yJ0_init_db425, Cond.code yJ0_init_db425 cJ0_init_db425 5 none, Cond.methodLink RJ0 1 objectInit, Cond.fieldLink RJ0 1048 "java/lang/AbstractStringBuilder" "maybeLatin1" "Z", Cond.methodLink RJ0 552 ⟨"java/lang/AbstractStringBuilder", "getValue", "()[B"⟩, Cond.sameMethod "java/lang/AbstractStringBuilder" "java/lang/AbstractStringBuilder" "getValue" "()[B", Cond.selects RJ4 ⟨"java/lang/AbstractStringBuilder", "getValue", "()[B"⟩ yJ5_getValue_6d5f1, Cond.instanceMethod yJ5_getValue_6d5f1, Cond.code yJ5_getValue_6d5f1 cJ5_getValue_6d5f1 1 (some (.array .byte)), Cond.methodLink RJ0 549 ⟨"java/lang/AbstractStringBuilder", "length", "()I"⟩, Cond.sameMethod "java/lang/AbstractStringBuilder" "java/lang/AbstractStringBuilder" "length" "()I", Cond.instanceMethod ⟨"java/lang/AbstractStringBuilder", "length", "()I"⟩, Cond.selects RJ4 ⟨"java/lang/AbstractStringBuilder", "length", "()I"⟩ yJ4_length_8abf5, Cond.instanceMethod yJ4_length_8abf5, Cond.code yJ4_length_8abf5 cJ4_length_8abf5 1 (some .int), Cond.methodLink RJ4 343 yJ5_length_8abf5, Cond.instanceMethod yJ5_length_8abf5, Cond.code yJ5_length_8abf5 cJ5_length_8abf5 1 (some .int)]
def wsL_put_r16 : List Cond := [Cond.methodLink RJ0 1047 ⟨"java/lang/AbstractStringBuilder", "isLatin1", "()Z"⟩, Cond.methodLink RJ0 54 yJ7_copyOfRange_39247, Cond.static yJ7_copyOfRange_39247, Cond.code yJ7_copyOfRange_39247 cJ7_copyOfRange_39247 3 (some (.array .byte)), Cond.methodLink RJ7 339 yJ7_copyOfRangeByte_39247, Cond.static yJ7_copyOfRangeByte_39247, Cond.code yJ7_copyOfRangeByte_39247 cJ7_copyOfRangeByte_39247 5 (some (.array .byte)), Cond.methodLink RJ7 343 yJ7_checkLength_df160, Cond.static yJ7_checkLength_df160, Cond.code yJ7_checkLength_df160 cJ7_checkLength_df160 2 none, Cond.methodLink RJ0 1051 yJ2_compress_39247, Cond.static yJ2_compress_39247, Cond.code yJ2_compress_39247 cJ2_compress_39247 6 (some (.array .byte)), Cond.methodLink RJ2 123 yJ2_compress_5af95, Cond.static yJ2_compress_5af95, Cond.code yJ2_compress_5af95 cJ2_compress_5af95 7 (some .int), Cond.methodLink RJ2 126 yJ7_copyOfRange_39247, Cond.methodLink RJ0 47 yJ2_coderFromArrayLen_85cad, Cond.static yJ2_coderFromArrayLen_85cad, Cond.code yJ2_coderFromArrayLen_85cad cJ2_coderFromArrayLen_85cad 2 (some .byte), Cond.methodLink RX0 74 yX10_ofText, Cond.static yX10_ofText, Cond.code yX10_ofText cX10_ofText 1 (some (.object "PhraseDesk$Value")), Cond.methodLink RX10 35 yJ0_length_8abf5]
def wsL_put_r17 : List Cond := [Cond.methodLink RX8 222 yX9_hold, Cond.instanceMethod yX9_hold, Cond.selects RX9 yX9_hold yX9_hold, Cond.initialized RX9, Cond.code yX9_hold cX9_hold 3 none, Cond.fieldLink RX9 31 "PhraseDesk$Field" "slot" "I", Cond.fieldLink RX9 21 "PhraseDesk$Thing" "values" "[LPhraseDesk$Value;"]
def wsL_put : List Cond := .codeWith yL_put cL_put 5 (some .int) [(0, 10, 13, 13)] :: ((wsL_put_r1 ++ (wsL_put_r2 ++ (wsL_put_r3 ++ (wsL_put_r4 ++ (wsL_put_r5 ++ (wsL_put_r6 ++ (wsL_put_r7 ++ (wsL_put_r8 ++ (wsL_put_r9 ++ (wsL_put_r10 ++ (wsL_put_r11 ++ (wsL_put_r12 ++ (wsL_put_r13 ++ (wsL_put_r14 ++ (wsL_put_r15 ++ (wsL_put_r16 ++ wsL_put_r17)))))))))))))))) ++ wsX110 ++ wsX80 ++ wsX100 ++ wsX90 ++ wsX20 ++ wsX10 ++ wsX00 ++ wsJ00 ++ wsJ40 ++ (vx_atS RX11 53 "java/lang/IllegalArgumentException" ["java/lang/RuntimeException", "java/lang/Exception"]).filter goodWord)
def wsL_law0_r1 : List Cond := [Cond.classLink RL 8 RX11, Cond.instantiable RX11 9, Cond.initialized RX11, Cond.classLink RL 50 RX12, Cond.instantiable RX12 60, Cond.initialized RX12, Cond.arrayClass .long, Cond.methodLink RL 49 yX11_init, Cond.instanceMethod yX11_init, Cond.code yX11_init cX11_init 1 none, Cond.methodLink RX11 1 objectInit, Cond.instanceMethod objectInit, Cond.code objectInit ⟨#[0xb1]⟩ 1 none, Cond.classLink RX11 7 RX6, Cond.instantiable RX6 4, Cond.initialized RX6, Cond.fieldLink RX11 10 "PhraseDesk" "parser" "LPhraseDesk$Parser;", Cond.classLink RX11 16 RX8, Cond.instantiable RX8 8, Cond.initialized RX8, Cond.fieldLink RX11 19 "PhraseDesk" "runner" "LPhraseDesk$Runner;", Cond.classLink RX11 23 RX5, Cond.fieldLink RX11 25 "PhraseDesk" "programs" "[LPhraseDesk$Node;", Cond.classLink RX11 29 RX1]
def wsL_law0_r2 : List Cond := [Cond.fieldLink RX11 31 "PhraseDesk" "families" "[LPhraseDesk$Family;", Cond.classLink RX11 35 RX10, Cond.fieldLink RX11 37 "PhraseDesk" "objects" "[LPhraseDesk$Value;", Cond.fieldLink RX11 45 "PhraseDesk" "latest" "LPhraseDesk$Value;", Cond.methodLink RX11 9 yX6_init, Cond.instanceMethod yX6_init, Cond.code yX6_init cX6_init 1 none, Cond.methodLink RX6 3 objectInit, Cond.classLink RX6 9 RX4, Cond.instantiable RX4 8, Cond.initialized RX4, Cond.fieldLink RX6 12 "PhraseDesk$Parser" "lexer" "LPhraseDesk$Lexer;", Cond.methodLink RX6 11 yX4_init, Cond.instanceMethod yX4_init, Cond.code yX4_init cX4_init 1 none, Cond.methodLink RX4 3 objectInit, Cond.arrayClass .char, Cond.fieldLink RX4 9 "PhraseDesk$Lexer" "letters" "[C", Cond.arrayClass .int, Cond.fieldLink RX4 15 "PhraseDesk$Lexer" "kinds" "[I", Cond.fieldLink RX4 19 "PhraseDesk$Lexer" "places" "[I", Cond.fieldLink RX4 22 "PhraseDesk$Lexer" "names" "[I", Cond.classLink RX4 25 RX10, Cond.fieldLink RX4 27 "PhraseDesk$Lexer" "literals" "[LPhraseDesk$Value;"]
def wsL_law0_r3 : List Cond := [Cond.classLink RX4 31 RJ4, Cond.instantiable RJ4 4, Cond.initialized RJ4, Cond.fieldLink RX4 34 "PhraseDesk$Lexer" "scratch" "Ljava/lang/StringBuilder;", Cond.methodLink RX4 33 yJ4_init_da8c8, Cond.instanceMethod yJ4_init_da8c8, Cond.code yJ4_init_da8c8 cJ4_init_da8c8 1 none, Cond.methodLink RJ4 1 yJ5_init_d00df, Cond.instanceMethod yJ5_init_d00df, Cond.initialized RJ5, Cond.code yJ5_init_d00df cJ5_init_d00df 2 none, Cond.methodLink RJ5 3 objectInit, Cond.fieldLink RJ5 18 "java/lang/String" "COMPACT_STRINGS" "Z", Cond.arrayClass .byte, Cond.fieldLink RJ5 15 "java/lang/AbstractStringBuilder" "value" "[B", Cond.fieldLink RJ5 22 "java/lang/AbstractStringBuilder" "coder" "B", Cond.methodLink RJ5 26 yJ2_newBytesFor_77867, Cond.static yJ2_newBytesFor_77867, Cond.initialized RJ2, Cond.code yJ2_newBytesFor_77867 cJ2_newBytesFor_77867 1 (some (.array .byte)), Cond.methodLink RJ2 11 yJ2_newBytesLength_0f7a4, Cond.static yJ2_newBytesLength_0f7a4, Cond.code yJ2_newBytesLength_0f7a4 cJ2_newBytesLength_0f7a4 1 (some .int), Cond.constant RJ2 20 (1073741823)]
def wsL_law0_r4 : List Cond := [Cond.methodLink RX11 18 yX8_init, Cond.instanceMethod yX8_init, Cond.code yX8_init cX8_init 1 none, Cond.methodLink RX8 3 objectInit, Cond.fieldLink RX8 15 "PhraseDesk$Runner" "nothing" "LPhraseDesk$Value;", Cond.classLink RX8 21 RX0, Cond.instantiable RX0 2, Cond.initialized RX0, Cond.fieldLink RX8 24 "PhraseDesk$Runner" "converters" "LPhraseDesk$Converters;", Cond.classLink RX8 28 RX3, Cond.instantiable RX3 3, Cond.initialized RX3, Cond.fieldLink RX8 31 "PhraseDesk$Runner" "finder" "LPhraseDesk$Finder;", Cond.fieldLink RX8 35 "PhraseDesk$Runner" "variableNames" "[I", Cond.classLink RX8 10 RX10, Cond.fieldLink RX8 39 "PhraseDesk$Runner" "variableValues" "[LPhraseDesk$Value;", Cond.fieldLink RX8 43 "PhraseDesk$Runner" "root" "LPhraseDesk$Value;", Cond.methodLink RX8 9 yX10_ofNull, Cond.static yX10_ofNull, Cond.initialized RX10, Cond.code yX10_ofNull cX10_ofNull 0 (some (.object "PhraseDesk$Value")), Cond.classLink RX10 10 RX10, Cond.instantiable RX10 5, Cond.methodLink RX10 32 yX10_init]
def wsL_law0_r5 : List Cond := [Cond.instanceMethod yX10_init, Cond.code yX10_init cX10_init 7 none, Cond.methodLink RX10 3 objectInit, Cond.fieldLink RX10 9 "PhraseDesk$Value" "kind" "I", Cond.fieldLink RX10 15 "PhraseDesk$Value" "number" "I", Cond.fieldLink RX10 18 "PhraseDesk$Value" "real" "D", Cond.fieldLink RX10 22 "PhraseDesk$Value" "chars" "Ljava/lang/String;", Cond.fieldLink RX10 26 "PhraseDesk$Value" "thing" "LPhraseDesk$Thing;", Cond.methodLink RX8 23 yX0_init, Cond.instanceMethod yX0_init, Cond.code yX0_init cX0_init 1 none, Cond.methodLink RX0 3 objectInit, Cond.arrayClass .boolean, Cond.fieldLink RX0 11 "PhraseDesk$Converters" "there" "[Z", Cond.classLink RX0 15 RJ4, Cond.fieldLink RX0 18 "PhraseDesk$Converters" "scratch" "Ljava/lang/StringBuilder;", Cond.methodLink RX0 17 yJ4_init_da8c8, Cond.methodLink RX8 30 yX3_init, Cond.instanceMethod yX3_init, Cond.code yX3_init cX3_init 1 none, Cond.methodLink RX3 3 objectInit, Cond.classLink RX3 9 RX7, Cond.fieldLink RX3 11 "PhraseDesk$Finder" "candidates" "[LPhraseDesk$Routine;", Cond.methodLink RX11 41 yX10_ofNull]
def wsL_law0_r6 : List Cond := [Cond.methodLink RL 52 yX12_init, Cond.instanceMethod yX12_init, Cond.code yX12_init cX12_init 1 none, Cond.methodLink RX12 1 objectInit, Cond.fieldLink RX12 7 "PhraseDeskModel" "letters" "[I", Cond.fieldLink RX12 13 "PhraseDeskModel" "tokenKind" "[I", Cond.fieldLink RX12 16 "PhraseDeskModel" "tokenAt" "[I", Cond.fieldLink RX12 19 "PhraseDeskModel" "token" "[J", Cond.fieldLink RX12 23 "PhraseDeskModel" "scale" "[I", Cond.fieldLink RX12 26 "PhraseDeskModel" "step" "[I", Cond.fieldLink RX12 29 "PhraseDeskModel" "with" "[J", Cond.fieldLink RX12 32 "PhraseDeskModel" "lengths" "[I", Cond.fieldLink RX12 35 "PhraseDeskModel" "frame" "[I", Cond.fieldLink RX12 38 "PhraseDeskModel" "base" "[I", Cond.fieldLink RX12 41 "PhraseDeskModel" "sign" "[I", Cond.fieldLink RX12 44 "PhraseDeskModel" "patch" "[I", Cond.fieldLink RX12 47 "PhraseDeskModel" "callName" "[I", Cond.fieldLink RX12 50 "PhraseDeskModel" "callCount" "[I", Cond.fieldLink RX12 53 "PhraseDeskModel" "closed" "[Z", Cond.fieldLink RX12 57 "PhraseDeskModel" "plain" "[Z", Cond.fieldLink RX12 60 "PhraseDeskModel" "aims" "[Z", Cond.fieldLink RX12 63 "PhraseDeskModel" "operation" "[I", Cond.fieldLink RX12 66 "PhraseDeskModel" "level" "[I", Cond.fieldLink RX12 69 "PhraseDeskModel" "jump" "[I"]
def wsL_law0_r7 : List Cond := [Cond.fieldLink RX12 72 "PhraseDeskModel" "parent" "[I", Cond.fieldLink RX12 75 "PhraseDeskModel" "fields" "[I", Cond.fieldLink RX12 78 "PhraseDeskModel" "fieldName" "[I", Cond.fieldLink RX12 81 "PhraseDeskModel" "fieldType" "[I", Cond.fieldLink RX12 84 "PhraseDeskModel" "methods" "[I", Cond.fieldLink RX12 87 "PhraseDeskModel" "methodName" "[I", Cond.fieldLink RX12 90 "PhraseDeskModel" "one" "[I", Cond.fieldLink RX12 93 "PhraseDeskModel" "two" "[I", Cond.fieldLink RX12 96 "PhraseDeskModel" "action" "[I", Cond.fieldLink RX12 99 "PhraseDeskModel" "methodNumber" "[I", Cond.fieldLink RX12 102 "PhraseDeskModel" "converts" "[Z", Cond.fieldLink RX12 105 "PhraseDeskModel" "classOf" "[I", Cond.fieldLink RX12 108 "PhraseDeskModel" "variable" "[I", Cond.fieldLink RX12 111 "PhraseDeskModel" "kind" "[I", Cond.fieldLink RX12 114 "PhraseDeskModel" "a" "[J", Cond.fieldLink RX12 117 "PhraseDeskModel" "b" "[J", Cond.arrayClass .double, Cond.fieldLink RX12 120 "PhraseDeskModel" "real" "[D", Cond.fieldLink RX12 124 "PhraseDeskModel" "built" "[I", Cond.methodLink RL 53 yL_letter, Cond.static yL_letter, Cond.initialized RL, Cond.codeWith yL_letter cL_letter 4 (some .int) [(0, 9, 12, 13), (0, 9, 15, 15)], Cond.classLink RL 13 "java/lang/IllegalArgumentException"]
def wsL_law0_r8 : List Cond := [Cond.classLink RL 15 "java/lang/IllegalStateException", Cond.methodLink RL 7 yX11_letter, Cond.instanceMethod yX11_letter, Cond.selects RX11 yX11_letter yX11_letter, Cond.code yX11_letter cX11_letter 2 (some .int), Cond.classLink RX11 49 "java/lang/IllegalArgumentException", Cond.initialized "java/lang/IllegalArgumentException", Cond.classLink RX11 66 "java/lang/IllegalStateException", Cond.initialized "java/lang/IllegalStateException", Cond.fieldLink RX11 56 "PhraseDesk$Parser" "lexer" "LPhraseDesk$Lexer;", Cond.fieldLink RX11 60 "PhraseDesk$Lexer" "length" "I", Cond.methodLink RX11 71 yX4_append, Cond.instanceMethod yX4_append, Cond.selects RX4 yX4_append yX4_append, Cond.code yX4_append cX4_append 2 none, Cond.fieldLink RX4 38 "PhraseDesk$Lexer" "length" "I", Cond.methodLink RL 58 yX12_letter, Cond.instanceMethod yX12_letter, Cond.selects RX12 yX12_letter yX12_letter, Cond.code yX12_letter cX12_letter 2 (some .int), Cond.fieldLink RX12 131 "PhraseDeskModel" "size" "I", Cond.fieldLink RX12 127 "PhraseDeskModel" "threw" "I", Cond.methodLink RL 59 yX12_thrown, Cond.instanceMethod yX12_thrown]
def wsL_law0_r9 : List Cond := [Cond.selects RX12 yX12_thrown yX12_thrown, Cond.code yX12_thrown cX12_thrown 1 (some .int), Cond.methodLink RL 62 yL_parse, Cond.static yL_parse, Cond.codeWith yL_parse cL_parse 3 (some .int) [(0, 8, 11, 15)], Cond.methodLink RL 17 yX11_parse, Cond.instanceMethod yX11_parse, Cond.selects RX11 yX11_parse yX11_parse, Cond.code yX11_parse cX11_parse 2 (some .int), Cond.fieldLink RX11 75 "PhraseDesk" "programCount" "I", Cond.fieldLink RX11 84 "PhraseDesk$Parser" "error" "I", Cond.fieldLink RX11 87 "PhraseDesk$Parser" "place" "I", Cond.methodLink RX11 80 yX6_read, Cond.instanceMethod yX6_read, Cond.selects RX6 yX6_read yX6_read, Cond.code yX6_read cX6_read 2 (some (.object "PhraseDesk$Node")), Cond.fieldLink RX6 18 "PhraseDesk$Parser" "at" "I", Cond.fieldLink RX6 22 "PhraseDesk$Parser" "error" "I", Cond.fieldLink RX6 29 "PhraseDesk$Parser" "place" "I", Cond.fieldLink RX6 36 "PhraseDesk$Lexer" "length" "I", Cond.methodLink RX6 25 yX4_cut, Cond.instanceMethod yX4_cut, Cond.selects RX4 yX4_cut yX4_cut, Cond.code yX4_cut cX4_cut 3 (some .int)]
def wsL_law0_r10 : List Cond := [Cond.fieldLink RX4 42 "PhraseDesk$Lexer" "count" "I", Cond.methodLink RX4 45 yX4_peek, Cond.instanceMethod yX4_peek, Cond.selects RX4 yX4_peek yX4_peek, Cond.code yX4_peek cX4_peek 2 (some .char), Cond.methodLink RX4 49 yX4_token, Cond.instanceMethod yX4_token, Cond.selects RX4 yX4_token yX4_token, Cond.code yX4_token cX4_token 3 (some .int), Cond.methodLink RX4 57 yX4_isDigit, Cond.static yX4_isDigit, Cond.code yX4_isDigit cX4_isDigit 1 (some .boolean), Cond.methodLink RX4 61 yX4_number, Cond.instanceMethod yX4_number, Cond.selects RX4 yX4_number yX4_number, Cond.code yX4_number cX4_number 9 (some .int), Cond.constantDouble RX4 87 (4621819117588971520), Cond.constantDouble RX4 89 (4636737291354636288), Cond.constantDouble RX4 91 (4652007308841189376), Cond.methodLink RX4 76 yX4_endOfDigits, Cond.instanceMethod yX4_endOfDigits, Cond.selects RX4 yX4_endOfDigits yX4_endOfDigits, Cond.code yX4_endOfDigits cX4_endOfDigits 3 (some .int), Cond.methodLink RX4 79 yX4_digits]
def wsL_law0_r11 : List Cond := [Cond.instanceMethod yX4_digits, Cond.selects RX4 yX4_digits yX4_digits, Cond.code yX4_digits cX4_digits 6 (some .int), Cond.methodLink RX4 83 yX10_ofInt, Cond.static yX10_ofInt, Cond.code yX10_ofInt cX10_ofInt 1 (some (.object "PhraseDesk$Value")), Cond.methodLink RX4 53 yX4_add, Cond.instanceMethod yX4_add, Cond.selects RX4 yX4_add yX4_add, Cond.code yX4_add cX4_add 5 none, Cond.methodLink RX4 93 yX10_ofReal, Cond.static yX10_ofReal, Cond.code yX10_ofReal cX10_ofReal 2 (some (.object "PhraseDesk$Value")), Cond.methodLink RX4 64 yX4_isLowerCase, Cond.static yX4_isLowerCase, Cond.code yX4_isLowerCase cX4_isLowerCase 1 (some .boolean), Cond.methodLink RX4 67 yX4_name, Cond.instanceMethod yX4_name, Cond.selects RX4 yX4_name yX4_name, Cond.code yX4_name cX4_name 4 (some .int), Cond.methodLink RX4 70 yX4_quoted, Cond.instanceMethod yX4_quoted, Cond.selects RX4 yX4_quoted yX4_quoted, Cond.code yX4_quoted cX4_quoted 3 (some .int)]
def wsL_law0_r12 : List Cond := [Cond.methodLink RX4 97 yJ4_setLength_d00df, Cond.instanceMethod yJ4_setLength_d00df, Cond.selects RJ4 yJ4_setLength_d00df yJ4_setLength_d00df, Cond.code yJ4_setLength_d00df cJ4_setLength_d00df 2 none, Cond.methodLink RJ4 333 yJ5_setLength_d00df, Cond.sameMethod "java/lang/AbstractStringBuilder" "java/lang/AbstractStringBuilder" "setLength" "(I)V", Cond.superclass RJ4 RJ5, Cond.instanceMethod yJ5_setLength_d00df, Cond.code yJ5_setLength_d00df cJ5_setLength_d00df 2 none, Cond.fieldLink RJ5 79 "java/lang/AbstractStringBuilder" "count" "I", Cond.fieldLink RJ5 73 "java/lang/AbstractStringBuilder" "maybeLatin1" "Z", Cond.methodLink RJ5 100 ⟨"java/lang/AbstractStringBuilder", "ensureCapacityInternal", "(I)V"⟩, Cond.sameMethod "java/lang/AbstractStringBuilder" "java/lang/AbstractStringBuilder" "ensureCapacityInternal" "(I)V", Cond.selects RJ4 ⟨"java/lang/AbstractStringBuilder", "ensureCapacityInternal", "(I)V"⟩ yJ5_ensureCapacityInternal_d00df, Cond.instanceMethod yJ5_ensureCapacityInternal_d00df, Cond.code yJ5_ensureCapacityInternal_d00df cJ5_ensureCapacityInternal_d00df 3 none, Cond.methodLink RJ5 104 ⟨"java/lang/AbstractStringBuilder", "newCapacity", "(I)I"⟩, Cond.sameMethod "java/lang/AbstractStringBuilder" "java/lang/AbstractStringBuilder" "newCapacity" "(I)I", Cond.selects RJ4 ⟨"java/lang/AbstractStringBuilder", "newCapacity", "(I)I"⟩ yJ5_newCapacity_0f7a4, Cond.instanceMethod yJ5_newCapacity_0f7a4, Cond.code yJ5_newCapacity_0f7a4 cJ5_newCapacity_0f7a4 6 (some .int), Cond.constant RJ5 39 (2147483647), Cond.methodLink RJ5 114 yJ8_newLength_cabcc, Cond.static yJ8_newLength_cabcc]
def wsL_law0_r13 : List Cond := [Cond.initialized RJ8, Cond.code yJ8_newLength_cabcc cJ8_newLength_cabcc 4 (some .int), Cond.methodLink RJ8 194 Lib.Math.max.name, Cond.static Lib.Math.max.name, Cond.initialized "java/lang/Math", Cond.code Lib.Math.max.name Lib.Math.max.code 2 (some .int), Cond.constant RJ8 200 (2147483639), Cond.methodLink RJ8 201 yJ8_hugeLength_7cf53, Cond.static yJ8_hugeLength_7cf53, Cond.code yJ8_hugeLength_7cf53 cJ8_hugeLength_7cf53 3 (some .int), Cond.methodLink RJ5 108 yJ7_copyOf_9075b, Cond.static yJ7_copyOf_9075b, Cond.initialized RJ7, Cond.code yJ7_copyOf_9075b cJ7_copyOf_9075b 3 (some (.array .byte)), Cond.methodLink RJ7 310 ⟨"[B", "clone", "()Ljava/lang/Object;"⟩, Cond.sameMethod "[B" "java/lang/Object" "clone" "()Ljava/lang/Object;", Cond.native ⟨"java/lang/Object", "clone", "()Ljava/lang/Object;"⟩, Cond.instanceMethod ⟨"java/lang/Object", "clone", "()Ljava/lang/Object;"⟩, Cond.selects "[B" ⟨"[B", "clone", "()Ljava/lang/Object;"⟩ ⟨"java/lang/Object", "clone", "()Ljava/lang/Object;"⟩, Cond.classLink RJ7 311 "[B", Cond.methodLink RJ7 304 Lib.Math.min.name, Cond.static Lib.Math.min.name, Cond.code Lib.Math.min.name Lib.Math.min.code 2 (some .int), Cond.methodLink RJ7 150 arraycopyName]
def wsL_law0_r14 : List Cond := [Cond.native arraycopyName, Cond.static arraycopyName, Cond.initialized "java/lang/System", Cond.methodLink RJ5 83 ⟨"java/lang/AbstractStringBuilder", "isLatin1", "()Z"⟩, Cond.sameMethod "java/lang/AbstractStringBuilder" "java/lang/AbstractStringBuilder" "isLatin1" "()Z", Cond.selects RJ4 ⟨"java/lang/AbstractStringBuilder", "isLatin1", "()Z"⟩ yJ5_isLatin1_aae02, Cond.instanceMethod yJ5_isLatin1_aae02, Cond.code yJ5_isLatin1_aae02 cJ5_isLatin1_aae02 1 (some .boolean), Cond.methodLink RJ5 133 yJ1_fillNull_b72d1, Cond.static yJ1_fillNull_b72d1, Cond.initialized RJ1, Cond.code yJ1_fillNull_b72d1 cJ1_fillNull_b72d1 3 none, Cond.methodLink RJ1 236 yJ7_fill_eb02e, Cond.static yJ7_fill_eb02e, Cond.code yJ7_fill_eb02e cJ7_fill_eb02e 5 none, Cond.methodLink RJ7 13 yJ7_rangeCheck_23922, Cond.static yJ7_rangeCheck_23922, Cond.code yJ7_rangeCheck_23922 cJ7_rangeCheck_23922 3 none, Cond.classLink RJ7 45 RJ4, Cond.methodLink RJ5 137 yJ2_fillNull_b72d1, Cond.static yJ2_fillNull_b72d1, Cond.code yJ2_fillNull_b72d1 cJ2_fillNull_b72d1 3 none, Cond.methodLink RJ2 380 yJ7_fill_eb02e, Cond.methodLink RX4 101 yJ4_append_cf468]
def wsL_law0_r15 : List Cond := [Cond.instanceMethod yJ4_append_cf468, Cond.selects RJ4 yJ4_append_cf468 yJ4_append_cf468, Cond.code yJ4_append_cf468 cJ4_append_cf468 2 (some (.object "java/lang/StringBuilder")), Cond.methodLink RJ4 50 yJ5_append_3fe6f, Cond.sameMethod "java/lang/AbstractStringBuilder" "java/lang/AbstractStringBuilder" "append" "(C)Ljava/lang/AbstractStringBuilder;", Cond.instanceMethod yJ5_append_3fe6f, Cond.code yJ5_append_3fe6f cJ5_append_3fe6f 2 (some (.object "java/lang/AbstractStringBuilder")), Cond.methodLink RJ5 191 yJ1_canEncode_fc78d, Cond.static yJ1_canEncode_fc78d, Cond.code yJ1_canEncode_fc78d cJ1_canEncode_fc78d 1 (some .boolean), Cond.methodLink RJ5 195 ⟨"java/lang/AbstractStringBuilder", "inflate", "()V"⟩, Cond.sameMethod "java/lang/AbstractStringBuilder" "java/lang/AbstractStringBuilder" "inflate" "()V", Cond.selects RJ4 ⟨"java/lang/AbstractStringBuilder", "inflate", "()V"⟩ yJ5_inflate_da8c8, Cond.instanceMethod yJ5_inflate_da8c8, Cond.code yJ5_inflate_da8c8 cJ5_inflate_da8c8 2 none, Cond.methodLink RJ5 125 yJ1_inflate_0e8fd, Cond.static yJ1_inflate_0e8fd, Cond.code yJ1_inflate_0e8fd cJ1_inflate_0e8fd 5 none, Cond.methodLink RJ1 240 yJ2_inflate_0e8fd, Cond.static yJ2_inflate_0e8fd, Cond.code yJ2_inflate_0e8fd cJ2_inflate_0e8fd 6 none, Cond.methodLink RJ2 173 yJ2_checkBoundsOffCount_d044e, Cond.static yJ2_checkBoundsOffCount_d044e, Cond.code yJ2_checkBoundsOffCount_d044e cJ2_checkBoundsOffCount_d044e 3 none]
def wsL_law0_r16 : List Cond := [Cond.methodLink RJ2 48 yJ2_length_9d52b, Cond.static yJ2_length_9d52b, Cond.code yJ2_length_9d52b cJ2_length_9d52b 1 (some .int), Cond.methodLink RJ2 419 yJ0_checkBoundsOffCount_cabcc, Cond.static yJ0_checkBoundsOffCount_cabcc, Cond.initialized RJ0, Cond.code yJ0_checkBoundsOffCount_cabcc cJ0_checkBoundsOffCount_cabcc 3 (some .int), Cond.fieldLink RJ0 1053 "jdk/internal/util/Preconditions" "SIOOBE_FORMATTER" "Ljava/util/function/BiFunction;", Cond.methodLink RJ0 1065 yJ3_checkFromIndexSize_8c36e, Cond.static yJ3_checkFromIndexSize_8c36e, Cond.initialized RJ3, Cond.code yJ3_checkFromIndexSize_8c36e cJ3_checkFromIndexSize_8c36e 4 (some .int), Cond.methodLink RJ2 111 yJ2_putChar_b72d1, Cond.static yJ2_putChar_b72d1, Cond.code yJ2_putChar_b72d1 cJ2_putChar_b72d1 3 none, Cond.fieldLink RJ2 44 "java/lang/StringUTF16" "$assertionsDisabled" "Z", Cond.fieldLink RJ2 59 "java/lang/StringUTF16" "HI_BYTE_SHIFT" "I", Cond.fieldLink RJ2 63 "java/lang/StringUTF16" "LO_BYTE_SHIFT" "I", Cond.methodLink RJ5 197 yJ2_putCharSB_b72d1, Cond.static yJ2_putCharSB_b72d1, Cond.code yJ2_putCharSB_b72d1 cJ2_putCharSB_b72d1 3 none, Cond.methodLink RJ2 67 yJ2_checkIndex_2214a, Cond.static yJ2_checkIndex_2214a, Cond.code yJ2_checkIndex_2214a cJ2_checkIndex_2214a 2 none]
def wsL_law0_r17 : List Cond := [Cond.methodLink RJ2 414 yJ0_checkIndex_df160, Cond.static yJ0_checkIndex_df160, Cond.code yJ0_checkIndex_df160 cJ0_checkIndex_df160 2 none, Cond.methodLink RJ0 1059 yJ3_checkIndex_8e157, Cond.static yJ3_checkIndex_8e157, Cond.code yJ3_checkIndex_8e157 cJ3_checkIndex_8e157 3 (some .int), Cond.methodLink RX4 105 yJ4_length_8abf5, Cond.instanceMethod yJ4_length_8abf5, Cond.selects RJ4 yJ4_length_8abf5 yJ4_length_8abf5, Cond.code yJ4_length_8abf5 cJ4_length_8abf5 1 (some .int), Cond.methodLink RJ4 343 yJ5_length_8abf5, Cond.sameMethod "java/lang/AbstractStringBuilder" "java/lang/AbstractStringBuilder" "length" "()I", Cond.instanceMethod yJ5_length_8abf5, Cond.code yJ5_length_8abf5 cJ5_length_8abf5 1 (some .int), Cond.methodLink RX4 108 yJ4_toString_0e30d, Cond.instanceMethod yJ4_toString_0e30d, Cond.selects RJ4 yJ4_toString_0e30d yJ4_toString_0e30d, Cond.code yJ4_toString_0e30d cJ4_toString_0e30d 1 (some (.object "java/lang/String")), Cond.classLink RJ4 18 RJ0, Cond.instantiable RJ0 4, Cond.methodLink RJ4 137 yJ0_init_81219, Cond.instanceMethod yJ0_init_81219, Cond.code yJ0_init_81219 cJ0_init_81219 2 none, Cond.methodLink RJ0 489 yJ0_init_db425]
def wsL_law0_r18 : List Cond := [Cond.instanceMethod yJ0_init_db425, Cond.code yJ0_init_db425 cJ0_init_db425 5 none, Cond.methodLink RJ0 1 objectInit, Cond.fieldLink RJ0 15 "java/lang/String" "coder" "B", Cond.fieldLink RJ0 9 "java/lang/String" "value" "[B", Cond.fieldLink RJ0 38 "java/lang/String" "COMPACT_STRINGS" "Z", Cond.fieldLink RJ0 1048 "java/lang/AbstractStringBuilder" "maybeLatin1" "Z", Cond.methodLink RJ0 552 ⟨"java/lang/AbstractStringBuilder", "getValue", "()[B"⟩, Cond.sameMethod "java/lang/AbstractStringBuilder" "java/lang/AbstractStringBuilder" "getValue" "()[B", Cond.selects RJ4 ⟨"java/lang/AbstractStringBuilder", "getValue", "()[B"⟩ yJ5_getValue_6d5f1, Cond.instanceMethod yJ5_getValue_6d5f1, Cond.code yJ5_getValue_6d5f1 cJ5_getValue_6d5f1 1 (some (.array .byte)), Cond.methodLink RJ0 549 ⟨"java/lang/AbstractStringBuilder", "length", "()I"⟩, Cond.instanceMethod ⟨"java/lang/AbstractStringBuilder", "length", "()I"⟩, Cond.selects RJ4 ⟨"java/lang/AbstractStringBuilder", "length", "()I"⟩ yJ4_length_8abf5, Cond.methodLink RJ0 1047 ⟨"java/lang/AbstractStringBuilder", "isLatin1", "()Z"⟩, Cond.methodLink RJ0 54 yJ7_copyOfRange_39247, Cond.static yJ7_copyOfRange_39247, Cond.code yJ7_copyOfRange_39247 cJ7_copyOfRange_39247 3 (some (.array .byte)), Cond.methodLink RJ7 339 yJ7_copyOfRangeByte_39247, Cond.static yJ7_copyOfRangeByte_39247, Cond.code yJ7_copyOfRangeByte_39247 cJ7_copyOfRangeByte_39247 5 (some (.array .byte)), Cond.methodLink RJ7 343 yJ7_checkLength_df160, Cond.static yJ7_checkLength_df160]
def wsL_law0_r19 : List Cond := [Cond.code yJ7_checkLength_df160 cJ7_checkLength_df160 2 none, Cond.methodLink RJ0 1051 yJ2_compress_39247, Cond.static yJ2_compress_39247, Cond.code yJ2_compress_39247 cJ2_compress_39247 6 (some (.array .byte)), Cond.methodLink RJ2 123 yJ2_compress_5af95, Cond.static yJ2_compress_5af95, Cond.code yJ2_compress_5af95 cJ2_compress_5af95 7 (some .int), Cond.methodLink RJ2 71 yJ2_getChar_3b067, Cond.static yJ2_getChar_3b067, Cond.code yJ2_getChar_3b067 cJ2_getChar_3b067 2 (some .char), Cond.methodLink RJ2 126 yJ7_copyOfRange_39247, Cond.methodLink RJ0 47 yJ2_coderFromArrayLen_85cad, Cond.static yJ2_coderFromArrayLen_85cad, Cond.code yJ2_coderFromArrayLen_85cad cJ2_coderFromArrayLen_85cad 2 (some .byte), Cond.methodLink RX4 112 yX10_ofText, Cond.static yX10_ofText, Cond.code yX10_ofText cX10_ofText 1 (some (.object "PhraseDesk$Value")), Cond.methodLink RX10 35 yJ0_length_8abf5, Cond.instanceMethod yJ0_length_8abf5, Cond.selects RJ0 yJ0_length_8abf5 yJ0_length_8abf5, Cond.code yJ0_length_8abf5 cJ0_length_8abf5 1 (some .int), Cond.methodLink RJ0 335 yJ0_coder_7d493, Cond.instanceMethod yJ0_coder_7d493, Cond.selects RJ0 yJ0_coder_7d493 yJ0_coder_7d493]
def wsL_law0_r20 : List Cond := [Cond.code yJ0_coder_7d493 cJ0_coder_7d493 1 (some .byte), Cond.methodLink RX4 73 yX4_sign, Cond.instanceMethod yX4_sign, Cond.selects RX4 yX4_sign yX4_sign, Cond.code yX4_sign cX4_sign 3 (some .int), Cond.methodLink RX4 116 yX4_isPair, Cond.static yX4_isPair, Cond.code yX4_isPair cX4_isPair 1 (some .boolean), Cond.methodLink RX4 120 yX4_isSingle, Cond.static yX4_isSingle, Cond.code yX4_isSingle cX4_isSingle 1 (some .boolean), Cond.methodLink RX6 32 yX6_phrase, Cond.instanceMethod yX6_phrase, Cond.selects RX6 yX6_phrase yX6_phrase, Cond.code yX6_phrase cX6_phrase 4 (some (.object "PhraseDesk$Node")), Cond.methodLink RX6 39 yX6_choice, Cond.instanceMethod yX6_choice, Cond.selects RX6 yX6_choice yX6_choice, Cond.code yX6_choice cX6_choice 4 (some (.object "PhraseDesk$Node")), Cond.methodLink RX6 56 yX6_refuse, Cond.instanceMethod yX6_refuse, Cond.selects RX6 yX6_refuse yX6_refuse, Cond.code yX6_refuse cX6_refuse 2 (some (.object "PhraseDesk$Node")), Cond.methodLink RX6 139 yX4_placeAt]
def wsL_law0_r21 : List Cond := [Cond.instanceMethod yX4_placeAt, Cond.selects RX4 yX4_placeAt yX4_placeAt, Cond.code yX4_placeAt cX4_placeAt 2 (some .int), Cond.methodLink RX6 59 yX6_level, Cond.instanceMethod yX6_level, Cond.selects RX6 yX6_level yX6_level, Cond.methodLink RX6 63 yX6_takes, Cond.instanceMethod yX6_takes, Cond.selects RX6 yX6_takes yX6_takes, Cond.code yX6_takes cX6_takes 2 (some .boolean), Cond.methodLink RX6 43 yX6_kind, Cond.instanceMethod yX6_kind, Cond.selects RX6 yX6_kind yX6_kind, Cond.code yX6_kind cX6_kind 1 (some .int), Cond.methodLink RX6 136 yX4_kindAt, Cond.instanceMethod yX4_kindAt, Cond.selects RX4 yX4_kindAt yX4_kindAt, Cond.code yX4_kindAt cX4_kindAt 2 (some .int), Cond.methodLink RX6 52 yX5_ofOperator, Cond.static yX5_ofOperator, Cond.initialized RX5, Cond.code yX5_ofOperator cX5_ofOperator 4 (some (.object "PhraseDesk$Node")), Cond.classLink RX5 8 RX5, Cond.instantiable RX5 8]
def wsL_law0_r22 : List Cond := [Cond.methodLink RX5 30 yX5_init, Cond.instanceMethod yX5_init, Cond.code yX5_init cX5_init 7 none, Cond.methodLink RX5 1 objectInit, Cond.fieldLink RX5 7 "PhraseDesk$Node" "op" "I", Cond.fieldLink RX5 13 "PhraseDesk$Node" "name" "I", Cond.fieldLink RX5 16 "PhraseDesk$Node" "literal" "LPhraseDesk$Value;", Cond.fieldLink RX5 20 "PhraseDesk$Node" "one" "LPhraseDesk$Node;", Cond.fieldLink RX5 24 "PhraseDesk$Node" "two" "LPhraseDesk$Node;", Cond.fieldLink RX5 27 "PhraseDesk$Node" "three" "LPhraseDesk$Node;", Cond.methodLink RX6 67 yX6_chosen, Cond.instanceMethod yX6_chosen, Cond.selects RX6 yX6_chosen yX6_chosen, Cond.code yX6_bracketed cX6_bracketed 3 (some (.object "PhraseDesk$Node")), Cond.fieldLink RX6 111 "PhraseDesk$Node" "bracketed" "Z", Cond.code yX6_chain cX6_chain 5 (some (.object "PhraseDesk$Node")), Cond.fieldLink RX6 87 "PhraseDesk$Node" "lenient" "Z", Cond.methodLink RX6 81 yX6_first, Cond.instanceMethod yX6_first, Cond.selects RX6 yX6_first yX6_first, Cond.methodLink RX6 84 yX6_member, Cond.instanceMethod yX6_member, Cond.selects RX6 yX6_member yX6_member, Cond.code yX6_chosen cX6_chosen 5 (some (.object "PhraseDesk$Node"))]
def wsL_law0_r23 : List Cond := [Cond.code yX6_first cX6_first 2 (some (.object "PhraseDesk$Node")), Cond.methodLink RX6 91 yX4_literalAt, Cond.instanceMethod yX4_literalAt, Cond.selects RX4 yX4_literalAt yX4_literalAt, Cond.code yX4_literalAt cX4_literalAt 2 (some (.object "PhraseDesk$Value")), Cond.methodLink RX6 95 yX5_ofLiteral, Cond.static yX5_ofLiteral, Cond.code yX5_ofLiteral cX5_ofLiteral 1 (some (.object "PhraseDesk$Node")), Cond.methodLink RX6 99 yX6_takeName, Cond.instanceMethod yX6_takeName, Cond.selects RX6 yX6_takeName yX6_takeName, Cond.code yX6_takeName cX6_takeName 1 (some .int), Cond.methodLink RX6 113 yX4_nameAt, Cond.instanceMethod yX4_nameAt, Cond.selects RX4 yX4_nameAt yX4_nameAt, Cond.code yX4_nameAt cX4_nameAt 2 (some .int), Cond.methodLink RX6 102 yX5_ofVariable, Cond.static yX5_ofVariable, Cond.code yX5_ofVariable cX5_ofVariable 1 (some (.object "PhraseDesk$Node")), Cond.methodLink RX6 105 yX6_bracketed, Cond.instanceMethod yX6_bracketed, Cond.selects RX6 yX6_bracketed yX6_bracketed, Cond.methodLink RX6 108 yX6_named, Cond.instanceMethod yX6_named]
def wsL_law0_r24 : List Cond := [Cond.selects RX6 yX6_named yX6_named, Cond.code yX6_level cX6_level 7 (some (.object "PhraseDesk$Node")), Cond.methodLink RX6 71 yX6_sign, Cond.instanceMethod yX6_sign, Cond.selects RX6 yX6_sign yX6_sign, Cond.methodLink RX6 74 yX6_levelOf, Cond.static yX6_levelOf, Cond.code yX6_levelOf cX6_levelOf 1 (some .int), Cond.code yX6_member cX6_member 6 (some (.object "PhraseDesk$Node")), Cond.methodLink RX6 129 yX5_ofProperty, Cond.static yX5_ofProperty, Cond.code yX5_ofProperty cX5_ofProperty 2 (some (.object "PhraseDesk$Node")), Cond.methodLink RX6 132 yX5_ofCall, Cond.static yX5_ofCall, Cond.code yX5_ofCall cX5_ofCall 4 (some (.object "PhraseDesk$Node")), Cond.code yX6_named cX6_named 2 (some (.object "PhraseDesk$Node")), Cond.methodLink RX6 116 yX10_ofBool, Cond.static yX10_ofBool, Cond.code yX10_ofBool cX10_ofBool 1 (some (.object "PhraseDesk$Value")), Cond.methodLink RX6 122 yX10_ofNull, Cond.methodLink RX6 126 yX5_ofRoot, Cond.static yX5_ofRoot, Cond.code yX5_ofRoot cX5_ofRoot 0 (some (.object "PhraseDesk$Node")), Cond.code yX6_sign cX6_sign 4 (some (.object "PhraseDesk$Node"))]
def wsL_law0_r25 : List Cond := [Cond.methodLink RX6 78 yX6_chain, Cond.instanceMethod yX6_chain, Cond.selects RX6 yX6_chain yX6_chain, Cond.methodLink RX6 46 yX5_canBeSet, Cond.instanceMethod yX5_canBeSet, Cond.selects RX5 yX5_canBeSet yX5_canBeSet, Cond.code yX5_canBeSet cX5_canBeSet 1 (some .boolean), Cond.fieldLink RX5 33 "PhraseDesk$Node" "bracketed" "Z", Cond.methodLink RL 65 yX12_parse, Cond.instanceMethod yX12_parse, Cond.selects RX12 yX12_parse yX12_parse, Cond.code yX12_parse cX12_parse 2 (some .int), Cond.fieldLink RX12 283 "PhraseDeskModel" "programs" "I", Cond.fieldLink RX12 138 "PhraseDeskModel" "error" "I", Cond.fieldLink RX12 190 "PhraseDeskModel" "next" "I", Cond.fieldLink RX12 193 "PhraseDeskModel" "start" "I", Cond.fieldLink RX12 196 "PhraseDeskModel" "written" "I", Cond.fieldLink RX12 199 "PhraseDeskModel" "frames" "I", Cond.fieldLink RX12 205 "PhraseDeskModel" "waiting" "I", Cond.fieldLink RX12 280 "PhraseDeskModel" "done" "Z", Cond.fieldLink RX12 208 "PhraseDeskModel" "operand" "Z", Cond.fieldLink RX12 141 "PhraseDeskModel" "where" "I", Cond.methodLink RX12 286 yX12_cut, Cond.instanceMethod yX12_cut]
def wsL_law0_r26 : List Cond := [Cond.selects RX12 yX12_cut yX12_cut, Cond.code yX12_cut cX12_cut 2 none, Cond.fieldLink RX12 144 "PhraseDeskModel" "tokens" "I", Cond.methodLink RX12 134 yX12_at, Cond.instanceMethod yX12_at, Cond.selects RX12 yX12_at yX12_at, Cond.code yX12_at cX12_at 2 (some .int), Cond.methodLink RX12 147 yX12_digit, Cond.instanceMethod yX12_digit, Cond.selects RX12 yX12_digit yX12_digit, Cond.code yX12_digit cX12_digit 2 (some .boolean), Cond.methodLink RX12 179 yX12_number, Cond.instanceMethod yX12_number, Cond.selects RX12 yX12_number yX12_number, Cond.code yX12_number cX12_number 7 (some .int), Cond.constantLong RX12 151 (10), Cond.constantLong RX12 153 (48), Cond.methodLink RX12 155 yX12_wrong, Cond.instanceMethod yX12_wrong, Cond.selects RX12 yX12_wrong yX12_wrong, Cond.code yX12_wrong cX12_wrong 3 none, Cond.methodLink RX12 159 yX12_add, Cond.instanceMethod yX12_add, Cond.selects RX12 yX12_add yX12_add]
def wsL_law0_r27 : List Cond := [Cond.code yX12_add cX12_add 5 none, Cond.methodLink RX12 163 yX12_lower, Cond.instanceMethod yX12_lower, Cond.selects RX12 yX12_lower yX12_lower, Cond.code yX12_lower cX12_lower 2 (some .boolean), Cond.methodLink RX12 182 yX12_name, Cond.instanceMethod yX12_name, Cond.selects RX12 yX12_name yX12_name, Cond.code yX12_name cX12_name 5 (some .int), Cond.constantLong RX12 166 (27), Cond.constantLong RX12 168 (97), Cond.methodLink RX12 185 yX12_quoted, Cond.instanceMethod yX12_quoted, Cond.selects RX12 yX12_quoted yX12_quoted, Cond.code yX12_quoted cX12_quoted 5 (some .int), Cond.methodLink RX12 188 yX12_sign, Cond.instanceMethod yX12_sign, Cond.selects RX12 yX12_sign yX12_sign, Cond.code yX12_sign cX12_sign 3 (some .int), Cond.constantLong RX12 174 (256), Cond.methodLink RX12 170 yX12_twice, Cond.static yX12_twice, Cond.code yX12_twice cX12_twice 2 (some .boolean), Cond.methodLink RX12 176 yX12_single]
def wsL_law0_r28 : List Cond := [Cond.static yX12_single, Cond.code yX12_single cX12_single 1 (some .boolean), Cond.methodLink RX12 225 yX12_open, Cond.instanceMethod yX12_open, Cond.selects RX12 yX12_open yX12_open, Cond.code yX12_open cX12_open 2 none, Cond.methodLink RX12 202 yX12_fresh, Cond.instanceMethod yX12_fresh, Cond.selects RX12 yX12_fresh yX12_fresh, Cond.code yX12_fresh cX12_fresh 2 none, Cond.methodLink RX12 289 yX12_first, Cond.instanceMethod yX12_first, Cond.selects RX12 yX12_first yX12_first, Cond.code yX12_first cX12_first 3 none, Cond.methodLink RX12 212 yX12_emit, Cond.instanceMethod yX12_emit, Cond.selects RX12 yX12_emit yX12_emit, Cond.code yX12_emit cX12_emit 4 (some .int), Cond.methodLink RX12 221 yX12_ready, Cond.instanceMethod yX12_ready, Cond.selects RX12 yX12_ready yX12_ready, Cond.code yX12_ready cX12_ready 2 none, Cond.methodLink RX12 239 yX12_word, Cond.instanceMethod yX12_word]
def wsL_law0_r29 : List Cond := [Cond.selects RX12 yX12_word yX12_word, Cond.code yX12_word cX12_word 2 none, Cond.constant RX12 233 (407354), Cond.constant RX12 234 (3217595), Cond.constant RX12 235 (291207), Cond.methodLink RX12 236 yX12_named, Cond.instanceMethod yX12_named, Cond.selects RX12 yX12_named yX12_named, Cond.code yX12_named cX12_named 3 none, Cond.methodLink RX12 216 yX12_isSign, Cond.instanceMethod yX12_isSign, Cond.selects RX12 yX12_isSign yX12_isSign, Cond.code yX12_isSign cX12_isSign 2 (some .boolean), Cond.methodLink RX12 229 yX12_call, Cond.instanceMethod yX12_call, Cond.selects RX12 yX12_call yX12_call, Cond.code yX12_call cX12_call 4 none, Cond.constantLong RX12 219 (4), Cond.methodLink RX12 242 yX12_misfit, Cond.instanceMethod yX12_misfit, Cond.selects RX12 yX12_misfit yX12_misfit, Cond.code yX12_misfit cX12_misfit 1 none, Cond.methodLink RX12 292 yX12_behind, Cond.instanceMethod yX12_behind]
def wsL_law0_r30 : List Cond := [Cond.selects RX12 yX12_behind yX12_behind, Cond.code yX12_behind cX12_behind 5 none, Cond.methodLink RX12 248 yX12_finish, Cond.instanceMethod yX12_finish, Cond.selects RX12 yX12_finish yX12_finish, Cond.code yX12_finish cX12_finish 3 none, Cond.fieldLink RX12 271 "PhraseDeskModel" "targetStep" "I", Cond.fieldLink RX12 268 "PhraseDeskModel" "target" "I", Cond.methodLink RX12 259 yX12_reduce, Cond.instanceMethod yX12_reduce, Cond.selects RX12 yX12_reduce yX12_reduce, Cond.code yX12_reduce cX12_reduce 2 none, Cond.methodLink RX12 274 yX12_argument, Cond.instanceMethod yX12_argument, Cond.selects RX12 yX12_argument yX12_argument, Cond.code yX12_argument cX12_argument 2 none, Cond.methodLink RX12 277 yX12_assign, Cond.instanceMethod yX12_assign, Cond.selects RX12 yX12_assign yX12_assign, Cond.code yX12_assign cX12_assign 3 none, Cond.methodLink RX12 251 yX12_suffix, Cond.instanceMethod yX12_suffix, Cond.selects RX12 yX12_suffix yX12_suffix, Cond.code yX12_suffix cX12_suffix 3 (some .boolean)]
def wsL_law0_r31 : List Cond := [Cond.methodLink RX12 255 yX12_levelNext, Cond.instanceMethod yX12_levelNext, Cond.selects RX12 yX12_levelNext yX12_levelNext, Cond.code yX12_levelNext cX12_levelNext 2 (some .int), Cond.methodLink RX12 262 yX12_compared, Cond.instanceMethod yX12_compared, Cond.selects RX12 yX12_compared yX12_compared, Cond.code yX12_compared cX12_compared 1 (some .boolean), Cond.methodLink RX12 265 yX12_binary, Cond.instanceMethod yX12_binary, Cond.selects RX12 yX12_binary yX12_binary, Cond.code yX12_binary cX12_binary 3 none, Cond.methodLink RX12 245 yX12_stepOf, Cond.static yX12_stepOf, Cond.code yX12_stepOf cX12_stepOf 1 (some .int), Cond.methodLink RL 66 yL_type, Cond.static yL_type, Cond.codeWith yL_type cL_type 4 (some .int) [(0, 9, 12, 13), (0, 9, 15, 15)], Cond.methodLink RL 21 yX11_type, Cond.instanceMethod yX11_type, Cond.selects RX11 yX11_type yX11_type, Cond.code yX11_type cX11_type 3 (some .int), Cond.fieldLink RX11 96 "PhraseDesk" "familyCount" "I", Cond.instantiable RX1 7]
def wsL_law0_r32 : List Cond := [Cond.initialized RX1, Cond.methodLink RX11 90 yX11_familyAt, Cond.instanceMethod yX11_familyAt, Cond.selects RX11 yX11_familyAt yX11_familyAt, Cond.code yX11_familyAt cX11_familyAt 2 (some (.object "PhraseDesk$Family")), Cond.methodLink RX11 101 yX1_init, Cond.instanceMethod yX1_init, Cond.code yX1_init cX1_init 3 none, Cond.methodLink RX1 3 objectInit, Cond.fieldLink RX1 9 "PhraseDesk$Family" "number" "I", Cond.fieldLink RX1 15 "PhraseDesk$Family" "kind" "I", Cond.fieldLink RX1 18 "PhraseDesk$Family" "parent" "LPhraseDesk$Family;", Cond.classLink RX1 22 RX2, Cond.fieldLink RX1 24 "PhraseDesk$Family" "fields" "[LPhraseDesk$Field;", Cond.classLink RX1 28 RX7, Cond.fieldLink RX1 30 "PhraseDesk$Family" "routines" "[LPhraseDesk$Routine;", Cond.methodLink RL 68 yX12_type, Cond.instanceMethod yX12_type, Cond.selects RX12 yX12_type yX12_type, Cond.code yX12_type cX12_type 2 (some .int), Cond.fieldLink RX12 295 "PhraseDeskModel" "classes" "I", Cond.methodLink RX12 298 yX12_isClass, Cond.instanceMethod yX12_isClass, Cond.selects RX12 yX12_isClass yX12_isClass]
def wsL_law0_r33 : List Cond := [Cond.code yX12_isClass cX12_isClass 2 (some .boolean), Cond.methodLink RL 69 yL_field, Cond.static yL_field, Cond.codeWith yL_field cL_field 6 (some .int) [(0, 12, 15, 13), (0, 12, 19, 15)], Cond.methodLink RL 24 yX11_field, Cond.instanceMethod yX11_field, Cond.selects RX11 yX11_field yX11_field, Cond.code yX11_field cX11_field 5 (some .int), Cond.fieldLink RX11 113 "PhraseDesk$Family" "fieldCount" "I", Cond.fieldLink RX11 120 "PhraseDesk" "objectCount" "I", Cond.methodLink RX11 104 yX11_isName, Cond.static yX11_isName, Cond.code yX11_isName cX11_isName 1 (some .boolean), Cond.constant RX11 236 (14348906), Cond.methodLink RX11 108 yX11_isType, Cond.instanceMethod yX11_isType, Cond.selects RX11 yX11_isType yX11_isType, Cond.code yX11_isType cX11_isType 2 (some .boolean), Cond.methodLink RX11 116 yX1_ownField, Cond.instanceMethod yX1_ownField, Cond.selects RX1 yX1_ownField yX1_ownField, Cond.code yX1_ownField cX1_ownField 4 (some (.object "PhraseDesk$Field")), Cond.fieldLink RX1 34 "PhraseDesk$Family" "fieldCount" "I", Cond.fieldLink RX1 43 "PhraseDesk$Field" "name" "I"]
def wsL_law0_r34 : List Cond := [Cond.methodLink RX11 125 yX1_addField, Cond.instanceMethod yX1_addField, Cond.selects RX1 yX1_addField yX1_addField, Cond.code yX1_addField cX1_addField 3 none, Cond.instantiable RX2 3, Cond.initialized RX2, Cond.methodLink RX1 37 yX2_init, Cond.instanceMethod yX2_init, Cond.code yX2_init cX2_init 4 none, Cond.methodLink RX2 1 objectInit, Cond.fieldLink RX2 7 "PhraseDesk$Field" "name" "I", Cond.fieldLink RX2 13 "PhraseDesk$Field" "type" "I", Cond.fieldLink RX2 16 "PhraseDesk$Field" "slot" "I", Cond.methodLink RL 72 yX12_field, Cond.instanceMethod yX12_field, Cond.selects RX12 yX12_field yX12_field, Cond.code yX12_field cX12_field 6 (some .int), Cond.fieldLink RX12 308 "PhraseDeskModel" "objects" "I", Cond.methodLink RX12 302 yX12_isName, Cond.static yX12_isName, Cond.code yX12_isName cX12_isName 1 (some .boolean), Cond.constant RX12 301 (14348906), Cond.methodLink RX12 305 yX12_isType, Cond.instanceMethod yX12_isType]
def wsL_law0_r35 : List Cond := [Cond.selects RX12 yX12_isType yX12_isType, Cond.code yX12_isType cX12_isType 2 (some .boolean), Cond.methodLink RL 73 yL_method, Cond.static yL_method, Cond.codeWith yL_method cL_method 9 (some .int) [(0, 18, 21, 13), (0, 18, 25, 15)], Cond.methodLink RL 28 yX11_method, Cond.instanceMethod yX11_method, Cond.selects RX11 yX11_method yX11_method, Cond.code yX11_method cX11_method 8 (some .int), Cond.fieldLink RX11 135 "PhraseDesk$Family" "routineCount" "I", Cond.classLink RX11 140 RX7, Cond.instantiable RX7 6, Cond.initialized RX7, Cond.methodLink RX11 129 yX11_areParameters, Cond.instanceMethod yX11_areParameters, Cond.selects RX11 yX11_areParameters yX11_areParameters, Cond.code yX11_areParameters cX11_areParameters 3 (some .boolean), Cond.methodLink RX11 142 yX7_init, Cond.instanceMethod yX7_init, Cond.code yX7_init cX7_init 6 none, Cond.methodLink RX7 1 objectInit, Cond.fieldLink RX7 7 "PhraseDesk$Routine" "name" "I", Cond.fieldLink RX7 13 "PhraseDesk$Routine" "one" "I", Cond.fieldLink RX7 16 "PhraseDesk$Routine" "two" "I"]
def wsL_law0_r36 : List Cond := [Cond.fieldLink RX7 19 "PhraseDesk$Routine" "parameters" "I", Cond.fieldLink RX7 22 "PhraseDesk$Routine" "action" "I", Cond.fieldLink RX7 25 "PhraseDesk$Routine" "number" "I", Cond.methodLink RX11 145 yX1_addRoutine, Cond.instanceMethod yX1_addRoutine, Cond.selects RX1 yX1_addRoutine yX1_addRoutine, Cond.code yX1_addRoutine cX1_addRoutine 2 none, Cond.fieldLink RX1 40 "PhraseDesk$Family" "routineCount" "I", Cond.methodLink RL 76 yX12_method, Cond.instanceMethod yX12_method, Cond.selects RX12 yX12_method yX12_method, Cond.code yX12_method cX12_method 9 (some .int), Cond.methodLink RL 77 yL_make, Cond.static yL_make, Cond.codeWith yL_make cL_make 4 (some .int) [(0, 9, 12, 13), (0, 9, 15, 15)], Cond.methodLink RL 32 yX11_make, Cond.instanceMethod yX11_make, Cond.selects RX11 yX11_make yX11_make, Cond.code yX11_make cX11_make 3 (some .int), Cond.classLink RX11 153 RX9, Cond.instantiable RX9 3, Cond.initialized RX9, Cond.fieldLink RX11 155 "PhraseDesk$Runner" "nothing" "LPhraseDesk$Value;", Cond.methodLink RX11 158 yX9_init]
def wsL_law0_r37 : List Cond := [Cond.instanceMethod yX9_init, Cond.code yX9_init cX9_init 5 none, Cond.methodLink RX9 3 objectInit, Cond.fieldLink RX9 9 "PhraseDesk$Thing" "number" "I", Cond.fieldLink RX9 15 "PhraseDesk$Thing" "family" "LPhraseDesk$Family;", Cond.classLink RX9 19 RX10, Cond.fieldLink RX9 21 "PhraseDesk$Thing" "values" "[LPhraseDesk$Value;", Cond.methodLink RX11 161 yX10_ofThing, Cond.static yX10_ofThing, Cond.code yX10_ofThing cX10_ofThing 1 (some (.object "PhraseDesk$Value")), Cond.fieldLink RX10 41 "PhraseDesk$Thing" "family" "LPhraseDesk$Family;", Cond.fieldLink RX10 47 "PhraseDesk$Family" "kind" "I", Cond.fieldLink RX10 50 "PhraseDesk$Thing" "number" "I", Cond.methodLink RL 79 yX12_make, Cond.instanceMethod yX12_make, Cond.selects RX12 yX12_make yX12_make, Cond.code yX12_make cX12_make 2 (some .int), Cond.methodLink RL 80 yL_converter, Cond.static yL_converter, Cond.codeWith yL_converter cL_converter 6 (some .int) [(0, 19, 22, 13)], Cond.methodLink RL 35 yX11_converter, Cond.instanceMethod yX11_converter, Cond.selects RX11 yX11_converter yX11_converter, Cond.code yX11_converter cX11_converter 5 (some .boolean)]
def wsL_law0_r38 : List Cond := [Cond.fieldLink RX11 167 "PhraseDesk$Runner" "converters" "LPhraseDesk$Converters;", Cond.methodLink RX11 171 yX0_change, Cond.instanceMethod yX0_change, Cond.selects RX0 yX0_change yX0_change, Cond.code yX0_change cX0_change 6 (some .boolean), Cond.methodLink RX0 22 yX0_isThere, Cond.instanceMethod yX0_isThere, Cond.selects RX0 yX0_isThere yX0_isThere, Cond.code yX0_isThere cX0_isThere 4 (some .boolean), Cond.methodLink RL 83 yX12_converter, Cond.instanceMethod yX12_converter, Cond.selects RX12 yX12_converter yX12_converter, Cond.code yX12_converter cX12_converter 6 (some .boolean), Cond.methodLink RL 84 yL_run, Cond.static yL_run, Cond.codeWith yL_run cL_run 5 (some .int) [(0, 10, 13, 13)], Cond.methodLink RL 39 yX11_run, Cond.instanceMethod yX11_run, Cond.selects RX11 yX11_run yX11_run, Cond.code yX11_run cX11_run 6 (some .int), Cond.fieldLink RX11 191 "PhraseDesk$Runner" "failure" "I", Cond.methodLink RX11 177 yX11_objectAt, Cond.instanceMethod yX11_objectAt, Cond.selects RX11 yX11_objectAt yX11_objectAt]
def wsL_law0_r39 : List Cond := [Cond.code yX11_objectAt cX11_objectAt 2 (some (.object "PhraseDesk$Value")), Cond.methodLink RX11 183 yX8_begin, Cond.instanceMethod yX8_begin, Cond.selects RX8 yX8_begin yX8_begin, Cond.code yX8_begin cX8_begin 2 none, Cond.fieldLink RX8 46 "PhraseDesk$Runner" "failure" "I", Cond.instanceMethod yX8_eval, Cond.selects RX8 yX8_eval yX8_eval, Cond.code yX8_eval cX8_eval 3 (some (.object "PhraseDesk$Value")), Cond.fieldLink RX8 54 "PhraseDesk$Node" "op" "I", Cond.fieldLink RX8 59 "PhraseDesk$Node" "literal" "LPhraseDesk$Value;", Cond.fieldLink RX8 62 "PhraseDesk$Node" "name" "I", Cond.fieldLink RX8 68 "PhraseDesk$Node" "one" "LPhraseDesk$Node;", Cond.fieldLink RX8 76 "PhraseDesk$Node" "lenient" "Z", Cond.methodLink RX8 50 yX8_fail, Cond.instanceMethod yX8_fail, Cond.selects RX8 yX8_fail yX8_fail, Cond.code yX8_fail cX8_fail 2 (some (.object "PhraseDesk$Value")), Cond.methodLink RX8 65 yX8_variable, Cond.instanceMethod yX8_variable, Cond.selects RX8 yX8_variable yX8_variable, Cond.code yX8_variable cX8_variable 3 (some (.object "PhraseDesk$Value")), Cond.fieldLink RX8 273 "PhraseDesk$Runner" "variableCount" "I", Cond.methodLink RX8 72 yX8_eval]
def wsL_law0_r40 : List Cond := [Cond.methodLink RX8 80 yX8_property, Cond.instanceMethod yX8_property, Cond.selects RX8 yX8_property yX8_property, Cond.code yX8_property cX8_property 5 (some (.object "PhraseDesk$Value")), Cond.fieldLink RX8 109 "PhraseDesk$Value" "kind" "I", Cond.fieldLink RX8 112 "PhraseDesk$Value" "chars" "Ljava/lang/String;", Cond.fieldLink RX8 125 "PhraseDesk$Value" "thing" "LPhraseDesk$Thing;", Cond.methodLink RX8 116 yJ0_length_8abf5, Cond.methodLink RX8 122 yX10_ofInt, Cond.methodLink RX8 129 yX9_valueOf, Cond.instanceMethod yX9_valueOf, Cond.selects RX9 yX9_valueOf yX9_valueOf, Cond.code yX9_valueOf cX9_valueOf 3 (some (.object "PhraseDesk$Value")), Cond.fieldLink RX9 31 "PhraseDesk$Field" "slot" "I", Cond.methodLink RX9 25 yX1_nearestField, Cond.instanceMethod yX1_nearestField, Cond.selects RX1 yX1_nearestField yX1_nearestField, Cond.code yX1_nearestField cX1_nearestField 4 (some (.object "PhraseDesk$Field")), Cond.methodLink RX1 46 yX1_ownField, Cond.methodLink RX8 84 yX8_call, Cond.instanceMethod yX8_call, Cond.selects RX8 yX8_call yX8_call, Cond.methodLink RX8 87 yX8_negative, Cond.instanceMethod yX8_negative]
def wsL_law0_r41 : List Cond := [Cond.selects RX8 yX8_negative yX8_negative, Cond.code yX8_negative cX8_negative 2 (some (.object "PhraseDesk$Value")), Cond.fieldLink RX8 176 "PhraseDesk$Value" "number" "I", Cond.fieldLink RX8 177 "PhraseDesk$Value" "real" "D", Cond.methodLink RX8 181 yX10_ofReal, Cond.methodLink RX8 91 yX8_opposite, Cond.instanceMethod yX8_opposite, Cond.selects RX8 yX8_opposite yX8_opposite, Cond.code yX8_opposite cX8_opposite 2 (some (.object "PhraseDesk$Value")), Cond.methodLink RX8 185 yX10_isTrue, Cond.instanceMethod yX10_isTrue, Cond.selects RX10 yX10_isTrue yX10_isTrue, Cond.code yX10_isTrue cX10_isTrue 1 (some .boolean), Cond.methodLink RX8 189 yX10_ofBool, Cond.methodLink RX8 94 yX8_logic, Cond.instanceMethod yX8_logic, Cond.selects RX8 yX8_logic yX8_logic, Cond.methodLink RX8 97 yX8_chosen, Cond.instanceMethod yX8_chosen, Cond.selects RX8 yX8_chosen yX8_chosen, Cond.methodLink RX8 100 yX8_orElse, Cond.instanceMethod yX8_orElse, Cond.selects RX8 yX8_orElse yX8_orElse, Cond.methodLink RX8 103 yX8_set]
def wsL_law0_r42 : List Cond := [Cond.instanceMethod yX8_set, Cond.selects RX8 yX8_set yX8_set, Cond.methodLink RX8 106 yX8_combined, Cond.instanceMethod yX8_combined, Cond.selects RX8 yX8_combined yX8_combined, Cond.code yX8_call cX8_call 9 (some (.object "PhraseDesk$Value")), Cond.fieldLink RX8 134 "PhraseDesk$Node" "two" "LPhraseDesk$Node;", Cond.fieldLink RX8 137 "PhraseDesk$Node" "three" "LPhraseDesk$Node;", Cond.fieldLink RX8 140 "PhraseDesk$Thing" "family" "LPhraseDesk$Family;", Cond.fieldLink RX8 148 "PhraseDesk$Finder" "failure" "I", Cond.fieldLink RX8 149 "PhraseDesk$Routine" "one" "I", Cond.fieldLink RX8 157 "PhraseDesk$Routine" "two" "I", Cond.methodLink RX8 144 yX3_find, Cond.instanceMethod yX3_find, Cond.selects RX3 yX3_find yX3_find, Cond.code yX3_find cX3_find 7 (some (.object "PhraseDesk$Routine")), Cond.fieldLink RX3 17 "PhraseDesk$Node" "name" "I", Cond.methodLink RX3 23 yX5_arguments, Cond.instanceMethod yX5_arguments, Cond.selects RX5 yX5_arguments yX5_arguments, Cond.code yX5_arguments cX5_arguments 1 (some .int), Cond.methodLink RX3 27 yX3_collect, Cond.instanceMethod yX3_collect, Cond.selects RX3 yX3_collect yX3_collect]
def wsL_law0_r43 : List Cond := [Cond.code yX3_collect cX3_collect 7 none, Cond.fieldLink RX3 42 "PhraseDesk$Finder" "count" "I", Cond.fieldLink RX3 45 "PhraseDesk$Family" "routineCount" "I", Cond.fieldLink RX3 54 "PhraseDesk$Routine" "name" "I", Cond.fieldLink RX3 55 "PhraseDesk$Routine" "parameters" "I", Cond.fieldLink RX3 62 "PhraseDesk$Family" "parent" "LPhraseDesk$Family;", Cond.methodLink RX3 50 yX1_routineAt, Cond.instanceMethod yX1_routineAt, Cond.selects RX1 yX1_routineAt yX1_routineAt, Cond.code yX1_routineAt cX1_routineAt 2 (some (.object "PhraseDesk$Routine")), Cond.methodLink RX3 58 yX3_addUnlessHidden, Cond.instanceMethod yX3_addUnlessHidden, Cond.selects RX3 yX3_addUnlessHidden yX3_addUnlessHidden, Cond.code yX3_addUnlessHidden cX3_addUnlessHidden 4 none, Cond.fieldLink RX3 66 "PhraseDesk$Routine" "one" "I", Cond.fieldLink RX3 69 "PhraseDesk$Routine" "two" "I", Cond.methodLink RX3 31 yX3_exact, Cond.instanceMethod yX3_exact, Cond.selects RX3 yX3_exact yX3_exact, Cond.code yX3_exact cX3_exact 5 (some (.object "PhraseDesk$Routine")), Cond.fieldLink RX3 72 "PhraseDesk$Value" "kind" "I", Cond.methodLink RX3 35 yX3_closest, Cond.instanceMethod yX3_closest, Cond.selects RX3 yX3_closest yX3_closest]
def wsL_law0_r44 : List Cond := [Cond.code yX3_closest cX3_closest 8 (some (.object "PhraseDesk$Routine")), Cond.methodLink RX3 77 yX10_fits, Cond.instanceMethod yX10_fits, Cond.selects RX10 yX10_fits yX10_fits, Cond.code yX10_fits cX10_fits 2 (some .boolean), Cond.methodLink RX10 51 yX10_stepsUpTo, Cond.instanceMethod yX10_stepsUpTo, Cond.selects RX10 yX10_stepsUpTo yX10_stepsUpTo, Cond.code yX10_stepsUpTo cX10_stepsUpTo 4 (some .int), Cond.fieldLink RX10 55 "PhraseDesk$Family" "parent" "LPhraseDesk$Family;", Cond.methodLink RX3 81 yX10_weight, Cond.instanceMethod yX10_weight, Cond.selects RX10 yX10_weight yX10_weight, Cond.code yX10_weight cX10_weight 2 (some .int), Cond.methodLink RX3 38 yX3_convertible, Cond.instanceMethod yX3_convertible, Cond.selects RX3 yX3_convertible yX3_convertible, Cond.code yX3_convertible cX3_convertible 7 (some (.object "PhraseDesk$Routine")), Cond.fieldLink RX3 91 "PhraseDesk$Finder" "failure" "I", Cond.methodLink RX3 85 yX0_suit, Cond.instanceMethod yX0_suit, Cond.selects RX0 yX0_suit yX0_suit, Cond.code yX0_suit cX0_suit 3 (some .boolean), Cond.methodLink RX0 26 yX10_fits]
def wsL_law0_r45 : List Cond := [Cond.methodLink RX0 32 yX0_reach, Cond.instanceMethod yX0_reach, Cond.selects RX0 yX0_reach yX0_reach, Cond.code yX0_reach cX0_reach 4 (some .boolean), Cond.fieldLink RX0 36 "PhraseDesk$Value" "kind" "I", Cond.fieldLink RX0 40 "PhraseDesk$Value" "thing" "LPhraseDesk$Thing;", Cond.fieldLink RX0 44 "PhraseDesk$Thing" "family" "LPhraseDesk$Family;", Cond.fieldLink RX0 50 "PhraseDesk$Family" "parent" "LPhraseDesk$Family;", Cond.fieldLink RX0 55 "PhraseDesk$Family" "kind" "I", Cond.methodLink RX8 153 yX8_fit, Cond.instanceMethod yX8_fit, Cond.selects RX8 yX8_fit yX8_fit, Cond.code yX8_fit cX8_fit 4 (some (.object "PhraseDesk$Value")), Cond.methodLink RX8 226 yX10_fits, Cond.methodLink RX8 230 yX0_reach, Cond.methodLink RX8 234 yX0_convert, Cond.instanceMethod yX0_convert, Cond.selects RX0 yX0_convert yX0_convert, Cond.code yX0_convert cX0_convert 4 (some (.object "PhraseDesk$Value")), Cond.fieldLink RX0 63 "PhraseDesk$Value" "number" "I", Cond.methodLink RX0 56 yX0_toBool, Cond.static yX0_toBool, Cond.code yX0_toBool cX0_toBool 2 (some (.object "PhraseDesk$Value")), Cond.fieldLink RX0 78 "PhraseDesk$Value" "chars" "Ljava/lang/String;"]
def wsL_law0_r46 : List Cond := [Cond.fieldLink RX0 96 "PhraseDesk$Value" "real" "D", Cond.methodLink RX0 84 yJ0_equals_9ea2d, Cond.instanceMethod yJ0_equals_9ea2d, Cond.selects RJ0 yJ0_equals_9ea2d yJ0_equals_9ea2d, Cond.code yJ0_equals_9ea2d cJ0_equals_9ea2d 3 (some .boolean), Cond.classLink RJ0 10 "java/lang/String", Cond.methodLink RJ0 541 yJ1_equals_b5fdf, Cond.static yJ1_equals_b5fdf, Cond.code yJ1_equals_b5fdf cJ1_equals_b5fdf 3 (some .boolean), Cond.methodLink RX0 92 yX10_ofBool, Cond.methodLink RX0 60 yX0_toInt, Cond.static yX0_toInt, Cond.code yX0_toInt cX0_toInt 8 (some (.object "PhraseDesk$Value")), Cond.methodLink RX0 100 yX10_ofInt, Cond.methodLink RX0 104 yJ0_length_8abf5, Cond.methodLink RX0 108 yJ0_charAt_5068e, Cond.instanceMethod yJ0_charAt_5068e, Cond.selects RJ0 yJ0_charAt_5068e yJ0_charAt_5068e, Cond.code yJ0_charAt_5068e cJ0_charAt_5068e 2 (some .char), Cond.methodLink RJ0 492 yJ0_isLatin1_aae02, Cond.instanceMethod yJ0_isLatin1_aae02, Cond.selects RJ0 yJ0_isLatin1_aae02 yJ0_isLatin1_aae02, Cond.code yJ0_isLatin1_aae02 cJ0_isLatin1_aae02 1 (some .boolean), Cond.methodLink RJ0 495 yJ1_charAt_3b067]
def wsL_law0_r47 : List Cond := [Cond.static yJ1_charAt_3b067, Cond.code yJ1_charAt_3b067 cJ1_charAt_3b067 2 (some .char), Cond.methodLink RJ1 9 yJ0_checkIndex_df160, Cond.methodLink RJ0 498 yJ2_charAt_3b067, Cond.static yJ2_charAt_3b067, Cond.code yJ2_charAt_3b067 cJ2_charAt_3b067 2 (some .char), Cond.methodLink RX0 66 yX10_ofReal, Cond.methodLink RX0 70 yX0_asText, Cond.instanceMethod yX0_asText, Cond.selects RX0 yX0_asText yX0_asText, Cond.code yX0_asText cX0_asText 2 (some (.object "java/lang/String")), Cond.methodLink RX0 114 yJ4_setLength_d00df, Cond.methodLink RX0 118 yJ4_append_cf468, Cond.methodLink RX0 122 yJ4_append_bf812, Cond.instanceMethod yJ4_append_bf812, Cond.selects RJ4 yJ4_append_bf812 yJ4_append_bf812, Cond.code yJ4_append_bf812 cJ4_append_bf812 2 (some (.object "java/lang/StringBuilder")), Cond.methodLink RJ4 53 yJ5_append_c97b9, Cond.sameMethod "java/lang/AbstractStringBuilder" "java/lang/AbstractStringBuilder" "append" "(I)Ljava/lang/AbstractStringBuilder;", Cond.instanceMethod yJ5_append_c97b9, Cond.code yJ5_append_c97b9 cJ5_append_c97b9 4 (some (.object "java/lang/AbstractStringBuilder")), Cond.methodLink RJ5 245 yJ6_stringSize_0f7a4, Cond.static yJ6_stringSize_0f7a4, Cond.initialized RJ6]
def wsL_law0_r48 : List Cond := [Cond.code yJ6_stringSize_0f7a4 cJ6_stringSize_0f7a4 4 (some .int), Cond.methodLink RJ5 248 yJ6_getChars_ba4f3, Cond.static yJ6_getChars_ba4f3, Cond.code yJ6_getChars_ba4f3 cJ6_getChars_ba4f3 7 (some .int), Cond.fieldLink RJ6 83 "java/lang/Integer" "DigitOnes" "[B", Cond.fieldLink RJ6 87 "java/lang/Integer" "DigitTens" "[B", Cond.methodLink RJ5 251 yJ2_getChars_46870, Cond.static yJ2_getChars_46870, Cond.code yJ2_getChars_46870 cJ2_getChars_46870 5 (some .int), Cond.methodLink RJ2 96 yJ2_checkBoundsBeginEnd_d044e, Cond.static yJ2_checkBoundsBeginEnd_d044e, Cond.code yJ2_checkBoundsBeginEnd_d044e cJ2_checkBoundsBeginEnd_d044e 3 none, Cond.methodLink RJ2 241 yJ0_checkBoundsBeginEnd_23922, Cond.static yJ0_checkBoundsBeginEnd_23922, Cond.code yJ0_checkBoundsBeginEnd_23922 cJ0_checkBoundsBeginEnd_23922 3 none, Cond.methodLink RJ0 1062 yJ3_checkFromToIndex_8c36e, Cond.static yJ3_checkFromToIndex_8c36e, Cond.code yJ3_checkFromToIndex_8c36e cJ3_checkFromToIndex_8c36e 4 (some .int), Cond.methodLink RJ2 393 yJ2_getChars_ba4f3, Cond.static yJ2_getChars_ba4f3, Cond.code yJ2_getChars_ba4f3 cJ2_getChars_ba4f3 7 (some .int), Cond.fieldLink RJ2 403 "java/lang/Integer" "DigitOnes" "[B", Cond.fieldLink RJ2 407 "java/lang/Integer" "DigitTens" "[B", Cond.methodLink RX0 125 yJ4_toString_0e30d]
def wsL_law0_r49 : List Cond := [Cond.methodLink RX0 74 yX10_ofText, Cond.methodLink RX8 159 yX8_act, Cond.instanceMethod yX8_act, Cond.selects RX8 yX8_act yX8_act, Cond.code yX8_act cX8_act 5 (some (.object "PhraseDesk$Value")), Cond.fieldLink RX8 163 "PhraseDesk$Routine" "action" "I", Cond.fieldLink RX8 166 "PhraseDesk$Routine" "number" "I", Cond.fieldLink RX8 169 "PhraseDesk$Routine" "parameters" "I", Cond.methodLink RX8 172 yX8_add, Cond.instanceMethod yX8_add, Cond.selects RX8 yX8_add yX8_add, Cond.code yX8_add cX8_add 4 (some (.object "PhraseDesk$Value")), Cond.methodLink RX8 255 yX8_joins, Cond.static yX8_joins, Cond.code yX8_joins cX8_joins 2 (some .boolean), Cond.methodLink RX8 241 yX8_calculate, Cond.instanceMethod yX8_calculate, Cond.selects RX8 yX8_calculate yX8_calculate, Cond.code yX8_calculate cX8_calculate 4 (some (.object "PhraseDesk$Value")), Cond.methodLink RX8 261 yX8_ofInts, Cond.instanceMethod yX8_ofInts, Cond.selects RX8 yX8_ofInts yX8_ofInts, Cond.code yX8_ofInts cX8_ofInts 4 (some (.object "PhraseDesk$Value")), Cond.methodLink RX8 248 yX10_isNumber]
def wsL_law0_r50 : List Cond := [Cond.instanceMethod yX10_isNumber, Cond.selects RX10 yX10_isNumber yX10_isNumber, Cond.code yX10_isNumber cX10_isNumber 1 (some .boolean), Cond.methodLink RX8 265 yX8_ofReals, Cond.instanceMethod yX8_ofReals, Cond.selects RX8 yX8_ofReals yX8_ofReals, Cond.code yX8_ofReals cX8_ofReals 8 (some (.object "PhraseDesk$Value")), Cond.constantDouble RX8 269 (4786511204640096256), Cond.constantDouble RX8 271 (14009883241494872064), Cond.methodLink RX8 258 yX0_join, Cond.instanceMethod yX0_join, Cond.selects RX0 yX0_join yX0_join, Cond.code yX0_join cX0_join 5 (some (.object "PhraseDesk$Value")), Cond.methodLink RX0 129 yJ4_append_15ec4, Cond.instanceMethod yJ4_append_15ec4, Cond.selects RJ4 yJ4_append_15ec4 yJ4_append_15ec4, Cond.code yJ4_append_15ec4 cJ4_append_15ec4 2 (some (.object "java/lang/StringBuilder")), Cond.methodLink RJ4 29 yJ5_append_cf1ce, Cond.sameMethod "java/lang/AbstractStringBuilder" "java/lang/AbstractStringBuilder" "append" "(Ljava/lang/String;)Ljava/lang/AbstractStringBuilder;", Cond.instanceMethod yJ5_append_cf1ce, Cond.code yJ5_append_cf1ce cJ5_append_cf1ce 3 (some (.object "java/lang/AbstractStringBuilder")), Cond.methodLink RJ5 204 ⟨"java/lang/AbstractStringBuilder", "appendNull", "()Ljava/lang/AbstractStringBuilder;"⟩, Cond.sameMethod "java/lang/AbstractStringBuilder" "java/lang/AbstractStringBuilder" "appendNull" "()Ljava/lang/AbstractStringBuilder;", Cond.selects RJ4 ⟨"java/lang/AbstractStringBuilder", "appendNull", "()Ljava/lang/AbstractStringBuilder;"⟩ yJ5_appendNull_278bc]
def wsL_law0_r51 : List Cond := [Cond.instanceMethod yJ5_appendNull_278bc, Cond.code yJ5_appendNull_278bc cJ5_appendNull_278bc 3 (some (.object "java/lang/AbstractStringBuilder")), Cond.methodLink RJ5 226 yJ2_putCharsAt_cd4e5, Cond.static yJ2_putCharsAt_cd4e5, Cond.code yJ2_putCharsAt_cd4e5 cJ2_putCharsAt_cd4e5 7 (some .int), Cond.methodLink RJ5 32 yJ0_length_8abf5, Cond.methodLink RJ5 208 ⟨"java/lang/AbstractStringBuilder", "putStringAt", "(ILjava/lang/String;)V"⟩, Cond.sameMethod "java/lang/AbstractStringBuilder" "java/lang/AbstractStringBuilder" "putStringAt" "(ILjava/lang/String;)V", Cond.selects RJ4 ⟨"java/lang/AbstractStringBuilder", "putStringAt", "(ILjava/lang/String;)V"⟩ yJ5_putStringAt_47b60, Cond.instanceMethod yJ5_putStringAt_47b60, Cond.code yJ5_putStringAt_47b60 cJ5_putStringAt_47b60 3 none, Cond.methodLink RJ5 397 ⟨"java/lang/AbstractStringBuilder", "inflateIfNeededFor", "(Ljava/lang/String;)V"⟩, Cond.sameMethod "java/lang/AbstractStringBuilder" "java/lang/AbstractStringBuilder" "inflateIfNeededFor" "(Ljava/lang/String;)V", Cond.selects RJ4 ⟨"java/lang/AbstractStringBuilder", "inflateIfNeededFor", "(Ljava/lang/String;)V"⟩ yJ5_inflateIfNeededFor_a7421, Cond.instanceMethod yJ5_inflateIfNeededFor_a7421, Cond.code yJ5_inflateIfNeededFor_a7421 cJ5_inflateIfNeededFor_a7421 2 none, Cond.methodLink RJ5 40 yJ0_coder_7d493, Cond.methodLink RJ5 399 yJ0_getBytes_840e7, Cond.instanceMethod yJ0_getBytes_840e7, Cond.selects RJ0 yJ0_getBytes_840e7 yJ0_getBytes_840e7, Cond.code yJ0_getBytes_840e7 cJ0_getBytes_840e7 4 none, Cond.methodLink RJ0 212 arraycopyName, Cond.methodLink RJ0 106 yJ1_inflate_0e8fd, Cond.code yX8_chosen cX8_chosen 4 (some (.object "PhraseDesk$Value"))]
def wsL_law0_r52 : List Cond := [Cond.methodLink RX8 193 yX8_bool, Cond.instanceMethod yX8_bool, Cond.selects RX8 yX8_bool yX8_bool, Cond.code yX8_bool cX8_bool 2 (some (.object "PhraseDesk$Value")), Cond.code yX8_combined cX8_combined 5 (some (.object "PhraseDesk$Value")), Cond.methodLink RX8 237 yX8_areSame, Cond.static yX8_areSame, Cond.code yX8_areSame cX8_areSame 2 (some .boolean), Cond.methodLink RX8 251 yJ0_equals_9ea2d, Cond.methodLink RX8 245 yX8_compare, Cond.instanceMethod yX8_compare, Cond.selects RX8 yX8_compare yX8_compare, Cond.code yX8_compare cX8_compare 4 (some (.object "PhraseDesk$Value")), Cond.code yX8_logic cX8_logic 4 (some (.object "PhraseDesk$Value")), Cond.code yX8_orElse cX8_orElse 5 (some (.object "PhraseDesk$Value")), Cond.methodLink RX8 196 yJ0_isEmpty_aae02, Cond.instanceMethod yJ0_isEmpty_aae02, Cond.selects RJ0 yJ0_isEmpty_aae02 yJ0_isEmpty_aae02, Cond.code yJ0_isEmpty_aae02 cJ0_isEmpty_aae02 1 (some .boolean), Cond.code yX8_set cX8_set 5 (some (.object "PhraseDesk$Value")), Cond.methodLink RX8 199 yX8_setProperty, Cond.instanceMethod yX8_setProperty, Cond.selects RX8 yX8_setProperty yX8_setProperty, Cond.methodLink RX8 203 yX8_setVariable]
def wsL_law0_r53 : List Cond := [Cond.instanceMethod yX8_setVariable, Cond.selects RX8 yX8_setVariable yX8_setVariable, Cond.code yX8_setVariable cX8_setVariable 4 (some .boolean), Cond.code yX8_setProperty cX8_setProperty 6 (some (.object "PhraseDesk$Value")), Cond.methodLink RX8 207 yX8_setField, Cond.instanceMethod yX8_setField, Cond.selects RX8 yX8_setField yX8_setField, Cond.code yX8_setField cX8_setField 6 (some (.object "PhraseDesk$Value")), Cond.fieldLink RX8 217 "PhraseDesk$Field" "type" "I", Cond.methodLink RX8 211 yX1_nearestField, Cond.methodLink RX8 222 yX9_hold, Cond.instanceMethod yX9_hold, Cond.selects RX9 yX9_hold yX9_hold, Cond.code yX9_hold cX9_hold 3 none, Cond.methodLink RL 87 yX12_run, Cond.instanceMethod yX12_run, Cond.selects RX12 yX12_run yX12_run, Cond.code yX12_run cX12_run 7 (some .int), Cond.fieldLink RX12 311 "PhraseDeskModel" "top" "I", Cond.fieldLink RX12 340 "PhraseDeskModel" "failure" "I", Cond.fieldLink RX12 453 "PhraseDeskModel" "root" "I", Cond.methodLink RX12 480 yX12_jumps, Cond.instanceMethod yX12_jumps, Cond.selects RX12 yX12_jumps yX12_jumps]
def wsL_law0_r54 : List Cond := [Cond.code yX12_jumps cX12_jumps 4 (some .boolean), Cond.methodLink RX12 456 yX12_empty, Cond.instanceMethod yX12_empty, Cond.selects RX12 yX12_empty yX12_empty, Cond.code yX12_empty cX12_empty 2 (some .boolean), Cond.methodLink RX12 326 yX12_lengthOf, Cond.instanceMethod yX12_lengthOf, Cond.selects RX12 yX12_lengthOf yX12_lengthOf, Cond.code yX12_lengthOf cX12_lengthOf 2 (some .int), Cond.methodLink RX12 483 yX12_does, Cond.instanceMethod yX12_does, Cond.selects RX12 yX12_does yX12_does, Cond.code yX12_does cX12_does 4 none, Cond.methodLink RX12 459 yX12_loads, Cond.instanceMethod yX12_loads, Cond.selects RX12 yX12_loads yX12_loads, Cond.code yX12_loads cX12_loads 8 none, Cond.constantDouble RX12 447 (4621819117588971520), Cond.constantDouble RX12 449 (4636737291354636288), Cond.constantDouble RX12 451 (4652007308841189376), Cond.methodLink RX12 443 yX12_push, Cond.instanceMethod yX12_push, Cond.selects RX12 yX12_push yX12_push, Cond.code yX12_push cX12_push 4 none]
def wsL_law0_r55 : List Cond := [Cond.methodLink RX12 314 yX12_set, Cond.instanceMethod yX12_set, Cond.selects RX12 yX12_set yX12_set, Cond.code yX12_set cX12_set 7 none, Cond.methodLink RX12 434 yX12_placeOf, Cond.instanceMethod yX12_placeOf, Cond.selects RX12 yX12_placeOf yX12_placeOf, Cond.code yX12_placeOf cX12_placeOf 4 (some .int), Cond.fieldLink RX12 431 "PhraseDeskModel" "variables" "I", Cond.methodLink RX12 401 yX12_copy, Cond.instanceMethod yX12_copy, Cond.selects RX12 yX12_copy yX12_copy, Cond.code yX12_copy cX12_copy 3 none, Cond.methodLink RX12 462 yX12_property, Cond.instanceMethod yX12_property, Cond.selects RX12 yX12_property yX12_property, Cond.code yX12_property cX12_property 5 none, Cond.methodLink RX12 398 yX12_fieldOf, Cond.instanceMethod yX12_fieldOf, Cond.selects RX12 yX12_fieldOf yX12_fieldOf, Cond.code yX12_fieldOf cX12_fieldOf 6 (some .int), Cond.methodLink RX12 465 yX12_calls, Cond.instanceMethod yX12_calls, Cond.selects RX12 yX12_calls yX12_calls]
def wsL_law0_r56 : List Cond := [Cond.code yX12_calls cX12_calls 6 none, Cond.methodLink RX12 421 yX12_found, Cond.instanceMethod yX12_found, Cond.selects RX12 yX12_found yX12_found, Cond.code yX12_found cX12_found 11 (some .int), Cond.methodLink RX12 410 yX12_stands, Cond.instanceMethod yX12_stands, Cond.selects RX12 yX12_stands yX12_stands, Cond.code yX12_stands cX12_stands 9 (some .boolean), Cond.methodLink RX12 404 yX12_paramsOf, Cond.static yX12_paramsOf, Cond.code yX12_paramsOf cX12_paramsOf 2 (some .int), Cond.methodLink RX12 414 yX12_suits, Cond.instanceMethod yX12_suits, Cond.selects RX12 yX12_suits yX12_suits, Cond.code yX12_suits cX12_suits 11 (some .int), Cond.methodLink RX12 365 yX12_fitsType, Cond.instanceMethod yX12_fitsType, Cond.selects RX12 yX12_fitsType yX12_fitsType, Cond.code yX12_fitsType cX12_fitsType 3 (some .boolean), Cond.methodLink RX12 362 yX12_steps, Cond.instanceMethod yX12_steps, Cond.selects RX12 yX12_steps yX12_steps, Cond.code yX12_steps cX12_steps 5 (some .int)]
def wsL_law0_r57 : List Cond := [Cond.methodLink RX12 368 yX12_convertible, Cond.instanceMethod yX12_convertible, Cond.selects RX12 yX12_convertible yX12_convertible, Cond.code yX12_convertible cX12_convertible 5 (some .boolean), Cond.methodLink RX12 407 yX12_weight, Cond.instanceMethod yX12_weight, Cond.selects RX12 yX12_weight yX12_weight, Cond.code yX12_weight cX12_weight 3 (some .int), Cond.methodLink RX12 425 yX12_fit, Cond.instanceMethod yX12_fit, Cond.selects RX12 yX12_fit yX12_fit, Cond.code yX12_fit cX12_fit 3 none, Cond.methodLink RX12 371 yX12_convert, Cond.instanceMethod yX12_convert, Cond.selects RX12 yX12_convert yX12_convert, Cond.code yX12_convert cX12_convert 5 none, Cond.fieldLink RX12 320 "PhraseDeskModel" "builtSize" "I", Cond.methodLink RX12 350 yX12_spell, Cond.instanceMethod yX12_spell, Cond.selects RX12 yX12_spell yX12_spell, Cond.code yX12_spell cX12_spell 3 none, Cond.methodLink RX12 329 yX12_sign8, Cond.instanceMethod yX12_sign8, Cond.selects RX12 yX12_sign8 yX12_sign8]
def wsL_law0_r58 : List Cond := [Cond.code yX12_sign8 cX12_sign8 3 (some .int), Cond.constantLong RX12 318 (127), Cond.methodLink RX12 323 yX12_build, Cond.instanceMethod yX12_build, Cond.selects RX12 yX12_build yX12_build, Cond.code yX12_build cX12_build 2 none, Cond.methodLink RX12 333 yX12_buildNumber, Cond.instanceMethod yX12_buildNumber, Cond.selects RX12 yX12_buildNumber yX12_buildNumber, Cond.code yX12_buildNumber cX12_buildNumber 7 none, Cond.methodLink RX12 336 yX12_buildWord, Cond.instanceMethod yX12_buildWord, Cond.selects RX12 yX12_buildWord yX12_buildWord, Cond.code yX12_buildWord cX12_buildWord 6 none, Cond.methodLink RX12 353 yX12_settle, Cond.instanceMethod yX12_settle, Cond.selects RX12 yX12_settle yX12_settle, Cond.code yX12_settle cX12_settle 7 none, Cond.methodLink RX12 356 yX12_toBool, Cond.instanceMethod yX12_toBool, Cond.selects RX12 yX12_toBool yX12_toBool, Cond.code yX12_toBool cX12_toBool 3 none, Cond.methodLink RX12 346 yX12_spells, Cond.instanceMethod yX12_spells]
def wsL_law0_r59 : List Cond := [Cond.selects RX12 yX12_spells yX12_spells, Cond.code yX12_spells cX12_spells 8 (some .boolean), Cond.methodLink RX12 359 yX12_whole, Cond.instanceMethod yX12_whole, Cond.selects RX12 yX12_whole yX12_whole, Cond.code yX12_whole cX12_whole 2 (some .int), Cond.methodLink RX12 343 yX12_intOf, Cond.instanceMethod yX12_intOf, Cond.selects RX12 yX12_intOf yX12_intOf, Cond.code yX12_intOf cX12_intOf 8 (some .int), Cond.methodLink RX12 428 yX12_act, Cond.instanceMethod yX12_act, Cond.selects RX12 yX12_act yX12_act, Cond.code yX12_act cX12_act 7 none, Cond.methodLink RX12 418 yX12_reckon, Cond.instanceMethod yX12_reckon, Cond.selects RX12 yX12_reckon yX12_reckon, Cond.code yX12_reckon cX12_reckon 5 none, Cond.methodLink RX12 382 yX12_joins, Cond.instanceMethod yX12_joins, Cond.selects RX12 yX12_joins yX12_joins, Cond.code yX12_joins cX12_joins 2 (some .boolean), Cond.methodLink RX12 385 yX12_isNumber, Cond.instanceMethod yX12_isNumber]
def wsL_law0_r60 : List Cond := [Cond.selects RX12 yX12_isNumber yX12_isNumber, Cond.code yX12_isNumber cX12_isNumber 2 (some .boolean), Cond.methodLink RX12 388 yX12_reals, Cond.instanceMethod yX12_reals, Cond.selects RX12 yX12_reals yX12_reals, Cond.code yX12_reals cX12_reals 10 none, Cond.constantDouble RX12 378 (4786511204640096256), Cond.constantDouble RX12 380 (14009883241494872064), Cond.methodLink RX12 374 yX12_realOf, Cond.instanceMethod yX12_realOf, Cond.selects RX12 yX12_realOf yX12_realOf, Cond.code yX12_realOf cX12_realOf 2 (some .double), Cond.methodLink RX12 392 yX12_ints, Cond.instanceMethod yX12_ints, Cond.selects RX12 yX12_ints yX12_ints, Cond.code yX12_ints cX12_ints 7 none, Cond.methodLink RX12 468 yX12_compare, Cond.instanceMethod yX12_compare, Cond.selects RX12 yX12_compare yX12_compare, Cond.code yX12_compare cX12_compare 9 none, Cond.methodLink RX12 395 yX12_alike, Cond.instanceMethod yX12_alike, Cond.selects RX12 yX12_alike yX12_alike, Cond.code yX12_alike cX12_alike 3 (some .boolean)]
def wsL_law0_r61 : List Cond := [Cond.methodLink RX12 471 yX12_unary, Cond.instanceMethod yX12_unary, Cond.selects RX12 yX12_unary yX12_unary, Cond.code yX12_unary cX12_unary 5 none, Cond.methodLink RX12 474 yX12_aim, Cond.instanceMethod yX12_aim, Cond.selects RX12 yX12_aim yX12_aim, Cond.code yX12_aim cX12_aim 3 none, Cond.methodLink RX12 477 yX12_assigns, Cond.instanceMethod yX12_assigns, Cond.selects RX12 yX12_assigns yX12_assigns, Cond.code yX12_assigns cX12_assigns 5 none, Cond.methodLink RX12 437 yX12_placeFor, Cond.instanceMethod yX12_placeFor, Cond.selects RX12 yX12_placeFor yX12_placeFor, Cond.code yX12_placeFor cX12_placeFor 3 (some .int), Cond.methodLink RX12 440 yX12_typeAt, Cond.instanceMethod yX12_typeAt, Cond.selects RX12 yX12_typeAt yX12_typeAt, Cond.code yX12_typeAt cX12_typeAt 3 (some .int), Cond.methodLink RL 88 yL_keep, Cond.static yL_keep, Cond.codeWith yL_keep cL_keep 4 (some .int) [(0, 9, 12, 13), (0, 9, 15, 15)], Cond.methodLink RL 43 yX11_keep]
def wsL_law0_r62 : List Cond := [Cond.instanceMethod yX11_keep, Cond.selects RX11 yX11_keep yX11_keep, Cond.code yX11_keep cX11_keep 2 (some .int), Cond.fieldLink RX11 202 "PhraseDesk$Value" "kind" "I", Cond.methodLink RX11 196 yX8_setVariable, Cond.methodLink RL 90 yX12_keep, Cond.instanceMethod yX12_keep, Cond.selects RX12 yX12_keep yX12_keep, Cond.code yX12_keep cX12_keep 3 (some .int), Cond.methodLink RL 91 yX11_result, Cond.instanceMethod yX11_result, Cond.selects RX11 yX11_result yX11_result, Cond.code yX11_result cX11_result 2 (some .int), Cond.fieldLink RX11 205 "PhraseDesk$Value" "number" "I", Cond.constantDouble RX11 208 (4652007308841189376), Cond.fieldLink RX11 210 "PhraseDesk$Value" "real" "D", Cond.methodLink RL 94 yX12_result, Cond.instanceMethod yX12_result, Cond.selects RX12 yX12_result yX12_result, Cond.code yX12_result cX12_result 3 (some .int), Cond.methodLink RL 95 yX11_text, Cond.instanceMethod yX11_text, Cond.selects RX11 yX11_text yX11_text, Cond.code yX11_text cX11_text 2 (some .int)]
def wsL_law0_r63 : List Cond := [Cond.fieldLink RX11 214 "PhraseDesk$Value" "chars" "Ljava/lang/String;", Cond.methodLink RX11 218 yJ0_length_8abf5, Cond.methodLink RX11 223 yJ0_charAt_5068e, Cond.methodLink RL 98 yX12_text, Cond.instanceMethod yX12_text, Cond.selects RX12 yX12_text yX12_text, Cond.code yX12_text cX12_text 2 (some .int), Cond.methodLink RL 99 yL_put, Cond.static yL_put, Cond.codeWith yL_put cL_put 5 (some .int) [(0, 10, 13, 13)], Cond.methodLink RL 46 yX11_put, Cond.instanceMethod yX11_put, Cond.selects RX11 yX11_put yX11_put, Cond.code yX11_put cX11_put 4 (some .int), Cond.methodLink RL 101 yX12_put, Cond.instanceMethod yX12_put, Cond.selects RX12 yX12_put yX12_put, Cond.code yX12_put cX12_put 4 (some .int), Cond.methodLink RL 102 yX11_about, Cond.instanceMethod yX11_about, Cond.selects RX11 yX11_about yX11_about, Cond.code yX11_about cX11_about 2 (some .int), Cond.fieldLink RX11 233 "PhraseDesk$Runner" "variableCount" "I", Cond.methodLink RL 105 yX12_about]
def wsL_law0_r64 : List Cond := [Cond.instanceMethod yX12_about, Cond.selects RX12 yX12_about yX12_about, Cond.code yX12_about cX12_about 2 (some .int)]
def wsL_law0 : List Cond := (wsL_law0_r1 ++ (wsL_law0_r2 ++ (wsL_law0_r3 ++ (wsL_law0_r4 ++ (wsL_law0_r5 ++ (wsL_law0_r6 ++ (wsL_law0_r7 ++ (wsL_law0_r8 ++ (wsL_law0_r9 ++ (wsL_law0_r10 ++ (wsL_law0_r11 ++ (wsL_law0_r12 ++ (wsL_law0_r13 ++ (wsL_law0_r14 ++ (wsL_law0_r15 ++ (wsL_law0_r16 ++ (wsL_law0_r17 ++ (wsL_law0_r18 ++ (wsL_law0_r19 ++ (wsL_law0_r20 ++ (wsL_law0_r21 ++ (wsL_law0_r22 ++ (wsL_law0_r23 ++ (wsL_law0_r24 ++ (wsL_law0_r25 ++ (wsL_law0_r26 ++ (wsL_law0_r27 ++ (wsL_law0_r28 ++ (wsL_law0_r29 ++ (wsL_law0_r30 ++ (wsL_law0_r31 ++ (wsL_law0_r32 ++ (wsL_law0_r33 ++ (wsL_law0_r34 ++ (wsL_law0_r35 ++ (wsL_law0_r36 ++ (wsL_law0_r37 ++ (wsL_law0_r38 ++ (wsL_law0_r39 ++ (wsL_law0_r40 ++ (wsL_law0_r41 ++ (wsL_law0_r42 ++ (wsL_law0_r43 ++ (wsL_law0_r44 ++ (wsL_law0_r45 ++ (wsL_law0_r46 ++ (wsL_law0_r47 ++ (wsL_law0_r48 ++ (wsL_law0_r49 ++ (wsL_law0_r50 ++ (wsL_law0_r51 ++ (wsL_law0_r52 ++ (wsL_law0_r53 ++ (wsL_law0_r54 ++ (wsL_law0_r55 ++ (wsL_law0_r56 ++ (wsL_law0_r57 ++ (wsL_law0_r58 ++ (wsL_law0_r59 ++ (wsL_law0_r60 ++ (wsL_law0_r61 ++ (wsL_law0_r62 ++ (wsL_law0_r63 ++ wsL_law0_r64))))))))))))))))))))))))))))))))))))))))))))))))))))))))))))))) ++ wsX110 ++ wsX120 ++ wsX60 ++ wsX80 ++ wsX40 ++ wsJ40 ++ wsX00 ++ wsX30 ++ wsX100 ++ wsJ00 ++ wsX50 ++ wsX10 ++ wsX20 ++ wsX70 ++ wsX90 ++ ([] : List Cond)
def wsL_law : List Cond := wsL_law0 ++ (vx_atS RX11 53 "java/lang/IllegalArgumentException" ["java/lang/RuntimeException", "java/lang/Exception"]).filter goodWord ++ (vx_atS RX11 70 "java/lang/IllegalStateException" ["java/lang/RuntimeException", "java/lang/Exception"]).filter goodWord
set_option maxRecDepth 20000 in
theorem wsL_law_in0 : ∀ w ∈ wsL_law0, w ∈ lw_tbl := fun w h => (goodIn_p wsL_law0 [173, 176, 181, 187, 195, 198, 204, 207, 273, 277, 283, 320, 336, 1474, 483, 569, 1666, 1662, 576, 581, 585, 589, 593, 596, 600, 604, 608, 611, 615, 621, 624, 628, 632, 636, 639, 643, 647, 650, 653, 657, 661, 671, 679, 682, 685, 688, 842, 847, 850, 853, 732, 735, 738, 741, 460, 744, 747, 718, 856, 457, 446, 451, 804, 806, 784, 789, 792, 798, 810, 813, 816, 821, 824, 464, 828, 861, 427, 431, 866, 869, 872, 876, 880, 884, 888, 900, 904, 908, 1002, 928, 978, 912, 1009, 916, 920, 923, 967, 971, 974, 892, 1005, 993, 996, 999, 982, 985, 989, 896, 1013, 1670, 1674, 1678, 1682, 1686, 1692, 1696, 1700, 1704, 1710, 1714, 1717, 1721, 1725, 1729, 1733, 1737, 1741, 1745, 1752, 1756, 1760, 1765, 1769, 1773, 1777, 1781, 1785, 1789, 1793, 1797, 1801, 1804, 1020, 1024, 1030, 1808, 1812, 1071, 1074, 1079, 1084, 1089, 1093, 1816, 1819, 1824, 1114, 1118, 1125, 1158, 1828, 1165, 1172, 1191, 1832, 1198, 1203, 1207, 1836, 1214, 1218, 1223, 1227, 1231, 1235, 1240, 1246, 1250, 1388, 1392, 1396, 1255, 1259, 1263, 1267, 1271, 1275, 1279, 1283, 1287, 1291, 1295, 1299, 1303, 1308, 1312, 1318, 1321, 1326, 1330, 1335, 436, 440, 443, 454, 1343, 757, 760, 763, 766, 773, 709, 712, 715, 776, 1353, 1357, 1360, 1364, 1368, 1372, 1376, 1383, 696, 699, 703, 706, 723, 727, 751, 1409, 1405, 1442, 1445, 1450, 1401, 1413, 1417, 1421, 1438, 1425, 1429, 1434, 1840, 1844, 1848, 1852, 1856, 1860, 1864, 1868, 1875, 1879, 1883, 1887, 1891, 1895, 1899, 1902, 1906, 1910, 1914, 1918, 1922, 1926, 1930, 1934, 1938, 1943, 1947, 1951, 1955, 1959, 1963, 1967, 1971, 1975, 1979, 1983, 1987, 1991, 1995, 2001, 2005, 2009, 2013, 2017, 2021, 2025, 2029, 1457, 2033, 418, 2041, 423, 2045, 1467, 2037, 474, 2049] (by decide +kernel) (by decide +kernel) w h).1
theorem wsL_law_x0 : ∀ w ∈ (vx_atS RX11 53 "java/lang/IllegalArgumentException" ["java/lang/RuntimeException", "java/lang/Exception"]).filter goodWord, w ∈ lw_tbl := by decide +kernel
theorem wsL_law_x1 : ∀ w ∈ (vx_atS RX11 70 "java/lang/IllegalStateException" ["java/lang/RuntimeException", "java/lang/Exception"]).filter goodWord, w ∈ lw_tbl := by decide +kernel
theorem wsL_law_in : ∀ w ∈ wsL_law, w ∈ lw_tbl := fun w h => (List.mem_append.mp h).elim (fun h => (List.mem_append.mp h).elim (fun h => wsL_law_in0 w h) (fun h => wsL_law_x0 w h)) (fun h => wsL_law_x1 w h)
set_option maxRecDepth 20000 in
theorem ggX0_init_J4_init_da8c8 : GoodIn wsX0_init wsJ4_init_da8c8 := goodIn_r _ [12, 13, 14, 15, 16, 17, 2, 3, 18, 19, 20, 21, 22, 23, 24, 25, 26, 27, 28, 29, 32, 33, 34, 35] (by decide +kernel) (by decide +kernel)
set_option maxRecDepth 20000 in
theorem gX0_init_J4_init_da8c8 : GoodIn wsX0_init (wsJ4_init_da8c8) := ggX0_init_J4_init_da8c8
theorem dX0_init_0 : decode cX0_init 0 = .ok (.aload_n 0, 1) := by decide +kernel
theorem dX0_init_1 : decode cX0_init 1 = .ok (.invokespecial 3, 3) := by decide +kernel
theorem dX0_init_4 : decode cX0_init 4 = .ok (.aload_n 0, 1) := by decide +kernel
theorem dX0_init_5 : decode cX0_init 5 = .ok (.bipush 65, 2) := by decide +kernel
theorem dX0_init_7 : decode cX0_init 7 = .ok (.newarray .boolean, 2) := by decide +kernel
theorem dX0_init_9 : decode cX0_init 9 = .ok (.putfield 11, 3) := by decide +kernel
theorem dX0_init_12 : decode cX0_init 12 = .ok (.aload_n 0, 1) := by decide +kernel
theorem dX0_init_13 : decode cX0_init 13 = .ok (.new 15, 3) := by decide +kernel
theorem dX0_init_16 : decode cX0_init 16 = .ok (.dup, 1) := by decide +kernel
theorem dX0_init_17 : decode cX0_init 17 = .ok (.invokespecial 17, 3) := by decide +kernel
theorem dX0_init_20 : decode cX0_init 20 = .ok (.putfield 18, 3) := by decide +kernel
theorem dX0_init_23 : decode cX0_init 23 = .ok (.return_, 1) := by decide +kernel
set_option maxRecDepth 20000 in
theorem ggX0_change_X0_isThere : GoodIn wsX0_change wsX0_isThere := goodIn_r _ [6, 1, 7, 8] (by decide +kernel) (by decide +kernel)
set_option maxRecDepth 20000 in
theorem gX0_change_X0_isThere : GoodIn wsX0_change (wsV RX0 22 RX0 yX0_isThere wsX0_isThere) := goodIn_app (goodIn_of _ (by decide +kernel)) ggX0_change_X0_isThere
theorem dX0_change_0 : decode cX0_change 0 = .ok (.aload_n 0, 1) := by decide +kernel
theorem dX0_change_1 : decode cX0_change 1 = .ok (.iload_n 1, 1) := by decide +kernel
theorem dX0_change_2 : decode cX0_change 2 = .ok (.iload_n 2, 1) := by decide +kernel
theorem dX0_change_3 : decode cX0_change 3 = .ok (.invokevirtual 22, 3) := by decide +kernel
theorem dX0_change_6 : decode cX0_change 6 = .ok (.istore 4, 2) := by decide +kernel
theorem dX0_change_8 : decode cX0_change 8 = .ok (.iload_n 1, 1) := by decide +kernel
theorem dX0_change_9 : decode cX0_change 9 = .ok (.iconst 5, 1) := by decide +kernel
theorem dX0_change_10 : decode cX0_change 10 = .ok (.imul, 1) := by decide +kernel
theorem dX0_change_11 : decode cX0_change 11 = .ok (.iload_n 2, 1) := by decide +kernel
theorem dX0_change_12 : decode cX0_change 12 = .ok (.iadd, 1) := by decide +kernel
theorem dX0_change_13 : decode cX0_change 13 = .ok (.istore 5, 2) := by decide +kernel
theorem dX0_change_15 : decode cX0_change 15 = .ok (.iload 5, 2) := by decide +kernel
theorem dX0_change_17 : decode cX0_change 17 = .ok (.ifCond .lt 21, 3) := by decide +kernel
theorem dX0_change_20 : decode cX0_change 20 = .ok (.iload 5, 2) := by decide +kernel
theorem dX0_change_22 : decode cX0_change 22 = .ok (.aload_n 0, 1) := by decide +kernel
theorem dX0_change_23 : decode cX0_change 23 = .ok (.getfield 11, 3) := by decide +kernel
theorem dX0_change_26 : decode cX0_change 26 = .ok (.arraylength, 1) := by decide +kernel
theorem dX0_change_27 : decode cX0_change 27 = .ok (.if_icmp .ge 11, 3) := by decide +kernel
theorem dX0_change_30 : decode cX0_change 30 = .ok (.aload_n 0, 1) := by decide +kernel
theorem dX0_change_31 : decode cX0_change 31 = .ok (.getfield 11, 3) := by decide +kernel
theorem dX0_change_34 : decode cX0_change 34 = .ok (.iload 5, 2) := by decide +kernel
theorem dX0_change_36 : decode cX0_change 36 = .ok (.iload_n 3, 1) := by decide +kernel
theorem dX0_change_37 : decode cX0_change 37 = .ok (.bastore, 1) := by decide +kernel
theorem dX0_change_38 : decode cX0_change 38 = .ok (.iload 4, 2) := by decide +kernel
theorem dX0_change_40 : decode cX0_change 40 = .ok (.ireturn, 1) := by decide +kernel
theorem dX0_isThere_0 : decode cX0_isThere 0 = .ok (.iload_n 1, 1) := by decide +kernel
theorem dX0_isThere_1 : decode cX0_isThere 1 = .ok (.iconst 5, 1) := by decide +kernel
theorem dX0_isThere_2 : decode cX0_isThere 2 = .ok (.imul, 1) := by decide +kernel
theorem dX0_isThere_3 : decode cX0_isThere 3 = .ok (.iload_n 2, 1) := by decide +kernel
theorem dX0_isThere_4 : decode cX0_isThere 4 = .ok (.iadd, 1) := by decide +kernel
theorem dX0_isThere_5 : decode cX0_isThere 5 = .ok (.istore_n 3, 1) := by decide +kernel
theorem dX0_isThere_6 : decode cX0_isThere 6 = .ok (.iload_n 2, 1) := by decide +kernel
theorem dX0_isThere_7 : decode cX0_isThere 7 = .ok (.iconst 1, 1) := by decide +kernel
theorem dX0_isThere_8 : decode cX0_isThere 8 = .ok (.if_icmp .lt 34, 3) := by decide +kernel
theorem dX0_isThere_11 : decode cX0_isThere 11 = .ok (.iload_n 2, 1) := by decide +kernel
theorem dX0_isThere_12 : decode cX0_isThere 12 = .ok (.iconst 4, 1) := by decide +kernel
theorem dX0_isThere_13 : decode cX0_isThere 13 = .ok (.if_icmp .gt 29, 3) := by decide +kernel
theorem dX0_isThere_16 : decode cX0_isThere 16 = .ok (.iload_n 3, 1) := by decide +kernel
theorem dX0_isThere_17 : decode cX0_isThere 17 = .ok (.ifCond .lt 25, 3) := by decide +kernel
theorem dX0_isThere_20 : decode cX0_isThere 20 = .ok (.iload_n 3, 1) := by decide +kernel
theorem dX0_isThere_21 : decode cX0_isThere 21 = .ok (.aload_n 0, 1) := by decide +kernel
theorem dX0_isThere_22 : decode cX0_isThere 22 = .ok (.getfield 11, 3) := by decide +kernel
theorem dX0_isThere_25 : decode cX0_isThere 25 = .ok (.arraylength, 1) := by decide +kernel
theorem dX0_isThere_26 : decode cX0_isThere 26 = .ok (.if_icmp .ge 16, 3) := by decide +kernel
theorem dX0_isThere_29 : decode cX0_isThere 29 = .ok (.aload_n 0, 1) := by decide +kernel
theorem dX0_isThere_30 : decode cX0_isThere 30 = .ok (.getfield 11, 3) := by decide +kernel
theorem dX0_isThere_33 : decode cX0_isThere 33 = .ok (.iload_n 3, 1) := by decide +kernel
theorem dX0_isThere_34 : decode cX0_isThere 34 = .ok (.baload, 1) := by decide +kernel
theorem dX0_isThere_35 : decode cX0_isThere 35 = .ok (.ifCond .eq 7, 3) := by decide +kernel
theorem dX0_isThere_42 : decode cX0_isThere 42 = .ok (.iconst 0, 1) := by decide +kernel
theorem dX0_isThere_43 : decode cX0_isThere 43 = .ok (.ireturn, 1) := by decide +kernel
theorem dX1_init_0 : decode cX1_init 0 = .ok (.aload_n 0, 1) := by decide +kernel
theorem dX1_init_1 : decode cX1_init 1 = .ok (.invokespecial 3, 3) := by decide +kernel
theorem dX1_init_4 : decode cX1_init 4 = .ok (.aload_n 0, 1) := by decide +kernel
theorem dX1_init_5 : decode cX1_init 5 = .ok (.iload_n 1, 1) := by decide +kernel
theorem dX1_init_6 : decode cX1_init 6 = .ok (.putfield 9, 3) := by decide +kernel
theorem dX1_init_9 : decode cX1_init 9 = .ok (.aload_n 0, 1) := by decide +kernel
theorem dX1_init_10 : decode cX1_init 10 = .ok (.bipush 8, 2) := by decide +kernel
theorem dX1_init_12 : decode cX1_init 12 = .ok (.iload_n 1, 1) := by decide +kernel
theorem dX1_init_13 : decode cX1_init 13 = .ok (.iadd, 1) := by decide +kernel
theorem dX1_init_14 : decode cX1_init 14 = .ok (.putfield 15, 3) := by decide +kernel
theorem dX1_init_17 : decode cX1_init 17 = .ok (.aload_n 0, 1) := by decide +kernel
theorem dX1_init_18 : decode cX1_init 18 = .ok (.aload_n 2, 1) := by decide +kernel
theorem dX1_init_19 : decode cX1_init 19 = .ok (.putfield 18, 3) := by decide +kernel
theorem dX1_init_22 : decode cX1_init 22 = .ok (.aload_n 0, 1) := by decide +kernel
theorem dX1_init_23 : decode cX1_init 23 = .ok (.bipush 6, 2) := by decide +kernel
theorem dX1_init_25 : decode cX1_init 25 = .ok (.anewarray 22, 3) := by decide +kernel
theorem dX1_init_28 : decode cX1_init 28 = .ok (.putfield 24, 3) := by decide +kernel
theorem dX1_init_31 : decode cX1_init 31 = .ok (.aload_n 0, 1) := by decide +kernel
theorem dX1_init_32 : decode cX1_init 32 = .ok (.bipush 6, 2) := by decide +kernel
theorem dX1_init_34 : decode cX1_init 34 = .ok (.anewarray 28, 3) := by decide +kernel
theorem dX1_init_37 : decode cX1_init 37 = .ok (.putfield 30, 3) := by decide +kernel
theorem dX1_init_40 : decode cX1_init 40 = .ok (.return_, 1) := by decide +kernel
theorem dX3_init_0 : decode cX3_init 0 = .ok (.aload_n 0, 1) := by decide +kernel
theorem dX3_init_1 : decode cX3_init 1 = .ok (.invokespecial 3, 3) := by decide +kernel
theorem dX3_init_4 : decode cX3_init 4 = .ok (.aload_n 0, 1) := by decide +kernel
theorem dX3_init_5 : decode cX3_init 5 = .ok (.bipush 30, 2) := by decide +kernel
theorem dX3_init_7 : decode cX3_init 7 = .ok (.anewarray 9, 3) := by decide +kernel
theorem dX3_init_10 : decode cX3_init 10 = .ok (.putfield 11, 3) := by decide +kernel
theorem dX3_init_13 : decode cX3_init 13 = .ok (.return_, 1) := by decide +kernel
set_option maxRecDepth 20000 in
theorem ggX4_init_J4_init_da8c8 : GoodIn wsX4_init wsJ4_init_da8c8 := goodIn_r _ [18, 19, 20, 21, 22, 23, 2, 3, 24, 25, 26, 27, 28, 29, 30, 31, 32, 33, 34, 35, 44, 45, 46, 47] (by decide +kernel) (by decide +kernel)
set_option maxRecDepth 20000 in
theorem gX4_init_J4_init_da8c8 : GoodIn wsX4_init (wsJ4_init_da8c8) := ggX4_init_J4_init_da8c8
theorem dX4_init_0 : decode cX4_init 0 = .ok (.aload_n 0, 1) := by decide +kernel
theorem dX4_init_1 : decode cX4_init 1 = .ok (.invokespecial 3, 3) := by decide +kernel
theorem dX4_init_4 : decode cX4_init 4 = .ok (.aload_n 0, 1) := by decide +kernel
theorem dX4_init_5 : decode cX4_init 5 = .ok (.bipush 40, 2) := by decide +kernel
theorem dX4_init_7 : decode cX4_init 7 = .ok (.newarray .char, 2) := by decide +kernel
theorem dX4_init_9 : decode cX4_init 9 = .ok (.putfield 9, 3) := by decide +kernel
theorem dX4_init_12 : decode cX4_init 12 = .ok (.aload_n 0, 1) := by decide +kernel
theorem dX4_init_13 : decode cX4_init 13 = .ok (.bipush 41, 2) := by decide +kernel
theorem dX4_init_15 : decode cX4_init 15 = .ok (.newarray .int, 2) := by decide +kernel
theorem dX4_init_17 : decode cX4_init 17 = .ok (.putfield 15, 3) := by decide +kernel
theorem dX4_init_20 : decode cX4_init 20 = .ok (.aload_n 0, 1) := by decide +kernel
theorem dX4_init_21 : decode cX4_init 21 = .ok (.bipush 41, 2) := by decide +kernel
theorem dX4_init_23 : decode cX4_init 23 = .ok (.newarray .int, 2) := by decide +kernel
theorem dX4_init_25 : decode cX4_init 25 = .ok (.putfield 19, 3) := by decide +kernel
theorem dX4_init_28 : decode cX4_init 28 = .ok (.aload_n 0, 1) := by decide +kernel
theorem dX4_init_29 : decode cX4_init 29 = .ok (.bipush 41, 2) := by decide +kernel
theorem dX4_init_31 : decode cX4_init 31 = .ok (.newarray .int, 2) := by decide +kernel
theorem dX4_init_33 : decode cX4_init 33 = .ok (.putfield 22, 3) := by decide +kernel
theorem dX4_init_36 : decode cX4_init 36 = .ok (.aload_n 0, 1) := by decide +kernel
theorem dX4_init_37 : decode cX4_init 37 = .ok (.bipush 41, 2) := by decide +kernel
theorem dX4_init_39 : decode cX4_init 39 = .ok (.anewarray 25, 3) := by decide +kernel
theorem dX4_init_42 : decode cX4_init 42 = .ok (.putfield 27, 3) := by decide +kernel
theorem dX4_init_45 : decode cX4_init 45 = .ok (.aload_n 0, 1) := by decide +kernel
theorem dX4_init_46 : decode cX4_init 46 = .ok (.new 31, 3) := by decide +kernel
theorem dX4_init_49 : decode cX4_init 49 = .ok (.dup, 1) := by decide +kernel
theorem dX4_init_50 : decode cX4_init 50 = .ok (.invokespecial 33, 3) := by decide +kernel
theorem dX4_init_53 : decode cX4_init 53 = .ok (.putfield 34, 3) := by decide +kernel
theorem dX4_init_56 : decode cX4_init 56 = .ok (.return_, 1) := by decide +kernel
theorem dX4_append_0 : decode cX4_append 0 = .ok (.aload_n 0, 1) := by decide +kernel
theorem dX4_append_1 : decode cX4_append 1 = .ok (.getfield 38, 3) := by decide +kernel
theorem dX4_append_4 : decode cX4_append 4 = .ok (.aload_n 0, 1) := by decide +kernel
theorem dX4_append_5 : decode cX4_append 5 = .ok (.getfield 9, 3) := by decide +kernel
theorem dX4_append_8 : decode cX4_append 8 = .ok (.arraylength, 1) := by decide +kernel
theorem dX4_append_9 : decode cX4_append 9 = .ok (.if_icmp .ge 23, 3) := by decide +kernel
theorem dX4_append_12 : decode cX4_append 12 = .ok (.aload_n 0, 1) := by decide +kernel
theorem dX4_append_13 : decode cX4_append 13 = .ok (.getfield 9, 3) := by decide +kernel
theorem dX4_append_16 : decode cX4_append 16 = .ok (.aload_n 0, 1) := by decide +kernel
theorem dX4_append_17 : decode cX4_append 17 = .ok (.getfield 38, 3) := by decide +kernel
theorem dX4_append_20 : decode cX4_append 20 = .ok (.iload_n 1, 1) := by decide +kernel
theorem dX4_append_21 : decode cX4_append 21 = .ok (.castore, 1) := by decide +kernel
theorem dX4_append_22 : decode cX4_append 22 = .ok (.aload_n 0, 1) := by decide +kernel
theorem dX4_append_23 : decode cX4_append 23 = .ok (.dup, 1) := by decide +kernel
theorem dX4_append_24 : decode cX4_append 24 = .ok (.getfield 38, 3) := by decide +kernel
theorem dX4_append_27 : decode cX4_append 27 = .ok (.iconst 1, 1) := by decide +kernel
theorem dX4_append_28 : decode cX4_append 28 = .ok (.iadd, 1) := by decide +kernel
theorem dX4_append_29 : decode cX4_append 29 = .ok (.putfield 38, 3) := by decide +kernel
theorem dX4_append_32 : decode cX4_append 32 = .ok (.return_, 1) := by decide +kernel
theorem dX4_kindAt_0 : decode cX4_kindAt 0 = .ok (.iload_n 1, 1) := by decide +kernel
theorem dX4_kindAt_1 : decode cX4_kindAt 1 = .ok (.ifCond .lt 29, 3) := by decide +kernel
theorem dX4_kindAt_4 : decode cX4_kindAt 4 = .ok (.iload_n 1, 1) := by decide +kernel
theorem dX4_kindAt_5 : decode cX4_kindAt 5 = .ok (.aload_n 0, 1) := by decide +kernel
theorem dX4_kindAt_6 : decode cX4_kindAt 6 = .ok (.getfield 42, 3) := by decide +kernel
theorem dX4_kindAt_9 : decode cX4_kindAt 9 = .ok (.if_icmp .ge 21, 3) := by decide +kernel
theorem dX4_kindAt_12 : decode cX4_kindAt 12 = .ok (.iload_n 1, 1) := by decide +kernel
theorem dX4_kindAt_13 : decode cX4_kindAt 13 = .ok (.aload_n 0, 1) := by decide +kernel
theorem dX4_kindAt_14 : decode cX4_kindAt 14 = .ok (.getfield 15, 3) := by decide +kernel
theorem dX4_kindAt_17 : decode cX4_kindAt 17 = .ok (.arraylength, 1) := by decide +kernel
theorem dX4_kindAt_18 : decode cX4_kindAt 18 = .ok (.if_icmp .ge 12, 3) := by decide +kernel
theorem dX4_kindAt_21 : decode cX4_kindAt 21 = .ok (.aload_n 0, 1) := by decide +kernel
theorem dX4_kindAt_22 : decode cX4_kindAt 22 = .ok (.getfield 15, 3) := by decide +kernel
theorem dX4_kindAt_25 : decode cX4_kindAt 25 = .ok (.iload_n 1, 1) := by decide +kernel
theorem dX4_kindAt_26 : decode cX4_kindAt 26 = .ok (.iaload, 1) := by decide +kernel
theorem dX4_kindAt_27 : decode cX4_kindAt 27 = .ok (.goto 4, 3) := by decide +kernel
theorem dX4_kindAt_31 : decode cX4_kindAt 31 = .ok (.ireturn, 1) := by decide +kernel
theorem dX4_placeAt_0 : decode cX4_placeAt 0 = .ok (.iload_n 1, 1) := by decide +kernel
theorem dX4_placeAt_1 : decode cX4_placeAt 1 = .ok (.ifCond .lt 29, 3) := by decide +kernel
theorem dX4_placeAt_4 : decode cX4_placeAt 4 = .ok (.iload_n 1, 1) := by decide +kernel
theorem dX4_placeAt_5 : decode cX4_placeAt 5 = .ok (.aload_n 0, 1) := by decide +kernel
theorem dX4_placeAt_6 : decode cX4_placeAt 6 = .ok (.getfield 42, 3) := by decide +kernel
theorem dX4_placeAt_9 : decode cX4_placeAt 9 = .ok (.if_icmp .ge 21, 3) := by decide +kernel
theorem dX4_placeAt_12 : decode cX4_placeAt 12 = .ok (.iload_n 1, 1) := by decide +kernel
theorem dX4_placeAt_13 : decode cX4_placeAt 13 = .ok (.aload_n 0, 1) := by decide +kernel
theorem dX4_placeAt_14 : decode cX4_placeAt 14 = .ok (.getfield 19, 3) := by decide +kernel
theorem dX4_placeAt_17 : decode cX4_placeAt 17 = .ok (.arraylength, 1) := by decide +kernel
theorem dX4_placeAt_18 : decode cX4_placeAt 18 = .ok (.if_icmp .ge 12, 3) := by decide +kernel
theorem dX4_placeAt_21 : decode cX4_placeAt 21 = .ok (.aload_n 0, 1) := by decide +kernel
theorem dX4_placeAt_22 : decode cX4_placeAt 22 = .ok (.getfield 19, 3) := by decide +kernel
theorem dX4_placeAt_25 : decode cX4_placeAt 25 = .ok (.iload_n 1, 1) := by decide +kernel
theorem dX4_placeAt_26 : decode cX4_placeAt 26 = .ok (.iaload, 1) := by decide +kernel
theorem dX4_placeAt_27 : decode cX4_placeAt 27 = .ok (.goto 4, 3) := by decide +kernel
theorem dX4_placeAt_31 : decode cX4_placeAt 31 = .ok (.ireturn, 1) := by decide +kernel
set_option maxRecDepth 20000 in
theorem ggX4_cut_X4_add : GoodIn wsX4_cut wsX4_add := goodIn_r _ [51, 1, 52, 53, 54, 55, 289, 290, 291, 292, 293, 294, 295, 296] (by decide +kernel) (by decide +kernel)
set_option maxRecDepth 20000 in
theorem gX4_cut_X4_add : GoodIn wsX4_cut (wsV RX4 53 RX4 yX4_add wsX4_add) := goodIn_app (goodIn_of _ (by decide +kernel)) ggX4_cut_X4_add
theorem dX4_cut_0 : decode cX4_cut 0 = .ok (.aload_n 0, 1) := by decide +kernel
theorem dX4_cut_1 : decode cX4_cut 1 = .ok (.iconst 0, 1) := by decide +kernel
theorem dX4_cut_2 : decode cX4_cut 2 = .ok (.putfield 42, 3) := by decide +kernel
theorem dX4_cut_5 : decode cX4_cut 5 = .ok (.iconst 0, 1) := by decide +kernel
theorem dX4_cut_6 : decode cX4_cut 6 = .ok (.istore_n 1, 1) := by decide +kernel
theorem dX4_cut_7 : decode cX4_cut 7 = .ok (.iload_n 1, 1) := by decide +kernel
theorem dX4_cut_8 : decode cX4_cut 8 = .ok (.aload_n 0, 1) := by decide +kernel
theorem dX4_cut_9 : decode cX4_cut 9 = .ok (.getfield 38, 3) := by decide +kernel
theorem dX4_cut_12 : decode cX4_cut 12 = .ok (.if_icmp .ge 37, 3) := by decide +kernel
theorem dX4_cut_49 : decode cX4_cut 49 = .ok (.aload_n 0, 1) := by decide +kernel
theorem dX4_cut_50 : decode cX4_cut 50 = .ok (.iconst 0, 1) := by decide +kernel
theorem dX4_cut_51 : decode cX4_cut 51 = .ok (.aload_n 0, 1) := by decide +kernel
theorem dX4_cut_52 : decode cX4_cut 52 = .ok (.getfield 38, 3) := by decide +kernel
theorem dX4_cut_55 : decode cX4_cut 55 = .ok (.iconst 0, 1) := by decide +kernel
theorem dX4_cut_56 : decode cX4_cut 56 = .ok (.aconst_null, 1) := by decide +kernel
theorem dX4_cut_57 : decode cX4_cut 57 = .ok (.invokevirtual 53, 3) := by decide +kernel
theorem dX4_cut_60 : decode cX4_cut 60 = .ok (.iconst (-1), 1) := by decide +kernel
theorem dX4_cut_61 : decode cX4_cut 61 = .ok (.ireturn, 1) := by decide +kernel
theorem dX4_add_0 : decode cX4_add 0 = .ok (.aload_n 0, 1) := by decide +kernel
theorem dX4_add_1 : decode cX4_add 1 = .ok (.getfield 42, 3) := by decide +kernel
theorem dX4_add_4 : decode cX4_add 4 = .ok (.aload_n 0, 1) := by decide +kernel
theorem dX4_add_5 : decode cX4_add 5 = .ok (.getfield 15, 3) := by decide +kernel
theorem dX4_add_8 : decode cX4_add 8 = .ok (.arraylength, 1) := by decide +kernel
theorem dX4_add_9 : decode cX4_add 9 = .ok (.if_icmp .ge 90, 3) := by decide +kernel
theorem dX4_add_12 : decode cX4_add 12 = .ok (.aload_n 0, 1) := by decide +kernel
theorem dX4_add_13 : decode cX4_add 13 = .ok (.getfield 42, 3) := by decide +kernel
theorem dX4_add_16 : decode cX4_add 16 = .ok (.aload_n 0, 1) := by decide +kernel
theorem dX4_add_17 : decode cX4_add 17 = .ok (.getfield 19, 3) := by decide +kernel
theorem dX4_add_20 : decode cX4_add 20 = .ok (.arraylength, 1) := by decide +kernel
theorem dX4_add_21 : decode cX4_add 21 = .ok (.if_icmp .ge 78, 3) := by decide +kernel
theorem dX4_add_24 : decode cX4_add 24 = .ok (.aload_n 0, 1) := by decide +kernel
theorem dX4_add_25 : decode cX4_add 25 = .ok (.getfield 42, 3) := by decide +kernel
theorem dX4_add_28 : decode cX4_add 28 = .ok (.aload_n 0, 1) := by decide +kernel
theorem dX4_add_29 : decode cX4_add 29 = .ok (.getfield 22, 3) := by decide +kernel
theorem dX4_add_32 : decode cX4_add 32 = .ok (.arraylength, 1) := by decide +kernel
theorem dX4_add_33 : decode cX4_add 33 = .ok (.if_icmp .ge 66, 3) := by decide +kernel
theorem dX4_add_36 : decode cX4_add 36 = .ok (.aload_n 0, 1) := by decide +kernel
theorem dX4_add_37 : decode cX4_add 37 = .ok (.getfield 42, 3) := by decide +kernel
theorem dX4_add_40 : decode cX4_add 40 = .ok (.aload_n 0, 1) := by decide +kernel
theorem dX4_add_41 : decode cX4_add 41 = .ok (.getfield 27, 3) := by decide +kernel
theorem dX4_add_44 : decode cX4_add 44 = .ok (.arraylength, 1) := by decide +kernel
theorem dX4_add_45 : decode cX4_add 45 = .ok (.if_icmp .ge 54, 3) := by decide +kernel
theorem dX4_add_48 : decode cX4_add 48 = .ok (.aload_n 0, 1) := by decide +kernel
theorem dX4_add_49 : decode cX4_add 49 = .ok (.getfield 15, 3) := by decide +kernel
theorem dX4_add_52 : decode cX4_add 52 = .ok (.aload_n 0, 1) := by decide +kernel
theorem dX4_add_53 : decode cX4_add 53 = .ok (.getfield 42, 3) := by decide +kernel
theorem dX4_add_56 : decode cX4_add 56 = .ok (.iload_n 1, 1) := by decide +kernel
theorem dX4_add_57 : decode cX4_add 57 = .ok (.iastore, 1) := by decide +kernel
theorem dX4_add_58 : decode cX4_add 58 = .ok (.aload_n 0, 1) := by decide +kernel
theorem dX4_add_59 : decode cX4_add 59 = .ok (.getfield 19, 3) := by decide +kernel
theorem dX4_add_62 : decode cX4_add 62 = .ok (.aload_n 0, 1) := by decide +kernel
theorem dX4_add_63 : decode cX4_add 63 = .ok (.getfield 42, 3) := by decide +kernel
theorem dX4_add_66 : decode cX4_add 66 = .ok (.iload_n 2, 1) := by decide +kernel
theorem dX4_add_67 : decode cX4_add 67 = .ok (.iastore, 1) := by decide +kernel
theorem dX4_add_68 : decode cX4_add 68 = .ok (.aload_n 0, 1) := by decide +kernel
theorem dX4_add_69 : decode cX4_add 69 = .ok (.getfield 22, 3) := by decide +kernel
theorem dX4_add_72 : decode cX4_add 72 = .ok (.aload_n 0, 1) := by decide +kernel
theorem dX4_add_73 : decode cX4_add 73 = .ok (.getfield 42, 3) := by decide +kernel
theorem dX4_add_76 : decode cX4_add 76 = .ok (.iload_n 3, 1) := by decide +kernel
theorem dX4_add_77 : decode cX4_add 77 = .ok (.iastore, 1) := by decide +kernel
theorem dX4_add_78 : decode cX4_add 78 = .ok (.aload_n 0, 1) := by decide +kernel
theorem dX4_add_79 : decode cX4_add 79 = .ok (.getfield 27, 3) := by decide +kernel
theorem dX4_add_82 : decode cX4_add 82 = .ok (.aload_n 0, 1) := by decide +kernel
theorem dX4_add_83 : decode cX4_add 83 = .ok (.getfield 42, 3) := by decide +kernel
theorem dX4_add_86 : decode cX4_add 86 = .ok (.aload 4, 2) := by decide +kernel
theorem dX4_add_88 : decode cX4_add 88 = .ok (.aastore, 1) := by decide +kernel
theorem dX4_add_89 : decode cX4_add 89 = .ok (.aload_n 0, 1) := by decide +kernel
theorem dX4_add_90 : decode cX4_add 90 = .ok (.dup, 1) := by decide +kernel
theorem dX4_add_91 : decode cX4_add 91 = .ok (.getfield 42, 3) := by decide +kernel
theorem dX4_add_94 : decode cX4_add 94 = .ok (.iconst 1, 1) := by decide +kernel
theorem dX4_add_95 : decode cX4_add 95 = .ok (.iadd, 1) := by decide +kernel
theorem dX4_add_96 : decode cX4_add 96 = .ok (.putfield 42, 3) := by decide +kernel
theorem dX4_add_99 : decode cX4_add 99 = .ok (.return_, 1) := by decide +kernel
set_option maxRecDepth 20000 in
theorem ggX6_init_X4_init : GoodIn wsX6_init wsX4_init := goodIn_r _ [10, 11, 2, 3, 12, 13, 14, 15, 16, 17, 18, 19, 20, 21, 22, 23, 24, 25, 26, 27, 28, 29, 30, 31, 32, 33, 34, 35, 36, 37, 38, 39, 40, 41, 42, 43, 44, 45, 46, 47, 48, 49, 50, 51, 56, 57, 58, 59] (by decide +kernel) (by decide +kernel)
set_option maxRecDepth 20000 in
theorem gX6_init_X4_init : GoodIn wsX6_init (wsX4_init) := ggX6_init_X4_init
theorem dX6_init_0 : decode cX6_init 0 = .ok (.aload_n 0, 1) := by decide +kernel
theorem dX6_init_1 : decode cX6_init 1 = .ok (.invokespecial 3, 3) := by decide +kernel
theorem dX6_init_4 : decode cX6_init 4 = .ok (.aload_n 0, 1) := by decide +kernel
theorem dX6_init_5 : decode cX6_init 5 = .ok (.new 9, 3) := by decide +kernel
theorem dX6_init_8 : decode cX6_init 8 = .ok (.dup, 1) := by decide +kernel
theorem dX6_init_9 : decode cX6_init 9 = .ok (.invokespecial 11, 3) := by decide +kernel
theorem dX6_init_12 : decode cX6_init 12 = .ok (.putfield 12, 3) := by decide +kernel
theorem dX6_init_15 : decode cX6_init 15 = .ok (.return_, 1) := by decide +kernel
set_option maxRecDepth 20000 in
theorem ggX6_read_X4_cut : GoodIn wsX6_read wsX4_cut := goodIn_r _ [10, 11, 12, 13, 14, 15, 9, 16, 17, 18, 19, 20, 21, 22, 23, 24, 25, 26, 27, 28, 29, 30, 31, 32, 33, 34, 35, 36, 37, 38, 39, 40, 41, 42, 43, 44, 45, 46, 47, 48, 49, 50, 51, 52, 53, 54, 55, 56, 57, 58, 59, 60, 61, 62, 63, 64, 65, 66, 67, 68, 69, 70, 71, 72, 73, 74, 75, 76, 77, 78, 79, 80, 81, 82, 83, 84, 85, 86, 87, 88, 89, 90, 91, 92, 93, 94, 95, 96, 97, 98, 99, 100, 101, 102, 103, 104, 105, 106, 107, 108, 109, 110, 111, 112, 113, 114, 115, 116, 117, 118, 119, 120, 121, 122, 123, 124, 125, 126, 127, 128, 129, 130, 131, 132, 133, 134, 135, 136, 137, 138, 139, 140, 141, 142, 143, 144, 145, 146, 147, 148, 149, 150, 151, 152, 153, 154, 155, 156, 157, 158, 159, 160, 161, 162, 163, 164, 165, 166, 167, 168, 169, 170, 171, 172, 173, 174, 175, 176, 177, 178, 179, 180, 181, 182, 183, 184, 185, 186, 187, 188, 189, 190, 191, 192, 193, 194, 195, 196, 197, 198, 199, 200, 201, 202, 203, 204, 205, 206, 207, 208, 209, 210, 211, 212, 213, 214, 215, 216, 217, 218, 219, 220, 221, 222, 223, 224, 225, 226, 227, 228, 229, 230, 231, 232, 233, 234, 235, 236, 237, 238, 239, 240, 241, 242, 243, 244, 245, 246, 247, 248, 249, 250, 251, 252, 253, 254, 255, 256, 257, 258, 259, 260, 261, 262, 263, 264, 265, 266, 267, 268, 269, 270, 271, 272, 273, 274, 275, 276, 277, 278, 279, 280, 281, 282, 283, 284, 285, 286, 287, 288, 289, 290, 291, 292, 293, 294, 295, 296, 297, 422, 423, 424, 425, 426, 427, 428, 429, 430, 431, 432, 433, 434, 435, 436, 437, 438, 439, 440, 441, 442] (by decide +kernel) (by decide +kernel)
set_option maxRecDepth 20000 in
theorem gX6_read_X4_cut : GoodIn wsX6_read (wsV RX6 25 RX4 yX4_cut wsX4_cut) := goodIn_app (goodIn_of _ (by decide +kernel)) ggX6_read_X4_cut
set_option maxRecDepth 20000 in
theorem ggX6_read_X6_phrase : GoodIn wsX6_read wsX6_phrase := goodIn_r _ [302, 1, 303, 304, 305, 301, 306, 307, 308, 309, 310, 2, 3, 4, 311, 312, 313, 9, 314, 11, 62, 315, 316, 317, 318, 319, 320, 321, 322, 323, 324, 325, 326, 327, 328, 329, 61, 330, 331, 332, 333, 334, 335, 336, 337, 338, 339, 50, 51, 340, 341, 342, 343, 344, 345, 346, 347, 348, 349, 350, 351, 352, 353, 354, 355, 356, 357, 358, 359, 360, 361, 362, 363, 364, 64, 365, 366, 367, 368, 369, 370, 371, 372, 373, 374, 375, 63, 376, 377, 378, 379, 380, 381, 382, 383, 384, 385, 386, 387, 388, 389, 390, 391, 392, 393, 394, 395, 396, 397, 398, 399, 400, 401, 42, 402, 44, 45, 46, 47, 48, 49, 52, 53, 54, 55, 56, 403, 404, 405, 406, 407, 408, 409, 410, 411, 412, 413, 414, 415, 416, 417, 418, 419, 420, 421, 443, 444, 445, 446, 447, 448, 449, 450, 422, 423, 424, 425, 426, 427, 428, 429, 430, 431, 432, 433, 434] (by decide +kernel) (by decide +kernel)
set_option maxRecDepth 20000 in
theorem gX6_read_X6_phrase : GoodIn wsX6_read (wsV RX6 32 RX6 yX6_phrase wsX6_phrase) := goodIn_app (goodIn_of _ (by decide +kernel)) ggX6_read_X6_phrase
theorem dX6_read_0 : decode cX6_read 0 = .ok (.aload_n 0, 1) := by decide +kernel
theorem dX6_read_1 : decode cX6_read 1 = .ok (.iconst 0, 1) := by decide +kernel
theorem dX6_read_2 : decode cX6_read 2 = .ok (.putfield 18, 3) := by decide +kernel
theorem dX6_read_5 : decode cX6_read 5 = .ok (.aload_n 0, 1) := by decide +kernel
theorem dX6_read_6 : decode cX6_read 6 = .ok (.iconst 0, 1) := by decide +kernel
theorem dX6_read_7 : decode cX6_read 7 = .ok (.putfield 22, 3) := by decide +kernel
theorem dX6_read_10 : decode cX6_read 10 = .ok (.aload_n 0, 1) := by decide +kernel
theorem dX6_read_11 : decode cX6_read 11 = .ok (.aload_n 0, 1) := by decide +kernel
theorem dX6_read_12 : decode cX6_read 12 = .ok (.getfield 12, 3) := by decide +kernel
theorem dX6_read_15 : decode cX6_read 15 = .ok (.invokevirtual 25, 3) := by decide +kernel
theorem dX6_read_18 : decode cX6_read 18 = .ok (.putfield 29, 3) := by decide +kernel
theorem dX6_read_21 : decode cX6_read 21 = .ok (.aconst_null, 1) := by decide +kernel
theorem dX6_read_22 : decode cX6_read 22 = .ok (.astore_n 1, 1) := by decide +kernel
theorem dX6_read_23 : decode cX6_read 23 = .ok (.aload_n 0, 1) := by decide +kernel
theorem dX6_read_24 : decode cX6_read 24 = .ok (.getfield 29, 3) := by decide +kernel
theorem dX6_read_27 : decode cX6_read 27 = .ok (.iconst (-1), 1) := by decide +kernel
theorem dX6_read_28 : decode cX6_read 28 = .ok (.if_icmp .ne 11, 3) := by decide +kernel
theorem dX6_read_31 : decode cX6_read 31 = .ok (.aload_n 0, 1) := by decide +kernel
theorem dX6_read_32 : decode cX6_read 32 = .ok (.invokevirtual 32, 3) := by decide +kernel
theorem dX6_read_35 : decode cX6_read 35 = .ok (.astore_n 1, 1) := by decide +kernel
theorem dX6_read_36 : decode cX6_read 36 = .ok (.goto 8, 3) := by decide +kernel
theorem dX6_read_44 : decode cX6_read 44 = .ok (.aload_n 0, 1) := by decide +kernel
theorem dX6_read_45 : decode cX6_read 45 = .ok (.getfield 12, 3) := by decide +kernel
theorem dX6_read_48 : decode cX6_read 48 = .ok (.iconst 0, 1) := by decide +kernel
theorem dX6_read_49 : decode cX6_read 49 = .ok (.putfield 36, 3) := by decide +kernel
theorem dX6_read_52 : decode cX6_read 52 = .ok (.aload_n 1, 1) := by decide +kernel
theorem dX6_read_53 : decode cX6_read 53 = .ok (.areturn, 1) := by decide +kernel
set_option maxRecDepth 20000 in
theorem ggX6_phrase_X6_choice : GoodIn wsX6_phrase wsX6_choice := goodIn_r _ [6, 7, 8, 9, 5, 10, 11, 12, 1, 13, 14, 15, 16, 17, 18, 19, 20, 21, 22, 23, 24, 25, 26, 27, 28, 29, 30, 31, 32, 33, 34, 35, 36, 2, 3, 4, 37, 38, 39, 40, 41, 42, 43, 44, 45, 46, 47, 48, 49, 50, 51, 52, 53, 54, 55, 56, 57, 58, 59, 60, 61, 62, 63, 64, 65, 66, 67, 68, 69, 70, 71, 72, 73, 74, 75, 76, 77, 78, 79, 80, 81, 82, 83, 84, 85, 86, 87, 88, 89, 90, 91, 92, 93, 94, 95, 96, 97, 98, 99, 100, 101, 102, 103, 104, 105, 106, 107, 108, 109, 110, 111, 112, 113, 114, 115, 116, 117, 118, 119, 120, 121, 122, 123, 124, 125, 126, 127, 128, 129, 130, 131, 132, 133, 134, 135, 145, 146, 147, 148, 149, 150, 151, 152, 141, 142, 143, 144, 153, 154, 155, 156, 157, 158, 159, 160, 161, 162, 163, 164, 165] (by decide +kernel) (by decide +kernel)
set_option maxRecDepth 20000 in
theorem gX6_phrase_X6_choice : GoodIn wsX6_phrase (wsV RX6 39 RX6 yX6_choice wsX6_choice) := goodIn_app (goodIn_of _ (by decide +kernel)) ggX6_phrase_X6_choice
theorem dX6_phrase_0 : decode cX6_phrase 0 = .ok (.aload_n 0, 1) := by decide +kernel
theorem dX6_phrase_1 : decode cX6_phrase 1 = .ok (.iconst 0, 1) := by decide +kernel
theorem dX6_phrase_2 : decode cX6_phrase 2 = .ok (.invokevirtual 39, 3) := by decide +kernel
theorem dX6_phrase_5 : decode cX6_phrase 5 = .ok (.astore_n 1, 1) := by decide +kernel
theorem dX6_phrase_6 : decode cX6_phrase 6 = .ok (.aload_n 1, 1) := by decide +kernel
theorem dX6_phrase_7 : decode cX6_phrase 7 = .ok (.astore_n 2, 1) := by decide +kernel
theorem dX6_phrase_8 : decode cX6_phrase 8 = .ok (.aload_n 1, 1) := by decide +kernel
theorem dX6_phrase_9 : decode cX6_phrase 9 = .ok (.ifnull 52, 3) := by decide +kernel
theorem dX6_phrase_61 : decode cX6_phrase 61 = .ok (.aload_n 2, 1) := by decide +kernel
theorem dX6_phrase_62 : decode cX6_phrase 62 = .ok (.ifnull 18, 3) := by decide +kernel
theorem dX6_phrase_80 : decode cX6_phrase 80 = .ok (.aload_n 2, 1) := by decide +kernel
theorem dX6_phrase_81 : decode cX6_phrase 81 = .ok (.areturn, 1) := by decide +kernel
set_option maxRecDepth 20000 in
theorem ggX6_choice_X6_level : GoodIn wsX6_choice wsX6_level := goodIn_r _ [95, 8, 96, 97, 98, 4, 17, 18, 19, 24, 25, 26, 27, 7, 28, 29, 30, 13, 31, 15, 32, 99, 100, 101, 36, 37, 38, 39, 40, 41, 42, 43, 44, 45, 46, 47, 48, 49, 50, 51, 52, 53, 57, 58, 33, 34, 35, 20, 21, 22, 23, 1, 2, 3, 5, 6, 9, 10, 11, 12, 14, 16, 59, 60, 61, 62, 63, 64, 65, 66, 0, 54, 55, 56, 67, 68, 69, 70, 71, 72, 73, 74, 75, 76, 77, 78, 79, 80, 81, 82, 83, 84, 85, 86, 87, 88, 89, 90, 91, 92, 93, 94, 102, 103, 104, 105, 106, 107, 108, 109, 110, 111, 112, 113, 114, 115, 116, 117, 118, 119, 120, 121, 122, 123, 124, 125, 126, 127, 128, 129, 130, 131, 132, 133, 134, 135, 136, 137, 138, 139, 140, 141, 142, 143, 144, 145, 146, 147, 148, 149, 150, 151, 152, 153, 154, 155, 156, 157, 158, 159] (by decide +kernel) (by decide +kernel)
set_option maxRecDepth 20000 in
theorem gX6_choice_X6_level : GoodIn wsX6_choice (wsV RX6 59 RX6 yX6_level wsX6_level) := goodIn_app (goodIn_of _ (by decide +kernel)) ggX6_choice_X6_level
theorem dX6_choice_0 : decode cX6_choice 0 = .ok (.iload_n 1, 1) := by decide +kernel
theorem dX6_choice_1 : decode cX6_choice 1 = .ok (.iconst 4, 1) := by decide +kernel
theorem dX6_choice_2 : decode cX6_choice 2 = .ok (.if_icmp .le 9, 3) := by decide +kernel
theorem dX6_choice_11 : decode cX6_choice 11 = .ok (.aload_n 0, 1) := by decide +kernel
theorem dX6_choice_12 : decode cX6_choice 12 = .ok (.iconst 0, 1) := by decide +kernel
theorem dX6_choice_13 : decode cX6_choice 13 = .ok (.iload_n 1, 1) := by decide +kernel
theorem dX6_choice_14 : decode cX6_choice 14 = .ok (.invokevirtual 59, 3) := by decide +kernel
theorem dX6_choice_17 : decode cX6_choice 17 = .ok (.astore_n 2, 1) := by decide +kernel
theorem dX6_choice_18 : decode cX6_choice 18 = .ok (.aload_n 2, 1) := by decide +kernel
theorem dX6_choice_19 : decode cX6_choice 19 = .ok (.ifnonnull 5, 3) := by decide +kernel
theorem dX6_choice_22 : decode cX6_choice 22 = .ok (.aconst_null, 1) := by decide +kernel
theorem dX6_choice_23 : decode cX6_choice 23 = .ok (.areturn, 1) := by decide +kernel
set_option maxRecDepth 20000 in
theorem ggX6_level_X6_sign : GoodIn wsX6_level wsX6_sign := goodIn_r _ [131, 47, 48, 49, 5, 50, 1, 9, 10, 11, 12, 13, 14, 15, 16, 17, 18, 19, 20, 132, 133, 134, 24, 25, 26, 27, 28, 29, 30, 31, 32, 33, 34, 35, 36, 37, 38, 39, 40, 41, 42, 43, 44, 45, 46, 51, 52, 53, 54, 55, 56, 57, 58, 59, 60, 61, 62, 63, 64, 65, 66, 67, 68, 69, 70, 6, 7, 8, 71, 72, 73, 74, 75, 76, 77, 78, 79, 80, 81, 82, 83, 84, 85, 86, 87, 88, 89, 90, 91, 92, 93, 94, 95, 96, 97, 98, 99, 100, 101, 0, 2, 3, 4, 21, 22, 23, 102, 103, 104, 105, 106, 107, 108, 109, 110, 111, 112, 113, 114, 115, 116, 117, 118, 119, 120, 121, 122, 123, 124, 125, 126, 127, 128, 129, 130, 135, 136, 137, 138, 139, 140, 141, 142, 143, 144, 145, 146, 147, 148, 149, 150, 151, 152, 153, 154, 155, 156, 157, 158, 159] (by decide +kernel) (by decide +kernel)
set_option maxRecDepth 20000 in
theorem gX6_level_X6_sign : GoodIn wsX6_level (wsV RX6 71 RX6 yX6_sign wsX6_sign) := goodIn_app (goodIn_of _ (by decide +kernel)) ggX6_level_X6_sign
set_option maxRecDepth 20000 in
theorem ggX6_level_X6_level : GoodIn wsX6_level wsX6_level := goodIn_r _ [0, 1, 2, 3, 4, 5, 6, 7, 8, 9, 10, 11, 12, 13, 14, 15, 16, 17, 18, 19, 20, 21, 22, 23, 24, 25, 26, 27, 28, 29, 30, 31, 32, 33, 34, 35, 36, 37, 38, 39, 40, 41, 42, 43, 44, 45, 46, 47, 48, 49, 50, 51, 52, 53, 54, 55, 56, 57, 58, 59, 60, 61, 62, 63, 64, 65, 66, 67, 68, 69, 70, 71, 72, 73, 74, 75, 76, 77, 78, 79, 80, 81, 82, 83, 84, 85, 86, 87, 88, 89, 90, 91, 92, 93, 94, 95, 96, 97, 98, 99, 100, 101, 102, 103, 104, 105, 106, 107, 108, 109, 110, 111, 112, 113, 114, 115, 116, 117, 118, 119, 120, 121, 122, 123, 124, 125, 126, 127, 128, 129, 130, 131, 132, 133, 134, 135, 136, 137, 138, 139, 140, 141, 142, 143, 144, 145, 146, 147, 148, 149, 150, 151, 152, 153, 154, 155, 156, 157, 158, 159] (by decide +kernel) (by decide +kernel)
set_option maxRecDepth 20000 in
theorem gX6_level_X6_level : GoodIn wsX6_level (wsV RX6 59 RX6 yX6_level wsX6_level) := goodIn_app (goodIn_of _ (by decide +kernel)) ggX6_level_X6_level
theorem dX6_level_0 : decode cX6_level 0 = .ok (.iload_n 1, 1) := by decide +kernel
theorem dX6_level_1 : decode cX6_level 1 = .ok (.iconst 4, 1) := by decide +kernel
theorem dX6_level_2 : decode cX6_level 2 = .ok (.if_icmp .le 9, 3) := by decide +kernel
theorem dX6_level_5 : decode cX6_level 5 = .ok (.aload_n 0, 1) := by decide +kernel
theorem dX6_level_6 : decode cX6_level 6 = .ok (.iload_n 2, 1) := by decide +kernel
theorem dX6_level_7 : decode cX6_level 7 = .ok (.invokevirtual 71, 3) := by decide +kernel
theorem dX6_level_10 : decode cX6_level 10 = .ok (.areturn, 1) := by decide +kernel
theorem dX6_level_11 : decode cX6_level 11 = .ok (.aload_n 0, 1) := by decide +kernel
theorem dX6_level_12 : decode cX6_level 12 = .ok (.iload_n 1, 1) := by decide +kernel
theorem dX6_level_13 : decode cX6_level 13 = .ok (.iconst 1, 1) := by decide +kernel
theorem dX6_level_14 : decode cX6_level 14 = .ok (.iadd, 1) := by decide +kernel
theorem dX6_level_15 : decode cX6_level 15 = .ok (.iload_n 2, 1) := by decide +kernel
theorem dX6_level_16 : decode cX6_level 16 = .ok (.invokevirtual 59, 3) := by decide +kernel
theorem dX6_level_19 : decode cX6_level 19 = .ok (.astore_n 3, 1) := by decide +kernel
theorem dX6_level_20 : decode cX6_level 20 = .ok (.iconst 0, 1) := by decide +kernel
theorem dX6_level_21 : decode cX6_level 21 = .ok (.istore 4, 2) := by decide +kernel
theorem dX6_level_23 : decode cX6_level 23 = .ok (.iload 4, 2) := by decide +kernel
theorem dX6_level_25 : decode cX6_level 25 = .ok (.bipush 40, 2) := by decide +kernel
theorem dX6_level_27 : decode cX6_level 27 = .ok (.if_icmp .ge 77, 3) := by decide +kernel
theorem dX6_level_30 : decode cX6_level 30 = .ok (.aload_n 3, 1) := by decide +kernel
theorem dX6_level_31 : decode cX6_level 31 = .ok (.ifnull 73, 3) := by decide +kernel
theorem dX6_level_104 : decode cX6_level 104 = .ok (.aload_n 3, 1) := by decide +kernel
theorem dX6_level_105 : decode cX6_level 105 = .ok (.areturn, 1) := by decide +kernel
set_option maxRecDepth 20000 in
theorem ggX6_sign_X6_takes : GoodIn wsX6_sign wsX6_takes := goodIn_r _ [5, 6, 7, 8, 9, 4, 10, 11, 12, 13, 14, 15, 16, 17, 18, 143, 144, 145, 146, 147, 148, 149, 150, 151, 152, 153, 154] (by decide +kernel) (by decide +kernel)
set_option maxRecDepth 20000 in
theorem gX6_sign_X6_takes : GoodIn wsX6_sign (wsV RX6 63 RX6 yX6_takes wsX6_takes) := goodIn_app (goodIn_of _ (by decide +kernel)) ggX6_sign_X6_takes
set_option maxRecDepth 20000 in
theorem ggX6_sign_X6_chain : GoodIn wsX6_sign wsX6_chain := goodIn_r _ [56, 57, 58, 59, 60, 4, 1, 2, 3, 5, 6, 7, 8, 9, 10, 11, 12, 13, 14, 15, 16, 17, 18, 61, 62, 63, 45, 46, 47, 48, 49, 50, 51, 52, 53, 54, 55, 40, 41, 42, 43, 44, 64, 65, 66, 67, 22, 23, 24, 25, 26, 27, 28, 29, 30, 31, 32, 33, 34, 35, 36, 37, 38, 39, 68, 69, 70, 71, 72, 73, 74, 75, 76, 77, 78, 79, 80, 81, 82, 83, 84, 85, 86, 87, 88, 89, 90, 91, 92, 93, 94, 95, 96, 97, 98, 99, 100, 101, 102, 103, 104, 105, 106, 107, 108, 109, 110, 111, 112, 113, 114, 115, 116, 117, 118, 119, 120, 121, 122, 123, 124, 125, 126, 127, 128, 129, 130, 131, 132, 133, 134, 0, 19, 20, 21, 135, 136, 137, 138, 139, 140, 141, 142, 143, 144, 145, 146, 147, 148, 149, 150, 151, 152, 153, 154, 155, 156, 157, 158, 159] (by decide +kernel) (by decide +kernel)
set_option maxRecDepth 20000 in
theorem gX6_sign_X6_chain : GoodIn wsX6_sign (wsV RX6 78 RX6 yX6_chain wsX6_chain) := goodIn_app (goodIn_of _ (by decide +kernel)) ggX6_sign_X6_chain
theorem dX6_sign_0 : decode cX6_sign 0 = .ok (.aload_n 0, 1) := by decide +kernel
theorem dX6_sign_1 : decode cX6_sign 1 = .ok (.bipush 45, 2) := by decide +kernel
theorem dX6_sign_3 : decode cX6_sign 3 = .ok (.invokevirtual 63, 3) := by decide +kernel
theorem dX6_sign_6 : decode cX6_sign 6 = .ok (.ifCond .eq 8, 3) := by decide +kernel
theorem dX6_sign_14 : decode cX6_sign 14 = .ok (.aload_n 0, 1) := by decide +kernel
theorem dX6_sign_15 : decode cX6_sign 15 = .ok (.bipush 33, 2) := by decide +kernel
theorem dX6_sign_17 : decode cX6_sign 17 = .ok (.invokevirtual 63, 3) := by decide +kernel
theorem dX6_sign_20 : decode cX6_sign 20 = .ok (.ifCond .eq 8, 3) := by decide +kernel
theorem dX6_sign_28 : decode cX6_sign 28 = .ok (.iconst (-1), 1) := by decide +kernel
theorem dX6_sign_29 : decode cX6_sign 29 = .ok (.istore_n 2, 1) := by decide +kernel
theorem dX6_sign_30 : decode cX6_sign 30 = .ok (.aload_n 0, 1) := by decide +kernel
theorem dX6_sign_31 : decode cX6_sign 31 = .ok (.iload_n 1, 1) := by decide +kernel
theorem dX6_sign_32 : decode cX6_sign 32 = .ok (.invokevirtual 78, 3) := by decide +kernel
theorem dX6_sign_35 : decode cX6_sign 35 = .ok (.astore_n 3, 1) := by decide +kernel
theorem dX6_sign_36 : decode cX6_sign 36 = .ok (.aload_n 3, 1) := by decide +kernel
theorem dX6_sign_37 : decode cX6_sign 37 = .ok (.ifnull 8, 3) := by decide +kernel
theorem dX6_sign_45 : decode cX6_sign 45 = .ok (.aload_n 3, 1) := by decide +kernel
theorem dX6_sign_46 : decode cX6_sign 46 = .ok (.goto 10, 3) := by decide +kernel
theorem dX6_sign_56 : decode cX6_sign 56 = .ok (.areturn, 1) := by decide +kernel
set_option maxRecDepth 20000 in
theorem ggX6_chain_X6_first : GoodIn wsX6_chain wsX6_first := goodIn_r _ [68, 10, 15, 11, 12, 13, 5, 14, 16, 17, 18, 19, 20, 21, 22, 69, 70, 71, 72, 73, 74, 75, 48, 76, 50, 51, 52, 53, 54, 55, 56, 57, 58, 59, 60, 61, 62, 63, 6, 7, 8, 9, 77, 78, 79, 80, 81, 82, 83, 84, 85, 86, 87, 88, 26, 27, 28, 29, 30, 31, 32, 33, 34, 35, 36, 89, 90, 91, 92, 93, 94, 37, 38, 39, 40, 41, 0, 1, 2, 3, 4, 23, 24, 25, 42, 43, 44, 45, 46, 47, 49, 64, 65, 66, 67, 95, 96, 97, 98, 99, 100, 101, 102, 103, 104, 105, 106, 107, 108, 109, 110, 111, 112, 113, 114, 115, 116, 117, 118, 119, 120, 121, 122, 123, 124, 125, 126, 127, 128, 129, 130, 131, 132, 133, 134, 135, 136, 137, 138, 139, 140, 141, 142, 143, 144, 145, 146, 147, 148, 149, 150, 151, 152, 153, 154, 155, 156, 157, 158, 159] (by decide +kernel) (by decide +kernel)
set_option maxRecDepth 20000 in
theorem gX6_chain_X6_first : GoodIn wsX6_chain (wsV RX6 81 RX6 yX6_first wsX6_first) := goodIn_app (goodIn_of _ (by decide +kernel)) ggX6_chain_X6_first
theorem dX6_chain_0 : decode cX6_chain 0 = .ok (.aload_n 0, 1) := by decide +kernel
theorem dX6_chain_1 : decode cX6_chain 1 = .ok (.iload_n 1, 1) := by decide +kernel
theorem dX6_chain_2 : decode cX6_chain 2 = .ok (.invokevirtual 81, 3) := by decide +kernel
theorem dX6_chain_5 : decode cX6_chain 5 = .ok (.astore_n 2, 1) := by decide +kernel
theorem dX6_chain_6 : decode cX6_chain 6 = .ok (.iconst 0, 1) := by decide +kernel
theorem dX6_chain_7 : decode cX6_chain 7 = .ok (.istore_n 3, 1) := by decide +kernel
theorem dX6_chain_8 : decode cX6_chain 8 = .ok (.iload_n 3, 1) := by decide +kernel
theorem dX6_chain_9 : decode cX6_chain 9 = .ok (.bipush 40, 2) := by decide +kernel
theorem dX6_chain_11 : decode cX6_chain 11 = .ok (.if_icmp .ge 72, 3) := by decide +kernel
theorem dX6_chain_14 : decode cX6_chain 14 = .ok (.aload_n 2, 1) := by decide +kernel
theorem dX6_chain_15 : decode cX6_chain 15 = .ok (.ifnull 68, 3) := by decide +kernel
theorem dX6_chain_83 : decode cX6_chain 83 = .ok (.aload_n 2, 1) := by decide +kernel
theorem dX6_chain_84 : decode cX6_chain 84 = .ok (.areturn, 1) := by decide +kernel
set_option maxRecDepth 20000 in
theorem ggX6_first_X6_kind : GoodIn wsX6_first wsX6_kind := goodIn_r _ [7, 2, 1, 8, 9, 10, 11, 12, 13, 14, 143, 144, 145, 146, 147, 148, 149, 150, 151, 152, 153, 154] (by decide +kernel) (by decide +kernel)
set_option maxRecDepth 20000 in
theorem gX6_first_X6_kind : GoodIn wsX6_first (wsV RX6 43 RX6 yX6_kind wsX6_kind) := goodIn_app (goodIn_of _ (by decide +kernel)) ggX6_first_X6_kind
set_option maxRecDepth 20000 in
theorem ggX6_first_X6_takes : GoodIn wsX6_first wsX6_takes := goodIn_r _ [41, 1, 3, 4, 5, 6, 7, 2, 8, 9, 10, 11, 12, 13, 14, 143, 144, 145, 146, 147, 148, 149, 150, 151, 152, 153, 154] (by decide +kernel) (by decide +kernel)
set_option maxRecDepth 20000 in
theorem gX6_first_X6_takes : GoodIn wsX6_first (wsV RX6 63 RX6 yX6_takes wsX6_takes) := goodIn_app (goodIn_of _ (by decide +kernel)) ggX6_first_X6_takes
set_option maxRecDepth 20000 in
theorem ggX6_first_X6_refuse : GoodIn wsX6_first wsX6_refuse := goodIn_r _ [57, 58, 2, 1, 59, 60, 61, 62, 11, 63, 13, 64, 143, 144, 145, 146, 147, 148, 149, 150, 151, 152, 153, 154] (by decide +kernel) (by decide +kernel)
set_option maxRecDepth 20000 in
theorem gX6_first_X6_refuse : GoodIn wsX6_first (wsV RX6 56 RX6 yX6_refuse wsX6_refuse) := goodIn_app (goodIn_of _ (by decide +kernel)) ggX6_first_X6_refuse
theorem dX6_first_0 : decode cX6_first 0 = .ok (.aload_n 0, 1) := by decide +kernel
theorem dX6_first_1 : decode cX6_first 1 = .ok (.invokevirtual 43, 3) := by decide +kernel
theorem dX6_first_4 : decode cX6_first 4 = .ok (.iconst 1, 1) := by decide +kernel
theorem dX6_first_5 : decode cX6_first 5 = .ok (.if_icmp .ne 30, 3) := by decide +kernel
theorem dX6_first_35 : decode cX6_first 35 = .ok (.aload_n 0, 1) := by decide +kernel
theorem dX6_first_36 : decode cX6_first 36 = .ok (.bipush 35, 2) := by decide +kernel
theorem dX6_first_38 : decode cX6_first 38 = .ok (.invokevirtual 63, 3) := by decide +kernel
theorem dX6_first_41 : decode cX6_first 41 = .ok (.ifCond .eq 27, 3) := by decide +kernel
theorem dX6_first_68 : decode cX6_first 68 = .ok (.aload_n 0, 1) := by decide +kernel
theorem dX6_first_69 : decode cX6_first 69 = .ok (.bipush 40, 2) := by decide +kernel
theorem dX6_first_71 : decode cX6_first 71 = .ok (.invokevirtual 63, 3) := by decide +kernel
theorem dX6_first_74 : decode cX6_first 74 = .ok (.ifCond .eq 9, 3) := by decide +kernel
theorem dX6_first_83 : decode cX6_first 83 = .ok (.aload_n 0, 1) := by decide +kernel
theorem dX6_first_84 : decode cX6_first 84 = .ok (.invokevirtual 43, 3) := by decide +kernel
theorem dX6_first_87 : decode cX6_first 87 = .ok (.iconst 2, 1) := by decide +kernel
theorem dX6_first_88 : decode cX6_first 88 = .ok (.if_icmp .ne 11, 3) := by decide +kernel
theorem dX6_first_99 : decode cX6_first 99 = .ok (.aload_n 0, 1) := by decide +kernel
theorem dX6_first_100 : decode cX6_first 100 = .ok (.iconst 2, 1) := by decide +kernel
theorem dX6_first_101 : decode cX6_first 101 = .ok (.invokevirtual 56, 3) := by decide +kernel
theorem dX6_first_104 : decode cX6_first 104 = .ok (.areturn, 1) := by decide +kernel
set_option maxRecDepth 20000 in
theorem ggX6_kind_X4_kindAt : GoodIn wsX6_kind wsX4_kindAt := goodIn_r _ [7, 8, 9, 14, 15, 16, 17, 18, 19, 20, 21] (by decide +kernel) (by decide +kernel)
set_option maxRecDepth 20000 in
theorem gX6_kind_X4_kindAt : GoodIn wsX6_kind (wsV RX6 136 RX4 yX4_kindAt wsX4_kindAt) := goodIn_app (goodIn_of _ (by decide +kernel)) ggX6_kind_X4_kindAt
theorem dX6_kind_0 : decode cX6_kind 0 = .ok (.aload_n 0, 1) := by decide +kernel
theorem dX6_kind_1 : decode cX6_kind 1 = .ok (.getfield 12, 3) := by decide +kernel
theorem dX6_kind_4 : decode cX6_kind 4 = .ok (.aload_n 0, 1) := by decide +kernel
theorem dX6_kind_5 : decode cX6_kind 5 = .ok (.getfield 18, 3) := by decide +kernel
theorem dX6_kind_8 : decode cX6_kind 8 = .ok (.invokevirtual 136, 3) := by decide +kernel
theorem dX6_kind_11 : decode cX6_kind 11 = .ok (.ireturn, 1) := by decide +kernel
set_option maxRecDepth 20000 in
theorem ggX6_takes_X6_kind : GoodIn wsX6_takes wsX6_kind := goodIn_r _ [6, 7, 1, 8, 9, 10, 11, 12, 13, 14, 15, 16, 17, 18, 19, 20, 21, 22, 23, 24, 25, 26] (by decide +kernel) (by decide +kernel)
set_option maxRecDepth 20000 in
theorem gX6_takes_X6_kind : GoodIn wsX6_takes (wsV RX6 43 RX6 yX6_kind wsX6_kind) := goodIn_app (goodIn_of _ (by decide +kernel)) ggX6_takes_X6_kind
theorem dX6_takes_0 : decode cX6_takes 0 = .ok (.aload_n 0, 1) := by decide +kernel
theorem dX6_takes_1 : decode cX6_takes 1 = .ok (.invokevirtual 43, 3) := by decide +kernel
theorem dX6_takes_4 : decode cX6_takes 4 = .ok (.iload_n 1, 1) := by decide +kernel
theorem dX6_takes_5 : decode cX6_takes 5 = .ok (.if_icmp .eq 5, 3) := by decide +kernel
theorem dX6_takes_8 : decode cX6_takes 8 = .ok (.iconst 0, 1) := by decide +kernel
theorem dX6_takes_9 : decode cX6_takes 9 = .ok (.ireturn, 1) := by decide +kernel
set_option maxRecDepth 20000 in
theorem ggX6_refuse_X4_placeAt : GoodIn wsX6_refuse wsX4_placeAt := goodIn_r _ [9, 10, 11, 16, 17, 18, 19, 20, 21, 22, 23] (by decide +kernel) (by decide +kernel)
set_option maxRecDepth 20000 in
theorem gX6_refuse_X4_placeAt : GoodIn wsX6_refuse (wsV RX6 139 RX4 yX4_placeAt wsX4_placeAt) := goodIn_app (goodIn_of _ (by decide +kernel)) ggX6_refuse_X4_placeAt
theorem dX6_refuse_0 : decode cX6_refuse 0 = .ok (.aload_n 0, 1) := by decide +kernel
theorem dX6_refuse_1 : decode cX6_refuse 1 = .ok (.iload_n 1, 1) := by decide +kernel
theorem dX6_refuse_2 : decode cX6_refuse 2 = .ok (.putfield 22, 3) := by decide +kernel
theorem dX6_refuse_5 : decode cX6_refuse 5 = .ok (.aload_n 0, 1) := by decide +kernel
theorem dX6_refuse_6 : decode cX6_refuse 6 = .ok (.aload_n 0, 1) := by decide +kernel
theorem dX6_refuse_7 : decode cX6_refuse 7 = .ok (.getfield 12, 3) := by decide +kernel
theorem dX6_refuse_10 : decode cX6_refuse 10 = .ok (.aload_n 0, 1) := by decide +kernel
theorem dX6_refuse_11 : decode cX6_refuse 11 = .ok (.getfield 18, 3) := by decide +kernel
theorem dX6_refuse_14 : decode cX6_refuse 14 = .ok (.invokevirtual 139, 3) := by decide +kernel
theorem dX6_refuse_17 : decode cX6_refuse 17 = .ok (.putfield 29, 3) := by decide +kernel
theorem dX6_refuse_20 : decode cX6_refuse 20 = .ok (.aconst_null, 1) := by decide +kernel
theorem dX6_refuse_21 : decode cX6_refuse 21 = .ok (.areturn, 1) := by decide +kernel
set_option maxRecDepth 20000 in
theorem ggX8_init_X10_ofNull : GoodIn wsX8_init wsX10_ofNull := goodIn_r _ [21, 22, 23, 20, 24, 25, 26, 27, 2, 3, 28, 29, 30, 31, 32, 82, 83, 84, 85, 86] (by decide +kernel) (by decide +kernel)
set_option maxRecDepth 20000 in
theorem gX8_init_X10_ofNull : GoodIn wsX8_init (va_wsS RX8 9 yX10_ofNull wsX10_ofNull) := goodIn_app (goodIn_of _ (by decide +kernel)) ggX8_init_X10_ofNull
set_option maxRecDepth 20000 in
theorem ggX8_init_X0_init : GoodIn wsX8_init wsX0_init := goodIn_r _ [35, 36, 2, 3, 37, 38, 39, 40, 41, 42, 43, 44, 45, 46, 47, 48, 49, 50, 51, 52, 53, 54, 55, 56, 57, 58, 59, 60, 61, 62, 77, 78, 87, 88, 89, 90] (by decide +kernel) (by decide +kernel)
set_option maxRecDepth 20000 in
theorem gX8_init_X0_init : GoodIn wsX8_init (wsX0_init) := ggX8_init_X0_init
set_option maxRecDepth 20000 in
theorem ggX8_init_X3_init : GoodIn wsX8_init wsX3_init := goodIn_r _ [65, 66, 2, 3, 67, 68, 79, 80, 81] (by decide +kernel) (by decide +kernel)
set_option maxRecDepth 20000 in
theorem gX8_init_X3_init : GoodIn wsX8_init (wsX3_init) := ggX8_init_X3_init
theorem dX8_init_0 : decode cX8_init 0 = .ok (.aload_n 0, 1) := by decide +kernel
theorem dX8_init_1 : decode cX8_init 1 = .ok (.invokespecial 3, 3) := by decide +kernel
theorem dX8_init_4 : decode cX8_init 4 = .ok (.aload_n 0, 1) := by decide +kernel
theorem dX8_init_5 : decode cX8_init 5 = .ok (.invokestatic 9, 3) := by decide +kernel
theorem dX8_init_8 : decode cX8_init 8 = .ok (.putfield 15, 3) := by decide +kernel
theorem dX8_init_11 : decode cX8_init 11 = .ok (.aload_n 0, 1) := by decide +kernel
theorem dX8_init_12 : decode cX8_init 12 = .ok (.new 21, 3) := by decide +kernel
theorem dX8_init_15 : decode cX8_init 15 = .ok (.dup, 1) := by decide +kernel
theorem dX8_init_16 : decode cX8_init 16 = .ok (.invokespecial 23, 3) := by decide +kernel
theorem dX8_init_19 : decode cX8_init 19 = .ok (.putfield 24, 3) := by decide +kernel
theorem dX8_init_22 : decode cX8_init 22 = .ok (.aload_n 0, 1) := by decide +kernel
theorem dX8_init_23 : decode cX8_init 23 = .ok (.new 28, 3) := by decide +kernel
theorem dX8_init_26 : decode cX8_init 26 = .ok (.dup, 1) := by decide +kernel
theorem dX8_init_27 : decode cX8_init 27 = .ok (.invokespecial 30, 3) := by decide +kernel
theorem dX8_init_30 : decode cX8_init 30 = .ok (.putfield 31, 3) := by decide +kernel
theorem dX8_init_33 : decode cX8_init 33 = .ok (.aload_n 0, 1) := by decide +kernel
theorem dX8_init_34 : decode cX8_init 34 = .ok (.bipush 12, 2) := by decide +kernel
theorem dX8_init_36 : decode cX8_init 36 = .ok (.newarray .int, 2) := by decide +kernel
theorem dX8_init_38 : decode cX8_init 38 = .ok (.putfield 35, 3) := by decide +kernel
theorem dX8_init_41 : decode cX8_init 41 = .ok (.aload_n 0, 1) := by decide +kernel
theorem dX8_init_42 : decode cX8_init 42 = .ok (.bipush 12, 2) := by decide +kernel
theorem dX8_init_44 : decode cX8_init 44 = .ok (.anewarray 10, 3) := by decide +kernel
theorem dX8_init_47 : decode cX8_init 47 = .ok (.putfield 39, 3) := by decide +kernel
theorem dX8_init_50 : decode cX8_init 50 = .ok (.aload_n 0, 1) := by decide +kernel
theorem dX8_init_51 : decode cX8_init 51 = .ok (.aload_n 0, 1) := by decide +kernel
theorem dX8_init_52 : decode cX8_init 52 = .ok (.getfield 15, 3) := by decide +kernel
theorem dX8_init_55 : decode cX8_init 55 = .ok (.putfield 43, 3) := by decide +kernel
theorem dX8_init_58 : decode cX8_init 58 = .ok (.return_, 1) := by decide +kernel
theorem dX8_setVariable_0 : decode cX8_setVariable 0 = .ok (.iconst 0, 1) := by decide +kernel
theorem dX8_setVariable_1 : decode cX8_setVariable 1 = .ok (.istore_n 3, 1) := by decide +kernel
theorem dX8_setVariable_2 : decode cX8_setVariable 2 = .ok (.iload_n 3, 1) := by decide +kernel
theorem dX8_setVariable_3 : decode cX8_setVariable 3 = .ok (.aload_n 0, 1) := by decide +kernel
theorem dX8_setVariable_4 : decode cX8_setVariable 4 = .ok (.getfield 273, 3) := by decide +kernel
theorem dX8_setVariable_7 : decode cX8_setVariable 7 = .ok (.if_icmp .ge 28, 3) := by decide +kernel
theorem dX8_setVariable_35 : decode cX8_setVariable 35 = .ok (.iload_n 3, 1) := by decide +kernel
theorem dX8_setVariable_36 : decode cX8_setVariable 36 = .ok (.aload_n 0, 1) := by decide +kernel
theorem dX8_setVariable_37 : decode cX8_setVariable 37 = .ok (.getfield 35, 3) := by decide +kernel
theorem dX8_setVariable_40 : decode cX8_setVariable 40 = .ok (.arraylength, 1) := by decide +kernel
theorem dX8_setVariable_41 : decode cX8_setVariable 41 = .ok (.if_icmp .ge 12, 3) := by decide +kernel
theorem dX8_setVariable_44 : decode cX8_setVariable 44 = .ok (.iload_n 3, 1) := by decide +kernel
theorem dX8_setVariable_45 : decode cX8_setVariable 45 = .ok (.aload_n 0, 1) := by decide +kernel
theorem dX8_setVariable_46 : decode cX8_setVariable 46 = .ok (.getfield 39, 3) := by decide +kernel
theorem dX8_setVariable_49 : decode cX8_setVariable 49 = .ok (.arraylength, 1) := by decide +kernel
theorem dX8_setVariable_50 : decode cX8_setVariable 50 = .ok (.if_icmp .lt 5, 3) := by decide +kernel
theorem dX8_setVariable_55 : decode cX8_setVariable 55 = .ok (.aload_n 0, 1) := by decide +kernel
theorem dX8_setVariable_56 : decode cX8_setVariable 56 = .ok (.getfield 35, 3) := by decide +kernel
theorem dX8_setVariable_59 : decode cX8_setVariable 59 = .ok (.iload_n 3, 1) := by decide +kernel
theorem dX8_setVariable_60 : decode cX8_setVariable 60 = .ok (.iload_n 1, 1) := by decide +kernel
theorem dX8_setVariable_61 : decode cX8_setVariable 61 = .ok (.iastore, 1) := by decide +kernel
theorem dX8_setVariable_62 : decode cX8_setVariable 62 = .ok (.aload_n 0, 1) := by decide +kernel
theorem dX8_setVariable_63 : decode cX8_setVariable 63 = .ok (.getfield 39, 3) := by decide +kernel
theorem dX8_setVariable_66 : decode cX8_setVariable 66 = .ok (.iload_n 3, 1) := by decide +kernel
theorem dX8_setVariable_67 : decode cX8_setVariable 67 = .ok (.aload_n 2, 1) := by decide +kernel
theorem dX8_setVariable_68 : decode cX8_setVariable 68 = .ok (.aastore, 1) := by decide +kernel
theorem dX8_setVariable_69 : decode cX8_setVariable 69 = .ok (.iload_n 3, 1) := by decide +kernel
theorem dX8_setVariable_70 : decode cX8_setVariable 70 = .ok (.aload_n 0, 1) := by decide +kernel
theorem dX8_setVariable_71 : decode cX8_setVariable 71 = .ok (.getfield 273, 3) := by decide +kernel
theorem dX8_setVariable_74 : decode cX8_setVariable 74 = .ok (.if_icmp .ne 13, 3) := by decide +kernel
theorem dX8_setVariable_77 : decode cX8_setVariable 77 = .ok (.aload_n 0, 1) := by decide +kernel
theorem dX8_setVariable_78 : decode cX8_setVariable 78 = .ok (.dup, 1) := by decide +kernel
theorem dX8_setVariable_79 : decode cX8_setVariable 79 = .ok (.getfield 273, 3) := by decide +kernel
theorem dX8_setVariable_82 : decode cX8_setVariable 82 = .ok (.iconst 1, 1) := by decide +kernel
theorem dX8_setVariable_83 : decode cX8_setVariable 83 = .ok (.iadd, 1) := by decide +kernel
theorem dX8_setVariable_84 : decode cX8_setVariable 84 = .ok (.putfield 273, 3) := by decide +kernel
theorem dX8_setVariable_87 : decode cX8_setVariable 87 = .ok (.iconst 1, 1) := by decide +kernel
theorem dX8_setVariable_88 : decode cX8_setVariable 88 = .ok (.ireturn, 1) := by decide +kernel
theorem dX10_init_0 : decode cX10_init 0 = .ok (.aload_n 0, 1) := by decide +kernel
theorem dX10_init_1 : decode cX10_init 1 = .ok (.invokespecial 3, 3) := by decide +kernel
theorem dX10_init_4 : decode cX10_init 4 = .ok (.aload_n 0, 1) := by decide +kernel
theorem dX10_init_5 : decode cX10_init 5 = .ok (.iload_n 1, 1) := by decide +kernel
theorem dX10_init_6 : decode cX10_init 6 = .ok (.putfield 9, 3) := by decide +kernel
theorem dX10_init_9 : decode cX10_init 9 = .ok (.aload_n 0, 1) := by decide +kernel
theorem dX10_init_10 : decode cX10_init 10 = .ok (.iload_n 2, 1) := by decide +kernel
theorem dX10_init_11 : decode cX10_init 11 = .ok (.putfield 15, 3) := by decide +kernel
theorem dX10_init_14 : decode cX10_init 14 = .ok (.aload_n 0, 1) := by decide +kernel
theorem dX10_init_15 : decode cX10_init 15 = .ok (.dload_n 3, 1) := by decide +kernel
theorem dX10_init_16 : decode cX10_init 16 = .ok (.putfield 18, 3) := by decide +kernel
theorem dX10_init_19 : decode cX10_init 19 = .ok (.aload_n 0, 1) := by decide +kernel
theorem dX10_init_20 : decode cX10_init 20 = .ok (.aload 5, 2) := by decide +kernel
theorem dX10_init_22 : decode cX10_init 22 = .ok (.putfield 22, 3) := by decide +kernel
theorem dX10_init_25 : decode cX10_init 25 = .ok (.aload_n 0, 1) := by decide +kernel
theorem dX10_init_26 : decode cX10_init 26 = .ok (.aload 6, 2) := by decide +kernel
theorem dX10_init_28 : decode cX10_init 28 = .ok (.putfield 26, 3) := by decide +kernel
theorem dX10_init_31 : decode cX10_init 31 = .ok (.return_, 1) := by decide +kernel
set_option maxRecDepth 20000 in
theorem ggX10_ofNull_X10_init : GoodIn wsX10_ofNull wsX10_init := goodIn_r _ [6, 7, 8, 9, 10, 11, 12, 13, 14, 15, 16, 17, 18, 19] (by decide +kernel) (by decide +kernel)
set_option maxRecDepth 20000 in
theorem gX10_ofNull_X10_init : GoodIn wsX10_ofNull (wsX10_init) := ggX10_ofNull_X10_init
theorem dX10_ofNull_0 : decode cX10_ofNull 0 = .ok (.new 10, 3) := by decide +kernel
theorem dX10_ofNull_3 : decode cX10_ofNull 3 = .ok (.dup, 1) := by decide +kernel
theorem dX10_ofNull_4 : decode cX10_ofNull 4 = .ok (.iconst 0, 1) := by decide +kernel
theorem dX10_ofNull_5 : decode cX10_ofNull 5 = .ok (.iconst 0, 1) := by decide +kernel
theorem dX10_ofNull_6 : decode cX10_ofNull 6 = .ok (.dconst 0, 1) := by decide +kernel
theorem dX10_ofNull_7 : decode cX10_ofNull 7 = .ok (.ldc 30, 2) := by decide +kernel
theorem dX10_ofNull_9 : decode cX10_ofNull 9 = .ok (.aconst_null, 1) := by decide +kernel
theorem dX10_ofNull_10 : decode cX10_ofNull 10 = .ok (.invokespecial 32, 3) := by decide +kernel
theorem dX10_ofNull_13 : decode cX10_ofNull 13 = .ok (.areturn, 1) := by decide +kernel
set_option maxRecDepth 20000 in
theorem ggX11_init_X6_init : GoodIn wsX11_init wsX6_init := goodIn_r _ [21, 22, 2, 3, 23, 24, 25, 26, 27, 28, 29, 30, 31, 32, 33, 34, 35, 36, 37, 38, 39, 40, 41, 42, 43, 44, 45, 46, 47, 48, 49, 50, 51, 52, 53, 54, 55, 56, 57, 58, 59, 60, 61, 62, 132, 133, 134, 135, 136, 137, 138, 139, 111, 112, 113, 114, 140, 141, 142, 143] (by decide +kernel) (by decide +kernel)
set_option maxRecDepth 20000 in
theorem gX11_init_X6_init : GoodIn wsX11_init (wsX6_init) := ggX11_init_X6_init
set_option maxRecDepth 20000 in
theorem ggX11_init_X8_init : GoodIn wsX11_init wsX8_init := goodIn_r _ [65, 66, 2, 3, 67, 68, 69, 70, 71, 72, 73, 74, 75, 33, 76, 77, 78, 79, 80, 81, 82, 83, 84, 85, 86, 87, 88, 89, 90, 91, 92, 93, 94, 95, 96, 97, 98, 99, 100, 101, 40, 41, 102, 103, 44, 45, 46, 47, 48, 49, 50, 51, 52, 53, 54, 55, 56, 57, 58, 59, 60, 61, 62, 104, 105, 106, 107, 108, 109, 124, 125, 126, 127, 128, 129, 130, 131, 144, 145, 146, 147, 148, 149, 150, 151, 152, 153, 140, 141, 142, 143] (by decide +kernel) (by decide +kernel)
set_option maxRecDepth 20000 in
theorem gX11_init_X8_init : GoodIn wsX11_init (wsX8_init) := ggX11_init_X8_init
set_option maxRecDepth 20000 in
theorem ggX11_init_X10_ofNull : GoodIn wsX11_init wsX10_ofNull := goodIn_r _ [83, 84, 85, 82, 86, 87, 88, 89, 2, 3, 90, 91, 92, 93, 94, 149, 150, 151, 152, 153] (by decide +kernel) (by decide +kernel)
set_option maxRecDepth 20000 in
theorem gX11_init_X10_ofNull : GoodIn wsX11_init (va_wsS RX11 41 yX10_ofNull wsX10_ofNull) := goodIn_app (goodIn_of _ (by decide +kernel)) ggX11_init_X10_ofNull
theorem dX11_init_0 : decode cX11_init 0 = .ok (.aload_n 0, 1) := by decide +kernel
theorem dX11_init_1 : decode cX11_init 1 = .ok (.invokespecial 1, 3) := by decide +kernel
theorem dX11_init_4 : decode cX11_init 4 = .ok (.aload_n 0, 1) := by decide +kernel
theorem dX11_init_5 : decode cX11_init 5 = .ok (.new 7, 3) := by decide +kernel
theorem dX11_init_8 : decode cX11_init 8 = .ok (.dup, 1) := by decide +kernel
theorem dX11_init_9 : decode cX11_init 9 = .ok (.invokespecial 9, 3) := by decide +kernel
theorem dX11_init_12 : decode cX11_init 12 = .ok (.putfield 10, 3) := by decide +kernel
theorem dX11_init_15 : decode cX11_init 15 = .ok (.aload_n 0, 1) := by decide +kernel
theorem dX11_init_16 : decode cX11_init 16 = .ok (.new 16, 3) := by decide +kernel
theorem dX11_init_19 : decode cX11_init 19 = .ok (.dup, 1) := by decide +kernel
theorem dX11_init_20 : decode cX11_init 20 = .ok (.invokespecial 18, 3) := by decide +kernel
theorem dX11_init_23 : decode cX11_init 23 = .ok (.putfield 19, 3) := by decide +kernel
theorem dX11_init_26 : decode cX11_init 26 = .ok (.aload_n 0, 1) := by decide +kernel
theorem dX11_init_27 : decode cX11_init 27 = .ok (.bipush 40, 2) := by decide +kernel
theorem dX11_init_29 : decode cX11_init 29 = .ok (.anewarray 23, 3) := by decide +kernel
theorem dX11_init_32 : decode cX11_init 32 = .ok (.putfield 25, 3) := by decide +kernel
theorem dX11_init_35 : decode cX11_init 35 = .ok (.aload_n 0, 1) := by decide +kernel
theorem dX11_init_36 : decode cX11_init 36 = .ok (.iconst 5, 1) := by decide +kernel
theorem dX11_init_37 : decode cX11_init 37 = .ok (.anewarray 29, 3) := by decide +kernel
theorem dX11_init_40 : decode cX11_init 40 = .ok (.putfield 31, 3) := by decide +kernel
theorem dX11_init_43 : decode cX11_init 43 = .ok (.aload_n 0, 1) := by decide +kernel
theorem dX11_init_44 : decode cX11_init 44 = .ok (.bipush 30, 2) := by decide +kernel
theorem dX11_init_46 : decode cX11_init 46 = .ok (.anewarray 35, 3) := by decide +kernel
theorem dX11_init_49 : decode cX11_init 49 = .ok (.putfield 37, 3) := by decide +kernel
theorem dX11_init_52 : decode cX11_init 52 = .ok (.aload_n 0, 1) := by decide +kernel
theorem dX11_init_53 : decode cX11_init 53 = .ok (.invokestatic 41, 3) := by decide +kernel
theorem dX11_init_56 : decode cX11_init 56 = .ok (.putfield 45, 3) := by decide +kernel
theorem dX11_init_59 : decode cX11_init 59 = .ok (.return_, 1) := by decide +kernel
set_option maxRecDepth 20000 in
theorem ggX11_letter_X4_append : GoodIn wsX11_letter wsX4_append := goodIn_r _ [12, 13, 14, 28, 29, 30, 31, 32, 33, 34, 35] (by decide +kernel) (by decide +kernel)
set_option maxRecDepth 20000 in
theorem gX11_letter_X4_append : GoodIn wsX11_letter (wsV RX11 71 RX4 yX4_append wsX4_append) := goodIn_app (goodIn_of _ (by decide +kernel)) ggX11_letter_X4_append
theorem dX11_letter_0 : decode cX11_letter 0 = .ok (.iload_n 1, 1) := by decide +kernel
theorem dX11_letter_1 : decode cX11_letter 1 = .ok (.bipush 32, 2) := by decide +kernel
theorem dX11_letter_3 : decode cX11_letter 3 = .ok (.if_icmp .lt 9, 3) := by decide +kernel
theorem dX11_letter_6 : decode cX11_letter 6 = .ok (.iload_n 1, 1) := by decide +kernel
theorem dX11_letter_7 : decode cX11_letter 7 = .ok (.bipush 126, 2) := by decide +kernel
theorem dX11_letter_9 : decode cX11_letter 9 = .ok (.if_icmp .le 13, 3) := by decide +kernel
theorem dX11_letter_12 : decode cX11_letter 12 = .ok (.new 49, 3) := by decide +kernel
theorem dX11_letter_15 : decode cX11_letter 15 = .ok (.dup, 1) := by decide +kernel
theorem dX11_letter_16 : decode cX11_letter 16 = .ok (.ldc 51, 2) := by decide +kernel
theorem dX11_letter_18 : decode cX11_letter 18 = .ok (.invokespecial 53, 3) := by decide +kernel
theorem dX11_letter_21 : decode cX11_letter 21 = .ok (.athrow, 1) := by decide +kernel
theorem dX11_letter_22 : decode cX11_letter 22 = .ok (.aload_n 0, 1) := by decide +kernel
theorem dX11_letter_23 : decode cX11_letter 23 = .ok (.getfield 10, 3) := by decide +kernel
theorem dX11_letter_26 : decode cX11_letter 26 = .ok (.getfield 56, 3) := by decide +kernel
theorem dX11_letter_29 : decode cX11_letter 29 = .ok (.getfield 60, 3) := by decide +kernel
theorem dX11_letter_32 : decode cX11_letter 32 = .ok (.bipush 40, 2) := by decide +kernel
theorem dX11_letter_34 : decode cX11_letter 34 = .ok (.if_icmp .lt 13, 3) := by decide +kernel
theorem dX11_letter_47 : decode cX11_letter 47 = .ok (.aload_n 0, 1) := by decide +kernel
theorem dX11_letter_48 : decode cX11_letter 48 = .ok (.getfield 10, 3) := by decide +kernel
theorem dX11_letter_51 : decode cX11_letter 51 = .ok (.getfield 56, 3) := by decide +kernel
theorem dX11_letter_54 : decode cX11_letter 54 = .ok (.iload_n 1, 1) := by decide +kernel
theorem dX11_letter_55 : decode cX11_letter 55 = .ok (.i2c, 1) := by decide +kernel
theorem dX11_letter_56 : decode cX11_letter 56 = .ok (.invokevirtual 71, 3) := by decide +kernel
theorem dX11_letter_59 : decode cX11_letter 59 = .ok (.aload_n 0, 1) := by decide +kernel
theorem dX11_letter_60 : decode cX11_letter 60 = .ok (.getfield 10, 3) := by decide +kernel
theorem dX11_letter_63 : decode cX11_letter 63 = .ok (.getfield 56, 3) := by decide +kernel
theorem dX11_letter_66 : decode cX11_letter 66 = .ok (.getfield 60, 3) := by decide +kernel
theorem dX11_letter_69 : decode cX11_letter 69 = .ok (.ireturn, 1) := by decide +kernel
set_option maxRecDepth 20000 in
theorem ggX11_parse_X6_read : GoodIn wsX11_parse wsX6_read := goodIn_r _ [12, 13, 14, 15, 16, 17, 18, 19, 20, 21, 22, 23, 24, 25, 26, 27, 28, 29, 30, 31, 32, 33, 34, 35, 36, 37, 38, 39, 40, 41, 42, 43, 44, 45, 46, 47, 48, 49, 50, 51, 52, 53, 54, 55, 56, 57, 58, 59, 60, 61, 62, 63, 64, 65, 66, 67, 68, 69, 70, 71, 72, 73, 74, 75, 76, 77, 78, 79, 80, 81, 82, 83, 84, 85, 86, 87, 88, 89, 90, 91, 92, 93, 94, 95, 96, 97, 98, 99, 100, 101, 102, 103, 104, 105, 106, 107, 108, 109, 110, 111, 112, 113, 114, 115, 116, 117, 118, 119, 120, 121, 122, 123, 124, 125, 126, 127, 128, 129, 130, 131, 132, 133, 134, 135, 136, 137, 138, 139, 140, 141, 142, 143, 144, 145, 146, 147, 148, 149, 150, 151, 152, 153, 154, 155, 156, 157, 158, 159, 160, 161, 162, 163, 164, 165, 166, 167, 168, 169, 170, 171, 172, 173, 174, 175, 176, 177, 178, 179, 180, 181, 182, 183, 184, 185, 186, 187, 188, 189, 190, 191, 192, 193, 194, 195, 196, 197, 198, 199, 200, 201, 202, 203, 204, 205, 206, 207, 208, 209, 210, 211, 212, 213, 214, 215, 216, 217, 218, 219, 220, 221, 222, 223, 224, 225, 226, 227, 228, 229, 230, 231, 232, 233, 234, 235, 236, 237, 238, 239, 240, 241, 242, 243, 244, 245, 246, 247, 248, 249, 250, 251, 252, 253, 254, 255, 256, 257, 258, 259, 260, 261, 262, 263, 264, 265, 266, 267, 268, 269, 270, 271, 272, 273, 274, 275, 276, 277, 278, 279, 280, 281, 282, 283, 284, 285, 286, 287, 288, 289, 290, 291, 292, 293, 294, 295, 296, 297, 298, 299, 300, 301, 302, 303, 304, 305, 306, 307, 308, 309, 310, 311, 312, 11, 313, 314, 315, 316, 317, 318, 319, 320, 321, 322, 323, 324, 325, 326, 327, 328, 329, 330, 331, 332, 333, 334, 335, 336, 337, 338, 339, 340, 341, 342, 343, 344, 345, 346, 347, 348, 349, 350, 351, 352, 353, 354, 355, 356, 357, 358, 359, 360, 361, 362, 363, 364, 365, 366, 367, 368, 369, 370, 371, 372, 373, 374, 375, 376, 377, 378, 379, 380, 381, 382, 383, 384, 385, 386, 387, 388, 389, 390, 391, 392, 393, 394, 395, 396, 397, 398, 399, 400, 401, 402, 403, 404, 405, 406, 407, 408, 409, 410, 411, 412, 413, 414, 415, 416, 417, 418, 419, 420, 421, 422, 423, 424, 425, 426, 427, 428, 438, 439, 440, 441, 442, 443, 444, 445, 446, 447, 448, 449, 450, 451, 452, 453, 454, 455, 456, 457, 458, 459, 460, 461, 462, 463, 464, 465, 466, 467, 468, 469, 470] (by decide +kernel) (by decide +kernel)
set_option maxRecDepth 20000 in
theorem gX11_parse_X6_read : GoodIn wsX11_parse (wsV RX11 80 RX6 yX6_read wsX6_read) := goodIn_app (goodIn_of _ (by decide +kernel)) ggX11_parse_X6_read
theorem dX11_parse_0 : decode cX11_parse 0 = .ok (.aload_n 0, 1) := by decide +kernel
theorem dX11_parse_1 : decode cX11_parse 1 = .ok (.getfield 75, 3) := by decide +kernel
theorem dX11_parse_4 : decode cX11_parse 4 = .ok (.aload_n 0, 1) := by decide +kernel
theorem dX11_parse_5 : decode cX11_parse 5 = .ok (.getfield 25, 3) := by decide +kernel
theorem dX11_parse_8 : decode cX11_parse 8 = .ok (.arraylength, 1) := by decide +kernel
theorem dX11_parse_9 : decode cX11_parse 9 = .ok (.if_icmp .lt 13, 3) := by decide +kernel
theorem dX11_parse_22 : decode cX11_parse 22 = .ok (.aload_n 0, 1) := by decide +kernel
theorem dX11_parse_23 : decode cX11_parse 23 = .ok (.getfield 10, 3) := by decide +kernel
theorem dX11_parse_26 : decode cX11_parse 26 = .ok (.invokevirtual 80, 3) := by decide +kernel
theorem dX11_parse_29 : decode cX11_parse 29 = .ok (.astore_n 1, 1) := by decide +kernel
theorem dX11_parse_30 : decode cX11_parse 30 = .ok (.aload_n 1, 1) := by decide +kernel
theorem dX11_parse_31 : decode cX11_parse 31 = .ok (.ifnonnull 23, 3) := by decide +kernel
theorem dX11_parse_34 : decode cX11_parse 34 = .ok (.sipush (-1000), 3) := by decide +kernel
theorem dX11_parse_37 : decode cX11_parse 37 = .ok (.aload_n 0, 1) := by decide +kernel
theorem dX11_parse_38 : decode cX11_parse 38 = .ok (.getfield 10, 3) := by decide +kernel
theorem dX11_parse_41 : decode cX11_parse 41 = .ok (.getfield 84, 3) := by decide +kernel
theorem dX11_parse_44 : decode cX11_parse 44 = .ok (.imul, 1) := by decide +kernel
theorem dX11_parse_45 : decode cX11_parse 45 = .ok (.aload_n 0, 1) := by decide +kernel
theorem dX11_parse_46 : decode cX11_parse 46 = .ok (.getfield 10, 3) := by decide +kernel
theorem dX11_parse_49 : decode cX11_parse 49 = .ok (.getfield 87, 3) := by decide +kernel
theorem dX11_parse_52 : decode cX11_parse 52 = .ok (.isub, 1) := by decide +kernel
theorem dX11_parse_53 : decode cX11_parse 53 = .ok (.ireturn, 1) := by decide +kernel
set_option maxRecDepth 20000 in
theorem ggX11_type_X11_familyAt : GoodIn wsX11_type wsX11_familyAt := goodIn_r _ [14, 5, 6, 28, 29, 30, 31, 32, 33, 34, 35, 36] (by decide +kernel) (by decide +kernel)
set_option maxRecDepth 20000 in
theorem gX11_type_X11_familyAt : GoodIn wsX11_type (wsV RX11 90 RX11 yX11_familyAt wsX11_familyAt) := goodIn_app (goodIn_of _ (by decide +kernel)) ggX11_type_X11_familyAt
set_option maxRecDepth 20000 in
theorem ggX11_type_X1_init : GoodIn wsX11_type wsX1_init := goodIn_r _ [17, 18, 19, 20, 21, 22, 23, 24, 25, 26, 27, 37, 38, 39, 40, 41, 42, 43] (by decide +kernel) (by decide +kernel)
set_option maxRecDepth 20000 in
theorem gX11_type_X1_init : GoodIn wsX11_type (wsX1_init) := ggX11_type_X1_init
theorem dX11_type_0 : decode cX11_type 0 = .ok (.aload_n 0, 1) := by decide +kernel
theorem dX11_type_1 : decode cX11_type 1 = .ok (.iload_n 1, 1) := by decide +kernel
theorem dX11_type_2 : decode cX11_type 2 = .ok (.invokevirtual 90, 3) := by decide +kernel
theorem dX11_type_5 : decode cX11_type 5 = .ok (.astore_n 2, 1) := by decide +kernel
theorem dX11_type_6 : decode cX11_type 6 = .ok (.aload_n 2, 1) := by decide +kernel
theorem dX11_type_7 : decode cX11_type 7 = .ok (.ifnonnull 18, 3) := by decide +kernel
theorem dX11_type_10 : decode cX11_type 10 = .ok (.iload_n 1, 1) := by decide +kernel
theorem dX11_type_11 : decode cX11_type 11 = .ok (.iconst (-1), 1) := by decide +kernel
theorem dX11_type_12 : decode cX11_type 12 = .ok (.if_icmp .eq 13, 3) := by decide +kernel
theorem dX11_type_15 : decode cX11_type 15 = .ok (.new 49, 3) := by decide +kernel
theorem dX11_type_18 : decode cX11_type 18 = .ok (.dup, 1) := by decide +kernel
theorem dX11_type_19 : decode cX11_type 19 = .ok (.ldc 94, 2) := by decide +kernel
theorem dX11_type_21 : decode cX11_type 21 = .ok (.invokespecial 53, 3) := by decide +kernel
theorem dX11_type_24 : decode cX11_type 24 = .ok (.athrow, 1) := by decide +kernel
theorem dX11_type_25 : decode cX11_type 25 = .ok (.aload_n 0, 1) := by decide +kernel
theorem dX11_type_26 : decode cX11_type 26 = .ok (.getfield 96, 3) := by decide +kernel
theorem dX11_type_29 : decode cX11_type 29 = .ok (.aload_n 0, 1) := by decide +kernel
theorem dX11_type_30 : decode cX11_type 30 = .ok (.getfield 31, 3) := by decide +kernel
theorem dX11_type_33 : decode cX11_type 33 = .ok (.arraylength, 1) := by decide +kernel
theorem dX11_type_34 : decode cX11_type 34 = .ok (.if_icmp .lt 13, 3) := by decide +kernel
theorem dX11_type_47 : decode cX11_type 47 = .ok (.aload_n 0, 1) := by decide +kernel
theorem dX11_type_48 : decode cX11_type 48 = .ok (.getfield 31, 3) := by decide +kernel
theorem dX11_type_51 : decode cX11_type 51 = .ok (.aload_n 0, 1) := by decide +kernel
theorem dX11_type_52 : decode cX11_type 52 = .ok (.getfield 96, 3) := by decide +kernel
theorem dX11_type_55 : decode cX11_type 55 = .ok (.new 29, 3) := by decide +kernel
theorem dX11_type_58 : decode cX11_type 58 = .ok (.dup, 1) := by decide +kernel
theorem dX11_type_59 : decode cX11_type 59 = .ok (.aload_n 0, 1) := by decide +kernel
theorem dX11_type_60 : decode cX11_type 60 = .ok (.getfield 96, 3) := by decide +kernel
theorem dX11_type_63 : decode cX11_type 63 = .ok (.aload_n 2, 1) := by decide +kernel
theorem dX11_type_64 : decode cX11_type 64 = .ok (.invokespecial 101, 3) := by decide +kernel
theorem dX11_type_67 : decode cX11_type 67 = .ok (.aastore, 1) := by decide +kernel
theorem dX11_type_68 : decode cX11_type 68 = .ok (.aload_n 0, 1) := by decide +kernel
theorem dX11_type_69 : decode cX11_type 69 = .ok (.dup, 1) := by decide +kernel
theorem dX11_type_70 : decode cX11_type 70 = .ok (.getfield 96, 3) := by decide +kernel
theorem dX11_type_73 : decode cX11_type 73 = .ok (.iconst 1, 1) := by decide +kernel
theorem dX11_type_74 : decode cX11_type 74 = .ok (.iadd, 1) := by decide +kernel
theorem dX11_type_75 : decode cX11_type 75 = .ok (.putfield 96, 3) := by decide +kernel
theorem dX11_type_78 : decode cX11_type 78 = .ok (.aload_n 0, 1) := by decide +kernel
theorem dX11_type_79 : decode cX11_type 79 = .ok (.getfield 96, 3) := by decide +kernel
theorem dX11_type_82 : decode cX11_type 82 = .ok (.iconst 1, 1) := by decide +kernel
theorem dX11_type_83 : decode cX11_type 83 = .ok (.isub, 1) := by decide +kernel
theorem dX11_type_84 : decode cX11_type 84 = .ok (.ireturn, 1) := by decide +kernel
set_option maxRecDepth 20000 in
theorem ggX11_field_X11_familyAt : GoodIn wsX11_field wsX11_familyAt := goodIn_r _ [11, 12, 13, 54, 55, 56, 57, 58, 59, 60, 61, 62] (by decide +kernel) (by decide +kernel)
set_option maxRecDepth 20000 in
theorem gX11_field_X11_familyAt : GoodIn wsX11_field (wsV RX11 90 RX11 yX11_familyAt wsX11_familyAt) := goodIn_app (goodIn_of _ (by decide +kernel)) ggX11_field_X11_familyAt
theorem dX11_field_0 : decode cX11_field 0 = .ok (.aload_n 0, 1) := by decide +kernel
theorem dX11_field_1 : decode cX11_field 1 = .ok (.iload_n 1, 1) := by decide +kernel
theorem dX11_field_2 : decode cX11_field 2 = .ok (.invokevirtual 90, 3) := by decide +kernel
theorem dX11_field_5 : decode cX11_field 5 = .ok (.astore 4, 2) := by decide +kernel
theorem dX11_field_7 : decode cX11_field 7 = .ok (.aload 4, 2) := by decide +kernel
theorem dX11_field_9 : decode cX11_field 9 = .ok (.ifnull 18, 3) := by decide +kernel
theorem dX11_field_27 : decode cX11_field 27 = .ok (.new 49, 3) := by decide +kernel
theorem dX11_field_30 : decode cX11_field 30 = .ok (.dup, 1) := by decide +kernel
theorem dX11_field_31 : decode cX11_field 31 = .ok (.ldc 111, 2) := by decide +kernel
theorem dX11_field_33 : decode cX11_field 33 = .ok (.invokespecial 53, 3) := by decide +kernel
theorem dX11_field_36 : decode cX11_field 36 = .ok (.athrow, 1) := by decide +kernel
set_option maxRecDepth 20000 in
theorem ggX11_method_X11_familyAt : GoodIn wsX11_method wsX11_familyAt := goodIn_r _ [13, 14, 15, 60, 61, 62, 63, 64, 65, 66, 67, 68] (by decide +kernel) (by decide +kernel)
set_option maxRecDepth 20000 in
theorem gX11_method_X11_familyAt : GoodIn wsX11_method (wsV RX11 90 RX11 yX11_familyAt wsX11_familyAt) := goodIn_app (goodIn_of _ (by decide +kernel)) ggX11_method_X11_familyAt
theorem dX11_method_0 : decode cX11_method 0 = .ok (.aload_n 0, 1) := by decide +kernel
theorem dX11_method_1 : decode cX11_method 1 = .ok (.iload_n 1, 1) := by decide +kernel
theorem dX11_method_2 : decode cX11_method 2 = .ok (.invokevirtual 90, 3) := by decide +kernel
theorem dX11_method_5 : decode cX11_method 5 = .ok (.astore 7, 2) := by decide +kernel
theorem dX11_method_7 : decode cX11_method 7 = .ok (.aload 7, 2) := by decide +kernel
theorem dX11_method_9 : decode cX11_method 9 = .ok (.ifnull 31, 3) := by decide +kernel
theorem dX11_method_40 : decode cX11_method 40 = .ok (.new 49, 3) := by decide +kernel
theorem dX11_method_43 : decode cX11_method 43 = .ok (.dup, 1) := by decide +kernel
theorem dX11_method_44 : decode cX11_method 44 = .ok (.ldc 133, 2) := by decide +kernel
theorem dX11_method_46 : decode cX11_method 46 = .ok (.invokespecial 53, 3) := by decide +kernel
theorem dX11_method_49 : decode cX11_method 49 = .ok (.athrow, 1) := by decide +kernel
set_option maxRecDepth 20000 in
theorem ggX11_make_X11_familyAt : GoodIn wsX11_make wsX11_familyAt := goodIn_r _ [16, 17, 18, 47, 48, 49, 50, 51, 52, 53, 54, 55] (by decide +kernel) (by decide +kernel)
set_option maxRecDepth 20000 in
theorem gX11_make_X11_familyAt : GoodIn wsX11_make (wsV RX11 90 RX11 yX11_familyAt wsX11_familyAt) := goodIn_app (goodIn_of _ (by decide +kernel)) ggX11_make_X11_familyAt
theorem dX11_make_0 : decode cX11_make 0 = .ok (.aload_n 0, 1) := by decide +kernel
theorem dX11_make_1 : decode cX11_make 1 = .ok (.iload_n 1, 1) := by decide +kernel
theorem dX11_make_2 : decode cX11_make 2 = .ok (.invokevirtual 90, 3) := by decide +kernel
theorem dX11_make_5 : decode cX11_make 5 = .ok (.astore_n 2, 1) := by decide +kernel
theorem dX11_make_6 : decode cX11_make 6 = .ok (.aload_n 2, 1) := by decide +kernel
theorem dX11_make_7 : decode cX11_make 7 = .ok (.ifnonnull 13, 3) := by decide +kernel
theorem dX11_make_10 : decode cX11_make 10 = .ok (.new 49, 3) := by decide +kernel
theorem dX11_make_13 : decode cX11_make 13 = .ok (.dup, 1) := by decide +kernel
theorem dX11_make_14 : decode cX11_make 14 = .ok (.ldc 149, 2) := by decide +kernel
theorem dX11_make_16 : decode cX11_make 16 = .ok (.invokespecial 53, 3) := by decide +kernel
theorem dX11_make_19 : decode cX11_make 19 = .ok (.athrow, 1) := by decide +kernel
set_option maxRecDepth 20000 in
theorem ggX11_converter_X0_change : GoodIn wsX11_converter wsX0_change := goodIn_r _ [9, 10, 11, 12, 13, 8, 14, 32, 33] (by decide +kernel) (by decide +kernel)
set_option maxRecDepth 20000 in
theorem gX11_converter_X0_change : GoodIn wsX11_converter (wsV RX11 171 RX0 yX0_change wsX0_change) := goodIn_app (goodIn_of _ (by decide +kernel)) ggX11_converter_X0_change
theorem dX11_converter_0 : decode cX11_converter 0 = .ok (.iload_n 1, 1) := by decide +kernel
theorem dX11_converter_1 : decode cX11_converter 1 = .ok (.iconst 1, 1) := by decide +kernel
theorem dX11_converter_2 : decode cX11_converter 2 = .ok (.if_icmp .lt 8, 3) := by decide +kernel
theorem dX11_converter_5 : decode cX11_converter 5 = .ok (.iload_n 1, 1) := by decide +kernel
theorem dX11_converter_6 : decode cX11_converter 6 = .ok (.iconst 5, 1) := by decide +kernel
theorem dX11_converter_7 : decode cX11_converter 7 = .ok (.if_icmp .le 15, 3) := by decide +kernel
theorem dX11_converter_10 : decode cX11_converter 10 = .ok (.iload_n 1, 1) := by decide +kernel
theorem dX11_converter_11 : decode cX11_converter 11 = .ok (.bipush 8, 2) := by decide +kernel
theorem dX11_converter_13 : decode cX11_converter 13 = .ok (.if_icmp .lt 13, 3) := by decide +kernel
theorem dX11_converter_16 : decode cX11_converter 16 = .ok (.iload_n 1, 1) := by decide +kernel
theorem dX11_converter_17 : decode cX11_converter 17 = .ok (.bipush 13, 2) := by decide +kernel
theorem dX11_converter_19 : decode cX11_converter 19 = .ok (.if_icmp .ge 7, 3) := by decide +kernel
theorem dX11_converter_22 : decode cX11_converter 22 = .ok (.iconst 1, 1) := by decide +kernel
theorem dX11_converter_23 : decode cX11_converter 23 = .ok (.goto 4, 3) := by decide +kernel
theorem dX11_converter_26 : decode cX11_converter 26 = .ok (.iconst 0, 1) := by decide +kernel
theorem dX11_converter_27 : decode cX11_converter 27 = .ok (.istore 4, 2) := by decide +kernel
theorem dX11_converter_29 : decode cX11_converter 29 = .ok (.iload 4, 2) := by decide +kernel
theorem dX11_converter_31 : decode cX11_converter 31 = .ok (.ifCond .eq 18, 3) := by decide +kernel
theorem dX11_converter_34 : decode cX11_converter 34 = .ok (.iload_n 2, 1) := by decide +kernel
theorem dX11_converter_35 : decode cX11_converter 35 = .ok (.iconst 1, 1) := by decide +kernel
theorem dX11_converter_36 : decode cX11_converter 36 = .ok (.if_icmp .lt 13, 3) := by decide +kernel
theorem dX11_converter_39 : decode cX11_converter 39 = .ok (.iload_n 2, 1) := by decide +kernel
theorem dX11_converter_40 : decode cX11_converter 40 = .ok (.iconst 4, 1) := by decide +kernel
theorem dX11_converter_41 : decode cX11_converter 41 = .ok (.if_icmp .gt 8, 3) := by decide +kernel
theorem dX11_converter_44 : decode cX11_converter 44 = .ok (.iload_n 1, 1) := by decide +kernel
theorem dX11_converter_45 : decode cX11_converter 45 = .ok (.iload_n 2, 1) := by decide +kernel
theorem dX11_converter_46 : decode cX11_converter 46 = .ok (.if_icmp .ne 13, 3) := by decide +kernel
theorem dX11_converter_49 : decode cX11_converter 49 = .ok (.new 49, 3) := by decide +kernel
theorem dX11_converter_52 : decode cX11_converter 52 = .ok (.dup, 1) := by decide +kernel
theorem dX11_converter_53 : decode cX11_converter 53 = .ok (.ldc 165, 2) := by decide +kernel
theorem dX11_converter_55 : decode cX11_converter 55 = .ok (.invokespecial 53, 3) := by decide +kernel
theorem dX11_converter_58 : decode cX11_converter 58 = .ok (.athrow, 1) := by decide +kernel
theorem dX11_converter_59 : decode cX11_converter 59 = .ok (.aload_n 0, 1) := by decide +kernel
theorem dX11_converter_60 : decode cX11_converter 60 = .ok (.getfield 19, 3) := by decide +kernel
theorem dX11_converter_63 : decode cX11_converter 63 = .ok (.getfield 167, 3) := by decide +kernel
theorem dX11_converter_66 : decode cX11_converter 66 = .ok (.iload_n 1, 1) := by decide +kernel
theorem dX11_converter_67 : decode cX11_converter 67 = .ok (.iload_n 2, 1) := by decide +kernel
theorem dX11_converter_68 : decode cX11_converter 68 = .ok (.iload_n 3, 1) := by decide +kernel
theorem dX11_converter_69 : decode cX11_converter 69 = .ok (.invokevirtual 171, 3) := by decide +kernel
theorem dX11_converter_72 : decode cX11_converter 72 = .ok (.ireturn, 1) := by decide +kernel
set_option maxRecDepth 20000 in
theorem ggX11_run_X11_objectAt : GoodIn wsX11_run wsX11_objectAt := goodIn_r _ [13, 14, 15, 621, 622, 623, 624, 625, 626, 627, 628, 629] (by decide +kernel) (by decide +kernel)
set_option maxRecDepth 20000 in
theorem gX11_run_X11_objectAt : GoodIn wsX11_run (wsV RX11 177 RX11 yX11_objectAt wsX11_objectAt) := goodIn_app (goodIn_of _ (by decide +kernel)) ggX11_run_X11_objectAt
theorem dX11_run_0 : decode cX11_run 0 = .ok (.iload_n 1, 1) := by decide +kernel
theorem dX11_run_1 : decode cX11_run 1 = .ok (.ifCond .lt 29, 3) := by decide +kernel
theorem dX11_run_4 : decode cX11_run 4 = .ok (.iload_n 1, 1) := by decide +kernel
theorem dX11_run_5 : decode cX11_run 5 = .ok (.aload_n 0, 1) := by decide +kernel
theorem dX11_run_6 : decode cX11_run 6 = .ok (.getfield 75, 3) := by decide +kernel
theorem dX11_run_9 : decode cX11_run 9 = .ok (.if_icmp .ge 21, 3) := by decide +kernel
theorem dX11_run_30 : decode cX11_run 30 = .ok (.aconst_null, 1) := by decide +kernel
theorem dX11_run_31 : decode cX11_run 31 = .ok (.astore_n 3, 1) := by decide +kernel
theorem dX11_run_32 : decode cX11_run 32 = .ok (.iload_n 2, 1) := by decide +kernel
theorem dX11_run_33 : decode cX11_run 33 = .ok (.iconst (-1), 1) := by decide +kernel
theorem dX11_run_34 : decode cX11_run 34 = .ok (.if_icmp .ne 13, 3) := by decide +kernel
theorem dX11_run_37 : decode cX11_run 37 = .ok (.aload_n 0, 1) := by decide +kernel
theorem dX11_run_38 : decode cX11_run 38 = .ok (.getfield 19, 3) := by decide +kernel
theorem dX11_run_41 : decode cX11_run 41 = .ok (.getfield 155, 3) := by decide +kernel
theorem dX11_run_44 : decode cX11_run 44 = .ok (.goto 8, 3) := by decide +kernel
theorem dX11_run_47 : decode cX11_run 47 = .ok (.aload_n 0, 1) := by decide +kernel
theorem dX11_run_48 : decode cX11_run 48 = .ok (.iload_n 2, 1) := by decide +kernel
theorem dX11_run_49 : decode cX11_run 49 = .ok (.invokevirtual 177, 3) := by decide +kernel
theorem dX11_run_52 : decode cX11_run 52 = .ok (.astore 4, 2) := by decide +kernel
theorem dX11_run_54 : decode cX11_run 54 = .ok (.aload_n 3, 1) := by decide +kernel
theorem dX11_run_55 : decode cX11_run 55 = .ok (.ifnull 8, 3) := by decide +kernel
theorem dX11_run_63 : decode cX11_run 63 = .ok (.new 49, 3) := by decide +kernel
theorem dX11_run_66 : decode cX11_run 66 = .ok (.dup, 1) := by decide +kernel
theorem dX11_run_67 : decode cX11_run 67 = .ok (.ldc 181, 2) := by decide +kernel
theorem dX11_run_69 : decode cX11_run 69 = .ok (.invokespecial 53, 3) := by decide +kernel
theorem dX11_run_72 : decode cX11_run 72 = .ok (.athrow, 1) := by decide +kernel
set_option maxRecDepth 20000 in
theorem ggX11_keep_X11_isName : GoodIn wsX11_keep wsX11_isName := goodIn_r _ [11, 12] (by decide +kernel) (by decide +kernel)
set_option maxRecDepth 20000 in
theorem gX11_keep_X11_isName : GoodIn wsX11_keep (va_wsS RX11 104 yX11_isName wsX11_isName) := goodIn_app (goodIn_of _ (by decide +kernel)) ggX11_keep_X11_isName
set_option maxRecDepth 20000 in
theorem ggX11_keep_X8_setVariable : GoodIn wsX11_keep wsX8_setVariable := goodIn_r _ [17, 18, 19, 20, 35, 36, 37, 38, 39, 40, 41, 42] (by decide +kernel) (by decide +kernel)
set_option maxRecDepth 20000 in
theorem gX11_keep_X8_setVariable : GoodIn wsX11_keep (wsV RX11 196 RX8 yX8_setVariable wsX8_setVariable) := goodIn_app (goodIn_of _ (by decide +kernel)) ggX11_keep_X8_setVariable
theorem dX11_keep_0 : decode cX11_keep 0 = .ok (.iload_n 1, 1) := by decide +kernel
theorem dX11_keep_1 : decode cX11_keep 1 = .ok (.invokestatic 104, 3) := by decide +kernel
theorem dX11_keep_4 : decode cX11_keep 4 = .ok (.ifCond .ne 13, 3) := by decide +kernel
theorem dX11_keep_7 : decode cX11_keep 7 = .ok (.new 49, 3) := by decide +kernel
theorem dX11_keep_10 : decode cX11_keep 10 = .ok (.dup, 1) := by decide +kernel
theorem dX11_keep_11 : decode cX11_keep 11 = .ok (.ldc 194, 2) := by decide +kernel
theorem dX11_keep_13 : decode cX11_keep 13 = .ok (.invokespecial 53, 3) := by decide +kernel
theorem dX11_keep_16 : decode cX11_keep 16 = .ok (.athrow, 1) := by decide +kernel
theorem dX11_keep_17 : decode cX11_keep 17 = .ok (.aload_n 0, 1) := by decide +kernel
theorem dX11_keep_18 : decode cX11_keep 18 = .ok (.getfield 19, 3) := by decide +kernel
theorem dX11_keep_21 : decode cX11_keep 21 = .ok (.iload_n 1, 1) := by decide +kernel
theorem dX11_keep_22 : decode cX11_keep 22 = .ok (.aload_n 0, 1) := by decide +kernel
theorem dX11_keep_23 : decode cX11_keep 23 = .ok (.getfield 45, 3) := by decide +kernel
theorem dX11_keep_26 : decode cX11_keep 26 = .ok (.invokevirtual 196, 3) := by decide +kernel
theorem dX11_keep_29 : decode cX11_keep 29 = .ok (.ifCond .ne 13, 3) := by decide +kernel
theorem dX11_keep_42 : decode cX11_keep 42 = .ok (.aload_n 0, 1) := by decide +kernel
theorem dX11_keep_43 : decode cX11_keep 43 = .ok (.getfield 45, 3) := by decide +kernel
theorem dX11_keep_46 : decode cX11_keep 46 = .ok (.getfield 202, 3) := by decide +kernel
theorem dX11_keep_49 : decode cX11_keep 49 = .ok (.ireturn, 1) := by decide +kernel
theorem dX11_result_0 : decode cX11_result 0 = .ok (.iload_n 1, 1) := by decide +kernel
theorem dX11_result_1 : decode cX11_result 1 = .ok (.tableswitch 71 0 2 #[27, 35, 43], 27) := by decide +kernel
theorem dX11_result_28 : decode cX11_result 28 = .ok (.aload_n 0, 1) := by decide +kernel
theorem dX11_result_29 : decode cX11_result 29 = .ok (.getfield 45, 3) := by decide +kernel
theorem dX11_result_32 : decode cX11_result 32 = .ok (.getfield 202, 3) := by decide +kernel
theorem dX11_result_35 : decode cX11_result 35 = .ok (.ireturn, 1) := by decide +kernel
theorem dX11_result_36 : decode cX11_result 36 = .ok (.aload_n 0, 1) := by decide +kernel
theorem dX11_result_37 : decode cX11_result 37 = .ok (.getfield 45, 3) := by decide +kernel
theorem dX11_result_40 : decode cX11_result 40 = .ok (.getfield 205, 3) := by decide +kernel
theorem dX11_result_43 : decode cX11_result 43 = .ok (.ireturn, 1) := by decide +kernel
theorem dX11_result_44 : decode cX11_result 44 = .ok (.aload_n 0, 1) := by decide +kernel
theorem dX11_result_45 : decode cX11_result 45 = .ok (.getfield 45, 3) := by decide +kernel
theorem dX11_result_48 : decode cX11_result 48 = .ok (.getfield 202, 3) := by decide +kernel
theorem dX11_result_51 : decode cX11_result 51 = .ok (.iconst 3, 1) := by decide +kernel
theorem dX11_result_52 : decode cX11_result 52 = .ok (.if_icmp .ne 18, 3) := by decide +kernel
theorem dX11_result_70 : decode cX11_result 70 = .ok (.iconst 0, 1) := by decide +kernel
theorem dX11_result_71 : decode cX11_result 71 = .ok (.ireturn, 1) := by decide +kernel
theorem dX11_result_72 : decode cX11_result 72 = .ok (.iconst (-1), 1) := by decide +kernel
theorem dX11_result_73 : decode cX11_result 73 = .ok (.ireturn, 1) := by decide +kernel
set_option maxRecDepth 20000 in
theorem ggX11_text_J0_length_8abf5 : GoodIn wsX11_text wsJ0_length_8abf5 := goodIn_r _ [7, 8, 9, 10, 11, 6, 12, 13, 14, 66, 67, 68, 69] (by decide +kernel) (by decide +kernel)
set_option maxRecDepth 20000 in
theorem gX11_text_J0_length_8abf5 : GoodIn wsX11_text (wsV RX11 218 RJ0 yJ0_length_8abf5 wsJ0_length_8abf5) := goodIn_app (goodIn_of _ (by decide +kernel)) ggX11_text_J0_length_8abf5
theorem dX11_text_0 : decode cX11_text 0 = .ok (.iload_n 1, 1) := by decide +kernel
theorem dX11_text_1 : decode cX11_text 1 = .ok (.ifCond .lt 31, 3) := by decide +kernel
theorem dX11_text_4 : decode cX11_text 4 = .ok (.iload_n 1, 1) := by decide +kernel
theorem dX11_text_5 : decode cX11_text 5 = .ok (.aload_n 0, 1) := by decide +kernel
theorem dX11_text_6 : decode cX11_text 6 = .ok (.getfield 45, 3) := by decide +kernel
theorem dX11_text_9 : decode cX11_text 9 = .ok (.getfield 214, 3) := by decide +kernel
theorem dX11_text_12 : decode cX11_text 12 = .ok (.invokevirtual 218, 3) := by decide +kernel
theorem dX11_text_15 : decode cX11_text 15 = .ok (.if_icmp .ge 17, 3) := by decide +kernel
theorem dX11_text_32 : decode cX11_text 32 = .ok (.iconst (-1), 1) := by decide +kernel
theorem dX11_text_33 : decode cX11_text 33 = .ok (.ireturn, 1) := by decide +kernel
set_option maxRecDepth 20000 in
theorem ggX11_put_X11_objectAt : GoodIn wsX11_put wsX11_objectAt := goodIn_r _ [11, 12, 13, 387, 388, 389, 390, 391, 392, 393, 394, 395] (by decide +kernel) (by decide +kernel)
set_option maxRecDepth 20000 in
theorem gX11_put_X11_objectAt : GoodIn wsX11_put (wsV RX11 177 RX11 yX11_objectAt wsX11_objectAt) := goodIn_app (goodIn_of _ (by decide +kernel)) ggX11_put_X11_objectAt
theorem dX11_put_0 : decode cX11_put 0 = .ok (.aload_n 0, 1) := by decide +kernel
theorem dX11_put_1 : decode cX11_put 1 = .ok (.iload_n 1, 1) := by decide +kernel
theorem dX11_put_2 : decode cX11_put 2 = .ok (.invokevirtual 177, 3) := by decide +kernel
theorem dX11_put_5 : decode cX11_put 5 = .ok (.astore_n 3, 1) := by decide +kernel
theorem dX11_put_6 : decode cX11_put 6 = .ok (.aload_n 3, 1) := by decide +kernel
theorem dX11_put_7 : decode cX11_put 7 = .ok (.ifnonnull 13, 3) := by decide +kernel
theorem dX11_put_10 : decode cX11_put 10 = .ok (.new 49, 3) := by decide +kernel
theorem dX11_put_13 : decode cX11_put 13 = .ok (.dup, 1) := by decide +kernel
theorem dX11_put_14 : decode cX11_put 14 = .ok (.ldc 227, 2) := by decide +kernel
theorem dX11_put_16 : decode cX11_put 16 = .ok (.invokespecial 53, 3) := by decide +kernel
theorem dX11_put_19 : decode cX11_put 19 = .ok (.athrow, 1) := by decide +kernel
theorem dX11_about_0 : decode cX11_about 0 = .ok (.iload_n 1, 1) := by decide +kernel
theorem dX11_about_1 : decode cX11_about 1 = .ok (.tableswitch 69 0 4 #[35, 46, 51, 56, 61], 35) := by decide +kernel
theorem dX11_about_36 : decode cX11_about 36 = .ok (.aload_n 0, 1) := by decide +kernel
theorem dX11_about_37 : decode cX11_about 37 = .ok (.getfield 10, 3) := by decide +kernel
theorem dX11_about_40 : decode cX11_about 40 = .ok (.getfield 56, 3) := by decide +kernel
theorem dX11_about_43 : decode cX11_about 43 = .ok (.getfield 60, 3) := by decide +kernel
theorem dX11_about_46 : decode cX11_about 46 = .ok (.ireturn, 1) := by decide +kernel
theorem dX11_about_47 : decode cX11_about 47 = .ok (.aload_n 0, 1) := by decide +kernel
theorem dX11_about_48 : decode cX11_about 48 = .ok (.getfield 75, 3) := by decide +kernel
theorem dX11_about_51 : decode cX11_about 51 = .ok (.ireturn, 1) := by decide +kernel
theorem dX11_about_52 : decode cX11_about 52 = .ok (.aload_n 0, 1) := by decide +kernel
theorem dX11_about_53 : decode cX11_about 53 = .ok (.getfield 96, 3) := by decide +kernel
theorem dX11_about_56 : decode cX11_about 56 = .ok (.ireturn, 1) := by decide +kernel
theorem dX11_about_57 : decode cX11_about 57 = .ok (.aload_n 0, 1) := by decide +kernel
theorem dX11_about_58 : decode cX11_about 58 = .ok (.getfield 120, 3) := by decide +kernel
theorem dX11_about_61 : decode cX11_about 61 = .ok (.ireturn, 1) := by decide +kernel
theorem dX11_about_62 : decode cX11_about 62 = .ok (.aload_n 0, 1) := by decide +kernel
theorem dX11_about_63 : decode cX11_about 63 = .ok (.getfield 19, 3) := by decide +kernel
theorem dX11_about_66 : decode cX11_about 66 = .ok (.getfield 233, 3) := by decide +kernel
theorem dX11_about_69 : decode cX11_about 69 = .ok (.ireturn, 1) := by decide +kernel
theorem dX11_about_70 : decode cX11_about 70 = .ok (.iconst (-1), 1) := by decide +kernel
theorem dX11_about_71 : decode cX11_about 71 = .ok (.ireturn, 1) := by decide +kernel
theorem dX11_familyAt_0 : decode cX11_familyAt 0 = .ok (.iload_n 1, 1) := by decide +kernel
theorem dX11_familyAt_1 : decode cX11_familyAt 1 = .ok (.ifCond .lt 29, 3) := by decide +kernel
theorem dX11_familyAt_4 : decode cX11_familyAt 4 = .ok (.iload_n 1, 1) := by decide +kernel
theorem dX11_familyAt_5 : decode cX11_familyAt 5 = .ok (.aload_n 0, 1) := by decide +kernel
theorem dX11_familyAt_6 : decode cX11_familyAt 6 = .ok (.getfield 96, 3) := by decide +kernel
theorem dX11_familyAt_9 : decode cX11_familyAt 9 = .ok (.if_icmp .ge 21, 3) := by decide +kernel
theorem dX11_familyAt_30 : decode cX11_familyAt 30 = .ok (.aconst_null, 1) := by decide +kernel
theorem dX11_familyAt_31 : decode cX11_familyAt 31 = .ok (.areturn, 1) := by decide +kernel
theorem dX11_objectAt_0 : decode cX11_objectAt 0 = .ok (.iload_n 1, 1) := by decide +kernel
theorem dX11_objectAt_1 : decode cX11_objectAt 1 = .ok (.ifCond .lt 29, 3) := by decide +kernel
theorem dX11_objectAt_4 : decode cX11_objectAt 4 = .ok (.iload_n 1, 1) := by decide +kernel
theorem dX11_objectAt_5 : decode cX11_objectAt 5 = .ok (.aload_n 0, 1) := by decide +kernel
theorem dX11_objectAt_6 : decode cX11_objectAt 6 = .ok (.getfield 120, 3) := by decide +kernel
theorem dX11_objectAt_9 : decode cX11_objectAt 9 = .ok (.if_icmp .ge 21, 3) := by decide +kernel
theorem dX11_objectAt_30 : decode cX11_objectAt 30 = .ok (.aconst_null, 1) := by decide +kernel
theorem dX11_objectAt_31 : decode cX11_objectAt 31 = .ok (.areturn, 1) := by decide +kernel
theorem dX11_isName_0 : decode cX11_isName 0 = .ok (.iload_n 0, 1) := by decide +kernel
theorem dX11_isName_1 : decode cX11_isName 1 = .ok (.iconst 1, 1) := by decide +kernel
theorem dX11_isName_2 : decode cX11_isName 2 = .ok (.if_icmp .lt 13, 3) := by decide +kernel
theorem dX11_isName_5 : decode cX11_isName 5 = .ok (.iload_n 0, 1) := by decide +kernel
theorem dX11_isName_6 : decode cX11_isName 6 = .ok (.ldc 236, 2) := by decide +kernel
theorem dX11_isName_8 : decode cX11_isName 8 = .ok (.if_icmp .gt 7, 3) := by decide +kernel
theorem dX11_isName_11 : decode cX11_isName 11 = .ok (.iconst 1, 1) := by decide +kernel
theorem dX11_isName_12 : decode cX11_isName 12 = .ok (.goto 4, 3) := by decide +kernel
theorem dX11_isName_15 : decode cX11_isName 15 = .ok (.iconst 0, 1) := by decide +kernel
theorem dX11_isName_16 : decode cX11_isName 16 = .ok (.ireturn, 1) := by decide +kernel
theorem dX12_init_0 : decode cX12_init 0 = .ok (.aload_n 0, 1) := by decide +kernel
theorem dX12_init_1 : decode cX12_init 1 = .ok (.invokespecial 1, 3) := by decide +kernel
theorem dX12_init_4 : decode cX12_init 4 = .ok (.aload_n 0, 1) := by decide +kernel
theorem dX12_init_5 : decode cX12_init 5 = .ok (.bipush 40, 2) := by decide +kernel
theorem dX12_init_7 : decode cX12_init 7 = .ok (.newarray .int, 2) := by decide +kernel
theorem dX12_init_9 : decode cX12_init 9 = .ok (.putfield 7, 3) := by decide +kernel
theorem dX12_init_12 : decode cX12_init 12 = .ok (.aload_n 0, 1) := by decide +kernel
theorem dX12_init_13 : decode cX12_init 13 = .ok (.bipush 42, 2) := by decide +kernel
theorem dX12_init_15 : decode cX12_init 15 = .ok (.newarray .int, 2) := by decide +kernel
theorem dX12_init_17 : decode cX12_init 17 = .ok (.putfield 13, 3) := by decide +kernel
theorem dX12_init_20 : decode cX12_init 20 = .ok (.aload_n 0, 1) := by decide +kernel
theorem dX12_init_21 : decode cX12_init 21 = .ok (.bipush 42, 2) := by decide +kernel
theorem dX12_init_23 : decode cX12_init 23 = .ok (.newarray .int, 2) := by decide +kernel
theorem dX12_init_25 : decode cX12_init 25 = .ok (.putfield 16, 3) := by decide +kernel
theorem dX12_init_28 : decode cX12_init 28 = .ok (.aload_n 0, 1) := by decide +kernel
theorem dX12_init_29 : decode cX12_init 29 = .ok (.bipush 42, 2) := by decide +kernel
theorem dX12_init_31 : decode cX12_init 31 = .ok (.newarray .long, 2) := by decide +kernel
theorem dX12_init_33 : decode cX12_init 33 = .ok (.putfield 19, 3) := by decide +kernel
theorem dX12_init_36 : decode cX12_init 36 = .ok (.aload_n 0, 1) := by decide +kernel
theorem dX12_init_37 : decode cX12_init 37 = .ok (.bipush 42, 2) := by decide +kernel
theorem dX12_init_39 : decode cX12_init 39 = .ok (.newarray .int, 2) := by decide +kernel
theorem dX12_init_41 : decode cX12_init 41 = .ok (.putfield 23, 3) := by decide +kernel
theorem dX12_init_44 : decode cX12_init 44 = .ok (.aload_n 0, 1) := by decide +kernel
theorem dX12_init_45 : decode cX12_init 45 = .ok (.sipush 3600, 3) := by decide +kernel
theorem dX12_init_48 : decode cX12_init 48 = .ok (.newarray .int, 2) := by decide +kernel
theorem dX12_init_50 : decode cX12_init 50 = .ok (.putfield 26, 3) := by decide +kernel
theorem dX12_init_53 : decode cX12_init 53 = .ok (.aload_n 0, 1) := by decide +kernel
theorem dX12_init_54 : decode cX12_init 54 = .ok (.sipush 3600, 3) := by decide +kernel
theorem dX12_init_57 : decode cX12_init 57 = .ok (.newarray .long, 2) := by decide +kernel
theorem dX12_init_59 : decode cX12_init 59 = .ok (.putfield 29, 3) := by decide +kernel
theorem dX12_init_62 : decode cX12_init 62 = .ok (.aload_n 0, 1) := by decide +kernel
theorem dX12_init_63 : decode cX12_init 63 = .ok (.bipush 40, 2) := by decide +kernel
theorem dX12_init_65 : decode cX12_init 65 = .ok (.newarray .int, 2) := by decide +kernel
theorem dX12_init_67 : decode cX12_init 67 = .ok (.putfield 32, 3) := by decide +kernel
theorem dX12_init_70 : decode cX12_init 70 = .ok (.aload_n 0, 1) := by decide +kernel
theorem dX12_init_71 : decode cX12_init 71 = .ok (.bipush 8, 2) := by decide +kernel
theorem dX12_init_73 : decode cX12_init 73 = .ok (.newarray .int, 2) := by decide +kernel
theorem dX12_init_75 : decode cX12_init 75 = .ok (.putfield 35, 3) := by decide +kernel
theorem dX12_init_78 : decode cX12_init 78 = .ok (.aload_n 0, 1) := by decide +kernel
theorem dX12_init_79 : decode cX12_init 79 = .ok (.bipush 8, 2) := by decide +kernel
theorem dX12_init_81 : decode cX12_init 81 = .ok (.newarray .int, 2) := by decide +kernel
theorem dX12_init_83 : decode cX12_init 83 = .ok (.putfield 38, 3) := by decide +kernel
theorem dX12_init_86 : decode cX12_init 86 = .ok (.aload_n 0, 1) := by decide +kernel
theorem dX12_init_87 : decode cX12_init 87 = .ok (.bipush 8, 2) := by decide +kernel
theorem dX12_init_89 : decode cX12_init 89 = .ok (.newarray .int, 2) := by decide +kernel
theorem dX12_init_91 : decode cX12_init 91 = .ok (.putfield 41, 3) := by decide +kernel
theorem dX12_init_94 : decode cX12_init 94 = .ok (.aload_n 0, 1) := by decide +kernel
theorem dX12_init_95 : decode cX12_init 95 = .ok (.bipush 8, 2) := by decide +kernel
theorem dX12_init_97 : decode cX12_init 97 = .ok (.newarray .int, 2) := by decide +kernel
theorem dX12_init_99 : decode cX12_init 99 = .ok (.putfield 44, 3) := by decide +kernel
theorem dX12_init_102 : decode cX12_init 102 = .ok (.aload_n 0, 1) := by decide +kernel
theorem dX12_init_103 : decode cX12_init 103 = .ok (.bipush 8, 2) := by decide +kernel
theorem dX12_init_105 : decode cX12_init 105 = .ok (.newarray .int, 2) := by decide +kernel
theorem dX12_init_107 : decode cX12_init 107 = .ok (.putfield 47, 3) := by decide +kernel
theorem dX12_init_110 : decode cX12_init 110 = .ok (.aload_n 0, 1) := by decide +kernel
theorem dX12_init_111 : decode cX12_init 111 = .ok (.bipush 8, 2) := by decide +kernel
theorem dX12_init_113 : decode cX12_init 113 = .ok (.newarray .int, 2) := by decide +kernel
theorem dX12_init_115 : decode cX12_init 115 = .ok (.putfield 50, 3) := by decide +kernel
theorem dX12_init_118 : decode cX12_init 118 = .ok (.aload_n 0, 1) := by decide +kernel
theorem dX12_init_119 : decode cX12_init 119 = .ok (.bipush 8, 2) := by decide +kernel
theorem dX12_init_121 : decode cX12_init 121 = .ok (.newarray .boolean, 2) := by decide +kernel
theorem dX12_init_123 : decode cX12_init 123 = .ok (.putfield 53, 3) := by decide +kernel
