/-! ===== the class: its words ===== -/
def GWc0 : List Cond := [.code yX0_init cX0_init 1 none,
  .methodLink RX0 3 objectInit,
  .instanceMethod objectInit,
  .code objectInit ⟨#[0xb1]⟩ 1 none,
  .arrayClass .boolean,
  .fieldLink RX0 11 "PhraseDesk$Converters" "there" "[Z",
  .classLink RX0 15 RJ4,
  .instantiable RJ4 4,
  .initialized RJ4,
  .fieldLink RX0 18 "PhraseDesk$Converters" "scratch" "Ljava/lang/StringBuilder;",
  .methodLink RX0 17 yJ4_init_da8c8,
  .instanceMethod yJ4_init_da8c8,
  .code yJ4_init_da8c8 cJ4_init_da8c8 1 none,
  .methodLink RJ4 1 yJ5_init_d00df,
  .instanceMethod yJ5_init_d00df,
  .initialized RJ5,
  .code yJ5_init_d00df cJ5_init_d00df 2 none,
  .methodLink RJ5 3 objectInit,
  .fieldLink RJ5 18 "java/lang/String" "COMPACT_STRINGS" "Z",
  .arrayClass .byte,
  .fieldLink RJ5 15 "java/lang/AbstractStringBuilder" "value" "[B",
  .fieldLink RJ5 22 "java/lang/AbstractStringBuilder" "coder" "B",
  .methodLink RJ5 26 yJ2_newBytesFor_77867,
  .static yJ2_newBytesFor_77867,
  .initialized RJ2,
  .code yJ2_newBytesFor_77867 cJ2_newBytesFor_77867 1 (some (.array .byte)),
  .methodLink RJ2 11 yJ2_newBytesLength_0f7a4,
  .static yJ2_newBytesLength_0f7a4,
  .code yJ2_newBytesLength_0f7a4 cJ2_newBytesLength_0f7a4 1 (some .int),
  .constant RJ2 20 (1073741823),
  .code yX0_change cX0_change 6 (some .boolean),
  .methodLink RX0 22 yX0_isThere,
  .instanceMethod yX0_isThere,
  .selects RX0 yX0_isThere yX0_isThere,
  .initialized RX0,
  .code yX0_isThere cX0_isThere 4 (some .boolean),
  .code yX0_suit cX0_suit 3 (some .boolean),
  .methodLink RX0 26 yX10_fits,
  .instanceMethod yX10_fits,
  .selects RX10 yX10_fits yX10_fits]
def GWc1 : List Cond := [.initialized RX10,
  .code yX10_fits cX10_fits 2 (some .boolean),
  .fieldLink RX10 9 "PhraseDesk$Value" "kind" "I",
  .methodLink RX10 51 yX10_stepsUpTo,
  .instanceMethod yX10_stepsUpTo,
  .selects RX10 yX10_stepsUpTo yX10_stepsUpTo,
  .code yX10_stepsUpTo cX10_stepsUpTo 4 (some .int),
  .fieldLink RX10 26 "PhraseDesk$Value" "thing" "LPhraseDesk$Thing;",
  .fieldLink RX10 41 "PhraseDesk$Thing" "family" "LPhraseDesk$Family;",
  .fieldLink RX10 47 "PhraseDesk$Family" "kind" "I",
  .fieldLink RX10 55 "PhraseDesk$Family" "parent" "LPhraseDesk$Family;",
  .methodLink RX0 32 yX0_reach,
  .instanceMethod yX0_reach,
  .selects RX0 yX0_reach yX0_reach,
  .code yX0_reach cX0_reach 4 (some .boolean),
  .fieldLink RX0 36 "PhraseDesk$Value" "kind" "I",
  .fieldLink RX0 40 "PhraseDesk$Value" "thing" "LPhraseDesk$Thing;",
  .fieldLink RX0 44 "PhraseDesk$Thing" "family" "LPhraseDesk$Family;",
  .fieldLink RX0 50 "PhraseDesk$Family" "parent" "LPhraseDesk$Family;",
  .fieldLink RX0 55 "PhraseDesk$Family" "kind" "I",
  .code yX0_convert cX0_convert 4 (some (.object "PhraseDesk$Value")),
  .fieldLink RX0 63 "PhraseDesk$Value" "number" "I",
  .methodLink RX0 56 yX0_toBool,
  .static yX0_toBool,
  .code yX0_toBool cX0_toBool 2 (some (.object "PhraseDesk$Value")),
  .fieldLink RX0 78 "PhraseDesk$Value" "chars" "Ljava/lang/String;",
  .fieldLink RX0 96 "PhraseDesk$Value" "real" "D",
  .methodLink RX0 84 yJ0_equals_9ea2d,
  .instanceMethod yJ0_equals_9ea2d,
  .selects RJ0 yJ0_equals_9ea2d yJ0_equals_9ea2d,
  .initialized RJ0,
  .code yJ0_equals_9ea2d cJ0_equals_9ea2d 3 (some .boolean),
  .classLink RJ0 10 "java/lang/String",
  .fieldLink RJ0 38 "java/lang/String" "COMPACT_STRINGS" "Z",
  .fieldLink RJ0 15 "java/lang/String" "coder" "B",
  .fieldLink RJ0 9 "java/lang/String" "value" "[B",
  .methodLink RJ0 541 yJ1_equals_b5fdf,
  .static yJ1_equals_b5fdf,
  .initialized RJ1,
  .code yJ1_equals_b5fdf cJ1_equals_b5fdf 3 (some .boolean)]
def GWc2 : List Cond := [.methodLink RX0 92 yX10_ofBool,
  .static yX10_ofBool,
  .code yX10_ofBool cX10_ofBool 1 (some (.object "PhraseDesk$Value")),
  .classLink RX10 10 RX10,
  .instantiable RX10 5,
  .methodLink RX10 32 yX10_init,
  .instanceMethod yX10_init,
  .code yX10_init cX10_init 7 none,
  .methodLink RX10 3 objectInit,
  .fieldLink RX10 15 "PhraseDesk$Value" "number" "I",
  .fieldLink RX10 18 "PhraseDesk$Value" "real" "D",
  .fieldLink RX10 22 "PhraseDesk$Value" "chars" "Ljava/lang/String;",
  .methodLink RX0 60 yX0_toInt,
  .static yX0_toInt,
  .code yX0_toInt cX0_toInt 8 (some (.object "PhraseDesk$Value")),
  .methodLink RX0 100 yX10_ofInt,
  .static yX10_ofInt,
  .code yX10_ofInt cX10_ofInt 1 (some (.object "PhraseDesk$Value")),
  .methodLink RX0 104 yJ0_length_8abf5,
  .instanceMethod yJ0_length_8abf5,
  .selects RJ0 yJ0_length_8abf5 yJ0_length_8abf5,
  .code yJ0_length_8abf5 cJ0_length_8abf5 1 (some .int),
  .methodLink RJ0 335 yJ0_coder_7d493,
  .instanceMethod yJ0_coder_7d493,
  .selects RJ0 yJ0_coder_7d493 yJ0_coder_7d493,
  .code yJ0_coder_7d493 cJ0_coder_7d493 1 (some .byte),
  .methodLink RX0 108 yJ0_charAt_5068e,
  .instanceMethod yJ0_charAt_5068e,
  .selects RJ0 yJ0_charAt_5068e yJ0_charAt_5068e,
  .code yJ0_charAt_5068e cJ0_charAt_5068e 2 (some .char),
  .methodLink RJ0 492 yJ0_isLatin1_aae02,
  .instanceMethod yJ0_isLatin1_aae02,
  .selects RJ0 yJ0_isLatin1_aae02 yJ0_isLatin1_aae02,
  .code yJ0_isLatin1_aae02 cJ0_isLatin1_aae02 1 (some .boolean),
  .methodLink RJ0 495 yJ1_charAt_3b067,
  .static yJ1_charAt_3b067,
  .code yJ1_charAt_3b067 cJ1_charAt_3b067 2 (some .char),
  .methodLink RJ1 9 yJ0_checkIndex_df160,
  .static yJ0_checkIndex_df160,
  .code yJ0_checkIndex_df160 cJ0_checkIndex_df160 2 none]
def GWc3 : List Cond := [.fieldLink RJ0 1053 "jdk/internal/util/Preconditions" "SIOOBE_FORMATTER" "Ljava/util/function/BiFunction;",
  .methodLink RJ0 1059 yJ3_checkIndex_8e157,
  .static yJ3_checkIndex_8e157,
  .initialized RJ3,
  .code yJ3_checkIndex_8e157 cJ3_checkIndex_8e157 3 (some .int),
  .methodLink RJ0 498 yJ2_charAt_3b067,
  .static yJ2_charAt_3b067,
  .code yJ2_charAt_3b067 cJ2_charAt_3b067 2 (some .char),
  .methodLink RJ2 67 yJ2_checkIndex_2214a,
  .static yJ2_checkIndex_2214a,
  .code yJ2_checkIndex_2214a cJ2_checkIndex_2214a 2 none,
  .methodLink RJ2 48 yJ2_length_9d52b,
  .static yJ2_length_9d52b,
  .code yJ2_length_9d52b cJ2_length_9d52b 1 (some .int),
  .methodLink RJ2 414 yJ0_checkIndex_df160,
  .methodLink RJ2 71 yJ2_getChar_3b067,
  .static yJ2_getChar_3b067,
  .code yJ2_getChar_3b067 cJ2_getChar_3b067 2 (some .char),
  .fieldLink RJ2 44 "java/lang/StringUTF16" "$assertionsDisabled" "Z",
  .fieldLink RJ2 59 "java/lang/StringUTF16" "HI_BYTE_SHIFT" "I",
  .fieldLink RJ2 63 "java/lang/StringUTF16" "LO_BYTE_SHIFT" "I",
  .methodLink RX0 66 yX10_ofReal,
  .static yX10_ofReal,
  .code yX10_ofReal cX10_ofReal 2 (some (.object "PhraseDesk$Value")),
  .methodLink RX0 70 yX0_asText,
  .instanceMethod yX0_asText,
  .selects RX0 yX0_asText yX0_asText,
  .code yX0_asText cX0_asText 2 (some (.object "java/lang/String")),
  .methodLink RX0 114 yJ4_setLength_d00df,
  .instanceMethod yJ4_setLength_d00df,
  .selects RJ4 yJ4_setLength_d00df yJ4_setLength_d00df,
  .code yJ4_setLength_d00df cJ4_setLength_d00df 2 none,
  .methodLink RJ4 333 yJ5_setLength_d00df,
  .sameMethod "java/lang/AbstractStringBuilder" "java/lang/AbstractStringBuilder" "setLength" "(I)V",
  .superclass RJ4 RJ5,
  .instanceMethod yJ5_setLength_d00df,
  .code yJ5_setLength_d00df cJ5_setLength_d00df 2 none,
  .fieldLink RJ5 79 "java/lang/AbstractStringBuilder" "count" "I",
  .fieldLink RJ5 73 "java/lang/AbstractStringBuilder" "maybeLatin1" "Z",
  .methodLink RJ5 100 ⟨"java/lang/AbstractStringBuilder", "ensureCapacityInternal", "(I)V"⟩]
def GWc4 : List Cond := [.sameMethod "java/lang/AbstractStringBuilder" "java/lang/AbstractStringBuilder" "ensureCapacityInternal" "(I)V",
  .selects RJ4 ⟨"java/lang/AbstractStringBuilder", "ensureCapacityInternal", "(I)V"⟩ yJ5_ensureCapacityInternal_d00df,
  .instanceMethod yJ5_ensureCapacityInternal_d00df,
  .code yJ5_ensureCapacityInternal_d00df cJ5_ensureCapacityInternal_d00df 3 none,
  .methodLink RJ5 104 ⟨"java/lang/AbstractStringBuilder", "newCapacity", "(I)I"⟩,
  .sameMethod "java/lang/AbstractStringBuilder" "java/lang/AbstractStringBuilder" "newCapacity" "(I)I",
  .selects RJ4 ⟨"java/lang/AbstractStringBuilder", "newCapacity", "(I)I"⟩ yJ5_newCapacity_0f7a4,
  .instanceMethod yJ5_newCapacity_0f7a4,
  .code yJ5_newCapacity_0f7a4 cJ5_newCapacity_0f7a4 6 (some .int),
  .constant RJ5 39 (2147483647),
  .methodLink RJ5 114 yJ8_newLength_cabcc,
  .static yJ8_newLength_cabcc,
  .initialized RJ8,
  .code yJ8_newLength_cabcc cJ8_newLength_cabcc 4 (some .int),
  .methodLink RJ8 194 Lib.Math.max.name,
  .static Lib.Math.max.name,
  .initialized "java/lang/Math",
  .code Lib.Math.max.name Lib.Math.max.code 2 (some .int),
  .constant RJ8 200 (2147483639),
  .methodLink RJ8 201 yJ8_hugeLength_7cf53,
  .static yJ8_hugeLength_7cf53,
  .code yJ8_hugeLength_7cf53 cJ8_hugeLength_7cf53 3 (some .int),
  .methodLink RJ5 108 yJ7_copyOf_9075b,
  .static yJ7_copyOf_9075b,
  .initialized RJ7,
  .code yJ7_copyOf_9075b cJ7_copyOf_9075b 3 (some (.array .byte)),
  .methodLink RJ7 310 ⟨"[B", "clone", "()Ljava/lang/Object;"⟩,
  .sameMethod "[B" "java/lang/Object" "clone" "()Ljava/lang/Object;",
  .native ⟨"java/lang/Object", "clone", "()Ljava/lang/Object;"⟩,
  .instanceMethod ⟨"java/lang/Object", "clone", "()Ljava/lang/Object;"⟩,
  .selects "[B" ⟨"[B", "clone", "()Ljava/lang/Object;"⟩ ⟨"java/lang/Object", "clone", "()Ljava/lang/Object;"⟩,
  .classLink RJ7 311 "[B",
  .methodLink RJ7 304 Lib.Math.min.name,
  .static Lib.Math.min.name,
  .code Lib.Math.min.name Lib.Math.min.code 2 (some .int),
  .methodLink RJ7 150 arraycopyName,
  .native arraycopyName,
  .static arraycopyName,
  .initialized "java/lang/System",
  .methodLink RJ5 83 ⟨"java/lang/AbstractStringBuilder", "isLatin1", "()Z"⟩]
def GWc5 : List Cond := [.sameMethod "java/lang/AbstractStringBuilder" "java/lang/AbstractStringBuilder" "isLatin1" "()Z",
  .selects RJ4 ⟨"java/lang/AbstractStringBuilder", "isLatin1", "()Z"⟩ yJ5_isLatin1_aae02,
  .instanceMethod yJ5_isLatin1_aae02,
  .code yJ5_isLatin1_aae02 cJ5_isLatin1_aae02 1 (some .boolean),
  .methodLink RJ5 133 yJ1_fillNull_b72d1,
  .static yJ1_fillNull_b72d1,
  .code yJ1_fillNull_b72d1 cJ1_fillNull_b72d1 3 none,
  .methodLink RJ1 236 yJ7_fill_eb02e,
  .static yJ7_fill_eb02e,
  .code yJ7_fill_eb02e cJ7_fill_eb02e 5 none,
  .methodLink RJ7 13 yJ7_rangeCheck_23922,
  .static yJ7_rangeCheck_23922,
  .code yJ7_rangeCheck_23922 cJ7_rangeCheck_23922 3 none,
  .classLink RJ7 45 RJ4,
  .methodLink RJ5 137 yJ2_fillNull_b72d1,
  .static yJ2_fillNull_b72d1,
  .code yJ2_fillNull_b72d1 cJ2_fillNull_b72d1 3 none,
  .methodLink RJ2 380 yJ7_fill_eb02e,
  .methodLink RX0 118 yJ4_append_cf468,
  .instanceMethod yJ4_append_cf468,
  .selects RJ4 yJ4_append_cf468 yJ4_append_cf468,
  .code yJ4_append_cf468 cJ4_append_cf468 2 (some (.object "java/lang/StringBuilder")),
  .methodLink RJ4 50 yJ5_append_3fe6f,
  .sameMethod "java/lang/AbstractStringBuilder" "java/lang/AbstractStringBuilder" "append" "(C)Ljava/lang/AbstractStringBuilder;",
  .instanceMethod yJ5_append_3fe6f,
  .code yJ5_append_3fe6f cJ5_append_3fe6f 2 (some (.object "java/lang/AbstractStringBuilder")),
  .methodLink RJ5 191 yJ1_canEncode_fc78d,
  .static yJ1_canEncode_fc78d,
  .code yJ1_canEncode_fc78d cJ1_canEncode_fc78d 1 (some .boolean),
  .methodLink RJ5 195 ⟨"java/lang/AbstractStringBuilder", "inflate", "()V"⟩,
  .sameMethod "java/lang/AbstractStringBuilder" "java/lang/AbstractStringBuilder" "inflate" "()V",
  .selects RJ4 ⟨"java/lang/AbstractStringBuilder", "inflate", "()V"⟩ yJ5_inflate_da8c8,
  .instanceMethod yJ5_inflate_da8c8,
  .code yJ5_inflate_da8c8 cJ5_inflate_da8c8 2 none,
  .methodLink RJ5 125 yJ1_inflate_0e8fd,
  .static yJ1_inflate_0e8fd,
  .code yJ1_inflate_0e8fd cJ1_inflate_0e8fd 5 none,
  .methodLink RJ1 240 yJ2_inflate_0e8fd,
  .static yJ2_inflate_0e8fd,
  .code yJ2_inflate_0e8fd cJ2_inflate_0e8fd 6 none]
def GWc6 : List Cond := [.methodLink RJ2 173 yJ2_checkBoundsOffCount_d044e,
  .static yJ2_checkBoundsOffCount_d044e,
  .code yJ2_checkBoundsOffCount_d044e cJ2_checkBoundsOffCount_d044e 3 none,
  .methodLink RJ2 419 yJ0_checkBoundsOffCount_cabcc,
  .static yJ0_checkBoundsOffCount_cabcc,
  .code yJ0_checkBoundsOffCount_cabcc cJ0_checkBoundsOffCount_cabcc 3 (some .int),
  .methodLink RJ0 1065 yJ3_checkFromIndexSize_8c36e,
  .static yJ3_checkFromIndexSize_8c36e,
  .code yJ3_checkFromIndexSize_8c36e cJ3_checkFromIndexSize_8c36e 4 (some .int),
  .methodLink RJ2 111 yJ2_putChar_b72d1,
  .static yJ2_putChar_b72d1,
  .code yJ2_putChar_b72d1 cJ2_putChar_b72d1 3 none,
  .methodLink RJ5 197 yJ2_putCharSB_b72d1,
  .static yJ2_putCharSB_b72d1,
  .code yJ2_putCharSB_b72d1 cJ2_putCharSB_b72d1 3 none,
  .methodLink RX0 122 yJ4_append_bf812,
  .instanceMethod yJ4_append_bf812,
  .selects RJ4 yJ4_append_bf812 yJ4_append_bf812,
  .code yJ4_append_bf812 cJ4_append_bf812 2 (some (.object "java/lang/StringBuilder")),
  .methodLink RJ4 53 yJ5_append_c97b9,
  .sameMethod "java/lang/AbstractStringBuilder" "java/lang/AbstractStringBuilder" "append" "(I)Ljava/lang/AbstractStringBuilder;",
  .instanceMethod yJ5_append_c97b9,
  .code yJ5_append_c97b9 cJ5_append_c97b9 4 (some (.object "java/lang/AbstractStringBuilder")),
  .methodLink RJ5 245 yJ6_stringSize_0f7a4,
  .static yJ6_stringSize_0f7a4,
  .initialized RJ6,
  .code yJ6_stringSize_0f7a4 cJ6_stringSize_0f7a4 4 (some .int),
  .methodLink RJ5 248 yJ6_getChars_ba4f3,
  .static yJ6_getChars_ba4f3,
  .code yJ6_getChars_ba4f3 cJ6_getChars_ba4f3 7 (some .int),
  .fieldLink RJ6 83 "java/lang/Integer" "DigitOnes" "[B",
  .fieldLink RJ6 87 "java/lang/Integer" "DigitTens" "[B",
  .methodLink RJ5 251 yJ2_getChars_46870,
  .static yJ2_getChars_46870,
  .code yJ2_getChars_46870 cJ2_getChars_46870 5 (some .int),
  .methodLink RJ2 96 yJ2_checkBoundsBeginEnd_d044e,
  .static yJ2_checkBoundsBeginEnd_d044e,
  .code yJ2_checkBoundsBeginEnd_d044e cJ2_checkBoundsBeginEnd_d044e 3 none,
  .methodLink RJ2 241 yJ0_checkBoundsBeginEnd_23922,
  .static yJ0_checkBoundsBeginEnd_23922]
def GWc7 : List Cond := [.code yJ0_checkBoundsBeginEnd_23922 cJ0_checkBoundsBeginEnd_23922 3 none,
  .methodLink RJ0 1062 yJ3_checkFromToIndex_8c36e,
  .static yJ3_checkFromToIndex_8c36e,
  .code yJ3_checkFromToIndex_8c36e cJ3_checkFromToIndex_8c36e 4 (some .int),
  .methodLink RJ2 393 yJ2_getChars_ba4f3,
  .static yJ2_getChars_ba4f3,
  .code yJ2_getChars_ba4f3 cJ2_getChars_ba4f3 7 (some .int),
  .fieldLink RJ2 403 "java/lang/Integer" "DigitOnes" "[B",
  .fieldLink RJ2 407 "java/lang/Integer" "DigitTens" "[B",
  .methodLink RX0 125 yJ4_toString_0e30d,
  .instanceMethod yJ4_toString_0e30d,
  .selects RJ4 yJ4_toString_0e30d yJ4_toString_0e30d,
  .code yJ4_toString_0e30d cJ4_toString_0e30d 1 (some (.object "java/lang/String")),
  .classLink RJ4 18 RJ0,
  .instantiable RJ0 4,
  .methodLink RJ4 137 yJ0_init_81219,
  .instanceMethod yJ0_init_81219,
  .code yJ0_init_81219 cJ0_init_81219 2 none,
  .methodLink RJ0 489 yJ0_init_db425,
  .instanceMethod yJ0_init_db425,
  .code yJ0_init_db425 cJ0_init_db425 5 none,
  .methodLink RJ0 1 objectInit,
  .fieldLink RJ0 1048 "java/lang/AbstractStringBuilder" "maybeLatin1" "Z",
  .methodLink RJ0 552 ⟨"java/lang/AbstractStringBuilder", "getValue", "()[B"⟩,
  .sameMethod "java/lang/AbstractStringBuilder" "java/lang/AbstractStringBuilder" "getValue" "()[B",
  .selects RJ4 ⟨"java/lang/AbstractStringBuilder", "getValue", "()[B"⟩ yJ5_getValue_6d5f1,
  .instanceMethod yJ5_getValue_6d5f1,
  .code yJ5_getValue_6d5f1 cJ5_getValue_6d5f1 1 (some (.array .byte)),
  .methodLink RJ0 549 ⟨"java/lang/AbstractStringBuilder", "length", "()I"⟩,
  .sameMethod "java/lang/AbstractStringBuilder" "java/lang/AbstractStringBuilder" "length" "()I",
  .instanceMethod ⟨"java/lang/AbstractStringBuilder", "length", "()I"⟩,
  .selects RJ4 ⟨"java/lang/AbstractStringBuilder", "length", "()I"⟩ yJ4_length_8abf5,
  .instanceMethod yJ4_length_8abf5,
  .code yJ4_length_8abf5 cJ4_length_8abf5 1 (some .int),
  .methodLink RJ4 343 yJ5_length_8abf5,
  .instanceMethod yJ5_length_8abf5,
  .code yJ5_length_8abf5 cJ5_length_8abf5 1 (some .int),
  .methodLink RJ0 1047 ⟨"java/lang/AbstractStringBuilder", "isLatin1", "()Z"⟩,
  .methodLink RJ0 54 yJ7_copyOfRange_39247,
  .static yJ7_copyOfRange_39247]
def GWc8 : List Cond := [.code yJ7_copyOfRange_39247 cJ7_copyOfRange_39247 3 (some (.array .byte)),
  .methodLink RJ7 339 yJ7_copyOfRangeByte_39247,
  .static yJ7_copyOfRangeByte_39247,
  .code yJ7_copyOfRangeByte_39247 cJ7_copyOfRangeByte_39247 5 (some (.array .byte)),
  .methodLink RJ7 343 yJ7_checkLength_df160,
  .static yJ7_checkLength_df160,
  .code yJ7_checkLength_df160 cJ7_checkLength_df160 2 none,
  .methodLink RJ0 1051 yJ2_compress_39247,
  .static yJ2_compress_39247,
  .code yJ2_compress_39247 cJ2_compress_39247 6 (some (.array .byte)),
  .methodLink RJ2 123 yJ2_compress_5af95,
  .static yJ2_compress_5af95,
  .code yJ2_compress_5af95 cJ2_compress_5af95 7 (some .int),
  .methodLink RJ2 126 yJ7_copyOfRange_39247,
  .methodLink RJ0 47 yJ2_coderFromArrayLen_85cad,
  .static yJ2_coderFromArrayLen_85cad,
  .code yJ2_coderFromArrayLen_85cad cJ2_coderFromArrayLen_85cad 2 (some .byte),
  .methodLink RX0 74 yX10_ofText,
  .static yX10_ofText,
  .code yX10_ofText cX10_ofText 1 (some (.object "PhraseDesk$Value")),
  .methodLink RX10 35 yJ0_length_8abf5,
  .code yX0_join cX0_join 5 (some (.object "PhraseDesk$Value")),
  .methodLink RX0 129 yJ4_append_15ec4,
  .instanceMethod yJ4_append_15ec4,
  .selects RJ4 yJ4_append_15ec4 yJ4_append_15ec4,
  .code yJ4_append_15ec4 cJ4_append_15ec4 2 (some (.object "java/lang/StringBuilder")),
  .methodLink RJ4 29 yJ5_append_cf1ce,
  .sameMethod "java/lang/AbstractStringBuilder" "java/lang/AbstractStringBuilder" "append" "(Ljava/lang/String;)Ljava/lang/AbstractStringBuilder;",
  .instanceMethod yJ5_append_cf1ce,
  .code yJ5_append_cf1ce cJ5_append_cf1ce 3 (some (.object "java/lang/AbstractStringBuilder")),
  .methodLink RJ5 204 ⟨"java/lang/AbstractStringBuilder", "appendNull", "()Ljava/lang/AbstractStringBuilder;"⟩,
  .sameMethod "java/lang/AbstractStringBuilder" "java/lang/AbstractStringBuilder" "appendNull" "()Ljava/lang/AbstractStringBuilder;",
  .selects RJ4 ⟨"java/lang/AbstractStringBuilder", "appendNull", "()Ljava/lang/AbstractStringBuilder;"⟩ yJ5_appendNull_278bc,
  .instanceMethod yJ5_appendNull_278bc,
  .code yJ5_appendNull_278bc cJ5_appendNull_278bc 3 (some (.object "java/lang/AbstractStringBuilder")),
  .methodLink RJ5 226 yJ2_putCharsAt_cd4e5,
  .static yJ2_putCharsAt_cd4e5,
  .code yJ2_putCharsAt_cd4e5 cJ2_putCharsAt_cd4e5 7 (some .int),
  .methodLink RJ5 32 yJ0_length_8abf5,
  .methodLink RJ5 208 ⟨"java/lang/AbstractStringBuilder", "putStringAt", "(ILjava/lang/String;)V"⟩]
def GWc9 : List Cond := [.sameMethod "java/lang/AbstractStringBuilder" "java/lang/AbstractStringBuilder" "putStringAt" "(ILjava/lang/String;)V",
  .selects RJ4 ⟨"java/lang/AbstractStringBuilder", "putStringAt", "(ILjava/lang/String;)V"⟩ yJ5_putStringAt_47b60,
  .instanceMethod yJ5_putStringAt_47b60,
  .code yJ5_putStringAt_47b60 cJ5_putStringAt_47b60 3 none,
  .methodLink RJ5 397 ⟨"java/lang/AbstractStringBuilder", "inflateIfNeededFor", "(Ljava/lang/String;)V"⟩,
  .sameMethod "java/lang/AbstractStringBuilder" "java/lang/AbstractStringBuilder" "inflateIfNeededFor" "(Ljava/lang/String;)V",
  .selects RJ4 ⟨"java/lang/AbstractStringBuilder", "inflateIfNeededFor", "(Ljava/lang/String;)V"⟩ yJ5_inflateIfNeededFor_a7421,
  .instanceMethod yJ5_inflateIfNeededFor_a7421,
  .code yJ5_inflateIfNeededFor_a7421 cJ5_inflateIfNeededFor_a7421 2 none,
  .methodLink RJ5 40 yJ0_coder_7d493,
  .methodLink RJ5 399 yJ0_getBytes_840e7,
  .instanceMethod yJ0_getBytes_840e7,
  .selects RJ0 yJ0_getBytes_840e7 yJ0_getBytes_840e7,
  .code yJ0_getBytes_840e7 cJ0_getBytes_840e7 4 none,
  .methodLink RJ0 212 arraycopyName,
  .methodLink RJ0 106 yJ1_inflate_0e8fd,
  .code yX1_init cX1_init 3 none,
  .methodLink RX1 3 objectInit,
  .fieldLink RX1 9 "PhraseDesk$Family" "number" "I",
  .fieldLink RX1 15 "PhraseDesk$Family" "kind" "I",
  .fieldLink RX1 18 "PhraseDesk$Family" "parent" "LPhraseDesk$Family;",
  .classLink RX1 22 RX2,
  .fieldLink RX1 24 "PhraseDesk$Family" "fields" "[LPhraseDesk$Field;",
  .classLink RX1 28 RX7,
  .fieldLink RX1 30 "PhraseDesk$Family" "routines" "[LPhraseDesk$Routine;",
  .code yX1_addField cX1_addField 3 none,
  .fieldLink RX1 34 "PhraseDesk$Family" "fieldCount" "I",
  .instantiable RX2 3,
  .initialized RX2,
  .methodLink RX1 37 yX2_init,
  .instanceMethod yX2_init,
  .code yX2_init cX2_init 4 none,
  .methodLink RX2 1 objectInit,
  .fieldLink RX2 7 "PhraseDesk$Field" "name" "I",
  .fieldLink RX2 13 "PhraseDesk$Field" "type" "I",
  .fieldLink RX2 16 "PhraseDesk$Field" "slot" "I",
  .code yX1_addRoutine cX1_addRoutine 2 none,
  .fieldLink RX1 40 "PhraseDesk$Family" "routineCount" "I",
  .code yX1_routineAt cX1_routineAt 2 (some (.object "PhraseDesk$Routine")),
  .code yX1_ownField cX1_ownField 4 (some (.object "PhraseDesk$Field"))]
def GWc10 : List Cond := [.fieldLink RX1 43 "PhraseDesk$Field" "name" "I",
  .code yX1_nearestField cX1_nearestField 4 (some (.object "PhraseDesk$Field")),
  .methodLink RX1 46 yX1_ownField,
  .instanceMethod yX1_ownField,
  .selects RX1 yX1_ownField yX1_ownField,
  .initialized RX1,
  .code yX3_init cX3_init 1 none,
  .methodLink RX3 3 objectInit,
  .classLink RX3 9 RX7,
  .fieldLink RX3 11 "PhraseDesk$Finder" "candidates" "[LPhraseDesk$Routine;",
  .code yX3_find cX3_find 7 (some (.object "PhraseDesk$Routine")),
  .fieldLink RX3 17 "PhraseDesk$Node" "name" "I",
  .methodLink RX3 23 yX5_arguments,
  .instanceMethod yX5_arguments,
  .selects RX5 yX5_arguments yX5_arguments,
  .initialized RX5,
  .code yX5_arguments cX5_arguments 1 (some .int),
  .fieldLink RX5 24 "PhraseDesk$Node" "two" "LPhraseDesk$Node;",
  .fieldLink RX5 27 "PhraseDesk$Node" "three" "LPhraseDesk$Node;",
  .methodLink RX3 27 yX3_collect,
  .instanceMethod yX3_collect,
  .selects RX3 yX3_collect yX3_collect,
  .initialized RX3,
  .code yX3_collect cX3_collect 7 none,
  .fieldLink RX3 42 "PhraseDesk$Finder" "count" "I",
  .fieldLink RX3 45 "PhraseDesk$Family" "routineCount" "I",
  .fieldLink RX3 54 "PhraseDesk$Routine" "name" "I",
  .fieldLink RX3 55 "PhraseDesk$Routine" "parameters" "I",
  .fieldLink RX3 62 "PhraseDesk$Family" "parent" "LPhraseDesk$Family;",
  .methodLink RX3 50 yX1_routineAt,
  .instanceMethod yX1_routineAt,
  .selects RX1 yX1_routineAt yX1_routineAt,
  .methodLink RX3 58 yX3_addUnlessHidden,
  .instanceMethod yX3_addUnlessHidden,
  .selects RX3 yX3_addUnlessHidden yX3_addUnlessHidden,
  .code yX3_addUnlessHidden cX3_addUnlessHidden 4 none,
  .fieldLink RX3 66 "PhraseDesk$Routine" "one" "I",
  .fieldLink RX3 69 "PhraseDesk$Routine" "two" "I",
  .methodLink RX3 31 yX3_exact,
  .instanceMethod yX3_exact]
def GWc11 : List Cond := [.selects RX3 yX3_exact yX3_exact,
  .code yX3_exact cX3_exact 5 (some (.object "PhraseDesk$Routine")),
  .fieldLink RX3 72 "PhraseDesk$Value" "kind" "I",
  .methodLink RX3 35 yX3_closest,
  .instanceMethod yX3_closest,
  .selects RX3 yX3_closest yX3_closest,
  .code yX3_closest cX3_closest 8 (some (.object "PhraseDesk$Routine")),
  .methodLink RX3 77 yX10_fits,
  .methodLink RX3 81 yX10_weight,
  .instanceMethod yX10_weight,
  .selects RX10 yX10_weight yX10_weight,
  .code yX10_weight cX10_weight 2 (some .int),
  .methodLink RX3 38 yX3_convertible,
  .instanceMethod yX3_convertible,
  .selects RX3 yX3_convertible yX3_convertible,
  .code yX3_convertible cX3_convertible 7 (some (.object "PhraseDesk$Routine")),
  .fieldLink RX3 91 "PhraseDesk$Finder" "failure" "I",
  .methodLink RX3 85 yX0_suit,
  .instanceMethod yX0_suit,
  .selects RX0 yX0_suit yX0_suit,
  .code yX4_init cX4_init 1 none,
  .methodLink RX4 3 objectInit,
  .arrayClass .char,
  .fieldLink RX4 9 "PhraseDesk$Lexer" "letters" "[C",
  .arrayClass .int,
  .fieldLink RX4 15 "PhraseDesk$Lexer" "kinds" "[I",
  .fieldLink RX4 19 "PhraseDesk$Lexer" "places" "[I",
  .fieldLink RX4 22 "PhraseDesk$Lexer" "names" "[I",
  .classLink RX4 25 RX10,
  .fieldLink RX4 27 "PhraseDesk$Lexer" "literals" "[LPhraseDesk$Value;",
  .classLink RX4 31 RJ4,
  .fieldLink RX4 34 "PhraseDesk$Lexer" "scratch" "Ljava/lang/StringBuilder;",
  .methodLink RX4 33 yJ4_init_da8c8,
  .code yX4_append cX4_append 2 none,
  .fieldLink RX4 38 "PhraseDesk$Lexer" "length" "I",
  .code yX4_kindAt cX4_kindAt 2 (some .int),
  .fieldLink RX4 42 "PhraseDesk$Lexer" "count" "I",
  .code yX4_placeAt cX4_placeAt 2 (some .int),
  .code yX4_nameAt cX4_nameAt 2 (some .int),
  .code yX4_literalAt cX4_literalAt 2 (some (.object "PhraseDesk$Value"))]
def GWc12 : List Cond := [.code yX4_cut cX4_cut 3 (some .int),
  .methodLink RX4 45 yX4_peek,
  .instanceMethod yX4_peek,
  .selects RX4 yX4_peek yX4_peek,
  .initialized RX4,
  .code yX4_peek cX4_peek 2 (some .char),
  .methodLink RX4 49 yX4_token,
  .instanceMethod yX4_token,
  .selects RX4 yX4_token yX4_token,
  .code yX4_token cX4_token 3 (some .int),
  .methodLink RX4 57 yX4_isDigit,
  .static yX4_isDigit,
  .code yX4_isDigit cX4_isDigit 1 (some .boolean),
  .methodLink RX4 61 yX4_number,
  .instanceMethod yX4_number,
  .selects RX4 yX4_number yX4_number,
  .code yX4_number cX4_number 9 (some .int),
  .constantDouble RX4 87 (4621819117588971520),
  .constantDouble RX4 89 (4636737291354636288),
  .constantDouble RX4 91 (4652007308841189376),
  .methodLink RX4 76 yX4_endOfDigits,
  .instanceMethod yX4_endOfDigits,
  .selects RX4 yX4_endOfDigits yX4_endOfDigits,
  .code yX4_endOfDigits cX4_endOfDigits 3 (some .int),
  .methodLink RX4 79 yX4_digits,
  .instanceMethod yX4_digits,
  .selects RX4 yX4_digits yX4_digits,
  .code yX4_digits cX4_digits 6 (some .int),
  .methodLink RX4 83 yX10_ofInt,
  .methodLink RX4 53 yX4_add,
  .instanceMethod yX4_add,
  .selects RX4 yX4_add yX4_add,
  .code yX4_add cX4_add 5 none,
  .methodLink RX4 93 yX10_ofReal,
  .methodLink RX4 64 yX4_isLowerCase,
  .static yX4_isLowerCase,
  .code yX4_isLowerCase cX4_isLowerCase 1 (some .boolean),
  .methodLink RX4 67 yX4_name,
  .instanceMethod yX4_name,
  .selects RX4 yX4_name yX4_name]
def GWc13 : List Cond := [.code yX4_name cX4_name 4 (some .int),
  .methodLink RX4 70 yX4_quoted,
  .instanceMethod yX4_quoted,
  .selects RX4 yX4_quoted yX4_quoted,
  .code yX4_quoted cX4_quoted 3 (some .int),
  .methodLink RX4 97 yJ4_setLength_d00df,
  .methodLink RX4 101 yJ4_append_cf468,
  .methodLink RX4 105 yJ4_length_8abf5,
  .selects RJ4 yJ4_length_8abf5 yJ4_length_8abf5,
  .methodLink RX4 108 yJ4_toString_0e30d,
  .methodLink RX4 112 yX10_ofText,
  .methodLink RX4 73 yX4_sign,
  .instanceMethod yX4_sign,
  .selects RX4 yX4_sign yX4_sign,
  .code yX4_sign cX4_sign 3 (some .int),
  .methodLink RX4 116 yX4_isPair,
  .static yX4_isPair,
  .code yX4_isPair cX4_isPair 1 (some .boolean),
  .methodLink RX4 120 yX4_isSingle,
  .static yX4_isSingle,
  .code yX4_isSingle cX4_isSingle 1 (some .boolean),
  .code yX5_init cX5_init 7 none,
  .methodLink RX5 1 objectInit,
  .fieldLink RX5 7 "PhraseDesk$Node" "op" "I",
  .fieldLink RX5 13 "PhraseDesk$Node" "name" "I",
  .fieldLink RX5 16 "PhraseDesk$Node" "literal" "LPhraseDesk$Value;",
  .fieldLink RX5 20 "PhraseDesk$Node" "one" "LPhraseDesk$Node;",
  .code yX5_ofLiteral cX5_ofLiteral 1 (some (.object "PhraseDesk$Node")),
  .classLink RX5 8 RX5,
  .instantiable RX5 8,
  .methodLink RX5 30 yX5_init,
  .instanceMethod yX5_init,
  .code yX5_ofRoot cX5_ofRoot 0 (some (.object "PhraseDesk$Node")),
  .code yX5_ofVariable cX5_ofVariable 1 (some (.object "PhraseDesk$Node")),
  .code yX5_ofProperty cX5_ofProperty 2 (some (.object "PhraseDesk$Node")),
  .code yX5_ofCall cX5_ofCall 4 (some (.object "PhraseDesk$Node")),
  .code yX5_ofOperator cX5_ofOperator 4 (some (.object "PhraseDesk$Node")),
  .code yX5_canBeSet cX5_canBeSet 1 (some .boolean),
  .fieldLink RX5 33 "PhraseDesk$Node" "bracketed" "Z",
  .code yX6_init cX6_init 1 none]
def GWc14 : List Cond := [.methodLink RX6 3 objectInit,
  .classLink RX6 9 RX4,
  .instantiable RX4 8,
  .fieldLink RX6 12 "PhraseDesk$Parser" "lexer" "LPhraseDesk$Lexer;",
  .methodLink RX6 11 yX4_init,
  .instanceMethod yX4_init,
  .code yX6_read cX6_read 2 (some (.object "PhraseDesk$Node")),
  .fieldLink RX6 18 "PhraseDesk$Parser" "at" "I",
  .fieldLink RX6 22 "PhraseDesk$Parser" "error" "I",
  .fieldLink RX6 29 "PhraseDesk$Parser" "place" "I",
  .fieldLink RX6 36 "PhraseDesk$Lexer" "length" "I",
  .methodLink RX6 25 yX4_cut,
  .instanceMethod yX4_cut,
  .selects RX4 yX4_cut yX4_cut,
  .methodLink RX6 32 yX6_phrase,
  .instanceMethod yX6_phrase,
  .selects RX6 yX6_phrase yX6_phrase,
  .initialized RX6,
  .code yX6_phrase cX6_phrase 4 (some (.object "PhraseDesk$Node")),
  .methodLink RX6 39 yX6_choice,
  .instanceMethod yX6_choice,
  .selects RX6 yX6_choice yX6_choice,
  .code yX6_choice cX6_choice 4 (some (.object "PhraseDesk$Node")),
  .methodLink RX6 56 yX6_refuse,
  .instanceMethod yX6_refuse,
  .selects RX6 yX6_refuse yX6_refuse,
  .code yX6_refuse cX6_refuse 2 (some (.object "PhraseDesk$Node")),
  .methodLink RX6 139 yX4_placeAt,
  .instanceMethod yX4_placeAt,
  .selects RX4 yX4_placeAt yX4_placeAt,
  .methodLink RX6 59 yX6_level,
  .instanceMethod yX6_level,
  .selects RX6 yX6_level yX6_level,
  .methodLink RX6 63 yX6_takes,
  .instanceMethod yX6_takes,
  .selects RX6 yX6_takes yX6_takes,
  .code yX6_takes cX6_takes 2 (some .boolean),
  .methodLink RX6 43 yX6_kind,
  .instanceMethod yX6_kind,
  .selects RX6 yX6_kind yX6_kind]
def GWc15 : List Cond := [.code yX6_kind cX6_kind 1 (some .int),
  .methodLink RX6 136 yX4_kindAt,
  .instanceMethod yX4_kindAt,
  .selects RX4 yX4_kindAt yX4_kindAt,
  .methodLink RX6 52 yX5_ofOperator,
  .static yX5_ofOperator,
  .methodLink RX6 67 yX6_chosen,
  .instanceMethod yX6_chosen,
  .selects RX6 yX6_chosen yX6_chosen,
  .code yX6_bracketed cX6_bracketed 3 (some (.object "PhraseDesk$Node")),
  .fieldLink RX6 111 "PhraseDesk$Node" "bracketed" "Z",
  .code yX6_chain cX6_chain 5 (some (.object "PhraseDesk$Node")),
  .fieldLink RX6 87 "PhraseDesk$Node" "lenient" "Z",
  .methodLink RX6 81 yX6_first,
  .instanceMethod yX6_first,
  .selects RX6 yX6_first yX6_first,
  .methodLink RX6 84 yX6_member,
  .instanceMethod yX6_member,
  .selects RX6 yX6_member yX6_member,
  .code yX6_chosen cX6_chosen 5 (some (.object "PhraseDesk$Node")),
  .code yX6_first cX6_first 2 (some (.object "PhraseDesk$Node")),
  .methodLink RX6 91 yX4_literalAt,
  .instanceMethod yX4_literalAt,
  .selects RX4 yX4_literalAt yX4_literalAt,
  .methodLink RX6 95 yX5_ofLiteral,
  .static yX5_ofLiteral,
  .methodLink RX6 99 yX6_takeName,
  .instanceMethod yX6_takeName,
  .selects RX6 yX6_takeName yX6_takeName,
  .code yX6_takeName cX6_takeName 1 (some .int),
  .methodLink RX6 113 yX4_nameAt,
  .instanceMethod yX4_nameAt,
  .selects RX4 yX4_nameAt yX4_nameAt,
  .methodLink RX6 102 yX5_ofVariable,
  .static yX5_ofVariable,
  .methodLink RX6 105 yX6_bracketed,
  .instanceMethod yX6_bracketed,
  .selects RX6 yX6_bracketed yX6_bracketed,
  .methodLink RX6 108 yX6_named,
  .instanceMethod yX6_named]
def GWc16 : List Cond := [.selects RX6 yX6_named yX6_named,
  .code yX6_level cX6_level 7 (some (.object "PhraseDesk$Node")),
  .methodLink RX6 71 yX6_sign,
  .instanceMethod yX6_sign,
  .selects RX6 yX6_sign yX6_sign,
  .methodLink RX6 74 yX6_levelOf,
  .static yX6_levelOf,
  .code yX6_levelOf cX6_levelOf 1 (some .int),
  .code yX6_member cX6_member 6 (some (.object "PhraseDesk$Node")),
  .methodLink RX6 129 yX5_ofProperty,
  .static yX5_ofProperty,
  .methodLink RX6 132 yX5_ofCall,
  .static yX5_ofCall,
  .code yX6_named cX6_named 2 (some (.object "PhraseDesk$Node")),
  .methodLink RX6 116 yX10_ofBool,
  .methodLink RX6 122 yX10_ofNull,
  .static yX10_ofNull,
  .code yX10_ofNull cX10_ofNull 0 (some (.object "PhraseDesk$Value")),
  .methodLink RX6 126 yX5_ofRoot,
  .static yX5_ofRoot,
  .code yX6_sign cX6_sign 4 (some (.object "PhraseDesk$Node")),
  .methodLink RX6 78 yX6_chain,
  .instanceMethod yX6_chain,
  .selects RX6 yX6_chain yX6_chain,
  .methodLink RX6 46 yX5_canBeSet,
  .instanceMethod yX5_canBeSet,
  .selects RX5 yX5_canBeSet yX5_canBeSet,
  .code yX7_init cX7_init 6 none,
  .methodLink RX7 1 objectInit,
  .fieldLink RX7 7 "PhraseDesk$Routine" "name" "I",
  .fieldLink RX7 13 "PhraseDesk$Routine" "one" "I",
  .fieldLink RX7 16 "PhraseDesk$Routine" "two" "I",
  .fieldLink RX7 19 "PhraseDesk$Routine" "parameters" "I",
  .fieldLink RX7 22 "PhraseDesk$Routine" "action" "I",
  .fieldLink RX7 25 "PhraseDesk$Routine" "number" "I",
  .code yX8_init cX8_init 1 none,
  .methodLink RX8 3 objectInit,
  .fieldLink RX8 15 "PhraseDesk$Runner" "nothing" "LPhraseDesk$Value;",
  .classLink RX8 21 RX0,
  .instantiable RX0 2]
def GWc17 : List Cond := [.fieldLink RX8 24 "PhraseDesk$Runner" "converters" "LPhraseDesk$Converters;",
  .classLink RX8 28 RX3,
  .instantiable RX3 3,
  .fieldLink RX8 31 "PhraseDesk$Runner" "finder" "LPhraseDesk$Finder;",
  .fieldLink RX8 35 "PhraseDesk$Runner" "variableNames" "[I",
  .classLink RX8 10 RX10,
  .fieldLink RX8 39 "PhraseDesk$Runner" "variableValues" "[LPhraseDesk$Value;",
  .fieldLink RX8 43 "PhraseDesk$Runner" "root" "LPhraseDesk$Value;",
  .methodLink RX8 9 yX10_ofNull,
  .methodLink RX8 23 yX0_init,
  .instanceMethod yX0_init,
  .methodLink RX8 30 yX3_init,
  .instanceMethod yX3_init,
  .code yX8_begin cX8_begin 2 none,
  .fieldLink RX8 46 "PhraseDesk$Runner" "failure" "I",
  .code yX8_fail cX8_fail 2 (some (.object "PhraseDesk$Value")),
  .code yX8_eval cX8_eval 3 (some (.object "PhraseDesk$Value")),
  .fieldLink RX8 54 "PhraseDesk$Node" "op" "I",
  .fieldLink RX8 59 "PhraseDesk$Node" "literal" "LPhraseDesk$Value;",
  .fieldLink RX8 62 "PhraseDesk$Node" "name" "I",
  .fieldLink RX8 68 "PhraseDesk$Node" "one" "LPhraseDesk$Node;",
  .fieldLink RX8 76 "PhraseDesk$Node" "lenient" "Z",
  .methodLink RX8 50 yX8_fail,
  .instanceMethod yX8_fail,
  .selects RX8 yX8_fail yX8_fail,
  .initialized RX8,
  .methodLink RX8 65 yX8_variable,
  .instanceMethod yX8_variable,
  .selects RX8 yX8_variable yX8_variable,
  .code yX8_variable cX8_variable 3 (some (.object "PhraseDesk$Value")),
  .fieldLink RX8 273 "PhraseDesk$Runner" "variableCount" "I",
  .methodLink RX8 72 yX8_eval,
  .instanceMethod yX8_eval,
  .selects RX8 yX8_eval yX8_eval,
  .methodLink RX8 80 yX8_property,
  .instanceMethod yX8_property,
  .selects RX8 yX8_property yX8_property,
  .code yX8_property cX8_property 5 (some (.object "PhraseDesk$Value")),
  .fieldLink RX8 109 "PhraseDesk$Value" "kind" "I",
  .fieldLink RX8 112 "PhraseDesk$Value" "chars" "Ljava/lang/String;"]
def GWc18 : List Cond := [.fieldLink RX8 125 "PhraseDesk$Value" "thing" "LPhraseDesk$Thing;",
  .methodLink RX8 116 yJ0_length_8abf5,
  .methodLink RX8 122 yX10_ofInt,
  .methodLink RX8 129 yX9_valueOf,
  .instanceMethod yX9_valueOf,
  .selects RX9 yX9_valueOf yX9_valueOf,
  .initialized RX9,
  .code yX9_valueOf cX9_valueOf 3 (some (.object "PhraseDesk$Value")),
  .fieldLink RX9 15 "PhraseDesk$Thing" "family" "LPhraseDesk$Family;",
  .fieldLink RX9 31 "PhraseDesk$Field" "slot" "I",
  .fieldLink RX9 21 "PhraseDesk$Thing" "values" "[LPhraseDesk$Value;",
  .methodLink RX9 25 yX1_nearestField,
  .instanceMethod yX1_nearestField,
  .selects RX1 yX1_nearestField yX1_nearestField,
  .methodLink RX8 84 yX8_call,
  .instanceMethod yX8_call,
  .selects RX8 yX8_call yX8_call,
  .methodLink RX8 87 yX8_negative,
  .instanceMethod yX8_negative,
  .selects RX8 yX8_negative yX8_negative,
  .code yX8_negative cX8_negative 2 (some (.object "PhraseDesk$Value")),
  .fieldLink RX8 176 "PhraseDesk$Value" "number" "I",
  .fieldLink RX8 177 "PhraseDesk$Value" "real" "D",
  .methodLink RX8 181 yX10_ofReal,
  .methodLink RX8 91 yX8_opposite,
  .instanceMethod yX8_opposite,
  .selects RX8 yX8_opposite yX8_opposite,
  .code yX8_opposite cX8_opposite 2 (some (.object "PhraseDesk$Value")),
  .methodLink RX8 185 yX10_isTrue,
  .instanceMethod yX10_isTrue,
  .selects RX10 yX10_isTrue yX10_isTrue,
  .code yX10_isTrue cX10_isTrue 1 (some .boolean),
  .methodLink RX8 189 yX10_ofBool,
  .methodLink RX8 94 yX8_logic,
  .instanceMethod yX8_logic,
  .selects RX8 yX8_logic yX8_logic,
  .methodLink RX8 97 yX8_chosen,
  .instanceMethod yX8_chosen,
  .selects RX8 yX8_chosen yX8_chosen,
  .methodLink RX8 100 yX8_orElse]
def GWc19 : List Cond := [.instanceMethod yX8_orElse,
  .selects RX8 yX8_orElse yX8_orElse,
  .methodLink RX8 103 yX8_set,
  .instanceMethod yX8_set,
  .selects RX8 yX8_set yX8_set,
  .methodLink RX8 106 yX8_combined,
  .instanceMethod yX8_combined,
  .selects RX8 yX8_combined yX8_combined,
  .code yX8_call cX8_call 9 (some (.object "PhraseDesk$Value")),
  .fieldLink RX8 134 "PhraseDesk$Node" "two" "LPhraseDesk$Node;",
  .fieldLink RX8 137 "PhraseDesk$Node" "three" "LPhraseDesk$Node;",
  .fieldLink RX8 140 "PhraseDesk$Thing" "family" "LPhraseDesk$Family;",
  .fieldLink RX8 148 "PhraseDesk$Finder" "failure" "I",
  .fieldLink RX8 149 "PhraseDesk$Routine" "one" "I",
  .fieldLink RX8 157 "PhraseDesk$Routine" "two" "I",
  .methodLink RX8 144 yX3_find,
  .instanceMethod yX3_find,
  .selects RX3 yX3_find yX3_find,
  .methodLink RX8 153 yX8_fit,
  .instanceMethod yX8_fit,
  .selects RX8 yX8_fit yX8_fit,
  .code yX8_fit cX8_fit 4 (some (.object "PhraseDesk$Value")),
  .methodLink RX8 226 yX10_fits,
  .methodLink RX8 230 yX0_reach,
  .methodLink RX8 234 yX0_convert,
  .instanceMethod yX0_convert,
  .selects RX0 yX0_convert yX0_convert,
  .methodLink RX8 159 yX8_act,
  .instanceMethod yX8_act,
  .selects RX8 yX8_act yX8_act,
  .code yX8_act cX8_act 5 (some (.object "PhraseDesk$Value")),
  .fieldLink RX8 163 "PhraseDesk$Routine" "action" "I",
  .fieldLink RX8 166 "PhraseDesk$Routine" "number" "I",
  .fieldLink RX8 169 "PhraseDesk$Routine" "parameters" "I",
  .methodLink RX8 172 yX8_add,
  .instanceMethod yX8_add,
  .selects RX8 yX8_add yX8_add,
  .code yX8_add cX8_add 4 (some (.object "PhraseDesk$Value")),
  .methodLink RX8 255 yX8_joins,
  .static yX8_joins]
def GWc20 : List Cond := [.code yX8_joins cX8_joins 2 (some .boolean),
  .methodLink RX8 241 yX8_calculate,
  .instanceMethod yX8_calculate,
  .selects RX8 yX8_calculate yX8_calculate,
  .code yX8_calculate cX8_calculate 4 (some (.object "PhraseDesk$Value")),
  .methodLink RX8 261 yX8_ofInts,
  .instanceMethod yX8_ofInts,
  .selects RX8 yX8_ofInts yX8_ofInts,
  .code yX8_ofInts cX8_ofInts 4 (some (.object "PhraseDesk$Value")),
  .methodLink RX8 248 yX10_isNumber,
  .instanceMethod yX10_isNumber,
  .selects RX10 yX10_isNumber yX10_isNumber,
  .code yX10_isNumber cX10_isNumber 1 (some .boolean),
  .methodLink RX8 265 yX8_ofReals,
  .instanceMethod yX8_ofReals,
  .selects RX8 yX8_ofReals yX8_ofReals,
  .code yX8_ofReals cX8_ofReals 8 (some (.object "PhraseDesk$Value")),
  .constantDouble RX8 269 (4786511204640096256),
  .constantDouble RX8 271 (14009883241494872064),
  .methodLink RX8 258 yX0_join,
  .instanceMethod yX0_join,
  .selects RX0 yX0_join yX0_join,
  .code yX8_chosen cX8_chosen 4 (some (.object "PhraseDesk$Value")),
  .methodLink RX8 193 yX8_bool,
  .instanceMethod yX8_bool,
  .selects RX8 yX8_bool yX8_bool,
  .code yX8_bool cX8_bool 2 (some (.object "PhraseDesk$Value")),
  .code yX8_combined cX8_combined 5 (some (.object "PhraseDesk$Value")),
  .methodLink RX8 237 yX8_areSame,
  .static yX8_areSame,
  .code yX8_areSame cX8_areSame 2 (some .boolean),
  .methodLink RX8 251 yJ0_equals_9ea2d,
  .methodLink RX8 245 yX8_compare,
  .instanceMethod yX8_compare,
  .selects RX8 yX8_compare yX8_compare,
  .code yX8_compare cX8_compare 4 (some (.object "PhraseDesk$Value")),
  .code yX8_logic cX8_logic 4 (some (.object "PhraseDesk$Value")),
  .code yX8_orElse cX8_orElse 5 (some (.object "PhraseDesk$Value")),
  .methodLink RX8 196 yJ0_isEmpty_aae02,
  .instanceMethod yJ0_isEmpty_aae02]
def GWc21 : List Cond := [.selects RJ0 yJ0_isEmpty_aae02 yJ0_isEmpty_aae02,
  .code yJ0_isEmpty_aae02 cJ0_isEmpty_aae02 1 (some .boolean),
  .code yX8_set cX8_set 5 (some (.object "PhraseDesk$Value")),
  .methodLink RX8 199 yX8_setProperty,
  .instanceMethod yX8_setProperty,
  .selects RX8 yX8_setProperty yX8_setProperty,
  .methodLink RX8 203 yX8_setVariable,
  .instanceMethod yX8_setVariable,
  .selects RX8 yX8_setVariable yX8_setVariable,
  .code yX8_setVariable cX8_setVariable 4 (some .boolean),
  .code yX8_setProperty cX8_setProperty 6 (some (.object "PhraseDesk$Value")),
  .methodLink RX8 207 yX8_setField,
  .instanceMethod yX8_setField,
  .selects RX8 yX8_setField yX8_setField,
  .code yX8_setField cX8_setField 6 (some (.object "PhraseDesk$Value")),
  .fieldLink RX8 217 "PhraseDesk$Field" "type" "I",
  .methodLink RX8 211 yX1_nearestField,
  .methodLink RX8 222 yX9_hold,
  .instanceMethod yX9_hold,
  .selects RX9 yX9_hold yX9_hold,
  .code yX9_hold cX9_hold 3 none,
  .code yX9_init cX9_init 5 none,
  .methodLink RX9 3 objectInit,
  .fieldLink RX9 9 "PhraseDesk$Thing" "number" "I",
  .classLink RX9 19 RX10,
  .code yX10_ofThing cX10_ofThing 1 (some (.object "PhraseDesk$Value")),
  .fieldLink RX10 50 "PhraseDesk$Thing" "number" "I",
  .code yX11_init cX11_init 1 none,
  .methodLink RX11 1 objectInit,
  .classLink RX11 7 RX6,
  .instantiable RX6 4,
  .fieldLink RX11 10 "PhraseDesk" "parser" "LPhraseDesk$Parser;",
  .classLink RX11 16 RX8,
  .instantiable RX8 8,
  .fieldLink RX11 19 "PhraseDesk" "runner" "LPhraseDesk$Runner;",
  .classLink RX11 23 RX5,
  .fieldLink RX11 25 "PhraseDesk" "programs" "[LPhraseDesk$Node;",
  .classLink RX11 29 RX1,
  .fieldLink RX11 31 "PhraseDesk" "families" "[LPhraseDesk$Family;",
  .classLink RX11 35 RX10]
def GWc22 : List Cond := [.fieldLink RX11 37 "PhraseDesk" "objects" "[LPhraseDesk$Value;",
  .fieldLink RX11 45 "PhraseDesk" "latest" "LPhraseDesk$Value;",
  .methodLink RX11 9 yX6_init,
  .instanceMethod yX6_init,
  .methodLink RX11 18 yX8_init,
  .instanceMethod yX8_init,
  .methodLink RX11 41 yX10_ofNull,
  .code yX11_letter cX11_letter 2 (some .int),
  .classLink RX11 49 "java/lang/IllegalArgumentException",
  .initialized "java/lang/IllegalArgumentException",
  .classLink RX11 66 "java/lang/IllegalStateException",
  .initialized "java/lang/IllegalStateException",
  .fieldLink RX11 56 "PhraseDesk$Parser" "lexer" "LPhraseDesk$Lexer;",
  .fieldLink RX11 60 "PhraseDesk$Lexer" "length" "I",
  .methodLink RX11 71 yX4_append,
  .instanceMethod yX4_append,
  .selects RX4 yX4_append yX4_append,
  .code yX11_parse cX11_parse 2 (some .int),
  .fieldLink RX11 75 "PhraseDesk" "programCount" "I",
  .fieldLink RX11 84 "PhraseDesk$Parser" "error" "I",
  .fieldLink RX11 87 "PhraseDesk$Parser" "place" "I",
  .methodLink RX11 80 yX6_read,
  .instanceMethod yX6_read,
  .selects RX6 yX6_read yX6_read,
  .code yX11_type cX11_type 3 (some .int),
  .fieldLink RX11 96 "PhraseDesk" "familyCount" "I",
  .instantiable RX1 7,
  .methodLink RX11 90 yX11_familyAt,
  .instanceMethod yX11_familyAt,
  .selects RX11 yX11_familyAt yX11_familyAt,
  .initialized RX11,
  .code yX11_familyAt cX11_familyAt 2 (some (.object "PhraseDesk$Family")),
  .methodLink RX11 101 yX1_init,
  .instanceMethod yX1_init,
  .code yX11_field cX11_field 5 (some .int),
  .fieldLink RX11 113 "PhraseDesk$Family" "fieldCount" "I",
  .fieldLink RX11 120 "PhraseDesk" "objectCount" "I",
  .methodLink RX11 104 yX11_isName,
  .static yX11_isName,
  .code yX11_isName cX11_isName 1 (some .boolean)]
def GWc23 : List Cond := [.constant RX11 236 (14348906),
  .methodLink RX11 108 yX11_isType,
  .instanceMethod yX11_isType,
  .selects RX11 yX11_isType yX11_isType,
  .code yX11_isType cX11_isType 2 (some .boolean),
  .methodLink RX11 116 yX1_ownField,
  .methodLink RX11 125 yX1_addField,
  .instanceMethod yX1_addField,
  .selects RX1 yX1_addField yX1_addField,
  .code yX11_method cX11_method 8 (some .int),
  .fieldLink RX11 135 "PhraseDesk$Family" "routineCount" "I",
  .classLink RX11 140 RX7,
  .instantiable RX7 6,
  .initialized RX7,
  .methodLink RX11 129 yX11_areParameters,
  .instanceMethod yX11_areParameters,
  .selects RX11 yX11_areParameters yX11_areParameters,
  .code yX11_areParameters cX11_areParameters 3 (some .boolean),
  .methodLink RX11 142 yX7_init,
  .instanceMethod yX7_init,
  .methodLink RX11 145 yX1_addRoutine,
  .instanceMethod yX1_addRoutine,
  .selects RX1 yX1_addRoutine yX1_addRoutine,
  .code yX11_make cX11_make 3 (some .int),
  .classLink RX11 153 RX9,
  .instantiable RX9 3,
  .fieldLink RX11 155 "PhraseDesk$Runner" "nothing" "LPhraseDesk$Value;",
  .methodLink RX11 158 yX9_init,
  .instanceMethod yX9_init,
  .methodLink RX11 161 yX10_ofThing,
  .static yX10_ofThing,
  .code yX11_converter cX11_converter 5 (some .boolean),
  .fieldLink RX11 167 "PhraseDesk$Runner" "converters" "LPhraseDesk$Converters;",
  .methodLink RX11 171 yX0_change,
  .instanceMethod yX0_change,
  .selects RX0 yX0_change yX0_change,
  .code yX11_run cX11_run 6 (some .int),
  .fieldLink RX11 191 "PhraseDesk$Runner" "failure" "I",
  .methodLink RX11 177 yX11_objectAt,
  .instanceMethod yX11_objectAt]
def GWc24 : List Cond := [.selects RX11 yX11_objectAt yX11_objectAt,
  .code yX11_objectAt cX11_objectAt 2 (some (.object "PhraseDesk$Value")),
  .methodLink RX11 183 yX8_begin,
  .instanceMethod yX8_begin,
  .selects RX8 yX8_begin yX8_begin,
  .code yX11_keep cX11_keep 2 (some .int),
  .fieldLink RX11 202 "PhraseDesk$Value" "kind" "I",
  .methodLink RX11 196 yX8_setVariable,
  .code yX11_result cX11_result 2 (some .int),
  .fieldLink RX11 205 "PhraseDesk$Value" "number" "I",
  .constantDouble RX11 208 (4652007308841189376),
  .fieldLink RX11 210 "PhraseDesk$Value" "real" "D",
  .code yX11_text cX11_text 2 (some .int),
  .fieldLink RX11 214 "PhraseDesk$Value" "chars" "Ljava/lang/String;",
  .methodLink RX11 218 yJ0_length_8abf5,
  .methodLink RX11 223 yJ0_charAt_5068e,
  .code yX11_put cX11_put 4 (some .int),
  .code yX11_about cX11_about 2 (some .int),
  .fieldLink RX11 233 "PhraseDesk$Runner" "variableCount" "I",
  .code yJ9_max_7cf53 cJ9_max_7cf53 2 (some .int),
  .code yJ9_min_7cf53 cJ9_min_7cf53 2 (some .int)]
def GWcT : List Cond := wsX00 ++ (wsX10 ++ (wsX20 ++ (wsX30 ++ (wsX40 ++ (wsX50 ++ (wsX60 ++ (wsX70 ++ (wsX80 ++ (wsX90 ++ (wsX100 ++ (wsX110 ++ (wsJ00 ++ (wsJ40)))))))))))))
def GWcX : List Cond := (vx_atS RX11 53 tIAE tSup).filter goodWord ++ (vx_atS RX11 70 tISE tSup).filter goodWord
def GWc : List Cond := GWc0 ++ (GWc1 ++ (GWc2 ++ (GWc3 ++ (GWc4 ++ (GWc5 ++ (GWc6 ++ (GWc7 ++ (GWc8 ++ (GWc9 ++ (GWc10 ++ (GWc11 ++ (GWc12 ++ (GWc13 ++ (GWc14 ++ (GWc15 ++ (GWc16 ++ (GWc17 ++ (GWc18 ++ (GWc19 ++ (GWc20 ++ (GWc21 ++ (GWc22 ++ (GWc23 ++ (GWc24 ++ (GWcT ++ GWcX)))))))))))))))))))))))))
theorem GWc0_ok : ∀ w ∈ GWc0, goodWord w = true := by decide +kernel
theorem GWc1_ok : ∀ w ∈ GWc1, goodWord w = true := by decide +kernel
theorem GWc2_ok : ∀ w ∈ GWc2, goodWord w = true := by decide +kernel
theorem GWc3_ok : ∀ w ∈ GWc3, goodWord w = true := by decide +kernel
theorem GWc4_ok : ∀ w ∈ GWc4, goodWord w = true := by decide +kernel
theorem GWc5_ok : ∀ w ∈ GWc5, goodWord w = true := by decide +kernel
theorem GWc6_ok : ∀ w ∈ GWc6, goodWord w = true := by decide +kernel
theorem GWc7_ok : ∀ w ∈ GWc7, goodWord w = true := by decide +kernel
theorem GWc8_ok : ∀ w ∈ GWc8, goodWord w = true := by decide +kernel
theorem GWc9_ok : ∀ w ∈ GWc9, goodWord w = true := by decide +kernel
theorem GWc10_ok : ∀ w ∈ GWc10, goodWord w = true := by decide +kernel
theorem GWc11_ok : ∀ w ∈ GWc11, goodWord w = true := by decide +kernel
theorem GWc12_ok : ∀ w ∈ GWc12, goodWord w = true := by decide +kernel
theorem GWc13_ok : ∀ w ∈ GWc13, goodWord w = true := by decide +kernel
theorem GWc14_ok : ∀ w ∈ GWc14, goodWord w = true := by decide +kernel
theorem GWc15_ok : ∀ w ∈ GWc15, goodWord w = true := by decide +kernel
theorem GWc16_ok : ∀ w ∈ GWc16, goodWord w = true := by decide +kernel
theorem GWc17_ok : ∀ w ∈ GWc17, goodWord w = true := by decide +kernel
theorem GWc18_ok : ∀ w ∈ GWc18, goodWord w = true := by decide +kernel
theorem GWc19_ok : ∀ w ∈ GWc19, goodWord w = true := by decide +kernel
theorem GWc20_ok : ∀ w ∈ GWc20, goodWord w = true := by decide +kernel
theorem GWc21_ok : ∀ w ∈ GWc21, goodWord w = true := by decide +kernel
theorem GWc22_ok : ∀ w ∈ GWc22, goodWord w = true := by decide +kernel
theorem GWc23_ok : ∀ w ∈ GWc23, goodWord w = true := by decide +kernel
theorem GWc24_ok : ∀ w ∈ GWc24, goodWord w = true := by decide +kernel
theorem GWcT_ok : ∀ w ∈ GWcT, goodWord w = true := by decide +kernel
theorem GWcX_ok : ∀ w ∈ GWcX, goodWord w = true := by decide +kernel
theorem GWc_ok : ∀ w ∈ GWc, goodWord w = true := by
  unfold GWc
  intro w h
  rcases List.mem_append.mp h with h | h
  · exact GWc0_ok w h
  rcases List.mem_append.mp h with h | h
  · exact GWc1_ok w h
  rcases List.mem_append.mp h with h | h
  · exact GWc2_ok w h
  rcases List.mem_append.mp h with h | h
  · exact GWc3_ok w h
  rcases List.mem_append.mp h with h | h
  · exact GWc4_ok w h
  rcases List.mem_append.mp h with h | h
  · exact GWc5_ok w h
  rcases List.mem_append.mp h with h | h
  · exact GWc6_ok w h
  rcases List.mem_append.mp h with h | h
  · exact GWc7_ok w h
  rcases List.mem_append.mp h with h | h
  · exact GWc8_ok w h
  rcases List.mem_append.mp h with h | h
  · exact GWc9_ok w h
  rcases List.mem_append.mp h with h | h
  · exact GWc10_ok w h
  rcases List.mem_append.mp h with h | h
  · exact GWc11_ok w h
  rcases List.mem_append.mp h with h | h
  · exact GWc12_ok w h
  rcases List.mem_append.mp h with h | h
  · exact GWc13_ok w h
  rcases List.mem_append.mp h with h | h
  · exact GWc14_ok w h
  rcases List.mem_append.mp h with h | h
  · exact GWc15_ok w h
  rcases List.mem_append.mp h with h | h
  · exact GWc16_ok w h
  rcases List.mem_append.mp h with h | h
  · exact GWc17_ok w h
  rcases List.mem_append.mp h with h | h
  · exact GWc18_ok w h
  rcases List.mem_append.mp h with h | h
  · exact GWc19_ok w h
  rcases List.mem_append.mp h with h | h
  · exact GWc20_ok w h
  rcases List.mem_append.mp h with h | h
  · exact GWc21_ok w h
  rcases List.mem_append.mp h with h | h
  · exact GWc22_ok w h
  rcases List.mem_append.mp h with h | h
  · exact GWc23_ok w h
  rcases List.mem_append.mp h with h | h
  · exact GWc24_ok w h
  rcases List.mem_append.mp h with h | h
  · exact GWcT_ok w h
  exact GWcX_ok w h
theorem GWc_c0 : ∀ w ∈ GWc0, w ∈ GWc := fun w h => by unfold GWc; exact List.mem_append_left _ h
theorem GWc_c1 : ∀ w ∈ GWc1, w ∈ GWc := fun w h => by unfold GWc; exact List.mem_append_right _ (List.mem_append_left _ h)
theorem GWc_c2 : ∀ w ∈ GWc2, w ∈ GWc := fun w h => by unfold GWc; exact List.mem_append_right _ (List.mem_append_right _ (List.mem_append_left _ h))
theorem GWc_c3 : ∀ w ∈ GWc3, w ∈ GWc := fun w h => by unfold GWc; exact List.mem_append_right _ (List.mem_append_right _ (List.mem_append_right _ (List.mem_append_left _ h)))
theorem GWc_c4 : ∀ w ∈ GWc4, w ∈ GWc := fun w h => by unfold GWc; exact List.mem_append_right _ (List.mem_append_right _ (List.mem_append_right _ (List.mem_append_right _ (List.mem_append_left _ h))))
theorem GWc_c5 : ∀ w ∈ GWc5, w ∈ GWc := fun w h => by unfold GWc; exact List.mem_append_right _ (List.mem_append_right _ (List.mem_append_right _ (List.mem_append_right _ (List.mem_append_right _ (List.mem_append_left _ h)))))
theorem GWc_c6 : ∀ w ∈ GWc6, w ∈ GWc := fun w h => by unfold GWc; exact List.mem_append_right _ (List.mem_append_right _ (List.mem_append_right _ (List.mem_append_right _ (List.mem_append_right _ (List.mem_append_right _ (List.mem_append_left _ h))))))
theorem GWc_c7 : ∀ w ∈ GWc7, w ∈ GWc := fun w h => by unfold GWc; exact List.mem_append_right _ (List.mem_append_right _ (List.mem_append_right _ (List.mem_append_right _ (List.mem_append_right _ (List.mem_append_right _ (List.mem_append_right _ (List.mem_append_left _ h)))))))
theorem GWc_c8 : ∀ w ∈ GWc8, w ∈ GWc := fun w h => by unfold GWc; exact List.mem_append_right _ (List.mem_append_right _ (List.mem_append_right _ (List.mem_append_right _ (List.mem_append_right _ (List.mem_append_right _ (List.mem_append_right _ (List.mem_append_right _ (List.mem_append_left _ h))))))))
theorem GWc_c9 : ∀ w ∈ GWc9, w ∈ GWc := fun w h => by unfold GWc; exact List.mem_append_right _ (List.mem_append_right _ (List.mem_append_right _ (List.mem_append_right _ (List.mem_append_right _ (List.mem_append_right _ (List.mem_append_right _ (List.mem_append_right _ (List.mem_append_right _ (List.mem_append_left _ h)))))))))
theorem GWc_c10 : ∀ w ∈ GWc10, w ∈ GWc := fun w h => by unfold GWc; exact List.mem_append_right _ (List.mem_append_right _ (List.mem_append_right _ (List.mem_append_right _ (List.mem_append_right _ (List.mem_append_right _ (List.mem_append_right _ (List.mem_append_right _ (List.mem_append_right _ (List.mem_append_right _ (List.mem_append_left _ h))))))))))
theorem GWc_c11 : ∀ w ∈ GWc11, w ∈ GWc := fun w h => by unfold GWc; exact List.mem_append_right _ (List.mem_append_right _ (List.mem_append_right _ (List.mem_append_right _ (List.mem_append_right _ (List.mem_append_right _ (List.mem_append_right _ (List.mem_append_right _ (List.mem_append_right _ (List.mem_append_right _ (List.mem_append_right _ (List.mem_append_left _ h)))))))))))
theorem GWc_c12 : ∀ w ∈ GWc12, w ∈ GWc := fun w h => by unfold GWc; exact List.mem_append_right _ (List.mem_append_right _ (List.mem_append_right _ (List.mem_append_right _ (List.mem_append_right _ (List.mem_append_right _ (List.mem_append_right _ (List.mem_append_right _ (List.mem_append_right _ (List.mem_append_right _ (List.mem_append_right _ (List.mem_append_right _ (List.mem_append_left _ h))))))))))))
theorem GWc_c13 : ∀ w ∈ GWc13, w ∈ GWc := fun w h => by unfold GWc; exact List.mem_append_right _ (List.mem_append_right _ (List.mem_append_right _ (List.mem_append_right _ (List.mem_append_right _ (List.mem_append_right _ (List.mem_append_right _ (List.mem_append_right _ (List.mem_append_right _ (List.mem_append_right _ (List.mem_append_right _ (List.mem_append_right _ (List.mem_append_right _ (List.mem_append_left _ h)))))))))))))
theorem GWc_c14 : ∀ w ∈ GWc14, w ∈ GWc := fun w h => by unfold GWc; exact List.mem_append_right _ (List.mem_append_right _ (List.mem_append_right _ (List.mem_append_right _ (List.mem_append_right _ (List.mem_append_right _ (List.mem_append_right _ (List.mem_append_right _ (List.mem_append_right _ (List.mem_append_right _ (List.mem_append_right _ (List.mem_append_right _ (List.mem_append_right _ (List.mem_append_right _ (List.mem_append_left _ h))))))))))))))
theorem GWc_c15 : ∀ w ∈ GWc15, w ∈ GWc := fun w h => by unfold GWc; exact List.mem_append_right _ (List.mem_append_right _ (List.mem_append_right _ (List.mem_append_right _ (List.mem_append_right _ (List.mem_append_right _ (List.mem_append_right _ (List.mem_append_right _ (List.mem_append_right _ (List.mem_append_right _ (List.mem_append_right _ (List.mem_append_right _ (List.mem_append_right _ (List.mem_append_right _ (List.mem_append_right _ (List.mem_append_left _ h)))))))))))))))
theorem GWc_c16 : ∀ w ∈ GWc16, w ∈ GWc := fun w h => by unfold GWc; exact List.mem_append_right _ (List.mem_append_right _ (List.mem_append_right _ (List.mem_append_right _ (List.mem_append_right _ (List.mem_append_right _ (List.mem_append_right _ (List.mem_append_right _ (List.mem_append_right _ (List.mem_append_right _ (List.mem_append_right _ (List.mem_append_right _ (List.mem_append_right _ (List.mem_append_right _ (List.mem_append_right _ (List.mem_append_right _ (List.mem_append_left _ h))))))))))))))))
theorem GWc_c17 : ∀ w ∈ GWc17, w ∈ GWc := fun w h => by unfold GWc; exact List.mem_append_right _ (List.mem_append_right _ (List.mem_append_right _ (List.mem_append_right _ (List.mem_append_right _ (List.mem_append_right _ (List.mem_append_right _ (List.mem_append_right _ (List.mem_append_right _ (List.mem_append_right _ (List.mem_append_right _ (List.mem_append_right _ (List.mem_append_right _ (List.mem_append_right _ (List.mem_append_right _ (List.mem_append_right _ (List.mem_append_right _ (List.mem_append_left _ h)))))))))))))))))
theorem GWc_c18 : ∀ w ∈ GWc18, w ∈ GWc := fun w h => by unfold GWc; exact List.mem_append_right _ (List.mem_append_right _ (List.mem_append_right _ (List.mem_append_right _ (List.mem_append_right _ (List.mem_append_right _ (List.mem_append_right _ (List.mem_append_right _ (List.mem_append_right _ (List.mem_append_right _ (List.mem_append_right _ (List.mem_append_right _ (List.mem_append_right _ (List.mem_append_right _ (List.mem_append_right _ (List.mem_append_right _ (List.mem_append_right _ (List.mem_append_right _ (List.mem_append_left _ h))))))))))))))))))
theorem GWc_c19 : ∀ w ∈ GWc19, w ∈ GWc := fun w h => by unfold GWc; exact List.mem_append_right _ (List.mem_append_right _ (List.mem_append_right _ (List.mem_append_right _ (List.mem_append_right _ (List.mem_append_right _ (List.mem_append_right _ (List.mem_append_right _ (List.mem_append_right _ (List.mem_append_right _ (List.mem_append_right _ (List.mem_append_right _ (List.mem_append_right _ (List.mem_append_right _ (List.mem_append_right _ (List.mem_append_right _ (List.mem_append_right _ (List.mem_append_right _ (List.mem_append_right _ (List.mem_append_left _ h)))))))))))))))))))
theorem GWc_c20 : ∀ w ∈ GWc20, w ∈ GWc := fun w h => by unfold GWc; exact List.mem_append_right _ (List.mem_append_right _ (List.mem_append_right _ (List.mem_append_right _ (List.mem_append_right _ (List.mem_append_right _ (List.mem_append_right _ (List.mem_append_right _ (List.mem_append_right _ (List.mem_append_right _ (List.mem_append_right _ (List.mem_append_right _ (List.mem_append_right _ (List.mem_append_right _ (List.mem_append_right _ (List.mem_append_right _ (List.mem_append_right _ (List.mem_append_right _ (List.mem_append_right _ (List.mem_append_right _ (List.mem_append_left _ h))))))))))))))))))))
theorem GWc_c21 : ∀ w ∈ GWc21, w ∈ GWc := fun w h => by unfold GWc; exact List.mem_append_right _ (List.mem_append_right _ (List.mem_append_right _ (List.mem_append_right _ (List.mem_append_right _ (List.mem_append_right _ (List.mem_append_right _ (List.mem_append_right _ (List.mem_append_right _ (List.mem_append_right _ (List.mem_append_right _ (List.mem_append_right _ (List.mem_append_right _ (List.mem_append_right _ (List.mem_append_right _ (List.mem_append_right _ (List.mem_append_right _ (List.mem_append_right _ (List.mem_append_right _ (List.mem_append_right _ (List.mem_append_right _ (List.mem_append_left _ h)))))))))))))))))))))
theorem GWc_c22 : ∀ w ∈ GWc22, w ∈ GWc := fun w h => by unfold GWc; exact List.mem_append_right _ (List.mem_append_right _ (List.mem_append_right _ (List.mem_append_right _ (List.mem_append_right _ (List.mem_append_right _ (List.mem_append_right _ (List.mem_append_right _ (List.mem_append_right _ (List.mem_append_right _ (List.mem_append_right _ (List.mem_append_right _ (List.mem_append_right _ (List.mem_append_right _ (List.mem_append_right _ (List.mem_append_right _ (List.mem_append_right _ (List.mem_append_right _ (List.mem_append_right _ (List.mem_append_right _ (List.mem_append_right _ (List.mem_append_right _ (List.mem_append_left _ h))))))))))))))))))))))
theorem GWc_c23 : ∀ w ∈ GWc23, w ∈ GWc := fun w h => by unfold GWc; exact List.mem_append_right _ (List.mem_append_right _ (List.mem_append_right _ (List.mem_append_right _ (List.mem_append_right _ (List.mem_append_right _ (List.mem_append_right _ (List.mem_append_right _ (List.mem_append_right _ (List.mem_append_right _ (List.mem_append_right _ (List.mem_append_right _ (List.mem_append_right _ (List.mem_append_right _ (List.mem_append_right _ (List.mem_append_right _ (List.mem_append_right _ (List.mem_append_right _ (List.mem_append_right _ (List.mem_append_right _ (List.mem_append_right _ (List.mem_append_right _ (List.mem_append_right _ (List.mem_append_left _ h)))))))))))))))))))))))
theorem GWc_c24 : ∀ w ∈ GWc24, w ∈ GWc := fun w h => by unfold GWc; exact List.mem_append_right _ (List.mem_append_right _ (List.mem_append_right _ (List.mem_append_right _ (List.mem_append_right _ (List.mem_append_right _ (List.mem_append_right _ (List.mem_append_right _ (List.mem_append_right _ (List.mem_append_right _ (List.mem_append_right _ (List.mem_append_right _ (List.mem_append_right _ (List.mem_append_right _ (List.mem_append_right _ (List.mem_append_right _ (List.mem_append_right _ (List.mem_append_right _ (List.mem_append_right _ (List.mem_append_right _ (List.mem_append_right _ (List.mem_append_right _ (List.mem_append_right _ (List.mem_append_right _ (List.mem_append_left _ h))))))))))))))))))))))))
theorem GWc_cT : ∀ w ∈ GWcT, w ∈ GWc := fun w h => by unfold GWc; exact List.mem_append_right _ (List.mem_append_right _ (List.mem_append_right _ (List.mem_append_right _ (List.mem_append_right _ (List.mem_append_right _ (List.mem_append_right _ (List.mem_append_right _ (List.mem_append_right _ (List.mem_append_right _ (List.mem_append_right _ (List.mem_append_right _ (List.mem_append_right _ (List.mem_append_right _ (List.mem_append_right _ (List.mem_append_right _ (List.mem_append_right _ (List.mem_append_right _ (List.mem_append_right _ (List.mem_append_right _ (List.mem_append_right _ (List.mem_append_right _ (List.mem_append_right _ (List.mem_append_right _ (List.mem_append_right _ (List.mem_append_left _ h)))))))))))))))))))))))))
theorem GWc_cX : ∀ w ∈ GWcX, w ∈ GWc := fun w h => by unfold GWc; exact List.mem_append_right _ (List.mem_append_right _ (List.mem_append_right _ (List.mem_append_right _ (List.mem_append_right _ (List.mem_append_right _ (List.mem_append_right _ (List.mem_append_right _ (List.mem_append_right _ (List.mem_append_right _ (List.mem_append_right _ (List.mem_append_right _ (List.mem_append_right _ (List.mem_append_right _ (List.mem_append_right _ (List.mem_append_right _ (List.mem_append_right _ (List.mem_append_right _ (List.mem_append_right _ (List.mem_append_right _ (List.mem_append_right _ (List.mem_append_right _ (List.mem_append_right _ (List.mem_append_right _ (List.mem_append_right _ (List.mem_append_right _ h)))))))))))))))))))))))))
theorem cw_0 : (Cond.code yX0_init cX0_init 1 none) ∈ GWc := GWc_c0 _ (List.mem_of_getElem? (i := 0) rfl)
theorem cw_1 : (Cond.methodLink RX0 3 objectInit) ∈ GWc := GWc_c0 _ (List.mem_of_getElem? (i := 1) rfl)
theorem cw_2 : (Cond.instanceMethod objectInit) ∈ GWc := GWc_c0 _ (List.mem_of_getElem? (i := 2) rfl)
theorem cw_3 : (Cond.code objectInit ⟨#[0xb1]⟩ 1 none) ∈ GWc := GWc_c0 _ (List.mem_of_getElem? (i := 3) rfl)
theorem cw_4 : (Cond.arrayClass .boolean) ∈ GWc := GWc_c0 _ (List.mem_of_getElem? (i := 4) rfl)
theorem cw_5 : (Cond.fieldLink RX0 11 "PhraseDesk$Converters" "there" "[Z") ∈ GWc := GWc_c0 _ (List.mem_of_getElem? (i := 5) rfl)
theorem cw_6 : (Cond.classLink RX0 15 RJ4) ∈ GWc := GWc_c0 _ (List.mem_of_getElem? (i := 6) rfl)
theorem cw_7 : (Cond.instantiable RJ4 4) ∈ GWc := GWc_c0 _ (List.mem_of_getElem? (i := 7) rfl)
theorem cw_8 : (Cond.initialized RJ4) ∈ GWc := GWc_c0 _ (List.mem_of_getElem? (i := 8) rfl)
theorem cw_9 : (Cond.fieldLink RX0 18 "PhraseDesk$Converters" "scratch" "Ljava/lang/StringBuilder;") ∈ GWc := GWc_c0 _ (List.mem_of_getElem? (i := 9) rfl)
theorem cw_10 : (Cond.methodLink RX0 17 yJ4_init_da8c8) ∈ GWc := GWc_c0 _ (List.mem_of_getElem? (i := 10) rfl)
theorem cw_11 : (Cond.instanceMethod yJ4_init_da8c8) ∈ GWc := GWc_c0 _ (List.mem_of_getElem? (i := 11) rfl)
theorem cw_12 : (Cond.code yJ4_init_da8c8 cJ4_init_da8c8 1 none) ∈ GWc := GWc_c0 _ (List.mem_of_getElem? (i := 12) rfl)
theorem cw_13 : (Cond.methodLink RJ4 1 yJ5_init_d00df) ∈ GWc := GWc_c0 _ (List.mem_of_getElem? (i := 13) rfl)
theorem cw_14 : (Cond.instanceMethod yJ5_init_d00df) ∈ GWc := GWc_c0 _ (List.mem_of_getElem? (i := 14) rfl)
theorem cw_15 : (Cond.initialized RJ5) ∈ GWc := GWc_c0 _ (List.mem_of_getElem? (i := 15) rfl)
theorem cw_16 : (Cond.code yJ5_init_d00df cJ5_init_d00df 2 none) ∈ GWc := GWc_c0 _ (List.mem_of_getElem? (i := 16) rfl)
theorem cw_17 : (Cond.methodLink RJ5 3 objectInit) ∈ GWc := GWc_c0 _ (List.mem_of_getElem? (i := 17) rfl)
theorem cw_18 : (Cond.fieldLink RJ5 18 "java/lang/String" "COMPACT_STRINGS" "Z") ∈ GWc := GWc_c0 _ (List.mem_of_getElem? (i := 18) rfl)
theorem cw_19 : (Cond.arrayClass .byte) ∈ GWc := GWc_c0 _ (List.mem_of_getElem? (i := 19) rfl)
theorem cw_20 : (Cond.fieldLink RJ5 15 "java/lang/AbstractStringBuilder" "value" "[B") ∈ GWc := GWc_c0 _ (List.mem_of_getElem? (i := 20) rfl)
theorem cw_21 : (Cond.fieldLink RJ5 22 "java/lang/AbstractStringBuilder" "coder" "B") ∈ GWc := GWc_c0 _ (List.mem_of_getElem? (i := 21) rfl)
theorem cw_22 : (Cond.methodLink RJ5 26 yJ2_newBytesFor_77867) ∈ GWc := GWc_c0 _ (List.mem_of_getElem? (i := 22) rfl)
theorem cw_23 : (Cond.static yJ2_newBytesFor_77867) ∈ GWc := GWc_c0 _ (List.mem_of_getElem? (i := 23) rfl)
theorem cw_24 : (Cond.initialized RJ2) ∈ GWc := GWc_c0 _ (List.mem_of_getElem? (i := 24) rfl)
theorem cw_25 : (Cond.code yJ2_newBytesFor_77867 cJ2_newBytesFor_77867 1 (some (.array .byte))) ∈ GWc := GWc_c0 _ (List.mem_of_getElem? (i := 25) rfl)
theorem cw_26 : (Cond.methodLink RJ2 11 yJ2_newBytesLength_0f7a4) ∈ GWc := GWc_c0 _ (List.mem_of_getElem? (i := 26) rfl)
theorem cw_27 : (Cond.static yJ2_newBytesLength_0f7a4) ∈ GWc := GWc_c0 _ (List.mem_of_getElem? (i := 27) rfl)
theorem cw_28 : (Cond.code yJ2_newBytesLength_0f7a4 cJ2_newBytesLength_0f7a4 1 (some .int)) ∈ GWc := GWc_c0 _ (List.mem_of_getElem? (i := 28) rfl)
theorem cw_29 : (Cond.constant RJ2 20 (1073741823)) ∈ GWc := GWc_c0 _ (List.mem_of_getElem? (i := 29) rfl)
theorem cw_30 : (Cond.code yX0_change cX0_change 6 (some .boolean)) ∈ GWc := GWc_c0 _ (List.mem_of_getElem? (i := 30) rfl)
theorem cw_31 : (Cond.methodLink RX0 22 yX0_isThere) ∈ GWc := GWc_c0 _ (List.mem_of_getElem? (i := 31) rfl)
theorem cw_32 : (Cond.instanceMethod yX0_isThere) ∈ GWc := GWc_c0 _ (List.mem_of_getElem? (i := 32) rfl)
theorem cw_33 : (Cond.selects RX0 yX0_isThere yX0_isThere) ∈ GWc := GWc_c0 _ (List.mem_of_getElem? (i := 33) rfl)
theorem cw_34 : (Cond.initialized RX0) ∈ GWc := GWc_c0 _ (List.mem_of_getElem? (i := 34) rfl)
theorem cw_35 : (Cond.code yX0_isThere cX0_isThere 4 (some .boolean)) ∈ GWc := GWc_c0 _ (List.mem_of_getElem? (i := 35) rfl)
theorem cw_36 : (Cond.code yX0_suit cX0_suit 3 (some .boolean)) ∈ GWc := GWc_c0 _ (List.mem_of_getElem? (i := 36) rfl)
theorem cw_37 : (Cond.methodLink RX0 26 yX10_fits) ∈ GWc := GWc_c0 _ (List.mem_of_getElem? (i := 37) rfl)
theorem cw_38 : (Cond.instanceMethod yX10_fits) ∈ GWc := GWc_c0 _ (List.mem_of_getElem? (i := 38) rfl)
theorem cw_39 : (Cond.selects RX10 yX10_fits yX10_fits) ∈ GWc := GWc_c0 _ (List.mem_of_getElem? (i := 39) rfl)
theorem cw_40 : (Cond.initialized RX10) ∈ GWc := GWc_c1 _ (List.mem_of_getElem? (i := 0) rfl)
theorem cw_41 : (Cond.code yX10_fits cX10_fits 2 (some .boolean)) ∈ GWc := GWc_c1 _ (List.mem_of_getElem? (i := 1) rfl)
theorem cw_42 : (Cond.fieldLink RX10 9 "PhraseDesk$Value" "kind" "I") ∈ GWc := GWc_c1 _ (List.mem_of_getElem? (i := 2) rfl)
theorem cw_43 : (Cond.methodLink RX10 51 yX10_stepsUpTo) ∈ GWc := GWc_c1 _ (List.mem_of_getElem? (i := 3) rfl)
theorem cw_44 : (Cond.instanceMethod yX10_stepsUpTo) ∈ GWc := GWc_c1 _ (List.mem_of_getElem? (i := 4) rfl)
theorem cw_45 : (Cond.selects RX10 yX10_stepsUpTo yX10_stepsUpTo) ∈ GWc := GWc_c1 _ (List.mem_of_getElem? (i := 5) rfl)
theorem cw_46 : (Cond.code yX10_stepsUpTo cX10_stepsUpTo 4 (some .int)) ∈ GWc := GWc_c1 _ (List.mem_of_getElem? (i := 6) rfl)
theorem cw_47 : (Cond.fieldLink RX10 26 "PhraseDesk$Value" "thing" "LPhraseDesk$Thing;") ∈ GWc := GWc_c1 _ (List.mem_of_getElem? (i := 7) rfl)
theorem cw_48 : (Cond.fieldLink RX10 41 "PhraseDesk$Thing" "family" "LPhraseDesk$Family;") ∈ GWc := GWc_c1 _ (List.mem_of_getElem? (i := 8) rfl)
theorem cw_49 : (Cond.fieldLink RX10 47 "PhraseDesk$Family" "kind" "I") ∈ GWc := GWc_c1 _ (List.mem_of_getElem? (i := 9) rfl)
theorem cw_50 : (Cond.fieldLink RX10 55 "PhraseDesk$Family" "parent" "LPhraseDesk$Family;") ∈ GWc := GWc_c1 _ (List.mem_of_getElem? (i := 10) rfl)
theorem cw_51 : (Cond.methodLink RX0 32 yX0_reach) ∈ GWc := GWc_c1 _ (List.mem_of_getElem? (i := 11) rfl)
theorem cw_52 : (Cond.instanceMethod yX0_reach) ∈ GWc := GWc_c1 _ (List.mem_of_getElem? (i := 12) rfl)
theorem cw_53 : (Cond.selects RX0 yX0_reach yX0_reach) ∈ GWc := GWc_c1 _ (List.mem_of_getElem? (i := 13) rfl)
theorem cw_54 : (Cond.code yX0_reach cX0_reach 4 (some .boolean)) ∈ GWc := GWc_c1 _ (List.mem_of_getElem? (i := 14) rfl)
theorem cw_55 : (Cond.fieldLink RX0 36 "PhraseDesk$Value" "kind" "I") ∈ GWc := GWc_c1 _ (List.mem_of_getElem? (i := 15) rfl)
theorem cw_56 : (Cond.fieldLink RX0 40 "PhraseDesk$Value" "thing" "LPhraseDesk$Thing;") ∈ GWc := GWc_c1 _ (List.mem_of_getElem? (i := 16) rfl)
theorem cw_57 : (Cond.fieldLink RX0 44 "PhraseDesk$Thing" "family" "LPhraseDesk$Family;") ∈ GWc := GWc_c1 _ (List.mem_of_getElem? (i := 17) rfl)
theorem cw_58 : (Cond.fieldLink RX0 50 "PhraseDesk$Family" "parent" "LPhraseDesk$Family;") ∈ GWc := GWc_c1 _ (List.mem_of_getElem? (i := 18) rfl)
theorem cw_59 : (Cond.fieldLink RX0 55 "PhraseDesk$Family" "kind" "I") ∈ GWc := GWc_c1 _ (List.mem_of_getElem? (i := 19) rfl)
theorem cw_60 : (Cond.code yX0_convert cX0_convert 4 (some (.object "PhraseDesk$Value"))) ∈ GWc := GWc_c1 _ (List.mem_of_getElem? (i := 20) rfl)
theorem cw_61 : (Cond.fieldLink RX0 63 "PhraseDesk$Value" "number" "I") ∈ GWc := GWc_c1 _ (List.mem_of_getElem? (i := 21) rfl)
theorem cw_62 : (Cond.methodLink RX0 56 yX0_toBool) ∈ GWc := GWc_c1 _ (List.mem_of_getElem? (i := 22) rfl)
theorem cw_63 : (Cond.static yX0_toBool) ∈ GWc := GWc_c1 _ (List.mem_of_getElem? (i := 23) rfl)
theorem cw_64 : (Cond.code yX0_toBool cX0_toBool 2 (some (.object "PhraseDesk$Value"))) ∈ GWc := GWc_c1 _ (List.mem_of_getElem? (i := 24) rfl)
theorem cw_65 : (Cond.fieldLink RX0 78 "PhraseDesk$Value" "chars" "Ljava/lang/String;") ∈ GWc := GWc_c1 _ (List.mem_of_getElem? (i := 25) rfl)
theorem cw_66 : (Cond.fieldLink RX0 96 "PhraseDesk$Value" "real" "D") ∈ GWc := GWc_c1 _ (List.mem_of_getElem? (i := 26) rfl)
theorem cw_67 : (Cond.methodLink RX0 84 yJ0_equals_9ea2d) ∈ GWc := GWc_c1 _ (List.mem_of_getElem? (i := 27) rfl)
theorem cw_68 : (Cond.instanceMethod yJ0_equals_9ea2d) ∈ GWc := GWc_c1 _ (List.mem_of_getElem? (i := 28) rfl)
theorem cw_69 : (Cond.selects RJ0 yJ0_equals_9ea2d yJ0_equals_9ea2d) ∈ GWc := GWc_c1 _ (List.mem_of_getElem? (i := 29) rfl)
theorem cw_70 : (Cond.initialized RJ0) ∈ GWc := GWc_c1 _ (List.mem_of_getElem? (i := 30) rfl)
theorem cw_71 : (Cond.code yJ0_equals_9ea2d cJ0_equals_9ea2d 3 (some .boolean)) ∈ GWc := GWc_c1 _ (List.mem_of_getElem? (i := 31) rfl)
theorem cw_72 : (Cond.classLink RJ0 10 "java/lang/String") ∈ GWc := GWc_c1 _ (List.mem_of_getElem? (i := 32) rfl)
theorem cw_73 : (Cond.fieldLink RJ0 38 "java/lang/String" "COMPACT_STRINGS" "Z") ∈ GWc := GWc_c1 _ (List.mem_of_getElem? (i := 33) rfl)
theorem cw_74 : (Cond.fieldLink RJ0 15 "java/lang/String" "coder" "B") ∈ GWc := GWc_c1 _ (List.mem_of_getElem? (i := 34) rfl)
theorem cw_75 : (Cond.fieldLink RJ0 9 "java/lang/String" "value" "[B") ∈ GWc := GWc_c1 _ (List.mem_of_getElem? (i := 35) rfl)
theorem cw_76 : (Cond.methodLink RJ0 541 yJ1_equals_b5fdf) ∈ GWc := GWc_c1 _ (List.mem_of_getElem? (i := 36) rfl)
theorem cw_77 : (Cond.static yJ1_equals_b5fdf) ∈ GWc := GWc_c1 _ (List.mem_of_getElem? (i := 37) rfl)
theorem cw_78 : (Cond.initialized RJ1) ∈ GWc := GWc_c1 _ (List.mem_of_getElem? (i := 38) rfl)
theorem cw_79 : (Cond.code yJ1_equals_b5fdf cJ1_equals_b5fdf 3 (some .boolean)) ∈ GWc := GWc_c1 _ (List.mem_of_getElem? (i := 39) rfl)
theorem cw_80 : (Cond.methodLink RX0 92 yX10_ofBool) ∈ GWc := GWc_c2 _ (List.mem_of_getElem? (i := 0) rfl)
theorem cw_81 : (Cond.static yX10_ofBool) ∈ GWc := GWc_c2 _ (List.mem_of_getElem? (i := 1) rfl)
theorem cw_82 : (Cond.code yX10_ofBool cX10_ofBool 1 (some (.object "PhraseDesk$Value"))) ∈ GWc := GWc_c2 _ (List.mem_of_getElem? (i := 2) rfl)
theorem cw_83 : (Cond.classLink RX10 10 RX10) ∈ GWc := GWc_c2 _ (List.mem_of_getElem? (i := 3) rfl)
theorem cw_84 : (Cond.instantiable RX10 5) ∈ GWc := GWc_c2 _ (List.mem_of_getElem? (i := 4) rfl)
theorem cw_85 : (Cond.methodLink RX10 32 yX10_init) ∈ GWc := GWc_c2 _ (List.mem_of_getElem? (i := 5) rfl)
theorem cw_86 : (Cond.instanceMethod yX10_init) ∈ GWc := GWc_c2 _ (List.mem_of_getElem? (i := 6) rfl)
theorem cw_87 : (Cond.code yX10_init cX10_init 7 none) ∈ GWc := GWc_c2 _ (List.mem_of_getElem? (i := 7) rfl)
theorem cw_88 : (Cond.methodLink RX10 3 objectInit) ∈ GWc := GWc_c2 _ (List.mem_of_getElem? (i := 8) rfl)
theorem cw_89 : (Cond.fieldLink RX10 15 "PhraseDesk$Value" "number" "I") ∈ GWc := GWc_c2 _ (List.mem_of_getElem? (i := 9) rfl)
theorem cw_90 : (Cond.fieldLink RX10 18 "PhraseDesk$Value" "real" "D") ∈ GWc := GWc_c2 _ (List.mem_of_getElem? (i := 10) rfl)
theorem cw_91 : (Cond.fieldLink RX10 22 "PhraseDesk$Value" "chars" "Ljava/lang/String;") ∈ GWc := GWc_c2 _ (List.mem_of_getElem? (i := 11) rfl)
theorem cw_92 : (Cond.methodLink RX0 60 yX0_toInt) ∈ GWc := GWc_c2 _ (List.mem_of_getElem? (i := 12) rfl)
theorem cw_93 : (Cond.static yX0_toInt) ∈ GWc := GWc_c2 _ (List.mem_of_getElem? (i := 13) rfl)
theorem cw_94 : (Cond.code yX0_toInt cX0_toInt 8 (some (.object "PhraseDesk$Value"))) ∈ GWc := GWc_c2 _ (List.mem_of_getElem? (i := 14) rfl)
theorem cw_95 : (Cond.methodLink RX0 100 yX10_ofInt) ∈ GWc := GWc_c2 _ (List.mem_of_getElem? (i := 15) rfl)
theorem cw_96 : (Cond.static yX10_ofInt) ∈ GWc := GWc_c2 _ (List.mem_of_getElem? (i := 16) rfl)
theorem cw_97 : (Cond.code yX10_ofInt cX10_ofInt 1 (some (.object "PhraseDesk$Value"))) ∈ GWc := GWc_c2 _ (List.mem_of_getElem? (i := 17) rfl)
theorem cw_98 : (Cond.methodLink RX0 104 yJ0_length_8abf5) ∈ GWc := GWc_c2 _ (List.mem_of_getElem? (i := 18) rfl)
theorem cw_99 : (Cond.instanceMethod yJ0_length_8abf5) ∈ GWc := GWc_c2 _ (List.mem_of_getElem? (i := 19) rfl)
theorem cw_100 : (Cond.selects RJ0 yJ0_length_8abf5 yJ0_length_8abf5) ∈ GWc := GWc_c2 _ (List.mem_of_getElem? (i := 20) rfl)
theorem cw_101 : (Cond.code yJ0_length_8abf5 cJ0_length_8abf5 1 (some .int)) ∈ GWc := GWc_c2 _ (List.mem_of_getElem? (i := 21) rfl)
theorem cw_102 : (Cond.methodLink RJ0 335 yJ0_coder_7d493) ∈ GWc := GWc_c2 _ (List.mem_of_getElem? (i := 22) rfl)
theorem cw_103 : (Cond.instanceMethod yJ0_coder_7d493) ∈ GWc := GWc_c2 _ (List.mem_of_getElem? (i := 23) rfl)
theorem cw_104 : (Cond.selects RJ0 yJ0_coder_7d493 yJ0_coder_7d493) ∈ GWc := GWc_c2 _ (List.mem_of_getElem? (i := 24) rfl)
theorem cw_105 : (Cond.code yJ0_coder_7d493 cJ0_coder_7d493 1 (some .byte)) ∈ GWc := GWc_c2 _ (List.mem_of_getElem? (i := 25) rfl)
theorem cw_106 : (Cond.methodLink RX0 108 yJ0_charAt_5068e) ∈ GWc := GWc_c2 _ (List.mem_of_getElem? (i := 26) rfl)
theorem cw_107 : (Cond.instanceMethod yJ0_charAt_5068e) ∈ GWc := GWc_c2 _ (List.mem_of_getElem? (i := 27) rfl)
theorem cw_108 : (Cond.selects RJ0 yJ0_charAt_5068e yJ0_charAt_5068e) ∈ GWc := GWc_c2 _ (List.mem_of_getElem? (i := 28) rfl)
theorem cw_109 : (Cond.code yJ0_charAt_5068e cJ0_charAt_5068e 2 (some .char)) ∈ GWc := GWc_c2 _ (List.mem_of_getElem? (i := 29) rfl)
theorem cw_110 : (Cond.methodLink RJ0 492 yJ0_isLatin1_aae02) ∈ GWc := GWc_c2 _ (List.mem_of_getElem? (i := 30) rfl)
theorem cw_111 : (Cond.instanceMethod yJ0_isLatin1_aae02) ∈ GWc := GWc_c2 _ (List.mem_of_getElem? (i := 31) rfl)
theorem cw_112 : (Cond.selects RJ0 yJ0_isLatin1_aae02 yJ0_isLatin1_aae02) ∈ GWc := GWc_c2 _ (List.mem_of_getElem? (i := 32) rfl)
theorem cw_113 : (Cond.code yJ0_isLatin1_aae02 cJ0_isLatin1_aae02 1 (some .boolean)) ∈ GWc := GWc_c2 _ (List.mem_of_getElem? (i := 33) rfl)
theorem cw_114 : (Cond.methodLink RJ0 495 yJ1_charAt_3b067) ∈ GWc := GWc_c2 _ (List.mem_of_getElem? (i := 34) rfl)
theorem cw_115 : (Cond.static yJ1_charAt_3b067) ∈ GWc := GWc_c2 _ (List.mem_of_getElem? (i := 35) rfl)
theorem cw_116 : (Cond.code yJ1_charAt_3b067 cJ1_charAt_3b067 2 (some .char)) ∈ GWc := GWc_c2 _ (List.mem_of_getElem? (i := 36) rfl)
theorem cw_117 : (Cond.methodLink RJ1 9 yJ0_checkIndex_df160) ∈ GWc := GWc_c2 _ (List.mem_of_getElem? (i := 37) rfl)
theorem cw_118 : (Cond.static yJ0_checkIndex_df160) ∈ GWc := GWc_c2 _ (List.mem_of_getElem? (i := 38) rfl)
theorem cw_119 : (Cond.code yJ0_checkIndex_df160 cJ0_checkIndex_df160 2 none) ∈ GWc := GWc_c2 _ (List.mem_of_getElem? (i := 39) rfl)
theorem cw_120 : (Cond.fieldLink RJ0 1053 "jdk/internal/util/Preconditions" "SIOOBE_FORMATTER" "Ljava/util/function/BiFunction;") ∈ GWc := GWc_c3 _ (List.mem_of_getElem? (i := 0) rfl)
theorem cw_121 : (Cond.methodLink RJ0 1059 yJ3_checkIndex_8e157) ∈ GWc := GWc_c3 _ (List.mem_of_getElem? (i := 1) rfl)
theorem cw_122 : (Cond.static yJ3_checkIndex_8e157) ∈ GWc := GWc_c3 _ (List.mem_of_getElem? (i := 2) rfl)
theorem cw_123 : (Cond.initialized RJ3) ∈ GWc := GWc_c3 _ (List.mem_of_getElem? (i := 3) rfl)
theorem cw_124 : (Cond.code yJ3_checkIndex_8e157 cJ3_checkIndex_8e157 3 (some .int)) ∈ GWc := GWc_c3 _ (List.mem_of_getElem? (i := 4) rfl)
theorem cw_125 : (Cond.methodLink RJ0 498 yJ2_charAt_3b067) ∈ GWc := GWc_c3 _ (List.mem_of_getElem? (i := 5) rfl)
theorem cw_126 : (Cond.static yJ2_charAt_3b067) ∈ GWc := GWc_c3 _ (List.mem_of_getElem? (i := 6) rfl)
theorem cw_127 : (Cond.code yJ2_charAt_3b067 cJ2_charAt_3b067 2 (some .char)) ∈ GWc := GWc_c3 _ (List.mem_of_getElem? (i := 7) rfl)
theorem cw_128 : (Cond.methodLink RJ2 67 yJ2_checkIndex_2214a) ∈ GWc := GWc_c3 _ (List.mem_of_getElem? (i := 8) rfl)
theorem cw_129 : (Cond.static yJ2_checkIndex_2214a) ∈ GWc := GWc_c3 _ (List.mem_of_getElem? (i := 9) rfl)
theorem cw_130 : (Cond.code yJ2_checkIndex_2214a cJ2_checkIndex_2214a 2 none) ∈ GWc := GWc_c3 _ (List.mem_of_getElem? (i := 10) rfl)
theorem cw_131 : (Cond.methodLink RJ2 48 yJ2_length_9d52b) ∈ GWc := GWc_c3 _ (List.mem_of_getElem? (i := 11) rfl)
theorem cw_132 : (Cond.static yJ2_length_9d52b) ∈ GWc := GWc_c3 _ (List.mem_of_getElem? (i := 12) rfl)
theorem cw_133 : (Cond.code yJ2_length_9d52b cJ2_length_9d52b 1 (some .int)) ∈ GWc := GWc_c3 _ (List.mem_of_getElem? (i := 13) rfl)
theorem cw_134 : (Cond.methodLink RJ2 414 yJ0_checkIndex_df160) ∈ GWc := GWc_c3 _ (List.mem_of_getElem? (i := 14) rfl)
theorem cw_135 : (Cond.methodLink RJ2 71 yJ2_getChar_3b067) ∈ GWc := GWc_c3 _ (List.mem_of_getElem? (i := 15) rfl)
theorem cw_136 : (Cond.static yJ2_getChar_3b067) ∈ GWc := GWc_c3 _ (List.mem_of_getElem? (i := 16) rfl)
theorem cw_137 : (Cond.code yJ2_getChar_3b067 cJ2_getChar_3b067 2 (some .char)) ∈ GWc := GWc_c3 _ (List.mem_of_getElem? (i := 17) rfl)
theorem cw_138 : (Cond.fieldLink RJ2 44 "java/lang/StringUTF16" "$assertionsDisabled" "Z") ∈ GWc := GWc_c3 _ (List.mem_of_getElem? (i := 18) rfl)
theorem cw_139 : (Cond.fieldLink RJ2 59 "java/lang/StringUTF16" "HI_BYTE_SHIFT" "I") ∈ GWc := GWc_c3 _ (List.mem_of_getElem? (i := 19) rfl)
theorem cw_140 : (Cond.fieldLink RJ2 63 "java/lang/StringUTF16" "LO_BYTE_SHIFT" "I") ∈ GWc := GWc_c3 _ (List.mem_of_getElem? (i := 20) rfl)
theorem cw_141 : (Cond.methodLink RX0 66 yX10_ofReal) ∈ GWc := GWc_c3 _ (List.mem_of_getElem? (i := 21) rfl)
theorem cw_142 : (Cond.static yX10_ofReal) ∈ GWc := GWc_c3 _ (List.mem_of_getElem? (i := 22) rfl)
theorem cw_143 : (Cond.code yX10_ofReal cX10_ofReal 2 (some (.object "PhraseDesk$Value"))) ∈ GWc := GWc_c3 _ (List.mem_of_getElem? (i := 23) rfl)
theorem cw_144 : (Cond.methodLink RX0 70 yX0_asText) ∈ GWc := GWc_c3 _ (List.mem_of_getElem? (i := 24) rfl)
theorem cw_145 : (Cond.instanceMethod yX0_asText) ∈ GWc := GWc_c3 _ (List.mem_of_getElem? (i := 25) rfl)
theorem cw_146 : (Cond.selects RX0 yX0_asText yX0_asText) ∈ GWc := GWc_c3 _ (List.mem_of_getElem? (i := 26) rfl)
theorem cw_147 : (Cond.code yX0_asText cX0_asText 2 (some (.object "java/lang/String"))) ∈ GWc := GWc_c3 _ (List.mem_of_getElem? (i := 27) rfl)
theorem cw_148 : (Cond.methodLink RX0 114 yJ4_setLength_d00df) ∈ GWc := GWc_c3 _ (List.mem_of_getElem? (i := 28) rfl)
theorem cw_149 : (Cond.instanceMethod yJ4_setLength_d00df) ∈ GWc := GWc_c3 _ (List.mem_of_getElem? (i := 29) rfl)
theorem cw_150 : (Cond.selects RJ4 yJ4_setLength_d00df yJ4_setLength_d00df) ∈ GWc := GWc_c3 _ (List.mem_of_getElem? (i := 30) rfl)
theorem cw_151 : (Cond.code yJ4_setLength_d00df cJ4_setLength_d00df 2 none) ∈ GWc := GWc_c3 _ (List.mem_of_getElem? (i := 31) rfl)
theorem cw_152 : (Cond.methodLink RJ4 333 yJ5_setLength_d00df) ∈ GWc := GWc_c3 _ (List.mem_of_getElem? (i := 32) rfl)
theorem cw_153 : (Cond.sameMethod "java/lang/AbstractStringBuilder" "java/lang/AbstractStringBuilder" "setLength" "(I)V") ∈ GWc := GWc_c3 _ (List.mem_of_getElem? (i := 33) rfl)
theorem cw_154 : (Cond.superclass RJ4 RJ5) ∈ GWc := GWc_c3 _ (List.mem_of_getElem? (i := 34) rfl)
theorem cw_155 : (Cond.instanceMethod yJ5_setLength_d00df) ∈ GWc := GWc_c3 _ (List.mem_of_getElem? (i := 35) rfl)
theorem cw_156 : (Cond.code yJ5_setLength_d00df cJ5_setLength_d00df 2 none) ∈ GWc := GWc_c3 _ (List.mem_of_getElem? (i := 36) rfl)
theorem cw_157 : (Cond.fieldLink RJ5 79 "java/lang/AbstractStringBuilder" "count" "I") ∈ GWc := GWc_c3 _ (List.mem_of_getElem? (i := 37) rfl)
theorem cw_158 : (Cond.fieldLink RJ5 73 "java/lang/AbstractStringBuilder" "maybeLatin1" "Z") ∈ GWc := GWc_c3 _ (List.mem_of_getElem? (i := 38) rfl)
theorem cw_159 : (Cond.methodLink RJ5 100 ⟨"java/lang/AbstractStringBuilder", "ensureCapacityInternal", "(I)V"⟩) ∈ GWc := GWc_c3 _ (List.mem_of_getElem? (i := 39) rfl)
theorem cw_160 : (Cond.sameMethod "java/lang/AbstractStringBuilder" "java/lang/AbstractStringBuilder" "ensureCapacityInternal" "(I)V") ∈ GWc := GWc_c4 _ (List.mem_of_getElem? (i := 0) rfl)
theorem cw_161 : (Cond.selects RJ4 ⟨"java/lang/AbstractStringBuilder", "ensureCapacityInternal", "(I)V"⟩ yJ5_ensureCapacityInternal_d00df) ∈ GWc := GWc_c4 _ (List.mem_of_getElem? (i := 1) rfl)
theorem cw_162 : (Cond.instanceMethod yJ5_ensureCapacityInternal_d00df) ∈ GWc := GWc_c4 _ (List.mem_of_getElem? (i := 2) rfl)
theorem cw_163 : (Cond.code yJ5_ensureCapacityInternal_d00df cJ5_ensureCapacityInternal_d00df 3 none) ∈ GWc := GWc_c4 _ (List.mem_of_getElem? (i := 3) rfl)
theorem cw_164 : (Cond.methodLink RJ5 104 ⟨"java/lang/AbstractStringBuilder", "newCapacity", "(I)I"⟩) ∈ GWc := GWc_c4 _ (List.mem_of_getElem? (i := 4) rfl)
theorem cw_165 : (Cond.sameMethod "java/lang/AbstractStringBuilder" "java/lang/AbstractStringBuilder" "newCapacity" "(I)I") ∈ GWc := GWc_c4 _ (List.mem_of_getElem? (i := 5) rfl)
theorem cw_166 : (Cond.selects RJ4 ⟨"java/lang/AbstractStringBuilder", "newCapacity", "(I)I"⟩ yJ5_newCapacity_0f7a4) ∈ GWc := GWc_c4 _ (List.mem_of_getElem? (i := 6) rfl)
theorem cw_167 : (Cond.instanceMethod yJ5_newCapacity_0f7a4) ∈ GWc := GWc_c4 _ (List.mem_of_getElem? (i := 7) rfl)
theorem cw_168 : (Cond.code yJ5_newCapacity_0f7a4 cJ5_newCapacity_0f7a4 6 (some .int)) ∈ GWc := GWc_c4 _ (List.mem_of_getElem? (i := 8) rfl)
theorem cw_169 : (Cond.constant RJ5 39 (2147483647)) ∈ GWc := GWc_c4 _ (List.mem_of_getElem? (i := 9) rfl)
theorem cw_170 : (Cond.methodLink RJ5 114 yJ8_newLength_cabcc) ∈ GWc := GWc_c4 _ (List.mem_of_getElem? (i := 10) rfl)
theorem cw_171 : (Cond.static yJ8_newLength_cabcc) ∈ GWc := GWc_c4 _ (List.mem_of_getElem? (i := 11) rfl)
theorem cw_172 : (Cond.initialized RJ8) ∈ GWc := GWc_c4 _ (List.mem_of_getElem? (i := 12) rfl)
theorem cw_173 : (Cond.code yJ8_newLength_cabcc cJ8_newLength_cabcc 4 (some .int)) ∈ GWc := GWc_c4 _ (List.mem_of_getElem? (i := 13) rfl)
theorem cw_174 : (Cond.methodLink RJ8 194 Lib.Math.max.name) ∈ GWc := GWc_c4 _ (List.mem_of_getElem? (i := 14) rfl)
theorem cw_175 : (Cond.static Lib.Math.max.name) ∈ GWc := GWc_c4 _ (List.mem_of_getElem? (i := 15) rfl)
theorem cw_176 : (Cond.initialized "java/lang/Math") ∈ GWc := GWc_c4 _ (List.mem_of_getElem? (i := 16) rfl)
theorem cw_177 : (Cond.code Lib.Math.max.name Lib.Math.max.code 2 (some .int)) ∈ GWc := GWc_c4 _ (List.mem_of_getElem? (i := 17) rfl)
theorem cw_178 : (Cond.constant RJ8 200 (2147483639)) ∈ GWc := GWc_c4 _ (List.mem_of_getElem? (i := 18) rfl)
theorem cw_179 : (Cond.methodLink RJ8 201 yJ8_hugeLength_7cf53) ∈ GWc := GWc_c4 _ (List.mem_of_getElem? (i := 19) rfl)
theorem cw_180 : (Cond.static yJ8_hugeLength_7cf53) ∈ GWc := GWc_c4 _ (List.mem_of_getElem? (i := 20) rfl)
theorem cw_181 : (Cond.code yJ8_hugeLength_7cf53 cJ8_hugeLength_7cf53 3 (some .int)) ∈ GWc := GWc_c4 _ (List.mem_of_getElem? (i := 21) rfl)
theorem cw_182 : (Cond.methodLink RJ5 108 yJ7_copyOf_9075b) ∈ GWc := GWc_c4 _ (List.mem_of_getElem? (i := 22) rfl)
theorem cw_183 : (Cond.static yJ7_copyOf_9075b) ∈ GWc := GWc_c4 _ (List.mem_of_getElem? (i := 23) rfl)
theorem cw_184 : (Cond.initialized RJ7) ∈ GWc := GWc_c4 _ (List.mem_of_getElem? (i := 24) rfl)
theorem cw_185 : (Cond.code yJ7_copyOf_9075b cJ7_copyOf_9075b 3 (some (.array .byte))) ∈ GWc := GWc_c4 _ (List.mem_of_getElem? (i := 25) rfl)
theorem cw_186 : (Cond.methodLink RJ7 310 ⟨"[B", "clone", "()Ljava/lang/Object;"⟩) ∈ GWc := GWc_c4 _ (List.mem_of_getElem? (i := 26) rfl)
theorem cw_187 : (Cond.sameMethod "[B" "java/lang/Object" "clone" "()Ljava/lang/Object;") ∈ GWc := GWc_c4 _ (List.mem_of_getElem? (i := 27) rfl)
theorem cw_188 : (Cond.native ⟨"java/lang/Object", "clone", "()Ljava/lang/Object;"⟩) ∈ GWc := GWc_c4 _ (List.mem_of_getElem? (i := 28) rfl)
theorem cw_189 : (Cond.instanceMethod ⟨"java/lang/Object", "clone", "()Ljava/lang/Object;"⟩) ∈ GWc := GWc_c4 _ (List.mem_of_getElem? (i := 29) rfl)
theorem cw_190 : (Cond.selects "[B" ⟨"[B", "clone", "()Ljava/lang/Object;"⟩ ⟨"java/lang/Object", "clone", "()Ljava/lang/Object;"⟩) ∈ GWc := GWc_c4 _ (List.mem_of_getElem? (i := 30) rfl)
theorem cw_191 : (Cond.classLink RJ7 311 "[B") ∈ GWc := GWc_c4 _ (List.mem_of_getElem? (i := 31) rfl)
theorem cw_192 : (Cond.methodLink RJ7 304 Lib.Math.min.name) ∈ GWc := GWc_c4 _ (List.mem_of_getElem? (i := 32) rfl)
theorem cw_193 : (Cond.static Lib.Math.min.name) ∈ GWc := GWc_c4 _ (List.mem_of_getElem? (i := 33) rfl)
theorem cw_194 : (Cond.code Lib.Math.min.name Lib.Math.min.code 2 (some .int)) ∈ GWc := GWc_c4 _ (List.mem_of_getElem? (i := 34) rfl)
theorem cw_195 : (Cond.methodLink RJ7 150 arraycopyName) ∈ GWc := GWc_c4 _ (List.mem_of_getElem? (i := 35) rfl)
theorem cw_196 : (Cond.native arraycopyName) ∈ GWc := GWc_c4 _ (List.mem_of_getElem? (i := 36) rfl)
theorem cw_197 : (Cond.static arraycopyName) ∈ GWc := GWc_c4 _ (List.mem_of_getElem? (i := 37) rfl)
theorem cw_198 : (Cond.initialized "java/lang/System") ∈ GWc := GWc_c4 _ (List.mem_of_getElem? (i := 38) rfl)
theorem cw_199 : (Cond.methodLink RJ5 83 ⟨"java/lang/AbstractStringBuilder", "isLatin1", "()Z"⟩) ∈ GWc := GWc_c4 _ (List.mem_of_getElem? (i := 39) rfl)
theorem cw_200 : (Cond.sameMethod "java/lang/AbstractStringBuilder" "java/lang/AbstractStringBuilder" "isLatin1" "()Z") ∈ GWc := GWc_c5 _ (List.mem_of_getElem? (i := 0) rfl)
theorem cw_201 : (Cond.selects RJ4 ⟨"java/lang/AbstractStringBuilder", "isLatin1", "()Z"⟩ yJ5_isLatin1_aae02) ∈ GWc := GWc_c5 _ (List.mem_of_getElem? (i := 1) rfl)
theorem cw_202 : (Cond.instanceMethod yJ5_isLatin1_aae02) ∈ GWc := GWc_c5 _ (List.mem_of_getElem? (i := 2) rfl)
theorem cw_203 : (Cond.code yJ5_isLatin1_aae02 cJ5_isLatin1_aae02 1 (some .boolean)) ∈ GWc := GWc_c5 _ (List.mem_of_getElem? (i := 3) rfl)
theorem cw_204 : (Cond.methodLink RJ5 133 yJ1_fillNull_b72d1) ∈ GWc := GWc_c5 _ (List.mem_of_getElem? (i := 4) rfl)
theorem cw_205 : (Cond.static yJ1_fillNull_b72d1) ∈ GWc := GWc_c5 _ (List.mem_of_getElem? (i := 5) rfl)
theorem cw_206 : (Cond.code yJ1_fillNull_b72d1 cJ1_fillNull_b72d1 3 none) ∈ GWc := GWc_c5 _ (List.mem_of_getElem? (i := 6) rfl)
theorem cw_207 : (Cond.methodLink RJ1 236 yJ7_fill_eb02e) ∈ GWc := GWc_c5 _ (List.mem_of_getElem? (i := 7) rfl)
theorem cw_208 : (Cond.static yJ7_fill_eb02e) ∈ GWc := GWc_c5 _ (List.mem_of_getElem? (i := 8) rfl)
theorem cw_209 : (Cond.code yJ7_fill_eb02e cJ7_fill_eb02e 5 none) ∈ GWc := GWc_c5 _ (List.mem_of_getElem? (i := 9) rfl)
theorem cw_210 : (Cond.methodLink RJ7 13 yJ7_rangeCheck_23922) ∈ GWc := GWc_c5 _ (List.mem_of_getElem? (i := 10) rfl)
theorem cw_211 : (Cond.static yJ7_rangeCheck_23922) ∈ GWc := GWc_c5 _ (List.mem_of_getElem? (i := 11) rfl)
theorem cw_212 : (Cond.code yJ7_rangeCheck_23922 cJ7_rangeCheck_23922 3 none) ∈ GWc := GWc_c5 _ (List.mem_of_getElem? (i := 12) rfl)
theorem cw_213 : (Cond.classLink RJ7 45 RJ4) ∈ GWc := GWc_c5 _ (List.mem_of_getElem? (i := 13) rfl)
theorem cw_214 : (Cond.methodLink RJ5 137 yJ2_fillNull_b72d1) ∈ GWc := GWc_c5 _ (List.mem_of_getElem? (i := 14) rfl)
theorem cw_215 : (Cond.static yJ2_fillNull_b72d1) ∈ GWc := GWc_c5 _ (List.mem_of_getElem? (i := 15) rfl)
theorem cw_216 : (Cond.code yJ2_fillNull_b72d1 cJ2_fillNull_b72d1 3 none) ∈ GWc := GWc_c5 _ (List.mem_of_getElem? (i := 16) rfl)
theorem cw_217 : (Cond.methodLink RJ2 380 yJ7_fill_eb02e) ∈ GWc := GWc_c5 _ (List.mem_of_getElem? (i := 17) rfl)
theorem cw_218 : (Cond.methodLink RX0 118 yJ4_append_cf468) ∈ GWc := GWc_c5 _ (List.mem_of_getElem? (i := 18) rfl)
theorem cw_219 : (Cond.instanceMethod yJ4_append_cf468) ∈ GWc := GWc_c5 _ (List.mem_of_getElem? (i := 19) rfl)
theorem cw_220 : (Cond.selects RJ4 yJ4_append_cf468 yJ4_append_cf468) ∈ GWc := GWc_c5 _ (List.mem_of_getElem? (i := 20) rfl)
theorem cw_221 : (Cond.code yJ4_append_cf468 cJ4_append_cf468 2 (some (.object "java/lang/StringBuilder"))) ∈ GWc := GWc_c5 _ (List.mem_of_getElem? (i := 21) rfl)
theorem cw_222 : (Cond.methodLink RJ4 50 yJ5_append_3fe6f) ∈ GWc := GWc_c5 _ (List.mem_of_getElem? (i := 22) rfl)
theorem cw_223 : (Cond.sameMethod "java/lang/AbstractStringBuilder" "java/lang/AbstractStringBuilder" "append" "(C)Ljava/lang/AbstractStringBuilder;") ∈ GWc := GWc_c5 _ (List.mem_of_getElem? (i := 23) rfl)
theorem cw_224 : (Cond.instanceMethod yJ5_append_3fe6f) ∈ GWc := GWc_c5 _ (List.mem_of_getElem? (i := 24) rfl)
theorem cw_225 : (Cond.code yJ5_append_3fe6f cJ5_append_3fe6f 2 (some (.object "java/lang/AbstractStringBuilder"))) ∈ GWc := GWc_c5 _ (List.mem_of_getElem? (i := 25) rfl)
theorem cw_226 : (Cond.methodLink RJ5 191 yJ1_canEncode_fc78d) ∈ GWc := GWc_c5 _ (List.mem_of_getElem? (i := 26) rfl)
theorem cw_227 : (Cond.static yJ1_canEncode_fc78d) ∈ GWc := GWc_c5 _ (List.mem_of_getElem? (i := 27) rfl)
theorem cw_228 : (Cond.code yJ1_canEncode_fc78d cJ1_canEncode_fc78d 1 (some .boolean)) ∈ GWc := GWc_c5 _ (List.mem_of_getElem? (i := 28) rfl)
theorem cw_229 : (Cond.methodLink RJ5 195 ⟨"java/lang/AbstractStringBuilder", "inflate", "()V"⟩) ∈ GWc := GWc_c5 _ (List.mem_of_getElem? (i := 29) rfl)
theorem cw_230 : (Cond.sameMethod "java/lang/AbstractStringBuilder" "java/lang/AbstractStringBuilder" "inflate" "()V") ∈ GWc := GWc_c5 _ (List.mem_of_getElem? (i := 30) rfl)
theorem cw_231 : (Cond.selects RJ4 ⟨"java/lang/AbstractStringBuilder", "inflate", "()V"⟩ yJ5_inflate_da8c8) ∈ GWc := GWc_c5 _ (List.mem_of_getElem? (i := 31) rfl)
theorem cw_232 : (Cond.instanceMethod yJ5_inflate_da8c8) ∈ GWc := GWc_c5 _ (List.mem_of_getElem? (i := 32) rfl)
theorem cw_233 : (Cond.code yJ5_inflate_da8c8 cJ5_inflate_da8c8 2 none) ∈ GWc := GWc_c5 _ (List.mem_of_getElem? (i := 33) rfl)
theorem cw_234 : (Cond.methodLink RJ5 125 yJ1_inflate_0e8fd) ∈ GWc := GWc_c5 _ (List.mem_of_getElem? (i := 34) rfl)
theorem cw_235 : (Cond.static yJ1_inflate_0e8fd) ∈ GWc := GWc_c5 _ (List.mem_of_getElem? (i := 35) rfl)
theorem cw_236 : (Cond.code yJ1_inflate_0e8fd cJ1_inflate_0e8fd 5 none) ∈ GWc := GWc_c5 _ (List.mem_of_getElem? (i := 36) rfl)
theorem cw_237 : (Cond.methodLink RJ1 240 yJ2_inflate_0e8fd) ∈ GWc := GWc_c5 _ (List.mem_of_getElem? (i := 37) rfl)
theorem cw_238 : (Cond.static yJ2_inflate_0e8fd) ∈ GWc := GWc_c5 _ (List.mem_of_getElem? (i := 38) rfl)
theorem cw_239 : (Cond.code yJ2_inflate_0e8fd cJ2_inflate_0e8fd 6 none) ∈ GWc := GWc_c5 _ (List.mem_of_getElem? (i := 39) rfl)
theorem cw_240 : (Cond.methodLink RJ2 173 yJ2_checkBoundsOffCount_d044e) ∈ GWc := GWc_c6 _ (List.mem_of_getElem? (i := 0) rfl)
theorem cw_241 : (Cond.static yJ2_checkBoundsOffCount_d044e) ∈ GWc := GWc_c6 _ (List.mem_of_getElem? (i := 1) rfl)
theorem cw_242 : (Cond.code yJ2_checkBoundsOffCount_d044e cJ2_checkBoundsOffCount_d044e 3 none) ∈ GWc := GWc_c6 _ (List.mem_of_getElem? (i := 2) rfl)
theorem cw_243 : (Cond.methodLink RJ2 419 yJ0_checkBoundsOffCount_cabcc) ∈ GWc := GWc_c6 _ (List.mem_of_getElem? (i := 3) rfl)
theorem cw_244 : (Cond.static yJ0_checkBoundsOffCount_cabcc) ∈ GWc := GWc_c6 _ (List.mem_of_getElem? (i := 4) rfl)
theorem cw_245 : (Cond.code yJ0_checkBoundsOffCount_cabcc cJ0_checkBoundsOffCount_cabcc 3 (some .int)) ∈ GWc := GWc_c6 _ (List.mem_of_getElem? (i := 5) rfl)
theorem cw_246 : (Cond.methodLink RJ0 1065 yJ3_checkFromIndexSize_8c36e) ∈ GWc := GWc_c6 _ (List.mem_of_getElem? (i := 6) rfl)
theorem cw_247 : (Cond.static yJ3_checkFromIndexSize_8c36e) ∈ GWc := GWc_c6 _ (List.mem_of_getElem? (i := 7) rfl)
theorem cw_248 : (Cond.code yJ3_checkFromIndexSize_8c36e cJ3_checkFromIndexSize_8c36e 4 (some .int)) ∈ GWc := GWc_c6 _ (List.mem_of_getElem? (i := 8) rfl)
theorem cw_249 : (Cond.methodLink RJ2 111 yJ2_putChar_b72d1) ∈ GWc := GWc_c6 _ (List.mem_of_getElem? (i := 9) rfl)
theorem cw_250 : (Cond.static yJ2_putChar_b72d1) ∈ GWc := GWc_c6 _ (List.mem_of_getElem? (i := 10) rfl)
theorem cw_251 : (Cond.code yJ2_putChar_b72d1 cJ2_putChar_b72d1 3 none) ∈ GWc := GWc_c6 _ (List.mem_of_getElem? (i := 11) rfl)
theorem cw_252 : (Cond.methodLink RJ5 197 yJ2_putCharSB_b72d1) ∈ GWc := GWc_c6 _ (List.mem_of_getElem? (i := 12) rfl)
theorem cw_253 : (Cond.static yJ2_putCharSB_b72d1) ∈ GWc := GWc_c6 _ (List.mem_of_getElem? (i := 13) rfl)
theorem cw_254 : (Cond.code yJ2_putCharSB_b72d1 cJ2_putCharSB_b72d1 3 none) ∈ GWc := GWc_c6 _ (List.mem_of_getElem? (i := 14) rfl)
theorem cw_255 : (Cond.methodLink RX0 122 yJ4_append_bf812) ∈ GWc := GWc_c6 _ (List.mem_of_getElem? (i := 15) rfl)
theorem cw_256 : (Cond.instanceMethod yJ4_append_bf812) ∈ GWc := GWc_c6 _ (List.mem_of_getElem? (i := 16) rfl)
theorem cw_257 : (Cond.selects RJ4 yJ4_append_bf812 yJ4_append_bf812) ∈ GWc := GWc_c6 _ (List.mem_of_getElem? (i := 17) rfl)
theorem cw_258 : (Cond.code yJ4_append_bf812 cJ4_append_bf812 2 (some (.object "java/lang/StringBuilder"))) ∈ GWc := GWc_c6 _ (List.mem_of_getElem? (i := 18) rfl)
theorem cw_259 : (Cond.methodLink RJ4 53 yJ5_append_c97b9) ∈ GWc := GWc_c6 _ (List.mem_of_getElem? (i := 19) rfl)
theorem cw_260 : (Cond.sameMethod "java/lang/AbstractStringBuilder" "java/lang/AbstractStringBuilder" "append" "(I)Ljava/lang/AbstractStringBuilder;") ∈ GWc := GWc_c6 _ (List.mem_of_getElem? (i := 20) rfl)
theorem cw_261 : (Cond.instanceMethod yJ5_append_c97b9) ∈ GWc := GWc_c6 _ (List.mem_of_getElem? (i := 21) rfl)
theorem cw_262 : (Cond.code yJ5_append_c97b9 cJ5_append_c97b9 4 (some (.object "java/lang/AbstractStringBuilder"))) ∈ GWc := GWc_c6 _ (List.mem_of_getElem? (i := 22) rfl)
theorem cw_263 : (Cond.methodLink RJ5 245 yJ6_stringSize_0f7a4) ∈ GWc := GWc_c6 _ (List.mem_of_getElem? (i := 23) rfl)
theorem cw_264 : (Cond.static yJ6_stringSize_0f7a4) ∈ GWc := GWc_c6 _ (List.mem_of_getElem? (i := 24) rfl)
theorem cw_265 : (Cond.initialized RJ6) ∈ GWc := GWc_c6 _ (List.mem_of_getElem? (i := 25) rfl)
theorem cw_266 : (Cond.code yJ6_stringSize_0f7a4 cJ6_stringSize_0f7a4 4 (some .int)) ∈ GWc := GWc_c6 _ (List.mem_of_getElem? (i := 26) rfl)
theorem cw_267 : (Cond.methodLink RJ5 248 yJ6_getChars_ba4f3) ∈ GWc := GWc_c6 _ (List.mem_of_getElem? (i := 27) rfl)
theorem cw_268 : (Cond.static yJ6_getChars_ba4f3) ∈ GWc := GWc_c6 _ (List.mem_of_getElem? (i := 28) rfl)
theorem cw_269 : (Cond.code yJ6_getChars_ba4f3 cJ6_getChars_ba4f3 7 (some .int)) ∈ GWc := GWc_c6 _ (List.mem_of_getElem? (i := 29) rfl)
theorem cw_270 : (Cond.fieldLink RJ6 83 "java/lang/Integer" "DigitOnes" "[B") ∈ GWc := GWc_c6 _ (List.mem_of_getElem? (i := 30) rfl)
theorem cw_271 : (Cond.fieldLink RJ6 87 "java/lang/Integer" "DigitTens" "[B") ∈ GWc := GWc_c6 _ (List.mem_of_getElem? (i := 31) rfl)
theorem cw_272 : (Cond.methodLink RJ5 251 yJ2_getChars_46870) ∈ GWc := GWc_c6 _ (List.mem_of_getElem? (i := 32) rfl)
theorem cw_273 : (Cond.static yJ2_getChars_46870) ∈ GWc := GWc_c6 _ (List.mem_of_getElem? (i := 33) rfl)
theorem cw_274 : (Cond.code yJ2_getChars_46870 cJ2_getChars_46870 5 (some .int)) ∈ GWc := GWc_c6 _ (List.mem_of_getElem? (i := 34) rfl)
theorem cw_275 : (Cond.methodLink RJ2 96 yJ2_checkBoundsBeginEnd_d044e) ∈ GWc := GWc_c6 _ (List.mem_of_getElem? (i := 35) rfl)
theorem cw_276 : (Cond.static yJ2_checkBoundsBeginEnd_d044e) ∈ GWc := GWc_c6 _ (List.mem_of_getElem? (i := 36) rfl)
theorem cw_277 : (Cond.code yJ2_checkBoundsBeginEnd_d044e cJ2_checkBoundsBeginEnd_d044e 3 none) ∈ GWc := GWc_c6 _ (List.mem_of_getElem? (i := 37) rfl)
theorem cw_278 : (Cond.methodLink RJ2 241 yJ0_checkBoundsBeginEnd_23922) ∈ GWc := GWc_c6 _ (List.mem_of_getElem? (i := 38) rfl)
theorem cw_279 : (Cond.static yJ0_checkBoundsBeginEnd_23922) ∈ GWc := GWc_c6 _ (List.mem_of_getElem? (i := 39) rfl)
theorem cw_280 : (Cond.code yJ0_checkBoundsBeginEnd_23922 cJ0_checkBoundsBeginEnd_23922 3 none) ∈ GWc := GWc_c7 _ (List.mem_of_getElem? (i := 0) rfl)
theorem cw_281 : (Cond.methodLink RJ0 1062 yJ3_checkFromToIndex_8c36e) ∈ GWc := GWc_c7 _ (List.mem_of_getElem? (i := 1) rfl)
theorem cw_282 : (Cond.static yJ3_checkFromToIndex_8c36e) ∈ GWc := GWc_c7 _ (List.mem_of_getElem? (i := 2) rfl)
theorem cw_283 : (Cond.code yJ3_checkFromToIndex_8c36e cJ3_checkFromToIndex_8c36e 4 (some .int)) ∈ GWc := GWc_c7 _ (List.mem_of_getElem? (i := 3) rfl)
theorem cw_284 : (Cond.methodLink RJ2 393 yJ2_getChars_ba4f3) ∈ GWc := GWc_c7 _ (List.mem_of_getElem? (i := 4) rfl)
theorem cw_285 : (Cond.static yJ2_getChars_ba4f3) ∈ GWc := GWc_c7 _ (List.mem_of_getElem? (i := 5) rfl)
theorem cw_286 : (Cond.code yJ2_getChars_ba4f3 cJ2_getChars_ba4f3 7 (some .int)) ∈ GWc := GWc_c7 _ (List.mem_of_getElem? (i := 6) rfl)
theorem cw_287 : (Cond.fieldLink RJ2 403 "java/lang/Integer" "DigitOnes" "[B") ∈ GWc := GWc_c7 _ (List.mem_of_getElem? (i := 7) rfl)
theorem cw_288 : (Cond.fieldLink RJ2 407 "java/lang/Integer" "DigitTens" "[B") ∈ GWc := GWc_c7 _ (List.mem_of_getElem? (i := 8) rfl)
theorem cw_289 : (Cond.methodLink RX0 125 yJ4_toString_0e30d) ∈ GWc := GWc_c7 _ (List.mem_of_getElem? (i := 9) rfl)
theorem cw_290 : (Cond.instanceMethod yJ4_toString_0e30d) ∈ GWc := GWc_c7 _ (List.mem_of_getElem? (i := 10) rfl)
theorem cw_291 : (Cond.selects RJ4 yJ4_toString_0e30d yJ4_toString_0e30d) ∈ GWc := GWc_c7 _ (List.mem_of_getElem? (i := 11) rfl)
theorem cw_292 : (Cond.code yJ4_toString_0e30d cJ4_toString_0e30d 1 (some (.object "java/lang/String"))) ∈ GWc := GWc_c7 _ (List.mem_of_getElem? (i := 12) rfl)
theorem cw_293 : (Cond.classLink RJ4 18 RJ0) ∈ GWc := GWc_c7 _ (List.mem_of_getElem? (i := 13) rfl)
theorem cw_294 : (Cond.instantiable RJ0 4) ∈ GWc := GWc_c7 _ (List.mem_of_getElem? (i := 14) rfl)
theorem cw_295 : (Cond.methodLink RJ4 137 yJ0_init_81219) ∈ GWc := GWc_c7 _ (List.mem_of_getElem? (i := 15) rfl)
theorem cw_296 : (Cond.instanceMethod yJ0_init_81219) ∈ GWc := GWc_c7 _ (List.mem_of_getElem? (i := 16) rfl)
theorem cw_297 : (Cond.code yJ0_init_81219 cJ0_init_81219 2 none) ∈ GWc := GWc_c7 _ (List.mem_of_getElem? (i := 17) rfl)
theorem cw_298 : (Cond.methodLink RJ0 489 yJ0_init_db425) ∈ GWc := GWc_c7 _ (List.mem_of_getElem? (i := 18) rfl)
theorem cw_299 : (Cond.instanceMethod yJ0_init_db425) ∈ GWc := GWc_c7 _ (List.mem_of_getElem? (i := 19) rfl)
theorem cw_300 : (Cond.code yJ0_init_db425 cJ0_init_db425 5 none) ∈ GWc := GWc_c7 _ (List.mem_of_getElem? (i := 20) rfl)
theorem cw_301 : (Cond.methodLink RJ0 1 objectInit) ∈ GWc := GWc_c7 _ (List.mem_of_getElem? (i := 21) rfl)
theorem cw_302 : (Cond.fieldLink RJ0 1048 "java/lang/AbstractStringBuilder" "maybeLatin1" "Z") ∈ GWc := GWc_c7 _ (List.mem_of_getElem? (i := 22) rfl)
theorem cw_303 : (Cond.methodLink RJ0 552 ⟨"java/lang/AbstractStringBuilder", "getValue", "()[B"⟩) ∈ GWc := GWc_c7 _ (List.mem_of_getElem? (i := 23) rfl)
theorem cw_304 : (Cond.sameMethod "java/lang/AbstractStringBuilder" "java/lang/AbstractStringBuilder" "getValue" "()[B") ∈ GWc := GWc_c7 _ (List.mem_of_getElem? (i := 24) rfl)
theorem cw_305 : (Cond.selects RJ4 ⟨"java/lang/AbstractStringBuilder", "getValue", "()[B"⟩ yJ5_getValue_6d5f1) ∈ GWc := GWc_c7 _ (List.mem_of_getElem? (i := 25) rfl)
theorem cw_306 : (Cond.instanceMethod yJ5_getValue_6d5f1) ∈ GWc := GWc_c7 _ (List.mem_of_getElem? (i := 26) rfl)
theorem cw_307 : (Cond.code yJ5_getValue_6d5f1 cJ5_getValue_6d5f1 1 (some (.array .byte))) ∈ GWc := GWc_c7 _ (List.mem_of_getElem? (i := 27) rfl)
theorem cw_308 : (Cond.methodLink RJ0 549 ⟨"java/lang/AbstractStringBuilder", "length", "()I"⟩) ∈ GWc := GWc_c7 _ (List.mem_of_getElem? (i := 28) rfl)
theorem cw_309 : (Cond.sameMethod "java/lang/AbstractStringBuilder" "java/lang/AbstractStringBuilder" "length" "()I") ∈ GWc := GWc_c7 _ (List.mem_of_getElem? (i := 29) rfl)
theorem cw_310 : (Cond.instanceMethod ⟨"java/lang/AbstractStringBuilder", "length", "()I"⟩) ∈ GWc := GWc_c7 _ (List.mem_of_getElem? (i := 30) rfl)
theorem cw_311 : (Cond.selects RJ4 ⟨"java/lang/AbstractStringBuilder", "length", "()I"⟩ yJ4_length_8abf5) ∈ GWc := GWc_c7 _ (List.mem_of_getElem? (i := 31) rfl)
theorem cw_312 : (Cond.instanceMethod yJ4_length_8abf5) ∈ GWc := GWc_c7 _ (List.mem_of_getElem? (i := 32) rfl)
theorem cw_313 : (Cond.code yJ4_length_8abf5 cJ4_length_8abf5 1 (some .int)) ∈ GWc := GWc_c7 _ (List.mem_of_getElem? (i := 33) rfl)
theorem cw_314 : (Cond.methodLink RJ4 343 yJ5_length_8abf5) ∈ GWc := GWc_c7 _ (List.mem_of_getElem? (i := 34) rfl)
theorem cw_315 : (Cond.instanceMethod yJ5_length_8abf5) ∈ GWc := GWc_c7 _ (List.mem_of_getElem? (i := 35) rfl)
theorem cw_316 : (Cond.code yJ5_length_8abf5 cJ5_length_8abf5 1 (some .int)) ∈ GWc := GWc_c7 _ (List.mem_of_getElem? (i := 36) rfl)
theorem cw_317 : (Cond.methodLink RJ0 1047 ⟨"java/lang/AbstractStringBuilder", "isLatin1", "()Z"⟩) ∈ GWc := GWc_c7 _ (List.mem_of_getElem? (i := 37) rfl)
theorem cw_318 : (Cond.methodLink RJ0 54 yJ7_copyOfRange_39247) ∈ GWc := GWc_c7 _ (List.mem_of_getElem? (i := 38) rfl)
theorem cw_319 : (Cond.static yJ7_copyOfRange_39247) ∈ GWc := GWc_c7 _ (List.mem_of_getElem? (i := 39) rfl)
theorem cw_320 : (Cond.code yJ7_copyOfRange_39247 cJ7_copyOfRange_39247 3 (some (.array .byte))) ∈ GWc := GWc_c8 _ (List.mem_of_getElem? (i := 0) rfl)
theorem cw_321 : (Cond.methodLink RJ7 339 yJ7_copyOfRangeByte_39247) ∈ GWc := GWc_c8 _ (List.mem_of_getElem? (i := 1) rfl)
theorem cw_322 : (Cond.static yJ7_copyOfRangeByte_39247) ∈ GWc := GWc_c8 _ (List.mem_of_getElem? (i := 2) rfl)
theorem cw_323 : (Cond.code yJ7_copyOfRangeByte_39247 cJ7_copyOfRangeByte_39247 5 (some (.array .byte))) ∈ GWc := GWc_c8 _ (List.mem_of_getElem? (i := 3) rfl)
theorem cw_324 : (Cond.methodLink RJ7 343 yJ7_checkLength_df160) ∈ GWc := GWc_c8 _ (List.mem_of_getElem? (i := 4) rfl)
theorem cw_325 : (Cond.static yJ7_checkLength_df160) ∈ GWc := GWc_c8 _ (List.mem_of_getElem? (i := 5) rfl)
theorem cw_326 : (Cond.code yJ7_checkLength_df160 cJ7_checkLength_df160 2 none) ∈ GWc := GWc_c8 _ (List.mem_of_getElem? (i := 6) rfl)
theorem cw_327 : (Cond.methodLink RJ0 1051 yJ2_compress_39247) ∈ GWc := GWc_c8 _ (List.mem_of_getElem? (i := 7) rfl)
theorem cw_328 : (Cond.static yJ2_compress_39247) ∈ GWc := GWc_c8 _ (List.mem_of_getElem? (i := 8) rfl)
theorem cw_329 : (Cond.code yJ2_compress_39247 cJ2_compress_39247 6 (some (.array .byte))) ∈ GWc := GWc_c8 _ (List.mem_of_getElem? (i := 9) rfl)
theorem cw_330 : (Cond.methodLink RJ2 123 yJ2_compress_5af95) ∈ GWc := GWc_c8 _ (List.mem_of_getElem? (i := 10) rfl)
theorem cw_331 : (Cond.static yJ2_compress_5af95) ∈ GWc := GWc_c8 _ (List.mem_of_getElem? (i := 11) rfl)
theorem cw_332 : (Cond.code yJ2_compress_5af95 cJ2_compress_5af95 7 (some .int)) ∈ GWc := GWc_c8 _ (List.mem_of_getElem? (i := 12) rfl)
theorem cw_333 : (Cond.methodLink RJ2 126 yJ7_copyOfRange_39247) ∈ GWc := GWc_c8 _ (List.mem_of_getElem? (i := 13) rfl)
theorem cw_334 : (Cond.methodLink RJ0 47 yJ2_coderFromArrayLen_85cad) ∈ GWc := GWc_c8 _ (List.mem_of_getElem? (i := 14) rfl)
theorem cw_335 : (Cond.static yJ2_coderFromArrayLen_85cad) ∈ GWc := GWc_c8 _ (List.mem_of_getElem? (i := 15) rfl)
theorem cw_336 : (Cond.code yJ2_coderFromArrayLen_85cad cJ2_coderFromArrayLen_85cad 2 (some .byte)) ∈ GWc := GWc_c8 _ (List.mem_of_getElem? (i := 16) rfl)
theorem cw_337 : (Cond.methodLink RX0 74 yX10_ofText) ∈ GWc := GWc_c8 _ (List.mem_of_getElem? (i := 17) rfl)
theorem cw_338 : (Cond.static yX10_ofText) ∈ GWc := GWc_c8 _ (List.mem_of_getElem? (i := 18) rfl)
theorem cw_339 : (Cond.code yX10_ofText cX10_ofText 1 (some (.object "PhraseDesk$Value"))) ∈ GWc := GWc_c8 _ (List.mem_of_getElem? (i := 19) rfl)
theorem cw_340 : (Cond.methodLink RX10 35 yJ0_length_8abf5) ∈ GWc := GWc_c8 _ (List.mem_of_getElem? (i := 20) rfl)
theorem cw_341 : (Cond.code yX0_join cX0_join 5 (some (.object "PhraseDesk$Value"))) ∈ GWc := GWc_c8 _ (List.mem_of_getElem? (i := 21) rfl)
theorem cw_342 : (Cond.methodLink RX0 129 yJ4_append_15ec4) ∈ GWc := GWc_c8 _ (List.mem_of_getElem? (i := 22) rfl)
theorem cw_343 : (Cond.instanceMethod yJ4_append_15ec4) ∈ GWc := GWc_c8 _ (List.mem_of_getElem? (i := 23) rfl)
theorem cw_344 : (Cond.selects RJ4 yJ4_append_15ec4 yJ4_append_15ec4) ∈ GWc := GWc_c8 _ (List.mem_of_getElem? (i := 24) rfl)
theorem cw_345 : (Cond.code yJ4_append_15ec4 cJ4_append_15ec4 2 (some (.object "java/lang/StringBuilder"))) ∈ GWc := GWc_c8 _ (List.mem_of_getElem? (i := 25) rfl)
theorem cw_346 : (Cond.methodLink RJ4 29 yJ5_append_cf1ce) ∈ GWc := GWc_c8 _ (List.mem_of_getElem? (i := 26) rfl)
theorem cw_347 : (Cond.sameMethod "java/lang/AbstractStringBuilder" "java/lang/AbstractStringBuilder" "append" "(Ljava/lang/String;)Ljava/lang/AbstractStringBuilder;") ∈ GWc := GWc_c8 _ (List.mem_of_getElem? (i := 27) rfl)
theorem cw_348 : (Cond.instanceMethod yJ5_append_cf1ce) ∈ GWc := GWc_c8 _ (List.mem_of_getElem? (i := 28) rfl)
theorem cw_349 : (Cond.code yJ5_append_cf1ce cJ5_append_cf1ce 3 (some (.object "java/lang/AbstractStringBuilder"))) ∈ GWc := GWc_c8 _ (List.mem_of_getElem? (i := 29) rfl)
theorem cw_350 : (Cond.methodLink RJ5 204 ⟨"java/lang/AbstractStringBuilder", "appendNull", "()Ljava/lang/AbstractStringBuilder;"⟩) ∈ GWc := GWc_c8 _ (List.mem_of_getElem? (i := 30) rfl)
theorem cw_351 : (Cond.sameMethod "java/lang/AbstractStringBuilder" "java/lang/AbstractStringBuilder" "appendNull" "()Ljava/lang/AbstractStringBuilder;") ∈ GWc := GWc_c8 _ (List.mem_of_getElem? (i := 31) rfl)
theorem cw_352 : (Cond.selects RJ4 ⟨"java/lang/AbstractStringBuilder", "appendNull", "()Ljava/lang/AbstractStringBuilder;"⟩ yJ5_appendNull_278bc) ∈ GWc := GWc_c8 _ (List.mem_of_getElem? (i := 32) rfl)
theorem cw_353 : (Cond.instanceMethod yJ5_appendNull_278bc) ∈ GWc := GWc_c8 _ (List.mem_of_getElem? (i := 33) rfl)
theorem cw_354 : (Cond.code yJ5_appendNull_278bc cJ5_appendNull_278bc 3 (some (.object "java/lang/AbstractStringBuilder"))) ∈ GWc := GWc_c8 _ (List.mem_of_getElem? (i := 34) rfl)
theorem cw_355 : (Cond.methodLink RJ5 226 yJ2_putCharsAt_cd4e5) ∈ GWc := GWc_c8 _ (List.mem_of_getElem? (i := 35) rfl)
theorem cw_356 : (Cond.static yJ2_putCharsAt_cd4e5) ∈ GWc := GWc_c8 _ (List.mem_of_getElem? (i := 36) rfl)
theorem cw_357 : (Cond.code yJ2_putCharsAt_cd4e5 cJ2_putCharsAt_cd4e5 7 (some .int)) ∈ GWc := GWc_c8 _ (List.mem_of_getElem? (i := 37) rfl)
theorem cw_358 : (Cond.methodLink RJ5 32 yJ0_length_8abf5) ∈ GWc := GWc_c8 _ (List.mem_of_getElem? (i := 38) rfl)
theorem cw_359 : (Cond.methodLink RJ5 208 ⟨"java/lang/AbstractStringBuilder", "putStringAt", "(ILjava/lang/String;)V"⟩) ∈ GWc := GWc_c8 _ (List.mem_of_getElem? (i := 39) rfl)
theorem cw_360 : (Cond.sameMethod "java/lang/AbstractStringBuilder" "java/lang/AbstractStringBuilder" "putStringAt" "(ILjava/lang/String;)V") ∈ GWc := GWc_c9 _ (List.mem_of_getElem? (i := 0) rfl)
theorem cw_361 : (Cond.selects RJ4 ⟨"java/lang/AbstractStringBuilder", "putStringAt", "(ILjava/lang/String;)V"⟩ yJ5_putStringAt_47b60) ∈ GWc := GWc_c9 _ (List.mem_of_getElem? (i := 1) rfl)
theorem cw_362 : (Cond.instanceMethod yJ5_putStringAt_47b60) ∈ GWc := GWc_c9 _ (List.mem_of_getElem? (i := 2) rfl)
theorem cw_363 : (Cond.code yJ5_putStringAt_47b60 cJ5_putStringAt_47b60 3 none) ∈ GWc := GWc_c9 _ (List.mem_of_getElem? (i := 3) rfl)
theorem cw_364 : (Cond.methodLink RJ5 397 ⟨"java/lang/AbstractStringBuilder", "inflateIfNeededFor", "(Ljava/lang/String;)V"⟩) ∈ GWc := GWc_c9 _ (List.mem_of_getElem? (i := 4) rfl)
theorem cw_365 : (Cond.sameMethod "java/lang/AbstractStringBuilder" "java/lang/AbstractStringBuilder" "inflateIfNeededFor" "(Ljava/lang/String;)V") ∈ GWc := GWc_c9 _ (List.mem_of_getElem? (i := 5) rfl)
theorem cw_366 : (Cond.selects RJ4 ⟨"java/lang/AbstractStringBuilder", "inflateIfNeededFor", "(Ljava/lang/String;)V"⟩ yJ5_inflateIfNeededFor_a7421) ∈ GWc := GWc_c9 _ (List.mem_of_getElem? (i := 6) rfl)
theorem cw_367 : (Cond.instanceMethod yJ5_inflateIfNeededFor_a7421) ∈ GWc := GWc_c9 _ (List.mem_of_getElem? (i := 7) rfl)
theorem cw_368 : (Cond.code yJ5_inflateIfNeededFor_a7421 cJ5_inflateIfNeededFor_a7421 2 none) ∈ GWc := GWc_c9 _ (List.mem_of_getElem? (i := 8) rfl)
theorem cw_369 : (Cond.methodLink RJ5 40 yJ0_coder_7d493) ∈ GWc := GWc_c9 _ (List.mem_of_getElem? (i := 9) rfl)
theorem cw_370 : (Cond.methodLink RJ5 399 yJ0_getBytes_840e7) ∈ GWc := GWc_c9 _ (List.mem_of_getElem? (i := 10) rfl)
theorem cw_371 : (Cond.instanceMethod yJ0_getBytes_840e7) ∈ GWc := GWc_c9 _ (List.mem_of_getElem? (i := 11) rfl)
theorem cw_372 : (Cond.selects RJ0 yJ0_getBytes_840e7 yJ0_getBytes_840e7) ∈ GWc := GWc_c9 _ (List.mem_of_getElem? (i := 12) rfl)
theorem cw_373 : (Cond.code yJ0_getBytes_840e7 cJ0_getBytes_840e7 4 none) ∈ GWc := GWc_c9 _ (List.mem_of_getElem? (i := 13) rfl)
theorem cw_374 : (Cond.methodLink RJ0 212 arraycopyName) ∈ GWc := GWc_c9 _ (List.mem_of_getElem? (i := 14) rfl)
theorem cw_375 : (Cond.methodLink RJ0 106 yJ1_inflate_0e8fd) ∈ GWc := GWc_c9 _ (List.mem_of_getElem? (i := 15) rfl)
theorem cw_376 : (Cond.code yX1_init cX1_init 3 none) ∈ GWc := GWc_c9 _ (List.mem_of_getElem? (i := 16) rfl)
theorem cw_377 : (Cond.methodLink RX1 3 objectInit) ∈ GWc := GWc_c9 _ (List.mem_of_getElem? (i := 17) rfl)
theorem cw_378 : (Cond.fieldLink RX1 9 "PhraseDesk$Family" "number" "I") ∈ GWc := GWc_c9 _ (List.mem_of_getElem? (i := 18) rfl)
theorem cw_379 : (Cond.fieldLink RX1 15 "PhraseDesk$Family" "kind" "I") ∈ GWc := GWc_c9 _ (List.mem_of_getElem? (i := 19) rfl)
theorem cw_380 : (Cond.fieldLink RX1 18 "PhraseDesk$Family" "parent" "LPhraseDesk$Family;") ∈ GWc := GWc_c9 _ (List.mem_of_getElem? (i := 20) rfl)
theorem cw_381 : (Cond.classLink RX1 22 RX2) ∈ GWc := GWc_c9 _ (List.mem_of_getElem? (i := 21) rfl)
theorem cw_382 : (Cond.fieldLink RX1 24 "PhraseDesk$Family" "fields" "[LPhraseDesk$Field;") ∈ GWc := GWc_c9 _ (List.mem_of_getElem? (i := 22) rfl)
theorem cw_383 : (Cond.classLink RX1 28 RX7) ∈ GWc := GWc_c9 _ (List.mem_of_getElem? (i := 23) rfl)
theorem cw_384 : (Cond.fieldLink RX1 30 "PhraseDesk$Family" "routines" "[LPhraseDesk$Routine;") ∈ GWc := GWc_c9 _ (List.mem_of_getElem? (i := 24) rfl)
theorem cw_385 : (Cond.code yX1_addField cX1_addField 3 none) ∈ GWc := GWc_c9 _ (List.mem_of_getElem? (i := 25) rfl)
theorem cw_386 : (Cond.fieldLink RX1 34 "PhraseDesk$Family" "fieldCount" "I") ∈ GWc := GWc_c9 _ (List.mem_of_getElem? (i := 26) rfl)
theorem cw_387 : (Cond.instantiable RX2 3) ∈ GWc := GWc_c9 _ (List.mem_of_getElem? (i := 27) rfl)
theorem cw_388 : (Cond.initialized RX2) ∈ GWc := GWc_c9 _ (List.mem_of_getElem? (i := 28) rfl)
theorem cw_389 : (Cond.methodLink RX1 37 yX2_init) ∈ GWc := GWc_c9 _ (List.mem_of_getElem? (i := 29) rfl)
theorem cw_390 : (Cond.instanceMethod yX2_init) ∈ GWc := GWc_c9 _ (List.mem_of_getElem? (i := 30) rfl)
theorem cw_391 : (Cond.code yX2_init cX2_init 4 none) ∈ GWc := GWc_c9 _ (List.mem_of_getElem? (i := 31) rfl)
theorem cw_392 : (Cond.methodLink RX2 1 objectInit) ∈ GWc := GWc_c9 _ (List.mem_of_getElem? (i := 32) rfl)
theorem cw_393 : (Cond.fieldLink RX2 7 "PhraseDesk$Field" "name" "I") ∈ GWc := GWc_c9 _ (List.mem_of_getElem? (i := 33) rfl)
theorem cw_394 : (Cond.fieldLink RX2 13 "PhraseDesk$Field" "type" "I") ∈ GWc := GWc_c9 _ (List.mem_of_getElem? (i := 34) rfl)
theorem cw_395 : (Cond.fieldLink RX2 16 "PhraseDesk$Field" "slot" "I") ∈ GWc := GWc_c9 _ (List.mem_of_getElem? (i := 35) rfl)
theorem cw_396 : (Cond.code yX1_addRoutine cX1_addRoutine 2 none) ∈ GWc := GWc_c9 _ (List.mem_of_getElem? (i := 36) rfl)
theorem cw_397 : (Cond.fieldLink RX1 40 "PhraseDesk$Family" "routineCount" "I") ∈ GWc := GWc_c9 _ (List.mem_of_getElem? (i := 37) rfl)
theorem cw_398 : (Cond.code yX1_routineAt cX1_routineAt 2 (some (.object "PhraseDesk$Routine"))) ∈ GWc := GWc_c9 _ (List.mem_of_getElem? (i := 38) rfl)
theorem cw_399 : (Cond.code yX1_ownField cX1_ownField 4 (some (.object "PhraseDesk$Field"))) ∈ GWc := GWc_c9 _ (List.mem_of_getElem? (i := 39) rfl)
theorem cw_400 : (Cond.fieldLink RX1 43 "PhraseDesk$Field" "name" "I") ∈ GWc := GWc_c10 _ (List.mem_of_getElem? (i := 0) rfl)
theorem cw_401 : (Cond.code yX1_nearestField cX1_nearestField 4 (some (.object "PhraseDesk$Field"))) ∈ GWc := GWc_c10 _ (List.mem_of_getElem? (i := 1) rfl)
theorem cw_402 : (Cond.methodLink RX1 46 yX1_ownField) ∈ GWc := GWc_c10 _ (List.mem_of_getElem? (i := 2) rfl)
theorem cw_403 : (Cond.instanceMethod yX1_ownField) ∈ GWc := GWc_c10 _ (List.mem_of_getElem? (i := 3) rfl)
theorem cw_404 : (Cond.selects RX1 yX1_ownField yX1_ownField) ∈ GWc := GWc_c10 _ (List.mem_of_getElem? (i := 4) rfl)
theorem cw_405 : (Cond.initialized RX1) ∈ GWc := GWc_c10 _ (List.mem_of_getElem? (i := 5) rfl)
theorem cw_406 : (Cond.code yX3_init cX3_init 1 none) ∈ GWc := GWc_c10 _ (List.mem_of_getElem? (i := 6) rfl)
theorem cw_407 : (Cond.methodLink RX3 3 objectInit) ∈ GWc := GWc_c10 _ (List.mem_of_getElem? (i := 7) rfl)
theorem cw_408 : (Cond.classLink RX3 9 RX7) ∈ GWc := GWc_c10 _ (List.mem_of_getElem? (i := 8) rfl)
theorem cw_409 : (Cond.fieldLink RX3 11 "PhraseDesk$Finder" "candidates" "[LPhraseDesk$Routine;") ∈ GWc := GWc_c10 _ (List.mem_of_getElem? (i := 9) rfl)
theorem cw_410 : (Cond.code yX3_find cX3_find 7 (some (.object "PhraseDesk$Routine"))) ∈ GWc := GWc_c10 _ (List.mem_of_getElem? (i := 10) rfl)
theorem cw_411 : (Cond.fieldLink RX3 17 "PhraseDesk$Node" "name" "I") ∈ GWc := GWc_c10 _ (List.mem_of_getElem? (i := 11) rfl)
theorem cw_412 : (Cond.methodLink RX3 23 yX5_arguments) ∈ GWc := GWc_c10 _ (List.mem_of_getElem? (i := 12) rfl)
theorem cw_413 : (Cond.instanceMethod yX5_arguments) ∈ GWc := GWc_c10 _ (List.mem_of_getElem? (i := 13) rfl)
theorem cw_414 : (Cond.selects RX5 yX5_arguments yX5_arguments) ∈ GWc := GWc_c10 _ (List.mem_of_getElem? (i := 14) rfl)
theorem cw_415 : (Cond.initialized RX5) ∈ GWc := GWc_c10 _ (List.mem_of_getElem? (i := 15) rfl)
theorem cw_416 : (Cond.code yX5_arguments cX5_arguments 1 (some .int)) ∈ GWc := GWc_c10 _ (List.mem_of_getElem? (i := 16) rfl)
theorem cw_417 : (Cond.fieldLink RX5 24 "PhraseDesk$Node" "two" "LPhraseDesk$Node;") ∈ GWc := GWc_c10 _ (List.mem_of_getElem? (i := 17) rfl)
theorem cw_418 : (Cond.fieldLink RX5 27 "PhraseDesk$Node" "three" "LPhraseDesk$Node;") ∈ GWc := GWc_c10 _ (List.mem_of_getElem? (i := 18) rfl)
theorem cw_419 : (Cond.methodLink RX3 27 yX3_collect) ∈ GWc := GWc_c10 _ (List.mem_of_getElem? (i := 19) rfl)
theorem cw_420 : (Cond.instanceMethod yX3_collect) ∈ GWc := GWc_c10 _ (List.mem_of_getElem? (i := 20) rfl)
theorem cw_421 : (Cond.selects RX3 yX3_collect yX3_collect) ∈ GWc := GWc_c10 _ (List.mem_of_getElem? (i := 21) rfl)
theorem cw_422 : (Cond.initialized RX3) ∈ GWc := GWc_c10 _ (List.mem_of_getElem? (i := 22) rfl)
theorem cw_423 : (Cond.code yX3_collect cX3_collect 7 none) ∈ GWc := GWc_c10 _ (List.mem_of_getElem? (i := 23) rfl)
theorem cw_424 : (Cond.fieldLink RX3 42 "PhraseDesk$Finder" "count" "I") ∈ GWc := GWc_c10 _ (List.mem_of_getElem? (i := 24) rfl)
theorem cw_425 : (Cond.fieldLink RX3 45 "PhraseDesk$Family" "routineCount" "I") ∈ GWc := GWc_c10 _ (List.mem_of_getElem? (i := 25) rfl)
theorem cw_426 : (Cond.fieldLink RX3 54 "PhraseDesk$Routine" "name" "I") ∈ GWc := GWc_c10 _ (List.mem_of_getElem? (i := 26) rfl)
theorem cw_427 : (Cond.fieldLink RX3 55 "PhraseDesk$Routine" "parameters" "I") ∈ GWc := GWc_c10 _ (List.mem_of_getElem? (i := 27) rfl)
theorem cw_428 : (Cond.fieldLink RX3 62 "PhraseDesk$Family" "parent" "LPhraseDesk$Family;") ∈ GWc := GWc_c10 _ (List.mem_of_getElem? (i := 28) rfl)
theorem cw_429 : (Cond.methodLink RX3 50 yX1_routineAt) ∈ GWc := GWc_c10 _ (List.mem_of_getElem? (i := 29) rfl)
theorem cw_430 : (Cond.instanceMethod yX1_routineAt) ∈ GWc := GWc_c10 _ (List.mem_of_getElem? (i := 30) rfl)
theorem cw_431 : (Cond.selects RX1 yX1_routineAt yX1_routineAt) ∈ GWc := GWc_c10 _ (List.mem_of_getElem? (i := 31) rfl)
theorem cw_432 : (Cond.methodLink RX3 58 yX3_addUnlessHidden) ∈ GWc := GWc_c10 _ (List.mem_of_getElem? (i := 32) rfl)
theorem cw_433 : (Cond.instanceMethod yX3_addUnlessHidden) ∈ GWc := GWc_c10 _ (List.mem_of_getElem? (i := 33) rfl)
theorem cw_434 : (Cond.selects RX3 yX3_addUnlessHidden yX3_addUnlessHidden) ∈ GWc := GWc_c10 _ (List.mem_of_getElem? (i := 34) rfl)
theorem cw_435 : (Cond.code yX3_addUnlessHidden cX3_addUnlessHidden 4 none) ∈ GWc := GWc_c10 _ (List.mem_of_getElem? (i := 35) rfl)
theorem cw_436 : (Cond.fieldLink RX3 66 "PhraseDesk$Routine" "one" "I") ∈ GWc := GWc_c10 _ (List.mem_of_getElem? (i := 36) rfl)
theorem cw_437 : (Cond.fieldLink RX3 69 "PhraseDesk$Routine" "two" "I") ∈ GWc := GWc_c10 _ (List.mem_of_getElem? (i := 37) rfl)
theorem cw_438 : (Cond.methodLink RX3 31 yX3_exact) ∈ GWc := GWc_c10 _ (List.mem_of_getElem? (i := 38) rfl)
theorem cw_439 : (Cond.instanceMethod yX3_exact) ∈ GWc := GWc_c10 _ (List.mem_of_getElem? (i := 39) rfl)
theorem cw_440 : (Cond.selects RX3 yX3_exact yX3_exact) ∈ GWc := GWc_c11 _ (List.mem_of_getElem? (i := 0) rfl)
theorem cw_441 : (Cond.code yX3_exact cX3_exact 5 (some (.object "PhraseDesk$Routine"))) ∈ GWc := GWc_c11 _ (List.mem_of_getElem? (i := 1) rfl)
theorem cw_442 : (Cond.fieldLink RX3 72 "PhraseDesk$Value" "kind" "I") ∈ GWc := GWc_c11 _ (List.mem_of_getElem? (i := 2) rfl)
theorem cw_443 : (Cond.methodLink RX3 35 yX3_closest) ∈ GWc := GWc_c11 _ (List.mem_of_getElem? (i := 3) rfl)
theorem cw_444 : (Cond.instanceMethod yX3_closest) ∈ GWc := GWc_c11 _ (List.mem_of_getElem? (i := 4) rfl)
theorem cw_445 : (Cond.selects RX3 yX3_closest yX3_closest) ∈ GWc := GWc_c11 _ (List.mem_of_getElem? (i := 5) rfl)
theorem cw_446 : (Cond.code yX3_closest cX3_closest 8 (some (.object "PhraseDesk$Routine"))) ∈ GWc := GWc_c11 _ (List.mem_of_getElem? (i := 6) rfl)
theorem cw_447 : (Cond.methodLink RX3 77 yX10_fits) ∈ GWc := GWc_c11 _ (List.mem_of_getElem? (i := 7) rfl)
theorem cw_448 : (Cond.methodLink RX3 81 yX10_weight) ∈ GWc := GWc_c11 _ (List.mem_of_getElem? (i := 8) rfl)
theorem cw_449 : (Cond.instanceMethod yX10_weight) ∈ GWc := GWc_c11 _ (List.mem_of_getElem? (i := 9) rfl)
theorem cw_450 : (Cond.selects RX10 yX10_weight yX10_weight) ∈ GWc := GWc_c11 _ (List.mem_of_getElem? (i := 10) rfl)
theorem cw_451 : (Cond.code yX10_weight cX10_weight 2 (some .int)) ∈ GWc := GWc_c11 _ (List.mem_of_getElem? (i := 11) rfl)
theorem cw_452 : (Cond.methodLink RX3 38 yX3_convertible) ∈ GWc := GWc_c11 _ (List.mem_of_getElem? (i := 12) rfl)
theorem cw_453 : (Cond.instanceMethod yX3_convertible) ∈ GWc := GWc_c11 _ (List.mem_of_getElem? (i := 13) rfl)
theorem cw_454 : (Cond.selects RX3 yX3_convertible yX3_convertible) ∈ GWc := GWc_c11 _ (List.mem_of_getElem? (i := 14) rfl)
theorem cw_455 : (Cond.code yX3_convertible cX3_convertible 7 (some (.object "PhraseDesk$Routine"))) ∈ GWc := GWc_c11 _ (List.mem_of_getElem? (i := 15) rfl)
theorem cw_456 : (Cond.fieldLink RX3 91 "PhraseDesk$Finder" "failure" "I") ∈ GWc := GWc_c11 _ (List.mem_of_getElem? (i := 16) rfl)
theorem cw_457 : (Cond.methodLink RX3 85 yX0_suit) ∈ GWc := GWc_c11 _ (List.mem_of_getElem? (i := 17) rfl)
theorem cw_458 : (Cond.instanceMethod yX0_suit) ∈ GWc := GWc_c11 _ (List.mem_of_getElem? (i := 18) rfl)
theorem cw_459 : (Cond.selects RX0 yX0_suit yX0_suit) ∈ GWc := GWc_c11 _ (List.mem_of_getElem? (i := 19) rfl)
theorem cw_460 : (Cond.code yX4_init cX4_init 1 none) ∈ GWc := GWc_c11 _ (List.mem_of_getElem? (i := 20) rfl)
theorem cw_461 : (Cond.methodLink RX4 3 objectInit) ∈ GWc := GWc_c11 _ (List.mem_of_getElem? (i := 21) rfl)
theorem cw_462 : (Cond.arrayClass .char) ∈ GWc := GWc_c11 _ (List.mem_of_getElem? (i := 22) rfl)
theorem cw_463 : (Cond.fieldLink RX4 9 "PhraseDesk$Lexer" "letters" "[C") ∈ GWc := GWc_c11 _ (List.mem_of_getElem? (i := 23) rfl)
theorem cw_464 : (Cond.arrayClass .int) ∈ GWc := GWc_c11 _ (List.mem_of_getElem? (i := 24) rfl)
theorem cw_465 : (Cond.fieldLink RX4 15 "PhraseDesk$Lexer" "kinds" "[I") ∈ GWc := GWc_c11 _ (List.mem_of_getElem? (i := 25) rfl)
theorem cw_466 : (Cond.fieldLink RX4 19 "PhraseDesk$Lexer" "places" "[I") ∈ GWc := GWc_c11 _ (List.mem_of_getElem? (i := 26) rfl)
theorem cw_467 : (Cond.fieldLink RX4 22 "PhraseDesk$Lexer" "names" "[I") ∈ GWc := GWc_c11 _ (List.mem_of_getElem? (i := 27) rfl)
theorem cw_468 : (Cond.classLink RX4 25 RX10) ∈ GWc := GWc_c11 _ (List.mem_of_getElem? (i := 28) rfl)
theorem cw_469 : (Cond.fieldLink RX4 27 "PhraseDesk$Lexer" "literals" "[LPhraseDesk$Value;") ∈ GWc := GWc_c11 _ (List.mem_of_getElem? (i := 29) rfl)
theorem cw_470 : (Cond.classLink RX4 31 RJ4) ∈ GWc := GWc_c11 _ (List.mem_of_getElem? (i := 30) rfl)
theorem cw_471 : (Cond.fieldLink RX4 34 "PhraseDesk$Lexer" "scratch" "Ljava/lang/StringBuilder;") ∈ GWc := GWc_c11 _ (List.mem_of_getElem? (i := 31) rfl)
theorem cw_472 : (Cond.methodLink RX4 33 yJ4_init_da8c8) ∈ GWc := GWc_c11 _ (List.mem_of_getElem? (i := 32) rfl)
theorem cw_473 : (Cond.code yX4_append cX4_append 2 none) ∈ GWc := GWc_c11 _ (List.mem_of_getElem? (i := 33) rfl)
theorem cw_474 : (Cond.fieldLink RX4 38 "PhraseDesk$Lexer" "length" "I") ∈ GWc := GWc_c11 _ (List.mem_of_getElem? (i := 34) rfl)
theorem cw_475 : (Cond.code yX4_kindAt cX4_kindAt 2 (some .int)) ∈ GWc := GWc_c11 _ (List.mem_of_getElem? (i := 35) rfl)
theorem cw_476 : (Cond.fieldLink RX4 42 "PhraseDesk$Lexer" "count" "I") ∈ GWc := GWc_c11 _ (List.mem_of_getElem? (i := 36) rfl)
theorem cw_477 : (Cond.code yX4_placeAt cX4_placeAt 2 (some .int)) ∈ GWc := GWc_c11 _ (List.mem_of_getElem? (i := 37) rfl)
theorem cw_478 : (Cond.code yX4_nameAt cX4_nameAt 2 (some .int)) ∈ GWc := GWc_c11 _ (List.mem_of_getElem? (i := 38) rfl)
theorem cw_479 : (Cond.code yX4_literalAt cX4_literalAt 2 (some (.object "PhraseDesk$Value"))) ∈ GWc := GWc_c11 _ (List.mem_of_getElem? (i := 39) rfl)
theorem cw_480 : (Cond.code yX4_cut cX4_cut 3 (some .int)) ∈ GWc := GWc_c12 _ (List.mem_of_getElem? (i := 0) rfl)
theorem cw_481 : (Cond.methodLink RX4 45 yX4_peek) ∈ GWc := GWc_c12 _ (List.mem_of_getElem? (i := 1) rfl)
theorem cw_482 : (Cond.instanceMethod yX4_peek) ∈ GWc := GWc_c12 _ (List.mem_of_getElem? (i := 2) rfl)
theorem cw_483 : (Cond.selects RX4 yX4_peek yX4_peek) ∈ GWc := GWc_c12 _ (List.mem_of_getElem? (i := 3) rfl)
theorem cw_484 : (Cond.initialized RX4) ∈ GWc := GWc_c12 _ (List.mem_of_getElem? (i := 4) rfl)
theorem cw_485 : (Cond.code yX4_peek cX4_peek 2 (some .char)) ∈ GWc := GWc_c12 _ (List.mem_of_getElem? (i := 5) rfl)
theorem cw_486 : (Cond.methodLink RX4 49 yX4_token) ∈ GWc := GWc_c12 _ (List.mem_of_getElem? (i := 6) rfl)
theorem cw_487 : (Cond.instanceMethod yX4_token) ∈ GWc := GWc_c12 _ (List.mem_of_getElem? (i := 7) rfl)
theorem cw_488 : (Cond.selects RX4 yX4_token yX4_token) ∈ GWc := GWc_c12 _ (List.mem_of_getElem? (i := 8) rfl)
theorem cw_489 : (Cond.code yX4_token cX4_token 3 (some .int)) ∈ GWc := GWc_c12 _ (List.mem_of_getElem? (i := 9) rfl)
theorem cw_490 : (Cond.methodLink RX4 57 yX4_isDigit) ∈ GWc := GWc_c12 _ (List.mem_of_getElem? (i := 10) rfl)
theorem cw_491 : (Cond.static yX4_isDigit) ∈ GWc := GWc_c12 _ (List.mem_of_getElem? (i := 11) rfl)
theorem cw_492 : (Cond.code yX4_isDigit cX4_isDigit 1 (some .boolean)) ∈ GWc := GWc_c12 _ (List.mem_of_getElem? (i := 12) rfl)
theorem cw_493 : (Cond.methodLink RX4 61 yX4_number) ∈ GWc := GWc_c12 _ (List.mem_of_getElem? (i := 13) rfl)
theorem cw_494 : (Cond.instanceMethod yX4_number) ∈ GWc := GWc_c12 _ (List.mem_of_getElem? (i := 14) rfl)
theorem cw_495 : (Cond.selects RX4 yX4_number yX4_number) ∈ GWc := GWc_c12 _ (List.mem_of_getElem? (i := 15) rfl)
theorem cw_496 : (Cond.code yX4_number cX4_number 9 (some .int)) ∈ GWc := GWc_c12 _ (List.mem_of_getElem? (i := 16) rfl)
theorem cw_497 : (Cond.constantDouble RX4 87 (4621819117588971520)) ∈ GWc := GWc_c12 _ (List.mem_of_getElem? (i := 17) rfl)
theorem cw_498 : (Cond.constantDouble RX4 89 (4636737291354636288)) ∈ GWc := GWc_c12 _ (List.mem_of_getElem? (i := 18) rfl)
theorem cw_499 : (Cond.constantDouble RX4 91 (4652007308841189376)) ∈ GWc := GWc_c12 _ (List.mem_of_getElem? (i := 19) rfl)
theorem cw_500 : (Cond.methodLink RX4 76 yX4_endOfDigits) ∈ GWc := GWc_c12 _ (List.mem_of_getElem? (i := 20) rfl)
theorem cw_501 : (Cond.instanceMethod yX4_endOfDigits) ∈ GWc := GWc_c12 _ (List.mem_of_getElem? (i := 21) rfl)
theorem cw_502 : (Cond.selects RX4 yX4_endOfDigits yX4_endOfDigits) ∈ GWc := GWc_c12 _ (List.mem_of_getElem? (i := 22) rfl)
theorem cw_503 : (Cond.code yX4_endOfDigits cX4_endOfDigits 3 (some .int)) ∈ GWc := GWc_c12 _ (List.mem_of_getElem? (i := 23) rfl)
theorem cw_504 : (Cond.methodLink RX4 79 yX4_digits) ∈ GWc := GWc_c12 _ (List.mem_of_getElem? (i := 24) rfl)
theorem cw_505 : (Cond.instanceMethod yX4_digits) ∈ GWc := GWc_c12 _ (List.mem_of_getElem? (i := 25) rfl)
theorem cw_506 : (Cond.selects RX4 yX4_digits yX4_digits) ∈ GWc := GWc_c12 _ (List.mem_of_getElem? (i := 26) rfl)
theorem cw_507 : (Cond.code yX4_digits cX4_digits 6 (some .int)) ∈ GWc := GWc_c12 _ (List.mem_of_getElem? (i := 27) rfl)
theorem cw_508 : (Cond.methodLink RX4 83 yX10_ofInt) ∈ GWc := GWc_c12 _ (List.mem_of_getElem? (i := 28) rfl)
theorem cw_509 : (Cond.methodLink RX4 53 yX4_add) ∈ GWc := GWc_c12 _ (List.mem_of_getElem? (i := 29) rfl)
theorem cw_510 : (Cond.instanceMethod yX4_add) ∈ GWc := GWc_c12 _ (List.mem_of_getElem? (i := 30) rfl)
theorem cw_511 : (Cond.selects RX4 yX4_add yX4_add) ∈ GWc := GWc_c12 _ (List.mem_of_getElem? (i := 31) rfl)
theorem cw_512 : (Cond.code yX4_add cX4_add 5 none) ∈ GWc := GWc_c12 _ (List.mem_of_getElem? (i := 32) rfl)
theorem cw_513 : (Cond.methodLink RX4 93 yX10_ofReal) ∈ GWc := GWc_c12 _ (List.mem_of_getElem? (i := 33) rfl)
theorem cw_514 : (Cond.methodLink RX4 64 yX4_isLowerCase) ∈ GWc := GWc_c12 _ (List.mem_of_getElem? (i := 34) rfl)
theorem cw_515 : (Cond.static yX4_isLowerCase) ∈ GWc := GWc_c12 _ (List.mem_of_getElem? (i := 35) rfl)
theorem cw_516 : (Cond.code yX4_isLowerCase cX4_isLowerCase 1 (some .boolean)) ∈ GWc := GWc_c12 _ (List.mem_of_getElem? (i := 36) rfl)
theorem cw_517 : (Cond.methodLink RX4 67 yX4_name) ∈ GWc := GWc_c12 _ (List.mem_of_getElem? (i := 37) rfl)
theorem cw_518 : (Cond.instanceMethod yX4_name) ∈ GWc := GWc_c12 _ (List.mem_of_getElem? (i := 38) rfl)
theorem cw_519 : (Cond.selects RX4 yX4_name yX4_name) ∈ GWc := GWc_c12 _ (List.mem_of_getElem? (i := 39) rfl)
theorem cw_520 : (Cond.code yX4_name cX4_name 4 (some .int)) ∈ GWc := GWc_c13 _ (List.mem_of_getElem? (i := 0) rfl)
theorem cw_521 : (Cond.methodLink RX4 70 yX4_quoted) ∈ GWc := GWc_c13 _ (List.mem_of_getElem? (i := 1) rfl)
theorem cw_522 : (Cond.instanceMethod yX4_quoted) ∈ GWc := GWc_c13 _ (List.mem_of_getElem? (i := 2) rfl)
theorem cw_523 : (Cond.selects RX4 yX4_quoted yX4_quoted) ∈ GWc := GWc_c13 _ (List.mem_of_getElem? (i := 3) rfl)
theorem cw_524 : (Cond.code yX4_quoted cX4_quoted 3 (some .int)) ∈ GWc := GWc_c13 _ (List.mem_of_getElem? (i := 4) rfl)
theorem cw_525 : (Cond.methodLink RX4 97 yJ4_setLength_d00df) ∈ GWc := GWc_c13 _ (List.mem_of_getElem? (i := 5) rfl)
theorem cw_526 : (Cond.methodLink RX4 101 yJ4_append_cf468) ∈ GWc := GWc_c13 _ (List.mem_of_getElem? (i := 6) rfl)
theorem cw_527 : (Cond.methodLink RX4 105 yJ4_length_8abf5) ∈ GWc := GWc_c13 _ (List.mem_of_getElem? (i := 7) rfl)
theorem cw_528 : (Cond.selects RJ4 yJ4_length_8abf5 yJ4_length_8abf5) ∈ GWc := GWc_c13 _ (List.mem_of_getElem? (i := 8) rfl)
theorem cw_529 : (Cond.methodLink RX4 108 yJ4_toString_0e30d) ∈ GWc := GWc_c13 _ (List.mem_of_getElem? (i := 9) rfl)
theorem cw_530 : (Cond.methodLink RX4 112 yX10_ofText) ∈ GWc := GWc_c13 _ (List.mem_of_getElem? (i := 10) rfl)
theorem cw_531 : (Cond.methodLink RX4 73 yX4_sign) ∈ GWc := GWc_c13 _ (List.mem_of_getElem? (i := 11) rfl)
theorem cw_532 : (Cond.instanceMethod yX4_sign) ∈ GWc := GWc_c13 _ (List.mem_of_getElem? (i := 12) rfl)
theorem cw_533 : (Cond.selects RX4 yX4_sign yX4_sign) ∈ GWc := GWc_c13 _ (List.mem_of_getElem? (i := 13) rfl)
theorem cw_534 : (Cond.code yX4_sign cX4_sign 3 (some .int)) ∈ GWc := GWc_c13 _ (List.mem_of_getElem? (i := 14) rfl)
theorem cw_535 : (Cond.methodLink RX4 116 yX4_isPair) ∈ GWc := GWc_c13 _ (List.mem_of_getElem? (i := 15) rfl)
theorem cw_536 : (Cond.static yX4_isPair) ∈ GWc := GWc_c13 _ (List.mem_of_getElem? (i := 16) rfl)
theorem cw_537 : (Cond.code yX4_isPair cX4_isPair 1 (some .boolean)) ∈ GWc := GWc_c13 _ (List.mem_of_getElem? (i := 17) rfl)
theorem cw_538 : (Cond.methodLink RX4 120 yX4_isSingle) ∈ GWc := GWc_c13 _ (List.mem_of_getElem? (i := 18) rfl)
theorem cw_539 : (Cond.static yX4_isSingle) ∈ GWc := GWc_c13 _ (List.mem_of_getElem? (i := 19) rfl)
theorem cw_540 : (Cond.code yX4_isSingle cX4_isSingle 1 (some .boolean)) ∈ GWc := GWc_c13 _ (List.mem_of_getElem? (i := 20) rfl)
theorem cw_541 : (Cond.code yX5_init cX5_init 7 none) ∈ GWc := GWc_c13 _ (List.mem_of_getElem? (i := 21) rfl)
theorem cw_542 : (Cond.methodLink RX5 1 objectInit) ∈ GWc := GWc_c13 _ (List.mem_of_getElem? (i := 22) rfl)
theorem cw_543 : (Cond.fieldLink RX5 7 "PhraseDesk$Node" "op" "I") ∈ GWc := GWc_c13 _ (List.mem_of_getElem? (i := 23) rfl)
theorem cw_544 : (Cond.fieldLink RX5 13 "PhraseDesk$Node" "name" "I") ∈ GWc := GWc_c13 _ (List.mem_of_getElem? (i := 24) rfl)
theorem cw_545 : (Cond.fieldLink RX5 16 "PhraseDesk$Node" "literal" "LPhraseDesk$Value;") ∈ GWc := GWc_c13 _ (List.mem_of_getElem? (i := 25) rfl)
theorem cw_546 : (Cond.fieldLink RX5 20 "PhraseDesk$Node" "one" "LPhraseDesk$Node;") ∈ GWc := GWc_c13 _ (List.mem_of_getElem? (i := 26) rfl)
theorem cw_547 : (Cond.code yX5_ofLiteral cX5_ofLiteral 1 (some (.object "PhraseDesk$Node"))) ∈ GWc := GWc_c13 _ (List.mem_of_getElem? (i := 27) rfl)
theorem cw_548 : (Cond.classLink RX5 8 RX5) ∈ GWc := GWc_c13 _ (List.mem_of_getElem? (i := 28) rfl)
theorem cw_549 : (Cond.instantiable RX5 8) ∈ GWc := GWc_c13 _ (List.mem_of_getElem? (i := 29) rfl)
theorem cw_550 : (Cond.methodLink RX5 30 yX5_init) ∈ GWc := GWc_c13 _ (List.mem_of_getElem? (i := 30) rfl)
theorem cw_551 : (Cond.instanceMethod yX5_init) ∈ GWc := GWc_c13 _ (List.mem_of_getElem? (i := 31) rfl)
theorem cw_552 : (Cond.code yX5_ofRoot cX5_ofRoot 0 (some (.object "PhraseDesk$Node"))) ∈ GWc := GWc_c13 _ (List.mem_of_getElem? (i := 32) rfl)
theorem cw_553 : (Cond.code yX5_ofVariable cX5_ofVariable 1 (some (.object "PhraseDesk$Node"))) ∈ GWc := GWc_c13 _ (List.mem_of_getElem? (i := 33) rfl)
theorem cw_554 : (Cond.code yX5_ofProperty cX5_ofProperty 2 (some (.object "PhraseDesk$Node"))) ∈ GWc := GWc_c13 _ (List.mem_of_getElem? (i := 34) rfl)
theorem cw_555 : (Cond.code yX5_ofCall cX5_ofCall 4 (some (.object "PhraseDesk$Node"))) ∈ GWc := GWc_c13 _ (List.mem_of_getElem? (i := 35) rfl)
theorem cw_556 : (Cond.code yX5_ofOperator cX5_ofOperator 4 (some (.object "PhraseDesk$Node"))) ∈ GWc := GWc_c13 _ (List.mem_of_getElem? (i := 36) rfl)
theorem cw_557 : (Cond.code yX5_canBeSet cX5_canBeSet 1 (some .boolean)) ∈ GWc := GWc_c13 _ (List.mem_of_getElem? (i := 37) rfl)
theorem cw_558 : (Cond.fieldLink RX5 33 "PhraseDesk$Node" "bracketed" "Z") ∈ GWc := GWc_c13 _ (List.mem_of_getElem? (i := 38) rfl)
theorem cw_559 : (Cond.code yX6_init cX6_init 1 none) ∈ GWc := GWc_c13 _ (List.mem_of_getElem? (i := 39) rfl)
theorem cw_560 : (Cond.methodLink RX6 3 objectInit) ∈ GWc := GWc_c14 _ (List.mem_of_getElem? (i := 0) rfl)
theorem cw_561 : (Cond.classLink RX6 9 RX4) ∈ GWc := GWc_c14 _ (List.mem_of_getElem? (i := 1) rfl)
theorem cw_562 : (Cond.instantiable RX4 8) ∈ GWc := GWc_c14 _ (List.mem_of_getElem? (i := 2) rfl)
theorem cw_563 : (Cond.fieldLink RX6 12 "PhraseDesk$Parser" "lexer" "LPhraseDesk$Lexer;") ∈ GWc := GWc_c14 _ (List.mem_of_getElem? (i := 3) rfl)
theorem cw_564 : (Cond.methodLink RX6 11 yX4_init) ∈ GWc := GWc_c14 _ (List.mem_of_getElem? (i := 4) rfl)
theorem cw_565 : (Cond.instanceMethod yX4_init) ∈ GWc := GWc_c14 _ (List.mem_of_getElem? (i := 5) rfl)
theorem cw_566 : (Cond.code yX6_read cX6_read 2 (some (.object "PhraseDesk$Node"))) ∈ GWc := GWc_c14 _ (List.mem_of_getElem? (i := 6) rfl)
theorem cw_567 : (Cond.fieldLink RX6 18 "PhraseDesk$Parser" "at" "I") ∈ GWc := GWc_c14 _ (List.mem_of_getElem? (i := 7) rfl)
theorem cw_568 : (Cond.fieldLink RX6 22 "PhraseDesk$Parser" "error" "I") ∈ GWc := GWc_c14 _ (List.mem_of_getElem? (i := 8) rfl)
theorem cw_569 : (Cond.fieldLink RX6 29 "PhraseDesk$Parser" "place" "I") ∈ GWc := GWc_c14 _ (List.mem_of_getElem? (i := 9) rfl)
theorem cw_570 : (Cond.fieldLink RX6 36 "PhraseDesk$Lexer" "length" "I") ∈ GWc := GWc_c14 _ (List.mem_of_getElem? (i := 10) rfl)
theorem cw_571 : (Cond.methodLink RX6 25 yX4_cut) ∈ GWc := GWc_c14 _ (List.mem_of_getElem? (i := 11) rfl)
theorem cw_572 : (Cond.instanceMethod yX4_cut) ∈ GWc := GWc_c14 _ (List.mem_of_getElem? (i := 12) rfl)
theorem cw_573 : (Cond.selects RX4 yX4_cut yX4_cut) ∈ GWc := GWc_c14 _ (List.mem_of_getElem? (i := 13) rfl)
theorem cw_574 : (Cond.methodLink RX6 32 yX6_phrase) ∈ GWc := GWc_c14 _ (List.mem_of_getElem? (i := 14) rfl)
theorem cw_575 : (Cond.instanceMethod yX6_phrase) ∈ GWc := GWc_c14 _ (List.mem_of_getElem? (i := 15) rfl)
theorem cw_576 : (Cond.selects RX6 yX6_phrase yX6_phrase) ∈ GWc := GWc_c14 _ (List.mem_of_getElem? (i := 16) rfl)
theorem cw_577 : (Cond.initialized RX6) ∈ GWc := GWc_c14 _ (List.mem_of_getElem? (i := 17) rfl)
theorem cw_578 : (Cond.code yX6_phrase cX6_phrase 4 (some (.object "PhraseDesk$Node"))) ∈ GWc := GWc_c14 _ (List.mem_of_getElem? (i := 18) rfl)
theorem cw_579 : (Cond.methodLink RX6 39 yX6_choice) ∈ GWc := GWc_c14 _ (List.mem_of_getElem? (i := 19) rfl)
theorem cw_580 : (Cond.instanceMethod yX6_choice) ∈ GWc := GWc_c14 _ (List.mem_of_getElem? (i := 20) rfl)
theorem cw_581 : (Cond.selects RX6 yX6_choice yX6_choice) ∈ GWc := GWc_c14 _ (List.mem_of_getElem? (i := 21) rfl)
theorem cw_582 : (Cond.code yX6_choice cX6_choice 4 (some (.object "PhraseDesk$Node"))) ∈ GWc := GWc_c14 _ (List.mem_of_getElem? (i := 22) rfl)
theorem cw_583 : (Cond.methodLink RX6 56 yX6_refuse) ∈ GWc := GWc_c14 _ (List.mem_of_getElem? (i := 23) rfl)
theorem cw_584 : (Cond.instanceMethod yX6_refuse) ∈ GWc := GWc_c14 _ (List.mem_of_getElem? (i := 24) rfl)
theorem cw_585 : (Cond.selects RX6 yX6_refuse yX6_refuse) ∈ GWc := GWc_c14 _ (List.mem_of_getElem? (i := 25) rfl)
theorem cw_586 : (Cond.code yX6_refuse cX6_refuse 2 (some (.object "PhraseDesk$Node"))) ∈ GWc := GWc_c14 _ (List.mem_of_getElem? (i := 26) rfl)
theorem cw_587 : (Cond.methodLink RX6 139 yX4_placeAt) ∈ GWc := GWc_c14 _ (List.mem_of_getElem? (i := 27) rfl)
theorem cw_588 : (Cond.instanceMethod yX4_placeAt) ∈ GWc := GWc_c14 _ (List.mem_of_getElem? (i := 28) rfl)
theorem cw_589 : (Cond.selects RX4 yX4_placeAt yX4_placeAt) ∈ GWc := GWc_c14 _ (List.mem_of_getElem? (i := 29) rfl)
theorem cw_590 : (Cond.methodLink RX6 59 yX6_level) ∈ GWc := GWc_c14 _ (List.mem_of_getElem? (i := 30) rfl)
theorem cw_591 : (Cond.instanceMethod yX6_level) ∈ GWc := GWc_c14 _ (List.mem_of_getElem? (i := 31) rfl)
theorem cw_592 : (Cond.selects RX6 yX6_level yX6_level) ∈ GWc := GWc_c14 _ (List.mem_of_getElem? (i := 32) rfl)
theorem cw_593 : (Cond.methodLink RX6 63 yX6_takes) ∈ GWc := GWc_c14 _ (List.mem_of_getElem? (i := 33) rfl)
theorem cw_594 : (Cond.instanceMethod yX6_takes) ∈ GWc := GWc_c14 _ (List.mem_of_getElem? (i := 34) rfl)
theorem cw_595 : (Cond.selects RX6 yX6_takes yX6_takes) ∈ GWc := GWc_c14 _ (List.mem_of_getElem? (i := 35) rfl)
theorem cw_596 : (Cond.code yX6_takes cX6_takes 2 (some .boolean)) ∈ GWc := GWc_c14 _ (List.mem_of_getElem? (i := 36) rfl)
theorem cw_597 : (Cond.methodLink RX6 43 yX6_kind) ∈ GWc := GWc_c14 _ (List.mem_of_getElem? (i := 37) rfl)
theorem cw_598 : (Cond.instanceMethod yX6_kind) ∈ GWc := GWc_c14 _ (List.mem_of_getElem? (i := 38) rfl)
theorem cw_599 : (Cond.selects RX6 yX6_kind yX6_kind) ∈ GWc := GWc_c14 _ (List.mem_of_getElem? (i := 39) rfl)
theorem cw_600 : (Cond.code yX6_kind cX6_kind 1 (some .int)) ∈ GWc := GWc_c15 _ (List.mem_of_getElem? (i := 0) rfl)
theorem cw_601 : (Cond.methodLink RX6 136 yX4_kindAt) ∈ GWc := GWc_c15 _ (List.mem_of_getElem? (i := 1) rfl)
theorem cw_602 : (Cond.instanceMethod yX4_kindAt) ∈ GWc := GWc_c15 _ (List.mem_of_getElem? (i := 2) rfl)
theorem cw_603 : (Cond.selects RX4 yX4_kindAt yX4_kindAt) ∈ GWc := GWc_c15 _ (List.mem_of_getElem? (i := 3) rfl)
theorem cw_604 : (Cond.methodLink RX6 52 yX5_ofOperator) ∈ GWc := GWc_c15 _ (List.mem_of_getElem? (i := 4) rfl)
theorem cw_605 : (Cond.static yX5_ofOperator) ∈ GWc := GWc_c15 _ (List.mem_of_getElem? (i := 5) rfl)
theorem cw_606 : (Cond.methodLink RX6 67 yX6_chosen) ∈ GWc := GWc_c15 _ (List.mem_of_getElem? (i := 6) rfl)
theorem cw_607 : (Cond.instanceMethod yX6_chosen) ∈ GWc := GWc_c15 _ (List.mem_of_getElem? (i := 7) rfl)
theorem cw_608 : (Cond.selects RX6 yX6_chosen yX6_chosen) ∈ GWc := GWc_c15 _ (List.mem_of_getElem? (i := 8) rfl)
theorem cw_609 : (Cond.code yX6_bracketed cX6_bracketed 3 (some (.object "PhraseDesk$Node"))) ∈ GWc := GWc_c15 _ (List.mem_of_getElem? (i := 9) rfl)
theorem cw_610 : (Cond.fieldLink RX6 111 "PhraseDesk$Node" "bracketed" "Z") ∈ GWc := GWc_c15 _ (List.mem_of_getElem? (i := 10) rfl)
theorem cw_611 : (Cond.code yX6_chain cX6_chain 5 (some (.object "PhraseDesk$Node"))) ∈ GWc := GWc_c15 _ (List.mem_of_getElem? (i := 11) rfl)
theorem cw_612 : (Cond.fieldLink RX6 87 "PhraseDesk$Node" "lenient" "Z") ∈ GWc := GWc_c15 _ (List.mem_of_getElem? (i := 12) rfl)
theorem cw_613 : (Cond.methodLink RX6 81 yX6_first) ∈ GWc := GWc_c15 _ (List.mem_of_getElem? (i := 13) rfl)
theorem cw_614 : (Cond.instanceMethod yX6_first) ∈ GWc := GWc_c15 _ (List.mem_of_getElem? (i := 14) rfl)
theorem cw_615 : (Cond.selects RX6 yX6_first yX6_first) ∈ GWc := GWc_c15 _ (List.mem_of_getElem? (i := 15) rfl)
theorem cw_616 : (Cond.methodLink RX6 84 yX6_member) ∈ GWc := GWc_c15 _ (List.mem_of_getElem? (i := 16) rfl)
theorem cw_617 : (Cond.instanceMethod yX6_member) ∈ GWc := GWc_c15 _ (List.mem_of_getElem? (i := 17) rfl)
theorem cw_618 : (Cond.selects RX6 yX6_member yX6_member) ∈ GWc := GWc_c15 _ (List.mem_of_getElem? (i := 18) rfl)
theorem cw_619 : (Cond.code yX6_chosen cX6_chosen 5 (some (.object "PhraseDesk$Node"))) ∈ GWc := GWc_c15 _ (List.mem_of_getElem? (i := 19) rfl)
theorem cw_620 : (Cond.code yX6_first cX6_first 2 (some (.object "PhraseDesk$Node"))) ∈ GWc := GWc_c15 _ (List.mem_of_getElem? (i := 20) rfl)
theorem cw_621 : (Cond.methodLink RX6 91 yX4_literalAt) ∈ GWc := GWc_c15 _ (List.mem_of_getElem? (i := 21) rfl)
theorem cw_622 : (Cond.instanceMethod yX4_literalAt) ∈ GWc := GWc_c15 _ (List.mem_of_getElem? (i := 22) rfl)
theorem cw_623 : (Cond.selects RX4 yX4_literalAt yX4_literalAt) ∈ GWc := GWc_c15 _ (List.mem_of_getElem? (i := 23) rfl)
theorem cw_624 : (Cond.methodLink RX6 95 yX5_ofLiteral) ∈ GWc := GWc_c15 _ (List.mem_of_getElem? (i := 24) rfl)
theorem cw_625 : (Cond.static yX5_ofLiteral) ∈ GWc := GWc_c15 _ (List.mem_of_getElem? (i := 25) rfl)
theorem cw_626 : (Cond.methodLink RX6 99 yX6_takeName) ∈ GWc := GWc_c15 _ (List.mem_of_getElem? (i := 26) rfl)
theorem cw_627 : (Cond.instanceMethod yX6_takeName) ∈ GWc := GWc_c15 _ (List.mem_of_getElem? (i := 27) rfl)
theorem cw_628 : (Cond.selects RX6 yX6_takeName yX6_takeName) ∈ GWc := GWc_c15 _ (List.mem_of_getElem? (i := 28) rfl)
theorem cw_629 : (Cond.code yX6_takeName cX6_takeName 1 (some .int)) ∈ GWc := GWc_c15 _ (List.mem_of_getElem? (i := 29) rfl)
theorem cw_630 : (Cond.methodLink RX6 113 yX4_nameAt) ∈ GWc := GWc_c15 _ (List.mem_of_getElem? (i := 30) rfl)
theorem cw_631 : (Cond.instanceMethod yX4_nameAt) ∈ GWc := GWc_c15 _ (List.mem_of_getElem? (i := 31) rfl)
theorem cw_632 : (Cond.selects RX4 yX4_nameAt yX4_nameAt) ∈ GWc := GWc_c15 _ (List.mem_of_getElem? (i := 32) rfl)
theorem cw_633 : (Cond.methodLink RX6 102 yX5_ofVariable) ∈ GWc := GWc_c15 _ (List.mem_of_getElem? (i := 33) rfl)
theorem cw_634 : (Cond.static yX5_ofVariable) ∈ GWc := GWc_c15 _ (List.mem_of_getElem? (i := 34) rfl)
theorem cw_635 : (Cond.methodLink RX6 105 yX6_bracketed) ∈ GWc := GWc_c15 _ (List.mem_of_getElem? (i := 35) rfl)
theorem cw_636 : (Cond.instanceMethod yX6_bracketed) ∈ GWc := GWc_c15 _ (List.mem_of_getElem? (i := 36) rfl)
theorem cw_637 : (Cond.selects RX6 yX6_bracketed yX6_bracketed) ∈ GWc := GWc_c15 _ (List.mem_of_getElem? (i := 37) rfl)
theorem cw_638 : (Cond.methodLink RX6 108 yX6_named) ∈ GWc := GWc_c15 _ (List.mem_of_getElem? (i := 38) rfl)
theorem cw_639 : (Cond.instanceMethod yX6_named) ∈ GWc := GWc_c15 _ (List.mem_of_getElem? (i := 39) rfl)
theorem cw_640 : (Cond.selects RX6 yX6_named yX6_named) ∈ GWc := GWc_c16 _ (List.mem_of_getElem? (i := 0) rfl)
theorem cw_641 : (Cond.code yX6_level cX6_level 7 (some (.object "PhraseDesk$Node"))) ∈ GWc := GWc_c16 _ (List.mem_of_getElem? (i := 1) rfl)
theorem cw_642 : (Cond.methodLink RX6 71 yX6_sign) ∈ GWc := GWc_c16 _ (List.mem_of_getElem? (i := 2) rfl)
theorem cw_643 : (Cond.instanceMethod yX6_sign) ∈ GWc := GWc_c16 _ (List.mem_of_getElem? (i := 3) rfl)
theorem cw_644 : (Cond.selects RX6 yX6_sign yX6_sign) ∈ GWc := GWc_c16 _ (List.mem_of_getElem? (i := 4) rfl)
theorem cw_645 : (Cond.methodLink RX6 74 yX6_levelOf) ∈ GWc := GWc_c16 _ (List.mem_of_getElem? (i := 5) rfl)
theorem cw_646 : (Cond.static yX6_levelOf) ∈ GWc := GWc_c16 _ (List.mem_of_getElem? (i := 6) rfl)
theorem cw_647 : (Cond.code yX6_levelOf cX6_levelOf 1 (some .int)) ∈ GWc := GWc_c16 _ (List.mem_of_getElem? (i := 7) rfl)
theorem cw_648 : (Cond.code yX6_member cX6_member 6 (some (.object "PhraseDesk$Node"))) ∈ GWc := GWc_c16 _ (List.mem_of_getElem? (i := 8) rfl)
theorem cw_649 : (Cond.methodLink RX6 129 yX5_ofProperty) ∈ GWc := GWc_c16 _ (List.mem_of_getElem? (i := 9) rfl)
theorem cw_650 : (Cond.static yX5_ofProperty) ∈ GWc := GWc_c16 _ (List.mem_of_getElem? (i := 10) rfl)
theorem cw_651 : (Cond.methodLink RX6 132 yX5_ofCall) ∈ GWc := GWc_c16 _ (List.mem_of_getElem? (i := 11) rfl)
theorem cw_652 : (Cond.static yX5_ofCall) ∈ GWc := GWc_c16 _ (List.mem_of_getElem? (i := 12) rfl)
theorem cw_653 : (Cond.code yX6_named cX6_named 2 (some (.object "PhraseDesk$Node"))) ∈ GWc := GWc_c16 _ (List.mem_of_getElem? (i := 13) rfl)
theorem cw_654 : (Cond.methodLink RX6 116 yX10_ofBool) ∈ GWc := GWc_c16 _ (List.mem_of_getElem? (i := 14) rfl)
theorem cw_655 : (Cond.methodLink RX6 122 yX10_ofNull) ∈ GWc := GWc_c16 _ (List.mem_of_getElem? (i := 15) rfl)
theorem cw_656 : (Cond.static yX10_ofNull) ∈ GWc := GWc_c16 _ (List.mem_of_getElem? (i := 16) rfl)
theorem cw_657 : (Cond.code yX10_ofNull cX10_ofNull 0 (some (.object "PhraseDesk$Value"))) ∈ GWc := GWc_c16 _ (List.mem_of_getElem? (i := 17) rfl)
theorem cw_658 : (Cond.methodLink RX6 126 yX5_ofRoot) ∈ GWc := GWc_c16 _ (List.mem_of_getElem? (i := 18) rfl)
theorem cw_659 : (Cond.static yX5_ofRoot) ∈ GWc := GWc_c16 _ (List.mem_of_getElem? (i := 19) rfl)
theorem cw_660 : (Cond.code yX6_sign cX6_sign 4 (some (.object "PhraseDesk$Node"))) ∈ GWc := GWc_c16 _ (List.mem_of_getElem? (i := 20) rfl)
theorem cw_661 : (Cond.methodLink RX6 78 yX6_chain) ∈ GWc := GWc_c16 _ (List.mem_of_getElem? (i := 21) rfl)
theorem cw_662 : (Cond.instanceMethod yX6_chain) ∈ GWc := GWc_c16 _ (List.mem_of_getElem? (i := 22) rfl)
theorem cw_663 : (Cond.selects RX6 yX6_chain yX6_chain) ∈ GWc := GWc_c16 _ (List.mem_of_getElem? (i := 23) rfl)
theorem cw_664 : (Cond.methodLink RX6 46 yX5_canBeSet) ∈ GWc := GWc_c16 _ (List.mem_of_getElem? (i := 24) rfl)
theorem cw_665 : (Cond.instanceMethod yX5_canBeSet) ∈ GWc := GWc_c16 _ (List.mem_of_getElem? (i := 25) rfl)
theorem cw_666 : (Cond.selects RX5 yX5_canBeSet yX5_canBeSet) ∈ GWc := GWc_c16 _ (List.mem_of_getElem? (i := 26) rfl)
theorem cw_667 : (Cond.code yX7_init cX7_init 6 none) ∈ GWc := GWc_c16 _ (List.mem_of_getElem? (i := 27) rfl)
theorem cw_668 : (Cond.methodLink RX7 1 objectInit) ∈ GWc := GWc_c16 _ (List.mem_of_getElem? (i := 28) rfl)
theorem cw_669 : (Cond.fieldLink RX7 7 "PhraseDesk$Routine" "name" "I") ∈ GWc := GWc_c16 _ (List.mem_of_getElem? (i := 29) rfl)
theorem cw_670 : (Cond.fieldLink RX7 13 "PhraseDesk$Routine" "one" "I") ∈ GWc := GWc_c16 _ (List.mem_of_getElem? (i := 30) rfl)
theorem cw_671 : (Cond.fieldLink RX7 16 "PhraseDesk$Routine" "two" "I") ∈ GWc := GWc_c16 _ (List.mem_of_getElem? (i := 31) rfl)
theorem cw_672 : (Cond.fieldLink RX7 19 "PhraseDesk$Routine" "parameters" "I") ∈ GWc := GWc_c16 _ (List.mem_of_getElem? (i := 32) rfl)
theorem cw_673 : (Cond.fieldLink RX7 22 "PhraseDesk$Routine" "action" "I") ∈ GWc := GWc_c16 _ (List.mem_of_getElem? (i := 33) rfl)
theorem cw_674 : (Cond.fieldLink RX7 25 "PhraseDesk$Routine" "number" "I") ∈ GWc := GWc_c16 _ (List.mem_of_getElem? (i := 34) rfl)
theorem cw_675 : (Cond.code yX8_init cX8_init 1 none) ∈ GWc := GWc_c16 _ (List.mem_of_getElem? (i := 35) rfl)
theorem cw_676 : (Cond.methodLink RX8 3 objectInit) ∈ GWc := GWc_c16 _ (List.mem_of_getElem? (i := 36) rfl)
theorem cw_677 : (Cond.fieldLink RX8 15 "PhraseDesk$Runner" "nothing" "LPhraseDesk$Value;") ∈ GWc := GWc_c16 _ (List.mem_of_getElem? (i := 37) rfl)
theorem cw_678 : (Cond.classLink RX8 21 RX0) ∈ GWc := GWc_c16 _ (List.mem_of_getElem? (i := 38) rfl)
theorem cw_679 : (Cond.instantiable RX0 2) ∈ GWc := GWc_c16 _ (List.mem_of_getElem? (i := 39) rfl)
theorem cw_680 : (Cond.fieldLink RX8 24 "PhraseDesk$Runner" "converters" "LPhraseDesk$Converters;") ∈ GWc := GWc_c17 _ (List.mem_of_getElem? (i := 0) rfl)
theorem cw_681 : (Cond.classLink RX8 28 RX3) ∈ GWc := GWc_c17 _ (List.mem_of_getElem? (i := 1) rfl)
theorem cw_682 : (Cond.instantiable RX3 3) ∈ GWc := GWc_c17 _ (List.mem_of_getElem? (i := 2) rfl)
theorem cw_683 : (Cond.fieldLink RX8 31 "PhraseDesk$Runner" "finder" "LPhraseDesk$Finder;") ∈ GWc := GWc_c17 _ (List.mem_of_getElem? (i := 3) rfl)
theorem cw_684 : (Cond.fieldLink RX8 35 "PhraseDesk$Runner" "variableNames" "[I") ∈ GWc := GWc_c17 _ (List.mem_of_getElem? (i := 4) rfl)
theorem cw_685 : (Cond.classLink RX8 10 RX10) ∈ GWc := GWc_c17 _ (List.mem_of_getElem? (i := 5) rfl)
theorem cw_686 : (Cond.fieldLink RX8 39 "PhraseDesk$Runner" "variableValues" "[LPhraseDesk$Value;") ∈ GWc := GWc_c17 _ (List.mem_of_getElem? (i := 6) rfl)
theorem cw_687 : (Cond.fieldLink RX8 43 "PhraseDesk$Runner" "root" "LPhraseDesk$Value;") ∈ GWc := GWc_c17 _ (List.mem_of_getElem? (i := 7) rfl)
theorem cw_688 : (Cond.methodLink RX8 9 yX10_ofNull) ∈ GWc := GWc_c17 _ (List.mem_of_getElem? (i := 8) rfl)
theorem cw_689 : (Cond.methodLink RX8 23 yX0_init) ∈ GWc := GWc_c17 _ (List.mem_of_getElem? (i := 9) rfl)
theorem cw_690 : (Cond.instanceMethod yX0_init) ∈ GWc := GWc_c17 _ (List.mem_of_getElem? (i := 10) rfl)
theorem cw_691 : (Cond.methodLink RX8 30 yX3_init) ∈ GWc := GWc_c17 _ (List.mem_of_getElem? (i := 11) rfl)
theorem cw_692 : (Cond.instanceMethod yX3_init) ∈ GWc := GWc_c17 _ (List.mem_of_getElem? (i := 12) rfl)
theorem cw_693 : (Cond.code yX8_begin cX8_begin 2 none) ∈ GWc := GWc_c17 _ (List.mem_of_getElem? (i := 13) rfl)
theorem cw_694 : (Cond.fieldLink RX8 46 "PhraseDesk$Runner" "failure" "I") ∈ GWc := GWc_c17 _ (List.mem_of_getElem? (i := 14) rfl)
theorem cw_695 : (Cond.code yX8_fail cX8_fail 2 (some (.object "PhraseDesk$Value"))) ∈ GWc := GWc_c17 _ (List.mem_of_getElem? (i := 15) rfl)
theorem cw_696 : (Cond.code yX8_eval cX8_eval 3 (some (.object "PhraseDesk$Value"))) ∈ GWc := GWc_c17 _ (List.mem_of_getElem? (i := 16) rfl)
theorem cw_697 : (Cond.fieldLink RX8 54 "PhraseDesk$Node" "op" "I") ∈ GWc := GWc_c17 _ (List.mem_of_getElem? (i := 17) rfl)
theorem cw_698 : (Cond.fieldLink RX8 59 "PhraseDesk$Node" "literal" "LPhraseDesk$Value;") ∈ GWc := GWc_c17 _ (List.mem_of_getElem? (i := 18) rfl)
theorem cw_699 : (Cond.fieldLink RX8 62 "PhraseDesk$Node" "name" "I") ∈ GWc := GWc_c17 _ (List.mem_of_getElem? (i := 19) rfl)
theorem cw_700 : (Cond.fieldLink RX8 68 "PhraseDesk$Node" "one" "LPhraseDesk$Node;") ∈ GWc := GWc_c17 _ (List.mem_of_getElem? (i := 20) rfl)
theorem cw_701 : (Cond.fieldLink RX8 76 "PhraseDesk$Node" "lenient" "Z") ∈ GWc := GWc_c17 _ (List.mem_of_getElem? (i := 21) rfl)
theorem cw_702 : (Cond.methodLink RX8 50 yX8_fail) ∈ GWc := GWc_c17 _ (List.mem_of_getElem? (i := 22) rfl)
theorem cw_703 : (Cond.instanceMethod yX8_fail) ∈ GWc := GWc_c17 _ (List.mem_of_getElem? (i := 23) rfl)
theorem cw_704 : (Cond.selects RX8 yX8_fail yX8_fail) ∈ GWc := GWc_c17 _ (List.mem_of_getElem? (i := 24) rfl)
theorem cw_705 : (Cond.initialized RX8) ∈ GWc := GWc_c17 _ (List.mem_of_getElem? (i := 25) rfl)
theorem cw_706 : (Cond.methodLink RX8 65 yX8_variable) ∈ GWc := GWc_c17 _ (List.mem_of_getElem? (i := 26) rfl)
theorem cw_707 : (Cond.instanceMethod yX8_variable) ∈ GWc := GWc_c17 _ (List.mem_of_getElem? (i := 27) rfl)
theorem cw_708 : (Cond.selects RX8 yX8_variable yX8_variable) ∈ GWc := GWc_c17 _ (List.mem_of_getElem? (i := 28) rfl)
theorem cw_709 : (Cond.code yX8_variable cX8_variable 3 (some (.object "PhraseDesk$Value"))) ∈ GWc := GWc_c17 _ (List.mem_of_getElem? (i := 29) rfl)
theorem cw_710 : (Cond.fieldLink RX8 273 "PhraseDesk$Runner" "variableCount" "I") ∈ GWc := GWc_c17 _ (List.mem_of_getElem? (i := 30) rfl)
theorem cw_711 : (Cond.methodLink RX8 72 yX8_eval) ∈ GWc := GWc_c17 _ (List.mem_of_getElem? (i := 31) rfl)
theorem cw_712 : (Cond.instanceMethod yX8_eval) ∈ GWc := GWc_c17 _ (List.mem_of_getElem? (i := 32) rfl)
theorem cw_713 : (Cond.selects RX8 yX8_eval yX8_eval) ∈ GWc := GWc_c17 _ (List.mem_of_getElem? (i := 33) rfl)
theorem cw_714 : (Cond.methodLink RX8 80 yX8_property) ∈ GWc := GWc_c17 _ (List.mem_of_getElem? (i := 34) rfl)
theorem cw_715 : (Cond.instanceMethod yX8_property) ∈ GWc := GWc_c17 _ (List.mem_of_getElem? (i := 35) rfl)
theorem cw_716 : (Cond.selects RX8 yX8_property yX8_property) ∈ GWc := GWc_c17 _ (List.mem_of_getElem? (i := 36) rfl)
theorem cw_717 : (Cond.code yX8_property cX8_property 5 (some (.object "PhraseDesk$Value"))) ∈ GWc := GWc_c17 _ (List.mem_of_getElem? (i := 37) rfl)
theorem cw_718 : (Cond.fieldLink RX8 109 "PhraseDesk$Value" "kind" "I") ∈ GWc := GWc_c17 _ (List.mem_of_getElem? (i := 38) rfl)
theorem cw_719 : (Cond.fieldLink RX8 112 "PhraseDesk$Value" "chars" "Ljava/lang/String;") ∈ GWc := GWc_c17 _ (List.mem_of_getElem? (i := 39) rfl)
theorem cw_720 : (Cond.fieldLink RX8 125 "PhraseDesk$Value" "thing" "LPhraseDesk$Thing;") ∈ GWc := GWc_c18 _ (List.mem_of_getElem? (i := 0) rfl)
theorem cw_721 : (Cond.methodLink RX8 116 yJ0_length_8abf5) ∈ GWc := GWc_c18 _ (List.mem_of_getElem? (i := 1) rfl)
theorem cw_722 : (Cond.methodLink RX8 122 yX10_ofInt) ∈ GWc := GWc_c18 _ (List.mem_of_getElem? (i := 2) rfl)
theorem cw_723 : (Cond.methodLink RX8 129 yX9_valueOf) ∈ GWc := GWc_c18 _ (List.mem_of_getElem? (i := 3) rfl)
theorem cw_724 : (Cond.instanceMethod yX9_valueOf) ∈ GWc := GWc_c18 _ (List.mem_of_getElem? (i := 4) rfl)
theorem cw_725 : (Cond.selects RX9 yX9_valueOf yX9_valueOf) ∈ GWc := GWc_c18 _ (List.mem_of_getElem? (i := 5) rfl)
theorem cw_726 : (Cond.initialized RX9) ∈ GWc := GWc_c18 _ (List.mem_of_getElem? (i := 6) rfl)
theorem cw_727 : (Cond.code yX9_valueOf cX9_valueOf 3 (some (.object "PhraseDesk$Value"))) ∈ GWc := GWc_c18 _ (List.mem_of_getElem? (i := 7) rfl)
theorem cw_728 : (Cond.fieldLink RX9 15 "PhraseDesk$Thing" "family" "LPhraseDesk$Family;") ∈ GWc := GWc_c18 _ (List.mem_of_getElem? (i := 8) rfl)
theorem cw_729 : (Cond.fieldLink RX9 31 "PhraseDesk$Field" "slot" "I") ∈ GWc := GWc_c18 _ (List.mem_of_getElem? (i := 9) rfl)
theorem cw_730 : (Cond.fieldLink RX9 21 "PhraseDesk$Thing" "values" "[LPhraseDesk$Value;") ∈ GWc := GWc_c18 _ (List.mem_of_getElem? (i := 10) rfl)
theorem cw_731 : (Cond.methodLink RX9 25 yX1_nearestField) ∈ GWc := GWc_c18 _ (List.mem_of_getElem? (i := 11) rfl)
theorem cw_732 : (Cond.instanceMethod yX1_nearestField) ∈ GWc := GWc_c18 _ (List.mem_of_getElem? (i := 12) rfl)
theorem cw_733 : (Cond.selects RX1 yX1_nearestField yX1_nearestField) ∈ GWc := GWc_c18 _ (List.mem_of_getElem? (i := 13) rfl)
theorem cw_734 : (Cond.methodLink RX8 84 yX8_call) ∈ GWc := GWc_c18 _ (List.mem_of_getElem? (i := 14) rfl)
theorem cw_735 : (Cond.instanceMethod yX8_call) ∈ GWc := GWc_c18 _ (List.mem_of_getElem? (i := 15) rfl)
theorem cw_736 : (Cond.selects RX8 yX8_call yX8_call) ∈ GWc := GWc_c18 _ (List.mem_of_getElem? (i := 16) rfl)
theorem cw_737 : (Cond.methodLink RX8 87 yX8_negative) ∈ GWc := GWc_c18 _ (List.mem_of_getElem? (i := 17) rfl)
theorem cw_738 : (Cond.instanceMethod yX8_negative) ∈ GWc := GWc_c18 _ (List.mem_of_getElem? (i := 18) rfl)
theorem cw_739 : (Cond.selects RX8 yX8_negative yX8_negative) ∈ GWc := GWc_c18 _ (List.mem_of_getElem? (i := 19) rfl)
theorem cw_740 : (Cond.code yX8_negative cX8_negative 2 (some (.object "PhraseDesk$Value"))) ∈ GWc := GWc_c18 _ (List.mem_of_getElem? (i := 20) rfl)
theorem cw_741 : (Cond.fieldLink RX8 176 "PhraseDesk$Value" "number" "I") ∈ GWc := GWc_c18 _ (List.mem_of_getElem? (i := 21) rfl)
theorem cw_742 : (Cond.fieldLink RX8 177 "PhraseDesk$Value" "real" "D") ∈ GWc := GWc_c18 _ (List.mem_of_getElem? (i := 22) rfl)
theorem cw_743 : (Cond.methodLink RX8 181 yX10_ofReal) ∈ GWc := GWc_c18 _ (List.mem_of_getElem? (i := 23) rfl)
theorem cw_744 : (Cond.methodLink RX8 91 yX8_opposite) ∈ GWc := GWc_c18 _ (List.mem_of_getElem? (i := 24) rfl)
theorem cw_745 : (Cond.instanceMethod yX8_opposite) ∈ GWc := GWc_c18 _ (List.mem_of_getElem? (i := 25) rfl)
theorem cw_746 : (Cond.selects RX8 yX8_opposite yX8_opposite) ∈ GWc := GWc_c18 _ (List.mem_of_getElem? (i := 26) rfl)
theorem cw_747 : (Cond.code yX8_opposite cX8_opposite 2 (some (.object "PhraseDesk$Value"))) ∈ GWc := GWc_c18 _ (List.mem_of_getElem? (i := 27) rfl)
theorem cw_748 : (Cond.methodLink RX8 185 yX10_isTrue) ∈ GWc := GWc_c18 _ (List.mem_of_getElem? (i := 28) rfl)
theorem cw_749 : (Cond.instanceMethod yX10_isTrue) ∈ GWc := GWc_c18 _ (List.mem_of_getElem? (i := 29) rfl)
theorem cw_750 : (Cond.selects RX10 yX10_isTrue yX10_isTrue) ∈ GWc := GWc_c18 _ (List.mem_of_getElem? (i := 30) rfl)
theorem cw_751 : (Cond.code yX10_isTrue cX10_isTrue 1 (some .boolean)) ∈ GWc := GWc_c18 _ (List.mem_of_getElem? (i := 31) rfl)
theorem cw_752 : (Cond.methodLink RX8 189 yX10_ofBool) ∈ GWc := GWc_c18 _ (List.mem_of_getElem? (i := 32) rfl)
theorem cw_753 : (Cond.methodLink RX8 94 yX8_logic) ∈ GWc := GWc_c18 _ (List.mem_of_getElem? (i := 33) rfl)
theorem cw_754 : (Cond.instanceMethod yX8_logic) ∈ GWc := GWc_c18 _ (List.mem_of_getElem? (i := 34) rfl)
theorem cw_755 : (Cond.selects RX8 yX8_logic yX8_logic) ∈ GWc := GWc_c18 _ (List.mem_of_getElem? (i := 35) rfl)
theorem cw_756 : (Cond.methodLink RX8 97 yX8_chosen) ∈ GWc := GWc_c18 _ (List.mem_of_getElem? (i := 36) rfl)
theorem cw_757 : (Cond.instanceMethod yX8_chosen) ∈ GWc := GWc_c18 _ (List.mem_of_getElem? (i := 37) rfl)
theorem cw_758 : (Cond.selects RX8 yX8_chosen yX8_chosen) ∈ GWc := GWc_c18 _ (List.mem_of_getElem? (i := 38) rfl)
theorem cw_759 : (Cond.methodLink RX8 100 yX8_orElse) ∈ GWc := GWc_c18 _ (List.mem_of_getElem? (i := 39) rfl)
theorem cw_760 : (Cond.instanceMethod yX8_orElse) ∈ GWc := GWc_c19 _ (List.mem_of_getElem? (i := 0) rfl)
theorem cw_761 : (Cond.selects RX8 yX8_orElse yX8_orElse) ∈ GWc := GWc_c19 _ (List.mem_of_getElem? (i := 1) rfl)
theorem cw_762 : (Cond.methodLink RX8 103 yX8_set) ∈ GWc := GWc_c19 _ (List.mem_of_getElem? (i := 2) rfl)
theorem cw_763 : (Cond.instanceMethod yX8_set) ∈ GWc := GWc_c19 _ (List.mem_of_getElem? (i := 3) rfl)
theorem cw_764 : (Cond.selects RX8 yX8_set yX8_set) ∈ GWc := GWc_c19 _ (List.mem_of_getElem? (i := 4) rfl)
theorem cw_765 : (Cond.methodLink RX8 106 yX8_combined) ∈ GWc := GWc_c19 _ (List.mem_of_getElem? (i := 5) rfl)
theorem cw_766 : (Cond.instanceMethod yX8_combined) ∈ GWc := GWc_c19 _ (List.mem_of_getElem? (i := 6) rfl)
theorem cw_767 : (Cond.selects RX8 yX8_combined yX8_combined) ∈ GWc := GWc_c19 _ (List.mem_of_getElem? (i := 7) rfl)
theorem cw_768 : (Cond.code yX8_call cX8_call 9 (some (.object "PhraseDesk$Value"))) ∈ GWc := GWc_c19 _ (List.mem_of_getElem? (i := 8) rfl)
theorem cw_769 : (Cond.fieldLink RX8 134 "PhraseDesk$Node" "two" "LPhraseDesk$Node;") ∈ GWc := GWc_c19 _ (List.mem_of_getElem? (i := 9) rfl)
theorem cw_770 : (Cond.fieldLink RX8 137 "PhraseDesk$Node" "three" "LPhraseDesk$Node;") ∈ GWc := GWc_c19 _ (List.mem_of_getElem? (i := 10) rfl)
theorem cw_771 : (Cond.fieldLink RX8 140 "PhraseDesk$Thing" "family" "LPhraseDesk$Family;") ∈ GWc := GWc_c19 _ (List.mem_of_getElem? (i := 11) rfl)
theorem cw_772 : (Cond.fieldLink RX8 148 "PhraseDesk$Finder" "failure" "I") ∈ GWc := GWc_c19 _ (List.mem_of_getElem? (i := 12) rfl)
theorem cw_773 : (Cond.fieldLink RX8 149 "PhraseDesk$Routine" "one" "I") ∈ GWc := GWc_c19 _ (List.mem_of_getElem? (i := 13) rfl)
theorem cw_774 : (Cond.fieldLink RX8 157 "PhraseDesk$Routine" "two" "I") ∈ GWc := GWc_c19 _ (List.mem_of_getElem? (i := 14) rfl)
theorem cw_775 : (Cond.methodLink RX8 144 yX3_find) ∈ GWc := GWc_c19 _ (List.mem_of_getElem? (i := 15) rfl)
theorem cw_776 : (Cond.instanceMethod yX3_find) ∈ GWc := GWc_c19 _ (List.mem_of_getElem? (i := 16) rfl)
theorem cw_777 : (Cond.selects RX3 yX3_find yX3_find) ∈ GWc := GWc_c19 _ (List.mem_of_getElem? (i := 17) rfl)
theorem cw_778 : (Cond.methodLink RX8 153 yX8_fit) ∈ GWc := GWc_c19 _ (List.mem_of_getElem? (i := 18) rfl)
theorem cw_779 : (Cond.instanceMethod yX8_fit) ∈ GWc := GWc_c19 _ (List.mem_of_getElem? (i := 19) rfl)
theorem cw_780 : (Cond.selects RX8 yX8_fit yX8_fit) ∈ GWc := GWc_c19 _ (List.mem_of_getElem? (i := 20) rfl)
theorem cw_781 : (Cond.code yX8_fit cX8_fit 4 (some (.object "PhraseDesk$Value"))) ∈ GWc := GWc_c19 _ (List.mem_of_getElem? (i := 21) rfl)
theorem cw_782 : (Cond.methodLink RX8 226 yX10_fits) ∈ GWc := GWc_c19 _ (List.mem_of_getElem? (i := 22) rfl)
theorem cw_783 : (Cond.methodLink RX8 230 yX0_reach) ∈ GWc := GWc_c19 _ (List.mem_of_getElem? (i := 23) rfl)
theorem cw_784 : (Cond.methodLink RX8 234 yX0_convert) ∈ GWc := GWc_c19 _ (List.mem_of_getElem? (i := 24) rfl)
theorem cw_785 : (Cond.instanceMethod yX0_convert) ∈ GWc := GWc_c19 _ (List.mem_of_getElem? (i := 25) rfl)
theorem cw_786 : (Cond.selects RX0 yX0_convert yX0_convert) ∈ GWc := GWc_c19 _ (List.mem_of_getElem? (i := 26) rfl)
theorem cw_787 : (Cond.methodLink RX8 159 yX8_act) ∈ GWc := GWc_c19 _ (List.mem_of_getElem? (i := 27) rfl)
theorem cw_788 : (Cond.instanceMethod yX8_act) ∈ GWc := GWc_c19 _ (List.mem_of_getElem? (i := 28) rfl)
theorem cw_789 : (Cond.selects RX8 yX8_act yX8_act) ∈ GWc := GWc_c19 _ (List.mem_of_getElem? (i := 29) rfl)
theorem cw_790 : (Cond.code yX8_act cX8_act 5 (some (.object "PhraseDesk$Value"))) ∈ GWc := GWc_c19 _ (List.mem_of_getElem? (i := 30) rfl)
theorem cw_791 : (Cond.fieldLink RX8 163 "PhraseDesk$Routine" "action" "I") ∈ GWc := GWc_c19 _ (List.mem_of_getElem? (i := 31) rfl)
theorem cw_792 : (Cond.fieldLink RX8 166 "PhraseDesk$Routine" "number" "I") ∈ GWc := GWc_c19 _ (List.mem_of_getElem? (i := 32) rfl)
theorem cw_793 : (Cond.fieldLink RX8 169 "PhraseDesk$Routine" "parameters" "I") ∈ GWc := GWc_c19 _ (List.mem_of_getElem? (i := 33) rfl)
theorem cw_794 : (Cond.methodLink RX8 172 yX8_add) ∈ GWc := GWc_c19 _ (List.mem_of_getElem? (i := 34) rfl)
theorem cw_795 : (Cond.instanceMethod yX8_add) ∈ GWc := GWc_c19 _ (List.mem_of_getElem? (i := 35) rfl)
theorem cw_796 : (Cond.selects RX8 yX8_add yX8_add) ∈ GWc := GWc_c19 _ (List.mem_of_getElem? (i := 36) rfl)
theorem cw_797 : (Cond.code yX8_add cX8_add 4 (some (.object "PhraseDesk$Value"))) ∈ GWc := GWc_c19 _ (List.mem_of_getElem? (i := 37) rfl)
theorem cw_798 : (Cond.methodLink RX8 255 yX8_joins) ∈ GWc := GWc_c19 _ (List.mem_of_getElem? (i := 38) rfl)
theorem cw_799 : (Cond.static yX8_joins) ∈ GWc := GWc_c19 _ (List.mem_of_getElem? (i := 39) rfl)
theorem cw_800 : (Cond.code yX8_joins cX8_joins 2 (some .boolean)) ∈ GWc := GWc_c20 _ (List.mem_of_getElem? (i := 0) rfl)
theorem cw_801 : (Cond.methodLink RX8 241 yX8_calculate) ∈ GWc := GWc_c20 _ (List.mem_of_getElem? (i := 1) rfl)
theorem cw_802 : (Cond.instanceMethod yX8_calculate) ∈ GWc := GWc_c20 _ (List.mem_of_getElem? (i := 2) rfl)
theorem cw_803 : (Cond.selects RX8 yX8_calculate yX8_calculate) ∈ GWc := GWc_c20 _ (List.mem_of_getElem? (i := 3) rfl)
theorem cw_804 : (Cond.code yX8_calculate cX8_calculate 4 (some (.object "PhraseDesk$Value"))) ∈ GWc := GWc_c20 _ (List.mem_of_getElem? (i := 4) rfl)
theorem cw_805 : (Cond.methodLink RX8 261 yX8_ofInts) ∈ GWc := GWc_c20 _ (List.mem_of_getElem? (i := 5) rfl)
theorem cw_806 : (Cond.instanceMethod yX8_ofInts) ∈ GWc := GWc_c20 _ (List.mem_of_getElem? (i := 6) rfl)
theorem cw_807 : (Cond.selects RX8 yX8_ofInts yX8_ofInts) ∈ GWc := GWc_c20 _ (List.mem_of_getElem? (i := 7) rfl)
theorem cw_808 : (Cond.code yX8_ofInts cX8_ofInts 4 (some (.object "PhraseDesk$Value"))) ∈ GWc := GWc_c20 _ (List.mem_of_getElem? (i := 8) rfl)
theorem cw_809 : (Cond.methodLink RX8 248 yX10_isNumber) ∈ GWc := GWc_c20 _ (List.mem_of_getElem? (i := 9) rfl)
theorem cw_810 : (Cond.instanceMethod yX10_isNumber) ∈ GWc := GWc_c20 _ (List.mem_of_getElem? (i := 10) rfl)
theorem cw_811 : (Cond.selects RX10 yX10_isNumber yX10_isNumber) ∈ GWc := GWc_c20 _ (List.mem_of_getElem? (i := 11) rfl)
theorem cw_812 : (Cond.code yX10_isNumber cX10_isNumber 1 (some .boolean)) ∈ GWc := GWc_c20 _ (List.mem_of_getElem? (i := 12) rfl)
theorem cw_813 : (Cond.methodLink RX8 265 yX8_ofReals) ∈ GWc := GWc_c20 _ (List.mem_of_getElem? (i := 13) rfl)
theorem cw_814 : (Cond.instanceMethod yX8_ofReals) ∈ GWc := GWc_c20 _ (List.mem_of_getElem? (i := 14) rfl)
theorem cw_815 : (Cond.selects RX8 yX8_ofReals yX8_ofReals) ∈ GWc := GWc_c20 _ (List.mem_of_getElem? (i := 15) rfl)
theorem cw_816 : (Cond.code yX8_ofReals cX8_ofReals 8 (some (.object "PhraseDesk$Value"))) ∈ GWc := GWc_c20 _ (List.mem_of_getElem? (i := 16) rfl)
theorem cw_817 : (Cond.constantDouble RX8 269 (4786511204640096256)) ∈ GWc := GWc_c20 _ (List.mem_of_getElem? (i := 17) rfl)
theorem cw_818 : (Cond.constantDouble RX8 271 (14009883241494872064)) ∈ GWc := GWc_c20 _ (List.mem_of_getElem? (i := 18) rfl)
theorem cw_819 : (Cond.methodLink RX8 258 yX0_join) ∈ GWc := GWc_c20 _ (List.mem_of_getElem? (i := 19) rfl)
theorem cw_820 : (Cond.instanceMethod yX0_join) ∈ GWc := GWc_c20 _ (List.mem_of_getElem? (i := 20) rfl)
theorem cw_821 : (Cond.selects RX0 yX0_join yX0_join) ∈ GWc := GWc_c20 _ (List.mem_of_getElem? (i := 21) rfl)
theorem cw_822 : (Cond.code yX8_chosen cX8_chosen 4 (some (.object "PhraseDesk$Value"))) ∈ GWc := GWc_c20 _ (List.mem_of_getElem? (i := 22) rfl)
theorem cw_823 : (Cond.methodLink RX8 193 yX8_bool) ∈ GWc := GWc_c20 _ (List.mem_of_getElem? (i := 23) rfl)
theorem cw_824 : (Cond.instanceMethod yX8_bool) ∈ GWc := GWc_c20 _ (List.mem_of_getElem? (i := 24) rfl)
theorem cw_825 : (Cond.selects RX8 yX8_bool yX8_bool) ∈ GWc := GWc_c20 _ (List.mem_of_getElem? (i := 25) rfl)
theorem cw_826 : (Cond.code yX8_bool cX8_bool 2 (some (.object "PhraseDesk$Value"))) ∈ GWc := GWc_c20 _ (List.mem_of_getElem? (i := 26) rfl)
theorem cw_827 : (Cond.code yX8_combined cX8_combined 5 (some (.object "PhraseDesk$Value"))) ∈ GWc := GWc_c20 _ (List.mem_of_getElem? (i := 27) rfl)
theorem cw_828 : (Cond.methodLink RX8 237 yX8_areSame) ∈ GWc := GWc_c20 _ (List.mem_of_getElem? (i := 28) rfl)
theorem cw_829 : (Cond.static yX8_areSame) ∈ GWc := GWc_c20 _ (List.mem_of_getElem? (i := 29) rfl)
theorem cw_830 : (Cond.code yX8_areSame cX8_areSame 2 (some .boolean)) ∈ GWc := GWc_c20 _ (List.mem_of_getElem? (i := 30) rfl)
theorem cw_831 : (Cond.methodLink RX8 251 yJ0_equals_9ea2d) ∈ GWc := GWc_c20 _ (List.mem_of_getElem? (i := 31) rfl)
theorem cw_832 : (Cond.methodLink RX8 245 yX8_compare) ∈ GWc := GWc_c20 _ (List.mem_of_getElem? (i := 32) rfl)
theorem cw_833 : (Cond.instanceMethod yX8_compare) ∈ GWc := GWc_c20 _ (List.mem_of_getElem? (i := 33) rfl)
theorem cw_834 : (Cond.selects RX8 yX8_compare yX8_compare) ∈ GWc := GWc_c20 _ (List.mem_of_getElem? (i := 34) rfl)
theorem cw_835 : (Cond.code yX8_compare cX8_compare 4 (some (.object "PhraseDesk$Value"))) ∈ GWc := GWc_c20 _ (List.mem_of_getElem? (i := 35) rfl)
theorem cw_836 : (Cond.code yX8_logic cX8_logic 4 (some (.object "PhraseDesk$Value"))) ∈ GWc := GWc_c20 _ (List.mem_of_getElem? (i := 36) rfl)
theorem cw_837 : (Cond.code yX8_orElse cX8_orElse 5 (some (.object "PhraseDesk$Value"))) ∈ GWc := GWc_c20 _ (List.mem_of_getElem? (i := 37) rfl)
theorem cw_838 : (Cond.methodLink RX8 196 yJ0_isEmpty_aae02) ∈ GWc := GWc_c20 _ (List.mem_of_getElem? (i := 38) rfl)
theorem cw_839 : (Cond.instanceMethod yJ0_isEmpty_aae02) ∈ GWc := GWc_c20 _ (List.mem_of_getElem? (i := 39) rfl)
theorem cw_840 : (Cond.selects RJ0 yJ0_isEmpty_aae02 yJ0_isEmpty_aae02) ∈ GWc := GWc_c21 _ (List.mem_of_getElem? (i := 0) rfl)
theorem cw_841 : (Cond.code yJ0_isEmpty_aae02 cJ0_isEmpty_aae02 1 (some .boolean)) ∈ GWc := GWc_c21 _ (List.mem_of_getElem? (i := 1) rfl)
theorem cw_842 : (Cond.code yX8_set cX8_set 5 (some (.object "PhraseDesk$Value"))) ∈ GWc := GWc_c21 _ (List.mem_of_getElem? (i := 2) rfl)
theorem cw_843 : (Cond.methodLink RX8 199 yX8_setProperty) ∈ GWc := GWc_c21 _ (List.mem_of_getElem? (i := 3) rfl)
theorem cw_844 : (Cond.instanceMethod yX8_setProperty) ∈ GWc := GWc_c21 _ (List.mem_of_getElem? (i := 4) rfl)
theorem cw_845 : (Cond.selects RX8 yX8_setProperty yX8_setProperty) ∈ GWc := GWc_c21 _ (List.mem_of_getElem? (i := 5) rfl)
theorem cw_846 : (Cond.methodLink RX8 203 yX8_setVariable) ∈ GWc := GWc_c21 _ (List.mem_of_getElem? (i := 6) rfl)
theorem cw_847 : (Cond.instanceMethod yX8_setVariable) ∈ GWc := GWc_c21 _ (List.mem_of_getElem? (i := 7) rfl)
theorem cw_848 : (Cond.selects RX8 yX8_setVariable yX8_setVariable) ∈ GWc := GWc_c21 _ (List.mem_of_getElem? (i := 8) rfl)
theorem cw_849 : (Cond.code yX8_setVariable cX8_setVariable 4 (some .boolean)) ∈ GWc := GWc_c21 _ (List.mem_of_getElem? (i := 9) rfl)
theorem cw_850 : (Cond.code yX8_setProperty cX8_setProperty 6 (some (.object "PhraseDesk$Value"))) ∈ GWc := GWc_c21 _ (List.mem_of_getElem? (i := 10) rfl)
theorem cw_851 : (Cond.methodLink RX8 207 yX8_setField) ∈ GWc := GWc_c21 _ (List.mem_of_getElem? (i := 11) rfl)
theorem cw_852 : (Cond.instanceMethod yX8_setField) ∈ GWc := GWc_c21 _ (List.mem_of_getElem? (i := 12) rfl)
theorem cw_853 : (Cond.selects RX8 yX8_setField yX8_setField) ∈ GWc := GWc_c21 _ (List.mem_of_getElem? (i := 13) rfl)
theorem cw_854 : (Cond.code yX8_setField cX8_setField 6 (some (.object "PhraseDesk$Value"))) ∈ GWc := GWc_c21 _ (List.mem_of_getElem? (i := 14) rfl)
theorem cw_855 : (Cond.fieldLink RX8 217 "PhraseDesk$Field" "type" "I") ∈ GWc := GWc_c21 _ (List.mem_of_getElem? (i := 15) rfl)
theorem cw_856 : (Cond.methodLink RX8 211 yX1_nearestField) ∈ GWc := GWc_c21 _ (List.mem_of_getElem? (i := 16) rfl)
theorem cw_857 : (Cond.methodLink RX8 222 yX9_hold) ∈ GWc := GWc_c21 _ (List.mem_of_getElem? (i := 17) rfl)
theorem cw_858 : (Cond.instanceMethod yX9_hold) ∈ GWc := GWc_c21 _ (List.mem_of_getElem? (i := 18) rfl)
theorem cw_859 : (Cond.selects RX9 yX9_hold yX9_hold) ∈ GWc := GWc_c21 _ (List.mem_of_getElem? (i := 19) rfl)
theorem cw_860 : (Cond.code yX9_hold cX9_hold 3 none) ∈ GWc := GWc_c21 _ (List.mem_of_getElem? (i := 20) rfl)
theorem cw_861 : (Cond.code yX9_init cX9_init 5 none) ∈ GWc := GWc_c21 _ (List.mem_of_getElem? (i := 21) rfl)
theorem cw_862 : (Cond.methodLink RX9 3 objectInit) ∈ GWc := GWc_c21 _ (List.mem_of_getElem? (i := 22) rfl)
theorem cw_863 : (Cond.fieldLink RX9 9 "PhraseDesk$Thing" "number" "I") ∈ GWc := GWc_c21 _ (List.mem_of_getElem? (i := 23) rfl)
theorem cw_864 : (Cond.classLink RX9 19 RX10) ∈ GWc := GWc_c21 _ (List.mem_of_getElem? (i := 24) rfl)
theorem cw_865 : (Cond.code yX10_ofThing cX10_ofThing 1 (some (.object "PhraseDesk$Value"))) ∈ GWc := GWc_c21 _ (List.mem_of_getElem? (i := 25) rfl)
theorem cw_866 : (Cond.fieldLink RX10 50 "PhraseDesk$Thing" "number" "I") ∈ GWc := GWc_c21 _ (List.mem_of_getElem? (i := 26) rfl)
theorem cw_867 : (Cond.code yX11_init cX11_init 1 none) ∈ GWc := GWc_c21 _ (List.mem_of_getElem? (i := 27) rfl)
theorem cw_868 : (Cond.methodLink RX11 1 objectInit) ∈ GWc := GWc_c21 _ (List.mem_of_getElem? (i := 28) rfl)
theorem cw_869 : (Cond.classLink RX11 7 RX6) ∈ GWc := GWc_c21 _ (List.mem_of_getElem? (i := 29) rfl)
theorem cw_870 : (Cond.instantiable RX6 4) ∈ GWc := GWc_c21 _ (List.mem_of_getElem? (i := 30) rfl)
theorem cw_871 : (Cond.fieldLink RX11 10 "PhraseDesk" "parser" "LPhraseDesk$Parser;") ∈ GWc := GWc_c21 _ (List.mem_of_getElem? (i := 31) rfl)
theorem cw_872 : (Cond.classLink RX11 16 RX8) ∈ GWc := GWc_c21 _ (List.mem_of_getElem? (i := 32) rfl)
theorem cw_873 : (Cond.instantiable RX8 8) ∈ GWc := GWc_c21 _ (List.mem_of_getElem? (i := 33) rfl)
theorem cw_874 : (Cond.fieldLink RX11 19 "PhraseDesk" "runner" "LPhraseDesk$Runner;") ∈ GWc := GWc_c21 _ (List.mem_of_getElem? (i := 34) rfl)
theorem cw_875 : (Cond.classLink RX11 23 RX5) ∈ GWc := GWc_c21 _ (List.mem_of_getElem? (i := 35) rfl)
theorem cw_876 : (Cond.fieldLink RX11 25 "PhraseDesk" "programs" "[LPhraseDesk$Node;") ∈ GWc := GWc_c21 _ (List.mem_of_getElem? (i := 36) rfl)
theorem cw_877 : (Cond.classLink RX11 29 RX1) ∈ GWc := GWc_c21 _ (List.mem_of_getElem? (i := 37) rfl)
theorem cw_878 : (Cond.fieldLink RX11 31 "PhraseDesk" "families" "[LPhraseDesk$Family;") ∈ GWc := GWc_c21 _ (List.mem_of_getElem? (i := 38) rfl)
theorem cw_879 : (Cond.classLink RX11 35 RX10) ∈ GWc := GWc_c21 _ (List.mem_of_getElem? (i := 39) rfl)
theorem cw_880 : (Cond.fieldLink RX11 37 "PhraseDesk" "objects" "[LPhraseDesk$Value;") ∈ GWc := GWc_c22 _ (List.mem_of_getElem? (i := 0) rfl)
theorem cw_881 : (Cond.fieldLink RX11 45 "PhraseDesk" "latest" "LPhraseDesk$Value;") ∈ GWc := GWc_c22 _ (List.mem_of_getElem? (i := 1) rfl)
theorem cw_882 : (Cond.methodLink RX11 9 yX6_init) ∈ GWc := GWc_c22 _ (List.mem_of_getElem? (i := 2) rfl)
theorem cw_883 : (Cond.instanceMethod yX6_init) ∈ GWc := GWc_c22 _ (List.mem_of_getElem? (i := 3) rfl)
theorem cw_884 : (Cond.methodLink RX11 18 yX8_init) ∈ GWc := GWc_c22 _ (List.mem_of_getElem? (i := 4) rfl)
theorem cw_885 : (Cond.instanceMethod yX8_init) ∈ GWc := GWc_c22 _ (List.mem_of_getElem? (i := 5) rfl)
theorem cw_886 : (Cond.methodLink RX11 41 yX10_ofNull) ∈ GWc := GWc_c22 _ (List.mem_of_getElem? (i := 6) rfl)
theorem cw_887 : (Cond.code yX11_letter cX11_letter 2 (some .int)) ∈ GWc := GWc_c22 _ (List.mem_of_getElem? (i := 7) rfl)
theorem cw_888 : (Cond.classLink RX11 49 "java/lang/IllegalArgumentException") ∈ GWc := GWc_c22 _ (List.mem_of_getElem? (i := 8) rfl)
theorem cw_889 : (Cond.initialized "java/lang/IllegalArgumentException") ∈ GWc := GWc_c22 _ (List.mem_of_getElem? (i := 9) rfl)
theorem cw_890 : (Cond.classLink RX11 66 "java/lang/IllegalStateException") ∈ GWc := GWc_c22 _ (List.mem_of_getElem? (i := 10) rfl)
theorem cw_891 : (Cond.initialized "java/lang/IllegalStateException") ∈ GWc := GWc_c22 _ (List.mem_of_getElem? (i := 11) rfl)
theorem cw_892 : (Cond.fieldLink RX11 56 "PhraseDesk$Parser" "lexer" "LPhraseDesk$Lexer;") ∈ GWc := GWc_c22 _ (List.mem_of_getElem? (i := 12) rfl)
theorem cw_893 : (Cond.fieldLink RX11 60 "PhraseDesk$Lexer" "length" "I") ∈ GWc := GWc_c22 _ (List.mem_of_getElem? (i := 13) rfl)
theorem cw_894 : (Cond.methodLink RX11 71 yX4_append) ∈ GWc := GWc_c22 _ (List.mem_of_getElem? (i := 14) rfl)
theorem cw_895 : (Cond.instanceMethod yX4_append) ∈ GWc := GWc_c22 _ (List.mem_of_getElem? (i := 15) rfl)
theorem cw_896 : (Cond.selects RX4 yX4_append yX4_append) ∈ GWc := GWc_c22 _ (List.mem_of_getElem? (i := 16) rfl)
theorem cw_897 : (Cond.code yX11_parse cX11_parse 2 (some .int)) ∈ GWc := GWc_c22 _ (List.mem_of_getElem? (i := 17) rfl)
theorem cw_898 : (Cond.fieldLink RX11 75 "PhraseDesk" "programCount" "I") ∈ GWc := GWc_c22 _ (List.mem_of_getElem? (i := 18) rfl)
theorem cw_899 : (Cond.fieldLink RX11 84 "PhraseDesk$Parser" "error" "I") ∈ GWc := GWc_c22 _ (List.mem_of_getElem? (i := 19) rfl)
theorem cw_900 : (Cond.fieldLink RX11 87 "PhraseDesk$Parser" "place" "I") ∈ GWc := GWc_c22 _ (List.mem_of_getElem? (i := 20) rfl)
theorem cw_901 : (Cond.methodLink RX11 80 yX6_read) ∈ GWc := GWc_c22 _ (List.mem_of_getElem? (i := 21) rfl)
theorem cw_902 : (Cond.instanceMethod yX6_read) ∈ GWc := GWc_c22 _ (List.mem_of_getElem? (i := 22) rfl)
theorem cw_903 : (Cond.selects RX6 yX6_read yX6_read) ∈ GWc := GWc_c22 _ (List.mem_of_getElem? (i := 23) rfl)
theorem cw_904 : (Cond.code yX11_type cX11_type 3 (some .int)) ∈ GWc := GWc_c22 _ (List.mem_of_getElem? (i := 24) rfl)
theorem cw_905 : (Cond.fieldLink RX11 96 "PhraseDesk" "familyCount" "I") ∈ GWc := GWc_c22 _ (List.mem_of_getElem? (i := 25) rfl)
theorem cw_906 : (Cond.instantiable RX1 7) ∈ GWc := GWc_c22 _ (List.mem_of_getElem? (i := 26) rfl)
theorem cw_907 : (Cond.methodLink RX11 90 yX11_familyAt) ∈ GWc := GWc_c22 _ (List.mem_of_getElem? (i := 27) rfl)
theorem cw_908 : (Cond.instanceMethod yX11_familyAt) ∈ GWc := GWc_c22 _ (List.mem_of_getElem? (i := 28) rfl)
theorem cw_909 : (Cond.selects RX11 yX11_familyAt yX11_familyAt) ∈ GWc := GWc_c22 _ (List.mem_of_getElem? (i := 29) rfl)
theorem cw_910 : (Cond.initialized RX11) ∈ GWc := GWc_c22 _ (List.mem_of_getElem? (i := 30) rfl)
theorem cw_911 : (Cond.code yX11_familyAt cX11_familyAt 2 (some (.object "PhraseDesk$Family"))) ∈ GWc := GWc_c22 _ (List.mem_of_getElem? (i := 31) rfl)
theorem cw_912 : (Cond.methodLink RX11 101 yX1_init) ∈ GWc := GWc_c22 _ (List.mem_of_getElem? (i := 32) rfl)
theorem cw_913 : (Cond.instanceMethod yX1_init) ∈ GWc := GWc_c22 _ (List.mem_of_getElem? (i := 33) rfl)
theorem cw_914 : (Cond.code yX11_field cX11_field 5 (some .int)) ∈ GWc := GWc_c22 _ (List.mem_of_getElem? (i := 34) rfl)
theorem cw_915 : (Cond.fieldLink RX11 113 "PhraseDesk$Family" "fieldCount" "I") ∈ GWc := GWc_c22 _ (List.mem_of_getElem? (i := 35) rfl)
theorem cw_916 : (Cond.fieldLink RX11 120 "PhraseDesk" "objectCount" "I") ∈ GWc := GWc_c22 _ (List.mem_of_getElem? (i := 36) rfl)
theorem cw_917 : (Cond.methodLink RX11 104 yX11_isName) ∈ GWc := GWc_c22 _ (List.mem_of_getElem? (i := 37) rfl)
theorem cw_918 : (Cond.static yX11_isName) ∈ GWc := GWc_c22 _ (List.mem_of_getElem? (i := 38) rfl)
theorem cw_919 : (Cond.code yX11_isName cX11_isName 1 (some .boolean)) ∈ GWc := GWc_c22 _ (List.mem_of_getElem? (i := 39) rfl)
theorem cw_920 : (Cond.constant RX11 236 (14348906)) ∈ GWc := GWc_c23 _ (List.mem_of_getElem? (i := 0) rfl)
theorem cw_921 : (Cond.methodLink RX11 108 yX11_isType) ∈ GWc := GWc_c23 _ (List.mem_of_getElem? (i := 1) rfl)
theorem cw_922 : (Cond.instanceMethod yX11_isType) ∈ GWc := GWc_c23 _ (List.mem_of_getElem? (i := 2) rfl)
theorem cw_923 : (Cond.selects RX11 yX11_isType yX11_isType) ∈ GWc := GWc_c23 _ (List.mem_of_getElem? (i := 3) rfl)
theorem cw_924 : (Cond.code yX11_isType cX11_isType 2 (some .boolean)) ∈ GWc := GWc_c23 _ (List.mem_of_getElem? (i := 4) rfl)
theorem cw_925 : (Cond.methodLink RX11 116 yX1_ownField) ∈ GWc := GWc_c23 _ (List.mem_of_getElem? (i := 5) rfl)
theorem cw_926 : (Cond.methodLink RX11 125 yX1_addField) ∈ GWc := GWc_c23 _ (List.mem_of_getElem? (i := 6) rfl)
theorem cw_927 : (Cond.instanceMethod yX1_addField) ∈ GWc := GWc_c23 _ (List.mem_of_getElem? (i := 7) rfl)
theorem cw_928 : (Cond.selects RX1 yX1_addField yX1_addField) ∈ GWc := GWc_c23 _ (List.mem_of_getElem? (i := 8) rfl)
theorem cw_929 : (Cond.code yX11_method cX11_method 8 (some .int)) ∈ GWc := GWc_c23 _ (List.mem_of_getElem? (i := 9) rfl)
theorem cw_930 : (Cond.fieldLink RX11 135 "PhraseDesk$Family" "routineCount" "I") ∈ GWc := GWc_c23 _ (List.mem_of_getElem? (i := 10) rfl)
theorem cw_931 : (Cond.classLink RX11 140 RX7) ∈ GWc := GWc_c23 _ (List.mem_of_getElem? (i := 11) rfl)
theorem cw_932 : (Cond.instantiable RX7 6) ∈ GWc := GWc_c23 _ (List.mem_of_getElem? (i := 12) rfl)
theorem cw_933 : (Cond.initialized RX7) ∈ GWc := GWc_c23 _ (List.mem_of_getElem? (i := 13) rfl)
theorem cw_934 : (Cond.methodLink RX11 129 yX11_areParameters) ∈ GWc := GWc_c23 _ (List.mem_of_getElem? (i := 14) rfl)
theorem cw_935 : (Cond.instanceMethod yX11_areParameters) ∈ GWc := GWc_c23 _ (List.mem_of_getElem? (i := 15) rfl)
theorem cw_936 : (Cond.selects RX11 yX11_areParameters yX11_areParameters) ∈ GWc := GWc_c23 _ (List.mem_of_getElem? (i := 16) rfl)
theorem cw_937 : (Cond.code yX11_areParameters cX11_areParameters 3 (some .boolean)) ∈ GWc := GWc_c23 _ (List.mem_of_getElem? (i := 17) rfl)
theorem cw_938 : (Cond.methodLink RX11 142 yX7_init) ∈ GWc := GWc_c23 _ (List.mem_of_getElem? (i := 18) rfl)
theorem cw_939 : (Cond.instanceMethod yX7_init) ∈ GWc := GWc_c23 _ (List.mem_of_getElem? (i := 19) rfl)
theorem cw_940 : (Cond.methodLink RX11 145 yX1_addRoutine) ∈ GWc := GWc_c23 _ (List.mem_of_getElem? (i := 20) rfl)
theorem cw_941 : (Cond.instanceMethod yX1_addRoutine) ∈ GWc := GWc_c23 _ (List.mem_of_getElem? (i := 21) rfl)
theorem cw_942 : (Cond.selects RX1 yX1_addRoutine yX1_addRoutine) ∈ GWc := GWc_c23 _ (List.mem_of_getElem? (i := 22) rfl)
theorem cw_943 : (Cond.code yX11_make cX11_make 3 (some .int)) ∈ GWc := GWc_c23 _ (List.mem_of_getElem? (i := 23) rfl)
theorem cw_944 : (Cond.classLink RX11 153 RX9) ∈ GWc := GWc_c23 _ (List.mem_of_getElem? (i := 24) rfl)
theorem cw_945 : (Cond.instantiable RX9 3) ∈ GWc := GWc_c23 _ (List.mem_of_getElem? (i := 25) rfl)
theorem cw_946 : (Cond.fieldLink RX11 155 "PhraseDesk$Runner" "nothing" "LPhraseDesk$Value;") ∈ GWc := GWc_c23 _ (List.mem_of_getElem? (i := 26) rfl)
theorem cw_947 : (Cond.methodLink RX11 158 yX9_init) ∈ GWc := GWc_c23 _ (List.mem_of_getElem? (i := 27) rfl)
theorem cw_948 : (Cond.instanceMethod yX9_init) ∈ GWc := GWc_c23 _ (List.mem_of_getElem? (i := 28) rfl)
theorem cw_949 : (Cond.methodLink RX11 161 yX10_ofThing) ∈ GWc := GWc_c23 _ (List.mem_of_getElem? (i := 29) rfl)
theorem cw_950 : (Cond.static yX10_ofThing) ∈ GWc := GWc_c23 _ (List.mem_of_getElem? (i := 30) rfl)
theorem cw_951 : (Cond.code yX11_converter cX11_converter 5 (some .boolean)) ∈ GWc := GWc_c23 _ (List.mem_of_getElem? (i := 31) rfl)
theorem cw_952 : (Cond.fieldLink RX11 167 "PhraseDesk$Runner" "converters" "LPhraseDesk$Converters;") ∈ GWc := GWc_c23 _ (List.mem_of_getElem? (i := 32) rfl)
theorem cw_953 : (Cond.methodLink RX11 171 yX0_change) ∈ GWc := GWc_c23 _ (List.mem_of_getElem? (i := 33) rfl)
theorem cw_954 : (Cond.instanceMethod yX0_change) ∈ GWc := GWc_c23 _ (List.mem_of_getElem? (i := 34) rfl)
theorem cw_955 : (Cond.selects RX0 yX0_change yX0_change) ∈ GWc := GWc_c23 _ (List.mem_of_getElem? (i := 35) rfl)
theorem cw_956 : (Cond.code yX11_run cX11_run 6 (some .int)) ∈ GWc := GWc_c23 _ (List.mem_of_getElem? (i := 36) rfl)
theorem cw_957 : (Cond.fieldLink RX11 191 "PhraseDesk$Runner" "failure" "I") ∈ GWc := GWc_c23 _ (List.mem_of_getElem? (i := 37) rfl)
theorem cw_958 : (Cond.methodLink RX11 177 yX11_objectAt) ∈ GWc := GWc_c23 _ (List.mem_of_getElem? (i := 38) rfl)
theorem cw_959 : (Cond.instanceMethod yX11_objectAt) ∈ GWc := GWc_c23 _ (List.mem_of_getElem? (i := 39) rfl)
theorem cw_960 : (Cond.selects RX11 yX11_objectAt yX11_objectAt) ∈ GWc := GWc_c24 _ (List.mem_of_getElem? (i := 0) rfl)
theorem cw_961 : (Cond.code yX11_objectAt cX11_objectAt 2 (some (.object "PhraseDesk$Value"))) ∈ GWc := GWc_c24 _ (List.mem_of_getElem? (i := 1) rfl)
theorem cw_962 : (Cond.methodLink RX11 183 yX8_begin) ∈ GWc := GWc_c24 _ (List.mem_of_getElem? (i := 2) rfl)
theorem cw_963 : (Cond.instanceMethod yX8_begin) ∈ GWc := GWc_c24 _ (List.mem_of_getElem? (i := 3) rfl)
theorem cw_964 : (Cond.selects RX8 yX8_begin yX8_begin) ∈ GWc := GWc_c24 _ (List.mem_of_getElem? (i := 4) rfl)
theorem cw_965 : (Cond.code yX11_keep cX11_keep 2 (some .int)) ∈ GWc := GWc_c24 _ (List.mem_of_getElem? (i := 5) rfl)
theorem cw_966 : (Cond.fieldLink RX11 202 "PhraseDesk$Value" "kind" "I") ∈ GWc := GWc_c24 _ (List.mem_of_getElem? (i := 6) rfl)
theorem cw_967 : (Cond.methodLink RX11 196 yX8_setVariable) ∈ GWc := GWc_c24 _ (List.mem_of_getElem? (i := 7) rfl)
theorem cw_968 : (Cond.code yX11_result cX11_result 2 (some .int)) ∈ GWc := GWc_c24 _ (List.mem_of_getElem? (i := 8) rfl)
theorem cw_969 : (Cond.fieldLink RX11 205 "PhraseDesk$Value" "number" "I") ∈ GWc := GWc_c24 _ (List.mem_of_getElem? (i := 9) rfl)
theorem cw_970 : (Cond.constantDouble RX11 208 (4652007308841189376)) ∈ GWc := GWc_c24 _ (List.mem_of_getElem? (i := 10) rfl)
theorem cw_971 : (Cond.fieldLink RX11 210 "PhraseDesk$Value" "real" "D") ∈ GWc := GWc_c24 _ (List.mem_of_getElem? (i := 11) rfl)
theorem cw_972 : (Cond.code yX11_text cX11_text 2 (some .int)) ∈ GWc := GWc_c24 _ (List.mem_of_getElem? (i := 12) rfl)
theorem cw_973 : (Cond.fieldLink RX11 214 "PhraseDesk$Value" "chars" "Ljava/lang/String;") ∈ GWc := GWc_c24 _ (List.mem_of_getElem? (i := 13) rfl)
theorem cw_974 : (Cond.methodLink RX11 218 yJ0_length_8abf5) ∈ GWc := GWc_c24 _ (List.mem_of_getElem? (i := 14) rfl)
theorem cw_975 : (Cond.methodLink RX11 223 yJ0_charAt_5068e) ∈ GWc := GWc_c24 _ (List.mem_of_getElem? (i := 15) rfl)
theorem cw_976 : (Cond.code yX11_put cX11_put 4 (some .int)) ∈ GWc := GWc_c24 _ (List.mem_of_getElem? (i := 16) rfl)
theorem cw_977 : (Cond.code yX11_about cX11_about 2 (some .int)) ∈ GWc := GWc_c24 _ (List.mem_of_getElem? (i := 17) rfl)
theorem cw_978 : (Cond.fieldLink RX11 233 "PhraseDesk$Runner" "variableCount" "I") ∈ GWc := GWc_c24 _ (List.mem_of_getElem? (i := 18) rfl)
theorem cw_979 : (Cond.code yJ9_max_7cf53 cJ9_max_7cf53 2 (some .int)) ∈ GWc := GWc_c24 _ (List.mem_of_getElem? (i := 19) rfl)
theorem cw_980 : (Cond.code yJ9_min_7cf53 cJ9_min_7cf53 2 (some .int)) ∈ GWc := GWc_c24 _ (List.mem_of_getElem? (i := 20) rfl)
theorem cu_X0 : ∀ w ∈ wsX00, w ∈ GWc := fun w h => GWc_cT w (by unfold GWcT; exact List.mem_append_left _ h)
theorem cu_X1 : ∀ w ∈ wsX10, w ∈ GWc := fun w h => GWc_cT w (by unfold GWcT; exact List.mem_append_right _ (List.mem_append_left _ h))
theorem cu_X2 : ∀ w ∈ wsX20, w ∈ GWc := fun w h => GWc_cT w (by unfold GWcT; exact List.mem_append_right _ (List.mem_append_right _ (List.mem_append_left _ h)))
theorem cu_X3 : ∀ w ∈ wsX30, w ∈ GWc := fun w h => GWc_cT w (by unfold GWcT; exact List.mem_append_right _ (List.mem_append_right _ (List.mem_append_right _ (List.mem_append_left _ h))))
theorem cu_X4 : ∀ w ∈ wsX40, w ∈ GWc := fun w h => GWc_cT w (by unfold GWcT; exact List.mem_append_right _ (List.mem_append_right _ (List.mem_append_right _ (List.mem_append_right _ (List.mem_append_left _ h)))))
theorem cu_X5 : ∀ w ∈ wsX50, w ∈ GWc := fun w h => GWc_cT w (by unfold GWcT; exact List.mem_append_right _ (List.mem_append_right _ (List.mem_append_right _ (List.mem_append_right _ (List.mem_append_right _ (List.mem_append_left _ h))))))
theorem cu_X6 : ∀ w ∈ wsX60, w ∈ GWc := fun w h => GWc_cT w (by unfold GWcT; exact List.mem_append_right _ (List.mem_append_right _ (List.mem_append_right _ (List.mem_append_right _ (List.mem_append_right _ (List.mem_append_right _ (List.mem_append_left _ h)))))))
theorem cu_X7 : ∀ w ∈ wsX70, w ∈ GWc := fun w h => GWc_cT w (by unfold GWcT; exact List.mem_append_right _ (List.mem_append_right _ (List.mem_append_right _ (List.mem_append_right _ (List.mem_append_right _ (List.mem_append_right _ (List.mem_append_right _ (List.mem_append_left _ h))))))))
theorem cu_X8 : ∀ w ∈ wsX80, w ∈ GWc := fun w h => GWc_cT w (by unfold GWcT; exact List.mem_append_right _ (List.mem_append_right _ (List.mem_append_right _ (List.mem_append_right _ (List.mem_append_right _ (List.mem_append_right _ (List.mem_append_right _ (List.mem_append_right _ (List.mem_append_left _ h)))))))))
theorem cu_X9 : ∀ w ∈ wsX90, w ∈ GWc := fun w h => GWc_cT w (by unfold GWcT; exact List.mem_append_right _ (List.mem_append_right _ (List.mem_append_right _ (List.mem_append_right _ (List.mem_append_right _ (List.mem_append_right _ (List.mem_append_right _ (List.mem_append_right _ (List.mem_append_right _ (List.mem_append_left _ h))))))))))
theorem cu_X10 : ∀ w ∈ wsX100, w ∈ GWc := fun w h => GWc_cT w (by unfold GWcT; exact List.mem_append_right _ (List.mem_append_right _ (List.mem_append_right _ (List.mem_append_right _ (List.mem_append_right _ (List.mem_append_right _ (List.mem_append_right _ (List.mem_append_right _ (List.mem_append_right _ (List.mem_append_right _ (List.mem_append_left _ h)))))))))))
theorem cu_X11 : ∀ w ∈ wsX110, w ∈ GWc := fun w h => GWc_cT w (by unfold GWcT; exact List.mem_append_right _ (List.mem_append_right _ (List.mem_append_right _ (List.mem_append_right _ (List.mem_append_right _ (List.mem_append_right _ (List.mem_append_right _ (List.mem_append_right _ (List.mem_append_right _ (List.mem_append_right _ (List.mem_append_right _ (List.mem_append_left _ h))))))))))))
theorem cu_J0 : ∀ w ∈ wsJ00, w ∈ GWc := fun w h => GWc_cT w (by unfold GWcT; exact List.mem_append_right _ (List.mem_append_right _ (List.mem_append_right _ (List.mem_append_right _ (List.mem_append_right _ (List.mem_append_right _ (List.mem_append_right _ (List.mem_append_right _ (List.mem_append_right _ (List.mem_append_right _ (List.mem_append_right _ (List.mem_append_right _ (List.mem_append_left _ h)))))))))))))
theorem cu_J4 : ∀ w ∈ wsJ40, w ∈ GWc := fun w h => GWc_cT w (by unfold GWcT; exact List.mem_append_right _ (List.mem_append_right _ (List.mem_append_right _ (List.mem_append_right _ (List.mem_append_right _ (List.mem_append_right _ (List.mem_append_right _ (List.mem_append_right _ (List.mem_append_right _ (List.mem_append_right _ (List.mem_append_right _ (List.mem_append_right _ (List.mem_append_right _ (h))))))))))))))
theorem GWc_in {ws : List Cond} (h : ∀ w ∈ ws, w ∈ GWc) : GoodIn GWc ws := fun w hw => ⟨h w hw, good_of_word (GWc_ok w (h w hw))⟩
