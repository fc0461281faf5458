def tyX0 : Nat → FieldType := fun k => match k with
  | 0 => .array .boolean
  | _ => .object "java/lang/StringBuilder"
abbrev wsX00 : List Cond := u_ws RX0 TX0 2
theorem nmX0 : ∀ a, a < 2 → ∀ b, b < 2 → a ≠ b → (TX0 a).2.1 ≠ (TX0 b).2.1 := by decide +kernel
theorem tyX0_ok : ∀ k, k < 2 → parseFieldDescriptor (TX0 k).2.2.1 = some (tyX0 k) := by decide +kernel
abbrev cX0_init : ByteArray := prog_2_method_1_code
def yX0_init : MethodName := ⟨RX0, "<init>", "()V"⟩
abbrev cX0_change : ByteArray := prog_2_method_2_code
def yX0_change : MethodName := ⟨RX0, "change", "(IIZ)Z"⟩
abbrev cX0_isThere : ByteArray := prog_2_method_3_code
def yX0_isThere : MethodName := ⟨RX0, "isThere", "(II)Z"⟩
abbrev cX0_suit : ByteArray := prog_2_method_4_code
def yX0_suit : MethodName := ⟨RX0, "suit", "(LPhraseDesk$Value;I)Z"⟩
abbrev cX0_reach : ByteArray := prog_2_method_5_code
def yX0_reach : MethodName := ⟨RX0, "reach", "(LPhraseDesk$Value;I)Z"⟩
abbrev cX0_convert : ByteArray := prog_2_method_6_code
def yX0_convert : MethodName := ⟨RX0, "convert", "(LPhraseDesk$Value;I)LPhraseDesk$Value;"⟩
abbrev cX0_toBool : ByteArray := prog_2_method_7_code
def yX0_toBool : MethodName := ⟨RX0, "toBool", "(LPhraseDesk$Value;)LPhraseDesk$Value;"⟩
abbrev cX0_toInt : ByteArray := prog_2_method_8_code
def yX0_toInt : MethodName := ⟨RX0, "toInt", "(LPhraseDesk$Value;)LPhraseDesk$Value;"⟩
abbrev cX0_asText : ByteArray := prog_2_method_9_code
def yX0_asText : MethodName := ⟨RX0, "asText", "(LPhraseDesk$Value;)Ljava/lang/String;"⟩
abbrev cX0_join : ByteArray := prog_2_method_10_code
def yX0_join : MethodName := ⟨RX0, "join", "(LPhraseDesk$Value;LPhraseDesk$Value;)LPhraseDesk$Value;"⟩
def tyX1 : Nat → FieldType := fun k => match k with
  | 0 => .int
  | 1 => .int
  | 2 => .object "PhraseDesk$Family"
  | 3 => .array (.object "PhraseDesk$Field")
  | 4 => .int
  | 5 => .array (.object "PhraseDesk$Routine")
  | _ => .int
abbrev wsX10 : List Cond := u_ws RX1 TX1 7
theorem nmX1 : ∀ a, a < 7 → ∀ b, b < 7 → a ≠ b → (TX1 a).2.1 ≠ (TX1 b).2.1 := by decide +kernel
theorem tyX1_ok : ∀ k, k < 7 → parseFieldDescriptor (TX1 k).2.2.1 = some (tyX1 k) := by decide +kernel
abbrev cX1_init : ByteArray := prog_3_method_1_code
def yX1_init : MethodName := ⟨RX1, "<init>", "(ILPhraseDesk$Family;)V"⟩
abbrev cX1_addField : ByteArray := prog_3_method_2_code
def yX1_addField : MethodName := ⟨RX1, "addField", "(II)V"⟩
abbrev cX1_addRoutine : ByteArray := prog_3_method_3_code
def yX1_addRoutine : MethodName := ⟨RX1, "addRoutine", "(LPhraseDesk$Routine;)V"⟩
abbrev cX1_routineAt : ByteArray := prog_3_method_4_code
def yX1_routineAt : MethodName := ⟨RX1, "routineAt", "(I)LPhraseDesk$Routine;"⟩
abbrev cX1_ownField : ByteArray := prog_3_method_5_code
def yX1_ownField : MethodName := ⟨RX1, "ownField", "(I)LPhraseDesk$Field;"⟩
abbrev cX1_nearestField : ByteArray := prog_3_method_6_code
def yX1_nearestField : MethodName := ⟨RX1, "nearestField", "(I)LPhraseDesk$Field;"⟩
def tyX2 : Nat → FieldType := fun k => match k with
  | 0 => .int
  | 1 => .int
  | _ => .int
abbrev wsX20 : List Cond := u_ws RX2 TX2 3
theorem nmX2 : ∀ a, a < 3 → ∀ b, b < 3 → a ≠ b → (TX2 a).2.1 ≠ (TX2 b).2.1 := by decide +kernel
theorem tyX2_ok : ∀ k, k < 3 → parseFieldDescriptor (TX2 k).2.2.1 = some (tyX2 k) := by decide +kernel
abbrev cX2_init : ByteArray := prog_4_method_1_code
def yX2_init : MethodName := ⟨RX2, "<init>", "(III)V"⟩
def tyX3 : Nat → FieldType := fun k => match k with
  | 0 => .array (.object "PhraseDesk$Routine")
  | 1 => .int
  | _ => .int
abbrev wsX30 : List Cond := u_ws RX3 TX3 3
theorem nmX3 : ∀ a, a < 3 → ∀ b, b < 3 → a ≠ b → (TX3 a).2.1 ≠ (TX3 b).2.1 := by decide +kernel
theorem tyX3_ok : ∀ k, k < 3 → parseFieldDescriptor (TX3 k).2.2.1 = some (tyX3 k) := by decide +kernel
abbrev cX3_init : ByteArray := prog_5_method_1_code
def yX3_init : MethodName := ⟨RX3, "<init>", "()V"⟩
abbrev cX3_find : ByteArray := prog_5_method_2_code
def yX3_find : MethodName := ⟨RX3, "find", "(LPhraseDesk$Family;LPhraseDesk$Node;LPhraseDesk$Value;LPhraseDesk$Value;LPhraseDesk$Converters;)LPhraseDesk$Routine;"⟩
abbrev cX3_collect : ByteArray := prog_5_method_3_code
def yX3_collect : MethodName := ⟨RX3, "collect", "(LPhraseDesk$Family;II)V"⟩
abbrev cX3_addUnlessHidden : ByteArray := prog_5_method_4_code
def yX3_addUnlessHidden : MethodName := ⟨RX3, "addUnlessHidden", "(LPhraseDesk$Routine;)V"⟩
abbrev cX3_exact : ByteArray := prog_5_method_5_code
def yX3_exact : MethodName := ⟨RX3, "exact", "(LPhraseDesk$Value;LPhraseDesk$Value;)LPhraseDesk$Routine;"⟩
abbrev cX3_closest : ByteArray := prog_5_method_6_code
def yX3_closest : MethodName := ⟨RX3, "closest", "(LPhraseDesk$Value;LPhraseDesk$Value;)LPhraseDesk$Routine;"⟩
abbrev cX3_convertible : ByteArray := prog_5_method_7_code
def yX3_convertible : MethodName := ⟨RX3, "convertible", "(LPhraseDesk$Value;LPhraseDesk$Value;LPhraseDesk$Converters;)LPhraseDesk$Routine;"⟩
def tyX4 : Nat → FieldType := fun k => match k with
  | 0 => .array .char
  | 1 => .int
  | 2 => .array .int
  | 3 => .array .int
  | 4 => .array .int
  | 5 => .array (.object "PhraseDesk$Value")
  | 6 => .int
  | _ => .object "java/lang/StringBuilder"
abbrev wsX40 : List Cond := u_ws RX4 TX4 8
theorem nmX4 : ∀ a, a < 8 → ∀ b, b < 8 → a ≠ b → (TX4 a).2.1 ≠ (TX4 b).2.1 := by decide +kernel
theorem tyX4_ok : ∀ k, k < 8 → parseFieldDescriptor (TX4 k).2.2.1 = some (tyX4 k) := by decide +kernel
abbrev cX4_init : ByteArray := prog_6_method_1_code
def yX4_init : MethodName := ⟨RX4, "<init>", "()V"⟩
abbrev cX4_append : ByteArray := prog_6_method_2_code
def yX4_append : MethodName := ⟨RX4, "append", "(C)V"⟩
abbrev cX4_kindAt : ByteArray := prog_6_method_3_code
def yX4_kindAt : MethodName := ⟨RX4, "kindAt", "(I)I"⟩
abbrev cX4_placeAt : ByteArray := prog_6_method_4_code
def yX4_placeAt : MethodName := ⟨RX4, "placeAt", "(I)I"⟩
abbrev cX4_nameAt : ByteArray := prog_6_method_5_code
def yX4_nameAt : MethodName := ⟨RX4, "nameAt", "(I)I"⟩
abbrev cX4_literalAt : ByteArray := prog_6_method_6_code
def yX4_literalAt : MethodName := ⟨RX4, "literalAt", "(I)LPhraseDesk$Value;"⟩
abbrev cX4_cut : ByteArray := prog_6_method_7_code
def yX4_cut : MethodName := ⟨RX4, "cut", "()I"⟩
abbrev cX4_token : ByteArray := prog_6_method_8_code
def yX4_token : MethodName := ⟨RX4, "token", "(I)I"⟩
abbrev cX4_number : ByteArray := prog_6_method_9_code
def yX4_number : MethodName := ⟨RX4, "number", "(I)I"⟩
abbrev cX4_endOfDigits : ByteArray := prog_6_method_10_code
def yX4_endOfDigits : MethodName := ⟨RX4, "endOfDigits", "(I)I"⟩
abbrev cX4_digits : ByteArray := prog_6_method_11_code
def yX4_digits : MethodName := ⟨RX4, "digits", "(III)I"⟩
abbrev cX4_name : ByteArray := prog_6_method_12_code
def yX4_name : MethodName := ⟨RX4, "name", "(I)I"⟩
abbrev cX4_quoted : ByteArray := prog_6_method_13_code
def yX4_quoted : MethodName := ⟨RX4, "quoted", "(I)I"⟩
abbrev cX4_sign : ByteArray := prog_6_method_14_code
def yX4_sign : MethodName := ⟨RX4, "sign", "(I)I"⟩
abbrev cX4_add : ByteArray := prog_6_method_15_code
def yX4_add : MethodName := ⟨RX4, "add", "(IIILPhraseDesk$Value;)V"⟩
abbrev cX4_peek : ByteArray := prog_6_method_16_code
def yX4_peek : MethodName := ⟨RX4, "peek", "(I)C"⟩
abbrev cX4_isDigit : ByteArray := prog_6_method_17_code
def yX4_isDigit : MethodName := ⟨RX4, "isDigit", "(C)Z"⟩
abbrev cX4_isLowerCase : ByteArray := prog_6_method_18_code
def yX4_isLowerCase : MethodName := ⟨RX4, "isLowerCase", "(C)Z"⟩
abbrev cX4_isPair : ByteArray := prog_6_method_19_code
def yX4_isPair : MethodName := ⟨RX4, "isPair", "(I)Z"⟩
abbrev cX4_isSingle : ByteArray := prog_6_method_20_code
def yX4_isSingle : MethodName := ⟨RX4, "isSingle", "(C)Z"⟩
def tyX5 : Nat → FieldType := fun k => match k with
  | 0 => .int
  | 1 => .int
  | 2 => .object "PhraseDesk$Value"
  | 3 => .object "PhraseDesk$Node"
  | 4 => .object "PhraseDesk$Node"
  | 5 => .object "PhraseDesk$Node"
  | 6 => .boolean
  | _ => .boolean
abbrev wsX50 : List Cond := u_ws RX5 TX5 8
theorem nmX5 : ∀ a, a < 8 → ∀ b, b < 8 → a ≠ b → (TX5 a).2.1 ≠ (TX5 b).2.1 := by decide +kernel
theorem tyX5_ok : ∀ k, k < 8 → parseFieldDescriptor (TX5 k).2.2.1 = some (tyX5 k) := by decide +kernel
abbrev cX5_init : ByteArray := prog_7_method_1_code
def yX5_init : MethodName := ⟨RX5, "<init>", "(IILPhraseDesk$Value;LPhraseDesk$Node;LPhraseDesk$Node;LPhraseDesk$Node;)V"⟩
abbrev cX5_ofLiteral : ByteArray := prog_7_method_2_code
def yX5_ofLiteral : MethodName := ⟨RX5, "ofLiteral", "(LPhraseDesk$Value;)LPhraseDesk$Node;"⟩
abbrev cX5_ofRoot : ByteArray := prog_7_method_3_code
def yX5_ofRoot : MethodName := ⟨RX5, "ofRoot", "()LPhraseDesk$Node;"⟩
abbrev cX5_ofVariable : ByteArray := prog_7_method_4_code
def yX5_ofVariable : MethodName := ⟨RX5, "ofVariable", "(I)LPhraseDesk$Node;"⟩
abbrev cX5_ofProperty : ByteArray := prog_7_method_5_code
def yX5_ofProperty : MethodName := ⟨RX5, "ofProperty", "(LPhraseDesk$Node;I)LPhraseDesk$Node;"⟩
abbrev cX5_ofCall : ByteArray := prog_7_method_6_code
def yX5_ofCall : MethodName := ⟨RX5, "ofCall", "(LPhraseDesk$Node;ILPhraseDesk$Node;LPhraseDesk$Node;)LPhraseDesk$Node;"⟩
abbrev cX5_ofOperator : ByteArray := prog_7_method_7_code
def yX5_ofOperator : MethodName := ⟨RX5, "ofOperator", "(ILPhraseDesk$Node;LPhraseDesk$Node;LPhraseDesk$Node;)LPhraseDesk$Node;"⟩
abbrev cX5_arguments : ByteArray := prog_7_method_8_code
def yX5_arguments : MethodName := ⟨RX5, "arguments", "()I"⟩
abbrev cX5_canBeSet : ByteArray := prog_7_method_9_code
def yX5_canBeSet : MethodName := ⟨RX5, "canBeSet", "()Z"⟩
def tyX6 : Nat → FieldType := fun k => match k with
  | 0 => .object "PhraseDesk$Lexer"
  | 1 => .int
  | 2 => .int
  | _ => .int
abbrev wsX60 : List Cond := u_ws RX6 TX6 4
theorem nmX6 : ∀ a, a < 4 → ∀ b, b < 4 → a ≠ b → (TX6 a).2.1 ≠ (TX6 b).2.1 := by decide +kernel
theorem tyX6_ok : ∀ k, k < 4 → parseFieldDescriptor (TX6 k).2.2.1 = some (tyX6 k) := by decide +kernel
abbrev cX6_init : ByteArray := prog_8_method_1_code
def yX6_init : MethodName := ⟨RX6, "<init>", "()V"⟩
abbrev cX6_read : ByteArray := prog_8_method_2_code
def yX6_read : MethodName := ⟨RX6, "read", "()LPhraseDesk$Node;"⟩
abbrev cX6_phrase : ByteArray := prog_8_method_3_code
def yX6_phrase : MethodName := ⟨RX6, "phrase", "()LPhraseDesk$Node;"⟩
abbrev cX6_choice : ByteArray := prog_8_method_4_code
def yX6_choice : MethodName := ⟨RX6, "choice", "(I)LPhraseDesk$Node;"⟩
abbrev cX6_chosen : ByteArray := prog_8_method_5_code
def yX6_chosen : MethodName := ⟨RX6, "chosen", "(LPhraseDesk$Node;I)LPhraseDesk$Node;"⟩
abbrev cX6_level : ByteArray := prog_8_method_6_code
def yX6_level : MethodName := ⟨RX6, "level", "(II)LPhraseDesk$Node;"⟩
abbrev cX6_levelOf : ByteArray := prog_8_method_7_code
def yX6_levelOf : MethodName := ⟨RX6, "levelOf", "(I)I"⟩
abbrev cX6_sign : ByteArray := prog_8_method_8_code
def yX6_sign : MethodName := ⟨RX6, "sign", "(I)LPhraseDesk$Node;"⟩
abbrev cX6_chain : ByteArray := prog_8_method_9_code
def yX6_chain : MethodName := ⟨RX6, "chain", "(I)LPhraseDesk$Node;"⟩
abbrev cX6_first : ByteArray := prog_8_method_10_code
def yX6_first : MethodName := ⟨RX6, "first", "(I)LPhraseDesk$Node;"⟩
abbrev cX6_bracketed : ByteArray := prog_8_method_11_code
def yX6_bracketed : MethodName := ⟨RX6, "bracketed", "(I)LPhraseDesk$Node;"⟩
abbrev cX6_named : ByteArray := prog_8_method_12_code
def yX6_named : MethodName := ⟨RX6, "named", "(I)LPhraseDesk$Node;"⟩
abbrev cX6_member : ByteArray := prog_8_method_13_code
def yX6_member : MethodName := ⟨RX6, "member", "(LPhraseDesk$Node;I)LPhraseDesk$Node;"⟩
abbrev cX6_kind : ByteArray := prog_8_method_14_code
def yX6_kind : MethodName := ⟨RX6, "kind", "()I"⟩
abbrev cX6_takes : ByteArray := prog_8_method_15_code
def yX6_takes : MethodName := ⟨RX6, "takes", "(I)Z"⟩
abbrev cX6_takeName : ByteArray := prog_8_method_16_code
def yX6_takeName : MethodName := ⟨RX6, "takeName", "()I"⟩
abbrev cX6_refuse : ByteArray := prog_8_method_17_code
def yX6_refuse : MethodName := ⟨RX6, "refuse", "(I)LPhraseDesk$Node;"⟩
def tyX7 : Nat → FieldType := fun k => match k with
  | 0 => .int
  | 1 => .int
  | 2 => .int
  | 3 => .int
  | 4 => .int
  | _ => .int
abbrev wsX70 : List Cond := u_ws RX7 TX7 6
theorem nmX7 : ∀ a, a < 6 → ∀ b, b < 6 → a ≠ b → (TX7 a).2.1 ≠ (TX7 b).2.1 := by decide +kernel
theorem tyX7_ok : ∀ k, k < 6 → parseFieldDescriptor (TX7 k).2.2.1 = some (tyX7 k) := by decide +kernel
abbrev cX7_init : ByteArray := prog_9_method_1_code
def yX7_init : MethodName := ⟨RX7, "<init>", "(IIIII)V"⟩
def tyX8 : Nat → FieldType := fun k => match k with
  | 0 => .object "PhraseDesk$Value"
  | 1 => .object "PhraseDesk$Converters"
  | 2 => .object "PhraseDesk$Finder"
  | 3 => .array .int
  | 4 => .array (.object "PhraseDesk$Value")
  | 5 => .int
  | 6 => .object "PhraseDesk$Value"
  | _ => .int
abbrev wsX80 : List Cond := u_ws RX8 TX8 8
theorem nmX8 : ∀ a, a < 8 → ∀ b, b < 8 → a ≠ b → (TX8 a).2.1 ≠ (TX8 b).2.1 := by decide +kernel
theorem tyX8_ok : ∀ k, k < 8 → parseFieldDescriptor (TX8 k).2.2.1 = some (tyX8 k) := by decide +kernel
abbrev cX8_init : ByteArray := prog_10_method_1_code
def yX8_init : MethodName := ⟨RX8, "<init>", "()V"⟩
abbrev cX8_begin : ByteArray := prog_10_method_2_code
def yX8_begin : MethodName := ⟨RX8, "begin", "(LPhraseDesk$Value;)V"⟩
abbrev cX8_fail : ByteArray := prog_10_method_3_code
def yX8_fail : MethodName := ⟨RX8, "fail", "(I)LPhraseDesk$Value;"⟩
abbrev cX8_eval : ByteArray := prog_10_method_4_code
def yX8_eval : MethodName := ⟨RX8, "eval", "(LPhraseDesk$Node;I)LPhraseDesk$Value;"⟩
abbrev cX8_property : ByteArray := prog_10_method_5_code
def yX8_property : MethodName := ⟨RX8, "property", "(LPhraseDesk$Value;IZ)LPhraseDesk$Value;"⟩
abbrev cX8_call : ByteArray := prog_10_method_6_code
def yX8_call : MethodName := ⟨RX8, "call", "(LPhraseDesk$Node;I)LPhraseDesk$Value;"⟩
abbrev cX8_act : ByteArray := prog_10_method_7_code
def yX8_act : MethodName := ⟨RX8, "act", "(LPhraseDesk$Routine;LPhraseDesk$Value;LPhraseDesk$Value;LPhraseDesk$Value;)LPhraseDesk$Value;"⟩
abbrev cX8_negative : ByteArray := prog_10_method_8_code
def yX8_negative : MethodName := ⟨RX8, "negative", "(LPhraseDesk$Value;)LPhraseDesk$Value;"⟩
abbrev cX8_opposite : ByteArray := prog_10_method_9_code
def yX8_opposite : MethodName := ⟨RX8, "opposite", "(LPhraseDesk$Value;)LPhraseDesk$Value;"⟩
abbrev cX8_logic : ByteArray := prog_10_method_10_code
def yX8_logic : MethodName := ⟨RX8, "logic", "(LPhraseDesk$Node;I)LPhraseDesk$Value;"⟩
abbrev cX8_chosen : ByteArray := prog_10_method_11_code
def yX8_chosen : MethodName := ⟨RX8, "chosen", "(LPhraseDesk$Node;I)LPhraseDesk$Value;"⟩
abbrev cX8_bool : ByteArray := prog_10_method_12_code
def yX8_bool : MethodName := ⟨RX8, "bool", "(LPhraseDesk$Value;)LPhraseDesk$Value;"⟩
abbrev cX8_orElse : ByteArray := prog_10_method_13_code
def yX8_orElse : MethodName := ⟨RX8, "orElse", "(LPhraseDesk$Node;I)LPhraseDesk$Value;"⟩
abbrev cX8_set : ByteArray := prog_10_method_14_code
def yX8_set : MethodName := ⟨RX8, "set", "(LPhraseDesk$Node;I)LPhraseDesk$Value;"⟩
abbrev cX8_setProperty : ByteArray := prog_10_method_15_code
def yX8_setProperty : MethodName := ⟨RX8, "setProperty", "(LPhraseDesk$Node;LPhraseDesk$Node;I)LPhraseDesk$Value;"⟩
abbrev cX8_setField : ByteArray := prog_10_method_16_code
def yX8_setField : MethodName := ⟨RX8, "setField", "(LPhraseDesk$Value;ILPhraseDesk$Value;)LPhraseDesk$Value;"⟩
abbrev cX8_fit : ByteArray := prog_10_method_17_code
def yX8_fit : MethodName := ⟨RX8, "fit", "(LPhraseDesk$Value;I)LPhraseDesk$Value;"⟩
abbrev cX8_combined : ByteArray := prog_10_method_18_code
def yX8_combined : MethodName := ⟨RX8, "combined", "(LPhraseDesk$Node;I)LPhraseDesk$Value;"⟩
abbrev cX8_areSame : ByteArray := prog_10_method_19_code
def yX8_areSame : MethodName := ⟨RX8, "areSame", "(LPhraseDesk$Value;LPhraseDesk$Value;)Z"⟩
abbrev cX8_compare : ByteArray := prog_10_method_20_code
def yX8_compare : MethodName := ⟨RX8, "compare", "(ILPhraseDesk$Value;LPhraseDesk$Value;)LPhraseDesk$Value;"⟩
abbrev cX8_add : ByteArray := prog_10_method_21_code
def yX8_add : MethodName := ⟨RX8, "add", "(LPhraseDesk$Value;LPhraseDesk$Value;)LPhraseDesk$Value;"⟩
abbrev cX8_joins : ByteArray := prog_10_method_22_code
def yX8_joins : MethodName := ⟨RX8, "joins", "(LPhraseDesk$Value;LPhraseDesk$Value;)Z"⟩
abbrev cX8_calculate : ByteArray := prog_10_method_23_code
def yX8_calculate : MethodName := ⟨RX8, "calculate", "(ILPhraseDesk$Value;LPhraseDesk$Value;)LPhraseDesk$Value;"⟩
abbrev cX8_ofInts : ByteArray := prog_10_method_24_code
def yX8_ofInts : MethodName := ⟨RX8, "ofInts", "(III)LPhraseDesk$Value;"⟩
abbrev cX8_ofReals : ByteArray := prog_10_method_25_code
def yX8_ofReals : MethodName := ⟨RX8, "ofReals", "(IDD)LPhraseDesk$Value;"⟩
abbrev cX8_variable : ByteArray := prog_10_method_26_code
def yX8_variable : MethodName := ⟨RX8, "variable", "(I)LPhraseDesk$Value;"⟩
abbrev cX8_setVariable : ByteArray := prog_10_method_27_code
def yX8_setVariable : MethodName := ⟨RX8, "setVariable", "(ILPhraseDesk$Value;)Z"⟩
def tyX9 : Nat → FieldType := fun k => match k with
  | 0 => .int
  | 1 => .object "PhraseDesk$Family"
  | _ => .array (.object "PhraseDesk$Value")
abbrev wsX90 : List Cond := u_ws RX9 TX9 3
theorem nmX9 : ∀ a, a < 3 → ∀ b, b < 3 → a ≠ b → (TX9 a).2.1 ≠ (TX9 b).2.1 := by decide +kernel
theorem tyX9_ok : ∀ k, k < 3 → parseFieldDescriptor (TX9 k).2.2.1 = some (tyX9 k) := by decide +kernel
abbrev cX9_init : ByteArray := prog_11_method_1_code
def yX9_init : MethodName := ⟨RX9, "<init>", "(ILPhraseDesk$Family;LPhraseDesk$Value;)V"⟩
abbrev cX9_valueOf : ByteArray := prog_11_method_2_code
def yX9_valueOf : MethodName := ⟨RX9, "valueOf", "(I)LPhraseDesk$Value;"⟩
abbrev cX9_hold : ByteArray := prog_11_method_3_code
def yX9_hold : MethodName := ⟨RX9, "hold", "(LPhraseDesk$Field;LPhraseDesk$Value;)V"⟩
def tyX10 : Nat → FieldType := fun k => match k with
  | 0 => .int
  | 1 => .int
  | 2 => .double
  | 3 => .object "java/lang/String"
  | _ => .object "PhraseDesk$Thing"
abbrev wsX100 : List Cond := u_ws RX10 TX10 5
theorem nmX10 : ∀ a, a < 5 → ∀ b, b < 5 → a ≠ b → (TX10 a).2.1 ≠ (TX10 b).2.1 := by decide +kernel
theorem tyX10_ok : ∀ k, k < 5 → parseFieldDescriptor (TX10 k).2.2.1 = some (tyX10 k) := by decide +kernel
abbrev cX10_init : ByteArray := prog_12_method_1_code
def yX10_init : MethodName := ⟨RX10, "<init>", "(IIDLjava/lang/String;LPhraseDesk$Thing;)V"⟩
abbrev cX10_ofNull : ByteArray := prog_12_method_2_code
def yX10_ofNull : MethodName := ⟨RX10, "ofNull", "()LPhraseDesk$Value;"⟩
abbrev cX10_ofBool : ByteArray := prog_12_method_3_code
def yX10_ofBool : MethodName := ⟨RX10, "ofBool", "(Z)LPhraseDesk$Value;"⟩
abbrev cX10_ofInt : ByteArray := prog_12_method_4_code
def yX10_ofInt : MethodName := ⟨RX10, "ofInt", "(I)LPhraseDesk$Value;"⟩
abbrev cX10_ofReal : ByteArray := prog_12_method_5_code
def yX10_ofReal : MethodName := ⟨RX10, "ofReal", "(D)LPhraseDesk$Value;"⟩
abbrev cX10_ofText : ByteArray := prog_12_method_6_code
def yX10_ofText : MethodName := ⟨RX10, "ofText", "(Ljava/lang/String;)LPhraseDesk$Value;"⟩
abbrev cX10_ofThing : ByteArray := prog_12_method_7_code
def yX10_ofThing : MethodName := ⟨RX10, "ofThing", "(LPhraseDesk$Thing;)LPhraseDesk$Value;"⟩
abbrev cX10_isNumber : ByteArray := prog_12_method_8_code
def yX10_isNumber : MethodName := ⟨RX10, "isNumber", "()Z"⟩
abbrev cX10_isTrue : ByteArray := prog_12_method_9_code
def yX10_isTrue : MethodName := ⟨RX10, "isTrue", "()Z"⟩
abbrev cX10_fits : ByteArray := prog_12_method_10_code
def yX10_fits : MethodName := ⟨RX10, "fits", "(I)Z"⟩
abbrev cX10_weight : ByteArray := prog_12_method_11_code
def yX10_weight : MethodName := ⟨RX10, "weight", "(I)I"⟩
abbrev cX10_stepsUpTo : ByteArray := prog_12_method_12_code
def yX10_stepsUpTo : MethodName := ⟨RX10, "stepsUpTo", "(I)I"⟩
def tyX11 : Nat → FieldType := fun k => match k with
  | 0 => .object "PhraseDesk$Parser"
  | 1 => .object "PhraseDesk$Runner"
  | 2 => .array (.object "PhraseDesk$Node")
  | 3 => .int
  | 4 => .array (.object "PhraseDesk$Family")
  | 5 => .int
  | 6 => .array (.object "PhraseDesk$Value")
  | 7 => .int
  | _ => .object "PhraseDesk$Value"
abbrev wsX110 : List Cond := u_ws RX11 TX11 9
theorem nmX11 : ∀ a, a < 9 → ∀ b, b < 9 → a ≠ b → (TX11 a).2.1 ≠ (TX11 b).2.1 := by decide +kernel
theorem tyX11_ok : ∀ k, k < 9 → parseFieldDescriptor (TX11 k).2.2.1 = some (tyX11 k) := by decide +kernel
abbrev cX11_init : ByteArray := prog_1_method_1_code
def yX11_init : MethodName := ⟨RX11, "<init>", "()V"⟩
abbrev cX11_letter : ByteArray := prog_1_method_2_code
def yX11_letter : MethodName := ⟨RX11, "letter", "(I)I"⟩
abbrev cX11_parse : ByteArray := prog_1_method_3_code
def yX11_parse : MethodName := ⟨RX11, "parse", "()I"⟩
abbrev cX11_type : ByteArray := prog_1_method_4_code
def yX11_type : MethodName := ⟨RX11, "type", "(I)I"⟩
abbrev cX11_field : ByteArray := prog_1_method_5_code
def yX11_field : MethodName := ⟨RX11, "field", "(III)I"⟩
abbrev cX11_method : ByteArray := prog_1_method_6_code
def yX11_method : MethodName := ⟨RX11, "method", "(IIIIII)I"⟩
abbrev cX11_make : ByteArray := prog_1_method_7_code
def yX11_make : MethodName := ⟨RX11, "make", "(I)I"⟩
abbrev cX11_converter : ByteArray := prog_1_method_8_code
def yX11_converter : MethodName := ⟨RX11, "converter", "(IIZ)Z"⟩
abbrev cX11_run : ByteArray := prog_1_method_9_code
def yX11_run : MethodName := ⟨RX11, "run", "(II)I"⟩
abbrev cX11_keep : ByteArray := prog_1_method_10_code
def yX11_keep : MethodName := ⟨RX11, "keep", "(I)I"⟩
abbrev cX11_result : ByteArray := prog_1_method_11_code
def yX11_result : MethodName := ⟨RX11, "result", "(I)I"⟩
abbrev cX11_text : ByteArray := prog_1_method_12_code
def yX11_text : MethodName := ⟨RX11, "text", "(I)I"⟩
abbrev cX11_put : ByteArray := prog_1_method_13_code
def yX11_put : MethodName := ⟨RX11, "put", "(II)I"⟩
abbrev cX11_about : ByteArray := prog_1_method_14_code
def yX11_about : MethodName := ⟨RX11, "about", "(I)I"⟩
abbrev cX11_familyAt : ByteArray := prog_1_method_15_code
def yX11_familyAt : MethodName := ⟨RX11, "familyAt", "(I)LPhraseDesk$Family;"⟩
abbrev cX11_objectAt : ByteArray := prog_1_method_16_code
def yX11_objectAt : MethodName := ⟨RX11, "objectAt", "(I)LPhraseDesk$Value;"⟩
abbrev cX11_isName : ByteArray := prog_1_method_17_code
def yX11_isName : MethodName := ⟨RX11, "isName", "(I)Z"⟩
abbrev cX11_isType : ByteArray := prog_1_method_18_code
def yX11_isType : MethodName := ⟨RX11, "isType", "(I)Z"⟩
abbrev cX11_areParameters : ByteArray := prog_1_method_19_code
def yX11_areParameters : MethodName := ⟨RX11, "areParameters", "(II)Z"⟩
def RJ5 : String := "java/lang/AbstractStringBuilder"
abbrev cJ5_init_d00df : ByteArray := prog_15_method_2_code
def yJ5_init_d00df : MethodName := ⟨RJ5, "<init>", "(I)V"⟩
abbrev cJ5_length_8abf5 : ByteArray := prog_15_method_6_code
def yJ5_length_8abf5 : MethodName := ⟨RJ5, "length", "()I"⟩
abbrev cJ5_ensureCapacityInternal_d00df : ByteArray := prog_15_method_9_code
def yJ5_ensureCapacityInternal_d00df : MethodName := ⟨RJ5, "ensureCapacityInternal", "(I)V"⟩
abbrev cJ5_newCapacity_0f7a4 : ByteArray := prog_15_method_10_code
def yJ5_newCapacity_0f7a4 : MethodName := ⟨RJ5, "newCapacity", "(I)I"⟩
abbrev cJ5_inflate_da8c8 : ByteArray := prog_15_method_11_code
def yJ5_inflate_da8c8 : MethodName := ⟨RJ5, "inflate", "()V"⟩
abbrev cJ5_setLength_d00df : ByteArray := prog_15_method_13_code
def yJ5_setLength_d00df : MethodName := ⟨RJ5, "setLength", "(I)V"⟩
abbrev cJ5_append_cf1ce : ByteArray := prog_15_method_22_code
def yJ5_append_cf1ce : MethodName := ⟨RJ5, "append", "(Ljava/lang/String;)Ljava/lang/AbstractStringBuilder;"⟩
abbrev cJ5_appendNull_278bc : ByteArray := prog_15_method_26_code
def yJ5_appendNull_278bc : MethodName := ⟨RJ5, "appendNull", "()Ljava/lang/AbstractStringBuilder;"⟩
abbrev cJ5_append_3fe6f : ByteArray := prog_15_method_31_code
def yJ5_append_3fe6f : MethodName := ⟨RJ5, "append", "(C)Ljava/lang/AbstractStringBuilder;"⟩
abbrev cJ5_append_c97b9 : ByteArray := prog_15_method_32_code
def yJ5_append_c97b9 : MethodName := ⟨RJ5, "append", "(I)Ljava/lang/AbstractStringBuilder;"⟩
abbrev cJ5_getValue_6d5f1 : ByteArray := prog_15_method_64_code
def yJ5_getValue_6d5f1 : MethodName := ⟨RJ5, "getValue", "()[B"⟩
abbrev cJ5_isLatin1_aae02 : ByteArray := prog_15_method_68_code
def yJ5_isLatin1_aae02 : MethodName := ⟨RJ5, "isLatin1", "()Z"⟩
abbrev cJ5_inflateIfNeededFor_a7421 : ByteArray := prog_15_method_71_code
def yJ5_inflateIfNeededFor_a7421 : MethodName := ⟨RJ5, "inflateIfNeededFor", "(Ljava/lang/String;)V"⟩
abbrev cJ5_putStringAt_47b60 : ByteArray := prog_15_method_73_code
def yJ5_putStringAt_47b60 : MethodName := ⟨RJ5, "putStringAt", "(ILjava/lang/String;)V"⟩
def RJ6 : String := "java/lang/Integer"
abbrev cJ6_getChars_ba4f3 : ByteArray := prog_20_method_12_code
def yJ6_getChars_ba4f3 : MethodName := ⟨RJ6, "getChars", "(II[B)I"⟩
abbrev cJ6_stringSize_0f7a4 : ByteArray := prog_20_method_13_code
def yJ6_stringSize_0f7a4 : MethodName := ⟨RJ6, "stringSize", "(I)I"⟩
def RJ9 : String := "java/lang/Math"
abbrev cJ9_max_7cf53 : ByteArray := prog_21_method_65_code
def yJ9_max_7cf53 : MethodName := ⟨RJ9, "max", "(II)I"⟩
abbrev cJ9_min_7cf53 : ByteArray := prog_21_method_69_code
def yJ9_min_7cf53 : MethodName := ⟨RJ9, "min", "(II)I"⟩
def tyJ0 : Nat → FieldType := fun k => match k with
  | 0 => .array .byte
  | 1 => .byte
  | 2 => .int
  | _ => .boolean
abbrev wsJ00 : List Cond := u_ws RJ0 TJ0 4
theorem nmJ0 : ∀ a, a < 4 → ∀ b, b < 4 → a ≠ b → (TJ0 a).2.1 ≠ (TJ0 b).2.1 := by decide +kernel
theorem tyJ0_ok : ∀ k, k < 4 → parseFieldDescriptor (TJ0 k).2.2.1 = some (tyJ0 k) := by decide +kernel
abbrev cJ0_init_81219 : ByteArray := prog_23_method_53_code
def yJ0_init_81219 : MethodName := ⟨RJ0, "<init>", "(Ljava/lang/StringBuilder;)V"⟩
abbrev cJ0_length_8abf5 : ByteArray := prog_23_method_54_code
def yJ0_length_8abf5 : MethodName := ⟨RJ0, "length", "()I"⟩
abbrev cJ0_isEmpty_aae02 : ByteArray := prog_23_method_55_code
def yJ0_isEmpty_aae02 : MethodName := ⟨RJ0, "isEmpty", "()Z"⟩
abbrev cJ0_charAt_5068e : ByteArray := prog_23_method_56_code
def yJ0_charAt_5068e : MethodName := ⟨RJ0, "charAt", "(I)C"⟩
abbrev cJ0_equals_9ea2d : ByteArray := prog_23_method_66_code
def yJ0_equals_9ea2d : MethodName := ⟨RJ0, "equals", "(Ljava/lang/Object;)Z"⟩
abbrev cJ0_getBytes_840e7 : ByteArray := prog_23_method_147_code
def yJ0_getBytes_840e7 : MethodName := ⟨RJ0, "getBytes", "([BIB)V"⟩
abbrev cJ0_init_db425 : ByteArray := prog_23_method_150_code
def yJ0_init_db425 : MethodName := ⟨RJ0, "<init>", "(Ljava/lang/AbstractStringBuilder;Ljava/lang/Void;)V"⟩
abbrev cJ0_coder_7d493 : ByteArray := prog_23_method_152_code
def yJ0_coder_7d493 : MethodName := ⟨RJ0, "coder", "()B"⟩
abbrev cJ0_isLatin1_aae02 : ByteArray := prog_23_method_154_code
def yJ0_isLatin1_aae02 : MethodName := ⟨RJ0, "isLatin1", "()Z"⟩
abbrev cJ0_checkIndex_df160 : ByteArray := prog_23_method_155_code
def yJ0_checkIndex_df160 : MethodName := ⟨RJ0, "checkIndex", "(II)V"⟩
abbrev cJ0_checkBoundsOffCount_cabcc : ByteArray := prog_23_method_157_code
def yJ0_checkBoundsOffCount_cabcc : MethodName := ⟨RJ0, "checkBoundsOffCount", "(III)I"⟩
abbrev cJ0_checkBoundsBeginEnd_23922 : ByteArray := prog_23_method_158_code
def yJ0_checkBoundsBeginEnd_23922 : MethodName := ⟨RJ0, "checkBoundsBeginEnd", "(III)V"⟩
def tyJ4 : Nat → FieldType := fun k => match k with
  | 0 => .array .byte
  | 1 => .byte
  | 2 => .boolean
  | _ => .int
abbrev wsJ40 : List Cond := u_ws RJ4 TJ4 4
theorem nmJ4 : ∀ a, a < 4 → ∀ b, b < 4 → a ≠ b → (TJ4 a).2.1 ≠ (TJ4 b).2.1 := by decide +kernel
theorem tyJ4_ok : ∀ k, k < 4 → parseFieldDescriptor (TJ4 k).2.2.1 = some (tyJ4 k) := by decide +kernel
abbrev cJ4_init_da8c8 : ByteArray := prog_24_method_1_code
def yJ4_init_da8c8 : MethodName := ⟨RJ4, "<init>", "()V"⟩
abbrev cJ4_append_15ec4 : ByteArray := prog_24_method_7_code
def yJ4_append_15ec4 : MethodName := ⟨RJ4, "append", "(Ljava/lang/String;)Ljava/lang/StringBuilder;"⟩
abbrev cJ4_append_cf468 : ByteArray := prog_24_method_14_code
def yJ4_append_cf468 : MethodName := ⟨RJ4, "append", "(C)Ljava/lang/StringBuilder;"⟩
abbrev cJ4_append_bf812 : ByteArray := prog_24_method_15_code
def yJ4_append_bf812 : MethodName := ⟨RJ4, "append", "(I)Ljava/lang/StringBuilder;"⟩
abbrev cJ4_toString_0e30d : ByteArray := prog_24_method_42_code
def yJ4_toString_0e30d : MethodName := ⟨RJ4, "toString", "()Ljava/lang/String;"⟩
abbrev cJ4_setLength_d00df : ByteArray := prog_24_method_89_code
def yJ4_setLength_d00df : MethodName := ⟨RJ4, "setLength", "(I)V"⟩
abbrev cJ4_length_8abf5 : ByteArray := prog_24_method_93_code
def yJ4_length_8abf5 : MethodName := ⟨RJ4, "length", "()I"⟩
def RJ1 : String := "java/lang/StringLatin1"
abbrev cJ1_charAt_3b067 : ByteArray := prog_25_method_2_code
def yJ1_charAt_3b067 : MethodName := ⟨RJ1, "charAt", "([BI)C"⟩
abbrev cJ1_canEncode_fc78d : ByteArray := prog_25_method_3_code
def yJ1_canEncode_fc78d : MethodName := ⟨RJ1, "canEncode", "(C)Z"⟩
abbrev cJ1_equals_b5fdf : ByteArray := prog_25_method_13_code
def yJ1_equals_b5fdf : MethodName := ⟨RJ1, "equals", "([B[B)Z"⟩
abbrev cJ1_fillNull_b72d1 : ByteArray := prog_25_method_48_code
def yJ1_fillNull_b72d1 : MethodName := ⟨RJ1, "fillNull", "([BII)V"⟩
abbrev cJ1_inflate_0e8fd : ByteArray := prog_25_method_50_code
def yJ1_inflate_0e8fd : MethodName := ⟨RJ1, "inflate", "([BI[BII)V"⟩
def RJ2 : String := "java/lang/StringUTF16"
abbrev cJ2_newBytesFor_77867 : ByteArray := prog_26_method_2_code
def yJ2_newBytesFor_77867 : MethodName := ⟨RJ2, "newBytesFor", "(I)[B"⟩
abbrev cJ2_newBytesLength_0f7a4 : ByteArray := prog_26_method_3_code
def yJ2_newBytesLength_0f7a4 : MethodName := ⟨RJ2, "newBytesLength", "(I)I"⟩
abbrev cJ2_putChar_b72d1 : ByteArray := prog_26_method_4_code
def yJ2_putChar_b72d1 : MethodName := ⟨RJ2, "putChar", "([BII)V"⟩
abbrev cJ2_getChar_3b067 : ByteArray := prog_26_method_5_code
def yJ2_getChar_3b067 : MethodName := ⟨RJ2, "getChar", "([BI)C"⟩
abbrev cJ2_length_9d52b : ByteArray := prog_26_method_6_code
def yJ2_length_9d52b : MethodName := ⟨RJ2, "length", "([B)I"⟩
abbrev cJ2_coderFromArrayLen_85cad : ByteArray := prog_26_method_15_code
def yJ2_coderFromArrayLen_85cad : MethodName := ⟨RJ2, "coderFromArrayLen", "([BI)B"⟩
abbrev cJ2_compress_39247 : ByteArray := prog_26_method_17_code
def yJ2_compress_39247 : MethodName := ⟨RJ2, "compress", "([BII)[B"⟩
abbrev cJ2_compress_5af95 : ByteArray := prog_26_method_22_code
def yJ2_compress_5af95 : MethodName := ⟨RJ2, "compress", "([BI[BII)I"⟩
abbrev cJ2_fillNull_b72d1 : ByteArray := prog_26_method_70_code
def yJ2_fillNull_b72d1 : MethodName := ⟨RJ2, "fillNull", "([BII)V"⟩
abbrev cJ2_putCharSB_b72d1 : ByteArray := prog_26_method_71_code
def yJ2_putCharSB_b72d1 : MethodName := ⟨RJ2, "putCharSB", "([BII)V"⟩
abbrev cJ2_getChars_46870 : ByteArray := prog_26_method_77_code
def yJ2_getChars_46870 : MethodName := ⟨RJ2, "getChars", "(III[B)I"⟩
abbrev cJ2_putCharsAt_cd4e5 : ByteArray := prog_26_method_81_code
def yJ2_putCharsAt_cd4e5 : MethodName := ⟨RJ2, "putCharsAt", "([BICCCC)I"⟩
abbrev cJ2_charAt_3b067 : ByteArray := prog_26_method_83_code
def yJ2_charAt_3b067 : MethodName := ⟨RJ2, "charAt", "([BI)C"⟩
abbrev cJ2_inflate_0e8fd : ByteArray := prog_26_method_86_code
def yJ2_inflate_0e8fd : MethodName := ⟨RJ2, "inflate", "([BI[BII)V"⟩
abbrev cJ2_getChars_ba4f3 : ByteArray := prog_26_method_89_code
def yJ2_getChars_ba4f3 : MethodName := ⟨RJ2, "getChars", "(II[B)I"⟩
abbrev cJ2_checkIndex_2214a : ByteArray := prog_26_method_91_code
def yJ2_checkIndex_2214a : MethodName := ⟨RJ2, "checkIndex", "(I[B)V"⟩
abbrev cJ2_checkBoundsBeginEnd_d044e : ByteArray := prog_26_method_93_code
def yJ2_checkBoundsBeginEnd_d044e : MethodName := ⟨RJ2, "checkBoundsBeginEnd", "(II[B)V"⟩
abbrev cJ2_checkBoundsOffCount_d044e : ByteArray := prog_26_method_94_code
def yJ2_checkBoundsOffCount_d044e : MethodName := ⟨RJ2, "checkBoundsOffCount", "(II[B)V"⟩
def RJ7 : String := "java/util/Arrays"
abbrev cJ7_rangeCheck_23922 : ByteArray := prog_29_method_30_code
def yJ7_rangeCheck_23922 : MethodName := ⟨RJ7, "rangeCheck", "(III)V"⟩
abbrev cJ7_fill_eb02e : ByteArray := prog_29_method_110_code
def yJ7_fill_eb02e : MethodName := ⟨RJ7, "fill", "([BIIB)V"⟩
abbrev cJ7_copyOf_9075b : ByteArray := prog_29_method_121_code
def yJ7_copyOf_9075b : MethodName := ⟨RJ7, "copyOf", "([BI)[B"⟩
abbrev cJ7_checkLength_df160 : ByteArray := prog_29_method_131_code
def yJ7_checkLength_df160 : MethodName := ⟨RJ7, "checkLength", "(II)V"⟩
abbrev cJ7_copyOfRange_39247 : ByteArray := prog_29_method_132_code
def yJ7_copyOfRange_39247 : MethodName := ⟨RJ7, "copyOfRange", "([BII)[B"⟩
abbrev cJ7_copyOfRangeByte_39247 : ByteArray := prog_29_method_133_code
def yJ7_copyOfRangeByte_39247 : MethodName := ⟨RJ7, "copyOfRangeByte", "([BII)[B"⟩
def RJ8 : String := "jdk/internal/util/ArraysSupport"
abbrev cJ8_newLength_cabcc : ByteArray := prog_30_method_27_code
def yJ8_newLength_cabcc : MethodName := ⟨RJ8, "newLength", "(III)I"⟩
abbrev cJ8_hugeLength_7cf53 : ByteArray := prog_30_method_28_code
def yJ8_hugeLength_7cf53 : MethodName := ⟨RJ8, "hugeLength", "(II)I"⟩
def RJ3 : String := "jdk/internal/util/Preconditions"
abbrev cJ3_checkIndex_8e157 : ByteArray := prog_31_method_11_code
def yJ3_checkIndex_8e157 : MethodName := ⟨RJ3, "checkIndex", "(IILjava/util/function/BiFunction;)I"⟩
abbrev cJ3_checkFromToIndex_8c36e : ByteArray := prog_31_method_12_code
def yJ3_checkFromToIndex_8c36e : MethodName := ⟨RJ3, "checkFromToIndex", "(IIILjava/util/function/BiFunction;)I"⟩
abbrev cJ3_checkFromIndexSize_8c36e : ByteArray := prog_31_method_13_code
def yJ3_checkFromIndexSize_8c36e : MethodName := ⟨RJ3, "checkFromIndexSize", "(IIILjava/util/function/BiFunction;)I"⟩
def RL : String := "PhraseDeskLaw"
theorem dX0_init_0 : decode cX0_init 0 = .ok (.aload_n 0, 1) := by decide +kernel
theorem dX0_init_1 : decode cX0_init 1 = .ok (.invokespecial 3, 3) := by decide +kernel
theorem dX0_init_4 : decode cX0_init 4 = .ok (.aload_n 0, 1) := by decide +kernel
theorem dX0_init_5 : decode cX0_init 5 = .ok (.bipush 65, 2) := by decide +kernel
theorem dX0_init_7 : decode cX0_init 7 = .ok (.newarray .boolean, 2) := by decide +kernel
theorem dX0_init_9 : decode cX0_init 9 = .ok (.putfield 11, 3) := by decide +kernel
theorem dX0_init_12 : decode cX0_init 12 = .ok (.aload_n 0, 1) := by decide +kernel
theorem dX0_init_13 : decode cX0_init 13 = .ok (.new 15, 3) := by decide +kernel
theorem dX0_init_16 : decode cX0_init 16 = .ok (.dup, 1) := by decide +kernel
theorem dX0_init_17 : decode cX0_init 17 = .ok (.invokespecial 17, 3) := by decide +kernel
theorem dX0_init_20 : decode cX0_init 20 = .ok (.putfield 18, 3) := by decide +kernel
theorem dX0_init_23 : decode cX0_init 23 = .ok (.return_, 1) := by decide +kernel
theorem dX0_change_0 : decode cX0_change 0 = .ok (.aload_n 0, 1) := by decide +kernel
theorem dX0_change_1 : decode cX0_change 1 = .ok (.iload_n 1, 1) := by decide +kernel
theorem dX0_change_2 : decode cX0_change 2 = .ok (.iload_n 2, 1) := by decide +kernel
theorem dX0_change_3 : decode cX0_change 3 = .ok (.invokevirtual 22, 3) := by decide +kernel
theorem dX0_change_6 : decode cX0_change 6 = .ok (.istore 4, 2) := by decide +kernel
theorem dX0_change_8 : decode cX0_change 8 = .ok (.iload_n 1, 1) := by decide +kernel
theorem dX0_change_9 : decode cX0_change 9 = .ok (.iconst 5, 1) := by decide +kernel
theorem dX0_change_10 : decode cX0_change 10 = .ok (.imul, 1) := by decide +kernel
theorem dX0_change_11 : decode cX0_change 11 = .ok (.iload_n 2, 1) := by decide +kernel
theorem dX0_change_12 : decode cX0_change 12 = .ok (.iadd, 1) := by decide +kernel
theorem dX0_change_13 : decode cX0_change 13 = .ok (.istore 5, 2) := by decide +kernel
theorem dX0_change_15 : decode cX0_change 15 = .ok (.iload 5, 2) := by decide +kernel
theorem dX0_change_17 : decode cX0_change 17 = .ok (.ifCond .lt 21, 3) := by decide +kernel
theorem dX0_change_20 : decode cX0_change 20 = .ok (.iload 5, 2) := by decide +kernel
theorem dX0_change_22 : decode cX0_change 22 = .ok (.aload_n 0, 1) := by decide +kernel
theorem dX0_change_23 : decode cX0_change 23 = .ok (.getfield 11, 3) := by decide +kernel
theorem dX0_change_26 : decode cX0_change 26 = .ok (.arraylength, 1) := by decide +kernel
theorem dX0_change_27 : decode cX0_change 27 = .ok (.if_icmp .ge 11, 3) := by decide +kernel
theorem dX0_change_30 : decode cX0_change 30 = .ok (.aload_n 0, 1) := by decide +kernel
theorem dX0_change_31 : decode cX0_change 31 = .ok (.getfield 11, 3) := by decide +kernel
theorem dX0_change_34 : decode cX0_change 34 = .ok (.iload 5, 2) := by decide +kernel
theorem dX0_change_36 : decode cX0_change 36 = .ok (.iload_n 3, 1) := by decide +kernel
theorem dX0_change_37 : decode cX0_change 37 = .ok (.bastore, 1) := by decide +kernel
theorem dX0_change_38 : decode cX0_change 38 = .ok (.iload 4, 2) := by decide +kernel
theorem dX0_change_40 : decode cX0_change 40 = .ok (.ireturn, 1) := by decide +kernel
theorem dX0_isThere_0 : decode cX0_isThere 0 = .ok (.iload_n 1, 1) := by decide +kernel
theorem dX0_isThere_1 : decode cX0_isThere 1 = .ok (.iconst 5, 1) := by decide +kernel
theorem dX0_isThere_2 : decode cX0_isThere 2 = .ok (.imul, 1) := by decide +kernel
theorem dX0_isThere_3 : decode cX0_isThere 3 = .ok (.iload_n 2, 1) := by decide +kernel
theorem dX0_isThere_4 : decode cX0_isThere 4 = .ok (.iadd, 1) := by decide +kernel
theorem dX0_isThere_5 : decode cX0_isThere 5 = .ok (.istore_n 3, 1) := by decide +kernel
theorem dX0_isThere_6 : decode cX0_isThere 6 = .ok (.iload_n 2, 1) := by decide +kernel
theorem dX0_isThere_7 : decode cX0_isThere 7 = .ok (.iconst 1, 1) := by decide +kernel
theorem dX0_isThere_8 : decode cX0_isThere 8 = .ok (.if_icmp .lt 34, 3) := by decide +kernel
theorem dX0_isThere_11 : decode cX0_isThere 11 = .ok (.iload_n 2, 1) := by decide +kernel
theorem dX0_isThere_12 : decode cX0_isThere 12 = .ok (.iconst 4, 1) := by decide +kernel
theorem dX0_isThere_13 : decode cX0_isThere 13 = .ok (.if_icmp .gt 29, 3) := by decide +kernel
theorem dX0_isThere_16 : decode cX0_isThere 16 = .ok (.iload_n 3, 1) := by decide +kernel
theorem dX0_isThere_17 : decode cX0_isThere 17 = .ok (.ifCond .lt 25, 3) := by decide +kernel
theorem dX0_isThere_20 : decode cX0_isThere 20 = .ok (.iload_n 3, 1) := by decide +kernel
theorem dX0_isThere_21 : decode cX0_isThere 21 = .ok (.aload_n 0, 1) := by decide +kernel
theorem dX0_isThere_22 : decode cX0_isThere 22 = .ok (.getfield 11, 3) := by decide +kernel
theorem dX0_isThere_25 : decode cX0_isThere 25 = .ok (.arraylength, 1) := by decide +kernel
theorem dX0_isThere_26 : decode cX0_isThere 26 = .ok (.if_icmp .ge 16, 3) := by decide +kernel
theorem dX0_isThere_29 : decode cX0_isThere 29 = .ok (.aload_n 0, 1) := by decide +kernel
theorem dX0_isThere_30 : decode cX0_isThere 30 = .ok (.getfield 11, 3) := by decide +kernel
theorem dX0_isThere_33 : decode cX0_isThere 33 = .ok (.iload_n 3, 1) := by decide +kernel
theorem dX0_isThere_34 : decode cX0_isThere 34 = .ok (.baload, 1) := by decide +kernel
theorem dX0_isThere_35 : decode cX0_isThere 35 = .ok (.ifCond .eq 7, 3) := by decide +kernel
theorem dX0_isThere_38 : decode cX0_isThere 38 = .ok (.iconst 1, 1) := by decide +kernel
theorem dX0_isThere_39 : decode cX0_isThere 39 = .ok (.goto 4, 3) := by decide +kernel
theorem dX0_isThere_42 : decode cX0_isThere 42 = .ok (.iconst 0, 1) := by decide +kernel
theorem dX0_isThere_43 : decode cX0_isThere 43 = .ok (.ireturn, 1) := by decide +kernel
theorem dX0_suit_0 : decode cX0_suit 0 = .ok (.aload_n 1, 1) := by decide +kernel
theorem dX0_suit_1 : decode cX0_suit 1 = .ok (.iload_n 2, 1) := by decide +kernel
theorem dX0_suit_2 : decode cX0_suit 2 = .ok (.invokevirtual 26, 3) := by decide +kernel
theorem dX0_suit_5 : decode cX0_suit 5 = .ok (.ifCond .ne 12, 3) := by decide +kernel
theorem dX0_suit_8 : decode cX0_suit 8 = .ok (.aload_n 0, 1) := by decide +kernel
theorem dX0_suit_9 : decode cX0_suit 9 = .ok (.aload_n 1, 1) := by decide +kernel
theorem dX0_suit_10 : decode cX0_suit 10 = .ok (.iload_n 2, 1) := by decide +kernel
theorem dX0_suit_11 : decode cX0_suit 11 = .ok (.invokevirtual 32, 3) := by decide +kernel
theorem dX0_suit_14 : decode cX0_suit 14 = .ok (.ifCond .eq 7, 3) := by decide +kernel
theorem dX0_suit_17 : decode cX0_suit 17 = .ok (.iconst 1, 1) := by decide +kernel
theorem dX0_suit_18 : decode cX0_suit 18 = .ok (.goto 4, 3) := by decide +kernel
theorem dX0_suit_21 : decode cX0_suit 21 = .ok (.iconst 0, 1) := by decide +kernel
theorem dX0_suit_22 : decode cX0_suit 22 = .ok (.ireturn, 1) := by decide +kernel
theorem dX0_reach_0 : decode cX0_reach 0 = .ok (.aload_n 0, 1) := by decide +kernel
theorem dX0_reach_1 : decode cX0_reach 1 = .ok (.iconst 5, 1) := by decide +kernel
theorem dX0_reach_2 : decode cX0_reach 2 = .ok (.iload_n 2, 1) := by decide +kernel
theorem dX0_reach_3 : decode cX0_reach 3 = .ok (.invokevirtual 22, 3) := by decide +kernel
theorem dX0_reach_6 : decode cX0_reach 6 = .ok (.ifCond .ne 15, 3) := by decide +kernel
theorem dX0_reach_9 : decode cX0_reach 9 = .ok (.aload_n 0, 1) := by decide +kernel
theorem dX0_reach_10 : decode cX0_reach 10 = .ok (.aload_n 1, 1) := by decide +kernel
theorem dX0_reach_11 : decode cX0_reach 11 = .ok (.getfield 36, 3) := by decide +kernel
theorem dX0_reach_14 : decode cX0_reach 14 = .ok (.iload_n 2, 1) := by decide +kernel
theorem dX0_reach_15 : decode cX0_reach 15 = .ok (.invokevirtual 22, 3) := by decide +kernel
theorem dX0_reach_18 : decode cX0_reach 18 = .ok (.ifCond .eq 5, 3) := by decide +kernel
theorem dX0_reach_21 : decode cX0_reach 21 = .ok (.iconst 1, 1) := by decide +kernel
theorem dX0_reach_22 : decode cX0_reach 22 = .ok (.ireturn, 1) := by decide +kernel
theorem dX0_reach_23 : decode cX0_reach 23 = .ok (.aload_n 1, 1) := by decide +kernel
theorem dX0_reach_24 : decode cX0_reach 24 = .ok (.getfield 40, 3) := by decide +kernel
theorem dX0_reach_27 : decode cX0_reach 27 = .ok (.ifnonnull 7, 3) := by decide +kernel
theorem dX0_reach_30 : decode cX0_reach 30 = .ok (.aconst_null, 1) := by decide +kernel
theorem dX0_reach_31 : decode cX0_reach 31 = .ok (.goto 13, 3) := by decide +kernel
theorem dX0_reach_34 : decode cX0_reach 34 = .ok (.aload_n 1, 1) := by decide +kernel
theorem dX0_reach_35 : decode cX0_reach 35 = .ok (.getfield 40, 3) := by decide +kernel
theorem dX0_reach_38 : decode cX0_reach 38 = .ok (.getfield 44, 3) := by decide +kernel
theorem dX0_reach_41 : decode cX0_reach 41 = .ok (.getfield 50, 3) := by decide +kernel
theorem dX0_reach_44 : decode cX0_reach 44 = .ok (.astore_n 3, 1) := by decide +kernel
theorem dX0_reach_45 : decode cX0_reach 45 = .ok (.aload_n 3, 1) := by decide +kernel
theorem dX0_reach_46 : decode cX0_reach 46 = .ok (.ifnull 25, 3) := by decide +kernel
theorem dX0_reach_49 : decode cX0_reach 49 = .ok (.aload_n 0, 1) := by decide +kernel
theorem dX0_reach_50 : decode cX0_reach 50 = .ok (.aload_n 3, 1) := by decide +kernel
theorem dX0_reach_51 : decode cX0_reach 51 = .ok (.getfield 55, 3) := by decide +kernel
theorem dX0_reach_54 : decode cX0_reach 54 = .ok (.iload_n 2, 1) := by decide +kernel
theorem dX0_reach_55 : decode cX0_reach 55 = .ok (.invokevirtual 22, 3) := by decide +kernel
theorem dX0_reach_58 : decode cX0_reach 58 = .ok (.ifCond .eq 5, 3) := by decide +kernel
theorem dX0_reach_61 : decode cX0_reach 61 = .ok (.iconst 1, 1) := by decide +kernel
theorem dX0_reach_62 : decode cX0_reach 62 = .ok (.ireturn, 1) := by decide +kernel
theorem dX0_reach_63 : decode cX0_reach 63 = .ok (.aload_n 3, 1) := by decide +kernel
theorem dX0_reach_64 : decode cX0_reach 64 = .ok (.getfield 50, 3) := by decide +kernel
theorem dX0_reach_67 : decode cX0_reach 67 = .ok (.astore_n 3, 1) := by decide +kernel
theorem dX0_reach_68 : decode cX0_reach 68 = .ok (.goto (-23), 3) := by decide +kernel
theorem dX0_reach_71 : decode cX0_reach 71 = .ok (.iconst 0, 1) := by decide +kernel
theorem dX0_reach_72 : decode cX0_reach 72 = .ok (.ireturn, 1) := by decide +kernel
theorem dX0_convert_0 : decode cX0_convert 0 = .ok (.aload_n 1, 1) := by decide +kernel
theorem dX0_convert_1 : decode cX0_convert 1 = .ok (.getfield 36, 3) := by decide +kernel
theorem dX0_convert_4 : decode cX0_convert 4 = .ok (.iload_n 2, 1) := by decide +kernel
theorem dX0_convert_5 : decode cX0_convert 5 = .ok (.if_icmp .ne 5, 3) := by decide +kernel
theorem dX0_convert_8 : decode cX0_convert 8 = .ok (.aload_n 1, 1) := by decide +kernel
theorem dX0_convert_9 : decode cX0_convert 9 = .ok (.areturn, 1) := by decide +kernel
theorem dX0_convert_10 : decode cX0_convert 10 = .ok (.iload_n 2, 1) := by decide +kernel
theorem dX0_convert_11 : decode cX0_convert 11 = .ok (.tableswitch 57 1 3 #[25, 30, 35], 25) := by decide +kernel
theorem dX0_convert_36 : decode cX0_convert 36 = .ok (.aload_n 1, 1) := by decide +kernel
theorem dX0_convert_37 : decode cX0_convert 37 = .ok (.invokestatic 56, 3) := by decide +kernel
theorem dX0_convert_40 : decode cX0_convert 40 = .ok (.areturn, 1) := by decide +kernel
theorem dX0_convert_41 : decode cX0_convert 41 = .ok (.aload_n 1, 1) := by decide +kernel
theorem dX0_convert_42 : decode cX0_convert 42 = .ok (.invokestatic 60, 3) := by decide +kernel
theorem dX0_convert_45 : decode cX0_convert 45 = .ok (.areturn, 1) := by decide +kernel
theorem dX0_convert_46 : decode cX0_convert 46 = .ok (.aload_n 1, 1) := by decide +kernel
theorem dX0_convert_47 : decode cX0_convert 47 = .ok (.invokestatic 60, 3) := by decide +kernel
theorem dX0_convert_50 : decode cX0_convert 50 = .ok (.astore_n 3, 1) := by decide +kernel
theorem dX0_convert_51 : decode cX0_convert 51 = .ok (.aload_n 3, 1) := by decide +kernel
theorem dX0_convert_52 : decode cX0_convert 52 = .ok (.ifnonnull 7, 3) := by decide +kernel
theorem dX0_convert_55 : decode cX0_convert 55 = .ok (.aconst_null, 1) := by decide +kernel
theorem dX0_convert_56 : decode cX0_convert 56 = .ok (.goto 11, 3) := by decide +kernel
theorem dX0_convert_59 : decode cX0_convert 59 = .ok (.aload_n 3, 1) := by decide +kernel
theorem dX0_convert_60 : decode cX0_convert 60 = .ok (.getfield 63, 3) := by decide +kernel
theorem dX0_convert_63 : decode cX0_convert 63 = .ok (.i2d, 1) := by decide +kernel
theorem dX0_convert_64 : decode cX0_convert 64 = .ok (.invokestatic 66, 3) := by decide +kernel
theorem dX0_convert_67 : decode cX0_convert 67 = .ok (.areturn, 1) := by decide +kernel
theorem dX0_convert_68 : decode cX0_convert 68 = .ok (.aload_n 0, 1) := by decide +kernel
theorem dX0_convert_69 : decode cX0_convert 69 = .ok (.aload_n 1, 1) := by decide +kernel
theorem dX0_convert_70 : decode cX0_convert 70 = .ok (.invokevirtual 70, 3) := by decide +kernel
theorem dX0_convert_73 : decode cX0_convert 73 = .ok (.invokestatic 74, 3) := by decide +kernel
theorem dX0_convert_76 : decode cX0_convert 76 = .ok (.areturn, 1) := by decide +kernel
theorem dX0_toBool_0 : decode cX0_toBool 0 = .ok (.aload_n 0, 1) := by decide +kernel
theorem dX0_toBool_1 : decode cX0_toBool 1 = .ok (.getfield 36, 3) := by decide +kernel
theorem dX0_toBool_4 : decode cX0_toBool 4 = .ok (.iconst 4, 1) := by decide +kernel
theorem dX0_toBool_5 : decode cX0_toBool 5 = .ok (.if_icmp .ne 38, 3) := by decide +kernel
theorem dX0_toBool_8 : decode cX0_toBool 8 = .ok (.aload_n 0, 1) := by decide +kernel
theorem dX0_toBool_9 : decode cX0_toBool 9 = .ok (.getfield 78, 3) := by decide +kernel
theorem dX0_toBool_12 : decode cX0_toBool 12 = .ok (.ldc 82, 2) := by decide +kernel
theorem dX0_toBool_14 : decode cX0_toBool 14 = .ok (.invokevirtual 84, 3) := by decide +kernel
theorem dX0_toBool_17 : decode cX0_toBool 17 = .ok (.istore_n 1, 1) := by decide +kernel
theorem dX0_toBool_18 : decode cX0_toBool 18 = .ok (.iload_n 1, 1) := by decide +kernel
theorem dX0_toBool_19 : decode cX0_toBool 19 = .ok (.ifCond .ne 15, 3) := by decide +kernel
theorem dX0_toBool_22 : decode cX0_toBool 22 = .ok (.aload_n 0, 1) := by decide +kernel
theorem dX0_toBool_23 : decode cX0_toBool 23 = .ok (.getfield 78, 3) := by decide +kernel
theorem dX0_toBool_26 : decode cX0_toBool 26 = .ok (.ldc 90, 2) := by decide +kernel
theorem dX0_toBool_28 : decode cX0_toBool 28 = .ok (.invokevirtual 84, 3) := by decide +kernel
theorem dX0_toBool_31 : decode cX0_toBool 31 = .ok (.ifCond .eq 10, 3) := by decide +kernel
theorem dX0_toBool_34 : decode cX0_toBool 34 = .ok (.iload_n 1, 1) := by decide +kernel
theorem dX0_toBool_35 : decode cX0_toBool 35 = .ok (.invokestatic 92, 3) := by decide +kernel
theorem dX0_toBool_38 : decode cX0_toBool 38 = .ok (.goto 4, 3) := by decide +kernel
theorem dX0_toBool_41 : decode cX0_toBool 41 = .ok (.aconst_null, 1) := by decide +kernel
theorem dX0_toBool_42 : decode cX0_toBool 42 = .ok (.areturn, 1) := by decide +kernel
theorem dX0_toBool_43 : decode cX0_toBool 43 = .ok (.aload_n 0, 1) := by decide +kernel
theorem dX0_toBool_44 : decode cX0_toBool 44 = .ok (.getfield 40, 3) := by decide +kernel
theorem dX0_toBool_47 : decode cX0_toBool 47 = .ok (.ifnull 7, 3) := by decide +kernel
theorem dX0_toBool_50 : decode cX0_toBool 50 = .ok (.iconst 1, 1) := by decide +kernel
theorem dX0_toBool_51 : decode cX0_toBool 51 = .ok (.goto 4, 3) := by decide +kernel
theorem dX0_toBool_54 : decode cX0_toBool 54 = .ok (.iconst 0, 1) := by decide +kernel
theorem dX0_toBool_55 : decode cX0_toBool 55 = .ok (.istore_n 1, 1) := by decide +kernel
theorem dX0_toBool_56 : decode cX0_toBool 56 = .ok (.iload_n 1, 1) := by decide +kernel
theorem dX0_toBool_57 : decode cX0_toBool 57 = .ok (.ifCond .ne 19, 3) := by decide +kernel
theorem dX0_toBool_60 : decode cX0_toBool 60 = .ok (.aload_n 0, 1) := by decide +kernel
theorem dX0_toBool_61 : decode cX0_toBool 61 = .ok (.getfield 63, 3) := by decide +kernel
theorem dX0_toBool_64 : decode cX0_toBool 64 = .ok (.ifCond .ne 12, 3) := by decide +kernel
theorem dX0_toBool_67 : decode cX0_toBool 67 = .ok (.aload_n 0, 1) := by decide +kernel
theorem dX0_toBool_68 : decode cX0_toBool 68 = .ok (.getfield 96, 3) := by decide +kernel
theorem dX0_toBool_71 : decode cX0_toBool 71 = .ok (.dconst 0, 1) := by decide +kernel
theorem dX0_toBool_72 : decode cX0_toBool 72 = .ok (.dcmp .l, 1) := by decide +kernel
theorem dX0_toBool_73 : decode cX0_toBool 73 = .ok (.ifCond .eq 7, 3) := by decide +kernel
theorem dX0_toBool_76 : decode cX0_toBool 76 = .ok (.iconst 1, 1) := by decide +kernel
theorem dX0_toBool_77 : decode cX0_toBool 77 = .ok (.goto 4, 3) := by decide +kernel
theorem dX0_toBool_80 : decode cX0_toBool 80 = .ok (.iconst 0, 1) := by decide +kernel
theorem dX0_toBool_81 : decode cX0_toBool 81 = .ok (.invokestatic 92, 3) := by decide +kernel
theorem dX0_toBool_84 : decode cX0_toBool 84 = .ok (.areturn, 1) := by decide +kernel
theorem dX0_toInt_0 : decode cX0_toInt 0 = .ok (.aload_n 0, 1) := by decide +kernel
theorem dX0_toInt_1 : decode cX0_toInt 1 = .ok (.getfield 36, 3) := by decide +kernel
theorem dX0_toInt_4 : decode cX0_toInt 4 = .ok (.iconst 4, 1) := by decide +kernel
theorem dX0_toInt_5 : decode cX0_toInt 5 = .ok (.if_icmp .eq 11, 3) := by decide +kernel
theorem dX0_toInt_8 : decode cX0_toInt 8 = .ok (.aload_n 0, 1) := by decide +kernel
theorem dX0_toInt_9 : decode cX0_toInt 9 = .ok (.getfield 63, 3) := by decide +kernel
theorem dX0_toInt_12 : decode cX0_toInt 12 = .ok (.invokestatic 100, 3) := by decide +kernel
theorem dX0_toInt_15 : decode cX0_toInt 15 = .ok (.areturn, 1) := by decide +kernel
theorem dX0_toInt_16 : decode cX0_toInt 16 = .ok (.aload_n 0, 1) := by decide +kernel
theorem dX0_toInt_17 : decode cX0_toInt 17 = .ok (.getfield 78, 3) := by decide +kernel
theorem dX0_toInt_20 : decode cX0_toInt 20 = .ok (.astore_n 1, 1) := by decide +kernel
theorem dX0_toInt_21 : decode cX0_toInt 21 = .ok (.aload_n 1, 1) := by decide +kernel
theorem dX0_toInt_22 : decode cX0_toInt 22 = .ok (.invokevirtual 104, 3) := by decide +kernel
theorem dX0_toInt_25 : decode cX0_toInt 25 = .ok (.istore_n 2, 1) := by decide +kernel
theorem dX0_toInt_26 : decode cX0_toInt 26 = .ok (.iload_n 2, 1) := by decide +kernel
theorem dX0_toInt_27 : decode cX0_toInt 27 = .ok (.ifCond .le 17, 3) := by decide +kernel
theorem dX0_toInt_30 : decode cX0_toInt 30 = .ok (.aload_n 1, 1) := by decide +kernel
theorem dX0_toInt_31 : decode cX0_toInt 31 = .ok (.iconst 0, 1) := by decide +kernel
theorem dX0_toInt_32 : decode cX0_toInt 32 = .ok (.invokevirtual 108, 3) := by decide +kernel
theorem dX0_toInt_35 : decode cX0_toInt 35 = .ok (.bipush 45, 2) := by decide +kernel
theorem dX0_toInt_37 : decode cX0_toInt 37 = .ok (.if_icmp .ne 7, 3) := by decide +kernel
theorem dX0_toInt_40 : decode cX0_toInt 40 = .ok (.iconst 1, 1) := by decide +kernel
theorem dX0_toInt_41 : decode cX0_toInt 41 = .ok (.goto 4, 3) := by decide +kernel
theorem dX0_toInt_44 : decode cX0_toInt 44 = .ok (.iconst 0, 1) := by decide +kernel
theorem dX0_toInt_45 : decode cX0_toInt 45 = .ok (.istore_n 3, 1) := by decide +kernel
theorem dX0_toInt_46 : decode cX0_toInt 46 = .ok (.iload_n 3, 1) := by decide +kernel
theorem dX0_toInt_47 : decode cX0_toInt 47 = .ok (.ifCond .eq 7, 3) := by decide +kernel
theorem dX0_toInt_50 : decode cX0_toInt 50 = .ok (.iconst 1, 1) := by decide +kernel
theorem dX0_toInt_51 : decode cX0_toInt 51 = .ok (.goto 4, 3) := by decide +kernel
theorem dX0_toInt_54 : decode cX0_toInt 54 = .ok (.iconst 0, 1) := by decide +kernel
theorem dX0_toInt_55 : decode cX0_toInt 55 = .ok (.istore 4, 2) := by decide +kernel
theorem dX0_toInt_57 : decode cX0_toInt 57 = .ok (.iload_n 2, 1) := by decide +kernel
theorem dX0_toInt_58 : decode cX0_toInt 58 = .ok (.iload 4, 2) := by decide +kernel
theorem dX0_toInt_60 : decode cX0_toInt 60 = .ok (.isub, 1) := by decide +kernel
theorem dX0_toInt_61 : decode cX0_toInt 61 = .ok (.iconst 1, 1) := by decide +kernel
theorem dX0_toInt_62 : decode cX0_toInt 62 = .ok (.if_icmp .lt 12, 3) := by decide +kernel
theorem dX0_toInt_65 : decode cX0_toInt 65 = .ok (.iload_n 2, 1) := by decide +kernel
theorem dX0_toInt_66 : decode cX0_toInt 66 = .ok (.iload 4, 2) := by decide +kernel
theorem dX0_toInt_68 : decode cX0_toInt 68 = .ok (.isub, 1) := by decide +kernel
theorem dX0_toInt_69 : decode cX0_toInt 69 = .ok (.bipush 9, 2) := by decide +kernel
theorem dX0_toInt_71 : decode cX0_toInt 71 = .ok (.if_icmp .le 5, 3) := by decide +kernel
theorem dX0_toInt_74 : decode cX0_toInt 74 = .ok (.aconst_null, 1) := by decide +kernel
theorem dX0_toInt_75 : decode cX0_toInt 75 = .ok (.areturn, 1) := by decide +kernel
theorem dX0_toInt_76 : decode cX0_toInt 76 = .ok (.iconst 0, 1) := by decide +kernel
theorem dX0_toInt_77 : decode cX0_toInt 77 = .ok (.istore 5, 2) := by decide +kernel
theorem dX0_toInt_79 : decode cX0_toInt 79 = .ok (.iload 4, 2) := by decide +kernel
theorem dX0_toInt_81 : decode cX0_toInt 81 = .ok (.istore 6, 2) := by decide +kernel
theorem dX0_toInt_83 : decode cX0_toInt 83 = .ok (.iload 6, 2) := by decide +kernel
theorem dX0_toInt_85 : decode cX0_toInt 85 = .ok (.iload_n 2, 1) := by decide +kernel
theorem dX0_toInt_86 : decode cX0_toInt 86 = .ok (.if_icmp .ge 46, 3) := by decide +kernel
theorem dX0_toInt_89 : decode cX0_toInt 89 = .ok (.aload_n 1, 1) := by decide +kernel
theorem dX0_toInt_90 : decode cX0_toInt 90 = .ok (.iload 6, 2) := by decide +kernel
theorem dX0_toInt_92 : decode cX0_toInt 92 = .ok (.invokevirtual 108, 3) := by decide +kernel
theorem dX0_toInt_95 : decode cX0_toInt 95 = .ok (.istore 7, 2) := by decide +kernel
theorem dX0_toInt_97 : decode cX0_toInt 97 = .ok (.iload 7, 2) := by decide +kernel
theorem dX0_toInt_99 : decode cX0_toInt 99 = .ok (.bipush 48, 2) := by decide +kernel
theorem dX0_toInt_101 : decode cX0_toInt 101 = .ok (.if_icmp .lt 10, 3) := by decide +kernel
theorem dX0_toInt_104 : decode cX0_toInt 104 = .ok (.iload 7, 2) := by decide +kernel
theorem dX0_toInt_106 : decode cX0_toInt 106 = .ok (.bipush 57, 2) := by decide +kernel
theorem dX0_toInt_108 : decode cX0_toInt 108 = .ok (.if_icmp .le 5, 3) := by decide +kernel
theorem dX0_toInt_111 : decode cX0_toInt 111 = .ok (.aconst_null, 1) := by decide +kernel
theorem dX0_toInt_112 : decode cX0_toInt 112 = .ok (.areturn, 1) := by decide +kernel
theorem dX0_toInt_113 : decode cX0_toInt 113 = .ok (.iload 5, 2) := by decide +kernel
theorem dX0_toInt_115 : decode cX0_toInt 115 = .ok (.bipush 10, 2) := by decide +kernel
theorem dX0_toInt_117 : decode cX0_toInt 117 = .ok (.imul, 1) := by decide +kernel
theorem dX0_toInt_118 : decode cX0_toInt 118 = .ok (.iload 7, 2) := by decide +kernel
theorem dX0_toInt_120 : decode cX0_toInt 120 = .ok (.bipush 48, 2) := by decide +kernel
theorem dX0_toInt_122 : decode cX0_toInt 122 = .ok (.isub, 1) := by decide +kernel
theorem dX0_toInt_123 : decode cX0_toInt 123 = .ok (.iadd, 1) := by decide +kernel
theorem dX0_toInt_124 : decode cX0_toInt 124 = .ok (.istore 5, 2) := by decide +kernel
theorem dX0_toInt_126 : decode cX0_toInt 126 = .ok (.iinc 6 1, 3) := by decide +kernel
theorem dX0_toInt_129 : decode cX0_toInt 129 = .ok (.goto (-46), 3) := by decide +kernel
theorem dX0_toInt_132 : decode cX0_toInt 132 = .ok (.iload_n 3, 1) := by decide +kernel
theorem dX0_toInt_133 : decode cX0_toInt 133 = .ok (.ifCond .eq 9, 3) := by decide +kernel
theorem dX0_toInt_136 : decode cX0_toInt 136 = .ok (.iload 5, 2) := by decide +kernel
theorem dX0_toInt_138 : decode cX0_toInt 138 = .ok (.ineg, 1) := by decide +kernel
theorem dX0_toInt_139 : decode cX0_toInt 139 = .ok (.goto 5, 3) := by decide +kernel
theorem dX0_toInt_142 : decode cX0_toInt 142 = .ok (.iload 5, 2) := by decide +kernel
theorem dX0_toInt_144 : decode cX0_toInt 144 = .ok (.invokestatic 100, 3) := by decide +kernel
theorem dX0_toInt_147 : decode cX0_toInt 147 = .ok (.areturn, 1) := by decide +kernel
theorem dX0_asText_0 : decode cX0_asText 0 = .ok (.aload_n 1, 1) := by decide +kernel
theorem dX0_asText_1 : decode cX0_asText 1 = .ok (.getfield 36, 3) := by decide +kernel
theorem dX0_asText_4 : decode cX0_asText 4 = .ok (.tableswitch 60 0 4 #[36, 39, 60, 60, 55], 36) := by decide +kernel
theorem dX0_asText_40 : decode cX0_asText 40 = .ok (.ldc 112, 2) := by decide +kernel
theorem dX0_asText_42 : decode cX0_asText 42 = .ok (.areturn, 1) := by decide +kernel
theorem dX0_asText_43 : decode cX0_asText 43 = .ok (.aload_n 1, 1) := by decide +kernel
theorem dX0_asText_44 : decode cX0_asText 44 = .ok (.getfield 63, 3) := by decide +kernel
theorem dX0_asText_47 : decode cX0_asText 47 = .ok (.iconst 1, 1) := by decide +kernel
theorem dX0_asText_48 : decode cX0_asText 48 = .ok (.if_icmp .ne 8, 3) := by decide +kernel
theorem dX0_asText_51 : decode cX0_asText 51 = .ok (.ldc 82, 2) := by decide +kernel
theorem dX0_asText_53 : decode cX0_asText 53 = .ok (.goto 5, 3) := by decide +kernel
theorem dX0_asText_56 : decode cX0_asText 56 = .ok (.ldc 90, 2) := by decide +kernel
theorem dX0_asText_58 : decode cX0_asText 58 = .ok (.areturn, 1) := by decide +kernel
theorem dX0_asText_59 : decode cX0_asText 59 = .ok (.aload_n 1, 1) := by decide +kernel
theorem dX0_asText_60 : decode cX0_asText 60 = .ok (.getfield 78, 3) := by decide +kernel
theorem dX0_asText_63 : decode cX0_asText 63 = .ok (.areturn, 1) := by decide +kernel
theorem dX0_asText_64 : decode cX0_asText 64 = .ok (.aload_n 0, 1) := by decide +kernel
theorem dX0_asText_65 : decode cX0_asText 65 = .ok (.getfield 18, 3) := by decide +kernel
theorem dX0_asText_68 : decode cX0_asText 68 = .ok (.iconst 0, 1) := by decide +kernel
theorem dX0_asText_69 : decode cX0_asText 69 = .ok (.invokevirtual 114, 3) := by decide +kernel
theorem dX0_asText_72 : decode cX0_asText 72 = .ok (.aload_n 1, 1) := by decide +kernel
theorem dX0_asText_73 : decode cX0_asText 73 = .ok (.getfield 40, 3) := by decide +kernel
theorem dX0_asText_76 : decode cX0_asText 76 = .ok (.ifnull 13, 3) := by decide +kernel
theorem dX0_asText_79 : decode cX0_asText 79 = .ok (.aload_n 0, 1) := by decide +kernel
theorem dX0_asText_80 : decode cX0_asText 80 = .ok (.getfield 18, 3) := by decide +kernel
theorem dX0_asText_83 : decode cX0_asText 83 = .ok (.bipush 111, 2) := by decide +kernel
theorem dX0_asText_85 : decode cX0_asText 85 = .ok (.invokevirtual 118, 3) := by decide +kernel
theorem dX0_asText_88 : decode cX0_asText 88 = .ok (.pop, 1) := by decide +kernel
theorem dX0_asText_89 : decode cX0_asText 89 = .ok (.aload_n 0, 1) := by decide +kernel
theorem dX0_asText_90 : decode cX0_asText 90 = .ok (.getfield 18, 3) := by decide +kernel
theorem dX0_asText_93 : decode cX0_asText 93 = .ok (.aload_n 1, 1) := by decide +kernel
theorem dX0_asText_94 : decode cX0_asText 94 = .ok (.getfield 63, 3) := by decide +kernel
theorem dX0_asText_97 : decode cX0_asText 97 = .ok (.invokevirtual 122, 3) := by decide +kernel
theorem dX0_asText_100 : decode cX0_asText 100 = .ok (.pop, 1) := by decide +kernel
theorem dX0_asText_101 : decode cX0_asText 101 = .ok (.aload_n 0, 1) := by decide +kernel
theorem dX0_asText_102 : decode cX0_asText 102 = .ok (.getfield 18, 3) := by decide +kernel
theorem dX0_asText_105 : decode cX0_asText 105 = .ok (.invokevirtual 125, 3) := by decide +kernel
theorem dX0_asText_108 : decode cX0_asText 108 = .ok (.areturn, 1) := by decide +kernel
theorem dX0_join_0 : decode cX0_join 0 = .ok (.aload_n 0, 1) := by decide +kernel
theorem dX0_join_1 : decode cX0_join 1 = .ok (.aload_n 1, 1) := by decide +kernel
theorem dX0_join_2 : decode cX0_join 2 = .ok (.invokevirtual 70, 3) := by decide +kernel
theorem dX0_join_5 : decode cX0_join 5 = .ok (.astore_n 3, 1) := by decide +kernel
theorem dX0_join_6 : decode cX0_join 6 = .ok (.aload_n 0, 1) := by decide +kernel
theorem dX0_join_7 : decode cX0_join 7 = .ok (.aload_n 2, 1) := by decide +kernel
theorem dX0_join_8 : decode cX0_join 8 = .ok (.invokevirtual 70, 3) := by decide +kernel
theorem dX0_join_11 : decode cX0_join 11 = .ok (.astore 4, 2) := by decide +kernel
theorem dX0_join_13 : decode cX0_join 13 = .ok (.aload_n 3, 1) := by decide +kernel
theorem dX0_join_14 : decode cX0_join 14 = .ok (.invokevirtual 104, 3) := by decide +kernel
theorem dX0_join_17 : decode cX0_join 17 = .ok (.aload 4, 2) := by decide +kernel
theorem dX0_join_19 : decode cX0_join 19 = .ok (.invokevirtual 104, 3) := by decide +kernel
theorem dX0_join_22 : decode cX0_join 22 = .ok (.iadd, 1) := by decide +kernel
theorem dX0_join_23 : decode cX0_join 23 = .ok (.bipush 16, 2) := by decide +kernel
theorem dX0_join_25 : decode cX0_join 25 = .ok (.if_icmp .le 5, 3) := by decide +kernel
theorem dX0_join_28 : decode cX0_join 28 = .ok (.aconst_null, 1) := by decide +kernel
theorem dX0_join_29 : decode cX0_join 29 = .ok (.areturn, 1) := by decide +kernel
theorem dX0_join_30 : decode cX0_join 30 = .ok (.aload_n 0, 1) := by decide +kernel
theorem dX0_join_31 : decode cX0_join 31 = .ok (.getfield 18, 3) := by decide +kernel
theorem dX0_join_34 : decode cX0_join 34 = .ok (.iconst 0, 1) := by decide +kernel
theorem dX0_join_35 : decode cX0_join 35 = .ok (.invokevirtual 114, 3) := by decide +kernel
theorem dX0_join_38 : decode cX0_join 38 = .ok (.aload_n 0, 1) := by decide +kernel
theorem dX0_join_39 : decode cX0_join 39 = .ok (.getfield 18, 3) := by decide +kernel
theorem dX0_join_42 : decode cX0_join 42 = .ok (.aload_n 3, 1) := by decide +kernel
theorem dX0_join_43 : decode cX0_join 43 = .ok (.invokevirtual 129, 3) := by decide +kernel
theorem dX0_join_46 : decode cX0_join 46 = .ok (.pop, 1) := by decide +kernel
theorem dX0_join_47 : decode cX0_join 47 = .ok (.aload_n 0, 1) := by decide +kernel
theorem dX0_join_48 : decode cX0_join 48 = .ok (.getfield 18, 3) := by decide +kernel
theorem dX0_join_51 : decode cX0_join 51 = .ok (.aload 4, 2) := by decide +kernel
theorem dX0_join_53 : decode cX0_join 53 = .ok (.invokevirtual 129, 3) := by decide +kernel
theorem dX0_join_56 : decode cX0_join 56 = .ok (.pop, 1) := by decide +kernel
theorem dX0_join_57 : decode cX0_join 57 = .ok (.aload_n 0, 1) := by decide +kernel
theorem dX0_join_58 : decode cX0_join 58 = .ok (.getfield 18, 3) := by decide +kernel
theorem dX0_join_61 : decode cX0_join 61 = .ok (.invokevirtual 125, 3) := by decide +kernel
theorem dX0_join_64 : decode cX0_join 64 = .ok (.invokestatic 74, 3) := by decide +kernel
theorem dX0_join_67 : decode cX0_join 67 = .ok (.areturn, 1) := by decide +kernel
theorem dX1_init_0 : decode cX1_init 0 = .ok (.aload_n 0, 1) := by decide +kernel
theorem dX1_init_1 : decode cX1_init 1 = .ok (.invokespecial 3, 3) := by decide +kernel
theorem dX1_init_4 : decode cX1_init 4 = .ok (.aload_n 0, 1) := by decide +kernel
theorem dX1_init_5 : decode cX1_init 5 = .ok (.iload_n 1, 1) := by decide +kernel
theorem dX1_init_6 : decode cX1_init 6 = .ok (.putfield 9, 3) := by decide +kernel
theorem dX1_init_9 : decode cX1_init 9 = .ok (.aload_n 0, 1) := by decide +kernel
theorem dX1_init_10 : decode cX1_init 10 = .ok (.bipush 8, 2) := by decide +kernel
theorem dX1_init_12 : decode cX1_init 12 = .ok (.iload_n 1, 1) := by decide +kernel
theorem dX1_init_13 : decode cX1_init 13 = .ok (.iadd, 1) := by decide +kernel
theorem dX1_init_14 : decode cX1_init 14 = .ok (.putfield 15, 3) := by decide +kernel
theorem dX1_init_17 : decode cX1_init 17 = .ok (.aload_n 0, 1) := by decide +kernel
theorem dX1_init_18 : decode cX1_init 18 = .ok (.aload_n 2, 1) := by decide +kernel
theorem dX1_init_19 : decode cX1_init 19 = .ok (.putfield 18, 3) := by decide +kernel
theorem dX1_init_22 : decode cX1_init 22 = .ok (.aload_n 0, 1) := by decide +kernel
theorem dX1_init_23 : decode cX1_init 23 = .ok (.bipush 6, 2) := by decide +kernel
theorem dX1_init_25 : decode cX1_init 25 = .ok (.anewarray 22, 3) := by decide +kernel
theorem dX1_init_28 : decode cX1_init 28 = .ok (.putfield 24, 3) := by decide +kernel
theorem dX1_init_31 : decode cX1_init 31 = .ok (.aload_n 0, 1) := by decide +kernel
theorem dX1_init_32 : decode cX1_init 32 = .ok (.bipush 6, 2) := by decide +kernel
theorem dX1_init_34 : decode cX1_init 34 = .ok (.anewarray 28, 3) := by decide +kernel
theorem dX1_init_37 : decode cX1_init 37 = .ok (.putfield 30, 3) := by decide +kernel
theorem dX1_init_40 : decode cX1_init 40 = .ok (.return_, 1) := by decide +kernel
theorem dX1_addField_0 : decode cX1_addField 0 = .ok (.aload_n 0, 1) := by decide +kernel
theorem dX1_addField_1 : decode cX1_addField 1 = .ok (.getfield 34, 3) := by decide +kernel
theorem dX1_addField_4 : decode cX1_addField 4 = .ok (.aload_n 0, 1) := by decide +kernel
theorem dX1_addField_5 : decode cX1_addField 5 = .ok (.getfield 24, 3) := by decide +kernel
theorem dX1_addField_8 : decode cX1_addField 8 = .ok (.arraylength, 1) := by decide +kernel
theorem dX1_addField_9 : decode cX1_addField 9 = .ok (.if_icmp .ge 43, 3) := by decide +kernel
theorem dX1_addField_12 : decode cX1_addField 12 = .ok (.aload_n 0, 1) := by decide +kernel
theorem dX1_addField_13 : decode cX1_addField 13 = .ok (.getfield 24, 3) := by decide +kernel
theorem dX1_addField_16 : decode cX1_addField 16 = .ok (.aload_n 0, 1) := by decide +kernel
theorem dX1_addField_17 : decode cX1_addField 17 = .ok (.getfield 34, 3) := by decide +kernel
theorem dX1_addField_20 : decode cX1_addField 20 = .ok (.new 22, 3) := by decide +kernel
theorem dX1_addField_23 : decode cX1_addField 23 = .ok (.dup, 1) := by decide +kernel
theorem dX1_addField_24 : decode cX1_addField 24 = .ok (.iload_n 1, 1) := by decide +kernel
theorem dX1_addField_25 : decode cX1_addField 25 = .ok (.iload_n 2, 1) := by decide +kernel
theorem dX1_addField_26 : decode cX1_addField 26 = .ok (.aload_n 0, 1) := by decide +kernel
theorem dX1_addField_27 : decode cX1_addField 27 = .ok (.getfield 9, 3) := by decide +kernel
theorem dX1_addField_30 : decode cX1_addField 30 = .ok (.bipush 6, 2) := by decide +kernel
theorem dX1_addField_32 : decode cX1_addField 32 = .ok (.imul, 1) := by decide +kernel
theorem dX1_addField_33 : decode cX1_addField 33 = .ok (.aload_n 0, 1) := by decide +kernel
theorem dX1_addField_34 : decode cX1_addField 34 = .ok (.getfield 34, 3) := by decide +kernel
theorem dX1_addField_37 : decode cX1_addField 37 = .ok (.iadd, 1) := by decide +kernel
theorem dX1_addField_38 : decode cX1_addField 38 = .ok (.invokespecial 37, 3) := by decide +kernel
theorem dX1_addField_41 : decode cX1_addField 41 = .ok (.aastore, 1) := by decide +kernel
theorem dX1_addField_42 : decode cX1_addField 42 = .ok (.aload_n 0, 1) := by decide +kernel
theorem dX1_addField_43 : decode cX1_addField 43 = .ok (.dup, 1) := by decide +kernel
theorem dX1_addField_44 : decode cX1_addField 44 = .ok (.getfield 34, 3) := by decide +kernel
theorem dX1_addField_47 : decode cX1_addField 47 = .ok (.iconst 1, 1) := by decide +kernel
theorem dX1_addField_48 : decode cX1_addField 48 = .ok (.iadd, 1) := by decide +kernel
theorem dX1_addField_49 : decode cX1_addField 49 = .ok (.putfield 34, 3) := by decide +kernel
theorem dX1_addField_52 : decode cX1_addField 52 = .ok (.return_, 1) := by decide +kernel
theorem dX1_addRoutine_0 : decode cX1_addRoutine 0 = .ok (.aload_n 0, 1) := by decide +kernel
theorem dX1_addRoutine_1 : decode cX1_addRoutine 1 = .ok (.getfield 40, 3) := by decide +kernel
theorem dX1_addRoutine_4 : decode cX1_addRoutine 4 = .ok (.aload_n 0, 1) := by decide +kernel
theorem dX1_addRoutine_5 : decode cX1_addRoutine 5 = .ok (.getfield 30, 3) := by decide +kernel
theorem dX1_addRoutine_8 : decode cX1_addRoutine 8 = .ok (.arraylength, 1) := by decide +kernel
theorem dX1_addRoutine_9 : decode cX1_addRoutine 9 = .ok (.if_icmp .ge 23, 3) := by decide +kernel
theorem dX1_addRoutine_12 : decode cX1_addRoutine 12 = .ok (.aload_n 0, 1) := by decide +kernel
theorem dX1_addRoutine_13 : decode cX1_addRoutine 13 = .ok (.getfield 30, 3) := by decide +kernel
theorem dX1_addRoutine_16 : decode cX1_addRoutine 16 = .ok (.aload_n 0, 1) := by decide +kernel
theorem dX1_addRoutine_17 : decode cX1_addRoutine 17 = .ok (.getfield 40, 3) := by decide +kernel
theorem dX1_addRoutine_20 : decode cX1_addRoutine 20 = .ok (.aload_n 1, 1) := by decide +kernel
theorem dX1_addRoutine_21 : decode cX1_addRoutine 21 = .ok (.aastore, 1) := by decide +kernel
theorem dX1_addRoutine_22 : decode cX1_addRoutine 22 = .ok (.aload_n 0, 1) := by decide +kernel
theorem dX1_addRoutine_23 : decode cX1_addRoutine 23 = .ok (.dup, 1) := by decide +kernel
theorem dX1_addRoutine_24 : decode cX1_addRoutine 24 = .ok (.getfield 40, 3) := by decide +kernel
theorem dX1_addRoutine_27 : decode cX1_addRoutine 27 = .ok (.iconst 1, 1) := by decide +kernel
theorem dX1_addRoutine_28 : decode cX1_addRoutine 28 = .ok (.iadd, 1) := by decide +kernel
theorem dX1_addRoutine_29 : decode cX1_addRoutine 29 = .ok (.putfield 40, 3) := by decide +kernel
theorem dX1_addRoutine_32 : decode cX1_addRoutine 32 = .ok (.return_, 1) := by decide +kernel
theorem dX1_routineAt_0 : decode cX1_routineAt 0 = .ok (.iload_n 1, 1) := by decide +kernel
theorem dX1_routineAt_1 : decode cX1_routineAt 1 = .ok (.ifCond .lt 29, 3) := by decide +kernel
theorem dX1_routineAt_4 : decode cX1_routineAt 4 = .ok (.iload_n 1, 1) := by decide +kernel
theorem dX1_routineAt_5 : decode cX1_routineAt 5 = .ok (.aload_n 0, 1) := by decide +kernel
theorem dX1_routineAt_6 : decode cX1_routineAt 6 = .ok (.getfield 40, 3) := by decide +kernel
theorem dX1_routineAt_9 : decode cX1_routineAt 9 = .ok (.if_icmp .ge 21, 3) := by decide +kernel
theorem dX1_routineAt_12 : decode cX1_routineAt 12 = .ok (.iload_n 1, 1) := by decide +kernel
theorem dX1_routineAt_13 : decode cX1_routineAt 13 = .ok (.aload_n 0, 1) := by decide +kernel
theorem dX1_routineAt_14 : decode cX1_routineAt 14 = .ok (.getfield 30, 3) := by decide +kernel
theorem dX1_routineAt_17 : decode cX1_routineAt 17 = .ok (.arraylength, 1) := by decide +kernel
theorem dX1_routineAt_18 : decode cX1_routineAt 18 = .ok (.if_icmp .ge 12, 3) := by decide +kernel
theorem dX1_routineAt_21 : decode cX1_routineAt 21 = .ok (.aload_n 0, 1) := by decide +kernel
theorem dX1_routineAt_22 : decode cX1_routineAt 22 = .ok (.getfield 30, 3) := by decide +kernel
theorem dX1_routineAt_25 : decode cX1_routineAt 25 = .ok (.iload_n 1, 1) := by decide +kernel
theorem dX1_routineAt_26 : decode cX1_routineAt 26 = .ok (.aaload, 1) := by decide +kernel
theorem dX1_routineAt_27 : decode cX1_routineAt 27 = .ok (.goto 4, 3) := by decide +kernel
theorem dX1_routineAt_30 : decode cX1_routineAt 30 = .ok (.aconst_null, 1) := by decide +kernel
theorem dX1_routineAt_31 : decode cX1_routineAt 31 = .ok (.areturn, 1) := by decide +kernel
theorem dX1_ownField_0 : decode cX1_ownField 0 = .ok (.iconst 0, 1) := by decide +kernel
theorem dX1_ownField_1 : decode cX1_ownField 1 = .ok (.istore_n 2, 1) := by decide +kernel
theorem dX1_ownField_2 : decode cX1_ownField 2 = .ok (.iload_n 2, 1) := by decide +kernel
theorem dX1_ownField_3 : decode cX1_ownField 3 = .ok (.aload_n 0, 1) := by decide +kernel
theorem dX1_ownField_4 : decode cX1_ownField 4 = .ok (.getfield 34, 3) := by decide +kernel
theorem dX1_ownField_7 : decode cX1_ownField 7 = .ok (.if_icmp .ge 39, 3) := by decide +kernel
theorem dX1_ownField_10 : decode cX1_ownField 10 = .ok (.iload_n 2, 1) := by decide +kernel
theorem dX1_ownField_11 : decode cX1_ownField 11 = .ok (.aload_n 0, 1) := by decide +kernel
theorem dX1_ownField_12 : decode cX1_ownField 12 = .ok (.getfield 24, 3) := by decide +kernel
theorem dX1_ownField_15 : decode cX1_ownField 15 = .ok (.arraylength, 1) := by decide +kernel
theorem dX1_ownField_16 : decode cX1_ownField 16 = .ok (.if_icmp .ge 30, 3) := by decide +kernel
theorem dX1_ownField_19 : decode cX1_ownField 19 = .ok (.aload_n 0, 1) := by decide +kernel
theorem dX1_ownField_20 : decode cX1_ownField 20 = .ok (.getfield 24, 3) := by decide +kernel
theorem dX1_ownField_23 : decode cX1_ownField 23 = .ok (.iload_n 2, 1) := by decide +kernel
theorem dX1_ownField_24 : decode cX1_ownField 24 = .ok (.aaload, 1) := by decide +kernel
theorem dX1_ownField_25 : decode cX1_ownField 25 = .ok (.astore_n 3, 1) := by decide +kernel
theorem dX1_ownField_26 : decode cX1_ownField 26 = .ok (.aload_n 3, 1) := by decide +kernel
theorem dX1_ownField_27 : decode cX1_ownField 27 = .ok (.ifnull 13, 3) := by decide +kernel
theorem dX1_ownField_30 : decode cX1_ownField 30 = .ok (.aload_n 3, 1) := by decide +kernel
theorem dX1_ownField_31 : decode cX1_ownField 31 = .ok (.getfield 43, 3) := by decide +kernel
theorem dX1_ownField_34 : decode cX1_ownField 34 = .ok (.iload_n 1, 1) := by decide +kernel
theorem dX1_ownField_35 : decode cX1_ownField 35 = .ok (.if_icmp .ne 5, 3) := by decide +kernel
theorem dX1_ownField_38 : decode cX1_ownField 38 = .ok (.aload_n 3, 1) := by decide +kernel
theorem dX1_ownField_39 : decode cX1_ownField 39 = .ok (.areturn, 1) := by decide +kernel
theorem dX1_ownField_40 : decode cX1_ownField 40 = .ok (.iinc 2 1, 3) := by decide +kernel
theorem dX1_ownField_43 : decode cX1_ownField 43 = .ok (.goto (-41), 3) := by decide +kernel
theorem dX1_ownField_46 : decode cX1_ownField 46 = .ok (.aconst_null, 1) := by decide +kernel
theorem dX1_ownField_47 : decode cX1_ownField 47 = .ok (.areturn, 1) := by decide +kernel
theorem dX1_nearestField_0 : decode cX1_nearestField 0 = .ok (.aload_n 0, 1) := by decide +kernel
theorem dX1_nearestField_1 : decode cX1_nearestField 1 = .ok (.astore_n 2, 1) := by decide +kernel
theorem dX1_nearestField_2 : decode cX1_nearestField 2 = .ok (.aload_n 2, 1) := by decide +kernel
theorem dX1_nearestField_3 : decode cX1_nearestField 3 = .ok (.ifnull 23, 3) := by decide +kernel
theorem dX1_nearestField_6 : decode cX1_nearestField 6 = .ok (.aload_n 2, 1) := by decide +kernel
theorem dX1_nearestField_7 : decode cX1_nearestField 7 = .ok (.iload_n 1, 1) := by decide +kernel
theorem dX1_nearestField_8 : decode cX1_nearestField 8 = .ok (.invokevirtual 46, 3) := by decide +kernel
theorem dX1_nearestField_11 : decode cX1_nearestField 11 = .ok (.astore_n 3, 1) := by decide +kernel
theorem dX1_nearestField_12 : decode cX1_nearestField 12 = .ok (.aload_n 3, 1) := by decide +kernel
theorem dX1_nearestField_13 : decode cX1_nearestField 13 = .ok (.ifnull 5, 3) := by decide +kernel
theorem dX1_nearestField_16 : decode cX1_nearestField 16 = .ok (.aload_n 3, 1) := by decide +kernel
theorem dX1_nearestField_17 : decode cX1_nearestField 17 = .ok (.areturn, 1) := by decide +kernel
theorem dX1_nearestField_18 : decode cX1_nearestField 18 = .ok (.aload_n 2, 1) := by decide +kernel
theorem dX1_nearestField_19 : decode cX1_nearestField 19 = .ok (.getfield 18, 3) := by decide +kernel
theorem dX1_nearestField_22 : decode cX1_nearestField 22 = .ok (.astore_n 2, 1) := by decide +kernel
theorem dX1_nearestField_23 : decode cX1_nearestField 23 = .ok (.goto (-21), 3) := by decide +kernel
theorem dX1_nearestField_26 : decode cX1_nearestField 26 = .ok (.aconst_null, 1) := by decide +kernel
theorem dX1_nearestField_27 : decode cX1_nearestField 27 = .ok (.areturn, 1) := by decide +kernel
theorem dX2_init_0 : decode cX2_init 0 = .ok (.aload_n 0, 1) := by decide +kernel
theorem dX2_init_1 : decode cX2_init 1 = .ok (.invokespecial 1, 3) := by decide +kernel
theorem dX2_init_4 : decode cX2_init 4 = .ok (.aload_n 0, 1) := by decide +kernel
theorem dX2_init_5 : decode cX2_init 5 = .ok (.iload_n 1, 1) := by decide +kernel
theorem dX2_init_6 : decode cX2_init 6 = .ok (.putfield 7, 3) := by decide +kernel
theorem dX2_init_9 : decode cX2_init 9 = .ok (.aload_n 0, 1) := by decide +kernel
theorem dX2_init_10 : decode cX2_init 10 = .ok (.iload_n 2, 1) := by decide +kernel
theorem dX2_init_11 : decode cX2_init 11 = .ok (.putfield 13, 3) := by decide +kernel
theorem dX2_init_14 : decode cX2_init 14 = .ok (.aload_n 0, 1) := by decide +kernel
theorem dX2_init_15 : decode cX2_init 15 = .ok (.iload_n 3, 1) := by decide +kernel
theorem dX2_init_16 : decode cX2_init 16 = .ok (.putfield 16, 3) := by decide +kernel
theorem dX2_init_19 : decode cX2_init 19 = .ok (.return_, 1) := by decide +kernel
theorem dX3_init_0 : decode cX3_init 0 = .ok (.aload_n 0, 1) := by decide +kernel
theorem dX3_init_1 : decode cX3_init 1 = .ok (.invokespecial 3, 3) := by decide +kernel
theorem dX3_init_4 : decode cX3_init 4 = .ok (.aload_n 0, 1) := by decide +kernel
theorem dX3_init_5 : decode cX3_init 5 = .ok (.bipush 30, 2) := by decide +kernel
theorem dX3_init_7 : decode cX3_init 7 = .ok (.anewarray 9, 3) := by decide +kernel
theorem dX3_init_10 : decode cX3_init 10 = .ok (.putfield 11, 3) := by decide +kernel
theorem dX3_init_13 : decode cX3_init 13 = .ok (.return_, 1) := by decide +kernel
theorem dX3_find_0 : decode cX3_find 0 = .ok (.aload_n 0, 1) := by decide +kernel
theorem dX3_find_1 : decode cX3_find 1 = .ok (.aload_n 1, 1) := by decide +kernel
theorem dX3_find_2 : decode cX3_find 2 = .ok (.aload_n 2, 1) := by decide +kernel
theorem dX3_find_3 : decode cX3_find 3 = .ok (.getfield 17, 3) := by decide +kernel
theorem dX3_find_6 : decode cX3_find 6 = .ok (.aload_n 2, 1) := by decide +kernel
theorem dX3_find_7 : decode cX3_find 7 = .ok (.invokevirtual 23, 3) := by decide +kernel
theorem dX3_find_10 : decode cX3_find 10 = .ok (.invokevirtual 27, 3) := by decide +kernel
theorem dX3_find_13 : decode cX3_find 13 = .ok (.aload_n 0, 1) := by decide +kernel
theorem dX3_find_14 : decode cX3_find 14 = .ok (.aload_n 3, 1) := by decide +kernel
theorem dX3_find_15 : decode cX3_find 15 = .ok (.aload 4, 2) := by decide +kernel
theorem dX3_find_17 : decode cX3_find 17 = .ok (.invokevirtual 31, 3) := by decide +kernel
theorem dX3_find_20 : decode cX3_find 20 = .ok (.astore 6, 2) := by decide +kernel
theorem dX3_find_22 : decode cX3_find 22 = .ok (.aload 6, 2) := by decide +kernel
theorem dX3_find_24 : decode cX3_find 24 = .ok (.ifnonnull 12, 3) := by decide +kernel
theorem dX3_find_27 : decode cX3_find 27 = .ok (.aload_n 0, 1) := by decide +kernel
theorem dX3_find_28 : decode cX3_find 28 = .ok (.aload_n 3, 1) := by decide +kernel
theorem dX3_find_29 : decode cX3_find 29 = .ok (.aload 4, 2) := by decide +kernel
theorem dX3_find_31 : decode cX3_find 31 = .ok (.invokevirtual 35, 3) := by decide +kernel
theorem dX3_find_34 : decode cX3_find 34 = .ok (.astore 6, 2) := by decide +kernel
theorem dX3_find_36 : decode cX3_find 36 = .ok (.aload 6, 2) := by decide +kernel
theorem dX3_find_38 : decode cX3_find 38 = .ok (.ifnonnull 15, 3) := by decide +kernel
theorem dX3_find_41 : decode cX3_find 41 = .ok (.aload_n 0, 1) := by decide +kernel
theorem dX3_find_42 : decode cX3_find 42 = .ok (.aload_n 3, 1) := by decide +kernel
theorem dX3_find_43 : decode cX3_find 43 = .ok (.aload 4, 2) := by decide +kernel
theorem dX3_find_45 : decode cX3_find 45 = .ok (.aload 5, 2) := by decide +kernel
theorem dX3_find_47 : decode cX3_find 47 = .ok (.invokevirtual 38, 3) := by decide +kernel
theorem dX3_find_50 : decode cX3_find 50 = .ok (.goto 5, 3) := by decide +kernel
theorem dX3_find_53 : decode cX3_find 53 = .ok (.aload 6, 2) := by decide +kernel
theorem dX3_find_55 : decode cX3_find 55 = .ok (.areturn, 1) := by decide +kernel
theorem dX3_collect_0 : decode cX3_collect 0 = .ok (.aload_n 0, 1) := by decide +kernel
theorem dX3_collect_1 : decode cX3_collect 1 = .ok (.iconst 0, 1) := by decide +kernel
theorem dX3_collect_2 : decode cX3_collect 2 = .ok (.putfield 42, 3) := by decide +kernel
theorem dX3_collect_5 : decode cX3_collect 5 = .ok (.aload_n 1, 1) := by decide +kernel
theorem dX3_collect_6 : decode cX3_collect 6 = .ok (.astore 4, 2) := by decide +kernel
theorem dX3_collect_8 : decode cX3_collect 8 = .ok (.aload 4, 2) := by decide +kernel
theorem dX3_collect_10 : decode cX3_collect 10 = .ok (.ifnull 70, 3) := by decide +kernel
theorem dX3_collect_13 : decode cX3_collect 13 = .ok (.iconst 0, 1) := by decide +kernel
theorem dX3_collect_14 : decode cX3_collect 14 = .ok (.istore 5, 2) := by decide +kernel
theorem dX3_collect_16 : decode cX3_collect 16 = .ok (.iload 5, 2) := by decide +kernel
theorem dX3_collect_18 : decode cX3_collect 18 = .ok (.aload 4, 2) := by decide +kernel
theorem dX3_collect_20 : decode cX3_collect 20 = .ok (.getfield 45, 3) := by decide +kernel
theorem dX3_collect_23 : decode cX3_collect 23 = .ok (.if_icmp .ge 47, 3) := by decide +kernel
theorem dX3_collect_26 : decode cX3_collect 26 = .ok (.aload 4, 2) := by decide +kernel
theorem dX3_collect_28 : decode cX3_collect 28 = .ok (.iload 5, 2) := by decide +kernel
theorem dX3_collect_30 : decode cX3_collect 30 = .ok (.invokevirtual 50, 3) := by decide +kernel
theorem dX3_collect_33 : decode cX3_collect 33 = .ok (.astore 6, 2) := by decide +kernel
theorem dX3_collect_35 : decode cX3_collect 35 = .ok (.aload 6, 2) := by decide +kernel
theorem dX3_collect_37 : decode cX3_collect 37 = .ok (.ifnull 27, 3) := by decide +kernel
theorem dX3_collect_40 : decode cX3_collect 40 = .ok (.aload 6, 2) := by decide +kernel
theorem dX3_collect_42 : decode cX3_collect 42 = .ok (.getfield 54, 3) := by decide +kernel
theorem dX3_collect_45 : decode cX3_collect 45 = .ok (.iload_n 2, 1) := by decide +kernel
theorem dX3_collect_46 : decode cX3_collect 46 = .ok (.if_icmp .ne 18, 3) := by decide +kernel
theorem dX3_collect_49 : decode cX3_collect 49 = .ok (.aload 6, 2) := by decide +kernel
theorem dX3_collect_51 : decode cX3_collect 51 = .ok (.getfield 55, 3) := by decide +kernel
theorem dX3_collect_54 : decode cX3_collect 54 = .ok (.iload_n 3, 1) := by decide +kernel
theorem dX3_collect_55 : decode cX3_collect 55 = .ok (.if_icmp .ne 9, 3) := by decide +kernel
theorem dX3_collect_58 : decode cX3_collect 58 = .ok (.aload_n 0, 1) := by decide +kernel
theorem dX3_collect_59 : decode cX3_collect 59 = .ok (.aload 6, 2) := by decide +kernel
theorem dX3_collect_61 : decode cX3_collect 61 = .ok (.invokevirtual 58, 3) := by decide +kernel
theorem dX3_collect_64 : decode cX3_collect 64 = .ok (.iinc 5 1, 3) := by decide +kernel
theorem dX3_collect_67 : decode cX3_collect 67 = .ok (.goto (-51), 3) := by decide +kernel
theorem dX3_collect_70 : decode cX3_collect 70 = .ok (.aload 4, 2) := by decide +kernel
theorem dX3_collect_72 : decode cX3_collect 72 = .ok (.getfield 62, 3) := by decide +kernel
theorem dX3_collect_75 : decode cX3_collect 75 = .ok (.astore 4, 2) := by decide +kernel
theorem dX3_collect_77 : decode cX3_collect 77 = .ok (.goto (-69), 3) := by decide +kernel
theorem dX3_collect_80 : decode cX3_collect 80 = .ok (.return_, 1) := by decide +kernel
theorem dX3_addUnlessHidden_0 : decode cX3_addUnlessHidden 0 = .ok (.iconst 0, 1) := by decide +kernel
theorem dX3_addUnlessHidden_1 : decode cX3_addUnlessHidden 1 = .ok (.istore_n 2, 1) := by decide +kernel
theorem dX3_addUnlessHidden_2 : decode cX3_addUnlessHidden 2 = .ok (.iload_n 2, 1) := by decide +kernel
theorem dX3_addUnlessHidden_3 : decode cX3_addUnlessHidden 3 = .ok (.aload_n 0, 1) := by decide +kernel
theorem dX3_addUnlessHidden_4 : decode cX3_addUnlessHidden 4 = .ok (.getfield 42, 3) := by decide +kernel
theorem dX3_addUnlessHidden_7 : decode cX3_addUnlessHidden 7 = .ok (.if_icmp .ge 52, 3) := by decide +kernel
theorem dX3_addUnlessHidden_10 : decode cX3_addUnlessHidden 10 = .ok (.iload_n 2, 1) := by decide +kernel
theorem dX3_addUnlessHidden_11 : decode cX3_addUnlessHidden 11 = .ok (.aload_n 0, 1) := by decide +kernel
theorem dX3_addUnlessHidden_12 : decode cX3_addUnlessHidden 12 = .ok (.getfield 11, 3) := by decide +kernel
theorem dX3_addUnlessHidden_15 : decode cX3_addUnlessHidden 15 = .ok (.arraylength, 1) := by decide +kernel
theorem dX3_addUnlessHidden_16 : decode cX3_addUnlessHidden 16 = .ok (.if_icmp .ge 43, 3) := by decide +kernel
theorem dX3_addUnlessHidden_19 : decode cX3_addUnlessHidden 19 = .ok (.aload_n 0, 1) := by decide +kernel
theorem dX3_addUnlessHidden_20 : decode cX3_addUnlessHidden 20 = .ok (.getfield 11, 3) := by decide +kernel
theorem dX3_addUnlessHidden_23 : decode cX3_addUnlessHidden 23 = .ok (.iload_n 2, 1) := by decide +kernel
theorem dX3_addUnlessHidden_24 : decode cX3_addUnlessHidden 24 = .ok (.aaload, 1) := by decide +kernel
theorem dX3_addUnlessHidden_25 : decode cX3_addUnlessHidden 25 = .ok (.astore_n 3, 1) := by decide +kernel
theorem dX3_addUnlessHidden_26 : decode cX3_addUnlessHidden 26 = .ok (.aload_n 3, 1) := by decide +kernel
theorem dX3_addUnlessHidden_27 : decode cX3_addUnlessHidden 27 = .ok (.ifnull 26, 3) := by decide +kernel
theorem dX3_addUnlessHidden_30 : decode cX3_addUnlessHidden 30 = .ok (.aload_n 3, 1) := by decide +kernel
theorem dX3_addUnlessHidden_31 : decode cX3_addUnlessHidden 31 = .ok (.getfield 66, 3) := by decide +kernel
theorem dX3_addUnlessHidden_34 : decode cX3_addUnlessHidden 34 = .ok (.aload_n 1, 1) := by decide +kernel
theorem dX3_addUnlessHidden_35 : decode cX3_addUnlessHidden 35 = .ok (.getfield 66, 3) := by decide +kernel
theorem dX3_addUnlessHidden_38 : decode cX3_addUnlessHidden 38 = .ok (.if_icmp .ne 15, 3) := by decide +kernel
theorem dX3_addUnlessHidden_41 : decode cX3_addUnlessHidden 41 = .ok (.aload_n 3, 1) := by decide +kernel
theorem dX3_addUnlessHidden_42 : decode cX3_addUnlessHidden 42 = .ok (.getfield 69, 3) := by decide +kernel
theorem dX3_addUnlessHidden_45 : decode cX3_addUnlessHidden 45 = .ok (.aload_n 1, 1) := by decide +kernel
theorem dX3_addUnlessHidden_46 : decode cX3_addUnlessHidden 46 = .ok (.getfield 69, 3) := by decide +kernel
theorem dX3_addUnlessHidden_49 : decode cX3_addUnlessHidden 49 = .ok (.if_icmp .ne 4, 3) := by decide +kernel
theorem dX3_addUnlessHidden_52 : decode cX3_addUnlessHidden 52 = .ok (.return_, 1) := by decide +kernel
theorem dX3_addUnlessHidden_53 : decode cX3_addUnlessHidden 53 = .ok (.iinc 2 1, 3) := by decide +kernel
theorem dX3_addUnlessHidden_56 : decode cX3_addUnlessHidden 56 = .ok (.goto (-54), 3) := by decide +kernel
theorem dX3_addUnlessHidden_59 : decode cX3_addUnlessHidden 59 = .ok (.aload_n 0, 1) := by decide +kernel
theorem dX3_addUnlessHidden_60 : decode cX3_addUnlessHidden 60 = .ok (.getfield 42, 3) := by decide +kernel
theorem dX3_addUnlessHidden_63 : decode cX3_addUnlessHidden 63 = .ok (.aload_n 0, 1) := by decide +kernel
theorem dX3_addUnlessHidden_64 : decode cX3_addUnlessHidden 64 = .ok (.getfield 11, 3) := by decide +kernel
theorem dX3_addUnlessHidden_67 : decode cX3_addUnlessHidden 67 = .ok (.arraylength, 1) := by decide +kernel
theorem dX3_addUnlessHidden_68 : decode cX3_addUnlessHidden 68 = .ok (.if_icmp .ge 23, 3) := by decide +kernel
theorem dX3_addUnlessHidden_71 : decode cX3_addUnlessHidden 71 = .ok (.aload_n 0, 1) := by decide +kernel
theorem dX3_addUnlessHidden_72 : decode cX3_addUnlessHidden 72 = .ok (.getfield 11, 3) := by decide +kernel
theorem dX3_addUnlessHidden_75 : decode cX3_addUnlessHidden 75 = .ok (.aload_n 0, 1) := by decide +kernel
theorem dX3_addUnlessHidden_76 : decode cX3_addUnlessHidden 76 = .ok (.getfield 42, 3) := by decide +kernel
theorem dX3_addUnlessHidden_79 : decode cX3_addUnlessHidden 79 = .ok (.aload_n 1, 1) := by decide +kernel
theorem dX3_addUnlessHidden_80 : decode cX3_addUnlessHidden 80 = .ok (.aastore, 1) := by decide +kernel
theorem dX3_addUnlessHidden_81 : decode cX3_addUnlessHidden 81 = .ok (.aload_n 0, 1) := by decide +kernel
theorem dX3_addUnlessHidden_82 : decode cX3_addUnlessHidden 82 = .ok (.dup, 1) := by decide +kernel
theorem dX3_addUnlessHidden_83 : decode cX3_addUnlessHidden 83 = .ok (.getfield 42, 3) := by decide +kernel
theorem dX3_addUnlessHidden_86 : decode cX3_addUnlessHidden 86 = .ok (.iconst 1, 1) := by decide +kernel
theorem dX3_addUnlessHidden_87 : decode cX3_addUnlessHidden 87 = .ok (.iadd, 1) := by decide +kernel
theorem dX3_addUnlessHidden_88 : decode cX3_addUnlessHidden 88 = .ok (.putfield 42, 3) := by decide +kernel
theorem dX3_addUnlessHidden_91 : decode cX3_addUnlessHidden 91 = .ok (.return_, 1) := by decide +kernel
theorem dX3_exact_0 : decode cX3_exact 0 = .ok (.iconst 0, 1) := by decide +kernel
theorem dX3_exact_1 : decode cX3_exact 1 = .ok (.istore_n 3, 1) := by decide +kernel
theorem dX3_exact_2 : decode cX3_exact 2 = .ok (.iload_n 3, 1) := by decide +kernel
theorem dX3_exact_3 : decode cX3_exact 3 = .ok (.aload_n 0, 1) := by decide +kernel
theorem dX3_exact_4 : decode cX3_exact 4 = .ok (.getfield 42, 3) := by decide +kernel
theorem dX3_exact_7 : decode cX3_exact 7 = .ok (.if_icmp .ge 58, 3) := by decide +kernel
theorem dX3_exact_10 : decode cX3_exact 10 = .ok (.iload_n 3, 1) := by decide +kernel
theorem dX3_exact_11 : decode cX3_exact 11 = .ok (.aload_n 0, 1) := by decide +kernel
theorem dX3_exact_12 : decode cX3_exact 12 = .ok (.getfield 11, 3) := by decide +kernel
theorem dX3_exact_15 : decode cX3_exact 15 = .ok (.arraylength, 1) := by decide +kernel
theorem dX3_exact_16 : decode cX3_exact 16 = .ok (.if_icmp .ge 49, 3) := by decide +kernel
theorem dX3_exact_19 : decode cX3_exact 19 = .ok (.aload_n 0, 1) := by decide +kernel
theorem dX3_exact_20 : decode cX3_exact 20 = .ok (.getfield 11, 3) := by decide +kernel
theorem dX3_exact_23 : decode cX3_exact 23 = .ok (.iload_n 3, 1) := by decide +kernel
theorem dX3_exact_24 : decode cX3_exact 24 = .ok (.aaload, 1) := by decide +kernel
theorem dX3_exact_25 : decode cX3_exact 25 = .ok (.astore 4, 2) := by decide +kernel
theorem dX3_exact_27 : decode cX3_exact 27 = .ok (.aload 4, 2) := by decide +kernel
theorem dX3_exact_29 : decode cX3_exact 29 = .ok (.ifnull 30, 3) := by decide +kernel
theorem dX3_exact_32 : decode cX3_exact 32 = .ok (.aload_n 1, 1) := by decide +kernel
theorem dX3_exact_33 : decode cX3_exact 33 = .ok (.getfield 72, 3) := by decide +kernel
theorem dX3_exact_36 : decode cX3_exact 36 = .ok (.aload 4, 2) := by decide +kernel
theorem dX3_exact_38 : decode cX3_exact 38 = .ok (.getfield 66, 3) := by decide +kernel
theorem dX3_exact_41 : decode cX3_exact 41 = .ok (.if_icmp .ne 18, 3) := by decide +kernel
theorem dX3_exact_44 : decode cX3_exact 44 = .ok (.aload_n 2, 1) := by decide +kernel
theorem dX3_exact_45 : decode cX3_exact 45 = .ok (.getfield 72, 3) := by decide +kernel
theorem dX3_exact_48 : decode cX3_exact 48 = .ok (.aload 4, 2) := by decide +kernel
theorem dX3_exact_50 : decode cX3_exact 50 = .ok (.getfield 69, 3) := by decide +kernel
theorem dX3_exact_53 : decode cX3_exact 53 = .ok (.if_icmp .ne 6, 3) := by decide +kernel
theorem dX3_exact_56 : decode cX3_exact 56 = .ok (.aload 4, 2) := by decide +kernel
theorem dX3_exact_58 : decode cX3_exact 58 = .ok (.areturn, 1) := by decide +kernel
theorem dX3_exact_59 : decode cX3_exact 59 = .ok (.iinc 3 1, 3) := by decide +kernel
theorem dX3_exact_62 : decode cX3_exact 62 = .ok (.goto (-60), 3) := by decide +kernel
theorem dX3_exact_65 : decode cX3_exact 65 = .ok (.aconst_null, 1) := by decide +kernel
theorem dX3_exact_66 : decode cX3_exact 66 = .ok (.areturn, 1) := by decide +kernel
theorem dX3_closest_0 : decode cX3_closest 0 = .ok (.aconst_null, 1) := by decide +kernel
theorem dX3_closest_1 : decode cX3_closest 1 = .ok (.astore_n 3, 1) := by decide +kernel
theorem dX3_closest_2 : decode cX3_closest 2 = .ok (.iconst 0, 1) := by decide +kernel
theorem dX3_closest_3 : decode cX3_closest 3 = .ok (.istore 4, 2) := by decide +kernel
theorem dX3_closest_5 : decode cX3_closest 5 = .ok (.iconst 0, 1) := by decide +kernel
theorem dX3_closest_6 : decode cX3_closest 6 = .ok (.istore 5, 2) := by decide +kernel
theorem dX3_closest_8 : decode cX3_closest 8 = .ok (.iload 5, 2) := by decide +kernel
theorem dX3_closest_10 : decode cX3_closest 10 = .ok (.aload_n 0, 1) := by decide +kernel
theorem dX3_closest_11 : decode cX3_closest 11 = .ok (.getfield 42, 3) := by decide +kernel
theorem dX3_closest_14 : decode cX3_closest 14 = .ok (.if_icmp .ge 96, 3) := by decide +kernel
theorem dX3_closest_17 : decode cX3_closest 17 = .ok (.iload 5, 2) := by decide +kernel
theorem dX3_closest_19 : decode cX3_closest 19 = .ok (.aload_n 0, 1) := by decide +kernel
theorem dX3_closest_20 : decode cX3_closest 20 = .ok (.getfield 11, 3) := by decide +kernel
theorem dX3_closest_23 : decode cX3_closest 23 = .ok (.arraylength, 1) := by decide +kernel
theorem dX3_closest_24 : decode cX3_closest 24 = .ok (.if_icmp .ge 86, 3) := by decide +kernel
theorem dX3_closest_27 : decode cX3_closest 27 = .ok (.aload_n 0, 1) := by decide +kernel
theorem dX3_closest_28 : decode cX3_closest 28 = .ok (.getfield 11, 3) := by decide +kernel
theorem dX3_closest_31 : decode cX3_closest 31 = .ok (.iload 5, 2) := by decide +kernel
theorem dX3_closest_33 : decode cX3_closest 33 = .ok (.aaload, 1) := by decide +kernel
theorem dX3_closest_34 : decode cX3_closest 34 = .ok (.astore 6, 2) := by decide +kernel
theorem dX3_closest_36 : decode cX3_closest 36 = .ok (.aload 6, 2) := by decide +kernel
theorem dX3_closest_38 : decode cX3_closest 38 = .ok (.ifnull 66, 3) := by decide +kernel
theorem dX3_closest_41 : decode cX3_closest 41 = .ok (.aload_n 1, 1) := by decide +kernel
theorem dX3_closest_42 : decode cX3_closest 42 = .ok (.aload 6, 2) := by decide +kernel
theorem dX3_closest_44 : decode cX3_closest 44 = .ok (.getfield 66, 3) := by decide +kernel
theorem dX3_closest_47 : decode cX3_closest 47 = .ok (.invokevirtual 77, 3) := by decide +kernel
theorem dX3_closest_50 : decode cX3_closest 50 = .ok (.ifCond .eq 54, 3) := by decide +kernel
theorem dX3_closest_53 : decode cX3_closest 53 = .ok (.aload_n 2, 1) := by decide +kernel
theorem dX3_closest_54 : decode cX3_closest 54 = .ok (.aload 6, 2) := by decide +kernel
theorem dX3_closest_56 : decode cX3_closest 56 = .ok (.getfield 69, 3) := by decide +kernel
theorem dX3_closest_59 : decode cX3_closest 59 = .ok (.invokevirtual 77, 3) := by decide +kernel
theorem dX3_closest_62 : decode cX3_closest 62 = .ok (.ifCond .eq 42, 3) := by decide +kernel
theorem dX3_closest_65 : decode cX3_closest 65 = .ok (.aload_n 1, 1) := by decide +kernel
theorem dX3_closest_66 : decode cX3_closest 66 = .ok (.aload 6, 2) := by decide +kernel
theorem dX3_closest_68 : decode cX3_closest 68 = .ok (.getfield 66, 3) := by decide +kernel
theorem dX3_closest_71 : decode cX3_closest 71 = .ok (.invokevirtual 81, 3) := by decide +kernel
theorem dX3_closest_74 : decode cX3_closest 74 = .ok (.aload_n 2, 1) := by decide +kernel
theorem dX3_closest_75 : decode cX3_closest 75 = .ok (.aload 6, 2) := by decide +kernel
theorem dX3_closest_77 : decode cX3_closest 77 = .ok (.getfield 69, 3) := by decide +kernel
theorem dX3_closest_80 : decode cX3_closest 80 = .ok (.invokevirtual 81, 3) := by decide +kernel
theorem dX3_closest_83 : decode cX3_closest 83 = .ok (.iadd, 1) := by decide +kernel
theorem dX3_closest_84 : decode cX3_closest 84 = .ok (.istore 7, 2) := by decide +kernel
theorem dX3_closest_86 : decode cX3_closest 86 = .ok (.aload_n 3, 1) := by decide +kernel
theorem dX3_closest_87 : decode cX3_closest 87 = .ok (.ifnull 10, 3) := by decide +kernel
theorem dX3_closest_90 : decode cX3_closest 90 = .ok (.iload 7, 2) := by decide +kernel
theorem dX3_closest_92 : decode cX3_closest 92 = .ok (.iload 4, 2) := by decide +kernel
theorem dX3_closest_94 : decode cX3_closest 94 = .ok (.if_icmp .ge 10, 3) := by decide +kernel
theorem dX3_closest_97 : decode cX3_closest 97 = .ok (.aload 6, 2) := by decide +kernel
theorem dX3_closest_99 : decode cX3_closest 99 = .ok (.astore_n 3, 1) := by decide +kernel
theorem dX3_closest_100 : decode cX3_closest 100 = .ok (.iload 7, 2) := by decide +kernel
theorem dX3_closest_102 : decode cX3_closest 102 = .ok (.istore 4, 2) := by decide +kernel
theorem dX3_closest_104 : decode cX3_closest 104 = .ok (.iinc 5 1, 3) := by decide +kernel
theorem dX3_closest_107 : decode cX3_closest 107 = .ok (.goto (-99), 3) := by decide +kernel
theorem dX3_closest_110 : decode cX3_closest 110 = .ok (.aload_n 3, 1) := by decide +kernel
theorem dX3_closest_111 : decode cX3_closest 111 = .ok (.areturn, 1) := by decide +kernel
theorem dX3_convertible_0 : decode cX3_convertible 0 = .ok (.aconst_null, 1) := by decide +kernel
theorem dX3_convertible_1 : decode cX3_convertible 1 = .ok (.astore 4, 2) := by decide +kernel
theorem dX3_convertible_3 : decode cX3_convertible 3 = .ok (.iconst 0, 1) := by decide +kernel
theorem dX3_convertible_4 : decode cX3_convertible 4 = .ok (.istore 5, 2) := by decide +kernel
theorem dX3_convertible_6 : decode cX3_convertible 6 = .ok (.iload 5, 2) := by decide +kernel
theorem dX3_convertible_8 : decode cX3_convertible 8 = .ok (.aload_n 0, 1) := by decide +kernel
theorem dX3_convertible_9 : decode cX3_convertible 9 = .ok (.getfield 42, 3) := by decide +kernel
theorem dX3_convertible_12 : decode cX3_convertible 12 = .ok (.if_icmp .ge 76, 3) := by decide +kernel
theorem dX3_convertible_15 : decode cX3_convertible 15 = .ok (.iload 5, 2) := by decide +kernel
theorem dX3_convertible_17 : decode cX3_convertible 17 = .ok (.aload_n 0, 1) := by decide +kernel
theorem dX3_convertible_18 : decode cX3_convertible 18 = .ok (.getfield 11, 3) := by decide +kernel
theorem dX3_convertible_21 : decode cX3_convertible 21 = .ok (.arraylength, 1) := by decide +kernel
theorem dX3_convertible_22 : decode cX3_convertible 22 = .ok (.if_icmp .ge 66, 3) := by decide +kernel
theorem dX3_convertible_25 : decode cX3_convertible 25 = .ok (.aload_n 0, 1) := by decide +kernel
theorem dX3_convertible_26 : decode cX3_convertible 26 = .ok (.getfield 11, 3) := by decide +kernel
theorem dX3_convertible_29 : decode cX3_convertible 29 = .ok (.iload 5, 2) := by decide +kernel
theorem dX3_convertible_31 : decode cX3_convertible 31 = .ok (.aaload, 1) := by decide +kernel
theorem dX3_convertible_32 : decode cX3_convertible 32 = .ok (.astore 6, 2) := by decide +kernel
theorem dX3_convertible_34 : decode cX3_convertible 34 = .ok (.aload 6, 2) := by decide +kernel
theorem dX3_convertible_36 : decode cX3_convertible 36 = .ok (.ifnull 46, 3) := by decide +kernel
theorem dX3_convertible_39 : decode cX3_convertible 39 = .ok (.aload_n 3, 1) := by decide +kernel
theorem dX3_convertible_40 : decode cX3_convertible 40 = .ok (.aload_n 1, 1) := by decide +kernel
theorem dX3_convertible_41 : decode cX3_convertible 41 = .ok (.aload 6, 2) := by decide +kernel
theorem dX3_convertible_43 : decode cX3_convertible 43 = .ok (.getfield 66, 3) := by decide +kernel
theorem dX3_convertible_46 : decode cX3_convertible 46 = .ok (.invokevirtual 85, 3) := by decide +kernel
theorem dX3_convertible_49 : decode cX3_convertible 49 = .ok (.ifCond .eq 33, 3) := by decide +kernel
theorem dX3_convertible_52 : decode cX3_convertible 52 = .ok (.aload_n 3, 1) := by decide +kernel
theorem dX3_convertible_53 : decode cX3_convertible 53 = .ok (.aload_n 2, 1) := by decide +kernel
theorem dX3_convertible_54 : decode cX3_convertible 54 = .ok (.aload 6, 2) := by decide +kernel
theorem dX3_convertible_56 : decode cX3_convertible 56 = .ok (.getfield 69, 3) := by decide +kernel
theorem dX3_convertible_59 : decode cX3_convertible 59 = .ok (.invokevirtual 85, 3) := by decide +kernel
theorem dX3_convertible_62 : decode cX3_convertible 62 = .ok (.ifCond .eq 20, 3) := by decide +kernel
theorem dX3_convertible_65 : decode cX3_convertible 65 = .ok (.aload 4, 2) := by decide +kernel
theorem dX3_convertible_67 : decode cX3_convertible 67 = .ok (.ifnull 11, 3) := by decide +kernel
theorem dX3_convertible_70 : decode cX3_convertible 70 = .ok (.aload_n 0, 1) := by decide +kernel
theorem dX3_convertible_71 : decode cX3_convertible 71 = .ok (.bipush 7, 2) := by decide +kernel
theorem dX3_convertible_73 : decode cX3_convertible 73 = .ok (.putfield 91, 3) := by decide +kernel
theorem dX3_convertible_76 : decode cX3_convertible 76 = .ok (.aconst_null, 1) := by decide +kernel
theorem dX3_convertible_77 : decode cX3_convertible 77 = .ok (.areturn, 1) := by decide +kernel
theorem dX3_convertible_78 : decode cX3_convertible 78 = .ok (.aload 6, 2) := by decide +kernel
theorem dX3_convertible_80 : decode cX3_convertible 80 = .ok (.astore 4, 2) := by decide +kernel
theorem dX3_convertible_82 : decode cX3_convertible 82 = .ok (.iinc 5 1, 3) := by decide +kernel
theorem dX3_convertible_85 : decode cX3_convertible 85 = .ok (.goto (-79), 3) := by decide +kernel
theorem dX3_convertible_88 : decode cX3_convertible 88 = .ok (.aload_n 0, 1) := by decide +kernel
theorem dX3_convertible_89 : decode cX3_convertible 89 = .ok (.bipush 8, 2) := by decide +kernel
theorem dX3_convertible_91 : decode cX3_convertible 91 = .ok (.putfield 91, 3) := by decide +kernel
theorem dX3_convertible_94 : decode cX3_convertible 94 = .ok (.aload 4, 2) := by decide +kernel
theorem dX3_convertible_96 : decode cX3_convertible 96 = .ok (.areturn, 1) := by decide +kernel
theorem dX4_init_0 : decode cX4_init 0 = .ok (.aload_n 0, 1) := by decide +kernel
theorem dX4_init_1 : decode cX4_init 1 = .ok (.invokespecial 3, 3) := by decide +kernel
theorem dX4_init_4 : decode cX4_init 4 = .ok (.aload_n 0, 1) := by decide +kernel
theorem dX4_init_5 : decode cX4_init 5 = .ok (.bipush 40, 2) := by decide +kernel
theorem dX4_init_7 : decode cX4_init 7 = .ok (.newarray .char, 2) := by decide +kernel
theorem dX4_init_9 : decode cX4_init 9 = .ok (.putfield 9, 3) := by decide +kernel
theorem dX4_init_12 : decode cX4_init 12 = .ok (.aload_n 0, 1) := by decide +kernel
theorem dX4_init_13 : decode cX4_init 13 = .ok (.bipush 41, 2) := by decide +kernel
theorem dX4_init_15 : decode cX4_init 15 = .ok (.newarray .int, 2) := by decide +kernel
theorem dX4_init_17 : decode cX4_init 17 = .ok (.putfield 15, 3) := by decide +kernel
theorem dX4_init_20 : decode cX4_init 20 = .ok (.aload_n 0, 1) := by decide +kernel
theorem dX4_init_21 : decode cX4_init 21 = .ok (.bipush 41, 2) := by decide +kernel
theorem dX4_init_23 : decode cX4_init 23 = .ok (.newarray .int, 2) := by decide +kernel
theorem dX4_init_25 : decode cX4_init 25 = .ok (.putfield 19, 3) := by decide +kernel
theorem dX4_init_28 : decode cX4_init 28 = .ok (.aload_n 0, 1) := by decide +kernel
theorem dX4_init_29 : decode cX4_init 29 = .ok (.bipush 41, 2) := by decide +kernel
theorem dX4_init_31 : decode cX4_init 31 = .ok (.newarray .int, 2) := by decide +kernel
theorem dX4_init_33 : decode cX4_init 33 = .ok (.putfield 22, 3) := by decide +kernel
theorem dX4_init_36 : decode cX4_init 36 = .ok (.aload_n 0, 1) := by decide +kernel
theorem dX4_init_37 : decode cX4_init 37 = .ok (.bipush 41, 2) := by decide +kernel
theorem dX4_init_39 : decode cX4_init 39 = .ok (.anewarray 25, 3) := by decide +kernel
theorem dX4_init_42 : decode cX4_init 42 = .ok (.putfield 27, 3) := by decide +kernel
theorem dX4_init_45 : decode cX4_init 45 = .ok (.aload_n 0, 1) := by decide +kernel
theorem dX4_init_46 : decode cX4_init 46 = .ok (.new 31, 3) := by decide +kernel
theorem dX4_init_49 : decode cX4_init 49 = .ok (.dup, 1) := by decide +kernel
theorem dX4_init_50 : decode cX4_init 50 = .ok (.invokespecial 33, 3) := by decide +kernel
theorem dX4_init_53 : decode cX4_init 53 = .ok (.putfield 34, 3) := by decide +kernel
theorem dX4_init_56 : decode cX4_init 56 = .ok (.return_, 1) := by decide +kernel
theorem dX4_append_0 : decode cX4_append 0 = .ok (.aload_n 0, 1) := by decide +kernel
theorem dX4_append_1 : decode cX4_append 1 = .ok (.getfield 38, 3) := by decide +kernel
theorem dX4_append_4 : decode cX4_append 4 = .ok (.aload_n 0, 1) := by decide +kernel
theorem dX4_append_5 : decode cX4_append 5 = .ok (.getfield 9, 3) := by decide +kernel
theorem dX4_append_8 : decode cX4_append 8 = .ok (.arraylength, 1) := by decide +kernel
theorem dX4_append_9 : decode cX4_append 9 = .ok (.if_icmp .ge 23, 3) := by decide +kernel
theorem dX4_append_12 : decode cX4_append 12 = .ok (.aload_n 0, 1) := by decide +kernel
theorem dX4_append_13 : decode cX4_append 13 = .ok (.getfield 9, 3) := by decide +kernel
theorem dX4_append_16 : decode cX4_append 16 = .ok (.aload_n 0, 1) := by decide +kernel
theorem dX4_append_17 : decode cX4_append 17 = .ok (.getfield 38, 3) := by decide +kernel
theorem dX4_append_20 : decode cX4_append 20 = .ok (.iload_n 1, 1) := by decide +kernel
theorem dX4_append_21 : decode cX4_append 21 = .ok (.castore, 1) := by decide +kernel
theorem dX4_append_22 : decode cX4_append 22 = .ok (.aload_n 0, 1) := by decide +kernel
theorem dX4_append_23 : decode cX4_append 23 = .ok (.dup, 1) := by decide +kernel
theorem dX4_append_24 : decode cX4_append 24 = .ok (.getfield 38, 3) := by decide +kernel
theorem dX4_append_27 : decode cX4_append 27 = .ok (.iconst 1, 1) := by decide +kernel
theorem dX4_append_28 : decode cX4_append 28 = .ok (.iadd, 1) := by decide +kernel
theorem dX4_append_29 : decode cX4_append 29 = .ok (.putfield 38, 3) := by decide +kernel
theorem dX4_append_32 : decode cX4_append 32 = .ok (.return_, 1) := by decide +kernel
theorem dX4_kindAt_0 : decode cX4_kindAt 0 = .ok (.iload_n 1, 1) := by decide +kernel
theorem dX4_kindAt_1 : decode cX4_kindAt 1 = .ok (.ifCond .lt 29, 3) := by decide +kernel
theorem dX4_kindAt_4 : decode cX4_kindAt 4 = .ok (.iload_n 1, 1) := by decide +kernel
theorem dX4_kindAt_5 : decode cX4_kindAt 5 = .ok (.aload_n 0, 1) := by decide +kernel
theorem dX4_kindAt_6 : decode cX4_kindAt 6 = .ok (.getfield 42, 3) := by decide +kernel
theorem dX4_kindAt_9 : decode cX4_kindAt 9 = .ok (.if_icmp .ge 21, 3) := by decide +kernel
theorem dX4_kindAt_12 : decode cX4_kindAt 12 = .ok (.iload_n 1, 1) := by decide +kernel
theorem dX4_kindAt_13 : decode cX4_kindAt 13 = .ok (.aload_n 0, 1) := by decide +kernel
theorem dX4_kindAt_14 : decode cX4_kindAt 14 = .ok (.getfield 15, 3) := by decide +kernel
theorem dX4_kindAt_17 : decode cX4_kindAt 17 = .ok (.arraylength, 1) := by decide +kernel
theorem dX4_kindAt_18 : decode cX4_kindAt 18 = .ok (.if_icmp .ge 12, 3) := by decide +kernel
theorem dX4_kindAt_21 : decode cX4_kindAt 21 = .ok (.aload_n 0, 1) := by decide +kernel
theorem dX4_kindAt_22 : decode cX4_kindAt 22 = .ok (.getfield 15, 3) := by decide +kernel
theorem dX4_kindAt_25 : decode cX4_kindAt 25 = .ok (.iload_n 1, 1) := by decide +kernel
theorem dX4_kindAt_26 : decode cX4_kindAt 26 = .ok (.iaload, 1) := by decide +kernel
theorem dX4_kindAt_27 : decode cX4_kindAt 27 = .ok (.goto 4, 3) := by decide +kernel
theorem dX4_kindAt_30 : decode cX4_kindAt 30 = .ok (.iconst 0, 1) := by decide +kernel
theorem dX4_kindAt_31 : decode cX4_kindAt 31 = .ok (.ireturn, 1) := by decide +kernel
theorem dX4_placeAt_0 : decode cX4_placeAt 0 = .ok (.iload_n 1, 1) := by decide +kernel
theorem dX4_placeAt_1 : decode cX4_placeAt 1 = .ok (.ifCond .lt 29, 3) := by decide +kernel
theorem dX4_placeAt_4 : decode cX4_placeAt 4 = .ok (.iload_n 1, 1) := by decide +kernel
theorem dX4_placeAt_5 : decode cX4_placeAt 5 = .ok (.aload_n 0, 1) := by decide +kernel
theorem dX4_placeAt_6 : decode cX4_placeAt 6 = .ok (.getfield 42, 3) := by decide +kernel
theorem dX4_placeAt_9 : decode cX4_placeAt 9 = .ok (.if_icmp .ge 21, 3) := by decide +kernel
theorem dX4_placeAt_12 : decode cX4_placeAt 12 = .ok (.iload_n 1, 1) := by decide +kernel
theorem dX4_placeAt_13 : decode cX4_placeAt 13 = .ok (.aload_n 0, 1) := by decide +kernel
theorem dX4_placeAt_14 : decode cX4_placeAt 14 = .ok (.getfield 19, 3) := by decide +kernel
theorem dX4_placeAt_17 : decode cX4_placeAt 17 = .ok (.arraylength, 1) := by decide +kernel
theorem dX4_placeAt_18 : decode cX4_placeAt 18 = .ok (.if_icmp .ge 12, 3) := by decide +kernel
theorem dX4_placeAt_21 : decode cX4_placeAt 21 = .ok (.aload_n 0, 1) := by decide +kernel
theorem dX4_placeAt_22 : decode cX4_placeAt 22 = .ok (.getfield 19, 3) := by decide +kernel
theorem dX4_placeAt_25 : decode cX4_placeAt 25 = .ok (.iload_n 1, 1) := by decide +kernel
theorem dX4_placeAt_26 : decode cX4_placeAt 26 = .ok (.iaload, 1) := by decide +kernel
theorem dX4_placeAt_27 : decode cX4_placeAt 27 = .ok (.goto 4, 3) := by decide +kernel
theorem dX4_placeAt_30 : decode cX4_placeAt 30 = .ok (.iconst 0, 1) := by decide +kernel
theorem dX4_placeAt_31 : decode cX4_placeAt 31 = .ok (.ireturn, 1) := by decide +kernel
theorem dX4_nameAt_0 : decode cX4_nameAt 0 = .ok (.iload_n 1, 1) := by decide +kernel
theorem dX4_nameAt_1 : decode cX4_nameAt 1 = .ok (.ifCond .lt 29, 3) := by decide +kernel
theorem dX4_nameAt_4 : decode cX4_nameAt 4 = .ok (.iload_n 1, 1) := by decide +kernel
theorem dX4_nameAt_5 : decode cX4_nameAt 5 = .ok (.aload_n 0, 1) := by decide +kernel
theorem dX4_nameAt_6 : decode cX4_nameAt 6 = .ok (.getfield 42, 3) := by decide +kernel
theorem dX4_nameAt_9 : decode cX4_nameAt 9 = .ok (.if_icmp .ge 21, 3) := by decide +kernel
theorem dX4_nameAt_12 : decode cX4_nameAt 12 = .ok (.iload_n 1, 1) := by decide +kernel
theorem dX4_nameAt_13 : decode cX4_nameAt 13 = .ok (.aload_n 0, 1) := by decide +kernel
theorem dX4_nameAt_14 : decode cX4_nameAt 14 = .ok (.getfield 22, 3) := by decide +kernel
theorem dX4_nameAt_17 : decode cX4_nameAt 17 = .ok (.arraylength, 1) := by decide +kernel
theorem dX4_nameAt_18 : decode cX4_nameAt 18 = .ok (.if_icmp .ge 12, 3) := by decide +kernel
theorem dX4_nameAt_21 : decode cX4_nameAt 21 = .ok (.aload_n 0, 1) := by decide +kernel
theorem dX4_nameAt_22 : decode cX4_nameAt 22 = .ok (.getfield 22, 3) := by decide +kernel
theorem dX4_nameAt_25 : decode cX4_nameAt 25 = .ok (.iload_n 1, 1) := by decide +kernel
theorem dX4_nameAt_26 : decode cX4_nameAt 26 = .ok (.iaload, 1) := by decide +kernel
theorem dX4_nameAt_27 : decode cX4_nameAt 27 = .ok (.goto 4, 3) := by decide +kernel
theorem dX4_nameAt_30 : decode cX4_nameAt 30 = .ok (.iconst 0, 1) := by decide +kernel
theorem dX4_nameAt_31 : decode cX4_nameAt 31 = .ok (.ireturn, 1) := by decide +kernel
theorem dX4_literalAt_0 : decode cX4_literalAt 0 = .ok (.iload_n 1, 1) := by decide +kernel
theorem dX4_literalAt_1 : decode cX4_literalAt 1 = .ok (.ifCond .lt 29, 3) := by decide +kernel
theorem dX4_literalAt_4 : decode cX4_literalAt 4 = .ok (.iload_n 1, 1) := by decide +kernel
theorem dX4_literalAt_5 : decode cX4_literalAt 5 = .ok (.aload_n 0, 1) := by decide +kernel
theorem dX4_literalAt_6 : decode cX4_literalAt 6 = .ok (.getfield 42, 3) := by decide +kernel
theorem dX4_literalAt_9 : decode cX4_literalAt 9 = .ok (.if_icmp .ge 21, 3) := by decide +kernel
theorem dX4_literalAt_12 : decode cX4_literalAt 12 = .ok (.iload_n 1, 1) := by decide +kernel
theorem dX4_literalAt_13 : decode cX4_literalAt 13 = .ok (.aload_n 0, 1) := by decide +kernel
theorem dX4_literalAt_14 : decode cX4_literalAt 14 = .ok (.getfield 27, 3) := by decide +kernel
theorem dX4_literalAt_17 : decode cX4_literalAt 17 = .ok (.arraylength, 1) := by decide +kernel
theorem dX4_literalAt_18 : decode cX4_literalAt 18 = .ok (.if_icmp .ge 12, 3) := by decide +kernel
theorem dX4_literalAt_21 : decode cX4_literalAt 21 = .ok (.aload_n 0, 1) := by decide +kernel
theorem dX4_literalAt_22 : decode cX4_literalAt 22 = .ok (.getfield 27, 3) := by decide +kernel
theorem dX4_literalAt_25 : decode cX4_literalAt 25 = .ok (.iload_n 1, 1) := by decide +kernel
theorem dX4_literalAt_26 : decode cX4_literalAt 26 = .ok (.aaload, 1) := by decide +kernel
theorem dX4_literalAt_27 : decode cX4_literalAt 27 = .ok (.goto 4, 3) := by decide +kernel
theorem dX4_literalAt_30 : decode cX4_literalAt 30 = .ok (.aconst_null, 1) := by decide +kernel
theorem dX4_literalAt_31 : decode cX4_literalAt 31 = .ok (.areturn, 1) := by decide +kernel
theorem dX4_cut_0 : decode cX4_cut 0 = .ok (.aload_n 0, 1) := by decide +kernel
theorem dX4_cut_1 : decode cX4_cut 1 = .ok (.iconst 0, 1) := by decide +kernel
theorem dX4_cut_2 : decode cX4_cut 2 = .ok (.putfield 42, 3) := by decide +kernel
theorem dX4_cut_5 : decode cX4_cut 5 = .ok (.iconst 0, 1) := by decide +kernel
theorem dX4_cut_6 : decode cX4_cut 6 = .ok (.istore_n 1, 1) := by decide +kernel
theorem dX4_cut_7 : decode cX4_cut 7 = .ok (.iload_n 1, 1) := by decide +kernel
theorem dX4_cut_8 : decode cX4_cut 8 = .ok (.aload_n 0, 1) := by decide +kernel
theorem dX4_cut_9 : decode cX4_cut 9 = .ok (.getfield 38, 3) := by decide +kernel
theorem dX4_cut_12 : decode cX4_cut 12 = .ok (.if_icmp .ge 37, 3) := by decide +kernel
theorem dX4_cut_15 : decode cX4_cut 15 = .ok (.aload_n 0, 1) := by decide +kernel
theorem dX4_cut_16 : decode cX4_cut 16 = .ok (.iload_n 1, 1) := by decide +kernel
theorem dX4_cut_17 : decode cX4_cut 17 = .ok (.invokevirtual 45, 3) := by decide +kernel
theorem dX4_cut_20 : decode cX4_cut 20 = .ok (.bipush 32, 2) := by decide +kernel
theorem dX4_cut_22 : decode cX4_cut 22 = .ok (.if_icmp .ne 9, 3) := by decide +kernel
theorem dX4_cut_25 : decode cX4_cut 25 = .ok (.iload_n 1, 1) := by decide +kernel
theorem dX4_cut_26 : decode cX4_cut 26 = .ok (.iconst 1, 1) := by decide +kernel
theorem dX4_cut_27 : decode cX4_cut 27 = .ok (.iadd, 1) := by decide +kernel
theorem dX4_cut_28 : decode cX4_cut 28 = .ok (.goto 8, 3) := by decide +kernel
theorem dX4_cut_31 : decode cX4_cut 31 = .ok (.aload_n 0, 1) := by decide +kernel
theorem dX4_cut_32 : decode cX4_cut 32 = .ok (.iload_n 1, 1) := by decide +kernel
theorem dX4_cut_33 : decode cX4_cut 33 = .ok (.invokevirtual 49, 3) := by decide +kernel
theorem dX4_cut_36 : decode cX4_cut 36 = .ok (.istore_n 2, 1) := by decide +kernel
theorem dX4_cut_37 : decode cX4_cut 37 = .ok (.iload_n 2, 1) := by decide +kernel
theorem dX4_cut_38 : decode cX4_cut 38 = .ok (.iload_n 1, 1) := by decide +kernel
theorem dX4_cut_39 : decode cX4_cut 39 = .ok (.if_icmp .gt 5, 3) := by decide +kernel
theorem dX4_cut_42 : decode cX4_cut 42 = .ok (.iload_n 1, 1) := by decide +kernel
theorem dX4_cut_43 : decode cX4_cut 43 = .ok (.ireturn, 1) := by decide +kernel
theorem dX4_cut_44 : decode cX4_cut 44 = .ok (.iload_n 2, 1) := by decide +kernel
theorem dX4_cut_45 : decode cX4_cut 45 = .ok (.istore_n 1, 1) := by decide +kernel
theorem dX4_cut_46 : decode cX4_cut 46 = .ok (.goto (-39), 3) := by decide +kernel
theorem dX4_cut_49 : decode cX4_cut 49 = .ok (.aload_n 0, 1) := by decide +kernel
theorem dX4_cut_50 : decode cX4_cut 50 = .ok (.iconst 0, 1) := by decide +kernel
theorem dX4_cut_51 : decode cX4_cut 51 = .ok (.aload_n 0, 1) := by decide +kernel
theorem dX4_cut_52 : decode cX4_cut 52 = .ok (.getfield 38, 3) := by decide +kernel
theorem dX4_cut_55 : decode cX4_cut 55 = .ok (.iconst 0, 1) := by decide +kernel
theorem dX4_cut_56 : decode cX4_cut 56 = .ok (.aconst_null, 1) := by decide +kernel
theorem dX4_cut_57 : decode cX4_cut 57 = .ok (.invokevirtual 53, 3) := by decide +kernel
theorem dX4_cut_60 : decode cX4_cut 60 = .ok (.iconst (-1), 1) := by decide +kernel
theorem dX4_cut_61 : decode cX4_cut 61 = .ok (.ireturn, 1) := by decide +kernel
theorem dX4_token_0 : decode cX4_token 0 = .ok (.aload_n 0, 1) := by decide +kernel
theorem dX4_token_1 : decode cX4_token 1 = .ok (.iload_n 1, 1) := by decide +kernel
theorem dX4_token_2 : decode cX4_token 2 = .ok (.invokevirtual 45, 3) := by decide +kernel
theorem dX4_token_5 : decode cX4_token 5 = .ok (.istore_n 2, 1) := by decide +kernel
theorem dX4_token_6 : decode cX4_token 6 = .ok (.iload_n 2, 1) := by decide +kernel
theorem dX4_token_7 : decode cX4_token 7 = .ok (.invokestatic 57, 3) := by decide +kernel
theorem dX4_token_10 : decode cX4_token 10 = .ok (.ifCond .eq 9, 3) := by decide +kernel
theorem dX4_token_13 : decode cX4_token 13 = .ok (.aload_n 0, 1) := by decide +kernel
theorem dX4_token_14 : decode cX4_token 14 = .ok (.iload_n 1, 1) := by decide +kernel
theorem dX4_token_15 : decode cX4_token 15 = .ok (.invokevirtual 61, 3) := by decide +kernel
theorem dX4_token_18 : decode cX4_token 18 = .ok (.ireturn, 1) := by decide +kernel
theorem dX4_token_19 : decode cX4_token 19 = .ok (.iload_n 2, 1) := by decide +kernel
theorem dX4_token_20 : decode cX4_token 20 = .ok (.invokestatic 64, 3) := by decide +kernel
theorem dX4_token_23 : decode cX4_token 23 = .ok (.ifCond .eq 9, 3) := by decide +kernel
theorem dX4_token_26 : decode cX4_token 26 = .ok (.aload_n 0, 1) := by decide +kernel
theorem dX4_token_27 : decode cX4_token 27 = .ok (.iload_n 1, 1) := by decide +kernel
theorem dX4_token_28 : decode cX4_token 28 = .ok (.invokevirtual 67, 3) := by decide +kernel
theorem dX4_token_31 : decode cX4_token 31 = .ok (.ireturn, 1) := by decide +kernel
theorem dX4_token_32 : decode cX4_token 32 = .ok (.iload_n 2, 1) := by decide +kernel
theorem dX4_token_33 : decode cX4_token 33 = .ok (.bipush 39, 2) := by decide +kernel
theorem dX4_token_35 : decode cX4_token 35 = .ok (.if_icmp .ne 11, 3) := by decide +kernel
theorem dX4_token_38 : decode cX4_token 38 = .ok (.aload_n 0, 1) := by decide +kernel
theorem dX4_token_39 : decode cX4_token 39 = .ok (.iload_n 1, 1) := by decide +kernel
theorem dX4_token_40 : decode cX4_token 40 = .ok (.invokevirtual 70, 3) := by decide +kernel
theorem dX4_token_43 : decode cX4_token 43 = .ok (.goto 8, 3) := by decide +kernel
theorem dX4_token_46 : decode cX4_token 46 = .ok (.aload_n 0, 1) := by decide +kernel
theorem dX4_token_47 : decode cX4_token 47 = .ok (.iload_n 1, 1) := by decide +kernel
theorem dX4_token_48 : decode cX4_token 48 = .ok (.invokevirtual 73, 3) := by decide +kernel
theorem dX4_token_51 : decode cX4_token 51 = .ok (.ireturn, 1) := by decide +kernel
theorem dX4_number_0 : decode cX4_number 0 = .ok (.aload_n 0, 1) := by decide +kernel
theorem dX4_number_1 : decode cX4_number 1 = .ok (.iload_n 1, 1) := by decide +kernel
theorem dX4_number_2 : decode cX4_number 2 = .ok (.invokevirtual 76, 3) := by decide +kernel
theorem dX4_number_5 : decode cX4_number 5 = .ok (.istore_n 2, 1) := by decide +kernel
theorem dX4_number_6 : decode cX4_number 6 = .ok (.iload_n 2, 1) := by decide +kernel
theorem dX4_number_7 : decode cX4_number 7 = .ok (.iload_n 1, 1) := by decide +kernel
theorem dX4_number_8 : decode cX4_number 8 = .ok (.isub, 1) := by decide +kernel
theorem dX4_number_9 : decode cX4_number 9 = .ok (.bipush 6, 2) := by decide +kernel
theorem dX4_number_11 : decode cX4_number 11 = .ok (.if_icmp .le 5, 3) := by decide +kernel
theorem dX4_number_14 : decode cX4_number 14 = .ok (.iconst (-1), 1) := by decide +kernel
theorem dX4_number_15 : decode cX4_number 15 = .ok (.ireturn, 1) := by decide +kernel
theorem dX4_number_16 : decode cX4_number 16 = .ok (.aload_n 0, 1) := by decide +kernel
theorem dX4_number_17 : decode cX4_number 17 = .ok (.iload_n 2, 1) := by decide +kernel
theorem dX4_number_18 : decode cX4_number 18 = .ok (.invokevirtual 45, 3) := by decide +kernel
theorem dX4_number_21 : decode cX4_number 21 = .ok (.bipush 46, 2) := by decide +kernel
theorem dX4_number_23 : decode cX4_number 23 = .ok (.if_icmp .ne 13, 3) := by decide +kernel
theorem dX4_number_26 : decode cX4_number 26 = .ok (.aload_n 0, 1) := by decide +kernel
theorem dX4_number_27 : decode cX4_number 27 = .ok (.iload_n 2, 1) := by decide +kernel
theorem dX4_number_28 : decode cX4_number 28 = .ok (.iconst 1, 1) := by decide +kernel
theorem dX4_number_29 : decode cX4_number 29 = .ok (.iadd, 1) := by decide +kernel
theorem dX4_number_30 : decode cX4_number 30 = .ok (.invokevirtual 76, 3) := by decide +kernel
theorem dX4_number_33 : decode cX4_number 33 = .ok (.goto 4, 3) := by decide +kernel
theorem dX4_number_36 : decode cX4_number 36 = .ok (.iload_n 2, 1) := by decide +kernel
theorem dX4_number_37 : decode cX4_number 37 = .ok (.istore_n 3, 1) := by decide +kernel
theorem dX4_number_38 : decode cX4_number 38 = .ok (.iload_n 3, 1) := by decide +kernel
theorem dX4_number_39 : decode cX4_number 39 = .ok (.iload_n 2, 1) := by decide +kernel
theorem dX4_number_40 : decode cX4_number 40 = .ok (.iconst 1, 1) := by decide +kernel
theorem dX4_number_41 : decode cX4_number 41 = .ok (.iadd, 1) := by decide +kernel
theorem dX4_number_42 : decode cX4_number 42 = .ok (.if_icmp .gt 22, 3) := by decide +kernel
theorem dX4_number_45 : decode cX4_number 45 = .ok (.aload_n 0, 1) := by decide +kernel
theorem dX4_number_46 : decode cX4_number 46 = .ok (.iconst 1, 1) := by decide +kernel
theorem dX4_number_47 : decode cX4_number 47 = .ok (.iload_n 1, 1) := by decide +kernel
theorem dX4_number_48 : decode cX4_number 48 = .ok (.iconst 0, 1) := by decide +kernel
theorem dX4_number_49 : decode cX4_number 49 = .ok (.aload_n 0, 1) := by decide +kernel
theorem dX4_number_50 : decode cX4_number 50 = .ok (.iload_n 1, 1) := by decide +kernel
theorem dX4_number_51 : decode cX4_number 51 = .ok (.iload_n 2, 1) := by decide +kernel
theorem dX4_number_52 : decode cX4_number 52 = .ok (.iconst 0, 1) := by decide +kernel
theorem dX4_number_53 : decode cX4_number 53 = .ok (.invokevirtual 79, 3) := by decide +kernel
theorem dX4_number_56 : decode cX4_number 56 = .ok (.invokestatic 83, 3) := by decide +kernel
theorem dX4_number_59 : decode cX4_number 59 = .ok (.invokevirtual 53, 3) := by decide +kernel
theorem dX4_number_62 : decode cX4_number 62 = .ok (.iload_n 2, 1) := by decide +kernel
theorem dX4_number_63 : decode cX4_number 63 = .ok (.ireturn, 1) := by decide +kernel
theorem dX4_number_64 : decode cX4_number 64 = .ok (.iload_n 3, 1) := by decide +kernel
theorem dX4_number_65 : decode cX4_number 65 = .ok (.iload_n 2, 1) := by decide +kernel
theorem dX4_number_66 : decode cX4_number 66 = .ok (.isub, 1) := by decide +kernel
theorem dX4_number_67 : decode cX4_number 67 = .ok (.iconst 1, 1) := by decide +kernel
theorem dX4_number_68 : decode cX4_number 68 = .ok (.isub, 1) := by decide +kernel
theorem dX4_number_69 : decode cX4_number 69 = .ok (.istore 4, 2) := by decide +kernel
theorem dX4_number_71 : decode cX4_number 71 = .ok (.iload 4, 2) := by decide +kernel
theorem dX4_number_73 : decode cX4_number 73 = .ok (.iconst 3, 1) := by decide +kernel
theorem dX4_number_74 : decode cX4_number 74 = .ok (.if_icmp .le 5, 3) := by decide +kernel
theorem dX4_number_77 : decode cX4_number 77 = .ok (.iconst (-1), 1) := by decide +kernel
theorem dX4_number_78 : decode cX4_number 78 = .ok (.ireturn, 1) := by decide +kernel
theorem dX4_number_79 : decode cX4_number 79 = .ok (.iload 4, 2) := by decide +kernel
theorem dX4_number_81 : decode cX4_number 81 = .ok (.iconst 1, 1) := by decide +kernel
theorem dX4_number_82 : decode cX4_number 82 = .ok (.if_icmp .ne 9, 3) := by decide +kernel
theorem dX4_number_85 : decode cX4_number 85 = .ok (.ldc2_w 87, 3) := by decide +kernel
theorem dX4_number_88 : decode cX4_number 88 = .ok (.goto 18, 3) := by decide +kernel
theorem dX4_number_91 : decode cX4_number 91 = .ok (.iload 4, 2) := by decide +kernel
theorem dX4_number_93 : decode cX4_number 93 = .ok (.iconst 2, 1) := by decide +kernel
theorem dX4_number_94 : decode cX4_number 94 = .ok (.if_icmp .ne 9, 3) := by decide +kernel
theorem dX4_number_97 : decode cX4_number 97 = .ok (.ldc2_w 89, 3) := by decide +kernel
theorem dX4_number_100 : decode cX4_number 100 = .ok (.goto 6, 3) := by decide +kernel
theorem dX4_number_103 : decode cX4_number 103 = .ok (.ldc2_w 91, 3) := by decide +kernel
theorem dX4_number_106 : decode cX4_number 106 = .ok (.dstore 5, 2) := by decide +kernel
theorem dX4_number_108 : decode cX4_number 108 = .ok (.aload_n 0, 1) := by decide +kernel
theorem dX4_number_109 : decode cX4_number 109 = .ok (.iload_n 2, 1) := by decide +kernel
theorem dX4_number_110 : decode cX4_number 110 = .ok (.iconst 1, 1) := by decide +kernel
theorem dX4_number_111 : decode cX4_number 111 = .ok (.iadd, 1) := by decide +kernel
theorem dX4_number_112 : decode cX4_number 112 = .ok (.iload_n 3, 1) := by decide +kernel
theorem dX4_number_113 : decode cX4_number 113 = .ok (.aload_n 0, 1) := by decide +kernel
theorem dX4_number_114 : decode cX4_number 114 = .ok (.iload_n 1, 1) := by decide +kernel
theorem dX4_number_115 : decode cX4_number 115 = .ok (.iload_n 2, 1) := by decide +kernel
theorem dX4_number_116 : decode cX4_number 116 = .ok (.iconst 0, 1) := by decide +kernel
theorem dX4_number_117 : decode cX4_number 117 = .ok (.invokevirtual 79, 3) := by decide +kernel
theorem dX4_number_120 : decode cX4_number 120 = .ok (.invokevirtual 79, 3) := by decide +kernel
theorem dX4_number_123 : decode cX4_number 123 = .ok (.i2d, 1) := by decide +kernel
theorem dX4_number_124 : decode cX4_number 124 = .ok (.dstore 7, 2) := by decide +kernel
theorem dX4_number_126 : decode cX4_number 126 = .ok (.aload_n 0, 1) := by decide +kernel
theorem dX4_number_127 : decode cX4_number 127 = .ok (.iconst 1, 1) := by decide +kernel
theorem dX4_number_128 : decode cX4_number 128 = .ok (.iload_n 1, 1) := by decide +kernel
theorem dX4_number_129 : decode cX4_number 129 = .ok (.iconst 0, 1) := by decide +kernel
theorem dX4_number_130 : decode cX4_number 130 = .ok (.dload 7, 2) := by decide +kernel
theorem dX4_number_132 : decode cX4_number 132 = .ok (.dload 5, 2) := by decide +kernel
theorem dX4_number_134 : decode cX4_number 134 = .ok (.ddiv, 1) := by decide +kernel
theorem dX4_number_135 : decode cX4_number 135 = .ok (.invokestatic 93, 3) := by decide +kernel
theorem dX4_number_138 : decode cX4_number 138 = .ok (.invokevirtual 53, 3) := by decide +kernel
theorem dX4_number_141 : decode cX4_number 141 = .ok (.iload_n 3, 1) := by decide +kernel
theorem dX4_number_142 : decode cX4_number 142 = .ok (.ireturn, 1) := by decide +kernel
theorem dX4_endOfDigits_0 : decode cX4_endOfDigits 0 = .ok (.iload_n 1, 1) := by decide +kernel
theorem dX4_endOfDigits_1 : decode cX4_endOfDigits 1 = .ok (.istore_n 2, 1) := by decide +kernel
theorem dX4_endOfDigits_2 : decode cX4_endOfDigits 2 = .ok (.iload_n 2, 1) := by decide +kernel
theorem dX4_endOfDigits_3 : decode cX4_endOfDigits 3 = .ok (.aload_n 0, 1) := by decide +kernel
theorem dX4_endOfDigits_4 : decode cX4_endOfDigits 4 = .ok (.getfield 38, 3) := by decide +kernel
theorem dX4_endOfDigits_7 : decode cX4_endOfDigits 7 = .ok (.if_icmp .ge 20, 3) := by decide +kernel
theorem dX4_endOfDigits_10 : decode cX4_endOfDigits 10 = .ok (.aload_n 0, 1) := by decide +kernel
theorem dX4_endOfDigits_11 : decode cX4_endOfDigits 11 = .ok (.iload_n 2, 1) := by decide +kernel
theorem dX4_endOfDigits_12 : decode cX4_endOfDigits 12 = .ok (.invokevirtual 45, 3) := by decide +kernel
theorem dX4_endOfDigits_15 : decode cX4_endOfDigits 15 = .ok (.invokestatic 57, 3) := by decide +kernel
theorem dX4_endOfDigits_18 : decode cX4_endOfDigits 18 = .ok (.ifCond .eq 9, 3) := by decide +kernel
theorem dX4_endOfDigits_21 : decode cX4_endOfDigits 21 = .ok (.iinc 2 1, 3) := by decide +kernel
theorem dX4_endOfDigits_24 : decode cX4_endOfDigits 24 = .ok (.goto (-22), 3) := by decide +kernel
theorem dX4_endOfDigits_27 : decode cX4_endOfDigits 27 = .ok (.iload_n 2, 1) := by decide +kernel
theorem dX4_endOfDigits_28 : decode cX4_endOfDigits 28 = .ok (.ireturn, 1) := by decide +kernel
theorem dX4_digits_0 : decode cX4_digits 0 = .ok (.iload_n 3, 1) := by decide +kernel
theorem dX4_digits_1 : decode cX4_digits 1 = .ok (.istore 4, 2) := by decide +kernel
theorem dX4_digits_3 : decode cX4_digits 3 = .ok (.iload_n 1, 1) := by decide +kernel
theorem dX4_digits_4 : decode cX4_digits 4 = .ok (.istore 5, 2) := by decide +kernel
theorem dX4_digits_6 : decode cX4_digits 6 = .ok (.iload 5, 2) := by decide +kernel
theorem dX4_digits_8 : decode cX4_digits 8 = .ok (.iload_n 2, 1) := by decide +kernel
theorem dX4_digits_9 : decode cX4_digits 9 = .ok (.if_icmp .ge 26, 3) := by decide +kernel
theorem dX4_digits_12 : decode cX4_digits 12 = .ok (.iload 4, 2) := by decide +kernel
theorem dX4_digits_14 : decode cX4_digits 14 = .ok (.bipush 10, 2) := by decide +kernel
theorem dX4_digits_16 : decode cX4_digits 16 = .ok (.imul, 1) := by decide +kernel
theorem dX4_digits_17 : decode cX4_digits 17 = .ok (.aload_n 0, 1) := by decide +kernel
theorem dX4_digits_18 : decode cX4_digits 18 = .ok (.iload 5, 2) := by decide +kernel
theorem dX4_digits_20 : decode cX4_digits 20 = .ok (.invokevirtual 45, 3) := by decide +kernel
theorem dX4_digits_23 : decode cX4_digits 23 = .ok (.bipush 48, 2) := by decide +kernel
theorem dX4_digits_25 : decode cX4_digits 25 = .ok (.isub, 1) := by decide +kernel
theorem dX4_digits_26 : decode cX4_digits 26 = .ok (.iadd, 1) := by decide +kernel
theorem dX4_digits_27 : decode cX4_digits 27 = .ok (.istore 4, 2) := by decide +kernel
theorem dX4_digits_29 : decode cX4_digits 29 = .ok (.iinc 5 1, 3) := by decide +kernel
theorem dX4_digits_32 : decode cX4_digits 32 = .ok (.goto (-26), 3) := by decide +kernel
theorem dX4_digits_35 : decode cX4_digits 35 = .ok (.iload 4, 2) := by decide +kernel
theorem dX4_digits_37 : decode cX4_digits 37 = .ok (.ireturn, 1) := by decide +kernel
theorem dX4_name_0 : decode cX4_name 0 = .ok (.iconst 0, 1) := by decide +kernel
theorem dX4_name_1 : decode cX4_name 1 = .ok (.istore_n 2, 1) := by decide +kernel
theorem dX4_name_2 : decode cX4_name 2 = .ok (.iload_n 1, 1) := by decide +kernel
theorem dX4_name_3 : decode cX4_name 3 = .ok (.istore_n 3, 1) := by decide +kernel
theorem dX4_name_4 : decode cX4_name 4 = .ok (.iload_n 3, 1) := by decide +kernel
theorem dX4_name_5 : decode cX4_name 5 = .ok (.aload_n 0, 1) := by decide +kernel
theorem dX4_name_6 : decode cX4_name 6 = .ok (.getfield 38, 3) := by decide +kernel
theorem dX4_name_9 : decode cX4_name 9 = .ok (.if_icmp .ge 36, 3) := by decide +kernel
theorem dX4_name_12 : decode cX4_name 12 = .ok (.aload_n 0, 1) := by decide +kernel
theorem dX4_name_13 : decode cX4_name 13 = .ok (.iload_n 3, 1) := by decide +kernel
theorem dX4_name_14 : decode cX4_name 14 = .ok (.invokevirtual 45, 3) := by decide +kernel
theorem dX4_name_17 : decode cX4_name 17 = .ok (.invokestatic 64, 3) := by decide +kernel
theorem dX4_name_20 : decode cX4_name 20 = .ok (.ifCond .eq 25, 3) := by decide +kernel
theorem dX4_name_23 : decode cX4_name 23 = .ok (.iload_n 2, 1) := by decide +kernel
theorem dX4_name_24 : decode cX4_name 24 = .ok (.bipush 27, 2) := by decide +kernel
theorem dX4_name_26 : decode cX4_name 26 = .ok (.imul, 1) := by decide +kernel
theorem dX4_name_27 : decode cX4_name 27 = .ok (.aload_n 0, 1) := by decide +kernel
theorem dX4_name_28 : decode cX4_name 28 = .ok (.iload_n 3, 1) := by decide +kernel
theorem dX4_name_29 : decode cX4_name 29 = .ok (.invokevirtual 45, 3) := by decide +kernel
theorem dX4_name_32 : decode cX4_name 32 = .ok (.bipush 97, 2) := by decide +kernel
theorem dX4_name_34 : decode cX4_name 34 = .ok (.isub, 1) := by decide +kernel
theorem dX4_name_35 : decode cX4_name 35 = .ok (.iconst 1, 1) := by decide +kernel
theorem dX4_name_36 : decode cX4_name 36 = .ok (.iadd, 1) := by decide +kernel
theorem dX4_name_37 : decode cX4_name 37 = .ok (.iadd, 1) := by decide +kernel
theorem dX4_name_38 : decode cX4_name 38 = .ok (.istore_n 2, 1) := by decide +kernel
theorem dX4_name_39 : decode cX4_name 39 = .ok (.iinc 3 1, 3) := by decide +kernel
theorem dX4_name_42 : decode cX4_name 42 = .ok (.goto (-38), 3) := by decide +kernel
theorem dX4_name_45 : decode cX4_name 45 = .ok (.iload_n 3, 1) := by decide +kernel
theorem dX4_name_46 : decode cX4_name 46 = .ok (.iload_n 1, 1) := by decide +kernel
theorem dX4_name_47 : decode cX4_name 47 = .ok (.isub, 1) := by decide +kernel
theorem dX4_name_48 : decode cX4_name 48 = .ok (.iconst 5, 1) := by decide +kernel
theorem dX4_name_49 : decode cX4_name 49 = .ok (.if_icmp .le 5, 3) := by decide +kernel
theorem dX4_name_52 : decode cX4_name 52 = .ok (.iconst (-1), 1) := by decide +kernel
theorem dX4_name_53 : decode cX4_name 53 = .ok (.ireturn, 1) := by decide +kernel
theorem dX4_name_54 : decode cX4_name 54 = .ok (.aload_n 0, 1) := by decide +kernel
theorem dX4_name_55 : decode cX4_name 55 = .ok (.iconst 2, 1) := by decide +kernel
theorem dX4_name_56 : decode cX4_name 56 = .ok (.iload_n 1, 1) := by decide +kernel
theorem dX4_name_57 : decode cX4_name 57 = .ok (.iload_n 2, 1) := by decide +kernel
theorem dX4_name_58 : decode cX4_name 58 = .ok (.aconst_null, 1) := by decide +kernel
theorem dX4_name_59 : decode cX4_name 59 = .ok (.invokevirtual 53, 3) := by decide +kernel
theorem dX4_name_62 : decode cX4_name 62 = .ok (.iload_n 3, 1) := by decide +kernel
theorem dX4_name_63 : decode cX4_name 63 = .ok (.ireturn, 1) := by decide +kernel
theorem dX4_quoted_0 : decode cX4_quoted 0 = .ok (.aload_n 0, 1) := by decide +kernel
theorem dX4_quoted_1 : decode cX4_quoted 1 = .ok (.getfield 34, 3) := by decide +kernel
theorem dX4_quoted_4 : decode cX4_quoted 4 = .ok (.iconst 0, 1) := by decide +kernel
theorem dX4_quoted_5 : decode cX4_quoted 5 = .ok (.invokevirtual 97, 3) := by decide +kernel
theorem dX4_quoted_8 : decode cX4_quoted 8 = .ok (.iload_n 1, 1) := by decide +kernel
theorem dX4_quoted_9 : decode cX4_quoted 9 = .ok (.iconst 1, 1) := by decide +kernel
theorem dX4_quoted_10 : decode cX4_quoted 10 = .ok (.iadd, 1) := by decide +kernel
theorem dX4_quoted_11 : decode cX4_quoted 11 = .ok (.istore_n 2, 1) := by decide +kernel
theorem dX4_quoted_12 : decode cX4_quoted 12 = .ok (.iload_n 2, 1) := by decide +kernel
theorem dX4_quoted_13 : decode cX4_quoted 13 = .ok (.aload_n 0, 1) := by decide +kernel
theorem dX4_quoted_14 : decode cX4_quoted 14 = .ok (.getfield 38, 3) := by decide +kernel
theorem dX4_quoted_17 : decode cX4_quoted 17 = .ok (.if_icmp .ge 32, 3) := by decide +kernel
theorem dX4_quoted_20 : decode cX4_quoted 20 = .ok (.aload_n 0, 1) := by decide +kernel
theorem dX4_quoted_21 : decode cX4_quoted 21 = .ok (.iload_n 2, 1) := by decide +kernel
theorem dX4_quoted_22 : decode cX4_quoted 22 = .ok (.invokevirtual 45, 3) := by decide +kernel
theorem dX4_quoted_25 : decode cX4_quoted 25 = .ok (.bipush 39, 2) := by decide +kernel
theorem dX4_quoted_27 : decode cX4_quoted 27 = .ok (.if_icmp .eq 22, 3) := by decide +kernel
theorem dX4_quoted_30 : decode cX4_quoted 30 = .ok (.aload_n 0, 1) := by decide +kernel
theorem dX4_quoted_31 : decode cX4_quoted 31 = .ok (.getfield 34, 3) := by decide +kernel
theorem dX4_quoted_34 : decode cX4_quoted 34 = .ok (.aload_n 0, 1) := by decide +kernel
theorem dX4_quoted_35 : decode cX4_quoted 35 = .ok (.iload_n 2, 1) := by decide +kernel
theorem dX4_quoted_36 : decode cX4_quoted 36 = .ok (.invokevirtual 45, 3) := by decide +kernel
theorem dX4_quoted_39 : decode cX4_quoted 39 = .ok (.invokevirtual 101, 3) := by decide +kernel
theorem dX4_quoted_42 : decode cX4_quoted 42 = .ok (.pop, 1) := by decide +kernel
theorem dX4_quoted_43 : decode cX4_quoted 43 = .ok (.iinc 2 1, 3) := by decide +kernel
theorem dX4_quoted_46 : decode cX4_quoted 46 = .ok (.goto (-34), 3) := by decide +kernel
theorem dX4_quoted_49 : decode cX4_quoted 49 = .ok (.iload_n 2, 1) := by decide +kernel
theorem dX4_quoted_50 : decode cX4_quoted 50 = .ok (.aload_n 0, 1) := by decide +kernel
theorem dX4_quoted_51 : decode cX4_quoted 51 = .ok (.getfield 38, 3) := by decide +kernel
theorem dX4_quoted_54 : decode cX4_quoted 54 = .ok (.if_icmp .ge 15, 3) := by decide +kernel
theorem dX4_quoted_57 : decode cX4_quoted 57 = .ok (.aload_n 0, 1) := by decide +kernel
theorem dX4_quoted_58 : decode cX4_quoted 58 = .ok (.getfield 34, 3) := by decide +kernel
theorem dX4_quoted_61 : decode cX4_quoted 61 = .ok (.invokevirtual 105, 3) := by decide +kernel
theorem dX4_quoted_64 : decode cX4_quoted 64 = .ok (.bipush 8, 2) := by decide +kernel
theorem dX4_quoted_66 : decode cX4_quoted 66 = .ok (.if_icmp .le 5, 3) := by decide +kernel
theorem dX4_quoted_69 : decode cX4_quoted 69 = .ok (.iconst (-1), 1) := by decide +kernel
theorem dX4_quoted_70 : decode cX4_quoted 70 = .ok (.ireturn, 1) := by decide +kernel
theorem dX4_quoted_71 : decode cX4_quoted 71 = .ok (.aload_n 0, 1) := by decide +kernel
theorem dX4_quoted_72 : decode cX4_quoted 72 = .ok (.iconst 1, 1) := by decide +kernel
theorem dX4_quoted_73 : decode cX4_quoted 73 = .ok (.iload_n 1, 1) := by decide +kernel
theorem dX4_quoted_74 : decode cX4_quoted 74 = .ok (.iconst 0, 1) := by decide +kernel
theorem dX4_quoted_75 : decode cX4_quoted 75 = .ok (.aload_n 0, 1) := by decide +kernel
theorem dX4_quoted_76 : decode cX4_quoted 76 = .ok (.getfield 34, 3) := by decide +kernel
theorem dX4_quoted_79 : decode cX4_quoted 79 = .ok (.invokevirtual 108, 3) := by decide +kernel
theorem dX4_quoted_82 : decode cX4_quoted 82 = .ok (.invokestatic 112, 3) := by decide +kernel
theorem dX4_quoted_85 : decode cX4_quoted 85 = .ok (.invokevirtual 53, 3) := by decide +kernel
theorem dX4_quoted_88 : decode cX4_quoted 88 = .ok (.iload_n 2, 1) := by decide +kernel
theorem dX4_quoted_89 : decode cX4_quoted 89 = .ok (.iconst 1, 1) := by decide +kernel
theorem dX4_quoted_90 : decode cX4_quoted 90 = .ok (.iadd, 1) := by decide +kernel
theorem dX4_quoted_91 : decode cX4_quoted 91 = .ok (.ireturn, 1) := by decide +kernel
theorem dX4_sign_0 : decode cX4_sign 0 = .ok (.aload_n 0, 1) := by decide +kernel
theorem dX4_sign_1 : decode cX4_sign 1 = .ok (.iload_n 1, 1) := by decide +kernel
theorem dX4_sign_2 : decode cX4_sign 2 = .ok (.invokevirtual 45, 3) := by decide +kernel
theorem dX4_sign_5 : decode cX4_sign 5 = .ok (.sipush 256, 3) := by decide +kernel
theorem dX4_sign_8 : decode cX4_sign 8 = .ok (.imul, 1) := by decide +kernel
theorem dX4_sign_9 : decode cX4_sign 9 = .ok (.aload_n 0, 1) := by decide +kernel
theorem dX4_sign_10 : decode cX4_sign 10 = .ok (.iload_n 1, 1) := by decide +kernel
theorem dX4_sign_11 : decode cX4_sign 11 = .ok (.iconst 1, 1) := by decide +kernel
theorem dX4_sign_12 : decode cX4_sign 12 = .ok (.iadd, 1) := by decide +kernel
theorem dX4_sign_13 : decode cX4_sign 13 = .ok (.invokevirtual 45, 3) := by decide +kernel
theorem dX4_sign_16 : decode cX4_sign 16 = .ok (.iadd, 1) := by decide +kernel
theorem dX4_sign_17 : decode cX4_sign 17 = .ok (.istore_n 2, 1) := by decide +kernel
theorem dX4_sign_18 : decode cX4_sign 18 = .ok (.iload_n 2, 1) := by decide +kernel
theorem dX4_sign_19 : decode cX4_sign 19 = .ok (.invokestatic 116, 3) := by decide +kernel
theorem dX4_sign_22 : decode cX4_sign 22 = .ok (.ifCond .eq 15, 3) := by decide +kernel
theorem dX4_sign_25 : decode cX4_sign 25 = .ok (.aload_n 0, 1) := by decide +kernel
theorem dX4_sign_26 : decode cX4_sign 26 = .ok (.iload_n 2, 1) := by decide +kernel
theorem dX4_sign_27 : decode cX4_sign 27 = .ok (.iload_n 1, 1) := by decide +kernel
theorem dX4_sign_28 : decode cX4_sign 28 = .ok (.iconst 0, 1) := by decide +kernel
theorem dX4_sign_29 : decode cX4_sign 29 = .ok (.aconst_null, 1) := by decide +kernel
theorem dX4_sign_30 : decode cX4_sign 30 = .ok (.invokevirtual 53, 3) := by decide +kernel
theorem dX4_sign_33 : decode cX4_sign 33 = .ok (.iload_n 1, 1) := by decide +kernel
theorem dX4_sign_34 : decode cX4_sign 34 = .ok (.iconst 2, 1) := by decide +kernel
theorem dX4_sign_35 : decode cX4_sign 35 = .ok (.iadd, 1) := by decide +kernel
theorem dX4_sign_36 : decode cX4_sign 36 = .ok (.ireturn, 1) := by decide +kernel
theorem dX4_sign_37 : decode cX4_sign 37 = .ok (.aload_n 0, 1) := by decide +kernel
theorem dX4_sign_38 : decode cX4_sign 38 = .ok (.iload_n 1, 1) := by decide +kernel
theorem dX4_sign_39 : decode cX4_sign 39 = .ok (.invokevirtual 45, 3) := by decide +kernel
theorem dX4_sign_42 : decode cX4_sign 42 = .ok (.invokestatic 120, 3) := by decide +kernel
theorem dX4_sign_45 : decode cX4_sign 45 = .ok (.ifCond .eq 19, 3) := by decide +kernel
theorem dX4_sign_48 : decode cX4_sign 48 = .ok (.aload_n 0, 1) := by decide +kernel
theorem dX4_sign_49 : decode cX4_sign 49 = .ok (.aload_n 0, 1) := by decide +kernel
theorem dX4_sign_50 : decode cX4_sign 50 = .ok (.iload_n 1, 1) := by decide +kernel
theorem dX4_sign_51 : decode cX4_sign 51 = .ok (.invokevirtual 45, 3) := by decide +kernel
theorem dX4_sign_54 : decode cX4_sign 54 = .ok (.iload_n 1, 1) := by decide +kernel
theorem dX4_sign_55 : decode cX4_sign 55 = .ok (.iconst 0, 1) := by decide +kernel
theorem dX4_sign_56 : decode cX4_sign 56 = .ok (.aconst_null, 1) := by decide +kernel
theorem dX4_sign_57 : decode cX4_sign 57 = .ok (.invokevirtual 53, 3) := by decide +kernel
theorem dX4_sign_60 : decode cX4_sign 60 = .ok (.iload_n 1, 1) := by decide +kernel
theorem dX4_sign_61 : decode cX4_sign 61 = .ok (.iconst 1, 1) := by decide +kernel
theorem dX4_sign_62 : decode cX4_sign 62 = .ok (.iadd, 1) := by decide +kernel
theorem dX4_sign_63 : decode cX4_sign 63 = .ok (.ireturn, 1) := by decide +kernel
theorem dX4_sign_64 : decode cX4_sign 64 = .ok (.iconst (-1), 1) := by decide +kernel
theorem dX4_sign_65 : decode cX4_sign 65 = .ok (.ireturn, 1) := by decide +kernel
theorem dX4_add_0 : decode cX4_add 0 = .ok (.aload_n 0, 1) := by decide +kernel
theorem dX4_add_1 : decode cX4_add 1 = .ok (.getfield 42, 3) := by decide +kernel
theorem dX4_add_4 : decode cX4_add 4 = .ok (.aload_n 0, 1) := by decide +kernel
theorem dX4_add_5 : decode cX4_add 5 = .ok (.getfield 15, 3) := by decide +kernel
theorem dX4_add_8 : decode cX4_add 8 = .ok (.arraylength, 1) := by decide +kernel
theorem dX4_add_9 : decode cX4_add 9 = .ok (.if_icmp .ge 90, 3) := by decide +kernel
theorem dX4_add_12 : decode cX4_add 12 = .ok (.aload_n 0, 1) := by decide +kernel
theorem dX4_add_13 : decode cX4_add 13 = .ok (.getfield 42, 3) := by decide +kernel
theorem dX4_add_16 : decode cX4_add 16 = .ok (.aload_n 0, 1) := by decide +kernel
theorem dX4_add_17 : decode cX4_add 17 = .ok (.getfield 19, 3) := by decide +kernel
theorem dX4_add_20 : decode cX4_add 20 = .ok (.arraylength, 1) := by decide +kernel
theorem dX4_add_21 : decode cX4_add 21 = .ok (.if_icmp .ge 78, 3) := by decide +kernel
theorem dX4_add_24 : decode cX4_add 24 = .ok (.aload_n 0, 1) := by decide +kernel
theorem dX4_add_25 : decode cX4_add 25 = .ok (.getfield 42, 3) := by decide +kernel
theorem dX4_add_28 : decode cX4_add 28 = .ok (.aload_n 0, 1) := by decide +kernel
theorem dX4_add_29 : decode cX4_add 29 = .ok (.getfield 22, 3) := by decide +kernel
theorem dX4_add_32 : decode cX4_add 32 = .ok (.arraylength, 1) := by decide +kernel
